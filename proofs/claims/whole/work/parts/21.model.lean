set_option maxHeartbeats 4000000 in
set_option maxRecDepth 100000 in
theorem c6_why (l : Launch) (g : gG) (t_p : Nat) (t_length : Int32) (t_p_text : Nat) (t_text : (Nat → Int32)) (t_cavities : Int32) (t_p_volume : Nat) (t_volume : (Nat → Int32)) (t_p_freeze : Nat) (t_freeze : (Nat → Int32)) (t_cores : Int32) (t_p_earlier : Nat) (t_earlier : (Nat → Int32)) (t_stages : Int32) (t_p_place : Nat) (t_place : (Nat → Int32)) (t_p_now : Nat) (t_now : (Nat → Int32)) (t_p_was : Nat) (t_was : (Nat → Int32)) (t_changes : Int32) (t_p_one : Nat) (t_one : (Nat → Int32)) (t_readCavities : Int32) (t_p_readCavity : Nat) (t_readCavity : (Nat → Int32)) (t_readCores : Int32) (t_p_readCore : Nat) (t_readCore : (Nat → Int32)) (t_readStages : Int32) (t_p_readStage : Nat) (t_readStage : (Nat → Int32)) (t_p_readRule : Nat) (t_readRule : (Nat → Int32)) (t_value : Int32) (t_ends : Int32) (t_screw : Int32) (l1 : Int32) (l2 : Int32) (sz : Nat) (N : Nat) (res : (Int32)) (hf : f6_why N l1 l2 t_now t_screw = some res) : Met l yX6_why wsX6_why ({ frames := 0, cells := 0, slots := 0, locals := 0 }) (pP g [.ref t_p, .int l1, .int l2] sz (fl [wk6 g t_p t_length t_p_text t_text t_cavities t_p_volume t_volume t_p_freeze t_freeze t_cores t_p_earlier t_earlier t_stages t_p_place t_place t_p_now t_now t_p_was t_was t_changes t_p_one t_one t_readCavities t_p_readCavity t_readCavity t_readCores t_p_readCore t_readCore t_readStages t_p_readStage t_readStage t_p_readRule t_readRule t_value t_ends t_screw])) (pQi g (fun r => r = res) (fl [wk6 g t_p t_length t_p_text t_text t_cavities t_p_volume t_volume t_p_freeze t_freeze t_cores t_p_earlier t_earlier t_stages t_p_place t_place t_p_now t_now t_p_was t_was t_changes t_p_one t_one t_readCavities t_p_readCavity t_readCavity t_readCores t_p_readCore t_readCore t_readStages t_p_readStage t_readStage t_p_readRule t_readRule t_value t_ends t_screw]) (va_A (fl [wk6 g t_p t_length t_p_text t_text t_cavities t_p_volume t_volume t_p_freeze t_freeze t_cores t_p_earlier t_earlier t_stages t_p_place t_place t_p_now t_now t_p_was t_was t_changes t_p_one t_one t_readCavities t_p_readCavity t_readCavity t_readCores t_p_readCore t_readCore t_readStages t_p_readStage t_readStage t_p_readRule t_readRule t_value t_ends t_screw]) sz)) 0 0 (va_A (fl [wk6 g t_p t_length t_p_text t_text t_cavities t_p_volume t_volume t_p_freeze t_freeze t_cores t_p_earlier t_earlier t_stages t_p_place t_place t_p_now t_now t_p_was t_was t_changes t_p_one t_one t_readCavities t_p_readCavity t_readCavity t_readCores t_p_readCore t_readCore t_readStages t_p_readStage t_readStage t_p_readRule t_readRule t_value t_ends t_screw]) sz) := by
  refine Met.ofW (cc := cX6_why) (maxL := 3) (ret := (some .int)) (by decide) rfl ?_
  intro p e s m args below meth c s₁ B hml hv
  obtain ⟨rfl, hsz, hP, hK, hD0, hG⟩ := hv
  have hx := B.exec
  have hb := B.bytes
  have hr := B.returns
  have hts := atoms_spec (ws := wsX6_why) B.pre
  have hown : s.vm.findClass RX6 = some m.cls := findClass_of_methodNamed B.named
  have hlocks := B.notSynchronized
  subst hsz
  have hD := hD0.self (sz := s.heap.size)
  generalize hAe : va_A (fl [wk6 g t_p t_length t_p_text t_text t_cavities t_p_volume t_volume t_p_freeze t_freeze t_cores t_p_earlier t_earlier t_stages t_p_place t_place t_p_now t_now t_p_was t_was t_changes t_p_one t_one t_readCavities t_p_readCavity t_readCavity t_readCores t_p_readCore t_readCore t_readStages t_p_readStage t_readStage t_p_readRule t_readRule t_value t_ends t_screw]) s.heap.size = A at hD hG ⊢
  have hA : ∀ q : Nat, s.heap.size ≤ q → A q := fun q h => by rw [← hAe]; exact Or.inr h
  have hS : va_S A s.heap s.heap [] := va_S.rf
  have hin6 : ∀ w ∈ u_ws RX6 TX6 23, w ∈ wsX6_why := by decide +kernel
  have L1 := hts (Cond.fieldLink RX6 136 "MouldShotsModel" "screw" "I") (by decide +kernel)
  have L2 := hts (Cond.fieldLink RX6 25 "MouldShotsModel" "now" "[I") (by decide +kernel)
  have hl := lv_entry ([.ref t_p, .int l1, .int l2]) (n := 3) (Nat.le_of_ble_eq_true rfl)
  rw [lg_entry_eq]
  generalize (lg_sl ([.ref t_p, .int l1, .int l2]) ++ List.replicate (3 - (lg_sl ([.ref t_p, .int l1, .int l2])).length) Slot.unset).toArray = ls at hl ⊢
  replace hl : lv_has ls 3 [(0, .ref t_p), (1, .int l1), (2, .int l2)] := hl
  rw [f6_why] at hf
  have hgo : ∀ (H : Heap) (locs : List Loc), H = s.heap → locs = [] → va_P g.1 vwCl (fl [wk6 g t_p t_length t_p_text t_text t_cavities t_p_volume t_volume t_p_freeze t_freeze t_cores t_p_earlier t_earlier t_stages t_p_place t_place t_p_now t_now t_p_was t_was t_changes t_p_one t_one t_readCavities t_p_readCavity t_readCavity t_readCores t_p_readCore t_readCore t_readStages t_p_readStage t_readStage t_p_readRule t_readRule t_value t_ends t_screw]) H → va_S A s.heap H locs → W p l e ({ frames := 0, cells := 0, slots := 0, locals := 0 }) s m ([.ref t_p, .int l1, .int l2] : List Value).toArray below meth c H locs 0 0 (MQ below (pQi g (fun r => r = res) (fl [wk6 g t_p t_length t_p_text t_text t_cavities t_p_volume t_volume t_p_freeze t_freeze t_cores t_p_earlier t_earlier t_stages t_p_place t_place t_p_now t_now t_p_was t_was t_changes t_p_one t_one t_readCavities t_p_readCavity t_readCavity t_readCores t_p_readCore t_readCore t_readStages t_p_readStage t_readStage t_p_readRule t_readRule t_value t_ends t_screw]) A) ([.ref t_p, .int l1, .int l2] : List Value).toArray s 0 0 A) (F0 m 0 ls []) := by
    intro H locs hH hL hP hS
    refine lv_aload_n hx hb dX6_why_0 rfl (lv_at hl 0 rfl) ?_
    refine va_get (D := g.1) (ci := 6) (v := .int t_screw) (C := RX6) (T := TX6) (N := 23) hx hb hts hin6 hown hK.1 hP 0 rfl rfl 22 (by decide) L1 (fun _ h9 => h9) rfl dX6_why_1 ?_
    refine lv_aload_n hx hb dX6_why_4 rfl (lv_at hl 0 rfl) ?_
    refine va_get (D := g.1) (ci := 6) (v := .ref t_p_now) (C := RX6) (T := TX6) (N := 23) hx hb hts hin6 hown hK.1 hP 0 rfl rfl 9 (by decide) L2 (fun _ h9 => h9) rfl dX6_why_5 ?_
    refine lv_sipush (v := 1149) hx hb dX6_why_8 (by decide) ?_
    obtain ⟨h_1, hf⟩ := if_some hf
    refine va_iald hx hb hK.1 hP 6 0 rfl rfl (ok_in h_1) dX6_why_11 ?_
    refine lv_icmp_lt (tgt := 19) hx hb dX6_why_12 (by decide) (fun c_2 => ?_) (fun c_2 => ?_)
    · replace hf := (if_pos c_2).symm.trans hf
      refine lv_iload_n hx hb dX6_why_19 rfl (lv_at hl 2 rfl) ?_
      refine lv_aload_n hx hb dX6_why_20 rfl (lv_at hl 0 rfl) ?_
      refine va_get (D := g.1) (ci := 6) (v := .ref t_p_now) (C := RX6) (T := TX6) (N := 23) hx hb hts hin6 hown hK.1 hP 0 rfl rfl 9 (by decide) L2 (fun _ h9 => h9) rfl dX6_why_21 ?_
      refine lv_sipush (v := 1150) hx hb dX6_why_24 (by decide) ?_
      obtain ⟨h_3, hf⟩ := if_some hf
      refine va_iald hx hb hK.1 hP 6 0 rfl rfl (ok_in h_3) dX6_why_27 ?_
      refine lv_icmp_lt (tgt := 35) hx hb dX6_why_28 (by decide) (fun c_4 => ?_) (fun c_4 => ?_)
      · replace hf := (if_pos c_4).symm.trans hf
        refine lv_iload_n hx hb dX6_why_35 rfl (lv_at hl 1 rfl) ?_
        refine lv_aload_n hx hb dX6_why_36 rfl (lv_at hl 0 rfl) ?_
        refine va_get (D := g.1) (ci := 6) (v := .ref t_p_now) (C := RX6) (T := TX6) (N := 23) hx hb hts hin6 hown hK.1 hP 0 rfl rfl 9 (by decide) L2 (fun _ h9 => h9) rfl dX6_why_37 ?_
        refine lv_sipush (v := 1151) hx hb dX6_why_40 (by decide) ?_
        obtain ⟨h_5, hf⟩ := if_some hf
        refine va_iald hx hb hK.1 hP 6 0 rfl rfl (ok_in h_5) dX6_why_43 ?_
        refine lv_icmp_lt (tgt := 51) hx hb dX6_why_44 (by decide) (fun c_6 => ?_) (fun c_6 => ?_)
        · replace hf := (if_pos c_6).symm.trans hf
          refine lv_bipush (v := (-4)) hx hb dX6_why_51 (by decide) ?_
          replace hf := Option.some.inj hf
          subst hf
          exact W.iret (v := (-4)) hx hb hr (fun t ht hW => ⟨⟨_, (), rfl, rfl, by show va_P g.1 vwCl _ t.heap; rw [ht]; exact hP⟩, hS.F ht⟩) hS.2.2 dX6_why_53 hlocks
        · replace hf := (if_neg c_6).symm.trans hf
          refine lv_iconst (v := 2) hx hb dX6_why_47 (by decide) ?_
          refine lv_goto (tgt := 53) hx hb dX6_why_48 (by decide) ?_
          replace hf := Option.some.inj hf
          subst hf
          exact W.iret (v := 2) hx hb hr (fun t ht hW => ⟨⟨_, (), rfl, rfl, by show va_P g.1 vwCl _ t.heap; rw [ht]; exact hP⟩, hS.F ht⟩) hS.2.2 dX6_why_53 hlocks
      · replace hf := (if_neg c_4).symm.trans hf
        refine lv_iconst (v := 1) hx hb dX6_why_31 (by decide) ?_
        refine lv_goto (tgt := 53) hx hb dX6_why_32 (by decide) ?_
        replace hf := Option.some.inj hf
        subst hf
        exact W.iret (v := 1) hx hb hr (fun t ht hW => ⟨⟨_, (), rfl, rfl, by show va_P g.1 vwCl _ t.heap; rw [ht]; exact hP⟩, hS.F ht⟩) hS.2.2 dX6_why_53 hlocks
    · replace hf := (if_neg c_2).symm.trans hf
      refine lv_iconst (v := 0) hx hb dX6_why_15 (by decide) ?_
      refine lv_goto (tgt := 53) hx hb dX6_why_16 (by decide) ?_
      replace hf := Option.some.inj hf
      subst hf
      exact W.iret (v := 0) hx hb hr (fun t ht hW => ⟨⟨_, (), rfl, rfl, by show va_P g.1 vwCl _ t.heap; rw [ht]; exact hP⟩, hS.F ht⟩) hS.2.2 dX6_why_53 hlocks
  exact hgo s.heap [] rfl rfl hP hS

set_option maxHeartbeats 4000000 in
set_option maxRecDepth 100000 in
theorem c6_holds (l : Launch) (g : gG) (t_p : Nat) (t_length : Int32) (t_p_text : Nat) (t_text : (Nat → Int32)) (t_cavities : Int32) (t_p_volume : Nat) (t_volume : (Nat → Int32)) (t_p_freeze : Nat) (t_freeze : (Nat → Int32)) (t_cores : Int32) (t_p_earlier : Nat) (t_earlier : (Nat → Int32)) (t_stages : Int32) (t_p_place : Nat) (t_place : (Nat → Int32)) (t_p_now : Nat) (t_now : (Nat → Int32)) (t_p_was : Nat) (t_was : (Nat → Int32)) (t_changes : Int32) (t_p_one : Nat) (t_one : (Nat → Int32)) (t_readCavities : Int32) (t_p_readCavity : Nat) (t_readCavity : (Nat → Int32)) (t_readCores : Int32) (t_p_readCore : Nat) (t_readCore : (Nat → Int32)) (t_readStages : Int32) (t_p_readStage : Nat) (t_readStage : (Nat → Int32)) (t_p_readRule : Nat) (t_readRule : (Nat → Int32)) (t_value : Int32) (t_ends : Int32) (t_screw : Int32) (l1 : Int32) (sz : Nat) (N : Nat) (res : ((Nat → Int32) × Int32)) (hf : f6_holds N l1 t_cavities t_volume t_freeze t_now t_one t_screw = some res) : Met l yX6_holds wsX6_holds ({ frames := 1, cells := 0, slots := 0, locals := 22 }) (pP g [.ref t_p, .int l1] sz (fl [wk6 g t_p t_length t_p_text t_text t_cavities t_p_volume t_volume t_p_freeze t_freeze t_cores t_p_earlier t_earlier t_stages t_p_place t_place t_p_now t_now t_p_was t_was t_changes t_p_one t_one t_readCavities t_p_readCavity t_readCavity t_readCores t_p_readCore t_readCore t_readStages t_p_readStage t_readStage t_p_readRule t_readRule t_value t_ends t_screw])) (pQv g (fl [wk6 g t_p t_length t_p_text t_text t_cavities t_p_volume t_volume t_p_freeze t_freeze t_cores t_p_earlier t_earlier t_stages t_p_place t_place t_p_now t_now t_p_was t_was t_changes t_p_one res.1 t_readCavities t_p_readCavity t_readCavity t_readCores t_p_readCore t_readCore t_readStages t_p_readStage t_readStage t_p_readRule t_readRule t_value t_ends res.2]) (va_A (fl [wk6 g t_p t_length t_p_text t_text t_cavities t_p_volume t_volume t_p_freeze t_freeze t_cores t_p_earlier t_earlier t_stages t_p_place t_place t_p_now t_now t_p_was t_was t_changes t_p_one t_one t_readCavities t_p_readCavity t_readCavity t_readCores t_p_readCore t_readCore t_readStages t_p_readStage t_readStage t_p_readRule t_readRule t_value t_ends t_screw]) sz)) 0 0 (va_A (fl [wk6 g t_p t_length t_p_text t_text t_cavities t_p_volume t_volume t_p_freeze t_freeze t_cores t_p_earlier t_earlier t_stages t_p_place t_place t_p_now t_now t_p_was t_was t_changes t_p_one t_one t_readCavities t_p_readCavity t_readCavity t_readCores t_p_readCore t_readCore t_readStages t_p_readStage t_readStage t_p_readRule t_readRule t_value t_ends t_screw]) sz) := by
  refine Met.ofW (cc := cX6_holds) (maxL := 4) (ret := none) (by decide) rfl ?_
  intro p e s m args below meth c s₁ B hml hv
  obtain ⟨rfl, hsz, hP, hK, hD0, hG⟩ := hv
  have hx := B.exec
  have hb := B.bytes
  have hr := B.returns
  have hts := atoms_spec (ws := wsX6_holds) B.pre
  have hown : s.vm.findClass RX6 = some m.cls := findClass_of_methodNamed B.named
  have hlocks := B.notSynchronized
  subst hsz
  have hD := hD0.self (sz := s.heap.size)
  generalize hAe : va_A (fl [wk6 g t_p t_length t_p_text t_text t_cavities t_p_volume t_volume t_p_freeze t_freeze t_cores t_p_earlier t_earlier t_stages t_p_place t_place t_p_now t_now t_p_was t_was t_changes t_p_one t_one t_readCavities t_p_readCavity t_readCavity t_readCores t_p_readCore t_readCore t_readStages t_p_readStage t_readStage t_p_readRule t_readRule t_value t_ends t_screw]) s.heap.size = A at hD hG ⊢
  have hA : ∀ q : Nat, s.heap.size ≤ q → A q := fun q h => by rw [← hAe]; exact Or.inr h
  have hS : va_S A s.heap s.heap [] := va_S.rf
  have hin6 : ∀ w ∈ u_ws RX6 TX6 23, w ∈ wsX6_holds := by decide +kernel
  have L1 := hts (Cond.fieldLink RX6 70 "MouldShotsModel" "cavities" "I") (by decide +kernel)
  have L2 := hts (Cond.fieldLink RX6 31 "MouldShotsModel" "one" "[I") (by decide +kernel)
  have L3 := hts (Cond.fieldLink RX6 16 "MouldShotsModel" "freeze" "[I") (by decide +kernel)
  have L4 := hts (Cond.fieldLink RX6 25 "MouldShotsModel" "now" "[I") (by decide +kernel)
  have L5 := hts (Cond.fieldLink RX6 136 "MouldShotsModel" "screw" "I") (by decide +kernel)
  have w_49 : ∀ (k_2 : Int32 → Int32 → Int32 → (Nat → Int32) → (Nat → Int32) → (Nat → Int32) → (Nat → Int32) → Int32 → Option ((Nat → Int32) × Int32)), (∀ (v1 : Int32) (v2 : Int32) (t_one : (Nat → Int32)) (t_screw : Int32) (H : Heap) (locs : List Loc) (ls : Array Slot), k_2 v1 v2 t_cavities t_volume t_freeze t_now t_one t_screw = some res → va_P g.1 vwCl (fl [wk6 g t_p t_length t_p_text t_text t_cavities t_p_volume t_volume t_p_freeze t_freeze t_cores t_p_earlier t_earlier t_stages t_p_place t_place t_p_now t_now t_p_was t_was t_changes t_p_one t_one t_readCavities t_p_readCavity t_readCavity t_readCores t_p_readCore t_readCore t_readStages t_p_readStage t_readStage t_p_readRule t_readRule t_value t_ends t_screw]) H → va_D A (fl [wk6 g t_p t_length t_p_text t_text t_cavities t_p_volume t_volume t_p_freeze t_freeze t_cores t_p_earlier t_earlier t_stages t_p_place t_place t_p_now t_now t_p_was t_was t_changes t_p_one t_one t_readCavities t_p_readCavity t_readCavity t_readCores t_p_readCore t_readCore t_readStages t_p_readStage t_readStage t_p_readRule t_readRule t_value t_ends t_screw]) → va_S A s.heap H locs → lv_has ls 4 [(0, .ref t_p), (1, .int v1), (2, .int v2)] → W p l e ({ frames := 1, cells := 0, slots := 0, locals := 22 }) s m ([.ref t_p, .int l1] : List Value).toArray below meth c H locs 0 0 (MQ below (pQv g (fl [wk6 g t_p t_length t_p_text t_text t_cavities t_p_volume t_volume t_p_freeze t_freeze t_cores t_p_earlier t_earlier t_stages t_p_place t_place t_p_now t_now t_p_was t_was t_changes t_p_one res.1 t_readCavities t_p_readCavity t_readCavity t_readCores t_p_readCore t_readCore t_readStages t_p_readStage t_readStage t_p_readRule t_readRule t_value t_ends res.2]) A) ([.ref t_p, .int l1] : List Value).toArray s 0 0 A) (F0 m 2 ls [])) → ∀ (v1 : Int32) (v2 : Int32) (s0 : Int32) (t_one : (Nat → Int32)) (t_screw : Int32) (H : Heap) (locs : List Loc) (ls : Array Slot), f6_holds_49 k_2 N v1 v2 s0 t_cavities t_volume t_freeze t_now t_one t_screw = some res → va_P g.1 vwCl (fl [wk6 g t_p t_length t_p_text t_text t_cavities t_p_volume t_volume t_p_freeze t_freeze t_cores t_p_earlier t_earlier t_stages t_p_place t_place t_p_now t_now t_p_was t_was t_changes t_p_one t_one t_readCavities t_p_readCavity t_readCavity t_readCores t_p_readCore t_readCore t_readStages t_p_readStage t_readStage t_p_readRule t_readRule t_value t_ends t_screw]) H → va_D A (fl [wk6 g t_p t_length t_p_text t_text t_cavities t_p_volume t_volume t_p_freeze t_freeze t_cores t_p_earlier t_earlier t_stages t_p_place t_place t_p_now t_now t_p_was t_was t_changes t_p_one t_one t_readCavities t_p_readCavity t_readCavity t_readCores t_p_readCore t_readCore t_readStages t_p_readStage t_readStage t_p_readRule t_readRule t_value t_ends t_screw]) → va_S A s.heap H locs → lv_has ls 4 [(0, .ref t_p), (1, .int v1), (2, .int v2)] → W p l e ({ frames := 1, cells := 0, slots := 0, locals := 22 }) s m ([.ref t_p, .int l1] : List Value).toArray below meth c H locs 0 0 (MQ below (pQv g (fl [wk6 g t_p t_length t_p_text t_text t_cavities t_p_volume t_volume t_p_freeze t_freeze t_cores t_p_earlier t_earlier t_stages t_p_place t_place t_p_now t_now t_p_was t_was t_changes t_p_one res.1 t_readCavities t_p_readCavity t_readCavity t_readCores t_p_readCore t_readCore t_readStages t_p_readStage t_readStage t_p_readRule t_readRule t_value t_ends res.2]) A) ([.ref t_p, .int l1] : List Value).toArray s 0 0 A) (F0 m 49 ls [.int s0]) := by
    intro k_2 hk_2 v1 v2 s0 t_one t_screw H locs ls hf hP hD hS hl
    rw [f6_holds_49] at hf
    refine lv_istore_n (lv' := [(3, .int s0), (0, .ref t_p), (1, .int v1), (2, .int v2)]) hx hb dX6_holds_49 rfl hl (by decide) rfl (fun ls hl => ?_)
    refine lv_iload_n hx hb dX6_holds_50 rfl (lv_at hl 0 rfl) ?_
    refine lv_if_ne (tgt := 110) hx hb dX6_holds_51 (by decide) (fun c_7 => ?_) (fun c_7 => ?_)
    · replace hf := (if_neg c_7).symm.trans hf
      refine lv_iinc (v := v2 + 1) (lv' := [(2, .int (v2 + 1)), (3, .int s0), (0, .ref t_p), (1, .int v1)]) hx hb dX6_holds_110 hl (k := 3) rfl rfl (by decide) rfl (fun ls hl => ?_)
      refine lv_goto (tgt := 2) hx hb dX6_holds_113 (by decide) ?_
      exact hk_2 v1 (v2 + 1) t_one t_screw H locs ls hf hP hD hS (lv_sub hl [2, 3, 0] rfl)
    · replace hf := (if_pos c_7).symm.trans hf
      refine lv_aload_n hx hb dX6_holds_54 rfl (lv_at hl 1 rfl) ?_
      refine va_get (D := g.1) (ci := 6) (v := .ref t_p_now) (C := RX6) (T := TX6) (N := 23) hx hb hts hin6 hown hK.1 hP 0 rfl rfl 9 (by decide) L4 (fun _ h9 => h9) rfl dX6_holds_55 ?_
      refine lv_sipush (v := 1139) hx hb dX6_holds_58 (by decide) ?_
      refine lv_iload_n hx hb dX6_holds_61 rfl (lv_at hl 3 rfl) ?_
      refine lv_iadd hx hb dX6_holds_62 ?_
      obtain ⟨h_8, hf⟩ := if_some hf
      refine va_iald hx hb hK.1 hP 6 0 rfl rfl (ok_in h_8) dX6_holds_63 ?_
      refine lv_aload_n hx hb dX6_holds_64 rfl (lv_at hl 1 rfl) ?_
      refine va_get (D := g.1) (ci := 6) (v := .ref t_p_one) (C := RX6) (T := TX6) (N := 23) hx hb hts hin6 hown hK.1 hP 0 rfl rfl 12 (by decide) L2 (fun _ h9 => h9) rfl dX6_holds_65 ?_
      refine lv_bipush (v := 66) hx hb dX6_holds_68 (by decide) ?_
      refine lv_iload_n hx hb dX6_holds_70 rfl (lv_at hl 3 rfl) ?_
      refine lv_iadd hx hb dX6_holds_71 ?_
      obtain ⟨h_9, hf⟩ := if_some hf
      refine va_iald hx hb hK.1 hP 8 0 rfl rfl (ok_in h_9) dX6_holds_72 ?_
      refine lv_imul hx hb dX6_holds_73 ?_
      refine lv_aload_n hx hb dX6_holds_74 rfl (lv_at hl 1 rfl) ?_
      refine va_get (D := g.1) (ci := 6) (v := .ref t_p_now) (C := RX6) (T := TX6) (N := 23) hx hb hts hin6 hown hK.1 hP 0 rfl rfl 9 (by decide) L4 (fun _ h9 => h9) rfl dX6_holds_75 ?_
      refine lv_sipush (v := 1152) hx hb dX6_holds_78 (by decide) ?_
      obtain ⟨h_10, hf⟩ := if_some hf
      refine va_iald hx hb hK.1 hP 6 0 rfl rfl (ok_in h_10) dX6_holds_81 ?_
      refine lv_icmp_ge (tgt := 110) hx hb dX6_holds_82 (by decide) (fun c_11 => ?_) (fun c_11 => ?_)
      · replace hf := (if_pos c_11).symm.trans hf
        refine lv_iinc (v := v2 + 1) (lv' := [(2, .int (v2 + 1)), (3, .int s0), (0, .ref t_p), (1, .int v1)]) hx hb dX6_holds_110 hl (k := 3) rfl rfl (by decide) rfl (fun ls hl => ?_)
        refine lv_goto (tgt := 2) hx hb dX6_holds_113 (by decide) ?_
        exact hk_2 v1 (v2 + 1) t_one t_screw H locs ls hf hP hD hS (lv_sub hl [2, 3, 0] rfl)
      · replace hf := (if_neg c_11).symm.trans hf
        refine lv_aload_n hx hb dX6_holds_85 rfl (lv_at hl 1 rfl) ?_
        refine va_get (D := g.1) (ci := 6) (v := .int t_screw) (C := RX6) (T := TX6) (N := 23) hx hb hts hin6 hown hK.1 hP 0 rfl rfl 22 (by decide) L5 (fun _ h9 => h9) rfl dX6_holds_86 ?_
        refine lv_bipush (v := 99) hx hb dX6_holds_89 (by decide) ?_
        refine lv_icmp_ge (tgt := 110) hx hb dX6_holds_91 (by decide) (fun c_12 => ?_) (fun c_12 => ?_)
        · replace hf := (if_pos c_12).symm.trans hf
          refine lv_iinc (v := v2 + 1) (lv' := [(2, .int (v2 + 1)), (3, .int s0), (0, .ref t_p), (1, .int v1)]) hx hb dX6_holds_110 hl (k := 3) rfl rfl (by decide) rfl (fun ls hl => ?_)
          refine lv_goto (tgt := 2) hx hb dX6_holds_113 (by decide) ?_
          exact hk_2 v1 (v2 + 1) t_one t_screw H locs ls hf hP hD hS (lv_sub hl [2, 3, 0] rfl)
        · replace hf := (if_neg c_12).symm.trans hf
          refine lv_aload_n hx hb dX6_holds_94 rfl (lv_at hl 1 rfl) ?_
          refine lv_iload_n hx hb dX6_holds_95 rfl (lv_at hl 3 rfl) ?_
          refine lv_iload_n hx hb dX6_holds_96 rfl (lv_at hl 2 rfl) ?_
          obtain ⟨q_13, hq_13, hf⟩ := bd_some hf
          refine bft_v (bn := [wk6 g t_p t_length t_p_text t_text t_cavities t_p_volume t_volume t_p_freeze t_freeze t_cores t_p_earlier t_earlier t_stages t_p_place t_place t_p_now t_now t_p_was t_was t_changes t_p_one q_13 t_readCavities t_p_readCavity t_readCavity t_readCores t_p_readCore t_readCore t_readStages t_p_readStage t_readStage t_p_readRule t_readRule t_value t_ends t_screw]) (L := [[t_p, t_p_text, t_p_volume, t_p_freeze, t_p_earlier, t_p_place, t_p_now, t_p_was, t_p_one, t_p_readCavity, t_p_readCore, t_p_readStage, t_p_readRule]]) (va_runV (As := [.int v2, .int v1]) (rest := []) ⟨hx, hb, hml, hown, hts⟩ (c6_comes l g t_p t_length t_p_text t_text t_cavities t_p_volume t_volume t_p_freeze t_freeze t_cores t_p_earlier t_earlier t_stages t_p_place t_place t_p_now t_now t_p_was t_was t_changes t_p_one t_one t_readCavities t_p_readCavity t_readCavity t_readCores t_p_readCore t_readCore t_readStages t_p_readStage t_readStage t_p_readRule t_readRule t_value t_ends t_screw v2 v1 H.size N q_13 hq_13) (cwV 2 hts gX6_holds_X6_comes rfl rfl rfl ⟨rfl, nh6.1, nh6.2, pd_29⟩ ⟨Nat.le_of_ble_eq_true rfl, Nat.le_of_ble_eq_true rfl⟩) (qPV hK hG hP hD hS hA [0] (by decide) rfl (va_recv hK.1 hP (ci := 6) (q0 := 0) rfl rfl)) rfl rfl hl.1 rfl (lv_room (Nat.le_of_ble_eq_true rfl)) dX6_holds_97 ⟨Nat.zero_le _, Nat.zero_le _⟩) hP hD hS hA [0] rfl rfl rfl rfl (fun H locs hP hD hS => ?_)
          refine lv_aload_n hx hb dX6_holds_100 rfl (lv_at hl 1 rfl) ?_
          refine lv_dup hx hb dX6_holds_101 rfl ?_
          refine va_get (D := g.1) (ci := 6) (v := .int t_screw) (C := RX6) (T := TX6) (N := 23) hx hb hts hin6 hown hK.1 hP 0 rfl rfl 22 (by decide) L5 (fun _ h9 => h9) rfl dX6_holds_102 ?_
          refine lv_iconst (v := 1) hx hb dX6_holds_105 (by decide) ?_
          refine lv_iadd hx hb dX6_holds_106 ?_
          refine va_put (D := g.1) (ci := 6) (v := .int (t_screw + 1)) (ty := .int) (C := RX6) (T := TX6) (N := 23) hx hb hts hin6 tyX6 tyX6_ok nmX6 hown hK.1 hP hD hS 0 rfl rfl 22 (by decide) L5 (fun _ h9 => h9) rfl (by decide +kernel) rfl rfl (Nat.le_of_ble_eq_true rfl) dX6_holds_107 (fun H locs hP hD hS => ?_)
          replace hP : va_P g.1 vwCl (fl [wk6 g t_p t_length t_p_text t_text t_cavities t_p_volume t_volume t_p_freeze t_freeze t_cores t_p_earlier t_earlier t_stages t_p_place t_place t_p_now t_now t_p_was t_was t_changes t_p_one q_13 t_readCavities t_p_readCavity t_readCavity t_readCores t_p_readCore t_readCore t_readStages t_p_readStage t_readStage t_p_readRule t_readRule t_value t_ends (t_screw + 1)]) H := hP
          replace hD : va_D A (fl [wk6 g t_p t_length t_p_text t_text t_cavities t_p_volume t_volume t_p_freeze t_freeze t_cores t_p_earlier t_earlier t_stages t_p_place t_place t_p_now t_now t_p_was t_was t_changes t_p_one q_13 t_readCavities t_p_readCavity t_readCavity t_readCores t_p_readCore t_readCore t_readStages t_p_readStage t_readStage t_p_readRule t_readRule t_value t_ends (t_screw + 1)]) := hD
          refine lv_iinc (v := v2 + 1) (lv' := [(2, .int (v2 + 1)), (3, .int s0), (0, .ref t_p), (1, .int v1)]) hx hb dX6_holds_110 hl (k := 3) rfl rfl (by decide) rfl (fun ls hl => ?_)
          refine lv_goto (tgt := 2) hx hb dX6_holds_113 (by decide) ?_
          exact hk_2 v1 (v2 + 1) q_13 (t_screw + 1) H locs ls hf hP hD hS (lv_sub hl [2, 3, 0] rfl)
  have w_48 : ∀ (k_2 : Int32 → Int32 → Int32 → (Nat → Int32) → (Nat → Int32) → (Nat → Int32) → (Nat → Int32) → Int32 → Option ((Nat → Int32) × Int32)), (∀ (v1 : Int32) (v2 : Int32) (t_one : (Nat → Int32)) (t_screw : Int32) (H : Heap) (locs : List Loc) (ls : Array Slot), k_2 v1 v2 t_cavities t_volume t_freeze t_now t_one t_screw = some res → va_P g.1 vwCl (fl [wk6 g t_p t_length t_p_text t_text t_cavities t_p_volume t_volume t_p_freeze t_freeze t_cores t_p_earlier t_earlier t_stages t_p_place t_place t_p_now t_now t_p_was t_was t_changes t_p_one t_one t_readCavities t_p_readCavity t_readCavity t_readCores t_p_readCore t_readCore t_readStages t_p_readStage t_readStage t_p_readRule t_readRule t_value t_ends t_screw]) H → va_D A (fl [wk6 g t_p t_length t_p_text t_text t_cavities t_p_volume t_volume t_p_freeze t_freeze t_cores t_p_earlier t_earlier t_stages t_p_place t_place t_p_now t_now t_p_was t_was t_changes t_p_one t_one t_readCavities t_p_readCavity t_readCavity t_readCores t_p_readCore t_readCore t_readStages t_p_readStage t_readStage t_p_readRule t_readRule t_value t_ends t_screw]) → va_S A s.heap H locs → lv_has ls 4 [(0, .ref t_p), (1, .int v1), (2, .int v2)] → W p l e ({ frames := 1, cells := 0, slots := 0, locals := 22 }) s m ([.ref t_p, .int l1] : List Value).toArray below meth c H locs 0 0 (MQ below (pQv g (fl [wk6 g t_p t_length t_p_text t_text t_cavities t_p_volume t_volume t_p_freeze t_freeze t_cores t_p_earlier t_earlier t_stages t_p_place t_place t_p_now t_now t_p_was t_was t_changes t_p_one res.1 t_readCavities t_p_readCavity t_readCavity t_readCores t_p_readCore t_readCore t_readStages t_p_readStage t_readStage t_p_readRule t_readRule t_value t_ends res.2]) A) ([.ref t_p, .int l1] : List Value).toArray s 0 0 A) (F0 m 2 ls [])) → ∀ (v1 : Int32) (v2 : Int32) (t_one : (Nat → Int32)) (t_screw : Int32) (H : Heap) (locs : List Loc) (ls : Array Slot), f6_holds_48 k_2 N v1 v2 t_cavities t_volume t_freeze t_now t_one t_screw = some res → va_P g.1 vwCl (fl [wk6 g t_p t_length t_p_text t_text t_cavities t_p_volume t_volume t_p_freeze t_freeze t_cores t_p_earlier t_earlier t_stages t_p_place t_place t_p_now t_now t_p_was t_was t_changes t_p_one t_one t_readCavities t_p_readCavity t_readCavity t_readCores t_p_readCore t_readCore t_readStages t_p_readStage t_readStage t_p_readRule t_readRule t_value t_ends t_screw]) H → va_D A (fl [wk6 g t_p t_length t_p_text t_text t_cavities t_p_volume t_volume t_p_freeze t_freeze t_cores t_p_earlier t_earlier t_stages t_p_place t_place t_p_now t_now t_p_was t_was t_changes t_p_one t_one t_readCavities t_p_readCavity t_readCavity t_readCores t_p_readCore t_readCore t_readStages t_p_readStage t_readStage t_p_readRule t_readRule t_value t_ends t_screw]) → va_S A s.heap H locs → lv_has ls 4 [(0, .ref t_p), (1, .int v1), (2, .int v2)] → W p l e ({ frames := 1, cells := 0, slots := 0, locals := 22 }) s m ([.ref t_p, .int l1] : List Value).toArray below meth c H locs 0 0 (MQ below (pQv g (fl [wk6 g t_p t_length t_p_text t_text t_cavities t_p_volume t_volume t_p_freeze t_freeze t_cores t_p_earlier t_earlier t_stages t_p_place t_place t_p_now t_now t_p_was t_was t_changes t_p_one res.1 t_readCavities t_p_readCavity t_readCavity t_readCores t_p_readCore t_readCore t_readStages t_p_readStage t_readStage t_p_readRule t_readRule t_value t_ends res.2]) A) ([.ref t_p, .int l1] : List Value).toArray s 0 0 A) (F0 m 48 ls []) := by
    intro k_2 hk_2 v1 v2 t_one t_screw H locs ls hf hP hD hS hl
    rw [f6_holds_48] at hf
    refine lv_iconst (v := 0) hx hb dX6_holds_48 (by decide) ?_
    exact w_49 k_2 hk_2 v1 v2 0 t_one t_screw H locs ls hf hP hD hS (lv_sub hl [0, 1, 2] rfl)
  have w_2 : ∀ n : Nat, ∀ (v1 : Int32) (v2 : Int32) (t_one : (Nat → Int32)) (t_screw : Int32) (H : Heap) (locs : List Loc) (ls : Array Slot), f6_holds_2  N n v1 v2 t_cavities t_volume t_freeze t_now t_one t_screw = some res → va_P g.1 vwCl (fl [wk6 g t_p t_length t_p_text t_text t_cavities t_p_volume t_volume t_p_freeze t_freeze t_cores t_p_earlier t_earlier t_stages t_p_place t_place t_p_now t_now t_p_was t_was t_changes t_p_one t_one t_readCavities t_p_readCavity t_readCavity t_readCores t_p_readCore t_readCore t_readStages t_p_readStage t_readStage t_p_readRule t_readRule t_value t_ends t_screw]) H → va_D A (fl [wk6 g t_p t_length t_p_text t_text t_cavities t_p_volume t_volume t_p_freeze t_freeze t_cores t_p_earlier t_earlier t_stages t_p_place t_place t_p_now t_now t_p_was t_was t_changes t_p_one t_one t_readCavities t_p_readCavity t_readCavity t_readCores t_p_readCore t_readCore t_readStages t_p_readStage t_readStage t_p_readRule t_readRule t_value t_ends t_screw]) → va_S A s.heap H locs → lv_has ls 4 [(0, .ref t_p), (1, .int v1), (2, .int v2)] → W p l e ({ frames := 1, cells := 0, slots := 0, locals := 22 }) s m ([.ref t_p, .int l1] : List Value).toArray below meth c H locs 0 0 (MQ below (pQv g (fl [wk6 g t_p t_length t_p_text t_text t_cavities t_p_volume t_volume t_p_freeze t_freeze t_cores t_p_earlier t_earlier t_stages t_p_place t_place t_p_now t_now t_p_was t_was t_changes t_p_one res.1 t_readCavities t_p_readCavity t_readCavity t_readCores t_p_readCore t_readCore t_readStages t_p_readStage t_readStage t_p_readRule t_readRule t_value t_ends res.2]) A) ([.ref t_p, .int l1] : List Value).toArray s 0 0 A) (F0 m 2 ls []) := by
    intro  n
    induction n with
    | zero => intro v1 v2 t_one t_screw H locs ls hf; exact no_some hf
    | succ n ih =>
      intro v1 v2 t_one t_screw H locs ls hf hP hD hS hl
      rw [f6_holds_2] at hf
      refine lv_iload_n hx hb dX6_holds_2 rfl (lv_at hl 2 rfl) ?_
      refine lv_aload_n hx hb dX6_holds_3 rfl (lv_at hl 0 rfl) ?_
      refine va_get (D := g.1) (ci := 6) (v := .int t_cavities) (C := RX6) (T := TX6) (N := 23) hx hb hts hin6 hown hK.1 hP 0 rfl rfl 2 (by decide) L1 (fun _ h9 => h9) rfl dX6_holds_4 ?_
      refine lv_icmp_ge (tgt := 116) hx hb dX6_holds_7 (by decide) (fun c_1 => ?_) (fun c_1 => ?_)
      · replace hf := (if_pos c_1).symm.trans hf
        replace hf := Option.some.inj hf
        subst hf
        exact W.vret hx hb hr (fun t ht hW => ⟨⟨(), rfl, trivial, by show va_P g.1 vwCl _ t.heap; rw [ht]; exact hP⟩, hS.F ht⟩) hS.2.2 dX6_holds_116 hlocks
      · replace hf := (if_neg c_1).symm.trans hf
        refine lv_aload_n hx hb dX6_holds_10 rfl (lv_at hl 0 rfl) ?_
        refine va_get (D := g.1) (ci := 6) (v := .ref t_p_one) (C := RX6) (T := TX6) (N := 23) hx hb hts hin6 hown hK.1 hP 0 rfl rfl 12 (by decide) L2 (fun _ h9 => h9) rfl dX6_holds_11 ?_
        refine lv_bipush (v := 78) hx hb dX6_holds_14 (by decide) ?_
        refine lv_iload_n hx hb dX6_holds_16 rfl (lv_at hl 2 rfl) ?_
        refine lv_iadd hx hb dX6_holds_17 ?_
        obtain ⟨h_2, hf⟩ := if_some hf
        refine va_iald hx hb hK.1 hP 8 0 rfl rfl (ok_in h_2) dX6_holds_18 ?_
        refine lv_bipush (v := (-4)) hx hb dX6_holds_19 (by decide) ?_
        refine lv_icmp_eq (tgt := 48) hx hb dX6_holds_21 (by decide) (fun c_3 => ?_) (fun c_3 => ?_)
        · replace hf := (if_pos c_3).symm.trans hf
          exact w_48 (fun a0 a1 a2 a3 a4 a5 a6 a7 => f6_holds_2 N n a0 a1 a2 a3 a4 a5 a6 a7) ih v1 v2 t_one t_screw H locs ls hf hP hD hS (lv_sub hl [0, 1, 2] rfl)
        · replace hf := (if_neg c_3).symm.trans hf
          refine lv_iload_n hx hb dX6_holds_24 rfl (lv_at hl 1 rfl) ?_
          refine lv_aload_n hx hb dX6_holds_25 rfl (lv_at hl 0 rfl) ?_
          refine va_get (D := g.1) (ci := 6) (v := .ref t_p_one) (C := RX6) (T := TX6) (N := 23) hx hb hts hin6 hown hK.1 hP 0 rfl rfl 12 (by decide) L2 (fun _ h9 => h9) rfl dX6_holds_26 ?_
          refine lv_bipush (v := 78) hx hb dX6_holds_29 (by decide) ?_
          refine lv_iload_n hx hb dX6_holds_31 rfl (lv_at hl 2 rfl) ?_
          refine lv_iadd hx hb dX6_holds_32 ?_
          obtain ⟨h_4, hf⟩ := if_some hf
          refine va_iald hx hb hK.1 hP 8 0 rfl rfl (ok_in h_4) dX6_holds_33 ?_
          refine lv_isub hx hb dX6_holds_34 ?_
          refine lv_aload_n hx hb dX6_holds_35 rfl (lv_at hl 0 rfl) ?_
          refine va_get (D := g.1) (ci := 6) (v := .ref t_p_freeze) (C := RX6) (T := TX6) (N := 23) hx hb hts hin6 hown hK.1 hP 0 rfl rfl 4 (by decide) L3 (fun _ h9 => h9) rfl dX6_holds_36 ?_
          refine lv_iload_n hx hb dX6_holds_39 rfl (lv_at hl 2 rfl) ?_
          obtain ⟨h_5, hf⟩ := if_some hf
          refine va_iald hx hb hK.1 hP 3 0 rfl rfl (ok_in h_5) dX6_holds_40 ?_
          refine lv_icmp_lt (tgt := 48) hx hb dX6_holds_41 (by decide) (fun c_6 => ?_) (fun c_6 => ?_)
          · replace hf := (if_pos c_6).symm.trans hf
            exact w_48 (fun a0 a1 a2 a3 a4 a5 a6 a7 => f6_holds_2 N n a0 a1 a2 a3 a4 a5 a6 a7) ih v1 v2 t_one t_screw H locs ls hf hP hD hS (lv_sub hl [0, 1, 2] rfl)
          · replace hf := (if_neg c_6).symm.trans hf
            refine lv_iconst (v := 1) hx hb dX6_holds_44 (by decide) ?_
            refine lv_goto (tgt := 49) hx hb dX6_holds_45 (by decide) ?_
            exact w_49 (fun a0 a1 a2 a3 a4 a5 a6 a7 => f6_holds_2 N n a0 a1 a2 a3 a4 a5 a6 a7) ih v1 v2 1 t_one t_screw H locs ls hf hP hD hS (lv_sub hl [0, 1, 2] rfl)
  have hl := lv_entry ([.ref t_p, .int l1]) (n := 4) (Nat.le_of_ble_eq_true rfl)
  rw [lg_entry_eq]
  generalize (lg_sl ([.ref t_p, .int l1]) ++ List.replicate (4 - (lg_sl ([.ref t_p, .int l1])).length) Slot.unset).toArray = ls at hl ⊢
  replace hl : lv_has ls 4 [(0, .ref t_p), (1, .int l1)] := hl
  rw [f6_holds] at hf
  have hgo : ∀ (H : Heap) (locs : List Loc), H = s.heap → locs = [] → va_P g.1 vwCl (fl [wk6 g t_p t_length t_p_text t_text t_cavities t_p_volume t_volume t_p_freeze t_freeze t_cores t_p_earlier t_earlier t_stages t_p_place t_place t_p_now t_now t_p_was t_was t_changes t_p_one t_one t_readCavities t_p_readCavity t_readCavity t_readCores t_p_readCore t_readCore t_readStages t_p_readStage t_readStage t_p_readRule t_readRule t_value t_ends t_screw]) H → va_S A s.heap H locs → W p l e ({ frames := 1, cells := 0, slots := 0, locals := 22 }) s m ([.ref t_p, .int l1] : List Value).toArray below meth c H locs 0 0 (MQ below (pQv g (fl [wk6 g t_p t_length t_p_text t_text t_cavities t_p_volume t_volume t_p_freeze t_freeze t_cores t_p_earlier t_earlier t_stages t_p_place t_place t_p_now t_now t_p_was t_was t_changes t_p_one res.1 t_readCavities t_p_readCavity t_readCavity t_readCores t_p_readCore t_readCore t_readStages t_p_readStage t_readStage t_p_readRule t_readRule t_value t_ends res.2]) A) ([.ref t_p, .int l1] : List Value).toArray s 0 0 A) (F0 m 0 ls []) := by
    intro H locs hH hL hP hS
    refine lv_iconst (v := 0) hx hb dX6_holds_0 (by decide) ?_
    refine lv_istore_n (lv' := [(2, .int 0), (0, .ref t_p), (1, .int l1)]) hx hb dX6_holds_1 rfl hl (by decide) rfl (fun ls hl => ?_)
    exact w_2  N l1 0 t_one t_screw H locs ls hf hP hD hS (lv_sub hl [1, 2, 0] rfl)
  exact hgo s.heap [] rfl rfl hP hS

set_option maxHeartbeats 4000000 in
set_option maxRecDepth 100000 in
theorem c6_tries (l : Launch) (g : gG) (t_p : Nat) (t_length : Int32) (t_p_text : Nat) (t_text : (Nat → Int32)) (t_cavities : Int32) (t_p_volume : Nat) (t_volume : (Nat → Int32)) (t_p_freeze : Nat) (t_freeze : (Nat → Int32)) (t_cores : Int32) (t_p_earlier : Nat) (t_earlier : (Nat → Int32)) (t_stages : Int32) (t_p_place : Nat) (t_place : (Nat → Int32)) (t_p_now : Nat) (t_now : (Nat → Int32)) (t_p_was : Nat) (t_was : (Nat → Int32)) (t_changes : Int32) (t_p_one : Nat) (t_one : (Nat → Int32)) (t_readCavities : Int32) (t_p_readCavity : Nat) (t_readCavity : (Nat → Int32)) (t_readCores : Int32) (t_p_readCore : Nat) (t_readCore : (Nat → Int32)) (t_readStages : Int32) (t_p_readStage : Nat) (t_readStage : (Nat → Int32)) (t_p_readRule : Nat) (t_readRule : (Nat → Int32)) (t_value : Int32) (t_ends : Int32) (t_screw : Int32) (l1 : Int32) (sz : Nat) (N : Nat) (res : ((Nat → Int32) × Int32)) (hf : f6_tries N l1 t_cavities t_volume t_freeze t_stages t_place t_now t_one = some res) : Met l yX6_tries wsX6_tries ({ frames := 2, cells := 0, slots := 0, locals := 51 }) (pP g [.ref t_p, .int l1] sz (fl [wk6 g t_p t_length t_p_text t_text t_cavities t_p_volume t_volume t_p_freeze t_freeze t_cores t_p_earlier t_earlier t_stages t_p_place t_place t_p_now t_now t_p_was t_was t_changes t_p_one t_one t_readCavities t_p_readCavity t_readCavity t_readCores t_p_readCore t_readCore t_readStages t_p_readStage t_readStage t_p_readRule t_readRule t_value t_ends t_screw])) (pQv g (fl [wk6 g t_p t_length t_p_text t_text t_cavities t_p_volume t_volume t_p_freeze t_freeze t_cores t_p_earlier t_earlier t_stages t_p_place t_place t_p_now t_now t_p_was t_was t_changes t_p_one res.1 t_readCavities t_p_readCavity t_readCavity t_readCores t_p_readCore t_readCore t_readStages t_p_readStage t_readStage t_p_readRule t_readRule t_value t_ends res.2]) (va_A (fl [wk6 g t_p t_length t_p_text t_text t_cavities t_p_volume t_volume t_p_freeze t_freeze t_cores t_p_earlier t_earlier t_stages t_p_place t_place t_p_now t_now t_p_was t_was t_changes t_p_one t_one t_readCavities t_p_readCavity t_readCavity t_readCores t_p_readCore t_readCore t_readStages t_p_readStage t_readStage t_p_readRule t_readRule t_value t_ends t_screw]) sz)) 0 0 (va_A (fl [wk6 g t_p t_length t_p_text t_text t_cavities t_p_volume t_volume t_p_freeze t_freeze t_cores t_p_earlier t_earlier t_stages t_p_place t_place t_p_now t_now t_p_was t_was t_changes t_p_one t_one t_readCavities t_p_readCavity t_readCavity t_readCores t_p_readCore t_readCore t_readStages t_p_readStage t_readStage t_p_readRule t_readRule t_value t_ends t_screw]) sz) := by
  refine Met.ofW (cc := cX6_tries) (maxL := 8) (ret := none) (by decide) rfl ?_
  intro p e s m args below meth c s₁ B hml hv
  obtain ⟨rfl, hsz, hP, hK, hD0, hG⟩ := hv
  have hx := B.exec
  have hb := B.bytes
  have hr := B.returns
  have hts := atoms_spec (ws := wsX6_tries) B.pre
  have hown : s.vm.findClass RX6 = some m.cls := findClass_of_methodNamed B.named
  have hlocks := B.notSynchronized
  subst hsz
  have hD := hD0.self (sz := s.heap.size)
  generalize hAe : va_A (fl [wk6 g t_p t_length t_p_text t_text t_cavities t_p_volume t_volume t_p_freeze t_freeze t_cores t_p_earlier t_earlier t_stages t_p_place t_place t_p_now t_now t_p_was t_was t_changes t_p_one t_one t_readCavities t_p_readCavity t_readCavity t_readCores t_p_readCore t_readCore t_readStages t_p_readStage t_readStage t_p_readRule t_readRule t_value t_ends t_screw]) s.heap.size = A at hD hG ⊢
  have hA : ∀ q : Nat, s.heap.size ≤ q → A q := fun q h => by rw [← hAe]; exact Or.inr h
  have hS : va_S A s.heap s.heap [] := va_S.rf
  have hin6 : ∀ w ∈ u_ws RX6 TX6 23, w ∈ wsX6_tries := by decide +kernel
  have L1 := hts (Cond.fieldLink RX6 136 "MouldShotsModel" "screw" "I") (by decide +kernel)
  have L2 := hts (Cond.fieldLink RX6 31 "MouldShotsModel" "one" "[I") (by decide +kernel)
  have L3 := hts (Cond.fieldLink RX6 25 "MouldShotsModel" "now" "[I") (by decide +kernel)
  have L4 := hts (Cond.fieldLink RX6 70 "MouldShotsModel" "cavities" "I") (by decide +kernel)
  have w_25 : ∀ (k_2 : Int32 → Int32 → Int32 → (Nat → Int32) → (Nat → Int32) → Int32 → (Nat → Int32) → (Nat → Int32) → (Nat → Int32) → Option ((Nat → Int32) × Int32)), (∀ (v1 : Int32) (v2 : Int32) (t_one : (Nat → Int32)) (t_screw : Int32) (H : Heap) (locs : List Loc) (ls : Array Slot), k_2 v1 v2 t_cavities t_volume t_freeze t_stages t_place t_now t_one = some res → va_P g.1 vwCl (fl [wk6 g t_p t_length t_p_text t_text t_cavities t_p_volume t_volume t_p_freeze t_freeze t_cores t_p_earlier t_earlier t_stages t_p_place t_place t_p_now t_now t_p_was t_was t_changes t_p_one t_one t_readCavities t_p_readCavity t_readCavity t_readCores t_p_readCore t_readCore t_readStages t_p_readStage t_readStage t_p_readRule t_readRule t_value t_ends t_screw]) H → va_D A (fl [wk6 g t_p t_length t_p_text t_text t_cavities t_p_volume t_volume t_p_freeze t_freeze t_cores t_p_earlier t_earlier t_stages t_p_place t_place t_p_now t_now t_p_was t_was t_changes t_p_one t_one t_readCavities t_p_readCavity t_readCavity t_readCores t_p_readCore t_readCore t_readStages t_p_readStage t_readStage t_p_readRule t_readRule t_value t_ends t_screw]) → va_S A s.heap H locs → lv_has ls 8 [(0, .ref t_p), (1, .int v1), (2, .int v2)] → W p l e ({ frames := 2, cells := 0, slots := 0, locals := 51 }) s m ([.ref t_p, .int l1] : List Value).toArray below meth c H locs 0 0 (MQ below (pQv g (fl [wk6 g t_p t_length t_p_text t_text t_cavities t_p_volume t_volume t_p_freeze t_freeze t_cores t_p_earlier t_earlier t_stages t_p_place t_place t_p_now t_now t_p_was t_was t_changes t_p_one res.1 t_readCavities t_p_readCavity t_readCavity t_readCores t_p_readCore t_readCore t_readStages t_p_readStage t_readStage t_p_readRule t_readRule t_value t_ends res.2]) A) ([.ref t_p, .int l1] : List Value).toArray s 0 0 A) (F0 m 2 ls [])) → ∀ (v1 : Int32) (v2 : Int32) (s1 : Int32) (s2 : Int32) (t_one : (Nat → Int32)) (t_screw : Int32) (H : Heap) (locs : List Loc) (ls : Array Slot), f6_tries_25 k_2 N v1 v2 s1 s2 t_cavities t_volume t_freeze t_stages t_place t_now t_one = some res → va_P g.1 vwCl (fl [wk6 g t_p t_length t_p_text t_text t_cavities t_p_volume t_volume t_p_freeze t_freeze t_cores t_p_earlier t_earlier t_stages t_p_place t_place t_p_now t_now t_p_was t_was t_changes t_p_one t_one t_readCavities t_p_readCavity t_readCavity t_readCores t_p_readCore t_readCore t_readStages t_p_readStage t_readStage t_p_readRule t_readRule t_value t_ends t_screw]) H → va_D A (fl [wk6 g t_p t_length t_p_text t_text t_cavities t_p_volume t_volume t_p_freeze t_freeze t_cores t_p_earlier t_earlier t_stages t_p_place t_place t_p_now t_now t_p_was t_was t_changes t_p_one t_one t_readCavities t_p_readCavity t_readCavity t_readCores t_p_readCore t_readCore t_readStages t_p_readStage t_readStage t_p_readRule t_readRule t_value t_ends t_screw]) → va_S A s.heap H locs → lv_has ls 8 [(0, .ref t_p), (1, .int v1), (2, .int v2)] → W p l e ({ frames := 2, cells := 0, slots := 0, locals := 51 }) s m ([.ref t_p, .int l1] : List Value).toArray below meth c H locs 0 0 (MQ below (pQv g (fl [wk6 g t_p t_length t_p_text t_text t_cavities t_p_volume t_volume t_p_freeze t_freeze t_cores t_p_earlier t_earlier t_stages t_p_place t_place t_p_now t_now t_p_was t_was t_changes t_p_one res.1 t_readCavities t_p_readCavity t_readCavity t_readCores t_p_readCore t_readCore t_readStages t_p_readStage t_readStage t_p_readRule t_readRule t_value t_ends res.2]) A) ([.ref t_p, .int l1] : List Value).toArray s 0 0 A) (F0 m 25 ls [.int s2, .int s1, .ref t_p_one]) := by
    intro k_2 hk_2 v1 v2 s1 s2 t_one t_screw H locs ls hf hP hD hS hl
    rw [f6_tries_25] at hf
    obtain ⟨h_28, hf⟩ := if_some hf
    refine va_iast hx hb hK.1 hP hD hS 8 0 rfl rfl (ok_in h_28) dX6_tries_25 (fun H locs hP hD hS => ?_)
    replace hP : va_P g.1 vwCl (fl [wk6 g t_p t_length t_p_text t_text t_cavities t_p_volume t_volume t_p_freeze t_freeze t_cores t_p_earlier t_earlier t_stages t_p_place t_place t_p_now t_now t_p_was t_was t_changes t_p_one (upd t_one (Int32.toNatClampNeg s1) s2) t_readCavities t_p_readCavity t_readCavity t_readCores t_p_readCore t_readCore t_readStages t_p_readStage t_readStage t_p_readRule t_readRule t_value t_ends t_screw]) H := hP
    replace hD : va_D A (fl [wk6 g t_p t_length t_p_text t_text t_cavities t_p_volume t_volume t_p_freeze t_freeze t_cores t_p_earlier t_earlier t_stages t_p_place t_place t_p_now t_now t_p_was t_was t_changes t_p_one (upd t_one (Int32.toNatClampNeg s1) s2) t_readCavities t_p_readCavity t_readCavity t_readCores t_p_readCore t_readCore t_readStages t_p_readStage t_readStage t_p_readRule t_readRule t_value t_ends t_screw]) := hD
    refine lv_iinc (v := v2 + 1) (lv' := [(2, .int (v2 + 1)), (0, .ref t_p), (1, .int v1)]) hx hb dX6_tries_26 hl (k := 2) rfl rfl (by decide) rfl (fun ls hl => ?_)
    refine lv_goto (tgt := 2) hx hb dX6_tries_29 (by decide) ?_
    exact hk_2 v1 (v2 + 1) (upd t_one (Int32.toNatClampNeg s1) s2) t_screw H locs ls hf hP hD hS (lv_sub hl [1, 2, 0] rfl)
  have w_237 : ∀ (k_188 : Int32 → Int32 → Int32 → Int32 → (Nat → Int32) → Int32 → Option ((Nat → Int32) × Int32)), (∀ (v4 : Int32) (v5 : Int32) (v6 : Int32) (t_one : (Nat → Int32)) (t_screw : Int32) (H : Heap) (locs : List Loc) (ls : Array Slot), k_188 v4 v5 v6 t_cavities t_one t_screw = some res → va_P g.1 vwCl (fl [wk6 g t_p t_length t_p_text t_text t_cavities t_p_volume t_volume t_p_freeze t_freeze t_cores t_p_earlier t_earlier t_stages t_p_place t_place t_p_now t_now t_p_was t_was t_changes t_p_one t_one t_readCavities t_p_readCavity t_readCavity t_readCores t_p_readCore t_readCore t_readStages t_p_readStage t_readStage t_p_readRule t_readRule t_value t_ends t_screw]) H → va_D A (fl [wk6 g t_p t_length t_p_text t_text t_cavities t_p_volume t_volume t_p_freeze t_freeze t_cores t_p_earlier t_earlier t_stages t_p_place t_place t_p_now t_now t_p_was t_was t_changes t_p_one t_one t_readCavities t_p_readCavity t_readCavity t_readCores t_p_readCore t_readCore t_readStages t_p_readStage t_readStage t_p_readRule t_readRule t_value t_ends t_screw]) → va_S A s.heap H locs → lv_has ls 8 [(0, .ref t_p), (4, .int v4), (5, .int v5), (6, .int v6)] → W p l e ({ frames := 2, cells := 0, slots := 0, locals := 51 }) s m ([.ref t_p, .int l1] : List Value).toArray below meth c H locs 0 0 (MQ below (pQv g (fl [wk6 g t_p t_length t_p_text t_text t_cavities t_p_volume t_volume t_p_freeze t_freeze t_cores t_p_earlier t_earlier t_stages t_p_place t_place t_p_now t_now t_p_was t_was t_changes t_p_one res.1 t_readCavities t_p_readCavity t_readCavity t_readCores t_p_readCore t_readCore t_readStages t_p_readStage t_readStage t_p_readRule t_readRule t_value t_ends res.2]) A) ([.ref t_p, .int l1] : List Value).toArray s 0 0 A) (F0 m 188 ls [])) → ∀ (v5 : Int32) (v6 : Int32) (v7 : Int32) (s0 : Int32) (t_one : (Nat → Int32)) (t_screw : Int32) (H : Heap) (locs : List Loc) (ls : Array Slot), f6_tries_237 k_188 N v5 v6 v7 s0 t_cavities t_one t_screw = some res → va_P g.1 vwCl (fl [wk6 g t_p t_length t_p_text t_text t_cavities t_p_volume t_volume t_p_freeze t_freeze t_cores t_p_earlier t_earlier t_stages t_p_place t_place t_p_now t_now t_p_was t_was t_changes t_p_one t_one t_readCavities t_p_readCavity t_readCavity t_readCores t_p_readCore t_readCore t_readStages t_p_readStage t_readStage t_p_readRule t_readRule t_value t_ends t_screw]) H → va_D A (fl [wk6 g t_p t_length t_p_text t_text t_cavities t_p_volume t_volume t_p_freeze t_freeze t_cores t_p_earlier t_earlier t_stages t_p_place t_place t_p_now t_now t_p_was t_was t_changes t_p_one t_one t_readCavities t_p_readCavity t_readCavity t_readCores t_p_readCore t_readCore t_readStages t_p_readStage t_readStage t_p_readRule t_readRule t_value t_ends t_screw]) → va_S A s.heap H locs → lv_has ls 8 [(0, .ref t_p), (5, .int v5), (6, .int v6), (7, .int v7)] → W p l e ({ frames := 2, cells := 0, slots := 0, locals := 51 }) s m ([.ref t_p, .int l1] : List Value).toArray below meth c H locs 0 0 (MQ below (pQv g (fl [wk6 g t_p t_length t_p_text t_text t_cavities t_p_volume t_volume t_p_freeze t_freeze t_cores t_p_earlier t_earlier t_stages t_p_place t_place t_p_now t_now t_p_was t_was t_changes t_p_one res.1 t_readCavities t_p_readCavity t_readCavity t_readCores t_p_readCore t_readCore t_readStages t_p_readStage t_readStage t_p_readRule t_readRule t_value t_ends res.2]) A) ([.ref t_p, .int l1] : List Value).toArray s 0 0 A) (F0 m 237 ls [.int s0]) := by
    intro k_188 hk_188 v5 v6 v7 s0 t_one t_screw H locs ls hf hP hD hS hl
    rw [f6_tries_237] at hf
    refine lv_istore (lv' := [(4, .int s0), (0, .ref t_p), (5, .int v5), (6, .int v6), (7, .int v7)]) hx hb dX6_tries_237 hl (by decide) rfl (fun ls hl => ?_)
    refine lv_iload hx hb dX6_tries_239 (lv_at hl 4 rfl) ?_
    refine lv_iload hx hb dX6_tries_241 (lv_at hl 2 rfl) ?_
    refine lv_icmp_le (tgt := 251) hx hb dX6_tries_243 (by decide) (fun c_26 => ?_) (fun c_26 => ?_)
    · replace hf := (if_pos c_26).symm.trans hf
      refine lv_iload hx hb dX6_tries_251 (lv_at hl 2 rfl) ?_
      refine lv_istore (lv' := [(5, .int v5), (4, .int s0), (0, .ref t_p), (6, .int v6), (7, .int v7)]) hx hb dX6_tries_253 hl (by decide) rfl (fun ls hl => ?_)
      refine lv_iinc (v := v6 + 1) (lv' := [(6, .int (v6 + 1)), (5, .int v5), (4, .int s0), (0, .ref t_p), (7, .int v7)]) hx hb dX6_tries_255 hl (k := 3) rfl rfl (by decide) rfl (fun ls hl => ?_)
      refine lv_goto (tgt := 188) hx hb dX6_tries_258 (by decide) ?_
      exact hk_188 s0 v5 (v6 + 1) t_one t_screw H locs ls hf hP hD hS (lv_sub hl [3, 2, 1, 0] rfl)
    · replace hf := (if_neg c_26).symm.trans hf
      refine lv_iload hx hb dX6_tries_246 (lv_at hl 4 rfl) ?_
      refine lv_goto (tgt := 253) hx hb dX6_tries_248 (by decide) ?_
      refine lv_istore (lv' := [(5, .int v7), (4, .int s0), (0, .ref t_p), (6, .int v6), (7, .int v7)]) hx hb dX6_tries_253 hl (by decide) rfl (fun ls hl => ?_)
      refine lv_iinc (v := v6 + 1) (lv' := [(6, .int (v6 + 1)), (5, .int v7), (4, .int s0), (0, .ref t_p), (7, .int v7)]) hx hb dX6_tries_255 hl (k := 3) rfl rfl (by decide) rfl (fun ls hl => ?_)
      refine lv_goto (tgt := 188) hx hb dX6_tries_258 (by decide) ?_
      exact hk_188 s0 v7 (v6 + 1) t_one t_screw H locs ls hf hP hD hS (lv_sub hl [3, 2, 1, 0] rfl)
  have w_230 : ∀ (k_188 : Int32 → Int32 → Int32 → Int32 → (Nat → Int32) → Int32 → Option ((Nat → Int32) × Int32)), (∀ (v4 : Int32) (v5 : Int32) (v6 : Int32) (t_one : (Nat → Int32)) (t_screw : Int32) (H : Heap) (locs : List Loc) (ls : Array Slot), k_188 v4 v5 v6 t_cavities t_one t_screw = some res → va_P g.1 vwCl (fl [wk6 g t_p t_length t_p_text t_text t_cavities t_p_volume t_volume t_p_freeze t_freeze t_cores t_p_earlier t_earlier t_stages t_p_place t_place t_p_now t_now t_p_was t_was t_changes t_p_one t_one t_readCavities t_p_readCavity t_readCavity t_readCores t_p_readCore t_readCore t_readStages t_p_readStage t_readStage t_p_readRule t_readRule t_value t_ends t_screw]) H → va_D A (fl [wk6 g t_p t_length t_p_text t_text t_cavities t_p_volume t_volume t_p_freeze t_freeze t_cores t_p_earlier t_earlier t_stages t_p_place t_place t_p_now t_now t_p_was t_was t_changes t_p_one t_one t_readCavities t_p_readCavity t_readCavity t_readCores t_p_readCore t_readCore t_readStages t_p_readStage t_readStage t_p_readRule t_readRule t_value t_ends t_screw]) → va_S A s.heap H locs → lv_has ls 8 [(0, .ref t_p), (4, .int v4), (5, .int v5), (6, .int v6)] → W p l e ({ frames := 2, cells := 0, slots := 0, locals := 51 }) s m ([.ref t_p, .int l1] : List Value).toArray below meth c H locs 0 0 (MQ below (pQv g (fl [wk6 g t_p t_length t_p_text t_text t_cavities t_p_volume t_volume t_p_freeze t_freeze t_cores t_p_earlier t_earlier t_stages t_p_place t_place t_p_now t_now t_p_was t_was t_changes t_p_one res.1 t_readCavities t_p_readCavity t_readCavity t_readCores t_p_readCore t_readCore t_readStages t_p_readStage t_readStage t_p_readRule t_readRule t_value t_ends res.2]) A) ([.ref t_p, .int l1] : List Value).toArray s 0 0 A) (F0 m 188 ls [])) → ∀ (v5 : Int32) (v6 : Int32) (v7 : Int32) (t_one : (Nat → Int32)) (t_screw : Int32) (H : Heap) (locs : List Loc) (ls : Array Slot), f6_tries_230 k_188 N v5 v6 v7 t_cavities t_one t_screw = some res → va_P g.1 vwCl (fl [wk6 g t_p t_length t_p_text t_text t_cavities t_p_volume t_volume t_p_freeze t_freeze t_cores t_p_earlier t_earlier t_stages t_p_place t_place t_p_now t_now t_p_was t_was t_changes t_p_one t_one t_readCavities t_p_readCavity t_readCavity t_readCores t_p_readCore t_readCore t_readStages t_p_readStage t_readStage t_p_readRule t_readRule t_value t_ends t_screw]) H → va_D A (fl [wk6 g t_p t_length t_p_text t_text t_cavities t_p_volume t_volume t_p_freeze t_freeze t_cores t_p_earlier t_earlier t_stages t_p_place t_place t_p_now t_now t_p_was t_was t_changes t_p_one t_one t_readCavities t_p_readCavity t_readCavity t_readCores t_p_readCore t_readCore t_readStages t_p_readStage t_readStage t_p_readRule t_readRule t_value t_ends t_screw]) → va_S A s.heap H locs → lv_has ls 8 [(0, .ref t_p), (5, .int v5), (6, .int v6), (7, .int v7)] → W p l e ({ frames := 2, cells := 0, slots := 0, locals := 51 }) s m ([.ref t_p, .int l1] : List Value).toArray below meth c H locs 0 0 (MQ below (pQv g (fl [wk6 g t_p t_length t_p_text t_text t_cavities t_p_volume t_volume t_p_freeze t_freeze t_cores t_p_earlier t_earlier t_stages t_p_place t_place t_p_now t_now t_p_was t_was t_changes t_p_one res.1 t_readCavities t_p_readCavity t_readCavity t_readCores t_p_readCore t_readCore t_readStages t_p_readStage t_readStage t_p_readRule t_readRule t_value t_ends res.2]) A) ([.ref t_p, .int l1] : List Value).toArray s 0 0 A) (F0 m 230 ls []) := by
    intro k_188 hk_188 v5 v6 v7 t_one t_screw H locs ls hf hP hD hS hl
    rw [f6_tries_230] at hf
    refine lv_iload hx hb dX6_tries_230 (lv_at hl 3 rfl) ?_
    refine lv_goto (tgt := 237) hx hb dX6_tries_232 (by decide) ?_
    exact w_237 k_188 hk_188 v5 v6 v7 v7 t_one t_screw H locs ls hf hP hD hS (lv_sub hl [0, 1, 2, 3] rfl)
  have w_235 : ∀ (k_188 : Int32 → Int32 → Int32 → Int32 → (Nat → Int32) → Int32 → Option ((Nat → Int32) × Int32)), (∀ (v4 : Int32) (v5 : Int32) (v6 : Int32) (t_one : (Nat → Int32)) (t_screw : Int32) (H : Heap) (locs : List Loc) (ls : Array Slot), k_188 v4 v5 v6 t_cavities t_one t_screw = some res → va_P g.1 vwCl (fl [wk6 g t_p t_length t_p_text t_text t_cavities t_p_volume t_volume t_p_freeze t_freeze t_cores t_p_earlier t_earlier t_stages t_p_place t_place t_p_now t_now t_p_was t_was t_changes t_p_one t_one t_readCavities t_p_readCavity t_readCavity t_readCores t_p_readCore t_readCore t_readStages t_p_readStage t_readStage t_p_readRule t_readRule t_value t_ends t_screw]) H → va_D A (fl [wk6 g t_p t_length t_p_text t_text t_cavities t_p_volume t_volume t_p_freeze t_freeze t_cores t_p_earlier t_earlier t_stages t_p_place t_place t_p_now t_now t_p_was t_was t_changes t_p_one t_one t_readCavities t_p_readCavity t_readCavity t_readCores t_p_readCore t_readCore t_readStages t_p_readStage t_readStage t_p_readRule t_readRule t_value t_ends t_screw]) → va_S A s.heap H locs → lv_has ls 8 [(0, .ref t_p), (4, .int v4), (5, .int v5), (6, .int v6)] → W p l e ({ frames := 2, cells := 0, slots := 0, locals := 51 }) s m ([.ref t_p, .int l1] : List Value).toArray below meth c H locs 0 0 (MQ below (pQv g (fl [wk6 g t_p t_length t_p_text t_text t_cavities t_p_volume t_volume t_p_freeze t_freeze t_cores t_p_earlier t_earlier t_stages t_p_place t_place t_p_now t_now t_p_was t_was t_changes t_p_one res.1 t_readCavities t_p_readCavity t_readCavity t_readCores t_p_readCore t_readCore t_readStages t_p_readStage t_readStage t_p_readRule t_readRule t_value t_ends res.2]) A) ([.ref t_p, .int l1] : List Value).toArray s 0 0 A) (F0 m 188 ls [])) → ∀ (v4 : Int32) (v5 : Int32) (v6 : Int32) (v7 : Int32) (t_one : (Nat → Int32)) (t_screw : Int32) (H : Heap) (locs : List Loc) (ls : Array Slot), f6_tries_235 k_188 N v4 v5 v6 v7 t_cavities t_one t_screw = some res → va_P g.1 vwCl (fl [wk6 g t_p t_length t_p_text t_text t_cavities t_p_volume t_volume t_p_freeze t_freeze t_cores t_p_earlier t_earlier t_stages t_p_place t_place t_p_now t_now t_p_was t_was t_changes t_p_one t_one t_readCavities t_p_readCavity t_readCavity t_readCores t_p_readCore t_readCore t_readStages t_p_readStage t_readStage t_p_readRule t_readRule t_value t_ends t_screw]) H → va_D A (fl [wk6 g t_p t_length t_p_text t_text t_cavities t_p_volume t_volume t_p_freeze t_freeze t_cores t_p_earlier t_earlier t_stages t_p_place t_place t_p_now t_now t_p_was t_was t_changes t_p_one t_one t_readCavities t_p_readCavity t_readCavity t_readCores t_p_readCore t_readCore t_readStages t_p_readStage t_readStage t_p_readRule t_readRule t_value t_ends t_screw]) → va_S A s.heap H locs → lv_has ls 8 [(0, .ref t_p), (4, .int v4), (5, .int v5), (6, .int v6), (7, .int v7)] → W p l e ({ frames := 2, cells := 0, slots := 0, locals := 51 }) s m ([.ref t_p, .int l1] : List Value).toArray below meth c H locs 0 0 (MQ below (pQv g (fl [wk6 g t_p t_length t_p_text t_text t_cavities t_p_volume t_volume t_p_freeze t_freeze t_cores t_p_earlier t_earlier t_stages t_p_place t_place t_p_now t_now t_p_was t_was t_changes t_p_one res.1 t_readCavities t_p_readCavity t_readCavity t_readCores t_p_readCore t_readCore t_readStages t_p_readStage t_readStage t_p_readRule t_readRule t_value t_ends res.2]) A) ([.ref t_p, .int l1] : List Value).toArray s 0 0 A) (F0 m 235 ls []) := by
    intro k_188 hk_188 v4 v5 v6 v7 t_one t_screw H locs ls hf hP hD hS hl
    rw [f6_tries_235] at hf
    refine lv_iload hx hb dX6_tries_235 (lv_at hl 1 rfl) ?_
    exact w_237 k_188 hk_188 v5 v6 v7 v4 t_one t_screw H locs ls hf hP hD hS (lv_sub hl [0, 2, 3, 4] rfl)
  have w_282 : ∀ (s1 : Int32) (s2 : Int32) (t_one : (Nat → Int32)) (t_screw : Int32) (H : Heap) (locs : List Loc) (ls : Array Slot), f6_tries_282  N s1 s2 t_one t_screw = some res → va_P g.1 vwCl (fl [wk6 g t_p t_length t_p_text t_text t_cavities t_p_volume t_volume t_p_freeze t_freeze t_cores t_p_earlier t_earlier t_stages t_p_place t_place t_p_now t_now t_p_was t_was t_changes t_p_one t_one t_readCavities t_p_readCavity t_readCavity t_readCores t_p_readCore t_readCore t_readStages t_p_readStage t_readStage t_p_readRule t_readRule t_value t_ends t_screw]) H → va_D A (fl [wk6 g t_p t_length t_p_text t_text t_cavities t_p_volume t_volume t_p_freeze t_freeze t_cores t_p_earlier t_earlier t_stages t_p_place t_place t_p_now t_now t_p_was t_was t_changes t_p_one t_one t_readCavities t_p_readCavity t_readCavity t_readCores t_p_readCore t_readCore t_readStages t_p_readStage t_readStage t_p_readRule t_readRule t_value t_ends t_screw]) → va_S A s.heap H locs → lv_has ls 8 [] → W p l e ({ frames := 2, cells := 0, slots := 0, locals := 51 }) s m ([.ref t_p, .int l1] : List Value).toArray below meth c H locs 0 0 (MQ below (pQv g (fl [wk6 g t_p t_length t_p_text t_text t_cavities t_p_volume t_volume t_p_freeze t_freeze t_cores t_p_earlier t_earlier t_stages t_p_place t_place t_p_now t_now t_p_was t_was t_changes t_p_one res.1 t_readCavities t_p_readCavity t_readCavity t_readCores t_p_readCore t_readCore t_readStages t_p_readStage t_readStage t_p_readRule t_readRule t_value t_ends res.2]) A) ([.ref t_p, .int l1] : List Value).toArray s 0 0 A) (F0 m 282 ls [.int s2, .int s1, .ref t_p_one]) := by
    intro  s1 s2 t_one t_screw H locs ls hf hP hD hS hl
    rw [f6_tries_282] at hf
    obtain ⟨h_27, hf⟩ := if_some hf
    refine va_iast hx hb hK.1 hP hD hS 8 0 rfl rfl (ok_in h_27) dX6_tries_282 (fun H locs hP hD hS => ?_)
    replace hP : va_P g.1 vwCl (fl [wk6 g t_p t_length t_p_text t_text t_cavities t_p_volume t_volume t_p_freeze t_freeze t_cores t_p_earlier t_earlier t_stages t_p_place t_place t_p_now t_now t_p_was t_was t_changes t_p_one (upd t_one (Int32.toNatClampNeg s1) s2) t_readCavities t_p_readCavity t_readCavity t_readCores t_p_readCore t_readCore t_readStages t_p_readStage t_readStage t_p_readRule t_readRule t_value t_ends t_screw]) H := hP
    replace hD : va_D A (fl [wk6 g t_p t_length t_p_text t_text t_cavities t_p_volume t_volume t_p_freeze t_freeze t_cores t_p_earlier t_earlier t_stages t_p_place t_place t_p_now t_now t_p_was t_was t_changes t_p_one (upd t_one (Int32.toNatClampNeg s1) s2) t_readCavities t_p_readCavity t_readCavity t_readCores t_p_readCore t_readCore t_readStages t_p_readStage t_readStage t_p_readRule t_readRule t_value t_ends t_screw]) := hD
    replace hf := Option.some.inj hf
    subst hf
    exact W.vret hx hb hr (fun t ht hW => ⟨⟨(), rfl, trivial, by show va_P g.1 vwCl _ t.heap; rw [ht]; exact hP⟩, hS.F ht⟩) hS.2.2 dX6_tries_283 hlocks
  have w_188 : ∀ n : Nat, ∀ (v4 : Int32) (v5 : Int32) (v6 : Int32) (t_one : (Nat → Int32)) (t_screw : Int32) (H : Heap) (locs : List Loc) (ls : Array Slot), f6_tries_188  N n v4 v5 v6 t_cavities t_one t_screw = some res → va_P g.1 vwCl (fl [wk6 g t_p t_length t_p_text t_text t_cavities t_p_volume t_volume t_p_freeze t_freeze t_cores t_p_earlier t_earlier t_stages t_p_place t_place t_p_now t_now t_p_was t_was t_changes t_p_one t_one t_readCavities t_p_readCavity t_readCavity t_readCores t_p_readCore t_readCore t_readStages t_p_readStage t_readStage t_p_readRule t_readRule t_value t_ends t_screw]) H → va_D A (fl [wk6 g t_p t_length t_p_text t_text t_cavities t_p_volume t_volume t_p_freeze t_freeze t_cores t_p_earlier t_earlier t_stages t_p_place t_place t_p_now t_now t_p_was t_was t_changes t_p_one t_one t_readCavities t_p_readCavity t_readCavity t_readCores t_p_readCore t_readCore t_readStages t_p_readStage t_readStage t_p_readRule t_readRule t_value t_ends t_screw]) → va_S A s.heap H locs → lv_has ls 8 [(0, .ref t_p), (4, .int v4), (5, .int v5), (6, .int v6)] → W p l e ({ frames := 2, cells := 0, slots := 0, locals := 51 }) s m ([.ref t_p, .int l1] : List Value).toArray below meth c H locs 0 0 (MQ below (pQv g (fl [wk6 g t_p t_length t_p_text t_text t_cavities t_p_volume t_volume t_p_freeze t_freeze t_cores t_p_earlier t_earlier t_stages t_p_place t_place t_p_now t_now t_p_was t_was t_changes t_p_one res.1 t_readCavities t_p_readCavity t_readCavity t_readCores t_p_readCore t_readCore t_readStages t_p_readStage t_readStage t_p_readRule t_readRule t_value t_ends res.2]) A) ([.ref t_p, .int l1] : List Value).toArray s 0 0 A) (F0 m 188 ls []) := by
    intro  n
    induction n with
    | zero => intro v4 v5 v6 t_one t_screw H locs ls hf; exact no_some hf
    | succ n ih =>
      intro v4 v5 v6 t_one t_screw H locs ls hf hP hD hS hl
      rw [f6_tries_188] at hf
      refine lv_iload hx hb dX6_tries_188 (lv_at hl 3 rfl) ?_
      refine lv_aload_n hx hb dX6_tries_190 rfl (lv_at hl 0 rfl) ?_
      refine va_get (D := g.1) (ci := 6) (v := .int t_cavities) (C := RX6) (T := TX6) (N := 23) hx hb hts hin6 hown hK.1 hP 0 rfl rfl 2 (by decide) L4 (fun _ h9 => h9) rfl dX6_tries_191 ?_
      refine lv_icmp_ge (tgt := 261) hx hb dX6_tries_194 (by decide) (fun c_20 => ?_) (fun c_20 => ?_)
      · replace hf := (if_pos c_20).symm.trans hf
        refine lv_aload_n hx hb dX6_tries_261 rfl (lv_at hl 0 rfl) ?_
        refine va_get (D := g.1) (ci := 6) (v := .ref t_p_one) (C := RX6) (T := TX6) (N := 23) hx hb hts hin6 hown hK.1 hP 0 rfl rfl 12 (by decide) L2 (fun _ h9 => h9) rfl dX6_tries_262 ?_
        refine lv_iconst (v := 4) hx hb dX6_tries_265 (by decide) ?_
        refine lv_iload hx hb dX6_tries_266 (lv_at hl 1 rfl) ?_
        refine lv_bipush (v := (-4)) hx hb dX6_tries_268 (by decide) ?_
        refine lv_icmp_ne (tgt := 277) hx hb dX6_tries_270 (by decide) (fun c_21 => ?_) (fun c_21 => ?_)
        · replace hf := (if_neg c_21).symm.trans hf
          refine lv_iload hx hb dX6_tries_277 (lv_at hl 2 rfl) ?_
          refine lv_iload hx hb dX6_tries_279 (lv_at hl 1 rfl) ?_
          refine lv_isub hx hb dX6_tries_281 ?_
          exact w_282  4 (v5 - v4) t_one t_screw H locs ls hf hP hD hS (lv_sub hl [] rfl)
        · replace hf := (if_pos c_21).symm.trans hf
          refine lv_iconst (v := 0) hx hb dX6_tries_273 (by decide) ?_
          refine lv_goto (tgt := 282) hx hb dX6_tries_274 (by decide) ?_
          exact w_282  4 0 t_one t_screw H locs ls hf hP hD hS (lv_sub hl [] rfl)
      · replace hf := (if_neg c_20).symm.trans hf
        refine lv_aload_n hx hb dX6_tries_197 rfl (lv_at hl 0 rfl) ?_
        refine va_get (D := g.1) (ci := 6) (v := .ref t_p_one) (C := RX6) (T := TX6) (N := 23) hx hb hts hin6 hown hK.1 hP 0 rfl rfl 12 (by decide) L2 (fun _ h9 => h9) rfl dX6_tries_198 ?_
        refine lv_bipush (v := 72) hx hb dX6_tries_201 (by decide) ?_
        refine lv_iload hx hb dX6_tries_203 (lv_at hl 3 rfl) ?_
        refine lv_iadd hx hb dX6_tries_205 ?_
        obtain ⟨h_22, hf⟩ := if_some hf
        refine va_iald hx hb hK.1 hP 8 0 rfl rfl (ok_in h_22) dX6_tries_206 ?_
        refine lv_istore (lv' := [(7, .int (t_one (Int32.toNatClampNeg (72 + v6)))), (0, .ref t_p), (4, .int v4), (5, .int v5), (6, .int v6)]) hx hb dX6_tries_207 hl (by decide) rfl (fun ls hl => ?_)
        refine lv_iload hx hb dX6_tries_209 (lv_at hl 0 rfl) ?_
        refine lv_bipush (v := (-4)) hx hb dX6_tries_211 (by decide) ?_
        refine lv_icmp_eq (tgt := 235) hx hb dX6_tries_213 (by decide) (fun c_23 => ?_) (fun c_23 => ?_)
        · replace hf := (if_pos c_23).symm.trans hf
          exact w_235 (fun a0 a1 a2 a3 a4 a5 => f6_tries_188 N n a0 a1 a2 a3 a4 a5) ih v4 v5 v6 (t_one (Int32.toNatClampNeg (72 + v6))) t_one t_screw H locs ls hf hP hD hS (lv_sub hl [1, 2, 3, 4, 0] rfl)
        · replace hf := (if_neg c_23).symm.trans hf
          refine lv_iload hx hb dX6_tries_216 (lv_at hl 2 rfl) ?_
          refine lv_bipush (v := (-4)) hx hb dX6_tries_218 (by decide) ?_
          refine lv_icmp_eq (tgt := 230) hx hb dX6_tries_220 (by decide) (fun c_24 => ?_) (fun c_24 => ?_)
          · replace hf := (if_pos c_24).symm.trans hf
            exact w_230 (fun a0 a1 a2 a3 a4 a5 => f6_tries_188 N n a0 a1 a2 a3 a4 a5) ih v5 v6 (t_one (Int32.toNatClampNeg (72 + v6))) t_one t_screw H locs ls hf hP hD hS (lv_sub hl [1, 3, 4, 0] rfl)
          · replace hf := (if_neg c_24).symm.trans hf
            refine lv_iload hx hb dX6_tries_223 (lv_at hl 0 rfl) ?_
            refine lv_iload hx hb dX6_tries_225 (lv_at hl 2 rfl) ?_
            refine lv_icmp_ge (tgt := 235) hx hb dX6_tries_227 (by decide) (fun c_25 => ?_) (fun c_25 => ?_)
            · replace hf := (if_pos c_25).symm.trans hf
              exact w_235 (fun a0 a1 a2 a3 a4 a5 => f6_tries_188 N n a0 a1 a2 a3 a4 a5) ih v4 v5 v6 (t_one (Int32.toNatClampNeg (72 + v6))) t_one t_screw H locs ls hf hP hD hS (lv_sub hl [1, 2, 3, 4, 0] rfl)
            · replace hf := (if_neg c_25).symm.trans hf
              exact w_230 (fun a0 a1 a2 a3 a4 a5 => f6_tries_188 N n a0 a1 a2 a3 a4 a5) ih v5 v6 (t_one (Int32.toNatClampNeg (72 + v6))) t_one t_screw H locs ls hf hP hD hS (lv_sub hl [1, 3, 4, 0] rfl)
  have w_98 : ∀ n : Nat, ∀ (v2 : Int32) (v4 : Int32) (t_one : (Nat → Int32)) (t_screw : Int32) (H : Heap) (locs : List Loc) (ls : Array Slot), f6_tries_98  N n v2 v4 t_cavities t_volume t_freeze t_now t_one t_screw = some res → va_P g.1 vwCl (fl [wk6 g t_p t_length t_p_text t_text t_cavities t_p_volume t_volume t_p_freeze t_freeze t_cores t_p_earlier t_earlier t_stages t_p_place t_place t_p_now t_now t_p_was t_was t_changes t_p_one t_one t_readCavities t_p_readCavity t_readCavity t_readCores t_p_readCore t_readCore t_readStages t_p_readStage t_readStage t_p_readRule t_readRule t_value t_ends t_screw]) H → va_D A (fl [wk6 g t_p t_length t_p_text t_text t_cavities t_p_volume t_volume t_p_freeze t_freeze t_cores t_p_earlier t_earlier t_stages t_p_place t_place t_p_now t_now t_p_was t_was t_changes t_p_one t_one t_readCavities t_p_readCavity t_readCavity t_readCores t_p_readCore t_readCore t_readStages t_p_readStage t_readStage t_p_readRule t_readRule t_value t_ends t_screw]) → va_S A s.heap H locs → lv_has ls 8 [(0, .ref t_p), (2, .int v2), (4, .int v4)] → W p l e ({ frames := 2, cells := 0, slots := 0, locals := 51 }) s m ([.ref t_p, .int l1] : List Value).toArray below meth c H locs 0 0 (MQ below (pQv g (fl [wk6 g t_p t_length t_p_text t_text t_cavities t_p_volume t_volume t_p_freeze t_freeze t_cores t_p_earlier t_earlier t_stages t_p_place t_place t_p_now t_now t_p_was t_was t_changes t_p_one res.1 t_readCavities t_p_readCavity t_readCavity t_readCores t_p_readCore t_readCore t_readStages t_p_readStage t_readStage t_p_readRule t_readRule t_value t_ends res.2]) A) ([.ref t_p, .int l1] : List Value).toArray s 0 0 A) (F0 m 98 ls []) := by
    intro  n
    induction n with
    | zero => intro v2 v4 t_one t_screw H locs ls hf; exact no_some hf
    | succ n ih =>
      intro v2 v4 t_one t_screw H locs ls hf hP hD hS hl
      rw [f6_tries_98] at hf
      refine lv_iload hx hb dX6_tries_98 (lv_at hl 2 rfl) ?_
      refine lv_aload_n hx hb dX6_tries_100 rfl (lv_at hl 0 rfl) ?_
      refine va_get (D := g.1) (ci := 6) (v := .ref t_p_now) (C := RX6) (T := TX6) (N := 23) hx hb hts hin6 hown hK.1 hP 0 rfl rfl 9 (by decide) L3 (fun _ h9 => h9) rfl dX6_tries_101 ?_
      refine lv_sipush (v := 1153) hx hb dX6_tries_104 (by decide) ?_
      obtain ⟨h_11, hf⟩ := if_some hf
      refine va_iald hx hb hK.1 hP 6 0 rfl rfl (ok_in h_11) dX6_tries_107 ?_
      refine lv_icmp_ge (tgt := 144) hx hb dX6_tries_108 (by decide) (fun c_12 => ?_) (fun c_12 => ?_)
      · replace hf := (if_pos c_12).symm.trans hf
        refine lv_aload_n hx hb dX6_tries_144 rfl (lv_at hl 0 rfl) ?_
        refine va_get (D := g.1) (ci := 6) (v := .ref t_p_one) (C := RX6) (T := TX6) (N := 23) hx hb hts hin6 hown hK.1 hP 0 rfl rfl 12 (by decide) L2 (fun _ h9 => h9) rfl dX6_tries_145 ?_
        refine lv_iconst (v := 1) hx hb dX6_tries_148 (by decide) ?_
        refine lv_iload_n hx hb dX6_tries_149 rfl (lv_at hl 1 rfl) ?_
        obtain ⟨h_13, hf⟩ := if_some hf
        refine va_iast hx hb hK.1 hP hD hS 8 0 rfl rfl (ok_in h_13) dX6_tries_150 (fun H locs hP hD hS => ?_)
        replace hP : va_P g.1 vwCl (fl [wk6 g t_p t_length t_p_text t_text t_cavities t_p_volume t_volume t_p_freeze t_freeze t_cores t_p_earlier t_earlier t_stages t_p_place t_place t_p_now t_now t_p_was t_was t_changes t_p_one (upd t_one (Int32.toNatClampNeg 1) v2) t_readCavities t_p_readCavity t_readCavity t_readCores t_p_readCore t_readCore t_readStages t_p_readStage t_readStage t_p_readRule t_readRule t_value t_ends t_screw]) H := hP
        replace hD : va_D A (fl [wk6 g t_p t_length t_p_text t_text t_cavities t_p_volume t_volume t_p_freeze t_freeze t_cores t_p_earlier t_earlier t_stages t_p_place t_place t_p_now t_now t_p_was t_was t_changes t_p_one (upd t_one (Int32.toNatClampNeg 1) v2) t_readCavities t_p_readCavity t_readCavity t_readCores t_p_readCore t_readCore t_readStages t_p_readStage t_readStage t_p_readRule t_readRule t_value t_ends t_screw]) := hD
        refine lv_aload_n hx hb dX6_tries_151 rfl (lv_at hl 0 rfl) ?_
        refine va_get (D := g.1) (ci := 6) (v := .ref t_p_one) (C := RX6) (T := TX6) (N := 23) hx hb hts hin6 hown hK.1 hP 0 rfl rfl 12 (by decide) L2 (fun _ h9 => h9) rfl dX6_tries_152 ?_
        refine lv_iconst (v := 3) hx hb dX6_tries_155 (by decide) ?_
        refine lv_aload_n hx hb dX6_tries_156 rfl (lv_at hl 0 rfl) ?_
        refine va_get (D := g.1) (ci := 6) (v := .int t_screw) (C := RX6) (T := TX6) (N := 23) hx hb hts hin6 hown hK.1 hP 0 rfl rfl 22 (by decide) L1 (fun _ h9 => h9) rfl dX6_tries_157 ?_
        obtain ⟨h_14, hf⟩ := if_some hf
        refine va_iast hx hb hK.1 hP hD hS 8 0 rfl rfl (ok_in h_14) dX6_tries_160 (fun H locs hP hD hS => ?_)
        replace hP : va_P g.1 vwCl (fl [wk6 g t_p t_length t_p_text t_text t_cavities t_p_volume t_volume t_p_freeze t_freeze t_cores t_p_earlier t_earlier t_stages t_p_place t_place t_p_now t_now t_p_was t_was t_changes t_p_one (upd (upd t_one (Int32.toNatClampNeg 1) v2) (Int32.toNatClampNeg 3) t_screw) t_readCavities t_p_readCavity t_readCavity t_readCores t_p_readCore t_readCore t_readStages t_p_readStage t_readStage t_p_readRule t_readRule t_value t_ends t_screw]) H := hP
        replace hD : va_D A (fl [wk6 g t_p t_length t_p_text t_text t_cavities t_p_volume t_volume t_p_freeze t_freeze t_cores t_p_earlier t_earlier t_stages t_p_place t_place t_p_now t_now t_p_was t_was t_changes t_p_one (upd (upd t_one (Int32.toNatClampNeg 1) v2) (Int32.toNatClampNeg 3) t_screw) t_readCavities t_p_readCavity t_readCavity t_readCores t_p_readCore t_readCore t_readStages t_p_readStage t_readStage t_p_readRule t_readRule t_value t_ends t_screw]) := hD
        refine lv_aload_n hx hb dX6_tries_161 rfl (lv_at hl 0 rfl) ?_
        refine va_get (D := g.1) (ci := 6) (v := .ref t_p_one) (C := RX6) (T := TX6) (N := 23) hx hb hts hin6 hown hK.1 hP 0 rfl rfl 12 (by decide) L2 (fun _ h9 => h9) rfl dX6_tries_162 ?_
        refine lv_iconst (v := 5) hx hb dX6_tries_165 (by decide) ?_
        refine lv_iload_n hx hb dX6_tries_166 rfl (lv_at hl 1 rfl) ?_
        refine lv_aload_n hx hb dX6_tries_167 rfl (lv_at hl 0 rfl) ?_
        refine va_get (D := g.1) (ci := 6) (v := .ref t_p_now) (C := RX6) (T := TX6) (N := 23) hx hb hts hin6 hown hK.1 hP 0 rfl rfl 9 (by decide) L3 (fun _ h9 => h9) rfl dX6_tries_168 ?_
        refine lv_sipush (v := 1154) hx hb dX6_tries_171 (by decide) ?_
        obtain ⟨h_15, hf⟩ := if_some hf
        refine va_iald hx hb hK.1 hP 6 0 rfl rfl (ok_in h_15) dX6_tries_174 ?_
        refine lv_iadd hx hb dX6_tries_175 ?_
        obtain ⟨h_16, hf⟩ := if_some hf
        refine va_iast hx hb hK.1 hP hD hS 8 0 rfl rfl (ok_in h_16) dX6_tries_176 (fun H locs hP hD hS => ?_)
        replace hP : va_P g.1 vwCl (fl [wk6 g t_p t_length t_p_text t_text t_cavities t_p_volume t_volume t_p_freeze t_freeze t_cores t_p_earlier t_earlier t_stages t_p_place t_place t_p_now t_now t_p_was t_was t_changes t_p_one (upd (upd (upd t_one (Int32.toNatClampNeg 1) v2) (Int32.toNatClampNeg 3) t_screw) (Int32.toNatClampNeg 5) (v2 + (t_now (Int32.toNatClampNeg 1154)))) t_readCavities t_p_readCavity t_readCavity t_readCores t_p_readCore t_readCore t_readStages t_p_readStage t_readStage t_p_readRule t_readRule t_value t_ends t_screw]) H := hP
        replace hD : va_D A (fl [wk6 g t_p t_length t_p_text t_text t_cavities t_p_volume t_volume t_p_freeze t_freeze t_cores t_p_earlier t_earlier t_stages t_p_place t_place t_p_now t_now t_p_was t_was t_changes t_p_one (upd (upd (upd t_one (Int32.toNatClampNeg 1) v2) (Int32.toNatClampNeg 3) t_screw) (Int32.toNatClampNeg 5) (v2 + (t_now (Int32.toNatClampNeg 1154)))) t_readCavities t_p_readCavity t_readCavity t_readCores t_p_readCore t_readCore t_readStages t_p_readStage t_readStage t_p_readRule t_readRule t_value t_ends t_screw]) := hD
        refine lv_bipush (v := (-4)) hx hb dX6_tries_177 (by decide) ?_
        refine lv_istore (lv' := [(4, .int (-4)), (0, .ref t_p), (2, .int v2)]) hx hb dX6_tries_179 hl (by decide) rfl (fun ls hl => ?_)
        refine lv_bipush (v := (-4)) hx hb dX6_tries_181 (by decide) ?_
        refine lv_istore (lv' := [(5, .int (-4)), (4, .int (-4)), (0, .ref t_p), (2, .int v2)]) hx hb dX6_tries_183 hl (by decide) rfl (fun ls hl => ?_)
        refine lv_iconst (v := 0) hx hb dX6_tries_185 (by decide) ?_
        refine lv_istore (lv' := [(6, .int 0), (5, .int (-4)), (4, .int (-4)), (0, .ref t_p), (2, .int v2)]) hx hb dX6_tries_186 hl (by decide) rfl (fun ls hl => ?_)
        exact w_188  N (-4) (-4) 0 (upd (upd (upd t_one (Int32.toNatClampNeg 1) v2) (Int32.toNatClampNeg 3) t_screw) (Int32.toNatClampNeg 5) (v2 + (t_now (Int32.toNatClampNeg 1154)))) t_screw H locs ls hf hP hD hS (lv_sub hl [3, 2, 1, 0] rfl)
      · replace hf := (if_neg c_12).symm.trans hf
        refine lv_iinc (v := v2 + 1) (lv' := [(2, .int (v2 + 1)), (0, .ref t_p), (4, .int v4)]) hx hb dX6_tries_111 hl (k := 1) rfl rfl (by decide) rfl (fun ls hl => ?_)
        refine lv_aload_n hx hb dX6_tries_114 rfl (lv_at hl 1 rfl) ?_
        refine lv_iload_n hx hb dX6_tries_115 rfl (lv_at hl 0 rfl) ?_
        obtain ⟨q_17, hq_17, hf⟩ := bd_some hf
        refine bft_v (bn := [wk6 g t_p t_length t_p_text t_text t_cavities t_p_volume t_volume t_p_freeze t_freeze t_cores t_p_earlier t_earlier t_stages t_p_place t_place t_p_now t_now t_p_was t_was t_changes t_p_one q_17.1 t_readCavities t_p_readCavity t_readCavity t_readCores t_p_readCore t_readCore t_readStages t_p_readStage t_readStage t_p_readRule t_readRule t_value t_ends q_17.2]) (L := [[t_p, t_p_text, t_p_volume, t_p_freeze, t_p_earlier, t_p_place, t_p_now, t_p_was, t_p_one, t_p_readCavity, t_p_readCore, t_p_readStage, t_p_readRule]]) (va_runV (As := [.int (v2 + 1)]) (rest := []) ⟨hx, hb, hml, hown, hts⟩ (c6_holds l g t_p t_length t_p_text t_text t_cavities t_p_volume t_volume t_p_freeze t_freeze t_cores t_p_earlier t_earlier t_stages t_p_place t_place t_p_now t_now t_p_was t_was t_changes t_p_one t_one t_readCavities t_p_readCavity t_readCavity t_readCores t_p_readCore t_readCore t_readStages t_p_readStage t_readStage t_p_readRule t_readRule t_value t_ends t_screw (v2 + 1) H.size N q_17 hq_17) (cwV 1 hts gX6_tries_X6_holds rfl rfl rfl ⟨rfl, nh6.1, nh6.2, pd_30⟩ ⟨Nat.le_of_ble_eq_true rfl, Nat.le_of_ble_eq_true rfl⟩) (qPV hK hG hP hD hS hA [0] (by decide) rfl (va_recv hK.1 hP (ci := 6) (q0 := 0) rfl rfl)) rfl rfl hl.1 rfl (lv_room (Nat.le_of_ble_eq_true rfl)) dX6_tries_116 ⟨Nat.zero_le _, Nat.zero_le _⟩) hP hD hS hA [0] rfl rfl rfl rfl (fun H locs hP hD hS => ?_)
        refine lv_aload_n hx hb dX6_tries_119 rfl (lv_at hl 1 rfl) ?_
        refine va_get (D := g.1) (ci := 6) (v := .ref t_p_one) (C := RX6) (T := TX6) (N := 23) hx hb hts hin6 hown hK.1 hP 0 rfl rfl 12 (by decide) L2 (fun _ h9 => h9) rfl dX6_tries_120 ?_
        refine lv_bipush (v := 6) hx hb dX6_tries_123 (by decide) ?_
        refine lv_iload_n hx hb dX6_tries_125 rfl (lv_at hl 0 rfl) ?_
        refine lv_iadd hx hb dX6_tries_126 ?_
        refine lv_iconst (v := 1) hx hb dX6_tries_127 (by decide) ?_
        refine lv_isub hx hb dX6_tries_128 ?_
        refine lv_aload_n hx hb dX6_tries_129 rfl (lv_at hl 1 rfl) ?_
        refine va_get (D := g.1) (ci := 6) (v := .ref t_p_now) (C := RX6) (T := TX6) (N := 23) hx hb hts hin6 hown hK.1 hP 0 rfl rfl 9 (by decide) L3 (fun _ h9 => h9) rfl dX6_tries_130 ?_
        refine lv_sipush (v := 1152) hx hb dX6_tries_133 (by decide) ?_
        obtain ⟨h_18, hf⟩ := if_some hf
        refine va_iald hx hb hK.1 hP 6 0 rfl rfl (ok_in h_18) dX6_tries_136 ?_
        obtain ⟨h_19, hf⟩ := if_some hf
        refine va_iast hx hb hK.1 hP hD hS 8 0 rfl rfl (ok_in h_19) dX6_tries_137 (fun H locs hP hD hS => ?_)
        replace hP : va_P g.1 vwCl (fl [wk6 g t_p t_length t_p_text t_text t_cavities t_p_volume t_volume t_p_freeze t_freeze t_cores t_p_earlier t_earlier t_stages t_p_place t_place t_p_now t_now t_p_was t_was t_changes t_p_one (upd q_17.1 (Int32.toNatClampNeg ((6 + (v2 + 1)) - 1)) (t_now (Int32.toNatClampNeg 1152))) t_readCavities t_p_readCavity t_readCavity t_readCores t_p_readCore t_readCore t_readStages t_p_readStage t_readStage t_p_readRule t_readRule t_value t_ends q_17.2]) H := hP
        replace hD : va_D A (fl [wk6 g t_p t_length t_p_text t_text t_cavities t_p_volume t_volume t_p_freeze t_freeze t_cores t_p_earlier t_earlier t_stages t_p_place t_place t_p_now t_now t_p_was t_was t_changes t_p_one (upd q_17.1 (Int32.toNatClampNeg ((6 + (v2 + 1)) - 1)) (t_now (Int32.toNatClampNeg 1152))) t_readCavities t_p_readCavity t_readCavity t_readCores t_p_readCore t_readCore t_readStages t_p_readStage t_readStage t_p_readRule t_readRule t_value t_ends q_17.2]) := hD
        refine lv_iinc (v := v4 + 1) (lv' := [(4, .int (v4 + 1)), (2, .int (v2 + 1)), (0, .ref t_p)]) hx hb dX6_tries_138 hl (k := 2) rfl rfl (by decide) rfl (fun ls hl => ?_)
        refine lv_goto (tgt := 98) hx hb dX6_tries_141 (by decide) ?_
        exact ih (v2 + 1) (v4 + 1) (upd q_17.1 (Int32.toNatClampNeg ((6 + (v2 + 1)) - 1)) (t_now (Int32.toNatClampNeg 1152))) q_17.2 H locs ls hf hP hD hS (lv_sub hl [2, 1, 0] rfl)
  have w_42 : ∀ n : Nat, ∀ (v1 : Int32) (v2 : Int32) (v3 : Int32) (t_one : (Nat → Int32)) (t_screw : Int32) (H : Heap) (locs : List Loc) (ls : Array Slot), f6_tries_42  N n v1 v2 v3 t_cavities t_volume t_freeze t_stages t_place t_now t_one t_screw = some res → va_P g.1 vwCl (fl [wk6 g t_p t_length t_p_text t_text t_cavities t_p_volume t_volume t_p_freeze t_freeze t_cores t_p_earlier t_earlier t_stages t_p_place t_place t_p_now t_now t_p_was t_was t_changes t_p_one t_one t_readCavities t_p_readCavity t_readCavity t_readCores t_p_readCore t_readCore t_readStages t_p_readStage t_readStage t_p_readRule t_readRule t_value t_ends t_screw]) H → va_D A (fl [wk6 g t_p t_length t_p_text t_text t_cavities t_p_volume t_volume t_p_freeze t_freeze t_cores t_p_earlier t_earlier t_stages t_p_place t_place t_p_now t_now t_p_was t_was t_changes t_p_one t_one t_readCavities t_p_readCavity t_readCavity t_readCores t_p_readCore t_readCore t_readStages t_p_readStage t_readStage t_p_readRule t_readRule t_value t_ends t_screw]) → va_S A s.heap H locs → lv_has ls 8 [(0, .ref t_p), (1, .int v1), (2, .int v2), (3, .int v3)] → W p l e ({ frames := 2, cells := 0, slots := 0, locals := 51 }) s m ([.ref t_p, .int l1] : List Value).toArray below meth c H locs 0 0 (MQ below (pQv g (fl [wk6 g t_p t_length t_p_text t_text t_cavities t_p_volume t_volume t_p_freeze t_freeze t_cores t_p_earlier t_earlier t_stages t_p_place t_place t_p_now t_now t_p_was t_was t_changes t_p_one res.1 t_readCavities t_p_readCavity t_readCavity t_readCores t_p_readCore t_readCore t_readStages t_p_readStage t_readStage t_p_readRule t_readRule t_value t_ends res.2]) A) ([.ref t_p, .int l1] : List Value).toArray s 0 0 A) (F0 m 42 ls []) := by
    intro  n
    induction n with
    | zero => intro v1 v2 v3 t_one t_screw H locs ls hf; exact no_some hf
    | succ n ih =>
      intro v1 v2 v3 t_one t_screw H locs ls hf hP hD hS hl
      rw [f6_tries_42] at hf
      refine lv_iload_n hx hb dX6_tries_42 rfl (lv_at hl 3 rfl) ?_
      refine lv_if_ge (tgt := 81) hx hb dX6_tries_43 (by decide) (fun c_3 => ?_) (fun c_3 => ?_)
      · replace hf := (if_pos c_3).symm.trans hf
        refine lv_aload_n hx hb dX6_tries_81 rfl (lv_at hl 0 rfl) ?_
        refine va_get (D := g.1) (ci := 6) (v := .ref t_p_one) (C := RX6) (T := TX6) (N := 23) hx hb hts hin6 hown hK.1 hP 0 rfl rfl 12 (by decide) L2 (fun _ h9 => h9) rfl dX6_tries_82 ?_
        refine lv_iconst (v := 0) hx hb dX6_tries_85 (by decide) ?_
        refine lv_iload_n hx hb dX6_tries_86 rfl (lv_at hl 2 rfl) ?_
        obtain ⟨h_4, hf⟩ := if_some hf
        refine va_iast hx hb hK.1 hP hD hS 8 0 rfl rfl (ok_in h_4) dX6_tries_87 (fun H locs hP hD hS => ?_)
        replace hP : va_P g.1 vwCl (fl [wk6 g t_p t_length t_p_text t_text t_cavities t_p_volume t_volume t_p_freeze t_freeze t_cores t_p_earlier t_earlier t_stages t_p_place t_place t_p_now t_now t_p_was t_was t_changes t_p_one (upd t_one (Int32.toNatClampNeg 0) v2) t_readCavities t_p_readCavity t_readCavity t_readCores t_p_readCore t_readCore t_readStages t_p_readStage t_readStage t_p_readRule t_readRule t_value t_ends t_screw]) H := hP
        replace hD : va_D A (fl [wk6 g t_p t_length t_p_text t_text t_cavities t_p_volume t_volume t_p_freeze t_freeze t_cores t_p_earlier t_earlier t_stages t_p_place t_place t_p_now t_now t_p_was t_was t_changes t_p_one (upd t_one (Int32.toNatClampNeg 0) v2) t_readCavities t_p_readCavity t_readCavity t_readCores t_p_readCore t_readCore t_readStages t_p_readStage t_readStage t_p_readRule t_readRule t_value t_ends t_screw]) := hD
        refine lv_aload_n hx hb dX6_tries_88 rfl (lv_at hl 0 rfl) ?_
        refine va_get (D := g.1) (ci := 6) (v := .ref t_p_one) (C := RX6) (T := TX6) (N := 23) hx hb hts hin6 hown hK.1 hP 0 rfl rfl 12 (by decide) L2 (fun _ h9 => h9) rfl dX6_tries_89 ?_
        refine lv_iconst (v := 2) hx hb dX6_tries_92 (by decide) ?_
        refine lv_iload_n hx hb dX6_tries_93 rfl (lv_at hl 3 rfl) ?_
        obtain ⟨h_5, hf⟩ := if_some hf
        refine va_iast hx hb hK.1 hP hD hS 8 0 rfl rfl (ok_in h_5) dX6_tries_94 (fun H locs hP hD hS => ?_)
        replace hP : va_P g.1 vwCl (fl [wk6 g t_p t_length t_p_text t_text t_cavities t_p_volume t_volume t_p_freeze t_freeze t_cores t_p_earlier t_earlier t_stages t_p_place t_place t_p_now t_now t_p_was t_was t_changes t_p_one (upd (upd t_one (Int32.toNatClampNeg 0) v2) (Int32.toNatClampNeg 2) v3) t_readCavities t_p_readCavity t_readCavity t_readCores t_p_readCore t_readCore t_readStages t_p_readStage t_readStage t_p_readRule t_readRule t_value t_ends t_screw]) H := hP
        replace hD : va_D A (fl [wk6 g t_p t_length t_p_text t_text t_cavities t_p_volume t_volume t_p_freeze t_freeze t_cores t_p_earlier t_earlier t_stages t_p_place t_place t_p_now t_now t_p_was t_was t_changes t_p_one (upd (upd t_one (Int32.toNatClampNeg 0) v2) (Int32.toNatClampNeg 2) v3) t_readCavities t_p_readCavity t_readCavity t_readCores t_p_readCore t_readCore t_readStages t_p_readStage t_readStage t_p_readRule t_readRule t_value t_ends t_screw]) := hD
        refine lv_iconst (v := 0) hx hb dX6_tries_95 (by decide) ?_
        refine lv_istore (lv' := [(4, .int 0), (0, .ref t_p), (1, .int v1), (2, .int v2), (3, .int v3)]) hx hb dX6_tries_96 hl (by decide) rfl (fun ls hl => ?_)
        exact w_98  N v2 0 (upd (upd t_one (Int32.toNatClampNeg 0) v2) (Int32.toNatClampNeg 2) v3) t_screw H locs ls hf hP hD hS (lv_sub hl [1, 3, 0] rfl)
      · replace hf := (if_neg c_3).symm.trans hf
        refine lv_iinc (v := v2 + 1) (lv' := [(2, .int (v2 + 1)), (0, .ref t_p), (1, .int v1), (3, .int v3)]) hx hb dX6_tries_46 hl (k := 2) rfl rfl (by decide) rfl (fun ls hl => ?_)
        refine lv_aload_n hx hb dX6_tries_49 rfl (lv_at hl 1 rfl) ?_
        refine lv_iload_n hx hb dX6_tries_50 rfl (lv_at hl 0 rfl) ?_
        refine lv_iload_n hx hb dX6_tries_51 rfl (lv_at hl 2 rfl) ?_
        obtain ⟨q_6, hq_6, hf⟩ := bd_some hf
        refine bft_i (bn := [wk6 g t_p t_length t_p_text t_text t_cavities t_p_volume t_volume t_p_freeze t_freeze t_cores t_p_earlier t_earlier t_stages t_p_place t_place t_p_now t_now t_p_was t_was t_changes t_p_one q_6.2.1 t_readCavities t_p_readCavity t_readCavity t_readCores t_p_readCore t_readCore t_readStages t_p_readStage t_readStage t_p_readRule t_readRule t_value t_ends q_6.2.2]) (L := [[t_p, t_p_text, t_p_volume, t_p_freeze, t_p_earlier, t_p_place, t_p_now, t_p_was, t_p_one, t_p_readCavity, t_p_readCore, t_p_readStage, t_p_readRule]]) (va_runV (As := [.int (v2 + 1), .int v1]) (rest := []) ⟨hx, hb, hml, hown, hts⟩ (c6_fills l g t_p t_length t_p_text t_text t_cavities t_p_volume t_volume t_p_freeze t_freeze t_cores t_p_earlier t_earlier t_stages t_p_place t_place t_p_now t_now t_p_was t_was t_changes t_p_one t_one t_readCavities t_p_readCavity t_readCavity t_readCores t_p_readCore t_readCore t_readStages t_p_readStage t_readStage t_p_readRule t_readRule t_value t_ends t_screw (v2 + 1) v1 H.size N q_6 hq_6) (cwV 2 hts gX6_tries_X6_fills rfl rfl rfl ⟨rfl, nh6.1, nh6.2, pd_14⟩ ⟨Nat.le_of_ble_eq_true rfl, Nat.le_of_ble_eq_true rfl⟩) (qPV hK hG hP hD hS hA [0] (by decide) rfl (va_recv hK.1 hP (ci := 6) (q0 := 0) rfl rfl)) rfl rfl hl.1 rfl (lv_room (Nat.le_of_ble_eq_true rfl)) dX6_tries_52 ⟨Nat.zero_le _, Nat.zero_le _⟩) hP hD hS hA [0] rfl rfl rfl rfl (fun r_7 H locs hw hP hD hS => ?_)
        replace hw := hw.symm
        subst hw
        refine lv_istore (lv' := [(4, .int q_6.1), (2, .int (v2 + 1)), (0, .ref t_p), (1, .int v1), (3, .int v3)]) hx hb dX6_tries_55 hl (by decide) rfl (fun ls hl => ?_)
        refine lv_aload_n hx hb dX6_tries_57 rfl (lv_at hl 2 rfl) ?_
        refine va_get (D := g.1) (ci := 6) (v := .ref t_p_one) (C := RX6) (T := TX6) (N := 23) hx hb hts hin6 hown hK.1 hP 0 rfl rfl 12 (by decide) L2 (fun _ h9 => h9) rfl dX6_tries_58 ?_
        refine lv_bipush (v := 6) hx hb dX6_tries_61 (by decide) ?_
        refine lv_iload_n hx hb dX6_tries_63 rfl (lv_at hl 1 rfl) ?_
        refine lv_iadd hx hb dX6_tries_64 ?_
        refine lv_iconst (v := 1) hx hb dX6_tries_65 (by decide) ?_
        refine lv_isub hx hb dX6_tries_66 ?_
        refine lv_iload hx hb dX6_tries_67 (lv_at hl 0 rfl) ?_
        obtain ⟨h_8, hf⟩ := if_some hf
        refine va_iast hx hb hK.1 hP hD hS 8 0 rfl rfl (ok_in h_8) dX6_tries_69 (fun H locs hP hD hS => ?_)
        replace hP : va_P g.1 vwCl (fl [wk6 g t_p t_length t_p_text t_text t_cavities t_p_volume t_volume t_p_freeze t_freeze t_cores t_p_earlier t_earlier t_stages t_p_place t_place t_p_now t_now t_p_was t_was t_changes t_p_one (upd q_6.2.1 (Int32.toNatClampNeg ((6 + (v2 + 1)) - 1)) q_6.1) t_readCavities t_p_readCavity t_readCavity t_readCores t_p_readCore t_readCore t_readStages t_p_readStage t_readStage t_p_readRule t_readRule t_value t_ends q_6.2.2]) H := hP
        replace hD : va_D A (fl [wk6 g t_p t_length t_p_text t_text t_cavities t_p_volume t_volume t_p_freeze t_freeze t_cores t_p_earlier t_earlier t_stages t_p_place t_place t_p_now t_now t_p_was t_was t_changes t_p_one (upd q_6.2.1 (Int32.toNatClampNeg ((6 + (v2 + 1)) - 1)) q_6.1) t_readCavities t_p_readCavity t_readCavity t_readCores t_p_readCore t_readCore t_readStages t_p_readStage t_readStage t_p_readRule t_readRule t_value t_ends q_6.2.2]) := hD
        refine lv_aload_n hx hb dX6_tries_70 rfl (lv_at hl 2 rfl) ?_
        refine lv_iload_n hx hb dX6_tries_71 rfl (lv_at hl 1 rfl) ?_
        refine lv_iload hx hb dX6_tries_72 (lv_at hl 0 rfl) ?_
        obtain ⟨q_9, hq_9, hf⟩ := bd_some hf
        refine bft_i (bn := [wk6 g t_p t_length t_p_text t_text t_cavities t_p_volume t_volume t_p_freeze t_freeze t_cores t_p_earlier t_earlier t_stages t_p_place t_place t_p_now t_now t_p_was t_was t_changes t_p_one (upd q_6.2.1 (Int32.toNatClampNeg ((6 + (v2 + 1)) - 1)) q_6.1) t_readCavities t_p_readCavity t_readCavity t_readCores t_p_readCore t_readCore t_readStages t_p_readStage t_readStage t_p_readRule t_readRule t_value t_ends q_6.2.2]) (L := [[t_p, t_p_text, t_p_volume, t_p_freeze, t_p_earlier, t_p_place, t_p_now, t_p_was, t_p_one, t_p_readCavity, t_p_readCore, t_p_readStage, t_p_readRule]]) (va_runV (As := [.int (v2 + 1), .int q_6.1]) (rest := []) ⟨hx, hb, hml, hown, hts⟩ (c6_why l g t_p t_length t_p_text t_text t_cavities t_p_volume t_volume t_p_freeze t_freeze t_cores t_p_earlier t_earlier t_stages t_p_place t_place t_p_now t_now t_p_was t_was t_changes t_p_one (upd q_6.2.1 (Int32.toNatClampNeg ((6 + (v2 + 1)) - 1)) q_6.1) t_readCavities t_p_readCavity t_readCavity t_readCores t_p_readCore t_readCore t_readStages t_p_readStage t_readStage t_p_readRule t_readRule t_value t_ends q_6.2.2 (v2 + 1) q_6.1 H.size N q_9 hq_9) (cwV 2 hts gX6_tries_X6_why rfl rfl rfl ⟨rfl, nh6.1, nh6.2, pd_14⟩ ⟨Nat.le_of_ble_eq_true rfl, Nat.le_of_ble_eq_true rfl⟩) (qPV hK hG hP hD hS hA [0] (by decide) rfl (va_recv hK.1 hP (ci := 6) (q0 := 0) rfl rfl)) rfl rfl hl.1 rfl (lv_room (Nat.le_of_ble_eq_true rfl)) dX6_tries_74 ⟨Nat.zero_le _, Nat.zero_le _⟩) hP hD hS hA [0] rfl rfl rfl rfl (fun r_10 H locs hw hP hD hS => ?_)
        replace hw := hw.symm
        subst hw
        refine lv_istore_n (lv' := [(3, .int q_9), (4, .int q_6.1), (2, .int (v2 + 1)), (0, .ref t_p), (1, .int v1)]) hx hb dX6_tries_77 rfl hl (by decide) rfl (fun ls hl => ?_)
        refine lv_goto (tgt := 42) hx hb dX6_tries_78 (by decide) ?_
        exact ih v1 (v2 + 1) q_9 (upd q_6.2.1 (Int32.toNatClampNeg ((6 + (v2 + 1)) - 1)) q_6.1) q_6.2.2 H locs ls hf hP hD hS (lv_sub hl [3, 4, 2, 0] rfl)
  have w_2 : ∀ n : Nat, ∀ (v1 : Int32) (v2 : Int32) (t_one : (Nat → Int32)) (t_screw : Int32) (H : Heap) (locs : List Loc) (ls : Array Slot), f6_tries_2  N n v1 v2 t_cavities t_volume t_freeze t_stages t_place t_now t_one = some res → va_P g.1 vwCl (fl [wk6 g t_p t_length t_p_text t_text t_cavities t_p_volume t_volume t_p_freeze t_freeze t_cores t_p_earlier t_earlier t_stages t_p_place t_place t_p_now t_now t_p_was t_was t_changes t_p_one t_one t_readCavities t_p_readCavity t_readCavity t_readCores t_p_readCore t_readCore t_readStages t_p_readStage t_readStage t_p_readRule t_readRule t_value t_ends t_screw]) H → va_D A (fl [wk6 g t_p t_length t_p_text t_text t_cavities t_p_volume t_volume t_p_freeze t_freeze t_cores t_p_earlier t_earlier t_stages t_p_place t_place t_p_now t_now t_p_was t_was t_changes t_p_one t_one t_readCavities t_p_readCavity t_readCavity t_readCores t_p_readCore t_readCore t_readStages t_p_readStage t_readStage t_p_readRule t_readRule t_value t_ends t_screw]) → va_S A s.heap H locs → lv_has ls 8 [(0, .ref t_p), (1, .int v1), (2, .int v2)] → W p l e ({ frames := 2, cells := 0, slots := 0, locals := 51 }) s m ([.ref t_p, .int l1] : List Value).toArray below meth c H locs 0 0 (MQ below (pQv g (fl [wk6 g t_p t_length t_p_text t_text t_cavities t_p_volume t_volume t_p_freeze t_freeze t_cores t_p_earlier t_earlier t_stages t_p_place t_place t_p_now t_now t_p_was t_was t_changes t_p_one res.1 t_readCavities t_p_readCavity t_readCavity t_readCores t_p_readCore t_readCore t_readStages t_p_readStage t_readStage t_p_readRule t_readRule t_value t_ends res.2]) A) ([.ref t_p, .int l1] : List Value).toArray s 0 0 A) (F0 m 2 ls []) := by
    intro  n
    induction n with
    | zero => intro v1 v2 t_one t_screw H locs ls hf; exact no_some hf
    | succ n ih =>
      intro v1 v2 t_one t_screw H locs ls hf hP hD hS hl
      rw [f6_tries_2] at hf
      refine lv_iload_n hx hb dX6_tries_2 rfl (lv_at hl 2 rfl) ?_
      refine lv_bipush (v := 84) hx hb dX6_tries_3 (by decide) ?_
      refine lv_icmp_ge (tgt := 32) hx hb dX6_tries_5 (by decide) (fun c_1 => ?_) (fun c_1 => ?_)
      · replace hf := (if_pos c_1).symm.trans hf
        refine lv_aload_n hx hb dX6_tries_32 rfl (lv_at hl 0 rfl) ?_
        refine lv_iconst (v := 0) hx hb dX6_tries_33 (by decide) ?_
        refine va_put (D := g.1) (ci := 6) (v := .int 0) (ty := .int) (C := RX6) (T := TX6) (N := 23) hx hb hts hin6 tyX6 tyX6_ok nmX6 hown hK.1 hP hD hS 0 rfl rfl 22 (by decide) L1 (fun _ h9 => h9) rfl (by decide +kernel) rfl rfl (Nat.le_of_ble_eq_true rfl) dX6_tries_34 (fun H locs hP hD hS => ?_)
        replace hP : va_P g.1 vwCl (fl [wk6 g t_p t_length t_p_text t_text t_cavities t_p_volume t_volume t_p_freeze t_freeze t_cores t_p_earlier t_earlier t_stages t_p_place t_place t_p_now t_now t_p_was t_was t_changes t_p_one t_one t_readCavities t_p_readCavity t_readCavity t_readCores t_p_readCore t_readCore t_readStages t_p_readStage t_readStage t_p_readRule t_readRule t_value t_ends 0]) H := hP
        replace hD : va_D A (fl [wk6 g t_p t_length t_p_text t_text t_cavities t_p_volume t_volume t_p_freeze t_freeze t_cores t_p_earlier t_earlier t_stages t_p_place t_place t_p_now t_now t_p_was t_was t_changes t_p_one t_one t_readCavities t_p_readCavity t_readCavity t_readCores t_p_readCore t_readCore t_readStages t_p_readStage t_readStage t_p_readRule t_readRule t_value t_ends 0]) := hD
        refine lv_iconst (v := 0) hx hb dX6_tries_37 (by decide) ?_
        refine lv_istore_n (lv' := [(2, .int 0), (0, .ref t_p), (1, .int v1)]) hx hb dX6_tries_38 rfl hl (by decide) rfl (fun ls hl => ?_)
        refine lv_bipush (v := (-4)) hx hb dX6_tries_39 (by decide) ?_
        refine lv_istore_n (lv' := [(3, .int (-4)), (2, .int 0), (0, .ref t_p), (1, .int v1)]) hx hb dX6_tries_41 rfl hl (by decide) rfl (fun ls hl => ?_)
        exact w_42  N v1 0 (-4) t_one 0 H locs ls hf hP hD hS (lv_sub hl [2, 3, 1, 0] rfl)
      · replace hf := (if_neg c_1).symm.trans hf
        refine lv_aload_n hx hb dX6_tries_8 rfl (lv_at hl 0 rfl) ?_
        refine va_get (D := g.1) (ci := 6) (v := .ref t_p_one) (C := RX6) (T := TX6) (N := 23) hx hb hts hin6 hown hK.1 hP 0 rfl rfl 12 (by decide) L2 (fun _ h9 => h9) rfl dX6_tries_9 ?_
        refine lv_iload_n hx hb dX6_tries_12 rfl (lv_at hl 2 rfl) ?_
        refine lv_iload_n hx hb dX6_tries_13 rfl (lv_at hl 2 rfl) ?_
        refine lv_bipush (v := 72) hx hb dX6_tries_14 (by decide) ?_
        refine lv_icmp_lt (tgt := 24) hx hb dX6_tries_16 (by decide) (fun c_2 => ?_) (fun c_2 => ?_)
        · replace hf := (if_pos c_2).symm.trans hf
          refine lv_iconst (v := 0) hx hb dX6_tries_24 (by decide) ?_
          exact w_25 (fun a0 a1 a2 a3 a4 a5 a6 a7 a8 => f6_tries_2 N n a0 a1 a2 a3 a4 a5 a6 a7 a8) ih v1 v2 v2 0 t_one t_screw H locs ls hf hP hD hS (lv_sub hl [0, 1, 2] rfl)
        · replace hf := (if_neg c_2).symm.trans hf
          refine lv_bipush (v := (-4)) hx hb dX6_tries_19 (by decide) ?_
          refine lv_goto (tgt := 25) hx hb dX6_tries_21 (by decide) ?_
          exact w_25 (fun a0 a1 a2 a3 a4 a5 a6 a7 a8 => f6_tries_2 N n a0 a1 a2 a3 a4 a5 a6 a7 a8) ih v1 v2 v2 (-4) t_one t_screw H locs ls hf hP hD hS (lv_sub hl [0, 1, 2] rfl)
  have hl := lv_entry ([.ref t_p, .int l1]) (n := 8) (Nat.le_of_ble_eq_true rfl)
  rw [lg_entry_eq]
  generalize (lg_sl ([.ref t_p, .int l1]) ++ List.replicate (8 - (lg_sl ([.ref t_p, .int l1])).length) Slot.unset).toArray = ls at hl ⊢
  replace hl : lv_has ls 8 [(0, .ref t_p), (1, .int l1)] := hl
  rw [f6_tries] at hf
  have hgo : ∀ (H : Heap) (locs : List Loc), H = s.heap → locs = [] → va_P g.1 vwCl (fl [wk6 g t_p t_length t_p_text t_text t_cavities t_p_volume t_volume t_p_freeze t_freeze t_cores t_p_earlier t_earlier t_stages t_p_place t_place t_p_now t_now t_p_was t_was t_changes t_p_one t_one t_readCavities t_p_readCavity t_readCavity t_readCores t_p_readCore t_readCore t_readStages t_p_readStage t_readStage t_p_readRule t_readRule t_value t_ends t_screw]) H → va_S A s.heap H locs → W p l e ({ frames := 2, cells := 0, slots := 0, locals := 51 }) s m ([.ref t_p, .int l1] : List Value).toArray below meth c H locs 0 0 (MQ below (pQv g (fl [wk6 g t_p t_length t_p_text t_text t_cavities t_p_volume t_volume t_p_freeze t_freeze t_cores t_p_earlier t_earlier t_stages t_p_place t_place t_p_now t_now t_p_was t_was t_changes t_p_one res.1 t_readCavities t_p_readCavity t_readCavity t_readCores t_p_readCore t_readCore t_readStages t_p_readStage t_readStage t_p_readRule t_readRule t_value t_ends res.2]) A) ([.ref t_p, .int l1] : List Value).toArray s 0 0 A) (F0 m 0 ls []) := by
    intro H locs hH hL hP hS
    refine lv_iconst (v := 0) hx hb dX6_tries_0 (by decide) ?_
    refine lv_istore_n (lv' := [(2, .int 0), (0, .ref t_p), (1, .int l1)]) hx hb dX6_tries_1 rfl hl (by decide) rfl (fun ls hl => ?_)
    exact w_2  N l1 0 t_one t_screw H locs ls hf hP hD hS (lv_sub hl [1, 2, 0] rfl)
  exact hgo s.heap [] rfl rfl hP hS

set_option maxHeartbeats 4000000 in
set_option maxRecDepth 100000 in
theorem c6_told (l : Launch) (g : gG) (o1_p : Nat) (o1_n : Nat) (o1_v : (Nat → Int32)) (l1 : Int32) (l2 : Int32) (sz : Nat) (N : Nat) (res : (Int32)) (hf : f6_told N l1 l2 o1_n o1_v = some res) : Met l yX6_told wsX6_told ({ frames := 0, cells := 0, slots := 0, locals := 0 }) (pP g [.ref o1_p, .int l1, .int l2] sz (fl [wkA g o1_n o1_p o1_v])) (pQi g (fun r => r = res) (fl [wkA g o1_n o1_p o1_v]) (va_A (fl [wkA g o1_n o1_p o1_v]) sz)) 0 0 (va_A (fl [wkA g o1_n o1_p o1_v]) sz) := by
  refine Met.ofW (cc := cX6_told) (maxL := 5) (ret := (some .int)) (by decide) rfl ?_
  intro p e s m args below meth c s₁ B hml hv
  obtain ⟨rfl, hsz, hP, hK, hD0, hG⟩ := hv
  have hx := B.exec
  have hb := B.bytes
  have hr := B.returns
  have hts := atoms_spec (ws := wsX6_told) B.pre
  have hown : s.vm.findClass RX6 = some m.cls := findClass_of_methodNamed B.named
  have hlocks := B.notSynchronized
  subst hsz
  have hD := hD0.self (sz := s.heap.size)
  generalize hAe : va_A (fl [wkA g o1_n o1_p o1_v]) s.heap.size = A at hD hG ⊢
  have hA : ∀ q : Nat, s.heap.size ≤ q → A q := fun q h => by rw [← hAe]; exact Or.inr h
  have hS : va_S A s.heap s.heap [] := va_S.rf
  have w_11 : ∀ n : Nat, ∀ (v1 : Int32) (v3 : Int32) (v4 : Int32)  (H : Heap) (locs : List Loc) (ls : Array Slot), f6_told_11  N n v1 v3 v4 o1_n o1_v = some res → va_P g.1 vwCl (fl [wkA g o1_n o1_p o1_v]) H → va_D A (fl [wkA g o1_n o1_p o1_v]) → va_S A s.heap H locs → lv_has ls 5 [(0, .ref o1_p), (1, .int v1), (3, .int v3), (4, .int v4)] → W p l e ({ frames := 0, cells := 0, slots := 0, locals := 0 }) s m ([.ref o1_p, .int l1, .int l2] : List Value).toArray below meth c H locs 0 0 (MQ below (pQi g (fun r => r = res) (fl [wkA g o1_n o1_p o1_v]) A) ([.ref o1_p, .int l1, .int l2] : List Value).toArray s 0 0 A) (F0 m 11 ls []) := by
    intro  n
    induction n with
    | zero => intro v1 v3 v4 H locs ls hf; exact no_some hf
    | succ n ih =>
      intro v1 v3 v4 H locs ls hf hP hD hS hl
      rw [f6_told_11] at hf
      refine lv_iload hx hb dX6_told_11 (lv_at hl 3 rfl) ?_
      refine lv_bipush (v := 60) hx hb dX6_told_13 (by decide) ?_
      refine lv_icmp_ge (tgt := 51) hx hb dX6_told_15 (by decide) (fun c_5 => ?_) (fun c_5 => ?_)
      · replace hf := (if_pos c_5).symm.trans hf
        refine lv_iload_n hx hb dX6_told_51 rfl (lv_at hl 2 rfl) ?_
        replace hf := Option.some.inj hf
        subst hf
        exact W.iret (v := v3) hx hb hr (fun t ht hW => ⟨⟨_, (), rfl, rfl, by show va_P g.1 vwCl _ t.heap; rw [ht]; exact hP⟩, hS.F ht⟩) hS.2.2 dX6_told_52 hlocks
      · replace hf := (if_neg c_5).symm.trans hf
        refine lv_aload_n hx hb dX6_told_18 rfl (lv_at hl 0 rfl) ?_
        refine lv_iload_n hx hb dX6_told_19 rfl (lv_at hl 1 rfl) ?_
        refine lv_bipush (v := 6) hx hb dX6_told_20 (by decide) ?_
        refine lv_iadd hx hb dX6_told_22 ?_
        refine lv_iload hx hb dX6_told_23 (lv_at hl 3 rfl) ?_
        refine lv_iadd hx hb dX6_told_25 ?_
        obtain ⟨h_6, hf⟩ := if_some hf
        refine va_iald hx hb hK.1 hP 0 0 rfl rfl (ok_in h_6) dX6_told_26 ?_
        refine lv_iload_n hx hb dX6_told_27 rfl (lv_at hl 2 rfl) ?_
        refine lv_icmp_le (tgt := 43) hx hb dX6_told_28 (by decide) (fun c_7 => ?_) (fun c_7 => ?_)
        · replace hf := (if_pos c_7).symm.trans hf
          refine lv_iload_n hx hb dX6_told_43 rfl (lv_at hl 2 rfl) ?_
          refine lv_istore_n (lv' := [(3, .int v3), (0, .ref o1_p), (1, .int v1), (4, .int v4)]) hx hb dX6_told_44 rfl hl (by decide) rfl (fun ls hl => ?_)
          refine lv_iinc (v := v4 + 1) (lv' := [(4, .int (v4 + 1)), (3, .int v3), (0, .ref o1_p), (1, .int v1)]) hx hb dX6_told_45 hl (k := 3) rfl rfl (by decide) rfl (fun ls hl => ?_)
          refine lv_goto (tgt := 11) hx hb dX6_told_48 (by decide) ?_
          exact ih v1 v3 (v4 + 1) H locs ls hf hP hD hS (lv_sub hl [2, 3, 1, 0] rfl)
        · replace hf := (if_neg c_7).symm.trans hf
          refine lv_aload_n hx hb dX6_told_31 rfl (lv_at hl 0 rfl) ?_
          refine lv_iload_n hx hb dX6_told_32 rfl (lv_at hl 1 rfl) ?_
          refine lv_bipush (v := 6) hx hb dX6_told_33 (by decide) ?_
          refine lv_iadd hx hb dX6_told_35 ?_
          refine lv_iload hx hb dX6_told_36 (lv_at hl 3 rfl) ?_
          refine lv_iadd hx hb dX6_told_38 ?_
          obtain ⟨h_8, hf⟩ := if_some hf
          refine va_iald hx hb hK.1 hP 0 0 rfl rfl (ok_in h_8) dX6_told_39 ?_
          refine lv_goto (tgt := 44) hx hb dX6_told_40 (by decide) ?_
          refine lv_istore_n (lv' := [(3, .int (o1_v (Int32.toNatClampNeg ((v1 + 6) + v4)))), (0, .ref o1_p), (1, .int v1), (4, .int v4)]) hx hb dX6_told_44 rfl hl (by decide) rfl (fun ls hl => ?_)
          refine lv_iinc (v := v4 + 1) (lv' := [(4, .int (v4 + 1)), (3, .int (o1_v (Int32.toNatClampNeg ((v1 + 6) + v4)))), (0, .ref o1_p), (1, .int v1)]) hx hb dX6_told_45 hl (k := 3) rfl rfl (by decide) rfl (fun ls hl => ?_)
          refine lv_goto (tgt := 11) hx hb dX6_told_48 (by decide) ?_
          exact ih v1 (o1_v (Int32.toNatClampNeg ((v1 + 6) + v4))) (v4 + 1) H locs ls hf hP hD hS (lv_sub hl [2, 3, 1, 0] rfl)
  have hl := lv_entry ([.ref o1_p, .int l1, .int l2]) (n := 5) (Nat.le_of_ble_eq_true rfl)
  rw [lg_entry_eq]
  generalize (lg_sl ([.ref o1_p, .int l1, .int l2]) ++ List.replicate (5 - (lg_sl ([.ref o1_p, .int l1, .int l2])).length) Slot.unset).toArray = ls at hl ⊢
  replace hl : lv_has ls 5 [(0, .ref o1_p), (1, .int l1), (2, .int l2)] := hl
  rw [f6_told] at hf
  have hgo : ∀ (H : Heap) (locs : List Loc), H = s.heap → locs = [] → va_P g.1 vwCl (fl [wkA g o1_n o1_p o1_v]) H → va_S A s.heap H locs → W p l e ({ frames := 0, cells := 0, slots := 0, locals := 0 }) s m ([.ref o1_p, .int l1, .int l2] : List Value).toArray below meth c H locs 0 0 (MQ below (pQi g (fun r => r = res) (fl [wkA g o1_n o1_p o1_v]) A) ([.ref o1_p, .int l1, .int l2] : List Value).toArray s 0 0 A) (F0 m 0 ls []) := by
    intro H locs hH hL hP hS
    refine lv_iload_n hx hb dX6_told_0 rfl (lv_at hl 2 rfl) ?_
    refine lv_bipush (v := 6) hx hb dX6_told_1 (by decide) ?_
    refine lv_icmp_ne (tgt := 53) hx hb dX6_told_3 (by decide) (fun c_1 => ?_) (fun c_1 => ?_)
    · replace hf := (if_neg c_1).symm.trans hf
      refine lv_iload_n hx hb dX6_told_53 rfl (lv_at hl 2 rfl) ?_
      refine lv_iconst (v := 3) hx hb dX6_told_54 (by decide) ?_
      refine lv_icmp_ne (tgt := 69) hx hb dX6_told_55 (by decide) (fun c_2 => ?_) (fun c_2 => ?_)
      · replace hf := (if_neg c_2).symm.trans hf
        refine lv_aload_n hx hb dX6_told_69 rfl (lv_at hl 0 rfl) ?_
        refine lv_iload_n hx hb dX6_told_70 rfl (lv_at hl 1 rfl) ?_
        refine lv_iload_n hx hb dX6_told_71 rfl (lv_at hl 2 rfl) ?_
        refine lv_iadd hx hb dX6_told_72 ?_
        obtain ⟨h_3, hf⟩ := if_some hf
        refine va_iald hx hb hK.1 hP 0 0 rfl rfl (ok_in h_3) dX6_told_73 ?_
        replace hf := Option.some.inj hf
        subst hf
        exact W.iret (v := o1_v (Int32.toNatClampNeg (l1 + l2))) hx hb hr (fun t ht hW => ⟨⟨_, (), rfl, rfl, by show va_P g.1 vwCl _ t.heap; rw [ht]; exact hP⟩, hS.F ht⟩) hS.2.2 dX6_told_74 hlocks
      · replace hf := (if_pos c_2).symm.trans hf
        refine lv_bipush (v := 99) hx hb dX6_told_58 (by decide) ?_
        refine lv_aload_n hx hb dX6_told_60 rfl (lv_at hl 0 rfl) ?_
        refine lv_iload_n hx hb dX6_told_61 rfl (lv_at hl 1 rfl) ?_
        refine lv_iconst (v := 3) hx hb dX6_told_62 (by decide) ?_
        refine lv_iadd hx hb dX6_told_63 ?_
        obtain ⟨h_4, hf⟩ := if_some hf
        refine va_iald hx hb hK.1 hP 0 0 rfl rfl (ok_in h_4) dX6_told_64 ?_
        refine lv_isub hx hb dX6_told_65 ?_
        refine lv_goto (tgt := 74) hx hb dX6_told_66 (by decide) ?_
        replace hf := Option.some.inj hf
        subst hf
        exact W.iret (v := 99 - (o1_v (Int32.toNatClampNeg (l1 + 3)))) hx hb hr (fun t ht hW => ⟨⟨_, (), rfl, rfl, by show va_P g.1 vwCl _ t.heap; rw [ht]; exact hP⟩, hS.F ht⟩) hS.2.2 dX6_told_74 hlocks
    · replace hf := (if_pos c_1).symm.trans hf
      refine lv_iconst (v := 0) hx hb dX6_told_6 (by decide) ?_
      refine lv_istore_n (lv' := [(3, .int 0), (0, .ref o1_p), (1, .int l1), (2, .int l2)]) hx hb dX6_told_7 rfl hl (by decide) rfl (fun ls hl => ?_)
      refine lv_iconst (v := 0) hx hb dX6_told_8 (by decide) ?_
      refine lv_istore (lv' := [(4, .int 0), (3, .int 0), (0, .ref o1_p), (1, .int l1), (2, .int l2)]) hx hb dX6_told_9 hl (by decide) rfl (fun ls hl => ?_)
      exact w_11  N l1 0 0 H locs ls hf hP hD hS (lv_sub hl [2, 3, 1, 0] rfl)
  exact hgo s.heap [] rfl rfl hP hS

set_option maxHeartbeats 4000000 in
set_option maxRecDepth 100000 in
theorem c6_keeps (l : Launch) (g : gG) (t_p : Nat) (t_length : Int32) (t_p_text : Nat) (t_text : (Nat → Int32)) (t_cavities : Int32) (t_p_volume : Nat) (t_volume : (Nat → Int32)) (t_p_freeze : Nat) (t_freeze : (Nat → Int32)) (t_cores : Int32) (t_p_earlier : Nat) (t_earlier : (Nat → Int32)) (t_stages : Int32) (t_p_place : Nat) (t_place : (Nat → Int32)) (t_p_now : Nat) (t_now : (Nat → Int32)) (t_p_was : Nat) (t_was : (Nat → Int32)) (t_changes : Int32) (t_p_one : Nat) (t_one : (Nat → Int32)) (t_readCavities : Int32) (t_p_readCavity : Nat) (t_readCavity : (Nat → Int32)) (t_readCores : Int32) (t_p_readCore : Nat) (t_readCore : (Nat → Int32)) (t_readStages : Int32) (t_p_readStage : Nat) (t_readStage : (Nat → Int32)) (t_p_readRule : Nat) (t_readRule : (Nat → Int32)) (t_value : Int32) (t_ends : Int32) (t_screw : Int32) (sz : Nat) (N : Nat) (res : ((Nat → Int32) × Int32)) (hf : f6_keeps N t_now t_was t_changes = some res) : Met l yX6_keeps wsX6_keeps ({ frames := 0, cells := 0, slots := 0, locals := 0 }) (pP g [.ref t_p] sz (fl [wk6 g t_p t_length t_p_text t_text t_cavities t_p_volume t_volume t_p_freeze t_freeze t_cores t_p_earlier t_earlier t_stages t_p_place t_place t_p_now t_now t_p_was t_was t_changes t_p_one t_one t_readCavities t_p_readCavity t_readCavity t_readCores t_p_readCore t_readCore t_readStages t_p_readStage t_readStage t_p_readRule t_readRule t_value t_ends t_screw])) (pQv g (fl [wk6 g t_p t_length t_p_text t_text t_cavities t_p_volume t_volume t_p_freeze t_freeze t_cores t_p_earlier t_earlier t_stages t_p_place t_place t_p_now t_now t_p_was res.1 res.2 t_p_one t_one t_readCavities t_p_readCavity t_readCavity t_readCores t_p_readCore t_readCore t_readStages t_p_readStage t_readStage t_p_readRule t_readRule t_value t_ends t_screw]) (va_A (fl [wk6 g t_p t_length t_p_text t_text t_cavities t_p_volume t_volume t_p_freeze t_freeze t_cores t_p_earlier t_earlier t_stages t_p_place t_place t_p_now t_now t_p_was t_was t_changes t_p_one t_one t_readCavities t_p_readCavity t_readCavity t_readCores t_p_readCore t_readCore t_readStages t_p_readStage t_readStage t_p_readRule t_readRule t_value t_ends t_screw]) sz)) 0 0 (va_A (fl [wk6 g t_p t_length t_p_text t_text t_cavities t_p_volume t_volume t_p_freeze t_freeze t_cores t_p_earlier t_earlier t_stages t_p_place t_place t_p_now t_now t_p_was t_was t_changes t_p_one t_one t_readCavities t_p_readCavity t_readCavity t_readCores t_p_readCore t_readCore t_readStages t_p_readStage t_readStage t_p_readRule t_readRule t_value t_ends t_screw]) sz) := by
  refine Met.ofW (cc := cX6_keeps) (maxL := 2) (ret := none) (by decide) rfl ?_
  intro p e s m args below meth c s₁ B hml hv
  obtain ⟨rfl, hsz, hP, hK, hD0, hG⟩ := hv
  have hx := B.exec
  have hb := B.bytes
  have hr := B.returns
  have hts := atoms_spec (ws := wsX6_keeps) B.pre
  have hown : s.vm.findClass RX6 = some m.cls := findClass_of_methodNamed B.named
  have hlocks := B.notSynchronized
  subst hsz
  have hD := hD0.self (sz := s.heap.size)
  generalize hAe : va_A (fl [wk6 g t_p t_length t_p_text t_text t_cavities t_p_volume t_volume t_p_freeze t_freeze t_cores t_p_earlier t_earlier t_stages t_p_place t_place t_p_now t_now t_p_was t_was t_changes t_p_one t_one t_readCavities t_p_readCavity t_readCavity t_readCores t_p_readCore t_readCore t_readStages t_p_readStage t_readStage t_p_readRule t_readRule t_value t_ends t_screw]) s.heap.size = A at hD hG ⊢
  have hA : ∀ q : Nat, s.heap.size ≤ q → A q := fun q h => by rw [← hAe]; exact Or.inr h
  have hS : va_S A s.heap s.heap [] := va_S.rf
  have hin6 : ∀ w ∈ u_ws RX6 TX6 23, w ∈ wsX6_keeps := by decide +kernel
  have L1 := hts (Cond.fieldLink RX6 79 "MouldShotsModel" "changes" "I") (by decide +kernel)
  have L2 := hts (Cond.fieldLink RX6 28 "MouldShotsModel" "was" "[I") (by decide +kernel)
  have L3 := hts (Cond.fieldLink RX6 25 "MouldShotsModel" "now" "[I") (by decide +kernel)
  have w_51 : ∀ n : Nat, ∀ (v1 : Int32) (t_was : (Nat → Int32)) (t_changes : Int32) (H : Heap) (locs : List Loc) (ls : Array Slot), f6_keeps_51  N n v1 t_now t_was t_changes = some res → va_P g.1 vwCl (fl [wk6 g t_p t_length t_p_text t_text t_cavities t_p_volume t_volume t_p_freeze t_freeze t_cores t_p_earlier t_earlier t_stages t_p_place t_place t_p_now t_now t_p_was t_was t_changes t_p_one t_one t_readCavities t_p_readCavity t_readCavity t_readCores t_p_readCore t_readCore t_readStages t_p_readStage t_readStage t_p_readRule t_readRule t_value t_ends t_screw]) H → va_D A (fl [wk6 g t_p t_length t_p_text t_text t_cavities t_p_volume t_volume t_p_freeze t_freeze t_cores t_p_earlier t_earlier t_stages t_p_place t_place t_p_now t_now t_p_was t_was t_changes t_p_one t_one t_readCavities t_p_readCavity t_readCavity t_readCores t_p_readCore t_readCore t_readStages t_p_readStage t_readStage t_p_readRule t_readRule t_value t_ends t_screw]) → va_S A s.heap H locs → lv_has ls 2 [(0, .ref t_p), (1, .int v1)] → W p l e ({ frames := 0, cells := 0, slots := 0, locals := 0 }) s m ([.ref t_p] : List Value).toArray below meth c H locs 0 0 (MQ below (pQv g (fl [wk6 g t_p t_length t_p_text t_text t_cavities t_p_volume t_volume t_p_freeze t_freeze t_cores t_p_earlier t_earlier t_stages t_p_place t_place t_p_now t_now t_p_was res.1 res.2 t_p_one t_one t_readCavities t_p_readCavity t_readCavity t_readCores t_p_readCore t_readCore t_readStages t_p_readStage t_readStage t_p_readRule t_readRule t_value t_ends t_screw]) A) ([.ref t_p] : List Value).toArray s 0 0 A) (F0 m 51 ls []) := by
    intro  n
    induction n with
    | zero => intro v1 t_was t_changes H locs ls hf; exact no_some hf
    | succ n ih =>
      intro v1 t_was t_changes H locs ls hf hP hD hS hl
      rw [f6_keeps_51] at hf
      refine lv_iload_n hx hb dX6_keeps_51 rfl (lv_at hl 1 rfl) ?_
      refine lv_sipush (v := 1155) hx hb dX6_keeps_52 (by decide) ?_
      refine lv_icmp_ge (tgt := 85) hx hb dX6_keeps_55 (by decide) (fun c_2 => ?_) (fun c_2 => ?_)
      · replace hf := (if_pos c_2).symm.trans hf
        refine lv_aload_n hx hb dX6_keeps_85 rfl (lv_at hl 0 rfl) ?_
        refine lv_dup hx hb dX6_keeps_86 rfl ?_
        refine va_get (D := g.1) (ci := 6) (v := .int t_changes) (C := RX6) (T := TX6) (N := 23) hx hb hts hin6 hown hK.1 hP 0 rfl rfl 11 (by decide) L1 (fun _ h9 => h9) rfl dX6_keeps_87 ?_
        refine lv_iconst (v := 1) hx hb dX6_keeps_90 (by decide) ?_
        refine lv_iadd hx hb dX6_keeps_91 ?_
        refine va_put (D := g.1) (ci := 6) (v := .int (t_changes + 1)) (ty := .int) (C := RX6) (T := TX6) (N := 23) hx hb hts hin6 tyX6 tyX6_ok nmX6 hown hK.1 hP hD hS 0 rfl rfl 11 (by decide) L1 (fun _ h9 => h9) rfl (by decide +kernel) rfl rfl (Nat.le_of_ble_eq_true rfl) dX6_keeps_92 (fun H locs hP hD hS => ?_)
        replace hP : va_P g.1 vwCl (fl [wk6 g t_p t_length t_p_text t_text t_cavities t_p_volume t_volume t_p_freeze t_freeze t_cores t_p_earlier t_earlier t_stages t_p_place t_place t_p_now t_now t_p_was t_was (t_changes + 1) t_p_one t_one t_readCavities t_p_readCavity t_readCavity t_readCores t_p_readCore t_readCore t_readStages t_p_readStage t_readStage t_p_readRule t_readRule t_value t_ends t_screw]) H := hP
        replace hD : va_D A (fl [wk6 g t_p t_length t_p_text t_text t_cavities t_p_volume t_volume t_p_freeze t_freeze t_cores t_p_earlier t_earlier t_stages t_p_place t_place t_p_now t_now t_p_was t_was (t_changes + 1) t_p_one t_one t_readCavities t_p_readCavity t_readCavity t_readCores t_p_readCore t_readCore t_readStages t_p_readStage t_readStage t_p_readRule t_readRule t_value t_ends t_screw]) := hD
        replace hf := Option.some.inj hf
        subst hf
        exact W.vret hx hb hr (fun t ht hW => ⟨⟨(), rfl, trivial, by show va_P g.1 vwCl _ t.heap; rw [ht]; exact hP⟩, hS.F ht⟩) hS.2.2 dX6_keeps_95 hlocks
      · replace hf := (if_neg c_2).symm.trans hf
        refine lv_aload_n hx hb dX6_keeps_58 rfl (lv_at hl 0 rfl) ?_
        refine va_get (D := g.1) (ci := 6) (v := .ref t_p_was) (C := RX6) (T := TX6) (N := 23) hx hb hts hin6 hown hK.1 hP 0 rfl rfl 10 (by decide) L2 (fun _ h9 => h9) rfl dX6_keeps_59 ?_
        refine lv_sipush (v := 1155) hx hb dX6_keeps_62 (by decide) ?_
        refine lv_aload_n hx hb dX6_keeps_65 rfl (lv_at hl 0 rfl) ?_
        refine va_get (D := g.1) (ci := 6) (v := .int t_changes) (C := RX6) (T := TX6) (N := 23) hx hb hts hin6 hown hK.1 hP 0 rfl rfl 11 (by decide) L1 (fun _ h9 => h9) rfl dX6_keeps_66 ?_
        refine lv_imul hx hb dX6_keeps_69 ?_
        refine lv_iload_n hx hb dX6_keeps_70 rfl (lv_at hl 1 rfl) ?_
        refine lv_iadd hx hb dX6_keeps_71 ?_
        refine lv_aload_n hx hb dX6_keeps_72 rfl (lv_at hl 0 rfl) ?_
        refine va_get (D := g.1) (ci := 6) (v := .ref t_p_now) (C := RX6) (T := TX6) (N := 23) hx hb hts hin6 hown hK.1 hP 0 rfl rfl 9 (by decide) L3 (fun _ h9 => h9) rfl dX6_keeps_73 ?_
        refine lv_iload_n hx hb dX6_keeps_76 rfl (lv_at hl 1 rfl) ?_
        obtain ⟨h_3, hf⟩ := if_some hf
        refine va_iald hx hb hK.1 hP 6 0 rfl rfl (ok_in h_3) dX6_keeps_77 ?_
        obtain ⟨h_4, hf⟩ := if_some hf
        refine va_iast hx hb hK.1 hP hD hS 7 0 rfl rfl (ok_in h_4) dX6_keeps_78 (fun H locs hP hD hS => ?_)
        replace hP : va_P g.1 vwCl (fl [wk6 g t_p t_length t_p_text t_text t_cavities t_p_volume t_volume t_p_freeze t_freeze t_cores t_p_earlier t_earlier t_stages t_p_place t_place t_p_now t_now t_p_was (upd t_was (Int32.toNatClampNeg ((1155 * t_changes) + v1)) (t_now (Int32.toNatClampNeg v1))) t_changes t_p_one t_one t_readCavities t_p_readCavity t_readCavity t_readCores t_p_readCore t_readCore t_readStages t_p_readStage t_readStage t_p_readRule t_readRule t_value t_ends t_screw]) H := hP
        replace hD : va_D A (fl [wk6 g t_p t_length t_p_text t_text t_cavities t_p_volume t_volume t_p_freeze t_freeze t_cores t_p_earlier t_earlier t_stages t_p_place t_place t_p_now t_now t_p_was (upd t_was (Int32.toNatClampNeg ((1155 * t_changes) + v1)) (t_now (Int32.toNatClampNeg v1))) t_changes t_p_one t_one t_readCavities t_p_readCavity t_readCavity t_readCores t_p_readCore t_readCore t_readStages t_p_readStage t_readStage t_p_readRule t_readRule t_value t_ends t_screw]) := hD
        refine lv_iinc (v := v1 + 1) (lv' := [(1, .int (v1 + 1)), (0, .ref t_p)]) hx hb dX6_keeps_79 hl (k := 1) rfl rfl (by decide) rfl (fun ls hl => ?_)
        refine lv_goto (tgt := 51) hx hb dX6_keeps_82 (by decide) ?_
        exact ih (v1 + 1) (upd t_was (Int32.toNatClampNeg ((1155 * t_changes) + v1)) (t_now (Int32.toNatClampNeg v1))) t_changes H locs ls hf hP hD hS (lv_sub hl [1, 0] rfl)
  have w_10 : ∀ n : Nat, ∀ (v1 : Int32) (t_was : (Nat → Int32)) (t_changes : Int32) (H : Heap) (locs : List Loc) (ls : Array Slot), f6_keeps_10  N n v1 t_now t_was t_changes = some res → va_P g.1 vwCl (fl [wk6 g t_p t_length t_p_text t_text t_cavities t_p_volume t_volume t_p_freeze t_freeze t_cores t_p_earlier t_earlier t_stages t_p_place t_place t_p_now t_now t_p_was t_was t_changes t_p_one t_one t_readCavities t_p_readCavity t_readCavity t_readCores t_p_readCore t_readCore t_readStages t_p_readStage t_readStage t_p_readRule t_readRule t_value t_ends t_screw]) H → va_D A (fl [wk6 g t_p t_length t_p_text t_text t_cavities t_p_volume t_volume t_p_freeze t_freeze t_cores t_p_earlier t_earlier t_stages t_p_place t_place t_p_now t_now t_p_was t_was t_changes t_p_one t_one t_readCavities t_p_readCavity t_readCavity t_readCores t_p_readCore t_readCore t_readStages t_p_readStage t_readStage t_p_readRule t_readRule t_value t_ends t_screw]) → va_S A s.heap H locs → lv_has ls 2 [(0, .ref t_p), (1, .int v1)] → W p l e ({ frames := 0, cells := 0, slots := 0, locals := 0 }) s m ([.ref t_p] : List Value).toArray below meth c H locs 0 0 (MQ below (pQv g (fl [wk6 g t_p t_length t_p_text t_text t_cavities t_p_volume t_volume t_p_freeze t_freeze t_cores t_p_earlier t_earlier t_stages t_p_place t_place t_p_now t_now t_p_was res.1 res.2 t_p_one t_one t_readCavities t_p_readCavity t_readCavity t_readCores t_p_readCore t_readCore t_readStages t_p_readStage t_readStage t_p_readRule t_readRule t_value t_ends t_screw]) A) ([.ref t_p] : List Value).toArray s 0 0 A) (F0 m 10 ls []) := by
    intro  n
    induction n with
    | zero => intro v1 t_was t_changes H locs ls hf; exact no_some hf
    | succ n ih =>
      intro v1 t_was t_changes H locs ls hf hP hD hS hl
      rw [f6_keeps_10] at hf
      refine lv_iload_n hx hb dX6_keeps_10 rfl (lv_at hl 1 rfl) ?_
      refine lv_sipush (v := 3465) hx hb dX6_keeps_11 (by decide) ?_
      refine lv_icmp_ge (tgt := 39) hx hb dX6_keeps_14 (by decide) (fun c_5 => ?_) (fun c_5 => ?_)
      · replace hf := (if_pos c_5).symm.trans hf
        refine lv_aload_n hx hb dX6_keeps_39 rfl (lv_at hl 0 rfl) ?_
        refine lv_dup hx hb dX6_keeps_40 rfl ?_
        refine va_get (D := g.1) (ci := 6) (v := .int t_changes) (C := RX6) (T := TX6) (N := 23) hx hb hts hin6 hown hK.1 hP 0 rfl rfl 11 (by decide) L1 (fun _ h9 => h9) rfl dX6_keeps_41 ?_
        refine lv_iconst (v := 1) hx hb dX6_keeps_44 (by decide) ?_
        refine lv_isub hx hb dX6_keeps_45 ?_
        refine va_put (D := g.1) (ci := 6) (v := .int (t_changes - 1)) (ty := .int) (C := RX6) (T := TX6) (N := 23) hx hb hts hin6 tyX6 tyX6_ok nmX6 hown hK.1 hP hD hS 0 rfl rfl 11 (by decide) L1 (fun _ h9 => h9) rfl (by decide +kernel) rfl rfl (Nat.le_of_ble_eq_true rfl) dX6_keeps_46 (fun H locs hP hD hS => ?_)
        replace hP : va_P g.1 vwCl (fl [wk6 g t_p t_length t_p_text t_text t_cavities t_p_volume t_volume t_p_freeze t_freeze t_cores t_p_earlier t_earlier t_stages t_p_place t_place t_p_now t_now t_p_was t_was (t_changes - 1) t_p_one t_one t_readCavities t_p_readCavity t_readCavity t_readCores t_p_readCore t_readCore t_readStages t_p_readStage t_readStage t_p_readRule t_readRule t_value t_ends t_screw]) H := hP
        replace hD : va_D A (fl [wk6 g t_p t_length t_p_text t_text t_cavities t_p_volume t_volume t_p_freeze t_freeze t_cores t_p_earlier t_earlier t_stages t_p_place t_place t_p_now t_now t_p_was t_was (t_changes - 1) t_p_one t_one t_readCavities t_p_readCavity t_readCavity t_readCores t_p_readCore t_readCore t_readStages t_p_readStage t_readStage t_p_readRule t_readRule t_value t_ends t_screw]) := hD
        refine lv_iconst (v := 0) hx hb dX6_keeps_49 (by decide) ?_
        refine lv_istore_n (lv' := [(1, .int 0), (0, .ref t_p)]) hx hb dX6_keeps_50 rfl hl (by decide) rfl (fun ls hl => ?_)
        exact w_51  N 0 t_was (t_changes - 1) H locs ls hf hP hD hS (lv_sub hl [1, 0] rfl)
      · replace hf := (if_neg c_5).symm.trans hf
        refine lv_aload_n hx hb dX6_keeps_17 rfl (lv_at hl 0 rfl) ?_
        refine va_get (D := g.1) (ci := 6) (v := .ref t_p_was) (C := RX6) (T := TX6) (N := 23) hx hb hts hin6 hown hK.1 hP 0 rfl rfl 10 (by decide) L2 (fun _ h9 => h9) rfl dX6_keeps_18 ?_
        refine lv_iload_n hx hb dX6_keeps_21 rfl (lv_at hl 1 rfl) ?_
        refine lv_aload_n hx hb dX6_keeps_22 rfl (lv_at hl 0 rfl) ?_
        refine va_get (D := g.1) (ci := 6) (v := .ref t_p_was) (C := RX6) (T := TX6) (N := 23) hx hb hts hin6 hown hK.1 hP 0 rfl rfl 10 (by decide) L2 (fun _ h9 => h9) rfl dX6_keeps_23 ?_
        refine lv_iload_n hx hb dX6_keeps_26 rfl (lv_at hl 1 rfl) ?_
        refine lv_sipush (v := 1155) hx hb dX6_keeps_27 (by decide) ?_
        refine lv_iadd hx hb dX6_keeps_30 ?_
        obtain ⟨h_6, hf⟩ := if_some hf
        refine va_iald hx hb hK.1 hP 7 0 rfl rfl (ok_in h_6) dX6_keeps_31 ?_
        obtain ⟨h_7, hf⟩ := if_some hf
        refine va_iast hx hb hK.1 hP hD hS 7 0 rfl rfl (ok_in h_7) dX6_keeps_32 (fun H locs hP hD hS => ?_)
        replace hP : va_P g.1 vwCl (fl [wk6 g t_p t_length t_p_text t_text t_cavities t_p_volume t_volume t_p_freeze t_freeze t_cores t_p_earlier t_earlier t_stages t_p_place t_place t_p_now t_now t_p_was (upd t_was (Int32.toNatClampNeg v1) (t_was (Int32.toNatClampNeg (v1 + 1155)))) t_changes t_p_one t_one t_readCavities t_p_readCavity t_readCavity t_readCores t_p_readCore t_readCore t_readStages t_p_readStage t_readStage t_p_readRule t_readRule t_value t_ends t_screw]) H := hP
        replace hD : va_D A (fl [wk6 g t_p t_length t_p_text t_text t_cavities t_p_volume t_volume t_p_freeze t_freeze t_cores t_p_earlier t_earlier t_stages t_p_place t_place t_p_now t_now t_p_was (upd t_was (Int32.toNatClampNeg v1) (t_was (Int32.toNatClampNeg (v1 + 1155)))) t_changes t_p_one t_one t_readCavities t_p_readCavity t_readCavity t_readCores t_p_readCore t_readCore t_readStages t_p_readStage t_readStage t_p_readRule t_readRule t_value t_ends t_screw]) := hD
        refine lv_iinc (v := v1 + 1) (lv' := [(1, .int (v1 + 1)), (0, .ref t_p)]) hx hb dX6_keeps_33 hl (k := 1) rfl rfl (by decide) rfl (fun ls hl => ?_)
        refine lv_goto (tgt := 10) hx hb dX6_keeps_36 (by decide) ?_
        exact ih (v1 + 1) (upd t_was (Int32.toNatClampNeg v1) (t_was (Int32.toNatClampNeg (v1 + 1155)))) t_changes H locs ls hf hP hD hS (lv_sub hl [1, 0] rfl)
  have hl := lv_entry ([.ref t_p]) (n := 2) (Nat.le_of_ble_eq_true rfl)
  rw [lg_entry_eq]
  generalize (lg_sl ([.ref t_p]) ++ List.replicate (2 - (lg_sl ([.ref t_p])).length) Slot.unset).toArray = ls at hl ⊢
  replace hl : lv_has ls 2 [(0, .ref t_p)] := hl
  rw [f6_keeps] at hf
  have hgo : ∀ (H : Heap) (locs : List Loc), H = s.heap → locs = [] → va_P g.1 vwCl (fl [wk6 g t_p t_length t_p_text t_text t_cavities t_p_volume t_volume t_p_freeze t_freeze t_cores t_p_earlier t_earlier t_stages t_p_place t_place t_p_now t_now t_p_was t_was t_changes t_p_one t_one t_readCavities t_p_readCavity t_readCavity t_readCores t_p_readCore t_readCore t_readStages t_p_readStage t_readStage t_p_readRule t_readRule t_value t_ends t_screw]) H → va_S A s.heap H locs → W p l e ({ frames := 0, cells := 0, slots := 0, locals := 0 }) s m ([.ref t_p] : List Value).toArray below meth c H locs 0 0 (MQ below (pQv g (fl [wk6 g t_p t_length t_p_text t_text t_cavities t_p_volume t_volume t_p_freeze t_freeze t_cores t_p_earlier t_earlier t_stages t_p_place t_place t_p_now t_now t_p_was res.1 res.2 t_p_one t_one t_readCavities t_p_readCavity t_readCavity t_readCores t_p_readCore t_readCore t_readStages t_p_readStage t_readStage t_p_readRule t_readRule t_value t_ends t_screw]) A) ([.ref t_p] : List Value).toArray s 0 0 A) (F0 m 0 ls []) := by
    intro H locs hH hL hP hS
    refine lv_aload_n hx hb dX6_keeps_0 rfl (lv_at hl 0 rfl) ?_
    refine va_get (D := g.1) (ci := 6) (v := .int t_changes) (C := RX6) (T := TX6) (N := 23) hx hb hts hin6 hown hK.1 hP 0 rfl rfl 11 (by decide) L1 (fun _ h9 => h9) rfl dX6_keeps_1 ?_
    refine lv_iconst (v := 4) hx hb dX6_keeps_4 (by decide) ?_
    refine lv_icmp_ne (tgt := 49) hx hb dX6_keeps_5 (by decide) (fun c_1 => ?_) (fun c_1 => ?_)
    · replace hf := (if_neg c_1).symm.trans hf
      refine lv_iconst (v := 0) hx hb dX6_keeps_49 (by decide) ?_
      refine lv_istore_n (lv' := [(1, .int 0), (0, .ref t_p)]) hx hb dX6_keeps_50 rfl hl (by decide) rfl (fun ls hl => ?_)
      exact w_51  N 0 t_was t_changes H locs ls hf hP hD hS (lv_sub hl [1, 0] rfl)
    · replace hf := (if_pos c_1).symm.trans hf
      refine lv_iconst (v := 0) hx hb dX6_keeps_8 (by decide) ?_
      refine lv_istore_n (lv' := [(1, .int 0), (0, .ref t_p)]) hx hb dX6_keeps_9 rfl hl (by decide) rfl (fun ls hl => ?_)
      exact w_10  N 0 t_was t_changes H locs ls hf hP hD hS (lv_sub hl [1, 0] rfl)
  exact hgo s.heap [] rfl rfl hP hS

set_option maxHeartbeats 4000000 in
set_option maxRecDepth 100000 in
theorem c6_undo (l : Launch) (g : gG) (t_p : Nat) (t_length : Int32) (t_p_text : Nat) (t_text : (Nat → Int32)) (t_cavities : Int32) (t_p_volume : Nat) (t_volume : (Nat → Int32)) (t_p_freeze : Nat) (t_freeze : (Nat → Int32)) (t_cores : Int32) (t_p_earlier : Nat) (t_earlier : (Nat → Int32)) (t_stages : Int32) (t_p_place : Nat) (t_place : (Nat → Int32)) (t_p_now : Nat) (t_now : (Nat → Int32)) (t_p_was : Nat) (t_was : (Nat → Int32)) (t_changes : Int32) (t_p_one : Nat) (t_one : (Nat → Int32)) (t_readCavities : Int32) (t_p_readCavity : Nat) (t_readCavity : (Nat → Int32)) (t_readCores : Int32) (t_p_readCore : Nat) (t_readCore : (Nat → Int32)) (t_readStages : Int32) (t_p_readStage : Nat) (t_readStage : (Nat → Int32)) (t_p_readRule : Nat) (t_readRule : (Nat → Int32)) (t_value : Int32) (t_ends : Int32) (t_screw : Int32) (sz : Nat) (N : Nat) (res : (Int32 × (Nat → Int32) × Int32)) (hf : f6_undo N t_now t_was t_changes = some res) : Met l yX6_undo wsX6_undo ({ frames := 0, cells := 0, slots := 0, locals := 0 }) (pP g [.ref t_p] sz (fl [wk6 g t_p t_length t_p_text t_text t_cavities t_p_volume t_volume t_p_freeze t_freeze t_cores t_p_earlier t_earlier t_stages t_p_place t_place t_p_now t_now t_p_was t_was t_changes t_p_one t_one t_readCavities t_p_readCavity t_readCavity t_readCores t_p_readCore t_readCore t_readStages t_p_readStage t_readStage t_p_readRule t_readRule t_value t_ends t_screw])) (pQi g (fun r => r = res.1) (fl [wk6 g t_p t_length t_p_text t_text t_cavities t_p_volume t_volume t_p_freeze t_freeze t_cores t_p_earlier t_earlier t_stages t_p_place t_place t_p_now res.2.1 t_p_was t_was res.2.2 t_p_one t_one t_readCavities t_p_readCavity t_readCavity t_readCores t_p_readCore t_readCore t_readStages t_p_readStage t_readStage t_p_readRule t_readRule t_value t_ends t_screw]) (va_A (fl [wk6 g t_p t_length t_p_text t_text t_cavities t_p_volume t_volume t_p_freeze t_freeze t_cores t_p_earlier t_earlier t_stages t_p_place t_place t_p_now t_now t_p_was t_was t_changes t_p_one t_one t_readCavities t_p_readCavity t_readCavity t_readCores t_p_readCore t_readCore t_readStages t_p_readStage t_readStage t_p_readRule t_readRule t_value t_ends t_screw]) sz)) 0 0 (va_A (fl [wk6 g t_p t_length t_p_text t_text t_cavities t_p_volume t_volume t_p_freeze t_freeze t_cores t_p_earlier t_earlier t_stages t_p_place t_place t_p_now t_now t_p_was t_was t_changes t_p_one t_one t_readCavities t_p_readCavity t_readCavity t_readCores t_p_readCore t_readCore t_readStages t_p_readStage t_readStage t_p_readRule t_readRule t_value t_ends t_screw]) sz) := by
  refine Met.ofW (cc := cX6_undo) (maxL := 2) (ret := (some .int)) (by decide) rfl ?_
  intro p e s m args below meth c s₁ B hml hv
  obtain ⟨rfl, hsz, hP, hK, hD0, hG⟩ := hv
  have hx := B.exec
  have hb := B.bytes
  have hr := B.returns
  have hts := atoms_spec (ws := wsX6_undo) B.pre
  have hown : s.vm.findClass RX6 = some m.cls := findClass_of_methodNamed B.named
  have hlocks := B.notSynchronized
  subst hsz
  have hD := hD0.self (sz := s.heap.size)
  generalize hAe : va_A (fl [wk6 g t_p t_length t_p_text t_text t_cavities t_p_volume t_volume t_p_freeze t_freeze t_cores t_p_earlier t_earlier t_stages t_p_place t_place t_p_now t_now t_p_was t_was t_changes t_p_one t_one t_readCavities t_p_readCavity t_readCavity t_readCores t_p_readCore t_readCore t_readStages t_p_readStage t_readStage t_p_readRule t_readRule t_value t_ends t_screw]) s.heap.size = A at hD hG ⊢
  have hA : ∀ q : Nat, s.heap.size ≤ q → A q := fun q h => by rw [← hAe]; exact Or.inr h
  have hS : va_S A s.heap s.heap [] := va_S.rf
  have hin6 : ∀ w ∈ u_ws RX6 TX6 23, w ∈ wsX6_undo := by decide +kernel
  have L1 := hts (Cond.fieldLink RX6 79 "MouldShotsModel" "changes" "I") (by decide +kernel)
  have L2 := hts (Cond.fieldLink RX6 25 "MouldShotsModel" "now" "[I") (by decide +kernel)
  have L3 := hts (Cond.fieldLink RX6 28 "MouldShotsModel" "was" "[I") (by decide +kernel)
  have w_22 : ∀ n : Nat, ∀ (v1 : Int32) (t_now : (Nat → Int32)) (t_changes : Int32) (H : Heap) (locs : List Loc) (ls : Array Slot), f6_undo_22  N n v1 t_now t_was t_changes = some res → va_P g.1 vwCl (fl [wk6 g t_p t_length t_p_text t_text t_cavities t_p_volume t_volume t_p_freeze t_freeze t_cores t_p_earlier t_earlier t_stages t_p_place t_place t_p_now t_now t_p_was t_was t_changes t_p_one t_one t_readCavities t_p_readCavity t_readCavity t_readCores t_p_readCore t_readCore t_readStages t_p_readStage t_readStage t_p_readRule t_readRule t_value t_ends t_screw]) H → va_D A (fl [wk6 g t_p t_length t_p_text t_text t_cavities t_p_volume t_volume t_p_freeze t_freeze t_cores t_p_earlier t_earlier t_stages t_p_place t_place t_p_now t_now t_p_was t_was t_changes t_p_one t_one t_readCavities t_p_readCavity t_readCavity t_readCores t_p_readCore t_readCore t_readStages t_p_readStage t_readStage t_p_readRule t_readRule t_value t_ends t_screw]) → va_S A s.heap H locs → lv_has ls 2 [(0, .ref t_p), (1, .int v1)] → W p l e ({ frames := 0, cells := 0, slots := 0, locals := 0 }) s m ([.ref t_p] : List Value).toArray below meth c H locs 0 0 (MQ below (pQi g (fun r => r = res.1) (fl [wk6 g t_p t_length t_p_text t_text t_cavities t_p_volume t_volume t_p_freeze t_freeze t_cores t_p_earlier t_earlier t_stages t_p_place t_place t_p_now res.2.1 t_p_was t_was res.2.2 t_p_one t_one t_readCavities t_p_readCavity t_readCavity t_readCores t_p_readCore t_readCore t_readStages t_p_readStage t_readStage t_p_readRule t_readRule t_value t_ends t_screw]) A) ([.ref t_p] : List Value).toArray s 0 0 A) (F0 m 22 ls []) := by
    intro  n
    induction n with
    | zero => intro v1 t_now t_changes H locs ls hf; exact no_some hf
    | succ n ih =>
      intro v1 t_now t_changes H locs ls hf hP hD hS hl
      rw [f6_undo_22] at hf
      refine lv_iload_n hx hb dX6_undo_22 rfl (lv_at hl 1 rfl) ?_
      refine lv_sipush (v := 1155) hx hb dX6_undo_23 (by decide) ?_
      refine lv_icmp_ge (tgt := 56) hx hb dX6_undo_26 (by decide) (fun c_2 => ?_) (fun c_2 => ?_)
      · replace hf := (if_pos c_2).symm.trans hf
        refine lv_aload_n hx hb dX6_undo_56 rfl (lv_at hl 0 rfl) ?_
        refine va_get (D := g.1) (ci := 6) (v := .int t_changes) (C := RX6) (T := TX6) (N := 23) hx hb hts hin6 hown hK.1 hP 0 rfl rfl 11 (by decide) L1 (fun _ h9 => h9) rfl dX6_undo_57 ?_
        replace hf := Option.some.inj hf
        subst hf
        exact W.iret (v := t_changes) hx hb hr (fun t ht hW => ⟨⟨_, (), rfl, rfl, by show va_P g.1 vwCl _ t.heap; rw [ht]; exact hP⟩, hS.F ht⟩) hS.2.2 dX6_undo_60 hlocks
      · replace hf := (if_neg c_2).symm.trans hf
        refine lv_aload_n hx hb dX6_undo_29 rfl (lv_at hl 0 rfl) ?_
        refine va_get (D := g.1) (ci := 6) (v := .ref t_p_now) (C := RX6) (T := TX6) (N := 23) hx hb hts hin6 hown hK.1 hP 0 rfl rfl 9 (by decide) L2 (fun _ h9 => h9) rfl dX6_undo_30 ?_
        refine lv_iload_n hx hb dX6_undo_33 rfl (lv_at hl 1 rfl) ?_
        refine lv_aload_n hx hb dX6_undo_34 rfl (lv_at hl 0 rfl) ?_
        refine va_get (D := g.1) (ci := 6) (v := .ref t_p_was) (C := RX6) (T := TX6) (N := 23) hx hb hts hin6 hown hK.1 hP 0 rfl rfl 10 (by decide) L3 (fun _ h9 => h9) rfl dX6_undo_35 ?_
        refine lv_sipush (v := 1155) hx hb dX6_undo_38 (by decide) ?_
        refine lv_aload_n hx hb dX6_undo_41 rfl (lv_at hl 0 rfl) ?_
        refine va_get (D := g.1) (ci := 6) (v := .int t_changes) (C := RX6) (T := TX6) (N := 23) hx hb hts hin6 hown hK.1 hP 0 rfl rfl 11 (by decide) L1 (fun _ h9 => h9) rfl dX6_undo_42 ?_
        refine lv_imul hx hb dX6_undo_45 ?_
        refine lv_iload_n hx hb dX6_undo_46 rfl (lv_at hl 1 rfl) ?_
        refine lv_iadd hx hb dX6_undo_47 ?_
        obtain ⟨h_3, hf⟩ := if_some hf
        refine va_iald hx hb hK.1 hP 7 0 rfl rfl (ok_in h_3) dX6_undo_48 ?_
        obtain ⟨h_4, hf⟩ := if_some hf
        refine va_iast hx hb hK.1 hP hD hS 6 0 rfl rfl (ok_in h_4) dX6_undo_49 (fun H locs hP hD hS => ?_)
        replace hP : va_P g.1 vwCl (fl [wk6 g t_p t_length t_p_text t_text t_cavities t_p_volume t_volume t_p_freeze t_freeze t_cores t_p_earlier t_earlier t_stages t_p_place t_place t_p_now (upd t_now (Int32.toNatClampNeg v1) (t_was (Int32.toNatClampNeg ((1155 * t_changes) + v1)))) t_p_was t_was t_changes t_p_one t_one t_readCavities t_p_readCavity t_readCavity t_readCores t_p_readCore t_readCore t_readStages t_p_readStage t_readStage t_p_readRule t_readRule t_value t_ends t_screw]) H := hP
        replace hD : va_D A (fl [wk6 g t_p t_length t_p_text t_text t_cavities t_p_volume t_volume t_p_freeze t_freeze t_cores t_p_earlier t_earlier t_stages t_p_place t_place t_p_now (upd t_now (Int32.toNatClampNeg v1) (t_was (Int32.toNatClampNeg ((1155 * t_changes) + v1)))) t_p_was t_was t_changes t_p_one t_one t_readCavities t_p_readCavity t_readCavity t_readCores t_p_readCore t_readCore t_readStages t_p_readStage t_readStage t_p_readRule t_readRule t_value t_ends t_screw]) := hD
        refine lv_iinc (v := v1 + 1) (lv' := [(1, .int (v1 + 1)), (0, .ref t_p)]) hx hb dX6_undo_50 hl (k := 1) rfl rfl (by decide) rfl (fun ls hl => ?_)
        refine lv_goto (tgt := 22) hx hb dX6_undo_53 (by decide) ?_
        exact ih (v1 + 1) (upd t_now (Int32.toNatClampNeg v1) (t_was (Int32.toNatClampNeg ((1155 * t_changes) + v1)))) t_changes H locs ls hf hP hD hS (lv_sub hl [1, 0] rfl)
  have hl := lv_entry ([.ref t_p]) (n := 2) (Nat.le_of_ble_eq_true rfl)
  rw [lg_entry_eq]
  generalize (lg_sl ([.ref t_p]) ++ List.replicate (2 - (lg_sl ([.ref t_p])).length) Slot.unset).toArray = ls at hl ⊢
  replace hl : lv_has ls 2 [(0, .ref t_p)] := hl
  rw [f6_undo] at hf
  have hgo : ∀ (H : Heap) (locs : List Loc), H = s.heap → locs = [] → va_P g.1 vwCl (fl [wk6 g t_p t_length t_p_text t_text t_cavities t_p_volume t_volume t_p_freeze t_freeze t_cores t_p_earlier t_earlier t_stages t_p_place t_place t_p_now t_now t_p_was t_was t_changes t_p_one t_one t_readCavities t_p_readCavity t_readCavity t_readCores t_p_readCore t_readCore t_readStages t_p_readStage t_readStage t_p_readRule t_readRule t_value t_ends t_screw]) H → va_S A s.heap H locs → W p l e ({ frames := 0, cells := 0, slots := 0, locals := 0 }) s m ([.ref t_p] : List Value).toArray below meth c H locs 0 0 (MQ below (pQi g (fun r => r = res.1) (fl [wk6 g t_p t_length t_p_text t_text t_cavities t_p_volume t_volume t_p_freeze t_freeze t_cores t_p_earlier t_earlier t_stages t_p_place t_place t_p_now res.2.1 t_p_was t_was res.2.2 t_p_one t_one t_readCavities t_p_readCavity t_readCavity t_readCores t_p_readCore t_readCore t_readStages t_p_readStage t_readStage t_p_readRule t_readRule t_value t_ends t_screw]) A) ([.ref t_p] : List Value).toArray s 0 0 A) (F0 m 0 ls []) := by
    intro H locs hH hL hP hS
    refine lv_aload_n hx hb dX6_undo_0 rfl (lv_at hl 0 rfl) ?_
    refine va_get (D := g.1) (ci := 6) (v := .int t_changes) (C := RX6) (T := TX6) (N := 23) hx hb hts hin6 hown hK.1 hP 0 rfl rfl 11 (by decide) L1 (fun _ h9 => h9) rfl dX6_undo_1 ?_
    refine lv_if_ne (tgt := 10) hx hb dX6_undo_4 (by decide) (fun c_1 => ?_) (fun c_1 => ?_)
    · replace hf := (if_neg c_1).symm.trans hf
      refine lv_aload_n hx hb dX6_undo_10 rfl (lv_at hl 0 rfl) ?_
      refine lv_dup hx hb dX6_undo_11 rfl ?_
      refine va_get (D := g.1) (ci := 6) (v := .int t_changes) (C := RX6) (T := TX6) (N := 23) hx hb hts hin6 hown hK.1 hP 0 rfl rfl 11 (by decide) L1 (fun _ h9 => h9) rfl dX6_undo_12 ?_
      refine lv_iconst (v := 1) hx hb dX6_undo_15 (by decide) ?_
      refine lv_isub hx hb dX6_undo_16 ?_
      refine va_put (D := g.1) (ci := 6) (v := .int (t_changes - 1)) (ty := .int) (C := RX6) (T := TX6) (N := 23) hx hb hts hin6 tyX6 tyX6_ok nmX6 hown hK.1 hP hD hS 0 rfl rfl 11 (by decide) L1 (fun _ h9 => h9) rfl (by decide +kernel) rfl rfl (Nat.le_of_ble_eq_true rfl) dX6_undo_17 (fun H locs hP hD hS => ?_)
      replace hP : va_P g.1 vwCl (fl [wk6 g t_p t_length t_p_text t_text t_cavities t_p_volume t_volume t_p_freeze t_freeze t_cores t_p_earlier t_earlier t_stages t_p_place t_place t_p_now t_now t_p_was t_was (t_changes - 1) t_p_one t_one t_readCavities t_p_readCavity t_readCavity t_readCores t_p_readCore t_readCore t_readStages t_p_readStage t_readStage t_p_readRule t_readRule t_value t_ends t_screw]) H := hP
      replace hD : va_D A (fl [wk6 g t_p t_length t_p_text t_text t_cavities t_p_volume t_volume t_p_freeze t_freeze t_cores t_p_earlier t_earlier t_stages t_p_place t_place t_p_now t_now t_p_was t_was (t_changes - 1) t_p_one t_one t_readCavities t_p_readCavity t_readCavity t_readCores t_p_readCore t_readCore t_readStages t_p_readStage t_readStage t_p_readRule t_readRule t_value t_ends t_screw]) := hD
      refine lv_iconst (v := 0) hx hb dX6_undo_20 (by decide) ?_
      refine lv_istore_n (lv' := [(1, .int 0), (0, .ref t_p)]) hx hb dX6_undo_21 rfl hl (by decide) rfl (fun ls hl => ?_)
      exact w_22  N 0 t_now (t_changes - 1) H locs ls hf hP hD hS (lv_sub hl [1, 0] rfl)
    · replace hf := (if_pos c_1).symm.trans hf
      refine lv_bipush (v := (-2)) hx hb dX6_undo_7 (by decide) ?_
      replace hf := Option.some.inj hf
      subst hf
      exact W.iret (v := (-2)) hx hb hr (fun t ht hW => ⟨⟨_, (), rfl, rfl, by show va_P g.1 vwCl _ t.heap; rw [ht]; exact hP⟩, hS.F ht⟩) hS.2.2 dX6_undo_9 hlocks
  exact hgo s.heap [] rfl rfl hP hS

set_option maxHeartbeats 4000000 in
set_option maxRecDepth 100000 in
theorem c6_becomes (l : Launch) (g : gG) (t_p : Nat) (t_length : Int32) (t_p_text : Nat) (t_text : (Nat → Int32)) (t_cavities : Int32) (t_p_volume : Nat) (t_volume : (Nat → Int32)) (t_p_freeze : Nat) (t_freeze : (Nat → Int32)) (t_cores : Int32) (t_p_earlier : Nat) (t_earlier : (Nat → Int32)) (t_stages : Int32) (t_p_place : Nat) (t_place : (Nat → Int32)) (t_p_now : Nat) (t_now : (Nat → Int32)) (t_p_was : Nat) (t_was : (Nat → Int32)) (t_changes : Int32) (t_p_one : Nat) (t_one : (Nat → Int32)) (t_readCavities : Int32) (t_p_readCavity : Nat) (t_readCavity : (Nat → Int32)) (t_readCores : Int32) (t_p_readCore : Nat) (t_readCore : (Nat → Int32)) (t_readStages : Int32) (t_p_readStage : Nat) (t_readStage : (Nat → Int32)) (t_p_readRule : Nat) (t_readRule : (Nat → Int32)) (t_value : Int32) (t_ends : Int32) (t_screw : Int32) (l1 : Int32) (l2 : Int32) (sz : Nat) (N : Nat) (res : (Int32 × (Nat → Int32) × (Nat → Int32) × Int32)) (hf : f6_becomes N l1 l2 t_now t_was t_changes = some res) : Met l yX6_becomes wsX6_becomes ({ frames := 1, cells := 0, slots := 0, locals := 21 }) (pP g [.ref t_p, .int l1, .int l2] sz (fl [wk6 g t_p t_length t_p_text t_text t_cavities t_p_volume t_volume t_p_freeze t_freeze t_cores t_p_earlier t_earlier t_stages t_p_place t_place t_p_now t_now t_p_was t_was t_changes t_p_one t_one t_readCavities t_p_readCavity t_readCavity t_readCores t_p_readCore t_readCore t_readStages t_p_readStage t_readStage t_p_readRule t_readRule t_value t_ends t_screw])) (pQi g (fun r => r = res.1) (fl [wk6 g t_p t_length t_p_text t_text t_cavities t_p_volume t_volume t_p_freeze t_freeze t_cores t_p_earlier t_earlier t_stages t_p_place t_place t_p_now res.2.1 t_p_was res.2.2.1 res.2.2.2 t_p_one t_one t_readCavities t_p_readCavity t_readCavity t_readCores t_p_readCore t_readCore t_readStages t_p_readStage t_readStage t_p_readRule t_readRule t_value t_ends t_screw]) (va_A (fl [wk6 g t_p t_length t_p_text t_text t_cavities t_p_volume t_volume t_p_freeze t_freeze t_cores t_p_earlier t_earlier t_stages t_p_place t_place t_p_now t_now t_p_was t_was t_changes t_p_one t_one t_readCavities t_p_readCavity t_readCavity t_readCores t_p_readCore t_readCore t_readStages t_p_readStage t_readStage t_p_readRule t_readRule t_value t_ends t_screw]) sz)) 0 0 (va_A (fl [wk6 g t_p t_length t_p_text t_text t_cavities t_p_volume t_volume t_p_freeze t_freeze t_cores t_p_earlier t_earlier t_stages t_p_place t_place t_p_now t_now t_p_was t_was t_changes t_p_one t_one t_readCavities t_p_readCavity t_readCavity t_readCores t_p_readCore t_readCore t_readStages t_p_readStage t_readStage t_p_readRule t_readRule t_value t_ends t_screw]) sz) := by
  refine Met.ofW (cc := cX6_becomes) (maxL := 4) (ret := (some .int)) (by decide) rfl ?_
  intro p e s m args below meth c s₁ B hml hv
  obtain ⟨rfl, hsz, hP, hK, hD0, hG⟩ := hv
  have hx := B.exec
  have hb := B.bytes
  have hr := B.returns
  have hts := atoms_spec (ws := wsX6_becomes) B.pre
  have hown : s.vm.findClass RX6 = some m.cls := findClass_of_methodNamed B.named
  have hlocks := B.notSynchronized
  subst hsz
  have hD := hD0.self (sz := s.heap.size)
  generalize hAe : va_A (fl [wk6 g t_p t_length t_p_text t_text t_cavities t_p_volume t_volume t_p_freeze t_freeze t_cores t_p_earlier t_earlier t_stages t_p_place t_place t_p_now t_now t_p_was t_was t_changes t_p_one t_one t_readCavities t_p_readCavity t_readCavity t_readCores t_p_readCore t_readCore t_readStages t_p_readStage t_readStage t_p_readRule t_readRule t_value t_ends t_screw]) s.heap.size = A at hD hG ⊢
  have hA : ∀ q : Nat, s.heap.size ≤ q → A q := fun q h => by rw [← hAe]; exact Or.inr h
  have hS : va_S A s.heap s.heap [] := va_S.rf
  have hin6 : ∀ w ∈ u_ws RX6 TX6 23, w ∈ wsX6_becomes := by decide +kernel
  have L1 := hts (Cond.fieldLink RX6 25 "MouldShotsModel" "now" "[I") (by decide +kernel)
  have hl := lv_entry ([.ref t_p, .int l1, .int l2]) (n := 4) (Nat.le_of_ble_eq_true rfl)
  rw [lg_entry_eq]
  generalize (lg_sl ([.ref t_p, .int l1, .int l2]) ++ List.replicate (4 - (lg_sl ([.ref t_p, .int l1, .int l2])).length) Slot.unset).toArray = ls at hl ⊢
  replace hl : lv_has ls 4 [(0, .ref t_p), (1, .int l1), (2, .int l2)] := hl
  rw [f6_becomes] at hf
  have hgo : ∀ (H : Heap) (locs : List Loc), H = s.heap → locs = [] → va_P g.1 vwCl (fl [wk6 g t_p t_length t_p_text t_text t_cavities t_p_volume t_volume t_p_freeze t_freeze t_cores t_p_earlier t_earlier t_stages t_p_place t_place t_p_now t_now t_p_was t_was t_changes t_p_one t_one t_readCavities t_p_readCavity t_readCavity t_readCores t_p_readCore t_readCore t_readStages t_p_readStage t_readStage t_p_readRule t_readRule t_value t_ends t_screw]) H → va_S A s.heap H locs → W p l e ({ frames := 1, cells := 0, slots := 0, locals := 21 }) s m ([.ref t_p, .int l1, .int l2] : List Value).toArray below meth c H locs 0 0 (MQ below (pQi g (fun r => r = res.1) (fl [wk6 g t_p t_length t_p_text t_text t_cavities t_p_volume t_volume t_p_freeze t_freeze t_cores t_p_earlier t_earlier t_stages t_p_place t_place t_p_now res.2.1 t_p_was res.2.2.1 res.2.2.2 t_p_one t_one t_readCavities t_p_readCavity t_readCavity t_readCores t_p_readCore t_readCore t_readStages t_p_readStage t_readStage t_p_readRule t_readRule t_value t_ends t_screw]) A) ([.ref t_p, .int l1, .int l2] : List Value).toArray s 0 0 A) (F0 m 0 ls []) := by
    intro H locs hH hL hP hS
    refine lv_aload_n hx hb dX6_becomes_0 rfl (lv_at hl 0 rfl) ?_
    refine va_get (D := g.1) (ci := 6) (v := .ref t_p_now) (C := RX6) (T := TX6) (N := 23) hx hb hts hin6 hown hK.1 hP 0 rfl rfl 9 (by decide) L1 (fun _ h9 => h9) rfl dX6_becomes_1 ?_
    refine lv_iload_n hx hb dX6_becomes_4 rfl (lv_at hl 1 rfl) ?_
    obtain ⟨h_1, hf⟩ := if_some hf
    refine va_iald hx hb hK.1 hP 6 0 rfl rfl (ok_in h_1) dX6_becomes_5 ?_
    refine lv_istore_n (lv' := [(3, .int (t_now (Int32.toNatClampNeg l1))), (0, .ref t_p), (1, .int l1), (2, .int l2)]) hx hb dX6_becomes_6 rfl hl (by decide) rfl (fun ls hl => ?_)
    refine lv_iload_n hx hb dX6_becomes_7 rfl (lv_at hl 0 rfl) ?_
    refine lv_iload_n hx hb dX6_becomes_8 rfl (lv_at hl 3 rfl) ?_
    refine lv_icmp_ne (tgt := 15) hx hb dX6_becomes_9 (by decide) (fun c_2 => ?_) (fun c_2 => ?_)
    · replace hf := (if_neg c_2).symm.trans hf
      refine lv_aload_n hx hb dX6_becomes_15 rfl (lv_at hl 1 rfl) ?_
      obtain ⟨q_3, hq_3, hf⟩ := bd_some hf
      refine bft_v (bn := [wk6 g t_p t_length t_p_text t_text t_cavities t_p_volume t_volume t_p_freeze t_freeze t_cores t_p_earlier t_earlier t_stages t_p_place t_place t_p_now t_now t_p_was q_3.1 q_3.2 t_p_one t_one t_readCavities t_p_readCavity t_readCavity t_readCores t_p_readCore t_readCore t_readStages t_p_readStage t_readStage t_p_readRule t_readRule t_value t_ends t_screw]) (L := [[t_p, t_p_text, t_p_volume, t_p_freeze, t_p_earlier, t_p_place, t_p_now, t_p_was, t_p_one, t_p_readCavity, t_p_readCore, t_p_readStage, t_p_readRule]]) (va_runV (As := []) (rest := []) ⟨hx, hb, hml, hown, hts⟩ (c6_keeps l g t_p t_length t_p_text t_text t_cavities t_p_volume t_volume t_p_freeze t_freeze t_cores t_p_earlier t_earlier t_stages t_p_place t_place t_p_now t_now t_p_was t_was t_changes t_p_one t_one t_readCavities t_p_readCavity t_readCavity t_readCores t_p_readCore t_readCore t_readStages t_p_readStage t_readStage t_p_readRule t_readRule t_value t_ends t_screw H.size N q_3 hq_3) (cwV 0 hts gX6_becomes_X6_keeps rfl rfl rfl ⟨rfl, nh6.1, nh6.2, pd_9⟩ ⟨Nat.le_of_ble_eq_true rfl, Nat.le_of_ble_eq_true rfl⟩) (qPV hK hG hP hD hS hA [0] (by decide) rfl (va_recv hK.1 hP (ci := 6) (q0 := 0) rfl rfl)) rfl rfl hl.1 rfl (lv_room (Nat.le_of_ble_eq_true rfl)) dX6_becomes_16 ⟨Nat.zero_le _, Nat.zero_le _⟩) hP hD hS hA [0] rfl rfl rfl rfl (fun H locs hP hD hS => ?_)
      refine lv_aload_n hx hb dX6_becomes_19 rfl (lv_at hl 1 rfl) ?_
      refine va_get (D := g.1) (ci := 6) (v := .ref t_p_now) (C := RX6) (T := TX6) (N := 23) hx hb hts hin6 hown hK.1 hP 0 rfl rfl 9 (by decide) L1 (fun _ h9 => h9) rfl dX6_becomes_20 ?_
      refine lv_iload_n hx hb dX6_becomes_23 rfl (lv_at hl 2 rfl) ?_
      refine lv_iload_n hx hb dX6_becomes_24 rfl (lv_at hl 3 rfl) ?_
      obtain ⟨h_4, hf⟩ := if_some hf
      refine va_iast hx hb hK.1 hP hD hS 6 0 rfl rfl (ok_in h_4) dX6_becomes_25 (fun H locs hP hD hS => ?_)
      replace hP : va_P g.1 vwCl (fl [wk6 g t_p t_length t_p_text t_text t_cavities t_p_volume t_volume t_p_freeze t_freeze t_cores t_p_earlier t_earlier t_stages t_p_place t_place t_p_now (upd t_now (Int32.toNatClampNeg l1) l2) t_p_was q_3.1 q_3.2 t_p_one t_one t_readCavities t_p_readCavity t_readCavity t_readCores t_p_readCore t_readCore t_readStages t_p_readStage t_readStage t_p_readRule t_readRule t_value t_ends t_screw]) H := hP
      replace hD : va_D A (fl [wk6 g t_p t_length t_p_text t_text t_cavities t_p_volume t_volume t_p_freeze t_freeze t_cores t_p_earlier t_earlier t_stages t_p_place t_place t_p_now (upd t_now (Int32.toNatClampNeg l1) l2) t_p_was q_3.1 q_3.2 t_p_one t_one t_readCavities t_p_readCavity t_readCavity t_readCores t_p_readCore t_readCore t_readStages t_p_readStage t_readStage t_p_readRule t_readRule t_value t_ends t_screw]) := hD
      refine lv_iload_n hx hb dX6_becomes_26 rfl (lv_at hl 0 rfl) ?_
      replace hf := Option.some.inj hf
      subst hf
      exact W.iret (v := t_now (Int32.toNatClampNeg l1)) hx hb hr (fun t ht hW => ⟨⟨_, (), rfl, rfl, by show va_P g.1 vwCl _ t.heap; rw [ht]; exact hP⟩, hS.F ht⟩) hS.2.2 dX6_becomes_27 hlocks
    · replace hf := (if_pos c_2).symm.trans hf
      refine lv_bipush (v := (-2)) hx hb dX6_becomes_12 (by decide) ?_
      replace hf := Option.some.inj hf
      subst hf
      exact W.iret (v := (-2)) hx hb hr (fun t ht hW => ⟨⟨_, (), rfl, rfl, by show va_P g.1 vwCl _ t.heap; rw [ht]; exact hP⟩, hS.F ht⟩) hS.2.2 dX6_becomes_14 hlocks
  exact hgo s.heap [] rfl rfl hP hS

set_option maxHeartbeats 4000000 in
set_option maxRecDepth 100000 in
theorem c6_bits (l : Launch) (g : gG) (l0 : Int32) (sz : Nat) (N : Nat) (res : (Int32)) (hf : f6_bits N l0 = some res) : Met l yX6_bits wsX6_bits ({ frames := 0, cells := 0, slots := 0, locals := 0 }) (pP g [.int l0] sz []) (pQi g (fun r => r = res) [] (va_A [] sz)) 0 0 (va_A [] sz) := by
  refine Met.ofW (cc := cX6_bits) (maxL := 3) (ret := (some .int)) (by decide) rfl ?_
  intro p e s m args below meth c s₁ B hml hv
  obtain ⟨rfl, hsz, hP, hK, hD0, hG⟩ := hv
  have hx := B.exec
  have hb := B.bytes
  have hr := B.returns
  have hts := atoms_spec (ws := wsX6_bits) B.pre
  have hown : s.vm.findClass RX6 = some m.cls := findClass_of_methodNamed B.named
  have hlocks := B.notSynchronized
  subst hsz
  have hD := hD0.self (sz := s.heap.size)
  generalize hAe : va_A [] s.heap.size = A at hD hG ⊢
  have hA : ∀ q : Nat, s.heap.size ≤ q → A q := fun q h => by rw [← hAe]; exact Or.inr h
  have hS : va_S A s.heap s.heap [] := va_S.rf
  have w_4 : ∀ n : Nat, ∀ (v0 : Int32) (v1 : Int32) (v2 : Int32)  (H : Heap) (locs : List Loc) (ls : Array Slot), f6_bits_4  N n v0 v1 v2 = some res → va_P g.1 vwCl [] H → va_D A [] → va_S A s.heap H locs → lv_has ls 3 [(0, .int v0), (1, .int v1), (2, .int v2)] → W p l e ({ frames := 0, cells := 0, slots := 0, locals := 0 }) s m ([.int l0] : List Value).toArray below meth c H locs 0 0 (MQ below (pQi g (fun r => r = res) [] A) ([.int l0] : List Value).toArray s 0 0 A) (F0 m 4 ls []) := by
    intro  n
    induction n with
    | zero => intro v0 v1 v2 H locs ls hf; exact no_some hf
    | succ n ih =>
      intro v0 v1 v2 H locs ls hf hP hD hS hl
      rw [f6_bits_4] at hf
      refine lv_iload_n hx hb dX6_bits_4 rfl (lv_at hl 2 rfl) ?_
      refine lv_iconst (v := 4) hx hb dX6_bits_5 (by decide) ?_
      refine lv_icmp_ge (tgt := 23) hx hb dX6_bits_6 (by decide) (fun c_1 => ?_) (fun c_1 => ?_)
      · replace hf := (if_pos c_1).symm.trans hf
        refine lv_iload_n hx hb dX6_bits_23 rfl (lv_at hl 1 rfl) ?_
        replace hf := Option.some.inj hf
        subst hf
        exact W.iret (v := v1) hx hb hr (fun t ht hW => ⟨⟨_, (), rfl, rfl, by show va_P g.1 vwCl _ t.heap; rw [ht]; exact hP⟩, hS.F ht⟩) hS.2.2 dX6_bits_24 hlocks
      · replace hf := (if_neg c_1).symm.trans hf
        refine lv_iload_n hx hb dX6_bits_9 rfl (lv_at hl 1 rfl) ?_
        refine lv_iload_n hx hb dX6_bits_10 rfl (lv_at hl 0 rfl) ?_
        refine lv_iload_n hx hb dX6_bits_11 rfl (lv_at hl 2 rfl) ?_
        refine lv_ishr hx hb dX6_bits_12 ?_
        refine lv_iconst (v := 1) hx hb dX6_bits_13 (by decide) ?_
        refine lv_iand hx hb dX6_bits_14 ?_
        refine lv_iadd hx hb dX6_bits_15 ?_
        refine lv_istore_n (lv' := [(1, .int (v1 + ((v0 >>> (v2 &&& 31)) &&& 1))), (0, .int v0), (2, .int v2)]) hx hb dX6_bits_16 rfl hl (by decide) rfl (fun ls hl => ?_)
        refine lv_iinc (v := v2 + 1) (lv' := [(2, .int (v2 + 1)), (1, .int (v1 + ((v0 >>> (v2 &&& 31)) &&& 1))), (0, .int v0)]) hx hb dX6_bits_17 hl (k := 2) rfl rfl (by decide) rfl (fun ls hl => ?_)
        refine lv_goto (tgt := 4) hx hb dX6_bits_20 (by decide) ?_
        exact ih v0 (v1 + ((v0 >>> (v2 &&& 31)) &&& 1)) (v2 + 1) H locs ls hf hP hD hS (lv_sub hl [2, 1, 0] rfl)
  have hl := lv_entry ([.int l0]) (n := 3) (Nat.le_of_ble_eq_true rfl)
  rw [lg_entry_eq]
  generalize (lg_sl ([.int l0]) ++ List.replicate (3 - (lg_sl ([.int l0])).length) Slot.unset).toArray = ls at hl ⊢
  replace hl : lv_has ls 3 [(0, .int l0)] := hl
  rw [f6_bits] at hf
  have hgo : ∀ (H : Heap) (locs : List Loc), H = s.heap → locs = [] → va_P g.1 vwCl [] H → va_S A s.heap H locs → W p l e ({ frames := 0, cells := 0, slots := 0, locals := 0 }) s m ([.int l0] : List Value).toArray below meth c H locs 0 0 (MQ below (pQi g (fun r => r = res) [] A) ([.int l0] : List Value).toArray s 0 0 A) (F0 m 0 ls []) := by
    intro H locs hH hL hP hS
    refine lv_iconst (v := 0) hx hb dX6_bits_0 (by decide) ?_
    refine lv_istore_n (lv' := [(1, .int 0), (0, .int l0)]) hx hb dX6_bits_1 rfl hl (by decide) rfl (fun ls hl => ?_)
    refine lv_iconst (v := 0) hx hb dX6_bits_2 (by decide) ?_
    refine lv_istore_n (lv' := [(2, .int 0), (1, .int 0), (0, .int l0)]) hx hb dX6_bits_3 rfl hl (by decide) rfl (fun ls hl => ?_)
    exact w_4  N l0 0 0 H locs ls hf hP hD hS (lv_sub hl [2, 1, 0] rfl)
  exact hgo s.heap [] rfl rfl hP hS

set_option maxHeartbeats 4000000 in
set_option maxRecDepth 100000 in
theorem c6_isCore (l : Launch) (g : gG) (t_p : Nat) (t_length : Int32) (t_p_text : Nat) (t_text : (Nat → Int32)) (t_cavities : Int32) (t_p_volume : Nat) (t_volume : (Nat → Int32)) (t_p_freeze : Nat) (t_freeze : (Nat → Int32)) (t_cores : Int32) (t_p_earlier : Nat) (t_earlier : (Nat → Int32)) (t_stages : Int32) (t_p_place : Nat) (t_place : (Nat → Int32)) (t_p_now : Nat) (t_now : (Nat → Int32)) (t_p_was : Nat) (t_was : (Nat → Int32)) (t_changes : Int32) (t_p_one : Nat) (t_one : (Nat → Int32)) (t_readCavities : Int32) (t_p_readCavity : Nat) (t_readCavity : (Nat → Int32)) (t_readCores : Int32) (t_p_readCore : Nat) (t_readCore : (Nat → Int32)) (t_readStages : Int32) (t_p_readStage : Nat) (t_readStage : (Nat → Int32)) (t_p_readRule : Nat) (t_readRule : (Nat → Int32)) (t_value : Int32) (t_ends : Int32) (t_screw : Int32) (l1 : Int32) (sz : Nat) (N : Nat) (res : (Int32)) (hf : f6_isCore N l1 t_cores = some res) : Met l yX6_isCore wsX6_isCore ({ frames := 1, cells := 0, slots := 0, locals := 22 }) (pP g [.ref t_p, .int l1] sz (fl [wk6 g t_p t_length t_p_text t_text t_cavities t_p_volume t_volume t_p_freeze t_freeze t_cores t_p_earlier t_earlier t_stages t_p_place t_place t_p_now t_now t_p_was t_was t_changes t_p_one t_one t_readCavities t_p_readCavity t_readCavity t_readCores t_p_readCore t_readCore t_readStages t_p_readStage t_readStage t_p_readRule t_readRule t_value t_ends t_screw])) (pQi g (fun r => r = res) (fl [wk6 g t_p t_length t_p_text t_text t_cavities t_p_volume t_volume t_p_freeze t_freeze t_cores t_p_earlier t_earlier t_stages t_p_place t_place t_p_now t_now t_p_was t_was t_changes t_p_one t_one t_readCavities t_p_readCavity t_readCavity t_readCores t_p_readCore t_readCore t_readStages t_p_readStage t_readStage t_p_readRule t_readRule t_value t_ends t_screw]) (va_A (fl [wk6 g t_p t_length t_p_text t_text t_cavities t_p_volume t_volume t_p_freeze t_freeze t_cores t_p_earlier t_earlier t_stages t_p_place t_place t_p_now t_now t_p_was t_was t_changes t_p_one t_one t_readCavities t_p_readCavity t_readCavity t_readCores t_p_readCore t_readCore t_readStages t_p_readStage t_readStage t_p_readRule t_readRule t_value t_ends t_screw]) sz)) 0 0 (va_A (fl [wk6 g t_p t_length t_p_text t_text t_cavities t_p_volume t_volume t_p_freeze t_freeze t_cores t_p_earlier t_earlier t_stages t_p_place t_place t_p_now t_now t_p_was t_was t_changes t_p_one t_one t_readCavities t_p_readCavity t_readCavity t_readCores t_p_readCore t_readCore t_readStages t_p_readStage t_readStage t_p_readRule t_readRule t_value t_ends t_screw]) sz) := by
  refine Met.ofW (cc := cX6_isCore) (maxL := 2) (ret := (some .boolean)) (by decide) rfl ?_
  intro p e s m args below meth c s₁ B hml hv
  obtain ⟨rfl, hsz, hP, hK, hD0, hG⟩ := hv
  have hx := B.exec
  have hb := B.bytes
  have hr := B.returns
  have hts := atoms_spec (ws := wsX6_isCore) B.pre
  have hown : s.vm.findClass RX6 = some m.cls := findClass_of_methodNamed B.named
  have hlocks := B.notSynchronized
  subst hsz
  have hD := hD0.self (sz := s.heap.size)
  generalize hAe : va_A (fl [wk6 g t_p t_length t_p_text t_text t_cavities t_p_volume t_volume t_p_freeze t_freeze t_cores t_p_earlier t_earlier t_stages t_p_place t_place t_p_now t_now t_p_was t_was t_changes t_p_one t_one t_readCavities t_p_readCavity t_readCavity t_readCores t_p_readCore t_readCore t_readStages t_p_readStage t_readStage t_p_readRule t_readRule t_value t_ends t_screw]) s.heap.size = A at hD hG ⊢
  have hA : ∀ q : Nat, s.heap.size ≤ q → A q := fun q h => by rw [← hAe]; exact Or.inr h
  have hS : va_S A s.heap s.heap [] := va_S.rf
  have hin6 : ∀ w ∈ u_ws RX6 TX6 23, w ∈ wsX6_isCore := by decide +kernel
  have L1 := hts (Cond.fieldLink RX6 73 "MouldShotsModel" "cores" "I") (by decide +kernel)
  have hl := lv_entry ([.ref t_p, .int l1]) (n := 2) (Nat.le_of_ble_eq_true rfl)
  rw [lg_entry_eq]
  generalize (lg_sl ([.ref t_p, .int l1]) ++ List.replicate (2 - (lg_sl ([.ref t_p, .int l1])).length) Slot.unset).toArray = ls at hl ⊢
  replace hl : lv_has ls 2 [(0, .ref t_p), (1, .int l1)] := hl
  rw [f6_isCore] at hf
  have hgo : ∀ (H : Heap) (locs : List Loc), H = s.heap → locs = [] → va_P g.1 vwCl (fl [wk6 g t_p t_length t_p_text t_text t_cavities t_p_volume t_volume t_p_freeze t_freeze t_cores t_p_earlier t_earlier t_stages t_p_place t_place t_p_now t_now t_p_was t_was t_changes t_p_one t_one t_readCavities t_p_readCavity t_readCavity t_readCores t_p_readCore t_readCore t_readStages t_p_readStage t_readStage t_p_readRule t_readRule t_value t_ends t_screw]) H → va_S A s.heap H locs → W p l e ({ frames := 1, cells := 0, slots := 0, locals := 22 }) s m ([.ref t_p, .int l1] : List Value).toArray below meth c H locs 0 0 (MQ below (pQi g (fun r => r = res) (fl [wk6 g t_p t_length t_p_text t_text t_cavities t_p_volume t_volume t_p_freeze t_freeze t_cores t_p_earlier t_earlier t_stages t_p_place t_place t_p_now t_now t_p_was t_was t_changes t_p_one t_one t_readCavities t_p_readCavity t_readCavity t_readCores t_p_readCore t_readCore t_readStages t_p_readStage t_readStage t_p_readRule t_readRule t_value t_ends t_screw]) A) ([.ref t_p, .int l1] : List Value).toArray s 0 0 A) (F0 m 0 ls []) := by
    intro H locs hH hL hP hS
    refine lv_iload_n hx hb dX6_isCore_0 rfl (lv_at hl 1 rfl) ?_
    refine lv_iconst (v := 0) hx hb dX6_isCore_1 (by decide) ?_
    refine lv_aload_n hx hb dX6_isCore_2 rfl (lv_at hl 0 rfl) ?_
    refine va_get (D := g.1) (ci := 6) (v := .int t_cores) (C := RX6) (T := TX6) (N := 23) hx hb hts hin6 hown hK.1 hP 0 rfl rfl 5 (by decide) L1 (fun _ h9 => h9) rfl dX6_isCore_3 ?_
    refine lv_iconst (v := 1) hx hb dX6_isCore_6 (by decide) ?_
    refine lv_isub hx hb dX6_isCore_7 ?_
    obtain ⟨q_1, hq_1, hf⟩ := bd_some hf
    refine aft_i (wn := (fl [wk6 g t_p t_length t_p_text t_text t_cavities t_p_volume t_volume t_p_freeze t_freeze t_cores t_p_earlier t_earlier t_stages t_p_place t_place t_p_now t_now t_p_was t_was t_changes t_p_one t_one t_readCavities t_p_readCavity t_readCavity t_readCores t_p_readCore t_readCore t_readStages t_p_readStage t_readStage t_p_readRule t_readRule t_value t_ends t_screw])) (va_runS (As := [.int l1, .int 0, .int (t_cores - 1)]) (rest := []) ⟨hx, hb, hml, hown, hts⟩ (c6_isIn l g l1 0 (t_cores - 1) H.size N q_1 hq_1) (va_cwS 3 hts gX6_isCore_X6_isIn rfl rfl rfl ⟨nh6.1, nh6.2, pd_17⟩ ⟨Nat.le_of_ble_eq_true rfl, Nat.le_of_ble_eq_true rfl⟩) (pPS hK hG hP hD hS hA [] (by decide) rfl) rfl rfl hl.1 rfl (lv_room (Nat.le_of_ble_eq_true rfl)) dX6_isCore_8 ⟨Nat.zero_le _, Nat.zero_le _⟩) hP hD hS hA [] rfl rfl rfl (fun r_2 H locs hw hP hD hS => ?_)
    replace hw := hw.symm
    subst hw
    obtain ⟨h_3, hf⟩ := if_some hf
    replace hf := Option.some.inj hf
    subst hf
    exact W.zret (v := q_1) hx hb hr (isb_n h_3) (fun t ht hW => ⟨⟨_, (), rfl, rfl, by show va_P g.1 vwCl _ t.heap; rw [ht]; exact hP⟩, hS.F ht⟩) hS.2.2 dX6_isCore_11 hlocks
  exact hgo s.heap [] rfl rfl hP hS

set_option maxHeartbeats 4000000 in
set_option maxRecDepth 100000 in
theorem c6_isCavity (l : Launch) (g : gG) (t_p : Nat) (t_length : Int32) (t_p_text : Nat) (t_text : (Nat → Int32)) (t_cavities : Int32) (t_p_volume : Nat) (t_volume : (Nat → Int32)) (t_p_freeze : Nat) (t_freeze : (Nat → Int32)) (t_cores : Int32) (t_p_earlier : Nat) (t_earlier : (Nat → Int32)) (t_stages : Int32) (t_p_place : Nat) (t_place : (Nat → Int32)) (t_p_now : Nat) (t_now : (Nat → Int32)) (t_p_was : Nat) (t_was : (Nat → Int32)) (t_changes : Int32) (t_p_one : Nat) (t_one : (Nat → Int32)) (t_readCavities : Int32) (t_p_readCavity : Nat) (t_readCavity : (Nat → Int32)) (t_readCores : Int32) (t_p_readCore : Nat) (t_readCore : (Nat → Int32)) (t_readStages : Int32) (t_p_readStage : Nat) (t_readStage : (Nat → Int32)) (t_p_readRule : Nat) (t_readRule : (Nat → Int32)) (t_value : Int32) (t_ends : Int32) (t_screw : Int32) (l1 : Int32) (sz : Nat) (N : Nat) (res : (Int32)) (hf : f6_isCavity N l1 t_cavities = some res) : Met l yX6_isCavity wsX6_isCavity ({ frames := 1, cells := 0, slots := 0, locals := 22 }) (pP g [.ref t_p, .int l1] sz (fl [wk6 g t_p t_length t_p_text t_text t_cavities t_p_volume t_volume t_p_freeze t_freeze t_cores t_p_earlier t_earlier t_stages t_p_place t_place t_p_now t_now t_p_was t_was t_changes t_p_one t_one t_readCavities t_p_readCavity t_readCavity t_readCores t_p_readCore t_readCore t_readStages t_p_readStage t_readStage t_p_readRule t_readRule t_value t_ends t_screw])) (pQi g (fun r => r = res) (fl [wk6 g t_p t_length t_p_text t_text t_cavities t_p_volume t_volume t_p_freeze t_freeze t_cores t_p_earlier t_earlier t_stages t_p_place t_place t_p_now t_now t_p_was t_was t_changes t_p_one t_one t_readCavities t_p_readCavity t_readCavity t_readCores t_p_readCore t_readCore t_readStages t_p_readStage t_readStage t_p_readRule t_readRule t_value t_ends t_screw]) (va_A (fl [wk6 g t_p t_length t_p_text t_text t_cavities t_p_volume t_volume t_p_freeze t_freeze t_cores t_p_earlier t_earlier t_stages t_p_place t_place t_p_now t_now t_p_was t_was t_changes t_p_one t_one t_readCavities t_p_readCavity t_readCavity t_readCores t_p_readCore t_readCore t_readStages t_p_readStage t_readStage t_p_readRule t_readRule t_value t_ends t_screw]) sz)) 0 0 (va_A (fl [wk6 g t_p t_length t_p_text t_text t_cavities t_p_volume t_volume t_p_freeze t_freeze t_cores t_p_earlier t_earlier t_stages t_p_place t_place t_p_now t_now t_p_was t_was t_changes t_p_one t_one t_readCavities t_p_readCavity t_readCavity t_readCores t_p_readCore t_readCore t_readStages t_p_readStage t_readStage t_p_readRule t_readRule t_value t_ends t_screw]) sz) := by
  refine Met.ofW (cc := cX6_isCavity) (maxL := 2) (ret := (some .boolean)) (by decide) rfl ?_
  intro p e s m args below meth c s₁ B hml hv
  obtain ⟨rfl, hsz, hP, hK, hD0, hG⟩ := hv
  have hx := B.exec
  have hb := B.bytes
  have hr := B.returns
  have hts := atoms_spec (ws := wsX6_isCavity) B.pre
  have hown : s.vm.findClass RX6 = some m.cls := findClass_of_methodNamed B.named
  have hlocks := B.notSynchronized
  subst hsz
  have hD := hD0.self (sz := s.heap.size)
  generalize hAe : va_A (fl [wk6 g t_p t_length t_p_text t_text t_cavities t_p_volume t_volume t_p_freeze t_freeze t_cores t_p_earlier t_earlier t_stages t_p_place t_place t_p_now t_now t_p_was t_was t_changes t_p_one t_one t_readCavities t_p_readCavity t_readCavity t_readCores t_p_readCore t_readCore t_readStages t_p_readStage t_readStage t_p_readRule t_readRule t_value t_ends t_screw]) s.heap.size = A at hD hG ⊢
  have hA : ∀ q : Nat, s.heap.size ≤ q → A q := fun q h => by rw [← hAe]; exact Or.inr h
  have hS : va_S A s.heap s.heap [] := va_S.rf
  have hin6 : ∀ w ∈ u_ws RX6 TX6 23, w ∈ wsX6_isCavity := by decide +kernel
  have L1 := hts (Cond.fieldLink RX6 70 "MouldShotsModel" "cavities" "I") (by decide +kernel)
  have hl := lv_entry ([.ref t_p, .int l1]) (n := 2) (Nat.le_of_ble_eq_true rfl)
  rw [lg_entry_eq]
  generalize (lg_sl ([.ref t_p, .int l1]) ++ List.replicate (2 - (lg_sl ([.ref t_p, .int l1])).length) Slot.unset).toArray = ls at hl ⊢
  replace hl : lv_has ls 2 [(0, .ref t_p), (1, .int l1)] := hl
  rw [f6_isCavity] at hf
  have hgo : ∀ (H : Heap) (locs : List Loc), H = s.heap → locs = [] → va_P g.1 vwCl (fl [wk6 g t_p t_length t_p_text t_text t_cavities t_p_volume t_volume t_p_freeze t_freeze t_cores t_p_earlier t_earlier t_stages t_p_place t_place t_p_now t_now t_p_was t_was t_changes t_p_one t_one t_readCavities t_p_readCavity t_readCavity t_readCores t_p_readCore t_readCore t_readStages t_p_readStage t_readStage t_p_readRule t_readRule t_value t_ends t_screw]) H → va_S A s.heap H locs → W p l e ({ frames := 1, cells := 0, slots := 0, locals := 22 }) s m ([.ref t_p, .int l1] : List Value).toArray below meth c H locs 0 0 (MQ below (pQi g (fun r => r = res) (fl [wk6 g t_p t_length t_p_text t_text t_cavities t_p_volume t_volume t_p_freeze t_freeze t_cores t_p_earlier t_earlier t_stages t_p_place t_place t_p_now t_now t_p_was t_was t_changes t_p_one t_one t_readCavities t_p_readCavity t_readCavity t_readCores t_p_readCore t_readCore t_readStages t_p_readStage t_readStage t_p_readRule t_readRule t_value t_ends t_screw]) A) ([.ref t_p, .int l1] : List Value).toArray s 0 0 A) (F0 m 0 ls []) := by
    intro H locs hH hL hP hS
    refine lv_iload_n hx hb dX6_isCavity_0 rfl (lv_at hl 1 rfl) ?_
    refine lv_iconst (v := 0) hx hb dX6_isCavity_1 (by decide) ?_
    refine lv_aload_n hx hb dX6_isCavity_2 rfl (lv_at hl 0 rfl) ?_
    refine va_get (D := g.1) (ci := 6) (v := .int t_cavities) (C := RX6) (T := TX6) (N := 23) hx hb hts hin6 hown hK.1 hP 0 rfl rfl 2 (by decide) L1 (fun _ h9 => h9) rfl dX6_isCavity_3 ?_
    refine lv_iconst (v := 1) hx hb dX6_isCavity_6 (by decide) ?_
    refine lv_isub hx hb dX6_isCavity_7 ?_
    obtain ⟨q_1, hq_1, hf⟩ := bd_some hf
    refine aft_i (wn := (fl [wk6 g t_p t_length t_p_text t_text t_cavities t_p_volume t_volume t_p_freeze t_freeze t_cores t_p_earlier t_earlier t_stages t_p_place t_place t_p_now t_now t_p_was t_was t_changes t_p_one t_one t_readCavities t_p_readCavity t_readCavity t_readCores t_p_readCore t_readCore t_readStages t_p_readStage t_readStage t_p_readRule t_readRule t_value t_ends t_screw])) (va_runS (As := [.int l1, .int 0, .int (t_cavities - 1)]) (rest := []) ⟨hx, hb, hml, hown, hts⟩ (c6_isIn l g l1 0 (t_cavities - 1) H.size N q_1 hq_1) (va_cwS 3 hts gX6_isCavity_X6_isIn rfl rfl rfl ⟨nh6.1, nh6.2, pd_17⟩ ⟨Nat.le_of_ble_eq_true rfl, Nat.le_of_ble_eq_true rfl⟩) (pPS hK hG hP hD hS hA [] (by decide) rfl) rfl rfl hl.1 rfl (lv_room (Nat.le_of_ble_eq_true rfl)) dX6_isCavity_8 ⟨Nat.zero_le _, Nat.zero_le _⟩) hP hD hS hA [] rfl rfl rfl (fun r_2 H locs hw hP hD hS => ?_)
    replace hw := hw.symm
    subst hw
    obtain ⟨h_3, hf⟩ := if_some hf
    replace hf := Option.some.inj hf
    subst hf
    exact W.zret (v := q_1) hx hb hr (isb_n h_3) (fun t ht hW => ⟨⟨_, (), rfl, rfl, by show va_P g.1 vwCl _ t.heap; rw [ht]; exact hP⟩, hS.F ht⟩) hS.2.2 dX6_isCavity_11 hlocks
  exact hgo s.heap [] rfl rfl hP hS

set_option maxHeartbeats 4000000 in
set_option maxRecDepth 100000 in
theorem c6_isShot (l : Launch) (g : gG) (t_p : Nat) (t_length : Int32) (t_p_text : Nat) (t_text : (Nat → Int32)) (t_cavities : Int32) (t_p_volume : Nat) (t_volume : (Nat → Int32)) (t_p_freeze : Nat) (t_freeze : (Nat → Int32)) (t_cores : Int32) (t_p_earlier : Nat) (t_earlier : (Nat → Int32)) (t_stages : Int32) (t_p_place : Nat) (t_place : (Nat → Int32)) (t_p_now : Nat) (t_now : (Nat → Int32)) (t_p_was : Nat) (t_was : (Nat → Int32)) (t_changes : Int32) (t_p_one : Nat) (t_one : (Nat → Int32)) (t_readCavities : Int32) (t_p_readCavity : Nat) (t_readCavity : (Nat → Int32)) (t_readCores : Int32) (t_p_readCore : Nat) (t_readCore : (Nat → Int32)) (t_readStages : Int32) (t_p_readStage : Nat) (t_readStage : (Nat → Int32)) (t_p_readRule : Nat) (t_readRule : (Nat → Int32)) (t_value : Int32) (t_ends : Int32) (t_screw : Int32) (l1 : Int32) (sz : Nat) (N : Nat) (res : (Int32)) (hf : f6_isShot N l1 t_now = some res) : Met l yX6_isShot wsX6_isShot ({ frames := 1, cells := 0, slots := 0, locals := 22 }) (pP g [.ref t_p, .int l1] sz (fl [wk6 g t_p t_length t_p_text t_text t_cavities t_p_volume t_volume t_p_freeze t_freeze t_cores t_p_earlier t_earlier t_stages t_p_place t_place t_p_now t_now t_p_was t_was t_changes t_p_one t_one t_readCavities t_p_readCavity t_readCavity t_readCores t_p_readCore t_readCore t_readStages t_p_readStage t_readStage t_p_readRule t_readRule t_value t_ends t_screw])) (pQi g (fun r => r = res) (fl [wk6 g t_p t_length t_p_text t_text t_cavities t_p_volume t_volume t_p_freeze t_freeze t_cores t_p_earlier t_earlier t_stages t_p_place t_place t_p_now t_now t_p_was t_was t_changes t_p_one t_one t_readCavities t_p_readCavity t_readCavity t_readCores t_p_readCore t_readCore t_readStages t_p_readStage t_readStage t_p_readRule t_readRule t_value t_ends t_screw]) (va_A (fl [wk6 g t_p t_length t_p_text t_text t_cavities t_p_volume t_volume t_p_freeze t_freeze t_cores t_p_earlier t_earlier t_stages t_p_place t_place t_p_now t_now t_p_was t_was t_changes t_p_one t_one t_readCavities t_p_readCavity t_readCavity t_readCores t_p_readCore t_readCore t_readStages t_p_readStage t_readStage t_p_readRule t_readRule t_value t_ends t_screw]) sz)) 0 0 (va_A (fl [wk6 g t_p t_length t_p_text t_text t_cavities t_p_volume t_volume t_p_freeze t_freeze t_cores t_p_earlier t_earlier t_stages t_p_place t_place t_p_now t_now t_p_was t_was t_changes t_p_one t_one t_readCavities t_p_readCavity t_readCavity t_readCores t_p_readCore t_readCore t_readStages t_p_readStage t_readStage t_p_readRule t_readRule t_value t_ends t_screw]) sz) := by
  refine Met.ofW (cc := cX6_isShot) (maxL := 2) (ret := (some .boolean)) (by decide) rfl ?_
  intro p e s m args below meth c s₁ B hml hv
  obtain ⟨rfl, hsz, hP, hK, hD0, hG⟩ := hv
  have hx := B.exec
  have hb := B.bytes
  have hr := B.returns
  have hts := atoms_spec (ws := wsX6_isShot) B.pre
  have hown : s.vm.findClass RX6 = some m.cls := findClass_of_methodNamed B.named
  have hlocks := B.notSynchronized
  subst hsz
  have hD := hD0.self (sz := s.heap.size)
  generalize hAe : va_A (fl [wk6 g t_p t_length t_p_text t_text t_cavities t_p_volume t_volume t_p_freeze t_freeze t_cores t_p_earlier t_earlier t_stages t_p_place t_place t_p_now t_now t_p_was t_was t_changes t_p_one t_one t_readCavities t_p_readCavity t_readCavity t_readCores t_p_readCore t_readCore t_readStages t_p_readStage t_readStage t_p_readRule t_readRule t_value t_ends t_screw]) s.heap.size = A at hD hG ⊢
  have hA : ∀ q : Nat, s.heap.size ≤ q → A q := fun q h => by rw [← hAe]; exact Or.inr h
  have hS : va_S A s.heap s.heap [] := va_S.rf
  have hin6 : ∀ w ∈ u_ws RX6 TX6 23, w ∈ wsX6_isShot := by decide +kernel
  have L1 := hts (Cond.fieldLink RX6 25 "MouldShotsModel" "now" "[I") (by decide +kernel)
  have hl := lv_entry ([.ref t_p, .int l1]) (n := 2) (Nat.le_of_ble_eq_true rfl)
  rw [lg_entry_eq]
  generalize (lg_sl ([.ref t_p, .int l1]) ++ List.replicate (2 - (lg_sl ([.ref t_p, .int l1])).length) Slot.unset).toArray = ls at hl ⊢
  replace hl : lv_has ls 2 [(0, .ref t_p), (1, .int l1)] := hl
  rw [f6_isShot] at hf
  have hgo : ∀ (H : Heap) (locs : List Loc), H = s.heap → locs = [] → va_P g.1 vwCl (fl [wk6 g t_p t_length t_p_text t_text t_cavities t_p_volume t_volume t_p_freeze t_freeze t_cores t_p_earlier t_earlier t_stages t_p_place t_place t_p_now t_now t_p_was t_was t_changes t_p_one t_one t_readCavities t_p_readCavity t_readCavity t_readCores t_p_readCore t_readCore t_readStages t_p_readStage t_readStage t_p_readRule t_readRule t_value t_ends t_screw]) H → va_S A s.heap H locs → W p l e ({ frames := 1, cells := 0, slots := 0, locals := 22 }) s m ([.ref t_p, .int l1] : List Value).toArray below meth c H locs 0 0 (MQ below (pQi g (fun r => r = res) (fl [wk6 g t_p t_length t_p_text t_text t_cavities t_p_volume t_volume t_p_freeze t_freeze t_cores t_p_earlier t_earlier t_stages t_p_place t_place t_p_now t_now t_p_was t_was t_changes t_p_one t_one t_readCavities t_p_readCavity t_readCavity t_readCores t_p_readCore t_readCore t_readStages t_p_readStage t_readStage t_p_readRule t_readRule t_value t_ends t_screw]) A) ([.ref t_p, .int l1] : List Value).toArray s 0 0 A) (F0 m 0 ls []) := by
    intro H locs hH hL hP hS
    refine lv_iload_n hx hb dX6_isShot_0 rfl (lv_at hl 1 rfl) ?_
    refine lv_iconst (v := 0) hx hb dX6_isShot_1 (by decide) ?_
    refine lv_aload_n hx hb dX6_isShot_2 rfl (lv_at hl 0 rfl) ?_
    refine va_get (D := g.1) (ci := 6) (v := .ref t_p_now) (C := RX6) (T := TX6) (N := 23) hx hb hts hin6 hown hK.1 hP 0 rfl rfl 9 (by decide) L1 (fun _ h9 => h9) rfl dX6_isShot_3 ?_
    refine lv_sipush (v := 1008) hx hb dX6_isShot_6 (by decide) ?_
    obtain ⟨h_1, hf⟩ := if_some hf
    refine va_iald hx hb hK.1 hP 6 0 rfl rfl (ok_in h_1) dX6_isShot_9 ?_
    refine lv_iconst (v := 1) hx hb dX6_isShot_10 (by decide) ?_
    refine lv_isub hx hb dX6_isShot_11 ?_
    obtain ⟨q_2, hq_2, hf⟩ := bd_some hf
    refine aft_i (wn := (fl [wk6 g t_p t_length t_p_text t_text t_cavities t_p_volume t_volume t_p_freeze t_freeze t_cores t_p_earlier t_earlier t_stages t_p_place t_place t_p_now t_now t_p_was t_was t_changes t_p_one t_one t_readCavities t_p_readCavity t_readCavity t_readCores t_p_readCore t_readCore t_readStages t_p_readStage t_readStage t_p_readRule t_readRule t_value t_ends t_screw])) (va_runS (As := [.int l1, .int 0, .int ((t_now (Int32.toNatClampNeg 1008)) - 1)]) (rest := []) ⟨hx, hb, hml, hown, hts⟩ (c6_isIn l g l1 0 ((t_now (Int32.toNatClampNeg 1008)) - 1) H.size N q_2 hq_2) (va_cwS 3 hts gX6_isShot_X6_isIn rfl rfl rfl ⟨nh6.1, nh6.2, pd_17⟩ ⟨Nat.le_of_ble_eq_true rfl, Nat.le_of_ble_eq_true rfl⟩) (pPS hK hG hP hD hS hA [] (by decide) rfl) rfl rfl hl.1 rfl (lv_room (Nat.le_of_ble_eq_true rfl)) dX6_isShot_12 ⟨Nat.zero_le _, Nat.zero_le _⟩) hP hD hS hA [] rfl rfl rfl (fun r_3 H locs hw hP hD hS => ?_)
    replace hw := hw.symm
    subst hw
    obtain ⟨h_4, hf⟩ := if_some hf
    replace hf := Option.some.inj hf
    subst hf
    exact W.zret (v := q_2) hx hb hr (isb_n h_4) (fun t ht hW => ⟨⟨_, (), rfl, rfl, by show va_P g.1 vwCl _ t.heap; rw [ht]; exact hP⟩, hS.F ht⟩) hS.2.2 dX6_isShot_15 hlocks
  exact hgo s.heap [] rfl rfl hP hS

set_option maxHeartbeats 4000000 in
set_option maxRecDepth 100000 in
theorem c6_mould (l : Launch) (g : gG) (t_p : Nat) (t_length : Int32) (t_p_text : Nat) (t_text : (Nat → Int32)) (t_cavities : Int32) (t_p_volume : Nat) (t_volume : (Nat → Int32)) (t_p_freeze : Nat) (t_freeze : (Nat → Int32)) (t_cores : Int32) (t_p_earlier : Nat) (t_earlier : (Nat → Int32)) (t_stages : Int32) (t_p_place : Nat) (t_place : (Nat → Int32)) (t_p_now : Nat) (t_now : (Nat → Int32)) (t_p_was : Nat) (t_was : (Nat → Int32)) (t_changes : Int32) (t_p_one : Nat) (t_one : (Nat → Int32)) (t_readCavities : Int32) (t_p_readCavity : Nat) (t_readCavity : (Nat → Int32)) (t_readCores : Int32) (t_p_readCore : Nat) (t_readCore : (Nat → Int32)) (t_readStages : Int32) (t_p_readStage : Nat) (t_readStage : (Nat → Int32)) (t_p_readRule : Nat) (t_readRule : (Nat → Int32)) (t_value : Int32) (t_ends : Int32) (t_screw : Int32) (l1 : Int32) (sz : Nat) (N : Nat) (res : (Int32 × (Nat → Int32) × (Nat → Int32) × Int32)) (hf : f6_mould N l1 t_now t_was t_changes = some res) : Met l yX6_mould wsX6_mould ({ frames := 1, cells := 0, slots := 0, locals := 22 }) (pP g [.ref t_p, .int l1] sz (fl [wk6 g t_p t_length t_p_text t_text t_cavities t_p_volume t_volume t_p_freeze t_freeze t_cores t_p_earlier t_earlier t_stages t_p_place t_place t_p_now t_now t_p_was t_was t_changes t_p_one t_one t_readCavities t_p_readCavity t_readCavity t_readCores t_p_readCore t_readCore t_readStages t_p_readStage t_readStage t_p_readRule t_readRule t_value t_ends t_screw])) (pQi g (fun r => r = res.1) (fl [wk6 g t_p t_length t_p_text t_text t_cavities t_p_volume t_volume t_p_freeze t_freeze t_cores t_p_earlier t_earlier t_stages t_p_place t_place t_p_now res.2.1 t_p_was res.2.2.1 res.2.2.2 t_p_one t_one t_readCavities t_p_readCavity t_readCavity t_readCores t_p_readCore t_readCore t_readStages t_p_readStage t_readStage t_p_readRule t_readRule t_value t_ends t_screw]) (va_A (fl [wk6 g t_p t_length t_p_text t_text t_cavities t_p_volume t_volume t_p_freeze t_freeze t_cores t_p_earlier t_earlier t_stages t_p_place t_place t_p_now t_now t_p_was t_was t_changes t_p_one t_one t_readCavities t_p_readCavity t_readCavity t_readCores t_p_readCore t_readCore t_readStages t_p_readStage t_readStage t_p_readRule t_readRule t_value t_ends t_screw]) sz)) 0 0 (va_A (fl [wk6 g t_p t_length t_p_text t_text t_cavities t_p_volume t_volume t_p_freeze t_freeze t_cores t_p_earlier t_earlier t_stages t_p_place t_place t_p_now t_now t_p_was t_was t_changes t_p_one t_one t_readCavities t_p_readCavity t_readCavity t_readCores t_p_readCore t_readCore t_readStages t_p_readStage t_readStage t_p_readRule t_readRule t_value t_ends t_screw]) sz) := by
  refine Met.ofW (cc := cX6_mould) (maxL := 3) (ret := (some .int)) (by decide) rfl ?_
  intro p e s m args below meth c s₁ B hml hv
  obtain ⟨rfl, hsz, hP, hK, hD0, hG⟩ := hv
  have hx := B.exec
  have hb := B.bytes
  have hr := B.returns
  have hts := atoms_spec (ws := wsX6_mould) B.pre
  have hown : s.vm.findClass RX6 = some m.cls := findClass_of_methodNamed B.named
  have hlocks := B.notSynchronized
  subst hsz
  have hD := hD0.self (sz := s.heap.size)
  generalize hAe : va_A (fl [wk6 g t_p t_length t_p_text t_text t_cavities t_p_volume t_volume t_p_freeze t_freeze t_cores t_p_earlier t_earlier t_stages t_p_place t_place t_p_now t_now t_p_was t_was t_changes t_p_one t_one t_readCavities t_p_readCavity t_readCavity t_readCores t_p_readCore t_readCore t_readStages t_p_readStage t_readStage t_p_readRule t_readRule t_value t_ends t_screw]) s.heap.size = A at hD hG ⊢
  have hA : ∀ q : Nat, s.heap.size ≤ q → A q := fun q h => by rw [← hAe]; exact Or.inr h
  have hS : va_S A s.heap s.heap [] := va_S.rf
  have hin6 : ∀ w ∈ u_ws RX6 TX6 23, w ∈ wsX6_mould := by decide +kernel
  have L1 := hts (Cond.fieldLink RX6 25 "MouldShotsModel" "now" "[I") (by decide +kernel)
  have w_106 : ∀ (v2 : Int32) (s1 : Int32) (s2 : Int32) (t_now : (Nat → Int32)) (t_was : (Nat → Int32)) (t_changes : Int32) (H : Heap) (locs : List Loc) (ls : Array Slot), f6_mould_106  N v2 s1 s2 t_now t_was t_changes = some res → va_P g.1 vwCl (fl [wk6 g t_p t_length t_p_text t_text t_cavities t_p_volume t_volume t_p_freeze t_freeze t_cores t_p_earlier t_earlier t_stages t_p_place t_place t_p_now t_now t_p_was t_was t_changes t_p_one t_one t_readCavities t_p_readCavity t_readCavity t_readCores t_p_readCore t_readCore t_readStages t_p_readStage t_readStage t_p_readRule t_readRule t_value t_ends t_screw]) H → va_D A (fl [wk6 g t_p t_length t_p_text t_text t_cavities t_p_volume t_volume t_p_freeze t_freeze t_cores t_p_earlier t_earlier t_stages t_p_place t_place t_p_now t_now t_p_was t_was t_changes t_p_one t_one t_readCavities t_p_readCavity t_readCavity t_readCores t_p_readCore t_readCore t_readStages t_p_readStage t_readStage t_p_readRule t_readRule t_value t_ends t_screw]) → va_S A s.heap H locs → lv_has ls 3 [(2, .int v2)] → W p l e ({ frames := 1, cells := 0, slots := 0, locals := 22 }) s m ([.ref t_p, .int l1] : List Value).toArray below meth c H locs 0 0 (MQ below (pQi g (fun r => r = res.1) (fl [wk6 g t_p t_length t_p_text t_text t_cavities t_p_volume t_volume t_p_freeze t_freeze t_cores t_p_earlier t_earlier t_stages t_p_place t_place t_p_now res.2.1 t_p_was res.2.2.1 res.2.2.2 t_p_one t_one t_readCavities t_p_readCavity t_readCavity t_readCores t_p_readCore t_readCore t_readStages t_p_readStage t_readStage t_p_readRule t_readRule t_value t_ends t_screw]) A) ([.ref t_p, .int l1] : List Value).toArray s 0 0 A) (F0 m 106 ls [.int s2, .int s1, .ref t_p_now]) := by
    intro  v2 s1 s2 t_now t_was t_changes H locs ls hf hP hD hS hl
    rw [f6_mould_106] at hf
    obtain ⟨h_17, hf⟩ := if_some hf
    refine va_iast hx hb hK.1 hP hD hS 6 0 rfl rfl (ok_in h_17) dX6_mould_106 (fun H locs hP hD hS => ?_)
    replace hP : va_P g.1 vwCl (fl [wk6 g t_p t_length t_p_text t_text t_cavities t_p_volume t_volume t_p_freeze t_freeze t_cores t_p_earlier t_earlier t_stages t_p_place t_place t_p_now (upd t_now (Int32.toNatClampNeg s1) s2) t_p_was t_was t_changes t_p_one t_one t_readCavities t_p_readCavity t_readCavity t_readCores t_p_readCore t_readCore t_readStages t_p_readStage t_readStage t_p_readRule t_readRule t_value t_ends t_screw]) H := hP
    replace hD : va_D A (fl [wk6 g t_p t_length t_p_text t_text t_cavities t_p_volume t_volume t_p_freeze t_freeze t_cores t_p_earlier t_earlier t_stages t_p_place t_place t_p_now (upd t_now (Int32.toNatClampNeg s1) s2) t_p_was t_was t_changes t_p_one t_one t_readCavities t_p_readCavity t_readCavity t_readCores t_p_readCore t_readCore t_readStages t_p_readStage t_readStage t_p_readRule t_readRule t_value t_ends t_screw]) := hD
    refine lv_iload_n hx hb dX6_mould_107 rfl (lv_at hl 0 rfl) ?_
    replace hf := Option.some.inj hf
    subst hf
    exact W.iret (v := v2) hx hb hr (fun t ht hW => ⟨⟨_, (), rfl, rfl, by show va_P g.1 vwCl _ t.heap; rw [ht]; exact hP⟩, hS.F ht⟩) hS.2.2 dX6_mould_108 hlocks
  have w_82 : ∀ (v1 : Int32) (s0 : Int32) (t_now : (Nat → Int32)) (t_was : (Nat → Int32)) (t_changes : Int32) (H : Heap) (locs : List Loc) (ls : Array Slot), f6_mould_82  N v1 s0 t_now t_was t_changes = some res → va_P g.1 vwCl (fl [wk6 g t_p t_length t_p_text t_text t_cavities t_p_volume t_volume t_p_freeze t_freeze t_cores t_p_earlier t_earlier t_stages t_p_place t_place t_p_now t_now t_p_was t_was t_changes t_p_one t_one t_readCavities t_p_readCavity t_readCavity t_readCores t_p_readCore t_readCore t_readStages t_p_readStage t_readStage t_p_readRule t_readRule t_value t_ends t_screw]) H → va_D A (fl [wk6 g t_p t_length t_p_text t_text t_cavities t_p_volume t_volume t_p_freeze t_freeze t_cores t_p_earlier t_earlier t_stages t_p_place t_place t_p_now t_now t_p_was t_was t_changes t_p_one t_one t_readCavities t_p_readCavity t_readCavity t_readCores t_p_readCore t_readCore t_readStages t_p_readStage t_readStage t_p_readRule t_readRule t_value t_ends t_screw]) → va_S A s.heap H locs → lv_has ls 3 [(0, .ref t_p), (1, .int v1)] → W p l e ({ frames := 1, cells := 0, slots := 0, locals := 22 }) s m ([.ref t_p, .int l1] : List Value).toArray below meth c H locs 0 0 (MQ below (pQi g (fun r => r = res.1) (fl [wk6 g t_p t_length t_p_text t_text t_cavities t_p_volume t_volume t_p_freeze t_freeze t_cores t_p_earlier t_earlier t_stages t_p_place t_place t_p_now res.2.1 t_p_was res.2.2.1 res.2.2.2 t_p_one t_one t_readCavities t_p_readCavity t_readCavity t_readCores t_p_readCore t_readCore t_readStages t_p_readStage t_readStage t_p_readRule t_readRule t_value t_ends t_screw]) A) ([.ref t_p, .int l1] : List Value).toArray s 0 0 A) (F0 m 82 ls [.int s0]) := by
    intro  v1 s0 t_now t_was t_changes H locs ls hf hP hD hS hl
    rw [f6_mould_82] at hf
    refine lv_istore_n (lv' := [(2, .int s0), (0, .ref t_p), (1, .int v1)]) hx hb dX6_mould_82 rfl hl (by decide) rfl (fun ls hl => ?_)
    refine lv_aload_n hx hb dX6_mould_83 rfl (lv_at hl 1 rfl) ?_
    refine va_get (D := g.1) (ci := 6) (v := .ref t_p_now) (C := RX6) (T := TX6) (N := 23) hx hb hts hin6 hown hK.1 hP 0 rfl rfl 9 (by decide) L1 (fun _ h9 => h9) rfl dX6_mould_84 ?_
    refine lv_sipush (v := 1012) hx hb dX6_mould_87 (by decide) ?_
    refine lv_iload_n hx hb dX6_mould_90 rfl (lv_at hl 2 rfl) ?_
    refine lv_if_ne (tgt := 98) hx hb dX6_mould_91 (by decide) (fun c_15 => ?_) (fun c_15 => ?_)
    · replace hf := (if_neg c_15).symm.trans hf
      refine lv_aload_n hx hb dX6_mould_98 rfl (lv_at hl 1 rfl) ?_
      refine va_get (D := g.1) (ci := 6) (v := .ref t_p_now) (C := RX6) (T := TX6) (N := 23) hx hb hts hin6 hown hK.1 hP 0 rfl rfl 9 (by decide) L1 (fun _ h9 => h9) rfl dX6_mould_99 ?_
      refine lv_sipush (v := 1012) hx hb dX6_mould_102 (by decide) ?_
      obtain ⟨h_16, hf⟩ := if_some hf
      refine va_iald hx hb hK.1 hP 6 0 rfl rfl (ok_in h_16) dX6_mould_105 ?_
      exact w_106  s0 1012 (t_now (Int32.toNatClampNeg 1012)) t_now t_was t_changes H locs ls hf hP hD hS (lv_sub hl [0] rfl)
    · replace hf := (if_pos c_15).symm.trans hf
      refine lv_iconst (v := 0) hx hb dX6_mould_94 (by decide) ?_
      refine lv_goto (tgt := 106) hx hb dX6_mould_95 (by decide) ?_
      exact w_106  s0 1012 0 t_now t_was t_changes H locs ls hf hP hD hS (lv_sub hl [0] rfl)
  have w_53 : ∀ (v1 : Int32) (t_now : (Nat → Int32)) (t_was : (Nat → Int32)) (t_changes : Int32) (H : Heap) (locs : List Loc) (ls : Array Slot), f6_mould_53  N v1 t_now t_was t_changes = some res → va_P g.1 vwCl (fl [wk6 g t_p t_length t_p_text t_text t_cavities t_p_volume t_volume t_p_freeze t_freeze t_cores t_p_earlier t_earlier t_stages t_p_place t_place t_p_now t_now t_p_was t_was t_changes t_p_one t_one t_readCavities t_p_readCavity t_readCavity t_readCores t_p_readCore t_readCore t_readStages t_p_readStage t_readStage t_p_readRule t_readRule t_value t_ends t_screw]) H → va_D A (fl [wk6 g t_p t_length t_p_text t_text t_cavities t_p_volume t_volume t_p_freeze t_freeze t_cores t_p_earlier t_earlier t_stages t_p_place t_place t_p_now t_now t_p_was t_was t_changes t_p_one t_one t_readCavities t_p_readCavity t_readCavity t_readCores t_p_readCore t_readCore t_readStages t_p_readStage t_readStage t_p_readRule t_readRule t_value t_ends t_screw]) → va_S A s.heap H locs → lv_has ls 3 [(0, .ref t_p), (1, .int v1)] → W p l e ({ frames := 1, cells := 0, slots := 0, locals := 22 }) s m ([.ref t_p, .int l1] : List Value).toArray below meth c H locs 0 0 (MQ below (pQi g (fun r => r = res.1) (fl [wk6 g t_p t_length t_p_text t_text t_cavities t_p_volume t_volume t_p_freeze t_freeze t_cores t_p_earlier t_earlier t_stages t_p_place t_place t_p_now res.2.1 t_p_was res.2.2.1 res.2.2.2 t_p_one t_one t_readCavities t_p_readCavity t_readCavity t_readCores t_p_readCore t_readCore t_readStages t_p_readStage t_readStage t_p_readRule t_readRule t_value t_ends t_screw]) A) ([.ref t_p, .int l1] : List Value).toArray s 0 0 A) (F0 m 53 ls []) := by
    intro  v1 t_now t_was t_changes H locs ls hf hP hD hS hl
    rw [f6_mould_53] at hf
    refine lv_aload_n hx hb dX6_mould_53 rfl (lv_at hl 0 rfl) ?_
    obtain ⟨q_11, hq_11, hf⟩ := bd_some hf
    refine bft_v (bn := [wk6 g t_p t_length t_p_text t_text t_cavities t_p_volume t_volume t_p_freeze t_freeze t_cores t_p_earlier t_earlier t_stages t_p_place t_place t_p_now t_now t_p_was q_11.1 q_11.2 t_p_one t_one t_readCavities t_p_readCavity t_readCavity t_readCores t_p_readCore t_readCore t_readStages t_p_readStage t_readStage t_p_readRule t_readRule t_value t_ends t_screw]) (L := [[t_p, t_p_text, t_p_volume, t_p_freeze, t_p_earlier, t_p_place, t_p_now, t_p_was, t_p_one, t_p_readCavity, t_p_readCore, t_p_readStage, t_p_readRule]]) (va_runV (As := []) (rest := []) ⟨hx, hb, hml, hown, hts⟩ (c6_keeps l g t_p t_length t_p_text t_text t_cavities t_p_volume t_volume t_p_freeze t_freeze t_cores t_p_earlier t_earlier t_stages t_p_place t_place t_p_now t_now t_p_was t_was t_changes t_p_one t_one t_readCavities t_p_readCavity t_readCavity t_readCores t_p_readCore t_readCore t_readStages t_p_readStage t_readStage t_p_readRule t_readRule t_value t_ends t_screw H.size N q_11 hq_11) (cwV 0 hts gX6_mould_X6_keeps rfl rfl rfl ⟨rfl, nh6.1, nh6.2, pd_9⟩ ⟨Nat.le_of_ble_eq_true rfl, Nat.le_of_ble_eq_true rfl⟩) (qPV hK hG hP hD hS hA [0] (by decide) rfl (va_recv hK.1 hP (ci := 6) (q0 := 0) rfl rfl)) rfl rfl hl.1 rfl (lv_room (Nat.le_of_ble_eq_true rfl)) dX6_mould_54 ⟨Nat.zero_le _, Nat.zero_le _⟩) hP hD hS hA [0] rfl rfl rfl rfl (fun H locs hP hD hS => ?_)
    refine lv_aload_n hx hb dX6_mould_57 rfl (lv_at hl 0 rfl) ?_
    refine va_get (D := g.1) (ci := 6) (v := .ref t_p_now) (C := RX6) (T := TX6) (N := 23) hx hb hts hin6 hown hK.1 hP 0 rfl rfl 9 (by decide) L1 (fun _ h9 => h9) rfl dX6_mould_58 ?_
    refine lv_sipush (v := 1010) hx hb dX6_mould_61 (by decide) ?_
    refine lv_iload_n hx hb dX6_mould_64 rfl (lv_at hl 1 rfl) ?_
    obtain ⟨h_12, hf⟩ := if_some hf
    refine va_iast hx hb hK.1 hP hD hS 6 0 rfl rfl (ok_in h_12) dX6_mould_65 (fun H locs hP hD hS => ?_)
    replace hP : va_P g.1 vwCl (fl [wk6 g t_p t_length t_p_text t_text t_cavities t_p_volume t_volume t_p_freeze t_freeze t_cores t_p_earlier t_earlier t_stages t_p_place t_place t_p_now (upd t_now (Int32.toNatClampNeg 1010) v1) t_p_was q_11.1 q_11.2 t_p_one t_one t_readCavities t_p_readCavity t_readCavity t_readCores t_p_readCore t_readCore t_readStages t_p_readStage t_readStage t_p_readRule t_readRule t_value t_ends t_screw]) H := hP
    replace hD : va_D A (fl [wk6 g t_p t_length t_p_text t_text t_cavities t_p_volume t_volume t_p_freeze t_freeze t_cores t_p_earlier t_earlier t_stages t_p_place t_place t_p_now (upd t_now (Int32.toNatClampNeg 1010) v1) t_p_was q_11.1 q_11.2 t_p_one t_one t_readCavities t_p_readCavity t_readCavity t_readCores t_p_readCore t_readCore t_readStages t_p_readStage t_readStage t_p_readRule t_readRule t_value t_ends t_screw]) := hD
    refine lv_iload_n hx hb dX6_mould_66 rfl (lv_at hl 1 rfl) ?_
    refine lv_if_ne (tgt := 81) hx hb dX6_mould_67 (by decide) (fun c_13 => ?_) (fun c_13 => ?_)
    · replace hf := (if_neg c_13).symm.trans hf
      refine lv_iconst (v := 0) hx hb dX6_mould_81 (by decide) ?_
      exact w_82  v1 0 (upd t_now (Int32.toNatClampNeg 1010) v1) q_11.1 q_11.2 H locs ls hf hP hD hS (lv_sub hl [0, 1] rfl)
    · replace hf := (if_pos c_13).symm.trans hf
      refine lv_aload_n hx hb dX6_mould_70 rfl (lv_at hl 0 rfl) ?_
      refine va_get (D := g.1) (ci := 6) (v := .ref t_p_now) (C := RX6) (T := TX6) (N := 23) hx hb hts hin6 hown hK.1 hP 0 rfl rfl 9 (by decide) L1 (fun _ h9 => h9) rfl dX6_mould_71 ?_
      refine lv_sipush (v := 1012) hx hb dX6_mould_74 (by decide) ?_
      obtain ⟨h_14, hf⟩ := if_some hf
      refine va_iald hx hb hK.1 hP 6 0 rfl rfl (ok_in h_14) dX6_mould_77 ?_
      refine lv_goto (tgt := 82) hx hb dX6_mould_78 (by decide) ?_
      exact w_82  v1 ((upd t_now (Int32.toNatClampNeg 1010) v1) (Int32.toNatClampNeg 1012)) (upd t_now (Int32.toNatClampNeg 1010) v1) q_11.1 q_11.2 H locs ls hf hP hD hS (lv_sub hl [0, 1] rfl)
  have hl := lv_entry ([.ref t_p, .int l1]) (n := 3) (Nat.le_of_ble_eq_true rfl)
  rw [lg_entry_eq]
  generalize (lg_sl ([.ref t_p, .int l1]) ++ List.replicate (3 - (lg_sl ([.ref t_p, .int l1])).length) Slot.unset).toArray = ls at hl ⊢
  replace hl : lv_has ls 3 [(0, .ref t_p), (1, .int l1)] := hl
  rw [f6_mould] at hf
  have hgo : ∀ (H : Heap) (locs : List Loc), H = s.heap → locs = [] → va_P g.1 vwCl (fl [wk6 g t_p t_length t_p_text t_text t_cavities t_p_volume t_volume t_p_freeze t_freeze t_cores t_p_earlier t_earlier t_stages t_p_place t_place t_p_now t_now t_p_was t_was t_changes t_p_one t_one t_readCavities t_p_readCavity t_readCavity t_readCores t_p_readCore t_readCore t_readStages t_p_readStage t_readStage t_p_readRule t_readRule t_value t_ends t_screw]) H → va_S A s.heap H locs → W p l e ({ frames := 1, cells := 0, slots := 0, locals := 22 }) s m ([.ref t_p, .int l1] : List Value).toArray below meth c H locs 0 0 (MQ below (pQi g (fun r => r = res.1) (fl [wk6 g t_p t_length t_p_text t_text t_cavities t_p_volume t_volume t_p_freeze t_freeze t_cores t_p_earlier t_earlier t_stages t_p_place t_place t_p_now res.2.1 t_p_was res.2.2.1 res.2.2.2 t_p_one t_one t_readCavities t_p_readCavity t_readCavity t_readCores t_p_readCore t_readCore t_readStages t_p_readStage t_readStage t_p_readRule t_readRule t_value t_ends t_screw]) A) ([.ref t_p, .int l1] : List Value).toArray s 0 0 A) (F0 m 0 ls []) := by
    intro H locs hH hL hP hS
    refine lv_iload_n hx hb dX6_mould_0 rfl (lv_at hl 1 rfl) ?_
    refine lv_iconst (v := 0) hx hb dX6_mould_1 (by decide) ?_
    refine lv_iconst (v := 1) hx hb dX6_mould_2 (by decide) ?_
    obtain ⟨q_1, hq_1, hf⟩ := bd_some hf
    refine aft_i (wn := (fl [wk6 g t_p t_length t_p_text t_text t_cavities t_p_volume t_volume t_p_freeze t_freeze t_cores t_p_earlier t_earlier t_stages t_p_place t_place t_p_now t_now t_p_was t_was t_changes t_p_one t_one t_readCavities t_p_readCavity t_readCavity t_readCores t_p_readCore t_readCore t_readStages t_p_readStage t_readStage t_p_readRule t_readRule t_value t_ends t_screw])) (va_runS (As := [.int l1, .int 0, .int 1]) (rest := []) ⟨hx, hb, hml, hown, hts⟩ (c6_isIn l g l1 0 1 H.size N q_1 hq_1) (va_cwS 3 hts gX6_mould_X6_isIn rfl rfl rfl ⟨nh6.1, nh6.2, pd_17⟩ ⟨Nat.le_of_ble_eq_true rfl, Nat.le_of_ble_eq_true rfl⟩) (pPS hK hG hP hD hS hA [] (by decide) rfl) rfl rfl hl.1 rfl (lv_room (Nat.le_of_ble_eq_true rfl)) dX6_mould_3 ⟨Nat.zero_le _, Nat.zero_le _⟩) hP hD hS hA [] rfl rfl rfl (fun r_2 H locs hw hP hD hS => ?_)
    replace hw := hw.symm
    subst hw
    refine lv_if_ne (tgt := 11) hx hb dX6_mould_6 (by decide) (fun c_3 => ?_) (fun c_3 => ?_)
    · replace hf := (if_neg c_3).symm.trans hf
      refine lv_aload_n hx hb dX6_mould_11 rfl (lv_at hl 0 rfl) ?_
      refine va_get (D := g.1) (ci := 6) (v := .ref t_p_now) (C := RX6) (T := TX6) (N := 23) hx hb hts hin6 hown hK.1 hP 0 rfl rfl 9 (by decide) L1 (fun _ h9 => h9) rfl dX6_mould_12 ?_
      refine lv_sipush (v := 1010) hx hb dX6_mould_15 (by decide) ?_
      obtain ⟨h_4, hf⟩ := if_some hf
      refine va_iald hx hb hK.1 hP 6 0 rfl rfl (ok_in h_4) dX6_mould_18 ?_
      refine lv_iload_n hx hb dX6_mould_19 rfl (lv_at hl 1 rfl) ?_
      refine lv_icmp_eq (tgt := 50) hx hb dX6_mould_20 (by decide) (fun c_5 => ?_) (fun c_5 => ?_)
      · replace hf := (if_pos c_5).symm.trans hf
        refine lv_bipush (v := (-2)) hx hb dX6_mould_50 (by decide) ?_
        replace hf := Option.some.inj hf
        subst hf
        exact W.iret (v := (-2)) hx hb hr (fun t ht hW => ⟨⟨_, (), rfl, rfl, by show va_P g.1 vwCl _ t.heap; rw [ht]; exact hP⟩, hS.F ht⟩) hS.2.2 dX6_mould_52 hlocks
      · replace hf := (if_neg c_5).symm.trans hf
        refine lv_iload_n hx hb dX6_mould_23 rfl (lv_at hl 1 rfl) ?_
        refine lv_if_ne (tgt := 53) hx hb dX6_mould_24 (by decide) (fun c_6 => ?_) (fun c_6 => ?_)
        · replace hf := (if_neg c_6).symm.trans hf
          exact w_53  l1 t_now t_was t_changes H locs ls hf hP hD hS (lv_sub hl [0, 1] rfl)
        · replace hf := (if_pos c_6).symm.trans hf
          refine lv_aload_n hx hb dX6_mould_27 rfl (lv_at hl 0 rfl) ?_
          refine va_get (D := g.1) (ci := 6) (v := .ref t_p_now) (C := RX6) (T := TX6) (N := 23) hx hb hts hin6 hown hK.1 hP 0 rfl rfl 9 (by decide) L1 (fun _ h9 => h9) rfl dX6_mould_28 ?_
          refine lv_sipush (v := 1011) hx hb dX6_mould_31 (by decide) ?_
          obtain ⟨h_7, hf⟩ := if_some hf
          refine va_iald hx hb hK.1 hP 6 0 rfl rfl (ok_in h_7) dX6_mould_34 ?_
          refine lv_if_ne (tgt := 50) hx hb dX6_mould_35 (by decide) (fun c_8 => ?_) (fun c_8 => ?_)
          · replace hf := (if_neg c_8).symm.trans hf
            refine lv_bipush (v := (-2)) hx hb dX6_mould_50 (by decide) ?_
            replace hf := Option.some.inj hf
            subst hf
            exact W.iret (v := (-2)) hx hb hr (fun t ht hW => ⟨⟨_, (), rfl, rfl, by show va_P g.1 vwCl _ t.heap; rw [ht]; exact hP⟩, hS.F ht⟩) hS.2.2 dX6_mould_52 hlocks
          · replace hf := (if_pos c_8).symm.trans hf
            refine lv_aload_n hx hb dX6_mould_38 rfl (lv_at hl 0 rfl) ?_
            refine va_get (D := g.1) (ci := 6) (v := .ref t_p_now) (C := RX6) (T := TX6) (N := 23) hx hb hts hin6 hown hK.1 hP 0 rfl rfl 9 (by decide) L1 (fun _ h9 => h9) rfl dX6_mould_39 ?_
            refine lv_sipush (v := 1013) hx hb dX6_mould_42 (by decide) ?_
            obtain ⟨h_9, hf⟩ := if_some hf
            refine va_iald hx hb hK.1 hP 6 0 rfl rfl (ok_in h_9) dX6_mould_45 ?_
            refine lv_iconst (v := 1) hx hb dX6_mould_46 (by decide) ?_
            refine lv_icmp_ne (tgt := 53) hx hb dX6_mould_47 (by decide) (fun c_10 => ?_) (fun c_10 => ?_)
            · replace hf := (if_neg c_10).symm.trans hf
              exact w_53  l1 t_now t_was t_changes H locs ls hf hP hD hS (lv_sub hl [0, 1] rfl)
            · replace hf := (if_pos c_10).symm.trans hf
              refine lv_bipush (v := (-2)) hx hb dX6_mould_50 (by decide) ?_
              replace hf := Option.some.inj hf
              subst hf
              exact W.iret (v := (-2)) hx hb hr (fun t ht hW => ⟨⟨_, (), rfl, rfl, by show va_P g.1 vwCl _ t.heap; rw [ht]; exact hP⟩, hS.F ht⟩) hS.2.2 dX6_mould_52 hlocks
    · replace hf := (if_pos c_3).symm.trans hf
      refine lv_iconst (v := (-1)) hx hb dX6_mould_9 (by decide) ?_
      replace hf := Option.some.inj hf
      subst hf
      exact W.iret (v := (-1)) hx hb hr (fun t ht hW => ⟨⟨_, (), rfl, rfl, by show va_P g.1 vwCl _ t.heap; rw [ht]; exact hP⟩, hS.F ht⟩) hS.2.2 dX6_mould_10 hlocks
  exact hgo s.heap [] rfl rfl hP hS

set_option maxHeartbeats 4000000 in
set_option maxRecDepth 100000 in
theorem c6_against1 (l : Launch) (g : gG) (t_p : Nat) (t_length : Int32) (t_p_text : Nat) (t_text : (Nat → Int32)) (t_cavities : Int32) (t_p_volume : Nat) (t_volume : (Nat → Int32)) (t_p_freeze : Nat) (t_freeze : (Nat → Int32)) (t_cores : Int32) (t_p_earlier : Nat) (t_earlier : (Nat → Int32)) (t_stages : Int32) (t_p_place : Nat) (t_place : (Nat → Int32)) (t_p_now : Nat) (t_now : (Nat → Int32)) (t_p_was : Nat) (t_was : (Nat → Int32)) (t_changes : Int32) (t_p_one : Nat) (t_one : (Nat → Int32)) (t_readCavities : Int32) (t_p_readCavity : Nat) (t_readCavity : (Nat → Int32)) (t_readCores : Int32) (t_p_readCore : Nat) (t_readCore : (Nat → Int32)) (t_readStages : Int32) (t_p_readStage : Nat) (t_readStage : (Nat → Int32)) (t_p_readRule : Nat) (t_readRule : (Nat → Int32)) (t_value : Int32) (t_ends : Int32) (t_screw : Int32) (l1 : Int32) (l2 : Int32) (sz : Nat) (N : Nat) (res : (Int32)) (hf : f6_against1 N l1 l2 t_cores t_earlier t_now = some res) : Met l yX6_against1 wsX6_against1 ({ frames := 0, cells := 0, slots := 0, locals := 0 }) (pP g [.ref t_p, .int l1, .int l2] sz (fl [wk6 g t_p t_length t_p_text t_text t_cavities t_p_volume t_volume t_p_freeze t_freeze t_cores t_p_earlier t_earlier t_stages t_p_place t_place t_p_now t_now t_p_was t_was t_changes t_p_one t_one t_readCavities t_p_readCavity t_readCavity t_readCores t_p_readCore t_readCore t_readStages t_p_readStage t_readStage t_p_readRule t_readRule t_value t_ends t_screw])) (pQi g (fun r => r = res) (fl [wk6 g t_p t_length t_p_text t_text t_cavities t_p_volume t_volume t_p_freeze t_freeze t_cores t_p_earlier t_earlier t_stages t_p_place t_place t_p_now t_now t_p_was t_was t_changes t_p_one t_one t_readCavities t_p_readCavity t_readCavity t_readCores t_p_readCore t_readCore t_readStages t_p_readStage t_readStage t_p_readRule t_readRule t_value t_ends t_screw]) (va_A (fl [wk6 g t_p t_length t_p_text t_text t_cavities t_p_volume t_volume t_p_freeze t_freeze t_cores t_p_earlier t_earlier t_stages t_p_place t_place t_p_now t_now t_p_was t_was t_changes t_p_one t_one t_readCavities t_p_readCavity t_readCavity t_readCores t_p_readCore t_readCore t_readStages t_p_readStage t_readStage t_p_readRule t_readRule t_value t_ends t_screw]) sz)) 0 0 (va_A (fl [wk6 g t_p t_length t_p_text t_text t_cavities t_p_volume t_volume t_p_freeze t_freeze t_cores t_p_earlier t_earlier t_stages t_p_place t_place t_p_now t_now t_p_was t_was t_changes t_p_one t_one t_readCavities t_p_readCavity t_readCavity t_readCores t_p_readCore t_readCore t_readStages t_p_readStage t_readStage t_p_readRule t_readRule t_value t_ends t_screw]) sz) := by
  refine Met.ofW (cc := cX6_against1) (maxL := 4) (ret := (some .int)) (by decide) rfl ?_
  intro p e s m args below meth c s₁ B hml hv
  obtain ⟨rfl, hsz, hP, hK, hD0, hG⟩ := hv
  have hx := B.exec
  have hb := B.bytes
  have hr := B.returns
  have hts := atoms_spec (ws := wsX6_against1) B.pre
  have hown : s.vm.findClass RX6 = some m.cls := findClass_of_methodNamed B.named
  have hlocks := B.notSynchronized
  subst hsz
  have hD := hD0.self (sz := s.heap.size)
  generalize hAe : va_A (fl [wk6 g t_p t_length t_p_text t_text t_cavities t_p_volume t_volume t_p_freeze t_freeze t_cores t_p_earlier t_earlier t_stages t_p_place t_place t_p_now t_now t_p_was t_was t_changes t_p_one t_one t_readCavities t_p_readCavity t_readCavity t_readCores t_p_readCore t_readCore t_readStages t_p_readStage t_readStage t_p_readRule t_readRule t_value t_ends t_screw]) s.heap.size = A at hD hG ⊢
  have hA : ∀ q : Nat, s.heap.size ≤ q → A q := fun q h => by rw [← hAe]; exact Or.inr h
  have hS : va_S A s.heap s.heap [] := va_S.rf
  have hin6 : ∀ w ∈ u_ws RX6 TX6 23, w ∈ wsX6_against1 := by decide +kernel
  have L1 := hts (Cond.fieldLink RX6 25 "MouldShotsModel" "now" "[I") (by decide +kernel)
  have L2 := hts (Cond.fieldLink RX6 19 "MouldShotsModel" "earlier" "[I") (by decide +kernel)
  have L3 := hts (Cond.fieldLink RX6 73 "MouldShotsModel" "cores" "I") (by decide +kernel)
  have w_116 : ∀ n : Nat, ∀ (v1 : Int32) (v3 : Int32)  (H : Heap) (locs : List Loc) (ls : Array Slot), f6_against1_116  N n v1 v3 t_cores t_earlier t_now = some res → va_P g.1 vwCl (fl [wk6 g t_p t_length t_p_text t_text t_cavities t_p_volume t_volume t_p_freeze t_freeze t_cores t_p_earlier t_earlier t_stages t_p_place t_place t_p_now t_now t_p_was t_was t_changes t_p_one t_one t_readCavities t_p_readCavity t_readCavity t_readCores t_p_readCore t_readCore t_readStages t_p_readStage t_readStage t_p_readRule t_readRule t_value t_ends t_screw]) H → va_D A (fl [wk6 g t_p t_length t_p_text t_text t_cavities t_p_volume t_volume t_p_freeze t_freeze t_cores t_p_earlier t_earlier t_stages t_p_place t_place t_p_now t_now t_p_was t_was t_changes t_p_one t_one t_readCavities t_p_readCavity t_readCavity t_readCores t_p_readCore t_readCore t_readStages t_p_readStage t_readStage t_p_readRule t_readRule t_value t_ends t_screw]) → va_S A s.heap H locs → lv_has ls 4 [(0, .ref t_p), (1, .int v1), (3, .int v3)] → W p l e ({ frames := 0, cells := 0, slots := 0, locals := 0 }) s m ([.ref t_p, .int l1, .int l2] : List Value).toArray below meth c H locs 0 0 (MQ below (pQi g (fun r => r = res) (fl [wk6 g t_p t_length t_p_text t_text t_cavities t_p_volume t_volume t_p_freeze t_freeze t_cores t_p_earlier t_earlier t_stages t_p_place t_place t_p_now t_now t_p_was t_was t_changes t_p_one t_one t_readCavities t_p_readCavity t_readCavity t_readCores t_p_readCore t_readCore t_readStages t_p_readStage t_readStage t_p_readRule t_readRule t_value t_ends t_screw]) A) ([.ref t_p, .int l1, .int l2] : List Value).toArray s 0 0 A) (F0 m 116 ls []) := by
    intro  n
    induction n with
    | zero => intro v1 v3 H locs ls hf; exact no_some hf
    | succ n ih =>
      intro v1 v3 H locs ls hf hP hD hS hl
      rw [f6_against1_116] at hf
      refine lv_iload_n hx hb dX6_against1_116 rfl (lv_at hl 2 rfl) ?_
      refine lv_aload_n hx hb dX6_against1_117 rfl (lv_at hl 0 rfl) ?_
      refine va_get (D := g.1) (ci := 6) (v := .int t_cores) (C := RX6) (T := TX6) (N := 23) hx hb hts hin6 hown hK.1 hP 0 rfl rfl 5 (by decide) L3 (fun _ h9 => h9) rfl dX6_against1_118 ?_
      refine lv_icmp_ge (tgt := 160) hx hb dX6_against1_121 (by decide) (fun c_17 => ?_) (fun c_17 => ?_)
      · replace hf := (if_pos c_17).symm.trans hf
        refine lv_iconst (v := 0) hx hb dX6_against1_160 (by decide) ?_
        replace hf := Option.some.inj hf
        subst hf
        exact W.iret (v := 0) hx hb hr (fun t ht hW => ⟨⟨_, (), rfl, rfl, by show va_P g.1 vwCl _ t.heap; rw [ht]; exact hP⟩, hS.F ht⟩) hS.2.2 dX6_against1_161 hlocks
      · replace hf := (if_neg c_17).symm.trans hf
        refine lv_aload_n hx hb dX6_against1_124 rfl (lv_at hl 0 rfl) ?_
        refine va_get (D := g.1) (ci := 6) (v := .ref t_p_earlier) (C := RX6) (T := TX6) (N := 23) hx hb hts hin6 hown hK.1 hP 0 rfl rfl 6 (by decide) L2 (fun _ h9 => h9) rfl dX6_against1_125 ?_
        refine lv_iload_n hx hb dX6_against1_128 rfl (lv_at hl 2 rfl) ?_
        obtain ⟨h_18, hf⟩ := if_some hf
        refine va_iald hx hb hK.1 hP 4 0 rfl rfl (ok_in h_18) dX6_against1_129 ?_
        refine lv_iload_n hx hb dX6_against1_130 rfl (lv_at hl 1 rfl) ?_
        refine lv_icmp_ne (tgt := 154) hx hb dX6_against1_131 (by decide) (fun c_19 => ?_) (fun c_19 => ?_)
        · replace hf := (if_neg c_19).symm.trans hf
          refine lv_iinc (v := v3 + 1) (lv' := [(3, .int (v3 + 1)), (0, .ref t_p), (1, .int v1)]) hx hb dX6_against1_154 hl (k := 2) rfl rfl (by decide) rfl (fun ls hl => ?_)
          refine lv_goto (tgt := 116) hx hb dX6_against1_157 (by decide) ?_
          exact ih v1 (v3 + 1) H locs ls hf hP hD hS (lv_sub hl [1, 2, 0] rfl)
        · replace hf := (if_pos c_19).symm.trans hf
          refine lv_aload_n hx hb dX6_against1_134 rfl (lv_at hl 0 rfl) ?_
          refine va_get (D := g.1) (ci := 6) (v := .ref t_p_now) (C := RX6) (T := TX6) (N := 23) hx hb hts hin6 hown hK.1 hP 0 rfl rfl 9 (by decide) L1 (fun _ h9 => h9) rfl dX6_against1_135 ?_
          refine lv_sipush (v := 1011) hx hb dX6_against1_138 (by decide) ?_
          obtain ⟨h_20, hf⟩ := if_some hf
          refine va_iald hx hb hK.1 hP 6 0 rfl rfl (ok_in h_20) dX6_against1_141 ?_
          refine lv_iload_n hx hb dX6_against1_142 rfl (lv_at hl 2 rfl) ?_
          refine lv_ishr hx hb dX6_against1_143 ?_
          refine lv_iconst (v := 1) hx hb dX6_against1_144 (by decide) ?_
          refine lv_iand hx hb dX6_against1_145 ?_
          refine lv_iconst (v := 1) hx hb dX6_against1_146 (by decide) ?_
          refine lv_icmp_ne (tgt := 154) hx hb dX6_against1_147 (by decide) (fun c_21 => ?_) (fun c_21 => ?_)
          · replace hf := (if_neg c_21).symm.trans hf
            refine lv_iinc (v := v3 + 1) (lv' := [(3, .int (v3 + 1)), (0, .ref t_p), (1, .int v1)]) hx hb dX6_against1_154 hl (k := 2) rfl rfl (by decide) rfl (fun ls hl => ?_)
            refine lv_goto (tgt := 116) hx hb dX6_against1_157 (by decide) ?_
            exact ih v1 (v3 + 1) H locs ls hf hP hD hS (lv_sub hl [1, 2, 0] rfl)
          · replace hf := (if_pos c_21).symm.trans hf
            refine lv_iconst (v := 4) hx hb dX6_against1_150 (by decide) ?_
            refine lv_iload_n hx hb dX6_against1_151 rfl (lv_at hl 2 rfl) ?_
            refine lv_iadd hx hb dX6_against1_152 ?_
            replace hf := Option.some.inj hf
            subst hf
            exact W.iret (v := 4 + v3) hx hb hr (fun t ht hW => ⟨⟨_, (), rfl, rfl, by show va_P g.1 vwCl _ t.heap; rw [ht]; exact hP⟩, hS.F ht⟩) hS.2.2 dX6_against1_153 hlocks
  have w_65 : ∀ (v1 : Int32) (v2 : Int32)  (H : Heap) (locs : List Loc) (ls : Array Slot), f6_against1_65  N v1 v2 t_cores t_earlier t_now = some res → va_P g.1 vwCl (fl [wk6 g t_p t_length t_p_text t_text t_cavities t_p_volume t_volume t_p_freeze t_freeze t_cores t_p_earlier t_earlier t_stages t_p_place t_place t_p_now t_now t_p_was t_was t_changes t_p_one t_one t_readCavities t_p_readCavity t_readCavity t_readCores t_p_readCore t_readCore t_readStages t_p_readStage t_readStage t_p_readRule t_readRule t_value t_ends t_screw]) H → va_D A (fl [wk6 g t_p t_length t_p_text t_text t_cavities t_p_volume t_volume t_p_freeze t_freeze t_cores t_p_earlier t_earlier t_stages t_p_place t_place t_p_now t_now t_p_was t_was t_changes t_p_one t_one t_readCavities t_p_readCavity t_readCavity t_readCores t_p_readCore t_readCore t_readStages t_p_readStage t_readStage t_p_readRule t_readRule t_value t_ends t_screw]) → va_S A s.heap H locs → lv_has ls 4 [(0, .ref t_p), (1, .int v1), (2, .int v2)] → W p l e ({ frames := 0, cells := 0, slots := 0, locals := 0 }) s m ([.ref t_p, .int l1, .int l2] : List Value).toArray below meth c H locs 0 0 (MQ below (pQi g (fun r => r = res) (fl [wk6 g t_p t_length t_p_text t_text t_cavities t_p_volume t_volume t_p_freeze t_freeze t_cores t_p_earlier t_earlier t_stages t_p_place t_place t_p_now t_now t_p_was t_was t_changes t_p_one t_one t_readCavities t_p_readCavity t_readCavity t_readCores t_p_readCore t_readCore t_readStages t_p_readStage t_readStage t_p_readRule t_readRule t_value t_ends t_screw]) A) ([.ref t_p, .int l1, .int l2] : List Value).toArray s 0 0 A) (F0 m 65 ls []) := by
    intro  v1 v2 H locs ls hf hP hD hS hl
    rw [f6_against1_65] at hf
    refine lv_iload_n hx hb dX6_against1_65 rfl (lv_at hl 2 rfl) ?_
    refine lv_iconst (v := 1) hx hb dX6_against1_66 (by decide) ?_
    refine lv_icmp_ne (tgt := 114) hx hb dX6_against1_67 (by decide) (fun c_10 => ?_) (fun c_10 => ?_)
    · replace hf := (if_neg c_10).symm.trans hf
      refine lv_iconst (v := 0) hx hb dX6_against1_114 (by decide) ?_
      refine lv_istore_n (lv' := [(3, .int 0), (0, .ref t_p), (1, .int v1), (2, .int v2)]) hx hb dX6_against1_115 rfl hl (by decide) rfl (fun ls hl => ?_)
      exact w_116  N v1 0 H locs ls hf hP hD hS (lv_sub hl [1, 2, 0] rfl)
    · replace hf := (if_pos c_10).symm.trans hf
      refine lv_aload_n hx hb dX6_against1_70 rfl (lv_at hl 0 rfl) ?_
      refine va_get (D := g.1) (ci := 6) (v := .ref t_p_earlier) (C := RX6) (T := TX6) (N := 23) hx hb hts hin6 hown hK.1 hP 0 rfl rfl 6 (by decide) L2 (fun _ h9 => h9) rfl dX6_against1_71 ?_
      refine lv_iload_n hx hb dX6_against1_74 rfl (lv_at hl 1 rfl) ?_
      obtain ⟨h_11, hf⟩ := if_some hf
      refine va_iald hx hb hK.1 hP 4 0 rfl rfl (ok_in h_11) dX6_against1_75 ?_
      refine lv_bipush (v := (-4)) hx hb dX6_against1_76 (by decide) ?_
      refine lv_icmp_eq (tgt := 112) hx hb dX6_against1_78 (by decide) (fun c_12 => ?_) (fun c_12 => ?_)
      · replace hf := (if_pos c_12).symm.trans hf
        refine lv_iconst (v := 0) hx hb dX6_against1_112 (by decide) ?_
        replace hf := Option.some.inj hf
        subst hf
        exact W.iret (v := 0) hx hb hr (fun t ht hW => ⟨⟨_, (), rfl, rfl, by show va_P g.1 vwCl _ t.heap; rw [ht]; exact hP⟩, hS.F ht⟩) hS.2.2 dX6_against1_113 hlocks
      · replace hf := (if_neg c_12).symm.trans hf
        refine lv_aload_n hx hb dX6_against1_81 rfl (lv_at hl 0 rfl) ?_
        refine va_get (D := g.1) (ci := 6) (v := .ref t_p_now) (C := RX6) (T := TX6) (N := 23) hx hb hts hin6 hown hK.1 hP 0 rfl rfl 9 (by decide) L1 (fun _ h9 => h9) rfl dX6_against1_82 ?_
        refine lv_sipush (v := 1011) hx hb dX6_against1_85 (by decide) ?_
        obtain ⟨h_13, hf⟩ := if_some hf
        refine va_iald hx hb hK.1 hP 6 0 rfl rfl (ok_in h_13) dX6_against1_88 ?_
        refine lv_aload_n hx hb dX6_against1_89 rfl (lv_at hl 0 rfl) ?_
        refine va_get (D := g.1) (ci := 6) (v := .ref t_p_earlier) (C := RX6) (T := TX6) (N := 23) hx hb hts hin6 hown hK.1 hP 0 rfl rfl 6 (by decide) L2 (fun _ h9 => h9) rfl dX6_against1_90 ?_
        refine lv_iload_n hx hb dX6_against1_93 rfl (lv_at hl 1 rfl) ?_
        obtain ⟨h_14, hf⟩ := if_some hf
        refine va_iald hx hb hK.1 hP 4 0 rfl rfl (ok_in h_14) dX6_against1_94 ?_
        refine lv_ishr hx hb dX6_against1_95 ?_
        refine lv_iconst (v := 1) hx hb dX6_against1_96 (by decide) ?_
        refine lv_iand hx hb dX6_against1_97 ?_
        refine lv_if_ne (tgt := 112) hx hb dX6_against1_98 (by decide) (fun c_15 => ?_) (fun c_15 => ?_)
        · replace hf := (if_neg c_15).symm.trans hf
          refine lv_iconst (v := 0) hx hb dX6_against1_112 (by decide) ?_
          replace hf := Option.some.inj hf
          subst hf
          exact W.iret (v := 0) hx hb hr (fun t ht hW => ⟨⟨_, (), rfl, rfl, by show va_P g.1 vwCl _ t.heap; rw [ht]; exact hP⟩, hS.F ht⟩) hS.2.2 dX6_against1_113 hlocks
        · replace hf := (if_pos c_15).symm.trans hf
          refine lv_iconst (v := 4) hx hb dX6_against1_101 (by decide) ?_
          refine lv_aload_n hx hb dX6_against1_102 rfl (lv_at hl 0 rfl) ?_
          refine va_get (D := g.1) (ci := 6) (v := .ref t_p_earlier) (C := RX6) (T := TX6) (N := 23) hx hb hts hin6 hown hK.1 hP 0 rfl rfl 6 (by decide) L2 (fun _ h9 => h9) rfl dX6_against1_103 ?_
          refine lv_iload_n hx hb dX6_against1_106 rfl (lv_at hl 1 rfl) ?_
          obtain ⟨h_16, hf⟩ := if_some hf
          refine va_iald hx hb hK.1 hP 4 0 rfl rfl (ok_in h_16) dX6_against1_107 ?_
          refine lv_iadd hx hb dX6_against1_108 ?_
          refine lv_goto (tgt := 113) hx hb dX6_against1_109 (by decide) ?_
          replace hf := Option.some.inj hf
          subst hf
          exact W.iret (v := 4 + (t_earlier (Int32.toNatClampNeg v1))) hx hb hr (fun t ht hW => ⟨⟨_, (), rfl, rfl, by show va_P g.1 vwCl _ t.heap; rw [ht]; exact hP⟩, hS.F ht⟩) hS.2.2 dX6_against1_113 hlocks
  have hl := lv_entry ([.ref t_p, .int l1, .int l2]) (n := 4) (Nat.le_of_ble_eq_true rfl)
  rw [lg_entry_eq]
  generalize (lg_sl ([.ref t_p, .int l1, .int l2]) ++ List.replicate (4 - (lg_sl ([.ref t_p, .int l1, .int l2])).length) Slot.unset).toArray = ls at hl ⊢
  replace hl : lv_has ls 4 [(0, .ref t_p), (1, .int l1), (2, .int l2)] := hl
  rw [f6_against1] at hf
  have hgo : ∀ (H : Heap) (locs : List Loc), H = s.heap → locs = [] → va_P g.1 vwCl (fl [wk6 g t_p t_length t_p_text t_text t_cavities t_p_volume t_volume t_p_freeze t_freeze t_cores t_p_earlier t_earlier t_stages t_p_place t_place t_p_now t_now t_p_was t_was t_changes t_p_one t_one t_readCavities t_p_readCavity t_readCavity t_readCores t_p_readCore t_readCore t_readStages t_p_readStage t_readStage t_p_readRule t_readRule t_value t_ends t_screw]) H → va_S A s.heap H locs → W p l e ({ frames := 0, cells := 0, slots := 0, locals := 0 }) s m ([.ref t_p, .int l1, .int l2] : List Value).toArray below meth c H locs 0 0 (MQ below (pQi g (fun r => r = res) (fl [wk6 g t_p t_length t_p_text t_text t_cavities t_p_volume t_volume t_p_freeze t_freeze t_cores t_p_earlier t_earlier t_stages t_p_place t_place t_p_now t_now t_p_was t_was t_changes t_p_one t_one t_readCavities t_p_readCavity t_readCavity t_readCores t_p_readCore t_readCore t_readStages t_p_readStage t_readStage t_p_readRule t_readRule t_value t_ends t_screw]) A) ([.ref t_p, .int l1, .int l2] : List Value).toArray s 0 0 A) (F0 m 0 ls []) := by
    intro H locs hH hL hP hS
    refine lv_aload_n hx hb dX6_against1_0 rfl (lv_at hl 0 rfl) ?_
    refine va_get (D := g.1) (ci := 6) (v := .ref t_p_now) (C := RX6) (T := TX6) (N := 23) hx hb hts hin6 hown hK.1 hP 0 rfl rfl 9 (by decide) L1 (fun _ h9 => h9) rfl dX6_against1_1 ?_
    refine lv_sipush (v := 1011) hx hb dX6_against1_4 (by decide) ?_
    obtain ⟨h_1, hf⟩ := if_some hf
    refine va_iald hx hb hK.1 hP 6 0 rfl rfl (ok_in h_1) dX6_against1_7 ?_
    refine lv_iload_n hx hb dX6_against1_8 rfl (lv_at hl 1 rfl) ?_
    refine lv_ishr hx hb dX6_against1_9 ?_
    refine lv_iconst (v := 1) hx hb dX6_against1_10 (by decide) ?_
    refine lv_iand hx hb dX6_against1_11 ?_
    refine lv_iload_n hx hb dX6_against1_12 rfl (lv_at hl 2 rfl) ?_
    refine lv_icmp_ne (tgt := 18) hx hb dX6_against1_13 (by decide) (fun c_2 => ?_) (fun c_2 => ?_)
    · replace hf := (if_neg c_2).symm.trans hf
      refine lv_aload_n hx hb dX6_against1_18 rfl (lv_at hl 0 rfl) ?_
      refine va_get (D := g.1) (ci := 6) (v := .ref t_p_now) (C := RX6) (T := TX6) (N := 23) hx hb hts hin6 hown hK.1 hP 0 rfl rfl 9 (by decide) L1 (fun _ h9 => h9) rfl dX6_against1_19 ?_
      refine lv_sipush (v := 1010) hx hb dX6_against1_22 (by decide) ?_
      obtain ⟨h_3, hf⟩ := if_some hf
      refine va_iald hx hb hK.1 hP 6 0 rfl rfl (ok_in h_3) dX6_against1_25 ?_
      refine lv_if_ne (tgt := 31) hx hb dX6_against1_26 (by decide) (fun c_4 => ?_) (fun c_4 => ?_)
      · replace hf := (if_neg c_4).symm.trans hf
        refine lv_iload_n hx hb dX6_against1_31 rfl (lv_at hl 2 rfl) ?_
        refine lv_iconst (v := 1) hx hb dX6_against1_32 (by decide) ?_
        refine lv_icmp_ne (tgt := 51) hx hb dX6_against1_33 (by decide) (fun c_5 => ?_) (fun c_5 => ?_)
        · replace hf := (if_neg c_5).symm.trans hf
          refine lv_aload_n hx hb dX6_against1_51 rfl (lv_at hl 0 rfl) ?_
          refine va_get (D := g.1) (ci := 6) (v := .ref t_p_now) (C := RX6) (T := TX6) (N := 23) hx hb hts hin6 hown hK.1 hP 0 rfl rfl 9 (by decide) L1 (fun _ h9 => h9) rfl dX6_against1_52 ?_
          refine lv_sipush (v := 1013) hx hb dX6_against1_55 (by decide) ?_
          obtain ⟨h_6, hf⟩ := if_some hf
          refine va_iald hx hb hK.1 hP 6 0 rfl rfl (ok_in h_6) dX6_against1_58 ?_
          refine lv_iconst (v := 1) hx hb dX6_against1_59 (by decide) ?_
          refine lv_icmp_ne (tgt := 65) hx hb dX6_against1_60 (by decide) (fun c_7 => ?_) (fun c_7 => ?_)
          · replace hf := (if_neg c_7).symm.trans hf
            exact w_65  l1 l2 H locs ls hf hP hD hS (lv_sub hl [0, 1, 2] rfl)
          · replace hf := (if_pos c_7).symm.trans hf
            refine lv_iconst (v := 3) hx hb dX6_against1_63 (by decide) ?_
            replace hf := Option.some.inj hf
            subst hf
            exact W.iret (v := 3) hx hb hr (fun t ht hW => ⟨⟨_, (), rfl, rfl, by show va_P g.1 vwCl _ t.heap; rw [ht]; exact hP⟩, hS.F ht⟩) hS.2.2 dX6_against1_64 hlocks
        · replace hf := (if_pos c_5).symm.trans hf
          refine lv_aload_n hx hb dX6_against1_36 rfl (lv_at hl 0 rfl) ?_
          refine va_get (D := g.1) (ci := 6) (v := .ref t_p_now) (C := RX6) (T := TX6) (N := 23) hx hb hts hin6 hown hK.1 hP 0 rfl rfl 9 (by decide) L1 (fun _ h9 => h9) rfl dX6_against1_37 ?_
          refine lv_sipush (v := 1012) hx hb dX6_against1_40 (by decide) ?_
          obtain ⟨h_8, hf⟩ := if_some hf
          refine va_iald hx hb hK.1 hP 6 0 rfl rfl (ok_in h_8) dX6_against1_43 ?_
          refine lv_iconst (v := 1) hx hb dX6_against1_44 (by decide) ?_
          refine lv_icmp_ne (tgt := 65) hx hb dX6_against1_45 (by decide) (fun c_9 => ?_) (fun c_9 => ?_)
          · replace hf := (if_neg c_9).symm.trans hf
            exact w_65  l1 l2 H locs ls hf hP hD hS (lv_sub hl [0, 1, 2] rfl)
          · replace hf := (if_pos c_9).symm.trans hf
            refine lv_goto (tgt := 63) hx hb dX6_against1_48 (by decide) ?_
            refine lv_iconst (v := 3) hx hb dX6_against1_63 (by decide) ?_
            replace hf := Option.some.inj hf
            subst hf
            exact W.iret (v := 3) hx hb hr (fun t ht hW => ⟨⟨_, (), rfl, rfl, by show va_P g.1 vwCl _ t.heap; rw [ht]; exact hP⟩, hS.F ht⟩) hS.2.2 dX6_against1_64 hlocks
      · replace hf := (if_pos c_4).symm.trans hf
        refine lv_iconst (v := 2) hx hb dX6_against1_29 (by decide) ?_
        replace hf := Option.some.inj hf
        subst hf
        exact W.iret (v := 2) hx hb hr (fun t ht hW => ⟨⟨_, (), rfl, rfl, by show va_P g.1 vwCl _ t.heap; rw [ht]; exact hP⟩, hS.F ht⟩) hS.2.2 dX6_against1_30 hlocks
    · replace hf := (if_pos c_2).symm.trans hf
      refine lv_iconst (v := 1) hx hb dX6_against1_16 (by decide) ?_
      replace hf := Option.some.inj hf
      subst hf
      exact W.iret (v := 1) hx hb hr (fun t ht hW => ⟨⟨_, (), rfl, rfl, by show va_P g.1 vwCl _ t.heap; rw [ht]; exact hP⟩, hS.F ht⟩) hS.2.2 dX6_against1_17 hlocks
  exact hgo s.heap [] rfl rfl hP hS

set_option maxHeartbeats 4000000 in
set_option maxRecDepth 100000 in
theorem c6_against (l : Launch) (g : gG) (t_p : Nat) (t_length : Int32) (t_p_text : Nat) (t_text : (Nat → Int32)) (t_cavities : Int32) (t_p_volume : Nat) (t_volume : (Nat → Int32)) (t_p_freeze : Nat) (t_freeze : (Nat → Int32)) (t_cores : Int32) (t_p_earlier : Nat) (t_earlier : (Nat → Int32)) (t_stages : Int32) (t_p_place : Nat) (t_place : (Nat → Int32)) (t_p_now : Nat) (t_now : (Nat → Int32)) (t_p_was : Nat) (t_was : (Nat → Int32)) (t_changes : Int32) (t_p_one : Nat) (t_one : (Nat → Int32)) (t_readCavities : Int32) (t_p_readCavity : Nat) (t_readCavity : (Nat → Int32)) (t_readCores : Int32) (t_p_readCore : Nat) (t_readCore : (Nat → Int32)) (t_readStages : Int32) (t_p_readStage : Nat) (t_readStage : (Nat → Int32)) (t_p_readRule : Nat) (t_readRule : (Nat → Int32)) (t_value : Int32) (t_ends : Int32) (t_screw : Int32) (l1 : Int32) (l2 : Int32) (sz : Nat) (N : Nat) (res : (Int32)) (hf : f6_against N l1 l2 t_cores t_earlier t_now = some res) : Met l yX6_against wsX6_against ({ frames := 2, cells := 0, slots := 0, locals := 43 }) (pP g [.ref t_p, .int l1, .int l2] sz (fl [wk6 g t_p t_length t_p_text t_text t_cavities t_p_volume t_volume t_p_freeze t_freeze t_cores t_p_earlier t_earlier t_stages t_p_place t_place t_p_now t_now t_p_was t_was t_changes t_p_one t_one t_readCavities t_p_readCavity t_readCavity t_readCores t_p_readCore t_readCore t_readStages t_p_readStage t_readStage t_p_readRule t_readRule t_value t_ends t_screw])) (pQi g (fun r => r = res) (fl [wk6 g t_p t_length t_p_text t_text t_cavities t_p_volume t_volume t_p_freeze t_freeze t_cores t_p_earlier t_earlier t_stages t_p_place t_place t_p_now t_now t_p_was t_was t_changes t_p_one t_one t_readCavities t_p_readCavity t_readCavity t_readCores t_p_readCore t_readCore t_readStages t_p_readStage t_readStage t_p_readRule t_readRule t_value t_ends t_screw]) (va_A (fl [wk6 g t_p t_length t_p_text t_text t_cavities t_p_volume t_volume t_p_freeze t_freeze t_cores t_p_earlier t_earlier t_stages t_p_place t_place t_p_now t_now t_p_was t_was t_changes t_p_one t_one t_readCavities t_p_readCavity t_readCavity t_readCores t_p_readCore t_readCore t_readStages t_p_readStage t_readStage t_p_readRule t_readRule t_value t_ends t_screw]) sz)) 0 0 (va_A (fl [wk6 g t_p t_length t_p_text t_text t_cavities t_p_volume t_volume t_p_freeze t_freeze t_cores t_p_earlier t_earlier t_stages t_p_place t_place t_p_now t_now t_p_was t_was t_changes t_p_one t_one t_readCavities t_p_readCavity t_readCavity t_readCores t_p_readCore t_readCore t_readStages t_p_readStage t_readStage t_p_readRule t_readRule t_value t_ends t_screw]) sz) := by
  refine Met.ofW (cc := cX6_against) (maxL := 3) (ret := (some .int)) (by decide) rfl ?_
  intro p e s m args below meth c s₁ B hml hv
  obtain ⟨rfl, hsz, hP, hK, hD0, hG⟩ := hv
  have hx := B.exec
  have hb := B.bytes
  have hr := B.returns
  have hts := atoms_spec (ws := wsX6_against) B.pre
  have hown : s.vm.findClass RX6 = some m.cls := findClass_of_methodNamed B.named
  have hlocks := B.notSynchronized
  subst hsz
  have hD := hD0.self (sz := s.heap.size)
  generalize hAe : va_A (fl [wk6 g t_p t_length t_p_text t_text t_cavities t_p_volume t_volume t_p_freeze t_freeze t_cores t_p_earlier t_earlier t_stages t_p_place t_place t_p_now t_now t_p_was t_was t_changes t_p_one t_one t_readCavities t_p_readCavity t_readCavity t_readCores t_p_readCore t_readCore t_readStages t_p_readStage t_readStage t_p_readRule t_readRule t_value t_ends t_screw]) s.heap.size = A at hD hG ⊢
  have hA : ∀ q : Nat, s.heap.size ≤ q → A q := fun q h => by rw [← hAe]; exact Or.inr h
  have hS : va_S A s.heap s.heap [] := va_S.rf
  have hl := lv_entry ([.ref t_p, .int l1, .int l2]) (n := 3) (Nat.le_of_ble_eq_true rfl)
  rw [lg_entry_eq]
  generalize (lg_sl ([.ref t_p, .int l1, .int l2]) ++ List.replicate (3 - (lg_sl ([.ref t_p, .int l1, .int l2])).length) Slot.unset).toArray = ls at hl ⊢
  replace hl : lv_has ls 3 [(0, .ref t_p), (1, .int l1), (2, .int l2)] := hl
  rw [f6_against] at hf
  have hgo : ∀ (H : Heap) (locs : List Loc), H = s.heap → locs = [] → va_P g.1 vwCl (fl [wk6 g t_p t_length t_p_text t_text t_cavities t_p_volume t_volume t_p_freeze t_freeze t_cores t_p_earlier t_earlier t_stages t_p_place t_place t_p_now t_now t_p_was t_was t_changes t_p_one t_one t_readCavities t_p_readCavity t_readCavity t_readCores t_p_readCore t_readCore t_readStages t_p_readStage t_readStage t_p_readRule t_readRule t_value t_ends t_screw]) H → va_S A s.heap H locs → W p l e ({ frames := 2, cells := 0, slots := 0, locals := 43 }) s m ([.ref t_p, .int l1, .int l2] : List Value).toArray below meth c H locs 0 0 (MQ below (pQi g (fun r => r = res) (fl [wk6 g t_p t_length t_p_text t_text t_cavities t_p_volume t_volume t_p_freeze t_freeze t_cores t_p_earlier t_earlier t_stages t_p_place t_place t_p_now t_now t_p_was t_was t_changes t_p_one t_one t_readCavities t_p_readCavity t_readCavity t_readCores t_p_readCore t_readCore t_readStages t_p_readStage t_readStage t_p_readRule t_readRule t_value t_ends t_screw]) A) ([.ref t_p, .int l1, .int l2] : List Value).toArray s 0 0 A) (F0 m 0 ls []) := by
    intro H locs hH hL hP hS
    refine lv_aload_n hx hb dX6_against_0 rfl (lv_at hl 0 rfl) ?_
    refine lv_iload_n hx hb dX6_against_1 rfl (lv_at hl 1 rfl) ?_
    obtain ⟨q_1, hq_1, hf⟩ := bd_some hf
    refine bft_i (bn := [wk6 g t_p t_length t_p_text t_text t_cavities t_p_volume t_volume t_p_freeze t_freeze t_cores t_p_earlier t_earlier t_stages t_p_place t_place t_p_now t_now t_p_was t_was t_changes t_p_one t_one t_readCavities t_p_readCavity t_readCavity t_readCores t_p_readCore t_readCore t_readStages t_p_readStage t_readStage t_p_readRule t_readRule t_value t_ends t_screw]) (L := [[t_p, t_p_text, t_p_volume, t_p_freeze, t_p_earlier, t_p_place, t_p_now, t_p_was, t_p_one, t_p_readCavity, t_p_readCore, t_p_readStage, t_p_readRule]]) (va_runV (As := [.int l1]) (rest := []) ⟨hx, hb, hml, hown, hts⟩ (c6_isCore l g t_p t_length t_p_text t_text t_cavities t_p_volume t_volume t_p_freeze t_freeze t_cores t_p_earlier t_earlier t_stages t_p_place t_place t_p_now t_now t_p_was t_was t_changes t_p_one t_one t_readCavities t_p_readCavity t_readCavity t_readCores t_p_readCore t_readCore t_readStages t_p_readStage t_readStage t_p_readRule t_readRule t_value t_ends t_screw l1 H.size N q_1 hq_1) (cwV 1 hts gX6_against_X6_isCore rfl rfl rfl ⟨rfl, nh6.1, nh6.2, pd_1⟩ ⟨Nat.le_of_ble_eq_true rfl, Nat.le_of_ble_eq_true rfl⟩) (qPV hK hG hP hD hS hA [0] (by decide) rfl (va_recv hK.1 hP (ci := 6) (q0 := 0) rfl rfl)) rfl rfl hl.1 rfl (lv_room (Nat.le_of_ble_eq_true rfl)) dX6_against_2 ⟨Nat.zero_le _, Nat.zero_le _⟩) hP hD hS hA [0] rfl rfl rfl rfl (fun r_2 H locs hw hP hD hS => ?_)
    replace hw := hw.symm
    subst hw
    refine lv_if_eq (tgt := 26) hx hb dX6_against_5 (by decide) (fun c_3 => ?_) (fun c_3 => ?_)
    · replace hf := (if_pos c_3).symm.trans hf
      refine lv_iconst (v := (-1)) hx hb dX6_against_26 (by decide) ?_
      replace hf := Option.some.inj hf
      subst hf
      exact W.iret (v := (-1)) hx hb hr (fun t ht hW => ⟨⟨_, (), rfl, rfl, by show va_P g.1 vwCl _ t.heap; rw [ht]; exact hP⟩, hS.F ht⟩) hS.2.2 dX6_against_27 hlocks
    · replace hf := (if_neg c_3).symm.trans hf
      refine lv_iload_n hx hb dX6_against_8 rfl (lv_at hl 2 rfl) ?_
      refine lv_iconst (v := 0) hx hb dX6_against_9 (by decide) ?_
      refine lv_iconst (v := 1) hx hb dX6_against_10 (by decide) ?_
      obtain ⟨q_4, hq_4, hf⟩ := bd_some hf
      refine aft_i (wn := (fl [wk6 g t_p t_length t_p_text t_text t_cavities t_p_volume t_volume t_p_freeze t_freeze t_cores t_p_earlier t_earlier t_stages t_p_place t_place t_p_now t_now t_p_was t_was t_changes t_p_one t_one t_readCavities t_p_readCavity t_readCavity t_readCores t_p_readCore t_readCore t_readStages t_p_readStage t_readStage t_p_readRule t_readRule t_value t_ends t_screw])) (va_runS (As := [.int l2, .int 0, .int 1]) (rest := []) ⟨hx, hb, hml, hown, hts⟩ (c6_isIn l g l2 0 1 H.size N q_4 hq_4) (va_cwS 3 hts gX6_against_X6_isIn rfl rfl rfl ⟨nh6.1, nh6.2, pd_17⟩ ⟨Nat.le_of_ble_eq_true rfl, Nat.le_of_ble_eq_true rfl⟩) (pPS hK hG hP hD hS hA [] (by decide) rfl) rfl rfl hl.1 rfl (lv_room (Nat.le_of_ble_eq_true rfl)) dX6_against_11 ⟨Nat.zero_le _, Nat.zero_le _⟩) hP hD hS hA [] rfl rfl rfl (fun r_5 H locs hw hP hD hS => ?_)
      replace hw := hw.symm
      subst hw
      refine lv_if_eq (tgt := 26) hx hb dX6_against_14 (by decide) (fun c_6 => ?_) (fun c_6 => ?_)
      · replace hf := (if_pos c_6).symm.trans hf
        refine lv_iconst (v := (-1)) hx hb dX6_against_26 (by decide) ?_
        replace hf := Option.some.inj hf
        subst hf
        exact W.iret (v := (-1)) hx hb hr (fun t ht hW => ⟨⟨_, (), rfl, rfl, by show va_P g.1 vwCl _ t.heap; rw [ht]; exact hP⟩, hS.F ht⟩) hS.2.2 dX6_against_27 hlocks
      · replace hf := (if_neg c_6).symm.trans hf
        refine lv_aload_n hx hb dX6_against_17 rfl (lv_at hl 0 rfl) ?_
        refine lv_iload_n hx hb dX6_against_18 rfl (lv_at hl 1 rfl) ?_
        refine lv_iload_n hx hb dX6_against_19 rfl (lv_at hl 2 rfl) ?_
        obtain ⟨q_7, hq_7, hf⟩ := bd_some hf
        refine bft_i (bn := [wk6 g t_p t_length t_p_text t_text t_cavities t_p_volume t_volume t_p_freeze t_freeze t_cores t_p_earlier t_earlier t_stages t_p_place t_place t_p_now t_now t_p_was t_was t_changes t_p_one t_one t_readCavities t_p_readCavity t_readCavity t_readCores t_p_readCore t_readCore t_readStages t_p_readStage t_readStage t_p_readRule t_readRule t_value t_ends t_screw]) (L := [[t_p, t_p_text, t_p_volume, t_p_freeze, t_p_earlier, t_p_place, t_p_now, t_p_was, t_p_one, t_p_readCavity, t_p_readCore, t_p_readStage, t_p_readRule]]) (va_runV (As := [.int l1, .int l2]) (rest := []) ⟨hx, hb, hml, hown, hts⟩ (c6_against1 l g t_p t_length t_p_text t_text t_cavities t_p_volume t_volume t_p_freeze t_freeze t_cores t_p_earlier t_earlier t_stages t_p_place t_place t_p_now t_now t_p_was t_was t_changes t_p_one t_one t_readCavities t_p_readCavity t_readCavity t_readCores t_p_readCore t_readCore t_readStages t_p_readStage t_readStage t_p_readRule t_readRule t_value t_ends t_screw l1 l2 H.size N q_7 hq_7) (cwV 2 hts gX6_against_X6_against1 rfl rfl rfl ⟨rfl, nh6.1, nh6.2, pd_14⟩ ⟨Nat.le_of_ble_eq_true rfl, Nat.le_of_ble_eq_true rfl⟩) (qPV hK hG hP hD hS hA [0] (by decide) rfl (va_recv hK.1 hP (ci := 6) (q0 := 0) rfl rfl)) rfl rfl hl.1 rfl (lv_room (Nat.le_of_ble_eq_true rfl)) dX6_against_20 ⟨Nat.zero_le _, Nat.zero_le _⟩) hP hD hS hA [0] rfl rfl rfl rfl (fun r_8 H locs hw hP hD hS => ?_)
        replace hw := hw.symm
        subst hw
        refine lv_goto (tgt := 27) hx hb dX6_against_23 (by decide) ?_
        replace hf := Option.some.inj hf
        subst hf
        exact W.iret (v := q_7) hx hb hr (fun t ht hW => ⟨⟨_, (), rfl, rfl, by show va_P g.1 vwCl _ t.heap; rw [ht]; exact hP⟩, hS.F ht⟩) hS.2.2 dX6_against_27 hlocks
  exact hgo s.heap [] rfl rfl hP hS

set_option maxHeartbeats 4000000 in
set_option maxRecDepth 100000 in
theorem c6_core (l : Launch) (g : gG) (t_p : Nat) (t_length : Int32) (t_p_text : Nat) (t_text : (Nat → Int32)) (t_cavities : Int32) (t_p_volume : Nat) (t_volume : (Nat → Int32)) (t_p_freeze : Nat) (t_freeze : (Nat → Int32)) (t_cores : Int32) (t_p_earlier : Nat) (t_earlier : (Nat → Int32)) (t_stages : Int32) (t_p_place : Nat) (t_place : (Nat → Int32)) (t_p_now : Nat) (t_now : (Nat → Int32)) (t_p_was : Nat) (t_was : (Nat → Int32)) (t_changes : Int32) (t_p_one : Nat) (t_one : (Nat → Int32)) (t_readCavities : Int32) (t_p_readCavity : Nat) (t_readCavity : (Nat → Int32)) (t_readCores : Int32) (t_p_readCore : Nat) (t_readCore : (Nat → Int32)) (t_readStages : Int32) (t_p_readStage : Nat) (t_readStage : (Nat → Int32)) (t_p_readRule : Nat) (t_readRule : (Nat → Int32)) (t_value : Int32) (t_ends : Int32) (t_screw : Int32) (l1 : Int32) (l2 : Int32) (sz : Nat) (N : Nat) (res : (Int32 × (Nat → Int32) × (Nat → Int32) × Int32)) (hf : f6_core N l1 l2 t_cores t_earlier t_now t_was t_changes = some res) : Met l yX6_core wsX6_core ({ frames := 2, cells := 0, slots := 0, locals := 43 }) (pP g [.ref t_p, .int l1, .int l2] sz (fl [wk6 g t_p t_length t_p_text t_text t_cavities t_p_volume t_volume t_p_freeze t_freeze t_cores t_p_earlier t_earlier t_stages t_p_place t_place t_p_now t_now t_p_was t_was t_changes t_p_one t_one t_readCavities t_p_readCavity t_readCavity t_readCores t_p_readCore t_readCore t_readStages t_p_readStage t_readStage t_p_readRule t_readRule t_value t_ends t_screw])) (pQi g (fun r => r = res.1) (fl [wk6 g t_p t_length t_p_text t_text t_cavities t_p_volume t_volume t_p_freeze t_freeze t_cores t_p_earlier t_earlier t_stages t_p_place t_place t_p_now res.2.1 t_p_was res.2.2.1 res.2.2.2 t_p_one t_one t_readCavities t_p_readCavity t_readCavity t_readCores t_p_readCore t_readCore t_readStages t_p_readStage t_readStage t_p_readRule t_readRule t_value t_ends t_screw]) (va_A (fl [wk6 g t_p t_length t_p_text t_text t_cavities t_p_volume t_volume t_p_freeze t_freeze t_cores t_p_earlier t_earlier t_stages t_p_place t_place t_p_now t_now t_p_was t_was t_changes t_p_one t_one t_readCavities t_p_readCavity t_readCavity t_readCores t_p_readCore t_readCore t_readStages t_p_readStage t_readStage t_p_readRule t_readRule t_value t_ends t_screw]) sz)) 0 0 (va_A (fl [wk6 g t_p t_length t_p_text t_text t_cavities t_p_volume t_volume t_p_freeze t_freeze t_cores t_p_earlier t_earlier t_stages t_p_place t_place t_p_now t_now t_p_was t_was t_changes t_p_one t_one t_readCavities t_p_readCavity t_readCavity t_readCores t_p_readCore t_readCore t_readStages t_p_readStage t_readStage t_p_readRule t_readRule t_value t_ends t_screw]) sz) := by
  refine Met.ofW (cc := cX6_core) (maxL := 3) (ret := (some .int)) (by decide) rfl ?_
  intro p e s m args below meth c s₁ B hml hv
  obtain ⟨rfl, hsz, hP, hK, hD0, hG⟩ := hv
  have hx := B.exec
  have hb := B.bytes
  have hr := B.returns
  have hts := atoms_spec (ws := wsX6_core) B.pre
  have hown : s.vm.findClass RX6 = some m.cls := findClass_of_methodNamed B.named
  have hlocks := B.notSynchronized
  subst hsz
  have hD := hD0.self (sz := s.heap.size)
  generalize hAe : va_A (fl [wk6 g t_p t_length t_p_text t_text t_cavities t_p_volume t_volume t_p_freeze t_freeze t_cores t_p_earlier t_earlier t_stages t_p_place t_place t_p_now t_now t_p_was t_was t_changes t_p_one t_one t_readCavities t_p_readCavity t_readCavity t_readCores t_p_readCore t_readCore t_readStages t_p_readStage t_readStage t_p_readRule t_readRule t_value t_ends t_screw]) s.heap.size = A at hD hG ⊢
  have hA : ∀ q : Nat, s.heap.size ≤ q → A q := fun q h => by rw [← hAe]; exact Or.inr h
  have hS : va_S A s.heap s.heap [] := va_S.rf
  have hin6 : ∀ w ∈ u_ws RX6 TX6 23, w ∈ wsX6_core := by decide +kernel
  have L1 := hts (Cond.fieldLink RX6 25 "MouldShotsModel" "now" "[I") (by decide +kernel)
  have hl := lv_entry ([.ref t_p, .int l1, .int l2]) (n := 3) (Nat.le_of_ble_eq_true rfl)
  rw [lg_entry_eq]
  generalize (lg_sl ([.ref t_p, .int l1, .int l2]) ++ List.replicate (3 - (lg_sl ([.ref t_p, .int l1, .int l2])).length) Slot.unset).toArray = ls at hl ⊢
  replace hl : lv_has ls 3 [(0, .ref t_p), (1, .int l1), (2, .int l2)] := hl
  rw [f6_core] at hf
  have hgo : ∀ (H : Heap) (locs : List Loc), H = s.heap → locs = [] → va_P g.1 vwCl (fl [wk6 g t_p t_length t_p_text t_text t_cavities t_p_volume t_volume t_p_freeze t_freeze t_cores t_p_earlier t_earlier t_stages t_p_place t_place t_p_now t_now t_p_was t_was t_changes t_p_one t_one t_readCavities t_p_readCavity t_readCavity t_readCores t_p_readCore t_readCore t_readStages t_p_readStage t_readStage t_p_readRule t_readRule t_value t_ends t_screw]) H → va_S A s.heap H locs → W p l e ({ frames := 2, cells := 0, slots := 0, locals := 43 }) s m ([.ref t_p, .int l1, .int l2] : List Value).toArray below meth c H locs 0 0 (MQ below (pQi g (fun r => r = res.1) (fl [wk6 g t_p t_length t_p_text t_text t_cavities t_p_volume t_volume t_p_freeze t_freeze t_cores t_p_earlier t_earlier t_stages t_p_place t_place t_p_now res.2.1 t_p_was res.2.2.1 res.2.2.2 t_p_one t_one t_readCavities t_p_readCavity t_readCavity t_readCores t_p_readCore t_readCore t_readStages t_p_readStage t_readStage t_p_readRule t_readRule t_value t_ends t_screw]) A) ([.ref t_p, .int l1, .int l2] : List Value).toArray s 0 0 A) (F0 m 0 ls []) := by
    intro H locs hH hL hP hS
    refine lv_aload_n hx hb dX6_core_0 rfl (lv_at hl 0 rfl) ?_
    refine lv_iload_n hx hb dX6_core_1 rfl (lv_at hl 1 rfl) ?_
    obtain ⟨q_1, hq_1, hf⟩ := bd_some hf
    refine bft_i (bn := [wk6 g t_p t_length t_p_text t_text t_cavities t_p_volume t_volume t_p_freeze t_freeze t_cores t_p_earlier t_earlier t_stages t_p_place t_place t_p_now t_now t_p_was t_was t_changes t_p_one t_one t_readCavities t_p_readCavity t_readCavity t_readCores t_p_readCore t_readCore t_readStages t_p_readStage t_readStage t_p_readRule t_readRule t_value t_ends t_screw]) (L := [[t_p, t_p_text, t_p_volume, t_p_freeze, t_p_earlier, t_p_place, t_p_now, t_p_was, t_p_one, t_p_readCavity, t_p_readCore, t_p_readStage, t_p_readRule]]) (va_runV (As := [.int l1]) (rest := []) ⟨hx, hb, hml, hown, hts⟩ (c6_isCore l g t_p t_length t_p_text t_text t_cavities t_p_volume t_volume t_p_freeze t_freeze t_cores t_p_earlier t_earlier t_stages t_p_place t_place t_p_now t_now t_p_was t_was t_changes t_p_one t_one t_readCavities t_p_readCavity t_readCavity t_readCores t_p_readCore t_readCore t_readStages t_p_readStage t_readStage t_p_readRule t_readRule t_value t_ends t_screw l1 H.size N q_1 hq_1) (cwV 1 hts gX6_core_X6_isCore rfl rfl rfl ⟨rfl, nh6.1, nh6.2, pd_1⟩ ⟨Nat.le_of_ble_eq_true rfl, Nat.le_of_ble_eq_true rfl⟩) (qPV hK hG hP hD hS hA [0] (by decide) rfl (va_recv hK.1 hP (ci := 6) (q0 := 0) rfl rfl)) rfl rfl hl.1 rfl (lv_room (Nat.le_of_ble_eq_true rfl)) dX6_core_2 ⟨Nat.zero_le _, Nat.zero_le _⟩) hP hD hS hA [0] rfl rfl rfl rfl (fun r_2 H locs hw hP hD hS => ?_)
    replace hw := hw.symm
    subst hw
    refine lv_if_eq (tgt := 17) hx hb dX6_core_5 (by decide) (fun c_3 => ?_) (fun c_3 => ?_)
    · replace hf := (if_pos c_3).symm.trans hf
      refine lv_iconst (v := (-1)) hx hb dX6_core_17 (by decide) ?_
      replace hf := Option.some.inj hf
      subst hf
      exact W.iret (v := (-1)) hx hb hr (fun t ht hW => ⟨⟨_, (), rfl, rfl, by show va_P g.1 vwCl _ t.heap; rw [ht]; exact hP⟩, hS.F ht⟩) hS.2.2 dX6_core_18 hlocks
    · replace hf := (if_neg c_3).symm.trans hf
      refine lv_iload_n hx hb dX6_core_8 rfl (lv_at hl 2 rfl) ?_
      refine lv_iconst (v := 0) hx hb dX6_core_9 (by decide) ?_
      refine lv_iconst (v := 1) hx hb dX6_core_10 (by decide) ?_
      obtain ⟨q_4, hq_4, hf⟩ := bd_some hf
      refine aft_i (wn := (fl [wk6 g t_p t_length t_p_text t_text t_cavities t_p_volume t_volume t_p_freeze t_freeze t_cores t_p_earlier t_earlier t_stages t_p_place t_place t_p_now t_now t_p_was t_was t_changes t_p_one t_one t_readCavities t_p_readCavity t_readCavity t_readCores t_p_readCore t_readCore t_readStages t_p_readStage t_readStage t_p_readRule t_readRule t_value t_ends t_screw])) (va_runS (As := [.int l2, .int 0, .int 1]) (rest := []) ⟨hx, hb, hml, hown, hts⟩ (c6_isIn l g l2 0 1 H.size N q_4 hq_4) (va_cwS 3 hts gX6_core_X6_isIn rfl rfl rfl ⟨nh6.1, nh6.2, pd_17⟩ ⟨Nat.le_of_ble_eq_true rfl, Nat.le_of_ble_eq_true rfl⟩) (pPS hK hG hP hD hS hA [] (by decide) rfl) rfl rfl hl.1 rfl (lv_room (Nat.le_of_ble_eq_true rfl)) dX6_core_11 ⟨Nat.zero_le _, Nat.zero_le _⟩) hP hD hS hA [] rfl rfl rfl (fun r_5 H locs hw hP hD hS => ?_)
      replace hw := hw.symm
      subst hw
      refine lv_if_ne (tgt := 19) hx hb dX6_core_14 (by decide) (fun c_6 => ?_) (fun c_6 => ?_)
      · replace hf := (if_neg c_6).symm.trans hf
        refine lv_aload_n hx hb dX6_core_19 rfl (lv_at hl 0 rfl) ?_
        refine lv_iload_n hx hb dX6_core_20 rfl (lv_at hl 1 rfl) ?_
        refine lv_iload_n hx hb dX6_core_21 rfl (lv_at hl 2 rfl) ?_
        obtain ⟨q_7, hq_7, hf⟩ := bd_some hf
        refine bft_i (bn := [wk6 g t_p t_length t_p_text t_text t_cavities t_p_volume t_volume t_p_freeze t_freeze t_cores t_p_earlier t_earlier t_stages t_p_place t_place t_p_now t_now t_p_was t_was t_changes t_p_one t_one t_readCavities t_p_readCavity t_readCavity t_readCores t_p_readCore t_readCore t_readStages t_p_readStage t_readStage t_p_readRule t_readRule t_value t_ends t_screw]) (L := [[t_p, t_p_text, t_p_volume, t_p_freeze, t_p_earlier, t_p_place, t_p_now, t_p_was, t_p_one, t_p_readCavity, t_p_readCore, t_p_readStage, t_p_readRule]]) (va_runV (As := [.int l1, .int l2]) (rest := []) ⟨hx, hb, hml, hown, hts⟩ (c6_against1 l g t_p t_length t_p_text t_text t_cavities t_p_volume t_volume t_p_freeze t_freeze t_cores t_p_earlier t_earlier t_stages t_p_place t_place t_p_now t_now t_p_was t_was t_changes t_p_one t_one t_readCavities t_p_readCavity t_readCavity t_readCores t_p_readCore t_readCore t_readStages t_p_readStage t_readStage t_p_readRule t_readRule t_value t_ends t_screw l1 l2 H.size N q_7 hq_7) (cwV 2 hts gX6_core_X6_against1 rfl rfl rfl ⟨rfl, nh6.1, nh6.2, pd_14⟩ ⟨Nat.le_of_ble_eq_true rfl, Nat.le_of_ble_eq_true rfl⟩) (qPV hK hG hP hD hS hA [0] (by decide) rfl (va_recv hK.1 hP (ci := 6) (q0 := 0) rfl rfl)) rfl rfl hl.1 rfl (lv_room (Nat.le_of_ble_eq_true rfl)) dX6_core_22 ⟨Nat.zero_le _, Nat.zero_le _⟩) hP hD hS hA [0] rfl rfl rfl rfl (fun r_8 H locs hw hP hD hS => ?_)
        replace hw := hw.symm
        subst hw
        refine lv_if_eq (tgt := 31) hx hb dX6_core_25 (by decide) (fun c_9 => ?_) (fun c_9 => ?_)
        · replace hf := (if_pos c_9).symm.trans hf
          refine lv_aload_n hx hb dX6_core_31 rfl (lv_at hl 0 rfl) ?_
          obtain ⟨q_10, hq_10, hf⟩ := bd_some hf
          refine bft_v (bn := [wk6 g t_p t_length t_p_text t_text t_cavities t_p_volume t_volume t_p_freeze t_freeze t_cores t_p_earlier t_earlier t_stages t_p_place t_place t_p_now t_now t_p_was q_10.1 q_10.2 t_p_one t_one t_readCavities t_p_readCavity t_readCavity t_readCores t_p_readCore t_readCore t_readStages t_p_readStage t_readStage t_p_readRule t_readRule t_value t_ends t_screw]) (L := [[t_p, t_p_text, t_p_volume, t_p_freeze, t_p_earlier, t_p_place, t_p_now, t_p_was, t_p_one, t_p_readCavity, t_p_readCore, t_p_readStage, t_p_readRule]]) (va_runV (As := []) (rest := []) ⟨hx, hb, hml, hown, hts⟩ (c6_keeps l g t_p t_length t_p_text t_text t_cavities t_p_volume t_volume t_p_freeze t_freeze t_cores t_p_earlier t_earlier t_stages t_p_place t_place t_p_now t_now t_p_was t_was t_changes t_p_one t_one t_readCavities t_p_readCavity t_readCavity t_readCores t_p_readCore t_readCore t_readStages t_p_readStage t_readStage t_p_readRule t_readRule t_value t_ends t_screw H.size N q_10 hq_10) (cwV 0 hts gX6_core_X6_keeps rfl rfl rfl ⟨rfl, nh6.1, nh6.2, pd_9⟩ ⟨Nat.le_of_ble_eq_true rfl, Nat.le_of_ble_eq_true rfl⟩) (qPV hK hG hP hD hS hA [0] (by decide) rfl (va_recv hK.1 hP (ci := 6) (q0 := 0) rfl rfl)) rfl rfl hl.1 rfl (lv_room (Nat.le_of_ble_eq_true rfl)) dX6_core_32 ⟨Nat.zero_le _, Nat.zero_le _⟩) hP hD hS hA [0] rfl rfl rfl rfl (fun H locs hP hD hS => ?_)
          refine lv_aload_n hx hb dX6_core_35 rfl (lv_at hl 0 rfl) ?_
          refine va_get (D := g.1) (ci := 6) (v := .ref t_p_now) (C := RX6) (T := TX6) (N := 23) hx hb hts hin6 hown hK.1 hP 0 rfl rfl 9 (by decide) L1 (fun _ h9 => h9) rfl dX6_core_36 ?_
          refine lv_sipush (v := 1011) hx hb dX6_core_39 (by decide) ?_
          refine lv_dup2_11 hx hb dX6_core_42 rfl rfl ?_
          obtain ⟨h_11, hf⟩ := if_some hf
          refine va_iald hx hb hK.1 hP 6 0 rfl rfl (ok_in h_11) dX6_core_43 ?_
          refine lv_iconst (v := 1) hx hb dX6_core_44 (by decide) ?_
          refine lv_iload_n hx hb dX6_core_45 rfl (lv_at hl 1 rfl) ?_
          refine lv_ishl hx hb dX6_core_46 ?_
          refine lv_ixor hx hb dX6_core_47 ?_
          obtain ⟨h_12, hf⟩ := if_some hf
          refine va_iast hx hb hK.1 hP hD hS 6 0 rfl rfl (ok_in h_12) dX6_core_48 (fun H locs hP hD hS => ?_)
          replace hP : va_P g.1 vwCl (fl [wk6 g t_p t_length t_p_text t_text t_cavities t_p_volume t_volume t_p_freeze t_freeze t_cores t_p_earlier t_earlier t_stages t_p_place t_place t_p_now (upd t_now (Int32.toNatClampNeg 1011) ((t_now (Int32.toNatClampNeg 1011)) ^^^ (1 <<< (l1 &&& 31)))) t_p_was q_10.1 q_10.2 t_p_one t_one t_readCavities t_p_readCavity t_readCavity t_readCores t_p_readCore t_readCore t_readStages t_p_readStage t_readStage t_p_readRule t_readRule t_value t_ends t_screw]) H := hP
          replace hD : va_D A (fl [wk6 g t_p t_length t_p_text t_text t_cavities t_p_volume t_volume t_p_freeze t_freeze t_cores t_p_earlier t_earlier t_stages t_p_place t_place t_p_now (upd t_now (Int32.toNatClampNeg 1011) ((t_now (Int32.toNatClampNeg 1011)) ^^^ (1 <<< (l1 &&& 31)))) t_p_was q_10.1 q_10.2 t_p_one t_one t_readCavities t_p_readCavity t_readCavity t_readCores t_p_readCore t_readCore t_readStages t_p_readStage t_readStage t_p_readRule t_readRule t_value t_ends t_screw]) := hD
          refine lv_aload_n hx hb dX6_core_49 rfl (lv_at hl 0 rfl) ?_
          refine va_get (D := g.1) (ci := 6) (v := .ref t_p_now) (C := RX6) (T := TX6) (N := 23) hx hb hts hin6 hown hK.1 hP 0 rfl rfl 9 (by decide) L1 (fun _ h9 => h9) rfl dX6_core_50 ?_
          refine lv_sipush (v := 1011) hx hb dX6_core_53 (by decide) ?_
          obtain ⟨h_13, hf⟩ := if_some hf
          refine va_iald hx hb hK.1 hP 6 0 rfl rfl (ok_in h_13) dX6_core_56 ?_
          obtain ⟨q_14, hq_14, hf⟩ := bd_some hf
          refine aft_i (wn := (fl [wk6 g t_p t_length t_p_text t_text t_cavities t_p_volume t_volume t_p_freeze t_freeze t_cores t_p_earlier t_earlier t_stages t_p_place t_place t_p_now (upd t_now (Int32.toNatClampNeg 1011) ((t_now (Int32.toNatClampNeg 1011)) ^^^ (1 <<< (l1 &&& 31)))) t_p_was q_10.1 q_10.2 t_p_one t_one t_readCavities t_p_readCavity t_readCavity t_readCores t_p_readCore t_readCore t_readStages t_p_readStage t_readStage t_p_readRule t_readRule t_value t_ends t_screw])) (va_runS (As := [.int ((upd t_now (Int32.toNatClampNeg 1011) ((t_now (Int32.toNatClampNeg 1011)) ^^^ (1 <<< (l1 &&& 31)))) (Int32.toNatClampNeg 1011))]) (rest := []) ⟨hx, hb, hml, hown, hts⟩ (c6_bits l g ((upd t_now (Int32.toNatClampNeg 1011) ((t_now (Int32.toNatClampNeg 1011)) ^^^ (1 <<< (l1 &&& 31)))) (Int32.toNatClampNeg 1011)) H.size N q_14 hq_14) (va_cwS 1 hts gX6_core_X6_bits rfl rfl rfl ⟨nh6.1, nh6.2, pd_2⟩ ⟨Nat.le_of_ble_eq_true rfl, Nat.le_of_ble_eq_true rfl⟩) (pPS hK hG hP hD hS hA [] (by decide) rfl) rfl rfl hl.1 rfl (lv_room (Nat.le_of_ble_eq_true rfl)) dX6_core_57 ⟨Nat.zero_le _, Nat.zero_le _⟩) hP hD hS hA [] rfl rfl rfl (fun r_15 H locs hw hP hD hS => ?_)
          replace hw := hw.symm
          subst hw
          replace hf := Option.some.inj hf
          subst hf
          exact W.iret (v := q_14) hx hb hr (fun t ht hW => ⟨⟨_, (), rfl, rfl, by show va_P g.1 vwCl _ t.heap; rw [ht]; exact hP⟩, hS.F ht⟩) hS.2.2 dX6_core_60 hlocks
        · replace hf := (if_neg c_9).symm.trans hf
          refine lv_bipush (v := (-2)) hx hb dX6_core_28 (by decide) ?_
          replace hf := Option.some.inj hf
          subst hf
          exact W.iret (v := (-2)) hx hb hr (fun t ht hW => ⟨⟨_, (), rfl, rfl, by show va_P g.1 vwCl _ t.heap; rw [ht]; exact hP⟩, hS.F ht⟩) hS.2.2 dX6_core_30 hlocks
      · replace hf := (if_pos c_6).symm.trans hf
        refine lv_iconst (v := (-1)) hx hb dX6_core_17 (by decide) ?_
        replace hf := Option.some.inj hf
        subst hf
        exact W.iret (v := (-1)) hx hb hr (fun t ht hW => ⟨⟨_, (), rfl, rfl, by show va_P g.1 vwCl _ t.heap; rw [ht]; exact hP⟩, hS.F ht⟩) hS.2.2 dX6_core_18 hlocks
  exact hgo s.heap [] rfl rfl hP hS

set_option maxHeartbeats 4000000 in
set_option maxRecDepth 100000 in
theorem c6_drag (l : Launch) (g : gG) (t_p : Nat) (t_length : Int32) (t_p_text : Nat) (t_text : (Nat → Int32)) (t_cavities : Int32) (t_p_volume : Nat) (t_volume : (Nat → Int32)) (t_p_freeze : Nat) (t_freeze : (Nat → Int32)) (t_cores : Int32) (t_p_earlier : Nat) (t_earlier : (Nat → Int32)) (t_stages : Int32) (t_p_place : Nat) (t_place : (Nat → Int32)) (t_p_now : Nat) (t_now : (Nat → Int32)) (t_p_was : Nat) (t_was : (Nat → Int32)) (t_changes : Int32) (t_p_one : Nat) (t_one : (Nat → Int32)) (t_readCavities : Int32) (t_p_readCavity : Nat) (t_readCavity : (Nat → Int32)) (t_readCores : Int32) (t_p_readCore : Nat) (t_readCore : (Nat → Int32)) (t_readStages : Int32) (t_p_readStage : Nat) (t_readStage : (Nat → Int32)) (t_p_readRule : Nat) (t_readRule : (Nat → Int32)) (t_value : Int32) (t_ends : Int32) (t_screw : Int32) (l1 : Int32) (l2 : Int32) (sz : Nat) (N : Nat) (res : (Int32 × (Nat → Int32) × (Nat → Int32) × Int32)) (hf : f6_drag N l1 l2 t_cavities t_now t_was t_changes = some res) : Met l yX6_drag wsX6_drag ({ frames := 2, cells := 0, slots := 0, locals := 44 }) (pP g [.ref t_p, .int l1, .int l2] sz (fl [wk6 g t_p t_length t_p_text t_text t_cavities t_p_volume t_volume t_p_freeze t_freeze t_cores t_p_earlier t_earlier t_stages t_p_place t_place t_p_now t_now t_p_was t_was t_changes t_p_one t_one t_readCavities t_p_readCavity t_readCavity t_readCores t_p_readCore t_readCore t_readStages t_p_readStage t_readStage t_p_readRule t_readRule t_value t_ends t_screw])) (pQi g (fun r => r = res.1) (fl [wk6 g t_p t_length t_p_text t_text t_cavities t_p_volume t_volume t_p_freeze t_freeze t_cores t_p_earlier t_earlier t_stages t_p_place t_place t_p_now res.2.1 t_p_was res.2.2.1 res.2.2.2 t_p_one t_one t_readCavities t_p_readCavity t_readCavity t_readCores t_p_readCore t_readCore t_readStages t_p_readStage t_readStage t_p_readRule t_readRule t_value t_ends t_screw]) (va_A (fl [wk6 g t_p t_length t_p_text t_text t_cavities t_p_volume t_volume t_p_freeze t_freeze t_cores t_p_earlier t_earlier t_stages t_p_place t_place t_p_now t_now t_p_was t_was t_changes t_p_one t_one t_readCavities t_p_readCavity t_readCavity t_readCores t_p_readCore t_readCore t_readStages t_p_readStage t_readStage t_p_readRule t_readRule t_value t_ends t_screw]) sz)) 0 0 (va_A (fl [wk6 g t_p t_length t_p_text t_text t_cavities t_p_volume t_volume t_p_freeze t_freeze t_cores t_p_earlier t_earlier t_stages t_p_place t_place t_p_now t_now t_p_was t_was t_changes t_p_one t_one t_readCavities t_p_readCavity t_readCavity t_readCores t_p_readCore t_readCore t_readStages t_p_readStage t_readStage t_p_readRule t_readRule t_value t_ends t_screw]) sz) := by
  refine Met.ofW (cc := cX6_drag) (maxL := 3) (ret := (some .int)) (by decide) rfl ?_
  intro p e s m args below meth c s₁ B hml hv
  obtain ⟨rfl, hsz, hP, hK, hD0, hG⟩ := hv
  have hx := B.exec
  have hb := B.bytes
  have hr := B.returns
  have hts := atoms_spec (ws := wsX6_drag) B.pre
  have hown : s.vm.findClass RX6 = some m.cls := findClass_of_methodNamed B.named
  have hlocks := B.notSynchronized
  subst hsz
  have hD := hD0.self (sz := s.heap.size)
  generalize hAe : va_A (fl [wk6 g t_p t_length t_p_text t_text t_cavities t_p_volume t_volume t_p_freeze t_freeze t_cores t_p_earlier t_earlier t_stages t_p_place t_place t_p_now t_now t_p_was t_was t_changes t_p_one t_one t_readCavities t_p_readCavity t_readCavity t_readCores t_p_readCore t_readCore t_readStages t_p_readStage t_readStage t_p_readRule t_readRule t_value t_ends t_screw]) s.heap.size = A at hD hG ⊢
  have hA : ∀ q : Nat, s.heap.size ≤ q → A q := fun q h => by rw [← hAe]; exact Or.inr h
  have hS : va_S A s.heap s.heap [] := va_S.rf
  have hl := lv_entry ([.ref t_p, .int l1, .int l2]) (n := 3) (Nat.le_of_ble_eq_true rfl)
  rw [lg_entry_eq]
  generalize (lg_sl ([.ref t_p, .int l1, .int l2]) ++ List.replicate (3 - (lg_sl ([.ref t_p, .int l1, .int l2])).length) Slot.unset).toArray = ls at hl ⊢
  replace hl : lv_has ls 3 [(0, .ref t_p), (1, .int l1), (2, .int l2)] := hl
  rw [f6_drag] at hf
  have hgo : ∀ (H : Heap) (locs : List Loc), H = s.heap → locs = [] → va_P g.1 vwCl (fl [wk6 g t_p t_length t_p_text t_text t_cavities t_p_volume t_volume t_p_freeze t_freeze t_cores t_p_earlier t_earlier t_stages t_p_place t_place t_p_now t_now t_p_was t_was t_changes t_p_one t_one t_readCavities t_p_readCavity t_readCavity t_readCores t_p_readCore t_readCore t_readStages t_p_readStage t_readStage t_p_readRule t_readRule t_value t_ends t_screw]) H → va_S A s.heap H locs → W p l e ({ frames := 2, cells := 0, slots := 0, locals := 44 }) s m ([.ref t_p, .int l1, .int l2] : List Value).toArray below meth c H locs 0 0 (MQ below (pQi g (fun r => r = res.1) (fl [wk6 g t_p t_length t_p_text t_text t_cavities t_p_volume t_volume t_p_freeze t_freeze t_cores t_p_earlier t_earlier t_stages t_p_place t_place t_p_now res.2.1 t_p_was res.2.2.1 res.2.2.2 t_p_one t_one t_readCavities t_p_readCavity t_readCavity t_readCores t_p_readCore t_readCore t_readStages t_p_readStage t_readStage t_p_readRule t_readRule t_value t_ends t_screw]) A) ([.ref t_p, .int l1, .int l2] : List Value).toArray s 0 0 A) (F0 m 0 ls []) := by
    intro H locs hH hL hP hS
    refine lv_aload_n hx hb dX6_drag_0 rfl (lv_at hl 0 rfl) ?_
    refine lv_iload_n hx hb dX6_drag_1 rfl (lv_at hl 1 rfl) ?_
    obtain ⟨q_1, hq_1, hf⟩ := bd_some hf
    refine bft_i (bn := [wk6 g t_p t_length t_p_text t_text t_cavities t_p_volume t_volume t_p_freeze t_freeze t_cores t_p_earlier t_earlier t_stages t_p_place t_place t_p_now t_now t_p_was t_was t_changes t_p_one t_one t_readCavities t_p_readCavity t_readCavity t_readCores t_p_readCore t_readCore t_readStages t_p_readStage t_readStage t_p_readRule t_readRule t_value t_ends t_screw]) (L := [[t_p, t_p_text, t_p_volume, t_p_freeze, t_p_earlier, t_p_place, t_p_now, t_p_was, t_p_one, t_p_readCavity, t_p_readCore, t_p_readStage, t_p_readRule]]) (va_runV (As := [.int l1]) (rest := []) ⟨hx, hb, hml, hown, hts⟩ (c6_isCavity l g t_p t_length t_p_text t_text t_cavities t_p_volume t_volume t_p_freeze t_freeze t_cores t_p_earlier t_earlier t_stages t_p_place t_place t_p_now t_now t_p_was t_was t_changes t_p_one t_one t_readCavities t_p_readCavity t_readCavity t_readCores t_p_readCore t_readCore t_readStages t_p_readStage t_readStage t_p_readRule t_readRule t_value t_ends t_screw l1 H.size N q_1 hq_1) (cwV 1 hts gX6_drag_X6_isCavity rfl rfl rfl ⟨rfl, nh6.1, nh6.2, pd_1⟩ ⟨Nat.le_of_ble_eq_true rfl, Nat.le_of_ble_eq_true rfl⟩) (qPV hK hG hP hD hS hA [0] (by decide) rfl (va_recv hK.1 hP (ci := 6) (q0 := 0) rfl rfl)) rfl rfl hl.1 rfl (lv_room (Nat.le_of_ble_eq_true rfl)) dX6_drag_2 ⟨Nat.zero_le _, Nat.zero_le _⟩) hP hD hS hA [0] rfl rfl rfl rfl (fun r_2 H locs hw hP hD hS => ?_)
    replace hw := hw.symm
    subst hw
    refine lv_if_eq (tgt := 31) hx hb dX6_drag_5 (by decide) (fun c_3 => ?_) (fun c_3 => ?_)
    · replace hf := (if_pos c_3).symm.trans hf
      refine lv_iconst (v := (-1)) hx hb dX6_drag_31 (by decide) ?_
      replace hf := Option.some.inj hf
      subst hf
      exact W.iret (v := (-1)) hx hb hr (fun t ht hW => ⟨⟨_, (), rfl, rfl, by show va_P g.1 vwCl _ t.heap; rw [ht]; exact hP⟩, hS.F ht⟩) hS.2.2 dX6_drag_32 hlocks
    · replace hf := (if_neg c_3).symm.trans hf
      refine lv_iload_n hx hb dX6_drag_8 rfl (lv_at hl 2 rfl) ?_
      refine lv_iconst (v := 1) hx hb dX6_drag_9 (by decide) ?_
      refine lv_bipush (v := 9) hx hb dX6_drag_10 (by decide) ?_
      obtain ⟨q_4, hq_4, hf⟩ := bd_some hf
      refine aft_i (wn := (fl [wk6 g t_p t_length t_p_text t_text t_cavities t_p_volume t_volume t_p_freeze t_freeze t_cores t_p_earlier t_earlier t_stages t_p_place t_place t_p_now t_now t_p_was t_was t_changes t_p_one t_one t_readCavities t_p_readCavity t_readCavity t_readCores t_p_readCore t_readCore t_readStages t_p_readStage t_readStage t_p_readRule t_readRule t_value t_ends t_screw])) (va_runS (As := [.int l2, .int 1, .int 9]) (rest := []) ⟨hx, hb, hml, hown, hts⟩ (c6_isIn l g l2 1 9 H.size N q_4 hq_4) (va_cwS 3 hts gX6_drag_X6_isIn rfl rfl rfl ⟨nh6.1, nh6.2, pd_17⟩ ⟨Nat.le_of_ble_eq_true rfl, Nat.le_of_ble_eq_true rfl⟩) (pPS hK hG hP hD hS hA [] (by decide) rfl) rfl rfl hl.1 rfl (lv_room (Nat.le_of_ble_eq_true rfl)) dX6_drag_12 ⟨Nat.zero_le _, Nat.zero_le _⟩) hP hD hS hA [] rfl rfl rfl (fun r_5 H locs hw hP hD hS => ?_)
      replace hw := hw.symm
      subst hw
      refine lv_if_eq (tgt := 31) hx hb dX6_drag_15 (by decide) (fun c_6 => ?_) (fun c_6 => ?_)
      · replace hf := (if_pos c_6).symm.trans hf
        refine lv_iconst (v := (-1)) hx hb dX6_drag_31 (by decide) ?_
        replace hf := Option.some.inj hf
        subst hf
        exact W.iret (v := (-1)) hx hb hr (fun t ht hW => ⟨⟨_, (), rfl, rfl, by show va_P g.1 vwCl _ t.heap; rw [ht]; exact hP⟩, hS.F ht⟩) hS.2.2 dX6_drag_32 hlocks
      · replace hf := (if_neg c_6).symm.trans hf
        refine lv_aload_n hx hb dX6_drag_18 rfl (lv_at hl 0 rfl) ?_
        refine lv_sipush (v := 1139) hx hb dX6_drag_19 (by decide) ?_
        refine lv_iload_n hx hb dX6_drag_22 rfl (lv_at hl 1 rfl) ?_
        refine lv_iadd hx hb dX6_drag_23 ?_
        refine lv_iload_n hx hb dX6_drag_24 rfl (lv_at hl 2 rfl) ?_
        obtain ⟨q_7, hq_7, hf⟩ := bd_some hf
        refine bft_i (bn := [wk6 g t_p t_length t_p_text t_text t_cavities t_p_volume t_volume t_p_freeze t_freeze t_cores t_p_earlier t_earlier t_stages t_p_place t_place t_p_now q_7.2.1 t_p_was q_7.2.2.1 q_7.2.2.2 t_p_one t_one t_readCavities t_p_readCavity t_readCavity t_readCores t_p_readCore t_readCore t_readStages t_p_readStage t_readStage t_p_readRule t_readRule t_value t_ends t_screw]) (L := [[t_p, t_p_text, t_p_volume, t_p_freeze, t_p_earlier, t_p_place, t_p_now, t_p_was, t_p_one, t_p_readCavity, t_p_readCore, t_p_readStage, t_p_readRule]]) (va_runV (As := [.int (1139 + l1), .int l2]) (rest := []) ⟨hx, hb, hml, hown, hts⟩ (c6_becomes l g t_p t_length t_p_text t_text t_cavities t_p_volume t_volume t_p_freeze t_freeze t_cores t_p_earlier t_earlier t_stages t_p_place t_place t_p_now t_now t_p_was t_was t_changes t_p_one t_one t_readCavities t_p_readCavity t_readCavity t_readCores t_p_readCore t_readCore t_readStages t_p_readStage t_readStage t_p_readRule t_readRule t_value t_ends t_screw (1139 + l1) l2 H.size N q_7 hq_7) (cwV 2 hts gX6_drag_X6_becomes rfl rfl rfl ⟨rfl, nh6.1, nh6.2, pd_14⟩ ⟨Nat.le_of_ble_eq_true rfl, Nat.le_of_ble_eq_true rfl⟩) (qPV hK hG hP hD hS hA [0] (by decide) rfl (va_recv hK.1 hP (ci := 6) (q0 := 0) rfl rfl)) rfl rfl hl.1 rfl (lv_room (Nat.le_of_ble_eq_true rfl)) dX6_drag_25 ⟨Nat.zero_le _, Nat.zero_le _⟩) hP hD hS hA [0] rfl rfl rfl rfl (fun r_8 H locs hw hP hD hS => ?_)
        replace hw := hw.symm
        subst hw
        refine lv_goto (tgt := 32) hx hb dX6_drag_28 (by decide) ?_
        replace hf := Option.some.inj hf
        subst hf
        exact W.iret (v := q_7.1) hx hb hr (fun t ht hW => ⟨⟨_, (), rfl, rfl, by show va_P g.1 vwCl _ t.heap; rw [ht]; exact hP⟩, hS.F ht⟩) hS.2.2 dX6_drag_32 hlocks
  exact hgo s.heap [] rfl rfl hP hS

set_option maxHeartbeats 4000000 in
set_option maxRecDepth 100000 in
theorem c6_speed (l : Launch) (g : gG) (t_p : Nat) (t_length : Int32) (t_p_text : Nat) (t_text : (Nat → Int32)) (t_cavities : Int32) (t_p_volume : Nat) (t_volume : (Nat → Int32)) (t_p_freeze : Nat) (t_freeze : (Nat → Int32)) (t_cores : Int32) (t_p_earlier : Nat) (t_earlier : (Nat → Int32)) (t_stages : Int32) (t_p_place : Nat) (t_place : (Nat → Int32)) (t_p_now : Nat) (t_now : (Nat → Int32)) (t_p_was : Nat) (t_was : (Nat → Int32)) (t_changes : Int32) (t_p_one : Nat) (t_one : (Nat → Int32)) (t_readCavities : Int32) (t_p_readCavity : Nat) (t_readCavity : (Nat → Int32)) (t_readCores : Int32) (t_p_readCore : Nat) (t_readCore : (Nat → Int32)) (t_readStages : Int32) (t_p_readStage : Nat) (t_readStage : (Nat → Int32)) (t_p_readRule : Nat) (t_readRule : (Nat → Int32)) (t_value : Int32) (t_ends : Int32) (t_screw : Int32) (l1 : Int32) (l2 : Int32) (sz : Nat) (N : Nat) (res : (Int32 × (Nat → Int32) × (Nat → Int32) × Int32)) (hf : f6_speed N l1 l2 t_stages t_now t_was t_changes = some res) : Met l yX6_speed wsX6_speed ({ frames := 2, cells := 0, slots := 0, locals := 44 }) (pP g [.ref t_p, .int l1, .int l2] sz (fl [wk6 g t_p t_length t_p_text t_text t_cavities t_p_volume t_volume t_p_freeze t_freeze t_cores t_p_earlier t_earlier t_stages t_p_place t_place t_p_now t_now t_p_was t_was t_changes t_p_one t_one t_readCavities t_p_readCavity t_readCavity t_readCores t_p_readCore t_readCore t_readStages t_p_readStage t_readStage t_p_readRule t_readRule t_value t_ends t_screw])) (pQi g (fun r => r = res.1) (fl [wk6 g t_p t_length t_p_text t_text t_cavities t_p_volume t_volume t_p_freeze t_freeze t_cores t_p_earlier t_earlier t_stages t_p_place t_place t_p_now res.2.1 t_p_was res.2.2.1 res.2.2.2 t_p_one t_one t_readCavities t_p_readCavity t_readCavity t_readCores t_p_readCore t_readCore t_readStages t_p_readStage t_readStage t_p_readRule t_readRule t_value t_ends t_screw]) (va_A (fl [wk6 g t_p t_length t_p_text t_text t_cavities t_p_volume t_volume t_p_freeze t_freeze t_cores t_p_earlier t_earlier t_stages t_p_place t_place t_p_now t_now t_p_was t_was t_changes t_p_one t_one t_readCavities t_p_readCavity t_readCavity t_readCores t_p_readCore t_readCore t_readStages t_p_readStage t_readStage t_p_readRule t_readRule t_value t_ends t_screw]) sz)) 0 0 (va_A (fl [wk6 g t_p t_length t_p_text t_text t_cavities t_p_volume t_volume t_p_freeze t_freeze t_cores t_p_earlier t_earlier t_stages t_p_place t_place t_p_now t_now t_p_was t_was t_changes t_p_one t_one t_readCavities t_p_readCavity t_readCavity t_readCores t_p_readCore t_readCore t_readStages t_p_readStage t_readStage t_p_readRule t_readRule t_value t_ends t_screw]) sz) := by
  refine Met.ofW (cc := cX6_speed) (maxL := 3) (ret := (some .int)) (by decide) rfl ?_
  intro p e s m args below meth c s₁ B hml hv
  obtain ⟨rfl, hsz, hP, hK, hD0, hG⟩ := hv
  have hx := B.exec
  have hb := B.bytes
  have hr := B.returns
  have hts := atoms_spec (ws := wsX6_speed) B.pre
  have hown : s.vm.findClass RX6 = some m.cls := findClass_of_methodNamed B.named
  have hlocks := B.notSynchronized
  subst hsz
  have hD := hD0.self (sz := s.heap.size)
  generalize hAe : va_A (fl [wk6 g t_p t_length t_p_text t_text t_cavities t_p_volume t_volume t_p_freeze t_freeze t_cores t_p_earlier t_earlier t_stages t_p_place t_place t_p_now t_now t_p_was t_was t_changes t_p_one t_one t_readCavities t_p_readCavity t_readCavity t_readCores t_p_readCore t_readCore t_readStages t_p_readStage t_readStage t_p_readRule t_readRule t_value t_ends t_screw]) s.heap.size = A at hD hG ⊢
  have hA : ∀ q : Nat, s.heap.size ≤ q → A q := fun q h => by rw [← hAe]; exact Or.inr h
  have hS : va_S A s.heap s.heap [] := va_S.rf
  have hin6 : ∀ w ∈ u_ws RX6 TX6 23, w ∈ wsX6_speed := by decide +kernel
  have L1 := hts (Cond.fieldLink RX6 76 "MouldShotsModel" "stages" "I") (by decide +kernel)
  have hl := lv_entry ([.ref t_p, .int l1, .int l2]) (n := 3) (Nat.le_of_ble_eq_true rfl)
  rw [lg_entry_eq]
  generalize (lg_sl ([.ref t_p, .int l1, .int l2]) ++ List.replicate (3 - (lg_sl ([.ref t_p, .int l1, .int l2])).length) Slot.unset).toArray = ls at hl ⊢
  replace hl : lv_has ls 3 [(0, .ref t_p), (1, .int l1), (2, .int l2)] := hl
  rw [f6_speed] at hf
  have hgo : ∀ (H : Heap) (locs : List Loc), H = s.heap → locs = [] → va_P g.1 vwCl (fl [wk6 g t_p t_length t_p_text t_text t_cavities t_p_volume t_volume t_p_freeze t_freeze t_cores t_p_earlier t_earlier t_stages t_p_place t_place t_p_now t_now t_p_was t_was t_changes t_p_one t_one t_readCavities t_p_readCavity t_readCavity t_readCores t_p_readCore t_readCore t_readStages t_p_readStage t_readStage t_p_readRule t_readRule t_value t_ends t_screw]) H → va_S A s.heap H locs → W p l e ({ frames := 2, cells := 0, slots := 0, locals := 44 }) s m ([.ref t_p, .int l1, .int l2] : List Value).toArray below meth c H locs 0 0 (MQ below (pQi g (fun r => r = res.1) (fl [wk6 g t_p t_length t_p_text t_text t_cavities t_p_volume t_volume t_p_freeze t_freeze t_cores t_p_earlier t_earlier t_stages t_p_place t_place t_p_now res.2.1 t_p_was res.2.2.1 res.2.2.2 t_p_one t_one t_readCavities t_p_readCavity t_readCavity t_readCores t_p_readCore t_readCore t_readStages t_p_readStage t_readStage t_p_readRule t_readRule t_value t_ends t_screw]) A) ([.ref t_p, .int l1, .int l2] : List Value).toArray s 0 0 A) (F0 m 0 ls []) := by
    intro H locs hH hL hP hS
    refine lv_iload_n hx hb dX6_speed_0 rfl (lv_at hl 1 rfl) ?_
    refine lv_iconst (v := 0) hx hb dX6_speed_1 (by decide) ?_
    refine lv_aload_n hx hb dX6_speed_2 rfl (lv_at hl 0 rfl) ?_
    refine va_get (D := g.1) (ci := 6) (v := .int t_stages) (C := RX6) (T := TX6) (N := 23) hx hb hts hin6 hown hK.1 hP 0 rfl rfl 7 (by decide) L1 (fun _ h9 => h9) rfl dX6_speed_3 ?_
    refine lv_iconst (v := 1) hx hb dX6_speed_6 (by decide) ?_
    refine lv_isub hx hb dX6_speed_7 ?_
    obtain ⟨q_1, hq_1, hf⟩ := bd_some hf
    refine aft_i (wn := (fl [wk6 g t_p t_length t_p_text t_text t_cavities t_p_volume t_volume t_p_freeze t_freeze t_cores t_p_earlier t_earlier t_stages t_p_place t_place t_p_now t_now t_p_was t_was t_changes t_p_one t_one t_readCavities t_p_readCavity t_readCavity t_readCores t_p_readCore t_readCore t_readStages t_p_readStage t_readStage t_p_readRule t_readRule t_value t_ends t_screw])) (va_runS (As := [.int l1, .int 0, .int (t_stages - 1)]) (rest := []) ⟨hx, hb, hml, hown, hts⟩ (c6_isIn l g l1 0 (t_stages - 1) H.size N q_1 hq_1) (va_cwS 3 hts gX6_speed_X6_isIn rfl rfl rfl ⟨nh6.1, nh6.2, pd_17⟩ ⟨Nat.le_of_ble_eq_true rfl, Nat.le_of_ble_eq_true rfl⟩) (pPS hK hG hP hD hS hA [] (by decide) rfl) rfl rfl hl.1 rfl (lv_room (Nat.le_of_ble_eq_true rfl)) dX6_speed_8 ⟨Nat.zero_le _, Nat.zero_le _⟩) hP hD hS hA [] rfl rfl rfl (fun r_2 H locs hw hP hD hS => ?_)
    replace hw := hw.symm
    subst hw
    refine lv_if_eq (tgt := 37) hx hb dX6_speed_11 (by decide) (fun c_3 => ?_) (fun c_3 => ?_)
    · replace hf := (if_pos c_3).symm.trans hf
      refine lv_iconst (v := (-1)) hx hb dX6_speed_37 (by decide) ?_
      replace hf := Option.some.inj hf
      subst hf
      exact W.iret (v := (-1)) hx hb hr (fun t ht hW => ⟨⟨_, (), rfl, rfl, by show va_P g.1 vwCl _ t.heap; rw [ht]; exact hP⟩, hS.F ht⟩) hS.2.2 dX6_speed_38 hlocks
    · replace hf := (if_neg c_3).symm.trans hf
      refine lv_iload_n hx hb dX6_speed_14 rfl (lv_at hl 2 rfl) ?_
      refine lv_iconst (v := 1) hx hb dX6_speed_15 (by decide) ?_
      refine lv_bipush (v := 9) hx hb dX6_speed_16 (by decide) ?_
      obtain ⟨q_4, hq_4, hf⟩ := bd_some hf
      refine aft_i (wn := (fl [wk6 g t_p t_length t_p_text t_text t_cavities t_p_volume t_volume t_p_freeze t_freeze t_cores t_p_earlier t_earlier t_stages t_p_place t_place t_p_now t_now t_p_was t_was t_changes t_p_one t_one t_readCavities t_p_readCavity t_readCavity t_readCores t_p_readCore t_readCore t_readStages t_p_readStage t_readStage t_p_readRule t_readRule t_value t_ends t_screw])) (va_runS (As := [.int l2, .int 1, .int 9]) (rest := []) ⟨hx, hb, hml, hown, hts⟩ (c6_isIn l g l2 1 9 H.size N q_4 hq_4) (va_cwS 3 hts gX6_speed_X6_isIn rfl rfl rfl ⟨nh6.1, nh6.2, pd_17⟩ ⟨Nat.le_of_ble_eq_true rfl, Nat.le_of_ble_eq_true rfl⟩) (pPS hK hG hP hD hS hA [] (by decide) rfl) rfl rfl hl.1 rfl (lv_room (Nat.le_of_ble_eq_true rfl)) dX6_speed_18 ⟨Nat.zero_le _, Nat.zero_le _⟩) hP hD hS hA [] rfl rfl rfl (fun r_5 H locs hw hP hD hS => ?_)
      replace hw := hw.symm
      subst hw
      refine lv_if_eq (tgt := 37) hx hb dX6_speed_21 (by decide) (fun c_6 => ?_) (fun c_6 => ?_)
      · replace hf := (if_pos c_6).symm.trans hf
        refine lv_iconst (v := (-1)) hx hb dX6_speed_37 (by decide) ?_
        replace hf := Option.some.inj hf
        subst hf
        exact W.iret (v := (-1)) hx hb hr (fun t ht hW => ⟨⟨_, (), rfl, rfl, by show va_P g.1 vwCl _ t.heap; rw [ht]; exact hP⟩, hS.F ht⟩) hS.2.2 dX6_speed_38 hlocks
      · replace hf := (if_neg c_6).symm.trans hf
        refine lv_aload_n hx hb dX6_speed_24 rfl (lv_at hl 0 rfl) ?_
        refine lv_sipush (v := 1145) hx hb dX6_speed_25 (by decide) ?_
        refine lv_iload_n hx hb dX6_speed_28 rfl (lv_at hl 1 rfl) ?_
        refine lv_iadd hx hb dX6_speed_29 ?_
        refine lv_iload_n hx hb dX6_speed_30 rfl (lv_at hl 2 rfl) ?_
        obtain ⟨q_7, hq_7, hf⟩ := bd_some hf
        refine bft_i (bn := [wk6 g t_p t_length t_p_text t_text t_cavities t_p_volume t_volume t_p_freeze t_freeze t_cores t_p_earlier t_earlier t_stages t_p_place t_place t_p_now q_7.2.1 t_p_was q_7.2.2.1 q_7.2.2.2 t_p_one t_one t_readCavities t_p_readCavity t_readCavity t_readCores t_p_readCore t_readCore t_readStages t_p_readStage t_readStage t_p_readRule t_readRule t_value t_ends t_screw]) (L := [[t_p, t_p_text, t_p_volume, t_p_freeze, t_p_earlier, t_p_place, t_p_now, t_p_was, t_p_one, t_p_readCavity, t_p_readCore, t_p_readStage, t_p_readRule]]) (va_runV (As := [.int (1145 + l1), .int l2]) (rest := []) ⟨hx, hb, hml, hown, hts⟩ (c6_becomes l g t_p t_length t_p_text t_text t_cavities t_p_volume t_volume t_p_freeze t_freeze t_cores t_p_earlier t_earlier t_stages t_p_place t_place t_p_now t_now t_p_was t_was t_changes t_p_one t_one t_readCavities t_p_readCavity t_readCavity t_readCores t_p_readCore t_readCore t_readStages t_p_readStage t_readStage t_p_readRule t_readRule t_value t_ends t_screw (1145 + l1) l2 H.size N q_7 hq_7) (cwV 2 hts gX6_speed_X6_becomes rfl rfl rfl ⟨rfl, nh6.1, nh6.2, pd_14⟩ ⟨Nat.le_of_ble_eq_true rfl, Nat.le_of_ble_eq_true rfl⟩) (qPV hK hG hP hD hS hA [0] (by decide) rfl (va_recv hK.1 hP (ci := 6) (q0 := 0) rfl rfl)) rfl rfl hl.1 rfl (lv_room (Nat.le_of_ble_eq_true rfl)) dX6_speed_31 ⟨Nat.zero_le _, Nat.zero_le _⟩) hP hD hS hA [0] rfl rfl rfl rfl (fun r_8 H locs hw hP hD hS => ?_)
        replace hw := hw.symm
        subst hw
        refine lv_goto (tgt := 38) hx hb dX6_speed_34 (by decide) ?_
        replace hf := Option.some.inj hf
        subst hf
        exact W.iret (v := q_7.1) hx hb hr (fun t ht hW => ⟨⟨_, (), rfl, rfl, by show va_P g.1 vwCl _ t.heap; rw [ht]; exact hP⟩, hS.F ht⟩) hS.2.2 dX6_speed_38 hlocks
  exact hgo s.heap [] rfl rfl hP hS

set_option maxHeartbeats 4000000 in
set_option maxRecDepth 100000 in
theorem c6_tell (l : Launch) (g : gG) (t_p : Nat) (t_length : Int32) (t_p_text : Nat) (t_text : (Nat → Int32)) (t_cavities : Int32) (t_p_volume : Nat) (t_volume : (Nat → Int32)) (t_p_freeze : Nat) (t_freeze : (Nat → Int32)) (t_cores : Int32) (t_p_earlier : Nat) (t_earlier : (Nat → Int32)) (t_stages : Int32) (t_p_place : Nat) (t_place : (Nat → Int32)) (t_p_now : Nat) (t_now : (Nat → Int32)) (t_p_was : Nat) (t_was : (Nat → Int32)) (t_changes : Int32) (t_p_one : Nat) (t_one : (Nat → Int32)) (t_readCavities : Int32) (t_p_readCavity : Nat) (t_readCavity : (Nat → Int32)) (t_readCores : Int32) (t_p_readCore : Nat) (t_readCore : (Nat → Int32)) (t_readStages : Int32) (t_p_readStage : Nat) (t_readStage : (Nat → Int32)) (t_p_readRule : Nat) (t_readRule : (Nat → Int32)) (t_value : Int32) (t_ends : Int32) (t_screw : Int32) (l1 : Int32) (l2 : Int32) (sz : Nat) (N : Nat) (res : (Int32 × (Nat → Int32) × (Nat → Int32) × Int32)) (hf : f6_tell N l1 l2 t_now t_was t_changes = some res) : Met l yX6_tell wsX6_tell ({ frames := 2, cells := 0, slots := 0, locals := 44 }) (pP g [.ref t_p, .int l1, .int l2] sz (fl [wk6 g t_p t_length t_p_text t_text t_cavities t_p_volume t_volume t_p_freeze t_freeze t_cores t_p_earlier t_earlier t_stages t_p_place t_place t_p_now t_now t_p_was t_was t_changes t_p_one t_one t_readCavities t_p_readCavity t_readCavity t_readCores t_p_readCore t_readCore t_readStages t_p_readStage t_readStage t_p_readRule t_readRule t_value t_ends t_screw])) (pQi g (fun r => r = res.1) (fl [wk6 g t_p t_length t_p_text t_text t_cavities t_p_volume t_volume t_p_freeze t_freeze t_cores t_p_earlier t_earlier t_stages t_p_place t_place t_p_now res.2.1 t_p_was res.2.2.1 res.2.2.2 t_p_one t_one t_readCavities t_p_readCavity t_readCavity t_readCores t_p_readCore t_readCore t_readStages t_p_readStage t_readStage t_p_readRule t_readRule t_value t_ends t_screw]) (va_A (fl [wk6 g t_p t_length t_p_text t_text t_cavities t_p_volume t_volume t_p_freeze t_freeze t_cores t_p_earlier t_earlier t_stages t_p_place t_place t_p_now t_now t_p_was t_was t_changes t_p_one t_one t_readCavities t_p_readCavity t_readCavity t_readCores t_p_readCore t_readCore t_readStages t_p_readStage t_readStage t_p_readRule t_readRule t_value t_ends t_screw]) sz)) 0 0 (va_A (fl [wk6 g t_p t_length t_p_text t_text t_cavities t_p_volume t_volume t_p_freeze t_freeze t_cores t_p_earlier t_earlier t_stages t_p_place t_place t_p_now t_now t_p_was t_was t_changes t_p_one t_one t_readCavities t_p_readCavity t_readCavity t_readCores t_p_readCore t_readCore t_readStages t_p_readStage t_readStage t_p_readRule t_readRule t_value t_ends t_screw]) sz) := by
  refine Met.ofW (cc := cX6_tell) (maxL := 3) (ret := (some .int)) (by decide) rfl ?_
  intro p e s m args below meth c s₁ B hml hv
  obtain ⟨rfl, hsz, hP, hK, hD0, hG⟩ := hv
  have hx := B.exec
  have hb := B.bytes
  have hr := B.returns
  have hts := atoms_spec (ws := wsX6_tell) B.pre
  have hown : s.vm.findClass RX6 = some m.cls := findClass_of_methodNamed B.named
  have hlocks := B.notSynchronized
  subst hsz
  have hD := hD0.self (sz := s.heap.size)
  generalize hAe : va_A (fl [wk6 g t_p t_length t_p_text t_text t_cavities t_p_volume t_volume t_p_freeze t_freeze t_cores t_p_earlier t_earlier t_stages t_p_place t_place t_p_now t_now t_p_was t_was t_changes t_p_one t_one t_readCavities t_p_readCavity t_readCavity t_readCores t_p_readCore t_readCore t_readStages t_p_readStage t_readStage t_p_readRule t_readRule t_value t_ends t_screw]) s.heap.size = A at hD hG ⊢
  have hA : ∀ q : Nat, s.heap.size ≤ q → A q := fun q h => by rw [← hAe]; exact Or.inr h
  have hS : va_S A s.heap s.heap [] := va_S.rf
  have hl := lv_entry ([.ref t_p, .int l1, .int l2]) (n := 3) (Nat.le_of_ble_eq_true rfl)
  rw [lg_entry_eq]
  generalize (lg_sl ([.ref t_p, .int l1, .int l2]) ++ List.replicate (3 - (lg_sl ([.ref t_p, .int l1, .int l2])).length) Slot.unset).toArray = ls at hl ⊢
  replace hl : lv_has ls 3 [(0, .ref t_p), (1, .int l1), (2, .int l2)] := hl
  rw [f6_tell] at hf
  have hgo : ∀ (H : Heap) (locs : List Loc), H = s.heap → locs = [] → va_P g.1 vwCl (fl [wk6 g t_p t_length t_p_text t_text t_cavities t_p_volume t_volume t_p_freeze t_freeze t_cores t_p_earlier t_earlier t_stages t_p_place t_place t_p_now t_now t_p_was t_was t_changes t_p_one t_one t_readCavities t_p_readCavity t_readCavity t_readCores t_p_readCore t_readCore t_readStages t_p_readStage t_readStage t_p_readRule t_readRule t_value t_ends t_screw]) H → va_S A s.heap H locs → W p l e ({ frames := 2, cells := 0, slots := 0, locals := 44 }) s m ([.ref t_p, .int l1, .int l2] : List Value).toArray below meth c H locs 0 0 (MQ below (pQi g (fun r => r = res.1) (fl [wk6 g t_p t_length t_p_text t_text t_cavities t_p_volume t_volume t_p_freeze t_freeze t_cores t_p_earlier t_earlier t_stages t_p_place t_place t_p_now res.2.1 t_p_was res.2.2.1 res.2.2.2 t_p_one t_one t_readCavities t_p_readCavity t_readCavity t_readCores t_p_readCore t_readCore t_readStages t_p_readStage t_readStage t_p_readRule t_readRule t_value t_ends t_screw]) A) ([.ref t_p, .int l1, .int l2] : List Value).toArray s 0 0 A) (F0 m 0 ls []) := by
    intro H locs hH hL hP hS
    refine lv_iload_n hx hb dX6_tell_0 rfl (lv_at hl 1 rfl) ?_
    refine lv_iconst (v := 0) hx hb dX6_tell_1 (by decide) ?_
    refine lv_iconst (v := 5) hx hb dX6_tell_2 (by decide) ?_
    obtain ⟨q_1, hq_1, hf⟩ := bd_some hf
    refine aft_i (wn := (fl [wk6 g t_p t_length t_p_text t_text t_cavities t_p_volume t_volume t_p_freeze t_freeze t_cores t_p_earlier t_earlier t_stages t_p_place t_place t_p_now t_now t_p_was t_was t_changes t_p_one t_one t_readCavities t_p_readCavity t_readCavity t_readCores t_p_readCore t_readCore t_readStages t_p_readStage t_readStage t_p_readRule t_readRule t_value t_ends t_screw])) (va_runS (As := [.int l1, .int 0, .int 5]) (rest := []) ⟨hx, hb, hml, hown, hts⟩ (c6_isIn l g l1 0 5 H.size N q_1 hq_1) (va_cwS 3 hts gX6_tell_X6_isIn rfl rfl rfl ⟨nh6.1, nh6.2, pd_17⟩ ⟨Nat.le_of_ble_eq_true rfl, Nat.le_of_ble_eq_true rfl⟩) (pPS hK hG hP hD hS hA [] (by decide) rfl) rfl rfl hl.1 rfl (lv_room (Nat.le_of_ble_eq_true rfl)) dX6_tell_3 ⟨Nat.zero_le _, Nat.zero_le _⟩) hP hD hS hA [] rfl rfl rfl (fun r_2 H locs hw hP hD hS => ?_)
    replace hw := hw.symm
    subst hw
    refine lv_if_eq (tgt := 37) hx hb dX6_tell_6 (by decide) (fun c_3 => ?_) (fun c_3 => ?_)
    · replace hf := (if_pos c_3).symm.trans hf
      refine lv_iconst (v := (-1)) hx hb dX6_tell_37 (by decide) ?_
      replace hf := Option.some.inj hf
      subst hf
      exact W.iret (v := (-1)) hx hb hr (fun t ht hW => ⟨⟨_, (), rfl, rfl, by show va_P g.1 vwCl _ t.heap; rw [ht]; exact hP⟩, hS.F ht⟩) hS.2.2 dX6_tell_38 hlocks
    · replace hf := (if_neg c_3).symm.trans hf
      refine lv_iload_n hx hb dX6_tell_9 rfl (lv_at hl 2 rfl) ?_
      refine lv_iload_n hx hb dX6_tell_10 rfl (lv_at hl 1 rfl) ?_
      obtain ⟨q_4, hq_4, hf⟩ := bd_some hf
      refine aft_i (wn := (fl [wk6 g t_p t_length t_p_text t_text t_cavities t_p_volume t_volume t_p_freeze t_freeze t_cores t_p_earlier t_earlier t_stages t_p_place t_place t_p_now t_now t_p_was t_was t_changes t_p_one t_one t_readCavities t_p_readCavity t_readCavity t_readCores t_p_readCore t_readCore t_readStages t_p_readStage t_readStage t_p_readRule t_readRule t_value t_ends t_screw])) (va_runS (As := [.int l1]) (rest := [.int l2]) ⟨hx, hb, hml, hown, hts⟩ (c6_lowOf l g l1 H.size N q_4 hq_4) (va_cwS 1 hts gX6_tell_X6_lowOf rfl rfl rfl ⟨nh6.1, nh6.2, pd_2⟩ ⟨Nat.le_of_ble_eq_true rfl, Nat.le_of_ble_eq_true rfl⟩) (pPS hK hG hP hD hS hA [] (by decide) rfl) rfl rfl hl.1 rfl (lv_room (Nat.le_of_ble_eq_true rfl)) dX6_tell_11 ⟨Nat.zero_le _, Nat.zero_le _⟩) hP hD hS hA [] rfl rfl rfl (fun r_5 H locs hw hP hD hS => ?_)
      replace hw := hw.symm
      subst hw
      refine lv_iload_n hx hb dX6_tell_14 rfl (lv_at hl 1 rfl) ?_
      obtain ⟨q_6, hq_6, hf⟩ := bd_some hf
      refine aft_i (wn := (fl [wk6 g t_p t_length t_p_text t_text t_cavities t_p_volume t_volume t_p_freeze t_freeze t_cores t_p_earlier t_earlier t_stages t_p_place t_place t_p_now t_now t_p_was t_was t_changes t_p_one t_one t_readCavities t_p_readCavity t_readCavity t_readCores t_p_readCore t_readCore t_readStages t_p_readStage t_readStage t_p_readRule t_readRule t_value t_ends t_screw])) (va_runS (As := [.int l1]) (rest := [.int q_4, .int l2]) ⟨hx, hb, hml, hown, hts⟩ (c6_highOf l g l1 H.size N q_6 hq_6) (va_cwS 1 hts gX6_tell_X6_highOf rfl rfl rfl ⟨nh6.1, nh6.2, pd_2⟩ ⟨Nat.le_of_ble_eq_true rfl, Nat.le_of_ble_eq_true rfl⟩) (pPS hK hG hP hD hS hA [] (by decide) rfl) rfl rfl hl.1 rfl (lv_room (Nat.le_of_ble_eq_true rfl)) dX6_tell_15 ⟨Nat.zero_le _, Nat.zero_le _⟩) hP hD hS hA [] rfl rfl rfl (fun r_7 H locs hw hP hD hS => ?_)
      replace hw := hw.symm
      subst hw
      obtain ⟨q_8, hq_8, hf⟩ := bd_some hf
      refine aft_i (wn := (fl [wk6 g t_p t_length t_p_text t_text t_cavities t_p_volume t_volume t_p_freeze t_freeze t_cores t_p_earlier t_earlier t_stages t_p_place t_place t_p_now t_now t_p_was t_was t_changes t_p_one t_one t_readCavities t_p_readCavity t_readCavity t_readCores t_p_readCore t_readCore t_readStages t_p_readStage t_readStage t_p_readRule t_readRule t_value t_ends t_screw])) (va_runS (As := [.int l2, .int q_4, .int q_6]) (rest := []) ⟨hx, hb, hml, hown, hts⟩ (c6_isIn l g l2 q_4 q_6 H.size N q_8 hq_8) (va_cwS 3 hts gX6_tell_X6_isIn rfl rfl rfl ⟨nh6.1, nh6.2, pd_17⟩ ⟨Nat.le_of_ble_eq_true rfl, Nat.le_of_ble_eq_true rfl⟩) (pPS hK hG hP hD hS hA [] (by decide) rfl) rfl rfl hl.1 rfl (lv_room (Nat.le_of_ble_eq_true rfl)) dX6_tell_18 ⟨Nat.zero_le _, Nat.zero_le _⟩) hP hD hS hA [] rfl rfl rfl (fun r_9 H locs hw hP hD hS => ?_)
      replace hw := hw.symm
      subst hw
      refine lv_if_eq (tgt := 37) hx hb dX6_tell_21 (by decide) (fun c_10 => ?_) (fun c_10 => ?_)
      · replace hf := (if_pos c_10).symm.trans hf
        refine lv_iconst (v := (-1)) hx hb dX6_tell_37 (by decide) ?_
        replace hf := Option.some.inj hf
        subst hf
        exact W.iret (v := (-1)) hx hb hr (fun t ht hW => ⟨⟨_, (), rfl, rfl, by show va_P g.1 vwCl _ t.heap; rw [ht]; exact hP⟩, hS.F ht⟩) hS.2.2 dX6_tell_38 hlocks
      · replace hf := (if_neg c_10).symm.trans hf
        refine lv_aload_n hx hb dX6_tell_24 rfl (lv_at hl 0 rfl) ?_
        refine lv_sipush (v := 1149) hx hb dX6_tell_25 (by decide) ?_
        refine lv_iload_n hx hb dX6_tell_28 rfl (lv_at hl 1 rfl) ?_
        refine lv_iadd hx hb dX6_tell_29 ?_
        refine lv_iload_n hx hb dX6_tell_30 rfl (lv_at hl 2 rfl) ?_
        obtain ⟨q_11, hq_11, hf⟩ := bd_some hf
        refine bft_i (bn := [wk6 g t_p t_length t_p_text t_text t_cavities t_p_volume t_volume t_p_freeze t_freeze t_cores t_p_earlier t_earlier t_stages t_p_place t_place t_p_now q_11.2.1 t_p_was q_11.2.2.1 q_11.2.2.2 t_p_one t_one t_readCavities t_p_readCavity t_readCavity t_readCores t_p_readCore t_readCore t_readStages t_p_readStage t_readStage t_p_readRule t_readRule t_value t_ends t_screw]) (L := [[t_p, t_p_text, t_p_volume, t_p_freeze, t_p_earlier, t_p_place, t_p_now, t_p_was, t_p_one, t_p_readCavity, t_p_readCore, t_p_readStage, t_p_readRule]]) (va_runV (As := [.int (1149 + l1), .int l2]) (rest := []) ⟨hx, hb, hml, hown, hts⟩ (c6_becomes l g t_p t_length t_p_text t_text t_cavities t_p_volume t_volume t_p_freeze t_freeze t_cores t_p_earlier t_earlier t_stages t_p_place t_place t_p_now t_now t_p_was t_was t_changes t_p_one t_one t_readCavities t_p_readCavity t_readCavity t_readCores t_p_readCore t_readCore t_readStages t_p_readStage t_readStage t_p_readRule t_readRule t_value t_ends t_screw (1149 + l1) l2 H.size N q_11 hq_11) (cwV 2 hts gX6_tell_X6_becomes rfl rfl rfl ⟨rfl, nh6.1, nh6.2, pd_14⟩ ⟨Nat.le_of_ble_eq_true rfl, Nat.le_of_ble_eq_true rfl⟩) (qPV hK hG hP hD hS hA [0] (by decide) rfl (va_recv hK.1 hP (ci := 6) (q0 := 0) rfl rfl)) rfl rfl hl.1 rfl (lv_room (Nat.le_of_ble_eq_true rfl)) dX6_tell_31 ⟨Nat.zero_le _, Nat.zero_le _⟩) hP hD hS hA [0] rfl rfl rfl rfl (fun r_12 H locs hw hP hD hS => ?_)
        replace hw := hw.symm
        subst hw
        refine lv_goto (tgt := 38) hx hb dX6_tell_34 (by decide) ?_
        replace hf := Option.some.inj hf
        subst hf
        exact W.iret (v := q_11.1) hx hb hr (fun t ht hW => ⟨⟨_, (), rfl, rfl, by show va_P g.1 vwCl _ t.heap; rw [ht]; exact hP⟩, hS.F ht⟩) hS.2.2 dX6_tell_38 hlocks
  exact hgo s.heap [] rfl rfl hP hS

set_option maxHeartbeats 4000000 in
set_option maxRecDepth 100000 in
theorem c6_isReady (l : Launch) (g : gG) (t_p : Nat) (t_length : Int32) (t_p_text : Nat) (t_text : (Nat → Int32)) (t_cavities : Int32) (t_p_volume : Nat) (t_volume : (Nat → Int32)) (t_p_freeze : Nat) (t_freeze : (Nat → Int32)) (t_cores : Int32) (t_p_earlier : Nat) (t_earlier : (Nat → Int32)) (t_stages : Int32) (t_p_place : Nat) (t_place : (Nat → Int32)) (t_p_now : Nat) (t_now : (Nat → Int32)) (t_p_was : Nat) (t_was : (Nat → Int32)) (t_changes : Int32) (t_p_one : Nat) (t_one : (Nat → Int32)) (t_readCavities : Int32) (t_p_readCavity : Nat) (t_readCavity : (Nat → Int32)) (t_readCores : Int32) (t_p_readCore : Nat) (t_readCore : (Nat → Int32)) (t_readStages : Int32) (t_p_readStage : Nat) (t_readStage : (Nat → Int32)) (t_p_readRule : Nat) (t_readRule : (Nat → Int32)) (t_value : Int32) (t_ends : Int32) (t_screw : Int32) (sz : Nat) (N : Nat) (res : (Int32)) (hf : f6_isReady N t_cores t_now = some res) : Met l yX6_isReady wsX6_isReady ({ frames := 0, cells := 0, slots := 0, locals := 0 }) (pP g [.ref t_p] sz (fl [wk6 g t_p t_length t_p_text t_text t_cavities t_p_volume t_volume t_p_freeze t_freeze t_cores t_p_earlier t_earlier t_stages t_p_place t_place t_p_now t_now t_p_was t_was t_changes t_p_one t_one t_readCavities t_p_readCavity t_readCavity t_readCores t_p_readCore t_readCore t_readStages t_p_readStage t_readStage t_p_readRule t_readRule t_value t_ends t_screw])) (pQi g (fun r => r = res) (fl [wk6 g t_p t_length t_p_text t_text t_cavities t_p_volume t_volume t_p_freeze t_freeze t_cores t_p_earlier t_earlier t_stages t_p_place t_place t_p_now t_now t_p_was t_was t_changes t_p_one t_one t_readCavities t_p_readCavity t_readCavity t_readCores t_p_readCore t_readCore t_readStages t_p_readStage t_readStage t_p_readRule t_readRule t_value t_ends t_screw]) (va_A (fl [wk6 g t_p t_length t_p_text t_text t_cavities t_p_volume t_volume t_p_freeze t_freeze t_cores t_p_earlier t_earlier t_stages t_p_place t_place t_p_now t_now t_p_was t_was t_changes t_p_one t_one t_readCavities t_p_readCavity t_readCavity t_readCores t_p_readCore t_readCore t_readStages t_p_readStage t_readStage t_p_readRule t_readRule t_value t_ends t_screw]) sz)) 0 0 (va_A (fl [wk6 g t_p t_length t_p_text t_text t_cavities t_p_volume t_volume t_p_freeze t_freeze t_cores t_p_earlier t_earlier t_stages t_p_place t_place t_p_now t_now t_p_was t_was t_changes t_p_one t_one t_readCavities t_p_readCavity t_readCavity t_readCores t_p_readCore t_readCore t_readStages t_p_readStage t_readStage t_p_readRule t_readRule t_value t_ends t_screw]) sz) := by
  refine Met.ofW (cc := cX6_isReady) (maxL := 1) (ret := (some .boolean)) (by decide) rfl ?_
  intro p e s m args below meth c s₁ B hml hv
  obtain ⟨rfl, hsz, hP, hK, hD0, hG⟩ := hv
  have hx := B.exec
  have hb := B.bytes
  have hr := B.returns
  have hts := atoms_spec (ws := wsX6_isReady) B.pre
  have hown : s.vm.findClass RX6 = some m.cls := findClass_of_methodNamed B.named
  have hlocks := B.notSynchronized
  subst hsz
  have hD := hD0.self (sz := s.heap.size)
  generalize hAe : va_A (fl [wk6 g t_p t_length t_p_text t_text t_cavities t_p_volume t_volume t_p_freeze t_freeze t_cores t_p_earlier t_earlier t_stages t_p_place t_place t_p_now t_now t_p_was t_was t_changes t_p_one t_one t_readCavities t_p_readCavity t_readCavity t_readCores t_p_readCore t_readCore t_readStages t_p_readStage t_readStage t_p_readRule t_readRule t_value t_ends t_screw]) s.heap.size = A at hD hG ⊢
  have hA : ∀ q : Nat, s.heap.size ≤ q → A q := fun q h => by rw [← hAe]; exact Or.inr h
  have hS : va_S A s.heap s.heap [] := va_S.rf
  have hin6 : ∀ w ∈ u_ws RX6 TX6 23, w ∈ wsX6_isReady := by decide +kernel
  have L1 := hts (Cond.fieldLink RX6 25 "MouldShotsModel" "now" "[I") (by decide +kernel)
  have L2 := hts (Cond.fieldLink RX6 73 "MouldShotsModel" "cores" "I") (by decide +kernel)
  have hl := lv_entry ([.ref t_p]) (n := 1) (Nat.le_of_ble_eq_true rfl)
  rw [lg_entry_eq]
  generalize (lg_sl ([.ref t_p]) ++ List.replicate (1 - (lg_sl ([.ref t_p])).length) Slot.unset).toArray = ls at hl ⊢
  replace hl : lv_has ls 1 [(0, .ref t_p)] := hl
  rw [f6_isReady] at hf
  have hgo : ∀ (H : Heap) (locs : List Loc), H = s.heap → locs = [] → va_P g.1 vwCl (fl [wk6 g t_p t_length t_p_text t_text t_cavities t_p_volume t_volume t_p_freeze t_freeze t_cores t_p_earlier t_earlier t_stages t_p_place t_place t_p_now t_now t_p_was t_was t_changes t_p_one t_one t_readCavities t_p_readCavity t_readCavity t_readCores t_p_readCore t_readCore t_readStages t_p_readStage t_readStage t_p_readRule t_readRule t_value t_ends t_screw]) H → va_S A s.heap H locs → W p l e ({ frames := 0, cells := 0, slots := 0, locals := 0 }) s m ([.ref t_p] : List Value).toArray below meth c H locs 0 0 (MQ below (pQi g (fun r => r = res) (fl [wk6 g t_p t_length t_p_text t_text t_cavities t_p_volume t_volume t_p_freeze t_freeze t_cores t_p_earlier t_earlier t_stages t_p_place t_place t_p_now t_now t_p_was t_was t_changes t_p_one t_one t_readCavities t_p_readCavity t_readCavity t_readCores t_p_readCore t_readCore t_readStages t_p_readStage t_readStage t_p_readRule t_readRule t_value t_ends t_screw]) A) ([.ref t_p] : List Value).toArray s 0 0 A) (F0 m 0 ls []) := by
    intro H locs hH hL hP hS
    refine lv_aload_n hx hb dX6_isReady_0 rfl (lv_at hl 0 rfl) ?_
    refine va_get (D := g.1) (ci := 6) (v := .ref t_p_now) (C := RX6) (T := TX6) (N := 23) hx hb hts hin6 hown hK.1 hP 0 rfl rfl 9 (by decide) L1 (fun _ h9 => h9) rfl dX6_isReady_1 ?_
    refine lv_sipush (v := 1010) hx hb dX6_isReady_4 (by decide) ?_
    obtain ⟨h_1, hf⟩ := if_some hf
    refine va_iald hx hb hK.1 hP 6 0 rfl rfl (ok_in h_1) dX6_isReady_7 ?_
    refine lv_iconst (v := 1) hx hb dX6_isReady_8 (by decide) ?_
    refine lv_icmp_ne (tgt := 35) hx hb dX6_isReady_9 (by decide) (fun c_2 => ?_) (fun c_2 => ?_)
    · replace hf := (if_neg c_2).symm.trans hf
      refine lv_iconst (v := 0) hx hb dX6_isReady_35 (by decide) ?_
      replace hf := Option.some.inj hf
      subst hf
      exact W.zret (v := 0) hx hb hr rfl (fun t ht hW => ⟨⟨_, (), rfl, rfl, by show va_P g.1 vwCl _ t.heap; rw [ht]; exact hP⟩, hS.F ht⟩) hS.2.2 dX6_isReady_36 hlocks
    · replace hf := (if_pos c_2).symm.trans hf
      refine lv_aload_n hx hb dX6_isReady_12 rfl (lv_at hl 0 rfl) ?_
      refine va_get (D := g.1) (ci := 6) (v := .ref t_p_now) (C := RX6) (T := TX6) (N := 23) hx hb hts hin6 hown hK.1 hP 0 rfl rfl 9 (by decide) L1 (fun _ h9 => h9) rfl dX6_isReady_13 ?_
      refine lv_sipush (v := 1011) hx hb dX6_isReady_16 (by decide) ?_
      obtain ⟨h_3, hf⟩ := if_some hf
      refine va_iald hx hb hK.1 hP 6 0 rfl rfl (ok_in h_3) dX6_isReady_19 ?_
      refine lv_iconst (v := 1) hx hb dX6_isReady_20 (by decide) ?_
      refine lv_aload_n hx hb dX6_isReady_21 rfl (lv_at hl 0 rfl) ?_
      refine va_get (D := g.1) (ci := 6) (v := .int t_cores) (C := RX6) (T := TX6) (N := 23) hx hb hts hin6 hown hK.1 hP 0 rfl rfl 5 (by decide) L2 (fun _ h9 => h9) rfl dX6_isReady_22 ?_
      refine lv_ishl hx hb dX6_isReady_25 ?_
      refine lv_iconst (v := 1) hx hb dX6_isReady_26 (by decide) ?_
      refine lv_isub hx hb dX6_isReady_27 ?_
      refine lv_icmp_ne (tgt := 35) hx hb dX6_isReady_28 (by decide) (fun c_4 => ?_) (fun c_4 => ?_)
      · replace hf := (if_neg c_4).symm.trans hf
        refine lv_iconst (v := 0) hx hb dX6_isReady_35 (by decide) ?_
        replace hf := Option.some.inj hf
        subst hf
        exact W.zret (v := 0) hx hb hr rfl (fun t ht hW => ⟨⟨_, (), rfl, rfl, by show va_P g.1 vwCl _ t.heap; rw [ht]; exact hP⟩, hS.F ht⟩) hS.2.2 dX6_isReady_36 hlocks
      · replace hf := (if_pos c_4).symm.trans hf
        refine lv_iconst (v := 1) hx hb dX6_isReady_31 (by decide) ?_
        refine lv_goto (tgt := 36) hx hb dX6_isReady_32 (by decide) ?_
        replace hf := Option.some.inj hf
        subst hf
        exact W.zret (v := 1) hx hb hr rfl (fun t ht hW => ⟨⟨_, (), rfl, rfl, by show va_P g.1 vwCl _ t.heap; rw [ht]; exact hP⟩, hS.F ht⟩) hS.2.2 dX6_isReady_36 hlocks
  exact hgo s.heap [] rfl rfl hP hS

set_option maxHeartbeats 4000000 in
set_option maxRecDepth 100000 in
theorem c6_shoot (l : Launch) (g : gG) (t_p : Nat) (t_length : Int32) (t_p_text : Nat) (t_text : (Nat → Int32)) (t_cavities : Int32) (t_p_volume : Nat) (t_volume : (Nat → Int32)) (t_p_freeze : Nat) (t_freeze : (Nat → Int32)) (t_cores : Int32) (t_p_earlier : Nat) (t_earlier : (Nat → Int32)) (t_stages : Int32) (t_p_place : Nat) (t_place : (Nat → Int32)) (t_p_now : Nat) (t_now : (Nat → Int32)) (t_p_was : Nat) (t_was : (Nat → Int32)) (t_changes : Int32) (t_p_one : Nat) (t_one : (Nat → Int32)) (t_readCavities : Int32) (t_p_readCavity : Nat) (t_readCavity : (Nat → Int32)) (t_readCores : Int32) (t_p_readCore : Nat) (t_readCore : (Nat → Int32)) (t_readStages : Int32) (t_p_readStage : Nat) (t_readStage : (Nat → Int32)) (t_p_readRule : Nat) (t_readRule : (Nat → Int32)) (t_value : Int32) (t_ends : Int32) (t_screw : Int32) (sz : Nat) (N : Nat) (res : (Int32 × (Nat → Int32) × (Nat → Int32) × Int32 × (Nat → Int32) × Int32)) (hf : f6_shoot N t_cavities t_volume t_freeze t_cores t_stages t_place t_now t_was t_changes t_one t_screw = some res) : Met l yX6_shoot wsX6_shoot ({ frames := 3, cells := 0, slots := 0, locals := 78 }) (pP g [.ref t_p] sz (fl [wk6 g t_p t_length t_p_text t_text t_cavities t_p_volume t_volume t_p_freeze t_freeze t_cores t_p_earlier t_earlier t_stages t_p_place t_place t_p_now t_now t_p_was t_was t_changes t_p_one t_one t_readCavities t_p_readCavity t_readCavity t_readCores t_p_readCore t_readCore t_readStages t_p_readStage t_readStage t_p_readRule t_readRule t_value t_ends t_screw])) (pQi g (fun r => r = res.1) (fl [wk6 g t_p t_length t_p_text t_text t_cavities t_p_volume t_volume t_p_freeze t_freeze t_cores t_p_earlier t_earlier t_stages t_p_place t_place t_p_now res.2.1 t_p_was res.2.2.1 res.2.2.2.1 t_p_one res.2.2.2.2.1 t_readCavities t_p_readCavity t_readCavity t_readCores t_p_readCore t_readCore t_readStages t_p_readStage t_readStage t_p_readRule t_readRule t_value t_ends res.2.2.2.2.2]) (va_A (fl [wk6 g t_p t_length t_p_text t_text t_cavities t_p_volume t_volume t_p_freeze t_freeze t_cores t_p_earlier t_earlier t_stages t_p_place t_place t_p_now t_now t_p_was t_was t_changes t_p_one t_one t_readCavities t_p_readCavity t_readCavity t_readCores t_p_readCore t_readCore t_readStages t_p_readStage t_readStage t_p_readRule t_readRule t_value t_ends t_screw]) sz)) 0 0 (va_A (fl [wk6 g t_p t_length t_p_text t_text t_cavities t_p_volume t_volume t_p_freeze t_freeze t_cores t_p_earlier t_earlier t_stages t_p_place t_place t_p_now t_now t_p_was t_was t_changes t_p_one t_one t_readCavities t_p_readCavity t_readCavity t_readCores t_p_readCore t_readCore t_readStages t_p_readStage t_readStage t_p_readRule t_readRule t_value t_ends t_screw]) sz) := by
  refine Met.ofW (cc := cX6_shoot) (maxL := 2) (ret := (some .int)) (by decide) rfl ?_
  intro p e s m args below meth c s₁ B hml hv
  obtain ⟨rfl, hsz, hP, hK, hD0, hG⟩ := hv
  have hx := B.exec
  have hb := B.bytes
  have hr := B.returns
  have hts := atoms_spec (ws := wsX6_shoot) B.pre
  have hown : s.vm.findClass RX6 = some m.cls := findClass_of_methodNamed B.named
  have hlocks := B.notSynchronized
  subst hsz
  have hD := hD0.self (sz := s.heap.size)
  generalize hAe : va_A (fl [wk6 g t_p t_length t_p_text t_text t_cavities t_p_volume t_volume t_p_freeze t_freeze t_cores t_p_earlier t_earlier t_stages t_p_place t_place t_p_now t_now t_p_was t_was t_changes t_p_one t_one t_readCavities t_p_readCavity t_readCavity t_readCores t_p_readCore t_readCore t_readStages t_p_readStage t_readStage t_p_readRule t_readRule t_value t_ends t_screw]) s.heap.size = A at hD hG ⊢
  have hA : ∀ q : Nat, s.heap.size ≤ q → A q := fun q h => by rw [← hAe]; exact Or.inr h
  have hS : va_S A s.heap s.heap [] := va_S.rf
  have hin6 : ∀ w ∈ u_ws RX6 TX6 23, w ∈ wsX6_shoot := by decide +kernel
  have L1 := hts (Cond.fieldLink RX6 25 "MouldShotsModel" "now" "[I") (by decide +kernel)
  have L2 := hts (Cond.fieldLink RX6 31 "MouldShotsModel" "one" "[I") (by decide +kernel)
  have w_88 : ∀ n : Nat, ∀ (v1 : Int32) (t_now : (Nat → Int32)) (t_was : (Nat → Int32)) (t_changes : Int32) (t_one : (Nat → Int32)) (t_screw : Int32) (H : Heap) (locs : List Loc) (ls : Array Slot), f6_shoot_88  N n v1 t_now t_was t_changes t_one t_screw = some res → va_P g.1 vwCl (fl [wk6 g t_p t_length t_p_text t_text t_cavities t_p_volume t_volume t_p_freeze t_freeze t_cores t_p_earlier t_earlier t_stages t_p_place t_place t_p_now t_now t_p_was t_was t_changes t_p_one t_one t_readCavities t_p_readCavity t_readCavity t_readCores t_p_readCore t_readCore t_readStages t_p_readStage t_readStage t_p_readRule t_readRule t_value t_ends t_screw]) H → va_D A (fl [wk6 g t_p t_length t_p_text t_text t_cavities t_p_volume t_volume t_p_freeze t_freeze t_cores t_p_earlier t_earlier t_stages t_p_place t_place t_p_now t_now t_p_was t_was t_changes t_p_one t_one t_readCavities t_p_readCavity t_readCavity t_readCores t_p_readCore t_readCore t_readStages t_p_readStage t_readStage t_p_readRule t_readRule t_value t_ends t_screw]) → va_S A s.heap H locs → lv_has ls 2 [(0, .ref t_p), (1, .int v1)] → W p l e ({ frames := 3, cells := 0, slots := 0, locals := 78 }) s m ([.ref t_p] : List Value).toArray below meth c H locs 0 0 (MQ below (pQi g (fun r => r = res.1) (fl [wk6 g t_p t_length t_p_text t_text t_cavities t_p_volume t_volume t_p_freeze t_freeze t_cores t_p_earlier t_earlier t_stages t_p_place t_place t_p_now res.2.1 t_p_was res.2.2.1 res.2.2.2.1 t_p_one res.2.2.2.2.1 t_readCavities t_p_readCavity t_readCavity t_readCores t_p_readCore t_readCore t_readStages t_p_readStage t_readStage t_p_readRule t_readRule t_value t_ends res.2.2.2.2.2]) A) ([.ref t_p] : List Value).toArray s 0 0 A) (F0 m 88 ls []) := by
    intro  n
    induction n with
    | zero => intro v1 t_now t_was t_changes t_one t_screw H locs ls hf; exact no_some hf
    | succ n ih =>
      intro v1 t_now t_was t_changes t_one t_screw H locs ls hf hP hD hS hl
      rw [f6_shoot_88] at hf
      refine lv_iload_n hx hb dX6_shoot_88 rfl (lv_at hl 1 rfl) ?_
      refine lv_bipush (v := 84) hx hb dX6_shoot_89 (by decide) ?_
      refine lv_icmp_ge (tgt := 124) hx hb dX6_shoot_91 (by decide) (fun c_15 => ?_) (fun c_15 => ?_)
      · replace hf := (if_pos c_15).symm.trans hf
        refine lv_aload_n hx hb dX6_shoot_124 rfl (lv_at hl 0 rfl) ?_
        refine va_get (D := g.1) (ci := 6) (v := .ref t_p_now) (C := RX6) (T := TX6) (N := 23) hx hb hts hin6 hown hK.1 hP 0 rfl rfl 9 (by decide) L1 (fun _ h9 => h9) rfl dX6_shoot_125 ?_
        refine lv_sipush (v := 1008) hx hb dX6_shoot_128 (by decide) ?_
        refine lv_dup2_11 hx hb dX6_shoot_131 rfl rfl ?_
        obtain ⟨h_16, hf⟩ := if_some hf
        refine va_iald hx hb hK.1 hP 6 0 rfl rfl (ok_in h_16) dX6_shoot_132 ?_
        refine lv_iconst (v := 1) hx hb dX6_shoot_133 (by decide) ?_
        refine lv_iadd hx hb dX6_shoot_134 ?_
        obtain ⟨h_17, hf⟩ := if_some hf
        refine va_iast hx hb hK.1 hP hD hS 6 0 rfl rfl (ok_in h_17) dX6_shoot_135 (fun H locs hP hD hS => ?_)
        replace hP : va_P g.1 vwCl (fl [wk6 g t_p t_length t_p_text t_text t_cavities t_p_volume t_volume t_p_freeze t_freeze t_cores t_p_earlier t_earlier t_stages t_p_place t_place t_p_now (upd t_now (Int32.toNatClampNeg 1008) ((t_now (Int32.toNatClampNeg 1008)) + 1)) t_p_was t_was t_changes t_p_one t_one t_readCavities t_p_readCavity t_readCavity t_readCores t_p_readCore t_readCore t_readStages t_p_readStage t_readStage t_p_readRule t_readRule t_value t_ends t_screw]) H := hP
        replace hD : va_D A (fl [wk6 g t_p t_length t_p_text t_text t_cavities t_p_volume t_volume t_p_freeze t_freeze t_cores t_p_earlier t_earlier t_stages t_p_place t_place t_p_now (upd t_now (Int32.toNatClampNeg 1008) ((t_now (Int32.toNatClampNeg 1008)) + 1)) t_p_was t_was t_changes t_p_one t_one t_readCavities t_p_readCavity t_readCavity t_readCores t_p_readCore t_readCore t_readStages t_p_readStage t_readStage t_p_readRule t_readRule t_value t_ends t_screw]) := hD
        refine lv_aload_n hx hb dX6_shoot_136 rfl (lv_at hl 0 rfl) ?_
        refine va_get (D := g.1) (ci := 6) (v := .ref t_p_now) (C := RX6) (T := TX6) (N := 23) hx hb hts hin6 hown hK.1 hP 0 rfl rfl 9 (by decide) L1 (fun _ h9 => h9) rfl dX6_shoot_137 ?_
        refine lv_sipush (v := 1009) hx hb dX6_shoot_140 (by decide) ?_
        refine lv_dup2_11 hx hb dX6_shoot_143 rfl rfl ?_
        obtain ⟨h_18, hf⟩ := if_some hf
        refine va_iald hx hb hK.1 hP 6 0 rfl rfl (ok_in h_18) dX6_shoot_144 ?_
        refine lv_iconst (v := 1) hx hb dX6_shoot_145 (by decide) ?_
        refine lv_iadd hx hb dX6_shoot_146 ?_
        obtain ⟨h_19, hf⟩ := if_some hf
        refine va_iast hx hb hK.1 hP hD hS 6 0 rfl rfl (ok_in h_19) dX6_shoot_147 (fun H locs hP hD hS => ?_)
        replace hP : va_P g.1 vwCl (fl [wk6 g t_p t_length t_p_text t_text t_cavities t_p_volume t_volume t_p_freeze t_freeze t_cores t_p_earlier t_earlier t_stages t_p_place t_place t_p_now (upd (upd t_now (Int32.toNatClampNeg 1008) ((t_now (Int32.toNatClampNeg 1008)) + 1)) (Int32.toNatClampNeg 1009) (((upd t_now (Int32.toNatClampNeg 1008) ((t_now (Int32.toNatClampNeg 1008)) + 1)) (Int32.toNatClampNeg 1009)) + 1)) t_p_was t_was t_changes t_p_one t_one t_readCavities t_p_readCavity t_readCavity t_readCores t_p_readCore t_readCore t_readStages t_p_readStage t_readStage t_p_readRule t_readRule t_value t_ends t_screw]) H := hP
        replace hD : va_D A (fl [wk6 g t_p t_length t_p_text t_text t_cavities t_p_volume t_volume t_p_freeze t_freeze t_cores t_p_earlier t_earlier t_stages t_p_place t_place t_p_now (upd (upd t_now (Int32.toNatClampNeg 1008) ((t_now (Int32.toNatClampNeg 1008)) + 1)) (Int32.toNatClampNeg 1009) (((upd t_now (Int32.toNatClampNeg 1008) ((t_now (Int32.toNatClampNeg 1008)) + 1)) (Int32.toNatClampNeg 1009)) + 1)) t_p_was t_was t_changes t_p_one t_one t_readCavities t_p_readCavity t_readCavity t_readCores t_p_readCore t_readCore t_readStages t_p_readStage t_readStage t_p_readRule t_readRule t_value t_ends t_screw]) := hD
        refine lv_aload_n hx hb dX6_shoot_148 rfl (lv_at hl 0 rfl) ?_
        refine va_get (D := g.1) (ci := 6) (v := .ref t_p_now) (C := RX6) (T := TX6) (N := 23) hx hb hts hin6 hown hK.1 hP 0 rfl rfl 9 (by decide) L1 (fun _ h9 => h9) rfl dX6_shoot_149 ?_
        refine lv_sipush (v := 1012) hx hb dX6_shoot_152 (by decide) ?_
        refine lv_iconst (v := 1) hx hb dX6_shoot_155 (by decide) ?_
        obtain ⟨h_20, hf⟩ := if_some hf
        refine va_iast hx hb hK.1 hP hD hS 6 0 rfl rfl (ok_in h_20) dX6_shoot_156 (fun H locs hP hD hS => ?_)
        replace hP : va_P g.1 vwCl (fl [wk6 g t_p t_length t_p_text t_text t_cavities t_p_volume t_volume t_p_freeze t_freeze t_cores t_p_earlier t_earlier t_stages t_p_place t_place t_p_now (upd (upd (upd t_now (Int32.toNatClampNeg 1008) ((t_now (Int32.toNatClampNeg 1008)) + 1)) (Int32.toNatClampNeg 1009) (((upd t_now (Int32.toNatClampNeg 1008) ((t_now (Int32.toNatClampNeg 1008)) + 1)) (Int32.toNatClampNeg 1009)) + 1)) (Int32.toNatClampNeg 1012) 1) t_p_was t_was t_changes t_p_one t_one t_readCavities t_p_readCavity t_readCavity t_readCores t_p_readCore t_readCore t_readStages t_p_readStage t_readStage t_p_readRule t_readRule t_value t_ends t_screw]) H := hP
        replace hD : va_D A (fl [wk6 g t_p t_length t_p_text t_text t_cavities t_p_volume t_volume t_p_freeze t_freeze t_cores t_p_earlier t_earlier t_stages t_p_place t_place t_p_now (upd (upd (upd t_now (Int32.toNatClampNeg 1008) ((t_now (Int32.toNatClampNeg 1008)) + 1)) (Int32.toNatClampNeg 1009) (((upd t_now (Int32.toNatClampNeg 1008) ((t_now (Int32.toNatClampNeg 1008)) + 1)) (Int32.toNatClampNeg 1009)) + 1)) (Int32.toNatClampNeg 1012) 1) t_p_was t_was t_changes t_p_one t_one t_readCavities t_p_readCavity t_readCavity t_readCores t_p_readCore t_readCore t_readStages t_p_readStage t_readStage t_p_readRule t_readRule t_value t_ends t_screw]) := hD
        refine lv_aload_n hx hb dX6_shoot_157 rfl (lv_at hl 0 rfl) ?_
        refine va_get (D := g.1) (ci := 6) (v := .ref t_p_now) (C := RX6) (T := TX6) (N := 23) hx hb hts hin6 hown hK.1 hP 0 rfl rfl 9 (by decide) L1 (fun _ h9 => h9) rfl dX6_shoot_158 ?_
        refine lv_sipush (v := 1013) hx hb dX6_shoot_161 (by decide) ?_
        refine lv_iconst (v := 1) hx hb dX6_shoot_164 (by decide) ?_
        obtain ⟨h_21, hf⟩ := if_some hf
        refine va_iast hx hb hK.1 hP hD hS 6 0 rfl rfl (ok_in h_21) dX6_shoot_165 (fun H locs hP hD hS => ?_)
        replace hP : va_P g.1 vwCl (fl [wk6 g t_p t_length t_p_text t_text t_cavities t_p_volume t_volume t_p_freeze t_freeze t_cores t_p_earlier t_earlier t_stages t_p_place t_place t_p_now (upd (upd (upd (upd t_now (Int32.toNatClampNeg 1008) ((t_now (Int32.toNatClampNeg 1008)) + 1)) (Int32.toNatClampNeg 1009) (((upd t_now (Int32.toNatClampNeg 1008) ((t_now (Int32.toNatClampNeg 1008)) + 1)) (Int32.toNatClampNeg 1009)) + 1)) (Int32.toNatClampNeg 1012) 1) (Int32.toNatClampNeg 1013) 1) t_p_was t_was t_changes t_p_one t_one t_readCavities t_p_readCavity t_readCavity t_readCores t_p_readCore t_readCore t_readStages t_p_readStage t_readStage t_p_readRule t_readRule t_value t_ends t_screw]) H := hP
        replace hD : va_D A (fl [wk6 g t_p t_length t_p_text t_text t_cavities t_p_volume t_volume t_p_freeze t_freeze t_cores t_p_earlier t_earlier t_stages t_p_place t_place t_p_now (upd (upd (upd (upd t_now (Int32.toNatClampNeg 1008) ((t_now (Int32.toNatClampNeg 1008)) + 1)) (Int32.toNatClampNeg 1009) (((upd t_now (Int32.toNatClampNeg 1008) ((t_now (Int32.toNatClampNeg 1008)) + 1)) (Int32.toNatClampNeg 1009)) + 1)) (Int32.toNatClampNeg 1012) 1) (Int32.toNatClampNeg 1013) 1) t_p_was t_was t_changes t_p_one t_one t_readCavities t_p_readCavity t_readCavity t_readCores t_p_readCore t_readCore t_readStages t_p_readStage t_readStage t_p_readRule t_readRule t_value t_ends t_screw]) := hD
        refine lv_aload_n hx hb dX6_shoot_166 rfl (lv_at hl 0 rfl) ?_
        refine va_get (D := g.1) (ci := 6) (v := .ref t_p_now) (C := RX6) (T := TX6) (N := 23) hx hb hts hin6 hown hK.1 hP 0 rfl rfl 9 (by decide) L1 (fun _ h9 => h9) rfl dX6_shoot_167 ?_
        refine lv_sipush (v := 1014) hx hb dX6_shoot_170 (by decide) ?_
        refine lv_aload_n hx hb dX6_shoot_173 rfl (lv_at hl 0 rfl) ?_
        refine va_get (D := g.1) (ci := 6) (v := .ref t_p_now) (C := RX6) (T := TX6) (N := 23) hx hb hts hin6 hown hK.1 hP 0 rfl rfl 9 (by decide) L1 (fun _ h9 => h9) rfl dX6_shoot_174 ?_
        refine lv_sipush (v := 1154) hx hb dX6_shoot_177 (by decide) ?_
        obtain ⟨h_22, hf⟩ := if_some hf
        refine va_iald hx hb hK.1 hP 6 0 rfl rfl (ok_in h_22) dX6_shoot_180 ?_
        obtain ⟨h_23, hf⟩ := if_some hf
        refine va_iast hx hb hK.1 hP hD hS 6 0 rfl rfl (ok_in h_23) dX6_shoot_181 (fun H locs hP hD hS => ?_)
        replace hP : va_P g.1 vwCl (fl [wk6 g t_p t_length t_p_text t_text t_cavities t_p_volume t_volume t_p_freeze t_freeze t_cores t_p_earlier t_earlier t_stages t_p_place t_place t_p_now (upd (upd (upd (upd (upd t_now (Int32.toNatClampNeg 1008) ((t_now (Int32.toNatClampNeg 1008)) + 1)) (Int32.toNatClampNeg 1009) (((upd t_now (Int32.toNatClampNeg 1008) ((t_now (Int32.toNatClampNeg 1008)) + 1)) (Int32.toNatClampNeg 1009)) + 1)) (Int32.toNatClampNeg 1012) 1) (Int32.toNatClampNeg 1013) 1) (Int32.toNatClampNeg 1014) ((upd (upd (upd (upd t_now (Int32.toNatClampNeg 1008) ((t_now (Int32.toNatClampNeg 1008)) + 1)) (Int32.toNatClampNeg 1009) (((upd t_now (Int32.toNatClampNeg 1008) ((t_now (Int32.toNatClampNeg 1008)) + 1)) (Int32.toNatClampNeg 1009)) + 1)) (Int32.toNatClampNeg 1012) 1) (Int32.toNatClampNeg 1013) 1) (Int32.toNatClampNeg 1154))) t_p_was t_was t_changes t_p_one t_one t_readCavities t_p_readCavity t_readCavity t_readCores t_p_readCore t_readCore t_readStages t_p_readStage t_readStage t_p_readRule t_readRule t_value t_ends t_screw]) H := hP
        replace hD : va_D A (fl [wk6 g t_p t_length t_p_text t_text t_cavities t_p_volume t_volume t_p_freeze t_freeze t_cores t_p_earlier t_earlier t_stages t_p_place t_place t_p_now (upd (upd (upd (upd (upd t_now (Int32.toNatClampNeg 1008) ((t_now (Int32.toNatClampNeg 1008)) + 1)) (Int32.toNatClampNeg 1009) (((upd t_now (Int32.toNatClampNeg 1008) ((t_now (Int32.toNatClampNeg 1008)) + 1)) (Int32.toNatClampNeg 1009)) + 1)) (Int32.toNatClampNeg 1012) 1) (Int32.toNatClampNeg 1013) 1) (Int32.toNatClampNeg 1014) ((upd (upd (upd (upd t_now (Int32.toNatClampNeg 1008) ((t_now (Int32.toNatClampNeg 1008)) + 1)) (Int32.toNatClampNeg 1009) (((upd t_now (Int32.toNatClampNeg 1008) ((t_now (Int32.toNatClampNeg 1008)) + 1)) (Int32.toNatClampNeg 1009)) + 1)) (Int32.toNatClampNeg 1012) 1) (Int32.toNatClampNeg 1013) 1) (Int32.toNatClampNeg 1154))) t_p_was t_was t_changes t_p_one t_one t_readCavities t_p_readCavity t_readCavity t_readCores t_p_readCore t_readCore t_readStages t_p_readStage t_readStage t_p_readRule t_readRule t_value t_ends t_screw]) := hD
        refine lv_aload_n hx hb dX6_shoot_182 rfl (lv_at hl 0 rfl) ?_
        refine va_get (D := g.1) (ci := 6) (v := .ref t_p_one) (C := RX6) (T := TX6) (N := 23) hx hb hts hin6 hown hK.1 hP 0 rfl rfl 12 (by decide) L2 (fun _ h9 => h9) rfl dX6_shoot_183 ?_
        refine lv_iconst (v := 5) hx hb dX6_shoot_186 (by decide) ?_
        obtain ⟨h_24, hf⟩ := if_some hf
        refine va_iald hx hb hK.1 hP 8 0 rfl rfl (ok_in h_24) dX6_shoot_187 ?_
        replace hf := Option.some.inj hf
        subst hf
        exact W.iret (v := t_one (Int32.toNatClampNeg 5)) hx hb hr (fun t ht hW => ⟨⟨_, (), rfl, rfl, by show va_P g.1 vwCl _ t.heap; rw [ht]; exact hP⟩, hS.F ht⟩) hS.2.2 dX6_shoot_188 hlocks
      · replace hf := (if_neg c_15).symm.trans hf
        refine lv_aload_n hx hb dX6_shoot_94 rfl (lv_at hl 0 rfl) ?_
        refine va_get (D := g.1) (ci := 6) (v := .ref t_p_now) (C := RX6) (T := TX6) (N := 23) hx hb hts hin6 hown hK.1 hP 0 rfl rfl 9 (by decide) L1 (fun _ h9 => h9) rfl dX6_shoot_95 ?_
        refine lv_bipush (v := 84) hx hb dX6_shoot_98 (by decide) ?_
        refine lv_aload_n hx hb dX6_shoot_100 rfl (lv_at hl 0 rfl) ?_
        refine va_get (D := g.1) (ci := 6) (v := .ref t_p_now) (C := RX6) (T := TX6) (N := 23) hx hb hts hin6 hown hK.1 hP 0 rfl rfl 9 (by decide) L1 (fun _ h9 => h9) rfl dX6_shoot_101 ?_
        refine lv_sipush (v := 1008) hx hb dX6_shoot_104 (by decide) ?_
        obtain ⟨h_25, hf⟩ := if_some hf
        refine va_iald hx hb hK.1 hP 6 0 rfl rfl (ok_in h_25) dX6_shoot_107 ?_
        refine lv_imul hx hb dX6_shoot_108 ?_
        refine lv_iload_n hx hb dX6_shoot_109 rfl (lv_at hl 1 rfl) ?_
        refine lv_iadd hx hb dX6_shoot_110 ?_
        refine lv_aload_n hx hb dX6_shoot_111 rfl (lv_at hl 0 rfl) ?_
        refine va_get (D := g.1) (ci := 6) (v := .ref t_p_one) (C := RX6) (T := TX6) (N := 23) hx hb hts hin6 hown hK.1 hP 0 rfl rfl 12 (by decide) L2 (fun _ h9 => h9) rfl dX6_shoot_112 ?_
        refine lv_iload_n hx hb dX6_shoot_115 rfl (lv_at hl 1 rfl) ?_
        obtain ⟨h_26, hf⟩ := if_some hf
        refine va_iald hx hb hK.1 hP 8 0 rfl rfl (ok_in h_26) dX6_shoot_116 ?_
        obtain ⟨h_27, hf⟩ := if_some hf
        refine va_iast hx hb hK.1 hP hD hS 6 0 rfl rfl (ok_in h_27) dX6_shoot_117 (fun H locs hP hD hS => ?_)
        replace hP : va_P g.1 vwCl (fl [wk6 g t_p t_length t_p_text t_text t_cavities t_p_volume t_volume t_p_freeze t_freeze t_cores t_p_earlier t_earlier t_stages t_p_place t_place t_p_now (upd t_now (Int32.toNatClampNeg ((84 * (t_now (Int32.toNatClampNeg 1008))) + v1)) (t_one (Int32.toNatClampNeg v1))) t_p_was t_was t_changes t_p_one t_one t_readCavities t_p_readCavity t_readCavity t_readCores t_p_readCore t_readCore t_readStages t_p_readStage t_readStage t_p_readRule t_readRule t_value t_ends t_screw]) H := hP
        replace hD : va_D A (fl [wk6 g t_p t_length t_p_text t_text t_cavities t_p_volume t_volume t_p_freeze t_freeze t_cores t_p_earlier t_earlier t_stages t_p_place t_place t_p_now (upd t_now (Int32.toNatClampNeg ((84 * (t_now (Int32.toNatClampNeg 1008))) + v1)) (t_one (Int32.toNatClampNeg v1))) t_p_was t_was t_changes t_p_one t_one t_readCavities t_p_readCavity t_readCavity t_readCores t_p_readCore t_readCore t_readStages t_p_readStage t_readStage t_p_readRule t_readRule t_value t_ends t_screw]) := hD
        refine lv_iinc (v := v1 + 1) (lv' := [(1, .int (v1 + 1)), (0, .ref t_p)]) hx hb dX6_shoot_118 hl (k := 1) rfl rfl (by decide) rfl (fun ls hl => ?_)
        refine lv_goto (tgt := 88) hx hb dX6_shoot_121 (by decide) ?_
        exact ih (v1 + 1) (upd t_now (Int32.toNatClampNeg ((84 * (t_now (Int32.toNatClampNeg 1008))) + v1)) (t_one (Int32.toNatClampNeg v1))) t_was t_changes t_one t_screw H locs ls hf hP hD hS (lv_sub hl [1, 0] rfl)
  have w_46 : ∀ n : Nat, ∀ (v1 : Int32) (t_now : (Nat → Int32)) (t_was : (Nat → Int32)) (t_changes : Int32) (t_one : (Nat → Int32)) (t_screw : Int32) (H : Heap) (locs : List Loc) (ls : Array Slot), f6_shoot_46  N n v1 t_now t_was t_changes t_one t_screw = some res → va_P g.1 vwCl (fl [wk6 g t_p t_length t_p_text t_text t_cavities t_p_volume t_volume t_p_freeze t_freeze t_cores t_p_earlier t_earlier t_stages t_p_place t_place t_p_now t_now t_p_was t_was t_changes t_p_one t_one t_readCavities t_p_readCavity t_readCavity t_readCores t_p_readCore t_readCore t_readStages t_p_readStage t_readStage t_p_readRule t_readRule t_value t_ends t_screw]) H → va_D A (fl [wk6 g t_p t_length t_p_text t_text t_cavities t_p_volume t_volume t_p_freeze t_freeze t_cores t_p_earlier t_earlier t_stages t_p_place t_place t_p_now t_now t_p_was t_was t_changes t_p_one t_one t_readCavities t_p_readCavity t_readCavity t_readCores t_p_readCore t_readCore t_readStages t_p_readStage t_readStage t_p_readRule t_readRule t_value t_ends t_screw]) → va_S A s.heap H locs → lv_has ls 2 [(0, .ref t_p), (1, .int v1)] → W p l e ({ frames := 3, cells := 0, slots := 0, locals := 78 }) s m ([.ref t_p] : List Value).toArray below meth c H locs 0 0 (MQ below (pQi g (fun r => r = res.1) (fl [wk6 g t_p t_length t_p_text t_text t_cavities t_p_volume t_volume t_p_freeze t_freeze t_cores t_p_earlier t_earlier t_stages t_p_place t_place t_p_now res.2.1 t_p_was res.2.2.1 res.2.2.2.1 t_p_one res.2.2.2.2.1 t_readCavities t_p_readCavity t_readCavity t_readCores t_p_readCore t_readCore t_readStages t_p_readStage t_readStage t_p_readRule t_readRule t_value t_ends res.2.2.2.2.2]) A) ([.ref t_p] : List Value).toArray s 0 0 A) (F0 m 46 ls []) := by
    intro  n
    induction n with
    | zero => intro v1 t_now t_was t_changes t_one t_screw H locs ls hf; exact no_some hf
    | succ n ih =>
      intro v1 t_now t_was t_changes t_one t_screw H locs ls hf hP hD hS hl
      rw [f6_shoot_46] at hf
      refine lv_iload_n hx hb dX6_shoot_46 rfl (lv_at hl 1 rfl) ?_
      refine lv_sipush (v := 924) hx hb dX6_shoot_47 (by decide) ?_
      refine lv_icmp_ge (tgt := 74) hx hb dX6_shoot_50 (by decide) (fun c_10 => ?_) (fun c_10 => ?_)
      · replace hf := (if_pos c_10).symm.trans hf
        refine lv_aload_n hx hb dX6_shoot_74 rfl (lv_at hl 0 rfl) ?_
        refine va_get (D := g.1) (ci := 6) (v := .ref t_p_now) (C := RX6) (T := TX6) (N := 23) hx hb hts hin6 hown hK.1 hP 0 rfl rfl 9 (by decide) L1 (fun _ h9 => h9) rfl dX6_shoot_75 ?_
        refine lv_sipush (v := 1008) hx hb dX6_shoot_78 (by decide) ?_
        refine lv_dup2_11 hx hb dX6_shoot_81 rfl rfl ?_
        obtain ⟨h_11, hf⟩ := if_some hf
        refine va_iald hx hb hK.1 hP 6 0 rfl rfl (ok_in h_11) dX6_shoot_82 ?_
        refine lv_iconst (v := 1) hx hb dX6_shoot_83 (by decide) ?_
        refine lv_isub hx hb dX6_shoot_84 ?_
        obtain ⟨h_12, hf⟩ := if_some hf
        refine va_iast hx hb hK.1 hP hD hS 6 0 rfl rfl (ok_in h_12) dX6_shoot_85 (fun H locs hP hD hS => ?_)
        replace hP : va_P g.1 vwCl (fl [wk6 g t_p t_length t_p_text t_text t_cavities t_p_volume t_volume t_p_freeze t_freeze t_cores t_p_earlier t_earlier t_stages t_p_place t_place t_p_now (upd t_now (Int32.toNatClampNeg 1008) ((t_now (Int32.toNatClampNeg 1008)) - 1)) t_p_was t_was t_changes t_p_one t_one t_readCavities t_p_readCavity t_readCavity t_readCores t_p_readCore t_readCore t_readStages t_p_readStage t_readStage t_p_readRule t_readRule t_value t_ends t_screw]) H := hP
        replace hD : va_D A (fl [wk6 g t_p t_length t_p_text t_text t_cavities t_p_volume t_volume t_p_freeze t_freeze t_cores t_p_earlier t_earlier t_stages t_p_place t_place t_p_now (upd t_now (Int32.toNatClampNeg 1008) ((t_now (Int32.toNatClampNeg 1008)) - 1)) t_p_was t_was t_changes t_p_one t_one t_readCavities t_p_readCavity t_readCavity t_readCores t_p_readCore t_readCore t_readStages t_p_readStage t_readStage t_p_readRule t_readRule t_value t_ends t_screw]) := hD
        refine lv_iconst (v := 0) hx hb dX6_shoot_86 (by decide) ?_
        refine lv_istore_n (lv' := [(1, .int 0), (0, .ref t_p)]) hx hb dX6_shoot_87 rfl hl (by decide) rfl (fun ls hl => ?_)
        exact w_88  N 0 (upd t_now (Int32.toNatClampNeg 1008) ((t_now (Int32.toNatClampNeg 1008)) - 1)) t_was t_changes t_one t_screw H locs ls hf hP hD hS (lv_sub hl [1, 0] rfl)
      · replace hf := (if_neg c_10).symm.trans hf
        refine lv_aload_n hx hb dX6_shoot_53 rfl (lv_at hl 0 rfl) ?_
        refine va_get (D := g.1) (ci := 6) (v := .ref t_p_now) (C := RX6) (T := TX6) (N := 23) hx hb hts hin6 hown hK.1 hP 0 rfl rfl 9 (by decide) L1 (fun _ h9 => h9) rfl dX6_shoot_54 ?_
        refine lv_iload_n hx hb dX6_shoot_57 rfl (lv_at hl 1 rfl) ?_
        refine lv_aload_n hx hb dX6_shoot_58 rfl (lv_at hl 0 rfl) ?_
        refine va_get (D := g.1) (ci := 6) (v := .ref t_p_now) (C := RX6) (T := TX6) (N := 23) hx hb hts hin6 hown hK.1 hP 0 rfl rfl 9 (by decide) L1 (fun _ h9 => h9) rfl dX6_shoot_59 ?_
        refine lv_iload_n hx hb dX6_shoot_62 rfl (lv_at hl 1 rfl) ?_
        refine lv_bipush (v := 84) hx hb dX6_shoot_63 (by decide) ?_
        refine lv_iadd hx hb dX6_shoot_65 ?_
        obtain ⟨h_13, hf⟩ := if_some hf
        refine va_iald hx hb hK.1 hP 6 0 rfl rfl (ok_in h_13) dX6_shoot_66 ?_
        obtain ⟨h_14, hf⟩ := if_some hf
        refine va_iast hx hb hK.1 hP hD hS 6 0 rfl rfl (ok_in h_14) dX6_shoot_67 (fun H locs hP hD hS => ?_)
        replace hP : va_P g.1 vwCl (fl [wk6 g t_p t_length t_p_text t_text t_cavities t_p_volume t_volume t_p_freeze t_freeze t_cores t_p_earlier t_earlier t_stages t_p_place t_place t_p_now (upd t_now (Int32.toNatClampNeg v1) (t_now (Int32.toNatClampNeg (v1 + 84)))) t_p_was t_was t_changes t_p_one t_one t_readCavities t_p_readCavity t_readCavity t_readCores t_p_readCore t_readCore t_readStages t_p_readStage t_readStage t_p_readRule t_readRule t_value t_ends t_screw]) H := hP
        replace hD : va_D A (fl [wk6 g t_p t_length t_p_text t_text t_cavities t_p_volume t_volume t_p_freeze t_freeze t_cores t_p_earlier t_earlier t_stages t_p_place t_place t_p_now (upd t_now (Int32.toNatClampNeg v1) (t_now (Int32.toNatClampNeg (v1 + 84)))) t_p_was t_was t_changes t_p_one t_one t_readCavities t_p_readCavity t_readCavity t_readCores t_p_readCore t_readCore t_readStages t_p_readStage t_readStage t_p_readRule t_readRule t_value t_ends t_screw]) := hD
        refine lv_iinc (v := v1 + 1) (lv' := [(1, .int (v1 + 1)), (0, .ref t_p)]) hx hb dX6_shoot_68 hl (k := 1) rfl rfl (by decide) rfl (fun ls hl => ?_)
        refine lv_goto (tgt := 46) hx hb dX6_shoot_71 (by decide) ?_
        exact ih (v1 + 1) (upd t_now (Int32.toNatClampNeg v1) (t_now (Int32.toNatClampNeg (v1 + 84)))) t_was t_changes t_one t_screw H locs ls hf hP hD hS (lv_sub hl [1, 0] rfl)
  have hl := lv_entry ([.ref t_p]) (n := 2) (Nat.le_of_ble_eq_true rfl)
  rw [lg_entry_eq]
  generalize (lg_sl ([.ref t_p]) ++ List.replicate (2 - (lg_sl ([.ref t_p])).length) Slot.unset).toArray = ls at hl ⊢
  replace hl : lv_has ls 2 [(0, .ref t_p)] := hl
  rw [f6_shoot] at hf
  have hgo : ∀ (H : Heap) (locs : List Loc), H = s.heap → locs = [] → va_P g.1 vwCl (fl [wk6 g t_p t_length t_p_text t_text t_cavities t_p_volume t_volume t_p_freeze t_freeze t_cores t_p_earlier t_earlier t_stages t_p_place t_place t_p_now t_now t_p_was t_was t_changes t_p_one t_one t_readCavities t_p_readCavity t_readCavity t_readCores t_p_readCore t_readCore t_readStages t_p_readStage t_readStage t_p_readRule t_readRule t_value t_ends t_screw]) H → va_S A s.heap H locs → W p l e ({ frames := 3, cells := 0, slots := 0, locals := 78 }) s m ([.ref t_p] : List Value).toArray below meth c H locs 0 0 (MQ below (pQi g (fun r => r = res.1) (fl [wk6 g t_p t_length t_p_text t_text t_cavities t_p_volume t_volume t_p_freeze t_freeze t_cores t_p_earlier t_earlier t_stages t_p_place t_place t_p_now res.2.1 t_p_was res.2.2.1 res.2.2.2.1 t_p_one res.2.2.2.2.1 t_readCavities t_p_readCavity t_readCavity t_readCores t_p_readCore t_readCore t_readStages t_p_readStage t_readStage t_p_readRule t_readRule t_value t_ends res.2.2.2.2.2]) A) ([.ref t_p] : List Value).toArray s 0 0 A) (F0 m 0 ls []) := by
    intro H locs hH hL hP hS
    refine lv_aload_n hx hb dX6_shoot_0 rfl (lv_at hl 0 rfl) ?_
    obtain ⟨q_1, hq_1, hf⟩ := bd_some hf
    refine bft_i (bn := [wk6 g t_p t_length t_p_text t_text t_cavities t_p_volume t_volume t_p_freeze t_freeze t_cores t_p_earlier t_earlier t_stages t_p_place t_place t_p_now t_now t_p_was t_was t_changes t_p_one t_one t_readCavities t_p_readCavity t_readCavity t_readCores t_p_readCore t_readCore t_readStages t_p_readStage t_readStage t_p_readRule t_readRule t_value t_ends t_screw]) (L := [[t_p, t_p_text, t_p_volume, t_p_freeze, t_p_earlier, t_p_place, t_p_now, t_p_was, t_p_one, t_p_readCavity, t_p_readCore, t_p_readStage, t_p_readRule]]) (va_runV (As := []) (rest := []) ⟨hx, hb, hml, hown, hts⟩ (c6_isReady l g t_p t_length t_p_text t_text t_cavities t_p_volume t_volume t_p_freeze t_freeze t_cores t_p_earlier t_earlier t_stages t_p_place t_place t_p_now t_now t_p_was t_was t_changes t_p_one t_one t_readCavities t_p_readCavity t_readCavity t_readCores t_p_readCore t_readCore t_readStages t_p_readStage t_readStage t_p_readRule t_readRule t_value t_ends t_screw H.size N q_1 hq_1) (cwV 0 hts gX6_shoot_X6_isReady rfl rfl rfl ⟨rfl, nh6.1, nh6.2, pd_21⟩ ⟨Nat.le_of_ble_eq_true rfl, Nat.le_of_ble_eq_true rfl⟩) (qPV hK hG hP hD hS hA [0] (by decide) rfl (va_recv hK.1 hP (ci := 6) (q0 := 0) rfl rfl)) rfl rfl hl.1 rfl (lv_room (Nat.le_of_ble_eq_true rfl)) dX6_shoot_1 ⟨Nat.zero_le _, Nat.zero_le _⟩) hP hD hS hA [0] rfl rfl rfl rfl (fun r_2 H locs hw hP hD hS => ?_)
    replace hw := hw.symm
    subst hw
    refine lv_if_eq (tgt := 19) hx hb dX6_shoot_4 (by decide) (fun c_3 => ?_) (fun c_3 => ?_)
    · replace hf := (if_pos c_3).symm.trans hf
      refine lv_bipush (v := (-2)) hx hb dX6_shoot_19 (by decide) ?_
      replace hf := Option.some.inj hf
      subst hf
      exact W.iret (v := (-2)) hx hb hr (fun t ht hW => ⟨⟨_, (), rfl, rfl, by show va_P g.1 vwCl _ t.heap; rw [ht]; exact hP⟩, hS.F ht⟩) hS.2.2 dX6_shoot_21 hlocks
    · replace hf := (if_neg c_3).symm.trans hf
      refine lv_aload_n hx hb dX6_shoot_7 rfl (lv_at hl 0 rfl) ?_
      refine va_get (D := g.1) (ci := 6) (v := .ref t_p_now) (C := RX6) (T := TX6) (N := 23) hx hb hts hin6 hown hK.1 hP 0 rfl rfl 9 (by decide) L1 (fun _ h9 => h9) rfl dX6_shoot_8 ?_
      refine lv_sipush (v := 1012) hx hb dX6_shoot_11 (by decide) ?_
      obtain ⟨h_4, hf⟩ := if_some hf
      refine va_iald hx hb hK.1 hP 6 0 rfl rfl (ok_in h_4) dX6_shoot_14 ?_
      refine lv_iconst (v := 1) hx hb dX6_shoot_15 (by decide) ?_
      refine lv_icmp_ne (tgt := 22) hx hb dX6_shoot_16 (by decide) (fun c_5 => ?_) (fun c_5 => ?_)
      · replace hf := (if_neg c_5).symm.trans hf
        refine lv_aload_n hx hb dX6_shoot_22 rfl (lv_at hl 0 rfl) ?_
        obtain ⟨q_6, hq_6, hf⟩ := bd_some hf
        refine bft_v (bn := [wk6 g t_p t_length t_p_text t_text t_cavities t_p_volume t_volume t_p_freeze t_freeze t_cores t_p_earlier t_earlier t_stages t_p_place t_place t_p_now t_now t_p_was q_6.1 q_6.2 t_p_one t_one t_readCavities t_p_readCavity t_readCavity t_readCores t_p_readCore t_readCore t_readStages t_p_readStage t_readStage t_p_readRule t_readRule t_value t_ends t_screw]) (L := [[t_p, t_p_text, t_p_volume, t_p_freeze, t_p_earlier, t_p_place, t_p_now, t_p_was, t_p_one, t_p_readCavity, t_p_readCore, t_p_readStage, t_p_readRule]]) (va_runV (As := []) (rest := []) ⟨hx, hb, hml, hown, hts⟩ (c6_keeps l g t_p t_length t_p_text t_text t_cavities t_p_volume t_volume t_p_freeze t_freeze t_cores t_p_earlier t_earlier t_stages t_p_place t_place t_p_now t_now t_p_was t_was t_changes t_p_one t_one t_readCavities t_p_readCavity t_readCavity t_readCores t_p_readCore t_readCore t_readStages t_p_readStage t_readStage t_p_readRule t_readRule t_value t_ends t_screw H.size N q_6 hq_6) (cwV 0 hts gX6_shoot_X6_keeps rfl rfl rfl ⟨rfl, nh6.1, nh6.2, pd_9⟩ ⟨Nat.le_of_ble_eq_true rfl, Nat.le_of_ble_eq_true rfl⟩) (qPV hK hG hP hD hS hA [0] (by decide) rfl (va_recv hK.1 hP (ci := 6) (q0 := 0) rfl rfl)) rfl rfl hl.1 rfl (lv_room (Nat.le_of_ble_eq_true rfl)) dX6_shoot_23 ⟨Nat.zero_le _, Nat.zero_le _⟩) hP hD hS hA [0] rfl rfl rfl rfl (fun H locs hP hD hS => ?_)
        refine lv_aload_n hx hb dX6_shoot_26 rfl (lv_at hl 0 rfl) ?_
        refine lv_iconst (v := 0) hx hb dX6_shoot_27 (by decide) ?_
        obtain ⟨q_7, hq_7, hf⟩ := bd_some hf
        refine bft_v (bn := [wk6 g t_p t_length t_p_text t_text t_cavities t_p_volume t_volume t_p_freeze t_freeze t_cores t_p_earlier t_earlier t_stages t_p_place t_place t_p_now t_now t_p_was q_6.1 q_6.2 t_p_one q_7.1 t_readCavities t_p_readCavity t_readCavity t_readCores t_p_readCore t_readCore t_readStages t_p_readStage t_readStage t_p_readRule t_readRule t_value t_ends q_7.2]) (L := [[t_p, t_p_text, t_p_volume, t_p_freeze, t_p_earlier, t_p_place, t_p_now, t_p_was, t_p_one, t_p_readCavity, t_p_readCore, t_p_readStage, t_p_readRule]]) (va_runV (As := [.int 0]) (rest := []) ⟨hx, hb, hml, hown, hts⟩ (c6_tries l g t_p t_length t_p_text t_text t_cavities t_p_volume t_volume t_p_freeze t_freeze t_cores t_p_earlier t_earlier t_stages t_p_place t_place t_p_now t_now t_p_was q_6.1 q_6.2 t_p_one t_one t_readCavities t_p_readCavity t_readCavity t_readCores t_p_readCore t_readCore t_readStages t_p_readStage t_readStage t_p_readRule t_readRule t_value t_ends t_screw 0 H.size N q_7 hq_7) (cwV 1 hts gX6_shoot_X6_tries rfl rfl rfl ⟨rfl, nh6.1, nh6.2, pd_30⟩ ⟨Nat.le_of_ble_eq_true rfl, Nat.le_of_ble_eq_true rfl⟩) (qPV hK hG hP hD hS hA [0] (by decide) rfl (va_recv hK.1 hP (ci := 6) (q0 := 0) rfl rfl)) rfl rfl hl.1 rfl (lv_room (Nat.le_of_ble_eq_true rfl)) dX6_shoot_28 ⟨Nat.zero_le _, Nat.zero_le _⟩) hP hD hS hA [0] rfl rfl rfl rfl (fun H locs hP hD hS => ?_)
        refine lv_aload_n hx hb dX6_shoot_31 rfl (lv_at hl 0 rfl) ?_
        refine va_get (D := g.1) (ci := 6) (v := .ref t_p_now) (C := RX6) (T := TX6) (N := 23) hx hb hts hin6 hown hK.1 hP 0 rfl rfl 9 (by decide) L1 (fun _ h9 => h9) rfl dX6_shoot_32 ?_
        refine lv_sipush (v := 1008) hx hb dX6_shoot_35 (by decide) ?_
        obtain ⟨h_8, hf⟩ := if_some hf
        refine va_iald hx hb hK.1 hP 6 0 rfl rfl (ok_in h_8) dX6_shoot_38 ?_
        refine lv_bipush (v := 12) hx hb dX6_shoot_39 (by decide) ?_
        refine lv_icmp_ne (tgt := 86) hx hb dX6_shoot_41 (by decide) (fun c_9 => ?_) (fun c_9 => ?_)
        · replace hf := (if_neg c_9).symm.trans hf
          refine lv_iconst (v := 0) hx hb dX6_shoot_86 (by decide) ?_
          refine lv_istore_n (lv' := [(1, .int 0), (0, .ref t_p)]) hx hb dX6_shoot_87 rfl hl (by decide) rfl (fun ls hl => ?_)
          exact w_88  N 0 t_now q_6.1 q_6.2 q_7.1 q_7.2 H locs ls hf hP hD hS (lv_sub hl [1, 0] rfl)
        · replace hf := (if_pos c_9).symm.trans hf
          refine lv_iconst (v := 0) hx hb dX6_shoot_44 (by decide) ?_
          refine lv_istore_n (lv' := [(1, .int 0), (0, .ref t_p)]) hx hb dX6_shoot_45 rfl hl (by decide) rfl (fun ls hl => ?_)
          exact w_46  N 0 t_now q_6.1 q_6.2 q_7.1 q_7.2 H locs ls hf hP hD hS (lv_sub hl [1, 0] rfl)
      · replace hf := (if_pos c_5).symm.trans hf
        refine lv_bipush (v := (-2)) hx hb dX6_shoot_19 (by decide) ?_
        replace hf := Option.some.inj hf
        subst hf
        exact W.iret (v := (-2)) hx hb hr (fun t ht hW => ⟨⟨_, (), rfl, rfl, by show va_P g.1 vwCl _ t.heap; rw [ht]; exact hP⟩, hS.F ht⟩) hS.2.2 dX6_shoot_21 hlocks
  exact hgo s.heap [] rfl rfl hP hS

set_option maxHeartbeats 4000000 in
set_option maxRecDepth 100000 in
theorem c6_waitCool (l : Launch) (g : gG) (t_p : Nat) (t_length : Int32) (t_p_text : Nat) (t_text : (Nat → Int32)) (t_cavities : Int32) (t_p_volume : Nat) (t_volume : (Nat → Int32)) (t_p_freeze : Nat) (t_freeze : (Nat → Int32)) (t_cores : Int32) (t_p_earlier : Nat) (t_earlier : (Nat → Int32)) (t_stages : Int32) (t_p_place : Nat) (t_place : (Nat → Int32)) (t_p_now : Nat) (t_now : (Nat → Int32)) (t_p_was : Nat) (t_was : (Nat → Int32)) (t_changes : Int32) (t_p_one : Nat) (t_one : (Nat → Int32)) (t_readCavities : Int32) (t_p_readCavity : Nat) (t_readCavity : (Nat → Int32)) (t_readCores : Int32) (t_p_readCore : Nat) (t_readCore : (Nat → Int32)) (t_readStages : Int32) (t_p_readStage : Nat) (t_readStage : (Nat → Int32)) (t_p_readRule : Nat) (t_readRule : (Nat → Int32)) (t_value : Int32) (t_ends : Int32) (t_screw : Int32) (sz : Nat) (N : Nat) (res : (Int32 × (Nat → Int32) × (Nat → Int32) × Int32)) (hf : f6_waitCool N t_now t_was t_changes = some res) : Met l yX6_waitCool wsX6_waitCool ({ frames := 1, cells := 0, slots := 0, locals := 21 }) (pP g [.ref t_p] sz (fl [wk6 g t_p t_length t_p_text t_text t_cavities t_p_volume t_volume t_p_freeze t_freeze t_cores t_p_earlier t_earlier t_stages t_p_place t_place t_p_now t_now t_p_was t_was t_changes t_p_one t_one t_readCavities t_p_readCavity t_readCavity t_readCores t_p_readCore t_readCore t_readStages t_p_readStage t_readStage t_p_readRule t_readRule t_value t_ends t_screw])) (pQi g (fun r => r = res.1) (fl [wk6 g t_p t_length t_p_text t_text t_cavities t_p_volume t_volume t_p_freeze t_freeze t_cores t_p_earlier t_earlier t_stages t_p_place t_place t_p_now res.2.1 t_p_was res.2.2.1 res.2.2.2 t_p_one t_one t_readCavities t_p_readCavity t_readCavity t_readCores t_p_readCore t_readCore t_readStages t_p_readStage t_readStage t_p_readRule t_readRule t_value t_ends t_screw]) (va_A (fl [wk6 g t_p t_length t_p_text t_text t_cavities t_p_volume t_volume t_p_freeze t_freeze t_cores t_p_earlier t_earlier t_stages t_p_place t_place t_p_now t_now t_p_was t_was t_changes t_p_one t_one t_readCavities t_p_readCavity t_readCavity t_readCores t_p_readCore t_readCore t_readStages t_p_readStage t_readStage t_p_readRule t_readRule t_value t_ends t_screw]) sz)) 0 0 (va_A (fl [wk6 g t_p t_length t_p_text t_text t_cavities t_p_volume t_volume t_p_freeze t_freeze t_cores t_p_earlier t_earlier t_stages t_p_place t_place t_p_now t_now t_p_was t_was t_changes t_p_one t_one t_readCavities t_p_readCavity t_readCavity t_readCores t_p_readCore t_readCore t_readStages t_p_readStage t_readStage t_p_readRule t_readRule t_value t_ends t_screw]) sz) := by
  refine Met.ofW (cc := cX6_waitCool) (maxL := 1) (ret := (some .int)) (by decide) rfl ?_
  intro p e s m args below meth c s₁ B hml hv
  obtain ⟨rfl, hsz, hP, hK, hD0, hG⟩ := hv
  have hx := B.exec
  have hb := B.bytes
  have hr := B.returns
  have hts := atoms_spec (ws := wsX6_waitCool) B.pre
  have hown : s.vm.findClass RX6 = some m.cls := findClass_of_methodNamed B.named
  have hlocks := B.notSynchronized
  subst hsz
  have hD := hD0.self (sz := s.heap.size)
  generalize hAe : va_A (fl [wk6 g t_p t_length t_p_text t_text t_cavities t_p_volume t_volume t_p_freeze t_freeze t_cores t_p_earlier t_earlier t_stages t_p_place t_place t_p_now t_now t_p_was t_was t_changes t_p_one t_one t_readCavities t_p_readCavity t_readCavity t_readCores t_p_readCore t_readCore t_readStages t_p_readStage t_readStage t_p_readRule t_readRule t_value t_ends t_screw]) s.heap.size = A at hD hG ⊢
  have hA : ∀ q : Nat, s.heap.size ≤ q → A q := fun q h => by rw [← hAe]; exact Or.inr h
  have hS : va_S A s.heap s.heap [] := va_S.rf
  have hin6 : ∀ w ∈ u_ws RX6 TX6 23, w ∈ wsX6_waitCool := by decide +kernel
  have L1 := hts (Cond.fieldLink RX6 25 "MouldShotsModel" "now" "[I") (by decide +kernel)
  have hl := lv_entry ([.ref t_p]) (n := 1) (Nat.le_of_ble_eq_true rfl)
  rw [lg_entry_eq]
  generalize (lg_sl ([.ref t_p]) ++ List.replicate (1 - (lg_sl ([.ref t_p])).length) Slot.unset).toArray = ls at hl ⊢
  replace hl : lv_has ls 1 [(0, .ref t_p)] := hl
  rw [f6_waitCool] at hf
  have hgo : ∀ (H : Heap) (locs : List Loc), H = s.heap → locs = [] → va_P g.1 vwCl (fl [wk6 g t_p t_length t_p_text t_text t_cavities t_p_volume t_volume t_p_freeze t_freeze t_cores t_p_earlier t_earlier t_stages t_p_place t_place t_p_now t_now t_p_was t_was t_changes t_p_one t_one t_readCavities t_p_readCavity t_readCavity t_readCores t_p_readCore t_readCore t_readStages t_p_readStage t_readStage t_p_readRule t_readRule t_value t_ends t_screw]) H → va_S A s.heap H locs → W p l e ({ frames := 1, cells := 0, slots := 0, locals := 21 }) s m ([.ref t_p] : List Value).toArray below meth c H locs 0 0 (MQ below (pQi g (fun r => r = res.1) (fl [wk6 g t_p t_length t_p_text t_text t_cavities t_p_volume t_volume t_p_freeze t_freeze t_cores t_p_earlier t_earlier t_stages t_p_place t_place t_p_now res.2.1 t_p_was res.2.2.1 res.2.2.2 t_p_one t_one t_readCavities t_p_readCavity t_readCavity t_readCores t_p_readCore t_readCore t_readStages t_p_readStage t_readStage t_p_readRule t_readRule t_value t_ends t_screw]) A) ([.ref t_p] : List Value).toArray s 0 0 A) (F0 m 0 ls []) := by
    intro H locs hH hL hP hS
    refine lv_aload_n hx hb dX6_waitCool_0 rfl (lv_at hl 0 rfl) ?_
    refine va_get (D := g.1) (ci := 6) (v := .ref t_p_now) (C := RX6) (T := TX6) (N := 23) hx hb hts hin6 hown hK.1 hP 0 rfl rfl 9 (by decide) L1 (fun _ h9 => h9) rfl dX6_waitCool_1 ?_
    refine lv_sipush (v := 1013) hx hb dX6_waitCool_4 (by decide) ?_
    obtain ⟨h_1, hf⟩ := if_some hf
    refine va_iald hx hb hK.1 hP 6 0 rfl rfl (ok_in h_1) dX6_waitCool_7 ?_
    refine lv_if_ne (tgt := 14) hx hb dX6_waitCool_8 (by decide) (fun c_2 => ?_) (fun c_2 => ?_)
    · replace hf := (if_neg c_2).symm.trans hf
      refine lv_aload_n hx hb dX6_waitCool_14 rfl (lv_at hl 0 rfl) ?_
      obtain ⟨q_3, hq_3, hf⟩ := bd_some hf
      refine bft_v (bn := [wk6 g t_p t_length t_p_text t_text t_cavities t_p_volume t_volume t_p_freeze t_freeze t_cores t_p_earlier t_earlier t_stages t_p_place t_place t_p_now t_now t_p_was q_3.1 q_3.2 t_p_one t_one t_readCavities t_p_readCavity t_readCavity t_readCores t_p_readCore t_readCore t_readStages t_p_readStage t_readStage t_p_readRule t_readRule t_value t_ends t_screw]) (L := [[t_p, t_p_text, t_p_volume, t_p_freeze, t_p_earlier, t_p_place, t_p_now, t_p_was, t_p_one, t_p_readCavity, t_p_readCore, t_p_readStage, t_p_readRule]]) (va_runV (As := []) (rest := []) ⟨hx, hb, hml, hown, hts⟩ (c6_keeps l g t_p t_length t_p_text t_text t_cavities t_p_volume t_volume t_p_freeze t_freeze t_cores t_p_earlier t_earlier t_stages t_p_place t_place t_p_now t_now t_p_was t_was t_changes t_p_one t_one t_readCavities t_p_readCavity t_readCavity t_readCores t_p_readCore t_readCore t_readStages t_p_readStage t_readStage t_p_readRule t_readRule t_value t_ends t_screw H.size N q_3 hq_3) (cwV 0 hts gX6_waitCool_X6_keeps rfl rfl rfl ⟨rfl, nh6.1, nh6.2, pd_9⟩ ⟨Nat.le_of_ble_eq_true rfl, Nat.le_of_ble_eq_true rfl⟩) (qPV hK hG hP hD hS hA [0] (by decide) rfl (va_recv hK.1 hP (ci := 6) (q0 := 0) rfl rfl)) rfl rfl hl.1 rfl (lv_room (Nat.le_of_ble_eq_true rfl)) dX6_waitCool_15 ⟨Nat.zero_le _, Nat.zero_le _⟩) hP hD hS hA [0] rfl rfl rfl rfl (fun H locs hP hD hS => ?_)
      refine lv_aload_n hx hb dX6_waitCool_18 rfl (lv_at hl 0 rfl) ?_
      refine va_get (D := g.1) (ci := 6) (v := .ref t_p_now) (C := RX6) (T := TX6) (N := 23) hx hb hts hin6 hown hK.1 hP 0 rfl rfl 9 (by decide) L1 (fun _ h9 => h9) rfl dX6_waitCool_19 ?_
      refine lv_sipush (v := 1013) hx hb dX6_waitCool_22 (by decide) ?_
      refine lv_iconst (v := 0) hx hb dX6_waitCool_25 (by decide) ?_
      obtain ⟨h_4, hf⟩ := if_some hf
      refine va_iast hx hb hK.1 hP hD hS 6 0 rfl rfl (ok_in h_4) dX6_waitCool_26 (fun H locs hP hD hS => ?_)
      replace hP : va_P g.1 vwCl (fl [wk6 g t_p t_length t_p_text t_text t_cavities t_p_volume t_volume t_p_freeze t_freeze t_cores t_p_earlier t_earlier t_stages t_p_place t_place t_p_now (upd t_now (Int32.toNatClampNeg 1013) 0) t_p_was q_3.1 q_3.2 t_p_one t_one t_readCavities t_p_readCavity t_readCavity t_readCores t_p_readCore t_readCore t_readStages t_p_readStage t_readStage t_p_readRule t_readRule t_value t_ends t_screw]) H := hP
      replace hD : va_D A (fl [wk6 g t_p t_length t_p_text t_text t_cavities t_p_volume t_volume t_p_freeze t_freeze t_cores t_p_earlier t_earlier t_stages t_p_place t_place t_p_now (upd t_now (Int32.toNatClampNeg 1013) 0) t_p_was q_3.1 q_3.2 t_p_one t_one t_readCavities t_p_readCavity t_readCavity t_readCores t_p_readCore t_readCore t_readStages t_p_readStage t_readStage t_p_readRule t_readRule t_value t_ends t_screw]) := hD
      refine lv_aload_n hx hb dX6_waitCool_27 rfl (lv_at hl 0 rfl) ?_
      refine va_get (D := g.1) (ci := 6) (v := .ref t_p_now) (C := RX6) (T := TX6) (N := 23) hx hb hts hin6 hown hK.1 hP 0 rfl rfl 9 (by decide) L1 (fun _ h9 => h9) rfl dX6_waitCool_28 ?_
      refine lv_sipush (v := 1014) hx hb dX6_waitCool_31 (by decide) ?_
      obtain ⟨h_5, hf⟩ := if_some hf
      refine va_iald hx hb hK.1 hP 6 0 rfl rfl (ok_in h_5) dX6_waitCool_34 ?_
      replace hf := Option.some.inj hf
      subst hf
      exact W.iret (v := (upd t_now (Int32.toNatClampNeg 1013) 0) (Int32.toNatClampNeg 1014)) hx hb hr (fun t ht hW => ⟨⟨_, (), rfl, rfl, by show va_P g.1 vwCl _ t.heap; rw [ht]; exact hP⟩, hS.F ht⟩) hS.2.2 dX6_waitCool_35 hlocks
    · replace hf := (if_pos c_2).symm.trans hf
      refine lv_bipush (v := (-2)) hx hb dX6_waitCool_11 (by decide) ?_
      replace hf := Option.some.inj hf
      subst hf
      exact W.iret (v := (-2)) hx hb hr (fun t ht hW => ⟨⟨_, (), rfl, rfl, by show va_P g.1 vwCl _ t.heap; rw [ht]; exact hP⟩, hS.F ht⟩) hS.2.2 dX6_waitCool_13 hlocks
  exact hgo s.heap [] rfl rfl hP hS

set_option maxHeartbeats 4000000 in
set_option maxRecDepth 100000 in
theorem c6_shortBy (l : Launch) (g : gG) (t_p : Nat) (t_length : Int32) (t_p_text : Nat) (t_text : (Nat → Int32)) (t_cavities : Int32) (t_p_volume : Nat) (t_volume : (Nat → Int32)) (t_p_freeze : Nat) (t_freeze : (Nat → Int32)) (t_cores : Int32) (t_p_earlier : Nat) (t_earlier : (Nat → Int32)) (t_stages : Int32) (t_p_place : Nat) (t_place : (Nat → Int32)) (t_p_now : Nat) (t_now : (Nat → Int32)) (t_p_was : Nat) (t_was : (Nat → Int32)) (t_changes : Int32) (t_p_one : Nat) (t_one : (Nat → Int32)) (t_readCavities : Int32) (t_p_readCavity : Nat) (t_readCavity : (Nat → Int32)) (t_readCores : Int32) (t_p_readCore : Nat) (t_readCore : (Nat → Int32)) (t_readStages : Int32) (t_p_readStage : Nat) (t_readStage : (Nat → Int32)) (t_p_readRule : Nat) (t_readRule : (Nat → Int32)) (t_value : Int32) (t_ends : Int32) (t_screw : Int32) (l1 : Int32) (l2 : Int32) (sz : Nat) (N : Nat) (res : (Int32)) (hf : f6_shortBy N l1 l2 t_volume t_now = some res) : Met l yX6_shortBy wsX6_shortBy ({ frames := 0, cells := 0, slots := 0, locals := 0 }) (pP g [.ref t_p, .int l1, .int l2] sz (fl [wk6 g t_p t_length t_p_text t_text t_cavities t_p_volume t_volume t_p_freeze t_freeze t_cores t_p_earlier t_earlier t_stages t_p_place t_place t_p_now t_now t_p_was t_was t_changes t_p_one t_one t_readCavities t_p_readCavity t_readCavity t_readCores t_p_readCore t_readCore t_readStages t_p_readStage t_readStage t_p_readRule t_readRule t_value t_ends t_screw])) (pQi g (fun r => r = res) (fl [wk6 g t_p t_length t_p_text t_text t_cavities t_p_volume t_volume t_p_freeze t_freeze t_cores t_p_earlier t_earlier t_stages t_p_place t_place t_p_now t_now t_p_was t_was t_changes t_p_one t_one t_readCavities t_p_readCavity t_readCavity t_readCores t_p_readCore t_readCore t_readStages t_p_readStage t_readStage t_p_readRule t_readRule t_value t_ends t_screw]) (va_A (fl [wk6 g t_p t_length t_p_text t_text t_cavities t_p_volume t_volume t_p_freeze t_freeze t_cores t_p_earlier t_earlier t_stages t_p_place t_place t_p_now t_now t_p_was t_was t_changes t_p_one t_one t_readCavities t_p_readCavity t_readCavity t_readCores t_p_readCore t_readCore t_readStages t_p_readStage t_readStage t_p_readRule t_readRule t_value t_ends t_screw]) sz)) 0 0 (va_A (fl [wk6 g t_p t_length t_p_text t_text t_cavities t_p_volume t_volume t_p_freeze t_freeze t_cores t_p_earlier t_earlier t_stages t_p_place t_place t_p_now t_now t_p_was t_was t_changes t_p_one t_one t_readCavities t_p_readCavity t_readCavity t_readCores t_p_readCore t_readCore t_readStages t_p_readStage t_readStage t_p_readRule t_readRule t_value t_ends t_screw]) sz) := by
  refine Met.ofW (cc := cX6_shortBy) (maxL := 4) (ret := (some .int)) (by decide) rfl ?_
  intro p e s m args below meth c s₁ B hml hv
  obtain ⟨rfl, hsz, hP, hK, hD0, hG⟩ := hv
  have hx := B.exec
  have hb := B.bytes
  have hr := B.returns
  have hts := atoms_spec (ws := wsX6_shortBy) B.pre
  have hown : s.vm.findClass RX6 = some m.cls := findClass_of_methodNamed B.named
  have hlocks := B.notSynchronized
  subst hsz
  have hD := hD0.self (sz := s.heap.size)
  generalize hAe : va_A (fl [wk6 g t_p t_length t_p_text t_text t_cavities t_p_volume t_volume t_p_freeze t_freeze t_cores t_p_earlier t_earlier t_stages t_p_place t_place t_p_now t_now t_p_was t_was t_changes t_p_one t_one t_readCavities t_p_readCavity t_readCavity t_readCores t_p_readCore t_readCore t_readStages t_p_readStage t_readStage t_p_readRule t_readRule t_value t_ends t_screw]) s.heap.size = A at hD hG ⊢
  have hA : ∀ q : Nat, s.heap.size ≤ q → A q := fun q h => by rw [← hAe]; exact Or.inr h
  have hS : va_S A s.heap s.heap [] := va_S.rf
  have hin6 : ∀ w ∈ u_ws RX6 TX6 23, w ∈ wsX6_shortBy := by decide +kernel
  have L1 := hts (Cond.fieldLink RX6 13 "MouldShotsModel" "volume" "[I") (by decide +kernel)
  have L2 := hts (Cond.fieldLink RX6 25 "MouldShotsModel" "now" "[I") (by decide +kernel)
  have hl := lv_entry ([.ref t_p, .int l1, .int l2]) (n := 4) (Nat.le_of_ble_eq_true rfl)
  rw [lg_entry_eq]
  generalize (lg_sl ([.ref t_p, .int l1, .int l2]) ++ List.replicate (4 - (lg_sl ([.ref t_p, .int l1, .int l2])).length) Slot.unset).toArray = ls at hl ⊢
  replace hl : lv_has ls 4 [(0, .ref t_p), (1, .int l1), (2, .int l2)] := hl
  rw [f6_shortBy] at hf
  have hgo : ∀ (H : Heap) (locs : List Loc), H = s.heap → locs = [] → va_P g.1 vwCl (fl [wk6 g t_p t_length t_p_text t_text t_cavities t_p_volume t_volume t_p_freeze t_freeze t_cores t_p_earlier t_earlier t_stages t_p_place t_place t_p_now t_now t_p_was t_was t_changes t_p_one t_one t_readCavities t_p_readCavity t_readCavity t_readCores t_p_readCore t_readCore t_readStages t_p_readStage t_readStage t_p_readRule t_readRule t_value t_ends t_screw]) H → va_S A s.heap H locs → W p l e ({ frames := 0, cells := 0, slots := 0, locals := 0 }) s m ([.ref t_p, .int l1, .int l2] : List Value).toArray below meth c H locs 0 0 (MQ below (pQi g (fun r => r = res) (fl [wk6 g t_p t_length t_p_text t_text t_cavities t_p_volume t_volume t_p_freeze t_freeze t_cores t_p_earlier t_earlier t_stages t_p_place t_place t_p_now t_now t_p_was t_was t_changes t_p_one t_one t_readCavities t_p_readCavity t_readCavity t_readCores t_p_readCore t_readCore t_readStages t_p_readStage t_readStage t_p_readRule t_readRule t_value t_ends t_screw]) A) ([.ref t_p, .int l1, .int l2] : List Value).toArray s 0 0 A) (F0 m 0 ls []) := by
    intro H locs hH hL hP hS
    refine lv_aload_n hx hb dX6_shortBy_0 rfl (lv_at hl 0 rfl) ?_
    refine va_get (D := g.1) (ci := 6) (v := .ref t_p_volume) (C := RX6) (T := TX6) (N := 23) hx hb hts hin6 hown hK.1 hP 0 rfl rfl 3 (by decide) L1 (fun _ h9 => h9) rfl dX6_shortBy_1 ?_
    refine lv_iload_n hx hb dX6_shortBy_4 rfl (lv_at hl 2 rfl) ?_
    obtain ⟨h_1, hf⟩ := if_some hf
    refine va_iald hx hb hK.1 hP 2 0 rfl rfl (ok_in h_1) dX6_shortBy_5 ?_
    refine lv_aload_n hx hb dX6_shortBy_6 rfl (lv_at hl 0 rfl) ?_
    refine va_get (D := g.1) (ci := 6) (v := .ref t_p_now) (C := RX6) (T := TX6) (N := 23) hx hb hts hin6 hown hK.1 hP 0 rfl rfl 9 (by decide) L2 (fun _ h9 => h9) rfl dX6_shortBy_7 ?_
    refine lv_bipush (v := 84) hx hb dX6_shortBy_10 (by decide) ?_
    refine lv_iload_n hx hb dX6_shortBy_12 rfl (lv_at hl 1 rfl) ?_
    refine lv_imul hx hb dX6_shortBy_13 ?_
    refine lv_bipush (v := 66) hx hb dX6_shortBy_14 (by decide) ?_
    refine lv_iadd hx hb dX6_shortBy_16 ?_
    refine lv_iload_n hx hb dX6_shortBy_17 rfl (lv_at hl 2 rfl) ?_
    refine lv_iadd hx hb dX6_shortBy_18 ?_
    obtain ⟨h_2, hf⟩ := if_some hf
    refine va_iald hx hb hK.1 hP 6 0 rfl rfl (ok_in h_2) dX6_shortBy_19 ?_
    refine lv_isub hx hb dX6_shortBy_20 ?_
    refine lv_istore_n (lv' := [(3, .int ((t_volume (Int32.toNatClampNeg l2)) - (t_now (Int32.toNatClampNeg (((84 * l1) + 66) + l2))))), (0, .ref t_p), (1, .int l1), (2, .int l2)]) hx hb dX6_shortBy_21 rfl hl (by decide) rfl (fun ls hl => ?_)
    refine lv_iload_n hx hb dX6_shortBy_22 rfl (lv_at hl 0 rfl) ?_
    refine lv_if_le (tgt := 30) hx hb dX6_shortBy_23 (by decide) (fun c_3 => ?_) (fun c_3 => ?_)
    · replace hf := (if_pos c_3).symm.trans hf
      refine lv_iconst (v := 0) hx hb dX6_shortBy_30 (by decide) ?_
      replace hf := Option.some.inj hf
      subst hf
      exact W.iret (v := 0) hx hb hr (fun t ht hW => ⟨⟨_, (), rfl, rfl, by show va_P g.1 vwCl _ t.heap; rw [ht]; exact hP⟩, hS.F ht⟩) hS.2.2 dX6_shortBy_31 hlocks
    · replace hf := (if_neg c_3).symm.trans hf
      refine lv_iload_n hx hb dX6_shortBy_26 rfl (lv_at hl 0 rfl) ?_
      refine lv_goto (tgt := 31) hx hb dX6_shortBy_27 (by decide) ?_
      replace hf := Option.some.inj hf
      subst hf
      exact W.iret (v := (t_volume (Int32.toNatClampNeg l2)) - (t_now (Int32.toNatClampNeg (((84 * l1) + 66) + l2)))) hx hb hr (fun t ht hW => ⟨⟨_, (), rfl, rfl, by show va_P g.1 vwCl _ t.heap; rw [ht]; exact hP⟩, hS.F ht⟩) hS.2.2 dX6_shortBy_31 hlocks
  exact hgo s.heap [] rfl rfl hP hS

set_option maxHeartbeats 4000000 in
set_option maxRecDepth 100000 in
theorem c6_overBy (l : Launch) (g : gG) (t_p : Nat) (t_length : Int32) (t_p_text : Nat) (t_text : (Nat → Int32)) (t_cavities : Int32) (t_p_volume : Nat) (t_volume : (Nat → Int32)) (t_p_freeze : Nat) (t_freeze : (Nat → Int32)) (t_cores : Int32) (t_p_earlier : Nat) (t_earlier : (Nat → Int32)) (t_stages : Int32) (t_p_place : Nat) (t_place : (Nat → Int32)) (t_p_now : Nat) (t_now : (Nat → Int32)) (t_p_was : Nat) (t_was : (Nat → Int32)) (t_changes : Int32) (t_p_one : Nat) (t_one : (Nat → Int32)) (t_readCavities : Int32) (t_p_readCavity : Nat) (t_readCavity : (Nat → Int32)) (t_readCores : Int32) (t_p_readCore : Nat) (t_readCore : (Nat → Int32)) (t_readStages : Int32) (t_p_readStage : Nat) (t_readStage : (Nat → Int32)) (t_p_readRule : Nat) (t_readRule : (Nat → Int32)) (t_value : Int32) (t_ends : Int32) (t_screw : Int32) (l1 : Int32) (l2 : Int32) (sz : Nat) (N : Nat) (res : (Int32)) (hf : f6_overBy N l1 l2 t_volume t_now = some res) : Met l yX6_overBy wsX6_overBy ({ frames := 0, cells := 0, slots := 0, locals := 0 }) (pP g [.ref t_p, .int l1, .int l2] sz (fl [wk6 g t_p t_length t_p_text t_text t_cavities t_p_volume t_volume t_p_freeze t_freeze t_cores t_p_earlier t_earlier t_stages t_p_place t_place t_p_now t_now t_p_was t_was t_changes t_p_one t_one t_readCavities t_p_readCavity t_readCavity t_readCores t_p_readCore t_readCore t_readStages t_p_readStage t_readStage t_p_readRule t_readRule t_value t_ends t_screw])) (pQi g (fun r => r = res) (fl [wk6 g t_p t_length t_p_text t_text t_cavities t_p_volume t_volume t_p_freeze t_freeze t_cores t_p_earlier t_earlier t_stages t_p_place t_place t_p_now t_now t_p_was t_was t_changes t_p_one t_one t_readCavities t_p_readCavity t_readCavity t_readCores t_p_readCore t_readCore t_readStages t_p_readStage t_readStage t_p_readRule t_readRule t_value t_ends t_screw]) (va_A (fl [wk6 g t_p t_length t_p_text t_text t_cavities t_p_volume t_volume t_p_freeze t_freeze t_cores t_p_earlier t_earlier t_stages t_p_place t_place t_p_now t_now t_p_was t_was t_changes t_p_one t_one t_readCavities t_p_readCavity t_readCavity t_readCores t_p_readCore t_readCore t_readStages t_p_readStage t_readStage t_p_readRule t_readRule t_value t_ends t_screw]) sz)) 0 0 (va_A (fl [wk6 g t_p t_length t_p_text t_text t_cavities t_p_volume t_volume t_p_freeze t_freeze t_cores t_p_earlier t_earlier t_stages t_p_place t_place t_p_now t_now t_p_was t_was t_changes t_p_one t_one t_readCavities t_p_readCavity t_readCavity t_readCores t_p_readCore t_readCore t_readStages t_p_readStage t_readStage t_p_readRule t_readRule t_value t_ends t_screw]) sz) := by
  refine Met.ofW (cc := cX6_overBy) (maxL := 4) (ret := (some .int)) (by decide) rfl ?_
  intro p e s m args below meth c s₁ B hml hv
  obtain ⟨rfl, hsz, hP, hK, hD0, hG⟩ := hv
  have hx := B.exec
  have hb := B.bytes
  have hr := B.returns
  have hts := atoms_spec (ws := wsX6_overBy) B.pre
  have hown : s.vm.findClass RX6 = some m.cls := findClass_of_methodNamed B.named
  have hlocks := B.notSynchronized
  subst hsz
  have hD := hD0.self (sz := s.heap.size)
  generalize hAe : va_A (fl [wk6 g t_p t_length t_p_text t_text t_cavities t_p_volume t_volume t_p_freeze t_freeze t_cores t_p_earlier t_earlier t_stages t_p_place t_place t_p_now t_now t_p_was t_was t_changes t_p_one t_one t_readCavities t_p_readCavity t_readCavity t_readCores t_p_readCore t_readCore t_readStages t_p_readStage t_readStage t_p_readRule t_readRule t_value t_ends t_screw]) s.heap.size = A at hD hG ⊢
  have hA : ∀ q : Nat, s.heap.size ≤ q → A q := fun q h => by rw [← hAe]; exact Or.inr h
  have hS : va_S A s.heap s.heap [] := va_S.rf
  have hin6 : ∀ w ∈ u_ws RX6 TX6 23, w ∈ wsX6_overBy := by decide +kernel
  have L1 := hts (Cond.fieldLink RX6 25 "MouldShotsModel" "now" "[I") (by decide +kernel)
  have L2 := hts (Cond.fieldLink RX6 13 "MouldShotsModel" "volume" "[I") (by decide +kernel)
  have hl := lv_entry ([.ref t_p, .int l1, .int l2]) (n := 4) (Nat.le_of_ble_eq_true rfl)
  rw [lg_entry_eq]
  generalize (lg_sl ([.ref t_p, .int l1, .int l2]) ++ List.replicate (4 - (lg_sl ([.ref t_p, .int l1, .int l2])).length) Slot.unset).toArray = ls at hl ⊢
  replace hl : lv_has ls 4 [(0, .ref t_p), (1, .int l1), (2, .int l2)] := hl
  rw [f6_overBy] at hf
  have hgo : ∀ (H : Heap) (locs : List Loc), H = s.heap → locs = [] → va_P g.1 vwCl (fl [wk6 g t_p t_length t_p_text t_text t_cavities t_p_volume t_volume t_p_freeze t_freeze t_cores t_p_earlier t_earlier t_stages t_p_place t_place t_p_now t_now t_p_was t_was t_changes t_p_one t_one t_readCavities t_p_readCavity t_readCavity t_readCores t_p_readCore t_readCore t_readStages t_p_readStage t_readStage t_p_readRule t_readRule t_value t_ends t_screw]) H → va_S A s.heap H locs → W p l e ({ frames := 0, cells := 0, slots := 0, locals := 0 }) s m ([.ref t_p, .int l1, .int l2] : List Value).toArray below meth c H locs 0 0 (MQ below (pQi g (fun r => r = res) (fl [wk6 g t_p t_length t_p_text t_text t_cavities t_p_volume t_volume t_p_freeze t_freeze t_cores t_p_earlier t_earlier t_stages t_p_place t_place t_p_now t_now t_p_was t_was t_changes t_p_one t_one t_readCavities t_p_readCavity t_readCavity t_readCores t_p_readCore t_readCore t_readStages t_p_readStage t_readStage t_p_readRule t_readRule t_value t_ends t_screw]) A) ([.ref t_p, .int l1, .int l2] : List Value).toArray s 0 0 A) (F0 m 0 ls []) := by
    intro H locs hH hL hP hS
    refine lv_aload_n hx hb dX6_overBy_0 rfl (lv_at hl 0 rfl) ?_
    refine va_get (D := g.1) (ci := 6) (v := .ref t_p_now) (C := RX6) (T := TX6) (N := 23) hx hb hts hin6 hown hK.1 hP 0 rfl rfl 9 (by decide) L1 (fun _ h9 => h9) rfl dX6_overBy_1 ?_
    refine lv_bipush (v := 84) hx hb dX6_overBy_4 (by decide) ?_
    refine lv_iload_n hx hb dX6_overBy_6 rfl (lv_at hl 1 rfl) ?_
    refine lv_imul hx hb dX6_overBy_7 ?_
    refine lv_bipush (v := 66) hx hb dX6_overBy_8 (by decide) ?_
    refine lv_iadd hx hb dX6_overBy_10 ?_
    refine lv_iload_n hx hb dX6_overBy_11 rfl (lv_at hl 2 rfl) ?_
    refine lv_iadd hx hb dX6_overBy_12 ?_
    obtain ⟨h_1, hf⟩ := if_some hf
    refine va_iald hx hb hK.1 hP 6 0 rfl rfl (ok_in h_1) dX6_overBy_13 ?_
    refine lv_aload_n hx hb dX6_overBy_14 rfl (lv_at hl 0 rfl) ?_
    refine va_get (D := g.1) (ci := 6) (v := .ref t_p_volume) (C := RX6) (T := TX6) (N := 23) hx hb hts hin6 hown hK.1 hP 0 rfl rfl 3 (by decide) L2 (fun _ h9 => h9) rfl dX6_overBy_15 ?_
    refine lv_iload_n hx hb dX6_overBy_18 rfl (lv_at hl 2 rfl) ?_
    obtain ⟨h_2, hf⟩ := if_some hf
    refine va_iald hx hb hK.1 hP 2 0 rfl rfl (ok_in h_2) dX6_overBy_19 ?_
    refine lv_isub hx hb dX6_overBy_20 ?_
    refine lv_istore_n (lv' := [(3, .int ((t_now (Int32.toNatClampNeg (((84 * l1) + 66) + l2))) - (t_volume (Int32.toNatClampNeg l2)))), (0, .ref t_p), (1, .int l1), (2, .int l2)]) hx hb dX6_overBy_21 rfl hl (by decide) rfl (fun ls hl => ?_)
    refine lv_iload_n hx hb dX6_overBy_22 rfl (lv_at hl 0 rfl) ?_
    refine lv_if_le (tgt := 30) hx hb dX6_overBy_23 (by decide) (fun c_3 => ?_) (fun c_3 => ?_)
    · replace hf := (if_pos c_3).symm.trans hf
      refine lv_iconst (v := 0) hx hb dX6_overBy_30 (by decide) ?_
      replace hf := Option.some.inj hf
      subst hf
      exact W.iret (v := 0) hx hb hr (fun t ht hW => ⟨⟨_, (), rfl, rfl, by show va_P g.1 vwCl _ t.heap; rw [ht]; exact hP⟩, hS.F ht⟩) hS.2.2 dX6_overBy_31 hlocks
    · replace hf := (if_neg c_3).symm.trans hf
      refine lv_iload_n hx hb dX6_overBy_26 rfl (lv_at hl 0 rfl) ?_
      refine lv_goto (tgt := 31) hx hb dX6_overBy_27 (by decide) ?_
      replace hf := Option.some.inj hf
      subst hf
      exact W.iret (v := (t_now (Int32.toNatClampNeg (((84 * l1) + 66) + l2))) - (t_volume (Int32.toNatClampNeg l2))) hx hb hr (fun t ht hW => ⟨⟨_, (), rfl, rfl, by show va_P g.1 vwCl _ t.heap; rw [ht]; exact hP⟩, hS.F ht⟩) hS.2.2 dX6_overBy_31 hlocks
  exact hgo s.heap [] rfl rfl hP hS

set_option maxHeartbeats 4000000 in
set_option maxRecDepth 100000 in
theorem c6_isShort (l : Launch) (g : gG) (t_p : Nat) (t_length : Int32) (t_p_text : Nat) (t_text : (Nat → Int32)) (t_cavities : Int32) (t_p_volume : Nat) (t_volume : (Nat → Int32)) (t_p_freeze : Nat) (t_freeze : (Nat → Int32)) (t_cores : Int32) (t_p_earlier : Nat) (t_earlier : (Nat → Int32)) (t_stages : Int32) (t_p_place : Nat) (t_place : (Nat → Int32)) (t_p_now : Nat) (t_now : (Nat → Int32)) (t_p_was : Nat) (t_was : (Nat → Int32)) (t_changes : Int32) (t_p_one : Nat) (t_one : (Nat → Int32)) (t_readCavities : Int32) (t_p_readCavity : Nat) (t_readCavity : (Nat → Int32)) (t_readCores : Int32) (t_p_readCore : Nat) (t_readCore : (Nat → Int32)) (t_readStages : Int32) (t_p_readStage : Nat) (t_readStage : (Nat → Int32)) (t_p_readRule : Nat) (t_readRule : (Nat → Int32)) (t_value : Int32) (t_ends : Int32) (t_screw : Int32) (l1 : Int32) (sz : Nat) (N : Nat) (res : (Int32)) (hf : f6_isShort N l1 t_cavities t_volume t_now = some res) : Met l yX6_isShort wsX6_isShort ({ frames := 1, cells := 0, slots := 0, locals := 23 }) (pP g [.ref t_p, .int l1] sz (fl [wk6 g t_p t_length t_p_text t_text t_cavities t_p_volume t_volume t_p_freeze t_freeze t_cores t_p_earlier t_earlier t_stages t_p_place t_place t_p_now t_now t_p_was t_was t_changes t_p_one t_one t_readCavities t_p_readCavity t_readCavity t_readCores t_p_readCore t_readCore t_readStages t_p_readStage t_readStage t_p_readRule t_readRule t_value t_ends t_screw])) (pQi g (fun r => r = res) (fl [wk6 g t_p t_length t_p_text t_text t_cavities t_p_volume t_volume t_p_freeze t_freeze t_cores t_p_earlier t_earlier t_stages t_p_place t_place t_p_now t_now t_p_was t_was t_changes t_p_one t_one t_readCavities t_p_readCavity t_readCavity t_readCores t_p_readCore t_readCore t_readStages t_p_readStage t_readStage t_p_readRule t_readRule t_value t_ends t_screw]) (va_A (fl [wk6 g t_p t_length t_p_text t_text t_cavities t_p_volume t_volume t_p_freeze t_freeze t_cores t_p_earlier t_earlier t_stages t_p_place t_place t_p_now t_now t_p_was t_was t_changes t_p_one t_one t_readCavities t_p_readCavity t_readCavity t_readCores t_p_readCore t_readCore t_readStages t_p_readStage t_readStage t_p_readRule t_readRule t_value t_ends t_screw]) sz)) 0 0 (va_A (fl [wk6 g t_p t_length t_p_text t_text t_cavities t_p_volume t_volume t_p_freeze t_freeze t_cores t_p_earlier t_earlier t_stages t_p_place t_place t_p_now t_now t_p_was t_was t_changes t_p_one t_one t_readCavities t_p_readCavity t_readCavity t_readCores t_p_readCore t_readCore t_readStages t_p_readStage t_readStage t_p_readRule t_readRule t_value t_ends t_screw]) sz) := by
  refine Met.ofW (cc := cX6_isShort) (maxL := 4) (ret := (some .boolean)) (by decide) rfl ?_
  intro p e s m args below meth c s₁ B hml hv
  obtain ⟨rfl, hsz, hP, hK, hD0, hG⟩ := hv
  have hx := B.exec
  have hb := B.bytes
  have hr := B.returns
  have hts := atoms_spec (ws := wsX6_isShort) B.pre
  have hown : s.vm.findClass RX6 = some m.cls := findClass_of_methodNamed B.named
  have hlocks := B.notSynchronized
  subst hsz
  have hD := hD0.self (sz := s.heap.size)
  generalize hAe : va_A (fl [wk6 g t_p t_length t_p_text t_text t_cavities t_p_volume t_volume t_p_freeze t_freeze t_cores t_p_earlier t_earlier t_stages t_p_place t_place t_p_now t_now t_p_was t_was t_changes t_p_one t_one t_readCavities t_p_readCavity t_readCavity t_readCores t_p_readCore t_readCore t_readStages t_p_readStage t_readStage t_p_readRule t_readRule t_value t_ends t_screw]) s.heap.size = A at hD hG ⊢
  have hA : ∀ q : Nat, s.heap.size ≤ q → A q := fun q h => by rw [← hAe]; exact Or.inr h
  have hS : va_S A s.heap s.heap [] := va_S.rf
  have hin6 : ∀ w ∈ u_ws RX6 TX6 23, w ∈ wsX6_isShort := by decide +kernel
  have L1 := hts (Cond.fieldLink RX6 70 "MouldShotsModel" "cavities" "I") (by decide +kernel)
  have w_4 : ∀ n : Nat, ∀ (v1 : Int32) (v2 : Int32) (v3 : Int32)  (H : Heap) (locs : List Loc) (ls : Array Slot), f6_isShort_4  N n v1 v2 v3 t_cavities t_volume t_now = some res → va_P g.1 vwCl (fl [wk6 g t_p t_length t_p_text t_text t_cavities t_p_volume t_volume t_p_freeze t_freeze t_cores t_p_earlier t_earlier t_stages t_p_place t_place t_p_now t_now t_p_was t_was t_changes t_p_one t_one t_readCavities t_p_readCavity t_readCavity t_readCores t_p_readCore t_readCore t_readStages t_p_readStage t_readStage t_p_readRule t_readRule t_value t_ends t_screw]) H → va_D A (fl [wk6 g t_p t_length t_p_text t_text t_cavities t_p_volume t_volume t_p_freeze t_freeze t_cores t_p_earlier t_earlier t_stages t_p_place t_place t_p_now t_now t_p_was t_was t_changes t_p_one t_one t_readCavities t_p_readCavity t_readCavity t_readCores t_p_readCore t_readCore t_readStages t_p_readStage t_readStage t_p_readRule t_readRule t_value t_ends t_screw]) → va_S A s.heap H locs → lv_has ls 4 [(0, .ref t_p), (1, .int v1), (2, .int v2), (3, .int v3)] → W p l e ({ frames := 1, cells := 0, slots := 0, locals := 23 }) s m ([.ref t_p, .int l1] : List Value).toArray below meth c H locs 0 0 (MQ below (pQi g (fun r => r = res) (fl [wk6 g t_p t_length t_p_text t_text t_cavities t_p_volume t_volume t_p_freeze t_freeze t_cores t_p_earlier t_earlier t_stages t_p_place t_place t_p_now t_now t_p_was t_was t_changes t_p_one t_one t_readCavities t_p_readCavity t_readCavity t_readCores t_p_readCore t_readCore t_readStages t_p_readStage t_readStage t_p_readRule t_readRule t_value t_ends t_screw]) A) ([.ref t_p, .int l1] : List Value).toArray s 0 0 A) (F0 m 4 ls []) := by
    intro  n
    induction n with
    | zero => intro v1 v2 v3 H locs ls hf; exact no_some hf
    | succ n ih =>
      intro v1 v2 v3 H locs ls hf hP hD hS hl
      rw [f6_isShort_4] at hf
      refine lv_iload_n hx hb dX6_isShort_4 rfl (lv_at hl 3 rfl) ?_
      refine lv_aload_n hx hb dX6_isShort_5 rfl (lv_at hl 0 rfl) ?_
      refine va_get (D := g.1) (ci := 6) (v := .int t_cavities) (C := RX6) (T := TX6) (N := 23) hx hb hts hin6 hown hK.1 hP 0 rfl rfl 2 (by decide) L1 (fun _ h9 => h9) rfl dX6_isShort_6 ?_
      refine lv_icmp_ge (tgt := 37) hx hb dX6_isShort_9 (by decide) (fun c_1 => ?_) (fun c_1 => ?_)
      · replace hf := (if_pos c_1).symm.trans hf
        refine lv_iload_n hx hb dX6_isShort_37 rfl (lv_at hl 2 rfl) ?_
        obtain ⟨h_2, hf⟩ := if_some hf
        replace hf := Option.some.inj hf
        subst hf
        exact W.zret (v := v2) hx hb hr (isb_n h_2) (fun t ht hW => ⟨⟨_, (), rfl, rfl, by show va_P g.1 vwCl _ t.heap; rw [ht]; exact hP⟩, hS.F ht⟩) hS.2.2 dX6_isShort_38 hlocks
      · replace hf := (if_neg c_1).symm.trans hf
        refine lv_iload_n hx hb dX6_isShort_12 rfl (lv_at hl 2 rfl) ?_
        refine lv_if_ne (tgt := 25) hx hb dX6_isShort_13 (by decide) (fun c_3 => ?_) (fun c_3 => ?_)
        · replace hf := (if_neg c_3).symm.trans hf
          refine lv_iconst (v := 1) hx hb dX6_isShort_25 (by decide) ?_
          refine lv_goto (tgt := 30) hx hb dX6_isShort_26 (by decide) ?_
          refine lv_istore_n (lv' := [(2, .int 1), (0, .ref t_p), (1, .int v1), (3, .int v3)]) hx hb dX6_isShort_30 rfl hl (by decide) rfl (fun ls hl => ?_)
          refine lv_iinc (v := v3 + 1) (lv' := [(3, .int (v3 + 1)), (2, .int 1), (0, .ref t_p), (1, .int v1)]) hx hb dX6_isShort_31 hl (k := 3) rfl rfl (by decide) rfl (fun ls hl => ?_)
          refine lv_goto (tgt := 4) hx hb dX6_isShort_34 (by decide) ?_
          exact ih v1 1 (v3 + 1) H locs ls hf hP hD hS (lv_sub hl [2, 3, 1, 0] rfl)
        · replace hf := (if_pos c_3).symm.trans hf
          refine lv_aload_n hx hb dX6_isShort_16 rfl (lv_at hl 0 rfl) ?_
          refine lv_iload_n hx hb dX6_isShort_17 rfl (lv_at hl 1 rfl) ?_
          refine lv_iload_n hx hb dX6_isShort_18 rfl (lv_at hl 3 rfl) ?_
          obtain ⟨q_4, hq_4, hf⟩ := bd_some hf
          refine bft_i (bn := [wk6 g t_p t_length t_p_text t_text t_cavities t_p_volume t_volume t_p_freeze t_freeze t_cores t_p_earlier t_earlier t_stages t_p_place t_place t_p_now t_now t_p_was t_was t_changes t_p_one t_one t_readCavities t_p_readCavity t_readCavity t_readCores t_p_readCore t_readCore t_readStages t_p_readStage t_readStage t_p_readRule t_readRule t_value t_ends t_screw]) (L := [[t_p, t_p_text, t_p_volume, t_p_freeze, t_p_earlier, t_p_place, t_p_now, t_p_was, t_p_one, t_p_readCavity, t_p_readCore, t_p_readStage, t_p_readRule]]) (va_runV (As := [.int v1, .int v3]) (rest := []) ⟨hx, hb, hml, hown, hts⟩ (c6_shortBy l g t_p t_length t_p_text t_text t_cavities t_p_volume t_volume t_p_freeze t_freeze t_cores t_p_earlier t_earlier t_stages t_p_place t_place t_p_now t_now t_p_was t_was t_changes t_p_one t_one t_readCavities t_p_readCavity t_readCavity t_readCores t_p_readCore t_readCore t_readStages t_p_readStage t_readStage t_p_readRule t_readRule t_value t_ends t_screw v1 v3 H.size N q_4 hq_4) (cwV 2 hts gX6_isShort_X6_shortBy rfl rfl rfl ⟨rfl, nh6.1, nh6.2, pd_14⟩ ⟨Nat.le_of_ble_eq_true rfl, Nat.le_of_ble_eq_true rfl⟩) (qPV hK hG hP hD hS hA [0] (by decide) rfl (va_recv hK.1 hP (ci := 6) (q0 := 0) rfl rfl)) rfl rfl hl.1 rfl (lv_room (Nat.le_of_ble_eq_true rfl)) dX6_isShort_19 ⟨Nat.zero_le _, Nat.zero_le _⟩) hP hD hS hA [0] rfl rfl rfl rfl (fun r_5 H locs hw hP hD hS => ?_)
          replace hw := hw.symm
          subst hw
          refine lv_if_le (tgt := 29) hx hb dX6_isShort_22 (by decide) (fun c_6 => ?_) (fun c_6 => ?_)
          · replace hf := (if_pos c_6).symm.trans hf
            refine lv_iconst (v := 0) hx hb dX6_isShort_29 (by decide) ?_
            refine lv_istore_n (lv' := [(2, .int 0), (0, .ref t_p), (1, .int v1), (3, .int v3)]) hx hb dX6_isShort_30 rfl hl (by decide) rfl (fun ls hl => ?_)
            refine lv_iinc (v := v3 + 1) (lv' := [(3, .int (v3 + 1)), (2, .int 0), (0, .ref t_p), (1, .int v1)]) hx hb dX6_isShort_31 hl (k := 3) rfl rfl (by decide) rfl (fun ls hl => ?_)
            refine lv_goto (tgt := 4) hx hb dX6_isShort_34 (by decide) ?_
            exact ih v1 0 (v3 + 1) H locs ls hf hP hD hS (lv_sub hl [2, 3, 1, 0] rfl)
          · replace hf := (if_neg c_6).symm.trans hf
            refine lv_iconst (v := 1) hx hb dX6_isShort_25 (by decide) ?_
            refine lv_goto (tgt := 30) hx hb dX6_isShort_26 (by decide) ?_
            refine lv_istore_n (lv' := [(2, .int 1), (0, .ref t_p), (1, .int v1), (3, .int v3)]) hx hb dX6_isShort_30 rfl hl (by decide) rfl (fun ls hl => ?_)
            refine lv_iinc (v := v3 + 1) (lv' := [(3, .int (v3 + 1)), (2, .int 1), (0, .ref t_p), (1, .int v1)]) hx hb dX6_isShort_31 hl (k := 3) rfl rfl (by decide) rfl (fun ls hl => ?_)
            refine lv_goto (tgt := 4) hx hb dX6_isShort_34 (by decide) ?_
            exact ih v1 1 (v3 + 1) H locs ls hf hP hD hS (lv_sub hl [2, 3, 1, 0] rfl)
  have hl := lv_entry ([.ref t_p, .int l1]) (n := 4) (Nat.le_of_ble_eq_true rfl)
  rw [lg_entry_eq]
  generalize (lg_sl ([.ref t_p, .int l1]) ++ List.replicate (4 - (lg_sl ([.ref t_p, .int l1])).length) Slot.unset).toArray = ls at hl ⊢
  replace hl : lv_has ls 4 [(0, .ref t_p), (1, .int l1)] := hl
  rw [f6_isShort] at hf
  have hgo : ∀ (H : Heap) (locs : List Loc), H = s.heap → locs = [] → va_P g.1 vwCl (fl [wk6 g t_p t_length t_p_text t_text t_cavities t_p_volume t_volume t_p_freeze t_freeze t_cores t_p_earlier t_earlier t_stages t_p_place t_place t_p_now t_now t_p_was t_was t_changes t_p_one t_one t_readCavities t_p_readCavity t_readCavity t_readCores t_p_readCore t_readCore t_readStages t_p_readStage t_readStage t_p_readRule t_readRule t_value t_ends t_screw]) H → va_S A s.heap H locs → W p l e ({ frames := 1, cells := 0, slots := 0, locals := 23 }) s m ([.ref t_p, .int l1] : List Value).toArray below meth c H locs 0 0 (MQ below (pQi g (fun r => r = res) (fl [wk6 g t_p t_length t_p_text t_text t_cavities t_p_volume t_volume t_p_freeze t_freeze t_cores t_p_earlier t_earlier t_stages t_p_place t_place t_p_now t_now t_p_was t_was t_changes t_p_one t_one t_readCavities t_p_readCavity t_readCavity t_readCores t_p_readCore t_readCore t_readStages t_p_readStage t_readStage t_p_readRule t_readRule t_value t_ends t_screw]) A) ([.ref t_p, .int l1] : List Value).toArray s 0 0 A) (F0 m 0 ls []) := by
    intro H locs hH hL hP hS
    refine lv_iconst (v := 0) hx hb dX6_isShort_0 (by decide) ?_
    refine lv_istore_n (lv' := [(2, .int 0), (0, .ref t_p), (1, .int l1)]) hx hb dX6_isShort_1 rfl hl (by decide) rfl (fun ls hl => ?_)
    refine lv_iconst (v := 0) hx hb dX6_isShort_2 (by decide) ?_
    refine lv_istore_n (lv' := [(3, .int 0), (2, .int 0), (0, .ref t_p), (1, .int l1)]) hx hb dX6_isShort_3 rfl hl (by decide) rfl (fun ls hl => ?_)
    exact w_4  N l1 0 0 H locs ls hf hP hD hS (lv_sub hl [2, 3, 1, 0] rfl)
  exact hgo s.heap [] rfl rfl hP hS
