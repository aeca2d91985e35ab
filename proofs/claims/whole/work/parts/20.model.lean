set_option maxHeartbeats 4000000 in
set_option maxRecDepth 100000 in
theorem c6_cavityOf (l : Launch) (g : gG) (t_p : Nat) (t_length : Int32) (t_p_text : Nat) (t_text : (Nat → Int32)) (t_cavities : Int32) (t_p_volume : Nat) (t_volume : (Nat → Int32)) (t_p_freeze : Nat) (t_freeze : (Nat → Int32)) (t_cores : Int32) (t_p_earlier : Nat) (t_earlier : (Nat → Int32)) (t_stages : Int32) (t_p_place : Nat) (t_place : (Nat → Int32)) (t_p_now : Nat) (t_now : (Nat → Int32)) (t_p_was : Nat) (t_was : (Nat → Int32)) (t_changes : Int32) (t_p_one : Nat) (t_one : (Nat → Int32)) (t_readCavities : Int32) (t_p_readCavity : Nat) (t_readCavity : (Nat → Int32)) (t_readCores : Int32) (t_p_readCore : Nat) (t_readCore : (Nat → Int32)) (t_readStages : Int32) (t_p_readStage : Nat) (t_readStage : (Nat → Int32)) (t_p_readRule : Nat) (t_readRule : (Nat → Int32)) (t_value : Int32) (t_ends : Int32) (t_screw : Int32) (l1 : Int32) (l2 : Int32) (l3 : Int32) (sz : Nat) (N : Nat) (res : (Int32 × (Nat → Int32))) (hf : f6_cavityOf N l1 l2 l3 t_readCavities t_readCavity = some res) : Met l yX6_cavityOf wsX6_cavityOf ({ frames := 0, cells := 0, slots := 0, locals := 0 }) (pP g [.ref t_p, .int l1, .int l2, .int l3] sz (fl [wk6 g t_p t_length t_p_text t_text t_cavities t_p_volume t_volume t_p_freeze t_freeze t_cores t_p_earlier t_earlier t_stages t_p_place t_place t_p_now t_now t_p_was t_was t_changes t_p_one t_one t_readCavities t_p_readCavity t_readCavity t_readCores t_p_readCore t_readCore t_readStages t_p_readStage t_readStage t_p_readRule t_readRule t_value t_ends t_screw])) (pQv g (fl [wk6 g t_p t_length t_p_text t_text t_cavities t_p_volume t_volume t_p_freeze t_freeze t_cores t_p_earlier t_earlier t_stages t_p_place t_place t_p_now t_now t_p_was t_was t_changes t_p_one t_one res.1 t_p_readCavity res.2 t_readCores t_p_readCore t_readCore t_readStages t_p_readStage t_readStage t_p_readRule t_readRule t_value t_ends t_screw]) (va_A (fl [wk6 g t_p t_length t_p_text t_text t_cavities t_p_volume t_volume t_p_freeze t_freeze t_cores t_p_earlier t_earlier t_stages t_p_place t_place t_p_now t_now t_p_was t_was t_changes t_p_one t_one t_readCavities t_p_readCavity t_readCavity t_readCores t_p_readCore t_readCore t_readStages t_p_readStage t_readStage t_p_readRule t_readRule t_value t_ends t_screw]) sz)) 0 0 (va_A (fl [wk6 g t_p t_length t_p_text t_text t_cavities t_p_volume t_volume t_p_freeze t_freeze t_cores t_p_earlier t_earlier t_stages t_p_place t_place t_p_now t_now t_p_was t_was t_changes t_p_one t_one t_readCavities t_p_readCavity t_readCavity t_readCores t_p_readCore t_readCore t_readStages t_p_readStage t_readStage t_p_readRule t_readRule t_value t_ends t_screw]) sz) := by
  refine Met.ofW (cc := cX6_cavityOf) (maxL := 4) (ret := none) (by decide) rfl ?_
  intro p e s m args below meth c s₁ B hml hv
  obtain ⟨rfl, hsz, hP, hK, hD0, hG⟩ := hv
  have hx := B.exec
  have hb := B.bytes
  have hr := B.returns
  have hts := atoms_spec (ws := wsX6_cavityOf) B.pre
  have hown : s.vm.findClass RX6 = some m.cls := findClass_of_methodNamed B.named
  have hlocks := B.notSynchronized
  subst hsz
  have hD := hD0.self (sz := s.heap.size)
  generalize hAe : va_A (fl [wk6 g t_p t_length t_p_text t_text t_cavities t_p_volume t_volume t_p_freeze t_freeze t_cores t_p_earlier t_earlier t_stages t_p_place t_place t_p_now t_now t_p_was t_was t_changes t_p_one t_one t_readCavities t_p_readCavity t_readCavity t_readCores t_p_readCore t_readCore t_readStages t_p_readStage t_readStage t_p_readRule t_readRule t_value t_ends t_screw]) s.heap.size = A at hD hG ⊢
  have hA : ∀ q : Nat, s.heap.size ≤ q → A q := fun q h => by rw [← hAe]; exact Or.inr h
  have hS : va_S A s.heap s.heap [] := va_S.rf
  have hin6 : ∀ w ∈ u_ws RX6 TX6 23, w ∈ wsX6_cavityOf := by decide +kernel
  have L1 := hts (Cond.fieldLink RX6 34 "MouldShotsModel" "readCavity" "[I") (by decide +kernel)
  have L2 := hts (Cond.fieldLink RX6 64 "MouldShotsModel" "readCavities" "I") (by decide +kernel)
  have hl := lv_entry ([.ref t_p, .int l1, .int l2, .int l3]) (n := 4) (Nat.le_of_ble_eq_true rfl)
  rw [lg_entry_eq]
  generalize (lg_sl ([.ref t_p, .int l1, .int l2, .int l3]) ++ List.replicate (4 - (lg_sl ([.ref t_p, .int l1, .int l2, .int l3])).length) Slot.unset).toArray = ls at hl ⊢
  replace hl : lv_has ls 4 [(0, .ref t_p), (1, .int l1), (2, .int l2), (3, .int l3)] := hl
  rw [f6_cavityOf] at hf
  have hgo : ∀ (H : Heap) (locs : List Loc), H = s.heap → locs = [] → va_P g.1 vwCl (fl [wk6 g t_p t_length t_p_text t_text t_cavities t_p_volume t_volume t_p_freeze t_freeze t_cores t_p_earlier t_earlier t_stages t_p_place t_place t_p_now t_now t_p_was t_was t_changes t_p_one t_one t_readCavities t_p_readCavity t_readCavity t_readCores t_p_readCore t_readCore t_readStages t_p_readStage t_readStage t_p_readRule t_readRule t_value t_ends t_screw]) H → va_S A s.heap H locs → W p l e ({ frames := 0, cells := 0, slots := 0, locals := 0 }) s m ([.ref t_p, .int l1, .int l2, .int l3] : List Value).toArray below meth c H locs 0 0 (MQ below (pQv g (fl [wk6 g t_p t_length t_p_text t_text t_cavities t_p_volume t_volume t_p_freeze t_freeze t_cores t_p_earlier t_earlier t_stages t_p_place t_place t_p_now t_now t_p_was t_was t_changes t_p_one t_one res.1 t_p_readCavity res.2 t_readCores t_p_readCore t_readCore t_readStages t_p_readStage t_readStage t_p_readRule t_readRule t_value t_ends t_screw]) A) ([.ref t_p, .int l1, .int l2, .int l3] : List Value).toArray s 0 0 A) (F0 m 0 ls []) := by
    intro H locs hH hL hP hS
    refine lv_aload_n hx hb dX6_cavityOf_0 rfl (lv_at hl 0 rfl) ?_
    refine va_get (D := g.1) (ci := 6) (v := .ref t_p_readCavity) (C := RX6) (T := TX6) (N := 23) hx hb hts hin6 hown hK.1 hP 0 rfl rfl 14 (by decide) L1 (fun _ h9 => h9) rfl dX6_cavityOf_1 ?_
    refine lv_iconst (v := 3) hx hb dX6_cavityOf_4 (by decide) ?_
    refine lv_aload_n hx hb dX6_cavityOf_5 rfl (lv_at hl 0 rfl) ?_
    refine va_get (D := g.1) (ci := 6) (v := .int t_readCavities) (C := RX6) (T := TX6) (N := 23) hx hb hts hin6 hown hK.1 hP 0 rfl rfl 13 (by decide) L2 (fun _ h9 => h9) rfl dX6_cavityOf_6 ?_
    refine lv_imul hx hb dX6_cavityOf_9 ?_
    refine lv_iload_n hx hb dX6_cavityOf_10 rfl (lv_at hl 1 rfl) ?_
    obtain ⟨h_1, hf⟩ := if_some hf
    refine va_iast hx hb hK.1 hP hD hS 9 0 rfl rfl (ok_in h_1) dX6_cavityOf_11 (fun H locs hP hD hS => ?_)
    replace hP : va_P g.1 vwCl (fl [wk6 g t_p t_length t_p_text t_text t_cavities t_p_volume t_volume t_p_freeze t_freeze t_cores t_p_earlier t_earlier t_stages t_p_place t_place t_p_now t_now t_p_was t_was t_changes t_p_one t_one t_readCavities t_p_readCavity (upd t_readCavity (Int32.toNatClampNeg (3 * t_readCavities)) l1) t_readCores t_p_readCore t_readCore t_readStages t_p_readStage t_readStage t_p_readRule t_readRule t_value t_ends t_screw]) H := hP
    replace hD : va_D A (fl [wk6 g t_p t_length t_p_text t_text t_cavities t_p_volume t_volume t_p_freeze t_freeze t_cores t_p_earlier t_earlier t_stages t_p_place t_place t_p_now t_now t_p_was t_was t_changes t_p_one t_one t_readCavities t_p_readCavity (upd t_readCavity (Int32.toNatClampNeg (3 * t_readCavities)) l1) t_readCores t_p_readCore t_readCore t_readStages t_p_readStage t_readStage t_p_readRule t_readRule t_value t_ends t_screw]) := hD
    refine lv_aload_n hx hb dX6_cavityOf_12 rfl (lv_at hl 0 rfl) ?_
    refine va_get (D := g.1) (ci := 6) (v := .ref t_p_readCavity) (C := RX6) (T := TX6) (N := 23) hx hb hts hin6 hown hK.1 hP 0 rfl rfl 14 (by decide) L1 (fun _ h9 => h9) rfl dX6_cavityOf_13 ?_
    refine lv_iconst (v := 3) hx hb dX6_cavityOf_16 (by decide) ?_
    refine lv_aload_n hx hb dX6_cavityOf_17 rfl (lv_at hl 0 rfl) ?_
    refine va_get (D := g.1) (ci := 6) (v := .int t_readCavities) (C := RX6) (T := TX6) (N := 23) hx hb hts hin6 hown hK.1 hP 0 rfl rfl 13 (by decide) L2 (fun _ h9 => h9) rfl dX6_cavityOf_18 ?_
    refine lv_imul hx hb dX6_cavityOf_21 ?_
    refine lv_iconst (v := 1) hx hb dX6_cavityOf_22 (by decide) ?_
    refine lv_iadd hx hb dX6_cavityOf_23 ?_
    refine lv_iload_n hx hb dX6_cavityOf_24 rfl (lv_at hl 2 rfl) ?_
    obtain ⟨h_2, hf⟩ := if_some hf
    refine va_iast hx hb hK.1 hP hD hS 9 0 rfl rfl (ok_in h_2) dX6_cavityOf_25 (fun H locs hP hD hS => ?_)
    replace hP : va_P g.1 vwCl (fl [wk6 g t_p t_length t_p_text t_text t_cavities t_p_volume t_volume t_p_freeze t_freeze t_cores t_p_earlier t_earlier t_stages t_p_place t_place t_p_now t_now t_p_was t_was t_changes t_p_one t_one t_readCavities t_p_readCavity (upd (upd t_readCavity (Int32.toNatClampNeg (3 * t_readCavities)) l1) (Int32.toNatClampNeg ((3 * t_readCavities) + 1)) l2) t_readCores t_p_readCore t_readCore t_readStages t_p_readStage t_readStage t_p_readRule t_readRule t_value t_ends t_screw]) H := hP
    replace hD : va_D A (fl [wk6 g t_p t_length t_p_text t_text t_cavities t_p_volume t_volume t_p_freeze t_freeze t_cores t_p_earlier t_earlier t_stages t_p_place t_place t_p_now t_now t_p_was t_was t_changes t_p_one t_one t_readCavities t_p_readCavity (upd (upd t_readCavity (Int32.toNatClampNeg (3 * t_readCavities)) l1) (Int32.toNatClampNeg ((3 * t_readCavities) + 1)) l2) t_readCores t_p_readCore t_readCore t_readStages t_p_readStage t_readStage t_p_readRule t_readRule t_value t_ends t_screw]) := hD
    refine lv_aload_n hx hb dX6_cavityOf_26 rfl (lv_at hl 0 rfl) ?_
    refine va_get (D := g.1) (ci := 6) (v := .ref t_p_readCavity) (C := RX6) (T := TX6) (N := 23) hx hb hts hin6 hown hK.1 hP 0 rfl rfl 14 (by decide) L1 (fun _ h9 => h9) rfl dX6_cavityOf_27 ?_
    refine lv_iconst (v := 3) hx hb dX6_cavityOf_30 (by decide) ?_
    refine lv_aload_n hx hb dX6_cavityOf_31 rfl (lv_at hl 0 rfl) ?_
    refine va_get (D := g.1) (ci := 6) (v := .int t_readCavities) (C := RX6) (T := TX6) (N := 23) hx hb hts hin6 hown hK.1 hP 0 rfl rfl 13 (by decide) L2 (fun _ h9 => h9) rfl dX6_cavityOf_32 ?_
    refine lv_imul hx hb dX6_cavityOf_35 ?_
    refine lv_iconst (v := 2) hx hb dX6_cavityOf_36 (by decide) ?_
    refine lv_iadd hx hb dX6_cavityOf_37 ?_
    refine lv_iload_n hx hb dX6_cavityOf_38 rfl (lv_at hl 3 rfl) ?_
    obtain ⟨h_3, hf⟩ := if_some hf
    refine va_iast hx hb hK.1 hP hD hS 9 0 rfl rfl (ok_in h_3) dX6_cavityOf_39 (fun H locs hP hD hS => ?_)
    replace hP : va_P g.1 vwCl (fl [wk6 g t_p t_length t_p_text t_text t_cavities t_p_volume t_volume t_p_freeze t_freeze t_cores t_p_earlier t_earlier t_stages t_p_place t_place t_p_now t_now t_p_was t_was t_changes t_p_one t_one t_readCavities t_p_readCavity (upd (upd (upd t_readCavity (Int32.toNatClampNeg (3 * t_readCavities)) l1) (Int32.toNatClampNeg ((3 * t_readCavities) + 1)) l2) (Int32.toNatClampNeg ((3 * t_readCavities) + 2)) l3) t_readCores t_p_readCore t_readCore t_readStages t_p_readStage t_readStage t_p_readRule t_readRule t_value t_ends t_screw]) H := hP
    replace hD : va_D A (fl [wk6 g t_p t_length t_p_text t_text t_cavities t_p_volume t_volume t_p_freeze t_freeze t_cores t_p_earlier t_earlier t_stages t_p_place t_place t_p_now t_now t_p_was t_was t_changes t_p_one t_one t_readCavities t_p_readCavity (upd (upd (upd t_readCavity (Int32.toNatClampNeg (3 * t_readCavities)) l1) (Int32.toNatClampNeg ((3 * t_readCavities) + 1)) l2) (Int32.toNatClampNeg ((3 * t_readCavities) + 2)) l3) t_readCores t_p_readCore t_readCore t_readStages t_p_readStage t_readStage t_p_readRule t_readRule t_value t_ends t_screw]) := hD
    refine lv_aload_n hx hb dX6_cavityOf_40 rfl (lv_at hl 0 rfl) ?_
    refine lv_dup hx hb dX6_cavityOf_41 rfl ?_
    refine va_get (D := g.1) (ci := 6) (v := .int t_readCavities) (C := RX6) (T := TX6) (N := 23) hx hb hts hin6 hown hK.1 hP 0 rfl rfl 13 (by decide) L2 (fun _ h9 => h9) rfl dX6_cavityOf_42 ?_
    refine lv_iconst (v := 1) hx hb dX6_cavityOf_45 (by decide) ?_
    refine lv_iadd hx hb dX6_cavityOf_46 ?_
    refine va_put (D := g.1) (ci := 6) (v := .int (t_readCavities + 1)) (ty := .int) (C := RX6) (T := TX6) (N := 23) hx hb hts hin6 tyX6 tyX6_ok nmX6 hown hK.1 hP hD hS 0 rfl rfl 13 (by decide) L2 (fun _ h9 => h9) rfl (by decide +kernel) rfl rfl (Nat.le_of_ble_eq_true rfl) dX6_cavityOf_47 (fun H locs hP hD hS => ?_)
    replace hP : va_P g.1 vwCl (fl [wk6 g t_p t_length t_p_text t_text t_cavities t_p_volume t_volume t_p_freeze t_freeze t_cores t_p_earlier t_earlier t_stages t_p_place t_place t_p_now t_now t_p_was t_was t_changes t_p_one t_one (t_readCavities + 1) t_p_readCavity (upd (upd (upd t_readCavity (Int32.toNatClampNeg (3 * t_readCavities)) l1) (Int32.toNatClampNeg ((3 * t_readCavities) + 1)) l2) (Int32.toNatClampNeg ((3 * t_readCavities) + 2)) l3) t_readCores t_p_readCore t_readCore t_readStages t_p_readStage t_readStage t_p_readRule t_readRule t_value t_ends t_screw]) H := hP
    replace hD : va_D A (fl [wk6 g t_p t_length t_p_text t_text t_cavities t_p_volume t_volume t_p_freeze t_freeze t_cores t_p_earlier t_earlier t_stages t_p_place t_place t_p_now t_now t_p_was t_was t_changes t_p_one t_one (t_readCavities + 1) t_p_readCavity (upd (upd (upd t_readCavity (Int32.toNatClampNeg (3 * t_readCavities)) l1) (Int32.toNatClampNeg ((3 * t_readCavities) + 1)) l2) (Int32.toNatClampNeg ((3 * t_readCavities) + 2)) l3) t_readCores t_p_readCore t_readCore t_readStages t_p_readStage t_readStage t_p_readRule t_readRule t_value t_ends t_screw]) := hD
    replace hf := Option.some.inj hf
    subst hf
    exact W.vret hx hb hr (fun t ht hW => ⟨⟨(), rfl, trivial, by show va_P g.1 vwCl _ t.heap; rw [ht]; exact hP⟩, hS.F ht⟩) hS.2.2 dX6_cavityOf_50 hlocks
  exact hgo s.heap [] rfl rfl hP hS

set_option maxHeartbeats 4000000 in
set_option maxRecDepth 100000 in
theorem c6_stageOf (l : Launch) (g : gG) (t_p : Nat) (t_length : Int32) (t_p_text : Nat) (t_text : (Nat → Int32)) (t_cavities : Int32) (t_p_volume : Nat) (t_volume : (Nat → Int32)) (t_p_freeze : Nat) (t_freeze : (Nat → Int32)) (t_cores : Int32) (t_p_earlier : Nat) (t_earlier : (Nat → Int32)) (t_stages : Int32) (t_p_place : Nat) (t_place : (Nat → Int32)) (t_p_now : Nat) (t_now : (Nat → Int32)) (t_p_was : Nat) (t_was : (Nat → Int32)) (t_changes : Int32) (t_p_one : Nat) (t_one : (Nat → Int32)) (t_readCavities : Int32) (t_p_readCavity : Nat) (t_readCavity : (Nat → Int32)) (t_readCores : Int32) (t_p_readCore : Nat) (t_readCore : (Nat → Int32)) (t_readStages : Int32) (t_p_readStage : Nat) (t_readStage : (Nat → Int32)) (t_p_readRule : Nat) (t_readRule : (Nat → Int32)) (t_value : Int32) (t_ends : Int32) (t_screw : Int32) (l1 : Int32) (l2 : Int32) (sz : Nat) (N : Nat) (res : (Int32 × (Nat → Int32))) (hf : f6_stageOf N l1 l2 t_readStages t_readStage = some res) : Met l yX6_stageOf wsX6_stageOf ({ frames := 0, cells := 0, slots := 0, locals := 0 }) (pP g [.ref t_p, .int l1, .int l2] sz (fl [wk6 g t_p t_length t_p_text t_text t_cavities t_p_volume t_volume t_p_freeze t_freeze t_cores t_p_earlier t_earlier t_stages t_p_place t_place t_p_now t_now t_p_was t_was t_changes t_p_one t_one t_readCavities t_p_readCavity t_readCavity t_readCores t_p_readCore t_readCore t_readStages t_p_readStage t_readStage t_p_readRule t_readRule t_value t_ends t_screw])) (pQv g (fl [wk6 g t_p t_length t_p_text t_text t_cavities t_p_volume t_volume t_p_freeze t_freeze t_cores t_p_earlier t_earlier t_stages t_p_place t_place t_p_now t_now t_p_was t_was t_changes t_p_one t_one t_readCavities t_p_readCavity t_readCavity t_readCores t_p_readCore t_readCore res.1 t_p_readStage res.2 t_p_readRule t_readRule t_value t_ends t_screw]) (va_A (fl [wk6 g t_p t_length t_p_text t_text t_cavities t_p_volume t_volume t_p_freeze t_freeze t_cores t_p_earlier t_earlier t_stages t_p_place t_place t_p_now t_now t_p_was t_was t_changes t_p_one t_one t_readCavities t_p_readCavity t_readCavity t_readCores t_p_readCore t_readCore t_readStages t_p_readStage t_readStage t_p_readRule t_readRule t_value t_ends t_screw]) sz)) 0 0 (va_A (fl [wk6 g t_p t_length t_p_text t_text t_cavities t_p_volume t_volume t_p_freeze t_freeze t_cores t_p_earlier t_earlier t_stages t_p_place t_place t_p_now t_now t_p_was t_was t_changes t_p_one t_one t_readCavities t_p_readCavity t_readCavity t_readCores t_p_readCore t_readCore t_readStages t_p_readStage t_readStage t_p_readRule t_readRule t_value t_ends t_screw]) sz) := by
  refine Met.ofW (cc := cX6_stageOf) (maxL := 3) (ret := none) (by decide) rfl ?_
  intro p e s m args below meth c s₁ B hml hv
  obtain ⟨rfl, hsz, hP, hK, hD0, hG⟩ := hv
  have hx := B.exec
  have hb := B.bytes
  have hr := B.returns
  have hts := atoms_spec (ws := wsX6_stageOf) B.pre
  have hown : s.vm.findClass RX6 = some m.cls := findClass_of_methodNamed B.named
  have hlocks := B.notSynchronized
  subst hsz
  have hD := hD0.self (sz := s.heap.size)
  generalize hAe : va_A (fl [wk6 g t_p t_length t_p_text t_text t_cavities t_p_volume t_volume t_p_freeze t_freeze t_cores t_p_earlier t_earlier t_stages t_p_place t_place t_p_now t_now t_p_was t_was t_changes t_p_one t_one t_readCavities t_p_readCavity t_readCavity t_readCores t_p_readCore t_readCore t_readStages t_p_readStage t_readStage t_p_readRule t_readRule t_value t_ends t_screw]) s.heap.size = A at hD hG ⊢
  have hA : ∀ q : Nat, s.heap.size ≤ q → A q := fun q h => by rw [← hAe]; exact Or.inr h
  have hS : va_S A s.heap s.heap [] := va_S.rf
  have hin6 : ∀ w ∈ u_ws RX6 TX6 23, w ∈ wsX6_stageOf := by decide +kernel
  have L1 := hts (Cond.fieldLink RX6 40 "MouldShotsModel" "readStage" "[I") (by decide +kernel)
  have L2 := hts (Cond.fieldLink RX6 67 "MouldShotsModel" "readStages" "I") (by decide +kernel)
  have hl := lv_entry ([.ref t_p, .int l1, .int l2]) (n := 3) (Nat.le_of_ble_eq_true rfl)
  rw [lg_entry_eq]
  generalize (lg_sl ([.ref t_p, .int l1, .int l2]) ++ List.replicate (3 - (lg_sl ([.ref t_p, .int l1, .int l2])).length) Slot.unset).toArray = ls at hl ⊢
  replace hl : lv_has ls 3 [(0, .ref t_p), (1, .int l1), (2, .int l2)] := hl
  rw [f6_stageOf] at hf
  have hgo : ∀ (H : Heap) (locs : List Loc), H = s.heap → locs = [] → va_P g.1 vwCl (fl [wk6 g t_p t_length t_p_text t_text t_cavities t_p_volume t_volume t_p_freeze t_freeze t_cores t_p_earlier t_earlier t_stages t_p_place t_place t_p_now t_now t_p_was t_was t_changes t_p_one t_one t_readCavities t_p_readCavity t_readCavity t_readCores t_p_readCore t_readCore t_readStages t_p_readStage t_readStage t_p_readRule t_readRule t_value t_ends t_screw]) H → va_S A s.heap H locs → W p l e ({ frames := 0, cells := 0, slots := 0, locals := 0 }) s m ([.ref t_p, .int l1, .int l2] : List Value).toArray below meth c H locs 0 0 (MQ below (pQv g (fl [wk6 g t_p t_length t_p_text t_text t_cavities t_p_volume t_volume t_p_freeze t_freeze t_cores t_p_earlier t_earlier t_stages t_p_place t_place t_p_now t_now t_p_was t_was t_changes t_p_one t_one t_readCavities t_p_readCavity t_readCavity t_readCores t_p_readCore t_readCore res.1 t_p_readStage res.2 t_p_readRule t_readRule t_value t_ends t_screw]) A) ([.ref t_p, .int l1, .int l2] : List Value).toArray s 0 0 A) (F0 m 0 ls []) := by
    intro H locs hH hL hP hS
    refine lv_aload_n hx hb dX6_stageOf_0 rfl (lv_at hl 0 rfl) ?_
    refine va_get (D := g.1) (ci := 6) (v := .ref t_p_readStage) (C := RX6) (T := TX6) (N := 23) hx hb hts hin6 hown hK.1 hP 0 rfl rfl 18 (by decide) L1 (fun _ h9 => h9) rfl dX6_stageOf_1 ?_
    refine lv_iconst (v := 2) hx hb dX6_stageOf_4 (by decide) ?_
    refine lv_aload_n hx hb dX6_stageOf_5 rfl (lv_at hl 0 rfl) ?_
    refine va_get (D := g.1) (ci := 6) (v := .int t_readStages) (C := RX6) (T := TX6) (N := 23) hx hb hts hin6 hown hK.1 hP 0 rfl rfl 17 (by decide) L2 (fun _ h9 => h9) rfl dX6_stageOf_6 ?_
    refine lv_imul hx hb dX6_stageOf_9 ?_
    refine lv_iload_n hx hb dX6_stageOf_10 rfl (lv_at hl 1 rfl) ?_
    obtain ⟨h_1, hf⟩ := if_some hf
    refine va_iast hx hb hK.1 hP hD hS 11 0 rfl rfl (ok_in h_1) dX6_stageOf_11 (fun H locs hP hD hS => ?_)
    replace hP : va_P g.1 vwCl (fl [wk6 g t_p t_length t_p_text t_text t_cavities t_p_volume t_volume t_p_freeze t_freeze t_cores t_p_earlier t_earlier t_stages t_p_place t_place t_p_now t_now t_p_was t_was t_changes t_p_one t_one t_readCavities t_p_readCavity t_readCavity t_readCores t_p_readCore t_readCore t_readStages t_p_readStage (upd t_readStage (Int32.toNatClampNeg (2 * t_readStages)) l1) t_p_readRule t_readRule t_value t_ends t_screw]) H := hP
    replace hD : va_D A (fl [wk6 g t_p t_length t_p_text t_text t_cavities t_p_volume t_volume t_p_freeze t_freeze t_cores t_p_earlier t_earlier t_stages t_p_place t_place t_p_now t_now t_p_was t_was t_changes t_p_one t_one t_readCavities t_p_readCavity t_readCavity t_readCores t_p_readCore t_readCore t_readStages t_p_readStage (upd t_readStage (Int32.toNatClampNeg (2 * t_readStages)) l1) t_p_readRule t_readRule t_value t_ends t_screw]) := hD
    refine lv_aload_n hx hb dX6_stageOf_12 rfl (lv_at hl 0 rfl) ?_
    refine va_get (D := g.1) (ci := 6) (v := .ref t_p_readStage) (C := RX6) (T := TX6) (N := 23) hx hb hts hin6 hown hK.1 hP 0 rfl rfl 18 (by decide) L1 (fun _ h9 => h9) rfl dX6_stageOf_13 ?_
    refine lv_iconst (v := 2) hx hb dX6_stageOf_16 (by decide) ?_
    refine lv_aload_n hx hb dX6_stageOf_17 rfl (lv_at hl 0 rfl) ?_
    refine va_get (D := g.1) (ci := 6) (v := .int t_readStages) (C := RX6) (T := TX6) (N := 23) hx hb hts hin6 hown hK.1 hP 0 rfl rfl 17 (by decide) L2 (fun _ h9 => h9) rfl dX6_stageOf_18 ?_
    refine lv_imul hx hb dX6_stageOf_21 ?_
    refine lv_iconst (v := 1) hx hb dX6_stageOf_22 (by decide) ?_
    refine lv_iadd hx hb dX6_stageOf_23 ?_
    refine lv_iload_n hx hb dX6_stageOf_24 rfl (lv_at hl 2 rfl) ?_
    obtain ⟨h_2, hf⟩ := if_some hf
    refine va_iast hx hb hK.1 hP hD hS 11 0 rfl rfl (ok_in h_2) dX6_stageOf_25 (fun H locs hP hD hS => ?_)
    replace hP : va_P g.1 vwCl (fl [wk6 g t_p t_length t_p_text t_text t_cavities t_p_volume t_volume t_p_freeze t_freeze t_cores t_p_earlier t_earlier t_stages t_p_place t_place t_p_now t_now t_p_was t_was t_changes t_p_one t_one t_readCavities t_p_readCavity t_readCavity t_readCores t_p_readCore t_readCore t_readStages t_p_readStage (upd (upd t_readStage (Int32.toNatClampNeg (2 * t_readStages)) l1) (Int32.toNatClampNeg ((2 * t_readStages) + 1)) l2) t_p_readRule t_readRule t_value t_ends t_screw]) H := hP
    replace hD : va_D A (fl [wk6 g t_p t_length t_p_text t_text t_cavities t_p_volume t_volume t_p_freeze t_freeze t_cores t_p_earlier t_earlier t_stages t_p_place t_place t_p_now t_now t_p_was t_was t_changes t_p_one t_one t_readCavities t_p_readCavity t_readCavity t_readCores t_p_readCore t_readCore t_readStages t_p_readStage (upd (upd t_readStage (Int32.toNatClampNeg (2 * t_readStages)) l1) (Int32.toNatClampNeg ((2 * t_readStages) + 1)) l2) t_p_readRule t_readRule t_value t_ends t_screw]) := hD
    refine lv_aload_n hx hb dX6_stageOf_26 rfl (lv_at hl 0 rfl) ?_
    refine lv_dup hx hb dX6_stageOf_27 rfl ?_
    refine va_get (D := g.1) (ci := 6) (v := .int t_readStages) (C := RX6) (T := TX6) (N := 23) hx hb hts hin6 hown hK.1 hP 0 rfl rfl 17 (by decide) L2 (fun _ h9 => h9) rfl dX6_stageOf_28 ?_
    refine lv_iconst (v := 1) hx hb dX6_stageOf_31 (by decide) ?_
    refine lv_iadd hx hb dX6_stageOf_32 ?_
    refine va_put (D := g.1) (ci := 6) (v := .int (t_readStages + 1)) (ty := .int) (C := RX6) (T := TX6) (N := 23) hx hb hts hin6 tyX6 tyX6_ok nmX6 hown hK.1 hP hD hS 0 rfl rfl 17 (by decide) L2 (fun _ h9 => h9) rfl (by decide +kernel) rfl rfl (Nat.le_of_ble_eq_true rfl) dX6_stageOf_33 (fun H locs hP hD hS => ?_)
    replace hP : va_P g.1 vwCl (fl [wk6 g t_p t_length t_p_text t_text t_cavities t_p_volume t_volume t_p_freeze t_freeze t_cores t_p_earlier t_earlier t_stages t_p_place t_place t_p_now t_now t_p_was t_was t_changes t_p_one t_one t_readCavities t_p_readCavity t_readCavity t_readCores t_p_readCore t_readCore (t_readStages + 1) t_p_readStage (upd (upd t_readStage (Int32.toNatClampNeg (2 * t_readStages)) l1) (Int32.toNatClampNeg ((2 * t_readStages) + 1)) l2) t_p_readRule t_readRule t_value t_ends t_screw]) H := hP
    replace hD : va_D A (fl [wk6 g t_p t_length t_p_text t_text t_cavities t_p_volume t_volume t_p_freeze t_freeze t_cores t_p_earlier t_earlier t_stages t_p_place t_place t_p_now t_now t_p_was t_was t_changes t_p_one t_one t_readCavities t_p_readCavity t_readCavity t_readCores t_p_readCore t_readCore (t_readStages + 1) t_p_readStage (upd (upd t_readStage (Int32.toNatClampNeg (2 * t_readStages)) l1) (Int32.toNatClampNeg ((2 * t_readStages) + 1)) l2) t_p_readRule t_readRule t_value t_ends t_screw]) := hD
    replace hf := Option.some.inj hf
    subst hf
    exact W.vret hx hb hr (fun t ht hW => ⟨⟨(), rfl, trivial, by show va_P g.1 vwCl _ t.heap; rw [ht]; exact hP⟩, hS.F ht⟩) hS.2.2 dX6_stageOf_36 hlocks
  exact hgo s.heap [] rfl rfl hP hS

set_option maxHeartbeats 4000000 in
set_option maxRecDepth 100000 in
theorem c6_isIn (l : Launch) (g : gG) (l0 : Int32) (l1 : Int32) (l2 : Int32) (sz : Nat) (N : Nat) (res : (Int32)) (hf : f6_isIn N l0 l1 l2 = some res) : Met l yX6_isIn wsX6_isIn ({ frames := 0, cells := 0, slots := 0, locals := 0 }) (pP g [.int l0, .int l1, .int l2] sz []) (pQi g (fun r => r = res) [] (va_A [] sz)) 0 0 (va_A [] sz) := by
  refine Met.ofW (cc := cX6_isIn) (maxL := 3) (ret := (some .boolean)) (by decide) rfl ?_
  intro p e s m args below meth c s₁ B hml hv
  obtain ⟨rfl, hsz, hP, hK, hD0, hG⟩ := hv
  have hx := B.exec
  have hb := B.bytes
  have hr := B.returns
  have hts := atoms_spec (ws := wsX6_isIn) B.pre
  have hown : s.vm.findClass RX6 = some m.cls := findClass_of_methodNamed B.named
  have hlocks := B.notSynchronized
  subst hsz
  have hD := hD0.self (sz := s.heap.size)
  generalize hAe : va_A [] s.heap.size = A at hD hG ⊢
  have hA : ∀ q : Nat, s.heap.size ≤ q → A q := fun q h => by rw [← hAe]; exact Or.inr h
  have hS : va_S A s.heap s.heap [] := va_S.rf
  have hl := lv_entry ([.int l0, .int l1, .int l2]) (n := 3) (Nat.le_of_ble_eq_true rfl)
  rw [lg_entry_eq]
  generalize (lg_sl ([.int l0, .int l1, .int l2]) ++ List.replicate (3 - (lg_sl ([.int l0, .int l1, .int l2])).length) Slot.unset).toArray = ls at hl ⊢
  replace hl : lv_has ls 3 [(0, .int l0), (1, .int l1), (2, .int l2)] := hl
  rw [f6_isIn] at hf
  have hgo : ∀ (H : Heap) (locs : List Loc), H = s.heap → locs = [] → va_P g.1 vwCl [] H → va_S A s.heap H locs → W p l e ({ frames := 0, cells := 0, slots := 0, locals := 0 }) s m ([.int l0, .int l1, .int l2] : List Value).toArray below meth c H locs 0 0 (MQ below (pQi g (fun r => r = res) [] A) ([.int l0, .int l1, .int l2] : List Value).toArray s 0 0 A) (F0 m 0 ls []) := by
    intro H locs hH hL hP hS
    refine lv_iload_n hx hb dX6_isIn_0 rfl (lv_at hl 0 rfl) ?_
    refine lv_iload_n hx hb dX6_isIn_1 rfl (lv_at hl 1 rfl) ?_
    refine lv_icmp_lt (tgt := 14) hx hb dX6_isIn_2 (by decide) (fun c_1 => ?_) (fun c_1 => ?_)
    · replace hf := (if_pos c_1).symm.trans hf
      refine lv_iconst (v := 0) hx hb dX6_isIn_14 (by decide) ?_
      replace hf := Option.some.inj hf
      subst hf
      exact W.zret (v := 0) hx hb hr rfl (fun t ht hW => ⟨⟨_, (), rfl, rfl, by show va_P g.1 vwCl _ t.heap; rw [ht]; exact hP⟩, hS.F ht⟩) hS.2.2 dX6_isIn_15 hlocks
    · replace hf := (if_neg c_1).symm.trans hf
      refine lv_iload_n hx hb dX6_isIn_5 rfl (lv_at hl 0 rfl) ?_
      refine lv_iload_n hx hb dX6_isIn_6 rfl (lv_at hl 2 rfl) ?_
      refine lv_icmp_gt (tgt := 14) hx hb dX6_isIn_7 (by decide) (fun c_2 => ?_) (fun c_2 => ?_)
      · replace hf := (if_pos c_2).symm.trans hf
        refine lv_iconst (v := 0) hx hb dX6_isIn_14 (by decide) ?_
        replace hf := Option.some.inj hf
        subst hf
        exact W.zret (v := 0) hx hb hr rfl (fun t ht hW => ⟨⟨_, (), rfl, rfl, by show va_P g.1 vwCl _ t.heap; rw [ht]; exact hP⟩, hS.F ht⟩) hS.2.2 dX6_isIn_15 hlocks
      · replace hf := (if_neg c_2).symm.trans hf
        refine lv_iconst (v := 1) hx hb dX6_isIn_10 (by decide) ?_
        refine lv_goto (tgt := 15) hx hb dX6_isIn_11 (by decide) ?_
        replace hf := Option.some.inj hf
        subst hf
        exact W.zret (v := 1) hx hb hr rfl (fun t ht hW => ⟨⟨_, (), rfl, rfl, by show va_P g.1 vwCl _ t.heap; rw [ht]; exact hP⟩, hS.F ht⟩) hS.2.2 dX6_isIn_15 hlocks
  exact hgo s.heap [] rfl rfl hP hS

set_option maxHeartbeats 4000000 in
set_option maxRecDepth 100000 in
theorem c6_clears (l : Launch) (g : gG) (t_p : Nat) (t_length : Int32) (t_p_text : Nat) (t_text : (Nat → Int32)) (t_cavities : Int32) (t_p_volume : Nat) (t_volume : (Nat → Int32)) (t_p_freeze : Nat) (t_freeze : (Nat → Int32)) (t_cores : Int32) (t_p_earlier : Nat) (t_earlier : (Nat → Int32)) (t_stages : Int32) (t_p_place : Nat) (t_place : (Nat → Int32)) (t_p_now : Nat) (t_now : (Nat → Int32)) (t_p_was : Nat) (t_was : (Nat → Int32)) (t_changes : Int32) (t_p_one : Nat) (t_one : (Nat → Int32)) (t_readCavities : Int32) (t_p_readCavity : Nat) (t_readCavity : (Nat → Int32)) (t_readCores : Int32) (t_p_readCore : Nat) (t_readCore : (Nat → Int32)) (t_readStages : Int32) (t_p_readStage : Nat) (t_readStage : (Nat → Int32)) (t_p_readRule : Nat) (t_readRule : (Nat → Int32)) (t_value : Int32) (t_ends : Int32) (t_screw : Int32) (sz : Nat) (N : Nat) (res : (Int32 × Int32 × Int32 × (Nat → Int32))) (hf : f6_clears N t_readRule = some res) : Met l yX6_clears wsX6_clears ({ frames := 0, cells := 0, slots := 0, locals := 0 }) (pP g [.ref t_p] sz (fl [wk6 g t_p t_length t_p_text t_text t_cavities t_p_volume t_volume t_p_freeze t_freeze t_cores t_p_earlier t_earlier t_stages t_p_place t_place t_p_now t_now t_p_was t_was t_changes t_p_one t_one t_readCavities t_p_readCavity t_readCavity t_readCores t_p_readCore t_readCore t_readStages t_p_readStage t_readStage t_p_readRule t_readRule t_value t_ends t_screw])) (pQv g (fl [wk6 g t_p t_length t_p_text t_text t_cavities t_p_volume t_volume t_p_freeze t_freeze t_cores t_p_earlier t_earlier t_stages t_p_place t_place t_p_now t_now t_p_was t_was t_changes t_p_one t_one res.1 t_p_readCavity t_readCavity res.2.1 t_p_readCore t_readCore res.2.2.1 t_p_readStage t_readStage t_p_readRule res.2.2.2 t_value t_ends t_screw]) (va_A (fl [wk6 g t_p t_length t_p_text t_text t_cavities t_p_volume t_volume t_p_freeze t_freeze t_cores t_p_earlier t_earlier t_stages t_p_place t_place t_p_now t_now t_p_was t_was t_changes t_p_one t_one t_readCavities t_p_readCavity t_readCavity t_readCores t_p_readCore t_readCore t_readStages t_p_readStage t_readStage t_p_readRule t_readRule t_value t_ends t_screw]) sz)) 0 0 (va_A (fl [wk6 g t_p t_length t_p_text t_text t_cavities t_p_volume t_volume t_p_freeze t_freeze t_cores t_p_earlier t_earlier t_stages t_p_place t_place t_p_now t_now t_p_was t_was t_changes t_p_one t_one t_readCavities t_p_readCavity t_readCavity t_readCores t_p_readCore t_readCore t_readStages t_p_readStage t_readStage t_p_readRule t_readRule t_value t_ends t_screw]) sz) := by
  refine Met.ofW (cc := cX6_clears) (maxL := 1) (ret := none) (by decide) rfl ?_
  intro p e s m args below meth c s₁ B hml hv
  obtain ⟨rfl, hsz, hP, hK, hD0, hG⟩ := hv
  have hx := B.exec
  have hb := B.bytes
  have hr := B.returns
  have hts := atoms_spec (ws := wsX6_clears) B.pre
  have hown : s.vm.findClass RX6 = some m.cls := findClass_of_methodNamed B.named
  have hlocks := B.notSynchronized
  subst hsz
  have hD := hD0.self (sz := s.heap.size)
  generalize hAe : va_A (fl [wk6 g t_p t_length t_p_text t_text t_cavities t_p_volume t_volume t_p_freeze t_freeze t_cores t_p_earlier t_earlier t_stages t_p_place t_place t_p_now t_now t_p_was t_was t_changes t_p_one t_one t_readCavities t_p_readCavity t_readCavity t_readCores t_p_readCore t_readCore t_readStages t_p_readStage t_readStage t_p_readRule t_readRule t_value t_ends t_screw]) s.heap.size = A at hD hG ⊢
  have hA : ∀ q : Nat, s.heap.size ≤ q → A q := fun q h => by rw [← hAe]; exact Or.inr h
  have hS : va_S A s.heap s.heap [] := va_S.rf
  have hin6 : ∀ w ∈ u_ws RX6 TX6 23, w ∈ wsX6_clears := by decide +kernel
  have L1 := hts (Cond.fieldLink RX6 64 "MouldShotsModel" "readCavities" "I") (by decide +kernel)
  have L2 := hts (Cond.fieldLink RX6 53 "MouldShotsModel" "readCores" "I") (by decide +kernel)
  have L3 := hts (Cond.fieldLink RX6 67 "MouldShotsModel" "readStages" "I") (by decide +kernel)
  have L4 := hts (Cond.fieldLink RX6 43 "MouldShotsModel" "readRule" "[I") (by decide +kernel)
  have hl := lv_entry ([.ref t_p]) (n := 1) (Nat.le_of_ble_eq_true rfl)
  rw [lg_entry_eq]
  generalize (lg_sl ([.ref t_p]) ++ List.replicate (1 - (lg_sl ([.ref t_p])).length) Slot.unset).toArray = ls at hl ⊢
  replace hl : lv_has ls 1 [(0, .ref t_p)] := hl
  rw [f6_clears] at hf
  have hgo : ∀ (H : Heap) (locs : List Loc), H = s.heap → locs = [] → va_P g.1 vwCl (fl [wk6 g t_p t_length t_p_text t_text t_cavities t_p_volume t_volume t_p_freeze t_freeze t_cores t_p_earlier t_earlier t_stages t_p_place t_place t_p_now t_now t_p_was t_was t_changes t_p_one t_one t_readCavities t_p_readCavity t_readCavity t_readCores t_p_readCore t_readCore t_readStages t_p_readStage t_readStage t_p_readRule t_readRule t_value t_ends t_screw]) H → va_S A s.heap H locs → W p l e ({ frames := 0, cells := 0, slots := 0, locals := 0 }) s m ([.ref t_p] : List Value).toArray below meth c H locs 0 0 (MQ below (pQv g (fl [wk6 g t_p t_length t_p_text t_text t_cavities t_p_volume t_volume t_p_freeze t_freeze t_cores t_p_earlier t_earlier t_stages t_p_place t_place t_p_now t_now t_p_was t_was t_changes t_p_one t_one res.1 t_p_readCavity t_readCavity res.2.1 t_p_readCore t_readCore res.2.2.1 t_p_readStage t_readStage t_p_readRule res.2.2.2 t_value t_ends t_screw]) A) ([.ref t_p] : List Value).toArray s 0 0 A) (F0 m 0 ls []) := by
    intro H locs hH hL hP hS
    refine lv_aload_n hx hb dX6_clears_0 rfl (lv_at hl 0 rfl) ?_
    refine lv_iconst (v := 0) hx hb dX6_clears_1 (by decide) ?_
    refine va_put (D := g.1) (ci := 6) (v := .int 0) (ty := .int) (C := RX6) (T := TX6) (N := 23) hx hb hts hin6 tyX6 tyX6_ok nmX6 hown hK.1 hP hD hS 0 rfl rfl 13 (by decide) L1 (fun _ h9 => h9) rfl (by decide +kernel) rfl rfl (Nat.le_of_ble_eq_true rfl) dX6_clears_2 (fun H locs hP hD hS => ?_)
    replace hP : va_P g.1 vwCl (fl [wk6 g t_p t_length t_p_text t_text t_cavities t_p_volume t_volume t_p_freeze t_freeze t_cores t_p_earlier t_earlier t_stages t_p_place t_place t_p_now t_now t_p_was t_was t_changes t_p_one t_one 0 t_p_readCavity t_readCavity t_readCores t_p_readCore t_readCore t_readStages t_p_readStage t_readStage t_p_readRule t_readRule t_value t_ends t_screw]) H := hP
    replace hD : va_D A (fl [wk6 g t_p t_length t_p_text t_text t_cavities t_p_volume t_volume t_p_freeze t_freeze t_cores t_p_earlier t_earlier t_stages t_p_place t_place t_p_now t_now t_p_was t_was t_changes t_p_one t_one 0 t_p_readCavity t_readCavity t_readCores t_p_readCore t_readCore t_readStages t_p_readStage t_readStage t_p_readRule t_readRule t_value t_ends t_screw]) := hD
    refine lv_aload_n hx hb dX6_clears_5 rfl (lv_at hl 0 rfl) ?_
    refine lv_iconst (v := 0) hx hb dX6_clears_6 (by decide) ?_
    refine va_put (D := g.1) (ci := 6) (v := .int 0) (ty := .int) (C := RX6) (T := TX6) (N := 23) hx hb hts hin6 tyX6 tyX6_ok nmX6 hown hK.1 hP hD hS 0 rfl rfl 15 (by decide) L2 (fun _ h9 => h9) rfl (by decide +kernel) rfl rfl (Nat.le_of_ble_eq_true rfl) dX6_clears_7 (fun H locs hP hD hS => ?_)
    replace hP : va_P g.1 vwCl (fl [wk6 g t_p t_length t_p_text t_text t_cavities t_p_volume t_volume t_p_freeze t_freeze t_cores t_p_earlier t_earlier t_stages t_p_place t_place t_p_now t_now t_p_was t_was t_changes t_p_one t_one 0 t_p_readCavity t_readCavity 0 t_p_readCore t_readCore t_readStages t_p_readStage t_readStage t_p_readRule t_readRule t_value t_ends t_screw]) H := hP
    replace hD : va_D A (fl [wk6 g t_p t_length t_p_text t_text t_cavities t_p_volume t_volume t_p_freeze t_freeze t_cores t_p_earlier t_earlier t_stages t_p_place t_place t_p_now t_now t_p_was t_was t_changes t_p_one t_one 0 t_p_readCavity t_readCavity 0 t_p_readCore t_readCore t_readStages t_p_readStage t_readStage t_p_readRule t_readRule t_value t_ends t_screw]) := hD
    refine lv_aload_n hx hb dX6_clears_10 rfl (lv_at hl 0 rfl) ?_
    refine lv_iconst (v := 0) hx hb dX6_clears_11 (by decide) ?_
    refine va_put (D := g.1) (ci := 6) (v := .int 0) (ty := .int) (C := RX6) (T := TX6) (N := 23) hx hb hts hin6 tyX6 tyX6_ok nmX6 hown hK.1 hP hD hS 0 rfl rfl 17 (by decide) L3 (fun _ h9 => h9) rfl (by decide +kernel) rfl rfl (Nat.le_of_ble_eq_true rfl) dX6_clears_12 (fun H locs hP hD hS => ?_)
    replace hP : va_P g.1 vwCl (fl [wk6 g t_p t_length t_p_text t_text t_cavities t_p_volume t_volume t_p_freeze t_freeze t_cores t_p_earlier t_earlier t_stages t_p_place t_place t_p_now t_now t_p_was t_was t_changes t_p_one t_one 0 t_p_readCavity t_readCavity 0 t_p_readCore t_readCore 0 t_p_readStage t_readStage t_p_readRule t_readRule t_value t_ends t_screw]) H := hP
    replace hD : va_D A (fl [wk6 g t_p t_length t_p_text t_text t_cavities t_p_volume t_volume t_p_freeze t_freeze t_cores t_p_earlier t_earlier t_stages t_p_place t_place t_p_now t_now t_p_was t_was t_changes t_p_one t_one 0 t_p_readCavity t_readCavity 0 t_p_readCore t_readCore 0 t_p_readStage t_readStage t_p_readRule t_readRule t_value t_ends t_screw]) := hD
    refine lv_aload_n hx hb dX6_clears_15 rfl (lv_at hl 0 rfl) ?_
    refine va_get (D := g.1) (ci := 6) (v := .ref t_p_readRule) (C := RX6) (T := TX6) (N := 23) hx hb hts hin6 hown hK.1 hP 0 rfl rfl 19 (by decide) L4 (fun _ h9 => h9) rfl dX6_clears_16 ?_
    refine lv_iconst (v := 0) hx hb dX6_clears_19 (by decide) ?_
    refine lv_bipush (v := 80) hx hb dX6_clears_20 (by decide) ?_
    obtain ⟨h_1, hf⟩ := if_some hf
    refine va_iast hx hb hK.1 hP hD hS 12 0 rfl rfl (ok_in h_1) dX6_clears_22 (fun H locs hP hD hS => ?_)
    replace hP : va_P g.1 vwCl (fl [wk6 g t_p t_length t_p_text t_text t_cavities t_p_volume t_volume t_p_freeze t_freeze t_cores t_p_earlier t_earlier t_stages t_p_place t_place t_p_now t_now t_p_was t_was t_changes t_p_one t_one 0 t_p_readCavity t_readCavity 0 t_p_readCore t_readCore 0 t_p_readStage t_readStage t_p_readRule (upd t_readRule (Int32.toNatClampNeg 0) 80) t_value t_ends t_screw]) H := hP
    replace hD : va_D A (fl [wk6 g t_p t_length t_p_text t_text t_cavities t_p_volume t_volume t_p_freeze t_freeze t_cores t_p_earlier t_earlier t_stages t_p_place t_place t_p_now t_now t_p_was t_was t_changes t_p_one t_one 0 t_p_readCavity t_readCavity 0 t_p_readCore t_readCore 0 t_p_readStage t_readStage t_p_readRule (upd t_readRule (Int32.toNatClampNeg 0) 80) t_value t_ends t_screw]) := hD
    refine lv_aload_n hx hb dX6_clears_23 rfl (lv_at hl 0 rfl) ?_
    refine va_get (D := g.1) (ci := 6) (v := .ref t_p_readRule) (C := RX6) (T := TX6) (N := 23) hx hb hts hin6 hown hK.1 hP 0 rfl rfl 19 (by decide) L4 (fun _ h9 => h9) rfl dX6_clears_24 ?_
    refine lv_iconst (v := 1) hx hb dX6_clears_27 (by decide) ?_
    refine lv_bipush (v := 90) hx hb dX6_clears_28 (by decide) ?_
    obtain ⟨h_2, hf⟩ := if_some hf
    refine va_iast hx hb hK.1 hP hD hS 12 0 rfl rfl (ok_in h_2) dX6_clears_30 (fun H locs hP hD hS => ?_)
    replace hP : va_P g.1 vwCl (fl [wk6 g t_p t_length t_p_text t_text t_cavities t_p_volume t_volume t_p_freeze t_freeze t_cores t_p_earlier t_earlier t_stages t_p_place t_place t_p_now t_now t_p_was t_was t_changes t_p_one t_one 0 t_p_readCavity t_readCavity 0 t_p_readCore t_readCore 0 t_p_readStage t_readStage t_p_readRule (upd (upd t_readRule (Int32.toNatClampNeg 0) 80) (Int32.toNatClampNeg 1) 90) t_value t_ends t_screw]) H := hP
    replace hD : va_D A (fl [wk6 g t_p t_length t_p_text t_text t_cavities t_p_volume t_volume t_p_freeze t_freeze t_cores t_p_earlier t_earlier t_stages t_p_place t_place t_p_now t_now t_p_was t_was t_changes t_p_one t_one 0 t_p_readCavity t_readCavity 0 t_p_readCore t_readCore 0 t_p_readStage t_readStage t_p_readRule (upd (upd t_readRule (Int32.toNatClampNeg 0) 80) (Int32.toNatClampNeg 1) 90) t_value t_ends t_screw]) := hD
    refine lv_aload_n hx hb dX6_clears_31 rfl (lv_at hl 0 rfl) ?_
    refine va_get (D := g.1) (ci := 6) (v := .ref t_p_readRule) (C := RX6) (T := TX6) (N := 23) hx hb hts hin6 hown hK.1 hP 0 rfl rfl 19 (by decide) L4 (fun _ h9 => h9) rfl dX6_clears_32 ?_
    refine lv_iconst (v := 2) hx hb dX6_clears_35 (by decide) ?_
    refine lv_bipush (v := 30) hx hb dX6_clears_36 (by decide) ?_
    obtain ⟨h_3, hf⟩ := if_some hf
    refine va_iast hx hb hK.1 hP hD hS 12 0 rfl rfl (ok_in h_3) dX6_clears_38 (fun H locs hP hD hS => ?_)
    replace hP : va_P g.1 vwCl (fl [wk6 g t_p t_length t_p_text t_text t_cavities t_p_volume t_volume t_p_freeze t_freeze t_cores t_p_earlier t_earlier t_stages t_p_place t_place t_p_now t_now t_p_was t_was t_changes t_p_one t_one 0 t_p_readCavity t_readCavity 0 t_p_readCore t_readCore 0 t_p_readStage t_readStage t_p_readRule (upd (upd (upd t_readRule (Int32.toNatClampNeg 0) 80) (Int32.toNatClampNeg 1) 90) (Int32.toNatClampNeg 2) 30) t_value t_ends t_screw]) H := hP
    replace hD : va_D A (fl [wk6 g t_p t_length t_p_text t_text t_cavities t_p_volume t_volume t_p_freeze t_freeze t_cores t_p_earlier t_earlier t_stages t_p_place t_place t_p_now t_now t_p_was t_was t_changes t_p_one t_one 0 t_p_readCavity t_readCavity 0 t_p_readCore t_readCore 0 t_p_readStage t_readStage t_p_readRule (upd (upd (upd t_readRule (Int32.toNatClampNeg 0) 80) (Int32.toNatClampNeg 1) 90) (Int32.toNatClampNeg 2) 30) t_value t_ends t_screw]) := hD
    refine lv_aload_n hx hb dX6_clears_39 rfl (lv_at hl 0 rfl) ?_
    refine va_get (D := g.1) (ci := 6) (v := .ref t_p_readRule) (C := RX6) (T := TX6) (N := 23) hx hb hts hin6 hown hK.1 hP 0 rfl rfl 19 (by decide) L4 (fun _ h9 => h9) rfl dX6_clears_40 ?_
    refine lv_iconst (v := 3) hx hb dX6_clears_43 (by decide) ?_
    refine lv_bipush (v := 40) hx hb dX6_clears_44 (by decide) ?_
    obtain ⟨h_4, hf⟩ := if_some hf
    refine va_iast hx hb hK.1 hP hD hS 12 0 rfl rfl (ok_in h_4) dX6_clears_46 (fun H locs hP hD hS => ?_)
    replace hP : va_P g.1 vwCl (fl [wk6 g t_p t_length t_p_text t_text t_cavities t_p_volume t_volume t_p_freeze t_freeze t_cores t_p_earlier t_earlier t_stages t_p_place t_place t_p_now t_now t_p_was t_was t_changes t_p_one t_one 0 t_p_readCavity t_readCavity 0 t_p_readCore t_readCore 0 t_p_readStage t_readStage t_p_readRule (upd (upd (upd (upd t_readRule (Int32.toNatClampNeg 0) 80) (Int32.toNatClampNeg 1) 90) (Int32.toNatClampNeg 2) 30) (Int32.toNatClampNeg 3) 40) t_value t_ends t_screw]) H := hP
    replace hD : va_D A (fl [wk6 g t_p t_length t_p_text t_text t_cavities t_p_volume t_volume t_p_freeze t_freeze t_cores t_p_earlier t_earlier t_stages t_p_place t_place t_p_now t_now t_p_was t_was t_changes t_p_one t_one 0 t_p_readCavity t_readCavity 0 t_p_readCore t_readCore 0 t_p_readStage t_readStage t_p_readRule (upd (upd (upd (upd t_readRule (Int32.toNatClampNeg 0) 80) (Int32.toNatClampNeg 1) 90) (Int32.toNatClampNeg 2) 30) (Int32.toNatClampNeg 3) 40) t_value t_ends t_screw]) := hD
    refine lv_aload_n hx hb dX6_clears_47 rfl (lv_at hl 0 rfl) ?_
    refine va_get (D := g.1) (ci := 6) (v := .ref t_p_readRule) (C := RX6) (T := TX6) (N := 23) hx hb hts hin6 hown hK.1 hP 0 rfl rfl 19 (by decide) L4 (fun _ h9 => h9) rfl dX6_clears_48 ?_
    refine lv_iconst (v := 4) hx hb dX6_clears_51 (by decide) ?_
    refine lv_iconst (v := 5) hx hb dX6_clears_52 (by decide) ?_
    obtain ⟨h_5, hf⟩ := if_some hf
    refine va_iast hx hb hK.1 hP hD hS 12 0 rfl rfl (ok_in h_5) dX6_clears_53 (fun H locs hP hD hS => ?_)
    replace hP : va_P g.1 vwCl (fl [wk6 g t_p t_length t_p_text t_text t_cavities t_p_volume t_volume t_p_freeze t_freeze t_cores t_p_earlier t_earlier t_stages t_p_place t_place t_p_now t_now t_p_was t_was t_changes t_p_one t_one 0 t_p_readCavity t_readCavity 0 t_p_readCore t_readCore 0 t_p_readStage t_readStage t_p_readRule (upd (upd (upd (upd (upd t_readRule (Int32.toNatClampNeg 0) 80) (Int32.toNatClampNeg 1) 90) (Int32.toNatClampNeg 2) 30) (Int32.toNatClampNeg 3) 40) (Int32.toNatClampNeg 4) 5) t_value t_ends t_screw]) H := hP
    replace hD : va_D A (fl [wk6 g t_p t_length t_p_text t_text t_cavities t_p_volume t_volume t_p_freeze t_freeze t_cores t_p_earlier t_earlier t_stages t_p_place t_place t_p_now t_now t_p_was t_was t_changes t_p_one t_one 0 t_p_readCavity t_readCavity 0 t_p_readCore t_readCore 0 t_p_readStage t_readStage t_p_readRule (upd (upd (upd (upd (upd t_readRule (Int32.toNatClampNeg 0) 80) (Int32.toNatClampNeg 1) 90) (Int32.toNatClampNeg 2) 30) (Int32.toNatClampNeg 3) 40) (Int32.toNatClampNeg 4) 5) t_value t_ends t_screw]) := hD
    refine lv_aload_n hx hb dX6_clears_54 rfl (lv_at hl 0 rfl) ?_
    refine va_get (D := g.1) (ci := 6) (v := .ref t_p_readRule) (C := RX6) (T := TX6) (N := 23) hx hb hts hin6 hown hK.1 hP 0 rfl rfl 19 (by decide) L4 (fun _ h9 => h9) rfl dX6_clears_55 ?_
    refine lv_iconst (v := 5) hx hb dX6_clears_58 (by decide) ?_
    refine lv_bipush (v := 8) hx hb dX6_clears_59 (by decide) ?_
    obtain ⟨h_6, hf⟩ := if_some hf
    refine va_iast hx hb hK.1 hP hD hS 12 0 rfl rfl (ok_in h_6) dX6_clears_61 (fun H locs hP hD hS => ?_)
    replace hP : va_P g.1 vwCl (fl [wk6 g t_p t_length t_p_text t_text t_cavities t_p_volume t_volume t_p_freeze t_freeze t_cores t_p_earlier t_earlier t_stages t_p_place t_place t_p_now t_now t_p_was t_was t_changes t_p_one t_one 0 t_p_readCavity t_readCavity 0 t_p_readCore t_readCore 0 t_p_readStage t_readStage t_p_readRule (upd (upd (upd (upd (upd (upd t_readRule (Int32.toNatClampNeg 0) 80) (Int32.toNatClampNeg 1) 90) (Int32.toNatClampNeg 2) 30) (Int32.toNatClampNeg 3) 40) (Int32.toNatClampNeg 4) 5) (Int32.toNatClampNeg 5) 8) t_value t_ends t_screw]) H := hP
    replace hD : va_D A (fl [wk6 g t_p t_length t_p_text t_text t_cavities t_p_volume t_volume t_p_freeze t_freeze t_cores t_p_earlier t_earlier t_stages t_p_place t_place t_p_now t_now t_p_was t_was t_changes t_p_one t_one 0 t_p_readCavity t_readCavity 0 t_p_readCore t_readCore 0 t_p_readStage t_readStage t_p_readRule (upd (upd (upd (upd (upd (upd t_readRule (Int32.toNatClampNeg 0) 80) (Int32.toNatClampNeg 1) 90) (Int32.toNatClampNeg 2) 30) (Int32.toNatClampNeg 3) 40) (Int32.toNatClampNeg 4) 5) (Int32.toNatClampNeg 5) 8) t_value t_ends t_screw]) := hD
    replace hf := Option.some.inj hf
    subst hf
    exact W.vret hx hb hr (fun t ht hW => ⟨⟨(), rfl, trivial, by show va_P g.1 vwCl _ t.heap; rw [ht]; exact hP⟩, hS.F ht⟩) hS.2.2 dX6_clears_62 hlocks
  exact hgo s.heap [] rfl rfl hP hS

set_option maxHeartbeats 4000000 in
set_option maxRecDepth 100000 in
theorem c6_takes (l : Launch) (g : gG) (t_p : Nat) (t_length : Int32) (t_p_text : Nat) (t_text : (Nat → Int32)) (t_cavities : Int32) (t_p_volume : Nat) (t_volume : (Nat → Int32)) (t_p_freeze : Nat) (t_freeze : (Nat → Int32)) (t_cores : Int32) (t_p_earlier : Nat) (t_earlier : (Nat → Int32)) (t_stages : Int32) (t_p_place : Nat) (t_place : (Nat → Int32)) (t_p_now : Nat) (t_now : (Nat → Int32)) (t_p_was : Nat) (t_was : (Nat → Int32)) (t_changes : Int32) (t_p_one : Nat) (t_one : (Nat → Int32)) (t_readCavities : Int32) (t_p_readCavity : Nat) (t_readCavity : (Nat → Int32)) (t_readCores : Int32) (t_p_readCore : Nat) (t_readCore : (Nat → Int32)) (t_readStages : Int32) (t_p_readStage : Nat) (t_readStage : (Nat → Int32)) (t_p_readRule : Nat) (t_readRule : (Nat → Int32)) (t_value : Int32) (t_ends : Int32) (t_screw : Int32) (sz : Nat) (N : Nat) (res : (Int32 × (Nat → Int32) × (Nat → Int32) × Int32 × (Nat → Int32) × Int32 × (Nat → Int32) × (Nat → Int32) × Int32)) (hf : f6_takes N t_volume t_freeze t_earlier t_place t_now t_readCavities t_readCavity t_readCores t_readCore t_readStages t_readStage t_readRule = some res) : Met l yX6_takes wsX6_takes ({ frames := 0, cells := 0, slots := 0, locals := 0 }) (pP g [.ref t_p] sz (fl [wk6 g t_p t_length t_p_text t_text t_cavities t_p_volume t_volume t_p_freeze t_freeze t_cores t_p_earlier t_earlier t_stages t_p_place t_place t_p_now t_now t_p_was t_was t_changes t_p_one t_one t_readCavities t_p_readCavity t_readCavity t_readCores t_p_readCore t_readCore t_readStages t_p_readStage t_readStage t_p_readRule t_readRule t_value t_ends t_screw])) (pQv g (fl [wk6 g t_p t_length t_p_text t_text res.1 t_p_volume res.2.1 t_p_freeze res.2.2.1 res.2.2.2.1 t_p_earlier res.2.2.2.2.1 res.2.2.2.2.2.1 t_p_place res.2.2.2.2.2.2.1 t_p_now res.2.2.2.2.2.2.2.1 t_p_was t_was res.2.2.2.2.2.2.2.2 t_p_one t_one t_readCavities t_p_readCavity t_readCavity t_readCores t_p_readCore t_readCore t_readStages t_p_readStage t_readStage t_p_readRule t_readRule t_value t_ends t_screw]) (va_A (fl [wk6 g t_p t_length t_p_text t_text t_cavities t_p_volume t_volume t_p_freeze t_freeze t_cores t_p_earlier t_earlier t_stages t_p_place t_place t_p_now t_now t_p_was t_was t_changes t_p_one t_one t_readCavities t_p_readCavity t_readCavity t_readCores t_p_readCore t_readCore t_readStages t_p_readStage t_readStage t_p_readRule t_readRule t_value t_ends t_screw]) sz)) 0 0 (va_A (fl [wk6 g t_p t_length t_p_text t_text t_cavities t_p_volume t_volume t_p_freeze t_freeze t_cores t_p_earlier t_earlier t_stages t_p_place t_place t_p_now t_now t_p_was t_was t_changes t_p_one t_one t_readCavities t_p_readCavity t_readCavity t_readCores t_p_readCore t_readCore t_readStages t_p_readStage t_readStage t_p_readRule t_readRule t_value t_ends t_screw]) sz) := by
  refine Met.ofW (cc := cX6_takes) (maxL := 2) (ret := none) (by decide) rfl ?_
  intro p e s m args below meth c s₁ B hml hv
  obtain ⟨rfl, hsz, hP, hK, hD0, hG⟩ := hv
  have hx := B.exec
  have hb := B.bytes
  have hr := B.returns
  have hts := atoms_spec (ws := wsX6_takes) B.pre
  have hown : s.vm.findClass RX6 = some m.cls := findClass_of_methodNamed B.named
  have hlocks := B.notSynchronized
  subst hsz
  have hD := hD0.self (sz := s.heap.size)
  generalize hAe : va_A (fl [wk6 g t_p t_length t_p_text t_text t_cavities t_p_volume t_volume t_p_freeze t_freeze t_cores t_p_earlier t_earlier t_stages t_p_place t_place t_p_now t_now t_p_was t_was t_changes t_p_one t_one t_readCavities t_p_readCavity t_readCavity t_readCores t_p_readCore t_readCore t_readStages t_p_readStage t_readStage t_p_readRule t_readRule t_value t_ends t_screw]) s.heap.size = A at hD hG ⊢
  have hA : ∀ q : Nat, s.heap.size ≤ q → A q := fun q h => by rw [← hAe]; exact Or.inr h
  have hS : va_S A s.heap s.heap [] := va_S.rf
  have hin6 : ∀ w ∈ u_ws RX6 TX6 23, w ∈ wsX6_takes := by decide +kernel
  have L1 := hts (Cond.fieldLink RX6 64 "MouldShotsModel" "readCavities" "I") (by decide +kernel)
  have L2 := hts (Cond.fieldLink RX6 70 "MouldShotsModel" "cavities" "I") (by decide +kernel)
  have L3 := hts (Cond.fieldLink RX6 53 "MouldShotsModel" "readCores" "I") (by decide +kernel)
  have L4 := hts (Cond.fieldLink RX6 73 "MouldShotsModel" "cores" "I") (by decide +kernel)
  have L5 := hts (Cond.fieldLink RX6 67 "MouldShotsModel" "readStages" "I") (by decide +kernel)
  have L6 := hts (Cond.fieldLink RX6 76 "MouldShotsModel" "stages" "I") (by decide +kernel)
  have L7 := hts (Cond.fieldLink RX6 25 "MouldShotsModel" "now" "[I") (by decide +kernel)
  have L8 := hts (Cond.fieldLink RX6 13 "MouldShotsModel" "volume" "[I") (by decide +kernel)
  have L9 := hts (Cond.fieldLink RX6 34 "MouldShotsModel" "readCavity" "[I") (by decide +kernel)
  have L10 := hts (Cond.fieldLink RX6 16 "MouldShotsModel" "freeze" "[I") (by decide +kernel)
  have L11 := hts (Cond.fieldLink RX6 19 "MouldShotsModel" "earlier" "[I") (by decide +kernel)
  have L12 := hts (Cond.fieldLink RX6 37 "MouldShotsModel" "readCore" "[I") (by decide +kernel)
  have L13 := hts (Cond.fieldLink RX6 22 "MouldShotsModel" "place" "[I") (by decide +kernel)
  have L14 := hts (Cond.fieldLink RX6 40 "MouldShotsModel" "readStage" "[I") (by decide +kernel)
  have L15 := hts (Cond.fieldLink RX6 79 "MouldShotsModel" "changes" "I") (by decide +kernel)
  have L16 := hts (Cond.fieldLink RX6 43 "MouldShotsModel" "readRule" "[I") (by decide +kernel)
  have w_149 : ∀ (k_114 : Int32 → Int32 → (Nat → Int32) → (Nat → Int32) → Int32 → (Nat → Int32) → Int32 → (Nat → Int32) → (Nat → Int32) → (Nat → Int32) → (Nat → Int32) → (Nat → Int32) → Option (Int32 × (Nat → Int32) × (Nat → Int32) × Int32 × (Nat → Int32) × Int32 × (Nat → Int32) × (Nat → Int32) × Int32)), (∀ (v1 : Int32) (t_cavities : Int32) (t_volume : (Nat → Int32)) (t_freeze : (Nat → Int32)) (t_cores : Int32) (t_earlier : (Nat → Int32)) (t_stages : Int32) (t_place : (Nat → Int32)) (t_now : (Nat → Int32)) (t_changes : Int32) (H : Heap) (locs : List Loc) (ls : Array Slot), k_114 v1 t_cavities t_volume t_freeze t_cores t_earlier t_stages t_place t_now t_readCore t_readStage t_readRule = some res → va_P g.1 vwCl (fl [wk6 g t_p t_length t_p_text t_text t_cavities t_p_volume t_volume t_p_freeze t_freeze t_cores t_p_earlier t_earlier t_stages t_p_place t_place t_p_now t_now t_p_was t_was t_changes t_p_one t_one t_readCavities t_p_readCavity t_readCavity t_readCores t_p_readCore t_readCore t_readStages t_p_readStage t_readStage t_p_readRule t_readRule t_value t_ends t_screw]) H → va_D A (fl [wk6 g t_p t_length t_p_text t_text t_cavities t_p_volume t_volume t_p_freeze t_freeze t_cores t_p_earlier t_earlier t_stages t_p_place t_place t_p_now t_now t_p_was t_was t_changes t_p_one t_one t_readCavities t_p_readCavity t_readCavity t_readCores t_p_readCore t_readCore t_readStages t_p_readStage t_readStage t_p_readRule t_readRule t_value t_ends t_screw]) → va_S A s.heap H locs → lv_has ls 2 [(0, .ref t_p), (1, .int v1)] → W p l e ({ frames := 0, cells := 0, slots := 0, locals := 0 }) s m ([.ref t_p] : List Value).toArray below meth c H locs 0 0 (MQ below (pQv g (fl [wk6 g t_p t_length t_p_text t_text res.1 t_p_volume res.2.1 t_p_freeze res.2.2.1 res.2.2.2.1 t_p_earlier res.2.2.2.2.1 res.2.2.2.2.2.1 t_p_place res.2.2.2.2.2.2.1 t_p_now res.2.2.2.2.2.2.2.1 t_p_was t_was res.2.2.2.2.2.2.2.2 t_p_one t_one t_readCavities t_p_readCavity t_readCavity t_readCores t_p_readCore t_readCore t_readStages t_p_readStage t_readStage t_p_readRule t_readRule t_value t_ends t_screw]) A) ([.ref t_p] : List Value).toArray s 0 0 A) (F0 m 114 ls [])) → ∀ (v1 : Int32) (s1 : Int32) (s2 : Int32) (t_cavities : Int32) (t_volume : (Nat → Int32)) (t_freeze : (Nat → Int32)) (t_cores : Int32) (t_earlier : (Nat → Int32)) (t_stages : Int32) (t_place : (Nat → Int32)) (t_now : (Nat → Int32)) (t_changes : Int32) (H : Heap) (locs : List Loc) (ls : Array Slot), f6_takes_149 k_114 N v1 s1 s2 t_cavities t_volume t_freeze t_cores t_earlier t_stages t_place t_now t_readCore t_readStage t_readRule = some res → va_P g.1 vwCl (fl [wk6 g t_p t_length t_p_text t_text t_cavities t_p_volume t_volume t_p_freeze t_freeze t_cores t_p_earlier t_earlier t_stages t_p_place t_place t_p_now t_now t_p_was t_was t_changes t_p_one t_one t_readCavities t_p_readCavity t_readCavity t_readCores t_p_readCore t_readCore t_readStages t_p_readStage t_readStage t_p_readRule t_readRule t_value t_ends t_screw]) H → va_D A (fl [wk6 g t_p t_length t_p_text t_text t_cavities t_p_volume t_volume t_p_freeze t_freeze t_cores t_p_earlier t_earlier t_stages t_p_place t_place t_p_now t_now t_p_was t_was t_changes t_p_one t_one t_readCavities t_p_readCavity t_readCavity t_readCores t_p_readCore t_readCore t_readStages t_p_readStage t_readStage t_p_readRule t_readRule t_value t_ends t_screw]) → va_S A s.heap H locs → lv_has ls 2 [(0, .ref t_p), (1, .int v1)] → W p l e ({ frames := 0, cells := 0, slots := 0, locals := 0 }) s m ([.ref t_p] : List Value).toArray below meth c H locs 0 0 (MQ below (pQv g (fl [wk6 g t_p t_length t_p_text t_text res.1 t_p_volume res.2.1 t_p_freeze res.2.2.1 res.2.2.2.1 t_p_earlier res.2.2.2.2.1 res.2.2.2.2.2.1 t_p_place res.2.2.2.2.2.2.1 t_p_now res.2.2.2.2.2.2.2.1 t_p_was t_was res.2.2.2.2.2.2.2.2 t_p_one t_one t_readCavities t_p_readCavity t_readCavity t_readCores t_p_readCore t_readCore t_readStages t_p_readStage t_readStage t_p_readRule t_readRule t_value t_ends t_screw]) A) ([.ref t_p] : List Value).toArray s 0 0 A) (F0 m 149 ls [.int s2, .int s1, .ref t_p_earlier]) := by
    intro k_114 hk_114 v1 s1 s2 t_cavities t_volume t_freeze t_cores t_earlier t_stages t_place t_now t_changes H locs ls hf hP hD hS hl
    rw [f6_takes_149] at hf
    obtain ⟨h_23, hf⟩ := if_some hf
    refine va_iast hx hb hK.1 hP hD hS 4 0 rfl rfl (ok_in h_23) dX6_takes_149 (fun H locs hP hD hS => ?_)
    replace hP : va_P g.1 vwCl (fl [wk6 g t_p t_length t_p_text t_text t_cavities t_p_volume t_volume t_p_freeze t_freeze t_cores t_p_earlier (upd t_earlier (Int32.toNatClampNeg s1) s2) t_stages t_p_place t_place t_p_now t_now t_p_was t_was t_changes t_p_one t_one t_readCavities t_p_readCavity t_readCavity t_readCores t_p_readCore t_readCore t_readStages t_p_readStage t_readStage t_p_readRule t_readRule t_value t_ends t_screw]) H := hP
    replace hD : va_D A (fl [wk6 g t_p t_length t_p_text t_text t_cavities t_p_volume t_volume t_p_freeze t_freeze t_cores t_p_earlier (upd t_earlier (Int32.toNatClampNeg s1) s2) t_stages t_p_place t_place t_p_now t_now t_p_was t_was t_changes t_p_one t_one t_readCavities t_p_readCavity t_readCavity t_readCores t_p_readCore t_readCore t_readStages t_p_readStage t_readStage t_p_readRule t_readRule t_value t_ends t_screw]) := hD
    refine lv_iinc (v := v1 + 1) (lv' := [(1, .int (v1 + 1)), (0, .ref t_p)]) hx hb dX6_takes_150 hl (k := 1) rfl rfl (by decide) rfl (fun ls hl => ?_)
    refine lv_goto (tgt := 114) hx hb dX6_takes_153 (by decide) ?_
    exact hk_114 (v1 + 1) t_cavities t_volume t_freeze t_cores (upd t_earlier (Int32.toNatClampNeg s1) s2) t_stages t_place t_now t_changes H locs ls hf hP hD hS (lv_sub hl [1, 0] rfl)
  have w_208 : ∀ n : Nat, ∀ (v1 : Int32) (t_cavities : Int32) (t_volume : (Nat → Int32)) (t_freeze : (Nat → Int32)) (t_cores : Int32) (t_earlier : (Nat → Int32)) (t_stages : Int32) (t_place : (Nat → Int32)) (t_now : (Nat → Int32)) (t_changes : Int32) (H : Heap) (locs : List Loc) (ls : Array Slot), f6_takes_208  N n v1 t_cavities t_volume t_freeze t_cores t_earlier t_stages t_place t_now t_readRule = some res → va_P g.1 vwCl (fl [wk6 g t_p t_length t_p_text t_text t_cavities t_p_volume t_volume t_p_freeze t_freeze t_cores t_p_earlier t_earlier t_stages t_p_place t_place t_p_now t_now t_p_was t_was t_changes t_p_one t_one t_readCavities t_p_readCavity t_readCavity t_readCores t_p_readCore t_readCore t_readStages t_p_readStage t_readStage t_p_readRule t_readRule t_value t_ends t_screw]) H → va_D A (fl [wk6 g t_p t_length t_p_text t_text t_cavities t_p_volume t_volume t_p_freeze t_freeze t_cores t_p_earlier t_earlier t_stages t_p_place t_place t_p_now t_now t_p_was t_was t_changes t_p_one t_one t_readCavities t_p_readCavity t_readCavity t_readCores t_p_readCore t_readCore t_readStages t_p_readStage t_readStage t_p_readRule t_readRule t_value t_ends t_screw]) → va_S A s.heap H locs → lv_has ls 2 [(0, .ref t_p), (1, .int v1)] → W p l e ({ frames := 0, cells := 0, slots := 0, locals := 0 }) s m ([.ref t_p] : List Value).toArray below meth c H locs 0 0 (MQ below (pQv g (fl [wk6 g t_p t_length t_p_text t_text res.1 t_p_volume res.2.1 t_p_freeze res.2.2.1 res.2.2.2.1 t_p_earlier res.2.2.2.2.1 res.2.2.2.2.2.1 t_p_place res.2.2.2.2.2.2.1 t_p_now res.2.2.2.2.2.2.2.1 t_p_was t_was res.2.2.2.2.2.2.2.2 t_p_one t_one t_readCavities t_p_readCavity t_readCavity t_readCores t_p_readCore t_readCore t_readStages t_p_readStage t_readStage t_p_readRule t_readRule t_value t_ends t_screw]) A) ([.ref t_p] : List Value).toArray s 0 0 A) (F0 m 208 ls []) := by
    intro  n
    induction n with
    | zero => intro v1 t_cavities t_volume t_freeze t_cores t_earlier t_stages t_place t_now t_changes H locs ls hf; exact no_some hf
    | succ n ih =>
      intro v1 t_cavities t_volume t_freeze t_cores t_earlier t_stages t_place t_now t_changes H locs ls hf hP hD hS hl
      rw [f6_takes_208] at hf
      refine lv_iload_n hx hb dX6_takes_208 rfl (lv_at hl 1 rfl) ?_
      refine lv_bipush (v := 6) hx hb dX6_takes_209 (by decide) ?_
      refine lv_icmp_ge (tgt := 236) hx hb dX6_takes_211 (by decide) (fun c_19 => ?_) (fun c_19 => ?_)
      · replace hf := (if_pos c_19).symm.trans hf
        refine lv_aload_n hx hb dX6_takes_236 rfl (lv_at hl 0 rfl) ?_
        refine va_get (D := g.1) (ci := 6) (v := .ref t_p_now) (C := RX6) (T := TX6) (N := 23) hx hb hts hin6 hown hK.1 hP 0 rfl rfl 9 (by decide) L7 (fun _ h9 => h9) rfl dX6_takes_237 ?_
        refine lv_sipush (v := 1018) hx hb dX6_takes_240 (by decide) ?_
        refine lv_iconst (v := 2) hx hb dX6_takes_243 (by decide) ?_
        obtain ⟨h_20, hf⟩ := if_some hf
        refine va_iast hx hb hK.1 hP hD hS 6 0 rfl rfl (ok_in h_20) dX6_takes_244 (fun H locs hP hD hS => ?_)
        replace hP : va_P g.1 vwCl (fl [wk6 g t_p t_length t_p_text t_text t_cavities t_p_volume t_volume t_p_freeze t_freeze t_cores t_p_earlier t_earlier t_stages t_p_place t_place t_p_now (upd t_now (Int32.toNatClampNeg 1018) 2) t_p_was t_was t_changes t_p_one t_one t_readCavities t_p_readCavity t_readCavity t_readCores t_p_readCore t_readCore t_readStages t_p_readStage t_readStage t_p_readRule t_readRule t_value t_ends t_screw]) H := hP
        replace hD : va_D A (fl [wk6 g t_p t_length t_p_text t_text t_cavities t_p_volume t_volume t_p_freeze t_freeze t_cores t_p_earlier t_earlier t_stages t_p_place t_place t_p_now (upd t_now (Int32.toNatClampNeg 1018) 2) t_p_was t_was t_changes t_p_one t_one t_readCavities t_p_readCavity t_readCavity t_readCores t_p_readCore t_readCore t_readStages t_p_readStage t_readStage t_p_readRule t_readRule t_value t_ends t_screw]) := hD
        refine lv_aload_n hx hb dX6_takes_245 rfl (lv_at hl 0 rfl) ?_
        refine lv_iconst (v := 0) hx hb dX6_takes_246 (by decide) ?_
        refine va_put (D := g.1) (ci := 6) (v := .int 0) (ty := .int) (C := RX6) (T := TX6) (N := 23) hx hb hts hin6 tyX6 tyX6_ok nmX6 hown hK.1 hP hD hS 0 rfl rfl 11 (by decide) L15 (fun _ h9 => h9) rfl (by decide +kernel) rfl rfl (Nat.le_of_ble_eq_true rfl) dX6_takes_247 (fun H locs hP hD hS => ?_)
        replace hP : va_P g.1 vwCl (fl [wk6 g t_p t_length t_p_text t_text t_cavities t_p_volume t_volume t_p_freeze t_freeze t_cores t_p_earlier t_earlier t_stages t_p_place t_place t_p_now (upd t_now (Int32.toNatClampNeg 1018) 2) t_p_was t_was 0 t_p_one t_one t_readCavities t_p_readCavity t_readCavity t_readCores t_p_readCore t_readCore t_readStages t_p_readStage t_readStage t_p_readRule t_readRule t_value t_ends t_screw]) H := hP
        replace hD : va_D A (fl [wk6 g t_p t_length t_p_text t_text t_cavities t_p_volume t_volume t_p_freeze t_freeze t_cores t_p_earlier t_earlier t_stages t_p_place t_place t_p_now (upd t_now (Int32.toNatClampNeg 1018) 2) t_p_was t_was 0 t_p_one t_one t_readCavities t_p_readCavity t_readCavity t_readCores t_p_readCore t_readCore t_readStages t_p_readStage t_readStage t_p_readRule t_readRule t_value t_ends t_screw]) := hD
        replace hf := Option.some.inj hf
        subst hf
        exact W.vret hx hb hr (fun t ht hW => ⟨⟨(), rfl, trivial, by show va_P g.1 vwCl _ t.heap; rw [ht]; exact hP⟩, hS.F ht⟩) hS.2.2 dX6_takes_250 hlocks
      · replace hf := (if_neg c_19).symm.trans hf
        refine lv_aload_n hx hb dX6_takes_214 rfl (lv_at hl 0 rfl) ?_
        refine va_get (D := g.1) (ci := 6) (v := .ref t_p_now) (C := RX6) (T := TX6) (N := 23) hx hb hts hin6 hown hK.1 hP 0 rfl rfl 9 (by decide) L7 (fun _ h9 => h9) rfl dX6_takes_215 ?_
        refine lv_sipush (v := 1149) hx hb dX6_takes_218 (by decide) ?_
        refine lv_iload_n hx hb dX6_takes_221 rfl (lv_at hl 1 rfl) ?_
        refine lv_iadd hx hb dX6_takes_222 ?_
        refine lv_aload_n hx hb dX6_takes_223 rfl (lv_at hl 0 rfl) ?_
        refine va_get (D := g.1) (ci := 6) (v := .ref t_p_readRule) (C := RX6) (T := TX6) (N := 23) hx hb hts hin6 hown hK.1 hP 0 rfl rfl 19 (by decide) L16 (fun _ h9 => h9) rfl dX6_takes_224 ?_
        refine lv_iload_n hx hb dX6_takes_227 rfl (lv_at hl 1 rfl) ?_
        obtain ⟨h_21, hf⟩ := if_some hf
        refine va_iald hx hb hK.1 hP 12 0 rfl rfl (ok_in h_21) dX6_takes_228 ?_
        obtain ⟨h_22, hf⟩ := if_some hf
        refine va_iast hx hb hK.1 hP hD hS 6 0 rfl rfl (ok_in h_22) dX6_takes_229 (fun H locs hP hD hS => ?_)
        replace hP : va_P g.1 vwCl (fl [wk6 g t_p t_length t_p_text t_text t_cavities t_p_volume t_volume t_p_freeze t_freeze t_cores t_p_earlier t_earlier t_stages t_p_place t_place t_p_now (upd t_now (Int32.toNatClampNeg (1149 + v1)) (t_readRule (Int32.toNatClampNeg v1))) t_p_was t_was t_changes t_p_one t_one t_readCavities t_p_readCavity t_readCavity t_readCores t_p_readCore t_readCore t_readStages t_p_readStage t_readStage t_p_readRule t_readRule t_value t_ends t_screw]) H := hP
        replace hD : va_D A (fl [wk6 g t_p t_length t_p_text t_text t_cavities t_p_volume t_volume t_p_freeze t_freeze t_cores t_p_earlier t_earlier t_stages t_p_place t_place t_p_now (upd t_now (Int32.toNatClampNeg (1149 + v1)) (t_readRule (Int32.toNatClampNeg v1))) t_p_was t_was t_changes t_p_one t_one t_readCavities t_p_readCavity t_readCavity t_readCores t_p_readCore t_readCore t_readStages t_p_readStage t_readStage t_p_readRule t_readRule t_value t_ends t_screw]) := hD
        refine lv_iinc (v := v1 + 1) (lv' := [(1, .int (v1 + 1)), (0, .ref t_p)]) hx hb dX6_takes_230 hl (k := 1) rfl rfl (by decide) rfl (fun ls hl => ?_)
        refine lv_goto (tgt := 208) hx hb dX6_takes_233 (by decide) ?_
        exact ih (v1 + 1) t_cavities t_volume t_freeze t_cores t_earlier t_stages t_place (upd t_now (Int32.toNatClampNeg (1149 + v1)) (t_readRule (Int32.toNatClampNeg v1))) t_changes H locs ls hf hP hD hS (lv_sub hl [1, 0] rfl)
  have w_158 : ∀ n : Nat, ∀ (v1 : Int32) (t_cavities : Int32) (t_volume : (Nat → Int32)) (t_freeze : (Nat → Int32)) (t_cores : Int32) (t_earlier : (Nat → Int32)) (t_stages : Int32) (t_place : (Nat → Int32)) (t_now : (Nat → Int32)) (t_changes : Int32) (H : Heap) (locs : List Loc) (ls : Array Slot), f6_takes_158  N n v1 t_cavities t_volume t_freeze t_cores t_earlier t_stages t_place t_now t_readStage t_readRule = some res → va_P g.1 vwCl (fl [wk6 g t_p t_length t_p_text t_text t_cavities t_p_volume t_volume t_p_freeze t_freeze t_cores t_p_earlier t_earlier t_stages t_p_place t_place t_p_now t_now t_p_was t_was t_changes t_p_one t_one t_readCavities t_p_readCavity t_readCavity t_readCores t_p_readCore t_readCore t_readStages t_p_readStage t_readStage t_p_readRule t_readRule t_value t_ends t_screw]) H → va_D A (fl [wk6 g t_p t_length t_p_text t_text t_cavities t_p_volume t_volume t_p_freeze t_freeze t_cores t_p_earlier t_earlier t_stages t_p_place t_place t_p_now t_now t_p_was t_was t_changes t_p_one t_one t_readCavities t_p_readCavity t_readCavity t_readCores t_p_readCore t_readCore t_readStages t_p_readStage t_readStage t_p_readRule t_readRule t_value t_ends t_screw]) → va_S A s.heap H locs → lv_has ls 2 [(0, .ref t_p), (1, .int v1)] → W p l e ({ frames := 0, cells := 0, slots := 0, locals := 0 }) s m ([.ref t_p] : List Value).toArray below meth c H locs 0 0 (MQ below (pQv g (fl [wk6 g t_p t_length t_p_text t_text res.1 t_p_volume res.2.1 t_p_freeze res.2.2.1 res.2.2.2.1 t_p_earlier res.2.2.2.2.1 res.2.2.2.2.2.1 t_p_place res.2.2.2.2.2.2.1 t_p_now res.2.2.2.2.2.2.2.1 t_p_was t_was res.2.2.2.2.2.2.2.2 t_p_one t_one t_readCavities t_p_readCavity t_readCavity t_readCores t_p_readCore t_readCore t_readStages t_p_readStage t_readStage t_p_readRule t_readRule t_value t_ends t_screw]) A) ([.ref t_p] : List Value).toArray s 0 0 A) (F0 m 158 ls []) := by
    intro  n
    induction n with
    | zero => intro v1 t_cavities t_volume t_freeze t_cores t_earlier t_stages t_place t_now t_changes H locs ls hf; exact no_some hf
    | succ n ih =>
      intro v1 t_cavities t_volume t_freeze t_cores t_earlier t_stages t_place t_now t_changes H locs ls hf hP hD hS hl
      rw [f6_takes_158] at hf
      refine lv_iload_n hx hb dX6_takes_158 rfl (lv_at hl 1 rfl) ?_
      refine lv_aload_n hx hb dX6_takes_159 rfl (lv_at hl 0 rfl) ?_
      refine va_get (D := g.1) (ci := 6) (v := .int t_stages) (C := RX6) (T := TX6) (N := 23) hx hb hts hin6 hown hK.1 hP 0 rfl rfl 7 (by decide) L6 (fun _ h9 => h9) rfl dX6_takes_160 ?_
      refine lv_icmp_ge (tgt := 206) hx hb dX6_takes_163 (by decide) (fun c_14 => ?_) (fun c_14 => ?_)
      · replace hf := (if_pos c_14).symm.trans hf
        refine lv_iconst (v := 0) hx hb dX6_takes_206 (by decide) ?_
        refine lv_istore_n (lv' := [(1, .int 0), (0, .ref t_p)]) hx hb dX6_takes_207 rfl hl (by decide) rfl (fun ls hl => ?_)
        exact w_208  N 0 t_cavities t_volume t_freeze t_cores t_earlier t_stages t_place t_now t_changes H locs ls hf hP hD hS (lv_sub hl [1, 0] rfl)
      · replace hf := (if_neg c_14).symm.trans hf
        refine lv_aload_n hx hb dX6_takes_166 rfl (lv_at hl 0 rfl) ?_
        refine va_get (D := g.1) (ci := 6) (v := .ref t_p_place) (C := RX6) (T := TX6) (N := 23) hx hb hts hin6 hown hK.1 hP 0 rfl rfl 8 (by decide) L13 (fun _ h9 => h9) rfl dX6_takes_167 ?_
        refine lv_iload_n hx hb dX6_takes_170 rfl (lv_at hl 1 rfl) ?_
        refine lv_aload_n hx hb dX6_takes_171 rfl (lv_at hl 0 rfl) ?_
        refine va_get (D := g.1) (ci := 6) (v := .ref t_p_readStage) (C := RX6) (T := TX6) (N := 23) hx hb hts hin6 hown hK.1 hP 0 rfl rfl 18 (by decide) L14 (fun _ h9 => h9) rfl dX6_takes_172 ?_
        refine lv_iconst (v := 2) hx hb dX6_takes_175 (by decide) ?_
        refine lv_iload_n hx hb dX6_takes_176 rfl (lv_at hl 1 rfl) ?_
        refine lv_imul hx hb dX6_takes_177 ?_
        obtain ⟨h_15, hf⟩ := if_some hf
        refine va_iald hx hb hK.1 hP 11 0 rfl rfl (ok_in h_15) dX6_takes_178 ?_
        obtain ⟨h_16, hf⟩ := if_some hf
        refine va_iast hx hb hK.1 hP hD hS 5 0 rfl rfl (ok_in h_16) dX6_takes_179 (fun H locs hP hD hS => ?_)
        replace hP : va_P g.1 vwCl (fl [wk6 g t_p t_length t_p_text t_text t_cavities t_p_volume t_volume t_p_freeze t_freeze t_cores t_p_earlier t_earlier t_stages t_p_place (upd t_place (Int32.toNatClampNeg v1) (t_readStage (Int32.toNatClampNeg (2 * v1)))) t_p_now t_now t_p_was t_was t_changes t_p_one t_one t_readCavities t_p_readCavity t_readCavity t_readCores t_p_readCore t_readCore t_readStages t_p_readStage t_readStage t_p_readRule t_readRule t_value t_ends t_screw]) H := hP
        replace hD : va_D A (fl [wk6 g t_p t_length t_p_text t_text t_cavities t_p_volume t_volume t_p_freeze t_freeze t_cores t_p_earlier t_earlier t_stages t_p_place (upd t_place (Int32.toNatClampNeg v1) (t_readStage (Int32.toNatClampNeg (2 * v1)))) t_p_now t_now t_p_was t_was t_changes t_p_one t_one t_readCavities t_p_readCavity t_readCavity t_readCores t_p_readCore t_readCore t_readStages t_p_readStage t_readStage t_p_readRule t_readRule t_value t_ends t_screw]) := hD
        refine lv_aload_n hx hb dX6_takes_180 rfl (lv_at hl 0 rfl) ?_
        refine va_get (D := g.1) (ci := 6) (v := .ref t_p_now) (C := RX6) (T := TX6) (N := 23) hx hb hts hin6 hown hK.1 hP 0 rfl rfl 9 (by decide) L7 (fun _ h9 => h9) rfl dX6_takes_181 ?_
        refine lv_sipush (v := 1145) hx hb dX6_takes_184 (by decide) ?_
        refine lv_iload_n hx hb dX6_takes_187 rfl (lv_at hl 1 rfl) ?_
        refine lv_iadd hx hb dX6_takes_188 ?_
        refine lv_aload_n hx hb dX6_takes_189 rfl (lv_at hl 0 rfl) ?_
        refine va_get (D := g.1) (ci := 6) (v := .ref t_p_readStage) (C := RX6) (T := TX6) (N := 23) hx hb hts hin6 hown hK.1 hP 0 rfl rfl 18 (by decide) L14 (fun _ h9 => h9) rfl dX6_takes_190 ?_
        refine lv_iconst (v := 2) hx hb dX6_takes_193 (by decide) ?_
        refine lv_iload_n hx hb dX6_takes_194 rfl (lv_at hl 1 rfl) ?_
        refine lv_imul hx hb dX6_takes_195 ?_
        refine lv_iconst (v := 1) hx hb dX6_takes_196 (by decide) ?_
        refine lv_iadd hx hb dX6_takes_197 ?_
        obtain ⟨h_17, hf⟩ := if_some hf
        refine va_iald hx hb hK.1 hP 11 0 rfl rfl (ok_in h_17) dX6_takes_198 ?_
        obtain ⟨h_18, hf⟩ := if_some hf
        refine va_iast hx hb hK.1 hP hD hS 6 0 rfl rfl (ok_in h_18) dX6_takes_199 (fun H locs hP hD hS => ?_)
        replace hP : va_P g.1 vwCl (fl [wk6 g t_p t_length t_p_text t_text t_cavities t_p_volume t_volume t_p_freeze t_freeze t_cores t_p_earlier t_earlier t_stages t_p_place (upd t_place (Int32.toNatClampNeg v1) (t_readStage (Int32.toNatClampNeg (2 * v1)))) t_p_now (upd t_now (Int32.toNatClampNeg (1145 + v1)) (t_readStage (Int32.toNatClampNeg ((2 * v1) + 1)))) t_p_was t_was t_changes t_p_one t_one t_readCavities t_p_readCavity t_readCavity t_readCores t_p_readCore t_readCore t_readStages t_p_readStage t_readStage t_p_readRule t_readRule t_value t_ends t_screw]) H := hP
        replace hD : va_D A (fl [wk6 g t_p t_length t_p_text t_text t_cavities t_p_volume t_volume t_p_freeze t_freeze t_cores t_p_earlier t_earlier t_stages t_p_place (upd t_place (Int32.toNatClampNeg v1) (t_readStage (Int32.toNatClampNeg (2 * v1)))) t_p_now (upd t_now (Int32.toNatClampNeg (1145 + v1)) (t_readStage (Int32.toNatClampNeg ((2 * v1) + 1)))) t_p_was t_was t_changes t_p_one t_one t_readCavities t_p_readCavity t_readCavity t_readCores t_p_readCore t_readCore t_readStages t_p_readStage t_readStage t_p_readRule t_readRule t_value t_ends t_screw]) := hD
        refine lv_iinc (v := v1 + 1) (lv' := [(1, .int (v1 + 1)), (0, .ref t_p)]) hx hb dX6_takes_200 hl (k := 1) rfl rfl (by decide) rfl (fun ls hl => ?_)
        refine lv_goto (tgt := 158) hx hb dX6_takes_203 (by decide) ?_
        exact ih (v1 + 1) t_cavities t_volume t_freeze t_cores t_earlier t_stages (upd t_place (Int32.toNatClampNeg v1) (t_readStage (Int32.toNatClampNeg (2 * v1)))) (upd t_now (Int32.toNatClampNeg (1145 + v1)) (t_readStage (Int32.toNatClampNeg ((2 * v1) + 1)))) t_changes H locs ls hf hP hD hS (lv_sub hl [1, 0] rfl)
  have w_114 : ∀ n : Nat, ∀ (v1 : Int32) (t_cavities : Int32) (t_volume : (Nat → Int32)) (t_freeze : (Nat → Int32)) (t_cores : Int32) (t_earlier : (Nat → Int32)) (t_stages : Int32) (t_place : (Nat → Int32)) (t_now : (Nat → Int32)) (t_changes : Int32) (H : Heap) (locs : List Loc) (ls : Array Slot), f6_takes_114  N n v1 t_cavities t_volume t_freeze t_cores t_earlier t_stages t_place t_now t_readCore t_readStage t_readRule = some res → va_P g.1 vwCl (fl [wk6 g t_p t_length t_p_text t_text t_cavities t_p_volume t_volume t_p_freeze t_freeze t_cores t_p_earlier t_earlier t_stages t_p_place t_place t_p_now t_now t_p_was t_was t_changes t_p_one t_one t_readCavities t_p_readCavity t_readCavity t_readCores t_p_readCore t_readCore t_readStages t_p_readStage t_readStage t_p_readRule t_readRule t_value t_ends t_screw]) H → va_D A (fl [wk6 g t_p t_length t_p_text t_text t_cavities t_p_volume t_volume t_p_freeze t_freeze t_cores t_p_earlier t_earlier t_stages t_p_place t_place t_p_now t_now t_p_was t_was t_changes t_p_one t_one t_readCavities t_p_readCavity t_readCavity t_readCores t_p_readCore t_readCore t_readStages t_p_readStage t_readStage t_p_readRule t_readRule t_value t_ends t_screw]) → va_S A s.heap H locs → lv_has ls 2 [(0, .ref t_p), (1, .int v1)] → W p l e ({ frames := 0, cells := 0, slots := 0, locals := 0 }) s m ([.ref t_p] : List Value).toArray below meth c H locs 0 0 (MQ below (pQv g (fl [wk6 g t_p t_length t_p_text t_text res.1 t_p_volume res.2.1 t_p_freeze res.2.2.1 res.2.2.2.1 t_p_earlier res.2.2.2.2.1 res.2.2.2.2.2.1 t_p_place res.2.2.2.2.2.2.1 t_p_now res.2.2.2.2.2.2.2.1 t_p_was t_was res.2.2.2.2.2.2.2.2 t_p_one t_one t_readCavities t_p_readCavity t_readCavity t_readCores t_p_readCore t_readCore t_readStages t_p_readStage t_readStage t_p_readRule t_readRule t_value t_ends t_screw]) A) ([.ref t_p] : List Value).toArray s 0 0 A) (F0 m 114 ls []) := by
    intro  n
    induction n with
    | zero => intro v1 t_cavities t_volume t_freeze t_cores t_earlier t_stages t_place t_now t_changes H locs ls hf; exact no_some hf
    | succ n ih =>
      intro v1 t_cavities t_volume t_freeze t_cores t_earlier t_stages t_place t_now t_changes H locs ls hf hP hD hS hl
      rw [f6_takes_114] at hf
      refine lv_iload_n hx hb dX6_takes_114 rfl (lv_at hl 1 rfl) ?_
      refine lv_aload_n hx hb dX6_takes_115 rfl (lv_at hl 0 rfl) ?_
      refine va_get (D := g.1) (ci := 6) (v := .int t_cores) (C := RX6) (T := TX6) (N := 23) hx hb hts hin6 hown hK.1 hP 0 rfl rfl 5 (by decide) L4 (fun _ h9 => h9) rfl dX6_takes_116 ?_
      refine lv_icmp_ge (tgt := 156) hx hb dX6_takes_119 (by decide) (fun c_10 => ?_) (fun c_10 => ?_)
      · replace hf := (if_pos c_10).symm.trans hf
        refine lv_iconst (v := 0) hx hb dX6_takes_156 (by decide) ?_
        refine lv_istore_n (lv' := [(1, .int 0), (0, .ref t_p)]) hx hb dX6_takes_157 rfl hl (by decide) rfl (fun ls hl => ?_)
        exact w_158  N 0 t_cavities t_volume t_freeze t_cores t_earlier t_stages t_place t_now t_changes H locs ls hf hP hD hS (lv_sub hl [1, 0] rfl)
      · replace hf := (if_neg c_10).symm.trans hf
        refine lv_aload_n hx hb dX6_takes_122 rfl (lv_at hl 0 rfl) ?_
        refine va_get (D := g.1) (ci := 6) (v := .ref t_p_earlier) (C := RX6) (T := TX6) (N := 23) hx hb hts hin6 hown hK.1 hP 0 rfl rfl 6 (by decide) L11 (fun _ h9 => h9) rfl dX6_takes_123 ?_
        refine lv_iload_n hx hb dX6_takes_126 rfl (lv_at hl 1 rfl) ?_
        refine lv_aload_n hx hb dX6_takes_127 rfl (lv_at hl 0 rfl) ?_
        refine va_get (D := g.1) (ci := 6) (v := .ref t_p_readCore) (C := RX6) (T := TX6) (N := 23) hx hb hts hin6 hown hK.1 hP 0 rfl rfl 16 (by decide) L12 (fun _ h9 => h9) rfl dX6_takes_128 ?_
        refine lv_iload_n hx hb dX6_takes_131 rfl (lv_at hl 1 rfl) ?_
        obtain ⟨h_11, hf⟩ := if_some hf
        refine va_iald hx hb hK.1 hP 10 0 rfl rfl (ok_in h_11) dX6_takes_132 ?_
        refine lv_bipush (v := 9) hx hb dX6_takes_133 (by decide) ?_
        refine lv_icmp_ne (tgt := 143) hx hb dX6_takes_135 (by decide) (fun c_12 => ?_) (fun c_12 => ?_)
        · replace hf := (if_neg c_12).symm.trans hf
          refine lv_aload_n hx hb dX6_takes_143 rfl (lv_at hl 0 rfl) ?_
          refine va_get (D := g.1) (ci := 6) (v := .ref t_p_readCore) (C := RX6) (T := TX6) (N := 23) hx hb hts hin6 hown hK.1 hP 0 rfl rfl 16 (by decide) L12 (fun _ h9 => h9) rfl dX6_takes_144 ?_
          refine lv_iload_n hx hb dX6_takes_147 rfl (lv_at hl 1 rfl) ?_
          obtain ⟨h_13, hf⟩ := if_some hf
          refine va_iald hx hb hK.1 hP 10 0 rfl rfl (ok_in h_13) dX6_takes_148 ?_
          exact w_149 (fun a0 a1 a2 a3 a4 a5 a6 a7 a8 a9 a10 a11 => f6_takes_114 N n a0 a1 a2 a3 a4 a5 a6 a7 a8 a9 a10 a11) ih v1 v1 (t_readCore (Int32.toNatClampNeg v1)) t_cavities t_volume t_freeze t_cores t_earlier t_stages t_place t_now t_changes H locs ls hf hP hD hS (lv_sub hl [0, 1] rfl)
        · replace hf := (if_pos c_12).symm.trans hf
          refine lv_bipush (v := (-4)) hx hb dX6_takes_138 (by decide) ?_
          refine lv_goto (tgt := 149) hx hb dX6_takes_140 (by decide) ?_
          exact w_149 (fun a0 a1 a2 a3 a4 a5 a6 a7 a8 a9 a10 a11 => f6_takes_114 N n a0 a1 a2 a3 a4 a5 a6 a7 a8 a9 a10 a11) ih v1 v1 (-4) t_cavities t_volume t_freeze t_cores t_earlier t_stages t_place t_now t_changes H locs ls hf hP hD hS (lv_sub hl [0, 1] rfl)
  have w_48 : ∀ n : Nat, ∀ (v1 : Int32) (t_cavities : Int32) (t_volume : (Nat → Int32)) (t_freeze : (Nat → Int32)) (t_cores : Int32) (t_earlier : (Nat → Int32)) (t_stages : Int32) (t_place : (Nat → Int32)) (t_now : (Nat → Int32)) (t_changes : Int32) (H : Heap) (locs : List Loc) (ls : Array Slot), f6_takes_48  N n v1 t_cavities t_volume t_freeze t_cores t_earlier t_stages t_place t_now t_readCavity t_readCore t_readStage t_readRule = some res → va_P g.1 vwCl (fl [wk6 g t_p t_length t_p_text t_text t_cavities t_p_volume t_volume t_p_freeze t_freeze t_cores t_p_earlier t_earlier t_stages t_p_place t_place t_p_now t_now t_p_was t_was t_changes t_p_one t_one t_readCavities t_p_readCavity t_readCavity t_readCores t_p_readCore t_readCore t_readStages t_p_readStage t_readStage t_p_readRule t_readRule t_value t_ends t_screw]) H → va_D A (fl [wk6 g t_p t_length t_p_text t_text t_cavities t_p_volume t_volume t_p_freeze t_freeze t_cores t_p_earlier t_earlier t_stages t_p_place t_place t_p_now t_now t_p_was t_was t_changes t_p_one t_one t_readCavities t_p_readCavity t_readCavity t_readCores t_p_readCore t_readCore t_readStages t_p_readStage t_readStage t_p_readRule t_readRule t_value t_ends t_screw]) → va_S A s.heap H locs → lv_has ls 2 [(0, .ref t_p), (1, .int v1)] → W p l e ({ frames := 0, cells := 0, slots := 0, locals := 0 }) s m ([.ref t_p] : List Value).toArray below meth c H locs 0 0 (MQ below (pQv g (fl [wk6 g t_p t_length t_p_text t_text res.1 t_p_volume res.2.1 t_p_freeze res.2.2.1 res.2.2.2.1 t_p_earlier res.2.2.2.2.1 res.2.2.2.2.2.1 t_p_place res.2.2.2.2.2.2.1 t_p_now res.2.2.2.2.2.2.2.1 t_p_was t_was res.2.2.2.2.2.2.2.2 t_p_one t_one t_readCavities t_p_readCavity t_readCavity t_readCores t_p_readCore t_readCore t_readStages t_p_readStage t_readStage t_p_readRule t_readRule t_value t_ends t_screw]) A) ([.ref t_p] : List Value).toArray s 0 0 A) (F0 m 48 ls []) := by
    intro  n
    induction n with
    | zero => intro v1 t_cavities t_volume t_freeze t_cores t_earlier t_stages t_place t_now t_changes H locs ls hf; exact no_some hf
    | succ n ih =>
      intro v1 t_cavities t_volume t_freeze t_cores t_earlier t_stages t_place t_now t_changes H locs ls hf hP hD hS hl
      rw [f6_takes_48] at hf
      refine lv_iload_n hx hb dX6_takes_48 rfl (lv_at hl 1 rfl) ?_
      refine lv_aload_n hx hb dX6_takes_49 rfl (lv_at hl 0 rfl) ?_
      refine va_get (D := g.1) (ci := 6) (v := .int t_cavities) (C := RX6) (T := TX6) (N := 23) hx hb hts hin6 hown hK.1 hP 0 rfl rfl 2 (by decide) L2 (fun _ h9 => h9) rfl dX6_takes_50 ?_
      refine lv_icmp_ge (tgt := 112) hx hb dX6_takes_53 (by decide) (fun c_3 => ?_) (fun c_3 => ?_)
      · replace hf := (if_pos c_3).symm.trans hf
        refine lv_iconst (v := 0) hx hb dX6_takes_112 (by decide) ?_
        refine lv_istore_n (lv' := [(1, .int 0), (0, .ref t_p)]) hx hb dX6_takes_113 rfl hl (by decide) rfl (fun ls hl => ?_)
        exact w_114  N 0 t_cavities t_volume t_freeze t_cores t_earlier t_stages t_place t_now t_changes H locs ls hf hP hD hS (lv_sub hl [1, 0] rfl)
      · replace hf := (if_neg c_3).symm.trans hf
        refine lv_aload_n hx hb dX6_takes_56 rfl (lv_at hl 0 rfl) ?_
        refine va_get (D := g.1) (ci := 6) (v := .ref t_p_volume) (C := RX6) (T := TX6) (N := 23) hx hb hts hin6 hown hK.1 hP 0 rfl rfl 3 (by decide) L8 (fun _ h9 => h9) rfl dX6_takes_57 ?_
        refine lv_iload_n hx hb dX6_takes_60 rfl (lv_at hl 1 rfl) ?_
        refine lv_aload_n hx hb dX6_takes_61 rfl (lv_at hl 0 rfl) ?_
        refine va_get (D := g.1) (ci := 6) (v := .ref t_p_readCavity) (C := RX6) (T := TX6) (N := 23) hx hb hts hin6 hown hK.1 hP 0 rfl rfl 14 (by decide) L9 (fun _ h9 => h9) rfl dX6_takes_62 ?_
        refine lv_iconst (v := 3) hx hb dX6_takes_65 (by decide) ?_
        refine lv_iload_n hx hb dX6_takes_66 rfl (lv_at hl 1 rfl) ?_
        refine lv_imul hx hb dX6_takes_67 ?_
        obtain ⟨h_4, hf⟩ := if_some hf
        refine va_iald hx hb hK.1 hP 9 0 rfl rfl (ok_in h_4) dX6_takes_68 ?_
        obtain ⟨h_5, hf⟩ := if_some hf
        refine va_iast hx hb hK.1 hP hD hS 2 0 rfl rfl (ok_in h_5) dX6_takes_69 (fun H locs hP hD hS => ?_)
        replace hP : va_P g.1 vwCl (fl [wk6 g t_p t_length t_p_text t_text t_cavities t_p_volume (upd t_volume (Int32.toNatClampNeg v1) (t_readCavity (Int32.toNatClampNeg (3 * v1)))) t_p_freeze t_freeze t_cores t_p_earlier t_earlier t_stages t_p_place t_place t_p_now t_now t_p_was t_was t_changes t_p_one t_one t_readCavities t_p_readCavity t_readCavity t_readCores t_p_readCore t_readCore t_readStages t_p_readStage t_readStage t_p_readRule t_readRule t_value t_ends t_screw]) H := hP
        replace hD : va_D A (fl [wk6 g t_p t_length t_p_text t_text t_cavities t_p_volume (upd t_volume (Int32.toNatClampNeg v1) (t_readCavity (Int32.toNatClampNeg (3 * v1)))) t_p_freeze t_freeze t_cores t_p_earlier t_earlier t_stages t_p_place t_place t_p_now t_now t_p_was t_was t_changes t_p_one t_one t_readCavities t_p_readCavity t_readCavity t_readCores t_p_readCore t_readCore t_readStages t_p_readStage t_readStage t_p_readRule t_readRule t_value t_ends t_screw]) := hD
        refine lv_aload_n hx hb dX6_takes_70 rfl (lv_at hl 0 rfl) ?_
        refine va_get (D := g.1) (ci := 6) (v := .ref t_p_now) (C := RX6) (T := TX6) (N := 23) hx hb hts hin6 hown hK.1 hP 0 rfl rfl 9 (by decide) L7 (fun _ h9 => h9) rfl dX6_takes_71 ?_
        refine lv_sipush (v := 1139) hx hb dX6_takes_74 (by decide) ?_
        refine lv_iload_n hx hb dX6_takes_77 rfl (lv_at hl 1 rfl) ?_
        refine lv_iadd hx hb dX6_takes_78 ?_
        refine lv_aload_n hx hb dX6_takes_79 rfl (lv_at hl 0 rfl) ?_
        refine va_get (D := g.1) (ci := 6) (v := .ref t_p_readCavity) (C := RX6) (T := TX6) (N := 23) hx hb hts hin6 hown hK.1 hP 0 rfl rfl 14 (by decide) L9 (fun _ h9 => h9) rfl dX6_takes_80 ?_
        refine lv_iconst (v := 3) hx hb dX6_takes_83 (by decide) ?_
        refine lv_iload_n hx hb dX6_takes_84 rfl (lv_at hl 1 rfl) ?_
        refine lv_imul hx hb dX6_takes_85 ?_
        refine lv_iconst (v := 1) hx hb dX6_takes_86 (by decide) ?_
        refine lv_iadd hx hb dX6_takes_87 ?_
        obtain ⟨h_6, hf⟩ := if_some hf
        refine va_iald hx hb hK.1 hP 9 0 rfl rfl (ok_in h_6) dX6_takes_88 ?_
        obtain ⟨h_7, hf⟩ := if_some hf
        refine va_iast hx hb hK.1 hP hD hS 6 0 rfl rfl (ok_in h_7) dX6_takes_89 (fun H locs hP hD hS => ?_)
        replace hP : va_P g.1 vwCl (fl [wk6 g t_p t_length t_p_text t_text t_cavities t_p_volume (upd t_volume (Int32.toNatClampNeg v1) (t_readCavity (Int32.toNatClampNeg (3 * v1)))) t_p_freeze t_freeze t_cores t_p_earlier t_earlier t_stages t_p_place t_place t_p_now (upd t_now (Int32.toNatClampNeg (1139 + v1)) (t_readCavity (Int32.toNatClampNeg ((3 * v1) + 1)))) t_p_was t_was t_changes t_p_one t_one t_readCavities t_p_readCavity t_readCavity t_readCores t_p_readCore t_readCore t_readStages t_p_readStage t_readStage t_p_readRule t_readRule t_value t_ends t_screw]) H := hP
        replace hD : va_D A (fl [wk6 g t_p t_length t_p_text t_text t_cavities t_p_volume (upd t_volume (Int32.toNatClampNeg v1) (t_readCavity (Int32.toNatClampNeg (3 * v1)))) t_p_freeze t_freeze t_cores t_p_earlier t_earlier t_stages t_p_place t_place t_p_now (upd t_now (Int32.toNatClampNeg (1139 + v1)) (t_readCavity (Int32.toNatClampNeg ((3 * v1) + 1)))) t_p_was t_was t_changes t_p_one t_one t_readCavities t_p_readCavity t_readCavity t_readCores t_p_readCore t_readCore t_readStages t_p_readStage t_readStage t_p_readRule t_readRule t_value t_ends t_screw]) := hD
        refine lv_aload_n hx hb dX6_takes_90 rfl (lv_at hl 0 rfl) ?_
        refine va_get (D := g.1) (ci := 6) (v := .ref t_p_freeze) (C := RX6) (T := TX6) (N := 23) hx hb hts hin6 hown hK.1 hP 0 rfl rfl 4 (by decide) L10 (fun _ h9 => h9) rfl dX6_takes_91 ?_
        refine lv_iload_n hx hb dX6_takes_94 rfl (lv_at hl 1 rfl) ?_
        refine lv_aload_n hx hb dX6_takes_95 rfl (lv_at hl 0 rfl) ?_
        refine va_get (D := g.1) (ci := 6) (v := .ref t_p_readCavity) (C := RX6) (T := TX6) (N := 23) hx hb hts hin6 hown hK.1 hP 0 rfl rfl 14 (by decide) L9 (fun _ h9 => h9) rfl dX6_takes_96 ?_
        refine lv_iconst (v := 3) hx hb dX6_takes_99 (by decide) ?_
        refine lv_iload_n hx hb dX6_takes_100 rfl (lv_at hl 1 rfl) ?_
        refine lv_imul hx hb dX6_takes_101 ?_
        refine lv_iconst (v := 2) hx hb dX6_takes_102 (by decide) ?_
        refine lv_iadd hx hb dX6_takes_103 ?_
        obtain ⟨h_8, hf⟩ := if_some hf
        refine va_iald hx hb hK.1 hP 9 0 rfl rfl (ok_in h_8) dX6_takes_104 ?_
        obtain ⟨h_9, hf⟩ := if_some hf
        refine va_iast hx hb hK.1 hP hD hS 3 0 rfl rfl (ok_in h_9) dX6_takes_105 (fun H locs hP hD hS => ?_)
        replace hP : va_P g.1 vwCl (fl [wk6 g t_p t_length t_p_text t_text t_cavities t_p_volume (upd t_volume (Int32.toNatClampNeg v1) (t_readCavity (Int32.toNatClampNeg (3 * v1)))) t_p_freeze (upd t_freeze (Int32.toNatClampNeg v1) (t_readCavity (Int32.toNatClampNeg ((3 * v1) + 2)))) t_cores t_p_earlier t_earlier t_stages t_p_place t_place t_p_now (upd t_now (Int32.toNatClampNeg (1139 + v1)) (t_readCavity (Int32.toNatClampNeg ((3 * v1) + 1)))) t_p_was t_was t_changes t_p_one t_one t_readCavities t_p_readCavity t_readCavity t_readCores t_p_readCore t_readCore t_readStages t_p_readStage t_readStage t_p_readRule t_readRule t_value t_ends t_screw]) H := hP
        replace hD : va_D A (fl [wk6 g t_p t_length t_p_text t_text t_cavities t_p_volume (upd t_volume (Int32.toNatClampNeg v1) (t_readCavity (Int32.toNatClampNeg (3 * v1)))) t_p_freeze (upd t_freeze (Int32.toNatClampNeg v1) (t_readCavity (Int32.toNatClampNeg ((3 * v1) + 2)))) t_cores t_p_earlier t_earlier t_stages t_p_place t_place t_p_now (upd t_now (Int32.toNatClampNeg (1139 + v1)) (t_readCavity (Int32.toNatClampNeg ((3 * v1) + 1)))) t_p_was t_was t_changes t_p_one t_one t_readCavities t_p_readCavity t_readCavity t_readCores t_p_readCore t_readCore t_readStages t_p_readStage t_readStage t_p_readRule t_readRule t_value t_ends t_screw]) := hD
        refine lv_iinc (v := v1 + 1) (lv' := [(1, .int (v1 + 1)), (0, .ref t_p)]) hx hb dX6_takes_106 hl (k := 1) rfl rfl (by decide) rfl (fun ls hl => ?_)
        refine lv_goto (tgt := 48) hx hb dX6_takes_109 (by decide) ?_
        exact ih (v1 + 1) t_cavities (upd t_volume (Int32.toNatClampNeg v1) (t_readCavity (Int32.toNatClampNeg (3 * v1)))) (upd t_freeze (Int32.toNatClampNeg v1) (t_readCavity (Int32.toNatClampNeg ((3 * v1) + 2)))) t_cores t_earlier t_stages t_place (upd t_now (Int32.toNatClampNeg (1139 + v1)) (t_readCavity (Int32.toNatClampNeg ((3 * v1) + 1)))) t_changes H locs ls hf hP hD hS (lv_sub hl [1, 0] rfl)
  have w_26 : ∀ n : Nat, ∀ (v1 : Int32) (t_cavities : Int32) (t_volume : (Nat → Int32)) (t_freeze : (Nat → Int32)) (t_cores : Int32) (t_earlier : (Nat → Int32)) (t_stages : Int32) (t_place : (Nat → Int32)) (t_now : (Nat → Int32)) (t_changes : Int32) (H : Heap) (locs : List Loc) (ls : Array Slot), f6_takes_26  N n v1 t_cavities t_volume t_freeze t_cores t_earlier t_stages t_place t_now t_readCavity t_readCore t_readStage t_readRule = some res → va_P g.1 vwCl (fl [wk6 g t_p t_length t_p_text t_text t_cavities t_p_volume t_volume t_p_freeze t_freeze t_cores t_p_earlier t_earlier t_stages t_p_place t_place t_p_now t_now t_p_was t_was t_changes t_p_one t_one t_readCavities t_p_readCavity t_readCavity t_readCores t_p_readCore t_readCore t_readStages t_p_readStage t_readStage t_p_readRule t_readRule t_value t_ends t_screw]) H → va_D A (fl [wk6 g t_p t_length t_p_text t_text t_cavities t_p_volume t_volume t_p_freeze t_freeze t_cores t_p_earlier t_earlier t_stages t_p_place t_place t_p_now t_now t_p_was t_was t_changes t_p_one t_one t_readCavities t_p_readCavity t_readCavity t_readCores t_p_readCore t_readCore t_readStages t_p_readStage t_readStage t_p_readRule t_readRule t_value t_ends t_screw]) → va_S A s.heap H locs → lv_has ls 2 [(0, .ref t_p), (1, .int v1)] → W p l e ({ frames := 0, cells := 0, slots := 0, locals := 0 }) s m ([.ref t_p] : List Value).toArray below meth c H locs 0 0 (MQ below (pQv g (fl [wk6 g t_p t_length t_p_text t_text res.1 t_p_volume res.2.1 t_p_freeze res.2.2.1 res.2.2.2.1 t_p_earlier res.2.2.2.2.1 res.2.2.2.2.2.1 t_p_place res.2.2.2.2.2.2.1 t_p_now res.2.2.2.2.2.2.2.1 t_p_was t_was res.2.2.2.2.2.2.2.2 t_p_one t_one t_readCavities t_p_readCavity t_readCavity t_readCores t_p_readCore t_readCore t_readStages t_p_readStage t_readStage t_p_readRule t_readRule t_value t_ends t_screw]) A) ([.ref t_p] : List Value).toArray s 0 0 A) (F0 m 26 ls []) := by
    intro  n
    induction n with
    | zero => intro v1 t_cavities t_volume t_freeze t_cores t_earlier t_stages t_place t_now t_changes H locs ls hf; exact no_some hf
    | succ n ih =>
      intro v1 t_cavities t_volume t_freeze t_cores t_earlier t_stages t_place t_now t_changes H locs ls hf hP hD hS hl
      rw [f6_takes_26] at hf
      refine lv_iload_n hx hb dX6_takes_26 rfl (lv_at hl 1 rfl) ?_
      refine lv_sipush (v := 1155) hx hb dX6_takes_27 (by decide) ?_
      refine lv_icmp_ge (tgt := 46) hx hb dX6_takes_30 (by decide) (fun c_1 => ?_) (fun c_1 => ?_)
      · replace hf := (if_pos c_1).symm.trans hf
        refine lv_iconst (v := 0) hx hb dX6_takes_46 (by decide) ?_
        refine lv_istore_n (lv' := [(1, .int 0), (0, .ref t_p)]) hx hb dX6_takes_47 rfl hl (by decide) rfl (fun ls hl => ?_)
        exact w_48  N 0 t_cavities t_volume t_freeze t_cores t_earlier t_stages t_place t_now t_changes H locs ls hf hP hD hS (lv_sub hl [1, 0] rfl)
      · replace hf := (if_neg c_1).symm.trans hf
        refine lv_aload_n hx hb dX6_takes_33 rfl (lv_at hl 0 rfl) ?_
        refine va_get (D := g.1) (ci := 6) (v := .ref t_p_now) (C := RX6) (T := TX6) (N := 23) hx hb hts hin6 hown hK.1 hP 0 rfl rfl 9 (by decide) L7 (fun _ h9 => h9) rfl dX6_takes_34 ?_
        refine lv_iload_n hx hb dX6_takes_37 rfl (lv_at hl 1 rfl) ?_
        refine lv_iconst (v := 0) hx hb dX6_takes_38 (by decide) ?_
        obtain ⟨h_2, hf⟩ := if_some hf
        refine va_iast hx hb hK.1 hP hD hS 6 0 rfl rfl (ok_in h_2) dX6_takes_39 (fun H locs hP hD hS => ?_)
        replace hP : va_P g.1 vwCl (fl [wk6 g t_p t_length t_p_text t_text t_cavities t_p_volume t_volume t_p_freeze t_freeze t_cores t_p_earlier t_earlier t_stages t_p_place t_place t_p_now (upd t_now (Int32.toNatClampNeg v1) 0) t_p_was t_was t_changes t_p_one t_one t_readCavities t_p_readCavity t_readCavity t_readCores t_p_readCore t_readCore t_readStages t_p_readStage t_readStage t_p_readRule t_readRule t_value t_ends t_screw]) H := hP
        replace hD : va_D A (fl [wk6 g t_p t_length t_p_text t_text t_cavities t_p_volume t_volume t_p_freeze t_freeze t_cores t_p_earlier t_earlier t_stages t_p_place t_place t_p_now (upd t_now (Int32.toNatClampNeg v1) 0) t_p_was t_was t_changes t_p_one t_one t_readCavities t_p_readCavity t_readCavity t_readCores t_p_readCore t_readCore t_readStages t_p_readStage t_readStage t_p_readRule t_readRule t_value t_ends t_screw]) := hD
        refine lv_iinc (v := v1 + 1) (lv' := [(1, .int (v1 + 1)), (0, .ref t_p)]) hx hb dX6_takes_40 hl (k := 1) rfl rfl (by decide) rfl (fun ls hl => ?_)
        refine lv_goto (tgt := 26) hx hb dX6_takes_43 (by decide) ?_
        exact ih (v1 + 1) t_cavities t_volume t_freeze t_cores t_earlier t_stages t_place (upd t_now (Int32.toNatClampNeg v1) 0) t_changes H locs ls hf hP hD hS (lv_sub hl [1, 0] rfl)
  have hl := lv_entry ([.ref t_p]) (n := 2) (Nat.le_of_ble_eq_true rfl)
  rw [lg_entry_eq]
  generalize (lg_sl ([.ref t_p]) ++ List.replicate (2 - (lg_sl ([.ref t_p])).length) Slot.unset).toArray = ls at hl ⊢
  replace hl : lv_has ls 2 [(0, .ref t_p)] := hl
  rw [f6_takes] at hf
  have hgo : ∀ (H : Heap) (locs : List Loc), H = s.heap → locs = [] → va_P g.1 vwCl (fl [wk6 g t_p t_length t_p_text t_text t_cavities t_p_volume t_volume t_p_freeze t_freeze t_cores t_p_earlier t_earlier t_stages t_p_place t_place t_p_now t_now t_p_was t_was t_changes t_p_one t_one t_readCavities t_p_readCavity t_readCavity t_readCores t_p_readCore t_readCore t_readStages t_p_readStage t_readStage t_p_readRule t_readRule t_value t_ends t_screw]) H → va_S A s.heap H locs → W p l e ({ frames := 0, cells := 0, slots := 0, locals := 0 }) s m ([.ref t_p] : List Value).toArray below meth c H locs 0 0 (MQ below (pQv g (fl [wk6 g t_p t_length t_p_text t_text res.1 t_p_volume res.2.1 t_p_freeze res.2.2.1 res.2.2.2.1 t_p_earlier res.2.2.2.2.1 res.2.2.2.2.2.1 t_p_place res.2.2.2.2.2.2.1 t_p_now res.2.2.2.2.2.2.2.1 t_p_was t_was res.2.2.2.2.2.2.2.2 t_p_one t_one t_readCavities t_p_readCavity t_readCavity t_readCores t_p_readCore t_readCore t_readStages t_p_readStage t_readStage t_p_readRule t_readRule t_value t_ends t_screw]) A) ([.ref t_p] : List Value).toArray s 0 0 A) (F0 m 0 ls []) := by
    intro H locs hH hL hP hS
    refine lv_aload_n hx hb dX6_takes_0 rfl (lv_at hl 0 rfl) ?_
    refine lv_aload_n hx hb dX6_takes_1 rfl (lv_at hl 0 rfl) ?_
    refine va_get (D := g.1) (ci := 6) (v := .int t_readCavities) (C := RX6) (T := TX6) (N := 23) hx hb hts hin6 hown hK.1 hP 0 rfl rfl 13 (by decide) L1 (fun _ h9 => h9) rfl dX6_takes_2 ?_
    refine va_put (D := g.1) (ci := 6) (v := .int t_readCavities) (ty := .int) (C := RX6) (T := TX6) (N := 23) hx hb hts hin6 tyX6 tyX6_ok nmX6 hown hK.1 hP hD hS 0 rfl rfl 2 (by decide) L2 (fun _ h9 => h9) rfl (by decide +kernel) rfl rfl (Nat.le_of_ble_eq_true rfl) dX6_takes_5 (fun H locs hP hD hS => ?_)
    replace hP : va_P g.1 vwCl (fl [wk6 g t_p t_length t_p_text t_text t_readCavities t_p_volume t_volume t_p_freeze t_freeze t_cores t_p_earlier t_earlier t_stages t_p_place t_place t_p_now t_now t_p_was t_was t_changes t_p_one t_one t_readCavities t_p_readCavity t_readCavity t_readCores t_p_readCore t_readCore t_readStages t_p_readStage t_readStage t_p_readRule t_readRule t_value t_ends t_screw]) H := hP
    replace hD : va_D A (fl [wk6 g t_p t_length t_p_text t_text t_readCavities t_p_volume t_volume t_p_freeze t_freeze t_cores t_p_earlier t_earlier t_stages t_p_place t_place t_p_now t_now t_p_was t_was t_changes t_p_one t_one t_readCavities t_p_readCavity t_readCavity t_readCores t_p_readCore t_readCore t_readStages t_p_readStage t_readStage t_p_readRule t_readRule t_value t_ends t_screw]) := hD
    refine lv_aload_n hx hb dX6_takes_8 rfl (lv_at hl 0 rfl) ?_
    refine lv_aload_n hx hb dX6_takes_9 rfl (lv_at hl 0 rfl) ?_
    refine va_get (D := g.1) (ci := 6) (v := .int t_readCores) (C := RX6) (T := TX6) (N := 23) hx hb hts hin6 hown hK.1 hP 0 rfl rfl 15 (by decide) L3 (fun _ h9 => h9) rfl dX6_takes_10 ?_
    refine va_put (D := g.1) (ci := 6) (v := .int t_readCores) (ty := .int) (C := RX6) (T := TX6) (N := 23) hx hb hts hin6 tyX6 tyX6_ok nmX6 hown hK.1 hP hD hS 0 rfl rfl 5 (by decide) L4 (fun _ h9 => h9) rfl (by decide +kernel) rfl rfl (Nat.le_of_ble_eq_true rfl) dX6_takes_13 (fun H locs hP hD hS => ?_)
    replace hP : va_P g.1 vwCl (fl [wk6 g t_p t_length t_p_text t_text t_readCavities t_p_volume t_volume t_p_freeze t_freeze t_readCores t_p_earlier t_earlier t_stages t_p_place t_place t_p_now t_now t_p_was t_was t_changes t_p_one t_one t_readCavities t_p_readCavity t_readCavity t_readCores t_p_readCore t_readCore t_readStages t_p_readStage t_readStage t_p_readRule t_readRule t_value t_ends t_screw]) H := hP
    replace hD : va_D A (fl [wk6 g t_p t_length t_p_text t_text t_readCavities t_p_volume t_volume t_p_freeze t_freeze t_readCores t_p_earlier t_earlier t_stages t_p_place t_place t_p_now t_now t_p_was t_was t_changes t_p_one t_one t_readCavities t_p_readCavity t_readCavity t_readCores t_p_readCore t_readCore t_readStages t_p_readStage t_readStage t_p_readRule t_readRule t_value t_ends t_screw]) := hD
    refine lv_aload_n hx hb dX6_takes_16 rfl (lv_at hl 0 rfl) ?_
    refine lv_aload_n hx hb dX6_takes_17 rfl (lv_at hl 0 rfl) ?_
    refine va_get (D := g.1) (ci := 6) (v := .int t_readStages) (C := RX6) (T := TX6) (N := 23) hx hb hts hin6 hown hK.1 hP 0 rfl rfl 17 (by decide) L5 (fun _ h9 => h9) rfl dX6_takes_18 ?_
    refine va_put (D := g.1) (ci := 6) (v := .int t_readStages) (ty := .int) (C := RX6) (T := TX6) (N := 23) hx hb hts hin6 tyX6 tyX6_ok nmX6 hown hK.1 hP hD hS 0 rfl rfl 7 (by decide) L6 (fun _ h9 => h9) rfl (by decide +kernel) rfl rfl (Nat.le_of_ble_eq_true rfl) dX6_takes_21 (fun H locs hP hD hS => ?_)
    replace hP : va_P g.1 vwCl (fl [wk6 g t_p t_length t_p_text t_text t_readCavities t_p_volume t_volume t_p_freeze t_freeze t_readCores t_p_earlier t_earlier t_readStages t_p_place t_place t_p_now t_now t_p_was t_was t_changes t_p_one t_one t_readCavities t_p_readCavity t_readCavity t_readCores t_p_readCore t_readCore t_readStages t_p_readStage t_readStage t_p_readRule t_readRule t_value t_ends t_screw]) H := hP
    replace hD : va_D A (fl [wk6 g t_p t_length t_p_text t_text t_readCavities t_p_volume t_volume t_p_freeze t_freeze t_readCores t_p_earlier t_earlier t_readStages t_p_place t_place t_p_now t_now t_p_was t_was t_changes t_p_one t_one t_readCavities t_p_readCavity t_readCavity t_readCores t_p_readCore t_readCore t_readStages t_p_readStage t_readStage t_p_readRule t_readRule t_value t_ends t_screw]) := hD
    refine lv_iconst (v := 0) hx hb dX6_takes_24 (by decide) ?_
    refine lv_istore_n (lv' := [(1, .int 0), (0, .ref t_p)]) hx hb dX6_takes_25 rfl hl (by decide) rfl (fun ls hl => ?_)
    exact w_26  N 0 t_readCavities t_volume t_freeze t_readCores t_earlier t_readStages t_place t_now t_changes H locs ls hf hP hD hS (lv_sub hl [1, 0] rfl)
  exact hgo s.heap [] rfl rfl hP hS

set_option maxHeartbeats 4000000 in
set_option maxRecDepth 100000 in
theorem c6_letterAt (l : Launch) (g : gG) (t_p : Nat) (t_length : Int32) (t_p_text : Nat) (t_text : (Nat → Int32)) (t_cavities : Int32) (t_p_volume : Nat) (t_volume : (Nat → Int32)) (t_p_freeze : Nat) (t_freeze : (Nat → Int32)) (t_cores : Int32) (t_p_earlier : Nat) (t_earlier : (Nat → Int32)) (t_stages : Int32) (t_p_place : Nat) (t_place : (Nat → Int32)) (t_p_now : Nat) (t_now : (Nat → Int32)) (t_p_was : Nat) (t_was : (Nat → Int32)) (t_changes : Int32) (t_p_one : Nat) (t_one : (Nat → Int32)) (t_readCavities : Int32) (t_p_readCavity : Nat) (t_readCavity : (Nat → Int32)) (t_readCores : Int32) (t_p_readCore : Nat) (t_readCore : (Nat → Int32)) (t_readStages : Int32) (t_p_readStage : Nat) (t_readStage : (Nat → Int32)) (t_p_readRule : Nat) (t_readRule : (Nat → Int32)) (t_value : Int32) (t_ends : Int32) (t_screw : Int32) (l1 : Int32) (sz : Nat) (N : Nat) (res : (Int32)) (hf : f6_letterAt N l1 t_length t_text = some res) : Met l yX6_letterAt wsX6_letterAt ({ frames := 0, cells := 0, slots := 0, locals := 0 }) (pP g [.ref t_p, .int l1] sz (fl [wk6 g t_p t_length t_p_text t_text t_cavities t_p_volume t_volume t_p_freeze t_freeze t_cores t_p_earlier t_earlier t_stages t_p_place t_place t_p_now t_now t_p_was t_was t_changes t_p_one t_one t_readCavities t_p_readCavity t_readCavity t_readCores t_p_readCore t_readCore t_readStages t_p_readStage t_readStage t_p_readRule t_readRule t_value t_ends t_screw])) (pQi g (fun r => r = res) (fl [wk6 g t_p t_length t_p_text t_text t_cavities t_p_volume t_volume t_p_freeze t_freeze t_cores t_p_earlier t_earlier t_stages t_p_place t_place t_p_now t_now t_p_was t_was t_changes t_p_one t_one t_readCavities t_p_readCavity t_readCavity t_readCores t_p_readCore t_readCore t_readStages t_p_readStage t_readStage t_p_readRule t_readRule t_value t_ends t_screw]) (va_A (fl [wk6 g t_p t_length t_p_text t_text t_cavities t_p_volume t_volume t_p_freeze t_freeze t_cores t_p_earlier t_earlier t_stages t_p_place t_place t_p_now t_now t_p_was t_was t_changes t_p_one t_one t_readCavities t_p_readCavity t_readCavity t_readCores t_p_readCore t_readCore t_readStages t_p_readStage t_readStage t_p_readRule t_readRule t_value t_ends t_screw]) sz)) 0 0 (va_A (fl [wk6 g t_p t_length t_p_text t_text t_cavities t_p_volume t_volume t_p_freeze t_freeze t_cores t_p_earlier t_earlier t_stages t_p_place t_place t_p_now t_now t_p_was t_was t_changes t_p_one t_one t_readCavities t_p_readCavity t_readCavity t_readCores t_p_readCore t_readCore t_readStages t_p_readStage t_readStage t_p_readRule t_readRule t_value t_ends t_screw]) sz) := by
  refine Met.ofW (cc := cX6_letterAt) (maxL := 2) (ret := (some .int)) (by decide) rfl ?_
  intro p e s m args below meth c s₁ B hml hv
  obtain ⟨rfl, hsz, hP, hK, hD0, hG⟩ := hv
  have hx := B.exec
  have hb := B.bytes
  have hr := B.returns
  have hts := atoms_spec (ws := wsX6_letterAt) B.pre
  have hown : s.vm.findClass RX6 = some m.cls := findClass_of_methodNamed B.named
  have hlocks := B.notSynchronized
  subst hsz
  have hD := hD0.self (sz := s.heap.size)
  generalize hAe : va_A (fl [wk6 g t_p t_length t_p_text t_text t_cavities t_p_volume t_volume t_p_freeze t_freeze t_cores t_p_earlier t_earlier t_stages t_p_place t_place t_p_now t_now t_p_was t_was t_changes t_p_one t_one t_readCavities t_p_readCavity t_readCavity t_readCores t_p_readCore t_readCore t_readStages t_p_readStage t_readStage t_p_readRule t_readRule t_value t_ends t_screw]) s.heap.size = A at hD hG ⊢
  have hA : ∀ q : Nat, s.heap.size ≤ q → A q := fun q h => by rw [← hAe]; exact Or.inr h
  have hS : va_S A s.heap s.heap [] := va_S.rf
  have hin6 : ∀ w ∈ u_ws RX6 TX6 23, w ∈ wsX6_letterAt := by decide +kernel
  have L1 := hts (Cond.fieldLink RX6 82 "MouldShotsModel" "length" "I") (by decide +kernel)
  have L2 := hts (Cond.fieldLink RX6 7 "MouldShotsModel" "text" "[I") (by decide +kernel)
  have hl := lv_entry ([.ref t_p, .int l1]) (n := 2) (Nat.le_of_ble_eq_true rfl)
  rw [lg_entry_eq]
  generalize (lg_sl ([.ref t_p, .int l1]) ++ List.replicate (2 - (lg_sl ([.ref t_p, .int l1])).length) Slot.unset).toArray = ls at hl ⊢
  replace hl : lv_has ls 2 [(0, .ref t_p), (1, .int l1)] := hl
  rw [f6_letterAt] at hf
  have hgo : ∀ (H : Heap) (locs : List Loc), H = s.heap → locs = [] → va_P g.1 vwCl (fl [wk6 g t_p t_length t_p_text t_text t_cavities t_p_volume t_volume t_p_freeze t_freeze t_cores t_p_earlier t_earlier t_stages t_p_place t_place t_p_now t_now t_p_was t_was t_changes t_p_one t_one t_readCavities t_p_readCavity t_readCavity t_readCores t_p_readCore t_readCore t_readStages t_p_readStage t_readStage t_p_readRule t_readRule t_value t_ends t_screw]) H → va_S A s.heap H locs → W p l e ({ frames := 0, cells := 0, slots := 0, locals := 0 }) s m ([.ref t_p, .int l1] : List Value).toArray below meth c H locs 0 0 (MQ below (pQi g (fun r => r = res) (fl [wk6 g t_p t_length t_p_text t_text t_cavities t_p_volume t_volume t_p_freeze t_freeze t_cores t_p_earlier t_earlier t_stages t_p_place t_place t_p_now t_now t_p_was t_was t_changes t_p_one t_one t_readCavities t_p_readCavity t_readCavity t_readCores t_p_readCore t_readCore t_readStages t_p_readStage t_readStage t_p_readRule t_readRule t_value t_ends t_screw]) A) ([.ref t_p, .int l1] : List Value).toArray s 0 0 A) (F0 m 0 ls []) := by
    intro H locs hH hL hP hS
    refine lv_iload_n hx hb dX6_letterAt_0 rfl (lv_at hl 1 rfl) ?_
    refine lv_aload_n hx hb dX6_letterAt_1 rfl (lv_at hl 0 rfl) ?_
    refine va_get (D := g.1) (ci := 6) (v := .int t_length) (C := RX6) (T := TX6) (N := 23) hx hb hts hin6 hown hK.1 hP 0 rfl rfl 0 (by decide) L1 (fun _ h9 => h9) rfl dX6_letterAt_2 ?_
    refine lv_icmp_ge (tgt := 17) hx hb dX6_letterAt_5 (by decide) (fun c_1 => ?_) (fun c_1 => ?_)
    · replace hf := (if_pos c_1).symm.trans hf
      refine lv_iconst (v := 0) hx hb dX6_letterAt_17 (by decide) ?_
      replace hf := Option.some.inj hf
      subst hf
      exact W.iret (v := 0) hx hb hr (fun t ht hW => ⟨⟨_, (), rfl, rfl, by show va_P g.1 vwCl _ t.heap; rw [ht]; exact hP⟩, hS.F ht⟩) hS.2.2 dX6_letterAt_18 hlocks
    · replace hf := (if_neg c_1).symm.trans hf
      refine lv_aload_n hx hb dX6_letterAt_8 rfl (lv_at hl 0 rfl) ?_
      refine va_get (D := g.1) (ci := 6) (v := .ref t_p_text) (C := RX6) (T := TX6) (N := 23) hx hb hts hin6 hown hK.1 hP 0 rfl rfl 1 (by decide) L2 (fun _ h9 => h9) rfl dX6_letterAt_9 ?_
      refine lv_iload_n hx hb dX6_letterAt_12 rfl (lv_at hl 1 rfl) ?_
      obtain ⟨h_2, hf⟩ := if_some hf
      refine va_iald hx hb hK.1 hP 1 0 rfl rfl (ok_in h_2) dX6_letterAt_13 ?_
      refine lv_goto (tgt := 18) hx hb dX6_letterAt_14 (by decide) ?_
      replace hf := Option.some.inj hf
      subst hf
      exact W.iret (v := t_text (Int32.toNatClampNeg l1)) hx hb hr (fun t ht hW => ⟨⟨_, (), rfl, rfl, by show va_P g.1 vwCl _ t.heap; rw [ht]; exact hP⟩, hS.F ht⟩) hS.2.2 dX6_letterAt_18 hlocks
  exact hgo s.heap [] rfl rfl hP hS

set_option maxHeartbeats 4000000 in
set_option maxRecDepth 100000 in
theorem c6_number (l : Launch) (g : gG) (t_p : Nat) (t_length : Int32) (t_p_text : Nat) (t_text : (Nat → Int32)) (t_cavities : Int32) (t_p_volume : Nat) (t_volume : (Nat → Int32)) (t_p_freeze : Nat) (t_freeze : (Nat → Int32)) (t_cores : Int32) (t_p_earlier : Nat) (t_earlier : (Nat → Int32)) (t_stages : Int32) (t_p_place : Nat) (t_place : (Nat → Int32)) (t_p_now : Nat) (t_now : (Nat → Int32)) (t_p_was : Nat) (t_was : (Nat → Int32)) (t_changes : Int32) (t_p_one : Nat) (t_one : (Nat → Int32)) (t_readCavities : Int32) (t_p_readCavity : Nat) (t_readCavity : (Nat → Int32)) (t_readCores : Int32) (t_p_readCore : Nat) (t_readCore : (Nat → Int32)) (t_readStages : Int32) (t_p_readStage : Nat) (t_readStage : (Nat → Int32)) (t_p_readRule : Nat) (t_readRule : (Nat → Int32)) (t_value : Int32) (t_ends : Int32) (t_screw : Int32) (l1 : Int32) (l2 : Int32) (l3 : Int32) (sz : Nat) (N : Nat) (res : (Int32 × Int32 × Int32)) (hf : f6_number N l1 l2 l3 t_length t_text = some res) : Met l yX6_number wsX6_number ({ frames := 1, cells := 0, slots := 0, locals := 22 }) (pP g [.ref t_p, .int l1, .int l2, .int l3] sz (fl [wk6 g t_p t_length t_p_text t_text t_cavities t_p_volume t_volume t_p_freeze t_freeze t_cores t_p_earlier t_earlier t_stages t_p_place t_place t_p_now t_now t_p_was t_was t_changes t_p_one t_one t_readCavities t_p_readCavity t_readCavity t_readCores t_p_readCore t_readCore t_readStages t_p_readStage t_readStage t_p_readRule t_readRule t_value t_ends t_screw])) (pQi g (fun r => r = res.1) (fl [wk6 g t_p t_length t_p_text t_text t_cavities t_p_volume t_volume t_p_freeze t_freeze t_cores t_p_earlier t_earlier t_stages t_p_place t_place t_p_now t_now t_p_was t_was t_changes t_p_one t_one t_readCavities t_p_readCavity t_readCavity t_readCores t_p_readCore t_readCore t_readStages t_p_readStage t_readStage t_p_readRule t_readRule res.2.1 res.2.2 t_screw]) (va_A (fl [wk6 g t_p t_length t_p_text t_text t_cavities t_p_volume t_volume t_p_freeze t_freeze t_cores t_p_earlier t_earlier t_stages t_p_place t_place t_p_now t_now t_p_was t_was t_changes t_p_one t_one t_readCavities t_p_readCavity t_readCavity t_readCores t_p_readCore t_readCore t_readStages t_p_readStage t_readStage t_p_readRule t_readRule t_value t_ends t_screw]) sz)) 0 0 (va_A (fl [wk6 g t_p t_length t_p_text t_text t_cavities t_p_volume t_volume t_p_freeze t_freeze t_cores t_p_earlier t_earlier t_stages t_p_place t_place t_p_now t_now t_p_was t_was t_changes t_p_one t_one t_readCavities t_p_readCavity t_readCavity t_readCores t_p_readCore t_readCore t_readStages t_p_readStage t_readStage t_p_readRule t_readRule t_value t_ends t_screw]) sz) := by
  refine Met.ofW (cc := cX6_number) (maxL := 4) (ret := (some .boolean)) (by decide) rfl ?_
  intro p e s m args below meth c s₁ B hml hv
  obtain ⟨rfl, hsz, hP, hK, hD0, hG⟩ := hv
  have hx := B.exec
  have hb := B.bytes
  have hr := B.returns
  have hts := atoms_spec (ws := wsX6_number) B.pre
  have hown : s.vm.findClass RX6 = some m.cls := findClass_of_methodNamed B.named
  have hlocks := B.notSynchronized
  subst hsz
  have hD := hD0.self (sz := s.heap.size)
  generalize hAe : va_A (fl [wk6 g t_p t_length t_p_text t_text t_cavities t_p_volume t_volume t_p_freeze t_freeze t_cores t_p_earlier t_earlier t_stages t_p_place t_place t_p_now t_now t_p_was t_was t_changes t_p_one t_one t_readCavities t_p_readCavity t_readCavity t_readCores t_p_readCore t_readCore t_readStages t_p_readStage t_readStage t_p_readRule t_readRule t_value t_ends t_screw]) s.heap.size = A at hD hG ⊢
  have hA : ∀ q : Nat, s.heap.size ≤ q → A q := fun q h => by rw [← hAe]; exact Or.inr h
  have hS : va_S A s.heap s.heap [] := va_S.rf
  have hin6 : ∀ w ∈ u_ws RX6 TX6 23, w ∈ wsX6_number := by decide +kernel
  have L1 := hts (Cond.fieldLink RX6 85 "MouldShotsModel" "value" "I") (by decide +kernel)
  have L2 := hts (Cond.fieldLink RX6 88 "MouldShotsModel" "ends" "I") (by decide +kernel)
  have L3 := hts (Cond.fieldLink RX6 7 "MouldShotsModel" "text" "[I") (by decide +kernel)
  have w_83 : ∀ (v1 : Int32) (v2 : Int32) (v3 : Int32) (t_value : Int32) (t_ends : Int32) (H : Heap) (locs : List Loc) (ls : Array Slot), f6_number_83  N v1 v2 v3 t_value t_ends = some res → va_P g.1 vwCl (fl [wk6 g t_p t_length t_p_text t_text t_cavities t_p_volume t_volume t_p_freeze t_freeze t_cores t_p_earlier t_earlier t_stages t_p_place t_place t_p_now t_now t_p_was t_was t_changes t_p_one t_one t_readCavities t_p_readCavity t_readCavity t_readCores t_p_readCore t_readCore t_readStages t_p_readStage t_readStage t_p_readRule t_readRule t_value t_ends t_screw]) H → va_D A (fl [wk6 g t_p t_length t_p_text t_text t_cavities t_p_volume t_volume t_p_freeze t_freeze t_cores t_p_earlier t_earlier t_stages t_p_place t_place t_p_now t_now t_p_was t_was t_changes t_p_one t_one t_readCavities t_p_readCavity t_readCavity t_readCores t_p_readCore t_readCore t_readStages t_p_readStage t_readStage t_p_readRule t_readRule t_value t_ends t_screw]) → va_S A s.heap H locs → lv_has ls 4 [(0, .ref t_p), (1, .int v1), (2, .int v2), (3, .int v3)] → W p l e ({ frames := 1, cells := 0, slots := 0, locals := 22 }) s m ([.ref t_p, .int l1, .int l2, .int l3] : List Value).toArray below meth c H locs 0 0 (MQ below (pQi g (fun r => r = res.1) (fl [wk6 g t_p t_length t_p_text t_text t_cavities t_p_volume t_volume t_p_freeze t_freeze t_cores t_p_earlier t_earlier t_stages t_p_place t_place t_p_now t_now t_p_was t_was t_changes t_p_one t_one t_readCavities t_p_readCavity t_readCavity t_readCores t_p_readCore t_readCore t_readStages t_p_readStage t_readStage t_p_readRule t_readRule res.2.1 res.2.2 t_screw]) A) ([.ref t_p, .int l1, .int l2, .int l3] : List Value).toArray s 0 0 A) (F0 m 83 ls []) := by
    intro  v1 v2 v3 t_value t_ends H locs ls hf hP hD hS hl
    rw [f6_number_83] at hf
    refine lv_aload_n hx hb dX6_number_83 rfl (lv_at hl 0 rfl) ?_
    refine va_get (D := g.1) (ci := 6) (v := .int t_ends) (C := RX6) (T := TX6) (N := 23) hx hb hts hin6 hown hK.1 hP 0 rfl rfl 21 (by decide) L2 (fun _ h9 => h9) rfl dX6_number_84 ?_
    refine lv_iload_n hx hb dX6_number_87 rfl (lv_at hl 1 rfl) ?_
    refine lv_icmp_le (tgt := 107) hx hb dX6_number_88 (by decide) (fun c_9 => ?_) (fun c_9 => ?_)
    · replace hf := (if_pos c_9).symm.trans hf
      refine lv_iconst (v := 0) hx hb dX6_number_107 (by decide) ?_
      replace hf := Option.some.inj hf
      subst hf
      exact W.zret (v := 0) hx hb hr rfl (fun t ht hW => ⟨⟨_, (), rfl, rfl, by show va_P g.1 vwCl _ t.heap; rw [ht]; exact hP⟩, hS.F ht⟩) hS.2.2 dX6_number_108 hlocks
    · replace hf := (if_neg c_9).symm.trans hf
      refine lv_aload_n hx hb dX6_number_91 rfl (lv_at hl 0 rfl) ?_
      refine va_get (D := g.1) (ci := 6) (v := .int t_value) (C := RX6) (T := TX6) (N := 23) hx hb hts hin6 hown hK.1 hP 0 rfl rfl 20 (by decide) L1 (fun _ h9 => h9) rfl dX6_number_92 ?_
      refine lv_iload_n hx hb dX6_number_95 rfl (lv_at hl 2 rfl) ?_
      refine lv_iload_n hx hb dX6_number_96 rfl (lv_at hl 3 rfl) ?_
      obtain ⟨q_10, hq_10, hf⟩ := bd_some hf
      refine aft_i (wn := (fl [wk6 g t_p t_length t_p_text t_text t_cavities t_p_volume t_volume t_p_freeze t_freeze t_cores t_p_earlier t_earlier t_stages t_p_place t_place t_p_now t_now t_p_was t_was t_changes t_p_one t_one t_readCavities t_p_readCavity t_readCavity t_readCores t_p_readCore t_readCore t_readStages t_p_readStage t_readStage t_p_readRule t_readRule t_value t_ends t_screw])) (va_runS (As := [.int t_value, .int v2, .int v3]) (rest := []) ⟨hx, hb, hml, hown, hts⟩ (c6_isIn l g t_value v2 v3 H.size N q_10 hq_10) (va_cwS 3 hts gX6_number_X6_isIn rfl rfl rfl ⟨nh6.1, nh6.2, pd_17⟩ ⟨Nat.le_of_ble_eq_true rfl, Nat.le_of_ble_eq_true rfl⟩) (pPS hK hG hP hD hS hA [] (by decide) rfl) rfl rfl hl.1 rfl (lv_room (Nat.le_of_ble_eq_true rfl)) dX6_number_97 ⟨Nat.zero_le _, Nat.zero_le _⟩) hP hD hS hA [] rfl rfl rfl (fun r_11 H locs hw hP hD hS => ?_)
      replace hw := hw.symm
      subst hw
      refine lv_if_eq (tgt := 107) hx hb dX6_number_100 (by decide) (fun c_12 => ?_) (fun c_12 => ?_)
      · replace hf := (if_pos c_12).symm.trans hf
        refine lv_iconst (v := 0) hx hb dX6_number_107 (by decide) ?_
        replace hf := Option.some.inj hf
        subst hf
        exact W.zret (v := 0) hx hb hr rfl (fun t ht hW => ⟨⟨_, (), rfl, rfl, by show va_P g.1 vwCl _ t.heap; rw [ht]; exact hP⟩, hS.F ht⟩) hS.2.2 dX6_number_108 hlocks
      · replace hf := (if_neg c_12).symm.trans hf
        refine lv_iconst (v := 1) hx hb dX6_number_103 (by decide) ?_
        refine lv_goto (tgt := 108) hx hb dX6_number_104 (by decide) ?_
        replace hf := Option.some.inj hf
        subst hf
        exact W.zret (v := 1) hx hb hr rfl (fun t ht hW => ⟨⟨_, (), rfl, rfl, by show va_P g.1 vwCl _ t.heap; rw [ht]; exact hP⟩, hS.F ht⟩) hS.2.2 dX6_number_108 hlocks
  have w_10 : ∀ n : Nat, ∀ (v1 : Int32) (v2 : Int32) (v3 : Int32) (t_value : Int32) (t_ends : Int32) (H : Heap) (locs : List Loc) (ls : Array Slot), f6_number_10  N n v1 v2 v3 t_length t_text t_value t_ends = some res → va_P g.1 vwCl (fl [wk6 g t_p t_length t_p_text t_text t_cavities t_p_volume t_volume t_p_freeze t_freeze t_cores t_p_earlier t_earlier t_stages t_p_place t_place t_p_now t_now t_p_was t_was t_changes t_p_one t_one t_readCavities t_p_readCavity t_readCavity t_readCores t_p_readCore t_readCore t_readStages t_p_readStage t_readStage t_p_readRule t_readRule t_value t_ends t_screw]) H → va_D A (fl [wk6 g t_p t_length t_p_text t_text t_cavities t_p_volume t_volume t_p_freeze t_freeze t_cores t_p_earlier t_earlier t_stages t_p_place t_place t_p_now t_now t_p_was t_was t_changes t_p_one t_one t_readCavities t_p_readCavity t_readCavity t_readCores t_p_readCore t_readCore t_readStages t_p_readStage t_readStage t_p_readRule t_readRule t_value t_ends t_screw]) → va_S A s.heap H locs → lv_has ls 4 [(0, .ref t_p), (1, .int v1), (2, .int v2), (3, .int v3)] → W p l e ({ frames := 1, cells := 0, slots := 0, locals := 22 }) s m ([.ref t_p, .int l1, .int l2, .int l3] : List Value).toArray below meth c H locs 0 0 (MQ below (pQi g (fun r => r = res.1) (fl [wk6 g t_p t_length t_p_text t_text t_cavities t_p_volume t_volume t_p_freeze t_freeze t_cores t_p_earlier t_earlier t_stages t_p_place t_place t_p_now t_now t_p_was t_was t_changes t_p_one t_one t_readCavities t_p_readCavity t_readCavity t_readCores t_p_readCore t_readCore t_readStages t_p_readStage t_readStage t_p_readRule t_readRule res.2.1 res.2.2 t_screw]) A) ([.ref t_p, .int l1, .int l2, .int l3] : List Value).toArray s 0 0 A) (F0 m 10 ls []) := by
    intro  n
    induction n with
    | zero => intro v1 v2 v3 t_value t_ends H locs ls hf; exact no_some hf
    | succ n ih =>
      intro v1 v2 v3 t_value t_ends H locs ls hf hP hD hS hl
      rw [f6_number_10] at hf
      refine lv_aload_n hx hb dX6_number_10 rfl (lv_at hl 0 rfl) ?_
      refine va_get (D := g.1) (ci := 6) (v := .int t_ends) (C := RX6) (T := TX6) (N := 23) hx hb hts hin6 hown hK.1 hP 0 rfl rfl 21 (by decide) L2 (fun _ h9 => h9) rfl dX6_number_11 ?_
      refine lv_iload_n hx hb dX6_number_14 rfl (lv_at hl 1 rfl) ?_
      refine lv_iconst (v := 2) hx hb dX6_number_15 (by decide) ?_
      refine lv_iadd hx hb dX6_number_16 ?_
      refine lv_icmp_ge (tgt := 83) hx hb dX6_number_17 (by decide) (fun c_1 => ?_) (fun c_1 => ?_)
      · replace hf := (if_pos c_1).symm.trans hf
        exact w_83  v1 v2 v3 t_value t_ends H locs ls hf hP hD hS (lv_sub hl [0, 1, 2, 3] rfl)
      · replace hf := (if_neg c_1).symm.trans hf
        refine lv_aload_n hx hb dX6_number_20 rfl (lv_at hl 0 rfl) ?_
        refine lv_aload_n hx hb dX6_number_21 rfl (lv_at hl 0 rfl) ?_
        refine va_get (D := g.1) (ci := 6) (v := .int t_ends) (C := RX6) (T := TX6) (N := 23) hx hb hts hin6 hown hK.1 hP 0 rfl rfl 21 (by decide) L2 (fun _ h9 => h9) rfl dX6_number_22 ?_
        obtain ⟨q_2, hq_2, hf⟩ := bd_some hf
        refine bft_i (bn := [wk6 g t_p t_length t_p_text t_text t_cavities t_p_volume t_volume t_p_freeze t_freeze t_cores t_p_earlier t_earlier t_stages t_p_place t_place t_p_now t_now t_p_was t_was t_changes t_p_one t_one t_readCavities t_p_readCavity t_readCavity t_readCores t_p_readCore t_readCore t_readStages t_p_readStage t_readStage t_p_readRule t_readRule t_value t_ends t_screw]) (L := [[t_p, t_p_text, t_p_volume, t_p_freeze, t_p_earlier, t_p_place, t_p_now, t_p_was, t_p_one, t_p_readCavity, t_p_readCore, t_p_readStage, t_p_readRule]]) (va_runV (As := [.int t_ends]) (rest := []) ⟨hx, hb, hml, hown, hts⟩ (c6_letterAt l g t_p t_length t_p_text t_text t_cavities t_p_volume t_volume t_p_freeze t_freeze t_cores t_p_earlier t_earlier t_stages t_p_place t_place t_p_now t_now t_p_was t_was t_changes t_p_one t_one t_readCavities t_p_readCavity t_readCavity t_readCores t_p_readCore t_readCore t_readStages t_p_readStage t_readStage t_p_readRule t_readRule t_value t_ends t_screw t_ends H.size N q_2 hq_2) (cwV 1 hts gX6_number_X6_letterAt rfl rfl rfl ⟨rfl, nh6.1, nh6.2, pd_2⟩ ⟨Nat.le_of_ble_eq_true rfl, Nat.le_of_ble_eq_true rfl⟩) (qPV hK hG hP hD hS hA [0] (by decide) rfl (va_recv hK.1 hP (ci := 6) (q0 := 0) rfl rfl)) rfl rfl hl.1 rfl (lv_room (Nat.le_of_ble_eq_true rfl)) dX6_number_25 ⟨Nat.zero_le _, Nat.zero_le _⟩) hP hD hS hA [0] rfl rfl rfl rfl (fun r_3 H locs hw hP hD hS => ?_)
        replace hw := hw.symm
        subst hw
        refine lv_bipush (v := 48) hx hb dX6_number_28 (by decide) ?_
        refine lv_icmp_lt (tgt := 83) hx hb dX6_number_30 (by decide) (fun c_4 => ?_) (fun c_4 => ?_)
        · replace hf := (if_pos c_4).symm.trans hf
          exact w_83  v1 v2 v3 t_value t_ends H locs ls hf hP hD hS (lv_sub hl [0, 1, 2, 3] rfl)
        · replace hf := (if_neg c_4).symm.trans hf
          refine lv_aload_n hx hb dX6_number_33 rfl (lv_at hl 0 rfl) ?_
          refine lv_aload_n hx hb dX6_number_34 rfl (lv_at hl 0 rfl) ?_
          refine va_get (D := g.1) (ci := 6) (v := .int t_ends) (C := RX6) (T := TX6) (N := 23) hx hb hts hin6 hown hK.1 hP 0 rfl rfl 21 (by decide) L2 (fun _ h9 => h9) rfl dX6_number_35 ?_
          obtain ⟨q_5, hq_5, hf⟩ := bd_some hf
          refine bft_i (bn := [wk6 g t_p t_length t_p_text t_text t_cavities t_p_volume t_volume t_p_freeze t_freeze t_cores t_p_earlier t_earlier t_stages t_p_place t_place t_p_now t_now t_p_was t_was t_changes t_p_one t_one t_readCavities t_p_readCavity t_readCavity t_readCores t_p_readCore t_readCore t_readStages t_p_readStage t_readStage t_p_readRule t_readRule t_value t_ends t_screw]) (L := [[t_p, t_p_text, t_p_volume, t_p_freeze, t_p_earlier, t_p_place, t_p_now, t_p_was, t_p_one, t_p_readCavity, t_p_readCore, t_p_readStage, t_p_readRule]]) (va_runV (As := [.int t_ends]) (rest := []) ⟨hx, hb, hml, hown, hts⟩ (c6_letterAt l g t_p t_length t_p_text t_text t_cavities t_p_volume t_volume t_p_freeze t_freeze t_cores t_p_earlier t_earlier t_stages t_p_place t_place t_p_now t_now t_p_was t_was t_changes t_p_one t_one t_readCavities t_p_readCavity t_readCavity t_readCores t_p_readCore t_readCore t_readStages t_p_readStage t_readStage t_p_readRule t_readRule t_value t_ends t_screw t_ends H.size N q_5 hq_5) (cwV 1 hts gX6_number_X6_letterAt rfl rfl rfl ⟨rfl, nh6.1, nh6.2, pd_2⟩ ⟨Nat.le_of_ble_eq_true rfl, Nat.le_of_ble_eq_true rfl⟩) (qPV hK hG hP hD hS hA [0] (by decide) rfl (va_recv hK.1 hP (ci := 6) (q0 := 0) rfl rfl)) rfl rfl hl.1 rfl (lv_room (Nat.le_of_ble_eq_true rfl)) dX6_number_38 ⟨Nat.zero_le _, Nat.zero_le _⟩) hP hD hS hA [0] rfl rfl rfl rfl (fun r_6 H locs hw hP hD hS => ?_)
          replace hw := hw.symm
          subst hw
          refine lv_bipush (v := 57) hx hb dX6_number_41 (by decide) ?_
          refine lv_icmp_gt (tgt := 83) hx hb dX6_number_43 (by decide) (fun c_7 => ?_) (fun c_7 => ?_)
          · replace hf := (if_pos c_7).symm.trans hf
            exact w_83  v1 v2 v3 t_value t_ends H locs ls hf hP hD hS (lv_sub hl [0, 1, 2, 3] rfl)
          · replace hf := (if_neg c_7).symm.trans hf
            refine lv_aload_n hx hb dX6_number_46 rfl (lv_at hl 0 rfl) ?_
            refine lv_bipush (v := 10) hx hb dX6_number_47 (by decide) ?_
            refine lv_aload_n hx hb dX6_number_49 rfl (lv_at hl 0 rfl) ?_
            refine va_get (D := g.1) (ci := 6) (v := .int t_value) (C := RX6) (T := TX6) (N := 23) hx hb hts hin6 hown hK.1 hP 0 rfl rfl 20 (by decide) L1 (fun _ h9 => h9) rfl dX6_number_50 ?_
            refine lv_imul hx hb dX6_number_53 ?_
            refine lv_aload_n hx hb dX6_number_54 rfl (lv_at hl 0 rfl) ?_
            refine va_get (D := g.1) (ci := 6) (v := .ref t_p_text) (C := RX6) (T := TX6) (N := 23) hx hb hts hin6 hown hK.1 hP 0 rfl rfl 1 (by decide) L3 (fun _ h9 => h9) rfl dX6_number_55 ?_
            refine lv_aload_n hx hb dX6_number_58 rfl (lv_at hl 0 rfl) ?_
            refine va_get (D := g.1) (ci := 6) (v := .int t_ends) (C := RX6) (T := TX6) (N := 23) hx hb hts hin6 hown hK.1 hP 0 rfl rfl 21 (by decide) L2 (fun _ h9 => h9) rfl dX6_number_59 ?_
            obtain ⟨h_8, hf⟩ := if_some hf
            refine va_iald hx hb hK.1 hP 1 0 rfl rfl (ok_in h_8) dX6_number_62 ?_
            refine lv_iadd hx hb dX6_number_63 ?_
            refine lv_bipush (v := 48) hx hb dX6_number_64 (by decide) ?_
            refine lv_isub hx hb dX6_number_66 ?_
            refine va_put (D := g.1) (ci := 6) (v := .int (((10 * t_value) + (t_text (Int32.toNatClampNeg t_ends))) - 48)) (ty := .int) (C := RX6) (T := TX6) (N := 23) hx hb hts hin6 tyX6 tyX6_ok nmX6 hown hK.1 hP hD hS 0 rfl rfl 20 (by decide) L1 (fun _ h9 => h9) rfl (by decide +kernel) rfl rfl (Nat.le_of_ble_eq_true rfl) dX6_number_67 (fun H locs hP hD hS => ?_)
            replace hP : va_P g.1 vwCl (fl [wk6 g t_p t_length t_p_text t_text t_cavities t_p_volume t_volume t_p_freeze t_freeze t_cores t_p_earlier t_earlier t_stages t_p_place t_place t_p_now t_now t_p_was t_was t_changes t_p_one t_one t_readCavities t_p_readCavity t_readCavity t_readCores t_p_readCore t_readCore t_readStages t_p_readStage t_readStage t_p_readRule t_readRule (((10 * t_value) + (t_text (Int32.toNatClampNeg t_ends))) - 48) t_ends t_screw]) H := hP
            replace hD : va_D A (fl [wk6 g t_p t_length t_p_text t_text t_cavities t_p_volume t_volume t_p_freeze t_freeze t_cores t_p_earlier t_earlier t_stages t_p_place t_place t_p_now t_now t_p_was t_was t_changes t_p_one t_one t_readCavities t_p_readCavity t_readCavity t_readCores t_p_readCore t_readCore t_readStages t_p_readStage t_readStage t_p_readRule t_readRule (((10 * t_value) + (t_text (Int32.toNatClampNeg t_ends))) - 48) t_ends t_screw]) := hD
            refine lv_aload_n hx hb dX6_number_70 rfl (lv_at hl 0 rfl) ?_
            refine lv_dup hx hb dX6_number_71 rfl ?_
            refine va_get (D := g.1) (ci := 6) (v := .int t_ends) (C := RX6) (T := TX6) (N := 23) hx hb hts hin6 hown hK.1 hP 0 rfl rfl 21 (by decide) L2 (fun _ h9 => h9) rfl dX6_number_72 ?_
            refine lv_iconst (v := 1) hx hb dX6_number_75 (by decide) ?_
            refine lv_iadd hx hb dX6_number_76 ?_
            refine va_put (D := g.1) (ci := 6) (v := .int (t_ends + 1)) (ty := .int) (C := RX6) (T := TX6) (N := 23) hx hb hts hin6 tyX6 tyX6_ok nmX6 hown hK.1 hP hD hS 0 rfl rfl 21 (by decide) L2 (fun _ h9 => h9) rfl (by decide +kernel) rfl rfl (Nat.le_of_ble_eq_true rfl) dX6_number_77 (fun H locs hP hD hS => ?_)
            replace hP : va_P g.1 vwCl (fl [wk6 g t_p t_length t_p_text t_text t_cavities t_p_volume t_volume t_p_freeze t_freeze t_cores t_p_earlier t_earlier t_stages t_p_place t_place t_p_now t_now t_p_was t_was t_changes t_p_one t_one t_readCavities t_p_readCavity t_readCavity t_readCores t_p_readCore t_readCore t_readStages t_p_readStage t_readStage t_p_readRule t_readRule (((10 * t_value) + (t_text (Int32.toNatClampNeg t_ends))) - 48) (t_ends + 1) t_screw]) H := hP
            replace hD : va_D A (fl [wk6 g t_p t_length t_p_text t_text t_cavities t_p_volume t_volume t_p_freeze t_freeze t_cores t_p_earlier t_earlier t_stages t_p_place t_place t_p_now t_now t_p_was t_was t_changes t_p_one t_one t_readCavities t_p_readCavity t_readCavity t_readCores t_p_readCore t_readCore t_readStages t_p_readStage t_readStage t_p_readRule t_readRule (((10 * t_value) + (t_text (Int32.toNatClampNeg t_ends))) - 48) (t_ends + 1) t_screw]) := hD
            refine lv_goto (tgt := 10) hx hb dX6_number_80 (by decide) ?_
            exact ih v1 v2 v3 (((10 * t_value) + (t_text (Int32.toNatClampNeg t_ends))) - 48) (t_ends + 1) H locs ls hf hP hD hS (lv_sub hl [0, 1, 2, 3] rfl)
  have hl := lv_entry ([.ref t_p, .int l1, .int l2, .int l3]) (n := 4) (Nat.le_of_ble_eq_true rfl)
  rw [lg_entry_eq]
  generalize (lg_sl ([.ref t_p, .int l1, .int l2, .int l3]) ++ List.replicate (4 - (lg_sl ([.ref t_p, .int l1, .int l2, .int l3])).length) Slot.unset).toArray = ls at hl ⊢
  replace hl : lv_has ls 4 [(0, .ref t_p), (1, .int l1), (2, .int l2), (3, .int l3)] := hl
  rw [f6_number] at hf
  have hgo : ∀ (H : Heap) (locs : List Loc), H = s.heap → locs = [] → va_P g.1 vwCl (fl [wk6 g t_p t_length t_p_text t_text t_cavities t_p_volume t_volume t_p_freeze t_freeze t_cores t_p_earlier t_earlier t_stages t_p_place t_place t_p_now t_now t_p_was t_was t_changes t_p_one t_one t_readCavities t_p_readCavity t_readCavity t_readCores t_p_readCore t_readCore t_readStages t_p_readStage t_readStage t_p_readRule t_readRule t_value t_ends t_screw]) H → va_S A s.heap H locs → W p l e ({ frames := 1, cells := 0, slots := 0, locals := 22 }) s m ([.ref t_p, .int l1, .int l2, .int l3] : List Value).toArray below meth c H locs 0 0 (MQ below (pQi g (fun r => r = res.1) (fl [wk6 g t_p t_length t_p_text t_text t_cavities t_p_volume t_volume t_p_freeze t_freeze t_cores t_p_earlier t_earlier t_stages t_p_place t_place t_p_now t_now t_p_was t_was t_changes t_p_one t_one t_readCavities t_p_readCavity t_readCavity t_readCores t_p_readCore t_readCore t_readStages t_p_readStage t_readStage t_p_readRule t_readRule res.2.1 res.2.2 t_screw]) A) ([.ref t_p, .int l1, .int l2, .int l3] : List Value).toArray s 0 0 A) (F0 m 0 ls []) := by
    intro H locs hH hL hP hS
    refine lv_aload_n hx hb dX6_number_0 rfl (lv_at hl 0 rfl) ?_
    refine lv_iconst (v := 0) hx hb dX6_number_1 (by decide) ?_
    refine va_put (D := g.1) (ci := 6) (v := .int 0) (ty := .int) (C := RX6) (T := TX6) (N := 23) hx hb hts hin6 tyX6 tyX6_ok nmX6 hown hK.1 hP hD hS 0 rfl rfl 20 (by decide) L1 (fun _ h9 => h9) rfl (by decide +kernel) rfl rfl (Nat.le_of_ble_eq_true rfl) dX6_number_2 (fun H locs hP hD hS => ?_)
    replace hP : va_P g.1 vwCl (fl [wk6 g t_p t_length t_p_text t_text t_cavities t_p_volume t_volume t_p_freeze t_freeze t_cores t_p_earlier t_earlier t_stages t_p_place t_place t_p_now t_now t_p_was t_was t_changes t_p_one t_one t_readCavities t_p_readCavity t_readCavity t_readCores t_p_readCore t_readCore t_readStages t_p_readStage t_readStage t_p_readRule t_readRule 0 t_ends t_screw]) H := hP
    replace hD : va_D A (fl [wk6 g t_p t_length t_p_text t_text t_cavities t_p_volume t_volume t_p_freeze t_freeze t_cores t_p_earlier t_earlier t_stages t_p_place t_place t_p_now t_now t_p_was t_was t_changes t_p_one t_one t_readCavities t_p_readCavity t_readCavity t_readCores t_p_readCore t_readCore t_readStages t_p_readStage t_readStage t_p_readRule t_readRule 0 t_ends t_screw]) := hD
    refine lv_aload_n hx hb dX6_number_5 rfl (lv_at hl 0 rfl) ?_
    refine lv_iload_n hx hb dX6_number_6 rfl (lv_at hl 1 rfl) ?_
    refine va_put (D := g.1) (ci := 6) (v := .int l1) (ty := .int) (C := RX6) (T := TX6) (N := 23) hx hb hts hin6 tyX6 tyX6_ok nmX6 hown hK.1 hP hD hS 0 rfl rfl 21 (by decide) L2 (fun _ h9 => h9) rfl (by decide +kernel) rfl rfl (Nat.le_of_ble_eq_true rfl) dX6_number_7 (fun H locs hP hD hS => ?_)
    replace hP : va_P g.1 vwCl (fl [wk6 g t_p t_length t_p_text t_text t_cavities t_p_volume t_volume t_p_freeze t_freeze t_cores t_p_earlier t_earlier t_stages t_p_place t_place t_p_now t_now t_p_was t_was t_changes t_p_one t_one t_readCavities t_p_readCavity t_readCavity t_readCores t_p_readCore t_readCore t_readStages t_p_readStage t_readStage t_p_readRule t_readRule 0 l1 t_screw]) H := hP
    replace hD : va_D A (fl [wk6 g t_p t_length t_p_text t_text t_cavities t_p_volume t_volume t_p_freeze t_freeze t_cores t_p_earlier t_earlier t_stages t_p_place t_place t_p_now t_now t_p_was t_was t_changes t_p_one t_one t_readCavities t_p_readCavity t_readCavity t_readCores t_p_readCore t_readCore t_readStages t_p_readStage t_readStage t_p_readRule t_readRule 0 l1 t_screw]) := hD
    exact w_10  N l1 l2 l3 0 l1 H locs ls hf hP hD hS (lv_sub hl [0, 1, 2, 3] rfl)
  exact hgo s.heap [] rfl rfl hP hS

set_option maxHeartbeats 4000000 in
set_option maxRecDepth 100000 in
theorem c6_more (l : Launch) (g : gG) (t_p : Nat) (t_length : Int32) (t_p_text : Nat) (t_text : (Nat → Int32)) (t_cavities : Int32) (t_p_volume : Nat) (t_volume : (Nat → Int32)) (t_p_freeze : Nat) (t_freeze : (Nat → Int32)) (t_cores : Int32) (t_p_earlier : Nat) (t_earlier : (Nat → Int32)) (t_stages : Int32) (t_p_place : Nat) (t_place : (Nat → Int32)) (t_p_now : Nat) (t_now : (Nat → Int32)) (t_p_was : Nat) (t_was : (Nat → Int32)) (t_changes : Int32) (t_p_one : Nat) (t_one : (Nat → Int32)) (t_readCavities : Int32) (t_p_readCavity : Nat) (t_readCavity : (Nat → Int32)) (t_readCores : Int32) (t_p_readCore : Nat) (t_readCore : (Nat → Int32)) (t_readStages : Int32) (t_p_readStage : Nat) (t_readStage : (Nat → Int32)) (t_p_readRule : Nat) (t_readRule : (Nat → Int32)) (t_value : Int32) (t_ends : Int32) (t_screw : Int32) (l1 : Int32) (l2 : Int32) (sz : Nat) (N : Nat) (res : (Int32 × Int32 × Int32)) (hf : f6_more N l1 l2 t_length t_text t_value t_ends = some res) : Met l yX6_more wsX6_more ({ frames := 2, cells := 0, slots := 0, locals := 45 }) (pP g [.ref t_p, .int l1, .int l2] sz (fl [wk6 g t_p t_length t_p_text t_text t_cavities t_p_volume t_volume t_p_freeze t_freeze t_cores t_p_earlier t_earlier t_stages t_p_place t_place t_p_now t_now t_p_was t_was t_changes t_p_one t_one t_readCavities t_p_readCavity t_readCavity t_readCores t_p_readCore t_readCore t_readStages t_p_readStage t_readStage t_p_readRule t_readRule t_value t_ends t_screw])) (pQi g (fun r => r = res.1) (fl [wk6 g t_p t_length t_p_text t_text t_cavities t_p_volume t_volume t_p_freeze t_freeze t_cores t_p_earlier t_earlier t_stages t_p_place t_place t_p_now t_now t_p_was t_was t_changes t_p_one t_one t_readCavities t_p_readCavity t_readCavity t_readCores t_p_readCore t_readCore t_readStages t_p_readStage t_readStage t_p_readRule t_readRule res.2.1 res.2.2 t_screw]) (va_A (fl [wk6 g t_p t_length t_p_text t_text t_cavities t_p_volume t_volume t_p_freeze t_freeze t_cores t_p_earlier t_earlier t_stages t_p_place t_place t_p_now t_now t_p_was t_was t_changes t_p_one t_one t_readCavities t_p_readCavity t_readCavity t_readCores t_p_readCore t_readCore t_readStages t_p_readStage t_readStage t_p_readRule t_readRule t_value t_ends t_screw]) sz)) 0 0 (va_A (fl [wk6 g t_p t_length t_p_text t_text t_cavities t_p_volume t_volume t_p_freeze t_freeze t_cores t_p_earlier t_earlier t_stages t_p_place t_place t_p_now t_now t_p_was t_was t_changes t_p_one t_one t_readCavities t_p_readCavity t_readCavity t_readCores t_p_readCore t_readCore t_readStages t_p_readStage t_readStage t_p_readRule t_readRule t_value t_ends t_screw]) sz) := by
  refine Met.ofW (cc := cX6_more) (maxL := 3) (ret := (some .boolean)) (by decide) rfl ?_
  intro p e s m args below meth c s₁ B hml hv
  obtain ⟨rfl, hsz, hP, hK, hD0, hG⟩ := hv
  have hx := B.exec
  have hb := B.bytes
  have hr := B.returns
  have hts := atoms_spec (ws := wsX6_more) B.pre
  have hown : s.vm.findClass RX6 = some m.cls := findClass_of_methodNamed B.named
  have hlocks := B.notSynchronized
  subst hsz
  have hD := hD0.self (sz := s.heap.size)
  generalize hAe : va_A (fl [wk6 g t_p t_length t_p_text t_text t_cavities t_p_volume t_volume t_p_freeze t_freeze t_cores t_p_earlier t_earlier t_stages t_p_place t_place t_p_now t_now t_p_was t_was t_changes t_p_one t_one t_readCavities t_p_readCavity t_readCavity t_readCores t_p_readCore t_readCore t_readStages t_p_readStage t_readStage t_p_readRule t_readRule t_value t_ends t_screw]) s.heap.size = A at hD hG ⊢
  have hA : ∀ q : Nat, s.heap.size ≤ q → A q := fun q h => by rw [← hAe]; exact Or.inr h
  have hS : va_S A s.heap s.heap [] := va_S.rf
  have hin6 : ∀ w ∈ u_ws RX6 TX6 23, w ∈ wsX6_more := by decide +kernel
  have L1 := hts (Cond.fieldLink RX6 88 "MouldShotsModel" "ends" "I") (by decide +kernel)
  have hl := lv_entry ([.ref t_p, .int l1, .int l2]) (n := 3) (Nat.le_of_ble_eq_true rfl)
  rw [lg_entry_eq]
  generalize (lg_sl ([.ref t_p, .int l1, .int l2]) ++ List.replicate (3 - (lg_sl ([.ref t_p, .int l1, .int l2])).length) Slot.unset).toArray = ls at hl ⊢
  replace hl : lv_has ls 3 [(0, .ref t_p), (1, .int l1), (2, .int l2)] := hl
  rw [f6_more] at hf
  have hgo : ∀ (H : Heap) (locs : List Loc), H = s.heap → locs = [] → va_P g.1 vwCl (fl [wk6 g t_p t_length t_p_text t_text t_cavities t_p_volume t_volume t_p_freeze t_freeze t_cores t_p_earlier t_earlier t_stages t_p_place t_place t_p_now t_now t_p_was t_was t_changes t_p_one t_one t_readCavities t_p_readCavity t_readCavity t_readCores t_p_readCore t_readCore t_readStages t_p_readStage t_readStage t_p_readRule t_readRule t_value t_ends t_screw]) H → va_S A s.heap H locs → W p l e ({ frames := 2, cells := 0, slots := 0, locals := 45 }) s m ([.ref t_p, .int l1, .int l2] : List Value).toArray below meth c H locs 0 0 (MQ below (pQi g (fun r => r = res.1) (fl [wk6 g t_p t_length t_p_text t_text t_cavities t_p_volume t_volume t_p_freeze t_freeze t_cores t_p_earlier t_earlier t_stages t_p_place t_place t_p_now t_now t_p_was t_was t_changes t_p_one t_one t_readCavities t_p_readCavity t_readCavity t_readCores t_p_readCore t_readCore t_readStages t_p_readStage t_readStage t_p_readRule t_readRule res.2.1 res.2.2 t_screw]) A) ([.ref t_p, .int l1, .int l2] : List Value).toArray s 0 0 A) (F0 m 0 ls []) := by
    intro H locs hH hL hP hS
    refine lv_aload_n hx hb dX6_more_0 rfl (lv_at hl 0 rfl) ?_
    refine lv_aload_n hx hb dX6_more_1 rfl (lv_at hl 0 rfl) ?_
    refine va_get (D := g.1) (ci := 6) (v := .int t_ends) (C := RX6) (T := TX6) (N := 23) hx hb hts hin6 hown hK.1 hP 0 rfl rfl 21 (by decide) L1 (fun _ h9 => h9) rfl dX6_more_2 ?_
    obtain ⟨q_1, hq_1, hf⟩ := bd_some hf
    refine bft_i (bn := [wk6 g t_p t_length t_p_text t_text t_cavities t_p_volume t_volume t_p_freeze t_freeze t_cores t_p_earlier t_earlier t_stages t_p_place t_place t_p_now t_now t_p_was t_was t_changes t_p_one t_one t_readCavities t_p_readCavity t_readCavity t_readCores t_p_readCore t_readCore t_readStages t_p_readStage t_readStage t_p_readRule t_readRule t_value t_ends t_screw]) (L := [[t_p, t_p_text, t_p_volume, t_p_freeze, t_p_earlier, t_p_place, t_p_now, t_p_was, t_p_one, t_p_readCavity, t_p_readCore, t_p_readStage, t_p_readRule]]) (va_runV (As := [.int t_ends]) (rest := []) ⟨hx, hb, hml, hown, hts⟩ (c6_letterAt l g t_p t_length t_p_text t_text t_cavities t_p_volume t_volume t_p_freeze t_freeze t_cores t_p_earlier t_earlier t_stages t_p_place t_place t_p_now t_now t_p_was t_was t_changes t_p_one t_one t_readCavities t_p_readCavity t_readCavity t_readCores t_p_readCore t_readCore t_readStages t_p_readStage t_readStage t_p_readRule t_readRule t_value t_ends t_screw t_ends H.size N q_1 hq_1) (cwV 1 hts gX6_more_X6_letterAt rfl rfl rfl ⟨rfl, nh6.1, nh6.2, pd_2⟩ ⟨Nat.le_of_ble_eq_true rfl, Nat.le_of_ble_eq_true rfl⟩) (qPV hK hG hP hD hS hA [0] (by decide) rfl (va_recv hK.1 hP (ci := 6) (q0 := 0) rfl rfl)) rfl rfl hl.1 rfl (lv_room (Nat.le_of_ble_eq_true rfl)) dX6_more_5 ⟨Nat.zero_le _, Nat.zero_le _⟩) hP hD hS hA [0] rfl rfl rfl rfl (fun r_2 H locs hw hP hD hS => ?_)
    replace hw := hw.symm
    subst hw
    refine lv_bipush (v := 44) hx hb dX6_more_8 (by decide) ?_
    refine lv_icmp_ne (tgt := 32) hx hb dX6_more_10 (by decide) (fun c_3 => ?_) (fun c_3 => ?_)
    · replace hf := (if_neg c_3).symm.trans hf
      refine lv_iconst (v := 0) hx hb dX6_more_32 (by decide) ?_
      replace hf := Option.some.inj hf
      subst hf
      exact W.zret (v := 0) hx hb hr rfl (fun t ht hW => ⟨⟨_, (), rfl, rfl, by show va_P g.1 vwCl _ t.heap; rw [ht]; exact hP⟩, hS.F ht⟩) hS.2.2 dX6_more_33 hlocks
    · replace hf := (if_pos c_3).symm.trans hf
      refine lv_aload_n hx hb dX6_more_13 rfl (lv_at hl 0 rfl) ?_
      refine lv_aload_n hx hb dX6_more_14 rfl (lv_at hl 0 rfl) ?_
      refine va_get (D := g.1) (ci := 6) (v := .int t_ends) (C := RX6) (T := TX6) (N := 23) hx hb hts hin6 hown hK.1 hP 0 rfl rfl 21 (by decide) L1 (fun _ h9 => h9) rfl dX6_more_15 ?_
      refine lv_iconst (v := 1) hx hb dX6_more_18 (by decide) ?_
      refine lv_iadd hx hb dX6_more_19 ?_
      refine lv_iload_n hx hb dX6_more_20 rfl (lv_at hl 1 rfl) ?_
      refine lv_iload_n hx hb dX6_more_21 rfl (lv_at hl 2 rfl) ?_
      obtain ⟨q_4, hq_4, hf⟩ := bd_some hf
      refine bft_i (bn := [wk6 g t_p t_length t_p_text t_text t_cavities t_p_volume t_volume t_p_freeze t_freeze t_cores t_p_earlier t_earlier t_stages t_p_place t_place t_p_now t_now t_p_was t_was t_changes t_p_one t_one t_readCavities t_p_readCavity t_readCavity t_readCores t_p_readCore t_readCore t_readStages t_p_readStage t_readStage t_p_readRule t_readRule q_4.2.1 q_4.2.2 t_screw]) (L := [[t_p, t_p_text, t_p_volume, t_p_freeze, t_p_earlier, t_p_place, t_p_now, t_p_was, t_p_one, t_p_readCavity, t_p_readCore, t_p_readStage, t_p_readRule]]) (va_runV (As := [.int (t_ends + 1), .int l1, .int l2]) (rest := []) ⟨hx, hb, hml, hown, hts⟩ (c6_number l g t_p t_length t_p_text t_text t_cavities t_p_volume t_volume t_p_freeze t_freeze t_cores t_p_earlier t_earlier t_stages t_p_place t_place t_p_now t_now t_p_was t_was t_changes t_p_one t_one t_readCavities t_p_readCavity t_readCavity t_readCores t_p_readCore t_readCore t_readStages t_p_readStage t_readStage t_p_readRule t_readRule t_value t_ends t_screw (t_ends + 1) l1 l2 H.size N q_4 hq_4) (cwV 3 hts gX6_more_X6_number rfl rfl rfl ⟨rfl, nh6.1, nh6.2, pd_17⟩ ⟨Nat.le_of_ble_eq_true rfl, Nat.le_of_ble_eq_true rfl⟩) (qPV hK hG hP hD hS hA [0] (by decide) rfl (va_recv hK.1 hP (ci := 6) (q0 := 0) rfl rfl)) rfl rfl hl.1 rfl (lv_room (Nat.le_of_ble_eq_true rfl)) dX6_more_22 ⟨Nat.zero_le _, Nat.zero_le _⟩) hP hD hS hA [0] rfl rfl rfl rfl (fun r_5 H locs hw hP hD hS => ?_)
      replace hw := hw.symm
      subst hw
      refine lv_if_eq (tgt := 32) hx hb dX6_more_25 (by decide) (fun c_6 => ?_) (fun c_6 => ?_)
      · replace hf := (if_pos c_6).symm.trans hf
        refine lv_iconst (v := 0) hx hb dX6_more_32 (by decide) ?_
        replace hf := Option.some.inj hf
        subst hf
        exact W.zret (v := 0) hx hb hr rfl (fun t ht hW => ⟨⟨_, (), rfl, rfl, by show va_P g.1 vwCl _ t.heap; rw [ht]; exact hP⟩, hS.F ht⟩) hS.2.2 dX6_more_33 hlocks
      · replace hf := (if_neg c_6).symm.trans hf
        refine lv_iconst (v := 1) hx hb dX6_more_28 (by decide) ?_
        refine lv_goto (tgt := 33) hx hb dX6_more_29 (by decide) ?_
        replace hf := Option.some.inj hf
        subst hf
        exact W.zret (v := 1) hx hb hr rfl (fun t ht hW => ⟨⟨_, (), rfl, rfl, by show va_P g.1 vwCl _ t.heap; rw [ht]; exact hP⟩, hS.F ht⟩) hS.2.2 dX6_more_33 hlocks
  exact hgo s.heap [] rfl rfl hP hS

set_option maxHeartbeats 4000000 in
set_option maxRecDepth 100000 in
theorem c6_readsCavity (l : Launch) (g : gG) (t_p : Nat) (t_length : Int32) (t_p_text : Nat) (t_text : (Nat → Int32)) (t_cavities : Int32) (t_p_volume : Nat) (t_volume : (Nat → Int32)) (t_p_freeze : Nat) (t_freeze : (Nat → Int32)) (t_cores : Int32) (t_p_earlier : Nat) (t_earlier : (Nat → Int32)) (t_stages : Int32) (t_p_place : Nat) (t_place : (Nat → Int32)) (t_p_now : Nat) (t_now : (Nat → Int32)) (t_p_was : Nat) (t_was : (Nat → Int32)) (t_changes : Int32) (t_p_one : Nat) (t_one : (Nat → Int32)) (t_readCavities : Int32) (t_p_readCavity : Nat) (t_readCavity : (Nat → Int32)) (t_readCores : Int32) (t_p_readCore : Nat) (t_readCore : (Nat → Int32)) (t_readStages : Int32) (t_p_readStage : Nat) (t_readStage : (Nat → Int32)) (t_p_readRule : Nat) (t_readRule : (Nat → Int32)) (t_value : Int32) (t_ends : Int32) (t_screw : Int32) (l1 : Int32) (sz : Nat) (N : Nat) (res : (Int32 × Int32 × (Nat → Int32) × Int32 × Int32)) (hf : f6_readsCavity N l1 t_length t_text t_readCavities t_readCavity t_value t_ends = some res) : Met l yX6_readsCavity wsX6_readsCavity ({ frames := 3, cells := 0, slots := 0, locals := 67 }) (pP g [.ref t_p, .int l1] sz (fl [wk6 g t_p t_length t_p_text t_text t_cavities t_p_volume t_volume t_p_freeze t_freeze t_cores t_p_earlier t_earlier t_stages t_p_place t_place t_p_now t_now t_p_was t_was t_changes t_p_one t_one t_readCavities t_p_readCavity t_readCavity t_readCores t_p_readCore t_readCore t_readStages t_p_readStage t_readStage t_p_readRule t_readRule t_value t_ends t_screw])) (pQi g (fun r => r = res.1) (fl [wk6 g t_p t_length t_p_text t_text t_cavities t_p_volume t_volume t_p_freeze t_freeze t_cores t_p_earlier t_earlier t_stages t_p_place t_place t_p_now t_now t_p_was t_was t_changes t_p_one t_one res.2.1 t_p_readCavity res.2.2.1 t_readCores t_p_readCore t_readCore t_readStages t_p_readStage t_readStage t_p_readRule t_readRule res.2.2.2.1 res.2.2.2.2 t_screw]) (va_A (fl [wk6 g t_p t_length t_p_text t_text t_cavities t_p_volume t_volume t_p_freeze t_freeze t_cores t_p_earlier t_earlier t_stages t_p_place t_place t_p_now t_now t_p_was t_was t_changes t_p_one t_one t_readCavities t_p_readCavity t_readCavity t_readCores t_p_readCore t_readCore t_readStages t_p_readStage t_readStage t_p_readRule t_readRule t_value t_ends t_screw]) sz)) 0 0 (va_A (fl [wk6 g t_p t_length t_p_text t_text t_cavities t_p_volume t_volume t_p_freeze t_freeze t_cores t_p_earlier t_earlier t_stages t_p_place t_place t_p_now t_now t_p_was t_was t_changes t_p_one t_one t_readCavities t_p_readCavity t_readCavity t_readCores t_p_readCore t_readCore t_readStages t_p_readStage t_readStage t_p_readRule t_readRule t_value t_ends t_screw]) sz) := by
  refine Met.ofW (cc := cX6_readsCavity) (maxL := 5) (ret := (some .boolean)) (by decide) rfl ?_
  intro p e s m args below meth c s₁ B hml hv
  obtain ⟨rfl, hsz, hP, hK, hD0, hG⟩ := hv
  have hx := B.exec
  have hb := B.bytes
  have hr := B.returns
  have hts := atoms_spec (ws := wsX6_readsCavity) B.pre
  have hown : s.vm.findClass RX6 = some m.cls := findClass_of_methodNamed B.named
  have hlocks := B.notSynchronized
  subst hsz
  have hD := hD0.self (sz := s.heap.size)
  generalize hAe : va_A (fl [wk6 g t_p t_length t_p_text t_text t_cavities t_p_volume t_volume t_p_freeze t_freeze t_cores t_p_earlier t_earlier t_stages t_p_place t_place t_p_now t_now t_p_was t_was t_changes t_p_one t_one t_readCavities t_p_readCavity t_readCavity t_readCores t_p_readCore t_readCore t_readStages t_p_readStage t_readStage t_p_readRule t_readRule t_value t_ends t_screw]) s.heap.size = A at hD hG ⊢
  have hA : ∀ q : Nat, s.heap.size ≤ q → A q := fun q h => by rw [← hAe]; exact Or.inr h
  have hS : va_S A s.heap s.heap [] := va_S.rf
  have hin6 : ∀ w ∈ u_ws RX6 TX6 23, w ∈ wsX6_readsCavity := by decide +kernel
  have L1 := hts (Cond.fieldLink RX6 64 "MouldShotsModel" "readCavities" "I") (by decide +kernel)
  have L2 := hts (Cond.fieldLink RX6 85 "MouldShotsModel" "value" "I") (by decide +kernel)
  have hl := lv_entry ([.ref t_p, .int l1]) (n := 5) (Nat.le_of_ble_eq_true rfl)
  rw [lg_entry_eq]
  generalize (lg_sl ([.ref t_p, .int l1]) ++ List.replicate (5 - (lg_sl ([.ref t_p, .int l1])).length) Slot.unset).toArray = ls at hl ⊢
  replace hl : lv_has ls 5 [(0, .ref t_p), (1, .int l1)] := hl
  rw [f6_readsCavity] at hf
  have hgo : ∀ (H : Heap) (locs : List Loc), H = s.heap → locs = [] → va_P g.1 vwCl (fl [wk6 g t_p t_length t_p_text t_text t_cavities t_p_volume t_volume t_p_freeze t_freeze t_cores t_p_earlier t_earlier t_stages t_p_place t_place t_p_now t_now t_p_was t_was t_changes t_p_one t_one t_readCavities t_p_readCavity t_readCavity t_readCores t_p_readCore t_readCore t_readStages t_p_readStage t_readStage t_p_readRule t_readRule t_value t_ends t_screw]) H → va_S A s.heap H locs → W p l e ({ frames := 3, cells := 0, slots := 0, locals := 67 }) s m ([.ref t_p, .int l1] : List Value).toArray below meth c H locs 0 0 (MQ below (pQi g (fun r => r = res.1) (fl [wk6 g t_p t_length t_p_text t_text t_cavities t_p_volume t_volume t_p_freeze t_freeze t_cores t_p_earlier t_earlier t_stages t_p_place t_place t_p_now t_now t_p_was t_was t_changes t_p_one t_one res.2.1 t_p_readCavity res.2.2.1 t_readCores t_p_readCore t_readCore t_readStages t_p_readStage t_readStage t_p_readRule t_readRule res.2.2.2.1 res.2.2.2.2 t_screw]) A) ([.ref t_p, .int l1] : List Value).toArray s 0 0 A) (F0 m 0 ls []) := by
    intro H locs hH hL hP hS
    refine lv_aload_n hx hb dX6_readsCavity_0 rfl (lv_at hl 0 rfl) ?_
    refine va_get (D := g.1) (ci := 6) (v := .int t_readCavities) (C := RX6) (T := TX6) (N := 23) hx hb hts hin6 hown hK.1 hP 0 rfl rfl 13 (by decide) L1 (fun _ h9 => h9) rfl dX6_readsCavity_1 ?_
    refine lv_bipush (v := 6) hx hb dX6_readsCavity_4 (by decide) ?_
    refine lv_icmp_eq (tgt := 20) hx hb dX6_readsCavity_6 (by decide) (fun c_1 => ?_) (fun c_1 => ?_)
    · replace hf := (if_pos c_1).symm.trans hf
      refine lv_iconst (v := 0) hx hb dX6_readsCavity_20 (by decide) ?_
      replace hf := Option.some.inj hf
      subst hf
      exact W.zret (v := 0) hx hb hr rfl (fun t ht hW => ⟨⟨_, (), rfl, rfl, by show va_P g.1 vwCl _ t.heap; rw [ht]; exact hP⟩, hS.F ht⟩) hS.2.2 dX6_readsCavity_21 hlocks
    · replace hf := (if_neg c_1).symm.trans hf
      refine lv_aload_n hx hb dX6_readsCavity_9 rfl (lv_at hl 0 rfl) ?_
      refine lv_iload_n hx hb dX6_readsCavity_10 rfl (lv_at hl 1 rfl) ?_
      refine lv_iconst (v := 1) hx hb dX6_readsCavity_11 (by decide) ?_
      refine lv_bipush (v := 30) hx hb dX6_readsCavity_12 (by decide) ?_
      obtain ⟨q_2, hq_2, hf⟩ := bd_some hf
      refine bft_i (bn := [wk6 g t_p t_length t_p_text t_text t_cavities t_p_volume t_volume t_p_freeze t_freeze t_cores t_p_earlier t_earlier t_stages t_p_place t_place t_p_now t_now t_p_was t_was t_changes t_p_one t_one t_readCavities t_p_readCavity t_readCavity t_readCores t_p_readCore t_readCore t_readStages t_p_readStage t_readStage t_p_readRule t_readRule q_2.2.1 q_2.2.2 t_screw]) (L := [[t_p, t_p_text, t_p_volume, t_p_freeze, t_p_earlier, t_p_place, t_p_now, t_p_was, t_p_one, t_p_readCavity, t_p_readCore, t_p_readStage, t_p_readRule]]) (va_runV (As := [.int l1, .int 1, .int 30]) (rest := []) ⟨hx, hb, hml, hown, hts⟩ (c6_number l g t_p t_length t_p_text t_text t_cavities t_p_volume t_volume t_p_freeze t_freeze t_cores t_p_earlier t_earlier t_stages t_p_place t_place t_p_now t_now t_p_was t_was t_changes t_p_one t_one t_readCavities t_p_readCavity t_readCavity t_readCores t_p_readCore t_readCore t_readStages t_p_readStage t_readStage t_p_readRule t_readRule t_value t_ends t_screw l1 1 30 H.size N q_2 hq_2) (cwV 3 hts gX6_readsCavity_X6_number rfl rfl rfl ⟨rfl, nh6.1, nh6.2, pd_17⟩ ⟨Nat.le_of_ble_eq_true rfl, Nat.le_of_ble_eq_true rfl⟩) (qPV hK hG hP hD hS hA [0] (by decide) rfl (va_recv hK.1 hP (ci := 6) (q0 := 0) rfl rfl)) rfl rfl hl.1 rfl (lv_room (Nat.le_of_ble_eq_true rfl)) dX6_readsCavity_14 ⟨Nat.zero_le _, Nat.zero_le _⟩) hP hD hS hA [0] rfl rfl rfl rfl (fun r_3 H locs hw hP hD hS => ?_)
      replace hw := hw.symm
      subst hw
      refine lv_if_ne (tgt := 22) hx hb dX6_readsCavity_17 (by decide) (fun c_4 => ?_) (fun c_4 => ?_)
      · replace hf := (if_neg c_4).symm.trans hf
        refine lv_aload_n hx hb dX6_readsCavity_22 rfl (lv_at hl 0 rfl) ?_
        refine va_get (D := g.1) (ci := 6) (v := .int q_2.2.1) (C := RX6) (T := TX6) (N := 23) hx hb hts hin6 hown hK.1 hP 0 rfl rfl 20 (by decide) L2 (fun _ h9 => h9) rfl dX6_readsCavity_23 ?_
        refine lv_istore_n (lv' := [(2, .int q_2.2.1), (0, .ref t_p), (1, .int l1)]) hx hb dX6_readsCavity_26 rfl hl (by decide) rfl (fun ls hl => ?_)
        refine lv_aload_n hx hb dX6_readsCavity_27 rfl (lv_at hl 1 rfl) ?_
        refine lv_iconst (v := 1) hx hb dX6_readsCavity_28 (by decide) ?_
        refine lv_bipush (v := 9) hx hb dX6_readsCavity_29 (by decide) ?_
        obtain ⟨q_5, hq_5, hf⟩ := bd_some hf
        refine bft_i (bn := [wk6 g t_p t_length t_p_text t_text t_cavities t_p_volume t_volume t_p_freeze t_freeze t_cores t_p_earlier t_earlier t_stages t_p_place t_place t_p_now t_now t_p_was t_was t_changes t_p_one t_one t_readCavities t_p_readCavity t_readCavity t_readCores t_p_readCore t_readCore t_readStages t_p_readStage t_readStage t_p_readRule t_readRule q_5.2.1 q_5.2.2 t_screw]) (L := [[t_p, t_p_text, t_p_volume, t_p_freeze, t_p_earlier, t_p_place, t_p_now, t_p_was, t_p_one, t_p_readCavity, t_p_readCore, t_p_readStage, t_p_readRule]]) (va_runV (As := [.int 1, .int 9]) (rest := []) ⟨hx, hb, hml, hown, hts⟩ (c6_more l g t_p t_length t_p_text t_text t_cavities t_p_volume t_volume t_p_freeze t_freeze t_cores t_p_earlier t_earlier t_stages t_p_place t_place t_p_now t_now t_p_was t_was t_changes t_p_one t_one t_readCavities t_p_readCavity t_readCavity t_readCores t_p_readCore t_readCore t_readStages t_p_readStage t_readStage t_p_readRule t_readRule q_2.2.1 q_2.2.2 t_screw 1 9 H.size N q_5 hq_5) (cwV 2 hts gX6_readsCavity_X6_more rfl rfl rfl ⟨rfl, nh6.1, nh6.2, pd_16⟩ ⟨Nat.le_of_ble_eq_true rfl, Nat.le_of_ble_eq_true rfl⟩) (qPV hK hG hP hD hS hA [0] (by decide) rfl (va_recv hK.1 hP (ci := 6) (q0 := 0) rfl rfl)) rfl rfl hl.1 rfl (lv_room (Nat.le_of_ble_eq_true rfl)) dX6_readsCavity_31 ⟨Nat.zero_le _, Nat.zero_le _⟩) hP hD hS hA [0] rfl rfl rfl rfl (fun r_6 H locs hw hP hD hS => ?_)
        replace hw := hw.symm
        subst hw
        refine lv_if_ne (tgt := 39) hx hb dX6_readsCavity_34 (by decide) (fun c_7 => ?_) (fun c_7 => ?_)
        · replace hf := (if_neg c_7).symm.trans hf
          refine lv_aload_n hx hb dX6_readsCavity_39 rfl (lv_at hl 1 rfl) ?_
          refine va_get (D := g.1) (ci := 6) (v := .int q_5.2.1) (C := RX6) (T := TX6) (N := 23) hx hb hts hin6 hown hK.1 hP 0 rfl rfl 20 (by decide) L2 (fun _ h9 => h9) rfl dX6_readsCavity_40 ?_
          refine lv_istore_n (lv' := [(3, .int q_5.2.1), (2, .int q_2.2.1), (0, .ref t_p), (1, .int l1)]) hx hb dX6_readsCavity_43 rfl hl (by decide) rfl (fun ls hl => ?_)
          refine lv_aload_n hx hb dX6_readsCavity_44 rfl (lv_at hl 2 rfl) ?_
          refine lv_iconst (v := 1) hx hb dX6_readsCavity_45 (by decide) ?_
          refine lv_bipush (v := 9) hx hb dX6_readsCavity_46 (by decide) ?_
          obtain ⟨q_8, hq_8, hf⟩ := bd_some hf
          refine bft_i (bn := [wk6 g t_p t_length t_p_text t_text t_cavities t_p_volume t_volume t_p_freeze t_freeze t_cores t_p_earlier t_earlier t_stages t_p_place t_place t_p_now t_now t_p_was t_was t_changes t_p_one t_one t_readCavities t_p_readCavity t_readCavity t_readCores t_p_readCore t_readCore t_readStages t_p_readStage t_readStage t_p_readRule t_readRule q_8.2.1 q_8.2.2 t_screw]) (L := [[t_p, t_p_text, t_p_volume, t_p_freeze, t_p_earlier, t_p_place, t_p_now, t_p_was, t_p_one, t_p_readCavity, t_p_readCore, t_p_readStage, t_p_readRule]]) (va_runV (As := [.int 1, .int 9]) (rest := []) ⟨hx, hb, hml, hown, hts⟩ (c6_more l g t_p t_length t_p_text t_text t_cavities t_p_volume t_volume t_p_freeze t_freeze t_cores t_p_earlier t_earlier t_stages t_p_place t_place t_p_now t_now t_p_was t_was t_changes t_p_one t_one t_readCavities t_p_readCavity t_readCavity t_readCores t_p_readCore t_readCore t_readStages t_p_readStage t_readStage t_p_readRule t_readRule q_5.2.1 q_5.2.2 t_screw 1 9 H.size N q_8 hq_8) (cwV 2 hts gX6_readsCavity_X6_more rfl rfl rfl ⟨rfl, nh6.1, nh6.2, pd_16⟩ ⟨Nat.le_of_ble_eq_true rfl, Nat.le_of_ble_eq_true rfl⟩) (qPV hK hG hP hD hS hA [0] (by decide) rfl (va_recv hK.1 hP (ci := 6) (q0 := 0) rfl rfl)) rfl rfl hl.1 rfl (lv_room (Nat.le_of_ble_eq_true rfl)) dX6_readsCavity_48 ⟨Nat.zero_le _, Nat.zero_le _⟩) hP hD hS hA [0] rfl rfl rfl rfl (fun r_9 H locs hw hP hD hS => ?_)
          replace hw := hw.symm
          subst hw
          refine lv_istore (lv' := [(4, .int q_8.1), (3, .int q_5.2.1), (2, .int q_2.2.1), (0, .ref t_p), (1, .int l1)]) hx hb dX6_readsCavity_51 hl (by decide) rfl (fun ls hl => ?_)
          refine lv_aload_n hx hb dX6_readsCavity_53 rfl (lv_at hl 3 rfl) ?_
          refine lv_iload_n hx hb dX6_readsCavity_54 rfl (lv_at hl 2 rfl) ?_
          refine lv_iload_n hx hb dX6_readsCavity_55 rfl (lv_at hl 1 rfl) ?_
          refine lv_aload_n hx hb dX6_readsCavity_56 rfl (lv_at hl 3 rfl) ?_
          refine va_get (D := g.1) (ci := 6) (v := .int q_8.2.1) (C := RX6) (T := TX6) (N := 23) hx hb hts hin6 hown hK.1 hP 0 rfl rfl 20 (by decide) L2 (fun _ h9 => h9) rfl dX6_readsCavity_57 ?_
          obtain ⟨q_10, hq_10, hf⟩ := bd_some hf
          refine bft_v (bn := [wk6 g t_p t_length t_p_text t_text t_cavities t_p_volume t_volume t_p_freeze t_freeze t_cores t_p_earlier t_earlier t_stages t_p_place t_place t_p_now t_now t_p_was t_was t_changes t_p_one t_one q_10.1 t_p_readCavity q_10.2 t_readCores t_p_readCore t_readCore t_readStages t_p_readStage t_readStage t_p_readRule t_readRule q_8.2.1 q_8.2.2 t_screw]) (L := [[t_p, t_p_text, t_p_volume, t_p_freeze, t_p_earlier, t_p_place, t_p_now, t_p_was, t_p_one, t_p_readCavity, t_p_readCore, t_p_readStage, t_p_readRule]]) (va_runV (As := [.int q_2.2.1, .int q_5.2.1, .int q_8.2.1]) (rest := []) ⟨hx, hb, hml, hown, hts⟩ (c6_cavityOf l g t_p t_length t_p_text t_text t_cavities t_p_volume t_volume t_p_freeze t_freeze t_cores t_p_earlier t_earlier t_stages t_p_place t_place t_p_now t_now t_p_was t_was t_changes t_p_one t_one t_readCavities t_p_readCavity t_readCavity t_readCores t_p_readCore t_readCore t_readStages t_p_readStage t_readStage t_p_readRule t_readRule q_8.2.1 q_8.2.2 t_screw q_2.2.1 q_5.2.1 q_8.2.1 H.size N q_10 hq_10) (cwV 3 hts gX6_readsCavity_X6_cavityOf rfl rfl rfl ⟨rfl, nh6.1, nh6.2, pd_28⟩ ⟨Nat.le_of_ble_eq_true rfl, Nat.le_of_ble_eq_true rfl⟩) (qPV hK hG hP hD hS hA [0] (by decide) rfl (va_recv hK.1 hP (ci := 6) (q0 := 0) rfl rfl)) rfl rfl hl.1 rfl (lv_room (Nat.le_of_ble_eq_true rfl)) dX6_readsCavity_60 ⟨Nat.zero_le _, Nat.zero_le _⟩) hP hD hS hA [0] rfl rfl rfl rfl (fun H locs hP hD hS => ?_)
          refine lv_iload hx hb dX6_readsCavity_63 (lv_at hl 0 rfl) ?_
          obtain ⟨h_11, hf⟩ := if_some hf
          replace hf := Option.some.inj hf
          subst hf
          exact W.zret (v := q_8.1) hx hb hr (isb_n h_11) (fun t ht hW => ⟨⟨_, (), rfl, rfl, by show va_P g.1 vwCl _ t.heap; rw [ht]; exact hP⟩, hS.F ht⟩) hS.2.2 dX6_readsCavity_65 hlocks
        · replace hf := (if_pos c_7).symm.trans hf
          refine lv_iconst (v := 0) hx hb dX6_readsCavity_37 (by decide) ?_
          replace hf := Option.some.inj hf
          subst hf
          exact W.zret (v := 0) hx hb hr rfl (fun t ht hW => ⟨⟨_, (), rfl, rfl, by show va_P g.1 vwCl _ t.heap; rw [ht]; exact hP⟩, hS.F ht⟩) hS.2.2 dX6_readsCavity_38 hlocks
      · replace hf := (if_pos c_4).symm.trans hf
        refine lv_iconst (v := 0) hx hb dX6_readsCavity_20 (by decide) ?_
        replace hf := Option.some.inj hf
        subst hf
        exact W.zret (v := 0) hx hb hr rfl (fun t ht hW => ⟨⟨_, (), rfl, rfl, by show va_P g.1 vwCl _ t.heap; rw [ht]; exact hP⟩, hS.F ht⟩) hS.2.2 dX6_readsCavity_21 hlocks
  exact hgo s.heap [] rfl rfl hP hS

set_option maxHeartbeats 4000000 in
set_option maxRecDepth 100000 in
theorem c6_readsCore (l : Launch) (g : gG) (t_p : Nat) (t_length : Int32) (t_p_text : Nat) (t_text : (Nat → Int32)) (t_cavities : Int32) (t_p_volume : Nat) (t_volume : (Nat → Int32)) (t_p_freeze : Nat) (t_freeze : (Nat → Int32)) (t_cores : Int32) (t_p_earlier : Nat) (t_earlier : (Nat → Int32)) (t_stages : Int32) (t_p_place : Nat) (t_place : (Nat → Int32)) (t_p_now : Nat) (t_now : (Nat → Int32)) (t_p_was : Nat) (t_was : (Nat → Int32)) (t_changes : Int32) (t_p_one : Nat) (t_one : (Nat → Int32)) (t_readCavities : Int32) (t_p_readCavity : Nat) (t_readCavity : (Nat → Int32)) (t_readCores : Int32) (t_p_readCore : Nat) (t_readCore : (Nat → Int32)) (t_readStages : Int32) (t_p_readStage : Nat) (t_readStage : (Nat → Int32)) (t_p_readRule : Nat) (t_readRule : (Nat → Int32)) (t_value : Int32) (t_ends : Int32) (t_screw : Int32) (l1 : Int32) (sz : Nat) (N : Nat) (res : (Int32 × Int32 × (Nat → Int32) × Int32 × Int32)) (hf : f6_readsCore N l1 t_length t_text t_readCores t_readCore t_value t_ends = some res) : Met l yX6_readsCore wsX6_readsCore ({ frames := 2, cells := 0, slots := 0, locals := 45 }) (pP g [.ref t_p, .int l1] sz (fl [wk6 g t_p t_length t_p_text t_text t_cavities t_p_volume t_volume t_p_freeze t_freeze t_cores t_p_earlier t_earlier t_stages t_p_place t_place t_p_now t_now t_p_was t_was t_changes t_p_one t_one t_readCavities t_p_readCavity t_readCavity t_readCores t_p_readCore t_readCore t_readStages t_p_readStage t_readStage t_p_readRule t_readRule t_value t_ends t_screw])) (pQi g (fun r => r = res.1) (fl [wk6 g t_p t_length t_p_text t_text t_cavities t_p_volume t_volume t_p_freeze t_freeze t_cores t_p_earlier t_earlier t_stages t_p_place t_place t_p_now t_now t_p_was t_was t_changes t_p_one t_one t_readCavities t_p_readCavity t_readCavity res.2.1 t_p_readCore res.2.2.1 t_readStages t_p_readStage t_readStage t_p_readRule t_readRule res.2.2.2.1 res.2.2.2.2 t_screw]) (va_A (fl [wk6 g t_p t_length t_p_text t_text t_cavities t_p_volume t_volume t_p_freeze t_freeze t_cores t_p_earlier t_earlier t_stages t_p_place t_place t_p_now t_now t_p_was t_was t_changes t_p_one t_one t_readCavities t_p_readCavity t_readCavity t_readCores t_p_readCore t_readCore t_readStages t_p_readStage t_readStage t_p_readRule t_readRule t_value t_ends t_screw]) sz)) 0 0 (va_A (fl [wk6 g t_p t_length t_p_text t_text t_cavities t_p_volume t_volume t_p_freeze t_freeze t_cores t_p_earlier t_earlier t_stages t_p_place t_place t_p_now t_now t_p_was t_was t_changes t_p_one t_one t_readCavities t_p_readCavity t_readCavity t_readCores t_p_readCore t_readCore t_readStages t_p_readStage t_readStage t_p_readRule t_readRule t_value t_ends t_screw]) sz) := by
  refine Met.ofW (cc := cX6_readsCore) (maxL := 3) (ret := (some .boolean)) (by decide) rfl ?_
  intro p e s m args below meth c s₁ B hml hv
  obtain ⟨rfl, hsz, hP, hK, hD0, hG⟩ := hv
  have hx := B.exec
  have hb := B.bytes
  have hr := B.returns
  have hts := atoms_spec (ws := wsX6_readsCore) B.pre
  have hown : s.vm.findClass RX6 = some m.cls := findClass_of_methodNamed B.named
  have hlocks := B.notSynchronized
  subst hsz
  have hD := hD0.self (sz := s.heap.size)
  generalize hAe : va_A (fl [wk6 g t_p t_length t_p_text t_text t_cavities t_p_volume t_volume t_p_freeze t_freeze t_cores t_p_earlier t_earlier t_stages t_p_place t_place t_p_now t_now t_p_was t_was t_changes t_p_one t_one t_readCavities t_p_readCavity t_readCavity t_readCores t_p_readCore t_readCore t_readStages t_p_readStage t_readStage t_p_readRule t_readRule t_value t_ends t_screw]) s.heap.size = A at hD hG ⊢
  have hA : ∀ q : Nat, s.heap.size ≤ q → A q := fun q h => by rw [← hAe]; exact Or.inr h
  have hS : va_S A s.heap s.heap [] := va_S.rf
  have hin6 : ∀ w ∈ u_ws RX6 TX6 23, w ∈ wsX6_readsCore := by decide +kernel
  have L1 := hts (Cond.fieldLink RX6 53 "MouldShotsModel" "readCores" "I") (by decide +kernel)
  have L2 := hts (Cond.fieldLink RX6 85 "MouldShotsModel" "value" "I") (by decide +kernel)
  have L3 := hts (Cond.fieldLink RX6 37 "MouldShotsModel" "readCore" "[I") (by decide +kernel)
  have w_41 : ∀ (s0 : Int32) (t_readCores : Int32) (t_readCore : (Nat → Int32)) (t_value : Int32) (t_ends : Int32) (H : Heap) (locs : List Loc) (ls : Array Slot), f6_readsCore_41  N s0 t_readCores t_readCore t_value t_ends = some res → va_P g.1 vwCl (fl [wk6 g t_p t_length t_p_text t_text t_cavities t_p_volume t_volume t_p_freeze t_freeze t_cores t_p_earlier t_earlier t_stages t_p_place t_place t_p_now t_now t_p_was t_was t_changes t_p_one t_one t_readCavities t_p_readCavity t_readCavity t_readCores t_p_readCore t_readCore t_readStages t_p_readStage t_readStage t_p_readRule t_readRule t_value t_ends t_screw]) H → va_D A (fl [wk6 g t_p t_length t_p_text t_text t_cavities t_p_volume t_volume t_p_freeze t_freeze t_cores t_p_earlier t_earlier t_stages t_p_place t_place t_p_now t_now t_p_was t_was t_changes t_p_one t_one t_readCavities t_p_readCavity t_readCavity t_readCores t_p_readCore t_readCore t_readStages t_p_readStage t_readStage t_p_readRule t_readRule t_value t_ends t_screw]) → va_S A s.heap H locs → lv_has ls 3 [(0, .ref t_p)] → W p l e ({ frames := 2, cells := 0, slots := 0, locals := 45 }) s m ([.ref t_p, .int l1] : List Value).toArray below meth c H locs 0 0 (MQ below (pQi g (fun r => r = res.1) (fl [wk6 g t_p t_length t_p_text t_text t_cavities t_p_volume t_volume t_p_freeze t_freeze t_cores t_p_earlier t_earlier t_stages t_p_place t_place t_p_now t_now t_p_was t_was t_changes t_p_one t_one t_readCavities t_p_readCavity t_readCavity res.2.1 t_p_readCore res.2.2.1 t_readStages t_p_readStage t_readStage t_p_readRule t_readRule res.2.2.2.1 res.2.2.2.2 t_screw]) A) ([.ref t_p, .int l1] : List Value).toArray s 0 0 A) (F0 m 41 ls [.int s0]) := by
    intro  s0 t_readCores t_readCore t_value t_ends H locs ls hf hP hD hS hl
    rw [f6_readsCore_41] at hf
    refine lv_istore_n (lv' := [(2, .int s0), (0, .ref t_p)]) hx hb dX6_readsCore_41 rfl hl (by decide) rfl (fun ls hl => ?_)
    refine lv_iload_n hx hb dX6_readsCore_42 rfl (lv_at hl 0 rfl) ?_
    refine lv_if_eq (tgt := 69) hx hb dX6_readsCore_43 (by decide) (fun c_7 => ?_) (fun c_7 => ?_)
    · replace hf := (if_pos c_7).symm.trans hf
      refine lv_iload_n hx hb dX6_readsCore_69 rfl (lv_at hl 0 rfl) ?_
      obtain ⟨h_8, hf⟩ := if_some hf
      replace hf := Option.some.inj hf
      subst hf
      exact W.zret (v := s0) hx hb hr (isb_n h_8) (fun t ht hW => ⟨⟨_, (), rfl, rfl, by show va_P g.1 vwCl _ t.heap; rw [ht]; exact hP⟩, hS.F ht⟩) hS.2.2 dX6_readsCore_70 hlocks
    · replace hf := (if_neg c_7).symm.trans hf
      refine lv_aload_n hx hb dX6_readsCore_46 rfl (lv_at hl 1 rfl) ?_
      refine va_get (D := g.1) (ci := 6) (v := .ref t_p_readCore) (C := RX6) (T := TX6) (N := 23) hx hb hts hin6 hown hK.1 hP 0 rfl rfl 16 (by decide) L3 (fun _ h9 => h9) rfl dX6_readsCore_47 ?_
      refine lv_aload_n hx hb dX6_readsCore_50 rfl (lv_at hl 1 rfl) ?_
      refine va_get (D := g.1) (ci := 6) (v := .int t_readCores) (C := RX6) (T := TX6) (N := 23) hx hb hts hin6 hown hK.1 hP 0 rfl rfl 15 (by decide) L1 (fun _ h9 => h9) rfl dX6_readsCore_51 ?_
      refine lv_aload_n hx hb dX6_readsCore_54 rfl (lv_at hl 1 rfl) ?_
      refine va_get (D := g.1) (ci := 6) (v := .int t_value) (C := RX6) (T := TX6) (N := 23) hx hb hts hin6 hown hK.1 hP 0 rfl rfl 20 (by decide) L2 (fun _ h9 => h9) rfl dX6_readsCore_55 ?_
      obtain ⟨h_9, hf⟩ := if_some hf
      refine va_iast hx hb hK.1 hP hD hS 10 0 rfl rfl (ok_in h_9) dX6_readsCore_58 (fun H locs hP hD hS => ?_)
      replace hP : va_P g.1 vwCl (fl [wk6 g t_p t_length t_p_text t_text t_cavities t_p_volume t_volume t_p_freeze t_freeze t_cores t_p_earlier t_earlier t_stages t_p_place t_place t_p_now t_now t_p_was t_was t_changes t_p_one t_one t_readCavities t_p_readCavity t_readCavity t_readCores t_p_readCore (upd t_readCore (Int32.toNatClampNeg t_readCores) t_value) t_readStages t_p_readStage t_readStage t_p_readRule t_readRule t_value t_ends t_screw]) H := hP
      replace hD : va_D A (fl [wk6 g t_p t_length t_p_text t_text t_cavities t_p_volume t_volume t_p_freeze t_freeze t_cores t_p_earlier t_earlier t_stages t_p_place t_place t_p_now t_now t_p_was t_was t_changes t_p_one t_one t_readCavities t_p_readCavity t_readCavity t_readCores t_p_readCore (upd t_readCore (Int32.toNatClampNeg t_readCores) t_value) t_readStages t_p_readStage t_readStage t_p_readRule t_readRule t_value t_ends t_screw]) := hD
      refine lv_aload_n hx hb dX6_readsCore_59 rfl (lv_at hl 1 rfl) ?_
      refine lv_dup hx hb dX6_readsCore_60 rfl ?_
      refine va_get (D := g.1) (ci := 6) (v := .int t_readCores) (C := RX6) (T := TX6) (N := 23) hx hb hts hin6 hown hK.1 hP 0 rfl rfl 15 (by decide) L1 (fun _ h9 => h9) rfl dX6_readsCore_61 ?_
      refine lv_iconst (v := 1) hx hb dX6_readsCore_64 (by decide) ?_
      refine lv_iadd hx hb dX6_readsCore_65 ?_
      refine va_put (D := g.1) (ci := 6) (v := .int (t_readCores + 1)) (ty := .int) (C := RX6) (T := TX6) (N := 23) hx hb hts hin6 tyX6 tyX6_ok nmX6 hown hK.1 hP hD hS 0 rfl rfl 15 (by decide) L1 (fun _ h9 => h9) rfl (by decide +kernel) rfl rfl (Nat.le_of_ble_eq_true rfl) dX6_readsCore_66 (fun H locs hP hD hS => ?_)
      replace hP : va_P g.1 vwCl (fl [wk6 g t_p t_length t_p_text t_text t_cavities t_p_volume t_volume t_p_freeze t_freeze t_cores t_p_earlier t_earlier t_stages t_p_place t_place t_p_now t_now t_p_was t_was t_changes t_p_one t_one t_readCavities t_p_readCavity t_readCavity (t_readCores + 1) t_p_readCore (upd t_readCore (Int32.toNatClampNeg t_readCores) t_value) t_readStages t_p_readStage t_readStage t_p_readRule t_readRule t_value t_ends t_screw]) H := hP
      replace hD : va_D A (fl [wk6 g t_p t_length t_p_text t_text t_cavities t_p_volume t_volume t_p_freeze t_freeze t_cores t_p_earlier t_earlier t_stages t_p_place t_place t_p_now t_now t_p_was t_was t_changes t_p_one t_one t_readCavities t_p_readCavity t_readCavity (t_readCores + 1) t_p_readCore (upd t_readCore (Int32.toNatClampNeg t_readCores) t_value) t_readStages t_p_readStage t_readStage t_p_readRule t_readRule t_value t_ends t_screw]) := hD
      refine lv_iload_n hx hb dX6_readsCore_69 rfl (lv_at hl 0 rfl) ?_
      obtain ⟨h_10, hf⟩ := if_some hf
      replace hf := Option.some.inj hf
      subst hf
      exact W.zret (v := s0) hx hb hr (isb_n h_10) (fun t ht hW => ⟨⟨_, (), rfl, rfl, by show va_P g.1 vwCl _ t.heap; rw [ht]; exact hP⟩, hS.F ht⟩) hS.2.2 dX6_readsCore_70 hlocks
  have w_36 : ∀  (t_readCores : Int32) (t_readCore : (Nat → Int32)) (t_value : Int32) (t_ends : Int32) (H : Heap) (locs : List Loc) (ls : Array Slot), f6_readsCore_36  N t_readCores t_readCore t_value t_ends = some res → va_P g.1 vwCl (fl [wk6 g t_p t_length t_p_text t_text t_cavities t_p_volume t_volume t_p_freeze t_freeze t_cores t_p_earlier t_earlier t_stages t_p_place t_place t_p_now t_now t_p_was t_was t_changes t_p_one t_one t_readCavities t_p_readCavity t_readCavity t_readCores t_p_readCore t_readCore t_readStages t_p_readStage t_readStage t_p_readRule t_readRule t_value t_ends t_screw]) H → va_D A (fl [wk6 g t_p t_length t_p_text t_text t_cavities t_p_volume t_volume t_p_freeze t_freeze t_cores t_p_earlier t_earlier t_stages t_p_place t_place t_p_now t_now t_p_was t_was t_changes t_p_one t_one t_readCavities t_p_readCavity t_readCavity t_readCores t_p_readCore t_readCore t_readStages t_p_readStage t_readStage t_p_readRule t_readRule t_value t_ends t_screw]) → va_S A s.heap H locs → lv_has ls 3 [(0, .ref t_p)] → W p l e ({ frames := 2, cells := 0, slots := 0, locals := 45 }) s m ([.ref t_p, .int l1] : List Value).toArray below meth c H locs 0 0 (MQ below (pQi g (fun r => r = res.1) (fl [wk6 g t_p t_length t_p_text t_text t_cavities t_p_volume t_volume t_p_freeze t_freeze t_cores t_p_earlier t_earlier t_stages t_p_place t_place t_p_now t_now t_p_was t_was t_changes t_p_one t_one t_readCavities t_p_readCavity t_readCavity res.2.1 t_p_readCore res.2.2.1 t_readStages t_p_readStage t_readStage t_p_readRule t_readRule res.2.2.2.1 res.2.2.2.2 t_screw]) A) ([.ref t_p, .int l1] : List Value).toArray s 0 0 A) (F0 m 36 ls []) := by
    intro  t_readCores t_readCore t_value t_ends H locs ls hf hP hD hS hl
    rw [f6_readsCore_36] at hf
    refine lv_iconst (v := 1) hx hb dX6_readsCore_36 (by decide) ?_
    refine lv_goto (tgt := 41) hx hb dX6_readsCore_37 (by decide) ?_
    exact w_41  1 t_readCores t_readCore t_value t_ends H locs ls hf hP hD hS (lv_sub hl [0] rfl)
  have w_40 : ∀  (t_readCores : Int32) (t_readCore : (Nat → Int32)) (t_value : Int32) (t_ends : Int32) (H : Heap) (locs : List Loc) (ls : Array Slot), f6_readsCore_40  N t_readCores t_readCore t_value t_ends = some res → va_P g.1 vwCl (fl [wk6 g t_p t_length t_p_text t_text t_cavities t_p_volume t_volume t_p_freeze t_freeze t_cores t_p_earlier t_earlier t_stages t_p_place t_place t_p_now t_now t_p_was t_was t_changes t_p_one t_one t_readCavities t_p_readCavity t_readCavity t_readCores t_p_readCore t_readCore t_readStages t_p_readStage t_readStage t_p_readRule t_readRule t_value t_ends t_screw]) H → va_D A (fl [wk6 g t_p t_length t_p_text t_text t_cavities t_p_volume t_volume t_p_freeze t_freeze t_cores t_p_earlier t_earlier t_stages t_p_place t_place t_p_now t_now t_p_was t_was t_changes t_p_one t_one t_readCavities t_p_readCavity t_readCavity t_readCores t_p_readCore t_readCore t_readStages t_p_readStage t_readStage t_p_readRule t_readRule t_value t_ends t_screw]) → va_S A s.heap H locs → lv_has ls 3 [(0, .ref t_p)] → W p l e ({ frames := 2, cells := 0, slots := 0, locals := 45 }) s m ([.ref t_p, .int l1] : List Value).toArray below meth c H locs 0 0 (MQ below (pQi g (fun r => r = res.1) (fl [wk6 g t_p t_length t_p_text t_text t_cavities t_p_volume t_volume t_p_freeze t_freeze t_cores t_p_earlier t_earlier t_stages t_p_place t_place t_p_now t_now t_p_was t_was t_changes t_p_one t_one t_readCavities t_p_readCavity t_readCavity res.2.1 t_p_readCore res.2.2.1 t_readStages t_p_readStage t_readStage t_p_readRule t_readRule res.2.2.2.1 res.2.2.2.2 t_screw]) A) ([.ref t_p, .int l1] : List Value).toArray s 0 0 A) (F0 m 40 ls []) := by
    intro  t_readCores t_readCore t_value t_ends H locs ls hf hP hD hS hl
    rw [f6_readsCore_40] at hf
    refine lv_iconst (v := 0) hx hb dX6_readsCore_40 (by decide) ?_
    exact w_41  0 t_readCores t_readCore t_value t_ends H locs ls hf hP hD hS (lv_sub hl [0] rfl)
  have hl := lv_entry ([.ref t_p, .int l1]) (n := 3) (Nat.le_of_ble_eq_true rfl)
  rw [lg_entry_eq]
  generalize (lg_sl ([.ref t_p, .int l1]) ++ List.replicate (3 - (lg_sl ([.ref t_p, .int l1])).length) Slot.unset).toArray = ls at hl ⊢
  replace hl : lv_has ls 3 [(0, .ref t_p), (1, .int l1)] := hl
  rw [f6_readsCore] at hf
  have hgo : ∀ (H : Heap) (locs : List Loc), H = s.heap → locs = [] → va_P g.1 vwCl (fl [wk6 g t_p t_length t_p_text t_text t_cavities t_p_volume t_volume t_p_freeze t_freeze t_cores t_p_earlier t_earlier t_stages t_p_place t_place t_p_now t_now t_p_was t_was t_changes t_p_one t_one t_readCavities t_p_readCavity t_readCavity t_readCores t_p_readCore t_readCore t_readStages t_p_readStage t_readStage t_p_readRule t_readRule t_value t_ends t_screw]) H → va_S A s.heap H locs → W p l e ({ frames := 2, cells := 0, slots := 0, locals := 45 }) s m ([.ref t_p, .int l1] : List Value).toArray below meth c H locs 0 0 (MQ below (pQi g (fun r => r = res.1) (fl [wk6 g t_p t_length t_p_text t_text t_cavities t_p_volume t_volume t_p_freeze t_freeze t_cores t_p_earlier t_earlier t_stages t_p_place t_place t_p_now t_now t_p_was t_was t_changes t_p_one t_one t_readCavities t_p_readCavity t_readCavity res.2.1 t_p_readCore res.2.2.1 t_readStages t_p_readStage t_readStage t_p_readRule t_readRule res.2.2.2.1 res.2.2.2.2 t_screw]) A) ([.ref t_p, .int l1] : List Value).toArray s 0 0 A) (F0 m 0 ls []) := by
    intro H locs hH hL hP hS
    refine lv_aload_n hx hb dX6_readsCore_0 rfl (lv_at hl 0 rfl) ?_
    refine va_get (D := g.1) (ci := 6) (v := .int t_readCores) (C := RX6) (T := TX6) (N := 23) hx hb hts hin6 hown hK.1 hP 0 rfl rfl 15 (by decide) L1 (fun _ h9 => h9) rfl dX6_readsCore_1 ?_
    refine lv_iconst (v := 4) hx hb dX6_readsCore_4 (by decide) ?_
    refine lv_icmp_ge (tgt := 40) hx hb dX6_readsCore_5 (by decide) (fun c_1 => ?_) (fun c_1 => ?_)
    · replace hf := (if_pos c_1).symm.trans hf
      exact w_40  t_readCores t_readCore t_value t_ends H locs ls hf hP hD hS (lv_sub hl [0] rfl)
    · replace hf := (if_neg c_1).symm.trans hf
      refine lv_aload_n hx hb dX6_readsCore_8 rfl (lv_at hl 0 rfl) ?_
      refine lv_iload_n hx hb dX6_readsCore_9 rfl (lv_at hl 1 rfl) ?_
      refine lv_iconst (v := 0) hx hb dX6_readsCore_10 (by decide) ?_
      refine lv_bipush (v := 9) hx hb dX6_readsCore_11 (by decide) ?_
      obtain ⟨q_2, hq_2, hf⟩ := bd_some hf
      refine bft_i (bn := [wk6 g t_p t_length t_p_text t_text t_cavities t_p_volume t_volume t_p_freeze t_freeze t_cores t_p_earlier t_earlier t_stages t_p_place t_place t_p_now t_now t_p_was t_was t_changes t_p_one t_one t_readCavities t_p_readCavity t_readCavity t_readCores t_p_readCore t_readCore t_readStages t_p_readStage t_readStage t_p_readRule t_readRule q_2.2.1 q_2.2.2 t_screw]) (L := [[t_p, t_p_text, t_p_volume, t_p_freeze, t_p_earlier, t_p_place, t_p_now, t_p_was, t_p_one, t_p_readCavity, t_p_readCore, t_p_readStage, t_p_readRule]]) (va_runV (As := [.int l1, .int 0, .int 9]) (rest := []) ⟨hx, hb, hml, hown, hts⟩ (c6_number l g t_p t_length t_p_text t_text t_cavities t_p_volume t_volume t_p_freeze t_freeze t_cores t_p_earlier t_earlier t_stages t_p_place t_place t_p_now t_now t_p_was t_was t_changes t_p_one t_one t_readCavities t_p_readCavity t_readCavity t_readCores t_p_readCore t_readCore t_readStages t_p_readStage t_readStage t_p_readRule t_readRule t_value t_ends t_screw l1 0 9 H.size N q_2 hq_2) (cwV 3 hts gX6_readsCore_X6_number rfl rfl rfl ⟨rfl, nh6.1, nh6.2, pd_17⟩ ⟨Nat.le_of_ble_eq_true rfl, Nat.le_of_ble_eq_true rfl⟩) (qPV hK hG hP hD hS hA [0] (by decide) rfl (va_recv hK.1 hP (ci := 6) (q0 := 0) rfl rfl)) rfl rfl hl.1 rfl (lv_room (Nat.le_of_ble_eq_true rfl)) dX6_readsCore_13 ⟨Nat.zero_le _, Nat.zero_le _⟩) hP hD hS hA [0] rfl rfl rfl rfl (fun r_3 H locs hw hP hD hS => ?_)
      replace hw := hw.symm
      subst hw
      refine lv_if_eq (tgt := 40) hx hb dX6_readsCore_16 (by decide) (fun c_4 => ?_) (fun c_4 => ?_)
      · replace hf := (if_pos c_4).symm.trans hf
        exact w_40  t_readCores t_readCore q_2.2.1 q_2.2.2 H locs ls hf hP hD hS (lv_sub hl [0] rfl)
      · replace hf := (if_neg c_4).symm.trans hf
        refine lv_aload_n hx hb dX6_readsCore_19 rfl (lv_at hl 0 rfl) ?_
        refine va_get (D := g.1) (ci := 6) (v := .int q_2.2.1) (C := RX6) (T := TX6) (N := 23) hx hb hts hin6 hown hK.1 hP 0 rfl rfl 20 (by decide) L2 (fun _ h9 => h9) rfl dX6_readsCore_20 ?_
        refine lv_iconst (v := 4) hx hb dX6_readsCore_23 (by decide) ?_
        refine lv_icmp_lt (tgt := 36) hx hb dX6_readsCore_24 (by decide) (fun c_5 => ?_) (fun c_5 => ?_)
        · replace hf := (if_pos c_5).symm.trans hf
          exact w_36  t_readCores t_readCore q_2.2.1 q_2.2.2 H locs ls hf hP hD hS (lv_sub hl [0] rfl)
        · replace hf := (if_neg c_5).symm.trans hf
          refine lv_aload_n hx hb dX6_readsCore_27 rfl (lv_at hl 0 rfl) ?_
          refine va_get (D := g.1) (ci := 6) (v := .int q_2.2.1) (C := RX6) (T := TX6) (N := 23) hx hb hts hin6 hown hK.1 hP 0 rfl rfl 20 (by decide) L2 (fun _ h9 => h9) rfl dX6_readsCore_28 ?_
          refine lv_bipush (v := 9) hx hb dX6_readsCore_31 (by decide) ?_
          refine lv_icmp_ne (tgt := 40) hx hb dX6_readsCore_33 (by decide) (fun c_6 => ?_) (fun c_6 => ?_)
          · replace hf := (if_neg c_6).symm.trans hf
            exact w_40  t_readCores t_readCore q_2.2.1 q_2.2.2 H locs ls hf hP hD hS (lv_sub hl [0] rfl)
          · replace hf := (if_pos c_6).symm.trans hf
            exact w_36  t_readCores t_readCore q_2.2.1 q_2.2.2 H locs ls hf hP hD hS (lv_sub hl [0] rfl)
  exact hgo s.heap [] rfl rfl hP hS

set_option maxHeartbeats 4000000 in
set_option maxRecDepth 100000 in
theorem c6_readsStage (l : Launch) (g : gG) (t_p : Nat) (t_length : Int32) (t_p_text : Nat) (t_text : (Nat → Int32)) (t_cavities : Int32) (t_p_volume : Nat) (t_volume : (Nat → Int32)) (t_p_freeze : Nat) (t_freeze : (Nat → Int32)) (t_cores : Int32) (t_p_earlier : Nat) (t_earlier : (Nat → Int32)) (t_stages : Int32) (t_p_place : Nat) (t_place : (Nat → Int32)) (t_p_now : Nat) (t_now : (Nat → Int32)) (t_p_was : Nat) (t_was : (Nat → Int32)) (t_changes : Int32) (t_p_one : Nat) (t_one : (Nat → Int32)) (t_readCavities : Int32) (t_p_readCavity : Nat) (t_readCavity : (Nat → Int32)) (t_readCores : Int32) (t_p_readCore : Nat) (t_readCore : (Nat → Int32)) (t_readStages : Int32) (t_p_readStage : Nat) (t_readStage : (Nat → Int32)) (t_p_readRule : Nat) (t_readRule : (Nat → Int32)) (t_value : Int32) (t_ends : Int32) (t_screw : Int32) (l1 : Int32) (sz : Nat) (N : Nat) (res : (Int32 × Int32 × (Nat → Int32) × Int32 × Int32)) (hf : f6_readsStage N l1 t_length t_text t_readStages t_readStage t_value t_ends = some res) : Met l yX6_readsStage wsX6_readsStage ({ frames := 3, cells := 0, slots := 0, locals := 67 }) (pP g [.ref t_p, .int l1] sz (fl [wk6 g t_p t_length t_p_text t_text t_cavities t_p_volume t_volume t_p_freeze t_freeze t_cores t_p_earlier t_earlier t_stages t_p_place t_place t_p_now t_now t_p_was t_was t_changes t_p_one t_one t_readCavities t_p_readCavity t_readCavity t_readCores t_p_readCore t_readCore t_readStages t_p_readStage t_readStage t_p_readRule t_readRule t_value t_ends t_screw])) (pQi g (fun r => r = res.1) (fl [wk6 g t_p t_length t_p_text t_text t_cavities t_p_volume t_volume t_p_freeze t_freeze t_cores t_p_earlier t_earlier t_stages t_p_place t_place t_p_now t_now t_p_was t_was t_changes t_p_one t_one t_readCavities t_p_readCavity t_readCavity t_readCores t_p_readCore t_readCore res.2.1 t_p_readStage res.2.2.1 t_p_readRule t_readRule res.2.2.2.1 res.2.2.2.2 t_screw]) (va_A (fl [wk6 g t_p t_length t_p_text t_text t_cavities t_p_volume t_volume t_p_freeze t_freeze t_cores t_p_earlier t_earlier t_stages t_p_place t_place t_p_now t_now t_p_was t_was t_changes t_p_one t_one t_readCavities t_p_readCavity t_readCavity t_readCores t_p_readCore t_readCore t_readStages t_p_readStage t_readStage t_p_readRule t_readRule t_value t_ends t_screw]) sz)) 0 0 (va_A (fl [wk6 g t_p t_length t_p_text t_text t_cavities t_p_volume t_volume t_p_freeze t_freeze t_cores t_p_earlier t_earlier t_stages t_p_place t_place t_p_now t_now t_p_was t_was t_changes t_p_one t_one t_readCavities t_p_readCavity t_readCavity t_readCores t_p_readCore t_readCore t_readStages t_p_readStage t_readStage t_p_readRule t_readRule t_value t_ends t_screw]) sz) := by
  refine Met.ofW (cc := cX6_readsStage) (maxL := 5) (ret := (some .boolean)) (by decide) rfl ?_
  intro p e s m args below meth c s₁ B hml hv
  obtain ⟨rfl, hsz, hP, hK, hD0, hG⟩ := hv
  have hx := B.exec
  have hb := B.bytes
  have hr := B.returns
  have hts := atoms_spec (ws := wsX6_readsStage) B.pre
  have hown : s.vm.findClass RX6 = some m.cls := findClass_of_methodNamed B.named
  have hlocks := B.notSynchronized
  subst hsz
  have hD := hD0.self (sz := s.heap.size)
  generalize hAe : va_A (fl [wk6 g t_p t_length t_p_text t_text t_cavities t_p_volume t_volume t_p_freeze t_freeze t_cores t_p_earlier t_earlier t_stages t_p_place t_place t_p_now t_now t_p_was t_was t_changes t_p_one t_one t_readCavities t_p_readCavity t_readCavity t_readCores t_p_readCore t_readCore t_readStages t_p_readStage t_readStage t_p_readRule t_readRule t_value t_ends t_screw]) s.heap.size = A at hD hG ⊢
  have hA : ∀ q : Nat, s.heap.size ≤ q → A q := fun q h => by rw [← hAe]; exact Or.inr h
  have hS : va_S A s.heap s.heap [] := va_S.rf
  have hin6 : ∀ w ∈ u_ws RX6 TX6 23, w ∈ wsX6_readsStage := by decide +kernel
  have L1 := hts (Cond.fieldLink RX6 67 "MouldShotsModel" "readStages" "I") (by decide +kernel)
  have L2 := hts (Cond.fieldLink RX6 40 "MouldShotsModel" "readStage" "[I") (by decide +kernel)
  have L3 := hts (Cond.fieldLink RX6 85 "MouldShotsModel" "value" "I") (by decide +kernel)
  have w_59 : ∀ (s1 : Int32) (s2 : Int32) (s3 : Int32) (t_readStages : Int32) (t_readStage : (Nat → Int32)) (t_value : Int32) (t_ends : Int32) (H : Heap) (locs : List Loc) (ls : Array Slot), f6_readsStage_59  N s1 s2 s3 t_length t_text t_readStages t_readStage = some res → va_P g.1 vwCl (fl [wk6 g t_p t_length t_p_text t_text t_cavities t_p_volume t_volume t_p_freeze t_freeze t_cores t_p_earlier t_earlier t_stages t_p_place t_place t_p_now t_now t_p_was t_was t_changes t_p_one t_one t_readCavities t_p_readCavity t_readCavity t_readCores t_p_readCore t_readCore t_readStages t_p_readStage t_readStage t_p_readRule t_readRule t_value t_ends t_screw]) H → va_D A (fl [wk6 g t_p t_length t_p_text t_text t_cavities t_p_volume t_volume t_p_freeze t_freeze t_cores t_p_earlier t_earlier t_stages t_p_place t_place t_p_now t_now t_p_was t_was t_changes t_p_one t_one t_readCavities t_p_readCavity t_readCavity t_readCores t_p_readCore t_readCore t_readStages t_p_readStage t_readStage t_p_readRule t_readRule t_value t_ends t_screw]) → va_S A s.heap H locs → lv_has ls 5 [(0, .ref t_p)] → W p l e ({ frames := 3, cells := 0, slots := 0, locals := 67 }) s m ([.ref t_p, .int l1] : List Value).toArray below meth c H locs 0 0 (MQ below (pQi g (fun r => r = res.1) (fl [wk6 g t_p t_length t_p_text t_text t_cavities t_p_volume t_volume t_p_freeze t_freeze t_cores t_p_earlier t_earlier t_stages t_p_place t_place t_p_now t_now t_p_was t_was t_changes t_p_one t_one t_readCavities t_p_readCavity t_readCavity t_readCores t_p_readCore t_readCore res.2.1 t_p_readStage res.2.2.1 t_p_readRule t_readRule res.2.2.2.1 res.2.2.2.2 t_screw]) A) ([.ref t_p, .int l1] : List Value).toArray s 0 0 A) (F0 m 59 ls [.int s3, .int s2, .int s1, .ref t_p]) := by
    intro  s1 s2 s3 t_readStages t_readStage t_value t_ends H locs ls hf hP hD hS hl
    rw [f6_readsStage_59] at hf
    obtain ⟨q_6, hq_6, hf⟩ := bd_some hf
    refine bft_i (bn := [wk6 g t_p t_length t_p_text t_text t_cavities t_p_volume t_volume t_p_freeze t_freeze t_cores t_p_earlier t_earlier t_stages t_p_place t_place t_p_now t_now t_p_was t_was t_changes t_p_one t_one t_readCavities t_p_readCavity t_readCavity t_readCores t_p_readCore t_readCore t_readStages t_p_readStage t_readStage t_p_readRule t_readRule q_6.2.1 q_6.2.2 t_screw]) (L := [[t_p, t_p_text, t_p_volume, t_p_freeze, t_p_earlier, t_p_place, t_p_now, t_p_was, t_p_one, t_p_readCavity, t_p_readCore, t_p_readStage, t_p_readRule]]) (va_runV (As := [.int s1, .int s2, .int s3]) (rest := []) ⟨hx, hb, hml, hown, hts⟩ (c6_number l g t_p t_length t_p_text t_text t_cavities t_p_volume t_volume t_p_freeze t_freeze t_cores t_p_earlier t_earlier t_stages t_p_place t_place t_p_now t_now t_p_was t_was t_changes t_p_one t_one t_readCavities t_p_readCavity t_readCavity t_readCores t_p_readCore t_readCore t_readStages t_p_readStage t_readStage t_p_readRule t_readRule t_value t_ends t_screw s1 s2 s3 H.size N q_6 hq_6) (cwV 3 hts gX6_readsStage_X6_number rfl rfl rfl ⟨rfl, nh6.1, nh6.2, pd_17⟩ ⟨Nat.le_of_ble_eq_true rfl, Nat.le_of_ble_eq_true rfl⟩) (qPV hK hG hP hD hS hA [0] (by decide) rfl (va_recv hK.1 hP (ci := 6) (q0 := 0) rfl rfl)) rfl rfl hl.1 rfl (lv_room (Nat.le_of_ble_eq_true rfl)) dX6_readsStage_59 ⟨Nat.zero_le _, Nat.zero_le _⟩) hP hD hS hA [0] rfl rfl rfl rfl (fun r_7 H locs hw hP hD hS => ?_)
    replace hw := hw.symm
    subst hw
    refine lv_if_ne (tgt := 67) hx hb dX6_readsStage_62 (by decide) (fun c_8 => ?_) (fun c_8 => ?_)
    · replace hf := (if_neg c_8).symm.trans hf
      refine lv_aload_n hx hb dX6_readsStage_67 rfl (lv_at hl 0 rfl) ?_
      refine va_get (D := g.1) (ci := 6) (v := .int q_6.2.1) (C := RX6) (T := TX6) (N := 23) hx hb hts hin6 hown hK.1 hP 0 rfl rfl 20 (by decide) L3 (fun _ h9 => h9) rfl dX6_readsStage_68 ?_
      refine lv_istore_n (lv' := [(3, .int q_6.2.1), (0, .ref t_p)]) hx hb dX6_readsStage_71 rfl hl (by decide) rfl (fun ls hl => ?_)
      refine lv_aload_n hx hb dX6_readsStage_72 rfl (lv_at hl 1 rfl) ?_
      refine lv_iconst (v := 1) hx hb dX6_readsStage_73 (by decide) ?_
      refine lv_bipush (v := 9) hx hb dX6_readsStage_74 (by decide) ?_
      obtain ⟨q_9, hq_9, hf⟩ := bd_some hf
      refine bft_i (bn := [wk6 g t_p t_length t_p_text t_text t_cavities t_p_volume t_volume t_p_freeze t_freeze t_cores t_p_earlier t_earlier t_stages t_p_place t_place t_p_now t_now t_p_was t_was t_changes t_p_one t_one t_readCavities t_p_readCavity t_readCavity t_readCores t_p_readCore t_readCore t_readStages t_p_readStage t_readStage t_p_readRule t_readRule q_9.2.1 q_9.2.2 t_screw]) (L := [[t_p, t_p_text, t_p_volume, t_p_freeze, t_p_earlier, t_p_place, t_p_now, t_p_was, t_p_one, t_p_readCavity, t_p_readCore, t_p_readStage, t_p_readRule]]) (va_runV (As := [.int 1, .int 9]) (rest := []) ⟨hx, hb, hml, hown, hts⟩ (c6_more l g t_p t_length t_p_text t_text t_cavities t_p_volume t_volume t_p_freeze t_freeze t_cores t_p_earlier t_earlier t_stages t_p_place t_place t_p_now t_now t_p_was t_was t_changes t_p_one t_one t_readCavities t_p_readCavity t_readCavity t_readCores t_p_readCore t_readCore t_readStages t_p_readStage t_readStage t_p_readRule t_readRule q_6.2.1 q_6.2.2 t_screw 1 9 H.size N q_9 hq_9) (cwV 2 hts gX6_readsStage_X6_more rfl rfl rfl ⟨rfl, nh6.1, nh6.2, pd_16⟩ ⟨Nat.le_of_ble_eq_true rfl, Nat.le_of_ble_eq_true rfl⟩) (qPV hK hG hP hD hS hA [0] (by decide) rfl (va_recv hK.1 hP (ci := 6) (q0 := 0) rfl rfl)) rfl rfl hl.1 rfl (lv_room (Nat.le_of_ble_eq_true rfl)) dX6_readsStage_76 ⟨Nat.zero_le _, Nat.zero_le _⟩) hP hD hS hA [0] rfl rfl rfl rfl (fun r_10 H locs hw hP hD hS => ?_)
      replace hw := hw.symm
      subst hw
      refine lv_istore (lv' := [(4, .int q_9.1), (3, .int q_6.2.1), (0, .ref t_p)]) hx hb dX6_readsStage_79 hl (by decide) rfl (fun ls hl => ?_)
      refine lv_aload_n hx hb dX6_readsStage_81 rfl (lv_at hl 2 rfl) ?_
      refine lv_iload_n hx hb dX6_readsStage_82 rfl (lv_at hl 1 rfl) ?_
      refine lv_aload_n hx hb dX6_readsStage_83 rfl (lv_at hl 2 rfl) ?_
      refine va_get (D := g.1) (ci := 6) (v := .int q_9.2.1) (C := RX6) (T := TX6) (N := 23) hx hb hts hin6 hown hK.1 hP 0 rfl rfl 20 (by decide) L3 (fun _ h9 => h9) rfl dX6_readsStage_84 ?_
      obtain ⟨q_11, hq_11, hf⟩ := bd_some hf
      refine bft_v (bn := [wk6 g t_p t_length t_p_text t_text t_cavities t_p_volume t_volume t_p_freeze t_freeze t_cores t_p_earlier t_earlier t_stages t_p_place t_place t_p_now t_now t_p_was t_was t_changes t_p_one t_one t_readCavities t_p_readCavity t_readCavity t_readCores t_p_readCore t_readCore q_11.1 t_p_readStage q_11.2 t_p_readRule t_readRule q_9.2.1 q_9.2.2 t_screw]) (L := [[t_p, t_p_text, t_p_volume, t_p_freeze, t_p_earlier, t_p_place, t_p_now, t_p_was, t_p_one, t_p_readCavity, t_p_readCore, t_p_readStage, t_p_readRule]]) (va_runV (As := [.int q_6.2.1, .int q_9.2.1]) (rest := []) ⟨hx, hb, hml, hown, hts⟩ (c6_stageOf l g t_p t_length t_p_text t_text t_cavities t_p_volume t_volume t_p_freeze t_freeze t_cores t_p_earlier t_earlier t_stages t_p_place t_place t_p_now t_now t_p_was t_was t_changes t_p_one t_one t_readCavities t_p_readCavity t_readCavity t_readCores t_p_readCore t_readCore t_readStages t_p_readStage t_readStage t_p_readRule t_readRule q_9.2.1 q_9.2.2 t_screw q_6.2.1 q_9.2.1 H.size N q_11 hq_11) (cwV 2 hts gX6_readsStage_X6_stageOf rfl rfl rfl ⟨rfl, nh6.1, nh6.2, pd_29⟩ ⟨Nat.le_of_ble_eq_true rfl, Nat.le_of_ble_eq_true rfl⟩) (qPV hK hG hP hD hS hA [0] (by decide) rfl (va_recv hK.1 hP (ci := 6) (q0 := 0) rfl rfl)) rfl rfl hl.1 rfl (lv_room (Nat.le_of_ble_eq_true rfl)) dX6_readsStage_87 ⟨Nat.zero_le _, Nat.zero_le _⟩) hP hD hS hA [0] rfl rfl rfl rfl (fun H locs hP hD hS => ?_)
      refine lv_iload hx hb dX6_readsStage_90 (lv_at hl 0 rfl) ?_
      obtain ⟨h_12, hf⟩ := if_some hf
      replace hf := Option.some.inj hf
      subst hf
      exact W.zret (v := q_9.1) hx hb hr (isb_n h_12) (fun t ht hW => ⟨⟨_, (), rfl, rfl, by show va_P g.1 vwCl _ t.heap; rw [ht]; exact hP⟩, hS.F ht⟩) hS.2.2 dX6_readsStage_92 hlocks
    · replace hf := (if_pos c_8).symm.trans hf
      refine lv_iconst (v := 0) hx hb dX6_readsStage_65 (by decide) ?_
      replace hf := Option.some.inj hf
      subst hf
      exact W.zret (v := 0) hx hb hr rfl (fun t ht hW => ⟨⟨_, (), rfl, rfl, by show va_P g.1 vwCl _ t.heap; rw [ht]; exact hP⟩, hS.F ht⟩) hS.2.2 dX6_readsStage_66 hlocks
  have w_34 : ∀ (v1 : Int32) (s0 : Int32) (t_readStages : Int32) (t_readStage : (Nat → Int32)) (t_value : Int32) (t_ends : Int32) (H : Heap) (locs : List Loc) (ls : Array Slot), f6_readsStage_34  N v1 s0 t_length t_text t_readStages t_readStage t_value t_ends = some res → va_P g.1 vwCl (fl [wk6 g t_p t_length t_p_text t_text t_cavities t_p_volume t_volume t_p_freeze t_freeze t_cores t_p_earlier t_earlier t_stages t_p_place t_place t_p_now t_now t_p_was t_was t_changes t_p_one t_one t_readCavities t_p_readCavity t_readCavity t_readCores t_p_readCore t_readCore t_readStages t_p_readStage t_readStage t_p_readRule t_readRule t_value t_ends t_screw]) H → va_D A (fl [wk6 g t_p t_length t_p_text t_text t_cavities t_p_volume t_volume t_p_freeze t_freeze t_cores t_p_earlier t_earlier t_stages t_p_place t_place t_p_now t_now t_p_was t_was t_changes t_p_one t_one t_readCavities t_p_readCavity t_readCavity t_readCores t_p_readCore t_readCore t_readStages t_p_readStage t_readStage t_p_readRule t_readRule t_value t_ends t_screw]) → va_S A s.heap H locs → lv_has ls 5 [(0, .ref t_p), (1, .int v1)] → W p l e ({ frames := 3, cells := 0, slots := 0, locals := 67 }) s m ([.ref t_p, .int l1] : List Value).toArray below meth c H locs 0 0 (MQ below (pQi g (fun r => r = res.1) (fl [wk6 g t_p t_length t_p_text t_text t_cavities t_p_volume t_volume t_p_freeze t_freeze t_cores t_p_earlier t_earlier t_stages t_p_place t_place t_p_now t_now t_p_was t_was t_changes t_p_one t_one t_readCavities t_p_readCavity t_readCavity t_readCores t_p_readCore t_readCore res.2.1 t_p_readStage res.2.2.1 t_p_readRule t_readRule res.2.2.2.1 res.2.2.2.2 t_screw]) A) ([.ref t_p, .int l1] : List Value).toArray s 0 0 A) (F0 m 34 ls [.int s0]) := by
    intro  v1 s0 t_readStages t_readStage t_value t_ends H locs ls hf hP hD hS hl
    rw [f6_readsStage_34] at hf
    refine lv_istore_n (lv' := [(2, .int s0), (0, .ref t_p), (1, .int v1)]) hx hb dX6_readsStage_34 rfl hl (by decide) rfl (fun ls hl => ?_)
    refine lv_aload_n hx hb dX6_readsStage_35 rfl (lv_at hl 1 rfl) ?_
    refine va_get (D := g.1) (ci := 6) (v := .int t_readStages) (C := RX6) (T := TX6) (N := 23) hx hb hts hin6 hown hK.1 hP 0 rfl rfl 17 (by decide) L1 (fun _ h9 => h9) rfl dX6_readsStage_36 ?_
    refine lv_iconst (v := 4) hx hb dX6_readsStage_39 (by decide) ?_
    refine lv_icmp_eq (tgt := 65) hx hb dX6_readsStage_40 (by decide) (fun c_4 => ?_) (fun c_4 => ?_)
    · replace hf := (if_pos c_4).symm.trans hf
      refine lv_iconst (v := 0) hx hb dX6_readsStage_65 (by decide) ?_
      replace hf := Option.some.inj hf
      subst hf
      exact W.zret (v := 0) hx hb hr rfl (fun t ht hW => ⟨⟨_, (), rfl, rfl, by show va_P g.1 vwCl _ t.heap; rw [ht]; exact hP⟩, hS.F ht⟩) hS.2.2 dX6_readsStage_66 hlocks
    · replace hf := (if_neg c_4).symm.trans hf
      refine lv_aload_n hx hb dX6_readsStage_43 rfl (lv_at hl 1 rfl) ?_
      refine lv_iload_n hx hb dX6_readsStage_44 rfl (lv_at hl 2 rfl) ?_
      refine lv_iload_n hx hb dX6_readsStage_45 rfl (lv_at hl 0 rfl) ?_
      refine lv_aload_n hx hb dX6_readsStage_46 rfl (lv_at hl 1 rfl) ?_
      refine va_get (D := g.1) (ci := 6) (v := .int t_readStages) (C := RX6) (T := TX6) (N := 23) hx hb hts hin6 hown hK.1 hP 0 rfl rfl 17 (by decide) L1 (fun _ h9 => h9) rfl dX6_readsStage_47 ?_
      refine lv_if_ne (tgt := 57) hx hb dX6_readsStage_50 (by decide) (fun c_5 => ?_) (fun c_5 => ?_)
      · replace hf := (if_neg c_5).symm.trans hf
        refine lv_bipush (v := 98) hx hb dX6_readsStage_57 (by decide) ?_
        exact w_59  v1 s0 98 t_readStages t_readStage t_value t_ends H locs ls hf hP hD hS (lv_sub hl [1] rfl)
      · replace hf := (if_pos c_5).symm.trans hf
        refine lv_iconst (v := 0) hx hb dX6_readsStage_53 (by decide) ?_
        refine lv_goto (tgt := 59) hx hb dX6_readsStage_54 (by decide) ?_
        exact w_59  v1 s0 0 t_readStages t_readStage t_value t_ends H locs ls hf hP hD hS (lv_sub hl [1] rfl)
  have w_15 : ∀ (v1 : Int32) (t_readStages : Int32) (t_readStage : (Nat → Int32)) (t_value : Int32) (t_ends : Int32) (H : Heap) (locs : List Loc) (ls : Array Slot), f6_readsStage_15  N v1 t_length t_text t_readStages t_readStage t_value t_ends = some res → va_P g.1 vwCl (fl [wk6 g t_p t_length t_p_text t_text t_cavities t_p_volume t_volume t_p_freeze t_freeze t_cores t_p_earlier t_earlier t_stages t_p_place t_place t_p_now t_now t_p_was t_was t_changes t_p_one t_one t_readCavities t_p_readCavity t_readCavity t_readCores t_p_readCore t_readCore t_readStages t_p_readStage t_readStage t_p_readRule t_readRule t_value t_ends t_screw]) H → va_D A (fl [wk6 g t_p t_length t_p_text t_text t_cavities t_p_volume t_volume t_p_freeze t_freeze t_cores t_p_earlier t_earlier t_stages t_p_place t_place t_p_now t_now t_p_was t_was t_changes t_p_one t_one t_readCavities t_p_readCavity t_readCavity t_readCores t_p_readCore t_readCore t_readStages t_p_readStage t_readStage t_p_readRule t_readRule t_value t_ends t_screw]) → va_S A s.heap H locs → lv_has ls 5 [(0, .ref t_p), (1, .int v1)] → W p l e ({ frames := 3, cells := 0, slots := 0, locals := 67 }) s m ([.ref t_p, .int l1] : List Value).toArray below meth c H locs 0 0 (MQ below (pQi g (fun r => r = res.1) (fl [wk6 g t_p t_length t_p_text t_text t_cavities t_p_volume t_volume t_p_freeze t_freeze t_cores t_p_earlier t_earlier t_stages t_p_place t_place t_p_now t_now t_p_was t_was t_changes t_p_one t_one t_readCavities t_p_readCavity t_readCavity t_readCores t_p_readCore t_readCore res.2.1 t_p_readStage res.2.2.1 t_p_readRule t_readRule res.2.2.2.1 res.2.2.2.2 t_screw]) A) ([.ref t_p, .int l1] : List Value).toArray s 0 0 A) (F0 m 15 ls []) := by
    intro  v1 t_readStages t_readStage t_value t_ends H locs ls hf hP hD hS hl
    rw [f6_readsStage_15] at hf
    refine lv_iconst (v := 0) hx hb dX6_readsStage_15 (by decide) ?_
    refine lv_goto (tgt := 34) hx hb dX6_readsStage_16 (by decide) ?_
    exact w_34  v1 0 t_readStages t_readStage t_value t_ends H locs ls hf hP hD hS (lv_sub hl [0, 1] rfl)
  have hl := lv_entry ([.ref t_p, .int l1]) (n := 5) (Nat.le_of_ble_eq_true rfl)
  rw [lg_entry_eq]
  generalize (lg_sl ([.ref t_p, .int l1]) ++ List.replicate (5 - (lg_sl ([.ref t_p, .int l1])).length) Slot.unset).toArray = ls at hl ⊢
  replace hl : lv_has ls 5 [(0, .ref t_p), (1, .int l1)] := hl
  rw [f6_readsStage] at hf
  have hgo : ∀ (H : Heap) (locs : List Loc), H = s.heap → locs = [] → va_P g.1 vwCl (fl [wk6 g t_p t_length t_p_text t_text t_cavities t_p_volume t_volume t_p_freeze t_freeze t_cores t_p_earlier t_earlier t_stages t_p_place t_place t_p_now t_now t_p_was t_was t_changes t_p_one t_one t_readCavities t_p_readCavity t_readCavity t_readCores t_p_readCore t_readCore t_readStages t_p_readStage t_readStage t_p_readRule t_readRule t_value t_ends t_screw]) H → va_S A s.heap H locs → W p l e ({ frames := 3, cells := 0, slots := 0, locals := 67 }) s m ([.ref t_p, .int l1] : List Value).toArray below meth c H locs 0 0 (MQ below (pQi g (fun r => r = res.1) (fl [wk6 g t_p t_length t_p_text t_text t_cavities t_p_volume t_volume t_p_freeze t_freeze t_cores t_p_earlier t_earlier t_stages t_p_place t_place t_p_now t_now t_p_was t_was t_changes t_p_one t_one t_readCavities t_p_readCavity t_readCavity t_readCores t_p_readCore t_readCore res.2.1 t_p_readStage res.2.2.1 t_p_readRule t_readRule res.2.2.2.1 res.2.2.2.2 t_screw]) A) ([.ref t_p, .int l1] : List Value).toArray s 0 0 A) (F0 m 0 ls []) := by
    intro H locs hH hL hP hS
    refine lv_aload_n hx hb dX6_readsStage_0 rfl (lv_at hl 0 rfl) ?_
    refine va_get (D := g.1) (ci := 6) (v := .int t_readStages) (C := RX6) (T := TX6) (N := 23) hx hb hts hin6 hown hK.1 hP 0 rfl rfl 17 (by decide) L1 (fun _ h9 => h9) rfl dX6_readsStage_1 ?_
    refine lv_if_eq (tgt := 15) hx hb dX6_readsStage_4 (by decide) (fun c_1 => ?_) (fun c_1 => ?_)
    · replace hf := (if_pos c_1).symm.trans hf
      exact w_15  l1 t_readStages t_readStage t_value t_ends H locs ls hf hP hD hS (lv_sub hl [0, 1] rfl)
    · replace hf := (if_neg c_1).symm.trans hf
      refine lv_aload_n hx hb dX6_readsStage_7 rfl (lv_at hl 0 rfl) ?_
      refine va_get (D := g.1) (ci := 6) (v := .int t_readStages) (C := RX6) (T := TX6) (N := 23) hx hb hts hin6 hown hK.1 hP 0 rfl rfl 17 (by decide) L1 (fun _ h9 => h9) rfl dX6_readsStage_8 ?_
      refine lv_iconst (v := 4) hx hb dX6_readsStage_11 (by decide) ?_
      refine lv_icmp_ne (tgt := 19) hx hb dX6_readsStage_12 (by decide) (fun c_2 => ?_) (fun c_2 => ?_)
      · replace hf := (if_neg c_2).symm.trans hf
        refine lv_aload_n hx hb dX6_readsStage_19 rfl (lv_at hl 0 rfl) ?_
        refine va_get (D := g.1) (ci := 6) (v := .ref t_p_readStage) (C := RX6) (T := TX6) (N := 23) hx hb hts hin6 hown hK.1 hP 0 rfl rfl 18 (by decide) L2 (fun _ h9 => h9) rfl dX6_readsStage_20 ?_
        refine lv_iconst (v := 2) hx hb dX6_readsStage_23 (by decide) ?_
        refine lv_aload_n hx hb dX6_readsStage_24 rfl (lv_at hl 0 rfl) ?_
        refine va_get (D := g.1) (ci := 6) (v := .int t_readStages) (C := RX6) (T := TX6) (N := 23) hx hb hts hin6 hown hK.1 hP 0 rfl rfl 17 (by decide) L1 (fun _ h9 => h9) rfl dX6_readsStage_25 ?_
        refine lv_imul hx hb dX6_readsStage_28 ?_
        refine lv_iconst (v := 2) hx hb dX6_readsStage_29 (by decide) ?_
        refine lv_isub hx hb dX6_readsStage_30 ?_
        obtain ⟨h_3, hf⟩ := if_some hf
        refine va_iald hx hb hK.1 hP 11 0 rfl rfl (ok_in h_3) dX6_readsStage_31 ?_
        refine lv_iconst (v := 1) hx hb dX6_readsStage_32 (by decide) ?_
        refine lv_iadd hx hb dX6_readsStage_33 ?_
        exact w_34  l1 ((t_readStage (Int32.toNatClampNeg ((2 * t_readStages) - 2))) + 1) t_readStages t_readStage t_value t_ends H locs ls hf hP hD hS (lv_sub hl [0, 1] rfl)
      · replace hf := (if_pos c_2).symm.trans hf
        exact w_15  l1 t_readStages t_readStage t_value t_ends H locs ls hf hP hD hS (lv_sub hl [0, 1] rfl)
  exact hgo s.heap [] rfl rfl hP hS

set_option maxHeartbeats 4000000 in
set_option maxRecDepth 100000 in
theorem c6_lowOf (l : Launch) (g : gG) (l0 : Int32) (sz : Nat) (N : Nat) (res : (Int32)) (hf : f6_lowOf N l0 = some res) : Met l yX6_lowOf wsX6_lowOf ({ frames := 0, cells := 0, slots := 0, locals := 0 }) (pP g [.int l0] sz []) (pQi g (fun r => r = res) [] (va_A [] sz)) 0 0 (va_A [] sz) := by
  refine Met.ofW (cc := cX6_lowOf) (maxL := 1) (ret := (some .int)) (by decide) rfl ?_
  intro p e s m args below meth c s₁ B hml hv
  obtain ⟨rfl, hsz, hP, hK, hD0, hG⟩ := hv
  have hx := B.exec
  have hb := B.bytes
  have hr := B.returns
  have hts := atoms_spec (ws := wsX6_lowOf) B.pre
  have hown : s.vm.findClass RX6 = some m.cls := findClass_of_methodNamed B.named
  have hlocks := B.notSynchronized
  subst hsz
  have hD := hD0.self (sz := s.heap.size)
  generalize hAe : va_A [] s.heap.size = A at hD hG ⊢
  have hA : ∀ q : Nat, s.heap.size ≤ q → A q := fun q h => by rw [← hAe]; exact Or.inr h
  have hS : va_S A s.heap s.heap [] := va_S.rf
  have hl := lv_entry ([.int l0]) (n := 1) (Nat.le_of_ble_eq_true rfl)
  rw [lg_entry_eq]
  generalize (lg_sl ([.int l0]) ++ List.replicate (1 - (lg_sl ([.int l0])).length) Slot.unset).toArray = ls at hl ⊢
  replace hl : lv_has ls 1 [(0, .int l0)] := hl
  rw [f6_lowOf] at hf
  have hgo : ∀ (H : Heap) (locs : List Loc), H = s.heap → locs = [] → va_P g.1 vwCl [] H → va_S A s.heap H locs → W p l e ({ frames := 0, cells := 0, slots := 0, locals := 0 }) s m ([.int l0] : List Value).toArray below meth c H locs 0 0 (MQ below (pQi g (fun r => r = res) [] A) ([.int l0] : List Value).toArray s 0 0 A) (F0 m 0 ls []) := by
    intro H locs hH hL hP hS
    refine lv_iload_n hx hb dX6_lowOf_0 rfl (lv_at hl 0 rfl) ?_
    refine lv_iconst (v := 3) hx hb dX6_lowOf_1 (by decide) ?_
    refine lv_icmp_ge (tgt := 9) hx hb dX6_lowOf_2 (by decide) (fun c_1 => ?_) (fun c_1 => ?_)
    · replace hf := (if_pos c_1).symm.trans hf
      refine lv_iconst (v := 0) hx hb dX6_lowOf_9 (by decide) ?_
      replace hf := Option.some.inj hf
      subst hf
      exact W.iret (v := 0) hx hb hr (fun t ht hW => ⟨⟨_, (), rfl, rfl, by show va_P g.1 vwCl _ t.heap; rw [ht]; exact hP⟩, hS.F ht⟩) hS.2.2 dX6_lowOf_10 hlocks
    · replace hf := (if_neg c_1).symm.trans hf
      refine lv_iconst (v := 1) hx hb dX6_lowOf_5 (by decide) ?_
      refine lv_goto (tgt := 10) hx hb dX6_lowOf_6 (by decide) ?_
      replace hf := Option.some.inj hf
      subst hf
      exact W.iret (v := 1) hx hb hr (fun t ht hW => ⟨⟨_, (), rfl, rfl, by show va_P g.1 vwCl _ t.heap; rw [ht]; exact hP⟩, hS.F ht⟩) hS.2.2 dX6_lowOf_10 hlocks
  exact hgo s.heap [] rfl rfl hP hS

set_option maxHeartbeats 4000000 in
set_option maxRecDepth 100000 in
theorem c6_highOf (l : Launch) (g : gG) (l0 : Int32) (sz : Nat) (N : Nat) (res : (Int32)) (hf : f6_highOf N l0 = some res) : Met l yX6_highOf wsX6_highOf ({ frames := 0, cells := 0, slots := 0, locals := 0 }) (pP g [.int l0] sz []) (pQi g (fun r => r = res) [] (va_A [] sz)) 0 0 (va_A [] sz) := by
  refine Met.ofW (cc := cX6_highOf) (maxL := 1) (ret := (some .int)) (by decide) rfl ?_
  intro p e s m args below meth c s₁ B hml hv
  obtain ⟨rfl, hsz, hP, hK, hD0, hG⟩ := hv
  have hx := B.exec
  have hb := B.bytes
  have hr := B.returns
  have hts := atoms_spec (ws := wsX6_highOf) B.pre
  have hown : s.vm.findClass RX6 = some m.cls := findClass_of_methodNamed B.named
  have hlocks := B.notSynchronized
  subst hsz
  have hD := hD0.self (sz := s.heap.size)
  generalize hAe : va_A [] s.heap.size = A at hD hG ⊢
  have hA : ∀ q : Nat, s.heap.size ≤ q → A q := fun q h => by rw [← hAe]; exact Or.inr h
  have hS : va_S A s.heap s.heap [] := va_S.rf
  have hl := lv_entry ([.int l0]) (n := 1) (Nat.le_of_ble_eq_true rfl)
  rw [lg_entry_eq]
  generalize (lg_sl ([.int l0]) ++ List.replicate (1 - (lg_sl ([.int l0])).length) Slot.unset).toArray = ls at hl ⊢
  replace hl : lv_has ls 1 [(0, .int l0)] := hl
  rw [f6_highOf] at hf
  have hgo : ∀ (H : Heap) (locs : List Loc), H = s.heap → locs = [] → va_P g.1 vwCl [] H → va_S A s.heap H locs → W p l e ({ frames := 0, cells := 0, slots := 0, locals := 0 }) s m ([.int l0] : List Value).toArray below meth c H locs 0 0 (MQ below (pQi g (fun r => r = res) [] A) ([.int l0] : List Value).toArray s 0 0 A) (F0 m 0 ls []) := by
    intro H locs hH hL hP hS
    refine lv_iload_n hx hb dX6_highOf_0 rfl (lv_at hl 0 rfl) ?_
    refine lv_iconst (v := 2) hx hb dX6_highOf_1 (by decide) ?_
    refine lv_icmp_ne (tgt := 10) hx hb dX6_highOf_2 (by decide) (fun c_1 => ?_) (fun c_1 => ?_)
    · replace hf := (if_neg c_1).symm.trans hf
      refine lv_iload_n hx hb dX6_highOf_10 rfl (lv_at hl 0 rfl) ?_
      refine lv_iconst (v := 4) hx hb dX6_highOf_11 (by decide) ?_
      refine lv_icmp_ne (tgt := 20) hx hb dX6_highOf_12 (by decide) (fun c_2 => ?_) (fun c_2 => ?_)
      · replace hf := (if_neg c_2).symm.trans hf
        refine lv_bipush (v := 99) hx hb dX6_highOf_20 (by decide) ?_
        replace hf := Option.some.inj hf
        subst hf
        exact W.iret (v := 99) hx hb hr (fun t ht hW => ⟨⟨_, (), rfl, rfl, by show va_P g.1 vwCl _ t.heap; rw [ht]; exact hP⟩, hS.F ht⟩) hS.2.2 dX6_highOf_22 hlocks
      · replace hf := (if_pos c_2).symm.trans hf
        refine lv_bipush (v := 20) hx hb dX6_highOf_15 (by decide) ?_
        refine lv_goto (tgt := 22) hx hb dX6_highOf_17 (by decide) ?_
        replace hf := Option.some.inj hf
        subst hf
        exact W.iret (v := 20) hx hb hr (fun t ht hW => ⟨⟨_, (), rfl, rfl, by show va_P g.1 vwCl _ t.heap; rw [ht]; exact hP⟩, hS.F ht⟩) hS.2.2 dX6_highOf_22 hlocks
    · replace hf := (if_pos c_1).symm.trans hf
      refine lv_bipush (v := 40) hx hb dX6_highOf_5 (by decide) ?_
      refine lv_goto (tgt := 22) hx hb dX6_highOf_7 (by decide) ?_
      replace hf := Option.some.inj hf
      subst hf
      exact W.iret (v := 40) hx hb hr (fun t ht hW => ⟨⟨_, (), rfl, rfl, by show va_P g.1 vwCl _ t.heap; rw [ht]; exact hP⟩, hS.F ht⟩) hS.2.2 dX6_highOf_22 hlocks
  exact hgo s.heap [] rfl rfl hP hS

set_option maxHeartbeats 4000000 in
set_option maxRecDepth 100000 in
theorem c6_readsRules (l : Launch) (g : gG) (t_p : Nat) (t_length : Int32) (t_p_text : Nat) (t_text : (Nat → Int32)) (t_cavities : Int32) (t_p_volume : Nat) (t_volume : (Nat → Int32)) (t_p_freeze : Nat) (t_freeze : (Nat → Int32)) (t_cores : Int32) (t_p_earlier : Nat) (t_earlier : (Nat → Int32)) (t_stages : Int32) (t_p_place : Nat) (t_place : (Nat → Int32)) (t_p_now : Nat) (t_now : (Nat → Int32)) (t_p_was : Nat) (t_was : (Nat → Int32)) (t_changes : Int32) (t_p_one : Nat) (t_one : (Nat → Int32)) (t_readCavities : Int32) (t_p_readCavity : Nat) (t_readCavity : (Nat → Int32)) (t_readCores : Int32) (t_p_readCore : Nat) (t_readCore : (Nat → Int32)) (t_readStages : Int32) (t_p_readStage : Nat) (t_readStage : (Nat → Int32)) (t_p_readRule : Nat) (t_readRule : (Nat → Int32)) (t_value : Int32) (t_ends : Int32) (t_screw : Int32) (l1 : Int32) (l2 : Int32) (sz : Nat) (N : Nat) (res : (Int32 × (Nat → Int32) × Int32 × Int32)) (hf : f6_readsRules N l1 l2 t_length t_text t_readRule t_value t_ends = some res) : Met l yX6_readsRules wsX6_readsRules ({ frames := 3, cells := 0, slots := 0, locals := 67 }) (pP g [.ref t_p, .int l1, .int l2] sz (fl [wk6 g t_p t_length t_p_text t_text t_cavities t_p_volume t_volume t_p_freeze t_freeze t_cores t_p_earlier t_earlier t_stages t_p_place t_place t_p_now t_now t_p_was t_was t_changes t_p_one t_one t_readCavities t_p_readCavity t_readCavity t_readCores t_p_readCore t_readCore t_readStages t_p_readStage t_readStage t_p_readRule t_readRule t_value t_ends t_screw])) (pQi g (fun r => r = res.1) (fl [wk6 g t_p t_length t_p_text t_text t_cavities t_p_volume t_volume t_p_freeze t_freeze t_cores t_p_earlier t_earlier t_stages t_p_place t_place t_p_now t_now t_p_was t_was t_changes t_p_one t_one t_readCavities t_p_readCavity t_readCavity t_readCores t_p_readCore t_readCore t_readStages t_p_readStage t_readStage t_p_readRule res.2.1 res.2.2.1 res.2.2.2 t_screw]) (va_A (fl [wk6 g t_p t_length t_p_text t_text t_cavities t_p_volume t_volume t_p_freeze t_freeze t_cores t_p_earlier t_earlier t_stages t_p_place t_place t_p_now t_now t_p_was t_was t_changes t_p_one t_one t_readCavities t_p_readCavity t_readCavity t_readCores t_p_readCore t_readCore t_readStages t_p_readStage t_readStage t_p_readRule t_readRule t_value t_ends t_screw]) sz)) 0 0 (va_A (fl [wk6 g t_p t_length t_p_text t_text t_cavities t_p_volume t_volume t_p_freeze t_freeze t_cores t_p_earlier t_earlier t_stages t_p_place t_place t_p_now t_now t_p_was t_was t_changes t_p_one t_one t_readCavities t_p_readCavity t_readCavity t_readCores t_p_readCore t_readCore t_readStages t_p_readStage t_readStage t_p_readRule t_readRule t_value t_ends t_screw]) sz) := by
  refine Met.ofW (cc := cX6_readsRules) (maxL := 5) (ret := (some .boolean)) (by decide) rfl ?_
  intro p e s m args below meth c s₁ B hml hv
  obtain ⟨rfl, hsz, hP, hK, hD0, hG⟩ := hv
  have hx := B.exec
  have hb := B.bytes
  have hr := B.returns
  have hts := atoms_spec (ws := wsX6_readsRules) B.pre
  have hown : s.vm.findClass RX6 = some m.cls := findClass_of_methodNamed B.named
  have hlocks := B.notSynchronized
  subst hsz
  have hD := hD0.self (sz := s.heap.size)
  generalize hAe : va_A (fl [wk6 g t_p t_length t_p_text t_text t_cavities t_p_volume t_volume t_p_freeze t_freeze t_cores t_p_earlier t_earlier t_stages t_p_place t_place t_p_now t_now t_p_was t_was t_changes t_p_one t_one t_readCavities t_p_readCavity t_readCavity t_readCores t_p_readCore t_readCore t_readStages t_p_readStage t_readStage t_p_readRule t_readRule t_value t_ends t_screw]) s.heap.size = A at hD hG ⊢
  have hA : ∀ q : Nat, s.heap.size ≤ q → A q := fun q h => by rw [← hAe]; exact Or.inr h
  have hS : va_S A s.heap s.heap [] := va_S.rf
  have hin6 : ∀ w ∈ u_ws RX6 TX6 23, w ∈ wsX6_readsRules := by decide +kernel
  have L1 := hts (Cond.fieldLink RX6 43 "MouldShotsModel" "readRule" "[I") (by decide +kernel)
  have L2 := hts (Cond.fieldLink RX6 85 "MouldShotsModel" "value" "I") (by decide +kernel)
  have w_42 : ∀ (k_2 : Int32 → Int32 → Int32 → Int32 → (Nat → Int32) → (Nat → Int32) → Int32 → Int32 → Option (Int32 × (Nat → Int32) × Int32 × Int32)), (∀ (v1 : Int32) (v2 : Int32) (v3 : Int32) (t_readRule : (Nat → Int32)) (t_value : Int32) (t_ends : Int32) (H : Heap) (locs : List Loc) (ls : Array Slot), k_2 v1 v2 v3 t_length t_text t_readRule t_value t_ends = some res → va_P g.1 vwCl (fl [wk6 g t_p t_length t_p_text t_text t_cavities t_p_volume t_volume t_p_freeze t_freeze t_cores t_p_earlier t_earlier t_stages t_p_place t_place t_p_now t_now t_p_was t_was t_changes t_p_one t_one t_readCavities t_p_readCavity t_readCavity t_readCores t_p_readCore t_readCore t_readStages t_p_readStage t_readStage t_p_readRule t_readRule t_value t_ends t_screw]) H → va_D A (fl [wk6 g t_p t_length t_p_text t_text t_cavities t_p_volume t_volume t_p_freeze t_freeze t_cores t_p_earlier t_earlier t_stages t_p_place t_place t_p_now t_now t_p_was t_was t_changes t_p_one t_one t_readCavities t_p_readCavity t_readCavity t_readCores t_p_readCore t_readCore t_readStages t_p_readStage t_readStage t_p_readRule t_readRule t_value t_ends t_screw]) → va_S A s.heap H locs → lv_has ls 5 [(0, .ref t_p), (1, .int v1), (2, .int v2), (3, .int v3)] → W p l e ({ frames := 3, cells := 0, slots := 0, locals := 67 }) s m ([.ref t_p, .int l1, .int l2] : List Value).toArray below meth c H locs 0 0 (MQ below (pQi g (fun r => r = res.1) (fl [wk6 g t_p t_length t_p_text t_text t_cavities t_p_volume t_volume t_p_freeze t_freeze t_cores t_p_earlier t_earlier t_stages t_p_place t_place t_p_now t_now t_p_was t_was t_changes t_p_one t_one t_readCavities t_p_readCavity t_readCavity t_readCores t_p_readCore t_readCore t_readStages t_p_readStage t_readStage t_p_readRule res.2.1 res.2.2.1 res.2.2.2 t_screw]) A) ([.ref t_p, .int l1, .int l2] : List Value).toArray s 0 0 A) (F0 m 2 ls [])) → ∀ (v1 : Int32) (v2 : Int32) (v3 : Int32) (s0 : Int32) (t_readRule : (Nat → Int32)) (t_value : Int32) (t_ends : Int32) (H : Heap) (locs : List Loc) (ls : Array Slot), f6_readsRules_42 k_2 N v1 v2 v3 s0 t_length t_text t_readRule t_value t_ends = some res → va_P g.1 vwCl (fl [wk6 g t_p t_length t_p_text t_text t_cavities t_p_volume t_volume t_p_freeze t_freeze t_cores t_p_earlier t_earlier t_stages t_p_place t_place t_p_now t_now t_p_was t_was t_changes t_p_one t_one t_readCavities t_p_readCavity t_readCavity t_readCores t_p_readCore t_readCore t_readStages t_p_readStage t_readStage t_p_readRule t_readRule t_value t_ends t_screw]) H → va_D A (fl [wk6 g t_p t_length t_p_text t_text t_cavities t_p_volume t_volume t_p_freeze t_freeze t_cores t_p_earlier t_earlier t_stages t_p_place t_place t_p_now t_now t_p_was t_was t_changes t_p_one t_one t_readCavities t_p_readCavity t_readCavity t_readCores t_p_readCore t_readCore t_readStages t_p_readStage t_readStage t_p_readRule t_readRule t_value t_ends t_screw]) → va_S A s.heap H locs → lv_has ls 5 [(0, .ref t_p), (1, .int v1), (2, .int v2), (3, .int v3)] → W p l e ({ frames := 3, cells := 0, slots := 0, locals := 67 }) s m ([.ref t_p, .int l1, .int l2] : List Value).toArray below meth c H locs 0 0 (MQ below (pQi g (fun r => r = res.1) (fl [wk6 g t_p t_length t_p_text t_text t_cavities t_p_volume t_volume t_p_freeze t_freeze t_cores t_p_earlier t_earlier t_stages t_p_place t_place t_p_now t_now t_p_was t_was t_changes t_p_one t_one t_readCavities t_p_readCavity t_readCavity t_readCores t_p_readCore t_readCore t_readStages t_p_readStage t_readStage t_p_readRule res.2.1 res.2.2.1 res.2.2.2 t_screw]) A) ([.ref t_p, .int l1, .int l2] : List Value).toArray s 0 0 A) (F0 m 42 ls [.int s0]) := by
    intro k_2 hk_2 v1 v2 v3 s0 t_readRule t_value t_ends H locs ls hf hP hD hS hl
    rw [f6_readsRules_42] at hf
    refine lv_istore (lv' := [(4, .int s0), (0, .ref t_p), (1, .int v1), (2, .int v2), (3, .int v3)]) hx hb dX6_readsRules_42 hl (by decide) rfl (fun ls hl => ?_)
    refine lv_iload hx hb dX6_readsRules_44 (lv_at hl 0 rfl) ?_
    refine lv_if_ne (tgt := 51) hx hb dX6_readsRules_46 (by decide) (fun c_15 => ?_) (fun c_15 => ?_)
    · replace hf := (if_neg c_15).symm.trans hf
      refine lv_aload_n hx hb dX6_readsRules_51 rfl (lv_at hl 1 rfl) ?_
      refine va_get (D := g.1) (ci := 6) (v := .ref t_p_readRule) (C := RX6) (T := TX6) (N := 23) hx hb hts hin6 hown hK.1 hP 0 rfl rfl 19 (by decide) L1 (fun _ h9 => h9) rfl dX6_readsRules_52 ?_
      refine lv_iload_n hx hb dX6_readsRules_55 rfl (lv_at hl 4 rfl) ?_
      refine lv_aload_n hx hb dX6_readsRules_56 rfl (lv_at hl 1 rfl) ?_
      refine va_get (D := g.1) (ci := 6) (v := .int t_value) (C := RX6) (T := TX6) (N := 23) hx hb hts hin6 hown hK.1 hP 0 rfl rfl 20 (by decide) L2 (fun _ h9 => h9) rfl dX6_readsRules_57 ?_
      obtain ⟨h_16, hf⟩ := if_some hf
      refine va_iast hx hb hK.1 hP hD hS 12 0 rfl rfl (ok_in h_16) dX6_readsRules_60 (fun H locs hP hD hS => ?_)
      replace hP : va_P g.1 vwCl (fl [wk6 g t_p t_length t_p_text t_text t_cavities t_p_volume t_volume t_p_freeze t_freeze t_cores t_p_earlier t_earlier t_stages t_p_place t_place t_p_now t_now t_p_was t_was t_changes t_p_one t_one t_readCavities t_p_readCavity t_readCavity t_readCores t_p_readCore t_readCore t_readStages t_p_readStage t_readStage t_p_readRule (upd t_readRule (Int32.toNatClampNeg v3) t_value) t_value t_ends t_screw]) H := hP
      replace hD : va_D A (fl [wk6 g t_p t_length t_p_text t_text t_cavities t_p_volume t_volume t_p_freeze t_freeze t_cores t_p_earlier t_earlier t_stages t_p_place t_place t_p_now t_now t_p_was t_was t_changes t_p_one t_one t_readCavities t_p_readCavity t_readCavity t_readCores t_p_readCore t_readCore t_readStages t_p_readStage t_readStage t_p_readRule (upd t_readRule (Int32.toNatClampNeg v3) t_value) t_value t_ends t_screw]) := hD
      refine lv_iinc (v := v3 + 1) (lv' := [(3, .int (v3 + 1)), (4, .int s0), (0, .ref t_p), (1, .int v1), (2, .int v2)]) hx hb dX6_readsRules_61 hl (k := 4) rfl rfl (by decide) rfl (fun ls hl => ?_)
      refine lv_goto (tgt := 2) hx hb dX6_readsRules_64 (by decide) ?_
      exact hk_2 v1 v2 (v3 + 1) (upd t_readRule (Int32.toNatClampNeg v3) t_value) t_value t_ends H locs ls hf hP hD hS (lv_sub hl [2, 3, 4, 0] rfl)
    · replace hf := (if_pos c_15).symm.trans hf
      refine lv_iconst (v := 0) hx hb dX6_readsRules_49 (by decide) ?_
      replace hf := Option.some.inj hf
      subst hf
      exact W.zret (v := 0) hx hb hr rfl (fun t ht hW => ⟨⟨_, (), rfl, rfl, by show va_P g.1 vwCl _ t.heap; rw [ht]; exact hP⟩, hS.F ht⟩) hS.2.2 dX6_readsRules_50 hlocks
  have w_2 : ∀ n : Nat, ∀ (v1 : Int32) (v2 : Int32) (v3 : Int32) (t_readRule : (Nat → Int32)) (t_value : Int32) (t_ends : Int32) (H : Heap) (locs : List Loc) (ls : Array Slot), f6_readsRules_2  N n v1 v2 v3 t_length t_text t_readRule t_value t_ends = some res → va_P g.1 vwCl (fl [wk6 g t_p t_length t_p_text t_text t_cavities t_p_volume t_volume t_p_freeze t_freeze t_cores t_p_earlier t_earlier t_stages t_p_place t_place t_p_now t_now t_p_was t_was t_changes t_p_one t_one t_readCavities t_p_readCavity t_readCavity t_readCores t_p_readCore t_readCore t_readStages t_p_readStage t_readStage t_p_readRule t_readRule t_value t_ends t_screw]) H → va_D A (fl [wk6 g t_p t_length t_p_text t_text t_cavities t_p_volume t_volume t_p_freeze t_freeze t_cores t_p_earlier t_earlier t_stages t_p_place t_place t_p_now t_now t_p_was t_was t_changes t_p_one t_one t_readCavities t_p_readCavity t_readCavity t_readCores t_p_readCore t_readCore t_readStages t_p_readStage t_readStage t_p_readRule t_readRule t_value t_ends t_screw]) → va_S A s.heap H locs → lv_has ls 5 [(0, .ref t_p), (1, .int v1), (2, .int v2), (3, .int v3)] → W p l e ({ frames := 3, cells := 0, slots := 0, locals := 67 }) s m ([.ref t_p, .int l1, .int l2] : List Value).toArray below meth c H locs 0 0 (MQ below (pQi g (fun r => r = res.1) (fl [wk6 g t_p t_length t_p_text t_text t_cavities t_p_volume t_volume t_p_freeze t_freeze t_cores t_p_earlier t_earlier t_stages t_p_place t_place t_p_now t_now t_p_was t_was t_changes t_p_one t_one t_readCavities t_p_readCavity t_readCavity t_readCores t_p_readCore t_readCore t_readStages t_p_readStage t_readStage t_p_readRule res.2.1 res.2.2.1 res.2.2.2 t_screw]) A) ([.ref t_p, .int l1, .int l2] : List Value).toArray s 0 0 A) (F0 m 2 ls []) := by
    intro  n
    induction n with
    | zero => intro v1 v2 v3 t_readRule t_value t_ends H locs ls hf; exact no_some hf
    | succ n ih =>
      intro v1 v2 v3 t_readRule t_value t_ends H locs ls hf hP hD hS hl
      rw [f6_readsRules_2] at hf
      refine lv_iload_n hx hb dX6_readsRules_2 rfl (lv_at hl 3 rfl) ?_
      refine lv_iload_n hx hb dX6_readsRules_3 rfl (lv_at hl 2 rfl) ?_
      refine lv_iconst (v := 3) hx hb dX6_readsRules_4 (by decide) ?_
      refine lv_iadd hx hb dX6_readsRules_5 ?_
      refine lv_icmp_ge (tgt := 67) hx hb dX6_readsRules_6 (by decide) (fun c_1 => ?_) (fun c_1 => ?_)
      · replace hf := (if_pos c_1).symm.trans hf
        refine lv_iconst (v := 1) hx hb dX6_readsRules_67 (by decide) ?_
        replace hf := Option.some.inj hf
        subst hf
        exact W.zret (v := 1) hx hb hr rfl (fun t ht hW => ⟨⟨_, (), rfl, rfl, by show va_P g.1 vwCl _ t.heap; rw [ht]; exact hP⟩, hS.F ht⟩) hS.2.2 dX6_readsRules_68 hlocks
      · replace hf := (if_neg c_1).symm.trans hf
        refine lv_iload_n hx hb dX6_readsRules_9 rfl (lv_at hl 3 rfl) ?_
        refine lv_iload_n hx hb dX6_readsRules_10 rfl (lv_at hl 2 rfl) ?_
        refine lv_icmp_ne (tgt := 30) hx hb dX6_readsRules_11 (by decide) (fun c_2 => ?_) (fun c_2 => ?_)
        · replace hf := (if_neg c_2).symm.trans hf
          refine lv_aload_n hx hb dX6_readsRules_30 rfl (lv_at hl 0 rfl) ?_
          refine lv_iload_n hx hb dX6_readsRules_31 rfl (lv_at hl 3 rfl) ?_
          obtain ⟨q_3, hq_3, hf⟩ := bd_some hf
          refine aft_i (wn := (fl [wk6 g t_p t_length t_p_text t_text t_cavities t_p_volume t_volume t_p_freeze t_freeze t_cores t_p_earlier t_earlier t_stages t_p_place t_place t_p_now t_now t_p_was t_was t_changes t_p_one t_one t_readCavities t_p_readCavity t_readCavity t_readCores t_p_readCore t_readCore t_readStages t_p_readStage t_readStage t_p_readRule t_readRule t_value t_ends t_screw])) (va_runS (As := [.int v3]) (rest := [.ref t_p]) ⟨hx, hb, hml, hown, hts⟩ (c6_lowOf l g v3 H.size N q_3 hq_3) (va_cwS 1 hts gX6_readsRules_X6_lowOf rfl rfl rfl ⟨nh6.1, nh6.2, pd_2⟩ ⟨Nat.le_of_ble_eq_true rfl, Nat.le_of_ble_eq_true rfl⟩) (pPS hK hG hP hD hS hA [] (by decide) rfl) rfl rfl hl.1 rfl (lv_room (Nat.le_of_ble_eq_true rfl)) dX6_readsRules_32 ⟨Nat.zero_le _, Nat.zero_le _⟩) hP hD hS hA [] rfl rfl rfl (fun r_4 H locs hw hP hD hS => ?_)
          replace hw := hw.symm
          subst hw
          refine lv_iload_n hx hb dX6_readsRules_35 rfl (lv_at hl 3 rfl) ?_
          obtain ⟨q_5, hq_5, hf⟩ := bd_some hf
          refine aft_i (wn := (fl [wk6 g t_p t_length t_p_text t_text t_cavities t_p_volume t_volume t_p_freeze t_freeze t_cores t_p_earlier t_earlier t_stages t_p_place t_place t_p_now t_now t_p_was t_was t_changes t_p_one t_one t_readCavities t_p_readCavity t_readCavity t_readCores t_p_readCore t_readCore t_readStages t_p_readStage t_readStage t_p_readRule t_readRule t_value t_ends t_screw])) (va_runS (As := [.int v3]) (rest := [.int q_3, .ref t_p]) ⟨hx, hb, hml, hown, hts⟩ (c6_highOf l g v3 H.size N q_5 hq_5) (va_cwS 1 hts gX6_readsRules_X6_highOf rfl rfl rfl ⟨nh6.1, nh6.2, pd_2⟩ ⟨Nat.le_of_ble_eq_true rfl, Nat.le_of_ble_eq_true rfl⟩) (pPS hK hG hP hD hS hA [] (by decide) rfl) rfl rfl hl.1 rfl (lv_room (Nat.le_of_ble_eq_true rfl)) dX6_readsRules_36 ⟨Nat.zero_le _, Nat.zero_le _⟩) hP hD hS hA [] rfl rfl rfl (fun r_6 H locs hw hP hD hS => ?_)
          replace hw := hw.symm
          subst hw
          obtain ⟨q_7, hq_7, hf⟩ := bd_some hf
          refine bft_i (bn := [wk6 g t_p t_length t_p_text t_text t_cavities t_p_volume t_volume t_p_freeze t_freeze t_cores t_p_earlier t_earlier t_stages t_p_place t_place t_p_now t_now t_p_was t_was t_changes t_p_one t_one t_readCavities t_p_readCavity t_readCavity t_readCores t_p_readCore t_readCore t_readStages t_p_readStage t_readStage t_p_readRule t_readRule q_7.2.1 q_7.2.2 t_screw]) (L := [[t_p, t_p_text, t_p_volume, t_p_freeze, t_p_earlier, t_p_place, t_p_now, t_p_was, t_p_one, t_p_readCavity, t_p_readCore, t_p_readStage, t_p_readRule]]) (va_runV (As := [.int q_3, .int q_5]) (rest := []) ⟨hx, hb, hml, hown, hts⟩ (c6_more l g t_p t_length t_p_text t_text t_cavities t_p_volume t_volume t_p_freeze t_freeze t_cores t_p_earlier t_earlier t_stages t_p_place t_place t_p_now t_now t_p_was t_was t_changes t_p_one t_one t_readCavities t_p_readCavity t_readCavity t_readCores t_p_readCore t_readCore t_readStages t_p_readStage t_readStage t_p_readRule t_readRule t_value t_ends t_screw q_3 q_5 H.size N q_7 hq_7) (cwV 2 hts gX6_readsRules_X6_more rfl rfl rfl ⟨rfl, nh6.1, nh6.2, pd_16⟩ ⟨Nat.le_of_ble_eq_true rfl, Nat.le_of_ble_eq_true rfl⟩) (qPV hK hG hP hD hS hA [0] (by decide) rfl (va_recv hK.1 hP (ci := 6) (q0 := 0) rfl rfl)) rfl rfl hl.1 rfl (lv_room (Nat.le_of_ble_eq_true rfl)) dX6_readsRules_39 ⟨Nat.zero_le _, Nat.zero_le _⟩) hP hD hS hA [0] rfl rfl rfl rfl (fun r_8 H locs hw hP hD hS => ?_)
          replace hw := hw.symm
          subst hw
          exact w_42 (fun a0 a1 a2 a3 a4 a5 a6 a7 => f6_readsRules_2 N n a0 a1 a2 a3 a4 a5 a6 a7) ih v1 v2 v3 q_7.1 t_readRule q_7.2.1 q_7.2.2 H locs ls hf hP hD hS (lv_sub hl [0, 1, 2, 3] rfl)
        · replace hf := (if_pos c_2).symm.trans hf
          refine lv_aload_n hx hb dX6_readsRules_14 rfl (lv_at hl 0 rfl) ?_
          refine lv_iload_n hx hb dX6_readsRules_15 rfl (lv_at hl 1 rfl) ?_
          refine lv_iload_n hx hb dX6_readsRules_16 rfl (lv_at hl 3 rfl) ?_
          obtain ⟨q_9, hq_9, hf⟩ := bd_some hf
          refine aft_i (wn := (fl [wk6 g t_p t_length t_p_text t_text t_cavities t_p_volume t_volume t_p_freeze t_freeze t_cores t_p_earlier t_earlier t_stages t_p_place t_place t_p_now t_now t_p_was t_was t_changes t_p_one t_one t_readCavities t_p_readCavity t_readCavity t_readCores t_p_readCore t_readCore t_readStages t_p_readStage t_readStage t_p_readRule t_readRule t_value t_ends t_screw])) (va_runS (As := [.int v3]) (rest := [.int v1, .ref t_p]) ⟨hx, hb, hml, hown, hts⟩ (c6_lowOf l g v3 H.size N q_9 hq_9) (va_cwS 1 hts gX6_readsRules_X6_lowOf rfl rfl rfl ⟨nh6.1, nh6.2, pd_2⟩ ⟨Nat.le_of_ble_eq_true rfl, Nat.le_of_ble_eq_true rfl⟩) (pPS hK hG hP hD hS hA [] (by decide) rfl) rfl rfl hl.1 rfl (lv_room (Nat.le_of_ble_eq_true rfl)) dX6_readsRules_17 ⟨Nat.zero_le _, Nat.zero_le _⟩) hP hD hS hA [] rfl rfl rfl (fun r_10 H locs hw hP hD hS => ?_)
          replace hw := hw.symm
          subst hw
          refine lv_iload_n hx hb dX6_readsRules_20 rfl (lv_at hl 3 rfl) ?_
          obtain ⟨q_11, hq_11, hf⟩ := bd_some hf
          refine aft_i (wn := (fl [wk6 g t_p t_length t_p_text t_text t_cavities t_p_volume t_volume t_p_freeze t_freeze t_cores t_p_earlier t_earlier t_stages t_p_place t_place t_p_now t_now t_p_was t_was t_changes t_p_one t_one t_readCavities t_p_readCavity t_readCavity t_readCores t_p_readCore t_readCore t_readStages t_p_readStage t_readStage t_p_readRule t_readRule t_value t_ends t_screw])) (va_runS (As := [.int v3]) (rest := [.int q_9, .int v1, .ref t_p]) ⟨hx, hb, hml, hown, hts⟩ (c6_highOf l g v3 H.size N q_11 hq_11) (va_cwS 1 hts gX6_readsRules_X6_highOf rfl rfl rfl ⟨nh6.1, nh6.2, pd_2⟩ ⟨Nat.le_of_ble_eq_true rfl, Nat.le_of_ble_eq_true rfl⟩) (pPS hK hG hP hD hS hA [] (by decide) rfl) rfl rfl hl.1 rfl (lv_room (Nat.le_of_ble_eq_true rfl)) dX6_readsRules_21 ⟨Nat.zero_le _, Nat.zero_le _⟩) hP hD hS hA [] rfl rfl rfl (fun r_12 H locs hw hP hD hS => ?_)
          replace hw := hw.symm
          subst hw
          obtain ⟨q_13, hq_13, hf⟩ := bd_some hf
          refine bft_i (bn := [wk6 g t_p t_length t_p_text t_text t_cavities t_p_volume t_volume t_p_freeze t_freeze t_cores t_p_earlier t_earlier t_stages t_p_place t_place t_p_now t_now t_p_was t_was t_changes t_p_one t_one t_readCavities t_p_readCavity t_readCavity t_readCores t_p_readCore t_readCore t_readStages t_p_readStage t_readStage t_p_readRule t_readRule q_13.2.1 q_13.2.2 t_screw]) (L := [[t_p, t_p_text, t_p_volume, t_p_freeze, t_p_earlier, t_p_place, t_p_now, t_p_was, t_p_one, t_p_readCavity, t_p_readCore, t_p_readStage, t_p_readRule]]) (va_runV (As := [.int v1, .int q_9, .int q_11]) (rest := []) ⟨hx, hb, hml, hown, hts⟩ (c6_number l g t_p t_length t_p_text t_text t_cavities t_p_volume t_volume t_p_freeze t_freeze t_cores t_p_earlier t_earlier t_stages t_p_place t_place t_p_now t_now t_p_was t_was t_changes t_p_one t_one t_readCavities t_p_readCavity t_readCavity t_readCores t_p_readCore t_readCore t_readStages t_p_readStage t_readStage t_p_readRule t_readRule t_value t_ends t_screw v1 q_9 q_11 H.size N q_13 hq_13) (cwV 3 hts gX6_readsRules_X6_number rfl rfl rfl ⟨rfl, nh6.1, nh6.2, pd_17⟩ ⟨Nat.le_of_ble_eq_true rfl, Nat.le_of_ble_eq_true rfl⟩) (qPV hK hG hP hD hS hA [0] (by decide) rfl (va_recv hK.1 hP (ci := 6) (q0 := 0) rfl rfl)) rfl rfl hl.1 rfl (lv_room (Nat.le_of_ble_eq_true rfl)) dX6_readsRules_24 ⟨Nat.zero_le _, Nat.zero_le _⟩) hP hD hS hA [0] rfl rfl rfl rfl (fun r_14 H locs hw hP hD hS => ?_)
          replace hw := hw.symm
          subst hw
          refine lv_goto (tgt := 42) hx hb dX6_readsRules_27 (by decide) ?_
          exact w_42 (fun a0 a1 a2 a3 a4 a5 a6 a7 => f6_readsRules_2 N n a0 a1 a2 a3 a4 a5 a6 a7) ih v1 v2 v3 q_13.1 t_readRule q_13.2.1 q_13.2.2 H locs ls hf hP hD hS (lv_sub hl [0, 1, 2, 3] rfl)
  have hl := lv_entry ([.ref t_p, .int l1, .int l2]) (n := 5) (Nat.le_of_ble_eq_true rfl)
  rw [lg_entry_eq]
  generalize (lg_sl ([.ref t_p, .int l1, .int l2]) ++ List.replicate (5 - (lg_sl ([.ref t_p, .int l1, .int l2])).length) Slot.unset).toArray = ls at hl ⊢
  replace hl : lv_has ls 5 [(0, .ref t_p), (1, .int l1), (2, .int l2)] := hl
  rw [f6_readsRules] at hf
  have hgo : ∀ (H : Heap) (locs : List Loc), H = s.heap → locs = [] → va_P g.1 vwCl (fl [wk6 g t_p t_length t_p_text t_text t_cavities t_p_volume t_volume t_p_freeze t_freeze t_cores t_p_earlier t_earlier t_stages t_p_place t_place t_p_now t_now t_p_was t_was t_changes t_p_one t_one t_readCavities t_p_readCavity t_readCavity t_readCores t_p_readCore t_readCore t_readStages t_p_readStage t_readStage t_p_readRule t_readRule t_value t_ends t_screw]) H → va_S A s.heap H locs → W p l e ({ frames := 3, cells := 0, slots := 0, locals := 67 }) s m ([.ref t_p, .int l1, .int l2] : List Value).toArray below meth c H locs 0 0 (MQ below (pQi g (fun r => r = res.1) (fl [wk6 g t_p t_length t_p_text t_text t_cavities t_p_volume t_volume t_p_freeze t_freeze t_cores t_p_earlier t_earlier t_stages t_p_place t_place t_p_now t_now t_p_was t_was t_changes t_p_one t_one t_readCavities t_p_readCavity t_readCavity t_readCores t_p_readCore t_readCore t_readStages t_p_readStage t_readStage t_p_readRule res.2.1 res.2.2.1 res.2.2.2 t_screw]) A) ([.ref t_p, .int l1, .int l2] : List Value).toArray s 0 0 A) (F0 m 0 ls []) := by
    intro H locs hH hL hP hS
    refine lv_iload_n hx hb dX6_readsRules_0 rfl (lv_at hl 2 rfl) ?_
    refine lv_istore_n (lv' := [(3, .int l2), (0, .ref t_p), (1, .int l1), (2, .int l2)]) hx hb dX6_readsRules_1 rfl hl (by decide) rfl (fun ls hl => ?_)
    exact w_2  N l1 l2 l2 t_readRule t_value t_ends H locs ls hf hP hD hS (lv_sub hl [1, 2, 3, 0] rfl)
  exact hgo s.heap [] rfl rfl hP hS

set_option maxHeartbeats 4000000 in
set_option maxRecDepth 100000 in
theorem c6_readsItem (l : Launch) (g : gG) (t_p : Nat) (t_length : Int32) (t_p_text : Nat) (t_text : (Nat → Int32)) (t_cavities : Int32) (t_p_volume : Nat) (t_volume : (Nat → Int32)) (t_p_freeze : Nat) (t_freeze : (Nat → Int32)) (t_cores : Int32) (t_p_earlier : Nat) (t_earlier : (Nat → Int32)) (t_stages : Int32) (t_p_place : Nat) (t_place : (Nat → Int32)) (t_p_now : Nat) (t_now : (Nat → Int32)) (t_p_was : Nat) (t_was : (Nat → Int32)) (t_changes : Int32) (t_p_one : Nat) (t_one : (Nat → Int32)) (t_readCavities : Int32) (t_p_readCavity : Nat) (t_readCavity : (Nat → Int32)) (t_readCores : Int32) (t_p_readCore : Nat) (t_readCore : (Nat → Int32)) (t_readStages : Int32) (t_p_readStage : Nat) (t_readStage : (Nat → Int32)) (t_p_readRule : Nat) (t_readRule : (Nat → Int32)) (t_value : Int32) (t_ends : Int32) (t_screw : Int32) (l1 : Int32) (l2 : Int32) (sz : Nat) (N : Nat) (res : (Int32 × Int32 × (Nat → Int32) × Int32 × (Nat → Int32) × Int32 × (Nat → Int32) × (Nat → Int32) × Int32 × Int32)) (hf : f6_readsItem N l1 l2 t_length t_text t_readCavities t_readCavity t_readCores t_readCore t_readStages t_readStage t_readRule t_value t_ends = some res) : Met l yX6_readsItem wsX6_readsItem ({ frames := 4, cells := 0, slots := 0, locals := 91 }) (pP g [.ref t_p, .int l1, .int l2] sz (fl [wk6 g t_p t_length t_p_text t_text t_cavities t_p_volume t_volume t_p_freeze t_freeze t_cores t_p_earlier t_earlier t_stages t_p_place t_place t_p_now t_now t_p_was t_was t_changes t_p_one t_one t_readCavities t_p_readCavity t_readCavity t_readCores t_p_readCore t_readCore t_readStages t_p_readStage t_readStage t_p_readRule t_readRule t_value t_ends t_screw])) (pQi g (fun r => r = res.1) (fl [wk6 g t_p t_length t_p_text t_text t_cavities t_p_volume t_volume t_p_freeze t_freeze t_cores t_p_earlier t_earlier t_stages t_p_place t_place t_p_now t_now t_p_was t_was t_changes t_p_one t_one res.2.1 t_p_readCavity res.2.2.1 res.2.2.2.1 t_p_readCore res.2.2.2.2.1 res.2.2.2.2.2.1 t_p_readStage res.2.2.2.2.2.2.1 t_p_readRule res.2.2.2.2.2.2.2.1 res.2.2.2.2.2.2.2.2.1 res.2.2.2.2.2.2.2.2.2 t_screw]) (va_A (fl [wk6 g t_p t_length t_p_text t_text t_cavities t_p_volume t_volume t_p_freeze t_freeze t_cores t_p_earlier t_earlier t_stages t_p_place t_place t_p_now t_now t_p_was t_was t_changes t_p_one t_one t_readCavities t_p_readCavity t_readCavity t_readCores t_p_readCore t_readCore t_readStages t_p_readStage t_readStage t_p_readRule t_readRule t_value t_ends t_screw]) sz)) 0 0 (va_A (fl [wk6 g t_p t_length t_p_text t_text t_cavities t_p_volume t_volume t_p_freeze t_freeze t_cores t_p_earlier t_earlier t_stages t_p_place t_place t_p_now t_now t_p_was t_was t_changes t_p_one t_one t_readCavities t_p_readCavity t_readCavity t_readCores t_p_readCore t_readCore t_readStages t_p_readStage t_readStage t_p_readRule t_readRule t_value t_ends t_screw]) sz) := by
  refine Met.ofW (cc := cX6_readsItem) (maxL := 3) (ret := (some .boolean)) (by decide) rfl ?_
  intro p e s m args below meth c s₁ B hml hv
  obtain ⟨rfl, hsz, hP, hK, hD0, hG⟩ := hv
  have hx := B.exec
  have hb := B.bytes
  have hr := B.returns
  have hts := atoms_spec (ws := wsX6_readsItem) B.pre
  have hown : s.vm.findClass RX6 = some m.cls := findClass_of_methodNamed B.named
  have hlocks := B.notSynchronized
  subst hsz
  have hD := hD0.self (sz := s.heap.size)
  generalize hAe : va_A (fl [wk6 g t_p t_length t_p_text t_text t_cavities t_p_volume t_volume t_p_freeze t_freeze t_cores t_p_earlier t_earlier t_stages t_p_place t_place t_p_now t_now t_p_was t_was t_changes t_p_one t_one t_readCavities t_p_readCavity t_readCavity t_readCores t_p_readCore t_readCore t_readStages t_p_readStage t_readStage t_p_readRule t_readRule t_value t_ends t_screw]) s.heap.size = A at hD hG ⊢
  have hA : ∀ q : Nat, s.heap.size ≤ q → A q := fun q h => by rw [← hAe]; exact Or.inr h
  have hS : va_S A s.heap s.heap [] := va_S.rf
  have hl := lv_entry ([.ref t_p, .int l1, .int l2]) (n := 3) (Nat.le_of_ble_eq_true rfl)
  rw [lg_entry_eq]
  generalize (lg_sl ([.ref t_p, .int l1, .int l2]) ++ List.replicate (3 - (lg_sl ([.ref t_p, .int l1, .int l2])).length) Slot.unset).toArray = ls at hl ⊢
  replace hl : lv_has ls 3 [(0, .ref t_p), (1, .int l1), (2, .int l2)] := hl
  rw [f6_readsItem] at hf
  have hgo : ∀ (H : Heap) (locs : List Loc), H = s.heap → locs = [] → va_P g.1 vwCl (fl [wk6 g t_p t_length t_p_text t_text t_cavities t_p_volume t_volume t_p_freeze t_freeze t_cores t_p_earlier t_earlier t_stages t_p_place t_place t_p_now t_now t_p_was t_was t_changes t_p_one t_one t_readCavities t_p_readCavity t_readCavity t_readCores t_p_readCore t_readCore t_readStages t_p_readStage t_readStage t_p_readRule t_readRule t_value t_ends t_screw]) H → va_S A s.heap H locs → W p l e ({ frames := 4, cells := 0, slots := 0, locals := 91 }) s m ([.ref t_p, .int l1, .int l2] : List Value).toArray below meth c H locs 0 0 (MQ below (pQi g (fun r => r = res.1) (fl [wk6 g t_p t_length t_p_text t_text t_cavities t_p_volume t_volume t_p_freeze t_freeze t_cores t_p_earlier t_earlier t_stages t_p_place t_place t_p_now t_now t_p_was t_was t_changes t_p_one t_one res.2.1 t_p_readCavity res.2.2.1 res.2.2.2.1 t_p_readCore res.2.2.2.2.1 res.2.2.2.2.2.1 t_p_readStage res.2.2.2.2.2.2.1 t_p_readRule res.2.2.2.2.2.2.2.1 res.2.2.2.2.2.2.2.2.1 res.2.2.2.2.2.2.2.2.2 t_screw]) A) ([.ref t_p, .int l1, .int l2] : List Value).toArray s 0 0 A) (F0 m 0 ls []) := by
    intro H locs hH hL hP hS
    refine lv_iload_n hx hb dX6_readsItem_0 rfl (lv_at hl 1 rfl) ?_
    by_cases c_1 : l1 = 99
    · replace hf := (if_pos c_1).symm.trans hf
      refine lv_lookup (tgt := 58) hx hb dX6_readsItem_1 (by decide) (by rw [c_1]) (by decide) ?_
      refine lv_aload_n hx hb dX6_readsItem_58 rfl (lv_at hl 0 rfl) ?_
      refine lv_iload_n hx hb dX6_readsItem_59 rfl (lv_at hl 2 rfl) ?_
      obtain ⟨q_2, hq_2, hf⟩ := bd_some hf
      refine bft_i (bn := [wk6 g t_p t_length t_p_text t_text t_cavities t_p_volume t_volume t_p_freeze t_freeze t_cores t_p_earlier t_earlier t_stages t_p_place t_place t_p_now t_now t_p_was t_was t_changes t_p_one t_one t_readCavities t_p_readCavity t_readCavity q_2.2.1 t_p_readCore q_2.2.2.1 t_readStages t_p_readStage t_readStage t_p_readRule t_readRule q_2.2.2.2.1 q_2.2.2.2.2 t_screw]) (L := [[t_p, t_p_text, t_p_volume, t_p_freeze, t_p_earlier, t_p_place, t_p_now, t_p_was, t_p_one, t_p_readCavity, t_p_readCore, t_p_readStage, t_p_readRule]]) (va_runV (As := [.int l2]) (rest := []) ⟨hx, hb, hml, hown, hts⟩ (c6_readsCore l g t_p t_length t_p_text t_text t_cavities t_p_volume t_volume t_p_freeze t_freeze t_cores t_p_earlier t_earlier t_stages t_p_place t_place t_p_now t_now t_p_was t_was t_changes t_p_one t_one t_readCavities t_p_readCavity t_readCavity t_readCores t_p_readCore t_readCore t_readStages t_p_readStage t_readStage t_p_readRule t_readRule t_value t_ends t_screw l2 H.size N q_2 hq_2) (cwV 1 hts gX6_readsItem_X6_readsCore rfl rfl rfl ⟨rfl, nh6.1, nh6.2, pd_1⟩ ⟨Nat.le_of_ble_eq_true rfl, Nat.le_of_ble_eq_true rfl⟩) (qPV hK hG hP hD hS hA [0] (by decide) rfl (va_recv hK.1 hP (ci := 6) (q0 := 0) rfl rfl)) rfl rfl hl.1 rfl (lv_room (Nat.le_of_ble_eq_true rfl)) dX6_readsItem_60 ⟨Nat.zero_le _, Nat.zero_le _⟩) hP hD hS hA [0] rfl rfl rfl rfl (fun r_3 H locs hw hP hD hS => ?_)
      replace hw := hw.symm
      subst hw
      obtain ⟨h_4, hf⟩ := if_some hf
      replace hf := Option.some.inj hf
      subst hf
      exact W.zret (v := q_2.1) hx hb hr (isb_n h_4) (fun t ht hW => ⟨⟨_, (), rfl, rfl, by show va_P g.1 vwCl _ t.heap; rw [ht]; exact hP⟩, hS.F ht⟩) hS.2.2 dX6_readsItem_63 hlocks
    · replace hf := (if_neg c_1).symm.trans hf
      by_cases c_5 : l1 = 104
      · replace hf := (if_pos c_5).symm.trans hf
        refine lv_lookup (tgt := 77) hx hb dX6_readsItem_1 (by decide) (by rw [c_5]) (by decide) ?_
        refine lv_aload_n hx hb dX6_readsItem_77 rfl (lv_at hl 0 rfl) ?_
        refine lv_iload_n hx hb dX6_readsItem_78 rfl (lv_at hl 2 rfl) ?_
        refine lv_iconst (v := 3) hx hb dX6_readsItem_79 (by decide) ?_
        obtain ⟨q_6, hq_6, hf⟩ := bd_some hf
        refine bft_i (bn := [wk6 g t_p t_length t_p_text t_text t_cavities t_p_volume t_volume t_p_freeze t_freeze t_cores t_p_earlier t_earlier t_stages t_p_place t_place t_p_now t_now t_p_was t_was t_changes t_p_one t_one t_readCavities t_p_readCavity t_readCavity t_readCores t_p_readCore t_readCore t_readStages t_p_readStage t_readStage t_p_readRule q_6.2.1 q_6.2.2.1 q_6.2.2.2 t_screw]) (L := [[t_p, t_p_text, t_p_volume, t_p_freeze, t_p_earlier, t_p_place, t_p_now, t_p_was, t_p_one, t_p_readCavity, t_p_readCore, t_p_readStage, t_p_readRule]]) (va_runV (As := [.int l2, .int 3]) (rest := []) ⟨hx, hb, hml, hown, hts⟩ (c6_readsRules l g t_p t_length t_p_text t_text t_cavities t_p_volume t_volume t_p_freeze t_freeze t_cores t_p_earlier t_earlier t_stages t_p_place t_place t_p_now t_now t_p_was t_was t_changes t_p_one t_one t_readCavities t_p_readCavity t_readCavity t_readCores t_p_readCore t_readCore t_readStages t_p_readStage t_readStage t_p_readRule t_readRule t_value t_ends t_screw l2 3 H.size N q_6 hq_6) (cwV 2 hts gX6_readsItem_X6_readsRules rfl rfl rfl ⟨rfl, nh6.1, nh6.2, pd_16⟩ ⟨Nat.le_of_ble_eq_true rfl, Nat.le_of_ble_eq_true rfl⟩) (qPV hK hG hP hD hS hA [0] (by decide) rfl (va_recv hK.1 hP (ci := 6) (q0 := 0) rfl rfl)) rfl rfl hl.1 rfl (lv_room (Nat.le_of_ble_eq_true rfl)) dX6_readsItem_80 ⟨Nat.zero_le _, Nat.zero_le _⟩) hP hD hS hA [0] rfl rfl rfl rfl (fun r_7 H locs hw hP hD hS => ?_)
        replace hw := hw.symm
        subst hw
        obtain ⟨h_8, hf⟩ := if_some hf
        replace hf := Option.some.inj hf
        subst hf
        exact W.zret (v := q_6.1) hx hb hr (isb_n h_8) (fun t ht hW => ⟨⟨_, (), rfl, rfl, by show va_P g.1 vwCl _ t.heap; rw [ht]; exact hP⟩, hS.F ht⟩) hS.2.2 dX6_readsItem_83 hlocks
      · replace hf := (if_neg c_5).symm.trans hf
        by_cases c_9 : l1 = 111
        · replace hf := (if_pos c_9).symm.trans hf
          refine lv_lookup (tgt := 70) hx hb dX6_readsItem_1 (by decide) (by rw [c_9]) (by decide) ?_
          refine lv_aload_n hx hb dX6_readsItem_70 rfl (lv_at hl 0 rfl) ?_
          refine lv_iload_n hx hb dX6_readsItem_71 rfl (lv_at hl 2 rfl) ?_
          refine lv_iconst (v := 0) hx hb dX6_readsItem_72 (by decide) ?_
          obtain ⟨q_10, hq_10, hf⟩ := bd_some hf
          refine bft_i (bn := [wk6 g t_p t_length t_p_text t_text t_cavities t_p_volume t_volume t_p_freeze t_freeze t_cores t_p_earlier t_earlier t_stages t_p_place t_place t_p_now t_now t_p_was t_was t_changes t_p_one t_one t_readCavities t_p_readCavity t_readCavity t_readCores t_p_readCore t_readCore t_readStages t_p_readStage t_readStage t_p_readRule q_10.2.1 q_10.2.2.1 q_10.2.2.2 t_screw]) (L := [[t_p, t_p_text, t_p_volume, t_p_freeze, t_p_earlier, t_p_place, t_p_now, t_p_was, t_p_one, t_p_readCavity, t_p_readCore, t_p_readStage, t_p_readRule]]) (va_runV (As := [.int l2, .int 0]) (rest := []) ⟨hx, hb, hml, hown, hts⟩ (c6_readsRules l g t_p t_length t_p_text t_text t_cavities t_p_volume t_volume t_p_freeze t_freeze t_cores t_p_earlier t_earlier t_stages t_p_place t_place t_p_now t_now t_p_was t_was t_changes t_p_one t_one t_readCavities t_p_readCavity t_readCavity t_readCores t_p_readCore t_readCore t_readStages t_p_readStage t_readStage t_p_readRule t_readRule t_value t_ends t_screw l2 0 H.size N q_10 hq_10) (cwV 2 hts gX6_readsItem_X6_readsRules rfl rfl rfl ⟨rfl, nh6.1, nh6.2, pd_16⟩ ⟨Nat.le_of_ble_eq_true rfl, Nat.le_of_ble_eq_true rfl⟩) (qPV hK hG hP hD hS hA [0] (by decide) rfl (va_recv hK.1 hP (ci := 6) (q0 := 0) rfl rfl)) rfl rfl hl.1 rfl (lv_room (Nat.le_of_ble_eq_true rfl)) dX6_readsItem_73 ⟨Nat.zero_le _, Nat.zero_le _⟩) hP hD hS hA [0] rfl rfl rfl rfl (fun r_11 H locs hw hP hD hS => ?_)
          replace hw := hw.symm
          subst hw
          obtain ⟨h_12, hf⟩ := if_some hf
          replace hf := Option.some.inj hf
          subst hf
          exact W.zret (v := q_10.1) hx hb hr (isb_n h_12) (fun t ht hW => ⟨⟨_, (), rfl, rfl, by show va_P g.1 vwCl _ t.heap; rw [ht]; exact hP⟩, hS.F ht⟩) hS.2.2 dX6_readsItem_76 hlocks
        · replace hf := (if_neg c_9).symm.trans hf
          by_cases c_13 : l1 = 115
          · replace hf := (if_pos c_13).symm.trans hf
            refine lv_lookup (tgt := 64) hx hb dX6_readsItem_1 (by decide) (by rw [c_13]) (by decide) ?_
            refine lv_aload_n hx hb dX6_readsItem_64 rfl (lv_at hl 0 rfl) ?_
            refine lv_iload_n hx hb dX6_readsItem_65 rfl (lv_at hl 2 rfl) ?_
            obtain ⟨q_14, hq_14, hf⟩ := bd_some hf
            refine bft_i (bn := [wk6 g t_p t_length t_p_text t_text t_cavities t_p_volume t_volume t_p_freeze t_freeze t_cores t_p_earlier t_earlier t_stages t_p_place t_place t_p_now t_now t_p_was t_was t_changes t_p_one t_one t_readCavities t_p_readCavity t_readCavity t_readCores t_p_readCore t_readCore q_14.2.1 t_p_readStage q_14.2.2.1 t_p_readRule t_readRule q_14.2.2.2.1 q_14.2.2.2.2 t_screw]) (L := [[t_p, t_p_text, t_p_volume, t_p_freeze, t_p_earlier, t_p_place, t_p_now, t_p_was, t_p_one, t_p_readCavity, t_p_readCore, t_p_readStage, t_p_readRule]]) (va_runV (As := [.int l2]) (rest := []) ⟨hx, hb, hml, hown, hts⟩ (c6_readsStage l g t_p t_length t_p_text t_text t_cavities t_p_volume t_volume t_p_freeze t_freeze t_cores t_p_earlier t_earlier t_stages t_p_place t_place t_p_now t_now t_p_was t_was t_changes t_p_one t_one t_readCavities t_p_readCavity t_readCavity t_readCores t_p_readCore t_readCore t_readStages t_p_readStage t_readStage t_p_readRule t_readRule t_value t_ends t_screw l2 H.size N q_14 hq_14) (cwV 1 hts gX6_readsItem_X6_readsStage rfl rfl rfl ⟨rfl, nh6.1, nh6.2, pd_1⟩ ⟨Nat.le_of_ble_eq_true rfl, Nat.le_of_ble_eq_true rfl⟩) (qPV hK hG hP hD hS hA [0] (by decide) rfl (va_recv hK.1 hP (ci := 6) (q0 := 0) rfl rfl)) rfl rfl hl.1 rfl (lv_room (Nat.le_of_ble_eq_true rfl)) dX6_readsItem_66 ⟨Nat.zero_le _, Nat.zero_le _⟩) hP hD hS hA [0] rfl rfl rfl rfl (fun r_15 H locs hw hP hD hS => ?_)
            replace hw := hw.symm
            subst hw
            obtain ⟨h_16, hf⟩ := if_some hf
            replace hf := Option.some.inj hf
            subst hf
            exact W.zret (v := q_14.1) hx hb hr (isb_n h_16) (fun t ht hW => ⟨⟨_, (), rfl, rfl, by show va_P g.1 vwCl _ t.heap; rw [ht]; exact hP⟩, hS.F ht⟩) hS.2.2 dX6_readsItem_69 hlocks
          · replace hf := (if_neg c_13).symm.trans hf
            by_cases c_17 : l1 = 118
            · replace hf := (if_pos c_17).symm.trans hf
              refine lv_lookup (tgt := 52) hx hb dX6_readsItem_1 (by decide) (by rw [c_17]) (by decide) ?_
              refine lv_aload_n hx hb dX6_readsItem_52 rfl (lv_at hl 0 rfl) ?_
              refine lv_iload_n hx hb dX6_readsItem_53 rfl (lv_at hl 2 rfl) ?_
              obtain ⟨q_18, hq_18, hf⟩ := bd_some hf
              refine bft_i (bn := [wk6 g t_p t_length t_p_text t_text t_cavities t_p_volume t_volume t_p_freeze t_freeze t_cores t_p_earlier t_earlier t_stages t_p_place t_place t_p_now t_now t_p_was t_was t_changes t_p_one t_one q_18.2.1 t_p_readCavity q_18.2.2.1 t_readCores t_p_readCore t_readCore t_readStages t_p_readStage t_readStage t_p_readRule t_readRule q_18.2.2.2.1 q_18.2.2.2.2 t_screw]) (L := [[t_p, t_p_text, t_p_volume, t_p_freeze, t_p_earlier, t_p_place, t_p_now, t_p_was, t_p_one, t_p_readCavity, t_p_readCore, t_p_readStage, t_p_readRule]]) (va_runV (As := [.int l2]) (rest := []) ⟨hx, hb, hml, hown, hts⟩ (c6_readsCavity l g t_p t_length t_p_text t_text t_cavities t_p_volume t_volume t_p_freeze t_freeze t_cores t_p_earlier t_earlier t_stages t_p_place t_place t_p_now t_now t_p_was t_was t_changes t_p_one t_one t_readCavities t_p_readCavity t_readCavity t_readCores t_p_readCore t_readCore t_readStages t_p_readStage t_readStage t_p_readRule t_readRule t_value t_ends t_screw l2 H.size N q_18 hq_18) (cwV 1 hts gX6_readsItem_X6_readsCavity rfl rfl rfl ⟨rfl, nh6.1, nh6.2, pd_1⟩ ⟨Nat.le_of_ble_eq_true rfl, Nat.le_of_ble_eq_true rfl⟩) (qPV hK hG hP hD hS hA [0] (by decide) rfl (va_recv hK.1 hP (ci := 6) (q0 := 0) rfl rfl)) rfl rfl hl.1 rfl (lv_room (Nat.le_of_ble_eq_true rfl)) dX6_readsItem_54 ⟨Nat.zero_le _, Nat.zero_le _⟩) hP hD hS hA [0] rfl rfl rfl rfl (fun r_19 H locs hw hP hD hS => ?_)
              replace hw := hw.symm
              subst hw
              obtain ⟨h_20, hf⟩ := if_some hf
              replace hf := Option.some.inj hf
              subst hf
              exact W.zret (v := q_18.1) hx hb hr (isb_n h_20) (fun t ht hW => ⟨⟨_, (), rfl, rfl, by show va_P g.1 vwCl _ t.heap; rw [ht]; exact hP⟩, hS.F ht⟩) hS.2.2 dX6_readsItem_57 hlocks
            · replace hf := (if_neg c_17).symm.trans hf
              refine lv_lookup (tgt := 84) hx hb dX6_readsItem_1 (by decide) (look_out5 c_1 c_5 c_9 c_13 c_17) (by decide) ?_
              refine lv_iconst (v := 0) hx hb dX6_readsItem_84 (by decide) ?_
              replace hf := Option.some.inj hf
              subst hf
              exact W.zret (v := 0) hx hb hr rfl (fun t ht hW => ⟨⟨_, (), rfl, rfl, by show va_P g.1 vwCl _ t.heap; rw [ht]; exact hP⟩, hS.F ht⟩) hS.2.2 dX6_readsItem_85 hlocks
  exact hgo s.heap [] rfl rfl hP hS

set_option maxHeartbeats 4000000 in
set_option maxRecDepth 100000 in
theorem c6_reads (l : Launch) (g : gG) (t_p : Nat) (t_length : Int32) (t_p_text : Nat) (t_text : (Nat → Int32)) (t_cavities : Int32) (t_p_volume : Nat) (t_volume : (Nat → Int32)) (t_p_freeze : Nat) (t_freeze : (Nat → Int32)) (t_cores : Int32) (t_p_earlier : Nat) (t_earlier : (Nat → Int32)) (t_stages : Int32) (t_p_place : Nat) (t_place : (Nat → Int32)) (t_p_now : Nat) (t_now : (Nat → Int32)) (t_p_was : Nat) (t_was : (Nat → Int32)) (t_changes : Int32) (t_p_one : Nat) (t_one : (Nat → Int32)) (t_readCavities : Int32) (t_p_readCavity : Nat) (t_readCavity : (Nat → Int32)) (t_readCores : Int32) (t_p_readCore : Nat) (t_readCore : (Nat → Int32)) (t_readStages : Int32) (t_p_readStage : Nat) (t_readStage : (Nat → Int32)) (t_p_readRule : Nat) (t_readRule : (Nat → Int32)) (t_value : Int32) (t_ends : Int32) (t_screw : Int32) (sz : Nat) (N : Nat) (res : (Int32 × Int32 × (Nat → Int32) × Int32 × (Nat → Int32) × Int32 × (Nat → Int32) × (Nat → Int32) × Int32 × Int32)) (hf : f6_reads N t_length t_text t_readCavity t_readCore t_readStage t_readRule t_value t_ends = some res) : Met l yX6_reads wsX6_reads ({ frames := 5, cells := 0, slots := 0, locals := 113 }) (pP g [.ref t_p] sz (fl [wk6 g t_p t_length t_p_text t_text t_cavities t_p_volume t_volume t_p_freeze t_freeze t_cores t_p_earlier t_earlier t_stages t_p_place t_place t_p_now t_now t_p_was t_was t_changes t_p_one t_one t_readCavities t_p_readCavity t_readCavity t_readCores t_p_readCore t_readCore t_readStages t_p_readStage t_readStage t_p_readRule t_readRule t_value t_ends t_screw])) (pQi g (fun r => r = res.1) (fl [wk6 g t_p t_length t_p_text t_text t_cavities t_p_volume t_volume t_p_freeze t_freeze t_cores t_p_earlier t_earlier t_stages t_p_place t_place t_p_now t_now t_p_was t_was t_changes t_p_one t_one res.2.1 t_p_readCavity res.2.2.1 res.2.2.2.1 t_p_readCore res.2.2.2.2.1 res.2.2.2.2.2.1 t_p_readStage res.2.2.2.2.2.2.1 t_p_readRule res.2.2.2.2.2.2.2.1 res.2.2.2.2.2.2.2.2.1 res.2.2.2.2.2.2.2.2.2 t_screw]) (va_A (fl [wk6 g t_p t_length t_p_text t_text t_cavities t_p_volume t_volume t_p_freeze t_freeze t_cores t_p_earlier t_earlier t_stages t_p_place t_place t_p_now t_now t_p_was t_was t_changes t_p_one t_one t_readCavities t_p_readCavity t_readCavity t_readCores t_p_readCore t_readCore t_readStages t_p_readStage t_readStage t_p_readRule t_readRule t_value t_ends t_screw]) sz)) 0 0 (va_A (fl [wk6 g t_p t_length t_p_text t_text t_cavities t_p_volume t_volume t_p_freeze t_freeze t_cores t_p_earlier t_earlier t_stages t_p_place t_place t_p_now t_now t_p_was t_was t_changes t_p_one t_one t_readCavities t_p_readCavity t_readCavity t_readCores t_p_readCore t_readCore t_readStages t_p_readStage t_readStage t_p_readRule t_readRule t_value t_ends t_screw]) sz) := by
  refine Met.ofW (cc := cX6_reads) (maxL := 2) (ret := (some .int)) (by decide) rfl ?_
  intro p e s m args below meth c s₁ B hml hv
  obtain ⟨rfl, hsz, hP, hK, hD0, hG⟩ := hv
  have hx := B.exec
  have hb := B.bytes
  have hr := B.returns
  have hts := atoms_spec (ws := wsX6_reads) B.pre
  have hown : s.vm.findClass RX6 = some m.cls := findClass_of_methodNamed B.named
  have hlocks := B.notSynchronized
  subst hsz
  have hD := hD0.self (sz := s.heap.size)
  generalize hAe : va_A (fl [wk6 g t_p t_length t_p_text t_text t_cavities t_p_volume t_volume t_p_freeze t_freeze t_cores t_p_earlier t_earlier t_stages t_p_place t_place t_p_now t_now t_p_was t_was t_changes t_p_one t_one t_readCavities t_p_readCavity t_readCavity t_readCores t_p_readCore t_readCore t_readStages t_p_readStage t_readStage t_p_readRule t_readRule t_value t_ends t_screw]) s.heap.size = A at hD hG ⊢
  have hA : ∀ q : Nat, s.heap.size ≤ q → A q := fun q h => by rw [← hAe]; exact Or.inr h
  have hS : va_S A s.heap s.heap [] := va_S.rf
  have hin6 : ∀ w ∈ u_ws RX6 TX6 23, w ∈ wsX6_reads := by decide +kernel
  have L1 := hts (Cond.fieldLink RX6 82 "MouldShotsModel" "length" "I") (by decide +kernel)
  have L2 := hts (Cond.fieldLink RX6 7 "MouldShotsModel" "text" "[I") (by decide +kernel)
  have L3 := hts (Cond.fieldLink RX6 88 "MouldShotsModel" "ends" "I") (by decide +kernel)
  have w_6 : ∀ n : Nat, ∀ (v1 : Int32) (t_readCavities : Int32) (t_readCavity : (Nat → Int32)) (t_readCores : Int32) (t_readCore : (Nat → Int32)) (t_readStages : Int32) (t_readStage : (Nat → Int32)) (t_readRule : (Nat → Int32)) (t_value : Int32) (t_ends : Int32) (H : Heap) (locs : List Loc) (ls : Array Slot), f6_reads_6  N n v1 t_length t_text t_readCavities t_readCavity t_readCores t_readCore t_readStages t_readStage t_readRule t_value t_ends = some res → va_P g.1 vwCl (fl [wk6 g t_p t_length t_p_text t_text t_cavities t_p_volume t_volume t_p_freeze t_freeze t_cores t_p_earlier t_earlier t_stages t_p_place t_place t_p_now t_now t_p_was t_was t_changes t_p_one t_one t_readCavities t_p_readCavity t_readCavity t_readCores t_p_readCore t_readCore t_readStages t_p_readStage t_readStage t_p_readRule t_readRule t_value t_ends t_screw]) H → va_D A (fl [wk6 g t_p t_length t_p_text t_text t_cavities t_p_volume t_volume t_p_freeze t_freeze t_cores t_p_earlier t_earlier t_stages t_p_place t_place t_p_now t_now t_p_was t_was t_changes t_p_one t_one t_readCavities t_p_readCavity t_readCavity t_readCores t_p_readCore t_readCore t_readStages t_p_readStage t_readStage t_p_readRule t_readRule t_value t_ends t_screw]) → va_S A s.heap H locs → lv_has ls 2 [(0, .ref t_p), (1, .int v1)] → W p l e ({ frames := 5, cells := 0, slots := 0, locals := 113 }) s m ([.ref t_p] : List Value).toArray below meth c H locs 0 0 (MQ below (pQi g (fun r => r = res.1) (fl [wk6 g t_p t_length t_p_text t_text t_cavities t_p_volume t_volume t_p_freeze t_freeze t_cores t_p_earlier t_earlier t_stages t_p_place t_place t_p_now t_now t_p_was t_was t_changes t_p_one t_one res.2.1 t_p_readCavity res.2.2.1 res.2.2.2.1 t_p_readCore res.2.2.2.2.1 res.2.2.2.2.2.1 t_p_readStage res.2.2.2.2.2.2.1 t_p_readRule res.2.2.2.2.2.2.2.1 res.2.2.2.2.2.2.2.2.1 res.2.2.2.2.2.2.2.2.2 t_screw]) A) ([.ref t_p] : List Value).toArray s 0 0 A) (F0 m 6 ls []) := by
    intro  n
    induction n with
    | zero => intro v1 t_readCavities t_readCavity t_readCores t_readCore t_readStages t_readStage t_readRule t_value t_ends H locs ls hf; exact no_some hf
    | succ n ih =>
      intro v1 t_readCavities t_readCavity t_readCores t_readCore t_readStages t_readStage t_readRule t_value t_ends H locs ls hf hP hD hS hl
      rw [f6_reads_6] at hf
      refine lv_iload_n hx hb dX6_reads_6 rfl (lv_at hl 1 rfl) ?_
      refine lv_aload_n hx hb dX6_reads_7 rfl (lv_at hl 0 rfl) ?_
      refine va_get (D := g.1) (ci := 6) (v := .int t_length) (C := RX6) (T := TX6) (N := 23) hx hb hts hin6 hown hK.1 hP 0 rfl rfl 0 (by decide) L1 (fun _ h9 => h9) rfl dX6_reads_8 ?_
      refine lv_icmp_ge (tgt := 55) hx hb dX6_reads_11 (by decide) (fun c_2 => ?_) (fun c_2 => ?_)
      · replace hf := (if_pos c_2).symm.trans hf
        refine lv_bipush (v := (-4)) hx hb dX6_reads_55 (by decide) ?_
        replace hf := Option.some.inj hf
        subst hf
        exact W.iret (v := (-4)) hx hb hr (fun t ht hW => ⟨⟨_, (), rfl, rfl, by show va_P g.1 vwCl _ t.heap; rw [ht]; exact hP⟩, hS.F ht⟩) hS.2.2 dX6_reads_57 hlocks
      · replace hf := (if_neg c_2).symm.trans hf
        refine lv_aload_n hx hb dX6_reads_14 rfl (lv_at hl 0 rfl) ?_
        refine lv_aload_n hx hb dX6_reads_15 rfl (lv_at hl 0 rfl) ?_
        refine va_get (D := g.1) (ci := 6) (v := .ref t_p_text) (C := RX6) (T := TX6) (N := 23) hx hb hts hin6 hown hK.1 hP 0 rfl rfl 1 (by decide) L2 (fun _ h9 => h9) rfl dX6_reads_16 ?_
        refine lv_iload_n hx hb dX6_reads_19 rfl (lv_at hl 1 rfl) ?_
        obtain ⟨h_3, hf⟩ := if_some hf
        refine va_iald hx hb hK.1 hP 1 0 rfl rfl (ok_in h_3) dX6_reads_20 ?_
        refine lv_iload_n hx hb dX6_reads_21 rfl (lv_at hl 1 rfl) ?_
        refine lv_iconst (v := 1) hx hb dX6_reads_22 (by decide) ?_
        refine lv_iadd hx hb dX6_reads_23 ?_
        obtain ⟨q_4, hq_4, hf⟩ := bd_some hf
        refine bft_i (bn := [wk6 g t_p t_length t_p_text t_text t_cavities t_p_volume t_volume t_p_freeze t_freeze t_cores t_p_earlier t_earlier t_stages t_p_place t_place t_p_now t_now t_p_was t_was t_changes t_p_one t_one q_4.2.1 t_p_readCavity q_4.2.2.1 q_4.2.2.2.1 t_p_readCore q_4.2.2.2.2.1 q_4.2.2.2.2.2.1 t_p_readStage q_4.2.2.2.2.2.2.1 t_p_readRule q_4.2.2.2.2.2.2.2.1 q_4.2.2.2.2.2.2.2.2.1 q_4.2.2.2.2.2.2.2.2.2 t_screw]) (L := [[t_p, t_p_text, t_p_volume, t_p_freeze, t_p_earlier, t_p_place, t_p_now, t_p_was, t_p_one, t_p_readCavity, t_p_readCore, t_p_readStage, t_p_readRule]]) (va_runV (As := [.int (t_text (Int32.toNatClampNeg v1)), .int (v1 + 1)]) (rest := []) ⟨hx, hb, hml, hown, hts⟩ (c6_readsItem l g t_p t_length t_p_text t_text t_cavities t_p_volume t_volume t_p_freeze t_freeze t_cores t_p_earlier t_earlier t_stages t_p_place t_place t_p_now t_now t_p_was t_was t_changes t_p_one t_one t_readCavities t_p_readCavity t_readCavity t_readCores t_p_readCore t_readCore t_readStages t_p_readStage t_readStage t_p_readRule t_readRule t_value t_ends t_screw (t_text (Int32.toNatClampNeg v1)) (v1 + 1) H.size N q_4 hq_4) (cwV 2 hts gX6_reads_X6_readsItem rfl rfl rfl ⟨rfl, nh6.1, nh6.2, pd_16⟩ ⟨Nat.le_of_ble_eq_true rfl, Nat.le_of_ble_eq_true rfl⟩) (qPV hK hG hP hD hS hA [0] (by decide) rfl (va_recv hK.1 hP (ci := 6) (q0 := 0) rfl rfl)) rfl rfl hl.1 rfl (lv_room (Nat.le_of_ble_eq_true rfl)) dX6_reads_24 ⟨Nat.zero_le _, Nat.zero_le _⟩) hP hD hS hA [0] rfl rfl rfl rfl (fun r_5 H locs hw hP hD hS => ?_)
        replace hw := hw.symm
        subst hw
        refine lv_if_eq (tgt := 43) hx hb dX6_reads_27 (by decide) (fun c_6 => ?_) (fun c_6 => ?_)
        · replace hf := (if_pos c_6).symm.trans hf
          refine lv_iload_n hx hb dX6_reads_43 rfl (lv_at hl 1 rfl) ?_
          replace hf := Option.some.inj hf
          subst hf
          exact W.iret (v := v1) hx hb hr (fun t ht hW => ⟨⟨_, (), rfl, rfl, by show va_P g.1 vwCl _ t.heap; rw [ht]; exact hP⟩, hS.F ht⟩) hS.2.2 dX6_reads_44 hlocks
        · replace hf := (if_neg c_6).symm.trans hf
          refine lv_aload_n hx hb dX6_reads_30 rfl (lv_at hl 0 rfl) ?_
          refine lv_aload_n hx hb dX6_reads_31 rfl (lv_at hl 0 rfl) ?_
          refine va_get (D := g.1) (ci := 6) (v := .int q_4.2.2.2.2.2.2.2.2.2) (C := RX6) (T := TX6) (N := 23) hx hb hts hin6 hown hK.1 hP 0 rfl rfl 21 (by decide) L3 (fun _ h9 => h9) rfl dX6_reads_32 ?_
          obtain ⟨q_7, hq_7, hf⟩ := bd_some hf
          refine bft_i (bn := [wk6 g t_p t_length t_p_text t_text t_cavities t_p_volume t_volume t_p_freeze t_freeze t_cores t_p_earlier t_earlier t_stages t_p_place t_place t_p_now t_now t_p_was t_was t_changes t_p_one t_one q_4.2.1 t_p_readCavity q_4.2.2.1 q_4.2.2.2.1 t_p_readCore q_4.2.2.2.2.1 q_4.2.2.2.2.2.1 t_p_readStage q_4.2.2.2.2.2.2.1 t_p_readRule q_4.2.2.2.2.2.2.2.1 q_4.2.2.2.2.2.2.2.2.1 q_4.2.2.2.2.2.2.2.2.2 t_screw]) (L := [[t_p, t_p_text, t_p_volume, t_p_freeze, t_p_earlier, t_p_place, t_p_now, t_p_was, t_p_one, t_p_readCavity, t_p_readCore, t_p_readStage, t_p_readRule]]) (va_runV (As := [.int q_4.2.2.2.2.2.2.2.2.2]) (rest := []) ⟨hx, hb, hml, hown, hts⟩ (c6_letterAt l g t_p t_length t_p_text t_text t_cavities t_p_volume t_volume t_p_freeze t_freeze t_cores t_p_earlier t_earlier t_stages t_p_place t_place t_p_now t_now t_p_was t_was t_changes t_p_one t_one q_4.2.1 t_p_readCavity q_4.2.2.1 q_4.2.2.2.1 t_p_readCore q_4.2.2.2.2.1 q_4.2.2.2.2.2.1 t_p_readStage q_4.2.2.2.2.2.2.1 t_p_readRule q_4.2.2.2.2.2.2.2.1 q_4.2.2.2.2.2.2.2.2.1 q_4.2.2.2.2.2.2.2.2.2 t_screw q_4.2.2.2.2.2.2.2.2.2 H.size N q_7 hq_7) (cwV 1 hts gX6_reads_X6_letterAt rfl rfl rfl ⟨rfl, nh6.1, nh6.2, pd_2⟩ ⟨Nat.le_of_ble_eq_true rfl, Nat.le_of_ble_eq_true rfl⟩) (qPV hK hG hP hD hS hA [0] (by decide) rfl (va_recv hK.1 hP (ci := 6) (q0 := 0) rfl rfl)) rfl rfl hl.1 rfl (lv_room (Nat.le_of_ble_eq_true rfl)) dX6_reads_35 ⟨Nat.zero_le _, Nat.zero_le _⟩) hP hD hS hA [0] rfl rfl rfl rfl (fun r_8 H locs hw hP hD hS => ?_)
          replace hw := hw.symm
          subst hw
          refine lv_bipush (v := 59) hx hb dX6_reads_38 (by decide) ?_
          refine lv_icmp_eq (tgt := 45) hx hb dX6_reads_40 (by decide) (fun c_9 => ?_) (fun c_9 => ?_)
          · replace hf := (if_pos c_9).symm.trans hf
            refine lv_aload_n hx hb dX6_reads_45 rfl (lv_at hl 0 rfl) ?_
            refine va_get (D := g.1) (ci := 6) (v := .int q_4.2.2.2.2.2.2.2.2.2) (C := RX6) (T := TX6) (N := 23) hx hb hts hin6 hown hK.1 hP 0 rfl rfl 21 (by decide) L3 (fun _ h9 => h9) rfl dX6_reads_46 ?_
            refine lv_iconst (v := 1) hx hb dX6_reads_49 (by decide) ?_
            refine lv_iadd hx hb dX6_reads_50 ?_
            refine lv_istore_n (lv' := [(1, .int (q_4.2.2.2.2.2.2.2.2.2 + 1)), (0, .ref t_p)]) hx hb dX6_reads_51 rfl hl (by decide) rfl (fun ls hl => ?_)
            refine lv_goto (tgt := 6) hx hb dX6_reads_52 (by decide) ?_
            exact ih (q_4.2.2.2.2.2.2.2.2.2 + 1) q_4.2.1 q_4.2.2.1 q_4.2.2.2.1 q_4.2.2.2.2.1 q_4.2.2.2.2.2.1 q_4.2.2.2.2.2.2.1 q_4.2.2.2.2.2.2.2.1 q_4.2.2.2.2.2.2.2.2.1 q_4.2.2.2.2.2.2.2.2.2 H locs ls hf hP hD hS (lv_sub hl [1, 0] rfl)
          · replace hf := (if_neg c_9).symm.trans hf
            refine lv_iload_n hx hb dX6_reads_43 rfl (lv_at hl 1 rfl) ?_
            replace hf := Option.some.inj hf
            subst hf
            exact W.iret (v := v1) hx hb hr (fun t ht hW => ⟨⟨_, (), rfl, rfl, by show va_P g.1 vwCl _ t.heap; rw [ht]; exact hP⟩, hS.F ht⟩) hS.2.2 dX6_reads_44 hlocks
  have hl := lv_entry ([.ref t_p]) (n := 2) (Nat.le_of_ble_eq_true rfl)
  rw [lg_entry_eq]
  generalize (lg_sl ([.ref t_p]) ++ List.replicate (2 - (lg_sl ([.ref t_p])).length) Slot.unset).toArray = ls at hl ⊢
  replace hl : lv_has ls 2 [(0, .ref t_p)] := hl
  rw [f6_reads] at hf
  have hgo : ∀ (H : Heap) (locs : List Loc), H = s.heap → locs = [] → va_P g.1 vwCl (fl [wk6 g t_p t_length t_p_text t_text t_cavities t_p_volume t_volume t_p_freeze t_freeze t_cores t_p_earlier t_earlier t_stages t_p_place t_place t_p_now t_now t_p_was t_was t_changes t_p_one t_one t_readCavities t_p_readCavity t_readCavity t_readCores t_p_readCore t_readCore t_readStages t_p_readStage t_readStage t_p_readRule t_readRule t_value t_ends t_screw]) H → va_S A s.heap H locs → W p l e ({ frames := 5, cells := 0, slots := 0, locals := 113 }) s m ([.ref t_p] : List Value).toArray below meth c H locs 0 0 (MQ below (pQi g (fun r => r = res.1) (fl [wk6 g t_p t_length t_p_text t_text t_cavities t_p_volume t_volume t_p_freeze t_freeze t_cores t_p_earlier t_earlier t_stages t_p_place t_place t_p_now t_now t_p_was t_was t_changes t_p_one t_one res.2.1 t_p_readCavity res.2.2.1 res.2.2.2.1 t_p_readCore res.2.2.2.2.1 res.2.2.2.2.2.1 t_p_readStage res.2.2.2.2.2.2.1 t_p_readRule res.2.2.2.2.2.2.2.1 res.2.2.2.2.2.2.2.2.1 res.2.2.2.2.2.2.2.2.2 t_screw]) A) ([.ref t_p] : List Value).toArray s 0 0 A) (F0 m 0 ls []) := by
    intro H locs hH hL hP hS
    refine lv_aload_n hx hb dX6_reads_0 rfl (lv_at hl 0 rfl) ?_
    obtain ⟨q_1, hq_1, hf⟩ := bd_some hf
    refine bft_v (bn := [wk6 g t_p t_length t_p_text t_text t_cavities t_p_volume t_volume t_p_freeze t_freeze t_cores t_p_earlier t_earlier t_stages t_p_place t_place t_p_now t_now t_p_was t_was t_changes t_p_one t_one q_1.1 t_p_readCavity t_readCavity q_1.2.1 t_p_readCore t_readCore q_1.2.2.1 t_p_readStage t_readStage t_p_readRule q_1.2.2.2 t_value t_ends t_screw]) (L := [[t_p, t_p_text, t_p_volume, t_p_freeze, t_p_earlier, t_p_place, t_p_now, t_p_was, t_p_one, t_p_readCavity, t_p_readCore, t_p_readStage, t_p_readRule]]) (va_runV (As := []) (rest := []) ⟨hx, hb, hml, hown, hts⟩ (c6_clears l g t_p t_length t_p_text t_text t_cavities t_p_volume t_volume t_p_freeze t_freeze t_cores t_p_earlier t_earlier t_stages t_p_place t_place t_p_now t_now t_p_was t_was t_changes t_p_one t_one t_readCavities t_p_readCavity t_readCavity t_readCores t_p_readCore t_readCore t_readStages t_p_readStage t_readStage t_p_readRule t_readRule t_value t_ends t_screw H.size N q_1 hq_1) (cwV 0 hts gX6_reads_X6_clears rfl rfl rfl ⟨rfl, nh6.1, nh6.2, pd_9⟩ ⟨Nat.le_of_ble_eq_true rfl, Nat.le_of_ble_eq_true rfl⟩) (qPV hK hG hP hD hS hA [0] (by decide) rfl (va_recv hK.1 hP (ci := 6) (q0 := 0) rfl rfl)) rfl rfl hl.1 rfl (lv_room (Nat.le_of_ble_eq_true rfl)) dX6_reads_1 ⟨Nat.zero_le _, Nat.zero_le _⟩) hP hD hS hA [0] rfl rfl rfl rfl (fun H locs hP hD hS => ?_)
    refine lv_iconst (v := 0) hx hb dX6_reads_4 (by decide) ?_
    refine lv_istore_n (lv' := [(1, .int 0), (0, .ref t_p)]) hx hb dX6_reads_5 rfl hl (by decide) rfl (fun ls hl => ?_)
    exact w_6  N 0 q_1.1 t_readCavity q_1.2.1 t_readCore q_1.2.2.1 t_readStage q_1.2.2.2 t_value t_ends H locs ls hf hP hD hS (lv_sub hl [1, 0] rfl)
  exact hgo s.heap [] rfl rfl hP hS

set_option maxHeartbeats 4000000 in
set_option maxRecDepth 100000 in
theorem c6_areCores (l : Launch) (g : gG) (t_p : Nat) (t_length : Int32) (t_p_text : Nat) (t_text : (Nat → Int32)) (t_cavities : Int32) (t_p_volume : Nat) (t_volume : (Nat → Int32)) (t_p_freeze : Nat) (t_freeze : (Nat → Int32)) (t_cores : Int32) (t_p_earlier : Nat) (t_earlier : (Nat → Int32)) (t_stages : Int32) (t_p_place : Nat) (t_place : (Nat → Int32)) (t_p_now : Nat) (t_now : (Nat → Int32)) (t_p_was : Nat) (t_was : (Nat → Int32)) (t_changes : Int32) (t_p_one : Nat) (t_one : (Nat → Int32)) (t_readCavities : Int32) (t_p_readCavity : Nat) (t_readCavity : (Nat → Int32)) (t_readCores : Int32) (t_p_readCore : Nat) (t_readCore : (Nat → Int32)) (t_readStages : Int32) (t_p_readStage : Nat) (t_readStage : (Nat → Int32)) (t_p_readRule : Nat) (t_readRule : (Nat → Int32)) (t_value : Int32) (t_ends : Int32) (t_screw : Int32) (sz : Nat) (N : Nat) (res : (Int32)) (hf : f6_areCores N t_readCores t_readCore = some res) : Met l yX6_areCores wsX6_areCores ({ frames := 0, cells := 0, slots := 0, locals := 0 }) (pP g [.ref t_p] sz (fl [wk6 g t_p t_length t_p_text t_text t_cavities t_p_volume t_volume t_p_freeze t_freeze t_cores t_p_earlier t_earlier t_stages t_p_place t_place t_p_now t_now t_p_was t_was t_changes t_p_one t_one t_readCavities t_p_readCavity t_readCavity t_readCores t_p_readCore t_readCore t_readStages t_p_readStage t_readStage t_p_readRule t_readRule t_value t_ends t_screw])) (pQi g (fun r => r = res) (fl [wk6 g t_p t_length t_p_text t_text t_cavities t_p_volume t_volume t_p_freeze t_freeze t_cores t_p_earlier t_earlier t_stages t_p_place t_place t_p_now t_now t_p_was t_was t_changes t_p_one t_one t_readCavities t_p_readCavity t_readCavity t_readCores t_p_readCore t_readCore t_readStages t_p_readStage t_readStage t_p_readRule t_readRule t_value t_ends t_screw]) (va_A (fl [wk6 g t_p t_length t_p_text t_text t_cavities t_p_volume t_volume t_p_freeze t_freeze t_cores t_p_earlier t_earlier t_stages t_p_place t_place t_p_now t_now t_p_was t_was t_changes t_p_one t_one t_readCavities t_p_readCavity t_readCavity t_readCores t_p_readCore t_readCore t_readStages t_p_readStage t_readStage t_p_readRule t_readRule t_value t_ends t_screw]) sz)) 0 0 (va_A (fl [wk6 g t_p t_length t_p_text t_text t_cavities t_p_volume t_volume t_p_freeze t_freeze t_cores t_p_earlier t_earlier t_stages t_p_place t_place t_p_now t_now t_p_was t_was t_changes t_p_one t_one t_readCavities t_p_readCavity t_readCavity t_readCores t_p_readCore t_readCore t_readStages t_p_readStage t_readStage t_p_readRule t_readRule t_value t_ends t_screw]) sz) := by
  refine Met.ofW (cc := cX6_areCores) (maxL := 4) (ret := (some .boolean)) (by decide) rfl ?_
  intro p e s m args below meth c s₁ B hml hv
  obtain ⟨rfl, hsz, hP, hK, hD0, hG⟩ := hv
  have hx := B.exec
  have hb := B.bytes
  have hr := B.returns
  have hts := atoms_spec (ws := wsX6_areCores) B.pre
  have hown : s.vm.findClass RX6 = some m.cls := findClass_of_methodNamed B.named
  have hlocks := B.notSynchronized
  subst hsz
  have hD := hD0.self (sz := s.heap.size)
  generalize hAe : va_A (fl [wk6 g t_p t_length t_p_text t_text t_cavities t_p_volume t_volume t_p_freeze t_freeze t_cores t_p_earlier t_earlier t_stages t_p_place t_place t_p_now t_now t_p_was t_was t_changes t_p_one t_one t_readCavities t_p_readCavity t_readCavity t_readCores t_p_readCore t_readCore t_readStages t_p_readStage t_readStage t_p_readRule t_readRule t_value t_ends t_screw]) s.heap.size = A at hD hG ⊢
  have hA : ∀ q : Nat, s.heap.size ≤ q → A q := fun q h => by rw [← hAe]; exact Or.inr h
  have hS : va_S A s.heap s.heap [] := va_S.rf
  have hin6 : ∀ w ∈ u_ws RX6 TX6 23, w ∈ wsX6_areCores := by decide +kernel
  have L1 := hts (Cond.fieldLink RX6 53 "MouldShotsModel" "readCores" "I") (by decide +kernel)
  have L2 := hts (Cond.fieldLink RX6 37 "MouldShotsModel" "readCore" "[I") (by decide +kernel)
  have w_54 : ∀ (k_2 : Int32 → Int32 → (Nat → Int32) → Option (Int32)), (∀ (v1 : Int32)  (H : Heap) (locs : List Loc) (ls : Array Slot), k_2 v1 t_readCores t_readCore = some res → va_P g.1 vwCl (fl [wk6 g t_p t_length t_p_text t_text t_cavities t_p_volume t_volume t_p_freeze t_freeze t_cores t_p_earlier t_earlier t_stages t_p_place t_place t_p_now t_now t_p_was t_was t_changes t_p_one t_one t_readCavities t_p_readCavity t_readCavity t_readCores t_p_readCore t_readCore t_readStages t_p_readStage t_readStage t_p_readRule t_readRule t_value t_ends t_screw]) H → va_D A (fl [wk6 g t_p t_length t_p_text t_text t_cavities t_p_volume t_volume t_p_freeze t_freeze t_cores t_p_earlier t_earlier t_stages t_p_place t_place t_p_now t_now t_p_was t_was t_changes t_p_one t_one t_readCavities t_p_readCavity t_readCavity t_readCores t_p_readCore t_readCore t_readStages t_p_readStage t_readStage t_p_readRule t_readRule t_value t_ends t_screw]) → va_S A s.heap H locs → lv_has ls 4 [(0, .ref t_p), (1, .int v1)] → W p l e ({ frames := 0, cells := 0, slots := 0, locals := 0 }) s m ([.ref t_p] : List Value).toArray below meth c H locs 0 0 (MQ below (pQi g (fun r => r = res) (fl [wk6 g t_p t_length t_p_text t_text t_cavities t_p_volume t_volume t_p_freeze t_freeze t_cores t_p_earlier t_earlier t_stages t_p_place t_place t_p_now t_now t_p_was t_was t_changes t_p_one t_one t_readCavities t_p_readCavity t_readCavity t_readCores t_p_readCore t_readCore t_readStages t_p_readStage t_readStage t_p_readRule t_readRule t_value t_ends t_screw]) A) ([.ref t_p] : List Value).toArray s 0 0 A) (F0 m 2 ls [])) → ∀ (v1 : Int32) (v2 : Int32)  (H : Heap) (locs : List Loc) (ls : Array Slot), f6_areCores_54 k_2 N v1 v2 t_readCores t_readCore = some res → va_P g.1 vwCl (fl [wk6 g t_p t_length t_p_text t_text t_cavities t_p_volume t_volume t_p_freeze t_freeze t_cores t_p_earlier t_earlier t_stages t_p_place t_place t_p_now t_now t_p_was t_was t_changes t_p_one t_one t_readCavities t_p_readCavity t_readCavity t_readCores t_p_readCore t_readCore t_readStages t_p_readStage t_readStage t_p_readRule t_readRule t_value t_ends t_screw]) H → va_D A (fl [wk6 g t_p t_length t_p_text t_text t_cavities t_p_volume t_volume t_p_freeze t_freeze t_cores t_p_earlier t_earlier t_stages t_p_place t_place t_p_now t_now t_p_was t_was t_changes t_p_one t_one t_readCavities t_p_readCavity t_readCavity t_readCores t_p_readCore t_readCore t_readStages t_p_readStage t_readStage t_p_readRule t_readRule t_value t_ends t_screw]) → va_S A s.heap H locs → lv_has ls 4 [(0, .ref t_p), (1, .int v1), (2, .int v2)] → W p l e ({ frames := 0, cells := 0, slots := 0, locals := 0 }) s m ([.ref t_p] : List Value).toArray below meth c H locs 0 0 (MQ below (pQi g (fun r => r = res) (fl [wk6 g t_p t_length t_p_text t_text t_cavities t_p_volume t_volume t_p_freeze t_freeze t_cores t_p_earlier t_earlier t_stages t_p_place t_place t_p_now t_now t_p_was t_was t_changes t_p_one t_one t_readCavities t_p_readCavity t_readCavity t_readCores t_p_readCore t_readCore t_readStages t_p_readStage t_readStage t_p_readRule t_readRule t_value t_ends t_screw]) A) ([.ref t_p] : List Value).toArray s 0 0 A) (F0 m 54 ls []) := by
    intro k_2 hk_2 v1 v2 H locs ls hf hP hD hS hl
    rw [f6_areCores_54] at hf
    refine lv_iload_n hx hb dX6_areCores_54 rfl (lv_at hl 2 rfl) ?_
    refine lv_bipush (v := 9) hx hb dX6_areCores_55 (by decide) ?_
    refine lv_icmp_eq (tgt := 62) hx hb dX6_areCores_57 (by decide) (fun c_7 => ?_) (fun c_7 => ?_)
    · replace hf := (if_pos c_7).symm.trans hf
      refine lv_iinc (v := v1 + 1) (lv' := [(1, .int (v1 + 1)), (0, .ref t_p), (2, .int v2)]) hx hb dX6_areCores_62 hl (k := 1) rfl rfl (by decide) rfl (fun ls hl => ?_)
      refine lv_goto (tgt := 2) hx hb dX6_areCores_65 (by decide) ?_
      exact hk_2 (v1 + 1) H locs ls hf hP hD hS (lv_sub hl [1, 0] rfl)
    · replace hf := (if_neg c_7).symm.trans hf
      refine lv_iconst (v := 0) hx hb dX6_areCores_60 (by decide) ?_
      replace hf := Option.some.inj hf
      subst hf
      exact W.zret (v := 0) hx hb hr rfl (fun t ht hW => ⟨⟨_, (), rfl, rfl, by show va_P g.1 vwCl _ t.heap; rw [ht]; exact hP⟩, hS.F ht⟩) hS.2.2 dX6_areCores_61 hlocks
  have w_14 : ∀ (k_2 : Int32 → Int32 → (Nat → Int32) → Option (Int32)), (∀ (v1 : Int32)  (H : Heap) (locs : List Loc) (ls : Array Slot), k_2 v1 t_readCores t_readCore = some res → va_P g.1 vwCl (fl [wk6 g t_p t_length t_p_text t_text t_cavities t_p_volume t_volume t_p_freeze t_freeze t_cores t_p_earlier t_earlier t_stages t_p_place t_place t_p_now t_now t_p_was t_was t_changes t_p_one t_one t_readCavities t_p_readCavity t_readCavity t_readCores t_p_readCore t_readCore t_readStages t_p_readStage t_readStage t_p_readRule t_readRule t_value t_ends t_screw]) H → va_D A (fl [wk6 g t_p t_length t_p_text t_text t_cavities t_p_volume t_volume t_p_freeze t_freeze t_cores t_p_earlier t_earlier t_stages t_p_place t_place t_p_now t_now t_p_was t_was t_changes t_p_one t_one t_readCavities t_p_readCavity t_readCavity t_readCores t_p_readCore t_readCore t_readStages t_p_readStage t_readStage t_p_readRule t_readRule t_value t_ends t_screw]) → va_S A s.heap H locs → lv_has ls 4 [(0, .ref t_p), (1, .int v1)] → W p l e ({ frames := 0, cells := 0, slots := 0, locals := 0 }) s m ([.ref t_p] : List Value).toArray below meth c H locs 0 0 (MQ below (pQi g (fun r => r = res) (fl [wk6 g t_p t_length t_p_text t_text t_cavities t_p_volume t_volume t_p_freeze t_freeze t_cores t_p_earlier t_earlier t_stages t_p_place t_place t_p_now t_now t_p_was t_was t_changes t_p_one t_one t_readCavities t_p_readCavity t_readCavity t_readCores t_p_readCore t_readCore t_readStages t_p_readStage t_readStage t_p_readRule t_readRule t_value t_ends t_screw]) A) ([.ref t_p] : List Value).toArray s 0 0 A) (F0 m 2 ls [])) → ∀ n : Nat, ∀ (v1 : Int32) (v2 : Int32) (v3 : Int32)  (H : Heap) (locs : List Loc) (ls : Array Slot), f6_areCores_14 k_2 N n v1 v2 v3 t_readCores t_readCore = some res → va_P g.1 vwCl (fl [wk6 g t_p t_length t_p_text t_text t_cavities t_p_volume t_volume t_p_freeze t_freeze t_cores t_p_earlier t_earlier t_stages t_p_place t_place t_p_now t_now t_p_was t_was t_changes t_p_one t_one t_readCavities t_p_readCavity t_readCavity t_readCores t_p_readCore t_readCore t_readStages t_p_readStage t_readStage t_p_readRule t_readRule t_value t_ends t_screw]) H → va_D A (fl [wk6 g t_p t_length t_p_text t_text t_cavities t_p_volume t_volume t_p_freeze t_freeze t_cores t_p_earlier t_earlier t_stages t_p_place t_place t_p_now t_now t_p_was t_was t_changes t_p_one t_one t_readCavities t_p_readCavity t_readCavity t_readCores t_p_readCore t_readCore t_readStages t_p_readStage t_readStage t_p_readRule t_readRule t_value t_ends t_screw]) → va_S A s.heap H locs → lv_has ls 4 [(0, .ref t_p), (1, .int v1), (2, .int v2), (3, .int v3)] → W p l e ({ frames := 0, cells := 0, slots := 0, locals := 0 }) s m ([.ref t_p] : List Value).toArray below meth c H locs 0 0 (MQ below (pQi g (fun r => r = res) (fl [wk6 g t_p t_length t_p_text t_text t_cavities t_p_volume t_volume t_p_freeze t_freeze t_cores t_p_earlier t_earlier t_stages t_p_place t_place t_p_now t_now t_p_was t_was t_changes t_p_one t_one t_readCavities t_p_readCavity t_readCavity t_readCores t_p_readCore t_readCore t_readStages t_p_readStage t_readStage t_p_readRule t_readRule t_value t_ends t_screw]) A) ([.ref t_p] : List Value).toArray s 0 0 A) (F0 m 14 ls []) := by
    intro k_2 hk_2 n
    induction n with
    | zero => intro v1 v2 v3 H locs ls hf; exact no_some hf
    | succ n ih =>
      intro v1 v2 v3 H locs ls hf hP hD hS hl
      rw [f6_areCores_14] at hf
      refine lv_iload_n hx hb dX6_areCores_14 rfl (lv_at hl 2 rfl) ?_
      refine lv_bipush (v := 9) hx hb dX6_areCores_15 (by decide) ?_
      refine lv_icmp_eq (tgt := 54) hx hb dX6_areCores_17 (by decide) (fun c_2 => ?_) (fun c_2 => ?_)
      · replace hf := (if_pos c_2).symm.trans hf
        exact w_54 k_2 hk_2 v1 v2 H locs ls hf hP hD hS (lv_sub hl [0, 1, 2] rfl)
      · replace hf := (if_neg c_2).symm.trans hf
        refine lv_iload_n hx hb dX6_areCores_20 rfl (lv_at hl 3 rfl) ?_
        refine lv_iconst (v := 5) hx hb dX6_areCores_21 (by decide) ?_
        refine lv_icmp_ge (tgt := 54) hx hb dX6_areCores_22 (by decide) (fun c_3 => ?_) (fun c_3 => ?_)
        · replace hf := (if_pos c_3).symm.trans hf
          exact w_54 k_2 hk_2 v1 v2 H locs ls hf hP hD hS (lv_sub hl [0, 1, 2] rfl)
        · replace hf := (if_neg c_3).symm.trans hf
          refine lv_aload_n hx hb dX6_areCores_25 rfl (lv_at hl 0 rfl) ?_
          refine va_get (D := g.1) (ci := 6) (v := .ref t_p_readCore) (C := RX6) (T := TX6) (N := 23) hx hb hts hin6 hown hK.1 hP 0 rfl rfl 16 (by decide) L2 (fun _ h9 => h9) rfl dX6_areCores_26 ?_
          refine lv_iload_n hx hb dX6_areCores_29 rfl (lv_at hl 2 rfl) ?_
          obtain ⟨h_4, hf⟩ := if_some hf
          refine va_iald hx hb hK.1 hP 10 0 rfl rfl (ok_in h_4) dX6_areCores_30 ?_
          refine lv_istore_n (lv' := [(2, .int (t_readCore (Int32.toNatClampNeg v2))), (0, .ref t_p), (1, .int v1), (3, .int v3)]) hx hb dX6_areCores_31 rfl hl (by decide) rfl (fun ls hl => ?_)
          refine lv_iload_n hx hb dX6_areCores_32 rfl (lv_at hl 0 rfl) ?_
          refine lv_bipush (v := 9) hx hb dX6_areCores_33 (by decide) ?_
          refine lv_icmp_eq (tgt := 48) hx hb dX6_areCores_35 (by decide) (fun c_5 => ?_) (fun c_5 => ?_)
          · replace hf := (if_pos c_5).symm.trans hf
            refine lv_iinc (v := v3 + 1) (lv' := [(3, .int (v3 + 1)), (2, .int (t_readCore (Int32.toNatClampNeg v2))), (0, .ref t_p), (1, .int v1)]) hx hb dX6_areCores_48 hl (k := 3) rfl rfl (by decide) rfl (fun ls hl => ?_)
            refine lv_goto (tgt := 14) hx hb dX6_areCores_51 (by decide) ?_
            exact ih v1 (t_readCore (Int32.toNatClampNeg v2)) (v3 + 1) H locs ls hf hP hD hS (lv_sub hl [2, 3, 1, 0] rfl)
          · replace hf := (if_neg c_5).symm.trans hf
            refine lv_iload_n hx hb dX6_areCores_38 rfl (lv_at hl 0 rfl) ?_
            refine lv_aload_n hx hb dX6_areCores_39 rfl (lv_at hl 1 rfl) ?_
            refine va_get (D := g.1) (ci := 6) (v := .int t_readCores) (C := RX6) (T := TX6) (N := 23) hx hb hts hin6 hown hK.1 hP 0 rfl rfl 15 (by decide) L1 (fun _ h9 => h9) rfl dX6_areCores_40 ?_
            refine lv_icmp_lt (tgt := 48) hx hb dX6_areCores_43 (by decide) (fun c_6 => ?_) (fun c_6 => ?_)
            · replace hf := (if_pos c_6).symm.trans hf
              refine lv_iinc (v := v3 + 1) (lv' := [(3, .int (v3 + 1)), (2, .int (t_readCore (Int32.toNatClampNeg v2))), (0, .ref t_p), (1, .int v1)]) hx hb dX6_areCores_48 hl (k := 3) rfl rfl (by decide) rfl (fun ls hl => ?_)
              refine lv_goto (tgt := 14) hx hb dX6_areCores_51 (by decide) ?_
              exact ih v1 (t_readCore (Int32.toNatClampNeg v2)) (v3 + 1) H locs ls hf hP hD hS (lv_sub hl [2, 3, 1, 0] rfl)
            · replace hf := (if_neg c_6).symm.trans hf
              refine lv_iconst (v := 0) hx hb dX6_areCores_46 (by decide) ?_
              replace hf := Option.some.inj hf
              subst hf
              exact W.zret (v := 0) hx hb hr rfl (fun t ht hW => ⟨⟨_, (), rfl, rfl, by show va_P g.1 vwCl _ t.heap; rw [ht]; exact hP⟩, hS.F ht⟩) hS.2.2 dX6_areCores_47 hlocks
  have w_2 : ∀ n : Nat, ∀ (v1 : Int32)  (H : Heap) (locs : List Loc) (ls : Array Slot), f6_areCores_2  N n v1 t_readCores t_readCore = some res → va_P g.1 vwCl (fl [wk6 g t_p t_length t_p_text t_text t_cavities t_p_volume t_volume t_p_freeze t_freeze t_cores t_p_earlier t_earlier t_stages t_p_place t_place t_p_now t_now t_p_was t_was t_changes t_p_one t_one t_readCavities t_p_readCavity t_readCavity t_readCores t_p_readCore t_readCore t_readStages t_p_readStage t_readStage t_p_readRule t_readRule t_value t_ends t_screw]) H → va_D A (fl [wk6 g t_p t_length t_p_text t_text t_cavities t_p_volume t_volume t_p_freeze t_freeze t_cores t_p_earlier t_earlier t_stages t_p_place t_place t_p_now t_now t_p_was t_was t_changes t_p_one t_one t_readCavities t_p_readCavity t_readCavity t_readCores t_p_readCore t_readCore t_readStages t_p_readStage t_readStage t_p_readRule t_readRule t_value t_ends t_screw]) → va_S A s.heap H locs → lv_has ls 4 [(0, .ref t_p), (1, .int v1)] → W p l e ({ frames := 0, cells := 0, slots := 0, locals := 0 }) s m ([.ref t_p] : List Value).toArray below meth c H locs 0 0 (MQ below (pQi g (fun r => r = res) (fl [wk6 g t_p t_length t_p_text t_text t_cavities t_p_volume t_volume t_p_freeze t_freeze t_cores t_p_earlier t_earlier t_stages t_p_place t_place t_p_now t_now t_p_was t_was t_changes t_p_one t_one t_readCavities t_p_readCavity t_readCavity t_readCores t_p_readCore t_readCore t_readStages t_p_readStage t_readStage t_p_readRule t_readRule t_value t_ends t_screw]) A) ([.ref t_p] : List Value).toArray s 0 0 A) (F0 m 2 ls []) := by
    intro  n
    induction n with
    | zero => intro v1 H locs ls hf; exact no_some hf
    | succ n ih =>
      intro v1 H locs ls hf hP hD hS hl
      rw [f6_areCores_2] at hf
      refine lv_iload_n hx hb dX6_areCores_2 rfl (lv_at hl 1 rfl) ?_
      refine lv_aload_n hx hb dX6_areCores_3 rfl (lv_at hl 0 rfl) ?_
      refine va_get (D := g.1) (ci := 6) (v := .int t_readCores) (C := RX6) (T := TX6) (N := 23) hx hb hts hin6 hown hK.1 hP 0 rfl rfl 15 (by decide) L1 (fun _ h9 => h9) rfl dX6_areCores_4 ?_
      refine lv_icmp_ge (tgt := 68) hx hb dX6_areCores_7 (by decide) (fun c_1 => ?_) (fun c_1 => ?_)
      · replace hf := (if_pos c_1).symm.trans hf
        refine lv_iconst (v := 1) hx hb dX6_areCores_68 (by decide) ?_
        replace hf := Option.some.inj hf
        subst hf
        exact W.zret (v := 1) hx hb hr rfl (fun t ht hW => ⟨⟨_, (), rfl, rfl, by show va_P g.1 vwCl _ t.heap; rw [ht]; exact hP⟩, hS.F ht⟩) hS.2.2 dX6_areCores_69 hlocks
      · replace hf := (if_neg c_1).symm.trans hf
        refine lv_iload_n hx hb dX6_areCores_10 rfl (lv_at hl 1 rfl) ?_
        refine lv_istore_n (lv' := [(2, .int v1), (0, .ref t_p), (1, .int v1)]) hx hb dX6_areCores_11 rfl hl (by decide) rfl (fun ls hl => ?_)
        refine lv_iconst (v := 0) hx hb dX6_areCores_12 (by decide) ?_
        refine lv_istore_n (lv' := [(3, .int 0), (2, .int v1), (0, .ref t_p), (1, .int v1)]) hx hb dX6_areCores_13 rfl hl (by decide) rfl (fun ls hl => ?_)
        exact w_14 (fun a0 a1 a2 => f6_areCores_2 N n a0 a1 a2) ih N v1 v1 0 H locs ls hf hP hD hS (lv_sub hl [2, 3, 1, 0] rfl)
  have hl := lv_entry ([.ref t_p]) (n := 4) (Nat.le_of_ble_eq_true rfl)
  rw [lg_entry_eq]
  generalize (lg_sl ([.ref t_p]) ++ List.replicate (4 - (lg_sl ([.ref t_p])).length) Slot.unset).toArray = ls at hl ⊢
  replace hl : lv_has ls 4 [(0, .ref t_p)] := hl
  rw [f6_areCores] at hf
  have hgo : ∀ (H : Heap) (locs : List Loc), H = s.heap → locs = [] → va_P g.1 vwCl (fl [wk6 g t_p t_length t_p_text t_text t_cavities t_p_volume t_volume t_p_freeze t_freeze t_cores t_p_earlier t_earlier t_stages t_p_place t_place t_p_now t_now t_p_was t_was t_changes t_p_one t_one t_readCavities t_p_readCavity t_readCavity t_readCores t_p_readCore t_readCore t_readStages t_p_readStage t_readStage t_p_readRule t_readRule t_value t_ends t_screw]) H → va_S A s.heap H locs → W p l e ({ frames := 0, cells := 0, slots := 0, locals := 0 }) s m ([.ref t_p] : List Value).toArray below meth c H locs 0 0 (MQ below (pQi g (fun r => r = res) (fl [wk6 g t_p t_length t_p_text t_text t_cavities t_p_volume t_volume t_p_freeze t_freeze t_cores t_p_earlier t_earlier t_stages t_p_place t_place t_p_now t_now t_p_was t_was t_changes t_p_one t_one t_readCavities t_p_readCavity t_readCavity t_readCores t_p_readCore t_readCore t_readStages t_p_readStage t_readStage t_p_readRule t_readRule t_value t_ends t_screw]) A) ([.ref t_p] : List Value).toArray s 0 0 A) (F0 m 0 ls []) := by
    intro H locs hH hL hP hS
    refine lv_iconst (v := 0) hx hb dX6_areCores_0 (by decide) ?_
    refine lv_istore_n (lv' := [(1, .int 0), (0, .ref t_p)]) hx hb dX6_areCores_1 rfl hl (by decide) rfl (fun ls hl => ?_)
    exact w_2  N 0 H locs ls hf hP hD hS (lv_sub hl [1, 0] rfl)
  exact hgo s.heap [] rfl rfl hP hS

set_option maxHeartbeats 4000000 in
set_option maxRecDepth 100000 in
theorem c6_write (l : Launch) (g : gG) (t_p : Nat) (t_length : Int32) (t_p_text : Nat) (t_text : (Nat → Int32)) (t_cavities : Int32) (t_p_volume : Nat) (t_volume : (Nat → Int32)) (t_p_freeze : Nat) (t_freeze : (Nat → Int32)) (t_cores : Int32) (t_p_earlier : Nat) (t_earlier : (Nat → Int32)) (t_stages : Int32) (t_p_place : Nat) (t_place : (Nat → Int32)) (t_p_now : Nat) (t_now : (Nat → Int32)) (t_p_was : Nat) (t_was : (Nat → Int32)) (t_changes : Int32) (t_p_one : Nat) (t_one : (Nat → Int32)) (t_readCavities : Int32) (t_p_readCavity : Nat) (t_readCavity : (Nat → Int32)) (t_readCores : Int32) (t_p_readCore : Nat) (t_readCore : (Nat → Int32)) (t_readStages : Int32) (t_p_readStage : Nat) (t_readStage : (Nat → Int32)) (t_p_readRule : Nat) (t_readRule : (Nat → Int32)) (t_value : Int32) (t_ends : Int32) (t_screw : Int32) (l1 : Int32) (sz : Nat) (N : Nat) (res : (Int32 × Int32 × (Nat → Int32))) (hf : f6_write N l1 t_length t_text = some res) : Met l yX6_write wsX6_write ({ frames := 0, cells := 0, slots := 0, locals := 0 }) (pP g [.ref t_p, .int l1] sz (fl [wk6 g t_p t_length t_p_text t_text t_cavities t_p_volume t_volume t_p_freeze t_freeze t_cores t_p_earlier t_earlier t_stages t_p_place t_place t_p_now t_now t_p_was t_was t_changes t_p_one t_one t_readCavities t_p_readCavity t_readCavity t_readCores t_p_readCore t_readCore t_readStages t_p_readStage t_readStage t_p_readRule t_readRule t_value t_ends t_screw])) (pQi g (fun r => r = res.1) (fl [wk6 g t_p res.2.1 t_p_text res.2.2 t_cavities t_p_volume t_volume t_p_freeze t_freeze t_cores t_p_earlier t_earlier t_stages t_p_place t_place t_p_now t_now t_p_was t_was t_changes t_p_one t_one t_readCavities t_p_readCavity t_readCavity t_readCores t_p_readCore t_readCore t_readStages t_p_readStage t_readStage t_p_readRule t_readRule t_value t_ends t_screw]) (va_A (fl [wk6 g t_p t_length t_p_text t_text t_cavities t_p_volume t_volume t_p_freeze t_freeze t_cores t_p_earlier t_earlier t_stages t_p_place t_place t_p_now t_now t_p_was t_was t_changes t_p_one t_one t_readCavities t_p_readCavity t_readCavity t_readCores t_p_readCore t_readCore t_readStages t_p_readStage t_readStage t_p_readRule t_readRule t_value t_ends t_screw]) sz)) 0 0 (va_A (fl [wk6 g t_p t_length t_p_text t_text t_cavities t_p_volume t_volume t_p_freeze t_freeze t_cores t_p_earlier t_earlier t_stages t_p_place t_place t_p_now t_now t_p_was t_was t_changes t_p_one t_one t_readCavities t_p_readCavity t_readCavity t_readCores t_p_readCore t_readCore t_readStages t_p_readStage t_readStage t_p_readRule t_readRule t_value t_ends t_screw]) sz) := by
  refine Met.ofW (cc := cX6_write) (maxL := 2) (ret := (some .int)) (by decide) rfl ?_
  intro p e s m args below meth c s₁ B hml hv
  obtain ⟨rfl, hsz, hP, hK, hD0, hG⟩ := hv
  have hx := B.exec
  have hb := B.bytes
  have hr := B.returns
  have hts := atoms_spec (ws := wsX6_write) B.pre
  have hown : s.vm.findClass RX6 = some m.cls := findClass_of_methodNamed B.named
  have hlocks := B.notSynchronized
  subst hsz
  have hD := hD0.self (sz := s.heap.size)
  generalize hAe : va_A (fl [wk6 g t_p t_length t_p_text t_text t_cavities t_p_volume t_volume t_p_freeze t_freeze t_cores t_p_earlier t_earlier t_stages t_p_place t_place t_p_now t_now t_p_was t_was t_changes t_p_one t_one t_readCavities t_p_readCavity t_readCavity t_readCores t_p_readCore t_readCore t_readStages t_p_readStage t_readStage t_p_readRule t_readRule t_value t_ends t_screw]) s.heap.size = A at hD hG ⊢
  have hA : ∀ q : Nat, s.heap.size ≤ q → A q := fun q h => by rw [← hAe]; exact Or.inr h
  have hS : va_S A s.heap s.heap [] := va_S.rf
  have hin6 : ∀ w ∈ u_ws RX6 TX6 23, w ∈ wsX6_write := by decide +kernel
  have L1 := hts (Cond.fieldLink RX6 82 "MouldShotsModel" "length" "I") (by decide +kernel)
  have L2 := hts (Cond.fieldLink RX6 7 "MouldShotsModel" "text" "[I") (by decide +kernel)
  have hl := lv_entry ([.ref t_p, .int l1]) (n := 2) (Nat.le_of_ble_eq_true rfl)
  rw [lg_entry_eq]
  generalize (lg_sl ([.ref t_p, .int l1]) ++ List.replicate (2 - (lg_sl ([.ref t_p, .int l1])).length) Slot.unset).toArray = ls at hl ⊢
  replace hl : lv_has ls 2 [(0, .ref t_p), (1, .int l1)] := hl
  rw [f6_write] at hf
  have hgo : ∀ (H : Heap) (locs : List Loc), H = s.heap → locs = [] → va_P g.1 vwCl (fl [wk6 g t_p t_length t_p_text t_text t_cavities t_p_volume t_volume t_p_freeze t_freeze t_cores t_p_earlier t_earlier t_stages t_p_place t_place t_p_now t_now t_p_was t_was t_changes t_p_one t_one t_readCavities t_p_readCavity t_readCavity t_readCores t_p_readCore t_readCore t_readStages t_p_readStage t_readStage t_p_readRule t_readRule t_value t_ends t_screw]) H → va_S A s.heap H locs → W p l e ({ frames := 0, cells := 0, slots := 0, locals := 0 }) s m ([.ref t_p, .int l1] : List Value).toArray below meth c H locs 0 0 (MQ below (pQi g (fun r => r = res.1) (fl [wk6 g t_p res.2.1 t_p_text res.2.2 t_cavities t_p_volume t_volume t_p_freeze t_freeze t_cores t_p_earlier t_earlier t_stages t_p_place t_place t_p_now t_now t_p_was t_was t_changes t_p_one t_one t_readCavities t_p_readCavity t_readCavity t_readCores t_p_readCore t_readCore t_readStages t_p_readStage t_readStage t_p_readRule t_readRule t_value t_ends t_screw]) A) ([.ref t_p, .int l1] : List Value).toArray s 0 0 A) (F0 m 0 ls []) := by
    intro H locs hH hL hP hS
    refine lv_iload_n hx hb dX6_write_0 rfl (lv_at hl 1 rfl) ?_
    refine lv_bipush (v := 32) hx hb dX6_write_1 (by decide) ?_
    refine lv_icmp_lt (tgt := 12) hx hb dX6_write_3 (by decide) (fun c_1 => ?_) (fun c_1 => ?_)
    · replace hf := (if_pos c_1).symm.trans hf
      refine lv_iconst (v := (-1)) hx hb dX6_write_12 (by decide) ?_
      replace hf := Option.some.inj hf
      subst hf
      exact W.iret (v := (-1)) hx hb hr (fun t ht hW => ⟨⟨_, (), rfl, rfl, by show va_P g.1 vwCl _ t.heap; rw [ht]; exact hP⟩, hS.F ht⟩) hS.2.2 dX6_write_13 hlocks
    · replace hf := (if_neg c_1).symm.trans hf
      refine lv_iload_n hx hb dX6_write_6 rfl (lv_at hl 1 rfl) ?_
      refine lv_bipush (v := 126) hx hb dX6_write_7 (by decide) ?_
      refine lv_icmp_le (tgt := 14) hx hb dX6_write_9 (by decide) (fun c_2 => ?_) (fun c_2 => ?_)
      · replace hf := (if_pos c_2).symm.trans hf
        refine lv_aload_n hx hb dX6_write_14 rfl (lv_at hl 0 rfl) ?_
        refine va_get (D := g.1) (ci := 6) (v := .int t_length) (C := RX6) (T := TX6) (N := 23) hx hb hts hin6 hown hK.1 hP 0 rfl rfl 0 (by decide) L1 (fun _ h9 => h9) rfl dX6_write_15 ?_
        refine lv_sipush (v := 200) hx hb dX6_write_18 (by decide) ?_
        refine lv_icmp_ne (tgt := 27) hx hb dX6_write_21 (by decide) (fun c_3 => ?_) (fun c_3 => ?_)
        · replace hf := (if_neg c_3).symm.trans hf
          refine lv_aload_n hx hb dX6_write_27 rfl (lv_at hl 0 rfl) ?_
          refine va_get (D := g.1) (ci := 6) (v := .ref t_p_text) (C := RX6) (T := TX6) (N := 23) hx hb hts hin6 hown hK.1 hP 0 rfl rfl 1 (by decide) L2 (fun _ h9 => h9) rfl dX6_write_28 ?_
          refine lv_aload_n hx hb dX6_write_31 rfl (lv_at hl 0 rfl) ?_
          refine va_get (D := g.1) (ci := 6) (v := .int t_length) (C := RX6) (T := TX6) (N := 23) hx hb hts hin6 hown hK.1 hP 0 rfl rfl 0 (by decide) L1 (fun _ h9 => h9) rfl dX6_write_32 ?_
          refine lv_iload_n hx hb dX6_write_35 rfl (lv_at hl 1 rfl) ?_
          obtain ⟨h_4, hf⟩ := if_some hf
          refine va_iast hx hb hK.1 hP hD hS 1 0 rfl rfl (ok_in h_4) dX6_write_36 (fun H locs hP hD hS => ?_)
          replace hP : va_P g.1 vwCl (fl [wk6 g t_p t_length t_p_text (upd t_text (Int32.toNatClampNeg t_length) l1) t_cavities t_p_volume t_volume t_p_freeze t_freeze t_cores t_p_earlier t_earlier t_stages t_p_place t_place t_p_now t_now t_p_was t_was t_changes t_p_one t_one t_readCavities t_p_readCavity t_readCavity t_readCores t_p_readCore t_readCore t_readStages t_p_readStage t_readStage t_p_readRule t_readRule t_value t_ends t_screw]) H := hP
          replace hD : va_D A (fl [wk6 g t_p t_length t_p_text (upd t_text (Int32.toNatClampNeg t_length) l1) t_cavities t_p_volume t_volume t_p_freeze t_freeze t_cores t_p_earlier t_earlier t_stages t_p_place t_place t_p_now t_now t_p_was t_was t_changes t_p_one t_one t_readCavities t_p_readCavity t_readCavity t_readCores t_p_readCore t_readCore t_readStages t_p_readStage t_readStage t_p_readRule t_readRule t_value t_ends t_screw]) := hD
          refine lv_aload_n hx hb dX6_write_37 rfl (lv_at hl 0 rfl) ?_
          refine lv_dup hx hb dX6_write_38 rfl ?_
          refine va_get (D := g.1) (ci := 6) (v := .int t_length) (C := RX6) (T := TX6) (N := 23) hx hb hts hin6 hown hK.1 hP 0 rfl rfl 0 (by decide) L1 (fun _ h9 => h9) rfl dX6_write_39 ?_
          refine lv_iconst (v := 1) hx hb dX6_write_42 (by decide) ?_
          refine lv_iadd hx hb dX6_write_43 ?_
          refine va_put (D := g.1) (ci := 6) (v := .int (t_length + 1)) (ty := .int) (C := RX6) (T := TX6) (N := 23) hx hb hts hin6 tyX6 tyX6_ok nmX6 hown hK.1 hP hD hS 0 rfl rfl 0 (by decide) L1 (fun _ h9 => h9) rfl (by decide +kernel) rfl rfl (Nat.le_of_ble_eq_true rfl) dX6_write_44 (fun H locs hP hD hS => ?_)
          replace hP : va_P g.1 vwCl (fl [wk6 g t_p (t_length + 1) t_p_text (upd t_text (Int32.toNatClampNeg t_length) l1) t_cavities t_p_volume t_volume t_p_freeze t_freeze t_cores t_p_earlier t_earlier t_stages t_p_place t_place t_p_now t_now t_p_was t_was t_changes t_p_one t_one t_readCavities t_p_readCavity t_readCavity t_readCores t_p_readCore t_readCore t_readStages t_p_readStage t_readStage t_p_readRule t_readRule t_value t_ends t_screw]) H := hP
          replace hD : va_D A (fl [wk6 g t_p (t_length + 1) t_p_text (upd t_text (Int32.toNatClampNeg t_length) l1) t_cavities t_p_volume t_volume t_p_freeze t_freeze t_cores t_p_earlier t_earlier t_stages t_p_place t_place t_p_now t_now t_p_was t_was t_changes t_p_one t_one t_readCavities t_p_readCavity t_readCavity t_readCores t_p_readCore t_readCore t_readStages t_p_readStage t_readStage t_p_readRule t_readRule t_value t_ends t_screw]) := hD
          refine lv_aload_n hx hb dX6_write_47 rfl (lv_at hl 0 rfl) ?_
          refine va_get (D := g.1) (ci := 6) (v := .int (t_length + 1)) (C := RX6) (T := TX6) (N := 23) hx hb hts hin6 hown hK.1 hP 0 rfl rfl 0 (by decide) L1 (fun _ h9 => h9) rfl dX6_write_48 ?_
          replace hf := Option.some.inj hf
          subst hf
          exact W.iret (v := t_length + 1) hx hb hr (fun t ht hW => ⟨⟨_, (), rfl, rfl, by show va_P g.1 vwCl _ t.heap; rw [ht]; exact hP⟩, hS.F ht⟩) hS.2.2 dX6_write_51 hlocks
        · replace hf := (if_pos c_3).symm.trans hf
          refine lv_bipush (v := (-3)) hx hb dX6_write_24 (by decide) ?_
          replace hf := Option.some.inj hf
          subst hf
          exact W.iret (v := (-3)) hx hb hr (fun t ht hW => ⟨⟨_, (), rfl, rfl, by show va_P g.1 vwCl _ t.heap; rw [ht]; exact hP⟩, hS.F ht⟩) hS.2.2 dX6_write_26 hlocks
      · replace hf := (if_neg c_2).symm.trans hf
        refine lv_iconst (v := (-1)) hx hb dX6_write_12 (by decide) ?_
        replace hf := Option.some.inj hf
        subst hf
        exact W.iret (v := (-1)) hx hb hr (fun t ht hW => ⟨⟨_, (), rfl, rfl, by show va_P g.1 vwCl _ t.heap; rw [ht]; exact hP⟩, hS.F ht⟩) hS.2.2 dX6_write_13 hlocks
  exact hgo s.heap [] rfl rfl hP hS

set_option maxHeartbeats 4000000 in
set_option maxRecDepth 100000 in
theorem c6_wipe (l : Launch) (g : gG) (t_p : Nat) (t_length : Int32) (t_p_text : Nat) (t_text : (Nat → Int32)) (t_cavities : Int32) (t_p_volume : Nat) (t_volume : (Nat → Int32)) (t_p_freeze : Nat) (t_freeze : (Nat → Int32)) (t_cores : Int32) (t_p_earlier : Nat) (t_earlier : (Nat → Int32)) (t_stages : Int32) (t_p_place : Nat) (t_place : (Nat → Int32)) (t_p_now : Nat) (t_now : (Nat → Int32)) (t_p_was : Nat) (t_was : (Nat → Int32)) (t_changes : Int32) (t_p_one : Nat) (t_one : (Nat → Int32)) (t_readCavities : Int32) (t_p_readCavity : Nat) (t_readCavity : (Nat → Int32)) (t_readCores : Int32) (t_p_readCore : Nat) (t_readCore : (Nat → Int32)) (t_readStages : Int32) (t_p_readStage : Nat) (t_readStage : (Nat → Int32)) (t_p_readRule : Nat) (t_readRule : (Nat → Int32)) (t_value : Int32) (t_ends : Int32) (t_screw : Int32) (sz : Nat) (N : Nat) (res : (Int32 × Int32)) (hf : f6_wipe N t_length = some res) : Met l yX6_wipe wsX6_wipe ({ frames := 0, cells := 0, slots := 0, locals := 0 }) (pP g [.ref t_p] sz (fl [wk6 g t_p t_length t_p_text t_text t_cavities t_p_volume t_volume t_p_freeze t_freeze t_cores t_p_earlier t_earlier t_stages t_p_place t_place t_p_now t_now t_p_was t_was t_changes t_p_one t_one t_readCavities t_p_readCavity t_readCavity t_readCores t_p_readCore t_readCore t_readStages t_p_readStage t_readStage t_p_readRule t_readRule t_value t_ends t_screw])) (pQi g (fun r => r = res.1) (fl [wk6 g t_p res.2 t_p_text t_text t_cavities t_p_volume t_volume t_p_freeze t_freeze t_cores t_p_earlier t_earlier t_stages t_p_place t_place t_p_now t_now t_p_was t_was t_changes t_p_one t_one t_readCavities t_p_readCavity t_readCavity t_readCores t_p_readCore t_readCore t_readStages t_p_readStage t_readStage t_p_readRule t_readRule t_value t_ends t_screw]) (va_A (fl [wk6 g t_p t_length t_p_text t_text t_cavities t_p_volume t_volume t_p_freeze t_freeze t_cores t_p_earlier t_earlier t_stages t_p_place t_place t_p_now t_now t_p_was t_was t_changes t_p_one t_one t_readCavities t_p_readCavity t_readCavity t_readCores t_p_readCore t_readCore t_readStages t_p_readStage t_readStage t_p_readRule t_readRule t_value t_ends t_screw]) sz)) 0 0 (va_A (fl [wk6 g t_p t_length t_p_text t_text t_cavities t_p_volume t_volume t_p_freeze t_freeze t_cores t_p_earlier t_earlier t_stages t_p_place t_place t_p_now t_now t_p_was t_was t_changes t_p_one t_one t_readCavities t_p_readCavity t_readCavity t_readCores t_p_readCore t_readCore t_readStages t_p_readStage t_readStage t_p_readRule t_readRule t_value t_ends t_screw]) sz) := by
  refine Met.ofW (cc := cX6_wipe) (maxL := 2) (ret := (some .int)) (by decide) rfl ?_
  intro p e s m args below meth c s₁ B hml hv
  obtain ⟨rfl, hsz, hP, hK, hD0, hG⟩ := hv
  have hx := B.exec
  have hb := B.bytes
  have hr := B.returns
  have hts := atoms_spec (ws := wsX6_wipe) B.pre
  have hown : s.vm.findClass RX6 = some m.cls := findClass_of_methodNamed B.named
  have hlocks := B.notSynchronized
  subst hsz
  have hD := hD0.self (sz := s.heap.size)
  generalize hAe : va_A (fl [wk6 g t_p t_length t_p_text t_text t_cavities t_p_volume t_volume t_p_freeze t_freeze t_cores t_p_earlier t_earlier t_stages t_p_place t_place t_p_now t_now t_p_was t_was t_changes t_p_one t_one t_readCavities t_p_readCavity t_readCavity t_readCores t_p_readCore t_readCore t_readStages t_p_readStage t_readStage t_p_readRule t_readRule t_value t_ends t_screw]) s.heap.size = A at hD hG ⊢
  have hA : ∀ q : Nat, s.heap.size ≤ q → A q := fun q h => by rw [← hAe]; exact Or.inr h
  have hS : va_S A s.heap s.heap [] := va_S.rf
  have hin6 : ∀ w ∈ u_ws RX6 TX6 23, w ∈ wsX6_wipe := by decide +kernel
  have L1 := hts (Cond.fieldLink RX6 82 "MouldShotsModel" "length" "I") (by decide +kernel)
  have hl := lv_entry ([.ref t_p]) (n := 2) (Nat.le_of_ble_eq_true rfl)
  rw [lg_entry_eq]
  generalize (lg_sl ([.ref t_p]) ++ List.replicate (2 - (lg_sl ([.ref t_p])).length) Slot.unset).toArray = ls at hl ⊢
  replace hl : lv_has ls 2 [(0, .ref t_p)] := hl
  rw [f6_wipe] at hf
  have hgo : ∀ (H : Heap) (locs : List Loc), H = s.heap → locs = [] → va_P g.1 vwCl (fl [wk6 g t_p t_length t_p_text t_text t_cavities t_p_volume t_volume t_p_freeze t_freeze t_cores t_p_earlier t_earlier t_stages t_p_place t_place t_p_now t_now t_p_was t_was t_changes t_p_one t_one t_readCavities t_p_readCavity t_readCavity t_readCores t_p_readCore t_readCore t_readStages t_p_readStage t_readStage t_p_readRule t_readRule t_value t_ends t_screw]) H → va_S A s.heap H locs → W p l e ({ frames := 0, cells := 0, slots := 0, locals := 0 }) s m ([.ref t_p] : List Value).toArray below meth c H locs 0 0 (MQ below (pQi g (fun r => r = res.1) (fl [wk6 g t_p res.2 t_p_text t_text t_cavities t_p_volume t_volume t_p_freeze t_freeze t_cores t_p_earlier t_earlier t_stages t_p_place t_place t_p_now t_now t_p_was t_was t_changes t_p_one t_one t_readCavities t_p_readCavity t_readCavity t_readCores t_p_readCore t_readCore t_readStages t_p_readStage t_readStage t_p_readRule t_readRule t_value t_ends t_screw]) A) ([.ref t_p] : List Value).toArray s 0 0 A) (F0 m 0 ls []) := by
    intro H locs hH hL hP hS
    refine lv_aload_n hx hb dX6_wipe_0 rfl (lv_at hl 0 rfl) ?_
    refine va_get (D := g.1) (ci := 6) (v := .int t_length) (C := RX6) (T := TX6) (N := 23) hx hb hts hin6 hown hK.1 hP 0 rfl rfl 0 (by decide) L1 (fun _ h9 => h9) rfl dX6_wipe_1 ?_
    refine lv_istore_n (lv' := [(1, .int t_length), (0, .ref t_p)]) hx hb dX6_wipe_4 rfl hl (by decide) rfl (fun ls hl => ?_)
    refine lv_aload_n hx hb dX6_wipe_5 rfl (lv_at hl 1 rfl) ?_
    refine lv_iconst (v := 0) hx hb dX6_wipe_6 (by decide) ?_
    refine va_put (D := g.1) (ci := 6) (v := .int 0) (ty := .int) (C := RX6) (T := TX6) (N := 23) hx hb hts hin6 tyX6 tyX6_ok nmX6 hown hK.1 hP hD hS 0 rfl rfl 0 (by decide) L1 (fun _ h9 => h9) rfl (by decide +kernel) rfl rfl (Nat.le_of_ble_eq_true rfl) dX6_wipe_7 (fun H locs hP hD hS => ?_)
    replace hP : va_P g.1 vwCl (fl [wk6 g t_p 0 t_p_text t_text t_cavities t_p_volume t_volume t_p_freeze t_freeze t_cores t_p_earlier t_earlier t_stages t_p_place t_place t_p_now t_now t_p_was t_was t_changes t_p_one t_one t_readCavities t_p_readCavity t_readCavity t_readCores t_p_readCore t_readCore t_readStages t_p_readStage t_readStage t_p_readRule t_readRule t_value t_ends t_screw]) H := hP
    replace hD : va_D A (fl [wk6 g t_p 0 t_p_text t_text t_cavities t_p_volume t_volume t_p_freeze t_freeze t_cores t_p_earlier t_earlier t_stages t_p_place t_place t_p_now t_now t_p_was t_was t_changes t_p_one t_one t_readCavities t_p_readCavity t_readCavity t_readCores t_p_readCore t_readCore t_readStages t_p_readStage t_readStage t_p_readRule t_readRule t_value t_ends t_screw]) := hD
    refine lv_iload_n hx hb dX6_wipe_10 rfl (lv_at hl 0 rfl) ?_
    replace hf := Option.some.inj hf
    subst hf
    exact W.iret (v := t_length) hx hb hr (fun t ht hW => ⟨⟨_, (), rfl, rfl, by show va_P g.1 vwCl _ t.heap; rw [ht]; exact hP⟩, hS.F ht⟩) hS.2.2 dX6_wipe_11 hlocks
  exact hgo s.heap [] rfl rfl hP hS

set_option maxHeartbeats 4000000 in
set_option maxRecDepth 100000 in
theorem c6_fault (l : Launch) (g : gG) (t_p : Nat) (t_length : Int32) (t_p_text : Nat) (t_text : (Nat → Int32)) (t_cavities : Int32) (t_p_volume : Nat) (t_volume : (Nat → Int32)) (t_p_freeze : Nat) (t_freeze : (Nat → Int32)) (t_cores : Int32) (t_p_earlier : Nat) (t_earlier : (Nat → Int32)) (t_stages : Int32) (t_p_place : Nat) (t_place : (Nat → Int32)) (t_p_now : Nat) (t_now : (Nat → Int32)) (t_p_was : Nat) (t_was : (Nat → Int32)) (t_changes : Int32) (t_p_one : Nat) (t_one : (Nat → Int32)) (t_readCavities : Int32) (t_p_readCavity : Nat) (t_readCavity : (Nat → Int32)) (t_readCores : Int32) (t_p_readCore : Nat) (t_readCore : (Nat → Int32)) (t_readStages : Int32) (t_p_readStage : Nat) (t_readStage : (Nat → Int32)) (t_p_readRule : Nat) (t_readRule : (Nat → Int32)) (t_value : Int32) (t_ends : Int32) (t_screw : Int32) (sz : Nat) (N : Nat) (res : (Int32 × Int32 × (Nat → Int32) × Int32 × (Nat → Int32) × Int32 × (Nat → Int32) × (Nat → Int32) × Int32 × Int32)) (hf : f6_fault N t_length t_text t_readCavity t_readCore t_readStage t_readRule t_value t_ends = some res) : Met l yX6_fault wsX6_fault ({ frames := 6, cells := 0, slots := 0, locals := 134 }) (pP g [.ref t_p] sz (fl [wk6 g t_p t_length t_p_text t_text t_cavities t_p_volume t_volume t_p_freeze t_freeze t_cores t_p_earlier t_earlier t_stages t_p_place t_place t_p_now t_now t_p_was t_was t_changes t_p_one t_one t_readCavities t_p_readCavity t_readCavity t_readCores t_p_readCore t_readCore t_readStages t_p_readStage t_readStage t_p_readRule t_readRule t_value t_ends t_screw])) (pQi g (fun r => r = res.1) (fl [wk6 g t_p t_length t_p_text t_text t_cavities t_p_volume t_volume t_p_freeze t_freeze t_cores t_p_earlier t_earlier t_stages t_p_place t_place t_p_now t_now t_p_was t_was t_changes t_p_one t_one res.2.1 t_p_readCavity res.2.2.1 res.2.2.2.1 t_p_readCore res.2.2.2.2.1 res.2.2.2.2.2.1 t_p_readStage res.2.2.2.2.2.2.1 t_p_readRule res.2.2.2.2.2.2.2.1 res.2.2.2.2.2.2.2.2.1 res.2.2.2.2.2.2.2.2.2 t_screw]) (va_A (fl [wk6 g t_p t_length t_p_text t_text t_cavities t_p_volume t_volume t_p_freeze t_freeze t_cores t_p_earlier t_earlier t_stages t_p_place t_place t_p_now t_now t_p_was t_was t_changes t_p_one t_one t_readCavities t_p_readCavity t_readCavity t_readCores t_p_readCore t_readCore t_readStages t_p_readStage t_readStage t_p_readRule t_readRule t_value t_ends t_screw]) sz)) 0 0 (va_A (fl [wk6 g t_p t_length t_p_text t_text t_cavities t_p_volume t_volume t_p_freeze t_freeze t_cores t_p_earlier t_earlier t_stages t_p_place t_place t_p_now t_now t_p_was t_was t_changes t_p_one t_one t_readCavities t_p_readCavity t_readCavity t_readCores t_p_readCore t_readCore t_readStages t_p_readStage t_readStage t_p_readRule t_readRule t_value t_ends t_screw]) sz) := by
  refine Met.ofW (cc := cX6_fault) (maxL := 1) (ret := (some .int)) (by decide) rfl ?_
  intro p e s m args below meth c s₁ B hml hv
  obtain ⟨rfl, hsz, hP, hK, hD0, hG⟩ := hv
  have hx := B.exec
  have hb := B.bytes
  have hr := B.returns
  have hts := atoms_spec (ws := wsX6_fault) B.pre
  have hown : s.vm.findClass RX6 = some m.cls := findClass_of_methodNamed B.named
  have hlocks := B.notSynchronized
  subst hsz
  have hD := hD0.self (sz := s.heap.size)
  generalize hAe : va_A (fl [wk6 g t_p t_length t_p_text t_text t_cavities t_p_volume t_volume t_p_freeze t_freeze t_cores t_p_earlier t_earlier t_stages t_p_place t_place t_p_now t_now t_p_was t_was t_changes t_p_one t_one t_readCavities t_p_readCavity t_readCavity t_readCores t_p_readCore t_readCore t_readStages t_p_readStage t_readStage t_p_readRule t_readRule t_value t_ends t_screw]) s.heap.size = A at hD hG ⊢
  have hA : ∀ q : Nat, s.heap.size ≤ q → A q := fun q h => by rw [← hAe]; exact Or.inr h
  have hS : va_S A s.heap s.heap [] := va_S.rf
  have hl := lv_entry ([.ref t_p]) (n := 1) (Nat.le_of_ble_eq_true rfl)
  rw [lg_entry_eq]
  generalize (lg_sl ([.ref t_p]) ++ List.replicate (1 - (lg_sl ([.ref t_p])).length) Slot.unset).toArray = ls at hl ⊢
  replace hl : lv_has ls 1 [(0, .ref t_p)] := hl
  rw [f6_fault] at hf
  have hgo : ∀ (H : Heap) (locs : List Loc), H = s.heap → locs = [] → va_P g.1 vwCl (fl [wk6 g t_p t_length t_p_text t_text t_cavities t_p_volume t_volume t_p_freeze t_freeze t_cores t_p_earlier t_earlier t_stages t_p_place t_place t_p_now t_now t_p_was t_was t_changes t_p_one t_one t_readCavities t_p_readCavity t_readCavity t_readCores t_p_readCore t_readCore t_readStages t_p_readStage t_readStage t_p_readRule t_readRule t_value t_ends t_screw]) H → va_S A s.heap H locs → W p l e ({ frames := 6, cells := 0, slots := 0, locals := 134 }) s m ([.ref t_p] : List Value).toArray below meth c H locs 0 0 (MQ below (pQi g (fun r => r = res.1) (fl [wk6 g t_p t_length t_p_text t_text t_cavities t_p_volume t_volume t_p_freeze t_freeze t_cores t_p_earlier t_earlier t_stages t_p_place t_place t_p_now t_now t_p_was t_was t_changes t_p_one t_one res.2.1 t_p_readCavity res.2.2.1 res.2.2.2.1 t_p_readCore res.2.2.2.2.1 res.2.2.2.2.2.1 t_p_readStage res.2.2.2.2.2.2.1 t_p_readRule res.2.2.2.2.2.2.2.1 res.2.2.2.2.2.2.2.2.1 res.2.2.2.2.2.2.2.2.2 t_screw]) A) ([.ref t_p] : List Value).toArray s 0 0 A) (F0 m 0 ls []) := by
    intro H locs hH hL hP hS
    refine lv_aload_n hx hb dX6_fault_0 rfl (lv_at hl 0 rfl) ?_
    obtain ⟨q_1, hq_1, hf⟩ := bd_some hf
    refine bft_i (bn := [wk6 g t_p t_length t_p_text t_text t_cavities t_p_volume t_volume t_p_freeze t_freeze t_cores t_p_earlier t_earlier t_stages t_p_place t_place t_p_now t_now t_p_was t_was t_changes t_p_one t_one q_1.2.1 t_p_readCavity q_1.2.2.1 q_1.2.2.2.1 t_p_readCore q_1.2.2.2.2.1 q_1.2.2.2.2.2.1 t_p_readStage q_1.2.2.2.2.2.2.1 t_p_readRule q_1.2.2.2.2.2.2.2.1 q_1.2.2.2.2.2.2.2.2.1 q_1.2.2.2.2.2.2.2.2.2 t_screw]) (L := [[t_p, t_p_text, t_p_volume, t_p_freeze, t_p_earlier, t_p_place, t_p_now, t_p_was, t_p_one, t_p_readCavity, t_p_readCore, t_p_readStage, t_p_readRule]]) (va_runV (As := []) (rest := []) ⟨hx, hb, hml, hown, hts⟩ (c6_reads l g t_p t_length t_p_text t_text t_cavities t_p_volume t_volume t_p_freeze t_freeze t_cores t_p_earlier t_earlier t_stages t_p_place t_place t_p_now t_now t_p_was t_was t_changes t_p_one t_one t_readCavities t_p_readCavity t_readCavity t_readCores t_p_readCore t_readCore t_readStages t_p_readStage t_readStage t_p_readRule t_readRule t_value t_ends t_screw H.size N q_1 hq_1) (cwV 0 hts gX6_fault_X6_reads rfl rfl rfl ⟨rfl, nh6.1, nh6.2, pd_12⟩ ⟨Nat.le_of_ble_eq_true rfl, Nat.le_of_ble_eq_true rfl⟩) (qPV hK hG hP hD hS hA [0] (by decide) rfl (va_recv hK.1 hP (ci := 6) (q0 := 0) rfl rfl)) rfl rfl hl.1 rfl (lv_room (Nat.le_of_ble_eq_true rfl)) dX6_fault_1 ⟨Nat.zero_le _, Nat.zero_le _⟩) hP hD hS hA [0] rfl rfl rfl rfl (fun r_2 H locs hw hP hD hS => ?_)
    replace hw := hw.symm
    subst hw
    replace hf := Option.some.inj hf
    subst hf
    exact W.iret (v := q_1.1) hx hb hr (fun t ht hW => ⟨⟨_, (), rfl, rfl, by show va_P g.1 vwCl _ t.heap; rw [ht]; exact hP⟩, hS.F ht⟩) hS.2.2 dX6_fault_4 hlocks
  exact hgo s.heap [] rfl rfl hP hS

set_option maxHeartbeats 4000000 in
set_option maxRecDepth 100000 in
theorem c6_lay (l : Launch) (g : gG) (t_p : Nat) (t_length : Int32) (t_p_text : Nat) (t_text : (Nat → Int32)) (t_cavities : Int32) (t_p_volume : Nat) (t_volume : (Nat → Int32)) (t_p_freeze : Nat) (t_freeze : (Nat → Int32)) (t_cores : Int32) (t_p_earlier : Nat) (t_earlier : (Nat → Int32)) (t_stages : Int32) (t_p_place : Nat) (t_place : (Nat → Int32)) (t_p_now : Nat) (t_now : (Nat → Int32)) (t_p_was : Nat) (t_was : (Nat → Int32)) (t_changes : Int32) (t_p_one : Nat) (t_one : (Nat → Int32)) (t_readCavities : Int32) (t_p_readCavity : Nat) (t_readCavity : (Nat → Int32)) (t_readCores : Int32) (t_p_readCore : Nat) (t_readCore : (Nat → Int32)) (t_readStages : Int32) (t_p_readStage : Nat) (t_readStage : (Nat → Int32)) (t_p_readRule : Nat) (t_readRule : (Nat → Int32)) (t_value : Int32) (t_ends : Int32) (t_screw : Int32) (sz : Nat) (N : Nat) (res : (Int32 × Int32 × (Nat → Int32) × (Nat → Int32) × Int32 × (Nat → Int32) × Int32 × (Nat → Int32) × (Nat → Int32) × Int32 × Int32 × (Nat → Int32) × Int32 × (Nat → Int32) × Int32 × (Nat → Int32) × (Nat → Int32) × Int32 × Int32)) (hf : f6_lay N t_length t_text t_cavities t_volume t_freeze t_cores t_earlier t_stages t_place t_now t_changes t_readCavity t_readCore t_readStage t_readRule t_value t_ends = some res) : Met l yX6_lay wsX6_lay ({ frames := 6, cells := 0, slots := 0, locals := 134 }) (pP g [.ref t_p] sz (fl [wk6 g t_p t_length t_p_text t_text t_cavities t_p_volume t_volume t_p_freeze t_freeze t_cores t_p_earlier t_earlier t_stages t_p_place t_place t_p_now t_now t_p_was t_was t_changes t_p_one t_one t_readCavities t_p_readCavity t_readCavity t_readCores t_p_readCore t_readCore t_readStages t_p_readStage t_readStage t_p_readRule t_readRule t_value t_ends t_screw])) (pQi g (fun r => r = res.1) (fl [wk6 g t_p t_length t_p_text t_text res.2.1 t_p_volume res.2.2.1 t_p_freeze res.2.2.2.1 res.2.2.2.2.1 t_p_earlier res.2.2.2.2.2.1 res.2.2.2.2.2.2.1 t_p_place res.2.2.2.2.2.2.2.1 t_p_now res.2.2.2.2.2.2.2.2.1 t_p_was t_was res.2.2.2.2.2.2.2.2.2.1 t_p_one t_one res.2.2.2.2.2.2.2.2.2.2.1 t_p_readCavity res.2.2.2.2.2.2.2.2.2.2.2.1 res.2.2.2.2.2.2.2.2.2.2.2.2.1 t_p_readCore res.2.2.2.2.2.2.2.2.2.2.2.2.2.1 res.2.2.2.2.2.2.2.2.2.2.2.2.2.2.1 t_p_readStage res.2.2.2.2.2.2.2.2.2.2.2.2.2.2.2.1 t_p_readRule res.2.2.2.2.2.2.2.2.2.2.2.2.2.2.2.2.1 res.2.2.2.2.2.2.2.2.2.2.2.2.2.2.2.2.2.1 res.2.2.2.2.2.2.2.2.2.2.2.2.2.2.2.2.2.2 t_screw]) (va_A (fl [wk6 g t_p t_length t_p_text t_text t_cavities t_p_volume t_volume t_p_freeze t_freeze t_cores t_p_earlier t_earlier t_stages t_p_place t_place t_p_now t_now t_p_was t_was t_changes t_p_one t_one t_readCavities t_p_readCavity t_readCavity t_readCores t_p_readCore t_readCore t_readStages t_p_readStage t_readStage t_p_readRule t_readRule t_value t_ends t_screw]) sz)) 0 0 (va_A (fl [wk6 g t_p t_length t_p_text t_text t_cavities t_p_volume t_volume t_p_freeze t_freeze t_cores t_p_earlier t_earlier t_stages t_p_place t_place t_p_now t_now t_p_was t_was t_changes t_p_one t_one t_readCavities t_p_readCavity t_readCavity t_readCores t_p_readCore t_readCore t_readStages t_p_readStage t_readStage t_p_readRule t_readRule t_value t_ends t_screw]) sz) := by
  refine Met.ofW (cc := cX6_lay) (maxL := 1) (ret := (some .int)) (by decide) rfl ?_
  intro p e s m args below meth c s₁ B hml hv
  obtain ⟨rfl, hsz, hP, hK, hD0, hG⟩ := hv
  have hx := B.exec
  have hb := B.bytes
  have hr := B.returns
  have hts := atoms_spec (ws := wsX6_lay) B.pre
  have hown : s.vm.findClass RX6 = some m.cls := findClass_of_methodNamed B.named
  have hlocks := B.notSynchronized
  subst hsz
  have hD := hD0.self (sz := s.heap.size)
  generalize hAe : va_A (fl [wk6 g t_p t_length t_p_text t_text t_cavities t_p_volume t_volume t_p_freeze t_freeze t_cores t_p_earlier t_earlier t_stages t_p_place t_place t_p_now t_now t_p_was t_was t_changes t_p_one t_one t_readCavities t_p_readCavity t_readCavity t_readCores t_p_readCore t_readCore t_readStages t_p_readStage t_readStage t_p_readRule t_readRule t_value t_ends t_screw]) s.heap.size = A at hD hG ⊢
  have hA : ∀ q : Nat, s.heap.size ≤ q → A q := fun q h => by rw [← hAe]; exact Or.inr h
  have hS : va_S A s.heap s.heap [] := va_S.rf
  have hin6 : ∀ w ∈ u_ws RX6 TX6 23, w ∈ wsX6_lay := by decide +kernel
  have L1 := hts (Cond.fieldLink RX6 64 "MouldShotsModel" "readCavities" "I") (by decide +kernel)
  have L2 := hts (Cond.fieldLink RX6 67 "MouldShotsModel" "readStages" "I") (by decide +kernel)
  have L3 := hts (Cond.fieldLink RX6 70 "MouldShotsModel" "cavities" "I") (by decide +kernel)
  have hl := lv_entry ([.ref t_p]) (n := 1) (Nat.le_of_ble_eq_true rfl)
  rw [lg_entry_eq]
  generalize (lg_sl ([.ref t_p]) ++ List.replicate (1 - (lg_sl ([.ref t_p])).length) Slot.unset).toArray = ls at hl ⊢
  replace hl : lv_has ls 1 [(0, .ref t_p)] := hl
  rw [f6_lay] at hf
  have hgo : ∀ (H : Heap) (locs : List Loc), H = s.heap → locs = [] → va_P g.1 vwCl (fl [wk6 g t_p t_length t_p_text t_text t_cavities t_p_volume t_volume t_p_freeze t_freeze t_cores t_p_earlier t_earlier t_stages t_p_place t_place t_p_now t_now t_p_was t_was t_changes t_p_one t_one t_readCavities t_p_readCavity t_readCavity t_readCores t_p_readCore t_readCore t_readStages t_p_readStage t_readStage t_p_readRule t_readRule t_value t_ends t_screw]) H → va_S A s.heap H locs → W p l e ({ frames := 6, cells := 0, slots := 0, locals := 134 }) s m ([.ref t_p] : List Value).toArray below meth c H locs 0 0 (MQ below (pQi g (fun r => r = res.1) (fl [wk6 g t_p t_length t_p_text t_text res.2.1 t_p_volume res.2.2.1 t_p_freeze res.2.2.2.1 res.2.2.2.2.1 t_p_earlier res.2.2.2.2.2.1 res.2.2.2.2.2.2.1 t_p_place res.2.2.2.2.2.2.2.1 t_p_now res.2.2.2.2.2.2.2.2.1 t_p_was t_was res.2.2.2.2.2.2.2.2.2.1 t_p_one t_one res.2.2.2.2.2.2.2.2.2.2.1 t_p_readCavity res.2.2.2.2.2.2.2.2.2.2.2.1 res.2.2.2.2.2.2.2.2.2.2.2.2.1 t_p_readCore res.2.2.2.2.2.2.2.2.2.2.2.2.2.1 res.2.2.2.2.2.2.2.2.2.2.2.2.2.2.1 t_p_readStage res.2.2.2.2.2.2.2.2.2.2.2.2.2.2.2.1 t_p_readRule res.2.2.2.2.2.2.2.2.2.2.2.2.2.2.2.2.1 res.2.2.2.2.2.2.2.2.2.2.2.2.2.2.2.2.2.1 res.2.2.2.2.2.2.2.2.2.2.2.2.2.2.2.2.2.2 t_screw]) A) ([.ref t_p] : List Value).toArray s 0 0 A) (F0 m 0 ls []) := by
    intro H locs hH hL hP hS
    refine lv_aload_n hx hb dX6_lay_0 rfl (lv_at hl 0 rfl) ?_
    obtain ⟨q_1, hq_1, hf⟩ := bd_some hf
    refine bft_i (bn := [wk6 g t_p t_length t_p_text t_text t_cavities t_p_volume t_volume t_p_freeze t_freeze t_cores t_p_earlier t_earlier t_stages t_p_place t_place t_p_now t_now t_p_was t_was t_changes t_p_one t_one q_1.2.1 t_p_readCavity q_1.2.2.1 q_1.2.2.2.1 t_p_readCore q_1.2.2.2.2.1 q_1.2.2.2.2.2.1 t_p_readStage q_1.2.2.2.2.2.2.1 t_p_readRule q_1.2.2.2.2.2.2.2.1 q_1.2.2.2.2.2.2.2.2.1 q_1.2.2.2.2.2.2.2.2.2 t_screw]) (L := [[t_p, t_p_text, t_p_volume, t_p_freeze, t_p_earlier, t_p_place, t_p_now, t_p_was, t_p_one, t_p_readCavity, t_p_readCore, t_p_readStage, t_p_readRule]]) (va_runV (As := []) (rest := []) ⟨hx, hb, hml, hown, hts⟩ (c6_reads l g t_p t_length t_p_text t_text t_cavities t_p_volume t_volume t_p_freeze t_freeze t_cores t_p_earlier t_earlier t_stages t_p_place t_place t_p_now t_now t_p_was t_was t_changes t_p_one t_one t_readCavities t_p_readCavity t_readCavity t_readCores t_p_readCore t_readCore t_readStages t_p_readStage t_readStage t_p_readRule t_readRule t_value t_ends t_screw H.size N q_1 hq_1) (cwV 0 hts gX6_lay_X6_reads rfl rfl rfl ⟨rfl, nh6.1, nh6.2, pd_12⟩ ⟨Nat.le_of_ble_eq_true rfl, Nat.le_of_ble_eq_true rfl⟩) (qPV hK hG hP hD hS hA [0] (by decide) rfl (va_recv hK.1 hP (ci := 6) (q0 := 0) rfl rfl)) rfl rfl hl.1 rfl (lv_room (Nat.le_of_ble_eq_true rfl)) dX6_lay_1 ⟨Nat.zero_le _, Nat.zero_le _⟩) hP hD hS hA [0] rfl rfl rfl rfl (fun r_2 H locs hw hP hD hS => ?_)
    replace hw := hw.symm
    subst hw
    refine lv_bipush (v := (-4)) hx hb dX6_lay_4 (by decide) ?_
    refine lv_icmp_ne (tgt := 30) hx hb dX6_lay_6 (by decide) (fun c_3 => ?_) (fun c_3 => ?_)
    · replace hf := (if_neg c_3).symm.trans hf
      refine lv_bipush (v := (-2)) hx hb dX6_lay_30 (by decide) ?_
      replace hf := Option.some.inj hf
      subst hf
      exact W.iret (v := (-2)) hx hb hr (fun t ht hW => ⟨⟨_, (), rfl, rfl, by show va_P g.1 vwCl _ t.heap; rw [ht]; exact hP⟩, hS.F ht⟩) hS.2.2 dX6_lay_32 hlocks
    · replace hf := (if_pos c_3).symm.trans hf
      refine lv_aload_n hx hb dX6_lay_9 rfl (lv_at hl 0 rfl) ?_
      refine va_get (D := g.1) (ci := 6) (v := .int q_1.2.1) (C := RX6) (T := TX6) (N := 23) hx hb hts hin6 hown hK.1 hP 0 rfl rfl 13 (by decide) L1 (fun _ h9 => h9) rfl dX6_lay_10 ?_
      refine lv_if_eq (tgt := 30) hx hb dX6_lay_13 (by decide) (fun c_4 => ?_) (fun c_4 => ?_)
      · replace hf := (if_pos c_4).symm.trans hf
        refine lv_bipush (v := (-2)) hx hb dX6_lay_30 (by decide) ?_
        replace hf := Option.some.inj hf
        subst hf
        exact W.iret (v := (-2)) hx hb hr (fun t ht hW => ⟨⟨_, (), rfl, rfl, by show va_P g.1 vwCl _ t.heap; rw [ht]; exact hP⟩, hS.F ht⟩) hS.2.2 dX6_lay_32 hlocks
      · replace hf := (if_neg c_4).symm.trans hf
        refine lv_aload_n hx hb dX6_lay_16 rfl (lv_at hl 0 rfl) ?_
        refine va_get (D := g.1) (ci := 6) (v := .int q_1.2.2.2.2.2.1) (C := RX6) (T := TX6) (N := 23) hx hb hts hin6 hown hK.1 hP 0 rfl rfl 17 (by decide) L2 (fun _ h9 => h9) rfl dX6_lay_17 ?_
        refine lv_if_eq (tgt := 30) hx hb dX6_lay_20 (by decide) (fun c_5 => ?_) (fun c_5 => ?_)
        · replace hf := (if_pos c_5).symm.trans hf
          refine lv_bipush (v := (-2)) hx hb dX6_lay_30 (by decide) ?_
          replace hf := Option.some.inj hf
          subst hf
          exact W.iret (v := (-2)) hx hb hr (fun t ht hW => ⟨⟨_, (), rfl, rfl, by show va_P g.1 vwCl _ t.heap; rw [ht]; exact hP⟩, hS.F ht⟩) hS.2.2 dX6_lay_32 hlocks
        · replace hf := (if_neg c_5).symm.trans hf
          refine lv_aload_n hx hb dX6_lay_23 rfl (lv_at hl 0 rfl) ?_
          obtain ⟨q_6, hq_6, hf⟩ := bd_some hf
          refine bft_i (bn := [wk6 g t_p t_length t_p_text t_text t_cavities t_p_volume t_volume t_p_freeze t_freeze t_cores t_p_earlier t_earlier t_stages t_p_place t_place t_p_now t_now t_p_was t_was t_changes t_p_one t_one q_1.2.1 t_p_readCavity q_1.2.2.1 q_1.2.2.2.1 t_p_readCore q_1.2.2.2.2.1 q_1.2.2.2.2.2.1 t_p_readStage q_1.2.2.2.2.2.2.1 t_p_readRule q_1.2.2.2.2.2.2.2.1 q_1.2.2.2.2.2.2.2.2.1 q_1.2.2.2.2.2.2.2.2.2 t_screw]) (L := [[t_p, t_p_text, t_p_volume, t_p_freeze, t_p_earlier, t_p_place, t_p_now, t_p_was, t_p_one, t_p_readCavity, t_p_readCore, t_p_readStage, t_p_readRule]]) (va_runV (As := []) (rest := []) ⟨hx, hb, hml, hown, hts⟩ (c6_areCores l g t_p t_length t_p_text t_text t_cavities t_p_volume t_volume t_p_freeze t_freeze t_cores t_p_earlier t_earlier t_stages t_p_place t_place t_p_now t_now t_p_was t_was t_changes t_p_one t_one q_1.2.1 t_p_readCavity q_1.2.2.1 q_1.2.2.2.1 t_p_readCore q_1.2.2.2.2.1 q_1.2.2.2.2.2.1 t_p_readStage q_1.2.2.2.2.2.2.1 t_p_readRule q_1.2.2.2.2.2.2.2.1 q_1.2.2.2.2.2.2.2.2.1 q_1.2.2.2.2.2.2.2.2.2 t_screw H.size N q_6 hq_6) (cwV 0 hts gX6_lay_X6_areCores rfl rfl rfl ⟨rfl, nh6.1, nh6.2, pd_21⟩ ⟨Nat.le_of_ble_eq_true rfl, Nat.le_of_ble_eq_true rfl⟩) (qPV hK hG hP hD hS hA [0] (by decide) rfl (va_recv hK.1 hP (ci := 6) (q0 := 0) rfl rfl)) rfl rfl hl.1 rfl (lv_room (Nat.le_of_ble_eq_true rfl)) dX6_lay_24 ⟨Nat.zero_le _, Nat.zero_le _⟩) hP hD hS hA [0] rfl rfl rfl rfl (fun r_7 H locs hw hP hD hS => ?_)
          replace hw := hw.symm
          subst hw
          refine lv_if_ne (tgt := 33) hx hb dX6_lay_27 (by decide) (fun c_8 => ?_) (fun c_8 => ?_)
          · replace hf := (if_neg c_8).symm.trans hf
            refine lv_aload_n hx hb dX6_lay_33 rfl (lv_at hl 0 rfl) ?_
            obtain ⟨q_9, hq_9, hf⟩ := bd_some hf
            refine bft_v (bn := [wk6 g t_p t_length t_p_text t_text q_9.1 t_p_volume q_9.2.1 t_p_freeze q_9.2.2.1 q_9.2.2.2.1 t_p_earlier q_9.2.2.2.2.1 q_9.2.2.2.2.2.1 t_p_place q_9.2.2.2.2.2.2.1 t_p_now q_9.2.2.2.2.2.2.2.1 t_p_was t_was q_9.2.2.2.2.2.2.2.2 t_p_one t_one q_1.2.1 t_p_readCavity q_1.2.2.1 q_1.2.2.2.1 t_p_readCore q_1.2.2.2.2.1 q_1.2.2.2.2.2.1 t_p_readStage q_1.2.2.2.2.2.2.1 t_p_readRule q_1.2.2.2.2.2.2.2.1 q_1.2.2.2.2.2.2.2.2.1 q_1.2.2.2.2.2.2.2.2.2 t_screw]) (L := [[t_p, t_p_text, t_p_volume, t_p_freeze, t_p_earlier, t_p_place, t_p_now, t_p_was, t_p_one, t_p_readCavity, t_p_readCore, t_p_readStage, t_p_readRule]]) (va_runV (As := []) (rest := []) ⟨hx, hb, hml, hown, hts⟩ (c6_takes l g t_p t_length t_p_text t_text t_cavities t_p_volume t_volume t_p_freeze t_freeze t_cores t_p_earlier t_earlier t_stages t_p_place t_place t_p_now t_now t_p_was t_was t_changes t_p_one t_one q_1.2.1 t_p_readCavity q_1.2.2.1 q_1.2.2.2.1 t_p_readCore q_1.2.2.2.2.1 q_1.2.2.2.2.2.1 t_p_readStage q_1.2.2.2.2.2.2.1 t_p_readRule q_1.2.2.2.2.2.2.2.1 q_1.2.2.2.2.2.2.2.2.1 q_1.2.2.2.2.2.2.2.2.2 t_screw H.size N q_9 hq_9) (cwV 0 hts gX6_lay_X6_takes rfl rfl rfl ⟨rfl, nh6.1, nh6.2, pd_9⟩ ⟨Nat.le_of_ble_eq_true rfl, Nat.le_of_ble_eq_true rfl⟩) (qPV hK hG hP hD hS hA [0] (by decide) rfl (va_recv hK.1 hP (ci := 6) (q0 := 0) rfl rfl)) rfl rfl hl.1 rfl (lv_room (Nat.le_of_ble_eq_true rfl)) dX6_lay_34 ⟨Nat.zero_le _, Nat.zero_le _⟩) hP hD hS hA [0] rfl rfl rfl rfl (fun H locs hP hD hS => ?_)
            refine lv_aload_n hx hb dX6_lay_37 rfl (lv_at hl 0 rfl) ?_
            refine va_get (D := g.1) (ci := 6) (v := .int q_9.1) (C := RX6) (T := TX6) (N := 23) hx hb hts hin6 hown hK.1 hP 0 rfl rfl 2 (by decide) L3 (fun _ h9 => h9) rfl dX6_lay_38 ?_
            replace hf := Option.some.inj hf
            subst hf
            exact W.iret (v := q_9.1) hx hb hr (fun t ht hW => ⟨⟨_, (), rfl, rfl, by show va_P g.1 vwCl _ t.heap; rw [ht]; exact hP⟩, hS.F ht⟩) hS.2.2 dX6_lay_41 hlocks
          · replace hf := (if_pos c_8).symm.trans hf
            refine lv_bipush (v := (-2)) hx hb dX6_lay_30 (by decide) ?_
            replace hf := Option.some.inj hf
            subst hf
            exact W.iret (v := (-2)) hx hb hr (fun t ht hW => ⟨⟨_, (), rfl, rfl, by show va_P g.1 vwCl _ t.heap; rw [ht]; exact hP⟩, hS.F ht⟩) hS.2.2 dX6_lay_32 hlocks
  exact hgo s.heap [] rfl rfl hP hS

set_option maxHeartbeats 4000000 in
set_option maxRecDepth 100000 in
theorem c6_easiest (l : Launch) (g : gG) (t_p : Nat) (t_length : Int32) (t_p_text : Nat) (t_text : (Nat → Int32)) (t_cavities : Int32) (t_p_volume : Nat) (t_volume : (Nat → Int32)) (t_p_freeze : Nat) (t_freeze : (Nat → Int32)) (t_cores : Int32) (t_p_earlier : Nat) (t_earlier : (Nat → Int32)) (t_stages : Int32) (t_p_place : Nat) (t_place : (Nat → Int32)) (t_p_now : Nat) (t_now : (Nat → Int32)) (t_p_was : Nat) (t_was : (Nat → Int32)) (t_changes : Int32) (t_p_one : Nat) (t_one : (Nat → Int32)) (t_readCavities : Int32) (t_p_readCavity : Nat) (t_readCavity : (Nat → Int32)) (t_readCores : Int32) (t_p_readCore : Nat) (t_readCore : (Nat → Int32)) (t_readStages : Int32) (t_p_readStage : Nat) (t_readStage : (Nat → Int32)) (t_p_readRule : Nat) (t_readRule : (Nat → Int32)) (t_value : Int32) (t_ends : Int32) (t_screw : Int32) (sz : Nat) (N : Nat) (res : (Int32)) (hf : f6_easiest N t_cavities t_volume t_now t_one = some res) : Met l yX6_easiest wsX6_easiest ({ frames := 0, cells := 0, slots := 0, locals := 0 }) (pP g [.ref t_p] sz (fl [wk6 g t_p t_length t_p_text t_text t_cavities t_p_volume t_volume t_p_freeze t_freeze t_cores t_p_earlier t_earlier t_stages t_p_place t_place t_p_now t_now t_p_was t_was t_changes t_p_one t_one t_readCavities t_p_readCavity t_readCavity t_readCores t_p_readCore t_readCore t_readStages t_p_readStage t_readStage t_p_readRule t_readRule t_value t_ends t_screw])) (pQi g (fun r => r = res) (fl [wk6 g t_p t_length t_p_text t_text t_cavities t_p_volume t_volume t_p_freeze t_freeze t_cores t_p_earlier t_earlier t_stages t_p_place t_place t_p_now t_now t_p_was t_was t_changes t_p_one t_one t_readCavities t_p_readCavity t_readCavity t_readCores t_p_readCore t_readCore t_readStages t_p_readStage t_readStage t_p_readRule t_readRule t_value t_ends t_screw]) (va_A (fl [wk6 g t_p t_length t_p_text t_text t_cavities t_p_volume t_volume t_p_freeze t_freeze t_cores t_p_earlier t_earlier t_stages t_p_place t_place t_p_now t_now t_p_was t_was t_changes t_p_one t_one t_readCavities t_p_readCavity t_readCavity t_readCores t_p_readCore t_readCore t_readStages t_p_readStage t_readStage t_p_readRule t_readRule t_value t_ends t_screw]) sz)) 0 0 (va_A (fl [wk6 g t_p t_length t_p_text t_text t_cavities t_p_volume t_volume t_p_freeze t_freeze t_cores t_p_earlier t_earlier t_stages t_p_place t_place t_p_now t_now t_p_was t_was t_changes t_p_one t_one t_readCavities t_p_readCavity t_readCavity t_readCores t_p_readCore t_readCore t_readStages t_p_readStage t_readStage t_p_readRule t_readRule t_value t_ends t_screw]) sz) := by
  refine Met.ofW (cc := cX6_easiest) (maxL := 5) (ret := (some .int)) (by decide) rfl ?_
  intro p e s m args below meth c s₁ B hml hv
  obtain ⟨rfl, hsz, hP, hK, hD0, hG⟩ := hv
  have hx := B.exec
  have hb := B.bytes
  have hr := B.returns
  have hts := atoms_spec (ws := wsX6_easiest) B.pre
  have hown : s.vm.findClass RX6 = some m.cls := findClass_of_methodNamed B.named
  have hlocks := B.notSynchronized
  subst hsz
  have hD := hD0.self (sz := s.heap.size)
  generalize hAe : va_A (fl [wk6 g t_p t_length t_p_text t_text t_cavities t_p_volume t_volume t_p_freeze t_freeze t_cores t_p_earlier t_earlier t_stages t_p_place t_place t_p_now t_now t_p_was t_was t_changes t_p_one t_one t_readCavities t_p_readCavity t_readCavity t_readCores t_p_readCore t_readCore t_readStages t_p_readStage t_readStage t_p_readRule t_readRule t_value t_ends t_screw]) s.heap.size = A at hD hG ⊢
  have hA : ∀ q : Nat, s.heap.size ≤ q → A q := fun q h => by rw [← hAe]; exact Or.inr h
  have hS : va_S A s.heap s.heap [] := va_S.rf
  have hin6 : ∀ w ∈ u_ws RX6 TX6 23, w ∈ wsX6_easiest := by decide +kernel
  have L1 := hts (Cond.fieldLink RX6 70 "MouldShotsModel" "cavities" "I") (by decide +kernel)
  have L2 := hts (Cond.fieldLink RX6 31 "MouldShotsModel" "one" "[I") (by decide +kernel)
  have L3 := hts (Cond.fieldLink RX6 13 "MouldShotsModel" "volume" "[I") (by decide +kernel)
  have L4 := hts (Cond.fieldLink RX6 25 "MouldShotsModel" "now" "[I") (by decide +kernel)
  have w_36 : ∀ (k_5 : Int32 → Int32 → Int32 → (Nat → Int32) → (Nat → Int32) → (Nat → Int32) → Option (Int32)), (∀ (v1 : Int32) (v2 : Int32)  (H : Heap) (locs : List Loc) (ls : Array Slot), k_5 v1 v2 t_cavities t_volume t_now t_one = some res → va_P g.1 vwCl (fl [wk6 g t_p t_length t_p_text t_text t_cavities t_p_volume t_volume t_p_freeze t_freeze t_cores t_p_earlier t_earlier t_stages t_p_place t_place t_p_now t_now t_p_was t_was t_changes t_p_one t_one t_readCavities t_p_readCavity t_readCavity t_readCores t_p_readCore t_readCore t_readStages t_p_readStage t_readStage t_p_readRule t_readRule t_value t_ends t_screw]) H → va_D A (fl [wk6 g t_p t_length t_p_text t_text t_cavities t_p_volume t_volume t_p_freeze t_freeze t_cores t_p_earlier t_earlier t_stages t_p_place t_place t_p_now t_now t_p_was t_was t_changes t_p_one t_one t_readCavities t_p_readCavity t_readCavity t_readCores t_p_readCore t_readCore t_readStages t_p_readStage t_readStage t_p_readRule t_readRule t_value t_ends t_screw]) → va_S A s.heap H locs → lv_has ls 5 [(0, .ref t_p), (1, .int v1), (2, .int v2)] → W p l e ({ frames := 0, cells := 0, slots := 0, locals := 0 }) s m ([.ref t_p] : List Value).toArray below meth c H locs 0 0 (MQ below (pQi g (fun r => r = res) (fl [wk6 g t_p t_length t_p_text t_text t_cavities t_p_volume t_volume t_p_freeze t_freeze t_cores t_p_earlier t_earlier t_stages t_p_place t_place t_p_now t_now t_p_was t_was t_changes t_p_one t_one t_readCavities t_p_readCavity t_readCavity t_readCores t_p_readCore t_readCore t_readStages t_p_readStage t_readStage t_p_readRule t_readRule t_value t_ends t_screw]) A) ([.ref t_p] : List Value).toArray s 0 0 A) (F0 m 5 ls [])) → ∀ (v1 : Int32) (v2 : Int32) (s0 : Int32)  (H : Heap) (locs : List Loc) (ls : Array Slot), f6_easiest_36 k_5 N v1 v2 s0 t_cavities t_volume t_now t_one = some res → va_P g.1 vwCl (fl [wk6 g t_p t_length t_p_text t_text t_cavities t_p_volume t_volume t_p_freeze t_freeze t_cores t_p_earlier t_earlier t_stages t_p_place t_place t_p_now t_now t_p_was t_was t_changes t_p_one t_one t_readCavities t_p_readCavity t_readCavity t_readCores t_p_readCore t_readCore t_readStages t_p_readStage t_readStage t_p_readRule t_readRule t_value t_ends t_screw]) H → va_D A (fl [wk6 g t_p t_length t_p_text t_text t_cavities t_p_volume t_volume t_p_freeze t_freeze t_cores t_p_earlier t_earlier t_stages t_p_place t_place t_p_now t_now t_p_was t_was t_changes t_p_one t_one t_readCavities t_p_readCavity t_readCavity t_readCores t_p_readCore t_readCore t_readStages t_p_readStage t_readStage t_p_readRule t_readRule t_value t_ends t_screw]) → va_S A s.heap H locs → lv_has ls 5 [(0, .ref t_p), (1, .int v1), (2, .int v2)] → W p l e ({ frames := 0, cells := 0, slots := 0, locals := 0 }) s m ([.ref t_p] : List Value).toArray below meth c H locs 0 0 (MQ below (pQi g (fun r => r = res) (fl [wk6 g t_p t_length t_p_text t_text t_cavities t_p_volume t_volume t_p_freeze t_freeze t_cores t_p_earlier t_earlier t_stages t_p_place t_place t_p_now t_now t_p_was t_was t_changes t_p_one t_one t_readCavities t_p_readCavity t_readCavity t_readCores t_p_readCore t_readCore t_readStages t_p_readStage t_readStage t_p_readRule t_readRule t_value t_ends t_screw]) A) ([.ref t_p] : List Value).toArray s 0 0 A) (F0 m 36 ls [.int s0]) := by
    intro k_5 hk_5 v1 v2 s0 H locs ls hf hP hD hS hl
    rw [f6_easiest_36] at hf
    refine lv_istore_n (lv' := [(3, .int s0), (0, .ref t_p), (1, .int v1), (2, .int v2)]) hx hb dX6_easiest_36 rfl hl (by decide) rfl (fun ls hl => ?_)
    refine lv_aload_n hx hb dX6_easiest_37 rfl (lv_at hl 1 rfl) ?_
    refine va_get (D := g.1) (ci := 6) (v := .ref t_p_now) (C := RX6) (T := TX6) (N := 23) hx hb hts hin6 hown hK.1 hP 0 rfl rfl 9 (by decide) L4 (fun _ h9 => h9) rfl dX6_easiest_38 ?_
    refine lv_sipush (v := 1139) hx hb dX6_easiest_41 (by decide) ?_
    refine lv_iload_n hx hb dX6_easiest_44 rfl (lv_at hl 3 rfl) ?_
    refine lv_iadd hx hb dX6_easiest_45 ?_
    obtain ⟨h_12, hf⟩ := if_some hf
    refine va_iald hx hb hK.1 hP 6 0 rfl rfl (ok_in h_12) dX6_easiest_46 ?_
    refine lv_aload_n hx hb dX6_easiest_47 rfl (lv_at hl 1 rfl) ?_
    refine va_get (D := g.1) (ci := 6) (v := .ref t_p_one) (C := RX6) (T := TX6) (N := 23) hx hb hts hin6 hown hK.1 hP 0 rfl rfl 12 (by decide) L2 (fun _ h9 => h9) rfl dX6_easiest_48 ?_
    refine lv_bipush (v := 66) hx hb dX6_easiest_51 (by decide) ?_
    refine lv_iload_n hx hb dX6_easiest_53 rfl (lv_at hl 3 rfl) ?_
    refine lv_iadd hx hb dX6_easiest_54 ?_
    obtain ⟨h_13, hf⟩ := if_some hf
    refine va_iald hx hb hK.1 hP 8 0 rfl rfl (ok_in h_13) dX6_easiest_55 ?_
    refine lv_iconst (v := 1) hx hb dX6_easiest_56 (by decide) ?_
    refine lv_iadd hx hb dX6_easiest_57 ?_
    refine lv_imul hx hb dX6_easiest_58 ?_
    refine lv_istore (lv' := [(4, .int ((t_now (Int32.toNatClampNeg (1139 + v2))) * ((t_one (Int32.toNatClampNeg (66 + v2))) + 1))), (3, .int s0), (0, .ref t_p), (1, .int v1), (2, .int v2)]) hx hb dX6_easiest_59 hl (by decide) rfl (fun ls hl => ?_)
    refine lv_iload_n hx hb dX6_easiest_61 rfl (lv_at hl 1 rfl) ?_
    refine lv_if_eq (tgt := 100) hx hb dX6_easiest_62 (by decide) (fun c_14 => ?_) (fun c_14 => ?_)
    · replace hf := (if_pos c_14).symm.trans hf
      refine lv_iload_n hx hb dX6_easiest_100 rfl (lv_at hl 3 rfl) ?_
      refine lv_istore_n (lv' := [(1, .int v1), (4, .int ((t_now (Int32.toNatClampNeg (1139 + v2))) * ((t_one (Int32.toNatClampNeg (66 + v2))) + 1))), (3, .int s0), (0, .ref t_p), (2, .int v2)]) hx hb dX6_easiest_101 rfl hl (by decide) rfl (fun ls hl => ?_)
      refine lv_iinc (v := v2 + 1) (lv' := [(2, .int (v2 + 1)), (1, .int v1), (4, .int ((t_now (Int32.toNatClampNeg (1139 + v2))) * ((t_one (Int32.toNatClampNeg (66 + v2))) + 1))), (3, .int s0), (0, .ref t_p)]) hx hb dX6_easiest_102 hl (k := 4) rfl rfl (by decide) rfl (fun ls hl => ?_)
      refine lv_goto (tgt := 5) hx hb dX6_easiest_105 (by decide) ?_
      exact hk_5 v1 (v2 + 1) H locs ls hf hP hD hS (lv_sub hl [4, 1, 0] rfl)
    · replace hf := (if_neg c_14).symm.trans hf
      refine lv_iload_n hx hb dX6_easiest_65 rfl (lv_at hl 3 rfl) ?_
      refine lv_if_lt (tgt := 96) hx hb dX6_easiest_66 (by decide) (fun c_15 => ?_) (fun c_15 => ?_)
      · replace hf := (if_pos c_15).symm.trans hf
        refine lv_iload_n hx hb dX6_easiest_96 rfl (lv_at hl 4 rfl) ?_
        refine lv_goto (tgt := 101) hx hb dX6_easiest_97 (by decide) ?_
        refine lv_istore_n (lv' := [(1, .int v2), (4, .int ((t_now (Int32.toNatClampNeg (1139 + v2))) * ((t_one (Int32.toNatClampNeg (66 + v2))) + 1))), (3, .int s0), (0, .ref t_p), (2, .int v2)]) hx hb dX6_easiest_101 rfl hl (by decide) rfl (fun ls hl => ?_)
        refine lv_iinc (v := v2 + 1) (lv' := [(2, .int (v2 + 1)), (1, .int v2), (4, .int ((t_now (Int32.toNatClampNeg (1139 + v2))) * ((t_one (Int32.toNatClampNeg (66 + v2))) + 1))), (3, .int s0), (0, .ref t_p)]) hx hb dX6_easiest_102 hl (k := 4) rfl rfl (by decide) rfl (fun ls hl => ?_)
        refine lv_goto (tgt := 5) hx hb dX6_easiest_105 (by decide) ?_
        exact hk_5 v2 (v2 + 1) H locs ls hf hP hD hS (lv_sub hl [4, 1, 0] rfl)
      · replace hf := (if_neg c_15).symm.trans hf
        refine lv_iload hx hb dX6_easiest_69 (lv_at hl 0 rfl) ?_
        refine lv_aload_n hx hb dX6_easiest_71 rfl (lv_at hl 2 rfl) ?_
        refine va_get (D := g.1) (ci := 6) (v := .ref t_p_now) (C := RX6) (T := TX6) (N := 23) hx hb hts hin6 hown hK.1 hP 0 rfl rfl 9 (by decide) L4 (fun _ h9 => h9) rfl dX6_easiest_72 ?_
        refine lv_sipush (v := 1139) hx hb dX6_easiest_75 (by decide) ?_
        refine lv_iload_n hx hb dX6_easiest_78 rfl (lv_at hl 3 rfl) ?_
        refine lv_iadd hx hb dX6_easiest_79 ?_
        obtain ⟨h_16, hf⟩ := if_some hf
        refine va_iald hx hb hK.1 hP 6 0 rfl rfl (ok_in h_16) dX6_easiest_80 ?_
        refine lv_aload_n hx hb dX6_easiest_81 rfl (lv_at hl 2 rfl) ?_
        refine va_get (D := g.1) (ci := 6) (v := .ref t_p_one) (C := RX6) (T := TX6) (N := 23) hx hb hts hin6 hown hK.1 hP 0 rfl rfl 12 (by decide) L2 (fun _ h9 => h9) rfl dX6_easiest_82 ?_
        refine lv_bipush (v := 66) hx hb dX6_easiest_85 (by decide) ?_
        refine lv_iload_n hx hb dX6_easiest_87 rfl (lv_at hl 3 rfl) ?_
        refine lv_iadd hx hb dX6_easiest_88 ?_
        obtain ⟨h_17, hf⟩ := if_some hf
        refine va_iald hx hb hK.1 hP 8 0 rfl rfl (ok_in h_17) dX6_easiest_89 ?_
        refine lv_iconst (v := 1) hx hb dX6_easiest_90 (by decide) ?_
        refine lv_iadd hx hb dX6_easiest_91 ?_
        refine lv_imul hx hb dX6_easiest_92 ?_
        refine lv_icmp_ge (tgt := 100) hx hb dX6_easiest_93 (by decide) (fun c_18 => ?_) (fun c_18 => ?_)
        · replace hf := (if_pos c_18).symm.trans hf
          refine lv_iload_n hx hb dX6_easiest_100 rfl (lv_at hl 3 rfl) ?_
          refine lv_istore_n (lv' := [(1, .int v1), (4, .int ((t_now (Int32.toNatClampNeg (1139 + v2))) * ((t_one (Int32.toNatClampNeg (66 + v2))) + 1))), (3, .int s0), (0, .ref t_p), (2, .int v2)]) hx hb dX6_easiest_101 rfl hl (by decide) rfl (fun ls hl => ?_)
          refine lv_iinc (v := v2 + 1) (lv' := [(2, .int (v2 + 1)), (1, .int v1), (4, .int ((t_now (Int32.toNatClampNeg (1139 + v2))) * ((t_one (Int32.toNatClampNeg (66 + v2))) + 1))), (3, .int s0), (0, .ref t_p)]) hx hb dX6_easiest_102 hl (k := 4) rfl rfl (by decide) rfl (fun ls hl => ?_)
          refine lv_goto (tgt := 5) hx hb dX6_easiest_105 (by decide) ?_
          exact hk_5 v1 (v2 + 1) H locs ls hf hP hD hS (lv_sub hl [4, 1, 0] rfl)
        · replace hf := (if_neg c_18).symm.trans hf
          refine lv_iload_n hx hb dX6_easiest_96 rfl (lv_at hl 4 rfl) ?_
          refine lv_goto (tgt := 101) hx hb dX6_easiest_97 (by decide) ?_
          refine lv_istore_n (lv' := [(1, .int v2), (4, .int ((t_now (Int32.toNatClampNeg (1139 + v2))) * ((t_one (Int32.toNatClampNeg (66 + v2))) + 1))), (3, .int s0), (0, .ref t_p), (2, .int v2)]) hx hb dX6_easiest_101 rfl hl (by decide) rfl (fun ls hl => ?_)
          refine lv_iinc (v := v2 + 1) (lv' := [(2, .int (v2 + 1)), (1, .int v2), (4, .int ((t_now (Int32.toNatClampNeg (1139 + v2))) * ((t_one (Int32.toNatClampNeg (66 + v2))) + 1))), (3, .int s0), (0, .ref t_p)]) hx hb dX6_easiest_102 hl (k := 4) rfl rfl (by decide) rfl (fun ls hl => ?_)
          refine lv_goto (tgt := 5) hx hb dX6_easiest_105 (by decide) ?_
          exact hk_5 v2 (v2 + 1) H locs ls hf hP hD hS (lv_sub hl [4, 1, 0] rfl)
  have w_118 : ∀ n : Nat, ∀ (v1 : Int32) (v2 : Int32)  (H : Heap) (locs : List Loc) (ls : Array Slot), f6_easiest_118  N n v1 v2 t_cavities t_now t_one = some res → va_P g.1 vwCl (fl [wk6 g t_p t_length t_p_text t_text t_cavities t_p_volume t_volume t_p_freeze t_freeze t_cores t_p_earlier t_earlier t_stages t_p_place t_place t_p_now t_now t_p_was t_was t_changes t_p_one t_one t_readCavities t_p_readCavity t_readCavity t_readCores t_p_readCore t_readCore t_readStages t_p_readStage t_readStage t_p_readRule t_readRule t_value t_ends t_screw]) H → va_D A (fl [wk6 g t_p t_length t_p_text t_text t_cavities t_p_volume t_volume t_p_freeze t_freeze t_cores t_p_earlier t_earlier t_stages t_p_place t_place t_p_now t_now t_p_was t_was t_changes t_p_one t_one t_readCavities t_p_readCavity t_readCavity t_readCores t_p_readCore t_readCore t_readStages t_p_readStage t_readStage t_p_readRule t_readRule t_value t_ends t_screw]) → va_S A s.heap H locs → lv_has ls 5 [(0, .ref t_p), (1, .int v1), (2, .int v2)] → W p l e ({ frames := 0, cells := 0, slots := 0, locals := 0 }) s m ([.ref t_p] : List Value).toArray below meth c H locs 0 0 (MQ below (pQi g (fun r => r = res) (fl [wk6 g t_p t_length t_p_text t_text t_cavities t_p_volume t_volume t_p_freeze t_freeze t_cores t_p_earlier t_earlier t_stages t_p_place t_place t_p_now t_now t_p_was t_was t_changes t_p_one t_one t_readCavities t_p_readCavity t_readCavity t_readCores t_p_readCore t_readCore t_readStages t_p_readStage t_readStage t_p_readRule t_readRule t_value t_ends t_screw]) A) ([.ref t_p] : List Value).toArray s 0 0 A) (F0 m 118 ls []) := by
    intro  n
    induction n with
    | zero => intro v1 v2 H locs ls hf; exact no_some hf
    | succ n ih =>
      intro v1 v2 H locs ls hf hP hD hS hl
      rw [f6_easiest_118] at hf
      refine lv_iload_n hx hb dX6_easiest_118 rfl (lv_at hl 2 rfl) ?_
      refine lv_aload_n hx hb dX6_easiest_119 rfl (lv_at hl 0 rfl) ?_
      refine va_get (D := g.1) (ci := 6) (v := .int t_cavities) (C := RX6) (T := TX6) (N := 23) hx hb hts hin6 hown hK.1 hP 0 rfl rfl 2 (by decide) L1 (fun _ h9 => h9) rfl dX6_easiest_120 ?_
      refine lv_icmp_ge (tgt := 181) hx hb dX6_easiest_123 (by decide) (fun c_6 => ?_) (fun c_6 => ?_)
      · replace hf := (if_pos c_6).symm.trans hf
        refine lv_iload_n hx hb dX6_easiest_181 rfl (lv_at hl 1 rfl) ?_
        replace hf := Option.some.inj hf
        subst hf
        exact W.iret (v := v1) hx hb hr (fun t ht hW => ⟨⟨_, (), rfl, rfl, by show va_P g.1 vwCl _ t.heap; rw [ht]; exact hP⟩, hS.F ht⟩) hS.2.2 dX6_easiest_182 hlocks
      · replace hf := (if_neg c_6).symm.trans hf
        refine lv_aload_n hx hb dX6_easiest_126 rfl (lv_at hl 0 rfl) ?_
        refine va_get (D := g.1) (ci := 6) (v := .ref t_p_now) (C := RX6) (T := TX6) (N := 23) hx hb hts hin6 hown hK.1 hP 0 rfl rfl 9 (by decide) L4 (fun _ h9 => h9) rfl dX6_easiest_127 ?_
        refine lv_sipush (v := 1139) hx hb dX6_easiest_130 (by decide) ?_
        refine lv_iload_n hx hb dX6_easiest_133 rfl (lv_at hl 2 rfl) ?_
        refine lv_iadd hx hb dX6_easiest_134 ?_
        obtain ⟨h_7, hf⟩ := if_some hf
        refine va_iald hx hb hK.1 hP 6 0 rfl rfl (ok_in h_7) dX6_easiest_135 ?_
        refine lv_aload_n hx hb dX6_easiest_136 rfl (lv_at hl 0 rfl) ?_
        refine va_get (D := g.1) (ci := 6) (v := .ref t_p_one) (C := RX6) (T := TX6) (N := 23) hx hb hts hin6 hown hK.1 hP 0 rfl rfl 12 (by decide) L2 (fun _ h9 => h9) rfl dX6_easiest_137 ?_
        refine lv_bipush (v := 66) hx hb dX6_easiest_140 (by decide) ?_
        refine lv_iload_n hx hb dX6_easiest_142 rfl (lv_at hl 2 rfl) ?_
        refine lv_iadd hx hb dX6_easiest_143 ?_
        obtain ⟨h_8, hf⟩ := if_some hf
        refine va_iald hx hb hK.1 hP 8 0 rfl rfl (ok_in h_8) dX6_easiest_144 ?_
        refine lv_imul hx hb dX6_easiest_145 ?_
        refine lv_aload_n hx hb dX6_easiest_146 rfl (lv_at hl 0 rfl) ?_
        refine va_get (D := g.1) (ci := 6) (v := .ref t_p_now) (C := RX6) (T := TX6) (N := 23) hx hb hts hin6 hown hK.1 hP 0 rfl rfl 9 (by decide) L4 (fun _ h9 => h9) rfl dX6_easiest_147 ?_
        refine lv_sipush (v := 1139) hx hb dX6_easiest_150 (by decide) ?_
        refine lv_iload_n hx hb dX6_easiest_153 rfl (lv_at hl 1 rfl) ?_
        refine lv_iadd hx hb dX6_easiest_154 ?_
        obtain ⟨h_9, hf⟩ := if_some hf
        refine va_iald hx hb hK.1 hP 6 0 rfl rfl (ok_in h_9) dX6_easiest_155 ?_
        refine lv_aload_n hx hb dX6_easiest_156 rfl (lv_at hl 0 rfl) ?_
        refine va_get (D := g.1) (ci := 6) (v := .ref t_p_one) (C := RX6) (T := TX6) (N := 23) hx hb hts hin6 hown hK.1 hP 0 rfl rfl 12 (by decide) L2 (fun _ h9 => h9) rfl dX6_easiest_157 ?_
        refine lv_bipush (v := 66) hx hb dX6_easiest_160 (by decide) ?_
        refine lv_iload_n hx hb dX6_easiest_162 rfl (lv_at hl 1 rfl) ?_
        refine lv_iadd hx hb dX6_easiest_163 ?_
        obtain ⟨h_10, hf⟩ := if_some hf
        refine va_iald hx hb hK.1 hP 8 0 rfl rfl (ok_in h_10) dX6_easiest_164 ?_
        refine lv_imul hx hb dX6_easiest_165 ?_
        refine lv_icmp_ge (tgt := 173) hx hb dX6_easiest_166 (by decide) (fun c_11 => ?_) (fun c_11 => ?_)
        · replace hf := (if_pos c_11).symm.trans hf
          refine lv_iload_n hx hb dX6_easiest_173 rfl (lv_at hl 1 rfl) ?_
          refine lv_istore_n (lv' := [(1, .int v1), (0, .ref t_p), (2, .int v2)]) hx hb dX6_easiest_174 rfl hl (by decide) rfl (fun ls hl => ?_)
          refine lv_iinc (v := v2 + 1) (lv' := [(2, .int (v2 + 1)), (1, .int v1), (0, .ref t_p)]) hx hb dX6_easiest_175 hl (k := 2) rfl rfl (by decide) rfl (fun ls hl => ?_)
          refine lv_goto (tgt := 118) hx hb dX6_easiest_178 (by decide) ?_
          exact ih v1 (v2 + 1) H locs ls hf hP hD hS (lv_sub hl [2, 1, 0] rfl)
        · replace hf := (if_neg c_11).symm.trans hf
          refine lv_iload_n hx hb dX6_easiest_169 rfl (lv_at hl 2 rfl) ?_
          refine lv_goto (tgt := 174) hx hb dX6_easiest_170 (by decide) ?_
          refine lv_istore_n (lv' := [(1, .int v2), (0, .ref t_p), (2, .int v2)]) hx hb dX6_easiest_174 rfl hl (by decide) rfl (fun ls hl => ?_)
          refine lv_iinc (v := v2 + 1) (lv' := [(2, .int (v2 + 1)), (1, .int v2), (0, .ref t_p)]) hx hb dX6_easiest_175 hl (k := 2) rfl rfl (by decide) rfl (fun ls hl => ?_)
          refine lv_goto (tgt := 118) hx hb dX6_easiest_178 (by decide) ?_
          exact ih v2 (v2 + 1) H locs ls hf hP hD hS (lv_sub hl [2, 1, 0] rfl)
  have w_5 : ∀ n : Nat, ∀ (v1 : Int32) (v2 : Int32)  (H : Heap) (locs : List Loc) (ls : Array Slot), f6_easiest_5  N n v1 v2 t_cavities t_volume t_now t_one = some res → va_P g.1 vwCl (fl [wk6 g t_p t_length t_p_text t_text t_cavities t_p_volume t_volume t_p_freeze t_freeze t_cores t_p_earlier t_earlier t_stages t_p_place t_place t_p_now t_now t_p_was t_was t_changes t_p_one t_one t_readCavities t_p_readCavity t_readCavity t_readCores t_p_readCore t_readCore t_readStages t_p_readStage t_readStage t_p_readRule t_readRule t_value t_ends t_screw]) H → va_D A (fl [wk6 g t_p t_length t_p_text t_text t_cavities t_p_volume t_volume t_p_freeze t_freeze t_cores t_p_earlier t_earlier t_stages t_p_place t_place t_p_now t_now t_p_was t_was t_changes t_p_one t_one t_readCavities t_p_readCavity t_readCavity t_readCores t_p_readCore t_readCore t_readStages t_p_readStage t_readStage t_p_readRule t_readRule t_value t_ends t_screw]) → va_S A s.heap H locs → lv_has ls 5 [(0, .ref t_p), (1, .int v1), (2, .int v2)] → W p l e ({ frames := 0, cells := 0, slots := 0, locals := 0 }) s m ([.ref t_p] : List Value).toArray below meth c H locs 0 0 (MQ below (pQi g (fun r => r = res) (fl [wk6 g t_p t_length t_p_text t_text t_cavities t_p_volume t_volume t_p_freeze t_freeze t_cores t_p_earlier t_earlier t_stages t_p_place t_place t_p_now t_now t_p_was t_was t_changes t_p_one t_one t_readCavities t_p_readCavity t_readCavity t_readCores t_p_readCore t_readCore t_readStages t_p_readStage t_readStage t_p_readRule t_readRule t_value t_ends t_screw]) A) ([.ref t_p] : List Value).toArray s 0 0 A) (F0 m 5 ls []) := by
    intro  n
    induction n with
    | zero => intro v1 v2 H locs ls hf; exact no_some hf
    | succ n ih =>
      intro v1 v2 H locs ls hf hP hD hS hl
      rw [f6_easiest_5] at hf
      refine lv_iload_n hx hb dX6_easiest_5 rfl (lv_at hl 2 rfl) ?_
      refine lv_aload_n hx hb dX6_easiest_6 rfl (lv_at hl 0 rfl) ?_
      refine va_get (D := g.1) (ci := 6) (v := .int t_cavities) (C := RX6) (T := TX6) (N := 23) hx hb hts hin6 hown hK.1 hP 0 rfl rfl 2 (by decide) L1 (fun _ h9 => h9) rfl dX6_easiest_7 ?_
      refine lv_icmp_ge (tgt := 108) hx hb dX6_easiest_10 (by decide) (fun c_1 => ?_) (fun c_1 => ?_)
      · replace hf := (if_pos c_1).symm.trans hf
        refine lv_iload_n hx hb dX6_easiest_108 rfl (lv_at hl 1 rfl) ?_
        refine lv_if_lt (tgt := 114) hx hb dX6_easiest_109 (by decide) (fun c_2 => ?_) (fun c_2 => ?_)
        · replace hf := (if_pos c_2).symm.trans hf
          refine lv_iconst (v := 0) hx hb dX6_easiest_114 (by decide) ?_
          refine lv_istore_n (lv' := [(1, .int 0), (0, .ref t_p), (2, .int v2)]) hx hb dX6_easiest_115 rfl hl (by decide) rfl (fun ls hl => ?_)
          refine lv_iconst (v := 1) hx hb dX6_easiest_116 (by decide) ?_
          refine lv_istore_n (lv' := [(2, .int 1), (1, .int 0), (0, .ref t_p)]) hx hb dX6_easiest_117 rfl hl (by decide) rfl (fun ls hl => ?_)
          exact w_118  N 0 1 H locs ls hf hP hD hS (lv_sub hl [2, 1, 0] rfl)
        · replace hf := (if_neg c_2).symm.trans hf
          refine lv_iload_n hx hb dX6_easiest_112 rfl (lv_at hl 1 rfl) ?_
          replace hf := Option.some.inj hf
          subst hf
          exact W.iret (v := v1) hx hb hr (fun t ht hW => ⟨⟨_, (), rfl, rfl, by show va_P g.1 vwCl _ t.heap; rw [ht]; exact hP⟩, hS.F ht⟩) hS.2.2 dX6_easiest_113 hlocks
      · replace hf := (if_neg c_1).symm.trans hf
        refine lv_aload_n hx hb dX6_easiest_13 rfl (lv_at hl 0 rfl) ?_
        refine va_get (D := g.1) (ci := 6) (v := .ref t_p_one) (C := RX6) (T := TX6) (N := 23) hx hb hts hin6 hown hK.1 hP 0 rfl rfl 12 (by decide) L2 (fun _ h9 => h9) rfl dX6_easiest_14 ?_
        refine lv_bipush (v := 66) hx hb dX6_easiest_17 (by decide) ?_
        refine lv_iload_n hx hb dX6_easiest_19 rfl (lv_at hl 2 rfl) ?_
        refine lv_iadd hx hb dX6_easiest_20 ?_
        obtain ⟨h_3, hf⟩ := if_some hf
        refine va_iald hx hb hK.1 hP 8 0 rfl rfl (ok_in h_3) dX6_easiest_21 ?_
        refine lv_aload_n hx hb dX6_easiest_22 rfl (lv_at hl 0 rfl) ?_
        refine va_get (D := g.1) (ci := 6) (v := .ref t_p_volume) (C := RX6) (T := TX6) (N := 23) hx hb hts hin6 hown hK.1 hP 0 rfl rfl 3 (by decide) L3 (fun _ h9 => h9) rfl dX6_easiest_23 ?_
        refine lv_iload_n hx hb dX6_easiest_26 rfl (lv_at hl 2 rfl) ?_
        obtain ⟨h_4, hf⟩ := if_some hf
        refine va_iald hx hb hK.1 hP 2 0 rfl rfl (ok_in h_4) dX6_easiest_27 ?_
        refine lv_icmp_ge (tgt := 35) hx hb dX6_easiest_28 (by decide) (fun c_5 => ?_) (fun c_5 => ?_)
        · replace hf := (if_pos c_5).symm.trans hf
          refine lv_iconst (v := 0) hx hb dX6_easiest_35 (by decide) ?_
          exact w_36 (fun a0 a1 a2 a3 a4 a5 => f6_easiest_5 N n a0 a1 a2 a3 a4 a5) ih v1 v2 0 H locs ls hf hP hD hS (lv_sub hl [0, 1, 2] rfl)
        · replace hf := (if_neg c_5).symm.trans hf
          refine lv_iconst (v := 1) hx hb dX6_easiest_31 (by decide) ?_
          refine lv_goto (tgt := 36) hx hb dX6_easiest_32 (by decide) ?_
          exact w_36 (fun a0 a1 a2 a3 a4 a5 => f6_easiest_5 N n a0 a1 a2 a3 a4 a5) ih v1 v2 1 H locs ls hf hP hD hS (lv_sub hl [0, 1, 2] rfl)
  have hl := lv_entry ([.ref t_p]) (n := 5) (Nat.le_of_ble_eq_true rfl)
  rw [lg_entry_eq]
  generalize (lg_sl ([.ref t_p]) ++ List.replicate (5 - (lg_sl ([.ref t_p])).length) Slot.unset).toArray = ls at hl ⊢
  replace hl : lv_has ls 5 [(0, .ref t_p)] := hl
  rw [f6_easiest] at hf
  have hgo : ∀ (H : Heap) (locs : List Loc), H = s.heap → locs = [] → va_P g.1 vwCl (fl [wk6 g t_p t_length t_p_text t_text t_cavities t_p_volume t_volume t_p_freeze t_freeze t_cores t_p_earlier t_earlier t_stages t_p_place t_place t_p_now t_now t_p_was t_was t_changes t_p_one t_one t_readCavities t_p_readCavity t_readCavity t_readCores t_p_readCore t_readCore t_readStages t_p_readStage t_readStage t_p_readRule t_readRule t_value t_ends t_screw]) H → va_S A s.heap H locs → W p l e ({ frames := 0, cells := 0, slots := 0, locals := 0 }) s m ([.ref t_p] : List Value).toArray below meth c H locs 0 0 (MQ below (pQi g (fun r => r = res) (fl [wk6 g t_p t_length t_p_text t_text t_cavities t_p_volume t_volume t_p_freeze t_freeze t_cores t_p_earlier t_earlier t_stages t_p_place t_place t_p_now t_now t_p_was t_was t_changes t_p_one t_one t_readCavities t_p_readCavity t_readCavity t_readCores t_p_readCore t_readCore t_readStages t_p_readStage t_readStage t_p_readRule t_readRule t_value t_ends t_screw]) A) ([.ref t_p] : List Value).toArray s 0 0 A) (F0 m 0 ls []) := by
    intro H locs hH hL hP hS
    refine lv_bipush (v := (-4)) hx hb dX6_easiest_0 (by decide) ?_
    refine lv_istore_n (lv' := [(1, .int (-4)), (0, .ref t_p)]) hx hb dX6_easiest_2 rfl hl (by decide) rfl (fun ls hl => ?_)
    refine lv_iconst (v := 0) hx hb dX6_easiest_3 (by decide) ?_
    refine lv_istore_n (lv' := [(2, .int 0), (1, .int (-4)), (0, .ref t_p)]) hx hb dX6_easiest_4 rfl hl (by decide) rfl (fun ls hl => ?_)
    exact w_5  N (-4) 0 H locs ls hf hP hD hS (lv_sub hl [2, 1, 0] rfl)
  exact hgo s.heap [] rfl rfl hP hS

set_option maxHeartbeats 4000000 in
set_option maxRecDepth 100000 in
theorem c6_comes (l : Launch) (g : gG) (t_p : Nat) (t_length : Int32) (t_p_text : Nat) (t_text : (Nat → Int32)) (t_cavities : Int32) (t_p_volume : Nat) (t_volume : (Nat → Int32)) (t_p_freeze : Nat) (t_freeze : (Nat → Int32)) (t_cores : Int32) (t_p_earlier : Nat) (t_earlier : (Nat → Int32)) (t_stages : Int32) (t_p_place : Nat) (t_place : (Nat → Int32)) (t_p_now : Nat) (t_now : (Nat → Int32)) (t_p_was : Nat) (t_was : (Nat → Int32)) (t_changes : Int32) (t_p_one : Nat) (t_one : (Nat → Int32)) (t_readCavities : Int32) (t_p_readCavity : Nat) (t_readCavity : (Nat → Int32)) (t_readCores : Int32) (t_p_readCore : Nat) (t_readCore : (Nat → Int32)) (t_readStages : Int32) (t_p_readStage : Nat) (t_readStage : (Nat → Int32)) (t_p_readRule : Nat) (t_readRule : (Nat → Int32)) (t_value : Int32) (t_ends : Int32) (t_screw : Int32) (l1 : Int32) (l2 : Int32) (sz : Nat) (N : Nat) (res : ((Nat → Int32))) (hf : f6_comes N l1 l2 t_volume t_one = some res) : Met l yX6_comes wsX6_comes ({ frames := 0, cells := 0, slots := 0, locals := 0 }) (pP g [.ref t_p, .int l1, .int l2] sz (fl [wk6 g t_p t_length t_p_text t_text t_cavities t_p_volume t_volume t_p_freeze t_freeze t_cores t_p_earlier t_earlier t_stages t_p_place t_place t_p_now t_now t_p_was t_was t_changes t_p_one t_one t_readCavities t_p_readCavity t_readCavity t_readCores t_p_readCore t_readCore t_readStages t_p_readStage t_readStage t_p_readRule t_readRule t_value t_ends t_screw])) (pQv g (fl [wk6 g t_p t_length t_p_text t_text t_cavities t_p_volume t_volume t_p_freeze t_freeze t_cores t_p_earlier t_earlier t_stages t_p_place t_place t_p_now t_now t_p_was t_was t_changes t_p_one res t_readCavities t_p_readCavity t_readCavity t_readCores t_p_readCore t_readCore t_readStages t_p_readStage t_readStage t_p_readRule t_readRule t_value t_ends t_screw]) (va_A (fl [wk6 g t_p t_length t_p_text t_text t_cavities t_p_volume t_volume t_p_freeze t_freeze t_cores t_p_earlier t_earlier t_stages t_p_place t_place t_p_now t_now t_p_was t_was t_changes t_p_one t_one t_readCavities t_p_readCavity t_readCavity t_readCores t_p_readCore t_readCore t_readStages t_p_readStage t_readStage t_p_readRule t_readRule t_value t_ends t_screw]) sz)) 0 0 (va_A (fl [wk6 g t_p t_length t_p_text t_text t_cavities t_p_volume t_volume t_p_freeze t_freeze t_cores t_p_earlier t_earlier t_stages t_p_place t_place t_p_now t_now t_p_was t_was t_changes t_p_one t_one t_readCavities t_p_readCavity t_readCavity t_readCores t_p_readCore t_readCore t_readStages t_p_readStage t_readStage t_p_readRule t_readRule t_value t_ends t_screw]) sz) := by
  refine Met.ofW (cc := cX6_comes) (maxL := 3) (ret := none) (by decide) rfl ?_
  intro p e s m args below meth c s₁ B hml hv
  obtain ⟨rfl, hsz, hP, hK, hD0, hG⟩ := hv
  have hx := B.exec
  have hb := B.bytes
  have hr := B.returns
  have hts := atoms_spec (ws := wsX6_comes) B.pre
  have hown : s.vm.findClass RX6 = some m.cls := findClass_of_methodNamed B.named
  have hlocks := B.notSynchronized
  subst hsz
  have hD := hD0.self (sz := s.heap.size)
  generalize hAe : va_A (fl [wk6 g t_p t_length t_p_text t_text t_cavities t_p_volume t_volume t_p_freeze t_freeze t_cores t_p_earlier t_earlier t_stages t_p_place t_place t_p_now t_now t_p_was t_was t_changes t_p_one t_one t_readCavities t_p_readCavity t_readCavity t_readCores t_p_readCore t_readCore t_readStages t_p_readStage t_readStage t_p_readRule t_readRule t_value t_ends t_screw]) s.heap.size = A at hD hG ⊢
  have hA : ∀ q : Nat, s.heap.size ≤ q → A q := fun q h => by rw [← hAe]; exact Or.inr h
  have hS : va_S A s.heap s.heap [] := va_S.rf
  have hin6 : ∀ w ∈ u_ws RX6 TX6 23, w ∈ wsX6_comes := by decide +kernel
  have L1 := hts (Cond.fieldLink RX6 31 "MouldShotsModel" "one" "[I") (by decide +kernel)
  have L2 := hts (Cond.fieldLink RX6 13 "MouldShotsModel" "volume" "[I") (by decide +kernel)
  have w_88 : ∀ (s1 : Int32) (s2 : Int32) (t_one : (Nat → Int32)) (H : Heap) (locs : List Loc) (ls : Array Slot), f6_comes_88  N s1 s2 t_one = some res → va_P g.1 vwCl (fl [wk6 g t_p t_length t_p_text t_text t_cavities t_p_volume t_volume t_p_freeze t_freeze t_cores t_p_earlier t_earlier t_stages t_p_place t_place t_p_now t_now t_p_was t_was t_changes t_p_one t_one t_readCavities t_p_readCavity t_readCavity t_readCores t_p_readCore t_readCore t_readStages t_p_readStage t_readStage t_p_readRule t_readRule t_value t_ends t_screw]) H → va_D A (fl [wk6 g t_p t_length t_p_text t_text t_cavities t_p_volume t_volume t_p_freeze t_freeze t_cores t_p_earlier t_earlier t_stages t_p_place t_place t_p_now t_now t_p_was t_was t_changes t_p_one t_one t_readCavities t_p_readCavity t_readCavity t_readCores t_p_readCore t_readCore t_readStages t_p_readStage t_readStage t_p_readRule t_readRule t_value t_ends t_screw]) → va_S A s.heap H locs → lv_has ls 3 [] → W p l e ({ frames := 0, cells := 0, slots := 0, locals := 0 }) s m ([.ref t_p, .int l1, .int l2] : List Value).toArray below meth c H locs 0 0 (MQ below (pQv g (fl [wk6 g t_p t_length t_p_text t_text t_cavities t_p_volume t_volume t_p_freeze t_freeze t_cores t_p_earlier t_earlier t_stages t_p_place t_place t_p_now t_now t_p_was t_was t_changes t_p_one res t_readCavities t_p_readCavity t_readCavity t_readCores t_p_readCore t_readCore t_readStages t_p_readStage t_readStage t_p_readRule t_readRule t_value t_ends t_screw]) A) ([.ref t_p, .int l1, .int l2] : List Value).toArray s 0 0 A) (F0 m 88 ls [.int s2, .int s1, .ref t_p_one]) := by
    intro  s1 s2 t_one H locs ls hf hP hD hS hl
    rw [f6_comes_88] at hf
    obtain ⟨h_11, hf⟩ := if_some hf
    refine va_iast hx hb hK.1 hP hD hS 8 0 rfl rfl (ok_in h_11) dX6_comes_88 (fun H locs hP hD hS => ?_)
    replace hP : va_P g.1 vwCl (fl [wk6 g t_p t_length t_p_text t_text t_cavities t_p_volume t_volume t_p_freeze t_freeze t_cores t_p_earlier t_earlier t_stages t_p_place t_place t_p_now t_now t_p_was t_was t_changes t_p_one (upd t_one (Int32.toNatClampNeg s1) s2) t_readCavities t_p_readCavity t_readCavity t_readCores t_p_readCore t_readCore t_readStages t_p_readStage t_readStage t_p_readRule t_readRule t_value t_ends t_screw]) H := hP
    replace hD : va_D A (fl [wk6 g t_p t_length t_p_text t_text t_cavities t_p_volume t_volume t_p_freeze t_freeze t_cores t_p_earlier t_earlier t_stages t_p_place t_place t_p_now t_now t_p_was t_was t_changes t_p_one (upd t_one (Int32.toNatClampNeg s1) s2) t_readCavities t_p_readCavity t_readCavity t_readCores t_p_readCore t_readCore t_readStages t_p_readStage t_readStage t_p_readRule t_readRule t_value t_ends t_screw]) := hD
    replace hf := Option.some.inj hf
    subst hf
    exact W.vret hx hb hr (fun t ht hW => ⟨⟨(), rfl, trivial, by show va_P g.1 vwCl _ t.heap; rw [ht]; exact hP⟩, hS.F ht⟩) hS.2.2 dX6_comes_89 hlocks
  have w_48 : ∀ (v1 : Int32) (v2 : Int32) (s1 : Int32) (s2 : Int32) (t_one : (Nat → Int32)) (H : Heap) (locs : List Loc) (ls : Array Slot), f6_comes_48  N v1 v2 s1 s2 t_volume t_one = some res → va_P g.1 vwCl (fl [wk6 g t_p t_length t_p_text t_text t_cavities t_p_volume t_volume t_p_freeze t_freeze t_cores t_p_earlier t_earlier t_stages t_p_place t_place t_p_now t_now t_p_was t_was t_changes t_p_one t_one t_readCavities t_p_readCavity t_readCavity t_readCores t_p_readCore t_readCore t_readStages t_p_readStage t_readStage t_p_readRule t_readRule t_value t_ends t_screw]) H → va_D A (fl [wk6 g t_p t_length t_p_text t_text t_cavities t_p_volume t_volume t_p_freeze t_freeze t_cores t_p_earlier t_earlier t_stages t_p_place t_place t_p_now t_now t_p_was t_was t_changes t_p_one t_one t_readCavities t_p_readCavity t_readCavity t_readCores t_p_readCore t_readCore t_readStages t_p_readStage t_readStage t_p_readRule t_readRule t_value t_ends t_screw]) → va_S A s.heap H locs → lv_has ls 3 [(0, .ref t_p), (1, .int v1), (2, .int v2)] → W p l e ({ frames := 0, cells := 0, slots := 0, locals := 0 }) s m ([.ref t_p, .int l1, .int l2] : List Value).toArray below meth c H locs 0 0 (MQ below (pQv g (fl [wk6 g t_p t_length t_p_text t_text t_cavities t_p_volume t_volume t_p_freeze t_freeze t_cores t_p_earlier t_earlier t_stages t_p_place t_place t_p_now t_now t_p_was t_was t_changes t_p_one res t_readCavities t_p_readCavity t_readCavity t_readCores t_p_readCore t_readCore t_readStages t_p_readStage t_readStage t_p_readRule t_readRule t_value t_ends t_screw]) A) ([.ref t_p, .int l1, .int l2] : List Value).toArray s 0 0 A) (F0 m 48 ls [.int s2, .int s1, .ref t_p_one]) := by
    intro  v1 v2 s1 s2 t_one H locs ls hf hP hD hS hl
    rw [f6_comes_48] at hf
    obtain ⟨h_6, hf⟩ := if_some hf
    refine va_iast hx hb hK.1 hP hD hS 8 0 rfl rfl (ok_in h_6) dX6_comes_48 (fun H locs hP hD hS => ?_)
    replace hP : va_P g.1 vwCl (fl [wk6 g t_p t_length t_p_text t_text t_cavities t_p_volume t_volume t_p_freeze t_freeze t_cores t_p_earlier t_earlier t_stages t_p_place t_place t_p_now t_now t_p_was t_was t_changes t_p_one (upd t_one (Int32.toNatClampNeg s1) s2) t_readCavities t_p_readCavity t_readCavity t_readCores t_p_readCore t_readCore t_readStages t_p_readStage t_readStage t_p_readRule t_readRule t_value t_ends t_screw]) H := hP
    replace hD : va_D A (fl [wk6 g t_p t_length t_p_text t_text t_cavities t_p_volume t_volume t_p_freeze t_freeze t_cores t_p_earlier t_earlier t_stages t_p_place t_place t_p_now t_now t_p_was t_was t_changes t_p_one (upd t_one (Int32.toNatClampNeg s1) s2) t_readCavities t_p_readCavity t_readCavity t_readCores t_p_readCore t_readCore t_readStages t_p_readStage t_readStage t_p_readRule t_readRule t_value t_ends t_screw]) := hD
    refine lv_aload_n hx hb dX6_comes_49 rfl (lv_at hl 0 rfl) ?_
    refine va_get (D := g.1) (ci := 6) (v := .ref t_p_one) (C := RX6) (T := TX6) (N := 23) hx hb hts hin6 hown hK.1 hP 0 rfl rfl 12 (by decide) L1 (fun _ h9 => h9) rfl dX6_comes_50 ?_
    refine lv_bipush (v := 72) hx hb dX6_comes_53 (by decide) ?_
    refine lv_iload_n hx hb dX6_comes_55 rfl (lv_at hl 1 rfl) ?_
    refine lv_iadd hx hb dX6_comes_56 ?_
    refine lv_aload_n hx hb dX6_comes_57 rfl (lv_at hl 0 rfl) ?_
    refine va_get (D := g.1) (ci := 6) (v := .ref t_p_one) (C := RX6) (T := TX6) (N := 23) hx hb hts hin6 hown hK.1 hP 0 rfl rfl 12 (by decide) L1 (fun _ h9 => h9) rfl dX6_comes_58 ?_
    refine lv_bipush (v := 66) hx hb dX6_comes_61 (by decide) ?_
    refine lv_iload_n hx hb dX6_comes_63 rfl (lv_at hl 1 rfl) ?_
    refine lv_iadd hx hb dX6_comes_64 ?_
    obtain ⟨h_7, hf⟩ := if_some hf
    refine va_iald hx hb hK.1 hP 8 0 rfl rfl (ok_in h_7) dX6_comes_65 ?_
    refine lv_aload_n hx hb dX6_comes_66 rfl (lv_at hl 0 rfl) ?_
    refine va_get (D := g.1) (ci := 6) (v := .ref t_p_volume) (C := RX6) (T := TX6) (N := 23) hx hb hts hin6 hown hK.1 hP 0 rfl rfl 3 (by decide) L2 (fun _ h9 => h9) rfl dX6_comes_67 ?_
    refine lv_iload_n hx hb dX6_comes_70 rfl (lv_at hl 1 rfl) ?_
    obtain ⟨h_8, hf⟩ := if_some hf
    refine va_iald hx hb hK.1 hP 2 0 rfl rfl (ok_in h_8) dX6_comes_71 ?_
    refine lv_icmp_ne (tgt := 79) hx hb dX6_comes_72 (by decide) (fun c_9 => ?_) (fun c_9 => ?_)
    · replace hf := (if_neg c_9).symm.trans hf
      refine lv_aload_n hx hb dX6_comes_79 rfl (lv_at hl 0 rfl) ?_
      refine va_get (D := g.1) (ci := 6) (v := .ref t_p_one) (C := RX6) (T := TX6) (N := 23) hx hb hts hin6 hown hK.1 hP 0 rfl rfl 12 (by decide) L1 (fun _ h9 => h9) rfl dX6_comes_80 ?_
      refine lv_bipush (v := 72) hx hb dX6_comes_83 (by decide) ?_
      refine lv_iload_n hx hb dX6_comes_85 rfl (lv_at hl 1 rfl) ?_
      refine lv_iadd hx hb dX6_comes_86 ?_
      obtain ⟨h_10, hf⟩ := if_some hf
      refine va_iald hx hb hK.1 hP 8 0 rfl rfl (ok_in h_10) dX6_comes_87 ?_
      exact w_88  (72 + v1) ((upd t_one (Int32.toNatClampNeg s1) s2) (Int32.toNatClampNeg (72 + v1))) (upd t_one (Int32.toNatClampNeg s1) s2) H locs ls hf hP hD hS (lv_sub hl [] rfl)
    · replace hf := (if_pos c_9).symm.trans hf
      refine lv_iload_n hx hb dX6_comes_75 rfl (lv_at hl 2 rfl) ?_
      refine lv_goto (tgt := 88) hx hb dX6_comes_76 (by decide) ?_
      exact w_88  (72 + v1) v2 (upd t_one (Int32.toNatClampNeg s1) s2) H locs ls hf hP hD hS (lv_sub hl [] rfl)
  have hl := lv_entry ([.ref t_p, .int l1, .int l2]) (n := 3) (Nat.le_of_ble_eq_true rfl)
  rw [lg_entry_eq]
  generalize (lg_sl ([.ref t_p, .int l1, .int l2]) ++ List.replicate (3 - (lg_sl ([.ref t_p, .int l1, .int l2])).length) Slot.unset).toArray = ls at hl ⊢
  replace hl : lv_has ls 3 [(0, .ref t_p), (1, .int l1), (2, .int l2)] := hl
  rw [f6_comes] at hf
  have hgo : ∀ (H : Heap) (locs : List Loc), H = s.heap → locs = [] → va_P g.1 vwCl (fl [wk6 g t_p t_length t_p_text t_text t_cavities t_p_volume t_volume t_p_freeze t_freeze t_cores t_p_earlier t_earlier t_stages t_p_place t_place t_p_now t_now t_p_was t_was t_changes t_p_one t_one t_readCavities t_p_readCavity t_readCavity t_readCores t_p_readCore t_readCore t_readStages t_p_readStage t_readStage t_p_readRule t_readRule t_value t_ends t_screw]) H → va_S A s.heap H locs → W p l e ({ frames := 0, cells := 0, slots := 0, locals := 0 }) s m ([.ref t_p, .int l1, .int l2] : List Value).toArray below meth c H locs 0 0 (MQ below (pQv g (fl [wk6 g t_p t_length t_p_text t_text t_cavities t_p_volume t_volume t_p_freeze t_freeze t_cores t_p_earlier t_earlier t_stages t_p_place t_place t_p_now t_now t_p_was t_was t_changes t_p_one res t_readCavities t_p_readCavity t_readCavity t_readCores t_p_readCore t_readCore t_readStages t_p_readStage t_readStage t_p_readRule t_readRule t_value t_ends t_screw]) A) ([.ref t_p, .int l1, .int l2] : List Value).toArray s 0 0 A) (F0 m 0 ls []) := by
    intro H locs hH hL hP hS
    refine lv_aload_n hx hb dX6_comes_0 rfl (lv_at hl 0 rfl) ?_
    refine va_get (D := g.1) (ci := 6) (v := .ref t_p_one) (C := RX6) (T := TX6) (N := 23) hx hb hts hin6 hown hK.1 hP 0 rfl rfl 12 (by decide) L1 (fun _ h9 => h9) rfl dX6_comes_1 ?_
    refine lv_bipush (v := 66) hx hb dX6_comes_4 (by decide) ?_
    refine lv_iload_n hx hb dX6_comes_6 rfl (lv_at hl 1 rfl) ?_
    refine lv_iadd hx hb dX6_comes_7 ?_
    refine lv_dup2_11 hx hb dX6_comes_8 rfl rfl ?_
    obtain ⟨h_1, hf⟩ := if_some hf
    refine va_iald hx hb hK.1 hP 8 0 rfl rfl (ok_in h_1) dX6_comes_9 ?_
    refine lv_iconst (v := 1) hx hb dX6_comes_10 (by decide) ?_
    refine lv_iadd hx hb dX6_comes_11 ?_
    obtain ⟨h_2, hf⟩ := if_some hf
    refine va_iast hx hb hK.1 hP hD hS 8 0 rfl rfl (ok_in h_2) dX6_comes_12 (fun H locs hP hD hS => ?_)
    replace hP : va_P g.1 vwCl (fl [wk6 g t_p t_length t_p_text t_text t_cavities t_p_volume t_volume t_p_freeze t_freeze t_cores t_p_earlier t_earlier t_stages t_p_place t_place t_p_now t_now t_p_was t_was t_changes t_p_one (upd t_one (Int32.toNatClampNeg (66 + l1)) ((t_one (Int32.toNatClampNeg (66 + l1))) + 1)) t_readCavities t_p_readCavity t_readCavity t_readCores t_p_readCore t_readCore t_readStages t_p_readStage t_readStage t_p_readRule t_readRule t_value t_ends t_screw]) H := hP
    replace hD : va_D A (fl [wk6 g t_p t_length t_p_text t_text t_cavities t_p_volume t_volume t_p_freeze t_freeze t_cores t_p_earlier t_earlier t_stages t_p_place t_place t_p_now t_now t_p_was t_was t_changes t_p_one (upd t_one (Int32.toNatClampNeg (66 + l1)) ((t_one (Int32.toNatClampNeg (66 + l1))) + 1)) t_readCavities t_p_readCavity t_readCavity t_readCores t_p_readCore t_readCore t_readStages t_p_readStage t_readStage t_p_readRule t_readRule t_value t_ends t_screw]) := hD
    refine lv_aload_n hx hb dX6_comes_13 rfl (lv_at hl 0 rfl) ?_
    refine va_get (D := g.1) (ci := 6) (v := .ref t_p_one) (C := RX6) (T := TX6) (N := 23) hx hb hts hin6 hown hK.1 hP 0 rfl rfl 12 (by decide) L1 (fun _ h9 => h9) rfl dX6_comes_14 ?_
    refine lv_bipush (v := 78) hx hb dX6_comes_17 (by decide) ?_
    refine lv_iload_n hx hb dX6_comes_19 rfl (lv_at hl 1 rfl) ?_
    refine lv_iadd hx hb dX6_comes_20 ?_
    refine lv_aload_n hx hb dX6_comes_21 rfl (lv_at hl 0 rfl) ?_
    refine va_get (D := g.1) (ci := 6) (v := .ref t_p_one) (C := RX6) (T := TX6) (N := 23) hx hb hts hin6 hown hK.1 hP 0 rfl rfl 12 (by decide) L1 (fun _ h9 => h9) rfl dX6_comes_22 ?_
    refine lv_bipush (v := 78) hx hb dX6_comes_25 (by decide) ?_
    refine lv_iload_n hx hb dX6_comes_27 rfl (lv_at hl 1 rfl) ?_
    refine lv_iadd hx hb dX6_comes_28 ?_
    obtain ⟨h_3, hf⟩ := if_some hf
    refine va_iald hx hb hK.1 hP 8 0 rfl rfl (ok_in h_3) dX6_comes_29 ?_
    refine lv_bipush (v := (-4)) hx hb dX6_comes_30 (by decide) ?_
    refine lv_icmp_ne (tgt := 39) hx hb dX6_comes_32 (by decide) (fun c_4 => ?_) (fun c_4 => ?_)
    · replace hf := (if_neg c_4).symm.trans hf
      refine lv_aload_n hx hb dX6_comes_39 rfl (lv_at hl 0 rfl) ?_
      refine va_get (D := g.1) (ci := 6) (v := .ref t_p_one) (C := RX6) (T := TX6) (N := 23) hx hb hts hin6 hown hK.1 hP 0 rfl rfl 12 (by decide) L1 (fun _ h9 => h9) rfl dX6_comes_40 ?_
      refine lv_bipush (v := 78) hx hb dX6_comes_43 (by decide) ?_
      refine lv_iload_n hx hb dX6_comes_45 rfl (lv_at hl 1 rfl) ?_
      refine lv_iadd hx hb dX6_comes_46 ?_
      obtain ⟨h_5, hf⟩ := if_some hf
      refine va_iald hx hb hK.1 hP 8 0 rfl rfl (ok_in h_5) dX6_comes_47 ?_
      exact w_48  l1 l2 (78 + l1) ((upd t_one (Int32.toNatClampNeg (66 + l1)) ((t_one (Int32.toNatClampNeg (66 + l1))) + 1)) (Int32.toNatClampNeg (78 + l1))) (upd t_one (Int32.toNatClampNeg (66 + l1)) ((t_one (Int32.toNatClampNeg (66 + l1))) + 1)) H locs ls hf hP hD hS (lv_sub hl [0, 1, 2] rfl)
    · replace hf := (if_pos c_4).symm.trans hf
      refine lv_iload_n hx hb dX6_comes_35 rfl (lv_at hl 2 rfl) ?_
      refine lv_goto (tgt := 48) hx hb dX6_comes_36 (by decide) ?_
      exact w_48  l1 l2 (78 + l1) l2 (upd t_one (Int32.toNatClampNeg (66 + l1)) ((t_one (Int32.toNatClampNeg (66 + l1))) + 1)) H locs ls hf hP hD hS (lv_sub hl [0, 1, 2] rfl)
  exact hgo s.heap [] rfl rfl hP hS

set_option maxHeartbeats 4000000 in
set_option maxRecDepth 100000 in
theorem c6_speedAt (l : Launch) (g : gG) (t_p : Nat) (t_length : Int32) (t_p_text : Nat) (t_text : (Nat → Int32)) (t_cavities : Int32) (t_p_volume : Nat) (t_volume : (Nat → Int32)) (t_p_freeze : Nat) (t_freeze : (Nat → Int32)) (t_cores : Int32) (t_p_earlier : Nat) (t_earlier : (Nat → Int32)) (t_stages : Int32) (t_p_place : Nat) (t_place : (Nat → Int32)) (t_p_now : Nat) (t_now : (Nat → Int32)) (t_p_was : Nat) (t_was : (Nat → Int32)) (t_changes : Int32) (t_p_one : Nat) (t_one : (Nat → Int32)) (t_readCavities : Int32) (t_p_readCavity : Nat) (t_readCavity : (Nat → Int32)) (t_readCores : Int32) (t_p_readCore : Nat) (t_readCore : (Nat → Int32)) (t_readStages : Int32) (t_p_readStage : Nat) (t_readStage : (Nat → Int32)) (t_p_readRule : Nat) (t_readRule : (Nat → Int32)) (t_value : Int32) (t_ends : Int32) (t_screw : Int32) (l1 : Int32) (sz : Nat) (N : Nat) (res : (Int32)) (hf : f6_speedAt N l1 t_stages t_place t_now t_screw = some res) : Met l yX6_speedAt wsX6_speedAt ({ frames := 0, cells := 0, slots := 0, locals := 0 }) (pP g [.ref t_p, .int l1] sz (fl [wk6 g t_p t_length t_p_text t_text t_cavities t_p_volume t_volume t_p_freeze t_freeze t_cores t_p_earlier t_earlier t_stages t_p_place t_place t_p_now t_now t_p_was t_was t_changes t_p_one t_one t_readCavities t_p_readCavity t_readCavity t_readCores t_p_readCore t_readCore t_readStages t_p_readStage t_readStage t_p_readRule t_readRule t_value t_ends t_screw])) (pQi g (fun r => r = res) (fl [wk6 g t_p t_length t_p_text t_text t_cavities t_p_volume t_volume t_p_freeze t_freeze t_cores t_p_earlier t_earlier t_stages t_p_place t_place t_p_now t_now t_p_was t_was t_changes t_p_one t_one t_readCavities t_p_readCavity t_readCavity t_readCores t_p_readCore t_readCore t_readStages t_p_readStage t_readStage t_p_readRule t_readRule t_value t_ends t_screw]) (va_A (fl [wk6 g t_p t_length t_p_text t_text t_cavities t_p_volume t_volume t_p_freeze t_freeze t_cores t_p_earlier t_earlier t_stages t_p_place t_place t_p_now t_now t_p_was t_was t_changes t_p_one t_one t_readCavities t_p_readCavity t_readCavity t_readCores t_p_readCore t_readCore t_readStages t_p_readStage t_readStage t_p_readRule t_readRule t_value t_ends t_screw]) sz)) 0 0 (va_A (fl [wk6 g t_p t_length t_p_text t_text t_cavities t_p_volume t_volume t_p_freeze t_freeze t_cores t_p_earlier t_earlier t_stages t_p_place t_place t_p_now t_now t_p_was t_was t_changes t_p_one t_one t_readCavities t_p_readCavity t_readCavity t_readCores t_p_readCore t_readCore t_readStages t_p_readStage t_readStage t_p_readRule t_readRule t_value t_ends t_screw]) sz) := by
  refine Met.ofW (cc := cX6_speedAt) (maxL := 4) (ret := (some .int)) (by decide) rfl ?_
  intro p e s m args below meth c s₁ B hml hv
  obtain ⟨rfl, hsz, hP, hK, hD0, hG⟩ := hv
  have hx := B.exec
  have hb := B.bytes
  have hr := B.returns
  have hts := atoms_spec (ws := wsX6_speedAt) B.pre
  have hown : s.vm.findClass RX6 = some m.cls := findClass_of_methodNamed B.named
  have hlocks := B.notSynchronized
  subst hsz
  have hD := hD0.self (sz := s.heap.size)
  generalize hAe : va_A (fl [wk6 g t_p t_length t_p_text t_text t_cavities t_p_volume t_volume t_p_freeze t_freeze t_cores t_p_earlier t_earlier t_stages t_p_place t_place t_p_now t_now t_p_was t_was t_changes t_p_one t_one t_readCavities t_p_readCavity t_readCavity t_readCores t_p_readCore t_readCore t_readStages t_p_readStage t_readStage t_p_readRule t_readRule t_value t_ends t_screw]) s.heap.size = A at hD hG ⊢
  have hA : ∀ q : Nat, s.heap.size ≤ q → A q := fun q h => by rw [← hAe]; exact Or.inr h
  have hS : va_S A s.heap s.heap [] := va_S.rf
  have hin6 : ∀ w ∈ u_ws RX6 TX6 23, w ∈ wsX6_speedAt := by decide +kernel
  have L1 := hts (Cond.fieldLink RX6 76 "MouldShotsModel" "stages" "I") (by decide +kernel)
  have L2 := hts (Cond.fieldLink RX6 22 "MouldShotsModel" "place" "[I") (by decide +kernel)
  have L3 := hts (Cond.fieldLink RX6 136 "MouldShotsModel" "screw" "I") (by decide +kernel)
  have L4 := hts (Cond.fieldLink RX6 25 "MouldShotsModel" "now" "[I") (by decide +kernel)
  have w_33 : ∀ (v1 : Int32) (v2 : Int32)  (H : Heap) (locs : List Loc) (ls : Array Slot), f6_speedAt_33  N v1 v2 t_now = some res → va_P g.1 vwCl (fl [wk6 g t_p t_length t_p_text t_text t_cavities t_p_volume t_volume t_p_freeze t_freeze t_cores t_p_earlier t_earlier t_stages t_p_place t_place t_p_now t_now t_p_was t_was t_changes t_p_one t_one t_readCavities t_p_readCavity t_readCavity t_readCores t_p_readCore t_readCore t_readStages t_p_readStage t_readStage t_p_readRule t_readRule t_value t_ends t_screw]) H → va_D A (fl [wk6 g t_p t_length t_p_text t_text t_cavities t_p_volume t_volume t_p_freeze t_freeze t_cores t_p_earlier t_earlier t_stages t_p_place t_place t_p_now t_now t_p_was t_was t_changes t_p_one t_one t_readCavities t_p_readCavity t_readCavity t_readCores t_p_readCore t_readCore t_readStages t_p_readStage t_readStage t_p_readRule t_readRule t_value t_ends t_screw]) → va_S A s.heap H locs → lv_has ls 4 [(0, .ref t_p), (1, .int v1), (2, .int v2)] → W p l e ({ frames := 0, cells := 0, slots := 0, locals := 0 }) s m ([.ref t_p, .int l1] : List Value).toArray below meth c H locs 0 0 (MQ below (pQi g (fun r => r = res) (fl [wk6 g t_p t_length t_p_text t_text t_cavities t_p_volume t_volume t_p_freeze t_freeze t_cores t_p_earlier t_earlier t_stages t_p_place t_place t_p_now t_now t_p_was t_was t_changes t_p_one t_one t_readCavities t_p_readCavity t_readCavity t_readCores t_p_readCore t_readCore t_readStages t_p_readStage t_readStage t_p_readRule t_readRule t_value t_ends t_screw]) A) ([.ref t_p, .int l1] : List Value).toArray s 0 0 A) (F0 m 33 ls []) := by
    intro  v1 v2 H locs ls hf hP hD hS hl
    rw [f6_speedAt_33] at hf
    refine lv_aload_n hx hb dX6_speedAt_33 rfl (lv_at hl 0 rfl) ?_
    refine va_get (D := g.1) (ci := 6) (v := .ref t_p_now) (C := RX6) (T := TX6) (N := 23) hx hb hts hin6 hown hK.1 hP 0 rfl rfl 9 (by decide) L4 (fun _ h9 => h9) rfl dX6_speedAt_34 ?_
    refine lv_sipush (v := 1145) hx hb dX6_speedAt_37 (by decide) ?_
    refine lv_iload_n hx hb dX6_speedAt_40 rfl (lv_at hl 2 rfl) ?_
    refine lv_iadd hx hb dX6_speedAt_41 ?_
    obtain ⟨h_4, hf⟩ := if_some hf
    refine va_iald hx hb hK.1 hP 6 0 rfl rfl (ok_in h_4) dX6_speedAt_42 ?_
    refine lv_iload_n hx hb dX6_speedAt_43 rfl (lv_at hl 1 rfl) ?_
    refine lv_iadd hx hb dX6_speedAt_44 ?_
    refine lv_istore_n (lv' := [(3, .int ((t_now (Int32.toNatClampNeg (1145 + v2))) + v1)), (0, .ref t_p), (1, .int v1), (2, .int v2)]) hx hb dX6_speedAt_45 rfl hl (by decide) rfl (fun ls hl => ?_)
    refine lv_iload_n hx hb dX6_speedAt_46 rfl (lv_at hl 0 rfl) ?_
    refine lv_iconst (v := 1) hx hb dX6_speedAt_47 (by decide) ?_
    refine lv_icmp_ge (tgt := 55) hx hb dX6_speedAt_48 (by decide) (fun c_5 => ?_) (fun c_5 => ?_)
    · replace hf := (if_pos c_5).symm.trans hf
      refine lv_iload_n hx hb dX6_speedAt_55 rfl (lv_at hl 0 rfl) ?_
      refine lv_bipush (v := 9) hx hb dX6_speedAt_56 (by decide) ?_
      refine lv_icmp_le (tgt := 66) hx hb dX6_speedAt_58 (by decide) (fun c_6 => ?_) (fun c_6 => ?_)
      · replace hf := (if_pos c_6).symm.trans hf
        refine lv_iload_n hx hb dX6_speedAt_66 rfl (lv_at hl 0 rfl) ?_
        replace hf := Option.some.inj hf
        subst hf
        exact W.iret (v := (t_now (Int32.toNatClampNeg (1145 + v2))) + v1) hx hb hr (fun t ht hW => ⟨⟨_, (), rfl, rfl, by show va_P g.1 vwCl _ t.heap; rw [ht]; exact hP⟩, hS.F ht⟩) hS.2.2 dX6_speedAt_67 hlocks
      · replace hf := (if_neg c_6).symm.trans hf
        refine lv_bipush (v := 9) hx hb dX6_speedAt_61 (by decide) ?_
        refine lv_goto (tgt := 67) hx hb dX6_speedAt_63 (by decide) ?_
        replace hf := Option.some.inj hf
        subst hf
        exact W.iret (v := 9) hx hb hr (fun t ht hW => ⟨⟨_, (), rfl, rfl, by show va_P g.1 vwCl _ t.heap; rw [ht]; exact hP⟩, hS.F ht⟩) hS.2.2 dX6_speedAt_67 hlocks
    · replace hf := (if_neg c_5).symm.trans hf
      refine lv_iconst (v := 1) hx hb dX6_speedAt_51 (by decide) ?_
      refine lv_goto (tgt := 67) hx hb dX6_speedAt_52 (by decide) ?_
      replace hf := Option.some.inj hf
      subst hf
      exact W.iret (v := 1) hx hb hr (fun t ht hW => ⟨⟨_, (), rfl, rfl, by show va_P g.1 vwCl _ t.heap; rw [ht]; exact hP⟩, hS.F ht⟩) hS.2.2 dX6_speedAt_67 hlocks
  have w_2 : ∀ n : Nat, ∀ (v1 : Int32) (v2 : Int32)  (H : Heap) (locs : List Loc) (ls : Array Slot), f6_speedAt_2  N n v1 v2 t_stages t_place t_now t_screw = some res → va_P g.1 vwCl (fl [wk6 g t_p t_length t_p_text t_text t_cavities t_p_volume t_volume t_p_freeze t_freeze t_cores t_p_earlier t_earlier t_stages t_p_place t_place t_p_now t_now t_p_was t_was t_changes t_p_one t_one t_readCavities t_p_readCavity t_readCavity t_readCores t_p_readCore t_readCore t_readStages t_p_readStage t_readStage t_p_readRule t_readRule t_value t_ends t_screw]) H → va_D A (fl [wk6 g t_p t_length t_p_text t_text t_cavities t_p_volume t_volume t_p_freeze t_freeze t_cores t_p_earlier t_earlier t_stages t_p_place t_place t_p_now t_now t_p_was t_was t_changes t_p_one t_one t_readCavities t_p_readCavity t_readCavity t_readCores t_p_readCore t_readCore t_readStages t_p_readStage t_readStage t_p_readRule t_readRule t_value t_ends t_screw]) → va_S A s.heap H locs → lv_has ls 4 [(0, .ref t_p), (1, .int v1), (2, .int v2)] → W p l e ({ frames := 0, cells := 0, slots := 0, locals := 0 }) s m ([.ref t_p, .int l1] : List Value).toArray below meth c H locs 0 0 (MQ below (pQi g (fun r => r = res) (fl [wk6 g t_p t_length t_p_text t_text t_cavities t_p_volume t_volume t_p_freeze t_freeze t_cores t_p_earlier t_earlier t_stages t_p_place t_place t_p_now t_now t_p_was t_was t_changes t_p_one t_one t_readCavities t_p_readCavity t_readCavity t_readCores t_p_readCore t_readCore t_readStages t_p_readStage t_readStage t_p_readRule t_readRule t_value t_ends t_screw]) A) ([.ref t_p, .int l1] : List Value).toArray s 0 0 A) (F0 m 2 ls []) := by
    intro  n
    induction n with
    | zero => intro v1 v2 H locs ls hf; exact no_some hf
    | succ n ih =>
      intro v1 v2 H locs ls hf hP hD hS hl
      rw [f6_speedAt_2] at hf
      refine lv_iload_n hx hb dX6_speedAt_2 rfl (lv_at hl 2 rfl) ?_
      refine lv_iconst (v := 1) hx hb dX6_speedAt_3 (by decide) ?_
      refine lv_iadd hx hb dX6_speedAt_4 ?_
      refine lv_aload_n hx hb dX6_speedAt_5 rfl (lv_at hl 0 rfl) ?_
      refine va_get (D := g.1) (ci := 6) (v := .int t_stages) (C := RX6) (T := TX6) (N := 23) hx hb hts hin6 hown hK.1 hP 0 rfl rfl 7 (by decide) L1 (fun _ h9 => h9) rfl dX6_speedAt_6 ?_
      refine lv_icmp_ge (tgt := 33) hx hb dX6_speedAt_9 (by decide) (fun c_1 => ?_) (fun c_1 => ?_)
      · replace hf := (if_pos c_1).symm.trans hf
        exact w_33  v1 v2 H locs ls hf hP hD hS (lv_sub hl [0, 1, 2] rfl)
      · replace hf := (if_neg c_1).symm.trans hf
        refine lv_aload_n hx hb dX6_speedAt_12 rfl (lv_at hl 0 rfl) ?_
        refine va_get (D := g.1) (ci := 6) (v := .ref t_p_place) (C := RX6) (T := TX6) (N := 23) hx hb hts hin6 hown hK.1 hP 0 rfl rfl 8 (by decide) L2 (fun _ h9 => h9) rfl dX6_speedAt_13 ?_
        refine lv_iload_n hx hb dX6_speedAt_16 rfl (lv_at hl 2 rfl) ?_
        refine lv_iconst (v := 1) hx hb dX6_speedAt_17 (by decide) ?_
        refine lv_iadd hx hb dX6_speedAt_18 ?_
        obtain ⟨h_2, hf⟩ := if_some hf
        refine va_iald hx hb hK.1 hP 5 0 rfl rfl (ok_in h_2) dX6_speedAt_19 ?_
        refine lv_aload_n hx hb dX6_speedAt_20 rfl (lv_at hl 0 rfl) ?_
        refine va_get (D := g.1) (ci := 6) (v := .int t_screw) (C := RX6) (T := TX6) (N := 23) hx hb hts hin6 hown hK.1 hP 0 rfl rfl 22 (by decide) L3 (fun _ h9 => h9) rfl dX6_speedAt_21 ?_
        refine lv_icmp_gt (tgt := 33) hx hb dX6_speedAt_24 (by decide) (fun c_3 => ?_) (fun c_3 => ?_)
        · replace hf := (if_pos c_3).symm.trans hf
          exact w_33  v1 v2 H locs ls hf hP hD hS (lv_sub hl [0, 1, 2] rfl)
        · replace hf := (if_neg c_3).symm.trans hf
          refine lv_iinc (v := v2 + 1) (lv' := [(2, .int (v2 + 1)), (0, .ref t_p), (1, .int v1)]) hx hb dX6_speedAt_27 hl (k := 2) rfl rfl (by decide) rfl (fun ls hl => ?_)
          refine lv_goto (tgt := 2) hx hb dX6_speedAt_30 (by decide) ?_
          exact ih v1 (v2 + 1) H locs ls hf hP hD hS (lv_sub hl [1, 2, 0] rfl)
  have hl := lv_entry ([.ref t_p, .int l1]) (n := 4) (Nat.le_of_ble_eq_true rfl)
  rw [lg_entry_eq]
  generalize (lg_sl ([.ref t_p, .int l1]) ++ List.replicate (4 - (lg_sl ([.ref t_p, .int l1])).length) Slot.unset).toArray = ls at hl ⊢
  replace hl : lv_has ls 4 [(0, .ref t_p), (1, .int l1)] := hl
  rw [f6_speedAt] at hf
  have hgo : ∀ (H : Heap) (locs : List Loc), H = s.heap → locs = [] → va_P g.1 vwCl (fl [wk6 g t_p t_length t_p_text t_text t_cavities t_p_volume t_volume t_p_freeze t_freeze t_cores t_p_earlier t_earlier t_stages t_p_place t_place t_p_now t_now t_p_was t_was t_changes t_p_one t_one t_readCavities t_p_readCavity t_readCavity t_readCores t_p_readCore t_readCore t_readStages t_p_readStage t_readStage t_p_readRule t_readRule t_value t_ends t_screw]) H → va_S A s.heap H locs → W p l e ({ frames := 0, cells := 0, slots := 0, locals := 0 }) s m ([.ref t_p, .int l1] : List Value).toArray below meth c H locs 0 0 (MQ below (pQi g (fun r => r = res) (fl [wk6 g t_p t_length t_p_text t_text t_cavities t_p_volume t_volume t_p_freeze t_freeze t_cores t_p_earlier t_earlier t_stages t_p_place t_place t_p_now t_now t_p_was t_was t_changes t_p_one t_one t_readCavities t_p_readCavity t_readCavity t_readCores t_p_readCore t_readCore t_readStages t_p_readStage t_readStage t_p_readRule t_readRule t_value t_ends t_screw]) A) ([.ref t_p, .int l1] : List Value).toArray s 0 0 A) (F0 m 0 ls []) := by
    intro H locs hH hL hP hS
    refine lv_iconst (v := 0) hx hb dX6_speedAt_0 (by decide) ?_
    refine lv_istore_n (lv' := [(2, .int 0), (0, .ref t_p), (1, .int l1)]) hx hb dX6_speedAt_1 rfl hl (by decide) rfl (fun ls hl => ?_)
    exact w_2  N l1 0 H locs ls hf hP hD hS (lv_sub hl [1, 2, 0] rfl)
  exact hgo s.heap [] rfl rfl hP hS

set_option maxHeartbeats 4000000 in
set_option maxRecDepth 100000 in
theorem c6_fills (l : Launch) (g : gG) (t_p : Nat) (t_length : Int32) (t_p_text : Nat) (t_text : (Nat → Int32)) (t_cavities : Int32) (t_p_volume : Nat) (t_volume : (Nat → Int32)) (t_p_freeze : Nat) (t_freeze : (Nat → Int32)) (t_cores : Int32) (t_p_earlier : Nat) (t_earlier : (Nat → Int32)) (t_stages : Int32) (t_p_place : Nat) (t_place : (Nat → Int32)) (t_p_now : Nat) (t_now : (Nat → Int32)) (t_p_was : Nat) (t_was : (Nat → Int32)) (t_changes : Int32) (t_p_one : Nat) (t_one : (Nat → Int32)) (t_readCavities : Int32) (t_p_readCavity : Nat) (t_readCavity : (Nat → Int32)) (t_readCores : Int32) (t_p_readCore : Nat) (t_readCore : (Nat → Int32)) (t_readStages : Int32) (t_p_readStage : Nat) (t_readStage : (Nat → Int32)) (t_p_readRule : Nat) (t_readRule : (Nat → Int32)) (t_value : Int32) (t_ends : Int32) (t_screw : Int32) (l1 : Int32) (l2 : Int32) (sz : Nat) (N : Nat) (res : (Int32 × (Nat → Int32) × Int32)) (hf : f6_fills N l1 l2 t_cavities t_volume t_stages t_place t_now t_one t_screw = some res) : Met l yX6_fills wsX6_fills ({ frames := 1, cells := 0, slots := 0, locals := 24 }) (pP g [.ref t_p, .int l1, .int l2] sz (fl [wk6 g t_p t_length t_p_text t_text t_cavities t_p_volume t_volume t_p_freeze t_freeze t_cores t_p_earlier t_earlier t_stages t_p_place t_place t_p_now t_now t_p_was t_was t_changes t_p_one t_one t_readCavities t_p_readCavity t_readCavity t_readCores t_p_readCore t_readCore t_readStages t_p_readStage t_readStage t_p_readRule t_readRule t_value t_ends t_screw])) (pQi g (fun r => r = res.1) (fl [wk6 g t_p t_length t_p_text t_text t_cavities t_p_volume t_volume t_p_freeze t_freeze t_cores t_p_earlier t_earlier t_stages t_p_place t_place t_p_now t_now t_p_was t_was t_changes t_p_one res.2.1 t_readCavities t_p_readCavity t_readCavity t_readCores t_p_readCore t_readCore t_readStages t_p_readStage t_readStage t_p_readRule t_readRule t_value t_ends res.2.2]) (va_A (fl [wk6 g t_p t_length t_p_text t_text t_cavities t_p_volume t_volume t_p_freeze t_freeze t_cores t_p_earlier t_earlier t_stages t_p_place t_place t_p_now t_now t_p_was t_was t_changes t_p_one t_one t_readCavities t_p_readCavity t_readCavity t_readCores t_p_readCore t_readCore t_readStages t_p_readStage t_readStage t_p_readRule t_readRule t_value t_ends t_screw]) sz)) 0 0 (va_A (fl [wk6 g t_p t_length t_p_text t_text t_cavities t_p_volume t_volume t_p_freeze t_freeze t_cores t_p_earlier t_earlier t_stages t_p_place t_place t_p_now t_now t_p_was t_was t_changes t_p_one t_one t_readCavities t_p_readCavity t_readCavity t_readCores t_p_readCore t_readCore t_readStages t_p_readStage t_readStage t_p_readRule t_readRule t_value t_ends t_screw]) sz) := by
  refine Met.ofW (cc := cX6_fills) (maxL := 8) (ret := (some .int)) (by decide) rfl ?_
  intro p e s m args below meth c s₁ B hml hv
  obtain ⟨rfl, hsz, hP, hK, hD0, hG⟩ := hv
  have hx := B.exec
  have hb := B.bytes
  have hr := B.returns
  have hts := atoms_spec (ws := wsX6_fills) B.pre
  have hown : s.vm.findClass RX6 = some m.cls := findClass_of_methodNamed B.named
  have hlocks := B.notSynchronized
  subst hsz
  have hD := hD0.self (sz := s.heap.size)
  generalize hAe : va_A (fl [wk6 g t_p t_length t_p_text t_text t_cavities t_p_volume t_volume t_p_freeze t_freeze t_cores t_p_earlier t_earlier t_stages t_p_place t_place t_p_now t_now t_p_was t_was t_changes t_p_one t_one t_readCavities t_p_readCavity t_readCavity t_readCores t_p_readCore t_readCore t_readStages t_p_readStage t_readStage t_p_readRule t_readRule t_value t_ends t_screw]) s.heap.size = A at hD hG ⊢
  have hA : ∀ q : Nat, s.heap.size ≤ q → A q := fun q h => by rw [← hAe]; exact Or.inr h
  have hS : va_S A s.heap s.heap [] := va_S.rf
  have hin6 : ∀ w ∈ u_ws RX6 TX6 23, w ∈ wsX6_fills := by decide +kernel
  have L1 := hts (Cond.fieldLink RX6 136 "MouldShotsModel" "screw" "I") (by decide +kernel)
  have L2 := hts (Cond.fieldLink RX6 31 "MouldShotsModel" "one" "[I") (by decide +kernel)
  have L3 := hts (Cond.fieldLink RX6 13 "MouldShotsModel" "volume" "[I") (by decide +kernel)
  have L4 := hts (Cond.fieldLink RX6 25 "MouldShotsModel" "now" "[I") (by decide +kernel)
  have w_112 : ∀ (k_14 : Int32 → Int32 → Int32 → Int32 → (Nat → Int32) → (Nat → Int32) → (Nat → Int32) → Int32 → Option (Int32 × (Nat → Int32) × Int32)), (∀ (v1 : Int32) (v3 : Int32) (v4 : Int32) (t_one : (Nat → Int32)) (t_screw : Int32) (H : Heap) (locs : List Loc) (ls : Array Slot), k_14 v1 v3 v4 t_cavities t_volume t_now t_one t_screw = some res → va_P g.1 vwCl (fl [wk6 g t_p t_length t_p_text t_text t_cavities t_p_volume t_volume t_p_freeze t_freeze t_cores t_p_earlier t_earlier t_stages t_p_place t_place t_p_now t_now t_p_was t_was t_changes t_p_one t_one t_readCavities t_p_readCavity t_readCavity t_readCores t_p_readCore t_readCore t_readStages t_p_readStage t_readStage t_p_readRule t_readRule t_value t_ends t_screw]) H → va_D A (fl [wk6 g t_p t_length t_p_text t_text t_cavities t_p_volume t_volume t_p_freeze t_freeze t_cores t_p_earlier t_earlier t_stages t_p_place t_place t_p_now t_now t_p_was t_was t_changes t_p_one t_one t_readCavities t_p_readCavity t_readCavity t_readCores t_p_readCore t_readCore t_readStages t_p_readStage t_readStage t_p_readRule t_readRule t_value t_ends t_screw]) → va_S A s.heap H locs → lv_has ls 8 [(0, .ref t_p), (1, .int v1), (3, .int v3), (4, .int v4)] → W p l e ({ frames := 1, cells := 0, slots := 0, locals := 24 }) s m ([.ref t_p, .int l1, .int l2] : List Value).toArray below meth c H locs 0 0 (MQ below (pQi g (fun r => r = res.1) (fl [wk6 g t_p t_length t_p_text t_text t_cavities t_p_volume t_volume t_p_freeze t_freeze t_cores t_p_earlier t_earlier t_stages t_p_place t_place t_p_now t_now t_p_was t_was t_changes t_p_one res.2.1 t_readCavities t_p_readCavity t_readCavity t_readCores t_p_readCore t_readCore t_readStages t_p_readStage t_readStage t_p_readRule t_readRule t_value t_ends res.2.2]) A) ([.ref t_p, .int l1, .int l2] : List Value).toArray s 0 0 A) (F0 m 14 ls [])) → ∀ (v1 : Int32) (v3 : Int32) (v5 : Int32) (s0 : Int32) (t_one : (Nat → Int32)) (t_screw : Int32) (H : Heap) (locs : List Loc) (ls : Array Slot), f6_fills_112 k_14 N v1 v3 v5 s0 t_cavities t_volume t_now t_one t_screw = some res → va_P g.1 vwCl (fl [wk6 g t_p t_length t_p_text t_text t_cavities t_p_volume t_volume t_p_freeze t_freeze t_cores t_p_earlier t_earlier t_stages t_p_place t_place t_p_now t_now t_p_was t_was t_changes t_p_one t_one t_readCavities t_p_readCavity t_readCavity t_readCores t_p_readCore t_readCore t_readStages t_p_readStage t_readStage t_p_readRule t_readRule t_value t_ends t_screw]) H → va_D A (fl [wk6 g t_p t_length t_p_text t_text t_cavities t_p_volume t_volume t_p_freeze t_freeze t_cores t_p_earlier t_earlier t_stages t_p_place t_place t_p_now t_now t_p_was t_was t_changes t_p_one t_one t_readCavities t_p_readCavity t_readCavity t_readCores t_p_readCore t_readCore t_readStages t_p_readStage t_readStage t_p_readRule t_readRule t_value t_ends t_screw]) → va_S A s.heap H locs → lv_has ls 8 [(0, .ref t_p), (1, .int v1), (3, .int v3), (5, .int v5)] → W p l e ({ frames := 1, cells := 0, slots := 0, locals := 24 }) s m ([.ref t_p, .int l1, .int l2] : List Value).toArray below meth c H locs 0 0 (MQ below (pQi g (fun r => r = res.1) (fl [wk6 g t_p t_length t_p_text t_text t_cavities t_p_volume t_volume t_p_freeze t_freeze t_cores t_p_earlier t_earlier t_stages t_p_place t_place t_p_now t_now t_p_was t_was t_changes t_p_one res.2.1 t_readCavities t_p_readCavity t_readCavity t_readCores t_p_readCore t_readCore t_readStages t_p_readStage t_readStage t_p_readRule t_readRule t_value t_ends res.2.2]) A) ([.ref t_p, .int l1, .int l2] : List Value).toArray s 0 0 A) (F0 m 112 ls [.int s0]) := by
    intro k_14 hk_14 v1 v3 v5 s0 t_one t_screw H locs ls hf hP hD hS hl
    rw [f6_fills_112] at hf
    refine lv_istore (lv' := [(4, .int s0), (0, .ref t_p), (1, .int v1), (3, .int v3), (5, .int v5)]) hx hb dX6_fills_112 hl (by decide) rfl (fun ls hl => ?_)
    refine lv_aload_n hx hb dX6_fills_114 rfl (lv_at hl 1 rfl) ?_
    refine lv_iload hx hb dX6_fills_115 (lv_at hl 4 rfl) ?_
    refine lv_iload_n hx hb dX6_fills_117 rfl (lv_at hl 2 rfl) ?_
    obtain ⟨q_14, hq_14, hf⟩ := bd_some hf
    refine bft_v (bn := [wk6 g t_p t_length t_p_text t_text t_cavities t_p_volume t_volume t_p_freeze t_freeze t_cores t_p_earlier t_earlier t_stages t_p_place t_place t_p_now t_now t_p_was t_was t_changes t_p_one q_14 t_readCavities t_p_readCavity t_readCavity t_readCores t_p_readCore t_readCore t_readStages t_p_readStage t_readStage t_p_readRule t_readRule t_value t_ends t_screw]) (L := [[t_p, t_p_text, t_p_volume, t_p_freeze, t_p_earlier, t_p_place, t_p_now, t_p_was, t_p_one, t_p_readCavity, t_p_readCore, t_p_readStage, t_p_readRule]]) (va_runV (As := [.int v5, .int v1]) (rest := []) ⟨hx, hb, hml, hown, hts⟩ (c6_comes l g t_p t_length t_p_text t_text t_cavities t_p_volume t_volume t_p_freeze t_freeze t_cores t_p_earlier t_earlier t_stages t_p_place t_place t_p_now t_now t_p_was t_was t_changes t_p_one t_one t_readCavities t_p_readCavity t_readCavity t_readCores t_p_readCore t_readCore t_readStages t_p_readStage t_readStage t_p_readRule t_readRule t_value t_ends t_screw v5 v1 H.size N q_14 hq_14) (cwV 2 hts gX6_fills_X6_comes rfl rfl rfl ⟨rfl, nh6.1, nh6.2, pd_29⟩ ⟨Nat.le_of_ble_eq_true rfl, Nat.le_of_ble_eq_true rfl⟩) (qPV hK hG hP hD hS hA [0] (by decide) rfl (va_recv hK.1 hP (ci := 6) (q0 := 0) rfl rfl)) rfl rfl hl.1 rfl (lv_room (Nat.le_of_ble_eq_true rfl)) dX6_fills_118 ⟨Nat.zero_le _, Nat.zero_le _⟩) hP hD hS hA [0] rfl rfl rfl rfl (fun H locs hP hD hS => ?_)
    refine lv_aload_n hx hb dX6_fills_121 rfl (lv_at hl 1 rfl) ?_
    refine lv_dup hx hb dX6_fills_122 rfl ?_
    refine va_get (D := g.1) (ci := 6) (v := .int t_screw) (C := RX6) (T := TX6) (N := 23) hx hb hts hin6 hown hK.1 hP 0 rfl rfl 22 (by decide) L1 (fun _ h9 => h9) rfl dX6_fills_123 ?_
    refine lv_iconst (v := 1) hx hb dX6_fills_126 (by decide) ?_
    refine lv_iadd hx hb dX6_fills_127 ?_
    refine va_put (D := g.1) (ci := 6) (v := .int (t_screw + 1)) (ty := .int) (C := RX6) (T := TX6) (N := 23) hx hb hts hin6 tyX6 tyX6_ok nmX6 hown hK.1 hP hD hS 0 rfl rfl 22 (by decide) L1 (fun _ h9 => h9) rfl (by decide +kernel) rfl rfl (Nat.le_of_ble_eq_true rfl) dX6_fills_128 (fun H locs hP hD hS => ?_)
    replace hP : va_P g.1 vwCl (fl [wk6 g t_p t_length t_p_text t_text t_cavities t_p_volume t_volume t_p_freeze t_freeze t_cores t_p_earlier t_earlier t_stages t_p_place t_place t_p_now t_now t_p_was t_was t_changes t_p_one q_14 t_readCavities t_p_readCavity t_readCavity t_readCores t_p_readCore t_readCore t_readStages t_p_readStage t_readStage t_p_readRule t_readRule t_value t_ends (t_screw + 1)]) H := hP
    replace hD : va_D A (fl [wk6 g t_p t_length t_p_text t_text t_cavities t_p_volume t_volume t_p_freeze t_freeze t_cores t_p_earlier t_earlier t_stages t_p_place t_place t_p_now t_now t_p_was t_was t_changes t_p_one q_14 t_readCavities t_p_readCavity t_readCavity t_readCores t_p_readCore t_readCore t_readStages t_p_readStage t_readStage t_p_readRule t_readRule t_value t_ends (t_screw + 1)]) := hD
    refine lv_goto (tgt := 14) hx hb dX6_fills_131 (by decide) ?_
    exact hk_14 v1 v3 s0 q_14 (t_screw + 1) H locs ls hf hP hD hS (lv_sub hl [1, 2, 3, 0] rfl)
  have w_96 : ∀ (k_14 : Int32 → Int32 → Int32 → Int32 → (Nat → Int32) → (Nat → Int32) → (Nat → Int32) → Int32 → Option (Int32 × (Nat → Int32) × Int32)), (∀ (v1 : Int32) (v3 : Int32) (v4 : Int32) (t_one : (Nat → Int32)) (t_screw : Int32) (H : Heap) (locs : List Loc) (ls : Array Slot), k_14 v1 v3 v4 t_cavities t_volume t_now t_one t_screw = some res → va_P g.1 vwCl (fl [wk6 g t_p t_length t_p_text t_text t_cavities t_p_volume t_volume t_p_freeze t_freeze t_cores t_p_earlier t_earlier t_stages t_p_place t_place t_p_now t_now t_p_was t_was t_changes t_p_one t_one t_readCavities t_p_readCavity t_readCavity t_readCores t_p_readCore t_readCore t_readStages t_p_readStage t_readStage t_p_readRule t_readRule t_value t_ends t_screw]) H → va_D A (fl [wk6 g t_p t_length t_p_text t_text t_cavities t_p_volume t_volume t_p_freeze t_freeze t_cores t_p_earlier t_earlier t_stages t_p_place t_place t_p_now t_now t_p_was t_was t_changes t_p_one t_one t_readCavities t_p_readCavity t_readCavity t_readCores t_p_readCore t_readCore t_readStages t_p_readStage t_readStage t_p_readRule t_readRule t_value t_ends t_screw]) → va_S A s.heap H locs → lv_has ls 8 [(0, .ref t_p), (1, .int v1), (3, .int v3), (4, .int v4)] → W p l e ({ frames := 1, cells := 0, slots := 0, locals := 24 }) s m ([.ref t_p, .int l1, .int l2] : List Value).toArray below meth c H locs 0 0 (MQ below (pQi g (fun r => r = res.1) (fl [wk6 g t_p t_length t_p_text t_text t_cavities t_p_volume t_volume t_p_freeze t_freeze t_cores t_p_earlier t_earlier t_stages t_p_place t_place t_p_now t_now t_p_was t_was t_changes t_p_one res.2.1 t_readCavities t_p_readCavity t_readCavity t_readCores t_p_readCore t_readCore t_readStages t_p_readStage t_readStage t_p_readRule t_readRule t_value t_ends res.2.2]) A) ([.ref t_p, .int l1, .int l2] : List Value).toArray s 0 0 A) (F0 m 14 ls [])) → ∀ (v1 : Int32) (v3 : Int32) (v4 : Int32) (v5 : Int32) (s0 : Int32) (t_one : (Nat → Int32)) (t_screw : Int32) (H : Heap) (locs : List Loc) (ls : Array Slot), f6_fills_96 k_14 N v1 v3 v4 v5 s0 t_cavities t_volume t_now t_one t_screw = some res → va_P g.1 vwCl (fl [wk6 g t_p t_length t_p_text t_text t_cavities t_p_volume t_volume t_p_freeze t_freeze t_cores t_p_earlier t_earlier t_stages t_p_place t_place t_p_now t_now t_p_was t_was t_changes t_p_one t_one t_readCavities t_p_readCavity t_readCavity t_readCores t_p_readCore t_readCore t_readStages t_p_readStage t_readStage t_p_readRule t_readRule t_value t_ends t_screw]) H → va_D A (fl [wk6 g t_p t_length t_p_text t_text t_cavities t_p_volume t_volume t_p_freeze t_freeze t_cores t_p_earlier t_earlier t_stages t_p_place t_place t_p_now t_now t_p_was t_was t_changes t_p_one t_one t_readCavities t_p_readCavity t_readCavity t_readCores t_p_readCore t_readCore t_readStages t_p_readStage t_readStage t_p_readRule t_readRule t_value t_ends t_screw]) → va_S A s.heap H locs → lv_has ls 8 [(0, .ref t_p), (1, .int v1), (3, .int v3), (4, .int v4), (5, .int v5)] → W p l e ({ frames := 1, cells := 0, slots := 0, locals := 24 }) s m ([.ref t_p, .int l1, .int l2] : List Value).toArray below meth c H locs 0 0 (MQ below (pQi g (fun r => r = res.1) (fl [wk6 g t_p t_length t_p_text t_text t_cavities t_p_volume t_volume t_p_freeze t_freeze t_cores t_p_earlier t_earlier t_stages t_p_place t_place t_p_now t_now t_p_was t_was t_changes t_p_one res.2.1 t_readCavities t_p_readCavity t_readCavity t_readCores t_p_readCore t_readCore t_readStages t_p_readStage t_readStage t_p_readRule t_readRule t_value t_ends res.2.2]) A) ([.ref t_p, .int l1, .int l2] : List Value).toArray s 0 0 A) (F0 m 96 ls [.int s0]) := by
    intro k_14 hk_14 v1 v3 v4 v5 s0 t_one t_screw H locs ls hf hP hD hS hl
    rw [f6_fills_96] at hf
    refine lv_istore (lv' := [(7, .int s0), (0, .ref t_p), (1, .int v1), (3, .int v3), (4, .int v4), (5, .int v5)]) hx hb dX6_fills_96 hl (by decide) rfl (fun ls hl => ?_)
    refine lv_iload hx hb dX6_fills_98 (lv_at hl 0 rfl) ?_
    refine lv_iload hx hb dX6_fills_100 (lv_at hl 4 rfl) ?_
    refine lv_icmp_le (tgt := 110) hx hb dX6_fills_102 (by decide) (fun c_13 => ?_) (fun c_13 => ?_)
    · replace hf := (if_pos c_13).symm.trans hf
      refine lv_iload hx hb dX6_fills_110 (lv_at hl 4 rfl) ?_
      exact w_112 k_14 hk_14 v1 v3 v5 v4 t_one t_screw H locs ls hf hP hD hS (lv_sub hl [1, 2, 3, 5] rfl)
    · replace hf := (if_neg c_13).symm.trans hf
      refine lv_iload hx hb dX6_fills_105 (lv_at hl 0 rfl) ?_
      refine lv_goto (tgt := 112) hx hb dX6_fills_107 (by decide) ?_
      exact w_112 k_14 hk_14 v1 v3 v5 s0 t_one t_screw H locs ls hf hP hD hS (lv_sub hl [1, 2, 3, 5] rfl)
  have w_134 : ∀ (v4 : Int32) (t_one : (Nat → Int32)) (t_screw : Int32) (H : Heap) (locs : List Loc) (ls : Array Slot), f6_fills_134  N v4 t_one t_screw = some res → va_P g.1 vwCl (fl [wk6 g t_p t_length t_p_text t_text t_cavities t_p_volume t_volume t_p_freeze t_freeze t_cores t_p_earlier t_earlier t_stages t_p_place t_place t_p_now t_now t_p_was t_was t_changes t_p_one t_one t_readCavities t_p_readCavity t_readCavity t_readCores t_p_readCore t_readCore t_readStages t_p_readStage t_readStage t_p_readRule t_readRule t_value t_ends t_screw]) H → va_D A (fl [wk6 g t_p t_length t_p_text t_text t_cavities t_p_volume t_volume t_p_freeze t_freeze t_cores t_p_earlier t_earlier t_stages t_p_place t_place t_p_now t_now t_p_was t_was t_changes t_p_one t_one t_readCavities t_p_readCavity t_readCavity t_readCores t_p_readCore t_readCore t_readStages t_p_readStage t_readStage t_p_readRule t_readRule t_value t_ends t_screw]) → va_S A s.heap H locs → lv_has ls 8 [(4, .int v4)] → W p l e ({ frames := 1, cells := 0, slots := 0, locals := 24 }) s m ([.ref t_p, .int l1, .int l2] : List Value).toArray below meth c H locs 0 0 (MQ below (pQi g (fun r => r = res.1) (fl [wk6 g t_p t_length t_p_text t_text t_cavities t_p_volume t_volume t_p_freeze t_freeze t_cores t_p_earlier t_earlier t_stages t_p_place t_place t_p_now t_now t_p_was t_was t_changes t_p_one res.2.1 t_readCavities t_p_readCavity t_readCavity t_readCores t_p_readCore t_readCore t_readStages t_p_readStage t_readStage t_p_readRule t_readRule t_value t_ends res.2.2]) A) ([.ref t_p, .int l1, .int l2] : List Value).toArray s 0 0 A) (F0 m 134 ls []) := by
    intro  v4 t_one t_screw H locs ls hf hP hD hS hl
    rw [f6_fills_134] at hf
    refine lv_iload hx hb dX6_fills_134 (lv_at hl 0 rfl) ?_
    refine lv_bipush (v := 99) hx hb dX6_fills_136 (by decide) ?_
    refine lv_icmp_le (tgt := 146) hx hb dX6_fills_138 (by decide) (fun c_12 => ?_) (fun c_12 => ?_)
    · replace hf := (if_pos c_12).symm.trans hf
      refine lv_iload hx hb dX6_fills_146 (lv_at hl 0 rfl) ?_
      replace hf := Option.some.inj hf
      subst hf
      exact W.iret (v := v4) hx hb hr (fun t ht hW => ⟨⟨_, (), rfl, rfl, by show va_P g.1 vwCl _ t.heap; rw [ht]; exact hP⟩, hS.F ht⟩) hS.2.2 dX6_fills_148 hlocks
    · replace hf := (if_neg c_12).symm.trans hf
      refine lv_bipush (v := 99) hx hb dX6_fills_141 (by decide) ?_
      refine lv_goto (tgt := 148) hx hb dX6_fills_143 (by decide) ?_
      replace hf := Option.some.inj hf
      subst hf
      exact W.iret (v := 99) hx hb hr (fun t ht hW => ⟨⟨_, (), rfl, rfl, by show va_P g.1 vwCl _ t.heap; rw [ht]; exact hP⟩, hS.F ht⟩) hS.2.2 dX6_fills_148 hlocks
  have w_14 : ∀ n : Nat, ∀ (v1 : Int32) (v3 : Int32) (v4 : Int32) (t_one : (Nat → Int32)) (t_screw : Int32) (H : Heap) (locs : List Loc) (ls : Array Slot), f6_fills_14  N n v1 v3 v4 t_cavities t_volume t_now t_one t_screw = some res → va_P g.1 vwCl (fl [wk6 g t_p t_length t_p_text t_text t_cavities t_p_volume t_volume t_p_freeze t_freeze t_cores t_p_earlier t_earlier t_stages t_p_place t_place t_p_now t_now t_p_was t_was t_changes t_p_one t_one t_readCavities t_p_readCavity t_readCavity t_readCores t_p_readCore t_readCore t_readStages t_p_readStage t_readStage t_p_readRule t_readRule t_value t_ends t_screw]) H → va_D A (fl [wk6 g t_p t_length t_p_text t_text t_cavities t_p_volume t_volume t_p_freeze t_freeze t_cores t_p_earlier t_earlier t_stages t_p_place t_place t_p_now t_now t_p_was t_was t_changes t_p_one t_one t_readCavities t_p_readCavity t_readCavity t_readCores t_p_readCore t_readCore t_readStages t_p_readStage t_readStage t_p_readRule t_readRule t_value t_ends t_screw]) → va_S A s.heap H locs → lv_has ls 8 [(0, .ref t_p), (1, .int v1), (3, .int v3), (4, .int v4)] → W p l e ({ frames := 1, cells := 0, slots := 0, locals := 24 }) s m ([.ref t_p, .int l1, .int l2] : List Value).toArray below meth c H locs 0 0 (MQ below (pQi g (fun r => r = res.1) (fl [wk6 g t_p t_length t_p_text t_text t_cavities t_p_volume t_volume t_p_freeze t_freeze t_cores t_p_earlier t_earlier t_stages t_p_place t_place t_p_now t_now t_p_was t_was t_changes t_p_one res.2.1 t_readCavities t_p_readCavity t_readCavity t_readCores t_p_readCore t_readCore t_readStages t_p_readStage t_readStage t_p_readRule t_readRule t_value t_ends res.2.2]) A) ([.ref t_p, .int l1, .int l2] : List Value).toArray s 0 0 A) (F0 m 14 ls []) := by
    intro  n
    induction n with
    | zero => intro v1 v3 v4 t_one t_screw H locs ls hf; exact no_some hf
    | succ n ih =>
      intro v1 v3 v4 t_one t_screw H locs ls hf hP hD hS hl
      rw [f6_fills_14] at hf
      refine lv_aload_n hx hb dX6_fills_14 rfl (lv_at hl 0 rfl) ?_
      refine va_get (D := g.1) (ci := 6) (v := .int t_screw) (C := RX6) (T := TX6) (N := 23) hx hb hts hin6 hown hK.1 hP 0 rfl rfl 22 (by decide) L1 (fun _ h9 => h9) rfl dX6_fills_15 ?_
      refine lv_iload_n hx hb dX6_fills_18 rfl (lv_at hl 2 rfl) ?_
      refine lv_icmp_ge (tgt := 134) hx hb dX6_fills_19 (by decide) (fun c_3 => ?_) (fun c_3 => ?_)
      · replace hf := (if_pos c_3).symm.trans hf
        exact w_134  v4 t_one t_screw H locs ls hf hP hD hS (lv_sub hl [3] rfl)
      · replace hf := (if_neg c_3).symm.trans hf
        refine lv_aload_n hx hb dX6_fills_22 rfl (lv_at hl 0 rfl) ?_
        refine va_get (D := g.1) (ci := 6) (v := .int t_screw) (C := RX6) (T := TX6) (N := 23) hx hb hts hin6 hown hK.1 hP 0 rfl rfl 22 (by decide) L1 (fun _ h9 => h9) rfl dX6_fills_23 ?_
        refine lv_bipush (v := 99) hx hb dX6_fills_26 (by decide) ?_
        refine lv_icmp_ge (tgt := 134) hx hb dX6_fills_28 (by decide) (fun c_4 => ?_) (fun c_4 => ?_)
        · replace hf := (if_pos c_4).symm.trans hf
          exact w_134  v4 t_one t_screw H locs ls hf hP hD hS (lv_sub hl [3] rfl)
        · replace hf := (if_neg c_4).symm.trans hf
          refine lv_aload_n hx hb dX6_fills_31 rfl (lv_at hl 0 rfl) ?_
          obtain ⟨q_5, hq_5, hf⟩ := bd_some hf
          refine bft_i (bn := [wk6 g t_p t_length t_p_text t_text t_cavities t_p_volume t_volume t_p_freeze t_freeze t_cores t_p_earlier t_earlier t_stages t_p_place t_place t_p_now t_now t_p_was t_was t_changes t_p_one t_one t_readCavities t_p_readCavity t_readCavity t_readCores t_p_readCore t_readCore t_readStages t_p_readStage t_readStage t_p_readRule t_readRule t_value t_ends t_screw]) (L := [[t_p, t_p_text, t_p_volume, t_p_freeze, t_p_earlier, t_p_place, t_p_now, t_p_was, t_p_one, t_p_readCavity, t_p_readCore, t_p_readStage, t_p_readRule]]) (va_runV (As := []) (rest := []) ⟨hx, hb, hml, hown, hts⟩ (c6_easiest l g t_p t_length t_p_text t_text t_cavities t_p_volume t_volume t_p_freeze t_freeze t_cores t_p_earlier t_earlier t_stages t_p_place t_place t_p_now t_now t_p_was t_was t_changes t_p_one t_one t_readCavities t_p_readCavity t_readCavity t_readCores t_p_readCore t_readCore t_readStages t_p_readStage t_readStage t_p_readRule t_readRule t_value t_ends t_screw H.size N q_5 hq_5) (cwV 0 hts gX6_fills_X6_easiest rfl rfl rfl ⟨rfl, nh6.1, nh6.2, pd_12⟩ ⟨Nat.le_of_ble_eq_true rfl, Nat.le_of_ble_eq_true rfl⟩) (qPV hK hG hP hD hS hA [0] (by decide) rfl (va_recv hK.1 hP (ci := 6) (q0 := 0) rfl rfl)) rfl rfl hl.1 rfl (lv_room (Nat.le_of_ble_eq_true rfl)) dX6_fills_32 ⟨Nat.zero_le _, Nat.zero_le _⟩) hP hD hS hA [0] rfl rfl rfl rfl (fun r_6 H locs hw hP hD hS => ?_)
          replace hw := hw.symm
          subst hw
          refine lv_istore (lv' := [(5, .int q_5), (0, .ref t_p), (1, .int v1), (3, .int v3), (4, .int v4)]) hx hb dX6_fills_35 hl (by decide) rfl (fun ls hl => ?_)
          refine lv_aload_n hx hb dX6_fills_37 rfl (lv_at hl 1 rfl) ?_
          refine va_get (D := g.1) (ci := 6) (v := .ref t_p_one) (C := RX6) (T := TX6) (N := 23) hx hb hts hin6 hown hK.1 hP 0 rfl rfl 12 (by decide) L2 (fun _ h9 => h9) rfl dX6_fills_38 ?_
          refine lv_bipush (v := 66) hx hb dX6_fills_41 (by decide) ?_
          refine lv_iload hx hb dX6_fills_43 (lv_at hl 0 rfl) ?_
          refine lv_iadd hx hb dX6_fills_45 ?_
          obtain ⟨h_7, hf⟩ := if_some hf
          refine va_iald hx hb hK.1 hP 8 0 rfl rfl (ok_in h_7) dX6_fills_46 ?_
          refine lv_istore (lv' := [(6, .int (t_one (Int32.toNatClampNeg (66 + q_5)))), (5, .int q_5), (0, .ref t_p), (1, .int v1), (3, .int v3), (4, .int v4)]) hx hb dX6_fills_47 hl (by decide) rfl (fun ls hl => ?_)
          refine lv_iload hx hb dX6_fills_49 (lv_at hl 0 rfl) ?_
          refine lv_aload_n hx hb dX6_fills_51 rfl (lv_at hl 2 rfl) ?_
          refine va_get (D := g.1) (ci := 6) (v := .ref t_p_volume) (C := RX6) (T := TX6) (N := 23) hx hb hts hin6 hown hK.1 hP 0 rfl rfl 3 (by decide) L3 (fun _ h9 => h9) rfl dX6_fills_52 ?_
          refine lv_iload hx hb dX6_fills_55 (lv_at hl 1 rfl) ?_
          obtain ⟨h_8, hf⟩ := if_some hf
          refine va_iald hx hb hK.1 hP 2 0 rfl rfl (ok_in h_8) dX6_fills_57 ?_
          refine lv_icmp_ge (tgt := 80) hx hb dX6_fills_58 (by decide) (fun c_9 => ?_) (fun c_9 => ?_)
          · replace hf := (if_pos c_9).symm.trans hf
            refine lv_iconst (v := 3) hx hb dX6_fills_80 (by decide) ?_
            refine lv_aload_n hx hb dX6_fills_81 rfl (lv_at hl 2 rfl) ?_
            refine va_get (D := g.1) (ci := 6) (v := .ref t_p_now) (C := RX6) (T := TX6) (N := 23) hx hb hts hin6 hown hK.1 hP 0 rfl rfl 9 (by decide) L4 (fun _ h9 => h9) rfl dX6_fills_82 ?_
            refine lv_sipush (v := 1139) hx hb dX6_fills_85 (by decide) ?_
            refine lv_iload hx hb dX6_fills_88 (lv_at hl 1 rfl) ?_
            refine lv_iadd hx hb dX6_fills_90 ?_
            obtain ⟨h_10, hf⟩ := if_some hf
            refine va_iald hx hb hK.1 hP 6 0 rfl rfl (ok_in h_10) dX6_fills_91 ?_
            refine lv_imul hx hb dX6_fills_92 ?_
            refine lv_iload hx hb dX6_fills_93 (lv_at hl 0 rfl) ?_
            refine lv_imul hx hb dX6_fills_95 ?_
            exact w_96 (fun a0 a1 a2 a3 a4 a5 a6 a7 => f6_fills_14 N n a0 a1 a2 a3 a4 a5 a6 a7) ih v1 v3 v4 q_5 ((3 * (t_now (Int32.toNatClampNeg (1139 + q_5)))) * (t_one (Int32.toNatClampNeg (66 + q_5)))) t_one t_screw H locs ls hf hP hD hS (lv_sub hl [2, 3, 4, 5, 1] rfl)
          · replace hf := (if_neg c_9).symm.trans hf
            refine lv_aload_n hx hb dX6_fills_61 rfl (lv_at hl 2 rfl) ?_
            refine va_get (D := g.1) (ci := 6) (v := .ref t_p_now) (C := RX6) (T := TX6) (N := 23) hx hb hts hin6 hown hK.1 hP 0 rfl rfl 9 (by decide) L4 (fun _ h9 => h9) rfl dX6_fills_62 ?_
            refine lv_sipush (v := 1139) hx hb dX6_fills_65 (by decide) ?_
            refine lv_iload hx hb dX6_fills_68 (lv_at hl 1 rfl) ?_
            refine lv_iadd hx hb dX6_fills_70 ?_
            obtain ⟨h_11, hf⟩ := if_some hf
            refine va_iald hx hb hK.1 hP 6 0 rfl rfl (ok_in h_11) dX6_fills_71 ?_
            refine lv_iload hx hb dX6_fills_72 (lv_at hl 0 rfl) ?_
            refine lv_iconst (v := 1) hx hb dX6_fills_74 (by decide) ?_
            refine lv_iadd hx hb dX6_fills_75 ?_
            refine lv_imul hx hb dX6_fills_76 ?_
            refine lv_goto (tgt := 96) hx hb dX6_fills_77 (by decide) ?_
            exact w_96 (fun a0 a1 a2 a3 a4 a5 a6 a7 => f6_fills_14 N n a0 a1 a2 a3 a4 a5 a6 a7) ih v1 v3 v4 q_5 ((t_now (Int32.toNatClampNeg (1139 + q_5))) * ((t_one (Int32.toNatClampNeg (66 + q_5))) + 1)) t_one t_screw H locs ls hf hP hD hS (lv_sub hl [2, 3, 4, 5, 1] rfl)
  have hl := lv_entry ([.ref t_p, .int l1, .int l2]) (n := 8) (Nat.le_of_ble_eq_true rfl)
  rw [lg_entry_eq]
  generalize (lg_sl ([.ref t_p, .int l1, .int l2]) ++ List.replicate (8 - (lg_sl ([.ref t_p, .int l1, .int l2])).length) Slot.unset).toArray = ls at hl ⊢
  replace hl : lv_has ls 8 [(0, .ref t_p), (1, .int l1), (2, .int l2)] := hl
  rw [f6_fills] at hf
  have hgo : ∀ (H : Heap) (locs : List Loc), H = s.heap → locs = [] → va_P g.1 vwCl (fl [wk6 g t_p t_length t_p_text t_text t_cavities t_p_volume t_volume t_p_freeze t_freeze t_cores t_p_earlier t_earlier t_stages t_p_place t_place t_p_now t_now t_p_was t_was t_changes t_p_one t_one t_readCavities t_p_readCavity t_readCavity t_readCores t_p_readCore t_readCore t_readStages t_p_readStage t_readStage t_p_readRule t_readRule t_value t_ends t_screw]) H → va_S A s.heap H locs → W p l e ({ frames := 1, cells := 0, slots := 0, locals := 24 }) s m ([.ref t_p, .int l1, .int l2] : List Value).toArray below meth c H locs 0 0 (MQ below (pQi g (fun r => r = res.1) (fl [wk6 g t_p t_length t_p_text t_text t_cavities t_p_volume t_volume t_p_freeze t_freeze t_cores t_p_earlier t_earlier t_stages t_p_place t_place t_p_now t_now t_p_was t_was t_changes t_p_one res.2.1 t_readCavities t_p_readCavity t_readCavity t_readCores t_p_readCore t_readCore t_readStages t_p_readStage t_readStage t_p_readRule t_readRule t_value t_ends res.2.2]) A) ([.ref t_p, .int l1, .int l2] : List Value).toArray s 0 0 A) (F0 m 0 ls []) := by
    intro H locs hH hL hP hS
    refine lv_aload_n hx hb dX6_fills_0 rfl (lv_at hl 0 rfl) ?_
    refine va_get (D := g.1) (ci := 6) (v := .int t_screw) (C := RX6) (T := TX6) (N := 23) hx hb hts hin6 hown hK.1 hP 0 rfl rfl 22 (by decide) L1 (fun _ h9 => h9) rfl dX6_fills_1 ?_
    refine lv_aload_n hx hb dX6_fills_4 rfl (lv_at hl 0 rfl) ?_
    refine lv_iload_n hx hb dX6_fills_5 rfl (lv_at hl 2 rfl) ?_
    obtain ⟨q_1, hq_1, hf⟩ := bd_some hf
    refine bft_i (bn := [wk6 g t_p t_length t_p_text t_text t_cavities t_p_volume t_volume t_p_freeze t_freeze t_cores t_p_earlier t_earlier t_stages t_p_place t_place t_p_now t_now t_p_was t_was t_changes t_p_one t_one t_readCavities t_p_readCavity t_readCavity t_readCores t_p_readCore t_readCore t_readStages t_p_readStage t_readStage t_p_readRule t_readRule t_value t_ends t_screw]) (L := [[t_p, t_p_text, t_p_volume, t_p_freeze, t_p_earlier, t_p_place, t_p_now, t_p_was, t_p_one, t_p_readCavity, t_p_readCore, t_p_readStage, t_p_readRule]]) (va_runV (As := [.int l2]) (rest := [.int t_screw]) ⟨hx, hb, hml, hown, hts⟩ (c6_speedAt l g t_p t_length t_p_text t_text t_cavities t_p_volume t_volume t_p_freeze t_freeze t_cores t_p_earlier t_earlier t_stages t_p_place t_place t_p_now t_now t_p_was t_was t_changes t_p_one t_one t_readCavities t_p_readCavity t_readCavity t_readCores t_p_readCore t_readCore t_readStages t_p_readStage t_readStage t_p_readRule t_readRule t_value t_ends t_screw l2 H.size N q_1 hq_1) (cwV 1 hts gX6_fills_X6_speedAt rfl rfl rfl ⟨rfl, nh6.1, nh6.2, pd_2⟩ ⟨Nat.le_of_ble_eq_true rfl, Nat.le_of_ble_eq_true rfl⟩) (qPV hK hG hP hD hS hA [0] (by decide) rfl (va_recv hK.1 hP (ci := 6) (q0 := 0) rfl rfl)) rfl rfl hl.1 rfl (lv_room (Nat.le_of_ble_eq_true rfl)) dX6_fills_6 ⟨Nat.zero_le _, Nat.zero_le _⟩) hP hD hS hA [0] rfl rfl rfl rfl (fun r_2 H locs hw hP hD hS => ?_)
    replace hw := hw.symm
    subst hw
    refine lv_iadd hx hb dX6_fills_9 ?_
    refine lv_istore_n (lv' := [(3, .int (t_screw + q_1)), (0, .ref t_p), (1, .int l1), (2, .int l2)]) hx hb dX6_fills_10 rfl hl (by decide) rfl (fun ls hl => ?_)
    refine lv_iconst (v := 0) hx hb dX6_fills_11 (by decide) ?_
    refine lv_istore (lv' := [(4, .int 0), (3, .int (t_screw + q_1)), (0, .ref t_p), (1, .int l1), (2, .int l2)]) hx hb dX6_fills_12 hl (by decide) rfl (fun ls hl => ?_)
    exact w_14  N l1 (t_screw + q_1) 0 t_one t_screw H locs ls hf hP hD hS (lv_sub hl [2, 3, 1, 0] rfl)
  exact hgo s.heap [] rfl rfl hP hS
