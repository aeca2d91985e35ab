set_option maxHeartbeats 4000000 in
set_option maxRecDepth 100000 in
theorem c6_teach (l : Launch) (g : gG) (t_p : Nat) (t_length : Int32) (t_p_text : Nat) (t_text : (Nat → Int32)) (t_cavities : Int32) (t_p_volume : Nat) (t_volume : (Nat → Int32)) (t_p_freeze : Nat) (t_freeze : (Nat → Int32)) (t_cores : Int32) (t_p_earlier : Nat) (t_earlier : (Nat → Int32)) (t_stages : Int32) (t_p_place : Nat) (t_place : (Nat → Int32)) (t_p_now : Nat) (t_now : (Nat → Int32)) (t_p_was : Nat) (t_was : (Nat → Int32)) (t_changes : Int32) (t_p_one : Nat) (t_one : (Nat → Int32)) (t_readCavities : Int32) (t_p_readCavity : Nat) (t_readCavity : (Nat → Int32)) (t_readCores : Int32) (t_p_readCore : Nat) (t_readCore : (Nat → Int32)) (t_readStages : Int32) (t_p_readStage : Nat) (t_readStage : (Nat → Int32)) (t_p_readRule : Nat) (t_readRule : (Nat → Int32)) (t_value : Int32) (t_ends : Int32) (t_screw : Int32) (l1 : Int32) (sz : Nat) (N : Nat) (res : (Int32 × (Nat → Int32) × (Nat → Int32) × Int32)) (hf : f6_teach N l1 t_cavities t_volume t_now t_was t_changes = some res) : Met l yX6_teach wsX6_teach ({ frames := 2, cells := 0, slots := 0, locals := 46 }) (pP g [.ref t_p, .int l1] sz (fl [wk6 g t_p t_length t_p_text t_text t_cavities t_p_volume t_volume t_p_freeze t_freeze t_cores t_p_earlier t_earlier t_stages t_p_place t_place t_p_now t_now t_p_was t_was t_changes t_p_one t_one t_readCavities t_p_readCavity t_readCavity t_readCores t_p_readCore t_readCore t_readStages t_p_readStage t_readStage t_p_readRule t_readRule t_value t_ends t_screw])) (pQi g (fun r => r = res.1) (fl [wk6 g t_p t_length t_p_text t_text t_cavities t_p_volume t_volume t_p_freeze t_freeze t_cores t_p_earlier t_earlier t_stages t_p_place t_place t_p_now res.2.1 t_p_was res.2.2.1 res.2.2.2 t_p_one t_one t_readCavities t_p_readCavity t_readCavity t_readCores t_p_readCore t_readCore t_readStages t_p_readStage t_readStage t_p_readRule t_readRule t_value t_ends t_screw]) (va_A (fl [wk6 g t_p t_length t_p_text t_text t_cavities t_p_volume t_volume t_p_freeze t_freeze t_cores t_p_earlier t_earlier t_stages t_p_place t_place t_p_now t_now t_p_was t_was t_changes t_p_one t_one t_readCavities t_p_readCavity t_readCavity t_readCores t_p_readCore t_readCore t_readStages t_p_readStage t_readStage t_p_readRule t_readRule t_value t_ends t_screw]) sz)) 0 0 (va_A (fl [wk6 g t_p t_length t_p_text t_text t_cavities t_p_volume t_volume t_p_freeze t_freeze t_cores t_p_earlier t_earlier t_stages t_p_place t_place t_p_now t_now t_p_was t_was t_changes t_p_one t_one t_readCavities t_p_readCavity t_readCavity t_readCores t_p_readCore t_readCore t_readStages t_p_readStage t_readStage t_p_readRule t_readRule t_value t_ends t_screw]) sz) := by
  refine Met.ofW (cc := cX6_teach) (maxL := 5) (ret := (some .int)) (by decide) rfl ?_
  intro p e s m args below meth c s₁ B hml hv
  obtain ⟨rfl, hsz, hP, hK, hD0, hG⟩ := hv
  have hx := B.exec
  have hb := B.bytes
  have hr := B.returns
  have hts := atoms_spec (ws := wsX6_teach) B.pre
  have hown : s.vm.findClass RX6 = some m.cls := findClass_of_methodNamed B.named
  have hlocks := B.notSynchronized
  subst hsz
  have hD := hD0.self (sz := s.heap.size)
  generalize hAe : va_A (fl [wk6 g t_p t_length t_p_text t_text t_cavities t_p_volume t_volume t_p_freeze t_freeze t_cores t_p_earlier t_earlier t_stages t_p_place t_place t_p_now t_now t_p_was t_was t_changes t_p_one t_one t_readCavities t_p_readCavity t_readCavity t_readCores t_p_readCore t_readCore t_readStages t_p_readStage t_readStage t_p_readRule t_readRule t_value t_ends t_screw]) s.heap.size = A at hD hG ⊢
  have hA : ∀ q : Nat, s.heap.size ≤ q → A q := fun q h => by rw [← hAe]; exact Or.inr h
  have hS : va_S A s.heap s.heap [] := va_S.rf
  have hin6 : ∀ w ∈ u_ws RX6 TX6 23, w ∈ wsX6_teach := by decide +kernel
  have L1 := hts (Cond.fieldLink RX6 25 "MouldShotsModel" "now" "[I") (by decide +kernel)
  have w_153 : ∀ (k_44 : Int32 → Int32 → Int32 → (Nat → Int32) → (Nat → Int32) → Int32 → Option (Int32 × (Nat → Int32) × (Nat → Int32) × Int32)), (∀ (v1 : Int32) (v2 : Int32) (v3 : Int32) (t_now : (Nat → Int32)) (t_was : (Nat → Int32)) (t_changes : Int32) (H : Heap) (locs : List Loc) (ls : Array Slot), k_44 v1 v2 v3 t_now t_was t_changes = some res → va_P g.1 vwCl (fl [wk6 g t_p t_length t_p_text t_text t_cavities t_p_volume t_volume t_p_freeze t_freeze t_cores t_p_earlier t_earlier t_stages t_p_place t_place t_p_now t_now t_p_was t_was t_changes t_p_one t_one t_readCavities t_p_readCavity t_readCavity t_readCores t_p_readCore t_readCore t_readStages t_p_readStage t_readStage t_p_readRule t_readRule t_value t_ends t_screw]) H → va_D A (fl [wk6 g t_p t_length t_p_text t_text t_cavities t_p_volume t_volume t_p_freeze t_freeze t_cores t_p_earlier t_earlier t_stages t_p_place t_place t_p_now t_now t_p_was t_was t_changes t_p_one t_one t_readCavities t_p_readCavity t_readCavity t_readCores t_p_readCore t_readCore t_readStages t_p_readStage t_readStage t_p_readRule t_readRule t_value t_ends t_screw]) → va_S A s.heap H locs → lv_has ls 5 [(0, .ref t_p), (1, .int v1), (2, .int v2), (3, .int v3)] → W p l e ({ frames := 2, cells := 0, slots := 0, locals := 46 }) s m ([.ref t_p, .int l1] : List Value).toArray below meth c H locs 0 0 (MQ below (pQi g (fun r => r = res.1) (fl [wk6 g t_p t_length t_p_text t_text t_cavities t_p_volume t_volume t_p_freeze t_freeze t_cores t_p_earlier t_earlier t_stages t_p_place t_place t_p_now res.2.1 t_p_was res.2.2.1 res.2.2.2 t_p_one t_one t_readCavities t_p_readCavity t_readCavity t_readCores t_p_readCore t_readCore t_readStages t_p_readStage t_readStage t_p_readRule t_readRule t_value t_ends t_screw]) A) ([.ref t_p, .int l1] : List Value).toArray s 0 0 A) (F0 m 44 ls [])) → ∀ (v1 : Int32) (v2 : Int32) (v3 : Int32) (s1 : Int32) (s2 : Int32) (t_now : (Nat → Int32)) (t_was : (Nat → Int32)) (t_changes : Int32) (H : Heap) (locs : List Loc) (ls : Array Slot), f6_teach_153 k_44 N v1 v2 v3 s1 s2 t_now t_was t_changes = some res → va_P g.1 vwCl (fl [wk6 g t_p t_length t_p_text t_text t_cavities t_p_volume t_volume t_p_freeze t_freeze t_cores t_p_earlier t_earlier t_stages t_p_place t_place t_p_now t_now t_p_was t_was t_changes t_p_one t_one t_readCavities t_p_readCavity t_readCavity t_readCores t_p_readCore t_readCore t_readStages t_p_readStage t_readStage t_p_readRule t_readRule t_value t_ends t_screw]) H → va_D A (fl [wk6 g t_p t_length t_p_text t_text t_cavities t_p_volume t_volume t_p_freeze t_freeze t_cores t_p_earlier t_earlier t_stages t_p_place t_place t_p_now t_now t_p_was t_was t_changes t_p_one t_one t_readCavities t_p_readCavity t_readCavity t_readCores t_p_readCore t_readCore t_readStages t_p_readStage t_readStage t_p_readRule t_readRule t_value t_ends t_screw]) → va_S A s.heap H locs → lv_has ls 5 [(0, .ref t_p), (1, .int v1), (2, .int v2), (3, .int v3)] → W p l e ({ frames := 2, cells := 0, slots := 0, locals := 46 }) s m ([.ref t_p, .int l1] : List Value).toArray below meth c H locs 0 0 (MQ below (pQi g (fun r => r = res.1) (fl [wk6 g t_p t_length t_p_text t_text t_cavities t_p_volume t_volume t_p_freeze t_freeze t_cores t_p_earlier t_earlier t_stages t_p_place t_place t_p_now res.2.1 t_p_was res.2.2.1 res.2.2.2 t_p_one t_one t_readCavities t_p_readCavity t_readCavity t_readCores t_p_readCore t_readCore t_readStages t_p_readStage t_readStage t_p_readRule t_readRule t_value t_ends t_screw]) A) ([.ref t_p, .int l1] : List Value).toArray s 0 0 A) (F0 m 153 ls [.int s2, .int s1, .ref t_p_now]) := by
    intro k_44 hk_44 v1 v2 v3 s1 s2 t_now t_was t_changes H locs ls hf hP hD hS hl
    rw [f6_teach_153] at hf
    obtain ⟨h_35, hf⟩ := if_some hf
    refine va_iast hx hb hK.1 hP hD hS 6 0 rfl rfl (ok_in h_35) dX6_teach_153 (fun H locs hP hD hS => ?_)
    replace hP : va_P g.1 vwCl (fl [wk6 g t_p t_length t_p_text t_text t_cavities t_p_volume t_volume t_p_freeze t_freeze t_cores t_p_earlier t_earlier t_stages t_p_place t_place t_p_now (upd t_now (Int32.toNatClampNeg s1) s2) t_p_was t_was t_changes t_p_one t_one t_readCavities t_p_readCavity t_readCavity t_readCores t_p_readCore t_readCore t_readStages t_p_readStage t_readStage t_p_readRule t_readRule t_value t_ends t_screw]) H := hP
    replace hD : va_D A (fl [wk6 g t_p t_length t_p_text t_text t_cavities t_p_volume t_volume t_p_freeze t_freeze t_cores t_p_earlier t_earlier t_stages t_p_place t_place t_p_now (upd t_now (Int32.toNatClampNeg s1) s2) t_p_was t_was t_changes t_p_one t_one t_readCavities t_p_readCavity t_readCavity t_readCores t_p_readCore t_readCore t_readStages t_p_readStage t_readStage t_p_readRule t_readRule t_value t_ends t_screw]) := hD
    refine lv_iinc (v := v3 + 1) (lv' := [(3, .int (v3 + 1)), (0, .ref t_p), (1, .int v1), (2, .int v2)]) hx hb dX6_teach_154 hl (k := 3) rfl rfl (by decide) rfl (fun ls hl => ?_)
    refine lv_goto (tgt := 44) hx hb dX6_teach_157 (by decide) ?_
    exact hk_44 v1 v2 (v3 + 1) (upd t_now (Int32.toNatClampNeg s1) s2) t_was t_changes H locs ls hf hP hD hS (lv_sub hl [1, 2, 3, 0] rfl)
  have w_138 : ∀ (k_44 : Int32 → Int32 → Int32 → (Nat → Int32) → (Nat → Int32) → Int32 → Option (Int32 × (Nat → Int32) × (Nat → Int32) × Int32)), (∀ (v1 : Int32) (v2 : Int32) (v3 : Int32) (t_now : (Nat → Int32)) (t_was : (Nat → Int32)) (t_changes : Int32) (H : Heap) (locs : List Loc) (ls : Array Slot), k_44 v1 v2 v3 t_now t_was t_changes = some res → va_P g.1 vwCl (fl [wk6 g t_p t_length t_p_text t_text t_cavities t_p_volume t_volume t_p_freeze t_freeze t_cores t_p_earlier t_earlier t_stages t_p_place t_place t_p_now t_now t_p_was t_was t_changes t_p_one t_one t_readCavities t_p_readCavity t_readCavity t_readCores t_p_readCore t_readCore t_readStages t_p_readStage t_readStage t_p_readRule t_readRule t_value t_ends t_screw]) H → va_D A (fl [wk6 g t_p t_length t_p_text t_text t_cavities t_p_volume t_volume t_p_freeze t_freeze t_cores t_p_earlier t_earlier t_stages t_p_place t_place t_p_now t_now t_p_was t_was t_changes t_p_one t_one t_readCavities t_p_readCavity t_readCavity t_readCores t_p_readCore t_readCore t_readStages t_p_readStage t_readStage t_p_readRule t_readRule t_value t_ends t_screw]) → va_S A s.heap H locs → lv_has ls 5 [(0, .ref t_p), (1, .int v1), (2, .int v2), (3, .int v3)] → W p l e ({ frames := 2, cells := 0, slots := 0, locals := 46 }) s m ([.ref t_p, .int l1] : List Value).toArray below meth c H locs 0 0 (MQ below (pQi g (fun r => r = res.1) (fl [wk6 g t_p t_length t_p_text t_text t_cavities t_p_volume t_volume t_p_freeze t_freeze t_cores t_p_earlier t_earlier t_stages t_p_place t_place t_p_now res.2.1 t_p_was res.2.2.1 res.2.2.2 t_p_one t_one t_readCavities t_p_readCavity t_readCavity t_readCores t_p_readCore t_readCore t_readStages t_p_readStage t_readStage t_p_readRule t_readRule t_value t_ends t_screw]) A) ([.ref t_p, .int l1] : List Value).toArray s 0 0 A) (F0 m 44 ls [])) → ∀ (v1 : Int32) (v2 : Int32) (v3 : Int32) (v4 : Int32) (s1 : Int32) (t_now : (Nat → Int32)) (t_was : (Nat → Int32)) (t_changes : Int32) (H : Heap) (locs : List Loc) (ls : Array Slot), f6_teach_138 k_44 N v1 v2 v3 v4 s1 t_now t_was t_changes = some res → va_P g.1 vwCl (fl [wk6 g t_p t_length t_p_text t_text t_cavities t_p_volume t_volume t_p_freeze t_freeze t_cores t_p_earlier t_earlier t_stages t_p_place t_place t_p_now t_now t_p_was t_was t_changes t_p_one t_one t_readCavities t_p_readCavity t_readCavity t_readCores t_p_readCore t_readCore t_readStages t_p_readStage t_readStage t_p_readRule t_readRule t_value t_ends t_screw]) H → va_D A (fl [wk6 g t_p t_length t_p_text t_text t_cavities t_p_volume t_volume t_p_freeze t_freeze t_cores t_p_earlier t_earlier t_stages t_p_place t_place t_p_now t_now t_p_was t_was t_changes t_p_one t_one t_readCavities t_p_readCavity t_readCavity t_readCores t_p_readCore t_readCore t_readStages t_p_readStage t_readStage t_p_readRule t_readRule t_value t_ends t_screw]) → va_S A s.heap H locs → lv_has ls 5 [(0, .ref t_p), (1, .int v1), (2, .int v2), (3, .int v3), (4, .int v4)] → W p l e ({ frames := 2, cells := 0, slots := 0, locals := 46 }) s m ([.ref t_p, .int l1] : List Value).toArray below meth c H locs 0 0 (MQ below (pQi g (fun r => r = res.1) (fl [wk6 g t_p t_length t_p_text t_text t_cavities t_p_volume t_volume t_p_freeze t_freeze t_cores t_p_earlier t_earlier t_stages t_p_place t_place t_p_now res.2.1 t_p_was res.2.2.1 res.2.2.2 t_p_one t_one t_readCavities t_p_readCavity t_readCavity t_readCores t_p_readCore t_readCore t_readStages t_p_readStage t_readStage t_p_readRule t_readRule t_value t_ends t_screw]) A) ([.ref t_p, .int l1] : List Value).toArray s 0 0 A) (F0 m 138 ls [.int s1, .ref t_p_now]) := by
    intro k_44 hk_44 v1 v2 v3 v4 s1 t_now t_was t_changes H locs ls hf hP hD hS hl
    rw [f6_teach_138] at hf
    refine lv_iload hx hb dX6_teach_138 (lv_at hl 4 rfl) ?_
    refine lv_goto (tgt := 153) hx hb dX6_teach_140 (by decide) ?_
    exact w_153 k_44 hk_44 v1 v2 v3 s1 v4 t_now t_was t_changes H locs ls hf hP hD hS (lv_sub hl [0, 1, 2, 3] rfl)
  have w_109 : ∀ (k_44 : Int32 → Int32 → Int32 → (Nat → Int32) → (Nat → Int32) → Int32 → Option (Int32 × (Nat → Int32) × (Nat → Int32) × Int32)), (∀ (v1 : Int32) (v2 : Int32) (v3 : Int32) (t_now : (Nat → Int32)) (t_was : (Nat → Int32)) (t_changes : Int32) (H : Heap) (locs : List Loc) (ls : Array Slot), k_44 v1 v2 v3 t_now t_was t_changes = some res → va_P g.1 vwCl (fl [wk6 g t_p t_length t_p_text t_text t_cavities t_p_volume t_volume t_p_freeze t_freeze t_cores t_p_earlier t_earlier t_stages t_p_place t_place t_p_now t_now t_p_was t_was t_changes t_p_one t_one t_readCavities t_p_readCavity t_readCavity t_readCores t_p_readCore t_readCore t_readStages t_p_readStage t_readStage t_p_readRule t_readRule t_value t_ends t_screw]) H → va_D A (fl [wk6 g t_p t_length t_p_text t_text t_cavities t_p_volume t_volume t_p_freeze t_freeze t_cores t_p_earlier t_earlier t_stages t_p_place t_place t_p_now t_now t_p_was t_was t_changes t_p_one t_one t_readCavities t_p_readCavity t_readCavity t_readCores t_p_readCore t_readCore t_readStages t_p_readStage t_readStage t_p_readRule t_readRule t_value t_ends t_screw]) → va_S A s.heap H locs → lv_has ls 5 [(0, .ref t_p), (1, .int v1), (2, .int v2), (3, .int v3)] → W p l e ({ frames := 2, cells := 0, slots := 0, locals := 46 }) s m ([.ref t_p, .int l1] : List Value).toArray below meth c H locs 0 0 (MQ below (pQi g (fun r => r = res.1) (fl [wk6 g t_p t_length t_p_text t_text t_cavities t_p_volume t_volume t_p_freeze t_freeze t_cores t_p_earlier t_earlier t_stages t_p_place t_place t_p_now res.2.1 t_p_was res.2.2.1 res.2.2.2 t_p_one t_one t_readCavities t_p_readCavity t_readCavity t_readCores t_p_readCore t_readCore t_readStages t_p_readStage t_readStage t_p_readRule t_readRule t_value t_ends t_screw]) A) ([.ref t_p, .int l1] : List Value).toArray s 0 0 A) (F0 m 44 ls [])) → ∀ (v1 : Int32) (v2 : Int32) (v3 : Int32) (v4 : Int32) (s1 : Int32) (s2 : Int32) (t_now : (Nat → Int32)) (t_was : (Nat → Int32)) (t_changes : Int32) (H : Heap) (locs : List Loc) (ls : Array Slot), f6_teach_109 k_44 N v1 v2 v3 v4 s1 s2 t_now t_was t_changes = some res → va_P g.1 vwCl (fl [wk6 g t_p t_length t_p_text t_text t_cavities t_p_volume t_volume t_p_freeze t_freeze t_cores t_p_earlier t_earlier t_stages t_p_place t_place t_p_now t_now t_p_was t_was t_changes t_p_one t_one t_readCavities t_p_readCavity t_readCavity t_readCores t_p_readCore t_readCore t_readStages t_p_readStage t_readStage t_p_readRule t_readRule t_value t_ends t_screw]) H → va_D A (fl [wk6 g t_p t_length t_p_text t_text t_cavities t_p_volume t_volume t_p_freeze t_freeze t_cores t_p_earlier t_earlier t_stages t_p_place t_place t_p_now t_now t_p_was t_was t_changes t_p_one t_one t_readCavities t_p_readCavity t_readCavity t_readCores t_p_readCore t_readCore t_readStages t_p_readStage t_readStage t_p_readRule t_readRule t_value t_ends t_screw]) → va_S A s.heap H locs → lv_has ls 5 [(0, .ref t_p), (1, .int v1), (2, .int v2), (3, .int v3), (4, .int v4)] → W p l e ({ frames := 2, cells := 0, slots := 0, locals := 46 }) s m ([.ref t_p, .int l1] : List Value).toArray below meth c H locs 0 0 (MQ below (pQi g (fun r => r = res.1) (fl [wk6 g t_p t_length t_p_text t_text t_cavities t_p_volume t_volume t_p_freeze t_freeze t_cores t_p_earlier t_earlier t_stages t_p_place t_place t_p_now res.2.1 t_p_was res.2.2.1 res.2.2.2 t_p_one t_one t_readCavities t_p_readCavity t_readCavity t_readCores t_p_readCore t_readCore t_readStages t_p_readStage t_readStage t_p_readRule t_readRule t_value t_ends t_screw]) A) ([.ref t_p, .int l1] : List Value).toArray s 0 0 A) (F0 m 109 ls [.int s2, .int s1, .ref t_p_now]) := by
    intro k_44 hk_44 v1 v2 v3 v4 s1 s2 t_now t_was t_changes H locs ls hf hP hD hS hl
    rw [f6_teach_109] at hf
    obtain ⟨h_30, hf⟩ := if_some hf
    refine va_iast hx hb hK.1 hP hD hS 6 0 rfl rfl (ok_in h_30) dX6_teach_109 (fun H locs hP hD hS => ?_)
    replace hP : va_P g.1 vwCl (fl [wk6 g t_p t_length t_p_text t_text t_cavities t_p_volume t_volume t_p_freeze t_freeze t_cores t_p_earlier t_earlier t_stages t_p_place t_place t_p_now (upd t_now (Int32.toNatClampNeg s1) s2) t_p_was t_was t_changes t_p_one t_one t_readCavities t_p_readCavity t_readCavity t_readCores t_p_readCore t_readCore t_readStages t_p_readStage t_readStage t_p_readRule t_readRule t_value t_ends t_screw]) H := hP
    replace hD : va_D A (fl [wk6 g t_p t_length t_p_text t_text t_cavities t_p_volume t_volume t_p_freeze t_freeze t_cores t_p_earlier t_earlier t_stages t_p_place t_place t_p_now (upd t_now (Int32.toNatClampNeg s1) s2) t_p_was t_was t_changes t_p_one t_one t_readCavities t_p_readCavity t_readCavity t_readCores t_p_readCore t_readCore t_readStages t_p_readStage t_readStage t_p_readRule t_readRule t_value t_ends t_screw]) := hD
    refine lv_aload_n hx hb dX6_teach_110 rfl (lv_at hl 0 rfl) ?_
    refine va_get (D := g.1) (ci := 6) (v := .ref t_p_now) (C := RX6) (T := TX6) (N := 23) hx hb hts hin6 hown hK.1 hP 0 rfl rfl 9 (by decide) L1 (fun _ h9 => h9) rfl dX6_teach_111 ?_
    refine lv_sipush (v := 1079) hx hb dX6_teach_114 (by decide) ?_
    refine lv_iload_n hx hb dX6_teach_117 rfl (lv_at hl 3 rfl) ?_
    refine lv_iadd hx hb dX6_teach_118 ?_
    refine lv_iload_n hx hb dX6_teach_119 rfl (lv_at hl 2 rfl) ?_
    refine lv_if_ne (tgt := 138) hx hb dX6_teach_120 (by decide) (fun c_31 => ?_) (fun c_31 => ?_)
    · replace hf := (if_neg c_31).symm.trans hf
      exact w_138 k_44 hk_44 v1 v2 v3 v4 (1079 + v3) (upd t_now (Int32.toNatClampNeg s1) s2) t_was t_changes H locs ls hf hP hD hS (lv_sub hl [0, 1, 2, 3, 4] rfl)
    · replace hf := (if_pos c_31).symm.trans hf
      refine lv_iload hx hb dX6_teach_123 (lv_at hl 4 rfl) ?_
      refine lv_aload_n hx hb dX6_teach_125 rfl (lv_at hl 0 rfl) ?_
      refine va_get (D := g.1) (ci := 6) (v := .ref t_p_now) (C := RX6) (T := TX6) (N := 23) hx hb hts hin6 hown hK.1 hP 0 rfl rfl 9 (by decide) L1 (fun _ h9 => h9) rfl dX6_teach_126 ?_
      refine lv_sipush (v := 1079) hx hb dX6_teach_129 (by decide) ?_
      refine lv_iload_n hx hb dX6_teach_132 rfl (lv_at hl 3 rfl) ?_
      refine lv_iadd hx hb dX6_teach_133 ?_
      obtain ⟨h_32, hf⟩ := if_some hf
      refine va_iald hx hb hK.1 hP 6 0 rfl rfl (ok_in h_32) dX6_teach_134 ?_
      refine lv_icmp_le (tgt := 143) hx hb dX6_teach_135 (by decide) (fun c_33 => ?_) (fun c_33 => ?_)
      · replace hf := (if_pos c_33).symm.trans hf
        refine lv_aload_n hx hb dX6_teach_143 rfl (lv_at hl 0 rfl) ?_
        refine va_get (D := g.1) (ci := 6) (v := .ref t_p_now) (C := RX6) (T := TX6) (N := 23) hx hb hts hin6 hown hK.1 hP 0 rfl rfl 9 (by decide) L1 (fun _ h9 => h9) rfl dX6_teach_144 ?_
        refine lv_sipush (v := 1079) hx hb dX6_teach_147 (by decide) ?_
        refine lv_iload_n hx hb dX6_teach_150 rfl (lv_at hl 3 rfl) ?_
        refine lv_iadd hx hb dX6_teach_151 ?_
        obtain ⟨h_34, hf⟩ := if_some hf
        refine va_iald hx hb hK.1 hP 6 0 rfl rfl (ok_in h_34) dX6_teach_152 ?_
        exact w_153 k_44 hk_44 v1 v2 v3 (1079 + v3) ((upd t_now (Int32.toNatClampNeg s1) s2) (Int32.toNatClampNeg (1079 + v3))) (upd t_now (Int32.toNatClampNeg s1) s2) t_was t_changes H locs ls hf hP hD hS (lv_sub hl [0, 1, 2, 3] rfl)
      · replace hf := (if_neg c_33).symm.trans hf
        exact w_138 k_44 hk_44 v1 v2 v3 v4 (1079 + v3) (upd t_now (Int32.toNatClampNeg s1) s2) t_was t_changes H locs ls hf hP hD hS (lv_sub hl [0, 1, 2, 3, 4] rfl)
  have w_94 : ∀ (k_44 : Int32 → Int32 → Int32 → (Nat → Int32) → (Nat → Int32) → Int32 → Option (Int32 × (Nat → Int32) × (Nat → Int32) × Int32)), (∀ (v1 : Int32) (v2 : Int32) (v3 : Int32) (t_now : (Nat → Int32)) (t_was : (Nat → Int32)) (t_changes : Int32) (H : Heap) (locs : List Loc) (ls : Array Slot), k_44 v1 v2 v3 t_now t_was t_changes = some res → va_P g.1 vwCl (fl [wk6 g t_p t_length t_p_text t_text t_cavities t_p_volume t_volume t_p_freeze t_freeze t_cores t_p_earlier t_earlier t_stages t_p_place t_place t_p_now t_now t_p_was t_was t_changes t_p_one t_one t_readCavities t_p_readCavity t_readCavity t_readCores t_p_readCore t_readCore t_readStages t_p_readStage t_readStage t_p_readRule t_readRule t_value t_ends t_screw]) H → va_D A (fl [wk6 g t_p t_length t_p_text t_text t_cavities t_p_volume t_volume t_p_freeze t_freeze t_cores t_p_earlier t_earlier t_stages t_p_place t_place t_p_now t_now t_p_was t_was t_changes t_p_one t_one t_readCavities t_p_readCavity t_readCavity t_readCores t_p_readCore t_readCore t_readStages t_p_readStage t_readStage t_p_readRule t_readRule t_value t_ends t_screw]) → va_S A s.heap H locs → lv_has ls 5 [(0, .ref t_p), (1, .int v1), (2, .int v2), (3, .int v3)] → W p l e ({ frames := 2, cells := 0, slots := 0, locals := 46 }) s m ([.ref t_p, .int l1] : List Value).toArray below meth c H locs 0 0 (MQ below (pQi g (fun r => r = res.1) (fl [wk6 g t_p t_length t_p_text t_text t_cavities t_p_volume t_volume t_p_freeze t_freeze t_cores t_p_earlier t_earlier t_stages t_p_place t_place t_p_now res.2.1 t_p_was res.2.2.1 res.2.2.2 t_p_one t_one t_readCavities t_p_readCavity t_readCavity t_readCores t_p_readCore t_readCore t_readStages t_p_readStage t_readStage t_p_readRule t_readRule t_value t_ends t_screw]) A) ([.ref t_p, .int l1] : List Value).toArray s 0 0 A) (F0 m 44 ls [])) → ∀ (v1 : Int32) (v2 : Int32) (v3 : Int32) (v4 : Int32) (s1 : Int32) (t_now : (Nat → Int32)) (t_was : (Nat → Int32)) (t_changes : Int32) (H : Heap) (locs : List Loc) (ls : Array Slot), f6_teach_94 k_44 N v1 v2 v3 v4 s1 t_now t_was t_changes = some res → va_P g.1 vwCl (fl [wk6 g t_p t_length t_p_text t_text t_cavities t_p_volume t_volume t_p_freeze t_freeze t_cores t_p_earlier t_earlier t_stages t_p_place t_place t_p_now t_now t_p_was t_was t_changes t_p_one t_one t_readCavities t_p_readCavity t_readCavity t_readCores t_p_readCore t_readCore t_readStages t_p_readStage t_readStage t_p_readRule t_readRule t_value t_ends t_screw]) H → va_D A (fl [wk6 g t_p t_length t_p_text t_text t_cavities t_p_volume t_volume t_p_freeze t_freeze t_cores t_p_earlier t_earlier t_stages t_p_place t_place t_p_now t_now t_p_was t_was t_changes t_p_one t_one t_readCavities t_p_readCavity t_readCavity t_readCores t_p_readCore t_readCore t_readStages t_p_readStage t_readStage t_p_readRule t_readRule t_value t_ends t_screw]) → va_S A s.heap H locs → lv_has ls 5 [(0, .ref t_p), (1, .int v1), (2, .int v2), (3, .int v3), (4, .int v4)] → W p l e ({ frames := 2, cells := 0, slots := 0, locals := 46 }) s m ([.ref t_p, .int l1] : List Value).toArray below meth c H locs 0 0 (MQ below (pQi g (fun r => r = res.1) (fl [wk6 g t_p t_length t_p_text t_text t_cavities t_p_volume t_volume t_p_freeze t_freeze t_cores t_p_earlier t_earlier t_stages t_p_place t_place t_p_now res.2.1 t_p_was res.2.2.1 res.2.2.2 t_p_one t_one t_readCavities t_p_readCavity t_readCavity t_readCores t_p_readCore t_readCore t_readStages t_p_readStage t_readStage t_p_readRule t_readRule t_value t_ends t_screw]) A) ([.ref t_p, .int l1] : List Value).toArray s 0 0 A) (F0 m 94 ls [.int s1, .ref t_p_now]) := by
    intro k_44 hk_44 v1 v2 v3 v4 s1 t_now t_was t_changes H locs ls hf hP hD hS hl
    rw [f6_teach_94] at hf
    refine lv_iload hx hb dX6_teach_94 (lv_at hl 4 rfl) ?_
    refine lv_goto (tgt := 109) hx hb dX6_teach_96 (by decide) ?_
    exact w_109 k_44 hk_44 v1 v2 v3 v4 s1 v4 t_now t_was t_changes H locs ls hf hP hD hS (lv_sub hl [0, 1, 2, 3, 4] rfl)
  have w_243 : ∀ (s1 : Int32) (s2 : Int32) (t_now : (Nat → Int32)) (t_was : (Nat → Int32)) (t_changes : Int32) (H : Heap) (locs : List Loc) (ls : Array Slot), f6_teach_243  N s1 s2 t_now t_was t_changes = some res → va_P g.1 vwCl (fl [wk6 g t_p t_length t_p_text t_text t_cavities t_p_volume t_volume t_p_freeze t_freeze t_cores t_p_earlier t_earlier t_stages t_p_place t_place t_p_now t_now t_p_was t_was t_changes t_p_one t_one t_readCavities t_p_readCavity t_readCavity t_readCores t_p_readCore t_readCore t_readStages t_p_readStage t_readStage t_p_readRule t_readRule t_value t_ends t_screw]) H → va_D A (fl [wk6 g t_p t_length t_p_text t_text t_cavities t_p_volume t_volume t_p_freeze t_freeze t_cores t_p_earlier t_earlier t_stages t_p_place t_place t_p_now t_now t_p_was t_was t_changes t_p_one t_one t_readCavities t_p_readCavity t_readCavity t_readCores t_p_readCore t_readCore t_readStages t_p_readStage t_readStage t_p_readRule t_readRule t_value t_ends t_screw]) → va_S A s.heap H locs → lv_has ls 5 [(0, .ref t_p)] → W p l e ({ frames := 2, cells := 0, slots := 0, locals := 46 }) s m ([.ref t_p, .int l1] : List Value).toArray below meth c H locs 0 0 (MQ below (pQi g (fun r => r = res.1) (fl [wk6 g t_p t_length t_p_text t_text t_cavities t_p_volume t_volume t_p_freeze t_freeze t_cores t_p_earlier t_earlier t_stages t_p_place t_place t_p_now res.2.1 t_p_was res.2.2.1 res.2.2.2 t_p_one t_one t_readCavities t_p_readCavity t_readCavity t_readCores t_p_readCore t_readCore t_readStages t_p_readStage t_readStage t_p_readRule t_readRule t_value t_ends t_screw]) A) ([.ref t_p, .int l1] : List Value).toArray s 0 0 A) (F0 m 243 ls [.int s2, .int s1, .ref t_p_now]) := by
    intro  s1 s2 t_now t_was t_changes H locs ls hf hP hD hS hl
    rw [f6_teach_243] at hf
    obtain ⟨h_26, hf⟩ := if_some hf
    refine va_iast hx hb hK.1 hP hD hS 6 0 rfl rfl (ok_in h_26) dX6_teach_243 (fun H locs hP hD hS => ?_)
    replace hP : va_P g.1 vwCl (fl [wk6 g t_p t_length t_p_text t_text t_cavities t_p_volume t_volume t_p_freeze t_freeze t_cores t_p_earlier t_earlier t_stages t_p_place t_place t_p_now (upd t_now (Int32.toNatClampNeg s1) s2) t_p_was t_was t_changes t_p_one t_one t_readCavities t_p_readCavity t_readCavity t_readCores t_p_readCore t_readCore t_readStages t_p_readStage t_readStage t_p_readRule t_readRule t_value t_ends t_screw]) H := hP
    replace hD : va_D A (fl [wk6 g t_p t_length t_p_text t_text t_cavities t_p_volume t_volume t_p_freeze t_freeze t_cores t_p_earlier t_earlier t_stages t_p_place t_place t_p_now (upd t_now (Int32.toNatClampNeg s1) s2) t_p_was t_was t_changes t_p_one t_one t_readCavities t_p_readCavity t_readCavity t_readCores t_p_readCore t_readCore t_readStages t_p_readStage t_readStage t_p_readRule t_readRule t_value t_ends t_screw]) := hD
    refine lv_aload_n hx hb dX6_teach_244 rfl (lv_at hl 0 rfl) ?_
    refine va_get (D := g.1) (ci := 6) (v := .ref t_p_now) (C := RX6) (T := TX6) (N := 23) hx hb hts hin6 hown hK.1 hP 0 rfl rfl 9 (by decide) L1 (fun _ h9 => h9) rfl dX6_teach_245 ?_
    refine lv_sipush (v := 1015) hx hb dX6_teach_248 (by decide) ?_
    refine lv_dup2_11 hx hb dX6_teach_251 rfl rfl ?_
    obtain ⟨h_27, hf⟩ := if_some hf
    refine va_iald hx hb hK.1 hP 6 0 rfl rfl (ok_in h_27) dX6_teach_252 ?_
    refine lv_iconst (v := 1) hx hb dX6_teach_253 (by decide) ?_
    refine lv_iadd hx hb dX6_teach_254 ?_
    obtain ⟨h_28, hf⟩ := if_some hf
    refine va_iast hx hb hK.1 hP hD hS 6 0 rfl rfl (ok_in h_28) dX6_teach_255 (fun H locs hP hD hS => ?_)
    replace hP : va_P g.1 vwCl (fl [wk6 g t_p t_length t_p_text t_text t_cavities t_p_volume t_volume t_p_freeze t_freeze t_cores t_p_earlier t_earlier t_stages t_p_place t_place t_p_now (upd (upd t_now (Int32.toNatClampNeg s1) s2) (Int32.toNatClampNeg 1015) (((upd t_now (Int32.toNatClampNeg s1) s2) (Int32.toNatClampNeg 1015)) + 1)) t_p_was t_was t_changes t_p_one t_one t_readCavities t_p_readCavity t_readCavity t_readCores t_p_readCore t_readCore t_readStages t_p_readStage t_readStage t_p_readRule t_readRule t_value t_ends t_screw]) H := hP
    replace hD : va_D A (fl [wk6 g t_p t_length t_p_text t_text t_cavities t_p_volume t_volume t_p_freeze t_freeze t_cores t_p_earlier t_earlier t_stages t_p_place t_place t_p_now (upd (upd t_now (Int32.toNatClampNeg s1) s2) (Int32.toNatClampNeg 1015) (((upd t_now (Int32.toNatClampNeg s1) s2) (Int32.toNatClampNeg 1015)) + 1)) t_p_was t_was t_changes t_p_one t_one t_readCavities t_p_readCavity t_readCavity t_readCores t_p_readCore t_readCore t_readStages t_p_readStage t_readStage t_p_readRule t_readRule t_value t_ends t_screw]) := hD
    refine lv_aload_n hx hb dX6_teach_256 rfl (lv_at hl 0 rfl) ?_
    refine va_get (D := g.1) (ci := 6) (v := .ref t_p_now) (C := RX6) (T := TX6) (N := 23) hx hb hts hin6 hown hK.1 hP 0 rfl rfl 9 (by decide) L1 (fun _ h9 => h9) rfl dX6_teach_257 ?_
    refine lv_sipush (v := 1015) hx hb dX6_teach_260 (by decide) ?_
    obtain ⟨h_29, hf⟩ := if_some hf
    refine va_iald hx hb hK.1 hP 6 0 rfl rfl (ok_in h_29) dX6_teach_263 ?_
    replace hf := Option.some.inj hf
    subst hf
    exact W.iret (v := (upd (upd t_now (Int32.toNatClampNeg s1) s2) (Int32.toNatClampNeg 1015) (((upd t_now (Int32.toNatClampNeg s1) s2) (Int32.toNatClampNeg 1015)) + 1)) (Int32.toNatClampNeg 1015)) hx hb hr (fun t ht hW => ⟨⟨_, (), rfl, rfl, by show va_P g.1 vwCl _ t.heap; rw [ht]; exact hP⟩, hS.F ht⟩) hS.2.2 dX6_teach_264 hlocks
  have w_231 : ∀ (v3 : Int32) (s1 : Int32) (t_now : (Nat → Int32)) (t_was : (Nat → Int32)) (t_changes : Int32) (H : Heap) (locs : List Loc) (ls : Array Slot), f6_teach_231  N v3 s1 t_now t_was t_changes = some res → va_P g.1 vwCl (fl [wk6 g t_p t_length t_p_text t_text t_cavities t_p_volume t_volume t_p_freeze t_freeze t_cores t_p_earlier t_earlier t_stages t_p_place t_place t_p_now t_now t_p_was t_was t_changes t_p_one t_one t_readCavities t_p_readCavity t_readCavity t_readCores t_p_readCore t_readCore t_readStages t_p_readStage t_readStage t_p_readRule t_readRule t_value t_ends t_screw]) H → va_D A (fl [wk6 g t_p t_length t_p_text t_text t_cavities t_p_volume t_volume t_p_freeze t_freeze t_cores t_p_earlier t_earlier t_stages t_p_place t_place t_p_now t_now t_p_was t_was t_changes t_p_one t_one t_readCavities t_p_readCavity t_readCavity t_readCores t_p_readCore t_readCore t_readStages t_p_readStage t_readStage t_p_readRule t_readRule t_value t_ends t_screw]) → va_S A s.heap H locs → lv_has ls 5 [(0, .ref t_p), (3, .int v3)] → W p l e ({ frames := 2, cells := 0, slots := 0, locals := 46 }) s m ([.ref t_p, .int l1] : List Value).toArray below meth c H locs 0 0 (MQ below (pQi g (fun r => r = res.1) (fl [wk6 g t_p t_length t_p_text t_text t_cavities t_p_volume t_volume t_p_freeze t_freeze t_cores t_p_earlier t_earlier t_stages t_p_place t_place t_p_now res.2.1 t_p_was res.2.2.1 res.2.2.2 t_p_one t_one t_readCavities t_p_readCavity t_readCavity t_readCores t_p_readCore t_readCore t_readStages t_p_readStage t_readStage t_p_readRule t_readRule t_value t_ends t_screw]) A) ([.ref t_p, .int l1] : List Value).toArray s 0 0 A) (F0 m 231 ls [.int s1, .ref t_p_now]) := by
    intro  v3 s1 t_now t_was t_changes H locs ls hf hP hD hS hl
    rw [f6_teach_231] at hf
    refine lv_iload_n hx hb dX6_teach_231 rfl (lv_at hl 1 rfl) ?_
    refine lv_goto (tgt := 243) hx hb dX6_teach_232 (by decide) ?_
    exact w_243  s1 v3 t_now t_was t_changes H locs ls hf hP hD hS (lv_sub hl [0] rfl)
  have w_207 : ∀ (v2 : Int32) (v3 : Int32) (s1 : Int32) (s2 : Int32) (t_now : (Nat → Int32)) (t_was : (Nat → Int32)) (t_changes : Int32) (H : Heap) (locs : List Loc) (ls : Array Slot), f6_teach_207  N v2 v3 s1 s2 t_now t_was t_changes = some res → va_P g.1 vwCl (fl [wk6 g t_p t_length t_p_text t_text t_cavities t_p_volume t_volume t_p_freeze t_freeze t_cores t_p_earlier t_earlier t_stages t_p_place t_place t_p_now t_now t_p_was t_was t_changes t_p_one t_one t_readCavities t_p_readCavity t_readCavity t_readCores t_p_readCore t_readCore t_readStages t_p_readStage t_readStage t_p_readRule t_readRule t_value t_ends t_screw]) H → va_D A (fl [wk6 g t_p t_length t_p_text t_text t_cavities t_p_volume t_volume t_p_freeze t_freeze t_cores t_p_earlier t_earlier t_stages t_p_place t_place t_p_now t_now t_p_was t_was t_changes t_p_one t_one t_readCavities t_p_readCavity t_readCavity t_readCores t_p_readCore t_readCore t_readStages t_p_readStage t_readStage t_p_readRule t_readRule t_value t_ends t_screw]) → va_S A s.heap H locs → lv_has ls 5 [(0, .ref t_p), (2, .int v2), (3, .int v3)] → W p l e ({ frames := 2, cells := 0, slots := 0, locals := 46 }) s m ([.ref t_p, .int l1] : List Value).toArray below meth c H locs 0 0 (MQ below (pQi g (fun r => r = res.1) (fl [wk6 g t_p t_length t_p_text t_text t_cavities t_p_volume t_volume t_p_freeze t_freeze t_cores t_p_earlier t_earlier t_stages t_p_place t_place t_p_now res.2.1 t_p_was res.2.2.1 res.2.2.2 t_p_one t_one t_readCavities t_p_readCavity t_readCavity t_readCores t_p_readCore t_readCore t_readStages t_p_readStage t_readStage t_p_readRule t_readRule t_value t_ends t_screw]) A) ([.ref t_p, .int l1] : List Value).toArray s 0 0 A) (F0 m 207 ls [.int s2, .int s1, .ref t_p_now]) := by
    intro  v2 v3 s1 s2 t_now t_was t_changes H locs ls hf hP hD hS hl
    rw [f6_teach_207] at hf
    obtain ⟨h_21, hf⟩ := if_some hf
    refine va_iast hx hb hK.1 hP hD hS 6 0 rfl rfl (ok_in h_21) dX6_teach_207 (fun H locs hP hD hS => ?_)
    replace hP : va_P g.1 vwCl (fl [wk6 g t_p t_length t_p_text t_text t_cavities t_p_volume t_volume t_p_freeze t_freeze t_cores t_p_earlier t_earlier t_stages t_p_place t_place t_p_now (upd t_now (Int32.toNatClampNeg s1) s2) t_p_was t_was t_changes t_p_one t_one t_readCavities t_p_readCavity t_readCavity t_readCores t_p_readCore t_readCore t_readStages t_p_readStage t_readStage t_p_readRule t_readRule t_value t_ends t_screw]) H := hP
    replace hD : va_D A (fl [wk6 g t_p t_length t_p_text t_text t_cavities t_p_volume t_volume t_p_freeze t_freeze t_cores t_p_earlier t_earlier t_stages t_p_place t_place t_p_now (upd t_now (Int32.toNatClampNeg s1) s2) t_p_was t_was t_changes t_p_one t_one t_readCavities t_p_readCavity t_readCavity t_readCores t_p_readCore t_readCore t_readStages t_p_readStage t_readStage t_p_readRule t_readRule t_value t_ends t_screw]) := hD
    refine lv_aload_n hx hb dX6_teach_208 rfl (lv_at hl 0 rfl) ?_
    refine va_get (D := g.1) (ci := 6) (v := .ref t_p_now) (C := RX6) (T := TX6) (N := 23) hx hb hts hin6 hown hK.1 hP 0 rfl rfl 9 (by decide) L1 (fun _ h9 => h9) rfl dX6_teach_209 ?_
    refine lv_sipush (v := 1017) hx hb dX6_teach_212 (by decide) ?_
    refine lv_iload_n hx hb dX6_teach_215 rfl (lv_at hl 1 rfl) ?_
    refine lv_if_ne (tgt := 231) hx hb dX6_teach_216 (by decide) (fun c_22 => ?_) (fun c_22 => ?_)
    · replace hf := (if_neg c_22).symm.trans hf
      exact w_231  v3 1017 (upd t_now (Int32.toNatClampNeg s1) s2) t_was t_changes H locs ls hf hP hD hS (lv_sub hl [0, 2] rfl)
    · replace hf := (if_pos c_22).symm.trans hf
      refine lv_iload_n hx hb dX6_teach_219 rfl (lv_at hl 2 rfl) ?_
      refine lv_aload_n hx hb dX6_teach_220 rfl (lv_at hl 0 rfl) ?_
      refine va_get (D := g.1) (ci := 6) (v := .ref t_p_now) (C := RX6) (T := TX6) (N := 23) hx hb hts hin6 hown hK.1 hP 0 rfl rfl 9 (by decide) L1 (fun _ h9 => h9) rfl dX6_teach_221 ?_
      refine lv_sipush (v := 1017) hx hb dX6_teach_224 (by decide) ?_
      obtain ⟨h_23, hf⟩ := if_some hf
      refine va_iald hx hb hK.1 hP 6 0 rfl rfl (ok_in h_23) dX6_teach_227 ?_
      refine lv_icmp_le (tgt := 235) hx hb dX6_teach_228 (by decide) (fun c_24 => ?_) (fun c_24 => ?_)
      · replace hf := (if_pos c_24).symm.trans hf
        refine lv_aload_n hx hb dX6_teach_235 rfl (lv_at hl 0 rfl) ?_
        refine va_get (D := g.1) (ci := 6) (v := .ref t_p_now) (C := RX6) (T := TX6) (N := 23) hx hb hts hin6 hown hK.1 hP 0 rfl rfl 9 (by decide) L1 (fun _ h9 => h9) rfl dX6_teach_236 ?_
        refine lv_sipush (v := 1017) hx hb dX6_teach_239 (by decide) ?_
        obtain ⟨h_25, hf⟩ := if_some hf
        refine va_iald hx hb hK.1 hP 6 0 rfl rfl (ok_in h_25) dX6_teach_242 ?_
        exact w_243  1017 ((upd t_now (Int32.toNatClampNeg s1) s2) (Int32.toNatClampNeg 1017)) (upd t_now (Int32.toNatClampNeg s1) s2) t_was t_changes H locs ls hf hP hD hS (lv_sub hl [0] rfl)
      · replace hf := (if_neg c_24).symm.trans hf
        exact w_231  v3 1017 (upd t_now (Int32.toNatClampNeg s1) s2) t_was t_changes H locs ls hf hP hD hS (lv_sub hl [0, 2] rfl)
  have w_195 : ∀ (v2 : Int32) (v3 : Int32) (s1 : Int32) (t_now : (Nat → Int32)) (t_was : (Nat → Int32)) (t_changes : Int32) (H : Heap) (locs : List Loc) (ls : Array Slot), f6_teach_195  N v2 v3 s1 t_now t_was t_changes = some res → va_P g.1 vwCl (fl [wk6 g t_p t_length t_p_text t_text t_cavities t_p_volume t_volume t_p_freeze t_freeze t_cores t_p_earlier t_earlier t_stages t_p_place t_place t_p_now t_now t_p_was t_was t_changes t_p_one t_one t_readCavities t_p_readCavity t_readCavity t_readCores t_p_readCore t_readCore t_readStages t_p_readStage t_readStage t_p_readRule t_readRule t_value t_ends t_screw]) H → va_D A (fl [wk6 g t_p t_length t_p_text t_text t_cavities t_p_volume t_volume t_p_freeze t_freeze t_cores t_p_earlier t_earlier t_stages t_p_place t_place t_p_now t_now t_p_was t_was t_changes t_p_one t_one t_readCavities t_p_readCavity t_readCavity t_readCores t_p_readCore t_readCore t_readStages t_p_readStage t_readStage t_p_readRule t_readRule t_value t_ends t_screw]) → va_S A s.heap H locs → lv_has ls 5 [(0, .ref t_p), (2, .int v2), (3, .int v3)] → W p l e ({ frames := 2, cells := 0, slots := 0, locals := 46 }) s m ([.ref t_p, .int l1] : List Value).toArray below meth c H locs 0 0 (MQ below (pQi g (fun r => r = res.1) (fl [wk6 g t_p t_length t_p_text t_text t_cavities t_p_volume t_volume t_p_freeze t_freeze t_cores t_p_earlier t_earlier t_stages t_p_place t_place t_p_now res.2.1 t_p_was res.2.2.1 res.2.2.2 t_p_one t_one t_readCavities t_p_readCavity t_readCavity t_readCores t_p_readCore t_readCore t_readStages t_p_readStage t_readStage t_p_readRule t_readRule t_value t_ends t_screw]) A) ([.ref t_p, .int l1] : List Value).toArray s 0 0 A) (F0 m 195 ls [.int s1, .ref t_p_now]) := by
    intro  v2 v3 s1 t_now t_was t_changes H locs ls hf hP hD hS hl
    rw [f6_teach_195] at hf
    refine lv_iload_n hx hb dX6_teach_195 rfl (lv_at hl 2 rfl) ?_
    refine lv_goto (tgt := 207) hx hb dX6_teach_196 (by decide) ?_
    exact w_207  v2 v3 s1 v3 t_now t_was t_changes H locs ls hf hP hD hS (lv_sub hl [0, 1, 2] rfl)
  have w_44 : ∀ n : Nat, ∀ (v1 : Int32) (v2 : Int32) (v3 : Int32) (t_now : (Nat → Int32)) (t_was : (Nat → Int32)) (t_changes : Int32) (H : Heap) (locs : List Loc) (ls : Array Slot), f6_teach_44  N n v1 v2 v3 t_now t_was t_changes = some res → va_P g.1 vwCl (fl [wk6 g t_p t_length t_p_text t_text t_cavities t_p_volume t_volume t_p_freeze t_freeze t_cores t_p_earlier t_earlier t_stages t_p_place t_place t_p_now t_now t_p_was t_was t_changes t_p_one t_one t_readCavities t_p_readCavity t_readCavity t_readCores t_p_readCore t_readCore t_readStages t_p_readStage t_readStage t_p_readRule t_readRule t_value t_ends t_screw]) H → va_D A (fl [wk6 g t_p t_length t_p_text t_text t_cavities t_p_volume t_volume t_p_freeze t_freeze t_cores t_p_earlier t_earlier t_stages t_p_place t_place t_p_now t_now t_p_was t_was t_changes t_p_one t_one t_readCavities t_p_readCavity t_readCavity t_readCores t_p_readCore t_readCore t_readStages t_p_readStage t_readStage t_p_readRule t_readRule t_value t_ends t_screw]) → va_S A s.heap H locs → lv_has ls 5 [(0, .ref t_p), (1, .int v1), (2, .int v2), (3, .int v3)] → W p l e ({ frames := 2, cells := 0, slots := 0, locals := 46 }) s m ([.ref t_p, .int l1] : List Value).toArray below meth c H locs 0 0 (MQ below (pQi g (fun r => r = res.1) (fl [wk6 g t_p t_length t_p_text t_text t_cavities t_p_volume t_volume t_p_freeze t_freeze t_cores t_p_earlier t_earlier t_stages t_p_place t_place t_p_now res.2.1 t_p_was res.2.2.1 res.2.2.2 t_p_one t_one t_readCavities t_p_readCavity t_readCavity t_readCores t_p_readCore t_readCore t_readStages t_p_readStage t_readStage t_p_readRule t_readRule t_value t_ends t_screw]) A) ([.ref t_p, .int l1] : List Value).toArray s 0 0 A) (F0 m 44 ls []) := by
    intro  n
    induction n with
    | zero => intro v1 v2 v3 t_now t_was t_changes H locs ls hf; exact no_some hf
    | succ n ih =>
      intro v1 v2 v3 t_now t_was t_changes H locs ls hf hP hD hS hl
      rw [f6_teach_44] at hf
      refine lv_iload_n hx hb dX6_teach_44 rfl (lv_at hl 3 rfl) ?_
      refine lv_bipush (v := 60) hx hb dX6_teach_45 (by decide) ?_
      refine lv_icmp_ge (tgt := 160) hx hb dX6_teach_47 (by decide) (fun c_10 => ?_) (fun c_10 => ?_)
      · replace hf := (if_pos c_10).symm.trans hf
        refine lv_aload_n hx hb dX6_teach_160 rfl (lv_at hl 0 rfl) ?_
        refine va_get (D := g.1) (ci := 6) (v := .ref t_p_now) (C := RX6) (T := TX6) (N := 23) hx hb hts hin6 hown hK.1 hP 0 rfl rfl 9 (by decide) L1 (fun _ h9 => h9) rfl dX6_teach_161 ?_
        refine lv_bipush (v := 84) hx hb dX6_teach_164 (by decide) ?_
        refine lv_iload_n hx hb dX6_teach_166 rfl (lv_at hl 1 rfl) ?_
        refine lv_imul hx hb dX6_teach_167 ?_
        refine lv_iconst (v := 1) hx hb dX6_teach_168 (by decide) ?_
        refine lv_iadd hx hb dX6_teach_169 ?_
        obtain ⟨h_11, hf⟩ := if_some hf
        refine va_iald hx hb hK.1 hP 6 0 rfl rfl (ok_in h_11) dX6_teach_170 ?_
        refine lv_istore_n (lv' := [(3, .int (t_now (Int32.toNatClampNeg ((84 * v1) + 1)))), (0, .ref t_p), (1, .int v1), (2, .int v2)]) hx hb dX6_teach_171 rfl hl (by decide) rfl (fun ls hl => ?_)
        refine lv_aload_n hx hb dX6_teach_172 rfl (lv_at hl 1 rfl) ?_
        refine va_get (D := g.1) (ci := 6) (v := .ref t_p_now) (C := RX6) (T := TX6) (N := 23) hx hb hts hin6 hown hK.1 hP 0 rfl rfl 9 (by decide) L1 (fun _ h9 => h9) rfl dX6_teach_173 ?_
        refine lv_sipush (v := 1016) hx hb dX6_teach_176 (by decide) ?_
        refine lv_iload_n hx hb dX6_teach_179 rfl (lv_at hl 3 rfl) ?_
        refine lv_if_ne (tgt := 195) hx hb dX6_teach_180 (by decide) (fun c_12 => ?_) (fun c_12 => ?_)
        · replace hf := (if_neg c_12).symm.trans hf
          exact w_195  v2 (t_now (Int32.toNatClampNeg ((84 * v1) + 1))) 1016 t_now t_was t_changes H locs ls hf hP hD hS (lv_sub hl [1, 3, 0] rfl)
        · replace hf := (if_pos c_12).symm.trans hf
          refine lv_iload_n hx hb dX6_teach_183 rfl (lv_at hl 0 rfl) ?_
          refine lv_aload_n hx hb dX6_teach_184 rfl (lv_at hl 1 rfl) ?_
          refine va_get (D := g.1) (ci := 6) (v := .ref t_p_now) (C := RX6) (T := TX6) (N := 23) hx hb hts hin6 hown hK.1 hP 0 rfl rfl 9 (by decide) L1 (fun _ h9 => h9) rfl dX6_teach_185 ?_
          refine lv_sipush (v := 1016) hx hb dX6_teach_188 (by decide) ?_
          obtain ⟨h_13, hf⟩ := if_some hf
          refine va_iald hx hb hK.1 hP 6 0 rfl rfl (ok_in h_13) dX6_teach_191 ?_
          refine lv_icmp_ge (tgt := 199) hx hb dX6_teach_192 (by decide) (fun c_14 => ?_) (fun c_14 => ?_)
          · replace hf := (if_pos c_14).symm.trans hf
            refine lv_aload_n hx hb dX6_teach_199 rfl (lv_at hl 1 rfl) ?_
            refine va_get (D := g.1) (ci := 6) (v := .ref t_p_now) (C := RX6) (T := TX6) (N := 23) hx hb hts hin6 hown hK.1 hP 0 rfl rfl 9 (by decide) L1 (fun _ h9 => h9) rfl dX6_teach_200 ?_
            refine lv_sipush (v := 1016) hx hb dX6_teach_203 (by decide) ?_
            obtain ⟨h_15, hf⟩ := if_some hf
            refine va_iald hx hb hK.1 hP 6 0 rfl rfl (ok_in h_15) dX6_teach_206 ?_
            exact w_207  v2 (t_now (Int32.toNatClampNeg ((84 * v1) + 1))) 1016 (t_now (Int32.toNatClampNeg 1016)) t_now t_was t_changes H locs ls hf hP hD hS (lv_sub hl [1, 3, 0] rfl)
          · replace hf := (if_neg c_14).symm.trans hf
            exact w_195  v2 (t_now (Int32.toNatClampNeg ((84 * v1) + 1))) 1016 t_now t_was t_changes H locs ls hf hP hD hS (lv_sub hl [1, 3, 0] rfl)
      · replace hf := (if_neg c_10).symm.trans hf
        refine lv_aload_n hx hb dX6_teach_50 rfl (lv_at hl 0 rfl) ?_
        refine va_get (D := g.1) (ci := 6) (v := .ref t_p_now) (C := RX6) (T := TX6) (N := 23) hx hb hts hin6 hown hK.1 hP 0 rfl rfl 9 (by decide) L1 (fun _ h9 => h9) rfl dX6_teach_51 ?_
        refine lv_bipush (v := 84) hx hb dX6_teach_54 (by decide) ?_
        refine lv_iload_n hx hb dX6_teach_56 rfl (lv_at hl 1 rfl) ?_
        refine lv_imul hx hb dX6_teach_57 ?_
        refine lv_bipush (v := 6) hx hb dX6_teach_58 (by decide) ?_
        refine lv_iadd hx hb dX6_teach_60 ?_
        refine lv_iload_n hx hb dX6_teach_61 rfl (lv_at hl 3 rfl) ?_
        refine lv_iadd hx hb dX6_teach_62 ?_
        obtain ⟨h_16, hf⟩ := if_some hf
        refine va_iald hx hb hK.1 hP 6 0 rfl rfl (ok_in h_16) dX6_teach_63 ?_
        refine lv_istore (lv' := [(4, .int (t_now (Int32.toNatClampNeg (((84 * v1) + 6) + v3)))), (0, .ref t_p), (1, .int v1), (2, .int v2), (3, .int v3)]) hx hb dX6_teach_64 hl (by decide) rfl (fun ls hl => ?_)
        refine lv_aload_n hx hb dX6_teach_66 rfl (lv_at hl 1 rfl) ?_
        refine va_get (D := g.1) (ci := 6) (v := .ref t_p_now) (C := RX6) (T := TX6) (N := 23) hx hb hts hin6 hown hK.1 hP 0 rfl rfl 9 (by decide) L1 (fun _ h9 => h9) rfl dX6_teach_67 ?_
        refine lv_sipush (v := 1019) hx hb dX6_teach_70 (by decide) ?_
        refine lv_iload_n hx hb dX6_teach_73 rfl (lv_at hl 4 rfl) ?_
        refine lv_iadd hx hb dX6_teach_74 ?_
        refine lv_iload_n hx hb dX6_teach_75 rfl (lv_at hl 3 rfl) ?_
        refine lv_if_ne (tgt := 94) hx hb dX6_teach_76 (by decide) (fun c_17 => ?_) (fun c_17 => ?_)
        · replace hf := (if_neg c_17).symm.trans hf
          exact w_94 (fun a0 a1 a2 a3 a4 a5 => f6_teach_44 N n a0 a1 a2 a3 a4 a5) ih v1 v2 v3 (t_now (Int32.toNatClampNeg (((84 * v1) + 6) + v3))) (1019 + v3) t_now t_was t_changes H locs ls hf hP hD hS (lv_sub hl [1, 2, 3, 4, 0] rfl)
        · replace hf := (if_pos c_17).symm.trans hf
          refine lv_iload hx hb dX6_teach_79 (lv_at hl 0 rfl) ?_
          refine lv_aload_n hx hb dX6_teach_81 rfl (lv_at hl 1 rfl) ?_
          refine va_get (D := g.1) (ci := 6) (v := .ref t_p_now) (C := RX6) (T := TX6) (N := 23) hx hb hts hin6 hown hK.1 hP 0 rfl rfl 9 (by decide) L1 (fun _ h9 => h9) rfl dX6_teach_82 ?_
          refine lv_sipush (v := 1019) hx hb dX6_teach_85 (by decide) ?_
          refine lv_iload_n hx hb dX6_teach_88 rfl (lv_at hl 4 rfl) ?_
          refine lv_iadd hx hb dX6_teach_89 ?_
          obtain ⟨h_18, hf⟩ := if_some hf
          refine va_iald hx hb hK.1 hP 6 0 rfl rfl (ok_in h_18) dX6_teach_90 ?_
          refine lv_icmp_ge (tgt := 99) hx hb dX6_teach_91 (by decide) (fun c_19 => ?_) (fun c_19 => ?_)
          · replace hf := (if_pos c_19).symm.trans hf
            refine lv_aload_n hx hb dX6_teach_99 rfl (lv_at hl 1 rfl) ?_
            refine va_get (D := g.1) (ci := 6) (v := .ref t_p_now) (C := RX6) (T := TX6) (N := 23) hx hb hts hin6 hown hK.1 hP 0 rfl rfl 9 (by decide) L1 (fun _ h9 => h9) rfl dX6_teach_100 ?_
            refine lv_sipush (v := 1019) hx hb dX6_teach_103 (by decide) ?_
            refine lv_iload_n hx hb dX6_teach_106 rfl (lv_at hl 4 rfl) ?_
            refine lv_iadd hx hb dX6_teach_107 ?_
            obtain ⟨h_20, hf⟩ := if_some hf
            refine va_iald hx hb hK.1 hP 6 0 rfl rfl (ok_in h_20) dX6_teach_108 ?_
            exact w_109 (fun a0 a1 a2 a3 a4 a5 => f6_teach_44 N n a0 a1 a2 a3 a4 a5) ih v1 v2 v3 (t_now (Int32.toNatClampNeg (((84 * v1) + 6) + v3))) (1019 + v3) (t_now (Int32.toNatClampNeg (1019 + v3))) t_now t_was t_changes H locs ls hf hP hD hS (lv_sub hl [1, 2, 3, 4, 0] rfl)
          · replace hf := (if_neg c_19).symm.trans hf
            exact w_94 (fun a0 a1 a2 a3 a4 a5 => f6_teach_44 N n a0 a1 a2 a3 a4 a5) ih v1 v2 v3 (t_now (Int32.toNatClampNeg (((84 * v1) + 6) + v3))) (1019 + v3) t_now t_was t_changes H locs ls hf hP hD hS (lv_sub hl [1, 2, 3, 4, 0] rfl)
  have hl := lv_entry ([.ref t_p, .int l1]) (n := 5) (Nat.le_of_ble_eq_true rfl)
  rw [lg_entry_eq]
  generalize (lg_sl ([.ref t_p, .int l1]) ++ List.replicate (5 - (lg_sl ([.ref t_p, .int l1])).length) Slot.unset).toArray = ls at hl ⊢
  replace hl : lv_has ls 5 [(0, .ref t_p), (1, .int l1)] := hl
  rw [f6_teach] at hf
  have hgo : ∀ (H : Heap) (locs : List Loc), H = s.heap → locs = [] → va_P g.1 vwCl (fl [wk6 g t_p t_length t_p_text t_text t_cavities t_p_volume t_volume t_p_freeze t_freeze t_cores t_p_earlier t_earlier t_stages t_p_place t_place t_p_now t_now t_p_was t_was t_changes t_p_one t_one t_readCavities t_p_readCavity t_readCavity t_readCores t_p_readCore t_readCore t_readStages t_p_readStage t_readStage t_p_readRule t_readRule t_value t_ends t_screw]) H → va_S A s.heap H locs → W p l e ({ frames := 2, cells := 0, slots := 0, locals := 46 }) s m ([.ref t_p, .int l1] : List Value).toArray below meth c H locs 0 0 (MQ below (pQi g (fun r => r = res.1) (fl [wk6 g t_p t_length t_p_text t_text t_cavities t_p_volume t_volume t_p_freeze t_freeze t_cores t_p_earlier t_earlier t_stages t_p_place t_place t_p_now res.2.1 t_p_was res.2.2.1 res.2.2.2 t_p_one t_one t_readCavities t_p_readCavity t_readCavity t_readCores t_p_readCore t_readCore t_readStages t_p_readStage t_readStage t_p_readRule t_readRule t_value t_ends t_screw]) A) ([.ref t_p, .int l1] : List Value).toArray s 0 0 A) (F0 m 0 ls []) := by
    intro H locs hH hL hP hS
    refine lv_aload_n hx hb dX6_teach_0 rfl (lv_at hl 0 rfl) ?_
    refine lv_iload_n hx hb dX6_teach_1 rfl (lv_at hl 1 rfl) ?_
    obtain ⟨q_1, hq_1, hf⟩ := bd_some hf
    refine bft_i (bn := [wk6 g t_p t_length t_p_text t_text t_cavities t_p_volume t_volume t_p_freeze t_freeze t_cores t_p_earlier t_earlier t_stages t_p_place t_place t_p_now t_now t_p_was t_was t_changes t_p_one t_one t_readCavities t_p_readCavity t_readCavity t_readCores t_p_readCore t_readCore t_readStages t_p_readStage t_readStage t_p_readRule t_readRule t_value t_ends t_screw]) (L := [[t_p, t_p_text, t_p_volume, t_p_freeze, t_p_earlier, t_p_place, t_p_now, t_p_was, t_p_one, t_p_readCavity, t_p_readCore, t_p_readStage, t_p_readRule]]) (va_runV (As := [.int l1]) (rest := []) ⟨hx, hb, hml, hown, hts⟩ (c6_isShot l g t_p t_length t_p_text t_text t_cavities t_p_volume t_volume t_p_freeze t_freeze t_cores t_p_earlier t_earlier t_stages t_p_place t_place t_p_now t_now t_p_was t_was t_changes t_p_one t_one t_readCavities t_p_readCavity t_readCavity t_readCores t_p_readCore t_readCore t_readStages t_p_readStage t_readStage t_p_readRule t_readRule t_value t_ends t_screw l1 H.size N q_1 hq_1) (cwV 1 hts gX6_teach_X6_isShot rfl rfl rfl ⟨rfl, nh6.1, nh6.2, pd_1⟩ ⟨Nat.le_of_ble_eq_true rfl, Nat.le_of_ble_eq_true rfl⟩) (qPV hK hG hP hD hS hA [0] (by decide) rfl (va_recv hK.1 hP (ci := 6) (q0 := 0) rfl rfl)) rfl rfl hl.1 rfl (lv_room (Nat.le_of_ble_eq_true rfl)) dX6_teach_2 ⟨Nat.zero_le _, Nat.zero_le _⟩) hP hD hS hA [0] rfl rfl rfl rfl (fun r_2 H locs hw hP hD hS => ?_)
    replace hw := hw.symm
    subst hw
    refine lv_if_ne (tgt := 10) hx hb dX6_teach_5 (by decide) (fun c_3 => ?_) (fun c_3 => ?_)
    · replace hf := (if_neg c_3).symm.trans hf
      refine lv_aload_n hx hb dX6_teach_10 rfl (lv_at hl 0 rfl) ?_
      refine lv_iload_n hx hb dX6_teach_11 rfl (lv_at hl 1 rfl) ?_
      obtain ⟨q_4, hq_4, hf⟩ := bd_some hf
      refine bft_i (bn := [wk6 g t_p t_length t_p_text t_text t_cavities t_p_volume t_volume t_p_freeze t_freeze t_cores t_p_earlier t_earlier t_stages t_p_place t_place t_p_now t_now t_p_was t_was t_changes t_p_one t_one t_readCavities t_p_readCavity t_readCavity t_readCores t_p_readCore t_readCore t_readStages t_p_readStage t_readStage t_p_readRule t_readRule t_value t_ends t_screw]) (L := [[t_p, t_p_text, t_p_volume, t_p_freeze, t_p_earlier, t_p_place, t_p_now, t_p_was, t_p_one, t_p_readCavity, t_p_readCore, t_p_readStage, t_p_readRule]]) (va_runV (As := [.int l1]) (rest := []) ⟨hx, hb, hml, hown, hts⟩ (c6_isShort l g t_p t_length t_p_text t_text t_cavities t_p_volume t_volume t_p_freeze t_freeze t_cores t_p_earlier t_earlier t_stages t_p_place t_place t_p_now t_now t_p_was t_was t_changes t_p_one t_one t_readCavities t_p_readCavity t_readCavity t_readCores t_p_readCore t_readCore t_readStages t_p_readStage t_readStage t_p_readRule t_readRule t_value t_ends t_screw l1 H.size N q_4 hq_4) (cwV 1 hts gX6_teach_X6_isShort rfl rfl rfl ⟨rfl, nh6.1, nh6.2, pd_1⟩ ⟨Nat.le_of_ble_eq_true rfl, Nat.le_of_ble_eq_true rfl⟩) (qPV hK hG hP hD hS hA [0] (by decide) rfl (va_recv hK.1 hP (ci := 6) (q0 := 0) rfl rfl)) rfl rfl hl.1 rfl (lv_room (Nat.le_of_ble_eq_true rfl)) dX6_teach_12 ⟨Nat.zero_le _, Nat.zero_le _⟩) hP hD hS hA [0] rfl rfl rfl rfl (fun r_5 H locs hw hP hD hS => ?_)
      replace hw := hw.symm
      subst hw
      refine lv_if_eq (tgt := 21) hx hb dX6_teach_15 (by decide) (fun c_6 => ?_) (fun c_6 => ?_)
      · replace hf := (if_pos c_6).symm.trans hf
        refine lv_aload_n hx hb dX6_teach_21 rfl (lv_at hl 0 rfl) ?_
        obtain ⟨q_7, hq_7, hf⟩ := bd_some hf
        refine bft_v (bn := [wk6 g t_p t_length t_p_text t_text t_cavities t_p_volume t_volume t_p_freeze t_freeze t_cores t_p_earlier t_earlier t_stages t_p_place t_place t_p_now t_now t_p_was q_7.1 q_7.2 t_p_one t_one t_readCavities t_p_readCavity t_readCavity t_readCores t_p_readCore t_readCore t_readStages t_p_readStage t_readStage t_p_readRule t_readRule t_value t_ends t_screw]) (L := [[t_p, t_p_text, t_p_volume, t_p_freeze, t_p_earlier, t_p_place, t_p_now, t_p_was, t_p_one, t_p_readCavity, t_p_readCore, t_p_readStage, t_p_readRule]]) (va_runV (As := []) (rest := []) ⟨hx, hb, hml, hown, hts⟩ (c6_keeps l g t_p t_length t_p_text t_text t_cavities t_p_volume t_volume t_p_freeze t_freeze t_cores t_p_earlier t_earlier t_stages t_p_place t_place t_p_now t_now t_p_was t_was t_changes t_p_one t_one t_readCavities t_p_readCavity t_readCavity t_readCores t_p_readCore t_readCore t_readStages t_p_readStage t_readStage t_p_readRule t_readRule t_value t_ends t_screw H.size N q_7 hq_7) (cwV 0 hts gX6_teach_X6_keeps rfl rfl rfl ⟨rfl, nh6.1, nh6.2, pd_9⟩ ⟨Nat.le_of_ble_eq_true rfl, Nat.le_of_ble_eq_true rfl⟩) (qPV hK hG hP hD hS hA [0] (by decide) rfl (va_recv hK.1 hP (ci := 6) (q0 := 0) rfl rfl)) rfl rfl hl.1 rfl (lv_room (Nat.le_of_ble_eq_true rfl)) dX6_teach_22 ⟨Nat.zero_le _, Nat.zero_le _⟩) hP hD hS hA [0] rfl rfl rfl rfl (fun H locs hP hD hS => ?_)
        refine lv_aload_n hx hb dX6_teach_25 rfl (lv_at hl 0 rfl) ?_
        refine va_get (D := g.1) (ci := 6) (v := .ref t_p_now) (C := RX6) (T := TX6) (N := 23) hx hb hts hin6 hown hK.1 hP 0 rfl rfl 9 (by decide) L1 (fun _ h9 => h9) rfl dX6_teach_26 ?_
        refine lv_sipush (v := 1015) hx hb dX6_teach_29 (by decide) ?_
        obtain ⟨h_8, hf⟩ := if_some hf
        refine va_iald hx hb hK.1 hP 6 0 rfl rfl (ok_in h_8) dX6_teach_32 ?_
        refine lv_if_ne (tgt := 40) hx hb dX6_teach_33 (by decide) (fun c_9 => ?_) (fun c_9 => ?_)
        · replace hf := (if_neg c_9).symm.trans hf
          refine lv_iconst (v := 0) hx hb dX6_teach_40 (by decide) ?_
          refine lv_istore_n (lv' := [(2, .int 0), (0, .ref t_p), (1, .int l1)]) hx hb dX6_teach_41 rfl hl (by decide) rfl (fun ls hl => ?_)
          refine lv_iconst (v := 0) hx hb dX6_teach_42 (by decide) ?_
          refine lv_istore_n (lv' := [(3, .int 0), (2, .int 0), (0, .ref t_p), (1, .int l1)]) hx hb dX6_teach_43 rfl hl (by decide) rfl (fun ls hl => ?_)
          exact w_44  N l1 0 0 t_now q_7.1 q_7.2 H locs ls hf hP hD hS (lv_sub hl [2, 3, 1, 0] rfl)
        · replace hf := (if_pos c_9).symm.trans hf
          refine lv_iconst (v := 1) hx hb dX6_teach_36 (by decide) ?_
          refine lv_goto (tgt := 41) hx hb dX6_teach_37 (by decide) ?_
          refine lv_istore_n (lv' := [(2, .int 1), (0, .ref t_p), (1, .int l1)]) hx hb dX6_teach_41 rfl hl (by decide) rfl (fun ls hl => ?_)
          refine lv_iconst (v := 0) hx hb dX6_teach_42 (by decide) ?_
          refine lv_istore_n (lv' := [(3, .int 0), (2, .int 1), (0, .ref t_p), (1, .int l1)]) hx hb dX6_teach_43 rfl hl (by decide) rfl (fun ls hl => ?_)
          exact w_44  N l1 1 0 t_now q_7.1 q_7.2 H locs ls hf hP hD hS (lv_sub hl [2, 3, 1, 0] rfl)
      · replace hf := (if_neg c_6).symm.trans hf
        refine lv_bipush (v := (-2)) hx hb dX6_teach_18 (by decide) ?_
        replace hf := Option.some.inj hf
        subst hf
        exact W.iret (v := (-2)) hx hb hr (fun t ht hW => ⟨⟨_, (), rfl, rfl, by show va_P g.1 vwCl _ t.heap; rw [ht]; exact hP⟩, hS.F ht⟩) hS.2.2 dX6_teach_20 hlocks
    · replace hf := (if_pos c_3).symm.trans hf
      refine lv_iconst (v := (-1)) hx hb dX6_teach_8 (by decide) ?_
      replace hf := Option.some.inj hf
      subst hf
      exact W.iret (v := (-1)) hx hb hr (fun t ht hW => ⟨⟨_, (), rfl, rfl, by show va_P g.1 vwCl _ t.heap; rw [ht]; exact hP⟩, hS.F ht⟩) hS.2.2 dX6_teach_9 hlocks
  exact hgo s.heap [] rfl rfl hP hS

set_option maxHeartbeats 4000000 in
set_option maxRecDepth 100000 in
theorem c6_forget (l : Launch) (g : gG) (t_p : Nat) (t_length : Int32) (t_p_text : Nat) (t_text : (Nat → Int32)) (t_cavities : Int32) (t_p_volume : Nat) (t_volume : (Nat → Int32)) (t_p_freeze : Nat) (t_freeze : (Nat → Int32)) (t_cores : Int32) (t_p_earlier : Nat) (t_earlier : (Nat → Int32)) (t_stages : Int32) (t_p_place : Nat) (t_place : (Nat → Int32)) (t_p_now : Nat) (t_now : (Nat → Int32)) (t_p_was : Nat) (t_was : (Nat → Int32)) (t_changes : Int32) (t_p_one : Nat) (t_one : (Nat → Int32)) (t_readCavities : Int32) (t_p_readCavity : Nat) (t_readCavity : (Nat → Int32)) (t_readCores : Int32) (t_p_readCore : Nat) (t_readCore : (Nat → Int32)) (t_readStages : Int32) (t_p_readStage : Nat) (t_readStage : (Nat → Int32)) (t_p_readRule : Nat) (t_readRule : (Nat → Int32)) (t_value : Int32) (t_ends : Int32) (t_screw : Int32) (sz : Nat) (N : Nat) (res : (Int32 × (Nat → Int32) × (Nat → Int32) × Int32)) (hf : f6_forget N t_now t_was t_changes = some res) : Met l yX6_forget wsX6_forget ({ frames := 1, cells := 0, slots := 0, locals := 21 }) (pP g [.ref t_p] sz (fl [wk6 g t_p t_length t_p_text t_text t_cavities t_p_volume t_volume t_p_freeze t_freeze t_cores t_p_earlier t_earlier t_stages t_p_place t_place t_p_now t_now t_p_was t_was t_changes t_p_one t_one t_readCavities t_p_readCavity t_readCavity t_readCores t_p_readCore t_readCore t_readStages t_p_readStage t_readStage t_p_readRule t_readRule t_value t_ends t_screw])) (pQi g (fun r => r = res.1) (fl [wk6 g t_p t_length t_p_text t_text t_cavities t_p_volume t_volume t_p_freeze t_freeze t_cores t_p_earlier t_earlier t_stages t_p_place t_place t_p_now res.2.1 t_p_was res.2.2.1 res.2.2.2 t_p_one t_one t_readCavities t_p_readCavity t_readCavity t_readCores t_p_readCore t_readCore t_readStages t_p_readStage t_readStage t_p_readRule t_readRule t_value t_ends t_screw]) (va_A (fl [wk6 g t_p t_length t_p_text t_text t_cavities t_p_volume t_volume t_p_freeze t_freeze t_cores t_p_earlier t_earlier t_stages t_p_place t_place t_p_now t_now t_p_was t_was t_changes t_p_one t_one t_readCavities t_p_readCavity t_readCavity t_readCores t_p_readCore t_readCore t_readStages t_p_readStage t_readStage t_p_readRule t_readRule t_value t_ends t_screw]) sz)) 0 0 (va_A (fl [wk6 g t_p t_length t_p_text t_text t_cavities t_p_volume t_volume t_p_freeze t_freeze t_cores t_p_earlier t_earlier t_stages t_p_place t_place t_p_now t_now t_p_was t_was t_changes t_p_one t_one t_readCavities t_p_readCavity t_readCavity t_readCores t_p_readCore t_readCore t_readStages t_p_readStage t_readStage t_p_readRule t_readRule t_value t_ends t_screw]) sz) := by
  refine Met.ofW (cc := cX6_forget) (maxL := 2) (ret := (some .int)) (by decide) rfl ?_
  intro p e s m args below meth c s₁ B hml hv
  obtain ⟨rfl, hsz, hP, hK, hD0, hG⟩ := hv
  have hx := B.exec
  have hb := B.bytes
  have hr := B.returns
  have hts := atoms_spec (ws := wsX6_forget) B.pre
  have hown : s.vm.findClass RX6 = some m.cls := findClass_of_methodNamed B.named
  have hlocks := B.notSynchronized
  subst hsz
  have hD := hD0.self (sz := s.heap.size)
  generalize hAe : va_A (fl [wk6 g t_p t_length t_p_text t_text t_cavities t_p_volume t_volume t_p_freeze t_freeze t_cores t_p_earlier t_earlier t_stages t_p_place t_place t_p_now t_now t_p_was t_was t_changes t_p_one t_one t_readCavities t_p_readCavity t_readCavity t_readCores t_p_readCore t_readCore t_readStages t_p_readStage t_readStage t_p_readRule t_readRule t_value t_ends t_screw]) s.heap.size = A at hD hG ⊢
  have hA : ∀ q : Nat, s.heap.size ≤ q → A q := fun q h => by rw [← hAe]; exact Or.inr h
  have hS : va_S A s.heap s.heap [] := va_S.rf
  have hin6 : ∀ w ∈ u_ws RX6 TX6 23, w ∈ wsX6_forget := by decide +kernel
  have L1 := hts (Cond.fieldLink RX6 25 "MouldShotsModel" "now" "[I") (by decide +kernel)
  have hl := lv_entry ([.ref t_p]) (n := 2) (Nat.le_of_ble_eq_true rfl)
  rw [lg_entry_eq]
  generalize (lg_sl ([.ref t_p]) ++ List.replicate (2 - (lg_sl ([.ref t_p])).length) Slot.unset).toArray = ls at hl ⊢
  replace hl : lv_has ls 2 [(0, .ref t_p)] := hl
  rw [f6_forget] at hf
  have hgo : ∀ (H : Heap) (locs : List Loc), H = s.heap → locs = [] → va_P g.1 vwCl (fl [wk6 g t_p t_length t_p_text t_text t_cavities t_p_volume t_volume t_p_freeze t_freeze t_cores t_p_earlier t_earlier t_stages t_p_place t_place t_p_now t_now t_p_was t_was t_changes t_p_one t_one t_readCavities t_p_readCavity t_readCavity t_readCores t_p_readCore t_readCore t_readStages t_p_readStage t_readStage t_p_readRule t_readRule t_value t_ends t_screw]) H → va_S A s.heap H locs → W p l e ({ frames := 1, cells := 0, slots := 0, locals := 21 }) s m ([.ref t_p] : List Value).toArray below meth c H locs 0 0 (MQ below (pQi g (fun r => r = res.1) (fl [wk6 g t_p t_length t_p_text t_text t_cavities t_p_volume t_volume t_p_freeze t_freeze t_cores t_p_earlier t_earlier t_stages t_p_place t_place t_p_now res.2.1 t_p_was res.2.2.1 res.2.2.2 t_p_one t_one t_readCavities t_p_readCavity t_readCavity t_readCores t_p_readCore t_readCore t_readStages t_p_readStage t_readStage t_p_readRule t_readRule t_value t_ends t_screw]) A) ([.ref t_p] : List Value).toArray s 0 0 A) (F0 m 0 ls []) := by
    intro H locs hH hL hP hS
    refine lv_aload_n hx hb dX6_forget_0 rfl (lv_at hl 0 rfl) ?_
    refine va_get (D := g.1) (ci := 6) (v := .ref t_p_now) (C := RX6) (T := TX6) (N := 23) hx hb hts hin6 hown hK.1 hP 0 rfl rfl 9 (by decide) L1 (fun _ h9 => h9) rfl dX6_forget_1 ?_
    refine lv_sipush (v := 1015) hx hb dX6_forget_4 (by decide) ?_
    obtain ⟨h_1, hf⟩ := if_some hf
    refine va_iald hx hb hK.1 hP 6 0 rfl rfl (ok_in h_1) dX6_forget_7 ?_
    refine lv_istore_n (lv' := [(1, .int (t_now (Int32.toNatClampNeg 1015))), (0, .ref t_p)]) hx hb dX6_forget_8 rfl hl (by decide) rfl (fun ls hl => ?_)
    refine lv_iload_n hx hb dX6_forget_9 rfl (lv_at hl 0 rfl) ?_
    refine lv_if_ne (tgt := 16) hx hb dX6_forget_10 (by decide) (fun c_2 => ?_) (fun c_2 => ?_)
    · replace hf := (if_neg c_2).symm.trans hf
      refine lv_aload_n hx hb dX6_forget_16 rfl (lv_at hl 1 rfl) ?_
      obtain ⟨q_3, hq_3, hf⟩ := bd_some hf
      refine bft_v (bn := [wk6 g t_p t_length t_p_text t_text t_cavities t_p_volume t_volume t_p_freeze t_freeze t_cores t_p_earlier t_earlier t_stages t_p_place t_place t_p_now t_now t_p_was q_3.1 q_3.2 t_p_one t_one t_readCavities t_p_readCavity t_readCavity t_readCores t_p_readCore t_readCore t_readStages t_p_readStage t_readStage t_p_readRule t_readRule t_value t_ends t_screw]) (L := [[t_p, t_p_text, t_p_volume, t_p_freeze, t_p_earlier, t_p_place, t_p_now, t_p_was, t_p_one, t_p_readCavity, t_p_readCore, t_p_readStage, t_p_readRule]]) (va_runV (As := []) (rest := []) ⟨hx, hb, hml, hown, hts⟩ (c6_keeps l g t_p t_length t_p_text t_text t_cavities t_p_volume t_volume t_p_freeze t_freeze t_cores t_p_earlier t_earlier t_stages t_p_place t_place t_p_now t_now t_p_was t_was t_changes t_p_one t_one t_readCavities t_p_readCavity t_readCavity t_readCores t_p_readCore t_readCore t_readStages t_p_readStage t_readStage t_p_readRule t_readRule t_value t_ends t_screw H.size N q_3 hq_3) (cwV 0 hts gX6_forget_X6_keeps rfl rfl rfl ⟨rfl, nh6.1, nh6.2, pd_9⟩ ⟨Nat.le_of_ble_eq_true rfl, Nat.le_of_ble_eq_true rfl⟩) (qPV hK hG hP hD hS hA [0] (by decide) rfl (va_recv hK.1 hP (ci := 6) (q0 := 0) rfl rfl)) rfl rfl hl.1 rfl (lv_room (Nat.le_of_ble_eq_true rfl)) dX6_forget_17 ⟨Nat.zero_le _, Nat.zero_le _⟩) hP hD hS hA [0] rfl rfl rfl rfl (fun H locs hP hD hS => ?_)
      refine lv_aload_n hx hb dX6_forget_20 rfl (lv_at hl 1 rfl) ?_
      refine va_get (D := g.1) (ci := 6) (v := .ref t_p_now) (C := RX6) (T := TX6) (N := 23) hx hb hts hin6 hown hK.1 hP 0 rfl rfl 9 (by decide) L1 (fun _ h9 => h9) rfl dX6_forget_21 ?_
      refine lv_sipush (v := 1015) hx hb dX6_forget_24 (by decide) ?_
      refine lv_iconst (v := 0) hx hb dX6_forget_27 (by decide) ?_
      obtain ⟨h_4, hf⟩ := if_some hf
      refine va_iast hx hb hK.1 hP hD hS 6 0 rfl rfl (ok_in h_4) dX6_forget_28 (fun H locs hP hD hS => ?_)
      replace hP : va_P g.1 vwCl (fl [wk6 g t_p t_length t_p_text t_text t_cavities t_p_volume t_volume t_p_freeze t_freeze t_cores t_p_earlier t_earlier t_stages t_p_place t_place t_p_now (upd t_now (Int32.toNatClampNeg 1015) 0) t_p_was q_3.1 q_3.2 t_p_one t_one t_readCavities t_p_readCavity t_readCavity t_readCores t_p_readCore t_readCore t_readStages t_p_readStage t_readStage t_p_readRule t_readRule t_value t_ends t_screw]) H := hP
      replace hD : va_D A (fl [wk6 g t_p t_length t_p_text t_text t_cavities t_p_volume t_volume t_p_freeze t_freeze t_cores t_p_earlier t_earlier t_stages t_p_place t_place t_p_now (upd t_now (Int32.toNatClampNeg 1015) 0) t_p_was q_3.1 q_3.2 t_p_one t_one t_readCavities t_p_readCavity t_readCavity t_readCores t_p_readCore t_readCore t_readStages t_p_readStage t_readStage t_p_readRule t_readRule t_value t_ends t_screw]) := hD
      refine lv_iload_n hx hb dX6_forget_29 rfl (lv_at hl 0 rfl) ?_
      replace hf := Option.some.inj hf
      subst hf
      exact W.iret (v := t_now (Int32.toNatClampNeg 1015)) hx hb hr (fun t ht hW => ⟨⟨_, (), rfl, rfl, by show va_P g.1 vwCl _ t.heap; rw [ht]; exact hP⟩, hS.F ht⟩) hS.2.2 dX6_forget_30 hlocks
    · replace hf := (if_pos c_2).symm.trans hf
      refine lv_bipush (v := (-2)) hx hb dX6_forget_13 (by decide) ?_
      replace hf := Option.some.inj hf
      subst hf
      exact W.iret (v := (-2)) hx hb hr (fun t ht hW => ⟨⟨_, (), rfl, rfl, by show va_P g.1 vwCl _ t.heap; rw [ht]; exact hP⟩, hS.F ht⟩) hS.2.2 dX6_forget_15 hlocks
  exact hgo s.heap [] rfl rfl hP hS

set_option maxHeartbeats 4000000 in
set_option maxRecDepth 100000 in
theorem c6_wide (l : Launch) (g : gG) (t_p : Nat) (t_length : Int32) (t_p_text : Nat) (t_text : (Nat → Int32)) (t_cavities : Int32) (t_p_volume : Nat) (t_volume : (Nat → Int32)) (t_p_freeze : Nat) (t_freeze : (Nat → Int32)) (t_cores : Int32) (t_p_earlier : Nat) (t_earlier : (Nat → Int32)) (t_stages : Int32) (t_p_place : Nat) (t_place : (Nat → Int32)) (t_p_now : Nat) (t_now : (Nat → Int32)) (t_p_was : Nat) (t_was : (Nat → Int32)) (t_changes : Int32) (t_p_one : Nat) (t_one : (Nat → Int32)) (t_readCavities : Int32) (t_p_readCavity : Nat) (t_readCavity : (Nat → Int32)) (t_readCores : Int32) (t_p_readCore : Nat) (t_readCore : (Nat → Int32)) (t_readStages : Int32) (t_p_readStage : Nat) (t_readStage : (Nat → Int32)) (t_p_readRule : Nat) (t_readRule : (Nat → Int32)) (t_value : Int32) (t_ends : Int32) (t_screw : Int32) (l1 : Int32) (sz : Nat) (N : Nat) (res : (Int32 × (Nat → Int32) × (Nat → Int32) × Int32)) (hf : f6_wide N l1 t_now t_was t_changes = some res) : Met l yX6_wide wsX6_wide ({ frames := 2, cells := 0, slots := 0, locals := 44 }) (pP g [.ref t_p, .int l1] sz (fl [wk6 g t_p t_length t_p_text t_text t_cavities t_p_volume t_volume t_p_freeze t_freeze t_cores t_p_earlier t_earlier t_stages t_p_place t_place t_p_now t_now t_p_was t_was t_changes t_p_one t_one t_readCavities t_p_readCavity t_readCavity t_readCores t_p_readCore t_readCore t_readStages t_p_readStage t_readStage t_p_readRule t_readRule t_value t_ends t_screw])) (pQi g (fun r => r = res.1) (fl [wk6 g t_p t_length t_p_text t_text t_cavities t_p_volume t_volume t_p_freeze t_freeze t_cores t_p_earlier t_earlier t_stages t_p_place t_place t_p_now res.2.1 t_p_was res.2.2.1 res.2.2.2 t_p_one t_one t_readCavities t_p_readCavity t_readCavity t_readCores t_p_readCore t_readCore t_readStages t_p_readStage t_readStage t_p_readRule t_readRule t_value t_ends t_screw]) (va_A (fl [wk6 g t_p t_length t_p_text t_text t_cavities t_p_volume t_volume t_p_freeze t_freeze t_cores t_p_earlier t_earlier t_stages t_p_place t_place t_p_now t_now t_p_was t_was t_changes t_p_one t_one t_readCavities t_p_readCavity t_readCavity t_readCores t_p_readCore t_readCore t_readStages t_p_readStage t_readStage t_p_readRule t_readRule t_value t_ends t_screw]) sz)) 0 0 (va_A (fl [wk6 g t_p t_length t_p_text t_text t_cavities t_p_volume t_volume t_p_freeze t_freeze t_cores t_p_earlier t_earlier t_stages t_p_place t_place t_p_now t_now t_p_was t_was t_changes t_p_one t_one t_readCavities t_p_readCavity t_readCavity t_readCores t_p_readCore t_readCore t_readStages t_p_readStage t_readStage t_p_readRule t_readRule t_value t_ends t_screw]) sz) := by
  refine Met.ofW (cc := cX6_wide) (maxL := 2) (ret := (some .int)) (by decide) rfl ?_
  intro p e s m args below meth c s₁ B hml hv
  obtain ⟨rfl, hsz, hP, hK, hD0, hG⟩ := hv
  have hx := B.exec
  have hb := B.bytes
  have hr := B.returns
  have hts := atoms_spec (ws := wsX6_wide) B.pre
  have hown : s.vm.findClass RX6 = some m.cls := findClass_of_methodNamed B.named
  have hlocks := B.notSynchronized
  subst hsz
  have hD := hD0.self (sz := s.heap.size)
  generalize hAe : va_A (fl [wk6 g t_p t_length t_p_text t_text t_cavities t_p_volume t_volume t_p_freeze t_freeze t_cores t_p_earlier t_earlier t_stages t_p_place t_place t_p_now t_now t_p_was t_was t_changes t_p_one t_one t_readCavities t_p_readCavity t_readCavity t_readCores t_p_readCore t_readCore t_readStages t_p_readStage t_readStage t_p_readRule t_readRule t_value t_ends t_screw]) s.heap.size = A at hD hG ⊢
  have hA : ∀ q : Nat, s.heap.size ≤ q → A q := fun q h => by rw [← hAe]; exact Or.inr h
  have hS : va_S A s.heap s.heap [] := va_S.rf
  have hl := lv_entry ([.ref t_p, .int l1]) (n := 2) (Nat.le_of_ble_eq_true rfl)
  rw [lg_entry_eq]
  generalize (lg_sl ([.ref t_p, .int l1]) ++ List.replicate (2 - (lg_sl ([.ref t_p, .int l1])).length) Slot.unset).toArray = ls at hl ⊢
  replace hl : lv_has ls 2 [(0, .ref t_p), (1, .int l1)] := hl
  rw [f6_wide] at hf
  have hgo : ∀ (H : Heap) (locs : List Loc), H = s.heap → locs = [] → va_P g.1 vwCl (fl [wk6 g t_p t_length t_p_text t_text t_cavities t_p_volume t_volume t_p_freeze t_freeze t_cores t_p_earlier t_earlier t_stages t_p_place t_place t_p_now t_now t_p_was t_was t_changes t_p_one t_one t_readCavities t_p_readCavity t_readCavity t_readCores t_p_readCore t_readCore t_readStages t_p_readStage t_readStage t_p_readRule t_readRule t_value t_ends t_screw]) H → va_S A s.heap H locs → W p l e ({ frames := 2, cells := 0, slots := 0, locals := 44 }) s m ([.ref t_p, .int l1] : List Value).toArray below meth c H locs 0 0 (MQ below (pQi g (fun r => r = res.1) (fl [wk6 g t_p t_length t_p_text t_text t_cavities t_p_volume t_volume t_p_freeze t_freeze t_cores t_p_earlier t_earlier t_stages t_p_place t_place t_p_now res.2.1 t_p_was res.2.2.1 res.2.2.2 t_p_one t_one t_readCavities t_p_readCavity t_readCavity t_readCores t_p_readCore t_readCore t_readStages t_p_readStage t_readStage t_p_readRule t_readRule t_value t_ends t_screw]) A) ([.ref t_p, .int l1] : List Value).toArray s 0 0 A) (F0 m 0 ls []) := by
    intro H locs hH hL hP hS
    refine lv_iload_n hx hb dX6_wide_0 rfl (lv_at hl 1 rfl) ?_
    refine lv_iconst (v := 0) hx hb dX6_wide_1 (by decide) ?_
    refine lv_bipush (v := 20) hx hb dX6_wide_2 (by decide) ?_
    obtain ⟨q_1, hq_1, hf⟩ := bd_some hf
    refine aft_i (wn := (fl [wk6 g t_p t_length t_p_text t_text t_cavities t_p_volume t_volume t_p_freeze t_freeze t_cores t_p_earlier t_earlier t_stages t_p_place t_place t_p_now t_now t_p_was t_was t_changes t_p_one t_one t_readCavities t_p_readCavity t_readCavity t_readCores t_p_readCore t_readCore t_readStages t_p_readStage t_readStage t_p_readRule t_readRule t_value t_ends t_screw])) (va_runS (As := [.int l1, .int 0, .int 20]) (rest := []) ⟨hx, hb, hml, hown, hts⟩ (c6_isIn l g l1 0 20 H.size N q_1 hq_1) (va_cwS 3 hts gX6_wide_X6_isIn rfl rfl rfl ⟨nh6.1, nh6.2, pd_17⟩ ⟨Nat.le_of_ble_eq_true rfl, Nat.le_of_ble_eq_true rfl⟩) (pPS hK hG hP hD hS hA [] (by decide) rfl) rfl rfl hl.1 rfl (lv_room (Nat.le_of_ble_eq_true rfl)) dX6_wide_4 ⟨Nat.zero_le _, Nat.zero_le _⟩) hP hD hS hA [] rfl rfl rfl (fun r_2 H locs hw hP hD hS => ?_)
    replace hw := hw.symm
    subst hw
    refine lv_if_eq (tgt := 21) hx hb dX6_wide_7 (by decide) (fun c_3 => ?_) (fun c_3 => ?_)
    · replace hf := (if_pos c_3).symm.trans hf
      refine lv_iconst (v := (-1)) hx hb dX6_wide_21 (by decide) ?_
      replace hf := Option.some.inj hf
      subst hf
      exact W.iret (v := (-1)) hx hb hr (fun t ht hW => ⟨⟨_, (), rfl, rfl, by show va_P g.1 vwCl _ t.heap; rw [ht]; exact hP⟩, hS.F ht⟩) hS.2.2 dX6_wide_22 hlocks
    · replace hf := (if_neg c_3).symm.trans hf
      refine lv_aload_n hx hb dX6_wide_10 rfl (lv_at hl 0 rfl) ?_
      refine lv_sipush (v := 1018) hx hb dX6_wide_11 (by decide) ?_
      refine lv_iload_n hx hb dX6_wide_14 rfl (lv_at hl 1 rfl) ?_
      obtain ⟨q_4, hq_4, hf⟩ := bd_some hf
      refine bft_i (bn := [wk6 g t_p t_length t_p_text t_text t_cavities t_p_volume t_volume t_p_freeze t_freeze t_cores t_p_earlier t_earlier t_stages t_p_place t_place t_p_now q_4.2.1 t_p_was q_4.2.2.1 q_4.2.2.2 t_p_one t_one t_readCavities t_p_readCavity t_readCavity t_readCores t_p_readCore t_readCore t_readStages t_p_readStage t_readStage t_p_readRule t_readRule t_value t_ends t_screw]) (L := [[t_p, t_p_text, t_p_volume, t_p_freeze, t_p_earlier, t_p_place, t_p_now, t_p_was, t_p_one, t_p_readCavity, t_p_readCore, t_p_readStage, t_p_readRule]]) (va_runV (As := [.int 1018, .int l1]) (rest := []) ⟨hx, hb, hml, hown, hts⟩ (c6_becomes l g t_p t_length t_p_text t_text t_cavities t_p_volume t_volume t_p_freeze t_freeze t_cores t_p_earlier t_earlier t_stages t_p_place t_place t_p_now t_now t_p_was t_was t_changes t_p_one t_one t_readCavities t_p_readCavity t_readCavity t_readCores t_p_readCore t_readCore t_readStages t_p_readStage t_readStage t_p_readRule t_readRule t_value t_ends t_screw 1018 l1 H.size N q_4 hq_4) (cwV 2 hts gX6_wide_X6_becomes rfl rfl rfl ⟨rfl, nh6.1, nh6.2, pd_14⟩ ⟨Nat.le_of_ble_eq_true rfl, Nat.le_of_ble_eq_true rfl⟩) (qPV hK hG hP hD hS hA [0] (by decide) rfl (va_recv hK.1 hP (ci := 6) (q0 := 0) rfl rfl)) rfl rfl hl.1 rfl (lv_room (Nat.le_of_ble_eq_true rfl)) dX6_wide_15 ⟨Nat.zero_le _, Nat.zero_le _⟩) hP hD hS hA [0] rfl rfl rfl rfl (fun r_5 H locs hw hP hD hS => ?_)
      replace hw := hw.symm
      subst hw
      refine lv_goto (tgt := 22) hx hb dX6_wide_18 (by decide) ?_
      replace hf := Option.some.inj hf
      subst hf
      exact W.iret (v := q_4.1) hx hb hr (fun t ht hW => ⟨⟨_, (), rfl, rfl, by show va_P g.1 vwCl _ t.heap; rw [ht]; exact hP⟩, hS.F ht⟩) hS.2.2 dX6_wide_22 hlocks
  exact hgo s.heap [] rfl rfl hP hS

set_option maxHeartbeats 4000000 in
set_option maxRecDepth 100000 in
theorem c6_band (l : Launch) (g : gG) (t_p : Nat) (t_length : Int32) (t_p_text : Nat) (t_text : (Nat → Int32)) (t_cavities : Int32) (t_p_volume : Nat) (t_volume : (Nat → Int32)) (t_p_freeze : Nat) (t_freeze : (Nat → Int32)) (t_cores : Int32) (t_p_earlier : Nat) (t_earlier : (Nat → Int32)) (t_stages : Int32) (t_p_place : Nat) (t_place : (Nat → Int32)) (t_p_now : Nat) (t_now : (Nat → Int32)) (t_p_was : Nat) (t_was : (Nat → Int32)) (t_changes : Int32) (t_p_one : Nat) (t_one : (Nat → Int32)) (t_readCavities : Int32) (t_p_readCavity : Nat) (t_readCavity : (Nat → Int32)) (t_readCores : Int32) (t_p_readCore : Nat) (t_readCore : (Nat → Int32)) (t_readStages : Int32) (t_p_readStage : Nat) (t_readStage : (Nat → Int32)) (t_p_readRule : Nat) (t_readRule : (Nat → Int32)) (t_value : Int32) (t_ends : Int32) (t_screw : Int32) (l1 : Int32) (l2 : Int32) (sz : Nat) (N : Nat) (res : (Int32)) (hf : f6_band N l1 l2 t_now = some res) : Met l yX6_band wsX6_band ({ frames := 1, cells := 0, slots := 0, locals := 22 }) (pP g [.ref t_p, .int l1, .int l2] sz (fl [wk6 g t_p t_length t_p_text t_text t_cavities t_p_volume t_volume t_p_freeze t_freeze t_cores t_p_earlier t_earlier t_stages t_p_place t_place t_p_now t_now t_p_was t_was t_changes t_p_one t_one t_readCavities t_p_readCavity t_readCavity t_readCores t_p_readCore t_readCore t_readStages t_p_readStage t_readStage t_p_readRule t_readRule t_value t_ends t_screw])) (pQi g (fun r => r = res) (fl [wk6 g t_p t_length t_p_text t_text t_cavities t_p_volume t_volume t_p_freeze t_freeze t_cores t_p_earlier t_earlier t_stages t_p_place t_place t_p_now t_now t_p_was t_was t_changes t_p_one t_one t_readCavities t_p_readCavity t_readCavity t_readCores t_p_readCore t_readCore t_readStages t_p_readStage t_readStage t_p_readRule t_readRule t_value t_ends t_screw]) (va_A (fl [wk6 g t_p t_length t_p_text t_text t_cavities t_p_volume t_volume t_p_freeze t_freeze t_cores t_p_earlier t_earlier t_stages t_p_place t_place t_p_now t_now t_p_was t_was t_changes t_p_one t_one t_readCavities t_p_readCavity t_readCavity t_readCores t_p_readCore t_readCore t_readStages t_p_readStage t_readStage t_p_readRule t_readRule t_value t_ends t_screw]) sz)) 0 0 (va_A (fl [wk6 g t_p t_length t_p_text t_text t_cavities t_p_volume t_volume t_p_freeze t_freeze t_cores t_p_earlier t_earlier t_stages t_p_place t_place t_p_now t_now t_p_was t_was t_changes t_p_one t_one t_readCavities t_p_readCavity t_readCavity t_readCores t_p_readCore t_readCore t_readStages t_p_readStage t_readStage t_p_readRule t_readRule t_value t_ends t_screw]) sz) := by
  refine Met.ofW (cc := cX6_band) (maxL := 3) (ret := (some .int)) (by decide) rfl ?_
  intro p e s m args below meth c s₁ B hml hv
  obtain ⟨rfl, hsz, hP, hK, hD0, hG⟩ := hv
  have hx := B.exec
  have hb := B.bytes
  have hr := B.returns
  have hts := atoms_spec (ws := wsX6_band) B.pre
  have hown : s.vm.findClass RX6 = some m.cls := findClass_of_methodNamed B.named
  have hlocks := B.notSynchronized
  subst hsz
  have hD := hD0.self (sz := s.heap.size)
  generalize hAe : va_A (fl [wk6 g t_p t_length t_p_text t_text t_cavities t_p_volume t_volume t_p_freeze t_freeze t_cores t_p_earlier t_earlier t_stages t_p_place t_place t_p_now t_now t_p_was t_was t_changes t_p_one t_one t_readCavities t_p_readCavity t_readCavity t_readCores t_p_readCore t_readCore t_readStages t_p_readStage t_readStage t_p_readRule t_readRule t_value t_ends t_screw]) s.heap.size = A at hD hG ⊢
  have hA : ∀ q : Nat, s.heap.size ≤ q → A q := fun q h => by rw [← hAe]; exact Or.inr h
  have hS : va_S A s.heap s.heap [] := va_S.rf
  have hin6 : ∀ w ∈ u_ws RX6 TX6 23, w ∈ wsX6_band := by decide +kernel
  have L1 := hts (Cond.fieldLink RX6 25 "MouldShotsModel" "now" "[I") (by decide +kernel)
  have w_64 : ∀ (v1 : Int32) (s1 : Int32)  (H : Heap) (locs : List Loc) (ls : Array Slot), f6_band_64  N v1 s1 t_now = some res → va_P g.1 vwCl (fl [wk6 g t_p t_length t_p_text t_text t_cavities t_p_volume t_volume t_p_freeze t_freeze t_cores t_p_earlier t_earlier t_stages t_p_place t_place t_p_now t_now t_p_was t_was t_changes t_p_one t_one t_readCavities t_p_readCavity t_readCavity t_readCores t_p_readCore t_readCore t_readStages t_p_readStage t_readStage t_p_readRule t_readRule t_value t_ends t_screw]) H → va_D A (fl [wk6 g t_p t_length t_p_text t_text t_cavities t_p_volume t_volume t_p_freeze t_freeze t_cores t_p_earlier t_earlier t_stages t_p_place t_place t_p_now t_now t_p_was t_was t_changes t_p_one t_one t_readCavities t_p_readCavity t_readCavity t_readCores t_p_readCore t_readCore t_readStages t_p_readStage t_readStage t_p_readRule t_readRule t_value t_ends t_screw]) → va_S A s.heap H locs → lv_has ls 3 [(1, .int v1)] → W p l e ({ frames := 1, cells := 0, slots := 0, locals := 22 }) s m ([.ref t_p, .int l1, .int l2] : List Value).toArray below meth c H locs 0 0 (MQ below (pQi g (fun r => r = res) (fl [wk6 g t_p t_length t_p_text t_text t_cavities t_p_volume t_volume t_p_freeze t_freeze t_cores t_p_earlier t_earlier t_stages t_p_place t_place t_p_now t_now t_p_was t_was t_changes t_p_one t_one t_readCavities t_p_readCavity t_readCavity t_readCores t_p_readCore t_readCore t_readStages t_p_readStage t_readStage t_p_readRule t_readRule t_value t_ends t_screw]) A) ([.ref t_p, .int l1, .int l2] : List Value).toArray s 0 0 A) (F0 m 64 ls [.int s1, .ref t_p_now]) := by
    intro  v1 s1 H locs ls hf hP hD hS hl
    rw [f6_band_64] at hf
    refine lv_iload_n hx hb dX6_band_64 rfl (lv_at hl 0 rfl) ?_
    refine lv_iadd hx hb dX6_band_65 ?_
    refine lv_iconst (v := 1) hx hb dX6_band_66 (by decide) ?_
    refine lv_isub hx hb dX6_band_67 ?_
    obtain ⟨h_12, hf⟩ := if_some hf
    refine va_iald hx hb hK.1 hP 6 0 rfl rfl (ok_in h_12) dX6_band_68 ?_
    replace hf := Option.some.inj hf
    subst hf
    exact W.iret (v := t_now (Int32.toNatClampNeg ((s1 + v1) - 1))) hx hb hr (fun t ht hW => ⟨⟨_, (), rfl, rfl, by show va_P g.1 vwCl _ t.heap; rw [ht]; exact hP⟩, hS.F ht⟩) hS.2.2 dX6_band_69 hlocks
  have hl := lv_entry ([.ref t_p, .int l1, .int l2]) (n := 3) (Nat.le_of_ble_eq_true rfl)
  rw [lg_entry_eq]
  generalize (lg_sl ([.ref t_p, .int l1, .int l2]) ++ List.replicate (3 - (lg_sl ([.ref t_p, .int l1, .int l2])).length) Slot.unset).toArray = ls at hl ⊢
  replace hl : lv_has ls 3 [(0, .ref t_p), (1, .int l1), (2, .int l2)] := hl
  rw [f6_band] at hf
  have hgo : ∀ (H : Heap) (locs : List Loc), H = s.heap → locs = [] → va_P g.1 vwCl (fl [wk6 g t_p t_length t_p_text t_text t_cavities t_p_volume t_volume t_p_freeze t_freeze t_cores t_p_earlier t_earlier t_stages t_p_place t_place t_p_now t_now t_p_was t_was t_changes t_p_one t_one t_readCavities t_p_readCavity t_readCavity t_readCores t_p_readCore t_readCore t_readStages t_p_readStage t_readStage t_p_readRule t_readRule t_value t_ends t_screw]) H → va_S A s.heap H locs → W p l e ({ frames := 1, cells := 0, slots := 0, locals := 22 }) s m ([.ref t_p, .int l1, .int l2] : List Value).toArray below meth c H locs 0 0 (MQ below (pQi g (fun r => r = res) (fl [wk6 g t_p t_length t_p_text t_text t_cavities t_p_volume t_volume t_p_freeze t_freeze t_cores t_p_earlier t_earlier t_stages t_p_place t_place t_p_now t_now t_p_was t_was t_changes t_p_one t_one t_readCavities t_p_readCavity t_readCavity t_readCores t_p_readCore t_readCore t_readStages t_p_readStage t_readStage t_p_readRule t_readRule t_value t_ends t_screw]) A) ([.ref t_p, .int l1, .int l2] : List Value).toArray s 0 0 A) (F0 m 0 ls []) := by
    intro H locs hH hL hP hS
    refine lv_iload_n hx hb dX6_band_0 rfl (lv_at hl 1 rfl) ?_
    refine lv_iconst (v := 1) hx hb dX6_band_1 (by decide) ?_
    refine lv_bipush (v := 60) hx hb dX6_band_2 (by decide) ?_
    obtain ⟨q_1, hq_1, hf⟩ := bd_some hf
    refine aft_i (wn := (fl [wk6 g t_p t_length t_p_text t_text t_cavities t_p_volume t_volume t_p_freeze t_freeze t_cores t_p_earlier t_earlier t_stages t_p_place t_place t_p_now t_now t_p_was t_was t_changes t_p_one t_one t_readCavities t_p_readCavity t_readCavity t_readCores t_p_readCore t_readCore t_readStages t_p_readStage t_readStage t_p_readRule t_readRule t_value t_ends t_screw])) (va_runS (As := [.int l1, .int 1, .int 60]) (rest := []) ⟨hx, hb, hml, hown, hts⟩ (c6_isIn l g l1 1 60 H.size N q_1 hq_1) (va_cwS 3 hts gX6_band_X6_isIn rfl rfl rfl ⟨nh6.1, nh6.2, pd_17⟩ ⟨Nat.le_of_ble_eq_true rfl, Nat.le_of_ble_eq_true rfl⟩) (pPS hK hG hP hD hS hA [] (by decide) rfl) rfl rfl hl.1 rfl (lv_room (Nat.le_of_ble_eq_true rfl)) dX6_band_4 ⟨Nat.zero_le _, Nat.zero_le _⟩) hP hD hS hA [] rfl rfl rfl (fun r_2 H locs hw hP hD hS => ?_)
    replace hw := hw.symm
    subst hw
    refine lv_if_eq (tgt := 19) hx hb dX6_band_7 (by decide) (fun c_3 => ?_) (fun c_3 => ?_)
    · replace hf := (if_pos c_3).symm.trans hf
      refine lv_iconst (v := (-1)) hx hb dX6_band_19 (by decide) ?_
      replace hf := Option.some.inj hf
      subst hf
      exact W.iret (v := (-1)) hx hb hr (fun t ht hW => ⟨⟨_, (), rfl, rfl, by show va_P g.1 vwCl _ t.heap; rw [ht]; exact hP⟩, hS.F ht⟩) hS.2.2 dX6_band_20 hlocks
    · replace hf := (if_neg c_3).symm.trans hf
      refine lv_iload_n hx hb dX6_band_10 rfl (lv_at hl 2 rfl) ?_
      refine lv_iconst (v := 0) hx hb dX6_band_11 (by decide) ?_
      refine lv_iconst (v := 1) hx hb dX6_band_12 (by decide) ?_
      obtain ⟨q_4, hq_4, hf⟩ := bd_some hf
      refine aft_i (wn := (fl [wk6 g t_p t_length t_p_text t_text t_cavities t_p_volume t_volume t_p_freeze t_freeze t_cores t_p_earlier t_earlier t_stages t_p_place t_place t_p_now t_now t_p_was t_was t_changes t_p_one t_one t_readCavities t_p_readCavity t_readCavity t_readCores t_p_readCore t_readCore t_readStages t_p_readStage t_readStage t_p_readRule t_readRule t_value t_ends t_screw])) (va_runS (As := [.int l2, .int 0, .int 1]) (rest := []) ⟨hx, hb, hml, hown, hts⟩ (c6_isIn l g l2 0 1 H.size N q_4 hq_4) (va_cwS 3 hts gX6_band_X6_isIn rfl rfl rfl ⟨nh6.1, nh6.2, pd_17⟩ ⟨Nat.le_of_ble_eq_true rfl, Nat.le_of_ble_eq_true rfl⟩) (pPS hK hG hP hD hS hA [] (by decide) rfl) rfl rfl hl.1 rfl (lv_room (Nat.le_of_ble_eq_true rfl)) dX6_band_13 ⟨Nat.zero_le _, Nat.zero_le _⟩) hP hD hS hA [] rfl rfl rfl (fun r_5 H locs hw hP hD hS => ?_)
      replace hw := hw.symm
      subst hw
      refine lv_if_ne (tgt := 21) hx hb dX6_band_16 (by decide) (fun c_6 => ?_) (fun c_6 => ?_)
      · replace hf := (if_neg c_6).symm.trans hf
        refine lv_aload_n hx hb dX6_band_21 rfl (lv_at hl 0 rfl) ?_
        refine va_get (D := g.1) (ci := 6) (v := .ref t_p_now) (C := RX6) (T := TX6) (N := 23) hx hb hts hin6 hown hK.1 hP 0 rfl rfl 9 (by decide) L1 (fun _ h9 => h9) rfl dX6_band_22 ?_
        refine lv_sipush (v := 1015) hx hb dX6_band_25 (by decide) ?_
        obtain ⟨h_7, hf⟩ := if_some hf
        refine va_iald hx hb hK.1 hP 6 0 rfl rfl (ok_in h_7) dX6_band_28 ?_
        refine lv_if_eq (tgt := 44) hx hb dX6_band_29 (by decide) (fun c_8 => ?_) (fun c_8 => ?_)
        · replace hf := (if_pos c_8).symm.trans hf
          refine lv_bipush (v := (-4)) hx hb dX6_band_44 (by decide) ?_
          replace hf := Option.some.inj hf
          subst hf
          exact W.iret (v := (-4)) hx hb hr (fun t ht hW => ⟨⟨_, (), rfl, rfl, by show va_P g.1 vwCl _ t.heap; rw [ht]; exact hP⟩, hS.F ht⟩) hS.2.2 dX6_band_46 hlocks
        · replace hf := (if_neg c_8).symm.trans hf
          refine lv_iload_n hx hb dX6_band_32 rfl (lv_at hl 1 rfl) ?_
          refine lv_aload_n hx hb dX6_band_33 rfl (lv_at hl 0 rfl) ?_
          refine va_get (D := g.1) (ci := 6) (v := .ref t_p_now) (C := RX6) (T := TX6) (N := 23) hx hb hts hin6 hown hK.1 hP 0 rfl rfl 9 (by decide) L1 (fun _ h9 => h9) rfl dX6_band_34 ?_
          refine lv_sipush (v := 1017) hx hb dX6_band_37 (by decide) ?_
          obtain ⟨h_9, hf⟩ := if_some hf
          refine va_iald hx hb hK.1 hP 6 0 rfl rfl (ok_in h_9) dX6_band_40 ?_
          refine lv_icmp_le (tgt := 47) hx hb dX6_band_41 (by decide) (fun c_10 => ?_) (fun c_10 => ?_)
          · replace hf := (if_pos c_10).symm.trans hf
            refine lv_aload_n hx hb dX6_band_47 rfl (lv_at hl 0 rfl) ?_
            refine va_get (D := g.1) (ci := 6) (v := .ref t_p_now) (C := RX6) (T := TX6) (N := 23) hx hb hts hin6 hown hK.1 hP 0 rfl rfl 9 (by decide) L1 (fun _ h9 => h9) rfl dX6_band_48 ?_
            refine lv_iload_n hx hb dX6_band_51 rfl (lv_at hl 2 rfl) ?_
            refine lv_if_ne (tgt := 61) hx hb dX6_band_52 (by decide) (fun c_11 => ?_) (fun c_11 => ?_)
            · replace hf := (if_neg c_11).symm.trans hf
              refine lv_sipush (v := 1079) hx hb dX6_band_61 (by decide) ?_
              exact w_64  l1 1079 H locs ls hf hP hD hS (lv_sub hl [1] rfl)
            · replace hf := (if_pos c_11).symm.trans hf
              refine lv_sipush (v := 1019) hx hb dX6_band_55 (by decide) ?_
              refine lv_goto (tgt := 64) hx hb dX6_band_58 (by decide) ?_
              exact w_64  l1 1019 H locs ls hf hP hD hS (lv_sub hl [1] rfl)
          · replace hf := (if_neg c_10).symm.trans hf
            refine lv_bipush (v := (-4)) hx hb dX6_band_44 (by decide) ?_
            replace hf := Option.some.inj hf
            subst hf
            exact W.iret (v := (-4)) hx hb hr (fun t ht hW => ⟨⟨_, (), rfl, rfl, by show va_P g.1 vwCl _ t.heap; rw [ht]; exact hP⟩, hS.F ht⟩) hS.2.2 dX6_band_46 hlocks
      · replace hf := (if_pos c_6).symm.trans hf
        refine lv_iconst (v := (-1)) hx hb dX6_band_19 (by decide) ?_
        replace hf := Option.some.inj hf
        subst hf
        exact W.iret (v := (-1)) hx hb hr (fun t ht hW => ⟨⟨_, (), rfl, rfl, by show va_P g.1 vwCl _ t.heap; rw [ht]; exact hP⟩, hS.F ht⟩) hS.2.2 dX6_band_20 hlocks
  exact hgo s.heap [] rfl rfl hP hS

set_option maxHeartbeats 4000000 in
set_option maxRecDepth 100000 in
theorem c6_amiss (l : Launch) (g : gG) (t_p : Nat) (t_length : Int32) (t_p_text : Nat) (t_text : (Nat → Int32)) (t_cavities : Int32) (t_p_volume : Nat) (t_volume : (Nat → Int32)) (t_p_freeze : Nat) (t_freeze : (Nat → Int32)) (t_cores : Int32) (t_p_earlier : Nat) (t_earlier : (Nat → Int32)) (t_stages : Int32) (t_p_place : Nat) (t_place : (Nat → Int32)) (t_p_now : Nat) (t_now : (Nat → Int32)) (t_p_was : Nat) (t_was : (Nat → Int32)) (t_changes : Int32) (t_p_one : Nat) (t_one : (Nat → Int32)) (t_readCavities : Int32) (t_p_readCavity : Nat) (t_readCavity : (Nat → Int32)) (t_readCores : Int32) (t_p_readCore : Nat) (t_readCore : (Nat → Int32)) (t_readStages : Int32) (t_p_readStage : Nat) (t_readStage : (Nat → Int32)) (t_p_readRule : Nat) (t_readRule : (Nat → Int32)) (t_value : Int32) (t_ends : Int32) (t_screw : Int32) (l1 : Int32) (sz : Nat) (N : Nat) (res : (Int32)) (hf : f6_amiss N l1 t_now = some res) : Met l yX6_amiss wsX6_amiss ({ frames := 0, cells := 0, slots := 0, locals := 0 }) (pP g [.ref t_p, .int l1] sz (fl [wk6 g t_p t_length t_p_text t_text t_cavities t_p_volume t_volume t_p_freeze t_freeze t_cores t_p_earlier t_earlier t_stages t_p_place t_place t_p_now t_now t_p_was t_was t_changes t_p_one t_one t_readCavities t_p_readCavity t_readCavity t_readCores t_p_readCore t_readCore t_readStages t_p_readStage t_readStage t_p_readRule t_readRule t_value t_ends t_screw])) (pQi g (fun r => r = res) (fl [wk6 g t_p t_length t_p_text t_text t_cavities t_p_volume t_volume t_p_freeze t_freeze t_cores t_p_earlier t_earlier t_stages t_p_place t_place t_p_now t_now t_p_was t_was t_changes t_p_one t_one t_readCavities t_p_readCavity t_readCavity t_readCores t_p_readCore t_readCore t_readStages t_p_readStage t_readStage t_p_readRule t_readRule t_value t_ends t_screw]) (va_A (fl [wk6 g t_p t_length t_p_text t_text t_cavities t_p_volume t_volume t_p_freeze t_freeze t_cores t_p_earlier t_earlier t_stages t_p_place t_place t_p_now t_now t_p_was t_was t_changes t_p_one t_one t_readCavities t_p_readCavity t_readCavity t_readCores t_p_readCore t_readCore t_readStages t_p_readStage t_readStage t_p_readRule t_readRule t_value t_ends t_screw]) sz)) 0 0 (va_A (fl [wk6 g t_p t_length t_p_text t_text t_cavities t_p_volume t_volume t_p_freeze t_freeze t_cores t_p_earlier t_earlier t_stages t_p_place t_place t_p_now t_now t_p_was t_was t_changes t_p_one t_one t_readCavities t_p_readCavity t_readCavity t_readCores t_p_readCore t_readCore t_readStages t_p_readStage t_readStage t_p_readRule t_readRule t_value t_ends t_screw]) sz) := by
  refine Met.ofW (cc := cX6_amiss) (maxL := 5) (ret := (some .int)) (by decide) rfl ?_
  intro p e s m args below meth c s₁ B hml hv
  obtain ⟨rfl, hsz, hP, hK, hD0, hG⟩ := hv
  have hx := B.exec
  have hb := B.bytes
  have hr := B.returns
  have hts := atoms_spec (ws := wsX6_amiss) B.pre
  have hown : s.vm.findClass RX6 = some m.cls := findClass_of_methodNamed B.named
  have hlocks := B.notSynchronized
  subst hsz
  have hD := hD0.self (sz := s.heap.size)
  generalize hAe : va_A (fl [wk6 g t_p t_length t_p_text t_text t_cavities t_p_volume t_volume t_p_freeze t_freeze t_cores t_p_earlier t_earlier t_stages t_p_place t_place t_p_now t_now t_p_was t_was t_changes t_p_one t_one t_readCavities t_p_readCavity t_readCavity t_readCores t_p_readCore t_readCore t_readStages t_p_readStage t_readStage t_p_readRule t_readRule t_value t_ends t_screw]) s.heap.size = A at hD hG ⊢
  have hA : ∀ q : Nat, s.heap.size ≤ q → A q := fun q h => by rw [← hAe]; exact Or.inr h
  have hS : va_S A s.heap s.heap [] := va_S.rf
  have hin6 : ∀ w ∈ u_ws RX6 TX6 23, w ∈ wsX6_amiss := by decide +kernel
  have L1 := hts (Cond.fieldLink RX6 25 "MouldShotsModel" "now" "[I") (by decide +kernel)
  have w_4 : ∀ n : Nat, ∀ (v1 : Int32) (v2 : Int32) (v3 : Int32)  (H : Heap) (locs : List Loc) (ls : Array Slot), f6_amiss_4  N n v1 v2 v3 t_now = some res → va_P g.1 vwCl (fl [wk6 g t_p t_length t_p_text t_text t_cavities t_p_volume t_volume t_p_freeze t_freeze t_cores t_p_earlier t_earlier t_stages t_p_place t_place t_p_now t_now t_p_was t_was t_changes t_p_one t_one t_readCavities t_p_readCavity t_readCavity t_readCores t_p_readCore t_readCore t_readStages t_p_readStage t_readStage t_p_readRule t_readRule t_value t_ends t_screw]) H → va_D A (fl [wk6 g t_p t_length t_p_text t_text t_cavities t_p_volume t_volume t_p_freeze t_freeze t_cores t_p_earlier t_earlier t_stages t_p_place t_place t_p_now t_now t_p_was t_was t_changes t_p_one t_one t_readCavities t_p_readCavity t_readCavity t_readCores t_p_readCore t_readCore t_readStages t_p_readStage t_readStage t_p_readRule t_readRule t_value t_ends t_screw]) → va_S A s.heap H locs → lv_has ls 5 [(0, .ref t_p), (1, .int v1), (2, .int v2), (3, .int v3)] → W p l e ({ frames := 0, cells := 0, slots := 0, locals := 0 }) s m ([.ref t_p, .int l1] : List Value).toArray below meth c H locs 0 0 (MQ below (pQi g (fun r => r = res) (fl [wk6 g t_p t_length t_p_text t_text t_cavities t_p_volume t_volume t_p_freeze t_freeze t_cores t_p_earlier t_earlier t_stages t_p_place t_place t_p_now t_now t_p_was t_was t_changes t_p_one t_one t_readCavities t_p_readCavity t_readCavity t_readCores t_p_readCore t_readCore t_readStages t_p_readStage t_readStage t_p_readRule t_readRule t_value t_ends t_screw]) A) ([.ref t_p, .int l1] : List Value).toArray s 0 0 A) (F0 m 4 ls []) := by
    intro  n
    induction n with
    | zero => intro v1 v2 v3 H locs ls hf; exact no_some hf
    | succ n ih =>
      intro v1 v2 v3 H locs ls hf hP hD hS hl
      rw [f6_amiss_4] at hf
      refine lv_iload_n hx hb dX6_amiss_4 rfl (lv_at hl 3 rfl) ?_
      refine lv_bipush (v := 60) hx hb dX6_amiss_5 (by decide) ?_
      refine lv_icmp_ge (tgt := 88) hx hb dX6_amiss_7 (by decide) (fun c_1 => ?_) (fun c_1 => ?_)
      · replace hf := (if_pos c_1).symm.trans hf
        refine lv_iload_n hx hb dX6_amiss_88 rfl (lv_at hl 2 rfl) ?_
        replace hf := Option.some.inj hf
        subst hf
        exact W.iret (v := v2) hx hb hr (fun t ht hW => ⟨⟨_, (), rfl, rfl, by show va_P g.1 vwCl _ t.heap; rw [ht]; exact hP⟩, hS.F ht⟩) hS.2.2 dX6_amiss_89 hlocks
      · replace hf := (if_neg c_1).symm.trans hf
        refine lv_aload_n hx hb dX6_amiss_10 rfl (lv_at hl 0 rfl) ?_
        refine va_get (D := g.1) (ci := 6) (v := .ref t_p_now) (C := RX6) (T := TX6) (N := 23) hx hb hts hin6 hown hK.1 hP 0 rfl rfl 9 (by decide) L1 (fun _ h9 => h9) rfl dX6_amiss_11 ?_
        refine lv_bipush (v := 84) hx hb dX6_amiss_14 (by decide) ?_
        refine lv_iload_n hx hb dX6_amiss_16 rfl (lv_at hl 1 rfl) ?_
        refine lv_imul hx hb dX6_amiss_17 ?_
        refine lv_bipush (v := 6) hx hb dX6_amiss_18 (by decide) ?_
        refine lv_iadd hx hb dX6_amiss_20 ?_
        refine lv_iload_n hx hb dX6_amiss_21 rfl (lv_at hl 3 rfl) ?_
        refine lv_iadd hx hb dX6_amiss_22 ?_
        obtain ⟨h_2, hf⟩ := if_some hf
        refine va_iald hx hb hK.1 hP 6 0 rfl rfl (ok_in h_2) dX6_amiss_23 ?_
        refine lv_istore (lv' := [(4, .int (t_now (Int32.toNatClampNeg (((84 * v1) + 6) + v3)))), (0, .ref t_p), (1, .int v1), (2, .int v2), (3, .int v3)]) hx hb dX6_amiss_24 hl (by decide) rfl (fun ls hl => ?_)
        refine lv_iload_n hx hb dX6_amiss_26 rfl (lv_at hl 3 rfl) ?_
        refine lv_iload hx hb dX6_amiss_27 (lv_at hl 0 rfl) ?_
        refine lv_aload_n hx hb dX6_amiss_29 rfl (lv_at hl 1 rfl) ?_
        refine va_get (D := g.1) (ci := 6) (v := .ref t_p_now) (C := RX6) (T := TX6) (N := 23) hx hb hts hin6 hown hK.1 hP 0 rfl rfl 9 (by decide) L1 (fun _ h9 => h9) rfl dX6_amiss_30 ?_
        refine lv_sipush (v := 1019) hx hb dX6_amiss_33 (by decide) ?_
        refine lv_iload_n hx hb dX6_amiss_36 rfl (lv_at hl 4 rfl) ?_
        refine lv_iadd hx hb dX6_amiss_37 ?_
        obtain ⟨h_3, hf⟩ := if_some hf
        refine va_iald hx hb hK.1 hP 6 0 rfl rfl (ok_in h_3) dX6_amiss_38 ?_
        refine lv_aload_n hx hb dX6_amiss_39 rfl (lv_at hl 1 rfl) ?_
        refine va_get (D := g.1) (ci := 6) (v := .ref t_p_now) (C := RX6) (T := TX6) (N := 23) hx hb hts hin6 hown hK.1 hP 0 rfl rfl 9 (by decide) L1 (fun _ h9 => h9) rfl dX6_amiss_40 ?_
        refine lv_sipush (v := 1018) hx hb dX6_amiss_43 (by decide) ?_
        obtain ⟨h_4, hf⟩ := if_some hf
        refine va_iald hx hb hK.1 hP 6 0 rfl rfl (ok_in h_4) dX6_amiss_46 ?_
        refine lv_isub hx hb dX6_amiss_47 ?_
        refine lv_icmp_lt (tgt := 75) hx hb dX6_amiss_48 (by decide) (fun c_5 => ?_) (fun c_5 => ?_)
        · replace hf := (if_pos c_5).symm.trans hf
          refine lv_iconst (v := 1) hx hb dX6_amiss_75 (by decide) ?_
          refine lv_goto (tgt := 80) hx hb dX6_amiss_76 (by decide) ?_
          refine lv_iadd hx hb dX6_amiss_80 ?_
          refine lv_istore_n (lv' := [(2, .int (v2 + 1)), (4, .int (t_now (Int32.toNatClampNeg (((84 * v1) + 6) + v3)))), (0, .ref t_p), (1, .int v1), (3, .int v3)]) hx hb dX6_amiss_81 rfl hl (by decide) rfl (fun ls hl => ?_)
          refine lv_iinc (v := v3 + 1) (lv' := [(3, .int (v3 + 1)), (2, .int (v2 + 1)), (4, .int (t_now (Int32.toNatClampNeg (((84 * v1) + 6) + v3)))), (0, .ref t_p), (1, .int v1)]) hx hb dX6_amiss_82 hl (k := 4) rfl rfl (by decide) rfl (fun ls hl => ?_)
          refine lv_goto (tgt := 4) hx hb dX6_amiss_85 (by decide) ?_
          exact ih v1 (v2 + 1) (v3 + 1) H locs ls hf hP hD hS (lv_sub hl [3, 4, 1, 0] rfl)
        · replace hf := (if_neg c_5).symm.trans hf
          refine lv_iload hx hb dX6_amiss_51 (lv_at hl 0 rfl) ?_
          refine lv_aload_n hx hb dX6_amiss_53 rfl (lv_at hl 1 rfl) ?_
          refine va_get (D := g.1) (ci := 6) (v := .ref t_p_now) (C := RX6) (T := TX6) (N := 23) hx hb hts hin6 hown hK.1 hP 0 rfl rfl 9 (by decide) L1 (fun _ h9 => h9) rfl dX6_amiss_54 ?_
          refine lv_sipush (v := 1079) hx hb dX6_amiss_57 (by decide) ?_
          refine lv_iload_n hx hb dX6_amiss_60 rfl (lv_at hl 4 rfl) ?_
          refine lv_iadd hx hb dX6_amiss_61 ?_
          obtain ⟨h_6, hf⟩ := if_some hf
          refine va_iald hx hb hK.1 hP 6 0 rfl rfl (ok_in h_6) dX6_amiss_62 ?_
          refine lv_aload_n hx hb dX6_amiss_63 rfl (lv_at hl 1 rfl) ?_
          refine va_get (D := g.1) (ci := 6) (v := .ref t_p_now) (C := RX6) (T := TX6) (N := 23) hx hb hts hin6 hown hK.1 hP 0 rfl rfl 9 (by decide) L1 (fun _ h9 => h9) rfl dX6_amiss_64 ?_
          refine lv_sipush (v := 1018) hx hb dX6_amiss_67 (by decide) ?_
          obtain ⟨h_7, hf⟩ := if_some hf
          refine va_iald hx hb hK.1 hP 6 0 rfl rfl (ok_in h_7) dX6_amiss_70 ?_
          refine lv_iadd hx hb dX6_amiss_71 ?_
          refine lv_icmp_le (tgt := 79) hx hb dX6_amiss_72 (by decide) (fun c_8 => ?_) (fun c_8 => ?_)
          · replace hf := (if_pos c_8).symm.trans hf
            refine lv_iconst (v := 0) hx hb dX6_amiss_79 (by decide) ?_
            refine lv_iadd hx hb dX6_amiss_80 ?_
            refine lv_istore_n (lv' := [(2, .int (v2 + 0)), (4, .int (t_now (Int32.toNatClampNeg (((84 * v1) + 6) + v3)))), (0, .ref t_p), (1, .int v1), (3, .int v3)]) hx hb dX6_amiss_81 rfl hl (by decide) rfl (fun ls hl => ?_)
            refine lv_iinc (v := v3 + 1) (lv' := [(3, .int (v3 + 1)), (2, .int (v2 + 0)), (4, .int (t_now (Int32.toNatClampNeg (((84 * v1) + 6) + v3)))), (0, .ref t_p), (1, .int v1)]) hx hb dX6_amiss_82 hl (k := 4) rfl rfl (by decide) rfl (fun ls hl => ?_)
            refine lv_goto (tgt := 4) hx hb dX6_amiss_85 (by decide) ?_
            exact ih v1 (v2 + 0) (v3 + 1) H locs ls hf hP hD hS (lv_sub hl [3, 4, 1, 0] rfl)
          · replace hf := (if_neg c_8).symm.trans hf
            refine lv_iconst (v := 1) hx hb dX6_amiss_75 (by decide) ?_
            refine lv_goto (tgt := 80) hx hb dX6_amiss_76 (by decide) ?_
            refine lv_iadd hx hb dX6_amiss_80 ?_
            refine lv_istore_n (lv' := [(2, .int (v2 + 1)), (4, .int (t_now (Int32.toNatClampNeg (((84 * v1) + 6) + v3)))), (0, .ref t_p), (1, .int v1), (3, .int v3)]) hx hb dX6_amiss_81 rfl hl (by decide) rfl (fun ls hl => ?_)
            refine lv_iinc (v := v3 + 1) (lv' := [(3, .int (v3 + 1)), (2, .int (v2 + 1)), (4, .int (t_now (Int32.toNatClampNeg (((84 * v1) + 6) + v3)))), (0, .ref t_p), (1, .int v1)]) hx hb dX6_amiss_82 hl (k := 4) rfl rfl (by decide) rfl (fun ls hl => ?_)
            refine lv_goto (tgt := 4) hx hb dX6_amiss_85 (by decide) ?_
            exact ih v1 (v2 + 1) (v3 + 1) H locs ls hf hP hD hS (lv_sub hl [3, 4, 1, 0] rfl)
  have hl := lv_entry ([.ref t_p, .int l1]) (n := 5) (Nat.le_of_ble_eq_true rfl)
  rw [lg_entry_eq]
  generalize (lg_sl ([.ref t_p, .int l1]) ++ List.replicate (5 - (lg_sl ([.ref t_p, .int l1])).length) Slot.unset).toArray = ls at hl ⊢
  replace hl : lv_has ls 5 [(0, .ref t_p), (1, .int l1)] := hl
  rw [f6_amiss] at hf
  have hgo : ∀ (H : Heap) (locs : List Loc), H = s.heap → locs = [] → va_P g.1 vwCl (fl [wk6 g t_p t_length t_p_text t_text t_cavities t_p_volume t_volume t_p_freeze t_freeze t_cores t_p_earlier t_earlier t_stages t_p_place t_place t_p_now t_now t_p_was t_was t_changes t_p_one t_one t_readCavities t_p_readCavity t_readCavity t_readCores t_p_readCore t_readCore t_readStages t_p_readStage t_readStage t_p_readRule t_readRule t_value t_ends t_screw]) H → va_S A s.heap H locs → W p l e ({ frames := 0, cells := 0, slots := 0, locals := 0 }) s m ([.ref t_p, .int l1] : List Value).toArray below meth c H locs 0 0 (MQ below (pQi g (fun r => r = res) (fl [wk6 g t_p t_length t_p_text t_text t_cavities t_p_volume t_volume t_p_freeze t_freeze t_cores t_p_earlier t_earlier t_stages t_p_place t_place t_p_now t_now t_p_was t_was t_changes t_p_one t_one t_readCavities t_p_readCavity t_readCavity t_readCores t_p_readCore t_readCore t_readStages t_p_readStage t_readStage t_p_readRule t_readRule t_value t_ends t_screw]) A) ([.ref t_p, .int l1] : List Value).toArray s 0 0 A) (F0 m 0 ls []) := by
    intro H locs hH hL hP hS
    refine lv_iconst (v := 0) hx hb dX6_amiss_0 (by decide) ?_
    refine lv_istore_n (lv' := [(2, .int 0), (0, .ref t_p), (1, .int l1)]) hx hb dX6_amiss_1 rfl hl (by decide) rfl (fun ls hl => ?_)
    refine lv_iconst (v := 0) hx hb dX6_amiss_2 (by decide) ?_
    refine lv_istore_n (lv' := [(3, .int 0), (2, .int 0), (0, .ref t_p), (1, .int l1)]) hx hb dX6_amiss_3 rfl hl (by decide) rfl (fun ls hl => ?_)
    exact w_4  N l1 0 0 H locs ls hf hP hD hS (lv_sub hl [2, 3, 1, 0] rfl)
  exact hgo s.heap [] rfl rfl hP hS

set_option maxHeartbeats 4000000 in
set_option maxRecDepth 100000 in
theorem c6_isBad (l : Launch) (g : gG) (t_p : Nat) (t_length : Int32) (t_p_text : Nat) (t_text : (Nat → Int32)) (t_cavities : Int32) (t_p_volume : Nat) (t_volume : (Nat → Int32)) (t_p_freeze : Nat) (t_freeze : (Nat → Int32)) (t_cores : Int32) (t_p_earlier : Nat) (t_earlier : (Nat → Int32)) (t_stages : Int32) (t_p_place : Nat) (t_place : (Nat → Int32)) (t_p_now : Nat) (t_now : (Nat → Int32)) (t_p_was : Nat) (t_was : (Nat → Int32)) (t_changes : Int32) (t_p_one : Nat) (t_one : (Nat → Int32)) (t_readCavities : Int32) (t_p_readCavity : Nat) (t_readCavity : (Nat → Int32)) (t_readCores : Int32) (t_p_readCore : Nat) (t_readCore : (Nat → Int32)) (t_readStages : Int32) (t_p_readStage : Nat) (t_readStage : (Nat → Int32)) (t_p_readRule : Nat) (t_readRule : (Nat → Int32)) (t_value : Int32) (t_ends : Int32) (t_screw : Int32) (l1 : Int32) (sz : Nat) (N : Nat) (res : (Int32)) (hf : f6_isBad N l1 t_cavities t_volume t_now = some res) : Met l yX6_isBad wsX6_isBad ({ frames := 1, cells := 0, slots := 0, locals := 24 }) (pP g [.ref t_p, .int l1] sz (fl [wk6 g t_p t_length t_p_text t_text t_cavities t_p_volume t_volume t_p_freeze t_freeze t_cores t_p_earlier t_earlier t_stages t_p_place t_place t_p_now t_now t_p_was t_was t_changes t_p_one t_one t_readCavities t_p_readCavity t_readCavity t_readCores t_p_readCore t_readCore t_readStages t_p_readStage t_readStage t_p_readRule t_readRule t_value t_ends t_screw])) (pQi g (fun r => r = res) (fl [wk6 g t_p t_length t_p_text t_text t_cavities t_p_volume t_volume t_p_freeze t_freeze t_cores t_p_earlier t_earlier t_stages t_p_place t_place t_p_now t_now t_p_was t_was t_changes t_p_one t_one t_readCavities t_p_readCavity t_readCavity t_readCores t_p_readCore t_readCore t_readStages t_p_readStage t_readStage t_p_readRule t_readRule t_value t_ends t_screw]) (va_A (fl [wk6 g t_p t_length t_p_text t_text t_cavities t_p_volume t_volume t_p_freeze t_freeze t_cores t_p_earlier t_earlier t_stages t_p_place t_place t_p_now t_now t_p_was t_was t_changes t_p_one t_one t_readCavities t_p_readCavity t_readCavity t_readCores t_p_readCore t_readCore t_readStages t_p_readStage t_readStage t_p_readRule t_readRule t_value t_ends t_screw]) sz)) 0 0 (va_A (fl [wk6 g t_p t_length t_p_text t_text t_cavities t_p_volume t_volume t_p_freeze t_freeze t_cores t_p_earlier t_earlier t_stages t_p_place t_place t_p_now t_now t_p_was t_was t_changes t_p_one t_one t_readCavities t_p_readCavity t_readCavity t_readCores t_p_readCore t_readCore t_readStages t_p_readStage t_readStage t_p_readRule t_readRule t_value t_ends t_screw]) sz) := by
  refine Met.ofW (cc := cX6_isBad) (maxL := 4) (ret := (some .boolean)) (by decide) rfl ?_
  intro p e s m args below meth c s₁ B hml hv
  obtain ⟨rfl, hsz, hP, hK, hD0, hG⟩ := hv
  have hx := B.exec
  have hb := B.bytes
  have hr := B.returns
  have hts := atoms_spec (ws := wsX6_isBad) B.pre
  have hown : s.vm.findClass RX6 = some m.cls := findClass_of_methodNamed B.named
  have hlocks := B.notSynchronized
  subst hsz
  have hD := hD0.self (sz := s.heap.size)
  generalize hAe : va_A (fl [wk6 g t_p t_length t_p_text t_text t_cavities t_p_volume t_volume t_p_freeze t_freeze t_cores t_p_earlier t_earlier t_stages t_p_place t_place t_p_now t_now t_p_was t_was t_changes t_p_one t_one t_readCavities t_p_readCavity t_readCavity t_readCores t_p_readCore t_readCore t_readStages t_p_readStage t_readStage t_p_readRule t_readRule t_value t_ends t_screw]) s.heap.size = A at hD hG ⊢
  have hA : ∀ q : Nat, s.heap.size ≤ q → A q := fun q h => by rw [← hAe]; exact Or.inr h
  have hS : va_S A s.heap s.heap [] := va_S.rf
  have hin6 : ∀ w ∈ u_ws RX6 TX6 23, w ∈ wsX6_isBad := by decide +kernel
  have L1 := hts (Cond.fieldLink RX6 70 "MouldShotsModel" "cavities" "I") (by decide +kernel)
  have L2 := hts (Cond.fieldLink RX6 25 "MouldShotsModel" "now" "[I") (by decide +kernel)
  have w_4 : ∀ n : Nat, ∀ (v1 : Int32) (v2 : Int32) (v3 : Int32)  (H : Heap) (locs : List Loc) (ls : Array Slot), f6_isBad_4  N n v1 v2 v3 t_cavities t_volume t_now = some res → va_P g.1 vwCl (fl [wk6 g t_p t_length t_p_text t_text t_cavities t_p_volume t_volume t_p_freeze t_freeze t_cores t_p_earlier t_earlier t_stages t_p_place t_place t_p_now t_now t_p_was t_was t_changes t_p_one t_one t_readCavities t_p_readCavity t_readCavity t_readCores t_p_readCore t_readCore t_readStages t_p_readStage t_readStage t_p_readRule t_readRule t_value t_ends t_screw]) H → va_D A (fl [wk6 g t_p t_length t_p_text t_text t_cavities t_p_volume t_volume t_p_freeze t_freeze t_cores t_p_earlier t_earlier t_stages t_p_place t_place t_p_now t_now t_p_was t_was t_changes t_p_one t_one t_readCavities t_p_readCavity t_readCavity t_readCores t_p_readCore t_readCore t_readStages t_p_readStage t_readStage t_p_readRule t_readRule t_value t_ends t_screw]) → va_S A s.heap H locs → lv_has ls 4 [(0, .ref t_p), (1, .int v1), (2, .int v2), (3, .int v3)] → W p l e ({ frames := 1, cells := 0, slots := 0, locals := 24 }) s m ([.ref t_p, .int l1] : List Value).toArray below meth c H locs 0 0 (MQ below (pQi g (fun r => r = res) (fl [wk6 g t_p t_length t_p_text t_text t_cavities t_p_volume t_volume t_p_freeze t_freeze t_cores t_p_earlier t_earlier t_stages t_p_place t_place t_p_now t_now t_p_was t_was t_changes t_p_one t_one t_readCavities t_p_readCavity t_readCavity t_readCores t_p_readCore t_readCore t_readStages t_p_readStage t_readStage t_p_readRule t_readRule t_value t_ends t_screw]) A) ([.ref t_p, .int l1] : List Value).toArray s 0 0 A) (F0 m 4 ls []) := by
    intro  n
    induction n with
    | zero => intro v1 v2 v3 H locs ls hf; exact no_some hf
    | succ n ih =>
      intro v1 v2 v3 H locs ls hf hP hD hS hl
      rw [f6_isBad_4] at hf
      refine lv_iload_n hx hb dX6_isBad_4 rfl (lv_at hl 3 rfl) ?_
      refine lv_aload_n hx hb dX6_isBad_5 rfl (lv_at hl 0 rfl) ?_
      refine va_get (D := g.1) (ci := 6) (v := .int t_cavities) (C := RX6) (T := TX6) (N := 23) hx hb hts hin6 hown hK.1 hP 0 rfl rfl 2 (by decide) L1 (fun _ h9 => h9) rfl dX6_isBad_6 ?_
      refine lv_icmp_ge (tgt := 48) hx hb dX6_isBad_9 (by decide) (fun c_1 => ?_) (fun c_1 => ?_)
      · replace hf := (if_pos c_1).symm.trans hf
        refine lv_aload_n hx hb dX6_isBad_48 rfl (lv_at hl 0 rfl) ?_
        refine va_get (D := g.1) (ci := 6) (v := .ref t_p_now) (C := RX6) (T := TX6) (N := 23) hx hb hts hin6 hown hK.1 hP 0 rfl rfl 9 (by decide) L2 (fun _ h9 => h9) rfl dX6_isBad_49 ?_
        refine lv_bipush (v := 84) hx hb dX6_isBad_52 (by decide) ?_
        refine lv_iload_n hx hb dX6_isBad_54 rfl (lv_at hl 1 rfl) ?_
        refine lv_imul hx hb dX6_isBad_55 ?_
        refine lv_iconst (v := 1) hx hb dX6_isBad_56 (by decide) ?_
        refine lv_iadd hx hb dX6_isBad_57 ?_
        obtain ⟨h_2, hf⟩ := if_some hf
        refine va_iald hx hb hK.1 hP 6 0 rfl rfl (ok_in h_2) dX6_isBad_58 ?_
        refine lv_istore_n (lv' := [(3, .int (t_now (Int32.toNatClampNeg ((84 * v1) + 1)))), (0, .ref t_p), (1, .int v1), (2, .int v2)]) hx hb dX6_isBad_59 rfl hl (by decide) rfl (fun ls hl => ?_)
        refine lv_iload_n hx hb dX6_isBad_60 rfl (lv_at hl 3 rfl) ?_
        refine lv_if_ne (tgt := 112) hx hb dX6_isBad_61 (by decide) (fun c_3 => ?_) (fun c_3 => ?_)
        · replace hf := (if_neg c_3).symm.trans hf
          refine lv_iconst (v := 1) hx hb dX6_isBad_112 (by decide) ?_
          refine lv_goto (tgt := 117) hx hb dX6_isBad_113 (by decide) ?_
          replace hf := Option.some.inj hf
          subst hf
          exact W.zret (v := 1) hx hb hr rfl (fun t ht hW => ⟨⟨_, (), rfl, rfl, by show va_P g.1 vwCl _ t.heap; rw [ht]; exact hP⟩, hS.F ht⟩) hS.2.2 dX6_isBad_117 hlocks
        · replace hf := (if_pos c_3).symm.trans hf
          refine lv_aload_n hx hb dX6_isBad_64 rfl (lv_at hl 1 rfl) ?_
          refine va_get (D := g.1) (ci := 6) (v := .ref t_p_now) (C := RX6) (T := TX6) (N := 23) hx hb hts hin6 hown hK.1 hP 0 rfl rfl 9 (by decide) L2 (fun _ h9 => h9) rfl dX6_isBad_65 ?_
          refine lv_sipush (v := 1015) hx hb dX6_isBad_68 (by decide) ?_
          obtain ⟨h_4, hf⟩ := if_some hf
          refine va_iald hx hb hK.1 hP 6 0 rfl rfl (ok_in h_4) dX6_isBad_71 ?_
          refine lv_if_le (tgt := 116) hx hb dX6_isBad_72 (by decide) (fun c_5 => ?_) (fun c_5 => ?_)
          · replace hf := (if_pos c_5).symm.trans hf
            refine lv_iconst (v := 0) hx hb dX6_isBad_116 (by decide) ?_
            replace hf := Option.some.inj hf
            subst hf
            exact W.zret (v := 0) hx hb hr rfl (fun t ht hW => ⟨⟨_, (), rfl, rfl, by show va_P g.1 vwCl _ t.heap; rw [ht]; exact hP⟩, hS.F ht⟩) hS.2.2 dX6_isBad_117 hlocks
          · replace hf := (if_neg c_5).symm.trans hf
            refine lv_aload_n hx hb dX6_isBad_75 rfl (lv_at hl 1 rfl) ?_
            refine lv_iload_n hx hb dX6_isBad_76 rfl (lv_at hl 2 rfl) ?_
            obtain ⟨q_6, hq_6, hf⟩ := bd_some hf
            refine bft_i (bn := [wk6 g t_p t_length t_p_text t_text t_cavities t_p_volume t_volume t_p_freeze t_freeze t_cores t_p_earlier t_earlier t_stages t_p_place t_place t_p_now t_now t_p_was t_was t_changes t_p_one t_one t_readCavities t_p_readCavity t_readCavity t_readCores t_p_readCore t_readCore t_readStages t_p_readStage t_readStage t_p_readRule t_readRule t_value t_ends t_screw]) (L := [[t_p, t_p_text, t_p_volume, t_p_freeze, t_p_earlier, t_p_place, t_p_now, t_p_was, t_p_one, t_p_readCavity, t_p_readCore, t_p_readStage, t_p_readRule]]) (va_runV (As := [.int v1]) (rest := []) ⟨hx, hb, hml, hown, hts⟩ (c6_amiss l g t_p t_length t_p_text t_text t_cavities t_p_volume t_volume t_p_freeze t_freeze t_cores t_p_earlier t_earlier t_stages t_p_place t_place t_p_now t_now t_p_was t_was t_changes t_p_one t_one t_readCavities t_p_readCavity t_readCavity t_readCores t_p_readCore t_readCore t_readStages t_p_readStage t_readStage t_p_readRule t_readRule t_value t_ends t_screw v1 H.size N q_6 hq_6) (cwV 1 hts gX6_isBad_X6_amiss rfl rfl rfl ⟨rfl, nh6.1, nh6.2, pd_2⟩ ⟨Nat.le_of_ble_eq_true rfl, Nat.le_of_ble_eq_true rfl⟩) (qPV hK hG hP hD hS hA [0] (by decide) rfl (va_recv hK.1 hP (ci := 6) (q0 := 0) rfl rfl)) rfl rfl hl.1 rfl (lv_room (Nat.le_of_ble_eq_true rfl)) dX6_isBad_77 ⟨Nat.zero_le _, Nat.zero_le _⟩) hP hD hS hA [0] rfl rfl rfl rfl (fun r_7 H locs hw hP hD hS => ?_)
            replace hw := hw.symm
            subst hw
            refine lv_iconst (v := 1) hx hb dX6_isBad_80 (by decide) ?_
            refine lv_icmp_gt (tgt := 112) hx hb dX6_isBad_81 (by decide) (fun c_8 => ?_) (fun c_8 => ?_)
            · replace hf := (if_pos c_8).symm.trans hf
              refine lv_iconst (v := 1) hx hb dX6_isBad_112 (by decide) ?_
              refine lv_goto (tgt := 117) hx hb dX6_isBad_113 (by decide) ?_
              replace hf := Option.some.inj hf
              subst hf
              exact W.zret (v := 1) hx hb hr rfl (fun t ht hW => ⟨⟨_, (), rfl, rfl, by show va_P g.1 vwCl _ t.heap; rw [ht]; exact hP⟩, hS.F ht⟩) hS.2.2 dX6_isBad_117 hlocks
            · replace hf := (if_neg c_8).symm.trans hf
              refine lv_iload_n hx hb dX6_isBad_84 rfl (lv_at hl 0 rfl) ?_
              refine lv_aload_n hx hb dX6_isBad_85 rfl (lv_at hl 1 rfl) ?_
              refine va_get (D := g.1) (ci := 6) (v := .ref t_p_now) (C := RX6) (T := TX6) (N := 23) hx hb hts hin6 hown hK.1 hP 0 rfl rfl 9 (by decide) L2 (fun _ h9 => h9) rfl dX6_isBad_86 ?_
              refine lv_sipush (v := 1016) hx hb dX6_isBad_89 (by decide) ?_
              obtain ⟨h_9, hf⟩ := if_some hf
              refine va_iald hx hb hK.1 hP 6 0 rfl rfl (ok_in h_9) dX6_isBad_92 ?_
              refine lv_iconst (v := 1) hx hb dX6_isBad_93 (by decide) ?_
              refine lv_isub hx hb dX6_isBad_94 ?_
              refine lv_icmp_lt (tgt := 112) hx hb dX6_isBad_95 (by decide) (fun c_10 => ?_) (fun c_10 => ?_)
              · replace hf := (if_pos c_10).symm.trans hf
                refine lv_iconst (v := 1) hx hb dX6_isBad_112 (by decide) ?_
                refine lv_goto (tgt := 117) hx hb dX6_isBad_113 (by decide) ?_
                replace hf := Option.some.inj hf
                subst hf
                exact W.zret (v := 1) hx hb hr rfl (fun t ht hW => ⟨⟨_, (), rfl, rfl, by show va_P g.1 vwCl _ t.heap; rw [ht]; exact hP⟩, hS.F ht⟩) hS.2.2 dX6_isBad_117 hlocks
              · replace hf := (if_neg c_10).symm.trans hf
                refine lv_iload_n hx hb dX6_isBad_98 rfl (lv_at hl 0 rfl) ?_
                refine lv_aload_n hx hb dX6_isBad_99 rfl (lv_at hl 1 rfl) ?_
                refine va_get (D := g.1) (ci := 6) (v := .ref t_p_now) (C := RX6) (T := TX6) (N := 23) hx hb hts hin6 hown hK.1 hP 0 rfl rfl 9 (by decide) L2 (fun _ h9 => h9) rfl dX6_isBad_100 ?_
                refine lv_sipush (v := 1017) hx hb dX6_isBad_103 (by decide) ?_
                obtain ⟨h_11, hf⟩ := if_some hf
                refine va_iald hx hb hK.1 hP 6 0 rfl rfl (ok_in h_11) dX6_isBad_106 ?_
                refine lv_iconst (v := 1) hx hb dX6_isBad_107 (by decide) ?_
                refine lv_iadd hx hb dX6_isBad_108 ?_
                refine lv_icmp_le (tgt := 116) hx hb dX6_isBad_109 (by decide) (fun c_12 => ?_) (fun c_12 => ?_)
                · replace hf := (if_pos c_12).symm.trans hf
                  refine lv_iconst (v := 0) hx hb dX6_isBad_116 (by decide) ?_
                  replace hf := Option.some.inj hf
                  subst hf
                  exact W.zret (v := 0) hx hb hr rfl (fun t ht hW => ⟨⟨_, (), rfl, rfl, by show va_P g.1 vwCl _ t.heap; rw [ht]; exact hP⟩, hS.F ht⟩) hS.2.2 dX6_isBad_117 hlocks
                · replace hf := (if_neg c_12).symm.trans hf
                  refine lv_iconst (v := 1) hx hb dX6_isBad_112 (by decide) ?_
                  refine lv_goto (tgt := 117) hx hb dX6_isBad_113 (by decide) ?_
                  replace hf := Option.some.inj hf
                  subst hf
                  exact W.zret (v := 1) hx hb hr rfl (fun t ht hW => ⟨⟨_, (), rfl, rfl, by show va_P g.1 vwCl _ t.heap; rw [ht]; exact hP⟩, hS.F ht⟩) hS.2.2 dX6_isBad_117 hlocks
      · replace hf := (if_neg c_1).symm.trans hf
        refine lv_iload_n hx hb dX6_isBad_12 rfl (lv_at hl 2 rfl) ?_
        refine lv_if_ne (tgt := 36) hx hb dX6_isBad_13 (by decide) (fun c_13 => ?_) (fun c_13 => ?_)
        · replace hf := (if_neg c_13).symm.trans hf
          refine lv_iconst (v := 1) hx hb dX6_isBad_36 (by decide) ?_
          refine lv_goto (tgt := 41) hx hb dX6_isBad_37 (by decide) ?_
          refine lv_istore_n (lv' := [(2, .int 1), (0, .ref t_p), (1, .int v1), (3, .int v3)]) hx hb dX6_isBad_41 rfl hl (by decide) rfl (fun ls hl => ?_)
          refine lv_iinc (v := v3 + 1) (lv' := [(3, .int (v3 + 1)), (2, .int 1), (0, .ref t_p), (1, .int v1)]) hx hb dX6_isBad_42 hl (k := 3) rfl rfl (by decide) rfl (fun ls hl => ?_)
          refine lv_goto (tgt := 4) hx hb dX6_isBad_45 (by decide) ?_
          exact ih v1 1 (v3 + 1) H locs ls hf hP hD hS (lv_sub hl [2, 3, 1, 0] rfl)
        · replace hf := (if_pos c_13).symm.trans hf
          refine lv_aload_n hx hb dX6_isBad_16 rfl (lv_at hl 0 rfl) ?_
          refine lv_iload_n hx hb dX6_isBad_17 rfl (lv_at hl 1 rfl) ?_
          refine lv_iload_n hx hb dX6_isBad_18 rfl (lv_at hl 3 rfl) ?_
          obtain ⟨q_14, hq_14, hf⟩ := bd_some hf
          refine bft_i (bn := [wk6 g t_p t_length t_p_text t_text t_cavities t_p_volume t_volume t_p_freeze t_freeze t_cores t_p_earlier t_earlier t_stages t_p_place t_place t_p_now t_now t_p_was t_was t_changes t_p_one t_one t_readCavities t_p_readCavity t_readCavity t_readCores t_p_readCore t_readCore t_readStages t_p_readStage t_readStage t_p_readRule t_readRule t_value t_ends t_screw]) (L := [[t_p, t_p_text, t_p_volume, t_p_freeze, t_p_earlier, t_p_place, t_p_now, t_p_was, t_p_one, t_p_readCavity, t_p_readCore, t_p_readStage, t_p_readRule]]) (va_runV (As := [.int v1, .int v3]) (rest := []) ⟨hx, hb, hml, hown, hts⟩ (c6_overBy l g t_p t_length t_p_text t_text t_cavities t_p_volume t_volume t_p_freeze t_freeze t_cores t_p_earlier t_earlier t_stages t_p_place t_place t_p_now t_now t_p_was t_was t_changes t_p_one t_one t_readCavities t_p_readCavity t_readCavity t_readCores t_p_readCore t_readCore t_readStages t_p_readStage t_readStage t_p_readRule t_readRule t_value t_ends t_screw v1 v3 H.size N q_14 hq_14) (cwV 2 hts gX6_isBad_X6_overBy rfl rfl rfl ⟨rfl, nh6.1, nh6.2, pd_14⟩ ⟨Nat.le_of_ble_eq_true rfl, Nat.le_of_ble_eq_true rfl⟩) (qPV hK hG hP hD hS hA [0] (by decide) rfl (va_recv hK.1 hP (ci := 6) (q0 := 0) rfl rfl)) rfl rfl hl.1 rfl (lv_room (Nat.le_of_ble_eq_true rfl)) dX6_isBad_19 ⟨Nat.zero_le _, Nat.zero_le _⟩) hP hD hS hA [0] rfl rfl rfl rfl (fun r_15 H locs hw hP hD hS => ?_)
          replace hw := hw.symm
          subst hw
          refine lv_iconst (v := 1) hx hb dX6_isBad_22 (by decide) ?_
          refine lv_icmp_gt (tgt := 36) hx hb dX6_isBad_23 (by decide) (fun c_16 => ?_) (fun c_16 => ?_)
          · replace hf := (if_pos c_16).symm.trans hf
            refine lv_iconst (v := 1) hx hb dX6_isBad_36 (by decide) ?_
            refine lv_goto (tgt := 41) hx hb dX6_isBad_37 (by decide) ?_
            refine lv_istore_n (lv' := [(2, .int 1), (0, .ref t_p), (1, .int v1), (3, .int v3)]) hx hb dX6_isBad_41 rfl hl (by decide) rfl (fun ls hl => ?_)
            refine lv_iinc (v := v3 + 1) (lv' := [(3, .int (v3 + 1)), (2, .int 1), (0, .ref t_p), (1, .int v1)]) hx hb dX6_isBad_42 hl (k := 3) rfl rfl (by decide) rfl (fun ls hl => ?_)
            refine lv_goto (tgt := 4) hx hb dX6_isBad_45 (by decide) ?_
            exact ih v1 1 (v3 + 1) H locs ls hf hP hD hS (lv_sub hl [2, 3, 1, 0] rfl)
          · replace hf := (if_neg c_16).symm.trans hf
            refine lv_aload_n hx hb dX6_isBad_26 rfl (lv_at hl 0 rfl) ?_
            refine lv_iload_n hx hb dX6_isBad_27 rfl (lv_at hl 1 rfl) ?_
            refine lv_iload_n hx hb dX6_isBad_28 rfl (lv_at hl 3 rfl) ?_
            obtain ⟨q_17, hq_17, hf⟩ := bd_some hf
            refine bft_i (bn := [wk6 g t_p t_length t_p_text t_text t_cavities t_p_volume t_volume t_p_freeze t_freeze t_cores t_p_earlier t_earlier t_stages t_p_place t_place t_p_now t_now t_p_was t_was t_changes t_p_one t_one t_readCavities t_p_readCavity t_readCavity t_readCores t_p_readCore t_readCore t_readStages t_p_readStage t_readStage t_p_readRule t_readRule t_value t_ends t_screw]) (L := [[t_p, t_p_text, t_p_volume, t_p_freeze, t_p_earlier, t_p_place, t_p_now, t_p_was, t_p_one, t_p_readCavity, t_p_readCore, t_p_readStage, t_p_readRule]]) (va_runV (As := [.int v1, .int v3]) (rest := []) ⟨hx, hb, hml, hown, hts⟩ (c6_shortBy l g t_p t_length t_p_text t_text t_cavities t_p_volume t_volume t_p_freeze t_freeze t_cores t_p_earlier t_earlier t_stages t_p_place t_place t_p_now t_now t_p_was t_was t_changes t_p_one t_one t_readCavities t_p_readCavity t_readCavity t_readCores t_p_readCore t_readCore t_readStages t_p_readStage t_readStage t_p_readRule t_readRule t_value t_ends t_screw v1 v3 H.size N q_17 hq_17) (cwV 2 hts gX6_isBad_X6_shortBy rfl rfl rfl ⟨rfl, nh6.1, nh6.2, pd_14⟩ ⟨Nat.le_of_ble_eq_true rfl, Nat.le_of_ble_eq_true rfl⟩) (qPV hK hG hP hD hS hA [0] (by decide) rfl (va_recv hK.1 hP (ci := 6) (q0 := 0) rfl rfl)) rfl rfl hl.1 rfl (lv_room (Nat.le_of_ble_eq_true rfl)) dX6_isBad_29 ⟨Nat.zero_le _, Nat.zero_le _⟩) hP hD hS hA [0] rfl rfl rfl rfl (fun r_18 H locs hw hP hD hS => ?_)
            replace hw := hw.symm
            subst hw
            refine lv_iconst (v := 1) hx hb dX6_isBad_32 (by decide) ?_
            refine lv_icmp_le (tgt := 40) hx hb dX6_isBad_33 (by decide) (fun c_19 => ?_) (fun c_19 => ?_)
            · replace hf := (if_pos c_19).symm.trans hf
              refine lv_iconst (v := 0) hx hb dX6_isBad_40 (by decide) ?_
              refine lv_istore_n (lv' := [(2, .int 0), (0, .ref t_p), (1, .int v1), (3, .int v3)]) hx hb dX6_isBad_41 rfl hl (by decide) rfl (fun ls hl => ?_)
              refine lv_iinc (v := v3 + 1) (lv' := [(3, .int (v3 + 1)), (2, .int 0), (0, .ref t_p), (1, .int v1)]) hx hb dX6_isBad_42 hl (k := 3) rfl rfl (by decide) rfl (fun ls hl => ?_)
              refine lv_goto (tgt := 4) hx hb dX6_isBad_45 (by decide) ?_
              exact ih v1 0 (v3 + 1) H locs ls hf hP hD hS (lv_sub hl [2, 3, 1, 0] rfl)
            · replace hf := (if_neg c_19).symm.trans hf
              refine lv_iconst (v := 1) hx hb dX6_isBad_36 (by decide) ?_
              refine lv_goto (tgt := 41) hx hb dX6_isBad_37 (by decide) ?_
              refine lv_istore_n (lv' := [(2, .int 1), (0, .ref t_p), (1, .int v1), (3, .int v3)]) hx hb dX6_isBad_41 rfl hl (by decide) rfl (fun ls hl => ?_)
              refine lv_iinc (v := v3 + 1) (lv' := [(3, .int (v3 + 1)), (2, .int 1), (0, .ref t_p), (1, .int v1)]) hx hb dX6_isBad_42 hl (k := 3) rfl rfl (by decide) rfl (fun ls hl => ?_)
              refine lv_goto (tgt := 4) hx hb dX6_isBad_45 (by decide) ?_
              exact ih v1 1 (v3 + 1) H locs ls hf hP hD hS (lv_sub hl [2, 3, 1, 0] rfl)
  have hl := lv_entry ([.ref t_p, .int l1]) (n := 4) (Nat.le_of_ble_eq_true rfl)
  rw [lg_entry_eq]
  generalize (lg_sl ([.ref t_p, .int l1]) ++ List.replicate (4 - (lg_sl ([.ref t_p, .int l1])).length) Slot.unset).toArray = ls at hl ⊢
  replace hl : lv_has ls 4 [(0, .ref t_p), (1, .int l1)] := hl
  rw [f6_isBad] at hf
  have hgo : ∀ (H : Heap) (locs : List Loc), H = s.heap → locs = [] → va_P g.1 vwCl (fl [wk6 g t_p t_length t_p_text t_text t_cavities t_p_volume t_volume t_p_freeze t_freeze t_cores t_p_earlier t_earlier t_stages t_p_place t_place t_p_now t_now t_p_was t_was t_changes t_p_one t_one t_readCavities t_p_readCavity t_readCavity t_readCores t_p_readCore t_readCore t_readStages t_p_readStage t_readStage t_p_readRule t_readRule t_value t_ends t_screw]) H → va_S A s.heap H locs → W p l e ({ frames := 1, cells := 0, slots := 0, locals := 24 }) s m ([.ref t_p, .int l1] : List Value).toArray below meth c H locs 0 0 (MQ below (pQi g (fun r => r = res) (fl [wk6 g t_p t_length t_p_text t_text t_cavities t_p_volume t_volume t_p_freeze t_freeze t_cores t_p_earlier t_earlier t_stages t_p_place t_place t_p_now t_now t_p_was t_was t_changes t_p_one t_one t_readCavities t_p_readCavity t_readCavity t_readCores t_p_readCore t_readCore t_readStages t_p_readStage t_readStage t_p_readRule t_readRule t_value t_ends t_screw]) A) ([.ref t_p, .int l1] : List Value).toArray s 0 0 A) (F0 m 0 ls []) := by
    intro H locs hH hL hP hS
    refine lv_iconst (v := 0) hx hb dX6_isBad_0 (by decide) ?_
    refine lv_istore_n (lv' := [(2, .int 0), (0, .ref t_p), (1, .int l1)]) hx hb dX6_isBad_1 rfl hl (by decide) rfl (fun ls hl => ?_)
    refine lv_iconst (v := 0) hx hb dX6_isBad_2 (by decide) ?_
    refine lv_istore_n (lv' := [(3, .int 0), (2, .int 0), (0, .ref t_p), (1, .int l1)]) hx hb dX6_isBad_3 rfl hl (by decide) rfl (fun ls hl => ?_)
    exact w_4  N l1 0 0 H locs ls hf hP hD hS (lv_sub hl [2, 3, 1, 0] rfl)
  exact hgo s.heap [] rfl rfl hP hS

set_option maxHeartbeats 4000000 in
set_option maxRecDepth 100000 in
theorem c6_shot (l : Launch) (g : gG) (t_p : Nat) (t_length : Int32) (t_p_text : Nat) (t_text : (Nat → Int32)) (t_cavities : Int32) (t_p_volume : Nat) (t_volume : (Nat → Int32)) (t_p_freeze : Nat) (t_freeze : (Nat → Int32)) (t_cores : Int32) (t_p_earlier : Nat) (t_earlier : (Nat → Int32)) (t_stages : Int32) (t_p_place : Nat) (t_place : (Nat → Int32)) (t_p_now : Nat) (t_now : (Nat → Int32)) (t_p_was : Nat) (t_was : (Nat → Int32)) (t_changes : Int32) (t_p_one : Nat) (t_one : (Nat → Int32)) (t_readCavities : Int32) (t_p_readCavity : Nat) (t_readCavity : (Nat → Int32)) (t_readCores : Int32) (t_p_readCore : Nat) (t_readCore : (Nat → Int32)) (t_readStages : Int32) (t_p_readStage : Nat) (t_readStage : (Nat → Int32)) (t_p_readRule : Nat) (t_readRule : (Nat → Int32)) (t_value : Int32) (t_ends : Int32) (t_screw : Int32) (l1 : Int32) (l2 : Int32) (sz : Nat) (N : Nat) (res : (Int32)) (hf : f6_shot N l1 l2 t_cavities t_volume t_now = some res) : Met l yX6_shot wsX6_shot ({ frames := 2, cells := 0, slots := 0, locals := 47 }) (pP g [.ref t_p, .int l1, .int l2] sz (fl [wk6 g t_p t_length t_p_text t_text t_cavities t_p_volume t_volume t_p_freeze t_freeze t_cores t_p_earlier t_earlier t_stages t_p_place t_place t_p_now t_now t_p_was t_was t_changes t_p_one t_one t_readCavities t_p_readCavity t_readCavity t_readCores t_p_readCore t_readCore t_readStages t_p_readStage t_readStage t_p_readRule t_readRule t_value t_ends t_screw])) (pQi g (fun r => r = res) (fl [wk6 g t_p t_length t_p_text t_text t_cavities t_p_volume t_volume t_p_freeze t_freeze t_cores t_p_earlier t_earlier t_stages t_p_place t_place t_p_now t_now t_p_was t_was t_changes t_p_one t_one t_readCavities t_p_readCavity t_readCavity t_readCores t_p_readCore t_readCore t_readStages t_p_readStage t_readStage t_p_readRule t_readRule t_value t_ends t_screw]) (va_A (fl [wk6 g t_p t_length t_p_text t_text t_cavities t_p_volume t_volume t_p_freeze t_freeze t_cores t_p_earlier t_earlier t_stages t_p_place t_place t_p_now t_now t_p_was t_was t_changes t_p_one t_one t_readCavities t_p_readCavity t_readCavity t_readCores t_p_readCore t_readCore t_readStages t_p_readStage t_readStage t_p_readRule t_readRule t_value t_ends t_screw]) sz)) 0 0 (va_A (fl [wk6 g t_p t_length t_p_text t_text t_cavities t_p_volume t_volume t_p_freeze t_freeze t_cores t_p_earlier t_earlier t_stages t_p_place t_place t_p_now t_now t_p_was t_was t_changes t_p_one t_one t_readCavities t_p_readCavity t_readCavity t_readCores t_p_readCore t_readCore t_readStages t_p_readStage t_readStage t_p_readRule t_readRule t_value t_ends t_screw]) sz) := by
  refine Met.ofW (cc := cX6_shot) (maxL := 3) (ret := (some .int)) (by decide) rfl ?_
  intro p e s m args below meth c s₁ B hml hv
  obtain ⟨rfl, hsz, hP, hK, hD0, hG⟩ := hv
  have hx := B.exec
  have hb := B.bytes
  have hr := B.returns
  have hts := atoms_spec (ws := wsX6_shot) B.pre
  have hown : s.vm.findClass RX6 = some m.cls := findClass_of_methodNamed B.named
  have hlocks := B.notSynchronized
  subst hsz
  have hD := hD0.self (sz := s.heap.size)
  generalize hAe : va_A (fl [wk6 g t_p t_length t_p_text t_text t_cavities t_p_volume t_volume t_p_freeze t_freeze t_cores t_p_earlier t_earlier t_stages t_p_place t_place t_p_now t_now t_p_was t_was t_changes t_p_one t_one t_readCavities t_p_readCavity t_readCavity t_readCores t_p_readCore t_readCore t_readStages t_p_readStage t_readStage t_p_readRule t_readRule t_value t_ends t_screw]) s.heap.size = A at hD hG ⊢
  have hA : ∀ q : Nat, s.heap.size ≤ q → A q := fun q h => by rw [← hAe]; exact Or.inr h
  have hS : va_S A s.heap s.heap [] := va_S.rf
  have hin6 : ∀ w ∈ u_ws RX6 TX6 23, w ∈ wsX6_shot := by decide +kernel
  have L1 := hts (Cond.fieldLink RX6 25 "MouldShotsModel" "now" "[I") (by decide +kernel)
  have hl := lv_entry ([.ref t_p, .int l1, .int l2]) (n := 3) (Nat.le_of_ble_eq_true rfl)
  rw [lg_entry_eq]
  generalize (lg_sl ([.ref t_p, .int l1, .int l2]) ++ List.replicate (3 - (lg_sl ([.ref t_p, .int l1, .int l2])).length) Slot.unset).toArray = ls at hl ⊢
  replace hl : lv_has ls 3 [(0, .ref t_p), (1, .int l1), (2, .int l2)] := hl
  rw [f6_shot] at hf
  have hgo : ∀ (H : Heap) (locs : List Loc), H = s.heap → locs = [] → va_P g.1 vwCl (fl [wk6 g t_p t_length t_p_text t_text t_cavities t_p_volume t_volume t_p_freeze t_freeze t_cores t_p_earlier t_earlier t_stages t_p_place t_place t_p_now t_now t_p_was t_was t_changes t_p_one t_one t_readCavities t_p_readCavity t_readCavity t_readCores t_p_readCore t_readCore t_readStages t_p_readStage t_readStage t_p_readRule t_readRule t_value t_ends t_screw]) H → va_S A s.heap H locs → W p l e ({ frames := 2, cells := 0, slots := 0, locals := 47 }) s m ([.ref t_p, .int l1, .int l2] : List Value).toArray below meth c H locs 0 0 (MQ below (pQi g (fun r => r = res) (fl [wk6 g t_p t_length t_p_text t_text t_cavities t_p_volume t_volume t_p_freeze t_freeze t_cores t_p_earlier t_earlier t_stages t_p_place t_place t_p_now t_now t_p_was t_was t_changes t_p_one t_one t_readCavities t_p_readCavity t_readCavity t_readCores t_p_readCore t_readCore t_readStages t_p_readStage t_readStage t_p_readRule t_readRule t_value t_ends t_screw]) A) ([.ref t_p, .int l1, .int l2] : List Value).toArray s 0 0 A) (F0 m 0 ls []) := by
    intro H locs hH hL hP hS
    refine lv_aload_n hx hb dX6_shot_0 rfl (lv_at hl 0 rfl) ?_
    refine lv_iload_n hx hb dX6_shot_1 rfl (lv_at hl 1 rfl) ?_
    obtain ⟨q_1, hq_1, hf⟩ := bd_some hf
    refine bft_i (bn := [wk6 g t_p t_length t_p_text t_text t_cavities t_p_volume t_volume t_p_freeze t_freeze t_cores t_p_earlier t_earlier t_stages t_p_place t_place t_p_now t_now t_p_was t_was t_changes t_p_one t_one t_readCavities t_p_readCavity t_readCavity t_readCores t_p_readCore t_readCore t_readStages t_p_readStage t_readStage t_p_readRule t_readRule t_value t_ends t_screw]) (L := [[t_p, t_p_text, t_p_volume, t_p_freeze, t_p_earlier, t_p_place, t_p_now, t_p_was, t_p_one, t_p_readCavity, t_p_readCore, t_p_readStage, t_p_readRule]]) (va_runV (As := [.int l1]) (rest := []) ⟨hx, hb, hml, hown, hts⟩ (c6_isShot l g t_p t_length t_p_text t_text t_cavities t_p_volume t_volume t_p_freeze t_freeze t_cores t_p_earlier t_earlier t_stages t_p_place t_place t_p_now t_now t_p_was t_was t_changes t_p_one t_one t_readCavities t_p_readCavity t_readCavity t_readCores t_p_readCore t_readCore t_readStages t_p_readStage t_readStage t_p_readRule t_readRule t_value t_ends t_screw l1 H.size N q_1 hq_1) (cwV 1 hts gX6_shot_X6_isShot rfl rfl rfl ⟨rfl, nh6.1, nh6.2, pd_1⟩ ⟨Nat.le_of_ble_eq_true rfl, Nat.le_of_ble_eq_true rfl⟩) (qPV hK hG hP hD hS hA [0] (by decide) rfl (va_recv hK.1 hP (ci := 6) (q0 := 0) rfl rfl)) rfl rfl hl.1 rfl (lv_room (Nat.le_of_ble_eq_true rfl)) dX6_shot_2 ⟨Nat.zero_le _, Nat.zero_le _⟩) hP hD hS hA [0] rfl rfl rfl rfl (fun r_2 H locs hw hP hD hS => ?_)
    replace hw := hw.symm
    subst hw
    refine lv_if_eq (tgt := 18) hx hb dX6_shot_5 (by decide) (fun c_3 => ?_) (fun c_3 => ?_)
    · replace hf := (if_pos c_3).symm.trans hf
      refine lv_iconst (v := (-1)) hx hb dX6_shot_18 (by decide) ?_
      replace hf := Option.some.inj hf
      subst hf
      exact W.iret (v := (-1)) hx hb hr (fun t ht hW => ⟨⟨_, (), rfl, rfl, by show va_P g.1 vwCl _ t.heap; rw [ht]; exact hP⟩, hS.F ht⟩) hS.2.2 dX6_shot_19 hlocks
    · replace hf := (if_neg c_3).symm.trans hf
      refine lv_iload_n hx hb dX6_shot_8 rfl (lv_at hl 2 rfl) ?_
      refine lv_iconst (v := 0) hx hb dX6_shot_9 (by decide) ?_
      refine lv_bipush (v := 8) hx hb dX6_shot_10 (by decide) ?_
      obtain ⟨q_4, hq_4, hf⟩ := bd_some hf
      refine aft_i (wn := (fl [wk6 g t_p t_length t_p_text t_text t_cavities t_p_volume t_volume t_p_freeze t_freeze t_cores t_p_earlier t_earlier t_stages t_p_place t_place t_p_now t_now t_p_was t_was t_changes t_p_one t_one t_readCavities t_p_readCavity t_readCavity t_readCores t_p_readCore t_readCore t_readStages t_p_readStage t_readStage t_p_readRule t_readRule t_value t_ends t_screw])) (va_runS (As := [.int l2, .int 0, .int 8]) (rest := []) ⟨hx, hb, hml, hown, hts⟩ (c6_isIn l g l2 0 8 H.size N q_4 hq_4) (va_cwS 3 hts gX6_shot_X6_isIn rfl rfl rfl ⟨nh6.1, nh6.2, pd_17⟩ ⟨Nat.le_of_ble_eq_true rfl, Nat.le_of_ble_eq_true rfl⟩) (pPS hK hG hP hD hS hA [] (by decide) rfl) rfl rfl hl.1 rfl (lv_room (Nat.le_of_ble_eq_true rfl)) dX6_shot_12 ⟨Nat.zero_le _, Nat.zero_le _⟩) hP hD hS hA [] rfl rfl rfl (fun r_5 H locs hw hP hD hS => ?_)
      replace hw := hw.symm
      subst hw
      refine lv_if_ne (tgt := 20) hx hb dX6_shot_15 (by decide) (fun c_6 => ?_) (fun c_6 => ?_)
      · replace hf := (if_neg c_6).symm.trans hf
        refine lv_iload_n hx hb dX6_shot_20 rfl (lv_at hl 2 rfl) ?_
        refine lv_bipush (v := 7) hx hb dX6_shot_21 (by decide) ?_
        refine lv_icmp_ge (tgt := 39) hx hb dX6_shot_23 (by decide) (fun c_7 => ?_) (fun c_7 => ?_)
        · replace hf := (if_pos c_7).symm.trans hf
          refine lv_iload_n hx hb dX6_shot_39 rfl (lv_at hl 2 rfl) ?_
          refine lv_bipush (v := 8) hx hb dX6_shot_40 (by decide) ?_
          refine lv_icmp_ne (tgt := 61) hx hb dX6_shot_42 (by decide) (fun c_8 => ?_) (fun c_8 => ?_)
          · replace hf := (if_neg c_8).symm.trans hf
            refine lv_aload_n hx hb dX6_shot_61 rfl (lv_at hl 0 rfl) ?_
            refine va_get (D := g.1) (ci := 6) (v := .ref t_p_now) (C := RX6) (T := TX6) (N := 23) hx hb hts hin6 hown hK.1 hP 0 rfl rfl 9 (by decide) L1 (fun _ h9 => h9) rfl dX6_shot_62 ?_
            refine lv_sipush (v := 1015) hx hb dX6_shot_65 (by decide) ?_
            obtain ⟨h_9, hf⟩ := if_some hf
            refine va_iald hx hb hK.1 hP 6 0 rfl rfl (ok_in h_9) dX6_shot_68 ?_
            refine lv_if_ne (tgt := 77) hx hb dX6_shot_69 (by decide) (fun c_10 => ?_) (fun c_10 => ?_)
            · replace hf := (if_neg c_10).symm.trans hf
              refine lv_aload_n hx hb dX6_shot_77 rfl (lv_at hl 0 rfl) ?_
              refine lv_iload_n hx hb dX6_shot_78 rfl (lv_at hl 1 rfl) ?_
              obtain ⟨q_11, hq_11, hf⟩ := bd_some hf
              refine bft_i (bn := [wk6 g t_p t_length t_p_text t_text t_cavities t_p_volume t_volume t_p_freeze t_freeze t_cores t_p_earlier t_earlier t_stages t_p_place t_place t_p_now t_now t_p_was t_was t_changes t_p_one t_one t_readCavities t_p_readCavity t_readCavity t_readCores t_p_readCore t_readCore t_readStages t_p_readStage t_readStage t_p_readRule t_readRule t_value t_ends t_screw]) (L := [[t_p, t_p_text, t_p_volume, t_p_freeze, t_p_earlier, t_p_place, t_p_now, t_p_was, t_p_one, t_p_readCavity, t_p_readCore, t_p_readStage, t_p_readRule]]) (va_runV (As := [.int l1]) (rest := []) ⟨hx, hb, hml, hown, hts⟩ (c6_amiss l g t_p t_length t_p_text t_text t_cavities t_p_volume t_volume t_p_freeze t_freeze t_cores t_p_earlier t_earlier t_stages t_p_place t_place t_p_now t_now t_p_was t_was t_changes t_p_one t_one t_readCavities t_p_readCavity t_readCavity t_readCores t_p_readCore t_readCore t_readStages t_p_readStage t_readStage t_p_readRule t_readRule t_value t_ends t_screw l1 H.size N q_11 hq_11) (cwV 1 hts gX6_shot_X6_amiss rfl rfl rfl ⟨rfl, nh6.1, nh6.2, pd_2⟩ ⟨Nat.le_of_ble_eq_true rfl, Nat.le_of_ble_eq_true rfl⟩) (qPV hK hG hP hD hS hA [0] (by decide) rfl (va_recv hK.1 hP (ci := 6) (q0 := 0) rfl rfl)) rfl rfl hl.1 rfl (lv_room (Nat.le_of_ble_eq_true rfl)) dX6_shot_79 ⟨Nat.zero_le _, Nat.zero_le _⟩) hP hD hS hA [0] rfl rfl rfl rfl (fun r_12 H locs hw hP hD hS => ?_)
              replace hw := hw.symm
              subst hw
              replace hf := Option.some.inj hf
              subst hf
              exact W.iret (v := q_11) hx hb hr (fun t ht hW => ⟨⟨_, (), rfl, rfl, by show va_P g.1 vwCl _ t.heap; rw [ht]; exact hP⟩, hS.F ht⟩) hS.2.2 dX6_shot_82 hlocks
            · replace hf := (if_pos c_10).symm.trans hf
              refine lv_bipush (v := (-4)) hx hb dX6_shot_72 (by decide) ?_
              refine lv_goto (tgt := 82) hx hb dX6_shot_74 (by decide) ?_
              replace hf := Option.some.inj hf
              subst hf
              exact W.iret (v := (-4)) hx hb hr (fun t ht hW => ⟨⟨_, (), rfl, rfl, by show va_P g.1 vwCl _ t.heap; rw [ht]; exact hP⟩, hS.F ht⟩) hS.2.2 dX6_shot_82 hlocks
          · replace hf := (if_pos c_8).symm.trans hf
            refine lv_aload_n hx hb dX6_shot_45 rfl (lv_at hl 0 rfl) ?_
            refine lv_iload_n hx hb dX6_shot_46 rfl (lv_at hl 1 rfl) ?_
            obtain ⟨q_13, hq_13, hf⟩ := bd_some hf
            refine bft_i (bn := [wk6 g t_p t_length t_p_text t_text t_cavities t_p_volume t_volume t_p_freeze t_freeze t_cores t_p_earlier t_earlier t_stages t_p_place t_place t_p_now t_now t_p_was t_was t_changes t_p_one t_one t_readCavities t_p_readCavity t_readCavity t_readCores t_p_readCore t_readCore t_readStages t_p_readStage t_readStage t_p_readRule t_readRule t_value t_ends t_screw]) (L := [[t_p, t_p_text, t_p_volume, t_p_freeze, t_p_earlier, t_p_place, t_p_now, t_p_was, t_p_one, t_p_readCavity, t_p_readCore, t_p_readStage, t_p_readRule]]) (va_runV (As := [.int l1]) (rest := []) ⟨hx, hb, hml, hown, hts⟩ (c6_isBad l g t_p t_length t_p_text t_text t_cavities t_p_volume t_volume t_p_freeze t_freeze t_cores t_p_earlier t_earlier t_stages t_p_place t_place t_p_now t_now t_p_was t_was t_changes t_p_one t_one t_readCavities t_p_readCavity t_readCavity t_readCores t_p_readCore t_readCore t_readStages t_p_readStage t_readStage t_p_readRule t_readRule t_value t_ends t_screw l1 H.size N q_13 hq_13) (cwV 1 hts gX6_shot_X6_isBad rfl rfl rfl ⟨rfl, nh6.1, nh6.2, pd_1⟩ ⟨Nat.le_of_ble_eq_true rfl, Nat.le_of_ble_eq_true rfl⟩) (qPV hK hG hP hD hS hA [0] (by decide) rfl (va_recv hK.1 hP (ci := 6) (q0 := 0) rfl rfl)) rfl rfl hl.1 rfl (lv_room (Nat.le_of_ble_eq_true rfl)) dX6_shot_47 ⟨Nat.zero_le _, Nat.zero_le _⟩) hP hD hS hA [0] rfl rfl rfl rfl (fun r_14 H locs hw hP hD hS => ?_)
            replace hw := hw.symm
            subst hw
            refine lv_if_eq (tgt := 57) hx hb dX6_shot_50 (by decide) (fun c_15 => ?_) (fun c_15 => ?_)
            · replace hf := (if_pos c_15).symm.trans hf
              refine lv_iconst (v := 0) hx hb dX6_shot_57 (by decide) ?_
              refine lv_goto (tgt := 82) hx hb dX6_shot_58 (by decide) ?_
              replace hf := Option.some.inj hf
              subst hf
              exact W.iret (v := 0) hx hb hr (fun t ht hW => ⟨⟨_, (), rfl, rfl, by show va_P g.1 vwCl _ t.heap; rw [ht]; exact hP⟩, hS.F ht⟩) hS.2.2 dX6_shot_82 hlocks
            · replace hf := (if_neg c_15).symm.trans hf
              refine lv_iconst (v := 1) hx hb dX6_shot_53 (by decide) ?_
              refine lv_goto (tgt := 82) hx hb dX6_shot_54 (by decide) ?_
              replace hf := Option.some.inj hf
              subst hf
              exact W.iret (v := 1) hx hb hr (fun t ht hW => ⟨⟨_, (), rfl, rfl, by show va_P g.1 vwCl _ t.heap; rw [ht]; exact hP⟩, hS.F ht⟩) hS.2.2 dX6_shot_82 hlocks
        · replace hf := (if_neg c_7).symm.trans hf
          refine lv_aload_n hx hb dX6_shot_26 rfl (lv_at hl 0 rfl) ?_
          refine va_get (D := g.1) (ci := 6) (v := .ref t_p_now) (C := RX6) (T := TX6) (N := 23) hx hb hts hin6 hown hK.1 hP 0 rfl rfl 9 (by decide) L1 (fun _ h9 => h9) rfl dX6_shot_27 ?_
          refine lv_bipush (v := 84) hx hb dX6_shot_30 (by decide) ?_
          refine lv_iload_n hx hb dX6_shot_32 rfl (lv_at hl 1 rfl) ?_
          refine lv_imul hx hb dX6_shot_33 ?_
          refine lv_iload_n hx hb dX6_shot_34 rfl (lv_at hl 2 rfl) ?_
          obtain ⟨q_16, hq_16, hf⟩ := bd_some hf
          refine aft_i (wn := (fl [wk6 g t_p t_length t_p_text t_text t_cavities t_p_volume t_volume t_p_freeze t_freeze t_cores t_p_earlier t_earlier t_stages t_p_place t_place t_p_now t_now t_p_was t_was t_changes t_p_one t_one t_readCavities t_p_readCavity t_readCavity t_readCores t_p_readCore t_readCore t_readStages t_p_readStage t_readStage t_p_readRule t_readRule t_value t_ends t_screw])) (va_runS (As := [.ref t_p_now, .int (84 * l1), .int l2]) (rest := []) ⟨hx, hb, hml, hown, hts⟩ (c6_told l g t_p_now 1155 t_now (84 * l1) l2 H.size N q_16 hq_16) (va_cwS 3 hts gX6_shot_X6_told rfl rfl rfl ⟨nh6.1, nh6.2, pd_31⟩ ⟨Nat.le_of_ble_eq_true rfl, Nat.le_of_ble_eq_true rfl⟩) (pPS hK hG hP hD hS hA [6] (by decide) rfl) rfl rfl hl.1 rfl (lv_room (Nat.le_of_ble_eq_true rfl)) dX6_shot_35 ⟨Nat.zero_le _, Nat.zero_le _⟩) hP hD hS hA [6] rfl rfl rfl (fun r_17 H locs hw hP hD hS => ?_)
          replace hw := hw.symm
          subst hw
          replace hf := Option.some.inj hf
          subst hf
          exact W.iret (v := q_16) hx hb hr (fun t ht hW => ⟨⟨_, (), rfl, rfl, by show va_P g.1 vwCl _ t.heap; rw [ht]; exact hP⟩, hS.F ht⟩) hS.2.2 dX6_shot_38 hlocks
      · replace hf := (if_pos c_6).symm.trans hf
        refine lv_iconst (v := (-1)) hx hb dX6_shot_18 (by decide) ?_
        replace hf := Option.some.inj hf
        subst hf
        exact W.iret (v := (-1)) hx hb hr (fun t ht hW => ⟨⟨_, (), rfl, rfl, by show va_P g.1 vwCl _ t.heap; rw [ht]; exact hP⟩, hS.F ht⟩) hS.2.2 dX6_shot_19 hlocks
  exact hgo s.heap [] rfl rfl hP hS

set_option maxHeartbeats 4000000 in
set_option maxRecDepth 100000 in
theorem c6_curve (l : Launch) (g : gG) (t_p : Nat) (t_length : Int32) (t_p_text : Nat) (t_text : (Nat → Int32)) (t_cavities : Int32) (t_p_volume : Nat) (t_volume : (Nat → Int32)) (t_p_freeze : Nat) (t_freeze : (Nat → Int32)) (t_cores : Int32) (t_p_earlier : Nat) (t_earlier : (Nat → Int32)) (t_stages : Int32) (t_p_place : Nat) (t_place : (Nat → Int32)) (t_p_now : Nat) (t_now : (Nat → Int32)) (t_p_was : Nat) (t_was : (Nat → Int32)) (t_changes : Int32) (t_p_one : Nat) (t_one : (Nat → Int32)) (t_readCavities : Int32) (t_p_readCavity : Nat) (t_readCavity : (Nat → Int32)) (t_readCores : Int32) (t_p_readCore : Nat) (t_readCore : (Nat → Int32)) (t_readStages : Int32) (t_p_readStage : Nat) (t_readStage : (Nat → Int32)) (t_p_readRule : Nat) (t_readRule : (Nat → Int32)) (t_value : Int32) (t_ends : Int32) (t_screw : Int32) (l1 : Int32) (l2 : Int32) (sz : Nat) (N : Nat) (res : (Int32)) (hf : f6_curve N l1 l2 t_now = some res) : Met l yX6_curve wsX6_curve ({ frames := 2, cells := 0, slots := 0, locals := 43 }) (pP g [.ref t_p, .int l1, .int l2] sz (fl [wk6 g t_p t_length t_p_text t_text t_cavities t_p_volume t_volume t_p_freeze t_freeze t_cores t_p_earlier t_earlier t_stages t_p_place t_place t_p_now t_now t_p_was t_was t_changes t_p_one t_one t_readCavities t_p_readCavity t_readCavity t_readCores t_p_readCore t_readCore t_readStages t_p_readStage t_readStage t_p_readRule t_readRule t_value t_ends t_screw])) (pQi g (fun r => r = res) (fl [wk6 g t_p t_length t_p_text t_text t_cavities t_p_volume t_volume t_p_freeze t_freeze t_cores t_p_earlier t_earlier t_stages t_p_place t_place t_p_now t_now t_p_was t_was t_changes t_p_one t_one t_readCavities t_p_readCavity t_readCavity t_readCores t_p_readCore t_readCore t_readStages t_p_readStage t_readStage t_p_readRule t_readRule t_value t_ends t_screw]) (va_A (fl [wk6 g t_p t_length t_p_text t_text t_cavities t_p_volume t_volume t_p_freeze t_freeze t_cores t_p_earlier t_earlier t_stages t_p_place t_place t_p_now t_now t_p_was t_was t_changes t_p_one t_one t_readCavities t_p_readCavity t_readCavity t_readCores t_p_readCore t_readCore t_readStages t_p_readStage t_readStage t_p_readRule t_readRule t_value t_ends t_screw]) sz)) 0 0 (va_A (fl [wk6 g t_p t_length t_p_text t_text t_cavities t_p_volume t_volume t_p_freeze t_freeze t_cores t_p_earlier t_earlier t_stages t_p_place t_place t_p_now t_now t_p_was t_was t_changes t_p_one t_one t_readCavities t_p_readCavity t_readCavity t_readCores t_p_readCore t_readCore t_readStages t_p_readStage t_readStage t_p_readRule t_readRule t_value t_ends t_screw]) sz) := by
  refine Met.ofW (cc := cX6_curve) (maxL := 3) (ret := (some .int)) (by decide) rfl ?_
  intro p e s m args below meth c s₁ B hml hv
  obtain ⟨rfl, hsz, hP, hK, hD0, hG⟩ := hv
  have hx := B.exec
  have hb := B.bytes
  have hr := B.returns
  have hts := atoms_spec (ws := wsX6_curve) B.pre
  have hown : s.vm.findClass RX6 = some m.cls := findClass_of_methodNamed B.named
  have hlocks := B.notSynchronized
  subst hsz
  have hD := hD0.self (sz := s.heap.size)
  generalize hAe : va_A (fl [wk6 g t_p t_length t_p_text t_text t_cavities t_p_volume t_volume t_p_freeze t_freeze t_cores t_p_earlier t_earlier t_stages t_p_place t_place t_p_now t_now t_p_was t_was t_changes t_p_one t_one t_readCavities t_p_readCavity t_readCavity t_readCores t_p_readCore t_readCore t_readStages t_p_readStage t_readStage t_p_readRule t_readRule t_value t_ends t_screw]) s.heap.size = A at hD hG ⊢
  have hA : ∀ q : Nat, s.heap.size ≤ q → A q := fun q h => by rw [← hAe]; exact Or.inr h
  have hS : va_S A s.heap s.heap [] := va_S.rf
  have hin6 : ∀ w ∈ u_ws RX6 TX6 23, w ∈ wsX6_curve := by decide +kernel
  have L1 := hts (Cond.fieldLink RX6 25 "MouldShotsModel" "now" "[I") (by decide +kernel)
  have hl := lv_entry ([.ref t_p, .int l1, .int l2]) (n := 3) (Nat.le_of_ble_eq_true rfl)
  rw [lg_entry_eq]
  generalize (lg_sl ([.ref t_p, .int l1, .int l2]) ++ List.replicate (3 - (lg_sl ([.ref t_p, .int l1, .int l2])).length) Slot.unset).toArray = ls at hl ⊢
  replace hl : lv_has ls 3 [(0, .ref t_p), (1, .int l1), (2, .int l2)] := hl
  rw [f6_curve] at hf
  have hgo : ∀ (H : Heap) (locs : List Loc), H = s.heap → locs = [] → va_P g.1 vwCl (fl [wk6 g t_p t_length t_p_text t_text t_cavities t_p_volume t_volume t_p_freeze t_freeze t_cores t_p_earlier t_earlier t_stages t_p_place t_place t_p_now t_now t_p_was t_was t_changes t_p_one t_one t_readCavities t_p_readCavity t_readCavity t_readCores t_p_readCore t_readCore t_readStages t_p_readStage t_readStage t_p_readRule t_readRule t_value t_ends t_screw]) H → va_S A s.heap H locs → W p l e ({ frames := 2, cells := 0, slots := 0, locals := 43 }) s m ([.ref t_p, .int l1, .int l2] : List Value).toArray below meth c H locs 0 0 (MQ below (pQi g (fun r => r = res) (fl [wk6 g t_p t_length t_p_text t_text t_cavities t_p_volume t_volume t_p_freeze t_freeze t_cores t_p_earlier t_earlier t_stages t_p_place t_place t_p_now t_now t_p_was t_was t_changes t_p_one t_one t_readCavities t_p_readCavity t_readCavity t_readCores t_p_readCore t_readCore t_readStages t_p_readStage t_readStage t_p_readRule t_readRule t_value t_ends t_screw]) A) ([.ref t_p, .int l1, .int l2] : List Value).toArray s 0 0 A) (F0 m 0 ls []) := by
    intro H locs hH hL hP hS
    refine lv_aload_n hx hb dX6_curve_0 rfl (lv_at hl 0 rfl) ?_
    refine lv_iload_n hx hb dX6_curve_1 rfl (lv_at hl 1 rfl) ?_
    obtain ⟨q_1, hq_1, hf⟩ := bd_some hf
    refine bft_i (bn := [wk6 g t_p t_length t_p_text t_text t_cavities t_p_volume t_volume t_p_freeze t_freeze t_cores t_p_earlier t_earlier t_stages t_p_place t_place t_p_now t_now t_p_was t_was t_changes t_p_one t_one t_readCavities t_p_readCavity t_readCavity t_readCores t_p_readCore t_readCore t_readStages t_p_readStage t_readStage t_p_readRule t_readRule t_value t_ends t_screw]) (L := [[t_p, t_p_text, t_p_volume, t_p_freeze, t_p_earlier, t_p_place, t_p_now, t_p_was, t_p_one, t_p_readCavity, t_p_readCore, t_p_readStage, t_p_readRule]]) (va_runV (As := [.int l1]) (rest := []) ⟨hx, hb, hml, hown, hts⟩ (c6_isShot l g t_p t_length t_p_text t_text t_cavities t_p_volume t_volume t_p_freeze t_freeze t_cores t_p_earlier t_earlier t_stages t_p_place t_place t_p_now t_now t_p_was t_was t_changes t_p_one t_one t_readCavities t_p_readCavity t_readCavity t_readCores t_p_readCore t_readCore t_readStages t_p_readStage t_readStage t_p_readRule t_readRule t_value t_ends t_screw l1 H.size N q_1 hq_1) (cwV 1 hts gX6_curve_X6_isShot rfl rfl rfl ⟨rfl, nh6.1, nh6.2, pd_1⟩ ⟨Nat.le_of_ble_eq_true rfl, Nat.le_of_ble_eq_true rfl⟩) (qPV hK hG hP hD hS hA [0] (by decide) rfl (va_recv hK.1 hP (ci := 6) (q0 := 0) rfl rfl)) rfl rfl hl.1 rfl (lv_room (Nat.le_of_ble_eq_true rfl)) dX6_curve_2 ⟨Nat.zero_le _, Nat.zero_le _⟩) hP hD hS hA [0] rfl rfl rfl rfl (fun r_2 H locs hw hP hD hS => ?_)
    replace hw := hw.symm
    subst hw
    refine lv_if_eq (tgt := 18) hx hb dX6_curve_5 (by decide) (fun c_3 => ?_) (fun c_3 => ?_)
    · replace hf := (if_pos c_3).symm.trans hf
      refine lv_iconst (v := (-1)) hx hb dX6_curve_18 (by decide) ?_
      replace hf := Option.some.inj hf
      subst hf
      exact W.iret (v := (-1)) hx hb hr (fun t ht hW => ⟨⟨_, (), rfl, rfl, by show va_P g.1 vwCl _ t.heap; rw [ht]; exact hP⟩, hS.F ht⟩) hS.2.2 dX6_curve_19 hlocks
    · replace hf := (if_neg c_3).symm.trans hf
      refine lv_iload_n hx hb dX6_curve_8 rfl (lv_at hl 2 rfl) ?_
      refine lv_iconst (v := 1) hx hb dX6_curve_9 (by decide) ?_
      refine lv_bipush (v := 60) hx hb dX6_curve_10 (by decide) ?_
      obtain ⟨q_4, hq_4, hf⟩ := bd_some hf
      refine aft_i (wn := (fl [wk6 g t_p t_length t_p_text t_text t_cavities t_p_volume t_volume t_p_freeze t_freeze t_cores t_p_earlier t_earlier t_stages t_p_place t_place t_p_now t_now t_p_was t_was t_changes t_p_one t_one t_readCavities t_p_readCavity t_readCavity t_readCores t_p_readCore t_readCore t_readStages t_p_readStage t_readStage t_p_readRule t_readRule t_value t_ends t_screw])) (va_runS (As := [.int l2, .int 1, .int 60]) (rest := []) ⟨hx, hb, hml, hown, hts⟩ (c6_isIn l g l2 1 60 H.size N q_4 hq_4) (va_cwS 3 hts gX6_curve_X6_isIn rfl rfl rfl ⟨nh6.1, nh6.2, pd_17⟩ ⟨Nat.le_of_ble_eq_true rfl, Nat.le_of_ble_eq_true rfl⟩) (pPS hK hG hP hD hS hA [] (by decide) rfl) rfl rfl hl.1 rfl (lv_room (Nat.le_of_ble_eq_true rfl)) dX6_curve_12 ⟨Nat.zero_le _, Nat.zero_le _⟩) hP hD hS hA [] rfl rfl rfl (fun r_5 H locs hw hP hD hS => ?_)
      replace hw := hw.symm
      subst hw
      refine lv_if_ne (tgt := 20) hx hb dX6_curve_15 (by decide) (fun c_6 => ?_) (fun c_6 => ?_)
      · replace hf := (if_neg c_6).symm.trans hf
        refine lv_iload_n hx hb dX6_curve_20 rfl (lv_at hl 2 rfl) ?_
        refine lv_aload_n hx hb dX6_curve_21 rfl (lv_at hl 0 rfl) ?_
        refine va_get (D := g.1) (ci := 6) (v := .ref t_p_now) (C := RX6) (T := TX6) (N := 23) hx hb hts hin6 hown hK.1 hP 0 rfl rfl 9 (by decide) L1 (fun _ h9 => h9) rfl dX6_curve_22 ?_
        refine lv_bipush (v := 84) hx hb dX6_curve_25 (by decide) ?_
        refine lv_iload_n hx hb dX6_curve_27 rfl (lv_at hl 1 rfl) ?_
        refine lv_imul hx hb dX6_curve_28 ?_
        refine lv_iconst (v := 1) hx hb dX6_curve_29 (by decide) ?_
        refine lv_iadd hx hb dX6_curve_30 ?_
        obtain ⟨h_7, hf⟩ := if_some hf
        refine va_iald hx hb hK.1 hP 6 0 rfl rfl (ok_in h_7) dX6_curve_31 ?_
        refine lv_icmp_gt (tgt := 54) hx hb dX6_curve_32 (by decide) (fun c_8 => ?_) (fun c_8 => ?_)
        · replace hf := (if_pos c_8).symm.trans hf
          refine lv_bipush (v := (-4)) hx hb dX6_curve_54 (by decide) ?_
          replace hf := Option.some.inj hf
          subst hf
          exact W.iret (v := (-4)) hx hb hr (fun t ht hW => ⟨⟨_, (), rfl, rfl, by show va_P g.1 vwCl _ t.heap; rw [ht]; exact hP⟩, hS.F ht⟩) hS.2.2 dX6_curve_56 hlocks
        · replace hf := (if_neg c_8).symm.trans hf
          refine lv_aload_n hx hb dX6_curve_35 rfl (lv_at hl 0 rfl) ?_
          refine va_get (D := g.1) (ci := 6) (v := .ref t_p_now) (C := RX6) (T := TX6) (N := 23) hx hb hts hin6 hown hK.1 hP 0 rfl rfl 9 (by decide) L1 (fun _ h9 => h9) rfl dX6_curve_36 ?_
          refine lv_bipush (v := 84) hx hb dX6_curve_39 (by decide) ?_
          refine lv_iload_n hx hb dX6_curve_41 rfl (lv_at hl 1 rfl) ?_
          refine lv_imul hx hb dX6_curve_42 ?_
          refine lv_bipush (v := 6) hx hb dX6_curve_43 (by decide) ?_
          refine lv_iadd hx hb dX6_curve_45 ?_
          refine lv_iload_n hx hb dX6_curve_46 rfl (lv_at hl 2 rfl) ?_
          refine lv_iadd hx hb dX6_curve_47 ?_
          refine lv_iconst (v := 1) hx hb dX6_curve_48 (by decide) ?_
          refine lv_isub hx hb dX6_curve_49 ?_
          obtain ⟨h_9, hf⟩ := if_some hf
          refine va_iald hx hb hK.1 hP 6 0 rfl rfl (ok_in h_9) dX6_curve_50 ?_
          refine lv_goto (tgt := 56) hx hb dX6_curve_51 (by decide) ?_
          replace hf := Option.some.inj hf
          subst hf
          exact W.iret (v := t_now (Int32.toNatClampNeg ((((84 * l1) + 6) + l2) - 1))) hx hb hr (fun t ht hW => ⟨⟨_, (), rfl, rfl, by show va_P g.1 vwCl _ t.heap; rw [ht]; exact hP⟩, hS.F ht⟩) hS.2.2 dX6_curve_56 hlocks
      · replace hf := (if_pos c_6).symm.trans hf
        refine lv_iconst (v := (-1)) hx hb dX6_curve_18 (by decide) ?_
        replace hf := Option.some.inj hf
        subst hf
        exact W.iret (v := (-1)) hx hb hr (fun t ht hW => ⟨⟨_, (), rfl, rfl, by show va_P g.1 vwCl _ t.heap; rw [ht]; exact hP⟩, hS.F ht⟩) hS.2.2 dX6_curve_19 hlocks
  exact hgo s.heap [] rfl rfl hP hS

set_option maxHeartbeats 4000000 in
set_option maxRecDepth 100000 in
theorem c6_cavity (l : Launch) (g : gG) (t_p : Nat) (t_length : Int32) (t_p_text : Nat) (t_text : (Nat → Int32)) (t_cavities : Int32) (t_p_volume : Nat) (t_volume : (Nat → Int32)) (t_p_freeze : Nat) (t_freeze : (Nat → Int32)) (t_cores : Int32) (t_p_earlier : Nat) (t_earlier : (Nat → Int32)) (t_stages : Int32) (t_p_place : Nat) (t_place : (Nat → Int32)) (t_p_now : Nat) (t_now : (Nat → Int32)) (t_p_was : Nat) (t_was : (Nat → Int32)) (t_changes : Int32) (t_p_one : Nat) (t_one : (Nat → Int32)) (t_readCavities : Int32) (t_p_readCavity : Nat) (t_readCavity : (Nat → Int32)) (t_readCores : Int32) (t_p_readCore : Nat) (t_readCore : (Nat → Int32)) (t_readStages : Int32) (t_p_readStage : Nat) (t_readStage : (Nat → Int32)) (t_p_readRule : Nat) (t_readRule : (Nat → Int32)) (t_value : Int32) (t_ends : Int32) (t_screw : Int32) (l1 : Int32) (l2 : Int32) (sz : Nat) (N : Nat) (res : (Int32)) (hf : f6_cavity N l1 l2 t_cavities t_volume t_freeze t_now = some res) : Met l yX6_cavity wsX6_cavity ({ frames := 2, cells := 0, slots := 0, locals := 43 }) (pP g [.ref t_p, .int l1, .int l2] sz (fl [wk6 g t_p t_length t_p_text t_text t_cavities t_p_volume t_volume t_p_freeze t_freeze t_cores t_p_earlier t_earlier t_stages t_p_place t_place t_p_now t_now t_p_was t_was t_changes t_p_one t_one t_readCavities t_p_readCavity t_readCavity t_readCores t_p_readCore t_readCore t_readStages t_p_readStage t_readStage t_p_readRule t_readRule t_value t_ends t_screw])) (pQi g (fun r => r = res) (fl [wk6 g t_p t_length t_p_text t_text t_cavities t_p_volume t_volume t_p_freeze t_freeze t_cores t_p_earlier t_earlier t_stages t_p_place t_place t_p_now t_now t_p_was t_was t_changes t_p_one t_one t_readCavities t_p_readCavity t_readCavity t_readCores t_p_readCore t_readCore t_readStages t_p_readStage t_readStage t_p_readRule t_readRule t_value t_ends t_screw]) (va_A (fl [wk6 g t_p t_length t_p_text t_text t_cavities t_p_volume t_volume t_p_freeze t_freeze t_cores t_p_earlier t_earlier t_stages t_p_place t_place t_p_now t_now t_p_was t_was t_changes t_p_one t_one t_readCavities t_p_readCavity t_readCavity t_readCores t_p_readCore t_readCore t_readStages t_p_readStage t_readStage t_p_readRule t_readRule t_value t_ends t_screw]) sz)) 0 0 (va_A (fl [wk6 g t_p t_length t_p_text t_text t_cavities t_p_volume t_volume t_p_freeze t_freeze t_cores t_p_earlier t_earlier t_stages t_p_place t_place t_p_now t_now t_p_was t_was t_changes t_p_one t_one t_readCavities t_p_readCavity t_readCavity t_readCores t_p_readCore t_readCore t_readStages t_p_readStage t_readStage t_p_readRule t_readRule t_value t_ends t_screw]) sz) := by
  refine Met.ofW (cc := cX6_cavity) (maxL := 3) (ret := (some .int)) (by decide) rfl ?_
  intro p e s m args below meth c s₁ B hml hv
  obtain ⟨rfl, hsz, hP, hK, hD0, hG⟩ := hv
  have hx := B.exec
  have hb := B.bytes
  have hr := B.returns
  have hts := atoms_spec (ws := wsX6_cavity) B.pre
  have hown : s.vm.findClass RX6 = some m.cls := findClass_of_methodNamed B.named
  have hlocks := B.notSynchronized
  subst hsz
  have hD := hD0.self (sz := s.heap.size)
  generalize hAe : va_A (fl [wk6 g t_p t_length t_p_text t_text t_cavities t_p_volume t_volume t_p_freeze t_freeze t_cores t_p_earlier t_earlier t_stages t_p_place t_place t_p_now t_now t_p_was t_was t_changes t_p_one t_one t_readCavities t_p_readCavity t_readCavity t_readCores t_p_readCore t_readCore t_readStages t_p_readStage t_readStage t_p_readRule t_readRule t_value t_ends t_screw]) s.heap.size = A at hD hG ⊢
  have hA : ∀ q : Nat, s.heap.size ≤ q → A q := fun q h => by rw [← hAe]; exact Or.inr h
  have hS : va_S A s.heap s.heap [] := va_S.rf
  have hin6 : ∀ w ∈ u_ws RX6 TX6 23, w ∈ wsX6_cavity := by decide +kernel
  have L1 := hts (Cond.fieldLink RX6 16 "MouldShotsModel" "freeze" "[I") (by decide +kernel)
  have L2 := hts (Cond.fieldLink RX6 25 "MouldShotsModel" "now" "[I") (by decide +kernel)
  have L3 := hts (Cond.fieldLink RX6 13 "MouldShotsModel" "volume" "[I") (by decide +kernel)
  have hl := lv_entry ([.ref t_p, .int l1, .int l2]) (n := 3) (Nat.le_of_ble_eq_true rfl)
  rw [lg_entry_eq]
  generalize (lg_sl ([.ref t_p, .int l1, .int l2]) ++ List.replicate (3 - (lg_sl ([.ref t_p, .int l1, .int l2])).length) Slot.unset).toArray = ls at hl ⊢
  replace hl : lv_has ls 3 [(0, .ref t_p), (1, .int l1), (2, .int l2)] := hl
  rw [f6_cavity] at hf
  have hgo : ∀ (H : Heap) (locs : List Loc), H = s.heap → locs = [] → va_P g.1 vwCl (fl [wk6 g t_p t_length t_p_text t_text t_cavities t_p_volume t_volume t_p_freeze t_freeze t_cores t_p_earlier t_earlier t_stages t_p_place t_place t_p_now t_now t_p_was t_was t_changes t_p_one t_one t_readCavities t_p_readCavity t_readCavity t_readCores t_p_readCore t_readCore t_readStages t_p_readStage t_readStage t_p_readRule t_readRule t_value t_ends t_screw]) H → va_S A s.heap H locs → W p l e ({ frames := 2, cells := 0, slots := 0, locals := 43 }) s m ([.ref t_p, .int l1, .int l2] : List Value).toArray below meth c H locs 0 0 (MQ below (pQi g (fun r => r = res) (fl [wk6 g t_p t_length t_p_text t_text t_cavities t_p_volume t_volume t_p_freeze t_freeze t_cores t_p_earlier t_earlier t_stages t_p_place t_place t_p_now t_now t_p_was t_was t_changes t_p_one t_one t_readCavities t_p_readCavity t_readCavity t_readCores t_p_readCore t_readCore t_readStages t_p_readStage t_readStage t_p_readRule t_readRule t_value t_ends t_screw]) A) ([.ref t_p, .int l1, .int l2] : List Value).toArray s 0 0 A) (F0 m 0 ls []) := by
    intro H locs hH hL hP hS
    refine lv_aload_n hx hb dX6_cavity_0 rfl (lv_at hl 0 rfl) ?_
    refine lv_iload_n hx hb dX6_cavity_1 rfl (lv_at hl 1 rfl) ?_
    obtain ⟨q_1, hq_1, hf⟩ := bd_some hf
    refine bft_i (bn := [wk6 g t_p t_length t_p_text t_text t_cavities t_p_volume t_volume t_p_freeze t_freeze t_cores t_p_earlier t_earlier t_stages t_p_place t_place t_p_now t_now t_p_was t_was t_changes t_p_one t_one t_readCavities t_p_readCavity t_readCavity t_readCores t_p_readCore t_readCore t_readStages t_p_readStage t_readStage t_p_readRule t_readRule t_value t_ends t_screw]) (L := [[t_p, t_p_text, t_p_volume, t_p_freeze, t_p_earlier, t_p_place, t_p_now, t_p_was, t_p_one, t_p_readCavity, t_p_readCore, t_p_readStage, t_p_readRule]]) (va_runV (As := [.int l1]) (rest := []) ⟨hx, hb, hml, hown, hts⟩ (c6_isCavity l g t_p t_length t_p_text t_text t_cavities t_p_volume t_volume t_p_freeze t_freeze t_cores t_p_earlier t_earlier t_stages t_p_place t_place t_p_now t_now t_p_was t_was t_changes t_p_one t_one t_readCavities t_p_readCavity t_readCavity t_readCores t_p_readCore t_readCore t_readStages t_p_readStage t_readStage t_p_readRule t_readRule t_value t_ends t_screw l1 H.size N q_1 hq_1) (cwV 1 hts gX6_cavity_X6_isCavity rfl rfl rfl ⟨rfl, nh6.1, nh6.2, pd_1⟩ ⟨Nat.le_of_ble_eq_true rfl, Nat.le_of_ble_eq_true rfl⟩) (qPV hK hG hP hD hS hA [0] (by decide) rfl (va_recv hK.1 hP (ci := 6) (q0 := 0) rfl rfl)) rfl rfl hl.1 rfl (lv_room (Nat.le_of_ble_eq_true rfl)) dX6_cavity_2 ⟨Nat.zero_le _, Nat.zero_le _⟩) hP hD hS hA [0] rfl rfl rfl rfl (fun r_2 H locs hw hP hD hS => ?_)
    replace hw := hw.symm
    subst hw
    refine lv_if_eq (tgt := 17) hx hb dX6_cavity_5 (by decide) (fun c_3 => ?_) (fun c_3 => ?_)
    · replace hf := (if_pos c_3).symm.trans hf
      refine lv_iconst (v := (-1)) hx hb dX6_cavity_17 (by decide) ?_
      replace hf := Option.some.inj hf
      subst hf
      exact W.iret (v := (-1)) hx hb hr (fun t ht hW => ⟨⟨_, (), rfl, rfl, by show va_P g.1 vwCl _ t.heap; rw [ht]; exact hP⟩, hS.F ht⟩) hS.2.2 dX6_cavity_18 hlocks
    · replace hf := (if_neg c_3).symm.trans hf
      refine lv_iload_n hx hb dX6_cavity_8 rfl (lv_at hl 2 rfl) ?_
      refine lv_iconst (v := 0) hx hb dX6_cavity_9 (by decide) ?_
      refine lv_iconst (v := 2) hx hb dX6_cavity_10 (by decide) ?_
      obtain ⟨q_4, hq_4, hf⟩ := bd_some hf
      refine aft_i (wn := (fl [wk6 g t_p t_length t_p_text t_text t_cavities t_p_volume t_volume t_p_freeze t_freeze t_cores t_p_earlier t_earlier t_stages t_p_place t_place t_p_now t_now t_p_was t_was t_changes t_p_one t_one t_readCavities t_p_readCavity t_readCavity t_readCores t_p_readCore t_readCore t_readStages t_p_readStage t_readStage t_p_readRule t_readRule t_value t_ends t_screw])) (va_runS (As := [.int l2, .int 0, .int 2]) (rest := []) ⟨hx, hb, hml, hown, hts⟩ (c6_isIn l g l2 0 2 H.size N q_4 hq_4) (va_cwS 3 hts gX6_cavity_X6_isIn rfl rfl rfl ⟨nh6.1, nh6.2, pd_17⟩ ⟨Nat.le_of_ble_eq_true rfl, Nat.le_of_ble_eq_true rfl⟩) (pPS hK hG hP hD hS hA [] (by decide) rfl) rfl rfl hl.1 rfl (lv_room (Nat.le_of_ble_eq_true rfl)) dX6_cavity_11 ⟨Nat.zero_le _, Nat.zero_le _⟩) hP hD hS hA [] rfl rfl rfl (fun r_5 H locs hw hP hD hS => ?_)
      replace hw := hw.symm
      subst hw
      refine lv_if_ne (tgt := 19) hx hb dX6_cavity_14 (by decide) (fun c_6 => ?_) (fun c_6 => ?_)
      · replace hf := (if_neg c_6).symm.trans hf
        refine lv_iload_n hx hb dX6_cavity_19 rfl (lv_at hl 2 rfl) ?_
        refine lv_if_ne (tgt := 32) hx hb dX6_cavity_20 (by decide) (fun c_7 => ?_) (fun c_7 => ?_)
        · replace hf := (if_neg c_7).symm.trans hf
          refine lv_iload_n hx hb dX6_cavity_32 rfl (lv_at hl 2 rfl) ?_
          refine lv_iconst (v := 1) hx hb dX6_cavity_33 (by decide) ?_
          refine lv_icmp_ne (tgt := 50) hx hb dX6_cavity_34 (by decide) (fun c_8 => ?_) (fun c_8 => ?_)
          · replace hf := (if_neg c_8).symm.trans hf
            refine lv_aload_n hx hb dX6_cavity_50 rfl (lv_at hl 0 rfl) ?_
            refine va_get (D := g.1) (ci := 6) (v := .ref t_p_freeze) (C := RX6) (T := TX6) (N := 23) hx hb hts hin6 hown hK.1 hP 0 rfl rfl 4 (by decide) L1 (fun _ h9 => h9) rfl dX6_cavity_51 ?_
            refine lv_iload_n hx hb dX6_cavity_54 rfl (lv_at hl 1 rfl) ?_
            obtain ⟨h_9, hf⟩ := if_some hf
            refine va_iald hx hb hK.1 hP 3 0 rfl rfl (ok_in h_9) dX6_cavity_55 ?_
            replace hf := Option.some.inj hf
            subst hf
            exact W.iret (v := t_freeze (Int32.toNatClampNeg l1)) hx hb hr (fun t ht hW => ⟨⟨_, (), rfl, rfl, by show va_P g.1 vwCl _ t.heap; rw [ht]; exact hP⟩, hS.F ht⟩) hS.2.2 dX6_cavity_56 hlocks
          · replace hf := (if_pos c_8).symm.trans hf
            refine lv_aload_n hx hb dX6_cavity_37 rfl (lv_at hl 0 rfl) ?_
            refine va_get (D := g.1) (ci := 6) (v := .ref t_p_now) (C := RX6) (T := TX6) (N := 23) hx hb hts hin6 hown hK.1 hP 0 rfl rfl 9 (by decide) L2 (fun _ h9 => h9) rfl dX6_cavity_38 ?_
            refine lv_sipush (v := 1139) hx hb dX6_cavity_41 (by decide) ?_
            refine lv_iload_n hx hb dX6_cavity_44 rfl (lv_at hl 1 rfl) ?_
            refine lv_iadd hx hb dX6_cavity_45 ?_
            obtain ⟨h_10, hf⟩ := if_some hf
            refine va_iald hx hb hK.1 hP 6 0 rfl rfl (ok_in h_10) dX6_cavity_46 ?_
            refine lv_goto (tgt := 56) hx hb dX6_cavity_47 (by decide) ?_
            replace hf := Option.some.inj hf
            subst hf
            exact W.iret (v := t_now (Int32.toNatClampNeg (1139 + l1))) hx hb hr (fun t ht hW => ⟨⟨_, (), rfl, rfl, by show va_P g.1 vwCl _ t.heap; rw [ht]; exact hP⟩, hS.F ht⟩) hS.2.2 dX6_cavity_56 hlocks
        · replace hf := (if_pos c_7).symm.trans hf
          refine lv_aload_n hx hb dX6_cavity_23 rfl (lv_at hl 0 rfl) ?_
          refine va_get (D := g.1) (ci := 6) (v := .ref t_p_volume) (C := RX6) (T := TX6) (N := 23) hx hb hts hin6 hown hK.1 hP 0 rfl rfl 3 (by decide) L3 (fun _ h9 => h9) rfl dX6_cavity_24 ?_
          refine lv_iload_n hx hb dX6_cavity_27 rfl (lv_at hl 1 rfl) ?_
          obtain ⟨h_11, hf⟩ := if_some hf
          refine va_iald hx hb hK.1 hP 2 0 rfl rfl (ok_in h_11) dX6_cavity_28 ?_
          refine lv_goto (tgt := 56) hx hb dX6_cavity_29 (by decide) ?_
          replace hf := Option.some.inj hf
          subst hf
          exact W.iret (v := t_volume (Int32.toNatClampNeg l1)) hx hb hr (fun t ht hW => ⟨⟨_, (), rfl, rfl, by show va_P g.1 vwCl _ t.heap; rw [ht]; exact hP⟩, hS.F ht⟩) hS.2.2 dX6_cavity_56 hlocks
      · replace hf := (if_pos c_6).symm.trans hf
        refine lv_iconst (v := (-1)) hx hb dX6_cavity_17 (by decide) ?_
        replace hf := Option.some.inj hf
        subst hf
        exact W.iret (v := (-1)) hx hb hr (fun t ht hW => ⟨⟨_, (), rfl, rfl, by show va_P g.1 vwCl _ t.heap; rw [ht]; exact hP⟩, hS.F ht⟩) hS.2.2 dX6_cavity_18 hlocks
  exact hgo s.heap [] rfl rfl hP hS

set_option maxHeartbeats 4000000 in
set_option maxRecDepth 100000 in
theorem c6_filled (l : Launch) (g : gG) (t_p : Nat) (t_length : Int32) (t_p_text : Nat) (t_text : (Nat → Int32)) (t_cavities : Int32) (t_p_volume : Nat) (t_volume : (Nat → Int32)) (t_p_freeze : Nat) (t_freeze : (Nat → Int32)) (t_cores : Int32) (t_p_earlier : Nat) (t_earlier : (Nat → Int32)) (t_stages : Int32) (t_p_place : Nat) (t_place : (Nat → Int32)) (t_p_now : Nat) (t_now : (Nat → Int32)) (t_p_was : Nat) (t_was : (Nat → Int32)) (t_changes : Int32) (t_p_one : Nat) (t_one : (Nat → Int32)) (t_readCavities : Int32) (t_p_readCavity : Nat) (t_readCavity : (Nat → Int32)) (t_readCores : Int32) (t_p_readCore : Nat) (t_readCore : (Nat → Int32)) (t_readStages : Int32) (t_p_readStage : Nat) (t_readStage : (Nat → Int32)) (t_p_readRule : Nat) (t_readRule : (Nat → Int32)) (t_value : Int32) (t_ends : Int32) (t_screw : Int32) (l1 : Int32) (l2 : Int32) (l3 : Int32) (sz : Nat) (N : Nat) (res : (Int32)) (hf : f6_filled N l1 l2 l3 t_cavities t_volume t_now = some res) : Met l yX6_filled wsX6_filled ({ frames := 2, cells := 0, slots := 0, locals := 43 }) (pP g [.ref t_p, .int l1, .int l2, .int l3] sz (fl [wk6 g t_p t_length t_p_text t_text t_cavities t_p_volume t_volume t_p_freeze t_freeze t_cores t_p_earlier t_earlier t_stages t_p_place t_place t_p_now t_now t_p_was t_was t_changes t_p_one t_one t_readCavities t_p_readCavity t_readCavity t_readCores t_p_readCore t_readCore t_readStages t_p_readStage t_readStage t_p_readRule t_readRule t_value t_ends t_screw])) (pQi g (fun r => r = res) (fl [wk6 g t_p t_length t_p_text t_text t_cavities t_p_volume t_volume t_p_freeze t_freeze t_cores t_p_earlier t_earlier t_stages t_p_place t_place t_p_now t_now t_p_was t_was t_changes t_p_one t_one t_readCavities t_p_readCavity t_readCavity t_readCores t_p_readCore t_readCore t_readStages t_p_readStage t_readStage t_p_readRule t_readRule t_value t_ends t_screw]) (va_A (fl [wk6 g t_p t_length t_p_text t_text t_cavities t_p_volume t_volume t_p_freeze t_freeze t_cores t_p_earlier t_earlier t_stages t_p_place t_place t_p_now t_now t_p_was t_was t_changes t_p_one t_one t_readCavities t_p_readCavity t_readCavity t_readCores t_p_readCore t_readCore t_readStages t_p_readStage t_readStage t_p_readRule t_readRule t_value t_ends t_screw]) sz)) 0 0 (va_A (fl [wk6 g t_p t_length t_p_text t_text t_cavities t_p_volume t_volume t_p_freeze t_freeze t_cores t_p_earlier t_earlier t_stages t_p_place t_place t_p_now t_now t_p_was t_was t_changes t_p_one t_one t_readCavities t_p_readCavity t_readCavity t_readCores t_p_readCore t_readCore t_readStages t_p_readStage t_readStage t_p_readRule t_readRule t_value t_ends t_screw]) sz) := by
  refine Met.ofW (cc := cX6_filled) (maxL := 4) (ret := (some .int)) (by decide) rfl ?_
  intro p e s m args below meth c s₁ B hml hv
  obtain ⟨rfl, hsz, hP, hK, hD0, hG⟩ := hv
  have hx := B.exec
  have hb := B.bytes
  have hr := B.returns
  have hts := atoms_spec (ws := wsX6_filled) B.pre
  have hown : s.vm.findClass RX6 = some m.cls := findClass_of_methodNamed B.named
  have hlocks := B.notSynchronized
  subst hsz
  have hD := hD0.self (sz := s.heap.size)
  generalize hAe : va_A (fl [wk6 g t_p t_length t_p_text t_text t_cavities t_p_volume t_volume t_p_freeze t_freeze t_cores t_p_earlier t_earlier t_stages t_p_place t_place t_p_now t_now t_p_was t_was t_changes t_p_one t_one t_readCavities t_p_readCavity t_readCavity t_readCores t_p_readCore t_readCore t_readStages t_p_readStage t_readStage t_p_readRule t_readRule t_value t_ends t_screw]) s.heap.size = A at hD hG ⊢
  have hA : ∀ q : Nat, s.heap.size ≤ q → A q := fun q h => by rw [← hAe]; exact Or.inr h
  have hS : va_S A s.heap s.heap [] := va_S.rf
  have hin6 : ∀ w ∈ u_ws RX6 TX6 23, w ∈ wsX6_filled := by decide +kernel
  have L1 := hts (Cond.fieldLink RX6 25 "MouldShotsModel" "now" "[I") (by decide +kernel)
  have hl := lv_entry ([.ref t_p, .int l1, .int l2, .int l3]) (n := 4) (Nat.le_of_ble_eq_true rfl)
  rw [lg_entry_eq]
  generalize (lg_sl ([.ref t_p, .int l1, .int l2, .int l3]) ++ List.replicate (4 - (lg_sl ([.ref t_p, .int l1, .int l2, .int l3])).length) Slot.unset).toArray = ls at hl ⊢
  replace hl : lv_has ls 4 [(0, .ref t_p), (1, .int l1), (2, .int l2), (3, .int l3)] := hl
  rw [f6_filled] at hf
  have hgo : ∀ (H : Heap) (locs : List Loc), H = s.heap → locs = [] → va_P g.1 vwCl (fl [wk6 g t_p t_length t_p_text t_text t_cavities t_p_volume t_volume t_p_freeze t_freeze t_cores t_p_earlier t_earlier t_stages t_p_place t_place t_p_now t_now t_p_was t_was t_changes t_p_one t_one t_readCavities t_p_readCavity t_readCavity t_readCores t_p_readCore t_readCore t_readStages t_p_readStage t_readStage t_p_readRule t_readRule t_value t_ends t_screw]) H → va_S A s.heap H locs → W p l e ({ frames := 2, cells := 0, slots := 0, locals := 43 }) s m ([.ref t_p, .int l1, .int l2, .int l3] : List Value).toArray below meth c H locs 0 0 (MQ below (pQi g (fun r => r = res) (fl [wk6 g t_p t_length t_p_text t_text t_cavities t_p_volume t_volume t_p_freeze t_freeze t_cores t_p_earlier t_earlier t_stages t_p_place t_place t_p_now t_now t_p_was t_was t_changes t_p_one t_one t_readCavities t_p_readCavity t_readCavity t_readCores t_p_readCore t_readCore t_readStages t_p_readStage t_readStage t_p_readRule t_readRule t_value t_ends t_screw]) A) ([.ref t_p, .int l1, .int l2, .int l3] : List Value).toArray s 0 0 A) (F0 m 0 ls []) := by
    intro H locs hH hL hP hS
    refine lv_aload_n hx hb dX6_filled_0 rfl (lv_at hl 0 rfl) ?_
    refine lv_iload_n hx hb dX6_filled_1 rfl (lv_at hl 1 rfl) ?_
    obtain ⟨q_1, hq_1, hf⟩ := bd_some hf
    refine bft_i (bn := [wk6 g t_p t_length t_p_text t_text t_cavities t_p_volume t_volume t_p_freeze t_freeze t_cores t_p_earlier t_earlier t_stages t_p_place t_place t_p_now t_now t_p_was t_was t_changes t_p_one t_one t_readCavities t_p_readCavity t_readCavity t_readCores t_p_readCore t_readCore t_readStages t_p_readStage t_readStage t_p_readRule t_readRule t_value t_ends t_screw]) (L := [[t_p, t_p_text, t_p_volume, t_p_freeze, t_p_earlier, t_p_place, t_p_now, t_p_was, t_p_one, t_p_readCavity, t_p_readCore, t_p_readStage, t_p_readRule]]) (va_runV (As := [.int l1]) (rest := []) ⟨hx, hb, hml, hown, hts⟩ (c6_isShot l g t_p t_length t_p_text t_text t_cavities t_p_volume t_volume t_p_freeze t_freeze t_cores t_p_earlier t_earlier t_stages t_p_place t_place t_p_now t_now t_p_was t_was t_changes t_p_one t_one t_readCavities t_p_readCavity t_readCavity t_readCores t_p_readCore t_readCore t_readStages t_p_readStage t_readStage t_p_readRule t_readRule t_value t_ends t_screw l1 H.size N q_1 hq_1) (cwV 1 hts gX6_filled_X6_isShot rfl rfl rfl ⟨rfl, nh6.1, nh6.2, pd_1⟩ ⟨Nat.le_of_ble_eq_true rfl, Nat.le_of_ble_eq_true rfl⟩) (qPV hK hG hP hD hS hA [0] (by decide) rfl (va_recv hK.1 hP (ci := 6) (q0 := 0) rfl rfl)) rfl rfl hl.1 rfl (lv_room (Nat.le_of_ble_eq_true rfl)) dX6_filled_2 ⟨Nat.zero_le _, Nat.zero_le _⟩) hP hD hS hA [0] rfl rfl rfl rfl (fun r_2 H locs hw hP hD hS => ?_)
    replace hw := hw.symm
    subst hw
    refine lv_if_eq (tgt := 25) hx hb dX6_filled_5 (by decide) (fun c_3 => ?_) (fun c_3 => ?_)
    · replace hf := (if_pos c_3).symm.trans hf
      refine lv_iconst (v := (-1)) hx hb dX6_filled_25 (by decide) ?_
      replace hf := Option.some.inj hf
      subst hf
      exact W.iret (v := (-1)) hx hb hr (fun t ht hW => ⟨⟨_, (), rfl, rfl, by show va_P g.1 vwCl _ t.heap; rw [ht]; exact hP⟩, hS.F ht⟩) hS.2.2 dX6_filled_26 hlocks
    · replace hf := (if_neg c_3).symm.trans hf
      refine lv_aload_n hx hb dX6_filled_8 rfl (lv_at hl 0 rfl) ?_
      refine lv_iload_n hx hb dX6_filled_9 rfl (lv_at hl 2 rfl) ?_
      obtain ⟨q_4, hq_4, hf⟩ := bd_some hf
      refine bft_i (bn := [wk6 g t_p t_length t_p_text t_text t_cavities t_p_volume t_volume t_p_freeze t_freeze t_cores t_p_earlier t_earlier t_stages t_p_place t_place t_p_now t_now t_p_was t_was t_changes t_p_one t_one t_readCavities t_p_readCavity t_readCavity t_readCores t_p_readCore t_readCore t_readStages t_p_readStage t_readStage t_p_readRule t_readRule t_value t_ends t_screw]) (L := [[t_p, t_p_text, t_p_volume, t_p_freeze, t_p_earlier, t_p_place, t_p_now, t_p_was, t_p_one, t_p_readCavity, t_p_readCore, t_p_readStage, t_p_readRule]]) (va_runV (As := [.int l2]) (rest := []) ⟨hx, hb, hml, hown, hts⟩ (c6_isCavity l g t_p t_length t_p_text t_text t_cavities t_p_volume t_volume t_p_freeze t_freeze t_cores t_p_earlier t_earlier t_stages t_p_place t_place t_p_now t_now t_p_was t_was t_changes t_p_one t_one t_readCavities t_p_readCavity t_readCavity t_readCores t_p_readCore t_readCore t_readStages t_p_readStage t_readStage t_p_readRule t_readRule t_value t_ends t_screw l2 H.size N q_4 hq_4) (cwV 1 hts gX6_filled_X6_isCavity rfl rfl rfl ⟨rfl, nh6.1, nh6.2, pd_1⟩ ⟨Nat.le_of_ble_eq_true rfl, Nat.le_of_ble_eq_true rfl⟩) (qPV hK hG hP hD hS hA [0] (by decide) rfl (va_recv hK.1 hP (ci := 6) (q0 := 0) rfl rfl)) rfl rfl hl.1 rfl (lv_room (Nat.le_of_ble_eq_true rfl)) dX6_filled_10 ⟨Nat.zero_le _, Nat.zero_le _⟩) hP hD hS hA [0] rfl rfl rfl rfl (fun r_5 H locs hw hP hD hS => ?_)
      replace hw := hw.symm
      subst hw
      refine lv_if_eq (tgt := 25) hx hb dX6_filled_13 (by decide) (fun c_6 => ?_) (fun c_6 => ?_)
      · replace hf := (if_pos c_6).symm.trans hf
        refine lv_iconst (v := (-1)) hx hb dX6_filled_25 (by decide) ?_
        replace hf := Option.some.inj hf
        subst hf
        exact W.iret (v := (-1)) hx hb hr (fun t ht hW => ⟨⟨_, (), rfl, rfl, by show va_P g.1 vwCl _ t.heap; rw [ht]; exact hP⟩, hS.F ht⟩) hS.2.2 dX6_filled_26 hlocks
      · replace hf := (if_neg c_6).symm.trans hf
        refine lv_iload_n hx hb dX6_filled_16 rfl (lv_at hl 3 rfl) ?_
        refine lv_iconst (v := 0) hx hb dX6_filled_17 (by decide) ?_
        refine lv_iconst (v := 4) hx hb dX6_filled_18 (by decide) ?_
        obtain ⟨q_7, hq_7, hf⟩ := bd_some hf
        refine aft_i (wn := (fl [wk6 g t_p t_length t_p_text t_text t_cavities t_p_volume t_volume t_p_freeze t_freeze t_cores t_p_earlier t_earlier t_stages t_p_place t_place t_p_now t_now t_p_was t_was t_changes t_p_one t_one t_readCavities t_p_readCavity t_readCavity t_readCores t_p_readCore t_readCore t_readStages t_p_readStage t_readStage t_p_readRule t_readRule t_value t_ends t_screw])) (va_runS (As := [.int l3, .int 0, .int 4]) (rest := []) ⟨hx, hb, hml, hown, hts⟩ (c6_isIn l g l3 0 4 H.size N q_7 hq_7) (va_cwS 3 hts gX6_filled_X6_isIn rfl rfl rfl ⟨nh6.1, nh6.2, pd_17⟩ ⟨Nat.le_of_ble_eq_true rfl, Nat.le_of_ble_eq_true rfl⟩) (pPS hK hG hP hD hS hA [] (by decide) rfl) rfl rfl hl.1 rfl (lv_room (Nat.le_of_ble_eq_true rfl)) dX6_filled_19 ⟨Nat.zero_le _, Nat.zero_le _⟩) hP hD hS hA [] rfl rfl rfl (fun r_8 H locs hw hP hD hS => ?_)
        replace hw := hw.symm
        subst hw
        refine lv_if_ne (tgt := 27) hx hb dX6_filled_22 (by decide) (fun c_9 => ?_) (fun c_9 => ?_)
        · replace hf := (if_neg c_9).symm.trans hf
          refine lv_iload_n hx hb dX6_filled_27 rfl (lv_at hl 3 rfl) ?_
          by_cases c_10 : l3 = 0
          · replace hf := (if_pos c_10).symm.trans hf
            refine lv_tableIn (tgt := 60) hx hb dX6_filled_28 (by rw [c_10]; decide) (by rw [c_10]; decide) (by rw [c_10]; rfl) (by decide) ?_
            refine lv_aload_n hx hb dX6_filled_60 rfl (lv_at hl 0 rfl) ?_
            refine va_get (D := g.1) (ci := 6) (v := .ref t_p_now) (C := RX6) (T := TX6) (N := 23) hx hb hts hin6 hown hK.1 hP 0 rfl rfl 9 (by decide) L1 (fun _ h9 => h9) rfl dX6_filled_61 ?_
            refine lv_bipush (v := 84) hx hb dX6_filled_64 (by decide) ?_
            refine lv_iload_n hx hb dX6_filled_66 rfl (lv_at hl 1 rfl) ?_
            refine lv_imul hx hb dX6_filled_67 ?_
            refine lv_bipush (v := 66) hx hb dX6_filled_68 (by decide) ?_
            refine lv_iadd hx hb dX6_filled_70 ?_
            refine lv_iload_n hx hb dX6_filled_71 rfl (lv_at hl 2 rfl) ?_
            refine lv_iadd hx hb dX6_filled_72 ?_
            obtain ⟨h_11, hf⟩ := if_some hf
            refine va_iald hx hb hK.1 hP 6 0 rfl rfl (ok_in h_11) dX6_filled_73 ?_
            replace hf := Option.some.inj hf
            subst hf
            exact W.iret (v := t_now (Int32.toNatClampNeg (((84 * l1) + 66) + l2))) hx hb hr (fun t ht hW => ⟨⟨_, (), rfl, rfl, by show va_P g.1 vwCl _ t.heap; rw [ht]; exact hP⟩, hS.F ht⟩) hS.2.2 dX6_filled_74 hlocks
          · replace hf := (if_neg c_10).symm.trans hf
            by_cases c_12 : l3 = 1
            · replace hf := (if_pos c_12).symm.trans hf
              refine lv_tableIn (tgt := 75) hx hb dX6_filled_28 (by rw [c_12]; decide) (by rw [c_12]; decide) (by rw [c_12]; rfl) (by decide) ?_
              refine lv_aload_n hx hb dX6_filled_75 rfl (lv_at hl 0 rfl) ?_
              refine lv_iload_n hx hb dX6_filled_76 rfl (lv_at hl 1 rfl) ?_
              refine lv_iload_n hx hb dX6_filled_77 rfl (lv_at hl 2 rfl) ?_
              obtain ⟨q_13, hq_13, hf⟩ := bd_some hf
              refine bft_i (bn := [wk6 g t_p t_length t_p_text t_text t_cavities t_p_volume t_volume t_p_freeze t_freeze t_cores t_p_earlier t_earlier t_stages t_p_place t_place t_p_now t_now t_p_was t_was t_changes t_p_one t_one t_readCavities t_p_readCavity t_readCavity t_readCores t_p_readCore t_readCore t_readStages t_p_readStage t_readStage t_p_readRule t_readRule t_value t_ends t_screw]) (L := [[t_p, t_p_text, t_p_volume, t_p_freeze, t_p_earlier, t_p_place, t_p_now, t_p_was, t_p_one, t_p_readCavity, t_p_readCore, t_p_readStage, t_p_readRule]]) (va_runV (As := [.int l1, .int l2]) (rest := []) ⟨hx, hb, hml, hown, hts⟩ (c6_shortBy l g t_p t_length t_p_text t_text t_cavities t_p_volume t_volume t_p_freeze t_freeze t_cores t_p_earlier t_earlier t_stages t_p_place t_place t_p_now t_now t_p_was t_was t_changes t_p_one t_one t_readCavities t_p_readCavity t_readCavity t_readCores t_p_readCore t_readCore t_readStages t_p_readStage t_readStage t_p_readRule t_readRule t_value t_ends t_screw l1 l2 H.size N q_13 hq_13) (cwV 2 hts gX6_filled_X6_shortBy rfl rfl rfl ⟨rfl, nh6.1, nh6.2, pd_14⟩ ⟨Nat.le_of_ble_eq_true rfl, Nat.le_of_ble_eq_true rfl⟩) (qPV hK hG hP hD hS hA [0] (by decide) rfl (va_recv hK.1 hP (ci := 6) (q0 := 0) rfl rfl)) rfl rfl hl.1 rfl (lv_room (Nat.le_of_ble_eq_true rfl)) dX6_filled_78 ⟨Nat.zero_le _, Nat.zero_le _⟩) hP hD hS hA [0] rfl rfl rfl rfl (fun r_14 H locs hw hP hD hS => ?_)
              replace hw := hw.symm
              subst hw
              replace hf := Option.some.inj hf
              subst hf
              exact W.iret (v := q_13) hx hb hr (fun t ht hW => ⟨⟨_, (), rfl, rfl, by show va_P g.1 vwCl _ t.heap; rw [ht]; exact hP⟩, hS.F ht⟩) hS.2.2 dX6_filled_81 hlocks
            · replace hf := (if_neg c_12).symm.trans hf
              by_cases c_15 : l3 = 2
              · replace hf := (if_pos c_15).symm.trans hf
                refine lv_tableIn (tgt := 82) hx hb dX6_filled_28 (by rw [c_15]; decide) (by rw [c_15]; decide) (by rw [c_15]; rfl) (by decide) ?_
                refine lv_aload_n hx hb dX6_filled_82 rfl (lv_at hl 0 rfl) ?_
                refine lv_iload_n hx hb dX6_filled_83 rfl (lv_at hl 1 rfl) ?_
                refine lv_iload_n hx hb dX6_filled_84 rfl (lv_at hl 2 rfl) ?_
                obtain ⟨q_16, hq_16, hf⟩ := bd_some hf
                refine bft_i (bn := [wk6 g t_p t_length t_p_text t_text t_cavities t_p_volume t_volume t_p_freeze t_freeze t_cores t_p_earlier t_earlier t_stages t_p_place t_place t_p_now t_now t_p_was t_was t_changes t_p_one t_one t_readCavities t_p_readCavity t_readCavity t_readCores t_p_readCore t_readCore t_readStages t_p_readStage t_readStage t_p_readRule t_readRule t_value t_ends t_screw]) (L := [[t_p, t_p_text, t_p_volume, t_p_freeze, t_p_earlier, t_p_place, t_p_now, t_p_was, t_p_one, t_p_readCavity, t_p_readCore, t_p_readStage, t_p_readRule]]) (va_runV (As := [.int l1, .int l2]) (rest := []) ⟨hx, hb, hml, hown, hts⟩ (c6_overBy l g t_p t_length t_p_text t_text t_cavities t_p_volume t_volume t_p_freeze t_freeze t_cores t_p_earlier t_earlier t_stages t_p_place t_place t_p_now t_now t_p_was t_was t_changes t_p_one t_one t_readCavities t_p_readCavity t_readCavity t_readCores t_p_readCore t_readCore t_readStages t_p_readStage t_readStage t_p_readRule t_readRule t_value t_ends t_screw l1 l2 H.size N q_16 hq_16) (cwV 2 hts gX6_filled_X6_overBy rfl rfl rfl ⟨rfl, nh6.1, nh6.2, pd_14⟩ ⟨Nat.le_of_ble_eq_true rfl, Nat.le_of_ble_eq_true rfl⟩) (qPV hK hG hP hD hS hA [0] (by decide) rfl (va_recv hK.1 hP (ci := 6) (q0 := 0) rfl rfl)) rfl rfl hl.1 rfl (lv_room (Nat.le_of_ble_eq_true rfl)) dX6_filled_85 ⟨Nat.zero_le _, Nat.zero_le _⟩) hP hD hS hA [0] rfl rfl rfl rfl (fun r_17 H locs hw hP hD hS => ?_)
                replace hw := hw.symm
                subst hw
                replace hf := Option.some.inj hf
                subst hf
                exact W.iret (v := q_16) hx hb hr (fun t ht hW => ⟨⟨_, (), rfl, rfl, by show va_P g.1 vwCl _ t.heap; rw [ht]; exact hP⟩, hS.F ht⟩) hS.2.2 dX6_filled_88 hlocks
              · replace hf := (if_neg c_15).symm.trans hf
                by_cases c_18 : l3 = 3
                · replace hf := (if_pos c_18).symm.trans hf
                  refine lv_tableIn (tgt := 89) hx hb dX6_filled_28 (by rw [c_18]; decide) (by rw [c_18]; decide) (by rw [c_18]; rfl) (by decide) ?_
                  refine lv_aload_n hx hb dX6_filled_89 rfl (lv_at hl 0 rfl) ?_
                  refine va_get (D := g.1) (ci := 6) (v := .ref t_p_now) (C := RX6) (T := TX6) (N := 23) hx hb hts hin6 hown hK.1 hP 0 rfl rfl 9 (by decide) L1 (fun _ h9 => h9) rfl dX6_filled_90 ?_
                  refine lv_bipush (v := 84) hx hb dX6_filled_93 (by decide) ?_
                  refine lv_iload_n hx hb dX6_filled_95 rfl (lv_at hl 1 rfl) ?_
                  refine lv_imul hx hb dX6_filled_96 ?_
                  refine lv_bipush (v := 72) hx hb dX6_filled_97 (by decide) ?_
                  refine lv_iadd hx hb dX6_filled_99 ?_
                  refine lv_iload_n hx hb dX6_filled_100 rfl (lv_at hl 2 rfl) ?_
                  refine lv_iadd hx hb dX6_filled_101 ?_
                  obtain ⟨h_19, hf⟩ := if_some hf
                  refine va_iald hx hb hK.1 hP 6 0 rfl rfl (ok_in h_19) dX6_filled_102 ?_
                  replace hf := Option.some.inj hf
                  subst hf
                  exact W.iret (v := t_now (Int32.toNatClampNeg (((84 * l1) + 72) + l2))) hx hb hr (fun t ht hW => ⟨⟨_, (), rfl, rfl, by show va_P g.1 vwCl _ t.heap; rw [ht]; exact hP⟩, hS.F ht⟩) hS.2.2 dX6_filled_103 hlocks
                · replace hf := (if_neg c_18).symm.trans hf
                  refine lv_tableOut (tgt := 104) hx hb dX6_filled_28 (tab_out4 c_10 c_12 c_15 c_18) (by decide) ?_
                  refine lv_aload_n hx hb dX6_filled_104 rfl (lv_at hl 0 rfl) ?_
                  refine va_get (D := g.1) (ci := 6) (v := .ref t_p_now) (C := RX6) (T := TX6) (N := 23) hx hb hts hin6 hown hK.1 hP 0 rfl rfl 9 (by decide) L1 (fun _ h9 => h9) rfl dX6_filled_105 ?_
                  refine lv_bipush (v := 84) hx hb dX6_filled_108 (by decide) ?_
                  refine lv_iload_n hx hb dX6_filled_110 rfl (lv_at hl 1 rfl) ?_
                  refine lv_imul hx hb dX6_filled_111 ?_
                  refine lv_bipush (v := 78) hx hb dX6_filled_112 (by decide) ?_
                  refine lv_iadd hx hb dX6_filled_114 ?_
                  refine lv_iload_n hx hb dX6_filled_115 rfl (lv_at hl 2 rfl) ?_
                  refine lv_iadd hx hb dX6_filled_116 ?_
                  obtain ⟨h_20, hf⟩ := if_some hf
                  refine va_iald hx hb hK.1 hP 6 0 rfl rfl (ok_in h_20) dX6_filled_117 ?_
                  replace hf := Option.some.inj hf
                  subst hf
                  exact W.iret (v := t_now (Int32.toNatClampNeg (((84 * l1) + 78) + l2))) hx hb hr (fun t ht hW => ⟨⟨_, (), rfl, rfl, by show va_P g.1 vwCl _ t.heap; rw [ht]; exact hP⟩, hS.F ht⟩) hS.2.2 dX6_filled_118 hlocks
        · replace hf := (if_pos c_9).symm.trans hf
          refine lv_iconst (v := (-1)) hx hb dX6_filled_25 (by decide) ?_
          replace hf := Option.some.inj hf
          subst hf
          exact W.iret (v := (-1)) hx hb hr (fun t ht hW => ⟨⟨_, (), rfl, rfl, by show va_P g.1 vwCl _ t.heap; rw [ht]; exact hP⟩, hS.F ht⟩) hS.2.2 dX6_filled_26 hlocks
  exact hgo s.heap [] rfl rfl hP hS

set_option maxHeartbeats 4000000 in
set_option maxRecDepth 100000 in
theorem c6_tried (l : Launch) (g : gG) (t_p : Nat) (t_length : Int32) (t_p_text : Nat) (t_text : (Nat → Int32)) (t_cavities : Int32) (t_p_volume : Nat) (t_volume : (Nat → Int32)) (t_p_freeze : Nat) (t_freeze : (Nat → Int32)) (t_cores : Int32) (t_p_earlier : Nat) (t_earlier : (Nat → Int32)) (t_stages : Int32) (t_p_place : Nat) (t_place : (Nat → Int32)) (t_p_now : Nat) (t_now : (Nat → Int32)) (t_p_was : Nat) (t_was : (Nat → Int32)) (t_changes : Int32) (t_p_one : Nat) (t_one : (Nat → Int32)) (t_readCavities : Int32) (t_p_readCavity : Nat) (t_readCavity : (Nat → Int32)) (t_readCores : Int32) (t_p_readCore : Nat) (t_readCore : (Nat → Int32)) (t_readStages : Int32) (t_p_readStage : Nat) (t_readStage : (Nat → Int32)) (t_p_readRule : Nat) (t_readRule : (Nat → Int32)) (t_value : Int32) (t_ends : Int32) (t_screw : Int32) (l1 : Int32) (l2 : Int32) (sz : Nat) (N : Nat) (res : (Int32 × (Nat → Int32) × Int32)) (hf : f6_tried N l1 l2 t_cavities t_volume t_freeze t_stages t_place t_now t_one t_screw = some res) : Met l yX6_tried wsX6_tried ({ frames := 3, cells := 0, slots := 0, locals := 78 }) (pP g [.ref t_p, .int l1, .int l2] sz (fl [wk6 g t_p t_length t_p_text t_text t_cavities t_p_volume t_volume t_p_freeze t_freeze t_cores t_p_earlier t_earlier t_stages t_p_place t_place t_p_now t_now t_p_was t_was t_changes t_p_one t_one t_readCavities t_p_readCavity t_readCavity t_readCores t_p_readCore t_readCore t_readStages t_p_readStage t_readStage t_p_readRule t_readRule t_value t_ends t_screw])) (pQi g (fun r => r = res.1) (fl [wk6 g t_p t_length t_p_text t_text t_cavities t_p_volume t_volume t_p_freeze t_freeze t_cores t_p_earlier t_earlier t_stages t_p_place t_place t_p_now t_now t_p_was t_was t_changes t_p_one res.2.1 t_readCavities t_p_readCavity t_readCavity t_readCores t_p_readCore t_readCore t_readStages t_p_readStage t_readStage t_p_readRule t_readRule t_value t_ends res.2.2]) (va_A (fl [wk6 g t_p t_length t_p_text t_text t_cavities t_p_volume t_volume t_p_freeze t_freeze t_cores t_p_earlier t_earlier t_stages t_p_place t_place t_p_now t_now t_p_was t_was t_changes t_p_one t_one t_readCavities t_p_readCavity t_readCavity t_readCores t_p_readCore t_readCore t_readStages t_p_readStage t_readStage t_p_readRule t_readRule t_value t_ends t_screw]) sz)) 0 0 (va_A (fl [wk6 g t_p t_length t_p_text t_text t_cavities t_p_volume t_volume t_p_freeze t_freeze t_cores t_p_earlier t_earlier t_stages t_p_place t_place t_p_now t_now t_p_was t_was t_changes t_p_one t_one t_readCavities t_p_readCavity t_readCavity t_readCores t_p_readCore t_readCore t_readStages t_p_readStage t_readStage t_p_readRule t_readRule t_value t_ends t_screw]) sz) := by
  refine Met.ofW (cc := cX6_tried) (maxL := 3) (ret := (some .int)) (by decide) rfl ?_
  intro p e s m args below meth c s₁ B hml hv
  obtain ⟨rfl, hsz, hP, hK, hD0, hG⟩ := hv
  have hx := B.exec
  have hb := B.bytes
  have hr := B.returns
  have hts := atoms_spec (ws := wsX6_tried) B.pre
  have hown : s.vm.findClass RX6 = some m.cls := findClass_of_methodNamed B.named
  have hlocks := B.notSynchronized
  subst hsz
  have hD := hD0.self (sz := s.heap.size)
  generalize hAe : va_A (fl [wk6 g t_p t_length t_p_text t_text t_cavities t_p_volume t_volume t_p_freeze t_freeze t_cores t_p_earlier t_earlier t_stages t_p_place t_place t_p_now t_now t_p_was t_was t_changes t_p_one t_one t_readCavities t_p_readCavity t_readCavity t_readCores t_p_readCore t_readCore t_readStages t_p_readStage t_readStage t_p_readRule t_readRule t_value t_ends t_screw]) s.heap.size = A at hD hG ⊢
  have hA : ∀ q : Nat, s.heap.size ≤ q → A q := fun q h => by rw [← hAe]; exact Or.inr h
  have hS : va_S A s.heap s.heap [] := va_S.rf
  have hin6 : ∀ w ∈ u_ws RX6 TX6 23, w ∈ wsX6_tried := by decide +kernel
  have L1 := hts (Cond.fieldLink RX6 31 "MouldShotsModel" "one" "[I") (by decide +kernel)
  have hl := lv_entry ([.ref t_p, .int l1, .int l2]) (n := 3) (Nat.le_of_ble_eq_true rfl)
  rw [lg_entry_eq]
  generalize (lg_sl ([.ref t_p, .int l1, .int l2]) ++ List.replicate (3 - (lg_sl ([.ref t_p, .int l1, .int l2])).length) Slot.unset).toArray = ls at hl ⊢
  replace hl : lv_has ls 3 [(0, .ref t_p), (1, .int l1), (2, .int l2)] := hl
  rw [f6_tried] at hf
  have hgo : ∀ (H : Heap) (locs : List Loc), H = s.heap → locs = [] → va_P g.1 vwCl (fl [wk6 g t_p t_length t_p_text t_text t_cavities t_p_volume t_volume t_p_freeze t_freeze t_cores t_p_earlier t_earlier t_stages t_p_place t_place t_p_now t_now t_p_was t_was t_changes t_p_one t_one t_readCavities t_p_readCavity t_readCavity t_readCores t_p_readCore t_readCore t_readStages t_p_readStage t_readStage t_p_readRule t_readRule t_value t_ends t_screw]) H → va_S A s.heap H locs → W p l e ({ frames := 3, cells := 0, slots := 0, locals := 78 }) s m ([.ref t_p, .int l1, .int l2] : List Value).toArray below meth c H locs 0 0 (MQ below (pQi g (fun r => r = res.1) (fl [wk6 g t_p t_length t_p_text t_text t_cavities t_p_volume t_volume t_p_freeze t_freeze t_cores t_p_earlier t_earlier t_stages t_p_place t_place t_p_now t_now t_p_was t_was t_changes t_p_one res.2.1 t_readCavities t_p_readCavity t_readCavity t_readCores t_p_readCore t_readCore t_readStages t_p_readStage t_readStage t_p_readRule t_readRule t_value t_ends res.2.2]) A) ([.ref t_p, .int l1, .int l2] : List Value).toArray s 0 0 A) (F0 m 0 ls []) := by
    intro H locs hH hL hP hS
    refine lv_iload_n hx hb dX6_tried_0 rfl (lv_at hl 1 rfl) ?_
    refine lv_bipush (v := (-8)) hx hb dX6_tried_1 (by decide) ?_
    refine lv_bipush (v := 8) hx hb dX6_tried_3 (by decide) ?_
    obtain ⟨q_1, hq_1, hf⟩ := bd_some hf
    refine aft_i (wn := (fl [wk6 g t_p t_length t_p_text t_text t_cavities t_p_volume t_volume t_p_freeze t_freeze t_cores t_p_earlier t_earlier t_stages t_p_place t_place t_p_now t_now t_p_was t_was t_changes t_p_one t_one t_readCavities t_p_readCavity t_readCavity t_readCores t_p_readCore t_readCore t_readStages t_p_readStage t_readStage t_p_readRule t_readRule t_value t_ends t_screw])) (va_runS (As := [.int l1, .int (-8), .int 8]) (rest := []) ⟨hx, hb, hml, hown, hts⟩ (c6_isIn l g l1 (-8) 8 H.size N q_1 hq_1) (va_cwS 3 hts gX6_tried_X6_isIn rfl rfl rfl ⟨nh6.1, nh6.2, pd_17⟩ ⟨Nat.le_of_ble_eq_true rfl, Nat.le_of_ble_eq_true rfl⟩) (pPS hK hG hP hD hS hA [] (by decide) rfl) rfl rfl hl.1 rfl (lv_room (Nat.le_of_ble_eq_true rfl)) dX6_tried_5 ⟨Nat.zero_le _, Nat.zero_le _⟩) hP hD hS hA [] rfl rfl rfl (fun r_2 H locs hw hP hD hS => ?_)
    replace hw := hw.symm
    subst hw
    refine lv_if_eq (tgt := 21) hx hb dX6_tried_8 (by decide) (fun c_3 => ?_) (fun c_3 => ?_)
    · replace hf := (if_pos c_3).symm.trans hf
      refine lv_iconst (v := (-1)) hx hb dX6_tried_21 (by decide) ?_
      replace hf := Option.some.inj hf
      subst hf
      exact W.iret (v := (-1)) hx hb hr (fun t ht hW => ⟨⟨_, (), rfl, rfl, by show va_P g.1 vwCl _ t.heap; rw [ht]; exact hP⟩, hS.F ht⟩) hS.2.2 dX6_tried_22 hlocks
    · replace hf := (if_neg c_3).symm.trans hf
      refine lv_iload_n hx hb dX6_tried_11 rfl (lv_at hl 2 rfl) ?_
      refine lv_iconst (v := 0) hx hb dX6_tried_12 (by decide) ?_
      refine lv_bipush (v := 6) hx hb dX6_tried_13 (by decide) ?_
      obtain ⟨q_4, hq_4, hf⟩ := bd_some hf
      refine aft_i (wn := (fl [wk6 g t_p t_length t_p_text t_text t_cavities t_p_volume t_volume t_p_freeze t_freeze t_cores t_p_earlier t_earlier t_stages t_p_place t_place t_p_now t_now t_p_was t_was t_changes t_p_one t_one t_readCavities t_p_readCavity t_readCavity t_readCores t_p_readCore t_readCore t_readStages t_p_readStage t_readStage t_p_readRule t_readRule t_value t_ends t_screw])) (va_runS (As := [.int l2, .int 0, .int 6]) (rest := []) ⟨hx, hb, hml, hown, hts⟩ (c6_isIn l g l2 0 6 H.size N q_4 hq_4) (va_cwS 3 hts gX6_tried_X6_isIn rfl rfl rfl ⟨nh6.1, nh6.2, pd_17⟩ ⟨Nat.le_of_ble_eq_true rfl, Nat.le_of_ble_eq_true rfl⟩) (pPS hK hG hP hD hS hA [] (by decide) rfl) rfl rfl hl.1 rfl (lv_room (Nat.le_of_ble_eq_true rfl)) dX6_tried_15 ⟨Nat.zero_le _, Nat.zero_le _⟩) hP hD hS hA [] rfl rfl rfl (fun r_5 H locs hw hP hD hS => ?_)
      replace hw := hw.symm
      subst hw
      refine lv_if_ne (tgt := 23) hx hb dX6_tried_18 (by decide) (fun c_6 => ?_) (fun c_6 => ?_)
      · replace hf := (if_neg c_6).symm.trans hf
        refine lv_aload_n hx hb dX6_tried_23 rfl (lv_at hl 0 rfl) ?_
        refine lv_iload_n hx hb dX6_tried_24 rfl (lv_at hl 1 rfl) ?_
        obtain ⟨q_7, hq_7, hf⟩ := bd_some hf
        refine bft_v (bn := [wk6 g t_p t_length t_p_text t_text t_cavities t_p_volume t_volume t_p_freeze t_freeze t_cores t_p_earlier t_earlier t_stages t_p_place t_place t_p_now t_now t_p_was t_was t_changes t_p_one q_7.1 t_readCavities t_p_readCavity t_readCavity t_readCores t_p_readCore t_readCore t_readStages t_p_readStage t_readStage t_p_readRule t_readRule t_value t_ends q_7.2]) (L := [[t_p, t_p_text, t_p_volume, t_p_freeze, t_p_earlier, t_p_place, t_p_now, t_p_was, t_p_one, t_p_readCavity, t_p_readCore, t_p_readStage, t_p_readRule]]) (va_runV (As := [.int l1]) (rest := []) ⟨hx, hb, hml, hown, hts⟩ (c6_tries l g t_p t_length t_p_text t_text t_cavities t_p_volume t_volume t_p_freeze t_freeze t_cores t_p_earlier t_earlier t_stages t_p_place t_place t_p_now t_now t_p_was t_was t_changes t_p_one t_one t_readCavities t_p_readCavity t_readCavity t_readCores t_p_readCore t_readCore t_readStages t_p_readStage t_readStage t_p_readRule t_readRule t_value t_ends t_screw l1 H.size N q_7 hq_7) (cwV 1 hts gX6_tried_X6_tries rfl rfl rfl ⟨rfl, nh6.1, nh6.2, pd_30⟩ ⟨Nat.le_of_ble_eq_true rfl, Nat.le_of_ble_eq_true rfl⟩) (qPV hK hG hP hD hS hA [0] (by decide) rfl (va_recv hK.1 hP (ci := 6) (q0 := 0) rfl rfl)) rfl rfl hl.1 rfl (lv_room (Nat.le_of_ble_eq_true rfl)) dX6_tried_25 ⟨Nat.zero_le _, Nat.zero_le _⟩) hP hD hS hA [0] rfl rfl rfl rfl (fun H locs hP hD hS => ?_)
        refine lv_aload_n hx hb dX6_tried_28 rfl (lv_at hl 0 rfl) ?_
        refine va_get (D := g.1) (ci := 6) (v := .ref t_p_one) (C := RX6) (T := TX6) (N := 23) hx hb hts hin6 hown hK.1 hP 0 rfl rfl 12 (by decide) L1 (fun _ h9 => h9) rfl dX6_tried_29 ?_
        refine lv_iconst (v := 0) hx hb dX6_tried_32 (by decide) ?_
        refine lv_iload_n hx hb dX6_tried_33 rfl (lv_at hl 2 rfl) ?_
        obtain ⟨q_8, hq_8, hf⟩ := bd_some hf
        refine aft_i (wn := (fl [wk6 g t_p t_length t_p_text t_text t_cavities t_p_volume t_volume t_p_freeze t_freeze t_cores t_p_earlier t_earlier t_stages t_p_place t_place t_p_now t_now t_p_was t_was t_changes t_p_one q_7.1 t_readCavities t_p_readCavity t_readCavity t_readCores t_p_readCore t_readCore t_readStages t_p_readStage t_readStage t_p_readRule t_readRule t_value t_ends q_7.2])) (va_runS (As := [.ref t_p_one, .int 0, .int l2]) (rest := []) ⟨hx, hb, hml, hown, hts⟩ (c6_told l g t_p_one 84 q_7.1 0 l2 H.size N q_8 hq_8) (va_cwS 3 hts gX6_tried_X6_told rfl rfl rfl ⟨nh6.1, nh6.2, pd_31⟩ ⟨Nat.le_of_ble_eq_true rfl, Nat.le_of_ble_eq_true rfl⟩) (pPS hK hG hP hD hS hA [8] (by decide) rfl) rfl rfl hl.1 rfl (lv_room (Nat.le_of_ble_eq_true rfl)) dX6_tried_34 ⟨Nat.zero_le _, Nat.zero_le _⟩) hP hD hS hA [8] rfl rfl rfl (fun r_9 H locs hw hP hD hS => ?_)
        replace hw := hw.symm
        subst hw
        replace hf := Option.some.inj hf
        subst hf
        exact W.iret (v := q_8) hx hb hr (fun t ht hW => ⟨⟨_, (), rfl, rfl, by show va_P g.1 vwCl _ t.heap; rw [ht]; exact hP⟩, hS.F ht⟩) hS.2.2 dX6_tried_37 hlocks
      · replace hf := (if_pos c_6).symm.trans hf
        refine lv_iconst (v := (-1)) hx hb dX6_tried_21 (by decide) ?_
        replace hf := Option.some.inj hf
        subst hf
        exact W.iret (v := (-1)) hx hb hr (fun t ht hW => ⟨⟨_, (), rfl, rfl, by show va_P g.1 vwCl _ t.heap; rw [ht]; exact hP⟩, hS.F ht⟩) hS.2.2 dX6_tried_22 hlocks
  exact hgo s.heap [] rfl rfl hP hS

set_option maxHeartbeats 4000000 in
set_option maxRecDepth 100000 in
theorem c6_even (l : Launch) (g : gG) (t_p : Nat) (t_length : Int32) (t_p_text : Nat) (t_text : (Nat → Int32)) (t_cavities : Int32) (t_p_volume : Nat) (t_volume : (Nat → Int32)) (t_p_freeze : Nat) (t_freeze : (Nat → Int32)) (t_cores : Int32) (t_p_earlier : Nat) (t_earlier : (Nat → Int32)) (t_stages : Int32) (t_p_place : Nat) (t_place : (Nat → Int32)) (t_p_now : Nat) (t_now : (Nat → Int32)) (t_p_was : Nat) (t_was : (Nat → Int32)) (t_changes : Int32) (t_p_one : Nat) (t_one : (Nat → Int32)) (t_readCavities : Int32) (t_p_readCavity : Nat) (t_readCavity : (Nat → Int32)) (t_readCores : Int32) (t_p_readCore : Nat) (t_readCore : (Nat → Int32)) (t_readStages : Int32) (t_p_readStage : Nat) (t_readStage : (Nat → Int32)) (t_p_readRule : Nat) (t_readRule : (Nat → Int32)) (t_value : Int32) (t_ends : Int32) (t_screw : Int32) (l1 : Int32) (sz : Nat) (N : Nat) (res : (Int32 × (Nat → Int32) × Int32)) (hf : f6_even N l1 t_cavities t_volume t_freeze t_stages t_place t_now t_one t_screw = some res) : Met l yX6_even wsX6_even ({ frames := 3, cells := 0, slots := 0, locals := 78 }) (pP g [.ref t_p, .int l1] sz (fl [wk6 g t_p t_length t_p_text t_text t_cavities t_p_volume t_volume t_p_freeze t_freeze t_cores t_p_earlier t_earlier t_stages t_p_place t_place t_p_now t_now t_p_was t_was t_changes t_p_one t_one t_readCavities t_p_readCavity t_readCavity t_readCores t_p_readCore t_readCore t_readStages t_p_readStage t_readStage t_p_readRule t_readRule t_value t_ends t_screw])) (pQi g (fun r => r = res.1) (fl [wk6 g t_p t_length t_p_text t_text t_cavities t_p_volume t_volume t_p_freeze t_freeze t_cores t_p_earlier t_earlier t_stages t_p_place t_place t_p_now t_now t_p_was t_was t_changes t_p_one res.2.1 t_readCavities t_p_readCavity t_readCavity t_readCores t_p_readCore t_readCore t_readStages t_p_readStage t_readStage t_p_readRule t_readRule t_value t_ends res.2.2]) (va_A (fl [wk6 g t_p t_length t_p_text t_text t_cavities t_p_volume t_volume t_p_freeze t_freeze t_cores t_p_earlier t_earlier t_stages t_p_place t_place t_p_now t_now t_p_was t_was t_changes t_p_one t_one t_readCavities t_p_readCavity t_readCavity t_readCores t_p_readCore t_readCore t_readStages t_p_readStage t_readStage t_p_readRule t_readRule t_value t_ends t_screw]) sz)) 0 0 (va_A (fl [wk6 g t_p t_length t_p_text t_text t_cavities t_p_volume t_volume t_p_freeze t_freeze t_cores t_p_earlier t_earlier t_stages t_p_place t_place t_p_now t_now t_p_was t_was t_changes t_p_one t_one t_readCavities t_p_readCavity t_readCavity t_readCores t_p_readCore t_readCore t_readStages t_p_readStage t_readStage t_p_readRule t_readRule t_value t_ends t_screw]) sz) := by
  refine Met.ofW (cc := cX6_even) (maxL := 6) (ret := (some .int)) (by decide) rfl ?_
  intro p e s m args below meth c s₁ B hml hv
  obtain ⟨rfl, hsz, hP, hK, hD0, hG⟩ := hv
  have hx := B.exec
  have hb := B.bytes
  have hr := B.returns
  have hts := atoms_spec (ws := wsX6_even) B.pre
  have hown : s.vm.findClass RX6 = some m.cls := findClass_of_methodNamed B.named
  have hlocks := B.notSynchronized
  subst hsz
  have hD := hD0.self (sz := s.heap.size)
  generalize hAe : va_A (fl [wk6 g t_p t_length t_p_text t_text t_cavities t_p_volume t_volume t_p_freeze t_freeze t_cores t_p_earlier t_earlier t_stages t_p_place t_place t_p_now t_now t_p_was t_was t_changes t_p_one t_one t_readCavities t_p_readCavity t_readCavity t_readCores t_p_readCore t_readCore t_readStages t_p_readStage t_readStage t_p_readRule t_readRule t_value t_ends t_screw]) s.heap.size = A at hD hG ⊢
  have hA : ∀ q : Nat, s.heap.size ≤ q → A q := fun q h => by rw [← hAe]; exact Or.inr h
  have hS : va_S A s.heap s.heap [] := va_S.rf
  have hin6 : ∀ w ∈ u_ws RX6 TX6 23, w ∈ wsX6_even := by decide +kernel
  have L1 := hts (Cond.fieldLink RX6 31 "MouldShotsModel" "one" "[I") (by decide +kernel)
  have w_57 : ∀ (k_28 : Int32 → Int32 → Int32 → Int32 → Int32 → Int32 → (Nat → Int32) → (Nat → Int32) → Int32 → (Nat → Int32) → (Nat → Int32) → (Nat → Int32) → Int32 → Option (Int32 × (Nat → Int32) × Int32)), (∀ (v1 : Int32) (v2 : Int32) (v3 : Int32) (v4 : Int32) (v5 : Int32) (t_one : (Nat → Int32)) (t_screw : Int32) (H : Heap) (locs : List Loc) (ls : Array Slot), k_28 v1 v2 v3 v4 v5 t_cavities t_volume t_freeze t_stages t_place t_now t_one t_screw = some res → va_P g.1 vwCl (fl [wk6 g t_p t_length t_p_text t_text t_cavities t_p_volume t_volume t_p_freeze t_freeze t_cores t_p_earlier t_earlier t_stages t_p_place t_place t_p_now t_now t_p_was t_was t_changes t_p_one t_one t_readCavities t_p_readCavity t_readCavity t_readCores t_p_readCore t_readCore t_readStages t_p_readStage t_readStage t_p_readRule t_readRule t_value t_ends t_screw]) H → va_D A (fl [wk6 g t_p t_length t_p_text t_text t_cavities t_p_volume t_volume t_p_freeze t_freeze t_cores t_p_earlier t_earlier t_stages t_p_place t_place t_p_now t_now t_p_was t_was t_changes t_p_one t_one t_readCavities t_p_readCavity t_readCavity t_readCores t_p_readCore t_readCore t_readStages t_p_readStage t_readStage t_p_readRule t_readRule t_value t_ends t_screw]) → va_S A s.heap H locs → lv_has ls 6 [(0, .ref t_p), (1, .int v1), (2, .int v2), (3, .int v3), (4, .int v4), (5, .int v5)] → W p l e ({ frames := 3, cells := 0, slots := 0, locals := 78 }) s m ([.ref t_p, .int l1] : List Value).toArray below meth c H locs 0 0 (MQ below (pQi g (fun r => r = res.1) (fl [wk6 g t_p t_length t_p_text t_text t_cavities t_p_volume t_volume t_p_freeze t_freeze t_cores t_p_earlier t_earlier t_stages t_p_place t_place t_p_now t_now t_p_was t_was t_changes t_p_one res.2.1 t_readCavities t_p_readCavity t_readCavity t_readCores t_p_readCore t_readCore t_readStages t_p_readStage t_readStage t_p_readRule t_readRule t_value t_ends res.2.2]) A) ([.ref t_p, .int l1] : List Value).toArray s 0 0 A) (F0 m 28 ls [])) → ∀ (v1 : Int32) (v4 : Int32) (v5 : Int32) (t_one : (Nat → Int32)) (t_screw : Int32) (H : Heap) (locs : List Loc) (ls : Array Slot), f6_even_57 k_28 N v1 v4 v5 t_cavities t_volume t_freeze t_stages t_place t_now t_one t_screw = some res → va_P g.1 vwCl (fl [wk6 g t_p t_length t_p_text t_text t_cavities t_p_volume t_volume t_p_freeze t_freeze t_cores t_p_earlier t_earlier t_stages t_p_place t_place t_p_now t_now t_p_was t_was t_changes t_p_one t_one t_readCavities t_p_readCavity t_readCavity t_readCores t_p_readCore t_readCore t_readStages t_p_readStage t_readStage t_p_readRule t_readRule t_value t_ends t_screw]) H → va_D A (fl [wk6 g t_p t_length t_p_text t_text t_cavities t_p_volume t_volume t_p_freeze t_freeze t_cores t_p_earlier t_earlier t_stages t_p_place t_place t_p_now t_now t_p_was t_was t_changes t_p_one t_one t_readCavities t_p_readCavity t_readCavity t_readCores t_p_readCore t_readCore t_readStages t_p_readStage t_readStage t_p_readRule t_readRule t_value t_ends t_screw]) → va_S A s.heap H locs → lv_has ls 6 [(0, .ref t_p), (1, .int v1), (4, .int v4), (5, .int v5)] → W p l e ({ frames := 3, cells := 0, slots := 0, locals := 78 }) s m ([.ref t_p, .int l1] : List Value).toArray below meth c H locs 0 0 (MQ below (pQi g (fun r => r = res.1) (fl [wk6 g t_p t_length t_p_text t_text t_cavities t_p_volume t_volume t_p_freeze t_freeze t_cores t_p_earlier t_earlier t_stages t_p_place t_place t_p_now t_now t_p_was t_was t_changes t_p_one res.2.1 t_readCavities t_p_readCavity t_readCavity t_readCores t_p_readCore t_readCore t_readStages t_p_readStage t_readStage t_p_readRule t_readRule t_value t_ends res.2.2]) A) ([.ref t_p, .int l1] : List Value).toArray s 0 0 A) (F0 m 57 ls []) := by
    intro k_28 hk_28 v1 v4 v5 t_one t_screw H locs ls hf hP hD hS hl
    rw [f6_even_57] at hf
    refine lv_aload_n hx hb dX6_even_57 rfl (lv_at hl 0 rfl) ?_
    refine va_get (D := g.1) (ci := 6) (v := .ref t_p_one) (C := RX6) (T := TX6) (N := 23) hx hb hts hin6 hown hK.1 hP 0 rfl rfl 12 (by decide) L1 (fun _ h9 => h9) rfl dX6_even_58 ?_
    refine lv_iconst (v := 4) hx hb dX6_even_61 (by decide) ?_
    obtain ⟨h_11, hf⟩ := if_some hf
    refine va_iald hx hb hK.1 hP 8 0 rfl rfl (ok_in h_11) dX6_even_62 ?_
    refine lv_istore_n (lv' := [(3, .int (t_one (Int32.toNatClampNeg 4))), (0, .ref t_p), (1, .int v1), (4, .int v4), (5, .int v5)]) hx hb dX6_even_63 rfl hl (by decide) rfl (fun ls hl => ?_)
    refine lv_iload hx hb dX6_even_64 (lv_at hl 4 rfl) ?_
    refine lv_iload hx hb dX6_even_66 (lv_at hl 3 rfl) ?_
    refine lv_imul hx hb dX6_even_68 ?_
    refine lv_istore_n (lv' := [(2, .int (v5 * v4)), (3, .int (t_one (Int32.toNatClampNeg 4))), (0, .ref t_p), (1, .int v1), (4, .int v4), (5, .int v5)]) hx hb dX6_even_69 rfl hl (by decide) rfl (fun ls hl => ?_)
    refine lv_iinc (v := v5 + 2) (lv' := [(5, .int (v5 + 2)), (2, .int (v5 * v4)), (3, .int (t_one (Int32.toNatClampNeg 4))), (0, .ref t_p), (1, .int v1), (4, .int v4)]) hx hb dX6_even_70 hl (k := 5) rfl rfl (by decide) rfl (fun ls hl => ?_)
    refine lv_goto (tgt := 28) hx hb dX6_even_73 (by decide) ?_
    exact hk_28 v1 (v5 * v4) (t_one (Int32.toNatClampNeg 4)) v4 (v5 + 2) t_one t_screw H locs ls hf hP hD hS (lv_sub hl [3, 4, 1, 2, 5, 0] rfl)
  have w_28 : ∀ (k_18 : Int32 → Int32 → Int32 → Int32 → Int32 → (Nat → Int32) → (Nat → Int32) → Int32 → (Nat → Int32) → (Nat → Int32) → (Nat → Int32) → Int32 → Option (Int32 × (Nat → Int32) × Int32)), (∀ (v1 : Int32) (v2 : Int32) (v3 : Int32) (v4 : Int32) (t_one : (Nat → Int32)) (t_screw : Int32) (H : Heap) (locs : List Loc) (ls : Array Slot), k_18 v1 v2 v3 v4 t_cavities t_volume t_freeze t_stages t_place t_now t_one t_screw = some res → va_P g.1 vwCl (fl [wk6 g t_p t_length t_p_text t_text t_cavities t_p_volume t_volume t_p_freeze t_freeze t_cores t_p_earlier t_earlier t_stages t_p_place t_place t_p_now t_now t_p_was t_was t_changes t_p_one t_one t_readCavities t_p_readCavity t_readCavity t_readCores t_p_readCore t_readCore t_readStages t_p_readStage t_readStage t_p_readRule t_readRule t_value t_ends t_screw]) H → va_D A (fl [wk6 g t_p t_length t_p_text t_text t_cavities t_p_volume t_volume t_p_freeze t_freeze t_cores t_p_earlier t_earlier t_stages t_p_place t_place t_p_now t_now t_p_was t_was t_changes t_p_one t_one t_readCavities t_p_readCavity t_readCavity t_readCores t_p_readCore t_readCore t_readStages t_p_readStage t_readStage t_p_readRule t_readRule t_value t_ends t_screw]) → va_S A s.heap H locs → lv_has ls 6 [(0, .ref t_p), (1, .int v1), (2, .int v2), (3, .int v3), (4, .int v4)] → W p l e ({ frames := 3, cells := 0, slots := 0, locals := 78 }) s m ([.ref t_p, .int l1] : List Value).toArray below meth c H locs 0 0 (MQ below (pQi g (fun r => r = res.1) (fl [wk6 g t_p t_length t_p_text t_text t_cavities t_p_volume t_volume t_p_freeze t_freeze t_cores t_p_earlier t_earlier t_stages t_p_place t_place t_p_now t_now t_p_was t_was t_changes t_p_one res.2.1 t_readCavities t_p_readCavity t_readCavity t_readCores t_p_readCore t_readCore t_readStages t_p_readStage t_readStage t_p_readRule t_readRule t_value t_ends res.2.2]) A) ([.ref t_p, .int l1] : List Value).toArray s 0 0 A) (F0 m 18 ls [])) → ∀ n : Nat, ∀ (v1 : Int32) (v2 : Int32) (v3 : Int32) (v4 : Int32) (v5 : Int32) (t_one : (Nat → Int32)) (t_screw : Int32) (H : Heap) (locs : List Loc) (ls : Array Slot), f6_even_28 k_18 N n v1 v2 v3 v4 v5 t_cavities t_volume t_freeze t_stages t_place t_now t_one t_screw = some res → va_P g.1 vwCl (fl [wk6 g t_p t_length t_p_text t_text t_cavities t_p_volume t_volume t_p_freeze t_freeze t_cores t_p_earlier t_earlier t_stages t_p_place t_place t_p_now t_now t_p_was t_was t_changes t_p_one t_one t_readCavities t_p_readCavity t_readCavity t_readCores t_p_readCore t_readCore t_readStages t_p_readStage t_readStage t_p_readRule t_readRule t_value t_ends t_screw]) H → va_D A (fl [wk6 g t_p t_length t_p_text t_text t_cavities t_p_volume t_volume t_p_freeze t_freeze t_cores t_p_earlier t_earlier t_stages t_p_place t_place t_p_now t_now t_p_was t_was t_changes t_p_one t_one t_readCavities t_p_readCavity t_readCavity t_readCores t_p_readCore t_readCore t_readStages t_p_readStage t_readStage t_p_readRule t_readRule t_value t_ends t_screw]) → va_S A s.heap H locs → lv_has ls 6 [(0, .ref t_p), (1, .int v1), (2, .int v2), (3, .int v3), (4, .int v4), (5, .int v5)] → W p l e ({ frames := 3, cells := 0, slots := 0, locals := 78 }) s m ([.ref t_p, .int l1] : List Value).toArray below meth c H locs 0 0 (MQ below (pQi g (fun r => r = res.1) (fl [wk6 g t_p t_length t_p_text t_text t_cavities t_p_volume t_volume t_p_freeze t_freeze t_cores t_p_earlier t_earlier t_stages t_p_place t_place t_p_now t_now t_p_was t_was t_changes t_p_one res.2.1 t_readCavities t_p_readCavity t_readCavity t_readCores t_p_readCore t_readCore t_readStages t_p_readStage t_readStage t_p_readRule t_readRule t_value t_ends res.2.2]) A) ([.ref t_p, .int l1] : List Value).toArray s 0 0 A) (F0 m 28 ls []) := by
    intro k_18 hk_18 n
    induction n with
    | zero => intro v1 v2 v3 v4 v5 t_one t_screw H locs ls hf; exact no_some hf
    | succ n ih =>
      intro v1 v2 v3 v4 v5 t_one t_screw H locs ls hf hP hD hS hl
      rw [f6_even_28] at hf
      refine lv_iload hx hb dX6_even_28 (lv_at hl 5 rfl) ?_
      refine lv_iconst (v := 2) hx hb dX6_even_30 (by decide) ?_
      refine lv_icmp_ge (tgt := 76) hx hb dX6_even_31 (by decide) (fun c_6 => ?_) (fun c_6 => ?_)
      · replace hf := (if_pos c_6).symm.trans hf
        refine lv_iinc (v := v4 + 1) (lv' := [(4, .int (v4 + 1)), (0, .ref t_p), (1, .int v1), (2, .int v2), (3, .int v3), (5, .int v5)]) hx hb dX6_even_76 hl (k := 4) rfl rfl (by decide) rfl (fun ls hl => ?_)
        refine lv_goto (tgt := 18) hx hb dX6_even_79 (by decide) ?_
        exact hk_18 v1 v2 v3 (v4 + 1) t_one t_screw H locs ls hf hP hD hS (lv_sub hl [1, 2, 3, 4, 0] rfl)
      · replace hf := (if_neg c_6).symm.trans hf
        refine lv_aload_n hx hb dX6_even_34 rfl (lv_at hl 0 rfl) ?_
        refine lv_iload hx hb dX6_even_35 (lv_at hl 5 rfl) ?_
        refine lv_iload hx hb dX6_even_37 (lv_at hl 4 rfl) ?_
        refine lv_imul hx hb dX6_even_39 ?_
        obtain ⟨q_7, hq_7, hf⟩ := bd_some hf
        refine bft_v (bn := [wk6 g t_p t_length t_p_text t_text t_cavities t_p_volume t_volume t_p_freeze t_freeze t_cores t_p_earlier t_earlier t_stages t_p_place t_place t_p_now t_now t_p_was t_was t_changes t_p_one q_7.1 t_readCavities t_p_readCavity t_readCavity t_readCores t_p_readCore t_readCore t_readStages t_p_readStage t_readStage t_p_readRule t_readRule t_value t_ends q_7.2]) (L := [[t_p, t_p_text, t_p_volume, t_p_freeze, t_p_earlier, t_p_place, t_p_now, t_p_was, t_p_one, t_p_readCavity, t_p_readCore, t_p_readStage, t_p_readRule]]) (va_runV (As := [.int (v5 * v4)]) (rest := []) ⟨hx, hb, hml, hown, hts⟩ (c6_tries l g t_p t_length t_p_text t_text t_cavities t_p_volume t_volume t_p_freeze t_freeze t_cores t_p_earlier t_earlier t_stages t_p_place t_place t_p_now t_now t_p_was t_was t_changes t_p_one t_one t_readCavities t_p_readCavity t_readCavity t_readCores t_p_readCore t_readCore t_readStages t_p_readStage t_readStage t_p_readRule t_readRule t_value t_ends t_screw (v5 * v4) H.size N q_7 hq_7) (cwV 1 hts gX6_even_X6_tries rfl rfl rfl ⟨rfl, nh6.1, nh6.2, pd_30⟩ ⟨Nat.le_of_ble_eq_true rfl, Nat.le_of_ble_eq_true rfl⟩) (qPV hK hG hP hD hS hA [0] (by decide) rfl (va_recv hK.1 hP (ci := 6) (q0 := 0) rfl rfl)) rfl rfl hl.1 rfl (lv_room (Nat.le_of_ble_eq_true rfl)) dX6_even_40 ⟨Nat.zero_le _, Nat.zero_le _⟩) hP hD hS hA [0] rfl rfl rfl rfl (fun H locs hP hD hS => ?_)
        refine lv_iload_n hx hb dX6_even_43 rfl (lv_at hl 3 rfl) ?_
        refine lv_if_lt (tgt := 57) hx hb dX6_even_44 (by decide) (fun c_8 => ?_) (fun c_8 => ?_)
        · replace hf := (if_pos c_8).symm.trans hf
          exact w_57 (fun a0 a1 a2 a3 a4 a5 a6 a7 a8 a9 a10 a11 a12 => f6_even_28 k_18 N n a0 a1 a2 a3 a4 a5 a6 a7 a8 a9 a10 a11 a12) ih v1 v4 v5 q_7.1 q_7.2 H locs ls hf hP hD hS (lv_sub hl [0, 1, 4, 5] rfl)
        · replace hf := (if_neg c_8).symm.trans hf
          refine lv_aload_n hx hb dX6_even_47 rfl (lv_at hl 0 rfl) ?_
          refine va_get (D := g.1) (ci := 6) (v := .ref t_p_one) (C := RX6) (T := TX6) (N := 23) hx hb hts hin6 hown hK.1 hP 0 rfl rfl 12 (by decide) L1 (fun _ h9 => h9) rfl dX6_even_48 ?_
          refine lv_iconst (v := 4) hx hb dX6_even_51 (by decide) ?_
          obtain ⟨h_9, hf⟩ := if_some hf
          refine va_iald hx hb hK.1 hP 8 0 rfl rfl (ok_in h_9) dX6_even_52 ?_
          refine lv_iload_n hx hb dX6_even_53 rfl (lv_at hl 3 rfl) ?_
          refine lv_icmp_ge (tgt := 70) hx hb dX6_even_54 (by decide) (fun c_10 => ?_) (fun c_10 => ?_)
          · replace hf := (if_pos c_10).symm.trans hf
            refine lv_iinc (v := v5 + 2) (lv' := [(5, .int (v5 + 2)), (0, .ref t_p), (1, .int v1), (2, .int v2), (3, .int v3), (4, .int v4)]) hx hb dX6_even_70 hl (k := 5) rfl rfl (by decide) rfl (fun ls hl => ?_)
            refine lv_goto (tgt := 28) hx hb dX6_even_73 (by decide) ?_
            exact ih v1 v2 v3 v4 (v5 + 2) q_7.1 q_7.2 H locs ls hf hP hD hS (lv_sub hl [1, 2, 3, 4, 5, 0] rfl)
          · replace hf := (if_neg c_10).symm.trans hf
            exact w_57 (fun a0 a1 a2 a3 a4 a5 a6 a7 a8 a9 a10 a11 a12 => f6_even_28 k_18 N n a0 a1 a2 a3 a4 a5 a6 a7 a8 a9 a10 a11 a12) ih v1 v4 v5 q_7.1 q_7.2 H locs ls hf hP hD hS (lv_sub hl [0, 1, 4, 5] rfl)
  have w_18 : ∀ n : Nat, ∀ (v1 : Int32) (v2 : Int32) (v3 : Int32) (v4 : Int32) (t_one : (Nat → Int32)) (t_screw : Int32) (H : Heap) (locs : List Loc) (ls : Array Slot), f6_even_18  N n v1 v2 v3 v4 t_cavities t_volume t_freeze t_stages t_place t_now t_one t_screw = some res → va_P g.1 vwCl (fl [wk6 g t_p t_length t_p_text t_text t_cavities t_p_volume t_volume t_p_freeze t_freeze t_cores t_p_earlier t_earlier t_stages t_p_place t_place t_p_now t_now t_p_was t_was t_changes t_p_one t_one t_readCavities t_p_readCavity t_readCavity t_readCores t_p_readCore t_readCore t_readStages t_p_readStage t_readStage t_p_readRule t_readRule t_value t_ends t_screw]) H → va_D A (fl [wk6 g t_p t_length t_p_text t_text t_cavities t_p_volume t_volume t_p_freeze t_freeze t_cores t_p_earlier t_earlier t_stages t_p_place t_place t_p_now t_now t_p_was t_was t_changes t_p_one t_one t_readCavities t_p_readCavity t_readCavity t_readCores t_p_readCore t_readCore t_readStages t_p_readStage t_readStage t_p_readRule t_readRule t_value t_ends t_screw]) → va_S A s.heap H locs → lv_has ls 6 [(0, .ref t_p), (1, .int v1), (2, .int v2), (3, .int v3), (4, .int v4)] → W p l e ({ frames := 3, cells := 0, slots := 0, locals := 78 }) s m ([.ref t_p, .int l1] : List Value).toArray below meth c H locs 0 0 (MQ below (pQi g (fun r => r = res.1) (fl [wk6 g t_p t_length t_p_text t_text t_cavities t_p_volume t_volume t_p_freeze t_freeze t_cores t_p_earlier t_earlier t_stages t_p_place t_place t_p_now t_now t_p_was t_was t_changes t_p_one res.2.1 t_readCavities t_p_readCavity t_readCavity t_readCores t_p_readCore t_readCore t_readStages t_p_readStage t_readStage t_p_readRule t_readRule t_value t_ends res.2.2]) A) ([.ref t_p, .int l1] : List Value).toArray s 0 0 A) (F0 m 18 ls []) := by
    intro  n
    induction n with
    | zero => intro v1 v2 v3 v4 t_one t_screw H locs ls hf; exact no_some hf
    | succ n ih =>
      intro v1 v2 v3 v4 t_one t_screw H locs ls hf hP hD hS hl
      rw [f6_even_18] at hf
      refine lv_iload hx hb dX6_even_18 (lv_at hl 4 rfl) ?_
      refine lv_bipush (v := 8) hx hb dX6_even_20 (by decide) ?_
      refine lv_icmp_gt (tgt := 82) hx hb dX6_even_22 (by decide) (fun c_4 => ?_) (fun c_4 => ?_)
      · replace hf := (if_pos c_4).symm.trans hf
        refine lv_iload_n hx hb dX6_even_82 rfl (lv_at hl 1 rfl) ?_
        refine lv_if_ne (tgt := 93) hx hb dX6_even_83 (by decide) (fun c_5 => ?_) (fun c_5 => ?_)
        · replace hf := (if_neg c_5).symm.trans hf
          refine lv_iload_n hx hb dX6_even_93 rfl (lv_at hl 3 rfl) ?_
          replace hf := Option.some.inj hf
          subst hf
          exact W.iret (v := v3) hx hb hr (fun t ht hW => ⟨⟨_, (), rfl, rfl, by show va_P g.1 vwCl _ t.heap; rw [ht]; exact hP⟩, hS.F ht⟩) hS.2.2 dX6_even_94 hlocks
        · replace hf := (if_pos c_5).symm.trans hf
          refine lv_iload_n hx hb dX6_even_86 rfl (lv_at hl 2 rfl) ?_
          refine lv_bipush (v := 8) hx hb dX6_even_87 (by decide) ?_
          refine lv_iadd hx hb dX6_even_89 ?_
          refine lv_goto (tgt := 94) hx hb dX6_even_90 (by decide) ?_
          replace hf := Option.some.inj hf
          subst hf
          exact W.iret (v := v2 + 8) hx hb hr (fun t ht hW => ⟨⟨_, (), rfl, rfl, by show va_P g.1 vwCl _ t.heap; rw [ht]; exact hP⟩, hS.F ht⟩) hS.2.2 dX6_even_94 hlocks
      · replace hf := (if_neg c_4).symm.trans hf
        refine lv_iconst (v := (-1)) hx hb dX6_even_25 (by decide) ?_
        refine lv_istore (lv' := [(5, .int (-1)), (0, .ref t_p), (1, .int v1), (2, .int v2), (3, .int v3), (4, .int v4)]) hx hb dX6_even_26 hl (by decide) rfl (fun ls hl => ?_)
        exact w_28 (fun a0 a1 a2 a3 a4 a5 a6 a7 a8 a9 a10 a11 => f6_even_18 N n a0 a1 a2 a3 a4 a5 a6 a7 a8 a9 a10 a11) ih N v1 v2 v3 v4 (-1) t_one t_screw H locs ls hf hP hD hS (lv_sub hl [1, 2, 3, 4, 5, 0] rfl)
  have hl := lv_entry ([.ref t_p, .int l1]) (n := 6) (Nat.le_of_ble_eq_true rfl)
  rw [lg_entry_eq]
  generalize (lg_sl ([.ref t_p, .int l1]) ++ List.replicate (6 - (lg_sl ([.ref t_p, .int l1])).length) Slot.unset).toArray = ls at hl ⊢
  replace hl : lv_has ls 6 [(0, .ref t_p), (1, .int l1)] := hl
  rw [f6_even] at hf
  have hgo : ∀ (H : Heap) (locs : List Loc), H = s.heap → locs = [] → va_P g.1 vwCl (fl [wk6 g t_p t_length t_p_text t_text t_cavities t_p_volume t_volume t_p_freeze t_freeze t_cores t_p_earlier t_earlier t_stages t_p_place t_place t_p_now t_now t_p_was t_was t_changes t_p_one t_one t_readCavities t_p_readCavity t_readCavity t_readCores t_p_readCore t_readCore t_readStages t_p_readStage t_readStage t_p_readRule t_readRule t_value t_ends t_screw]) H → va_S A s.heap H locs → W p l e ({ frames := 3, cells := 0, slots := 0, locals := 78 }) s m ([.ref t_p, .int l1] : List Value).toArray below meth c H locs 0 0 (MQ below (pQi g (fun r => r = res.1) (fl [wk6 g t_p t_length t_p_text t_text t_cavities t_p_volume t_volume t_p_freeze t_freeze t_cores t_p_earlier t_earlier t_stages t_p_place t_place t_p_now t_now t_p_was t_was t_changes t_p_one res.2.1 t_readCavities t_p_readCavity t_readCavity t_readCores t_p_readCore t_readCore t_readStages t_p_readStage t_readStage t_p_readRule t_readRule t_value t_ends res.2.2]) A) ([.ref t_p, .int l1] : List Value).toArray s 0 0 A) (F0 m 0 ls []) := by
    intro H locs hH hL hP hS
    refine lv_iload_n hx hb dX6_even_0 rfl (lv_at hl 1 rfl) ?_
    refine lv_iconst (v := 0) hx hb dX6_even_1 (by decide) ?_
    refine lv_iconst (v := 1) hx hb dX6_even_2 (by decide) ?_
    obtain ⟨q_1, hq_1, hf⟩ := bd_some hf
    refine aft_i (wn := (fl [wk6 g t_p t_length t_p_text t_text t_cavities t_p_volume t_volume t_p_freeze t_freeze t_cores t_p_earlier t_earlier t_stages t_p_place t_place t_p_now t_now t_p_was t_was t_changes t_p_one t_one t_readCavities t_p_readCavity t_readCavity t_readCores t_p_readCore t_readCore t_readStages t_p_readStage t_readStage t_p_readRule t_readRule t_value t_ends t_screw])) (va_runS (As := [.int l1, .int 0, .int 1]) (rest := []) ⟨hx, hb, hml, hown, hts⟩ (c6_isIn l g l1 0 1 H.size N q_1 hq_1) (va_cwS 3 hts gX6_even_X6_isIn rfl rfl rfl ⟨nh6.1, nh6.2, pd_17⟩ ⟨Nat.le_of_ble_eq_true rfl, Nat.le_of_ble_eq_true rfl⟩) (pPS hK hG hP hD hS hA [] (by decide) rfl) rfl rfl hl.1 rfl (lv_room (Nat.le_of_ble_eq_true rfl)) dX6_even_3 ⟨Nat.zero_le _, Nat.zero_le _⟩) hP hD hS hA [] rfl rfl rfl (fun r_2 H locs hw hP hD hS => ?_)
    replace hw := hw.symm
    subst hw
    refine lv_if_ne (tgt := 11) hx hb dX6_even_6 (by decide) (fun c_3 => ?_) (fun c_3 => ?_)
    · replace hf := (if_neg c_3).symm.trans hf
      refine lv_iconst (v := 0) hx hb dX6_even_11 (by decide) ?_
      refine lv_istore_n (lv' := [(2, .int 0), (0, .ref t_p), (1, .int l1)]) hx hb dX6_even_12 rfl hl (by decide) rfl (fun ls hl => ?_)
      refine lv_iconst (v := (-1)) hx hb dX6_even_13 (by decide) ?_
      refine lv_istore_n (lv' := [(3, .int (-1)), (2, .int 0), (0, .ref t_p), (1, .int l1)]) hx hb dX6_even_14 rfl hl (by decide) rfl (fun ls hl => ?_)
      refine lv_iconst (v := 0) hx hb dX6_even_15 (by decide) ?_
      refine lv_istore (lv' := [(4, .int 0), (3, .int (-1)), (2, .int 0), (0, .ref t_p), (1, .int l1)]) hx hb dX6_even_16 hl (by decide) rfl (fun ls hl => ?_)
      exact w_18  N l1 0 (-1) 0 t_one t_screw H locs ls hf hP hD hS (lv_sub hl [3, 4, 2, 1, 0] rfl)
    · replace hf := (if_pos c_3).symm.trans hf
      refine lv_iconst (v := (-1)) hx hb dX6_even_9 (by decide) ?_
      replace hf := Option.some.inj hf
      subst hf
      exact W.iret (v := (-1)) hx hb hr (fun t ht hW => ⟨⟨_, (), rfl, rfl, by show va_P g.1 vwCl _ t.heap; rw [ht]; exact hP⟩, hS.F ht⟩) hS.2.2 dX6_even_10 hlocks
  exact hgo s.heap [] rfl rfl hP hS

set_option maxHeartbeats 4000000 in
set_option maxRecDepth 100000 in
theorem c6_earlier (l : Launch) (g : gG) (t_p : Nat) (t_length : Int32) (t_p_text : Nat) (t_text : (Nat → Int32)) (t_cavities : Int32) (t_p_volume : Nat) (t_volume : (Nat → Int32)) (t_p_freeze : Nat) (t_freeze : (Nat → Int32)) (t_cores : Int32) (t_p_earlier : Nat) (t_earlier : (Nat → Int32)) (t_stages : Int32) (t_p_place : Nat) (t_place : (Nat → Int32)) (t_p_now : Nat) (t_now : (Nat → Int32)) (t_p_was : Nat) (t_was : (Nat → Int32)) (t_changes : Int32) (t_p_one : Nat) (t_one : (Nat → Int32)) (t_readCavities : Int32) (t_p_readCavity : Nat) (t_readCavity : (Nat → Int32)) (t_readCores : Int32) (t_p_readCore : Nat) (t_readCore : (Nat → Int32)) (t_readStages : Int32) (t_p_readStage : Nat) (t_readStage : (Nat → Int32)) (t_p_readRule : Nat) (t_readRule : (Nat → Int32)) (t_value : Int32) (t_ends : Int32) (t_screw : Int32) (l1 : Int32) (sz : Nat) (N : Nat) (res : (Int32)) (hf : f6_earlier N l1 t_cores t_earlier = some res) : Met l yX6_earlier wsX6_earlier ({ frames := 2, cells := 0, slots := 0, locals := 43 }) (pP g [.ref t_p, .int l1] sz (fl [wk6 g t_p t_length t_p_text t_text t_cavities t_p_volume t_volume t_p_freeze t_freeze t_cores t_p_earlier t_earlier t_stages t_p_place t_place t_p_now t_now t_p_was t_was t_changes t_p_one t_one t_readCavities t_p_readCavity t_readCavity t_readCores t_p_readCore t_readCore t_readStages t_p_readStage t_readStage t_p_readRule t_readRule t_value t_ends t_screw])) (pQi g (fun r => r = res) (fl [wk6 g t_p t_length t_p_text t_text t_cavities t_p_volume t_volume t_p_freeze t_freeze t_cores t_p_earlier t_earlier t_stages t_p_place t_place t_p_now t_now t_p_was t_was t_changes t_p_one t_one t_readCavities t_p_readCavity t_readCavity t_readCores t_p_readCore t_readCore t_readStages t_p_readStage t_readStage t_p_readRule t_readRule t_value t_ends t_screw]) (va_A (fl [wk6 g t_p t_length t_p_text t_text t_cavities t_p_volume t_volume t_p_freeze t_freeze t_cores t_p_earlier t_earlier t_stages t_p_place t_place t_p_now t_now t_p_was t_was t_changes t_p_one t_one t_readCavities t_p_readCavity t_readCavity t_readCores t_p_readCore t_readCore t_readStages t_p_readStage t_readStage t_p_readRule t_readRule t_value t_ends t_screw]) sz)) 0 0 (va_A (fl [wk6 g t_p t_length t_p_text t_text t_cavities t_p_volume t_volume t_p_freeze t_freeze t_cores t_p_earlier t_earlier t_stages t_p_place t_place t_p_now t_now t_p_was t_was t_changes t_p_one t_one t_readCavities t_p_readCavity t_readCavity t_readCores t_p_readCore t_readCore t_readStages t_p_readStage t_readStage t_p_readRule t_readRule t_value t_ends t_screw]) sz) := by
  refine Met.ofW (cc := cX6_earlier) (maxL := 2) (ret := (some .int)) (by decide) rfl ?_
  intro p e s m args below meth c s₁ B hml hv
  obtain ⟨rfl, hsz, hP, hK, hD0, hG⟩ := hv
  have hx := B.exec
  have hb := B.bytes
  have hr := B.returns
  have hts := atoms_spec (ws := wsX6_earlier) B.pre
  have hown : s.vm.findClass RX6 = some m.cls := findClass_of_methodNamed B.named
  have hlocks := B.notSynchronized
  subst hsz
  have hD := hD0.self (sz := s.heap.size)
  generalize hAe : va_A (fl [wk6 g t_p t_length t_p_text t_text t_cavities t_p_volume t_volume t_p_freeze t_freeze t_cores t_p_earlier t_earlier t_stages t_p_place t_place t_p_now t_now t_p_was t_was t_changes t_p_one t_one t_readCavities t_p_readCavity t_readCavity t_readCores t_p_readCore t_readCore t_readStages t_p_readStage t_readStage t_p_readRule t_readRule t_value t_ends t_screw]) s.heap.size = A at hD hG ⊢
  have hA : ∀ q : Nat, s.heap.size ≤ q → A q := fun q h => by rw [← hAe]; exact Or.inr h
  have hS : va_S A s.heap s.heap [] := va_S.rf
  have hin6 : ∀ w ∈ u_ws RX6 TX6 23, w ∈ wsX6_earlier := by decide +kernel
  have L1 := hts (Cond.fieldLink RX6 19 "MouldShotsModel" "earlier" "[I") (by decide +kernel)
  have hl := lv_entry ([.ref t_p, .int l1]) (n := 2) (Nat.le_of_ble_eq_true rfl)
  rw [lg_entry_eq]
  generalize (lg_sl ([.ref t_p, .int l1]) ++ List.replicate (2 - (lg_sl ([.ref t_p, .int l1])).length) Slot.unset).toArray = ls at hl ⊢
  replace hl : lv_has ls 2 [(0, .ref t_p), (1, .int l1)] := hl
  rw [f6_earlier] at hf
  have hgo : ∀ (H : Heap) (locs : List Loc), H = s.heap → locs = [] → va_P g.1 vwCl (fl [wk6 g t_p t_length t_p_text t_text t_cavities t_p_volume t_volume t_p_freeze t_freeze t_cores t_p_earlier t_earlier t_stages t_p_place t_place t_p_now t_now t_p_was t_was t_changes t_p_one t_one t_readCavities t_p_readCavity t_readCavity t_readCores t_p_readCore t_readCore t_readStages t_p_readStage t_readStage t_p_readRule t_readRule t_value t_ends t_screw]) H → va_S A s.heap H locs → W p l e ({ frames := 2, cells := 0, slots := 0, locals := 43 }) s m ([.ref t_p, .int l1] : List Value).toArray below meth c H locs 0 0 (MQ below (pQi g (fun r => r = res) (fl [wk6 g t_p t_length t_p_text t_text t_cavities t_p_volume t_volume t_p_freeze t_freeze t_cores t_p_earlier t_earlier t_stages t_p_place t_place t_p_now t_now t_p_was t_was t_changes t_p_one t_one t_readCavities t_p_readCavity t_readCavity t_readCores t_p_readCore t_readCore t_readStages t_p_readStage t_readStage t_p_readRule t_readRule t_value t_ends t_screw]) A) ([.ref t_p, .int l1] : List Value).toArray s 0 0 A) (F0 m 0 ls []) := by
    intro H locs hH hL hP hS
    refine lv_aload_n hx hb dX6_earlier_0 rfl (lv_at hl 0 rfl) ?_
    refine lv_iload_n hx hb dX6_earlier_1 rfl (lv_at hl 1 rfl) ?_
    obtain ⟨q_1, hq_1, hf⟩ := bd_some hf
    refine bft_i (bn := [wk6 g t_p t_length t_p_text t_text t_cavities t_p_volume t_volume t_p_freeze t_freeze t_cores t_p_earlier t_earlier t_stages t_p_place t_place t_p_now t_now t_p_was t_was t_changes t_p_one t_one t_readCavities t_p_readCavity t_readCavity t_readCores t_p_readCore t_readCore t_readStages t_p_readStage t_readStage t_p_readRule t_readRule t_value t_ends t_screw]) (L := [[t_p, t_p_text, t_p_volume, t_p_freeze, t_p_earlier, t_p_place, t_p_now, t_p_was, t_p_one, t_p_readCavity, t_p_readCore, t_p_readStage, t_p_readRule]]) (va_runV (As := [.int l1]) (rest := []) ⟨hx, hb, hml, hown, hts⟩ (c6_isCore l g t_p t_length t_p_text t_text t_cavities t_p_volume t_volume t_p_freeze t_freeze t_cores t_p_earlier t_earlier t_stages t_p_place t_place t_p_now t_now t_p_was t_was t_changes t_p_one t_one t_readCavities t_p_readCavity t_readCavity t_readCores t_p_readCore t_readCore t_readStages t_p_readStage t_readStage t_p_readRule t_readRule t_value t_ends t_screw l1 H.size N q_1 hq_1) (cwV 1 hts gX6_earlier_X6_isCore rfl rfl rfl ⟨rfl, nh6.1, nh6.2, pd_1⟩ ⟨Nat.le_of_ble_eq_true rfl, Nat.le_of_ble_eq_true rfl⟩) (qPV hK hG hP hD hS hA [0] (by decide) rfl (va_recv hK.1 hP (ci := 6) (q0 := 0) rfl rfl)) rfl rfl hl.1 rfl (lv_room (Nat.le_of_ble_eq_true rfl)) dX6_earlier_2 ⟨Nat.zero_le _, Nat.zero_le _⟩) hP hD hS hA [0] rfl rfl rfl rfl (fun r_2 H locs hw hP hD hS => ?_)
    replace hw := hw.symm
    subst hw
    refine lv_if_eq (tgt := 17) hx hb dX6_earlier_5 (by decide) (fun c_3 => ?_) (fun c_3 => ?_)
    · replace hf := (if_pos c_3).symm.trans hf
      refine lv_iconst (v := (-1)) hx hb dX6_earlier_17 (by decide) ?_
      replace hf := Option.some.inj hf
      subst hf
      exact W.iret (v := (-1)) hx hb hr (fun t ht hW => ⟨⟨_, (), rfl, rfl, by show va_P g.1 vwCl _ t.heap; rw [ht]; exact hP⟩, hS.F ht⟩) hS.2.2 dX6_earlier_18 hlocks
    · replace hf := (if_neg c_3).symm.trans hf
      refine lv_aload_n hx hb dX6_earlier_8 rfl (lv_at hl 0 rfl) ?_
      refine va_get (D := g.1) (ci := 6) (v := .ref t_p_earlier) (C := RX6) (T := TX6) (N := 23) hx hb hts hin6 hown hK.1 hP 0 rfl rfl 6 (by decide) L1 (fun _ h9 => h9) rfl dX6_earlier_9 ?_
      refine lv_iload_n hx hb dX6_earlier_12 rfl (lv_at hl 1 rfl) ?_
      obtain ⟨h_4, hf⟩ := if_some hf
      refine va_iald hx hb hK.1 hP 4 0 rfl rfl (ok_in h_4) dX6_earlier_13 ?_
      refine lv_goto (tgt := 18) hx hb dX6_earlier_14 (by decide) ?_
      replace hf := Option.some.inj hf
      subst hf
      exact W.iret (v := t_earlier (Int32.toNatClampNeg l1)) hx hb hr (fun t ht hW => ⟨⟨_, (), rfl, rfl, by show va_P g.1 vwCl _ t.heap; rw [ht]; exact hP⟩, hS.F ht⟩) hS.2.2 dX6_earlier_18 hlocks
  exact hgo s.heap [] rfl rfl hP hS

set_option maxHeartbeats 4000000 in
set_option maxRecDepth 100000 in
theorem c6_order (l : Launch) (g : gG) (t_p : Nat) (t_length : Int32) (t_p_text : Nat) (t_text : (Nat → Int32)) (t_cavities : Int32) (t_p_volume : Nat) (t_volume : (Nat → Int32)) (t_p_freeze : Nat) (t_freeze : (Nat → Int32)) (t_cores : Int32) (t_p_earlier : Nat) (t_earlier : (Nat → Int32)) (t_stages : Int32) (t_p_place : Nat) (t_place : (Nat → Int32)) (t_p_now : Nat) (t_now : (Nat → Int32)) (t_p_was : Nat) (t_was : (Nat → Int32)) (t_changes : Int32) (t_p_one : Nat) (t_one : (Nat → Int32)) (t_readCavities : Int32) (t_p_readCavity : Nat) (t_readCavity : (Nat → Int32)) (t_readCores : Int32) (t_p_readCore : Nat) (t_readCore : (Nat → Int32)) (t_readStages : Int32) (t_p_readStage : Nat) (t_readStage : (Nat → Int32)) (t_p_readRule : Nat) (t_readRule : (Nat → Int32)) (t_value : Int32) (t_ends : Int32) (t_screw : Int32) (l1 : Int32) (sz : Nat) (N : Nat) (res : (Int32)) (hf : f6_order N l1 t_cores t_earlier = some res) : Met l yX6_order wsX6_order ({ frames := 0, cells := 0, slots := 0, locals := 0 }) (pP g [.ref t_p, .int l1] sz (fl [wk6 g t_p t_length t_p_text t_text t_cavities t_p_volume t_volume t_p_freeze t_freeze t_cores t_p_earlier t_earlier t_stages t_p_place t_place t_p_now t_now t_p_was t_was t_changes t_p_one t_one t_readCavities t_p_readCavity t_readCavity t_readCores t_p_readCore t_readCore t_readStages t_p_readStage t_readStage t_p_readRule t_readRule t_value t_ends t_screw])) (pQi g (fun r => r = res) (fl [wk6 g t_p t_length t_p_text t_text t_cavities t_p_volume t_volume t_p_freeze t_freeze t_cores t_p_earlier t_earlier t_stages t_p_place t_place t_p_now t_now t_p_was t_was t_changes t_p_one t_one t_readCavities t_p_readCavity t_readCavity t_readCores t_p_readCore t_readCore t_readStages t_p_readStage t_readStage t_p_readRule t_readRule t_value t_ends t_screw]) (va_A (fl [wk6 g t_p t_length t_p_text t_text t_cavities t_p_volume t_volume t_p_freeze t_freeze t_cores t_p_earlier t_earlier t_stages t_p_place t_place t_p_now t_now t_p_was t_was t_changes t_p_one t_one t_readCavities t_p_readCavity t_readCavity t_readCores t_p_readCore t_readCore t_readStages t_p_readStage t_readStage t_p_readRule t_readRule t_value t_ends t_screw]) sz)) 0 0 (va_A (fl [wk6 g t_p t_length t_p_text t_text t_cavities t_p_volume t_volume t_p_freeze t_freeze t_cores t_p_earlier t_earlier t_stages t_p_place t_place t_p_now t_now t_p_was t_was t_changes t_p_one t_one t_readCavities t_p_readCavity t_readCavity t_readCores t_p_readCore t_readCore t_readStages t_p_readStage t_readStage t_p_readRule t_readRule t_value t_ends t_screw]) sz) := by
  refine Met.ofW (cc := cX6_order) (maxL := 6) (ret := (some .int)) (by decide) rfl ?_
  intro p e s m args below meth c s₁ B hml hv
  obtain ⟨rfl, hsz, hP, hK, hD0, hG⟩ := hv
  have hx := B.exec
  have hb := B.bytes
  have hr := B.returns
  have hts := atoms_spec (ws := wsX6_order) B.pre
  have hown : s.vm.findClass RX6 = some m.cls := findClass_of_methodNamed B.named
  have hlocks := B.notSynchronized
  subst hsz
  have hD := hD0.self (sz := s.heap.size)
  generalize hAe : va_A (fl [wk6 g t_p t_length t_p_text t_text t_cavities t_p_volume t_volume t_p_freeze t_freeze t_cores t_p_earlier t_earlier t_stages t_p_place t_place t_p_now t_now t_p_was t_was t_changes t_p_one t_one t_readCavities t_p_readCavity t_readCavity t_readCores t_p_readCore t_readCore t_readStages t_p_readStage t_readStage t_p_readRule t_readRule t_value t_ends t_screw]) s.heap.size = A at hD hG ⊢
  have hA : ∀ q : Nat, s.heap.size ≤ q → A q := fun q h => by rw [← hAe]; exact Or.inr h
  have hS : va_S A s.heap s.heap [] := va_S.rf
  have hin6 : ∀ w ∈ u_ws RX6 TX6 23, w ∈ wsX6_order := by decide +kernel
  have L1 := hts (Cond.fieldLink RX6 73 "MouldShotsModel" "cores" "I") (by decide +kernel)
  have L2 := hts (Cond.fieldLink RX6 19 "MouldShotsModel" "earlier" "[I") (by decide +kernel)
  have w_76 : ∀ (k_25 : Int32 → Int32 → Int32 → Int32 → (Nat → Int32) → Option (Int32)), (∀ (v1 : Int32) (v2 : Int32) (v3 : Int32) (v4 : Int32)  (H : Heap) (locs : List Loc) (ls : Array Slot), k_25 v1 v2 v3 v4 t_earlier = some res → va_P g.1 vwCl (fl [wk6 g t_p t_length t_p_text t_text t_cavities t_p_volume t_volume t_p_freeze t_freeze t_cores t_p_earlier t_earlier t_stages t_p_place t_place t_p_now t_now t_p_was t_was t_changes t_p_one t_one t_readCavities t_p_readCavity t_readCavity t_readCores t_p_readCore t_readCore t_readStages t_p_readStage t_readStage t_p_readRule t_readRule t_value t_ends t_screw]) H → va_D A (fl [wk6 g t_p t_length t_p_text t_text t_cavities t_p_volume t_volume t_p_freeze t_freeze t_cores t_p_earlier t_earlier t_stages t_p_place t_place t_p_now t_now t_p_was t_was t_changes t_p_one t_one t_readCavities t_p_readCavity t_readCavity t_readCores t_p_readCore t_readCore t_readStages t_p_readStage t_readStage t_p_readRule t_readRule t_value t_ends t_screw]) → va_S A s.heap H locs → lv_has ls 6 [(0, .ref t_p), (1, .int v1), (2, .int v2), (3, .int v3), (4, .int v4)] → W p l e ({ frames := 0, cells := 0, slots := 0, locals := 0 }) s m ([.ref t_p, .int l1] : List Value).toArray below meth c H locs 0 0 (MQ below (pQi g (fun r => r = res) (fl [wk6 g t_p t_length t_p_text t_text t_cavities t_p_volume t_volume t_p_freeze t_freeze t_cores t_p_earlier t_earlier t_stages t_p_place t_place t_p_now t_now t_p_was t_was t_changes t_p_one t_one t_readCavities t_p_readCavity t_readCavity t_readCores t_p_readCore t_readCore t_readStages t_p_readStage t_readStage t_p_readRule t_readRule t_value t_ends t_screw]) A) ([.ref t_p, .int l1] : List Value).toArray s 0 0 A) (F0 m 25 ls [])) → ∀ (v1 : Int32) (v2 : Int32) (v4 : Int32) (v5 : Int32)  (H : Heap) (locs : List Loc) (ls : Array Slot), f6_order_76 k_25 N v1 v2 v4 v5 t_earlier = some res → va_P g.1 vwCl (fl [wk6 g t_p t_length t_p_text t_text t_cavities t_p_volume t_volume t_p_freeze t_freeze t_cores t_p_earlier t_earlier t_stages t_p_place t_place t_p_now t_now t_p_was t_was t_changes t_p_one t_one t_readCavities t_p_readCavity t_readCavity t_readCores t_p_readCore t_readCore t_readStages t_p_readStage t_readStage t_p_readRule t_readRule t_value t_ends t_screw]) H → va_D A (fl [wk6 g t_p t_length t_p_text t_text t_cavities t_p_volume t_volume t_p_freeze t_freeze t_cores t_p_earlier t_earlier t_stages t_p_place t_place t_p_now t_now t_p_was t_was t_changes t_p_one t_one t_readCavities t_p_readCavity t_readCavity t_readCores t_p_readCore t_readCore t_readStages t_p_readStage t_readStage t_p_readRule t_readRule t_value t_ends t_screw]) → va_S A s.heap H locs → lv_has ls 6 [(0, .ref t_p), (1, .int v1), (2, .int v2), (4, .int v4), (5, .int v5)] → W p l e ({ frames := 0, cells := 0, slots := 0, locals := 0 }) s m ([.ref t_p, .int l1] : List Value).toArray below meth c H locs 0 0 (MQ below (pQi g (fun r => r = res) (fl [wk6 g t_p t_length t_p_text t_text t_cavities t_p_volume t_volume t_p_freeze t_freeze t_cores t_p_earlier t_earlier t_stages t_p_place t_place t_p_now t_now t_p_was t_was t_changes t_p_one t_one t_readCavities t_p_readCavity t_readCavity t_readCores t_p_readCore t_readCore t_readStages t_p_readStage t_readStage t_p_readRule t_readRule t_value t_ends t_screw]) A) ([.ref t_p, .int l1] : List Value).toArray s 0 0 A) (F0 m 76 ls []) := by
    intro k_25 hk_25 v1 v2 v4 v5 H locs ls hf hP hD hS hl
    rw [f6_order_76] at hf
    refine lv_iload_n hx hb dX6_order_76 rfl (lv_at hl 2 rfl) ?_
    refine lv_iconst (v := 1) hx hb dX6_order_77 (by decide) ?_
    refine lv_iload hx hb dX6_order_78 (lv_at hl 4 rfl) ?_
    refine lv_ishl hx hb dX6_order_80 ?_
    refine lv_ior hx hb dX6_order_81 ?_
    refine lv_istore_n (lv' := [(2, .int (v2 ||| (1 <<< (v5 &&& 31)))), (0, .ref t_p), (1, .int v1), (4, .int v4), (5, .int v5)]) hx hb dX6_order_82 rfl hl (by decide) rfl (fun ls hl => ?_)
    refine lv_iload hx hb dX6_order_83 (lv_at hl 4 rfl) ?_
    refine lv_istore_n (lv' := [(3, .int v5), (2, .int (v2 ||| (1 <<< (v5 &&& 31)))), (0, .ref t_p), (1, .int v1), (4, .int v4), (5, .int v5)]) hx hb dX6_order_85 rfl hl (by decide) rfl (fun ls hl => ?_)
    refine lv_iinc (v := v4 + 1) (lv' := [(4, .int (v4 + 1)), (3, .int v5), (2, .int (v2 ||| (1 <<< (v5 &&& 31)))), (0, .ref t_p), (1, .int v1), (5, .int v5)]) hx hb dX6_order_86 hl (k := 4) rfl rfl (by decide) rfl (fun ls hl => ?_)
    refine lv_goto (tgt := 25) hx hb dX6_order_89 (by decide) ?_
    exact hk_25 v1 (v2 ||| (1 <<< (v5 &&& 31))) v5 (v4 + 1) H locs ls hf hP hD hS (lv_sub hl [3, 4, 2, 1, 0] rfl)
  have w_34 : ∀ (k_25 : Int32 → Int32 → Int32 → Int32 → (Nat → Int32) → Option (Int32)), (∀ (v1 : Int32) (v2 : Int32) (v3 : Int32) (v4 : Int32)  (H : Heap) (locs : List Loc) (ls : Array Slot), k_25 v1 v2 v3 v4 t_earlier = some res → va_P g.1 vwCl (fl [wk6 g t_p t_length t_p_text t_text t_cavities t_p_volume t_volume t_p_freeze t_freeze t_cores t_p_earlier t_earlier t_stages t_p_place t_place t_p_now t_now t_p_was t_was t_changes t_p_one t_one t_readCavities t_p_readCavity t_readCavity t_readCores t_p_readCore t_readCore t_readStages t_p_readStage t_readStage t_p_readRule t_readRule t_value t_ends t_screw]) H → va_D A (fl [wk6 g t_p t_length t_p_text t_text t_cavities t_p_volume t_volume t_p_freeze t_freeze t_cores t_p_earlier t_earlier t_stages t_p_place t_place t_p_now t_now t_p_was t_was t_changes t_p_one t_one t_readCavities t_p_readCavity t_readCavity t_readCores t_p_readCore t_readCore t_readStages t_p_readStage t_readStage t_p_readRule t_readRule t_value t_ends t_screw]) → va_S A s.heap H locs → lv_has ls 6 [(0, .ref t_p), (1, .int v1), (2, .int v2), (3, .int v3), (4, .int v4)] → W p l e ({ frames := 0, cells := 0, slots := 0, locals := 0 }) s m ([.ref t_p, .int l1] : List Value).toArray below meth c H locs 0 0 (MQ below (pQi g (fun r => r = res) (fl [wk6 g t_p t_length t_p_text t_text t_cavities t_p_volume t_volume t_p_freeze t_freeze t_cores t_p_earlier t_earlier t_stages t_p_place t_place t_p_now t_now t_p_was t_was t_changes t_p_one t_one t_readCavities t_p_readCavity t_readCavity t_readCores t_p_readCore t_readCore t_readStages t_p_readStage t_readStage t_p_readRule t_readRule t_value t_ends t_screw]) A) ([.ref t_p, .int l1] : List Value).toArray s 0 0 A) (F0 m 25 ls [])) → ∀ n : Nat, ∀ (v1 : Int32) (v2 : Int32) (v4 : Int32) (v5 : Int32)  (H : Heap) (locs : List Loc) (ls : Array Slot), f6_order_34 k_25 N n v1 v2 v4 v5 t_earlier = some res → va_P g.1 vwCl (fl [wk6 g t_p t_length t_p_text t_text t_cavities t_p_volume t_volume t_p_freeze t_freeze t_cores t_p_earlier t_earlier t_stages t_p_place t_place t_p_now t_now t_p_was t_was t_changes t_p_one t_one t_readCavities t_p_readCavity t_readCavity t_readCores t_p_readCore t_readCore t_readStages t_p_readStage t_readStage t_p_readRule t_readRule t_value t_ends t_screw]) H → va_D A (fl [wk6 g t_p t_length t_p_text t_text t_cavities t_p_volume t_volume t_p_freeze t_freeze t_cores t_p_earlier t_earlier t_stages t_p_place t_place t_p_now t_now t_p_was t_was t_changes t_p_one t_one t_readCavities t_p_readCavity t_readCavity t_readCores t_p_readCore t_readCore t_readStages t_p_readStage t_readStage t_p_readRule t_readRule t_value t_ends t_screw]) → va_S A s.heap H locs → lv_has ls 6 [(0, .ref t_p), (1, .int v1), (2, .int v2), (4, .int v4), (5, .int v5)] → W p l e ({ frames := 0, cells := 0, slots := 0, locals := 0 }) s m ([.ref t_p, .int l1] : List Value).toArray below meth c H locs 0 0 (MQ below (pQi g (fun r => r = res) (fl [wk6 g t_p t_length t_p_text t_text t_cavities t_p_volume t_volume t_p_freeze t_freeze t_cores t_p_earlier t_earlier t_stages t_p_place t_place t_p_now t_now t_p_was t_was t_changes t_p_one t_one t_readCavities t_p_readCavity t_readCavity t_readCores t_p_readCore t_readCore t_readStages t_p_readStage t_readStage t_p_readRule t_readRule t_value t_ends t_screw]) A) ([.ref t_p, .int l1] : List Value).toArray s 0 0 A) (F0 m 34 ls []) := by
    intro k_25 hk_25 n
    induction n with
    | zero => intro v1 v2 v4 v5 H locs ls hf; exact no_some hf
    | succ n ih =>
      intro v1 v2 v4 v5 H locs ls hf hP hD hS hl
      rw [f6_order_34] at hf
      refine lv_iload_n hx hb dX6_order_34 rfl (lv_at hl 2 rfl) ?_
      refine lv_iload hx hb dX6_order_35 (lv_at hl 4 rfl) ?_
      refine lv_ishr hx hb dX6_order_37 ?_
      refine lv_iconst (v := 1) hx hb dX6_order_38 (by decide) ?_
      refine lv_iand hx hb dX6_order_39 ?_
      refine lv_iconst (v := 1) hx hb dX6_order_40 (by decide) ?_
      refine lv_icmp_eq (tgt := 70) hx hb dX6_order_41 (by decide) (fun c_4 => ?_) (fun c_4 => ?_)
      · replace hf := (if_pos c_4).symm.trans hf
        refine lv_iinc (v := v5 + 1) (lv' := [(5, .int (v5 + 1)), (0, .ref t_p), (1, .int v1), (2, .int v2), (4, .int v4)]) hx hb dX6_order_70 hl (k := 4) rfl rfl (by decide) rfl (fun ls hl => ?_)
        refine lv_goto (tgt := 34) hx hb dX6_order_73 (by decide) ?_
        exact ih v1 v2 v4 (v5 + 1) H locs ls hf hP hD hS (lv_sub hl [1, 2, 3, 4, 0] rfl)
      · replace hf := (if_neg c_4).symm.trans hf
        refine lv_aload_n hx hb dX6_order_44 rfl (lv_at hl 0 rfl) ?_
        refine va_get (D := g.1) (ci := 6) (v := .ref t_p_earlier) (C := RX6) (T := TX6) (N := 23) hx hb hts hin6 hown hK.1 hP 0 rfl rfl 6 (by decide) L2 (fun _ h9 => h9) rfl dX6_order_45 ?_
        refine lv_iload hx hb dX6_order_48 (lv_at hl 4 rfl) ?_
        obtain ⟨h_5, hf⟩ := if_some hf
        refine va_iald hx hb hK.1 hP 4 0 rfl rfl (ok_in h_5) dX6_order_50 ?_
        refine lv_bipush (v := (-4)) hx hb dX6_order_51 (by decide) ?_
        refine lv_icmp_eq (tgt := 76) hx hb dX6_order_53 (by decide) (fun c_6 => ?_) (fun c_6 => ?_)
        · replace hf := (if_pos c_6).symm.trans hf
          exact w_76 k_25 hk_25 v1 v2 v4 v5 H locs ls hf hP hD hS (lv_sub hl [0, 1, 2, 3, 4] rfl)
        · replace hf := (if_neg c_6).symm.trans hf
          refine lv_iload_n hx hb dX6_order_56 rfl (lv_at hl 2 rfl) ?_
          refine lv_aload_n hx hb dX6_order_57 rfl (lv_at hl 0 rfl) ?_
          refine va_get (D := g.1) (ci := 6) (v := .ref t_p_earlier) (C := RX6) (T := TX6) (N := 23) hx hb hts hin6 hown hK.1 hP 0 rfl rfl 6 (by decide) L2 (fun _ h9 => h9) rfl dX6_order_58 ?_
          refine lv_iload hx hb dX6_order_61 (lv_at hl 4 rfl) ?_
          obtain ⟨h_7, hf⟩ := if_some hf
          refine va_iald hx hb hK.1 hP 4 0 rfl rfl (ok_in h_7) dX6_order_63 ?_
          refine lv_ishr hx hb dX6_order_64 ?_
          refine lv_iconst (v := 1) hx hb dX6_order_65 (by decide) ?_
          refine lv_iand hx hb dX6_order_66 ?_
          refine lv_if_ne (tgt := 76) hx hb dX6_order_67 (by decide) (fun c_8 => ?_) (fun c_8 => ?_)
          · replace hf := (if_neg c_8).symm.trans hf
            exact w_76 k_25 hk_25 v1 v2 v4 v5 H locs ls hf hP hD hS (lv_sub hl [0, 1, 2, 3, 4] rfl)
          · replace hf := (if_pos c_8).symm.trans hf
            refine lv_iinc (v := v5 + 1) (lv' := [(5, .int (v5 + 1)), (0, .ref t_p), (1, .int v1), (2, .int v2), (4, .int v4)]) hx hb dX6_order_70 hl (k := 4) rfl rfl (by decide) rfl (fun ls hl => ?_)
            refine lv_goto (tgt := 34) hx hb dX6_order_73 (by decide) ?_
            exact ih v1 v2 v4 (v5 + 1) H locs ls hf hP hD hS (lv_sub hl [1, 2, 3, 4, 0] rfl)
  have w_25 : ∀ n : Nat, ∀ (v1 : Int32) (v2 : Int32) (v3 : Int32) (v4 : Int32)  (H : Heap) (locs : List Loc) (ls : Array Slot), f6_order_25  N n v1 v2 v3 v4 t_earlier = some res → va_P g.1 vwCl (fl [wk6 g t_p t_length t_p_text t_text t_cavities t_p_volume t_volume t_p_freeze t_freeze t_cores t_p_earlier t_earlier t_stages t_p_place t_place t_p_now t_now t_p_was t_was t_changes t_p_one t_one t_readCavities t_p_readCavity t_readCavity t_readCores t_p_readCore t_readCore t_readStages t_p_readStage t_readStage t_p_readRule t_readRule t_value t_ends t_screw]) H → va_D A (fl [wk6 g t_p t_length t_p_text t_text t_cavities t_p_volume t_volume t_p_freeze t_freeze t_cores t_p_earlier t_earlier t_stages t_p_place t_place t_p_now t_now t_p_was t_was t_changes t_p_one t_one t_readCavities t_p_readCavity t_readCavity t_readCores t_p_readCore t_readCore t_readStages t_p_readStage t_readStage t_p_readRule t_readRule t_value t_ends t_screw]) → va_S A s.heap H locs → lv_has ls 6 [(0, .ref t_p), (1, .int v1), (2, .int v2), (3, .int v3), (4, .int v4)] → W p l e ({ frames := 0, cells := 0, slots := 0, locals := 0 }) s m ([.ref t_p, .int l1] : List Value).toArray below meth c H locs 0 0 (MQ below (pQi g (fun r => r = res) (fl [wk6 g t_p t_length t_p_text t_text t_cavities t_p_volume t_volume t_p_freeze t_freeze t_cores t_p_earlier t_earlier t_stages t_p_place t_place t_p_now t_now t_p_was t_was t_changes t_p_one t_one t_readCavities t_p_readCavity t_readCavity t_readCores t_p_readCore t_readCore t_readStages t_p_readStage t_readStage t_p_readRule t_readRule t_value t_ends t_screw]) A) ([.ref t_p, .int l1] : List Value).toArray s 0 0 A) (F0 m 25 ls []) := by
    intro  n
    induction n with
    | zero => intro v1 v2 v3 v4 H locs ls hf; exact no_some hf
    | succ n ih =>
      intro v1 v2 v3 v4 H locs ls hf hP hD hS hl
      rw [f6_order_25] at hf
      refine lv_iload hx hb dX6_order_25 (lv_at hl 4 rfl) ?_
      refine lv_iload_n hx hb dX6_order_27 rfl (lv_at hl 1 rfl) ?_
      refine lv_icmp_gt (tgt := 92) hx hb dX6_order_28 (by decide) (fun c_3 => ?_) (fun c_3 => ?_)
      · replace hf := (if_pos c_3).symm.trans hf
        refine lv_iload_n hx hb dX6_order_92 rfl (lv_at hl 3 rfl) ?_
        replace hf := Option.some.inj hf
        subst hf
        exact W.iret (v := v3) hx hb hr (fun t ht hW => ⟨⟨_, (), rfl, rfl, by show va_P g.1 vwCl _ t.heap; rw [ht]; exact hP⟩, hS.F ht⟩) hS.2.2 dX6_order_93 hlocks
      · replace hf := (if_neg c_3).symm.trans hf
        refine lv_iconst (v := 0) hx hb dX6_order_31 (by decide) ?_
        refine lv_istore (lv' := [(5, .int 0), (0, .ref t_p), (1, .int v1), (2, .int v2), (3, .int v3), (4, .int v4)]) hx hb dX6_order_32 hl (by decide) rfl (fun ls hl => ?_)
        exact w_34 (fun a0 a1 a2 a3 a4 => f6_order_25 N n a0 a1 a2 a3 a4) ih N v1 v2 v4 0 H locs ls hf hP hD hS (lv_sub hl [1, 2, 3, 5, 0] rfl)
  have hl := lv_entry ([.ref t_p, .int l1]) (n := 6) (Nat.le_of_ble_eq_true rfl)
  rw [lg_entry_eq]
  generalize (lg_sl ([.ref t_p, .int l1]) ++ List.replicate (6 - (lg_sl ([.ref t_p, .int l1])).length) Slot.unset).toArray = ls at hl ⊢
  replace hl : lv_has ls 6 [(0, .ref t_p), (1, .int l1)] := hl
  rw [f6_order] at hf
  have hgo : ∀ (H : Heap) (locs : List Loc), H = s.heap → locs = [] → va_P g.1 vwCl (fl [wk6 g t_p t_length t_p_text t_text t_cavities t_p_volume t_volume t_p_freeze t_freeze t_cores t_p_earlier t_earlier t_stages t_p_place t_place t_p_now t_now t_p_was t_was t_changes t_p_one t_one t_readCavities t_p_readCavity t_readCavity t_readCores t_p_readCore t_readCore t_readStages t_p_readStage t_readStage t_p_readRule t_readRule t_value t_ends t_screw]) H → va_S A s.heap H locs → W p l e ({ frames := 0, cells := 0, slots := 0, locals := 0 }) s m ([.ref t_p, .int l1] : List Value).toArray below meth c H locs 0 0 (MQ below (pQi g (fun r => r = res) (fl [wk6 g t_p t_length t_p_text t_text t_cavities t_p_volume t_volume t_p_freeze t_freeze t_cores t_p_earlier t_earlier t_stages t_p_place t_place t_p_now t_now t_p_was t_was t_changes t_p_one t_one t_readCavities t_p_readCavity t_readCavity t_readCores t_p_readCore t_readCore t_readStages t_p_readStage t_readStage t_p_readRule t_readRule t_value t_ends t_screw]) A) ([.ref t_p, .int l1] : List Value).toArray s 0 0 A) (F0 m 0 ls []) := by
    intro H locs hH hL hP hS
    refine lv_iload_n hx hb dX6_order_0 rfl (lv_at hl 1 rfl) ?_
    refine lv_if_ge (tgt := 6) hx hb dX6_order_1 (by decide) (fun c_1 => ?_) (fun c_1 => ?_)
    · replace hf := (if_pos c_1).symm.trans hf
      refine lv_iload_n hx hb dX6_order_6 rfl (lv_at hl 1 rfl) ?_
      refine lv_aload_n hx hb dX6_order_7 rfl (lv_at hl 0 rfl) ?_
      refine va_get (D := g.1) (ci := 6) (v := .int t_cores) (C := RX6) (T := TX6) (N := 23) hx hb hts hin6 hown hK.1 hP 0 rfl rfl 5 (by decide) L1 (fun _ h9 => h9) rfl dX6_order_8 ?_
      refine lv_icmp_lt (tgt := 17) hx hb dX6_order_11 (by decide) (fun c_2 => ?_) (fun c_2 => ?_)
      · replace hf := (if_pos c_2).symm.trans hf
        refine lv_iconst (v := 0) hx hb dX6_order_17 (by decide) ?_
        refine lv_istore_n (lv' := [(2, .int 0), (0, .ref t_p), (1, .int l1)]) hx hb dX6_order_18 rfl hl (by decide) rfl (fun ls hl => ?_)
        refine lv_bipush (v := (-4)) hx hb dX6_order_19 (by decide) ?_
        refine lv_istore_n (lv' := [(3, .int (-4)), (2, .int 0), (0, .ref t_p), (1, .int l1)]) hx hb dX6_order_21 rfl hl (by decide) rfl (fun ls hl => ?_)
        refine lv_iconst (v := 0) hx hb dX6_order_22 (by decide) ?_
        refine lv_istore (lv' := [(4, .int 0), (3, .int (-4)), (2, .int 0), (0, .ref t_p), (1, .int l1)]) hx hb dX6_order_23 hl (by decide) rfl (fun ls hl => ?_)
        exact w_25  N l1 0 (-4) 0 H locs ls hf hP hD hS (lv_sub hl [3, 4, 2, 1, 0] rfl)
      · replace hf := (if_neg c_2).symm.trans hf
        refine lv_bipush (v := (-4)) hx hb dX6_order_14 (by decide) ?_
        replace hf := Option.some.inj hf
        subst hf
        exact W.iret (v := (-4)) hx hb hr (fun t ht hW => ⟨⟨_, (), rfl, rfl, by show va_P g.1 vwCl _ t.heap; rw [ht]; exact hP⟩, hS.F ht⟩) hS.2.2 dX6_order_16 hlocks
    · replace hf := (if_neg c_1).symm.trans hf
      refine lv_iconst (v := (-1)) hx hb dX6_order_4 (by decide) ?_
      replace hf := Option.some.inj hf
      subst hf
      exact W.iret (v := (-1)) hx hb hr (fun t ht hW => ⟨⟨_, (), rfl, rfl, by show va_P g.1 vwCl _ t.heap; rw [ht]; exact hP⟩, hS.F ht⟩) hS.2.2 dX6_order_5 hlocks
  exact hgo s.heap [] rfl rfl hP hS

set_option maxHeartbeats 4000000 in
set_option maxRecDepth 100000 in
theorem c6_count (l : Launch) (g : gG) (t_p : Nat) (t_length : Int32) (t_p_text : Nat) (t_text : (Nat → Int32)) (t_cavities : Int32) (t_p_volume : Nat) (t_volume : (Nat → Int32)) (t_p_freeze : Nat) (t_freeze : (Nat → Int32)) (t_cores : Int32) (t_p_earlier : Nat) (t_earlier : (Nat → Int32)) (t_stages : Int32) (t_p_place : Nat) (t_place : (Nat → Int32)) (t_p_now : Nat) (t_now : (Nat → Int32)) (t_p_was : Nat) (t_was : (Nat → Int32)) (t_changes : Int32) (t_p_one : Nat) (t_one : (Nat → Int32)) (t_readCavities : Int32) (t_p_readCavity : Nat) (t_readCavity : (Nat → Int32)) (t_readCores : Int32) (t_p_readCore : Nat) (t_readCore : (Nat → Int32)) (t_readStages : Int32) (t_p_readStage : Nat) (t_readStage : (Nat → Int32)) (t_p_readRule : Nat) (t_readRule : (Nat → Int32)) (t_value : Int32) (t_ends : Int32) (t_screw : Int32) (l1 : Int32) (sz : Nat) (N : Nat) (res : (Int32)) (hf : f6_count N l1 t_length t_cavities t_volume t_cores t_stages t_now t_changes = some res) : Met l yX6_count wsX6_count ({ frames := 2, cells := 0, slots := 0, locals := 47 }) (pP g [.ref t_p, .int l1] sz (fl [wk6 g t_p t_length t_p_text t_text t_cavities t_p_volume t_volume t_p_freeze t_freeze t_cores t_p_earlier t_earlier t_stages t_p_place t_place t_p_now t_now t_p_was t_was t_changes t_p_one t_one t_readCavities t_p_readCavity t_readCavity t_readCores t_p_readCore t_readCore t_readStages t_p_readStage t_readStage t_p_readRule t_readRule t_value t_ends t_screw])) (pQi g (fun r => r = res) (fl [wk6 g t_p t_length t_p_text t_text t_cavities t_p_volume t_volume t_p_freeze t_freeze t_cores t_p_earlier t_earlier t_stages t_p_place t_place t_p_now t_now t_p_was t_was t_changes t_p_one t_one t_readCavities t_p_readCavity t_readCavity t_readCores t_p_readCore t_readCore t_readStages t_p_readStage t_readStage t_p_readRule t_readRule t_value t_ends t_screw]) (va_A (fl [wk6 g t_p t_length t_p_text t_text t_cavities t_p_volume t_volume t_p_freeze t_freeze t_cores t_p_earlier t_earlier t_stages t_p_place t_place t_p_now t_now t_p_was t_was t_changes t_p_one t_one t_readCavities t_p_readCavity t_readCavity t_readCores t_p_readCore t_readCore t_readStages t_p_readStage t_readStage t_p_readRule t_readRule t_value t_ends t_screw]) sz)) 0 0 (va_A (fl [wk6 g t_p t_length t_p_text t_text t_cavities t_p_volume t_volume t_p_freeze t_freeze t_cores t_p_earlier t_earlier t_stages t_p_place t_place t_p_now t_now t_p_was t_was t_changes t_p_one t_one t_readCavities t_p_readCavity t_readCavity t_readCores t_p_readCore t_readCore t_readStages t_p_readStage t_readStage t_p_readRule t_readRule t_value t_ends t_screw]) sz) := by
  refine Met.ofW (cc := cX6_count) (maxL := 4) (ret := (some .int)) (by decide) rfl ?_
  intro p e s m args below meth c s₁ B hml hv
  obtain ⟨rfl, hsz, hP, hK, hD0, hG⟩ := hv
  have hx := B.exec
  have hb := B.bytes
  have hr := B.returns
  have hts := atoms_spec (ws := wsX6_count) B.pre
  have hown : s.vm.findClass RX6 = some m.cls := findClass_of_methodNamed B.named
  have hlocks := B.notSynchronized
  subst hsz
  have hD := hD0.self (sz := s.heap.size)
  generalize hAe : va_A (fl [wk6 g t_p t_length t_p_text t_text t_cavities t_p_volume t_volume t_p_freeze t_freeze t_cores t_p_earlier t_earlier t_stages t_p_place t_place t_p_now t_now t_p_was t_was t_changes t_p_one t_one t_readCavities t_p_readCavity t_readCavity t_readCores t_p_readCore t_readCore t_readStages t_p_readStage t_readStage t_p_readRule t_readRule t_value t_ends t_screw]) s.heap.size = A at hD hG ⊢
  have hA : ∀ q : Nat, s.heap.size ≤ q → A q := fun q h => by rw [← hAe]; exact Or.inr h
  have hS : va_S A s.heap s.heap [] := va_S.rf
  have hin6 : ∀ w ∈ u_ws RX6 TX6 23, w ∈ wsX6_count := by decide +kernel
  have L1 := hts (Cond.fieldLink RX6 70 "MouldShotsModel" "cavities" "I") (by decide +kernel)
  have L2 := hts (Cond.fieldLink RX6 73 "MouldShotsModel" "cores" "I") (by decide +kernel)
  have L3 := hts (Cond.fieldLink RX6 76 "MouldShotsModel" "stages" "I") (by decide +kernel)
  have L4 := hts (Cond.fieldLink RX6 25 "MouldShotsModel" "now" "[I") (by decide +kernel)
  have L5 := hts (Cond.fieldLink RX6 79 "MouldShotsModel" "changes" "I") (by decide +kernel)
  have L6 := hts (Cond.fieldLink RX6 82 "MouldShotsModel" "length" "I") (by decide +kernel)
  have w_161 : ∀ n : Nat, ∀ (v2 : Int32) (v3 : Int32)  (H : Heap) (locs : List Loc) (ls : Array Slot), f6_count_161  N n v2 v3 t_cavities t_volume t_now = some res → va_P g.1 vwCl (fl [wk6 g t_p t_length t_p_text t_text t_cavities t_p_volume t_volume t_p_freeze t_freeze t_cores t_p_earlier t_earlier t_stages t_p_place t_place t_p_now t_now t_p_was t_was t_changes t_p_one t_one t_readCavities t_p_readCavity t_readCavity t_readCores t_p_readCore t_readCore t_readStages t_p_readStage t_readStage t_p_readRule t_readRule t_value t_ends t_screw]) H → va_D A (fl [wk6 g t_p t_length t_p_text t_text t_cavities t_p_volume t_volume t_p_freeze t_freeze t_cores t_p_earlier t_earlier t_stages t_p_place t_place t_p_now t_now t_p_was t_was t_changes t_p_one t_one t_readCavities t_p_readCavity t_readCavity t_readCores t_p_readCore t_readCore t_readStages t_p_readStage t_readStage t_p_readRule t_readRule t_value t_ends t_screw]) → va_S A s.heap H locs → lv_has ls 4 [(0, .ref t_p), (2, .int v2), (3, .int v3)] → W p l e ({ frames := 2, cells := 0, slots := 0, locals := 47 }) s m ([.ref t_p, .int l1] : List Value).toArray below meth c H locs 0 0 (MQ below (pQi g (fun r => r = res) (fl [wk6 g t_p t_length t_p_text t_text t_cavities t_p_volume t_volume t_p_freeze t_freeze t_cores t_p_earlier t_earlier t_stages t_p_place t_place t_p_now t_now t_p_was t_was t_changes t_p_one t_one t_readCavities t_p_readCavity t_readCavity t_readCores t_p_readCore t_readCore t_readStages t_p_readStage t_readStage t_p_readRule t_readRule t_value t_ends t_screw]) A) ([.ref t_p, .int l1] : List Value).toArray s 0 0 A) (F0 m 161 ls []) := by
    intro  n
    induction n with
    | zero => intro v2 v3 H locs ls hf; exact no_some hf
    | succ n ih =>
      intro v2 v3 H locs ls hf hP hD hS hl
      rw [f6_count_161] at hf
      refine lv_iload_n hx hb dX6_count_161 rfl (lv_at hl 2 rfl) ?_
      refine lv_aload_n hx hb dX6_count_162 rfl (lv_at hl 0 rfl) ?_
      refine va_get (D := g.1) (ci := 6) (v := .ref t_p_now) (C := RX6) (T := TX6) (N := 23) hx hb hts hin6 hown hK.1 hP 0 rfl rfl 9 (by decide) L4 (fun _ h9 => h9) rfl dX6_count_163 ?_
      refine lv_sipush (v := 1008) hx hb dX6_count_166 (by decide) ?_
      obtain ⟨h_29, hf⟩ := if_some hf
      refine va_iald hx hb hK.1 hP 6 0 rfl rfl (ok_in h_29) dX6_count_169 ?_
      refine lv_icmp_ge (tgt := 195) hx hb dX6_count_170 (by decide) (fun c_30 => ?_) (fun c_30 => ?_)
      · replace hf := (if_pos c_30).symm.trans hf
        refine lv_iload_n hx hb dX6_count_195 rfl (lv_at hl 1 rfl) ?_
        replace hf := Option.some.inj hf
        subst hf
        exact W.iret (v := v2) hx hb hr (fun t ht hW => ⟨⟨_, (), rfl, rfl, by show va_P g.1 vwCl _ t.heap; rw [ht]; exact hP⟩, hS.F ht⟩) hS.2.2 dX6_count_196 hlocks
      · replace hf := (if_neg c_30).symm.trans hf
        refine lv_iload_n hx hb dX6_count_173 rfl (lv_at hl 1 rfl) ?_
        refine lv_aload_n hx hb dX6_count_174 rfl (lv_at hl 0 rfl) ?_
        refine lv_iload_n hx hb dX6_count_175 rfl (lv_at hl 2 rfl) ?_
        obtain ⟨q_31, hq_31, hf⟩ := bd_some hf
        refine bft_i (bn := [wk6 g t_p t_length t_p_text t_text t_cavities t_p_volume t_volume t_p_freeze t_freeze t_cores t_p_earlier t_earlier t_stages t_p_place t_place t_p_now t_now t_p_was t_was t_changes t_p_one t_one t_readCavities t_p_readCavity t_readCavity t_readCores t_p_readCore t_readCore t_readStages t_p_readStage t_readStage t_p_readRule t_readRule t_value t_ends t_screw]) (L := [[t_p, t_p_text, t_p_volume, t_p_freeze, t_p_earlier, t_p_place, t_p_now, t_p_was, t_p_one, t_p_readCavity, t_p_readCore, t_p_readStage, t_p_readRule]]) (va_runV (As := [.int v3]) (rest := [.int v2]) ⟨hx, hb, hml, hown, hts⟩ (c6_isBad l g t_p t_length t_p_text t_text t_cavities t_p_volume t_volume t_p_freeze t_freeze t_cores t_p_earlier t_earlier t_stages t_p_place t_place t_p_now t_now t_p_was t_was t_changes t_p_one t_one t_readCavities t_p_readCavity t_readCavity t_readCores t_p_readCore t_readCore t_readStages t_p_readStage t_readStage t_p_readRule t_readRule t_value t_ends t_screw v3 H.size N q_31 hq_31) (cwV 1 hts gX6_count_X6_isBad rfl rfl rfl ⟨rfl, nh6.1, nh6.2, pd_1⟩ ⟨Nat.le_of_ble_eq_true rfl, Nat.le_of_ble_eq_true rfl⟩) (qPV hK hG hP hD hS hA [0] (by decide) rfl (va_recv hK.1 hP (ci := 6) (q0 := 0) rfl rfl)) rfl rfl hl.1 rfl (lv_room (Nat.le_of_ble_eq_true rfl)) dX6_count_176 ⟨Nat.zero_le _, Nat.zero_le _⟩) hP hD hS hA [0] rfl rfl rfl rfl (fun r_32 H locs hw hP hD hS => ?_)
        replace hw := hw.symm
        subst hw
        refine lv_if_eq (tgt := 186) hx hb dX6_count_179 (by decide) (fun c_33 => ?_) (fun c_33 => ?_)
        · replace hf := (if_pos c_33).symm.trans hf
          refine lv_iconst (v := 0) hx hb dX6_count_186 (by decide) ?_
          refine lv_iadd hx hb dX6_count_187 ?_
          refine lv_istore_n (lv' := [(2, .int (v2 + 0)), (0, .ref t_p), (3, .int v3)]) hx hb dX6_count_188 rfl hl (by decide) rfl (fun ls hl => ?_)
          refine lv_iinc (v := v3 + 1) (lv' := [(3, .int (v3 + 1)), (2, .int (v2 + 0)), (0, .ref t_p)]) hx hb dX6_count_189 hl (k := 2) rfl rfl (by decide) rfl (fun ls hl => ?_)
          refine lv_goto (tgt := 161) hx hb dX6_count_192 (by decide) ?_
          exact ih (v2 + 0) (v3 + 1) H locs ls hf hP hD hS (lv_sub hl [2, 1, 0] rfl)
        · replace hf := (if_neg c_33).symm.trans hf
          refine lv_iconst (v := 1) hx hb dX6_count_182 (by decide) ?_
          refine lv_goto (tgt := 187) hx hb dX6_count_183 (by decide) ?_
          refine lv_iadd hx hb dX6_count_187 ?_
          refine lv_istore_n (lv' := [(2, .int (v2 + 1)), (0, .ref t_p), (3, .int v3)]) hx hb dX6_count_188 rfl hl (by decide) rfl (fun ls hl => ?_)
          refine lv_iinc (v := v3 + 1) (lv' := [(3, .int (v3 + 1)), (2, .int (v2 + 1)), (0, .ref t_p)]) hx hb dX6_count_189 hl (k := 2) rfl rfl (by decide) rfl (fun ls hl => ?_)
          refine lv_goto (tgt := 161) hx hb dX6_count_192 (by decide) ?_
          exact ih (v2 + 1) (v3 + 1) H locs ls hf hP hD hS (lv_sub hl [2, 1, 0] rfl)
  have hl := lv_entry ([.ref t_p, .int l1]) (n := 4) (Nat.le_of_ble_eq_true rfl)
  rw [lg_entry_eq]
  generalize (lg_sl ([.ref t_p, .int l1]) ++ List.replicate (4 - (lg_sl ([.ref t_p, .int l1])).length) Slot.unset).toArray = ls at hl ⊢
  replace hl : lv_has ls 4 [(0, .ref t_p), (1, .int l1)] := hl
  rw [f6_count] at hf
  have hgo : ∀ (H : Heap) (locs : List Loc), H = s.heap → locs = [] → va_P g.1 vwCl (fl [wk6 g t_p t_length t_p_text t_text t_cavities t_p_volume t_volume t_p_freeze t_freeze t_cores t_p_earlier t_earlier t_stages t_p_place t_place t_p_now t_now t_p_was t_was t_changes t_p_one t_one t_readCavities t_p_readCavity t_readCavity t_readCores t_p_readCore t_readCore t_readStages t_p_readStage t_readStage t_p_readRule t_readRule t_value t_ends t_screw]) H → va_S A s.heap H locs → W p l e ({ frames := 2, cells := 0, slots := 0, locals := 47 }) s m ([.ref t_p, .int l1] : List Value).toArray below meth c H locs 0 0 (MQ below (pQi g (fun r => r = res) (fl [wk6 g t_p t_length t_p_text t_text t_cavities t_p_volume t_volume t_p_freeze t_freeze t_cores t_p_earlier t_earlier t_stages t_p_place t_place t_p_now t_now t_p_was t_was t_changes t_p_one t_one t_readCavities t_p_readCavity t_readCavity t_readCores t_p_readCore t_readCore t_readStages t_p_readStage t_readStage t_p_readRule t_readRule t_value t_ends t_screw]) A) ([.ref t_p, .int l1] : List Value).toArray s 0 0 A) (F0 m 0 ls []) := by
    intro H locs hH hL hP hS
    refine lv_iload_n hx hb dX6_count_0 rfl (lv_at hl 1 rfl) ?_
    by_cases c_1 : l1 = 0
    · replace hf := (if_pos c_1).symm.trans hf
      refine lv_tableIn (tgt := 76) hx hb dX6_count_1 (by rw [c_1]; decide) (by rw [c_1]; decide) (by rw [c_1]; rfl) (by decide) ?_
      refine lv_aload_n hx hb dX6_count_76 rfl (lv_at hl 0 rfl) ?_
      refine va_get (D := g.1) (ci := 6) (v := .int t_cavities) (C := RX6) (T := TX6) (N := 23) hx hb hts hin6 hown hK.1 hP 0 rfl rfl 2 (by decide) L1 (fun _ h9 => h9) rfl dX6_count_77 ?_
      replace hf := Option.some.inj hf
      subst hf
      exact W.iret (v := t_cavities) hx hb hr (fun t ht hW => ⟨⟨_, (), rfl, rfl, by show va_P g.1 vwCl _ t.heap; rw [ht]; exact hP⟩, hS.F ht⟩) hS.2.2 dX6_count_80 hlocks
    · replace hf := (if_neg c_1).symm.trans hf
      by_cases c_2 : l1 = 1
      · replace hf := (if_pos c_2).symm.trans hf
        refine lv_tableIn (tgt := 81) hx hb dX6_count_1 (by rw [c_2]; decide) (by rw [c_2]; decide) (by rw [c_2]; rfl) (by decide) ?_
        refine lv_aload_n hx hb dX6_count_81 rfl (lv_at hl 0 rfl) ?_
        refine va_get (D := g.1) (ci := 6) (v := .int t_cores) (C := RX6) (T := TX6) (N := 23) hx hb hts hin6 hown hK.1 hP 0 rfl rfl 5 (by decide) L2 (fun _ h9 => h9) rfl dX6_count_82 ?_
        replace hf := Option.some.inj hf
        subst hf
        exact W.iret (v := t_cores) hx hb hr (fun t ht hW => ⟨⟨_, (), rfl, rfl, by show va_P g.1 vwCl _ t.heap; rw [ht]; exact hP⟩, hS.F ht⟩) hS.2.2 dX6_count_85 hlocks
      · replace hf := (if_neg c_2).symm.trans hf
        by_cases c_3 : l1 = 2
        · replace hf := (if_pos c_3).symm.trans hf
          refine lv_tableIn (tgt := 86) hx hb dX6_count_1 (by rw [c_3]; decide) (by rw [c_3]; decide) (by rw [c_3]; rfl) (by decide) ?_
          refine lv_aload_n hx hb dX6_count_86 rfl (lv_at hl 0 rfl) ?_
          refine va_get (D := g.1) (ci := 6) (v := .int t_stages) (C := RX6) (T := TX6) (N := 23) hx hb hts hin6 hown hK.1 hP 0 rfl rfl 7 (by decide) L3 (fun _ h9 => h9) rfl dX6_count_87 ?_
          replace hf := Option.some.inj hf
          subst hf
          exact W.iret (v := t_stages) hx hb hr (fun t ht hW => ⟨⟨_, (), rfl, rfl, by show va_P g.1 vwCl _ t.heap; rw [ht]; exact hP⟩, hS.F ht⟩) hS.2.2 dX6_count_90 hlocks
        · replace hf := (if_neg c_3).symm.trans hf
          by_cases c_4 : l1 = 3
          · replace hf := (if_pos c_4).symm.trans hf
            refine lv_tableIn (tgt := 91) hx hb dX6_count_1 (by rw [c_4]; decide) (by rw [c_4]; decide) (by rw [c_4]; rfl) (by decide) ?_
            refine lv_aload_n hx hb dX6_count_91 rfl (lv_at hl 0 rfl) ?_
            refine va_get (D := g.1) (ci := 6) (v := .ref t_p_now) (C := RX6) (T := TX6) (N := 23) hx hb hts hin6 hown hK.1 hP 0 rfl rfl 9 (by decide) L4 (fun _ h9 => h9) rfl dX6_count_92 ?_
            refine lv_sipush (v := 1010) hx hb dX6_count_95 (by decide) ?_
            obtain ⟨h_5, hf⟩ := if_some hf
            refine va_iald hx hb hK.1 hP 6 0 rfl rfl (ok_in h_5) dX6_count_98 ?_
            replace hf := Option.some.inj hf
            subst hf
            exact W.iret (v := t_now (Int32.toNatClampNeg 1010)) hx hb hr (fun t ht hW => ⟨⟨_, (), rfl, rfl, by show va_P g.1 vwCl _ t.heap; rw [ht]; exact hP⟩, hS.F ht⟩) hS.2.2 dX6_count_99 hlocks
          · replace hf := (if_neg c_4).symm.trans hf
            by_cases c_6 : l1 = 4
            · replace hf := (if_pos c_6).symm.trans hf
              refine lv_tableIn (tgt := 100) hx hb dX6_count_1 (by rw [c_6]; decide) (by rw [c_6]; decide) (by rw [c_6]; rfl) (by decide) ?_
              refine lv_aload_n hx hb dX6_count_100 rfl (lv_at hl 0 rfl) ?_
              refine va_get (D := g.1) (ci := 6) (v := .ref t_p_now) (C := RX6) (T := TX6) (N := 23) hx hb hts hin6 hown hK.1 hP 0 rfl rfl 9 (by decide) L4 (fun _ h9 => h9) rfl dX6_count_101 ?_
              refine lv_sipush (v := 1011) hx hb dX6_count_104 (by decide) ?_
              obtain ⟨h_7, hf⟩ := if_some hf
              refine va_iald hx hb hK.1 hP 6 0 rfl rfl (ok_in h_7) dX6_count_107 ?_
              obtain ⟨q_8, hq_8, hf⟩ := bd_some hf
              refine aft_i (wn := (fl [wk6 g t_p t_length t_p_text t_text t_cavities t_p_volume t_volume t_p_freeze t_freeze t_cores t_p_earlier t_earlier t_stages t_p_place t_place t_p_now t_now t_p_was t_was t_changes t_p_one t_one t_readCavities t_p_readCavity t_readCavity t_readCores t_p_readCore t_readCore t_readStages t_p_readStage t_readStage t_p_readRule t_readRule t_value t_ends t_screw])) (va_runS (As := [.int (t_now (Int32.toNatClampNeg 1011))]) (rest := []) ⟨hx, hb, hml, hown, hts⟩ (c6_bits l g (t_now (Int32.toNatClampNeg 1011)) H.size N q_8 hq_8) (va_cwS 1 hts gX6_count_X6_bits rfl rfl rfl ⟨nh6.1, nh6.2, pd_2⟩ ⟨Nat.le_of_ble_eq_true rfl, Nat.le_of_ble_eq_true rfl⟩) (pPS hK hG hP hD hS hA [] (by decide) rfl) rfl rfl hl.1 rfl (lv_room (Nat.le_of_ble_eq_true rfl)) dX6_count_108 ⟨Nat.zero_le _, Nat.zero_le _⟩) hP hD hS hA [] rfl rfl rfl (fun r_9 H locs hw hP hD hS => ?_)
              replace hw := hw.symm
              subst hw
              replace hf := Option.some.inj hf
              subst hf
              exact W.iret (v := q_8) hx hb hr (fun t ht hW => ⟨⟨_, (), rfl, rfl, by show va_P g.1 vwCl _ t.heap; rw [ht]; exact hP⟩, hS.F ht⟩) hS.2.2 dX6_count_111 hlocks
            · replace hf := (if_neg c_6).symm.trans hf
              by_cases c_10 : l1 = 5
              · replace hf := (if_pos c_10).symm.trans hf
                refine lv_tableIn (tgt := 112) hx hb dX6_count_1 (by rw [c_10]; decide) (by rw [c_10]; decide) (by rw [c_10]; rfl) (by decide) ?_
                refine lv_aload_n hx hb dX6_count_112 rfl (lv_at hl 0 rfl) ?_
                refine va_get (D := g.1) (ci := 6) (v := .ref t_p_now) (C := RX6) (T := TX6) (N := 23) hx hb hts hin6 hown hK.1 hP 0 rfl rfl 9 (by decide) L4 (fun _ h9 => h9) rfl dX6_count_113 ?_
                refine lv_sipush (v := 1012) hx hb dX6_count_116 (by decide) ?_
                obtain ⟨h_11, hf⟩ := if_some hf
                refine va_iald hx hb hK.1 hP 6 0 rfl rfl (ok_in h_11) dX6_count_119 ?_
                replace hf := Option.some.inj hf
                subst hf
                exact W.iret (v := t_now (Int32.toNatClampNeg 1012)) hx hb hr (fun t ht hW => ⟨⟨_, (), rfl, rfl, by show va_P g.1 vwCl _ t.heap; rw [ht]; exact hP⟩, hS.F ht⟩) hS.2.2 dX6_count_120 hlocks
              · replace hf := (if_neg c_10).symm.trans hf
                by_cases c_12 : l1 = 6
                · replace hf := (if_pos c_12).symm.trans hf
                  refine lv_tableIn (tgt := 121) hx hb dX6_count_1 (by rw [c_12]; decide) (by rw [c_12]; decide) (by rw [c_12]; rfl) (by decide) ?_
                  refine lv_aload_n hx hb dX6_count_121 rfl (lv_at hl 0 rfl) ?_
                  refine va_get (D := g.1) (ci := 6) (v := .ref t_p_now) (C := RX6) (T := TX6) (N := 23) hx hb hts hin6 hown hK.1 hP 0 rfl rfl 9 (by decide) L4 (fun _ h9 => h9) rfl dX6_count_122 ?_
                  refine lv_sipush (v := 1008) hx hb dX6_count_125 (by decide) ?_
                  obtain ⟨h_13, hf⟩ := if_some hf
                  refine va_iald hx hb hK.1 hP 6 0 rfl rfl (ok_in h_13) dX6_count_128 ?_
                  replace hf := Option.some.inj hf
                  subst hf
                  exact W.iret (v := t_now (Int32.toNatClampNeg 1008)) hx hb hr (fun t ht hW => ⟨⟨_, (), rfl, rfl, by show va_P g.1 vwCl _ t.heap; rw [ht]; exact hP⟩, hS.F ht⟩) hS.2.2 dX6_count_129 hlocks
                · replace hf := (if_neg c_12).symm.trans hf
                  by_cases c_14 : l1 = 7
                  · replace hf := (if_pos c_14).symm.trans hf
                    refine lv_tableIn (tgt := 130) hx hb dX6_count_1 (by rw [c_14]; decide) (by rw [c_14]; decide) (by rw [c_14]; rfl) (by decide) ?_
                    refine lv_aload_n hx hb dX6_count_130 rfl (lv_at hl 0 rfl) ?_
                    refine va_get (D := g.1) (ci := 6) (v := .ref t_p_now) (C := RX6) (T := TX6) (N := 23) hx hb hts hin6 hown hK.1 hP 0 rfl rfl 9 (by decide) L4 (fun _ h9 => h9) rfl dX6_count_131 ?_
                    refine lv_sipush (v := 1009) hx hb dX6_count_134 (by decide) ?_
                    obtain ⟨h_15, hf⟩ := if_some hf
                    refine va_iald hx hb hK.1 hP 6 0 rfl rfl (ok_in h_15) dX6_count_137 ?_
                    replace hf := Option.some.inj hf
                    subst hf
                    exact W.iret (v := t_now (Int32.toNatClampNeg 1009)) hx hb hr (fun t ht hW => ⟨⟨_, (), rfl, rfl, by show va_P g.1 vwCl _ t.heap; rw [ht]; exact hP⟩, hS.F ht⟩) hS.2.2 dX6_count_138 hlocks
                  · replace hf := (if_neg c_14).symm.trans hf
                    by_cases c_16 : l1 = 8
                    · replace hf := (if_pos c_16).symm.trans hf
                      refine lv_tableIn (tgt := 139) hx hb dX6_count_1 (by rw [c_16]; decide) (by rw [c_16]; decide) (by rw [c_16]; rfl) (by decide) ?_
                      refine lv_aload_n hx hb dX6_count_139 rfl (lv_at hl 0 rfl) ?_
                      refine va_get (D := g.1) (ci := 6) (v := .ref t_p_now) (C := RX6) (T := TX6) (N := 23) hx hb hts hin6 hown hK.1 hP 0 rfl rfl 9 (by decide) L4 (fun _ h9 => h9) rfl dX6_count_140 ?_
                      refine lv_sipush (v := 1015) hx hb dX6_count_143 (by decide) ?_
                      obtain ⟨h_17, hf⟩ := if_some hf
                      refine va_iald hx hb hK.1 hP 6 0 rfl rfl (ok_in h_17) dX6_count_146 ?_
                      replace hf := Option.some.inj hf
                      subst hf
                      exact W.iret (v := t_now (Int32.toNatClampNeg 1015)) hx hb hr (fun t ht hW => ⟨⟨_, (), rfl, rfl, by show va_P g.1 vwCl _ t.heap; rw [ht]; exact hP⟩, hS.F ht⟩) hS.2.2 dX6_count_147 hlocks
                    · replace hf := (if_neg c_16).symm.trans hf
                      by_cases c_18 : l1 = 9
                      · replace hf := (if_pos c_18).symm.trans hf
                        refine lv_tableIn (tgt := 148) hx hb dX6_count_1 (by rw [c_18]; decide) (by rw [c_18]; decide) (by rw [c_18]; rfl) (by decide) ?_
                        refine lv_aload_n hx hb dX6_count_148 rfl (lv_at hl 0 rfl) ?_
                        refine va_get (D := g.1) (ci := 6) (v := .ref t_p_now) (C := RX6) (T := TX6) (N := 23) hx hb hts hin6 hown hK.1 hP 0 rfl rfl 9 (by decide) L4 (fun _ h9 => h9) rfl dX6_count_149 ?_
                        refine lv_sipush (v := 1018) hx hb dX6_count_152 (by decide) ?_
                        obtain ⟨h_19, hf⟩ := if_some hf
                        refine va_iald hx hb hK.1 hP 6 0 rfl rfl (ok_in h_19) dX6_count_155 ?_
                        replace hf := Option.some.inj hf
                        subst hf
                        exact W.iret (v := t_now (Int32.toNatClampNeg 1018)) hx hb hr (fun t ht hW => ⟨⟨_, (), rfl, rfl, by show va_P g.1 vwCl _ t.heap; rw [ht]; exact hP⟩, hS.F ht⟩) hS.2.2 dX6_count_156 hlocks
                      · replace hf := (if_neg c_18).symm.trans hf
                        by_cases c_20 : l1 = 10
                        · replace hf := (if_pos c_20).symm.trans hf
                          refine lv_tableIn (tgt := 157) hx hb dX6_count_1 (by rw [c_20]; decide) (by rw [c_20]; decide) (by rw [c_20]; rfl) (by decide) ?_
                          refine lv_iconst (v := 0) hx hb dX6_count_157 (by decide) ?_
                          refine lv_istore_n (lv' := [(2, .int 0), (0, .ref t_p), (1, .int l1)]) hx hb dX6_count_158 rfl hl (by decide) rfl (fun ls hl => ?_)
                          refine lv_iconst (v := 0) hx hb dX6_count_159 (by decide) ?_
                          refine lv_istore_n (lv' := [(3, .int 0), (2, .int 0), (0, .ref t_p), (1, .int l1)]) hx hb dX6_count_160 rfl hl (by decide) rfl (fun ls hl => ?_)
                          exact w_161  N 0 0 H locs ls hf hP hD hS (lv_sub hl [2, 1, 0] rfl)
                        · replace hf := (if_neg c_20).symm.trans hf
                          by_cases c_21 : l1 = 11
                          · replace hf := (if_pos c_21).symm.trans hf
                            refine lv_tableIn (tgt := 197) hx hb dX6_count_1 (by rw [c_21]; decide) (by rw [c_21]; decide) (by rw [c_21]; rfl) (by decide) ?_
                            refine lv_aload_n hx hb dX6_count_197 rfl (lv_at hl 0 rfl) ?_
                            obtain ⟨q_22, hq_22, hf⟩ := bd_some hf
                            refine bft_i (bn := [wk6 g t_p t_length t_p_text t_text t_cavities t_p_volume t_volume t_p_freeze t_freeze t_cores t_p_earlier t_earlier t_stages t_p_place t_place t_p_now t_now t_p_was t_was t_changes t_p_one t_one t_readCavities t_p_readCavity t_readCavity t_readCores t_p_readCore t_readCore t_readStages t_p_readStage t_readStage t_p_readRule t_readRule t_value t_ends t_screw]) (L := [[t_p, t_p_text, t_p_volume, t_p_freeze, t_p_earlier, t_p_place, t_p_now, t_p_was, t_p_one, t_p_readCavity, t_p_readCore, t_p_readStage, t_p_readRule]]) (va_runV (As := []) (rest := []) ⟨hx, hb, hml, hown, hts⟩ (c6_isReady l g t_p t_length t_p_text t_text t_cavities t_p_volume t_volume t_p_freeze t_freeze t_cores t_p_earlier t_earlier t_stages t_p_place t_place t_p_now t_now t_p_was t_was t_changes t_p_one t_one t_readCavities t_p_readCavity t_readCavity t_readCores t_p_readCore t_readCore t_readStages t_p_readStage t_readStage t_p_readRule t_readRule t_value t_ends t_screw H.size N q_22 hq_22) (cwV 0 hts gX6_count_X6_isReady rfl rfl rfl ⟨rfl, nh6.1, nh6.2, pd_21⟩ ⟨Nat.le_of_ble_eq_true rfl, Nat.le_of_ble_eq_true rfl⟩) (qPV hK hG hP hD hS hA [0] (by decide) rfl (va_recv hK.1 hP (ci := 6) (q0 := 0) rfl rfl)) rfl rfl hl.1 rfl (lv_room (Nat.le_of_ble_eq_true rfl)) dX6_count_198 ⟨Nat.zero_le _, Nat.zero_le _⟩) hP hD hS hA [0] rfl rfl rfl rfl (fun r_23 H locs hw hP hD hS => ?_)
                            replace hw := hw.symm
                            subst hw
                            refine lv_if_eq (tgt := 208) hx hb dX6_count_201 (by decide) (fun c_24 => ?_) (fun c_24 => ?_)
                            · replace hf := (if_pos c_24).symm.trans hf
                              refine lv_iconst (v := 0) hx hb dX6_count_208 (by decide) ?_
                              replace hf := Option.some.inj hf
                              subst hf
                              exact W.iret (v := 0) hx hb hr (fun t ht hW => ⟨⟨_, (), rfl, rfl, by show va_P g.1 vwCl _ t.heap; rw [ht]; exact hP⟩, hS.F ht⟩) hS.2.2 dX6_count_209 hlocks
                            · replace hf := (if_neg c_24).symm.trans hf
                              refine lv_iconst (v := 1) hx hb dX6_count_204 (by decide) ?_
                              refine lv_goto (tgt := 209) hx hb dX6_count_205 (by decide) ?_
                              replace hf := Option.some.inj hf
                              subst hf
                              exact W.iret (v := 1) hx hb hr (fun t ht hW => ⟨⟨_, (), rfl, rfl, by show va_P g.1 vwCl _ t.heap; rw [ht]; exact hP⟩, hS.F ht⟩) hS.2.2 dX6_count_209 hlocks
                          · replace hf := (if_neg c_21).symm.trans hf
                            by_cases c_25 : l1 = 12
                            · replace hf := (if_pos c_25).symm.trans hf
                              refine lv_tableIn (tgt := 210) hx hb dX6_count_1 (by rw [c_25]; decide) (by rw [c_25]; decide) (by rw [c_25]; rfl) (by decide) ?_
                              refine lv_aload_n hx hb dX6_count_210 rfl (lv_at hl 0 rfl) ?_
                              refine va_get (D := g.1) (ci := 6) (v := .int t_changes) (C := RX6) (T := TX6) (N := 23) hx hb hts hin6 hown hK.1 hP 0 rfl rfl 11 (by decide) L5 (fun _ h9 => h9) rfl dX6_count_211 ?_
                              replace hf := Option.some.inj hf
                              subst hf
                              exact W.iret (v := t_changes) hx hb hr (fun t ht hW => ⟨⟨_, (), rfl, rfl, by show va_P g.1 vwCl _ t.heap; rw [ht]; exact hP⟩, hS.F ht⟩) hS.2.2 dX6_count_214 hlocks
                            · replace hf := (if_neg c_25).symm.trans hf
                              by_cases c_26 : l1 = 13
                              · replace hf := (if_pos c_26).symm.trans hf
                                refine lv_tableIn (tgt := 215) hx hb dX6_count_1 (by rw [c_26]; decide) (by rw [c_26]; decide) (by rw [c_26]; rfl) (by decide) ?_
                                refine lv_aload_n hx hb dX6_count_215 rfl (lv_at hl 0 rfl) ?_
                                refine va_get (D := g.1) (ci := 6) (v := .int t_length) (C := RX6) (T := TX6) (N := 23) hx hb hts hin6 hown hK.1 hP 0 rfl rfl 0 (by decide) L6 (fun _ h9 => h9) rfl dX6_count_216 ?_
                                replace hf := Option.some.inj hf
                                subst hf
                                exact W.iret (v := t_length) hx hb hr (fun t ht hW => ⟨⟨_, (), rfl, rfl, by show va_P g.1 vwCl _ t.heap; rw [ht]; exact hP⟩, hS.F ht⟩) hS.2.2 dX6_count_219 hlocks
                              · replace hf := (if_neg c_26).symm.trans hf
                                by_cases c_27 : l1 = 14
                                · replace hf := (if_pos c_27).symm.trans hf
                                  refine lv_tableIn (tgt := 220) hx hb dX6_count_1 (by rw [c_27]; decide) (by rw [c_27]; decide) (by rw [c_27]; rfl) (by decide) ?_
                                  refine lv_aload_n hx hb dX6_count_220 rfl (lv_at hl 0 rfl) ?_
                                  refine va_get (D := g.1) (ci := 6) (v := .ref t_p_now) (C := RX6) (T := TX6) (N := 23) hx hb hts hin6 hown hK.1 hP 0 rfl rfl 9 (by decide) L4 (fun _ h9 => h9) rfl dX6_count_221 ?_
                                  refine lv_sipush (v := 1013) hx hb dX6_count_224 (by decide) ?_
                                  obtain ⟨h_28, hf⟩ := if_some hf
                                  refine va_iald hx hb hK.1 hP 6 0 rfl rfl (ok_in h_28) dX6_count_227 ?_
                                  replace hf := Option.some.inj hf
                                  subst hf
                                  exact W.iret (v := t_now (Int32.toNatClampNeg 1013)) hx hb hr (fun t ht hW => ⟨⟨_, (), rfl, rfl, by show va_P g.1 vwCl _ t.heap; rw [ht]; exact hP⟩, hS.F ht⟩) hS.2.2 dX6_count_228 hlocks
                                · replace hf := (if_neg c_27).symm.trans hf
                                  refine lv_tableOut (tgt := 229) hx hb dX6_count_1 (tab_out15 c_1 c_2 c_3 c_4 c_6 c_10 c_12 c_14 c_16 c_18 c_20 c_21 c_25 c_26 c_27) (by decide) ?_
                                  refine lv_iconst (v := (-1)) hx hb dX6_count_229 (by decide) ?_
                                  replace hf := Option.some.inj hf
                                  subst hf
                                  exact W.iret (v := (-1)) hx hb hr (fun t ht hW => ⟨⟨_, (), rfl, rfl, by show va_P g.1 vwCl _ t.heap; rw [ht]; exact hP⟩, hS.F ht⟩) hS.2.2 dX6_count_230 hlocks
  exact hgo s.heap [] rfl rfl hP hS
