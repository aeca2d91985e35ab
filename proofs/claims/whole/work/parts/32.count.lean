set_option maxHeartbeats 4000000 in
set_option maxRecDepth 100000 in
theorem c5_badShots (l : Launch) (g : gG) (t_p : Nat) (t_p_text : Nat) (t_p_plan : Nat) (t_p_draft : Nat) (t_p_states : Nat) (t_sa : (Nat → Nat)) (t_at : Int32) (t_undoable : Int32) (t_p_shots : Nat) (t_ha : (Nat → Nat)) (t_p_trial : Nat) (n_cavities : Int32) (n_p_volumes : Nat) (n_volumes : (Nat → Int32)) (n_p_drags : Nat) (n_drags : (Nat → Int32)) (n_p_freezes : Nat) (n_freezes : (Nat → Int32)) (n_cores : Int32) (n_p_ahead : Nat) (n_ahead : (Nat → Int32)) (n_stages : Int32) (n_p_places : Nat) (n_places : (Nat → Int32)) (n_p_speeds : Nat) (n_speeds : (Nat → Int32)) (n_p_settings : Nat) (n_settings : (Nat → Int32)) (s_p_drags : Nat) (s_drags : (Nat → Int32)) (s_p_speeds : Nat) (s_speeds : (Nat → Int32)) (s_p_settings : Nat) (s_settings : (Nat → Int32)) (s_shut : Int32) (s_coresIn : Int32) (s_loaded : Int32) (s_hot : Int32) (s_made : Int32) (s_width : Int32) (s_p_taught : Nat) (sB_teachers : Int32) (sB_shortest : Int32) (sB_longest : Int32) (sB_p_least : Nat) (sB_least : (Nat → Int32)) (sB_p_greatest : Nat) (sB_greatest : (Nat → Int32)) (h_q : (Nat → Nat → Nat)) (h_v : (Nat → tO)) (sz : Nat) (N : Nat) (res : (Int32)) (hf : f5_badShots N n_cavities n_volumes s_made s_width sB_teachers sB_shortest sB_longest sB_least sB_greatest h_v = some res) : Met l yX5_badShots wsX5_badShots ({ frames := 3, cells := 0, slots := 0, locals := 68 }) (pP g [.ref t_p] sz (fl ([wk5 g t_p t_p_text t_p_plan t_p_draft t_p_states (fun i => some (t_sa i)) t_at t_undoable (t_sa (Int32.toNatClampNeg t_at)) t_p_shots (fun i => some (t_ha i)) t_p_trial, wk1 g t_p_plan n_cavities n_p_volumes n_volumes n_p_drags n_drags n_p_freezes n_freezes n_cores n_p_ahead n_ahead n_stages n_p_places n_places n_p_speeds n_speeds n_p_settings n_settings, wk3 g (t_sa (Int32.toNatClampNeg t_at)) s_p_drags s_drags s_p_speeds s_speeds s_p_settings s_settings s_shut s_coresIn s_loaded s_hot s_made s_width s_p_taught, wk0 g s_p_taught sB_teachers sB_shortest sB_longest sB_p_least sB_least sB_p_greatest sB_greatest] ++ famH g t_ha h_q h_v))) (pQi g (fun r => r = res) (fl ([wk5 g t_p t_p_text t_p_plan t_p_draft t_p_states (fun i => some (t_sa i)) t_at t_undoable (t_sa (Int32.toNatClampNeg t_at)) t_p_shots (fun i => some (t_ha i)) t_p_trial, wk1 g t_p_plan n_cavities n_p_volumes n_volumes n_p_drags n_drags n_p_freezes n_freezes n_cores n_p_ahead n_ahead n_stages n_p_places n_places n_p_speeds n_speeds n_p_settings n_settings, wk3 g (t_sa (Int32.toNatClampNeg t_at)) s_p_drags s_drags s_p_speeds s_speeds s_p_settings s_settings s_shut s_coresIn s_loaded s_hot s_made s_width s_p_taught, wk0 g s_p_taught sB_teachers sB_shortest sB_longest sB_p_least sB_least sB_p_greatest sB_greatest] ++ famH g t_ha h_q h_v)) (va_A (fl ([wk5 g t_p t_p_text t_p_plan t_p_draft t_p_states (fun i => some (t_sa i)) t_at t_undoable (t_sa (Int32.toNatClampNeg t_at)) t_p_shots (fun i => some (t_ha i)) t_p_trial, wk1 g t_p_plan n_cavities n_p_volumes n_volumes n_p_drags n_drags n_p_freezes n_freezes n_cores n_p_ahead n_ahead n_stages n_p_places n_places n_p_speeds n_speeds n_p_settings n_settings, wk3 g (t_sa (Int32.toNatClampNeg t_at)) s_p_drags s_drags s_p_speeds s_speeds s_p_settings s_settings s_shut s_coresIn s_loaded s_hot s_made s_width s_p_taught, wk0 g s_p_taught sB_teachers sB_shortest sB_longest sB_p_least sB_least sB_p_greatest sB_greatest] ++ famH g t_ha h_q h_v)) sz)) 0 0 (va_A (fl ([wk5 g t_p t_p_text t_p_plan t_p_draft t_p_states (fun i => some (t_sa i)) t_at t_undoable (t_sa (Int32.toNatClampNeg t_at)) t_p_shots (fun i => some (t_ha i)) t_p_trial, wk1 g t_p_plan n_cavities n_p_volumes n_volumes n_p_drags n_drags n_p_freezes n_freezes n_cores n_p_ahead n_ahead n_stages n_p_places n_places n_p_speeds n_speeds n_p_settings n_settings, wk3 g (t_sa (Int32.toNatClampNeg t_at)) s_p_drags s_drags s_p_speeds s_speeds s_p_settings s_settings s_shut s_coresIn s_loaded s_hot s_made s_width s_p_taught, wk0 g s_p_taught sB_teachers sB_shortest sB_longest sB_p_least sB_least sB_p_greatest sB_greatest] ++ famH g t_ha h_q h_v)) sz) := by
  refine Met.ofW (cc := cX5_badShots) (maxL := 3) (ret := (some .int)) (by decide) rfl ?_
  intro p e s m args below meth c s₁ B hml hv
  obtain ⟨rfl, hsz, hP, hK, hD0, hG⟩ := hv
  have hx := B.exec
  have hb := B.bytes
  have hr := B.returns
  have hts := atoms_spec (ws := wsX5_badShots) B.pre
  have hown : s.vm.findClass RX5 = some m.cls := findClass_of_methodNamed B.named
  have hlocks := B.notSynchronized
  subst hsz
  have hD := hD0.self (sz := s.heap.size)
  generalize hAe : va_A (fl ([wk5 g t_p t_p_text t_p_plan t_p_draft t_p_states (fun i => some (t_sa i)) t_at t_undoable (t_sa (Int32.toNatClampNeg t_at)) t_p_shots (fun i => some (t_ha i)) t_p_trial, wk1 g t_p_plan n_cavities n_p_volumes n_volumes n_p_drags n_drags n_p_freezes n_freezes n_cores n_p_ahead n_ahead n_stages n_p_places n_places n_p_speeds n_speeds n_p_settings n_settings, wk3 g (t_sa (Int32.toNatClampNeg t_at)) s_p_drags s_drags s_p_speeds s_speeds s_p_settings s_settings s_shut s_coresIn s_loaded s_hot s_made s_width s_p_taught, wk0 g s_p_taught sB_teachers sB_shortest sB_longest sB_p_least sB_least sB_p_greatest sB_greatest] ++ famH g t_ha h_q h_v)) s.heap.size = A at hD hG ⊢
  have hA : ∀ q : Nat, s.heap.size ≤ q → A q := fun q h => by rw [← hAe]; exact Or.inr h
  have hS : va_S A s.heap s.heap [] := va_S.rf
  have w_4 : ∀ n : Nat, ∀ (v1 : Int32) (v2 : Int32)  (H : Heap) (locs : List Loc) (ls : Array Slot), f5_badShots_4  N n v1 v2 n_cavities n_volumes s_made s_width sB_teachers sB_shortest sB_longest sB_least sB_greatest h_v = some res → va_P g.1 vwCl (fl ([wk5 g t_p t_p_text t_p_plan t_p_draft t_p_states (fun i => some (t_sa i)) t_at t_undoable (t_sa (Int32.toNatClampNeg t_at)) t_p_shots (fun i => some (t_ha i)) t_p_trial, wk1 g t_p_plan n_cavities n_p_volumes n_volumes n_p_drags n_drags n_p_freezes n_freezes n_cores n_p_ahead n_ahead n_stages n_p_places n_places n_p_speeds n_speeds n_p_settings n_settings, wk3 g (t_sa (Int32.toNatClampNeg t_at)) s_p_drags s_drags s_p_speeds s_speeds s_p_settings s_settings s_shut s_coresIn s_loaded s_hot s_made s_width s_p_taught, wk0 g s_p_taught sB_teachers sB_shortest sB_longest sB_p_least sB_least sB_p_greatest sB_greatest] ++ famH g t_ha h_q h_v)) H → va_D A (fl ([wk5 g t_p t_p_text t_p_plan t_p_draft t_p_states (fun i => some (t_sa i)) t_at t_undoable (t_sa (Int32.toNatClampNeg t_at)) t_p_shots (fun i => some (t_ha i)) t_p_trial, wk1 g t_p_plan n_cavities n_p_volumes n_volumes n_p_drags n_drags n_p_freezes n_freezes n_cores n_p_ahead n_ahead n_stages n_p_places n_places n_p_speeds n_speeds n_p_settings n_settings, wk3 g (t_sa (Int32.toNatClampNeg t_at)) s_p_drags s_drags s_p_speeds s_speeds s_p_settings s_settings s_shut s_coresIn s_loaded s_hot s_made s_width s_p_taught, wk0 g s_p_taught sB_teachers sB_shortest sB_longest sB_p_least sB_least sB_p_greatest sB_greatest] ++ famH g t_ha h_q h_v)) → va_S A s.heap H locs → lv_has ls 3 [(0, .ref t_p), (1, .int v1), (2, .int v2)] → W p l e ({ frames := 3, cells := 0, slots := 0, locals := 68 }) s m ([.ref t_p] : List Value).toArray below meth c H locs 0 0 (MQ below (pQi g (fun r => r = res) (fl ([wk5 g t_p t_p_text t_p_plan t_p_draft t_p_states (fun i => some (t_sa i)) t_at t_undoable (t_sa (Int32.toNatClampNeg t_at)) t_p_shots (fun i => some (t_ha i)) t_p_trial, wk1 g t_p_plan n_cavities n_p_volumes n_volumes n_p_drags n_drags n_p_freezes n_freezes n_cores n_p_ahead n_ahead n_stages n_p_places n_places n_p_speeds n_speeds n_p_settings n_settings, wk3 g (t_sa (Int32.toNatClampNeg t_at)) s_p_drags s_drags s_p_speeds s_speeds s_p_settings s_settings s_shut s_coresIn s_loaded s_hot s_made s_width s_p_taught, wk0 g s_p_taught sB_teachers sB_shortest sB_longest sB_p_least sB_least sB_p_greatest sB_greatest] ++ famH g t_ha h_q h_v)) A) ([.ref t_p] : List Value).toArray s 0 0 A) (F0 m 4 ls []) := by
    intro  n
    induction n with
    | zero => intro v1 v2 H locs ls hf; exact no_some hf
    | succ n ih =>
      intro v1 v2 H locs ls hf hP hD hS hl
      rw [f5_badShots_4] at hf
      refine lv_iload_n hx hb dX5_badShots_4 rfl (lv_at hl 2 rfl) ?_
      refine lv_aload_n hx hb dX5_badShots_5 rfl (lv_at hl 0 rfl) ?_
      obtain ⟨q_1, hq_1, hf⟩ := bd_some hf
      refine bft_i (bn := ([wk5 g t_p t_p_text t_p_plan t_p_draft t_p_states (fun i => some (t_sa i)) t_at t_undoable (t_sa (Int32.toNatClampNeg t_at)) t_p_shots (fun i => some (t_ha i)) t_p_trial, wk1 g t_p_plan n_cavities n_p_volumes n_volumes n_p_drags n_drags n_p_freezes n_freezes n_cores n_p_ahead n_ahead n_stages n_p_places n_places n_p_speeds n_speeds n_p_settings n_settings, wk3 g (t_sa (Int32.toNatClampNeg t_at)) s_p_drags s_drags s_p_speeds s_speeds s_p_settings s_settings s_shut s_coresIn s_loaded s_hot s_made s_width s_p_taught, wk0 g s_p_taught sB_teachers sB_shortest sB_longest sB_p_least sB_least sB_p_greatest sB_greatest] ++ famH g t_ha h_q h_v)) (L := [[t_p, t_p_states, t_p_shots], [(t_sa (Int32.toNatClampNeg t_at)), s_p_drags, s_p_speeds, s_p_settings]]) (va_runV (As := []) (rest := [.int v2]) ⟨hx, hb, hml, hown, hts⟩ (c5_keptShots l g t_p t_p_text t_p_plan t_p_draft t_p_states t_sa t_at t_undoable t_p_shots t_ha t_p_trial s_p_drags s_drags s_p_speeds s_speeds s_p_settings s_settings s_shut s_coresIn s_loaded s_hot s_made s_width s_p_taught H.size N q_1 hq_1) (cwV 0 hts gX5_badShots_X5_keptShots rfl rfl rfl ⟨rfl, nh5.1, nh5.2, pd_12⟩ ⟨Nat.le_of_ble_eq_true rfl, Nat.le_of_ble_eq_true rfl⟩) (qPV hK hG hP hD hS hA [0, 2] (by decide) rfl (va_recv hK.1 hP (ci := 5) (q0 := 0) rfl rfl)) rfl rfl hl.1 rfl (lv_room (Nat.le_of_ble_eq_true rfl)) dX5_badShots_6 ⟨Nat.zero_le _, Nat.zero_le _⟩) hP hD hS hA [0, 2] rfl rfl rfl rfl (fun r_2 H locs hw hP hD hS => ?_)
      replace hw := hw.symm
      subst hw
      refine lv_icmp_ge (tgt := 33) hx hb dX5_badShots_9 (by decide) (fun c_3 => ?_) (fun c_3 => ?_)
      · replace hf := (if_pos c_3).symm.trans hf
        refine lv_iload_n hx hb dX5_badShots_33 rfl (lv_at hl 1 rfl) ?_
        replace hf := Option.some.inj hf
        subst hf
        exact W.iret (v := v1) hx hb hr (fun t ht hW => ⟨⟨_, (), rfl, rfl, by show va_P g.1 vwCl _ t.heap; rw [ht]; exact hP⟩, hS.F ht⟩) hS.2.2 dX5_badShots_34 hlocks
      · replace hf := (if_neg c_3).symm.trans hf
        refine lv_aload_n hx hb dX5_badShots_12 rfl (lv_at hl 0 rfl) ?_
        refine lv_aload_n hx hb dX5_badShots_13 rfl (lv_at hl 0 rfl) ?_
        refine lv_iload_n hx hb dX5_badShots_14 rfl (lv_at hl 2 rfl) ?_
        obtain ⟨q_4, hq_4, hf⟩ := bd_some hf
        refine bft_r (bn := ([wk5 g t_p t_p_text t_p_plan t_p_draft t_p_states (fun i => some (t_sa i)) t_at t_undoable (t_sa (Int32.toNatClampNeg t_at)) t_p_shots (fun i => some (t_ha i)) t_p_trial, wk1 g t_p_plan n_cavities n_p_volumes n_volumes n_p_drags n_drags n_p_freezes n_freezes n_cores n_p_ahead n_ahead n_stages n_p_places n_places n_p_speeds n_speeds n_p_settings n_settings, wk3 g (t_sa (Int32.toNatClampNeg t_at)) s_p_drags s_drags s_p_speeds s_speeds s_p_settings s_settings s_shut s_coresIn s_loaded s_hot s_made s_width s_p_taught, wk0 g s_p_taught sB_teachers sB_shortest sB_longest sB_p_least sB_least sB_p_greatest sB_greatest] ++ famH g t_ha h_q h_v)) (L := [[t_p, t_p_states, t_p_shots], [(t_sa (Int32.toNatClampNeg t_at)), s_p_drags, s_p_speeds, s_p_settings]]) (va_runV (As := [.int v2]) (rest := [.ref t_p]) ⟨hx, hb, hml, hown, hts⟩ (c5_keptShot l g t_p t_p_text t_p_plan t_p_draft t_p_states t_sa t_at t_undoable t_p_shots t_ha t_p_trial s_p_drags s_drags s_p_speeds s_speeds s_p_settings s_settings s_shut s_coresIn s_loaded s_hot s_made s_width s_p_taught v2 H.size N q_4 hq_4) (cwV 1 hts gX5_badShots_X5_keptShot rfl rfl rfl ⟨rfl, nh5.1, nh5.2, pd_23⟩ ⟨Nat.le_of_ble_eq_true rfl, Nat.le_of_ble_eq_true rfl⟩) (qPV hK hG hP hD hS hA [0, 2] (by decide) rfl (va_recv hK.1 hP (ci := 5) (q0 := 0) rfl rfl)) rfl rfl hl.1 rfl (lv_room (Nat.le_of_ble_eq_true rfl)) dX5_badShots_15 ⟨Nat.zero_le _, Nat.zero_le _⟩) hP hD hS hA [0, 2] rfl rfl rfl rfl (fun H locs hP hD hS => ?_)
        obtain ⟨h_5, hf⟩ := if_some hf
        obtain ⟨q_6, hq_6, hf⟩ := bd_some hf
        refine bft_i_ro (va_runV (As := [.ref (t_ha (Int32.toNatClampNeg (fmodJ ((s_made - (if 12 < s_made then 12 else s_made)) + v2) 16)))]) (rest := []) ⟨hx, hb, hml, hown, hts⟩ (c5_isBad l g t_p t_p_text t_p_plan t_p_draft t_p_states t_sa t_at t_undoable t_p_shots t_ha t_p_trial n_cavities n_p_volumes n_volumes n_p_drags n_drags n_p_freezes n_freezes n_cores n_p_ahead n_ahead n_stages n_p_places n_places n_p_speeds n_speeds n_p_settings n_settings s_p_drags s_drags s_p_speeds s_speeds s_p_settings s_settings s_shut s_coresIn s_loaded s_hot s_made s_width s_p_taught sB_teachers sB_shortest sB_longest sB_p_least sB_least sB_p_greatest sB_greatest (t_ha (Int32.toNatClampNeg (fmodJ ((s_made - (if 12 < s_made then 12 else s_made)) + v2) 16))) (h_q (Int32.toNatClampNeg (fmodJ ((s_made - (if 12 < s_made then 12 else s_made)) + v2) 16)) 0) ((h_v (Int32.toNatClampNeg (fmodJ ((s_made - (if 12 < s_made then 12 else s_made)) + v2) 16))).2 0) (h_q (Int32.toNatClampNeg (fmodJ ((s_made - (if 12 < s_made then 12 else s_made)) + v2) 16)) 1) ((h_v (Int32.toNatClampNeg (fmodJ ((s_made - (if 12 < s_made then 12 else s_made)) + v2) 16))).2 1) (h_q (Int32.toNatClampNeg (fmodJ ((s_made - (if 12 < s_made then 12 else s_made)) + v2) 16)) 2) ((h_v (Int32.toNatClampNeg (fmodJ ((s_made - (if 12 < s_made then 12 else s_made)) + v2) 16))).2 2) (h_q (Int32.toNatClampNeg (fmodJ ((s_made - (if 12 < s_made then 12 else s_made)) + v2) 16)) 3) ((h_v (Int32.toNatClampNeg (fmodJ ((s_made - (if 12 < s_made then 12 else s_made)) + v2) 16))).2 3) ((h_v (Int32.toNatClampNeg (fmodJ ((s_made - (if 12 < s_made then 12 else s_made)) + v2) 16))).1 0) ((h_v (Int32.toNatClampNeg (fmodJ ((s_made - (if 12 < s_made then 12 else s_made)) + v2) 16))).1 1) ((h_v (Int32.toNatClampNeg (fmodJ ((s_made - (if 12 < s_made then 12 else s_made)) + v2) 16))).1 2) ((h_v (Int32.toNatClampNeg (fmodJ ((s_made - (if 12 < s_made then 12 else s_made)) + v2) 16))).1 3) ((h_v (Int32.toNatClampNeg (fmodJ ((s_made - (if 12 < s_made then 12 else s_made)) + v2) 16))).1 4) H.size N q_6 hq_6) (cwV 1 hts gX5_badShots_X5_isBad rfl rfl rfl ⟨rfl, nh5.1, nh5.2, pd_27⟩ ⟨Nat.le_of_ble_eq_true rfl, Nat.le_of_ble_eq_true rfl⟩) (qPV hK hG hP hD hS hA [0, 1, 2, 3, 4 + (Int32.toNatClampNeg (fmodJ ((s_made - (if 12 < s_made then 12 else s_made)) + v2) 16))] (nd4 _) (fam4 (ok_lt h_5)) (va_recv hK.1 hP (ci := 5) (q0 := 0) rfl rfl)) rfl rfl hl.1 rfl (lv_room (Nat.le_of_ble_eq_true rfl)) dX5_badShots_18 ⟨Nat.zero_le _, Nat.zero_le _⟩) hP hD hS hA [0, 1, 2, 3, 4 + (Int32.toNatClampNeg (fmodJ ((s_made - (if 12 < s_made then 12 else s_made)) + v2) 16))] (fam4 (ok_lt h_5)) (fun r_7 H locs hw hP hD hS => ?_)
        replace hw := hw.symm
        subst hw
        refine lv_if_eq (tgt := 27) hx hb dX5_badShots_21 (by decide) (fun c_8 => ?_) (fun c_8 => ?_)
        · replace hf := (if_pos c_8).symm.trans hf
          refine lv_iinc (v := v2 + 1) (lv' := [(2, .int (v2 + 1)), (0, .ref t_p), (1, .int v1)]) hx hb dX5_badShots_27 hl (k := 2) rfl rfl (by decide) rfl (fun ls hl => ?_)
          refine lv_goto (tgt := 4) hx hb dX5_badShots_30 (by decide) ?_
          exact ih v1 (v2 + 1) H locs ls hf hP hD hS (lv_sub hl [1, 2, 0] rfl)
        · replace hf := (if_neg c_8).symm.trans hf
          refine lv_iinc (v := v1 + 1) (lv' := [(1, .int (v1 + 1)), (0, .ref t_p), (2, .int v2)]) hx hb dX5_badShots_24 hl (k := 1) rfl rfl (by decide) rfl (fun ls hl => ?_)
          refine lv_iinc (v := v2 + 1) (lv' := [(2, .int (v2 + 1)), (1, .int (v1 + 1)), (0, .ref t_p)]) hx hb dX5_badShots_27 hl (k := 2) rfl rfl (by decide) rfl (fun ls hl => ?_)
          refine lv_goto (tgt := 4) hx hb dX5_badShots_30 (by decide) ?_
          exact ih (v1 + 1) (v2 + 1) H locs ls hf hP hD hS (lv_sub hl [2, 1, 0] rfl)
  have hl := lv_entry ([.ref t_p]) (n := 3) (Nat.le_of_ble_eq_true rfl)
  rw [lg_entry_eq]
  generalize (lg_sl ([.ref t_p]) ++ List.replicate (3 - (lg_sl ([.ref t_p])).length) Slot.unset).toArray = ls at hl ⊢
  replace hl : lv_has ls 3 [(0, .ref t_p)] := hl
  rw [f5_badShots] at hf
  have hgo : ∀ (H : Heap) (locs : List Loc), H = s.heap → locs = [] → va_P g.1 vwCl (fl ([wk5 g t_p t_p_text t_p_plan t_p_draft t_p_states (fun i => some (t_sa i)) t_at t_undoable (t_sa (Int32.toNatClampNeg t_at)) t_p_shots (fun i => some (t_ha i)) t_p_trial, wk1 g t_p_plan n_cavities n_p_volumes n_volumes n_p_drags n_drags n_p_freezes n_freezes n_cores n_p_ahead n_ahead n_stages n_p_places n_places n_p_speeds n_speeds n_p_settings n_settings, wk3 g (t_sa (Int32.toNatClampNeg t_at)) s_p_drags s_drags s_p_speeds s_speeds s_p_settings s_settings s_shut s_coresIn s_loaded s_hot s_made s_width s_p_taught, wk0 g s_p_taught sB_teachers sB_shortest sB_longest sB_p_least sB_least sB_p_greatest sB_greatest] ++ famH g t_ha h_q h_v)) H → va_S A s.heap H locs → W p l e ({ frames := 3, cells := 0, slots := 0, locals := 68 }) s m ([.ref t_p] : List Value).toArray below meth c H locs 0 0 (MQ below (pQi g (fun r => r = res) (fl ([wk5 g t_p t_p_text t_p_plan t_p_draft t_p_states (fun i => some (t_sa i)) t_at t_undoable (t_sa (Int32.toNatClampNeg t_at)) t_p_shots (fun i => some (t_ha i)) t_p_trial, wk1 g t_p_plan n_cavities n_p_volumes n_volumes n_p_drags n_drags n_p_freezes n_freezes n_cores n_p_ahead n_ahead n_stages n_p_places n_places n_p_speeds n_speeds n_p_settings n_settings, wk3 g (t_sa (Int32.toNatClampNeg t_at)) s_p_drags s_drags s_p_speeds s_speeds s_p_settings s_settings s_shut s_coresIn s_loaded s_hot s_made s_width s_p_taught, wk0 g s_p_taught sB_teachers sB_shortest sB_longest sB_p_least sB_least sB_p_greatest sB_greatest] ++ famH g t_ha h_q h_v)) A) ([.ref t_p] : List Value).toArray s 0 0 A) (F0 m 0 ls []) := by
    intro H locs hH hL hP hS
    refine lv_iconst (v := 0) hx hb dX5_badShots_0 (by decide) ?_
    refine lv_istore_n (lv' := [(1, .int 0), (0, .ref t_p)]) hx hb dX5_badShots_1 rfl hl (by decide) rfl (fun ls hl => ?_)
    refine lv_iconst (v := 0) hx hb dX5_badShots_2 (by decide) ?_
    refine lv_istore_n (lv' := [(2, .int 0), (1, .int 0), (0, .ref t_p)]) hx hb dX5_badShots_3 rfl hl (by decide) rfl (fun ls hl => ?_)
    exact w_4  N 0 0 H locs ls hf hP hD hS (lv_sub hl [2, 1, 0] rfl)
  exact hgo s.heap [] rfl rfl hP hS

set_option maxHeartbeats 4000000 in
set_option maxRecDepth 100000 in
theorem c5_count (l : Launch) (g : gG) (t_p : Nat) (t_p_text : Nat) (t_p_plan : Nat) (t_p_draft : Nat) (t_p_states : Nat) (t_sa : (Nat → Nat)) (t_at : Int32) (t_undoable : Int32) (t_p_shots : Nat) (t_ha : (Nat → Nat)) (t_p_trial : Nat) (n_cavities : Int32) (n_p_volumes : Nat) (n_volumes : (Nat → Int32)) (n_p_drags : Nat) (n_drags : (Nat → Int32)) (n_p_freezes : Nat) (n_freezes : (Nat → Int32)) (n_cores : Int32) (n_p_ahead : Nat) (n_ahead : (Nat → Int32)) (n_stages : Int32) (n_p_places : Nat) (n_places : (Nat → Int32)) (n_p_speeds : Nat) (n_speeds : (Nat → Int32)) (n_p_settings : Nat) (n_settings : (Nat → Int32)) (s_p_drags : Nat) (s_drags : (Nat → Int32)) (s_p_speeds : Nat) (s_speeds : (Nat → Int32)) (s_p_settings : Nat) (s_settings : (Nat → Int32)) (s_shut : Int32) (s_coresIn : Int32) (s_loaded : Int32) (s_hot : Int32) (s_made : Int32) (s_width : Int32) (s_p_taught : Nat) (sB_teachers : Int32) (sB_shortest : Int32) (sB_longest : Int32) (sB_p_least : Nat) (sB_least : (Nat → Int32)) (sB_p_greatest : Nat) (sB_greatest : (Nat → Int32)) (x_p_letters : Nat) (x_letters : (Nat → Int32)) (x_p_numbers : Nat) (x_numbers : (Nat → Int32)) (x_length : Int32) (h_q : (Nat → Nat → Nat)) (h_v : (Nat → tO)) (l1 : Int32) (sz : Nat) (N : Nat) (res : (Int32)) (hf : f5_count N l1 t_undoable n_cavities n_volumes n_cores n_stages s_shut s_coresIn s_loaded s_hot s_made s_width sB_teachers sB_shortest sB_longest sB_least sB_greatest x_length h_v = some res) : Met l yX5_count wsX5_count ({ frames := 4, cells := 0, slots := 0, locals := 90 }) (pP g [.ref t_p, .int l1] sz (fl ([wk5 g t_p t_p_text t_p_plan t_p_draft t_p_states (fun i => some (t_sa i)) t_at t_undoable (t_sa (Int32.toNatClampNeg t_at)) t_p_shots (fun i => some (t_ha i)) t_p_trial, wk1 g t_p_plan n_cavities n_p_volumes n_volumes n_p_drags n_drags n_p_freezes n_freezes n_cores n_p_ahead n_ahead n_stages n_p_places n_places n_p_speeds n_speeds n_p_settings n_settings, wk3 g (t_sa (Int32.toNatClampNeg t_at)) s_p_drags s_drags s_p_speeds s_speeds s_p_settings s_settings s_shut s_coresIn s_loaded s_hot s_made s_width s_p_taught, wk0 g s_p_taught sB_teachers sB_shortest sB_longest sB_p_least sB_least sB_p_greatest sB_greatest, wk4 g t_p_text x_p_letters x_letters x_p_numbers x_numbers x_length] ++ famH g t_ha h_q h_v))) (pQi g (fun r => r = res) (fl ([wk5 g t_p t_p_text t_p_plan t_p_draft t_p_states (fun i => some (t_sa i)) t_at t_undoable (t_sa (Int32.toNatClampNeg t_at)) t_p_shots (fun i => some (t_ha i)) t_p_trial, wk1 g t_p_plan n_cavities n_p_volumes n_volumes n_p_drags n_drags n_p_freezes n_freezes n_cores n_p_ahead n_ahead n_stages n_p_places n_places n_p_speeds n_speeds n_p_settings n_settings, wk3 g (t_sa (Int32.toNatClampNeg t_at)) s_p_drags s_drags s_p_speeds s_speeds s_p_settings s_settings s_shut s_coresIn s_loaded s_hot s_made s_width s_p_taught, wk0 g s_p_taught sB_teachers sB_shortest sB_longest sB_p_least sB_least sB_p_greatest sB_greatest, wk4 g t_p_text x_p_letters x_letters x_p_numbers x_numbers x_length] ++ famH g t_ha h_q h_v)) (va_A (fl ([wk5 g t_p t_p_text t_p_plan t_p_draft t_p_states (fun i => some (t_sa i)) t_at t_undoable (t_sa (Int32.toNatClampNeg t_at)) t_p_shots (fun i => some (t_ha i)) t_p_trial, wk1 g t_p_plan n_cavities n_p_volumes n_volumes n_p_drags n_drags n_p_freezes n_freezes n_cores n_p_ahead n_ahead n_stages n_p_places n_places n_p_speeds n_speeds n_p_settings n_settings, wk3 g (t_sa (Int32.toNatClampNeg t_at)) s_p_drags s_drags s_p_speeds s_speeds s_p_settings s_settings s_shut s_coresIn s_loaded s_hot s_made s_width s_p_taught, wk0 g s_p_taught sB_teachers sB_shortest sB_longest sB_p_least sB_least sB_p_greatest sB_greatest, wk4 g t_p_text x_p_letters x_letters x_p_numbers x_numbers x_length] ++ famH g t_ha h_q h_v)) sz)) 0 0 (va_A (fl ([wk5 g t_p t_p_text t_p_plan t_p_draft t_p_states (fun i => some (t_sa i)) t_at t_undoable (t_sa (Int32.toNatClampNeg t_at)) t_p_shots (fun i => some (t_ha i)) t_p_trial, wk1 g t_p_plan n_cavities n_p_volumes n_volumes n_p_drags n_drags n_p_freezes n_freezes n_cores n_p_ahead n_ahead n_stages n_p_places n_places n_p_speeds n_speeds n_p_settings n_settings, wk3 g (t_sa (Int32.toNatClampNeg t_at)) s_p_drags s_drags s_p_speeds s_speeds s_p_settings s_settings s_shut s_coresIn s_loaded s_hot s_made s_width s_p_taught, wk0 g s_p_taught sB_teachers sB_shortest sB_longest sB_p_least sB_least sB_p_greatest sB_greatest, wk4 g t_p_text x_p_letters x_letters x_p_numbers x_numbers x_length] ++ famH g t_ha h_q h_v)) sz) := by
  refine Met.ofW (cc := cX5_count) (maxL := 2) (ret := (some .int)) (by decide) rfl ?_
  intro p e s m args below meth c s₁ B hml hv
  obtain ⟨rfl, hsz, hP, hK, hD0, hG⟩ := hv
  have hx := B.exec
  have hb := B.bytes
  have hr := B.returns
  have hts := atoms_spec (ws := wsX5_count) B.pre
  have hown : s.vm.findClass RX5 = some m.cls := findClass_of_methodNamed B.named
  have hlocks := B.notSynchronized
  subst hsz
  have hD := hD0.self (sz := s.heap.size)
  generalize hAe : va_A (fl ([wk5 g t_p t_p_text t_p_plan t_p_draft t_p_states (fun i => some (t_sa i)) t_at t_undoable (t_sa (Int32.toNatClampNeg t_at)) t_p_shots (fun i => some (t_ha i)) t_p_trial, wk1 g t_p_plan n_cavities n_p_volumes n_volumes n_p_drags n_drags n_p_freezes n_freezes n_cores n_p_ahead n_ahead n_stages n_p_places n_places n_p_speeds n_speeds n_p_settings n_settings, wk3 g (t_sa (Int32.toNatClampNeg t_at)) s_p_drags s_drags s_p_speeds s_speeds s_p_settings s_settings s_shut s_coresIn s_loaded s_hot s_made s_width s_p_taught, wk0 g s_p_taught sB_teachers sB_shortest sB_longest sB_p_least sB_least sB_p_greatest sB_greatest, wk4 g t_p_text x_p_letters x_letters x_p_numbers x_numbers x_length] ++ famH g t_ha h_q h_v)) s.heap.size = A at hD hG ⊢
  have hA : ∀ q : Nat, s.heap.size ≤ q → A q := fun q h => by rw [← hAe]; exact Or.inr h
  have hS : va_S A s.heap s.heap [] := va_S.rf
  have hin0 : ∀ w ∈ u_ws RX0 TX0 5, w ∈ wsX5_count := by decide +kernel
  have hin1 : ∀ w ∈ u_ws RX1 TX1 10, w ∈ wsX5_count := by decide +kernel
  have hin3 : ∀ w ∈ u_ws RX3 TX3 10, w ∈ wsX5_count := by decide +kernel
  have hin4 : ∀ w ∈ u_ws RX4 TX4 3, w ∈ wsX5_count := by decide +kernel
  have hin5 : ∀ w ∈ u_ws RX5 TX5 9, w ∈ wsX5_count := by decide +kernel
  have L1 := hts (Cond.fieldLink RX5 19 "MouldShots" "plan" "LMouldShots$Plan;") (by decide +kernel)
  have L2 := hts (Cond.fieldLink RX5 40 "MouldShots" "now" "LMouldShots$State;") (by decide +kernel)
  have L3 := hts (Cond.fieldLink RX5 36 "MouldShots" "undoable" "I") (by decide +kernel)
  have L4 := hts (Cond.fieldLink RX5 12 "MouldShots" "text" "LMouldShots$Text;") (by decide +kernel)
  have hl := lv_entry ([.ref t_p, .int l1]) (n := 2) (Nat.le_of_ble_eq_true rfl)
  rw [lg_entry_eq]
  generalize (lg_sl ([.ref t_p, .int l1]) ++ List.replicate (2 - (lg_sl ([.ref t_p, .int l1])).length) Slot.unset).toArray = ls at hl ⊢
  replace hl : lv_has ls 2 [(0, .ref t_p), (1, .int l1)] := hl
  rw [f5_count] at hf
  have hgo : ∀ (H : Heap) (locs : List Loc), H = s.heap → locs = [] → va_P g.1 vwCl (fl ([wk5 g t_p t_p_text t_p_plan t_p_draft t_p_states (fun i => some (t_sa i)) t_at t_undoable (t_sa (Int32.toNatClampNeg t_at)) t_p_shots (fun i => some (t_ha i)) t_p_trial, wk1 g t_p_plan n_cavities n_p_volumes n_volumes n_p_drags n_drags n_p_freezes n_freezes n_cores n_p_ahead n_ahead n_stages n_p_places n_places n_p_speeds n_speeds n_p_settings n_settings, wk3 g (t_sa (Int32.toNatClampNeg t_at)) s_p_drags s_drags s_p_speeds s_speeds s_p_settings s_settings s_shut s_coresIn s_loaded s_hot s_made s_width s_p_taught, wk0 g s_p_taught sB_teachers sB_shortest sB_longest sB_p_least sB_least sB_p_greatest sB_greatest, wk4 g t_p_text x_p_letters x_letters x_p_numbers x_numbers x_length] ++ famH g t_ha h_q h_v)) H → va_S A s.heap H locs → W p l e ({ frames := 4, cells := 0, slots := 0, locals := 90 }) s m ([.ref t_p, .int l1] : List Value).toArray below meth c H locs 0 0 (MQ below (pQi g (fun r => r = res) (fl ([wk5 g t_p t_p_text t_p_plan t_p_draft t_p_states (fun i => some (t_sa i)) t_at t_undoable (t_sa (Int32.toNatClampNeg t_at)) t_p_shots (fun i => some (t_ha i)) t_p_trial, wk1 g t_p_plan n_cavities n_p_volumes n_volumes n_p_drags n_drags n_p_freezes n_freezes n_cores n_p_ahead n_ahead n_stages n_p_places n_places n_p_speeds n_speeds n_p_settings n_settings, wk3 g (t_sa (Int32.toNatClampNeg t_at)) s_p_drags s_drags s_p_speeds s_speeds s_p_settings s_settings s_shut s_coresIn s_loaded s_hot s_made s_width s_p_taught, wk0 g s_p_taught sB_teachers sB_shortest sB_longest sB_p_least sB_least sB_p_greatest sB_greatest, wk4 g t_p_text x_p_letters x_letters x_p_numbers x_numbers x_length] ++ famH g t_ha h_q h_v)) A) ([.ref t_p, .int l1] : List Value).toArray s 0 0 A) (F0 m 0 ls []) := by
    intro H locs hH hL hP hS
    refine lv_iload_n hx hb dX5_count_0 rfl (lv_at hl 1 rfl) ?_
    by_cases c_1 : l1 = 0
    · replace hf := (if_pos c_1).symm.trans hf
      refine lv_tableIn (tgt := 76) hx hb dX5_count_1 (by rw [c_1]; decide) (by rw [c_1]; decide) (by rw [c_1]; rfl) (by decide) ?_
      refine lv_aload_n hx hb dX5_count_76 rfl (lv_at hl 0 rfl) ?_
      refine va_get (D := g.1) (ci := 5) (v := .ref t_p_plan) (C := RX5) (T := TX5) (N := 9) hx hb hts hin5 hown hK.1 hP 0 rfl rfl 1 (by decide) L1 (fun _ h9 => h9) rfl dX5_count_77 ?_
      refine va_getN (D := g.1) (ci := 1) (v := .int n_cavities) (C := RX1) (T := TX1) (N := 10) hx hb hts hin1 hown hK.1 hP 3 rfl rfl 0 (by decide) (hK.use _ 26 rfl) (fun _ h9 => h9) rfl dX5_count_80 ?_
      replace hf := Option.some.inj hf
      subst hf
      exact W.iret (v := n_cavities) hx hb hr (fun t ht hW => ⟨⟨_, (), rfl, rfl, by show va_P g.1 vwCl _ t.heap; rw [ht]; exact hP⟩, hS.F ht⟩) hS.2.2 dX5_count_83 hlocks
    · replace hf := (if_neg c_1).symm.trans hf
      by_cases c_2 : l1 = 1
      · replace hf := (if_pos c_2).symm.trans hf
        refine lv_tableIn (tgt := 84) hx hb dX5_count_1 (by rw [c_2]; decide) (by rw [c_2]; decide) (by rw [c_2]; rfl) (by decide) ?_
        refine lv_aload_n hx hb dX5_count_84 rfl (lv_at hl 0 rfl) ?_
        refine va_get (D := g.1) (ci := 5) (v := .ref t_p_plan) (C := RX5) (T := TX5) (N := 9) hx hb hts hin5 hown hK.1 hP 0 rfl rfl 1 (by decide) L1 (fun _ h9 => h9) rfl dX5_count_85 ?_
        refine va_getN (D := g.1) (ci := 1) (v := .int n_cores) (C := RX1) (T := TX1) (N := 10) hx hb hts hin1 hown hK.1 hP 3 rfl rfl 4 (by decide) (hK.use _ 5 rfl) (fun _ h9 => h9) rfl dX5_count_88 ?_
        replace hf := Option.some.inj hf
        subst hf
        exact W.iret (v := n_cores) hx hb hr (fun t ht hW => ⟨⟨_, (), rfl, rfl, by show va_P g.1 vwCl _ t.heap; rw [ht]; exact hP⟩, hS.F ht⟩) hS.2.2 dX5_count_91 hlocks
      · replace hf := (if_neg c_2).symm.trans hf
        by_cases c_3 : l1 = 2
        · replace hf := (if_pos c_3).symm.trans hf
          refine lv_tableIn (tgt := 92) hx hb dX5_count_1 (by rw [c_3]; decide) (by rw [c_3]; decide) (by rw [c_3]; rfl) (by decide) ?_
          refine lv_aload_n hx hb dX5_count_92 rfl (lv_at hl 0 rfl) ?_
          refine va_get (D := g.1) (ci := 5) (v := .ref t_p_plan) (C := RX5) (T := TX5) (N := 9) hx hb hts hin5 hown hK.1 hP 0 rfl rfl 1 (by decide) L1 (fun _ h9 => h9) rfl dX5_count_93 ?_
          refine va_getN (D := g.1) (ci := 1) (v := .int n_stages) (C := RX1) (T := TX1) (N := 10) hx hb hts hin1 hown hK.1 hP 3 rfl rfl 6 (by decide) (hK.use _ 7 rfl) (fun _ h9 => h9) rfl dX5_count_96 ?_
          replace hf := Option.some.inj hf
          subst hf
          exact W.iret (v := n_stages) hx hb hr (fun t ht hW => ⟨⟨_, (), rfl, rfl, by show va_P g.1 vwCl _ t.heap; rw [ht]; exact hP⟩, hS.F ht⟩) hS.2.2 dX5_count_99 hlocks
        · replace hf := (if_neg c_3).symm.trans hf
          by_cases c_4 : l1 = 3
          · replace hf := (if_pos c_4).symm.trans hf
            refine lv_tableIn (tgt := 100) hx hb dX5_count_1 (by rw [c_4]; decide) (by rw [c_4]; decide) (by rw [c_4]; rfl) (by decide) ?_
            refine lv_aload_n hx hb dX5_count_100 rfl (lv_at hl 0 rfl) ?_
            refine va_get (D := g.1) (ci := 5) (v := .ref (t_sa (Int32.toNatClampNeg t_at))) (C := RX5) (T := TX5) (N := 9) hx hb hts hin5 hown hK.1 hP 0 rfl rfl 6 (by decide) L2 (fun _ h9 => h9) rfl dX5_count_101 ?_
            refine va_getN (D := g.1) (ci := 3) (v := .int s_shut) (C := RX3) (T := TX3) (N := 10) hx hb hts hin3 hown hK.1 hP 11 rfl rfl 3 (by decide) (hK.use _ 0 rfl) (fun _ h9 => h9) rfl dX5_count_104 ?_
            refine lv_if_eq (tgt := 114) hx hb dX5_count_107 (by decide) (fun c_5 => ?_) (fun c_5 => ?_)
            · replace hf := (if_pos c_5).symm.trans hf
              refine lv_iconst (v := 0) hx hb dX5_count_114 (by decide) ?_
              replace hf := Option.some.inj hf
              subst hf
              exact W.iret (v := 0) hx hb hr (fun t ht hW => ⟨⟨_, (), rfl, rfl, by show va_P g.1 vwCl _ t.heap; rw [ht]; exact hP⟩, hS.F ht⟩) hS.2.2 dX5_count_115 hlocks
            · replace hf := (if_neg c_5).symm.trans hf
              refine lv_iconst (v := 1) hx hb dX5_count_110 (by decide) ?_
              refine lv_goto (tgt := 115) hx hb dX5_count_111 (by decide) ?_
              replace hf := Option.some.inj hf
              subst hf
              exact W.iret (v := 1) hx hb hr (fun t ht hW => ⟨⟨_, (), rfl, rfl, by show va_P g.1 vwCl _ t.heap; rw [ht]; exact hP⟩, hS.F ht⟩) hS.2.2 dX5_count_115 hlocks
          · replace hf := (if_neg c_4).symm.trans hf
            by_cases c_6 : l1 = 4
            · replace hf := (if_pos c_6).symm.trans hf
              refine lv_tableIn (tgt := 116) hx hb dX5_count_1 (by rw [c_6]; decide) (by rw [c_6]; decide) (by rw [c_6]; rfl) (by decide) ?_
              refine lv_aload_n hx hb dX5_count_116 rfl (lv_at hl 0 rfl) ?_
              refine va_get (D := g.1) (ci := 5) (v := .ref (t_sa (Int32.toNatClampNeg t_at))) (C := RX5) (T := TX5) (N := 9) hx hb hts hin5 hown hK.1 hP 0 rfl rfl 6 (by decide) L2 (fun _ h9 => h9) rfl dX5_count_117 ?_
              refine va_getN (D := g.1) (ci := 3) (v := .int s_coresIn) (C := RX3) (T := TX3) (N := 10) hx hb hts hin3 hown hK.1 hP 11 rfl rfl 4 (by decide) (hK.use _ 1 rfl) (fun _ h9 => h9) rfl dX5_count_120 ?_
              refine aft_i (wn := (fl ([wk5 g t_p t_p_text t_p_plan t_p_draft t_p_states (fun i => some (t_sa i)) t_at t_undoable (t_sa (Int32.toNatClampNeg t_at)) t_p_shots (fun i => some (t_ha i)) t_p_trial, wk1 g t_p_plan n_cavities n_p_volumes n_volumes n_p_drags n_drags n_p_freezes n_freezes n_cores n_p_ahead n_ahead n_stages n_p_places n_places n_p_speeds n_speeds n_p_settings n_settings, wk3 g (t_sa (Int32.toNatClampNeg t_at)) s_p_drags s_drags s_p_speeds s_speeds s_p_settings s_settings s_shut s_coresIn s_loaded s_hot s_made s_width s_p_taught, wk0 g s_p_taught sB_teachers sB_shortest sB_longest sB_p_least sB_least sB_p_greatest sB_greatest, wk4 g t_p_text x_p_letters x_letters x_p_numbers x_numbers x_length] ++ famH g t_ha h_q h_v))) (va_runS (As := [.int s_coresIn]) (rest := []) ⟨hx, hb, hml, hown, hts⟩ (cJ_bitCount l g s_coresIn H.size) (va_cwS 1 hts gX5_count_J6_bitCount_0f7a4 rfl rfl rfl (by decide +kernel) ⟨Nat.le_of_ble_eq_true rfl, Nat.le_of_ble_eq_true rfl⟩) (pPS hK hG hP hD hS hA [] (by decide) rfl) rfl rfl hl.1 rfl (lv_room (Nat.le_of_ble_eq_true rfl)) dX5_count_123 ⟨Nat.zero_le _, Nat.zero_le _⟩) hP hD hS hA [] rfl rfl rfl (fun r_7 H locs hw hP hD hS => ?_)
              replace hw := hw.symm
              subst hw
              replace hf := Option.some.inj hf
              subst hf
              exact W.iret (v := bitc s_coresIn) hx hb hr (fun t ht hW => ⟨⟨_, (), rfl, rfl, by show va_P g.1 vwCl _ t.heap; rw [ht]; exact hP⟩, hS.F ht⟩) hS.2.2 dX5_count_126 hlocks
            · replace hf := (if_neg c_6).symm.trans hf
              by_cases c_8 : l1 = 5
              · replace hf := (if_pos c_8).symm.trans hf
                refine lv_tableIn (tgt := 127) hx hb dX5_count_1 (by rw [c_8]; decide) (by rw [c_8]; decide) (by rw [c_8]; rfl) (by decide) ?_
                refine lv_aload_n hx hb dX5_count_127 rfl (lv_at hl 0 rfl) ?_
                refine va_get (D := g.1) (ci := 5) (v := .ref (t_sa (Int32.toNatClampNeg t_at))) (C := RX5) (T := TX5) (N := 9) hx hb hts hin5 hown hK.1 hP 0 rfl rfl 6 (by decide) L2 (fun _ h9 => h9) rfl dX5_count_128 ?_
                refine va_getN (D := g.1) (ci := 3) (v := .int s_loaded) (C := RX3) (T := TX3) (N := 10) hx hb hts hin3 hown hK.1 hP 11 rfl rfl 5 (by decide) (hK.use _ 3 rfl) (fun _ h9 => h9) rfl dX5_count_131 ?_
                refine lv_if_eq (tgt := 141) hx hb dX5_count_134 (by decide) (fun c_9 => ?_) (fun c_9 => ?_)
                · replace hf := (if_pos c_9).symm.trans hf
                  refine lv_iconst (v := 0) hx hb dX5_count_141 (by decide) ?_
                  replace hf := Option.some.inj hf
                  subst hf
                  exact W.iret (v := 0) hx hb hr (fun t ht hW => ⟨⟨_, (), rfl, rfl, by show va_P g.1 vwCl _ t.heap; rw [ht]; exact hP⟩, hS.F ht⟩) hS.2.2 dX5_count_142 hlocks
                · replace hf := (if_neg c_9).symm.trans hf
                  refine lv_iconst (v := 1) hx hb dX5_count_137 (by decide) ?_
                  refine lv_goto (tgt := 142) hx hb dX5_count_138 (by decide) ?_
                  replace hf := Option.some.inj hf
                  subst hf
                  exact W.iret (v := 1) hx hb hr (fun t ht hW => ⟨⟨_, (), rfl, rfl, by show va_P g.1 vwCl _ t.heap; rw [ht]; exact hP⟩, hS.F ht⟩) hS.2.2 dX5_count_142 hlocks
              · replace hf := (if_neg c_8).symm.trans hf
                by_cases c_10 : l1 = 6
                · replace hf := (if_pos c_10).symm.trans hf
                  refine lv_tableIn (tgt := 143) hx hb dX5_count_1 (by rw [c_10]; decide) (by rw [c_10]; decide) (by rw [c_10]; rfl) (by decide) ?_
                  refine lv_aload_n hx hb dX5_count_143 rfl (lv_at hl 0 rfl) ?_
                  obtain ⟨q_11, hq_11, hf⟩ := bd_some hf
                  refine bft_i (bn := ([wk5 g t_p t_p_text t_p_plan t_p_draft t_p_states (fun i => some (t_sa i)) t_at t_undoable (t_sa (Int32.toNatClampNeg t_at)) t_p_shots (fun i => some (t_ha i)) t_p_trial, wk1 g t_p_plan n_cavities n_p_volumes n_volumes n_p_drags n_drags n_p_freezes n_freezes n_cores n_p_ahead n_ahead n_stages n_p_places n_places n_p_speeds n_speeds n_p_settings n_settings, wk3 g (t_sa (Int32.toNatClampNeg t_at)) s_p_drags s_drags s_p_speeds s_speeds s_p_settings s_settings s_shut s_coresIn s_loaded s_hot s_made s_width s_p_taught, wk0 g s_p_taught sB_teachers sB_shortest sB_longest sB_p_least sB_least sB_p_greatest sB_greatest, wk4 g t_p_text x_p_letters x_letters x_p_numbers x_numbers x_length] ++ famH g t_ha h_q h_v)) (L := [[t_p, t_p_states, t_p_shots], [(t_sa (Int32.toNatClampNeg t_at)), s_p_drags, s_p_speeds, s_p_settings]]) (va_runV (As := []) (rest := []) ⟨hx, hb, hml, hown, hts⟩ (c5_keptShots l g t_p t_p_text t_p_plan t_p_draft t_p_states t_sa t_at t_undoable t_p_shots t_ha t_p_trial s_p_drags s_drags s_p_speeds s_speeds s_p_settings s_settings s_shut s_coresIn s_loaded s_hot s_made s_width s_p_taught H.size N q_11 hq_11) (cwV 0 hts gX5_count_X5_keptShots rfl rfl rfl ⟨rfl, nh5.1, nh5.2, pd_12⟩ ⟨Nat.le_of_ble_eq_true rfl, Nat.le_of_ble_eq_true rfl⟩) (qPV hK hG hP hD hS hA [0, 2] (by decide) rfl (va_recv hK.1 hP (ci := 5) (q0 := 0) rfl rfl)) rfl rfl hl.1 rfl (lv_room (Nat.le_of_ble_eq_true rfl)) dX5_count_144 ⟨Nat.zero_le _, Nat.zero_le _⟩) hP hD hS hA [0, 2] rfl rfl rfl rfl (fun r_12 H locs hw hP hD hS => ?_)
                  replace hw := hw.symm
                  subst hw
                  replace hf := Option.some.inj hf
                  subst hf
                  exact W.iret (v := if 12 < s_made then 12 else s_made) hx hb hr (fun t ht hW => ⟨⟨_, (), rfl, rfl, by show va_P g.1 vwCl _ t.heap; rw [ht]; exact hP⟩, hS.F ht⟩) hS.2.2 dX5_count_147 hlocks
                · replace hf := (if_neg c_10).symm.trans hf
                  by_cases c_13 : l1 = 7
                  · replace hf := (if_pos c_13).symm.trans hf
                    refine lv_tableIn (tgt := 148) hx hb dX5_count_1 (by rw [c_13]; decide) (by rw [c_13]; decide) (by rw [c_13]; rfl) (by decide) ?_
                    refine lv_aload_n hx hb dX5_count_148 rfl (lv_at hl 0 rfl) ?_
                    refine va_get (D := g.1) (ci := 5) (v := .ref (t_sa (Int32.toNatClampNeg t_at))) (C := RX5) (T := TX5) (N := 9) hx hb hts hin5 hown hK.1 hP 0 rfl rfl 6 (by decide) L2 (fun _ h9 => h9) rfl dX5_count_149 ?_
                    refine va_getN (D := g.1) (ci := 3) (v := .int s_made) (C := RX3) (T := TX3) (N := 10) hx hb hts hin3 hown hK.1 hP 11 rfl rfl 7 (by decide) (hK.use _ 10 rfl) (fun _ h9 => h9) rfl dX5_count_152 ?_
                    replace hf := Option.some.inj hf
                    subst hf
                    exact W.iret (v := s_made) hx hb hr (fun t ht hW => ⟨⟨_, (), rfl, rfl, by show va_P g.1 vwCl _ t.heap; rw [ht]; exact hP⟩, hS.F ht⟩) hS.2.2 dX5_count_155 hlocks
                  · replace hf := (if_neg c_13).symm.trans hf
                    by_cases c_14 : l1 = 8
                    · replace hf := (if_pos c_14).symm.trans hf
                      refine lv_tableIn (tgt := 156) hx hb dX5_count_1 (by rw [c_14]; decide) (by rw [c_14]; decide) (by rw [c_14]; rfl) (by decide) ?_
                      refine lv_aload_n hx hb dX5_count_156 rfl (lv_at hl 0 rfl) ?_
                      refine va_get (D := g.1) (ci := 5) (v := .ref (t_sa (Int32.toNatClampNeg t_at))) (C := RX5) (T := TX5) (N := 9) hx hb hts hin5 hown hK.1 hP 0 rfl rfl 6 (by decide) L2 (fun _ h9 => h9) rfl dX5_count_157 ?_
                      refine va_getN (D := g.1) (ci := 3) (v := .ref s_p_taught) (C := RX3) (T := TX3) (N := 10) hx hb hts hin3 hown hK.1 hP 11 rfl rfl 9 (by decide) (hK.use _ 12 rfl) (fun _ h9 => h9) rfl dX5_count_160 ?_
                      refine va_getN (D := g.1) (ci := 0) (v := .int sB_teachers) (C := RX0) (T := TX0) (N := 5) hx hb hts hin0 hown hK.1 hP 15 rfl rfl 0 (by decide) (hK.use _ 13 rfl) (fun _ h9 => h9) rfl dX5_count_163 ?_
                      replace hf := Option.some.inj hf
                      subst hf
                      exact W.iret (v := sB_teachers) hx hb hr (fun t ht hW => ⟨⟨_, (), rfl, rfl, by show va_P g.1 vwCl _ t.heap; rw [ht]; exact hP⟩, hS.F ht⟩) hS.2.2 dX5_count_166 hlocks
                    · replace hf := (if_neg c_14).symm.trans hf
                      by_cases c_15 : l1 = 9
                      · replace hf := (if_pos c_15).symm.trans hf
                        refine lv_tableIn (tgt := 167) hx hb dX5_count_1 (by rw [c_15]; decide) (by rw [c_15]; decide) (by rw [c_15]; rfl) (by decide) ?_
                        refine lv_aload_n hx hb dX5_count_167 rfl (lv_at hl 0 rfl) ?_
                        refine va_get (D := g.1) (ci := 5) (v := .ref (t_sa (Int32.toNatClampNeg t_at))) (C := RX5) (T := TX5) (N := 9) hx hb hts hin5 hown hK.1 hP 0 rfl rfl 6 (by decide) L2 (fun _ h9 => h9) rfl dX5_count_168 ?_
                        refine va_getN (D := g.1) (ci := 3) (v := .int s_width) (C := RX3) (T := TX3) (N := 10) hx hb hts hin3 hown hK.1 hP 11 rfl rfl 8 (by decide) (hK.use _ 14 rfl) (fun _ h9 => h9) rfl dX5_count_171 ?_
                        replace hf := Option.some.inj hf
                        subst hf
                        exact W.iret (v := s_width) hx hb hr (fun t ht hW => ⟨⟨_, (), rfl, rfl, by show va_P g.1 vwCl _ t.heap; rw [ht]; exact hP⟩, hS.F ht⟩) hS.2.2 dX5_count_174 hlocks
                      · replace hf := (if_neg c_15).symm.trans hf
                        by_cases c_16 : l1 = 10
                        · replace hf := (if_pos c_16).symm.trans hf
                          refine lv_tableIn (tgt := 175) hx hb dX5_count_1 (by rw [c_16]; decide) (by rw [c_16]; decide) (by rw [c_16]; rfl) (by decide) ?_
                          refine lv_aload_n hx hb dX5_count_175 rfl (lv_at hl 0 rfl) ?_
                          obtain ⟨q_17, hq_17, hf⟩ := bd_some hf
                          refine bft_i_ro (va_runV (As := []) (rest := []) ⟨hx, hb, hml, hown, hts⟩ (c5_badShots l g t_p t_p_text t_p_plan t_p_draft t_p_states t_sa t_at t_undoable t_p_shots t_ha t_p_trial n_cavities n_p_volumes n_volumes n_p_drags n_drags n_p_freezes n_freezes n_cores n_p_ahead n_ahead n_stages n_p_places n_places n_p_speeds n_speeds n_p_settings n_settings s_p_drags s_drags s_p_speeds s_speeds s_p_settings s_settings s_shut s_coresIn s_loaded s_hot s_made s_width s_p_taught sB_teachers sB_shortest sB_longest sB_p_least sB_least sB_p_greatest sB_greatest h_q h_v H.size N q_17 hq_17) (cwV 0 hts gX5_count_X5_badShots rfl rfl rfl ⟨rfl, nh5.1, nh5.2, pd_12⟩ ⟨Nat.le_of_ble_eq_true rfl, Nat.le_of_ble_eq_true rfl⟩) (qPV hK hG hP hD hS hA [0, 1, 2, 3, 5, 6, 7, 8, 9, 10, 11, 12, 13, 14, 15, 16, 17, 18, 19, 20] (by decide) rfl (va_recv hK.1 hP (ci := 5) (q0 := 0) rfl rfl)) rfl rfl hl.1 rfl (lv_room (Nat.le_of_ble_eq_true rfl)) dX5_count_176 ⟨Nat.zero_le _, Nat.zero_le _⟩) hP hD hS hA [0, 1, 2, 3, 5, 6, 7, 8, 9, 10, 11, 12, 13, 14, 15, 16, 17, 18, 19, 20] rfl (fun r_18 H locs hw hP hD hS => ?_)
                          replace hw := hw.symm
                          subst hw
                          replace hf := Option.some.inj hf
                          subst hf
                          exact W.iret (v := q_17) hx hb hr (fun t ht hW => ⟨⟨_, (), rfl, rfl, by show va_P g.1 vwCl _ t.heap; rw [ht]; exact hP⟩, hS.F ht⟩) hS.2.2 dX5_count_179 hlocks
                        · replace hf := (if_neg c_16).symm.trans hf
                          by_cases c_19 : l1 = 11
                          · replace hf := (if_pos c_19).symm.trans hf
                            refine lv_tableIn (tgt := 180) hx hb dX5_count_1 (by rw [c_19]; decide) (by rw [c_19]; decide) (by rw [c_19]; rfl) (by decide) ?_
                            refine lv_aload_n hx hb dX5_count_180 rfl (lv_at hl 0 rfl) ?_
                            obtain ⟨q_20, hq_20, hf⟩ := bd_some hf
                            refine bft_i (bn := ([wk5 g t_p t_p_text t_p_plan t_p_draft t_p_states (fun i => some (t_sa i)) t_at t_undoable (t_sa (Int32.toNatClampNeg t_at)) t_p_shots (fun i => some (t_ha i)) t_p_trial, wk1 g t_p_plan n_cavities n_p_volumes n_volumes n_p_drags n_drags n_p_freezes n_freezes n_cores n_p_ahead n_ahead n_stages n_p_places n_places n_p_speeds n_speeds n_p_settings n_settings, wk3 g (t_sa (Int32.toNatClampNeg t_at)) s_p_drags s_drags s_p_speeds s_speeds s_p_settings s_settings s_shut s_coresIn s_loaded s_hot s_made s_width s_p_taught, wk0 g s_p_taught sB_teachers sB_shortest sB_longest sB_p_least sB_least sB_p_greatest sB_greatest, wk4 g t_p_text x_p_letters x_letters x_p_numbers x_numbers x_length] ++ famH g t_ha h_q h_v)) (L := [[t_p, t_p_states, t_p_shots], [t_p_plan, n_p_volumes, n_p_drags, n_p_freezes, n_p_ahead, n_p_places, n_p_speeds, n_p_settings], [(t_sa (Int32.toNatClampNeg t_at)), s_p_drags, s_p_speeds, s_p_settings]]) (va_runV (As := []) (rest := []) ⟨hx, hb, hml, hown, hts⟩ (c5_isReady l g t_p t_p_text t_p_plan t_p_draft t_p_states t_sa t_at t_undoable t_p_shots t_ha t_p_trial n_cavities n_p_volumes n_volumes n_p_drags n_drags n_p_freezes n_freezes n_cores n_p_ahead n_ahead n_stages n_p_places n_places n_p_speeds n_speeds n_p_settings n_settings s_p_drags s_drags s_p_speeds s_speeds s_p_settings s_settings s_shut s_coresIn s_loaded s_hot s_made s_width s_p_taught H.size N q_20 hq_20) (cwV 0 hts gX5_count_X5_isReady rfl rfl rfl ⟨rfl, nh5.1, nh5.2, pd_21⟩ ⟨Nat.le_of_ble_eq_true rfl, Nat.le_of_ble_eq_true rfl⟩) (qPV hK hG hP hD hS hA [0, 1, 2] (by decide) rfl (va_recv hK.1 hP (ci := 5) (q0 := 0) rfl rfl)) rfl rfl hl.1 rfl (lv_room (Nat.le_of_ble_eq_true rfl)) dX5_count_181 ⟨Nat.zero_le _, Nat.zero_le _⟩) hP hD hS hA [0, 1, 2] rfl rfl rfl rfl (fun r_21 H locs hw hP hD hS => ?_)
                            replace hw := hw.symm
                            subst hw
                            refine lv_if_eq (tgt := 191) hx hb dX5_count_184 (by decide) (fun c_22 => ?_) (fun c_22 => ?_)
                            · replace hf := (if_pos c_22).symm.trans hf
                              refine lv_iconst (v := 0) hx hb dX5_count_191 (by decide) ?_
                              replace hf := Option.some.inj hf
                              subst hf
                              exact W.iret (v := 0) hx hb hr (fun t ht hW => ⟨⟨_, (), rfl, rfl, by show va_P g.1 vwCl _ t.heap; rw [ht]; exact hP⟩, hS.F ht⟩) hS.2.2 dX5_count_192 hlocks
                            · replace hf := (if_neg c_22).symm.trans hf
                              refine lv_iconst (v := 1) hx hb dX5_count_187 (by decide) ?_
                              refine lv_goto (tgt := 192) hx hb dX5_count_188 (by decide) ?_
                              replace hf := Option.some.inj hf
                              subst hf
                              exact W.iret (v := 1) hx hb hr (fun t ht hW => ⟨⟨_, (), rfl, rfl, by show va_P g.1 vwCl _ t.heap; rw [ht]; exact hP⟩, hS.F ht⟩) hS.2.2 dX5_count_192 hlocks
                          · replace hf := (if_neg c_19).symm.trans hf
                            by_cases c_23 : l1 = 12
                            · replace hf := (if_pos c_23).symm.trans hf
                              refine lv_tableIn (tgt := 193) hx hb dX5_count_1 (by rw [c_23]; decide) (by rw [c_23]; decide) (by rw [c_23]; rfl) (by decide) ?_
                              refine lv_aload_n hx hb dX5_count_193 rfl (lv_at hl 0 rfl) ?_
                              refine va_get (D := g.1) (ci := 5) (v := .int t_undoable) (C := RX5) (T := TX5) (N := 9) hx hb hts hin5 hown hK.1 hP 0 rfl rfl 5 (by decide) L3 (fun _ h9 => h9) rfl dX5_count_194 ?_
                              replace hf := Option.some.inj hf
                              subst hf
                              exact W.iret (v := t_undoable) hx hb hr (fun t ht hW => ⟨⟨_, (), rfl, rfl, by show va_P g.1 vwCl _ t.heap; rw [ht]; exact hP⟩, hS.F ht⟩) hS.2.2 dX5_count_197 hlocks
                            · replace hf := (if_neg c_23).symm.trans hf
                              by_cases c_24 : l1 = 13
                              · replace hf := (if_pos c_24).symm.trans hf
                                refine lv_tableIn (tgt := 198) hx hb dX5_count_1 (by rw [c_24]; decide) (by rw [c_24]; decide) (by rw [c_24]; rfl) (by decide) ?_
                                refine lv_aload_n hx hb dX5_count_198 rfl (lv_at hl 0 rfl) ?_
                                refine va_get (D := g.1) (ci := 5) (v := .ref t_p_text) (C := RX5) (T := TX5) (N := 9) hx hb hts hin5 hown hK.1 hP 0 rfl rfl 0 (by decide) L4 (fun _ h9 => h9) rfl dX5_count_199 ?_
                                refine va_getN (D := g.1) (ci := 4) (v := .int x_length) (C := RX4) (T := TX4) (N := 3) hx hb hts hin4 hown hK.1 hP 18 rfl rfl 2 (by decide) (hK.use _ 25 rfl) (fun _ h9 => h9) rfl dX5_count_202 ?_
                                replace hf := Option.some.inj hf
                                subst hf
                                exact W.iret (v := x_length) hx hb hr (fun t ht hW => ⟨⟨_, (), rfl, rfl, by show va_P g.1 vwCl _ t.heap; rw [ht]; exact hP⟩, hS.F ht⟩) hS.2.2 dX5_count_205 hlocks
                              · replace hf := (if_neg c_24).symm.trans hf
                                by_cases c_25 : l1 = 14
                                · replace hf := (if_pos c_25).symm.trans hf
                                  refine lv_tableIn (tgt := 206) hx hb dX5_count_1 (by rw [c_25]; decide) (by rw [c_25]; decide) (by rw [c_25]; rfl) (by decide) ?_
                                  refine lv_aload_n hx hb dX5_count_206 rfl (lv_at hl 0 rfl) ?_
                                  refine va_get (D := g.1) (ci := 5) (v := .ref (t_sa (Int32.toNatClampNeg t_at))) (C := RX5) (T := TX5) (N := 9) hx hb hts hin5 hown hK.1 hP 0 rfl rfl 6 (by decide) L2 (fun _ h9 => h9) rfl dX5_count_207 ?_
                                  refine va_getN (D := g.1) (ci := 3) (v := .int s_hot) (C := RX3) (T := TX3) (N := 10) hx hb hts hin3 hown hK.1 hP 11 rfl rfl 6 (by decide) (hK.use _ 2 rfl) (fun _ h9 => h9) rfl dX5_count_210 ?_
                                  refine lv_if_eq (tgt := 220) hx hb dX5_count_213 (by decide) (fun c_26 => ?_) (fun c_26 => ?_)
                                  · replace hf := (if_pos c_26).symm.trans hf
                                    refine lv_iconst (v := 0) hx hb dX5_count_220 (by decide) ?_
                                    replace hf := Option.some.inj hf
                                    subst hf
                                    exact W.iret (v := 0) hx hb hr (fun t ht hW => ⟨⟨_, (), rfl, rfl, by show va_P g.1 vwCl _ t.heap; rw [ht]; exact hP⟩, hS.F ht⟩) hS.2.2 dX5_count_221 hlocks
                                  · replace hf := (if_neg c_26).symm.trans hf
                                    refine lv_iconst (v := 1) hx hb dX5_count_216 (by decide) ?_
                                    refine lv_goto (tgt := 221) hx hb dX5_count_217 (by decide) ?_
                                    replace hf := Option.some.inj hf
                                    subst hf
                                    exact W.iret (v := 1) hx hb hr (fun t ht hW => ⟨⟨_, (), rfl, rfl, by show va_P g.1 vwCl _ t.heap; rw [ht]; exact hP⟩, hS.F ht⟩) hS.2.2 dX5_count_221 hlocks
                                · replace hf := (if_neg c_25).symm.trans hf
                                  refine lv_tableOut (tgt := 222) hx hb dX5_count_1 (tab_out15 c_1 c_2 c_3 c_4 c_6 c_8 c_10 c_13 c_14 c_15 c_16 c_19 c_23 c_24 c_25) (by decide) ?_
                                  refine lv_iconst (v := (-1)) hx hb dX5_count_222 (by decide) ?_
                                  replace hf := Option.some.inj hf
                                  subst hf
                                  exact W.iret (v := (-1)) hx hb hr (fun t ht hW => ⟨⟨_, (), rfl, rfl, by show va_P g.1 vwCl _ t.heap; rw [ht]; exact hP⟩, hS.F ht⟩) hS.2.2 dX5_count_223 hlocks
  exact hgo s.heap [] rfl rfl hP hS
