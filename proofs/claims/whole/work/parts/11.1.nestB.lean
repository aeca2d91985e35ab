set_option maxHeartbeats 4000000 in
set_option maxRecDepth 100000 in
theorem c2_addMelt (l : Launch) (g : gG) (t_p : Nat) (t_p_has : Nat) (t_has : (Nat → Int32)) (t_p_firstAt : Nat) (t_firstAt : (Nat → Int32)) (t_p_fullAt : Nat) (t_fullAt : (Nat → Int32)) (t_p_pressures : Nat) (t_pressures : (Nat → Int32)) (t_place : Int32) (t_fillTicks : Int32) (t_ticks : Int32) (t_coolTicks : Int32) (t_why : Int32) (o1_p : Nat) (o1_cavities : Int32) (o1_p_volumes : Nat) (o1_volumes : (Nat → Int32)) (o1_p_drags : Nat) (o1_drags : (Nat → Int32)) (o1_p_freezes : Nat) (o1_freezes : (Nat → Int32)) (o1_cores : Int32) (o1_p_ahead : Nat) (o1_ahead : (Nat → Int32)) (o1_stages : Int32) (o1_p_places : Nat) (o1_places : (Nat → Int32)) (o1_p_speeds : Nat) (o1_speeds : (Nat → Int32)) (o1_p_settings : Nat) (o1_settings : (Nat → Int32)) (l1 : Int32) (sz : Nat) (N : Nat) (res : ((Nat → Int32) × (Nat → Int32) × (Nat → Int32))) (hf : f2_addMelt N l1 t_has t_firstAt t_fullAt t_ticks o1_volumes = some res) : Met l yX2_addMelt wsX2_addMelt ({ frames := 0, cells := 0, slots := 0, locals := 0 }) (pP g [.ref t_p, .int l1, .ref o1_p] sz (fl [wk2 g t_p t_p_has t_has t_p_firstAt t_firstAt t_p_fullAt t_fullAt t_p_pressures t_pressures t_place t_fillTicks t_ticks t_coolTicks t_why, wk1 g o1_p o1_cavities o1_p_volumes o1_volumes o1_p_drags o1_drags o1_p_freezes o1_freezes o1_cores o1_p_ahead o1_ahead o1_stages o1_p_places o1_places o1_p_speeds o1_speeds o1_p_settings o1_settings])) (pQv g (fl [wk2 g t_p t_p_has res.1 t_p_firstAt res.2.1 t_p_fullAt res.2.2 t_p_pressures t_pressures t_place t_fillTicks t_ticks t_coolTicks t_why, wk1 g o1_p o1_cavities o1_p_volumes o1_volumes o1_p_drags o1_drags o1_p_freezes o1_freezes o1_cores o1_p_ahead o1_ahead o1_stages o1_p_places o1_places o1_p_speeds o1_speeds o1_p_settings o1_settings]) (va_A (fl [wk2 g t_p t_p_has t_has t_p_firstAt t_firstAt t_p_fullAt t_fullAt t_p_pressures t_pressures t_place t_fillTicks t_ticks t_coolTicks t_why, wk1 g o1_p o1_cavities o1_p_volumes o1_volumes o1_p_drags o1_drags o1_p_freezes o1_freezes o1_cores o1_p_ahead o1_ahead o1_stages o1_p_places o1_places o1_p_speeds o1_speeds o1_p_settings o1_settings]) sz)) 0 0 (va_A (fl [wk2 g t_p t_p_has t_has t_p_firstAt t_firstAt t_p_fullAt t_fullAt t_p_pressures t_pressures t_place t_fillTicks t_ticks t_coolTicks t_why, wk1 g o1_p o1_cavities o1_p_volumes o1_volumes o1_p_drags o1_drags o1_p_freezes o1_freezes o1_cores o1_p_ahead o1_ahead o1_stages o1_p_places o1_places o1_p_speeds o1_speeds o1_p_settings o1_settings]) sz) := by
  refine Met.ofW (cc := cX2_addMelt) (maxL := 3) (ret := none) (by decide) rfl ?_
  intro p e s m args below meth c s₁ B hml hv
  obtain ⟨rfl, hsz, hP, hK, hD0, hG⟩ := hv
  have hx := B.exec
  have hb := B.bytes
  have hr := B.returns
  have hts := atoms_spec (ws := wsX2_addMelt) B.pre
  have hown : s.vm.findClass RX2 = some m.cls := findClass_of_methodNamed B.named
  have hlocks := B.notSynchronized
  subst hsz
  have hD := hD0.self (sz := s.heap.size)
  generalize hAe : va_A (fl [wk2 g t_p t_p_has t_has t_p_firstAt t_firstAt t_p_fullAt t_fullAt t_p_pressures t_pressures t_place t_fillTicks t_ticks t_coolTicks t_why, wk1 g o1_p o1_cavities o1_p_volumes o1_volumes o1_p_drags o1_drags o1_p_freezes o1_freezes o1_cores o1_p_ahead o1_ahead o1_stages o1_p_places o1_places o1_p_speeds o1_speeds o1_p_settings o1_settings]) s.heap.size = A at hD hG ⊢
  have hA : ∀ q : Nat, s.heap.size ≤ q → A q := fun q h => by rw [← hAe]; exact Or.inr h
  have hS : va_S A s.heap s.heap [] := va_S.rf
  have hin1 : ∀ w ∈ u_ws RX1 TX1 10, w ∈ wsX2_addMelt := by decide +kernel
  have hin2 : ∀ w ∈ u_ws RX2 TX2 9, w ∈ wsX2_addMelt := by decide +kernel
  have L1 := hts (Cond.fieldLink RX2 9 "MouldShots$Shot" "has" "[I") (by decide +kernel)
  have L2 := hts (Cond.fieldLink RX2 15 "MouldShots$Shot" "firstAt" "[I") (by decide +kernel)
  have L3 := hts (Cond.fieldLink RX2 31 "MouldShots$Shot" "ticks" "I") (by decide +kernel)
  have L4 := hts (Cond.fieldLink RX2 18 "MouldShots$Shot" "fullAt" "[I") (by decide +kernel)
  have w_19 : ∀ (v1 : Int32) (t_has : (Nat → Int32)) (t_firstAt : (Nat → Int32)) (t_fullAt : (Nat → Int32)) (H : Heap) (locs : List Loc) (ls : Array Slot), f2_addMelt_19  N v1 t_has t_firstAt t_fullAt t_ticks o1_volumes = some res → va_P g.1 vwCl (fl [wk2 g t_p t_p_has t_has t_p_firstAt t_firstAt t_p_fullAt t_fullAt t_p_pressures t_pressures t_place t_fillTicks t_ticks t_coolTicks t_why, wk1 g o1_p o1_cavities o1_p_volumes o1_volumes o1_p_drags o1_drags o1_p_freezes o1_freezes o1_cores o1_p_ahead o1_ahead o1_stages o1_p_places o1_places o1_p_speeds o1_speeds o1_p_settings o1_settings]) H → va_D A (fl [wk2 g t_p t_p_has t_has t_p_firstAt t_firstAt t_p_fullAt t_fullAt t_p_pressures t_pressures t_place t_fillTicks t_ticks t_coolTicks t_why, wk1 g o1_p o1_cavities o1_p_volumes o1_volumes o1_p_drags o1_drags o1_p_freezes o1_freezes o1_cores o1_p_ahead o1_ahead o1_stages o1_p_places o1_places o1_p_speeds o1_speeds o1_p_settings o1_settings]) → va_S A s.heap H locs → lv_has ls 3 [(0, .ref t_p), (1, .int v1), (2, .ref o1_p)] → W p l e ({ frames := 0, cells := 0, slots := 0, locals := 0 }) s m ([.ref t_p, .int l1, .ref o1_p] : List Value).toArray below meth c H locs 0 0 (MQ below (pQv g (fl [wk2 g t_p t_p_has res.1 t_p_firstAt res.2.1 t_p_fullAt res.2.2 t_p_pressures t_pressures t_place t_fillTicks t_ticks t_coolTicks t_why, wk1 g o1_p o1_cavities o1_p_volumes o1_volumes o1_p_drags o1_drags o1_p_freezes o1_freezes o1_cores o1_p_ahead o1_ahead o1_stages o1_p_places o1_places o1_p_speeds o1_speeds o1_p_settings o1_settings]) A) ([.ref t_p, .int l1, .ref o1_p] : List Value).toArray s 0 0 A) (F0 m 19 ls []) := by
    intro  v1 t_has t_firstAt t_fullAt H locs ls hf hP hD hS hl
    rw [f2_addMelt_19] at hf
    refine lv_aload_n hx hb dX2_addMelt_19 rfl (lv_at hl 0 rfl) ?_
    refine va_get (D := g.1) (ci := 2) (v := .ref t_p_has) (C := RX2) (T := TX2) (N := 9) hx hb hts hin2 hown hK.1 hP 0 rfl rfl 0 (by decide) L1 (fun _ h9 => h9) rfl dX2_addMelt_20 ?_
    refine lv_iload_n hx hb dX2_addMelt_23 rfl (lv_at hl 1 rfl) ?_
    refine lv_dup2_11 hx hb dX2_addMelt_24 rfl rfl ?_
    obtain ⟨h_4, hf⟩ := if_some hf
    refine va_iald hx hb hK.1 hP 1 0 rfl rfl (ok_in h_4) dX2_addMelt_25 ?_
    refine lv_iconst (v := 1) hx hb dX2_addMelt_26 (by decide) ?_
    refine lv_iadd hx hb dX2_addMelt_27 ?_
    obtain ⟨h_5, hf⟩ := if_some hf
    refine va_iast hx hb hK.1 hP hD hS 1 0 rfl rfl (ok_in h_5) dX2_addMelt_28 (fun H locs hP hD hS => ?_)
    replace hP : va_P g.1 vwCl (fl [wk2 g t_p t_p_has (upd t_has (Int32.toNatClampNeg v1) ((t_has (Int32.toNatClampNeg v1)) + 1)) t_p_firstAt t_firstAt t_p_fullAt t_fullAt t_p_pressures t_pressures t_place t_fillTicks t_ticks t_coolTicks t_why, wk1 g o1_p o1_cavities o1_p_volumes o1_volumes o1_p_drags o1_drags o1_p_freezes o1_freezes o1_cores o1_p_ahead o1_ahead o1_stages o1_p_places o1_places o1_p_speeds o1_speeds o1_p_settings o1_settings]) H := hP
    replace hD : va_D A (fl [wk2 g t_p t_p_has (upd t_has (Int32.toNatClampNeg v1) ((t_has (Int32.toNatClampNeg v1)) + 1)) t_p_firstAt t_firstAt t_p_fullAt t_fullAt t_p_pressures t_pressures t_place t_fillTicks t_ticks t_coolTicks t_why, wk1 g o1_p o1_cavities o1_p_volumes o1_volumes o1_p_drags o1_drags o1_p_freezes o1_freezes o1_cores o1_p_ahead o1_ahead o1_stages o1_p_places o1_places o1_p_speeds o1_speeds o1_p_settings o1_settings]) := hD
    refine lv_aload_n hx hb dX2_addMelt_29 rfl (lv_at hl 0 rfl) ?_
    refine va_get (D := g.1) (ci := 2) (v := .ref t_p_has) (C := RX2) (T := TX2) (N := 9) hx hb hts hin2 hown hK.1 hP 0 rfl rfl 0 (by decide) L1 (fun _ h9 => h9) rfl dX2_addMelt_30 ?_
    refine lv_iload_n hx hb dX2_addMelt_33 rfl (lv_at hl 1 rfl) ?_
    obtain ⟨h_6, hf⟩ := if_some hf
    refine va_iald hx hb hK.1 hP 1 0 rfl rfl (ok_in h_6) dX2_addMelt_34 ?_
    refine lv_aload_n hx hb dX2_addMelt_35 rfl (lv_at hl 2 rfl) ?_
    refine va_getN (D := g.1) (ci := 1) (v := .ref o1_p_volumes) (C := RX1) (T := TX1) (N := 10) hx hb hts hin1 hown hK.1 hP 5 rfl rfl 1 (by decide) (hK.use _ 32 rfl) (fun _ h9 => h9) rfl dX2_addMelt_36 ?_
    refine lv_iload_n hx hb dX2_addMelt_39 rfl (lv_at hl 1 rfl) ?_
    obtain ⟨h_7, hf⟩ := if_some hf
    refine va_iald hx hb hK.1 hP 6 0 rfl rfl (ok_in h_7) dX2_addMelt_40 ?_
    refine lv_icmp_ne (tgt := 54) hx hb dX2_addMelt_41 (by decide) (fun c_8 => ?_) (fun c_8 => ?_)
    · replace hf := (if_neg c_8).symm.trans hf
      replace hf := Option.some.inj hf
      subst hf
      exact W.vret hx hb hr (fun t ht hW => ⟨⟨(), rfl, trivial, by show va_P g.1 vwCl _ t.heap; rw [ht]; exact hP⟩, hS.F ht⟩) hS.2.2 dX2_addMelt_54 hlocks
    · replace hf := (if_pos c_8).symm.trans hf
      refine lv_aload_n hx hb dX2_addMelt_44 rfl (lv_at hl 0 rfl) ?_
      refine va_get (D := g.1) (ci := 2) (v := .ref t_p_fullAt) (C := RX2) (T := TX2) (N := 9) hx hb hts hin2 hown hK.1 hP 0 rfl rfl 2 (by decide) L4 (fun _ h9 => h9) rfl dX2_addMelt_45 ?_
      refine lv_iload_n hx hb dX2_addMelt_48 rfl (lv_at hl 1 rfl) ?_
      refine lv_aload_n hx hb dX2_addMelt_49 rfl (lv_at hl 0 rfl) ?_
      refine va_get (D := g.1) (ci := 2) (v := .int t_ticks) (C := RX2) (T := TX2) (N := 9) hx hb hts hin2 hown hK.1 hP 0 rfl rfl 6 (by decide) L3 (fun _ h9 => h9) rfl dX2_addMelt_50 ?_
      obtain ⟨h_9, hf⟩ := if_some hf
      refine va_iast hx hb hK.1 hP hD hS 3 0 rfl rfl (ok_in h_9) dX2_addMelt_53 (fun H locs hP hD hS => ?_)
      replace hP : va_P g.1 vwCl (fl [wk2 g t_p t_p_has (upd t_has (Int32.toNatClampNeg v1) ((t_has (Int32.toNatClampNeg v1)) + 1)) t_p_firstAt t_firstAt t_p_fullAt (upd t_fullAt (Int32.toNatClampNeg v1) t_ticks) t_p_pressures t_pressures t_place t_fillTicks t_ticks t_coolTicks t_why, wk1 g o1_p o1_cavities o1_p_volumes o1_volumes o1_p_drags o1_drags o1_p_freezes o1_freezes o1_cores o1_p_ahead o1_ahead o1_stages o1_p_places o1_places o1_p_speeds o1_speeds o1_p_settings o1_settings]) H := hP
      replace hD : va_D A (fl [wk2 g t_p t_p_has (upd t_has (Int32.toNatClampNeg v1) ((t_has (Int32.toNatClampNeg v1)) + 1)) t_p_firstAt t_firstAt t_p_fullAt (upd t_fullAt (Int32.toNatClampNeg v1) t_ticks) t_p_pressures t_pressures t_place t_fillTicks t_ticks t_coolTicks t_why, wk1 g o1_p o1_cavities o1_p_volumes o1_volumes o1_p_drags o1_drags o1_p_freezes o1_freezes o1_cores o1_p_ahead o1_ahead o1_stages o1_p_places o1_places o1_p_speeds o1_speeds o1_p_settings o1_settings]) := hD
      replace hf := Option.some.inj hf
      subst hf
      exact W.vret hx hb hr (fun t ht hW => ⟨⟨(), rfl, trivial, by show va_P g.1 vwCl _ t.heap; rw [ht]; exact hP⟩, hS.F ht⟩) hS.2.2 dX2_addMelt_54 hlocks
  have hl := lv_entry ([.ref t_p, .int l1, .ref o1_p]) (n := 3) (Nat.le_of_ble_eq_true rfl)
  rw [lg_entry_eq]
  generalize (lg_sl ([.ref t_p, .int l1, .ref o1_p]) ++ List.replicate (3 - (lg_sl ([.ref t_p, .int l1, .ref o1_p])).length) Slot.unset).toArray = ls at hl ⊢
  replace hl : lv_has ls 3 [(0, .ref t_p), (1, .int l1), (2, .ref o1_p)] := hl
  rw [f2_addMelt] at hf
  have hgo : ∀ (H : Heap) (locs : List Loc), H = s.heap → locs = [] → va_P g.1 vwCl (fl [wk2 g t_p t_p_has t_has t_p_firstAt t_firstAt t_p_fullAt t_fullAt t_p_pressures t_pressures t_place t_fillTicks t_ticks t_coolTicks t_why, wk1 g o1_p o1_cavities o1_p_volumes o1_volumes o1_p_drags o1_drags o1_p_freezes o1_freezes o1_cores o1_p_ahead o1_ahead o1_stages o1_p_places o1_places o1_p_speeds o1_speeds o1_p_settings o1_settings]) H → va_S A s.heap H locs → W p l e ({ frames := 0, cells := 0, slots := 0, locals := 0 }) s m ([.ref t_p, .int l1, .ref o1_p] : List Value).toArray below meth c H locs 0 0 (MQ below (pQv g (fl [wk2 g t_p t_p_has res.1 t_p_firstAt res.2.1 t_p_fullAt res.2.2 t_p_pressures t_pressures t_place t_fillTicks t_ticks t_coolTicks t_why, wk1 g o1_p o1_cavities o1_p_volumes o1_volumes o1_p_drags o1_drags o1_p_freezes o1_freezes o1_cores o1_p_ahead o1_ahead o1_stages o1_p_places o1_places o1_p_speeds o1_speeds o1_p_settings o1_settings]) A) ([.ref t_p, .int l1, .ref o1_p] : List Value).toArray s 0 0 A) (F0 m 0 ls []) := by
    intro H locs hH hL hP hS
    refine lv_aload_n hx hb dX2_addMelt_0 rfl (lv_at hl 0 rfl) ?_
    refine va_get (D := g.1) (ci := 2) (v := .ref t_p_has) (C := RX2) (T := TX2) (N := 9) hx hb hts hin2 hown hK.1 hP 0 rfl rfl 0 (by decide) L1 (fun _ h9 => h9) rfl dX2_addMelt_1 ?_
    refine lv_iload_n hx hb dX2_addMelt_4 rfl (lv_at hl 1 rfl) ?_
    obtain ⟨h_1, hf⟩ := if_some hf
    refine va_iald hx hb hK.1 hP 1 0 rfl rfl (ok_in h_1) dX2_addMelt_5 ?_
    refine lv_if_ne (tgt := 19) hx hb dX2_addMelt_6 (by decide) (fun c_2 => ?_) (fun c_2 => ?_)
    · replace hf := (if_neg c_2).symm.trans hf
      exact w_19  l1 t_has t_firstAt t_fullAt H locs ls hf hP hD hS (lv_sub hl [0, 1, 2] rfl)
    · replace hf := (if_pos c_2).symm.trans hf
      refine lv_aload_n hx hb dX2_addMelt_9 rfl (lv_at hl 0 rfl) ?_
      refine va_get (D := g.1) (ci := 2) (v := .ref t_p_firstAt) (C := RX2) (T := TX2) (N := 9) hx hb hts hin2 hown hK.1 hP 0 rfl rfl 1 (by decide) L2 (fun _ h9 => h9) rfl dX2_addMelt_10 ?_
      refine lv_iload_n hx hb dX2_addMelt_13 rfl (lv_at hl 1 rfl) ?_
      refine lv_aload_n hx hb dX2_addMelt_14 rfl (lv_at hl 0 rfl) ?_
      refine va_get (D := g.1) (ci := 2) (v := .int t_ticks) (C := RX2) (T := TX2) (N := 9) hx hb hts hin2 hown hK.1 hP 0 rfl rfl 6 (by decide) L3 (fun _ h9 => h9) rfl dX2_addMelt_15 ?_
      obtain ⟨h_3, hf⟩ := if_some hf
      refine va_iast hx hb hK.1 hP hD hS 2 0 rfl rfl (ok_in h_3) dX2_addMelt_18 (fun H locs hP hD hS => ?_)
      replace hP : va_P g.1 vwCl (fl [wk2 g t_p t_p_has t_has t_p_firstAt (upd t_firstAt (Int32.toNatClampNeg l1) t_ticks) t_p_fullAt t_fullAt t_p_pressures t_pressures t_place t_fillTicks t_ticks t_coolTicks t_why, wk1 g o1_p o1_cavities o1_p_volumes o1_volumes o1_p_drags o1_drags o1_p_freezes o1_freezes o1_cores o1_p_ahead o1_ahead o1_stages o1_p_places o1_places o1_p_speeds o1_speeds o1_p_settings o1_settings]) H := hP
      replace hD : va_D A (fl [wk2 g t_p t_p_has t_has t_p_firstAt (upd t_firstAt (Int32.toNatClampNeg l1) t_ticks) t_p_fullAt t_fullAt t_p_pressures t_pressures t_place t_fillTicks t_ticks t_coolTicks t_why, wk1 g o1_p o1_cavities o1_p_volumes o1_volumes o1_p_drags o1_drags o1_p_freezes o1_freezes o1_cores o1_p_ahead o1_ahead o1_stages o1_p_places o1_places o1_p_speeds o1_speeds o1_p_settings o1_settings]) := hD
      exact w_19  l1 t_has (upd t_firstAt (Int32.toNatClampNeg l1) t_ticks) t_fullAt H locs ls hf hP hD hS (lv_sub hl [0, 1, 2] rfl)
  exact hgo s.heap [] rfl rfl hP hS

set_option maxHeartbeats 4000000 in
set_option maxRecDepth 100000 in
theorem c2_push (l : Launch) (g : gG) (t_p : Nat) (t_p_has : Nat) (t_has : (Nat → Int32)) (t_p_firstAt : Nat) (t_firstAt : (Nat → Int32)) (t_p_fullAt : Nat) (t_fullAt : (Nat → Int32)) (t_p_pressures : Nat) (t_pressures : (Nat → Int32)) (t_place : Int32) (t_fillTicks : Int32) (t_ticks : Int32) (t_coolTicks : Int32) (t_why : Int32) (o1_p : Nat) (o1_cavities : Int32) (o1_p_volumes : Nat) (o1_volumes : (Nat → Int32)) (o1_p_drags : Nat) (o1_drags : (Nat → Int32)) (o1_p_freezes : Nat) (o1_freezes : (Nat → Int32)) (o1_cores : Int32) (o1_p_ahead : Nat) (o1_ahead : (Nat → Int32)) (o1_stages : Int32) (o1_p_places : Nat) (o1_places : (Nat → Int32)) (o1_p_speeds : Nat) (o1_speeds : (Nat → Int32)) (o1_p_settings : Nat) (o1_settings : (Nat → Int32)) (o2_p : Nat) (o2_p_drags : Nat) (o2_drags : (Nat → Int32)) (o2_p_speeds : Nat) (o2_speeds : (Nat → Int32)) (o2_p_settings : Nat) (o2_settings : (Nat → Int32)) (o2_shut : Int32) (o2_coresIn : Int32) (o2_loaded : Int32) (o2_hot : Int32) (o2_made : Int32) (o2_width : Int32) (o2_p_taught : Nat) (sz : Nat) (N : Nat) (res : (Int32 × (Nat → Int32) × (Nat → Int32) × (Nat → Int32))) (hf : f2_push N t_has t_firstAt t_fullAt t_ticks o1_cavities o1_volumes o2_drags = some res) : Met l yX2_push wsX2_push ({ frames := 1, cells := 0, slots := 0, locals := 27 }) (pP g [.ref t_p, .ref o1_p, .ref o2_p] sz (fl [wk2 g t_p t_p_has t_has t_p_firstAt t_firstAt t_p_fullAt t_fullAt t_p_pressures t_pressures t_place t_fillTicks t_ticks t_coolTicks t_why, wk1 g o1_p o1_cavities o1_p_volumes o1_volumes o1_p_drags o1_drags o1_p_freezes o1_freezes o1_cores o1_p_ahead o1_ahead o1_stages o1_p_places o1_places o1_p_speeds o1_speeds o1_p_settings o1_settings, wk3 g o2_p o2_p_drags o2_drags o2_p_speeds o2_speeds o2_p_settings o2_settings o2_shut o2_coresIn o2_loaded o2_hot o2_made o2_width o2_p_taught])) (pQi g (fun r => r = res.1) (fl [wk2 g t_p t_p_has res.2.1 t_p_firstAt res.2.2.1 t_p_fullAt res.2.2.2 t_p_pressures t_pressures t_place t_fillTicks t_ticks t_coolTicks t_why, wk1 g o1_p o1_cavities o1_p_volumes o1_volumes o1_p_drags o1_drags o1_p_freezes o1_freezes o1_cores o1_p_ahead o1_ahead o1_stages o1_p_places o1_places o1_p_speeds o1_speeds o1_p_settings o1_settings, wk3 g o2_p o2_p_drags o2_drags o2_p_speeds o2_speeds o2_p_settings o2_settings o2_shut o2_coresIn o2_loaded o2_hot o2_made o2_width o2_p_taught]) (va_A (fl [wk2 g t_p t_p_has t_has t_p_firstAt t_firstAt t_p_fullAt t_fullAt t_p_pressures t_pressures t_place t_fillTicks t_ticks t_coolTicks t_why, wk1 g o1_p o1_cavities o1_p_volumes o1_volumes o1_p_drags o1_drags o1_p_freezes o1_freezes o1_cores o1_p_ahead o1_ahead o1_stages o1_p_places o1_places o1_p_speeds o1_speeds o1_p_settings o1_settings, wk3 g o2_p o2_p_drags o2_drags o2_p_speeds o2_speeds o2_p_settings o2_settings o2_shut o2_coresIn o2_loaded o2_hot o2_made o2_width o2_p_taught]) sz)) 0 0 (va_A (fl [wk2 g t_p t_p_has t_has t_p_firstAt t_firstAt t_p_fullAt t_fullAt t_p_pressures t_pressures t_place t_fillTicks t_ticks t_coolTicks t_why, wk1 g o1_p o1_cavities o1_p_volumes o1_volumes o1_p_drags o1_drags o1_p_freezes o1_freezes o1_cores o1_p_ahead o1_ahead o1_stages o1_p_places o1_places o1_p_speeds o1_speeds o1_p_settings o1_settings, wk3 g o2_p o2_p_drags o2_drags o2_p_speeds o2_speeds o2_p_settings o2_settings o2_shut o2_coresIn o2_loaded o2_hot o2_made o2_width o2_p_taught]) sz) := by
  refine Met.ofW (cc := cX2_push) (maxL := 5) (ret := (some .int)) (by decide) rfl ?_
  intro p e s m args below meth c s₁ B hml hv
  obtain ⟨rfl, hsz, hP, hK, hD0, hG⟩ := hv
  have hx := B.exec
  have hb := B.bytes
  have hr := B.returns
  have hts := atoms_spec (ws := wsX2_push) B.pre
  have hown : s.vm.findClass RX2 = some m.cls := findClass_of_methodNamed B.named
  have hlocks := B.notSynchronized
  subst hsz
  have hD := hD0.self (sz := s.heap.size)
  generalize hAe : va_A (fl [wk2 g t_p t_p_has t_has t_p_firstAt t_firstAt t_p_fullAt t_fullAt t_p_pressures t_pressures t_place t_fillTicks t_ticks t_coolTicks t_why, wk1 g o1_p o1_cavities o1_p_volumes o1_volumes o1_p_drags o1_drags o1_p_freezes o1_freezes o1_cores o1_p_ahead o1_ahead o1_stages o1_p_places o1_places o1_p_speeds o1_speeds o1_p_settings o1_settings, wk3 g o2_p o2_p_drags o2_drags o2_p_speeds o2_speeds o2_p_settings o2_settings o2_shut o2_coresIn o2_loaded o2_hot o2_made o2_width o2_p_taught]) s.heap.size = A at hD hG ⊢
  have hA : ∀ q : Nat, s.heap.size ≤ q → A q := fun q h => by rw [← hAe]; exact Or.inr h
  have hS : va_S A s.heap s.heap [] := va_S.rf
  have hin2 : ∀ w ∈ u_ws RX2 TX2 9, w ∈ wsX2_push := by decide +kernel
  have hin3 : ∀ w ∈ u_ws RX3 TX3 10, w ∈ wsX2_push := by decide +kernel
  have L1 := hts (Cond.fieldLink RX2 9 "MouldShots$Shot" "has" "[I") (by decide +kernel)
  have w_70 : ∀ (v3 : Int32) (v4 : Int32) (t_has : (Nat → Int32)) (t_firstAt : (Nat → Int32)) (t_fullAt : (Nat → Int32)) (H : Heap) (locs : List Loc) (ls : Array Slot), f2_push_70  N v3 v4 t_has t_firstAt t_fullAt t_ticks o1_volumes = some res → va_P g.1 vwCl (fl [wk2 g t_p t_p_has t_has t_p_firstAt t_firstAt t_p_fullAt t_fullAt t_p_pressures t_pressures t_place t_fillTicks t_ticks t_coolTicks t_why, wk1 g o1_p o1_cavities o1_p_volumes o1_volumes o1_p_drags o1_drags o1_p_freezes o1_freezes o1_cores o1_p_ahead o1_ahead o1_stages o1_p_places o1_places o1_p_speeds o1_speeds o1_p_settings o1_settings, wk3 g o2_p o2_p_drags o2_drags o2_p_speeds o2_speeds o2_p_settings o2_settings o2_shut o2_coresIn o2_loaded o2_hot o2_made o2_width o2_p_taught]) H → va_D A (fl [wk2 g t_p t_p_has t_has t_p_firstAt t_firstAt t_p_fullAt t_fullAt t_p_pressures t_pressures t_place t_fillTicks t_ticks t_coolTicks t_why, wk1 g o1_p o1_cavities o1_p_volumes o1_volumes o1_p_drags o1_drags o1_p_freezes o1_freezes o1_cores o1_p_ahead o1_ahead o1_stages o1_p_places o1_places o1_p_speeds o1_speeds o1_p_settings o1_settings, wk3 g o2_p o2_p_drags o2_drags o2_p_speeds o2_speeds o2_p_settings o2_settings o2_shut o2_coresIn o2_loaded o2_hot o2_made o2_width o2_p_taught]) → va_S A s.heap H locs → lv_has ls 5 [(0, .ref t_p), (1, .ref o1_p), (3, .int v3), (4, .int v4)] → W p l e ({ frames := 1, cells := 0, slots := 0, locals := 27 }) s m ([.ref t_p, .ref o1_p, .ref o2_p] : List Value).toArray below meth c H locs 0 0 (MQ below (pQi g (fun r => r = res.1) (fl [wk2 g t_p t_p_has res.2.1 t_p_firstAt res.2.2.1 t_p_fullAt res.2.2.2 t_p_pressures t_pressures t_place t_fillTicks t_ticks t_coolTicks t_why, wk1 g o1_p o1_cavities o1_p_volumes o1_volumes o1_p_drags o1_drags o1_p_freezes o1_freezes o1_cores o1_p_ahead o1_ahead o1_stages o1_p_places o1_places o1_p_speeds o1_speeds o1_p_settings o1_settings, wk3 g o2_p o2_p_drags o2_drags o2_p_speeds o2_speeds o2_p_settings o2_settings o2_shut o2_coresIn o2_loaded o2_hot o2_made o2_width o2_p_taught]) A) ([.ref t_p, .ref o1_p, .ref o2_p] : List Value).toArray s 0 0 A) (F0 m 70 ls []) := by
    intro  v3 v4 t_has t_firstAt t_fullAt H locs ls hf hP hD hS hl
    rw [f2_push_70] at hf
    refine lv_aload_n hx hb dX2_push_70 rfl (lv_at hl 0 rfl) ?_
    refine lv_iload_n hx hb dX2_push_71 rfl (lv_at hl 2 rfl) ?_
    refine lv_aload_n hx hb dX2_push_72 rfl (lv_at hl 1 rfl) ?_
    obtain ⟨q_11, hq_11, hf⟩ := bd_some hf
    refine bft_v (bn := [wk2 g t_p t_p_has q_11.1 t_p_firstAt q_11.2.1 t_p_fullAt q_11.2.2 t_p_pressures t_pressures t_place t_fillTicks t_ticks t_coolTicks t_why, wk1 g o1_p o1_cavities o1_p_volumes o1_volumes o1_p_drags o1_drags o1_p_freezes o1_freezes o1_cores o1_p_ahead o1_ahead o1_stages o1_p_places o1_places o1_p_speeds o1_speeds o1_p_settings o1_settings, wk3 g o2_p o2_p_drags o2_drags o2_p_speeds o2_speeds o2_p_settings o2_settings o2_shut o2_coresIn o2_loaded o2_hot o2_made o2_width o2_p_taught]) (L := [[t_p, t_p_has, t_p_firstAt, t_p_fullAt, t_p_pressures], [o1_p, o1_p_volumes, o1_p_drags, o1_p_freezes, o1_p_ahead, o1_p_places, o1_p_speeds, o1_p_settings]]) (va_runV (As := [.int v3, .ref o1_p]) (rest := []) ⟨hx, hb, hml, hown, hts⟩ (c2_addMelt l g t_p t_p_has t_has t_p_firstAt t_firstAt t_p_fullAt t_fullAt t_p_pressures t_pressures t_place t_fillTicks t_ticks t_coolTicks t_why o1_p o1_cavities o1_p_volumes o1_volumes o1_p_drags o1_drags o1_p_freezes o1_freezes o1_cores o1_p_ahead o1_ahead o1_stages o1_p_places o1_places o1_p_speeds o1_speeds o1_p_settings o1_settings v3 H.size N q_11 hq_11) (cwV 2 hts gX2_push_X2_addMelt rfl rfl rfl ⟨rfl, nh2.1, nh2.2, pd_4⟩ ⟨Nat.le_of_ble_eq_true rfl, Nat.le_of_ble_eq_true rfl⟩) (qPV hK hG hP hD hS hA [0, 1] (by decide) rfl (va_recv hK.1 hP (ci := 2) (q0 := 0) rfl rfl)) rfl rfl hl.1 rfl (lv_room (Nat.le_of_ble_eq_true rfl)) dX2_push_73 ⟨Nat.zero_le _, Nat.zero_le _⟩) hP hD hS hA [0, 1] rfl rfl rfl rfl (fun H locs hP hD hS => ?_)
    refine lv_iload hx hb dX2_push_76 (lv_at hl 3 rfl) ?_
    replace hf := Option.some.inj hf
    subst hf
    exact W.iret (v := v4) hx hb hr (fun t ht hW => ⟨⟨_, (), rfl, rfl, by show va_P g.1 vwCl _ t.heap; rw [ht]; exact hP⟩, hS.F ht⟩) hS.2.2 dX2_push_78 hlocks
  have hl := lv_entry ([.ref t_p, .ref o1_p, .ref o2_p]) (n := 5) (Nat.le_of_ble_eq_true rfl)
  rw [lg_entry_eq]
  generalize (lg_sl ([.ref t_p, .ref o1_p, .ref o2_p]) ++ List.replicate (5 - (lg_sl ([.ref t_p, .ref o1_p, .ref o2_p])).length) Slot.unset).toArray = ls at hl ⊢
  replace hl : lv_has ls 5 [(0, .ref t_p), (1, .ref o1_p), (2, .ref o2_p)] := hl
  rw [f2_push] at hf
  have hgo : ∀ (H : Heap) (locs : List Loc), H = s.heap → locs = [] → va_P g.1 vwCl (fl [wk2 g t_p t_p_has t_has t_p_firstAt t_firstAt t_p_fullAt t_fullAt t_p_pressures t_pressures t_place t_fillTicks t_ticks t_coolTicks t_why, wk1 g o1_p o1_cavities o1_p_volumes o1_volumes o1_p_drags o1_drags o1_p_freezes o1_freezes o1_cores o1_p_ahead o1_ahead o1_stages o1_p_places o1_places o1_p_speeds o1_speeds o1_p_settings o1_settings, wk3 g o2_p o2_p_drags o2_drags o2_p_speeds o2_speeds o2_p_settings o2_settings o2_shut o2_coresIn o2_loaded o2_hot o2_made o2_width o2_p_taught]) H → va_S A s.heap H locs → W p l e ({ frames := 1, cells := 0, slots := 0, locals := 27 }) s m ([.ref t_p, .ref o1_p, .ref o2_p] : List Value).toArray below meth c H locs 0 0 (MQ below (pQi g (fun r => r = res.1) (fl [wk2 g t_p t_p_has res.2.1 t_p_firstAt res.2.2.1 t_p_fullAt res.2.2.2 t_p_pressures t_pressures t_place t_fillTicks t_ticks t_coolTicks t_why, wk1 g o1_p o1_cavities o1_p_volumes o1_volumes o1_p_drags o1_drags o1_p_freezes o1_freezes o1_cores o1_p_ahead o1_ahead o1_stages o1_p_places o1_places o1_p_speeds o1_speeds o1_p_settings o1_settings, wk3 g o2_p o2_p_drags o2_drags o2_p_speeds o2_speeds o2_p_settings o2_settings o2_shut o2_coresIn o2_loaded o2_hot o2_made o2_width o2_p_taught]) A) ([.ref t_p, .ref o1_p, .ref o2_p] : List Value).toArray s 0 0 A) (F0 m 0 ls []) := by
    intro H locs hH hL hP hS
    refine lv_aload_n hx hb dX2_push_0 rfl (lv_at hl 0 rfl) ?_
    refine lv_aload_n hx hb dX2_push_1 rfl (lv_at hl 1 rfl) ?_
    refine lv_aload_n hx hb dX2_push_2 rfl (lv_at hl 2 rfl) ?_
    refine lv_iconst (v := 0) hx hb dX2_push_3 (by decide) ?_
    obtain ⟨q_1, hq_1, hf⟩ := bd_some hf
    refine bft_i (bn := [wk2 g t_p t_p_has t_has t_p_firstAt t_firstAt t_p_fullAt t_fullAt t_p_pressures t_pressures t_place t_fillTicks t_ticks t_coolTicks t_why, wk1 g o1_p o1_cavities o1_p_volumes o1_volumes o1_p_drags o1_drags o1_p_freezes o1_freezes o1_cores o1_p_ahead o1_ahead o1_stages o1_p_places o1_places o1_p_speeds o1_speeds o1_p_settings o1_settings, wk3 g o2_p o2_p_drags o2_drags o2_p_speeds o2_speeds o2_p_settings o2_settings o2_shut o2_coresIn o2_loaded o2_hot o2_made o2_width o2_p_taught]) (L := [[t_p, t_p_has, t_p_firstAt, t_p_fullAt, t_p_pressures], [o1_p, o1_p_volumes, o1_p_drags, o1_p_freezes, o1_p_ahead, o1_p_places, o1_p_speeds, o1_p_settings], [o2_p, o2_p_drags, o2_p_speeds, o2_p_settings]]) (va_runV (As := [.ref o1_p, .ref o2_p, .int 0]) (rest := []) ⟨hx, hb, hml, hown, hts⟩ (c2_easiest l g t_p t_p_has t_has t_p_firstAt t_firstAt t_p_fullAt t_fullAt t_p_pressures t_pressures t_place t_fillTicks t_ticks t_coolTicks t_why o1_p o1_cavities o1_p_volumes o1_volumes o1_p_drags o1_drags o1_p_freezes o1_freezes o1_cores o1_p_ahead o1_ahead o1_stages o1_p_places o1_places o1_p_speeds o1_speeds o1_p_settings o1_settings o2_p o2_p_drags o2_drags o2_p_speeds o2_speeds o2_p_settings o2_settings o2_shut o2_coresIn o2_loaded o2_hot o2_made o2_width o2_p_taught 0 H.size N q_1 hq_1) (cwV 3 hts gX2_push_X2_easiest rfl rfl rfl ⟨rfl, nh2.1, nh2.2, pd_3⟩ ⟨Nat.le_of_ble_eq_true rfl, Nat.le_of_ble_eq_true rfl⟩) (qPV hK hG hP hD hS hA [0, 1, 2] (by decide) rfl (va_recv hK.1 hP (ci := 2) (q0 := 0) rfl rfl)) rfl rfl hl.1 rfl (lv_room (Nat.le_of_ble_eq_true rfl)) dX2_push_4 ⟨Nat.zero_le _, Nat.zero_le _⟩) hP hD hS hA [0, 1, 2] rfl rfl rfl rfl (fun r_2 H locs hw hP hD hS => ?_)
    replace hw := hw.symm
    subst hw
    refine lv_istore_n (lv' := [(3, .int q_1), (0, .ref t_p), (1, .ref o1_p), (2, .ref o2_p)]) hx hb dX2_push_7 rfl hl (by decide) rfl (fun ls hl => ?_)
    refine lv_iconst (v := 0) hx hb dX2_push_8 (by decide) ?_
    refine lv_istore (lv' := [(4, .int 0), (3, .int q_1), (0, .ref t_p), (1, .ref o1_p), (2, .ref o2_p)]) hx hb dX2_push_9 hl (by decide) rfl (fun ls hl => ?_)
    refine lv_iload_n hx hb dX2_push_11 rfl (lv_at hl 1 rfl) ?_
    refine lv_bipush (v := (-4)) hx hb dX2_push_12 (by decide) ?_
    refine lv_icmp_eq (tgt := 37) hx hb dX2_push_14 (by decide) (fun c_3 => ?_) (fun c_3 => ?_)
    · replace hf := (if_pos c_3).symm.trans hf
      refine lv_aload_n hx hb dX2_push_37 rfl (lv_at hl 2 rfl) ?_
      refine lv_aload_n hx hb dX2_push_38 rfl (lv_at hl 3 rfl) ?_
      refine lv_aload_n hx hb dX2_push_39 rfl (lv_at hl 4 rfl) ?_
      refine lv_iconst (v := 1) hx hb dX2_push_40 (by decide) ?_
      obtain ⟨q_4, hq_4, hf⟩ := bd_some hf
      refine bft_i (bn := [wk2 g t_p t_p_has t_has t_p_firstAt t_firstAt t_p_fullAt t_fullAt t_p_pressures t_pressures t_place t_fillTicks t_ticks t_coolTicks t_why, wk1 g o1_p o1_cavities o1_p_volumes o1_volumes o1_p_drags o1_drags o1_p_freezes o1_freezes o1_cores o1_p_ahead o1_ahead o1_stages o1_p_places o1_places o1_p_speeds o1_speeds o1_p_settings o1_settings, wk3 g o2_p o2_p_drags o2_drags o2_p_speeds o2_speeds o2_p_settings o2_settings o2_shut o2_coresIn o2_loaded o2_hot o2_made o2_width o2_p_taught]) (L := [[t_p, t_p_has, t_p_firstAt, t_p_fullAt, t_p_pressures], [o1_p, o1_p_volumes, o1_p_drags, o1_p_freezes, o1_p_ahead, o1_p_places, o1_p_speeds, o1_p_settings], [o2_p, o2_p_drags, o2_p_speeds, o2_p_settings]]) (va_runV (As := [.ref o1_p, .ref o2_p, .int 1]) (rest := []) ⟨hx, hb, hml, hown, hts⟩ (c2_easiest l g t_p t_p_has t_has t_p_firstAt t_firstAt t_p_fullAt t_fullAt t_p_pressures t_pressures t_place t_fillTicks t_ticks t_coolTicks t_why o1_p o1_cavities o1_p_volumes o1_volumes o1_p_drags o1_drags o1_p_freezes o1_freezes o1_cores o1_p_ahead o1_ahead o1_stages o1_p_places o1_places o1_p_speeds o1_speeds o1_p_settings o1_settings o2_p o2_p_drags o2_drags o2_p_speeds o2_speeds o2_p_settings o2_settings o2_shut o2_coresIn o2_loaded o2_hot o2_made o2_width o2_p_taught 1 H.size N q_4 hq_4) (cwV 3 hts gX2_push_X2_easiest rfl rfl rfl ⟨rfl, nh2.1, nh2.2, pd_3⟩ ⟨Nat.le_of_ble_eq_true rfl, Nat.le_of_ble_eq_true rfl⟩) (qPV hK hG hP hD hS hA [0, 1, 2] (by decide) rfl (va_recv hK.1 hP (ci := 2) (q0 := 0) rfl rfl)) rfl rfl hl.1 rfl (lv_room (Nat.le_of_ble_eq_true rfl)) dX2_push_41 ⟨Nat.zero_le _, Nat.zero_le _⟩) hP hD hS hA [0, 1, 2] rfl rfl rfl rfl (fun r_5 H locs hw hP hD hS => ?_)
      replace hw := hw.symm
      subst hw
      refine lv_istore_n (lv' := [(3, .int q_4), (4, .int 0), (0, .ref t_p), (1, .ref o1_p), (2, .ref o2_p)]) hx hb dX2_push_44 rfl hl (by decide) rfl (fun ls hl => ?_)
      refine lv_iload_n hx hb dX2_push_45 rfl (lv_at hl 0 rfl) ?_
      refine lv_bipush (v := (-4)) hx hb dX2_push_46 (by decide) ?_
      refine lv_icmp_ne (tgt := 53) hx hb dX2_push_48 (by decide) (fun c_6 => ?_) (fun c_6 => ?_)
      · replace hf := (if_neg c_6).symm.trans hf
        refine lv_iconst (v := 3) hx hb dX2_push_53 (by decide) ?_
        refine lv_aload_n hx hb dX2_push_54 rfl (lv_at hl 4 rfl) ?_
        refine va_getN (D := g.1) (ci := 3) (v := .ref o2_p_drags) (C := RX3) (T := TX3) (N := 10) hx hb hts hin3 hown hK.1 hP 13 rfl rfl 0 (by decide) (hK.use _ 38 rfl) (fun _ h9 => h9) rfl dX2_push_55 ?_
        refine lv_iload_n hx hb dX2_push_58 rfl (lv_at hl 0 rfl) ?_
        obtain ⟨h_7, hf⟩ := if_some hf
        refine va_iald hx hb hK.1 hP 14 0 rfl rfl (ok_in h_7) dX2_push_59 ?_
        refine lv_imul hx hb dX2_push_60 ?_
        refine lv_aload_n hx hb dX2_push_61 rfl (lv_at hl 2 rfl) ?_
        refine va_get (D := g.1) (ci := 2) (v := .ref t_p_has) (C := RX2) (T := TX2) (N := 9) hx hb hts hin2 hown hK.1 hP 0 rfl rfl 0 (by decide) L1 (fun _ h9 => h9) rfl dX2_push_62 ?_
        refine lv_iload_n hx hb dX2_push_65 rfl (lv_at hl 0 rfl) ?_
        obtain ⟨h_8, hf⟩ := if_some hf
        refine va_iald hx hb hK.1 hP 1 0 rfl rfl (ok_in h_8) dX2_push_66 ?_
        refine lv_imul hx hb dX2_push_67 ?_
        refine lv_istore (lv' := [(4, .int ((3 * (o2_drags (Int32.toNatClampNeg q_4))) * (t_has (Int32.toNatClampNeg q_4)))), (3, .int q_4), (0, .ref t_p), (1, .ref o1_p), (2, .ref o2_p)]) hx hb dX2_push_68 hl (by decide) rfl (fun ls hl => ?_)
        exact w_70  q_4 ((3 * (o2_drags (Int32.toNatClampNeg q_4))) * (t_has (Int32.toNatClampNeg q_4))) t_has t_firstAt t_fullAt H locs ls hf hP hD hS (lv_sub hl [2, 3, 1, 0] rfl)
      · replace hf := (if_pos c_6).symm.trans hf
        refine lv_iconst (v := 0) hx hb dX2_push_51 (by decide) ?_
        replace hf := Option.some.inj hf
        subst hf
        exact W.iret (v := 0) hx hb hr (fun t ht hW => ⟨⟨_, (), rfl, rfl, by show va_P g.1 vwCl _ t.heap; rw [ht]; exact hP⟩, hS.F ht⟩) hS.2.2 dX2_push_52 hlocks
    · replace hf := (if_neg c_3).symm.trans hf
      refine lv_aload_n hx hb dX2_push_17 rfl (lv_at hl 4 rfl) ?_
      refine va_getN (D := g.1) (ci := 3) (v := .ref o2_p_drags) (C := RX3) (T := TX3) (N := 10) hx hb hts hin3 hown hK.1 hP 13 rfl rfl 0 (by decide) (hK.use _ 38 rfl) (fun _ h9 => h9) rfl dX2_push_18 ?_
      refine lv_iload_n hx hb dX2_push_21 rfl (lv_at hl 1 rfl) ?_
      obtain ⟨h_9, hf⟩ := if_some hf
      refine va_iald hx hb hK.1 hP 14 0 rfl rfl (ok_in h_9) dX2_push_22 ?_
      refine lv_aload_n hx hb dX2_push_23 rfl (lv_at hl 2 rfl) ?_
      refine va_get (D := g.1) (ci := 2) (v := .ref t_p_has) (C := RX2) (T := TX2) (N := 9) hx hb hts hin2 hown hK.1 hP 0 rfl rfl 0 (by decide) L1 (fun _ h9 => h9) rfl dX2_push_24 ?_
      refine lv_iload_n hx hb dX2_push_27 rfl (lv_at hl 1 rfl) ?_
      obtain ⟨h_10, hf⟩ := if_some hf
      refine va_iald hx hb hK.1 hP 1 0 rfl rfl (ok_in h_10) dX2_push_28 ?_
      refine lv_iconst (v := 1) hx hb dX2_push_29 (by decide) ?_
      refine lv_iadd hx hb dX2_push_30 ?_
      refine lv_imul hx hb dX2_push_31 ?_
      refine lv_istore (lv' := [(4, .int ((o2_drags (Int32.toNatClampNeg q_1)) * ((t_has (Int32.toNatClampNeg q_1)) + 1))), (3, .int q_1), (0, .ref t_p), (1, .ref o1_p), (2, .ref o2_p)]) hx hb dX2_push_32 hl (by decide) rfl (fun ls hl => ?_)
      refine lv_goto (tgt := 70) hx hb dX2_push_34 (by decide) ?_
      exact w_70  q_1 ((o2_drags (Int32.toNatClampNeg q_1)) * ((t_has (Int32.toNatClampNeg q_1)) + 1)) t_has t_firstAt t_fullAt H locs ls hf hP hD hS (lv_sub hl [2, 3, 1, 0] rfl)
  exact hgo s.heap [] rfl rfl hP hS
