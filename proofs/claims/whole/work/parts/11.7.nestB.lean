set_option maxHeartbeats 4000000 in
set_option maxRecDepth 100000 in
theorem c2_isShort (l : Launch) (g : gG) (t_p : Nat) (t_p_has : Nat) (t_has : (Nat → Int32)) (t_p_firstAt : Nat) (t_firstAt : (Nat → Int32)) (t_p_fullAt : Nat) (t_fullAt : (Nat → Int32)) (t_p_pressures : Nat) (t_pressures : (Nat → Int32)) (t_place : Int32) (t_fillTicks : Int32) (t_ticks : Int32) (t_coolTicks : Int32) (t_why : Int32) (o1_p : Nat) (o1_cavities : Int32) (o1_p_volumes : Nat) (o1_volumes : (Nat → Int32)) (o1_p_drags : Nat) (o1_drags : (Nat → Int32)) (o1_p_freezes : Nat) (o1_freezes : (Nat → Int32)) (o1_cores : Int32) (o1_p_ahead : Nat) (o1_ahead : (Nat → Int32)) (o1_stages : Int32) (o1_p_places : Nat) (o1_places : (Nat → Int32)) (o1_p_speeds : Nat) (o1_speeds : (Nat → Int32)) (o1_p_settings : Nat) (o1_settings : (Nat → Int32)) (sz : Nat) (N : Nat) (res : (Int32)) (hf : f2_isShort N t_has o1_cavities o1_volumes = some res) : Met l yX2_isShort wsX2_isShort ({ frames := 0, cells := 0, slots := 0, locals := 0 }) (pP g [.ref t_p, .ref o1_p] sz (fl [wk2 g t_p t_p_has t_has t_p_firstAt t_firstAt t_p_fullAt t_fullAt t_p_pressures t_pressures t_place t_fillTicks t_ticks t_coolTicks t_why, wk1 g o1_p o1_cavities o1_p_volumes o1_volumes o1_p_drags o1_drags o1_p_freezes o1_freezes o1_cores o1_p_ahead o1_ahead o1_stages o1_p_places o1_places o1_p_speeds o1_speeds o1_p_settings o1_settings])) (pQi g (fun r => r = res) (fl [wk2 g t_p t_p_has t_has t_p_firstAt t_firstAt t_p_fullAt t_fullAt t_p_pressures t_pressures t_place t_fillTicks t_ticks t_coolTicks t_why, wk1 g o1_p o1_cavities o1_p_volumes o1_volumes o1_p_drags o1_drags o1_p_freezes o1_freezes o1_cores o1_p_ahead o1_ahead o1_stages o1_p_places o1_places o1_p_speeds o1_speeds o1_p_settings o1_settings]) (va_A (fl [wk2 g t_p t_p_has t_has t_p_firstAt t_firstAt t_p_fullAt t_fullAt t_p_pressures t_pressures t_place t_fillTicks t_ticks t_coolTicks t_why, wk1 g o1_p o1_cavities o1_p_volumes o1_volumes o1_p_drags o1_drags o1_p_freezes o1_freezes o1_cores o1_p_ahead o1_ahead o1_stages o1_p_places o1_places o1_p_speeds o1_speeds o1_p_settings o1_settings]) sz)) 0 0 (va_A (fl [wk2 g t_p t_p_has t_has t_p_firstAt t_firstAt t_p_fullAt t_fullAt t_p_pressures t_pressures t_place t_fillTicks t_ticks t_coolTicks t_why, wk1 g o1_p o1_cavities o1_p_volumes o1_volumes o1_p_drags o1_drags o1_p_freezes o1_freezes o1_cores o1_p_ahead o1_ahead o1_stages o1_p_places o1_places o1_p_speeds o1_speeds o1_p_settings o1_settings]) sz) := by
  refine Met.ofW (cc := cX2_isShort) (maxL := 3) (ret := (some .boolean)) (by decide) rfl ?_
  intro p e s m args below meth c s₁ B hml hv
  obtain ⟨rfl, hsz, hP, hK, hD0, hG⟩ := hv
  have hx := B.exec
  have hb := B.bytes
  have hr := B.returns
  have hts := atoms_spec (ws := wsX2_isShort) B.pre
  have hown : s.vm.findClass RX2 = some m.cls := findClass_of_methodNamed B.named
  have hlocks := B.notSynchronized
  subst hsz
  have hD := hD0.self (sz := s.heap.size)
  generalize hAe : va_A (fl [wk2 g t_p t_p_has t_has t_p_firstAt t_firstAt t_p_fullAt t_fullAt t_p_pressures t_pressures t_place t_fillTicks t_ticks t_coolTicks t_why, wk1 g o1_p o1_cavities o1_p_volumes o1_volumes o1_p_drags o1_drags o1_p_freezes o1_freezes o1_cores o1_p_ahead o1_ahead o1_stages o1_p_places o1_places o1_p_speeds o1_speeds o1_p_settings o1_settings]) s.heap.size = A at hD hG ⊢
  have hA : ∀ q : Nat, s.heap.size ≤ q → A q := fun q h => by rw [← hAe]; exact Or.inr h
  have hS : va_S A s.heap s.heap [] := va_S.rf
  have hin1 : ∀ w ∈ u_ws RX1 TX1 10, w ∈ wsX2_isShort := by decide +kernel
  have hin2 : ∀ w ∈ u_ws RX2 TX2 9, w ∈ wsX2_isShort := by decide +kernel
  have L1 := hts (Cond.fieldLink RX2 9 "MouldShots$Shot" "has" "[I") (by decide +kernel)
  have w_2 : ∀ n : Nat, ∀ (v2 : Int32)  (H : Heap) (locs : List Loc) (ls : Array Slot), f2_isShort_2  N n v2 t_has o1_cavities o1_volumes = some res → va_P g.1 vwCl (fl [wk2 g t_p t_p_has t_has t_p_firstAt t_firstAt t_p_fullAt t_fullAt t_p_pressures t_pressures t_place t_fillTicks t_ticks t_coolTicks t_why, wk1 g o1_p o1_cavities o1_p_volumes o1_volumes o1_p_drags o1_drags o1_p_freezes o1_freezes o1_cores o1_p_ahead o1_ahead o1_stages o1_p_places o1_places o1_p_speeds o1_speeds o1_p_settings o1_settings]) H → va_D A (fl [wk2 g t_p t_p_has t_has t_p_firstAt t_firstAt t_p_fullAt t_fullAt t_p_pressures t_pressures t_place t_fillTicks t_ticks t_coolTicks t_why, wk1 g o1_p o1_cavities o1_p_volumes o1_volumes o1_p_drags o1_drags o1_p_freezes o1_freezes o1_cores o1_p_ahead o1_ahead o1_stages o1_p_places o1_places o1_p_speeds o1_speeds o1_p_settings o1_settings]) → va_S A s.heap H locs → lv_has ls 3 [(0, .ref t_p), (1, .ref o1_p), (2, .int v2)] → W p l e ({ frames := 0, cells := 0, slots := 0, locals := 0 }) s m ([.ref t_p, .ref o1_p] : List Value).toArray below meth c H locs 0 0 (MQ below (pQi g (fun r => r = res) (fl [wk2 g t_p t_p_has t_has t_p_firstAt t_firstAt t_p_fullAt t_fullAt t_p_pressures t_pressures t_place t_fillTicks t_ticks t_coolTicks t_why, wk1 g o1_p o1_cavities o1_p_volumes o1_volumes o1_p_drags o1_drags o1_p_freezes o1_freezes o1_cores o1_p_ahead o1_ahead o1_stages o1_p_places o1_places o1_p_speeds o1_speeds o1_p_settings o1_settings]) A) ([.ref t_p, .ref o1_p] : List Value).toArray s 0 0 A) (F0 m 2 ls []) := by
    intro  n
    induction n with
    | zero => intro v2 H locs ls hf; exact no_some hf
    | succ n ih =>
      intro v2 H locs ls hf hP hD hS hl
      rw [f2_isShort_2] at hf
      refine lv_iload_n hx hb dX2_isShort_2 rfl (lv_at hl 2 rfl) ?_
      refine lv_aload_n hx hb dX2_isShort_3 rfl (lv_at hl 1 rfl) ?_
      refine va_getN (D := g.1) (ci := 1) (v := .int o1_cavities) (C := RX1) (T := TX1) (N := 10) hx hb hts hin1 hown hK.1 hP 5 rfl rfl 0 (by decide) (hK.use _ 39 rfl) (fun _ h9 => h9) rfl dX2_isShort_4 ?_
      refine lv_icmp_ge (tgt := 33) hx hb dX2_isShort_7 (by decide) (fun c_1 => ?_) (fun c_1 => ?_)
      · replace hf := (if_pos c_1).symm.trans hf
        refine lv_iconst (v := 0) hx hb dX2_isShort_33 (by decide) ?_
        replace hf := Option.some.inj hf
        subst hf
        exact W.zret (v := 0) hx hb hr rfl (fun t ht hW => ⟨⟨_, (), rfl, rfl, by show va_P g.1 vwCl _ t.heap; rw [ht]; exact hP⟩, hS.F ht⟩) hS.2.2 dX2_isShort_34 hlocks
      · replace hf := (if_neg c_1).symm.trans hf
        refine lv_aload_n hx hb dX2_isShort_10 rfl (lv_at hl 0 rfl) ?_
        refine va_get (D := g.1) (ci := 2) (v := .ref t_p_has) (C := RX2) (T := TX2) (N := 9) hx hb hts hin2 hown hK.1 hP 0 rfl rfl 0 (by decide) L1 (fun _ h9 => h9) rfl dX2_isShort_11 ?_
        refine lv_iload_n hx hb dX2_isShort_14 rfl (lv_at hl 2 rfl) ?_
        obtain ⟨h_2, hf⟩ := if_some hf
        refine va_iald hx hb hK.1 hP 1 0 rfl rfl (ok_in h_2) dX2_isShort_15 ?_
        refine lv_aload_n hx hb dX2_isShort_16 rfl (lv_at hl 1 rfl) ?_
        refine va_getN (D := g.1) (ci := 1) (v := .ref o1_p_volumes) (C := RX1) (T := TX1) (N := 10) hx hb hts hin1 hown hK.1 hP 5 rfl rfl 1 (by decide) (hK.use _ 32 rfl) (fun _ h9 => h9) rfl dX2_isShort_17 ?_
        refine lv_iload_n hx hb dX2_isShort_20 rfl (lv_at hl 2 rfl) ?_
        obtain ⟨h_3, hf⟩ := if_some hf
        refine va_iald hx hb hK.1 hP 6 0 rfl rfl (ok_in h_3) dX2_isShort_21 ?_
        refine lv_icmp_ge (tgt := 27) hx hb dX2_isShort_22 (by decide) (fun c_4 => ?_) (fun c_4 => ?_)
        · replace hf := (if_pos c_4).symm.trans hf
          refine lv_iinc (v := v2 + 1) (lv' := [(2, .int (v2 + 1)), (0, .ref t_p), (1, .ref o1_p)]) hx hb dX2_isShort_27 hl (k := 2) rfl rfl (by decide) rfl (fun ls hl => ?_)
          refine lv_goto (tgt := 2) hx hb dX2_isShort_30 (by decide) ?_
          exact ih (v2 + 1) H locs ls hf hP hD hS (lv_sub hl [1, 2, 0] rfl)
        · replace hf := (if_neg c_4).symm.trans hf
          refine lv_iconst (v := 1) hx hb dX2_isShort_25 (by decide) ?_
          replace hf := Option.some.inj hf
          subst hf
          exact W.zret (v := 1) hx hb hr rfl (fun t ht hW => ⟨⟨_, (), rfl, rfl, by show va_P g.1 vwCl _ t.heap; rw [ht]; exact hP⟩, hS.F ht⟩) hS.2.2 dX2_isShort_26 hlocks
  have hl := lv_entry ([.ref t_p, .ref o1_p]) (n := 3) (Nat.le_of_ble_eq_true rfl)
  rw [lg_entry_eq]
  generalize (lg_sl ([.ref t_p, .ref o1_p]) ++ List.replicate (3 - (lg_sl ([.ref t_p, .ref o1_p])).length) Slot.unset).toArray = ls at hl ⊢
  replace hl : lv_has ls 3 [(0, .ref t_p), (1, .ref o1_p)] := hl
  rw [f2_isShort] at hf
  have hgo : ∀ (H : Heap) (locs : List Loc), H = s.heap → locs = [] → va_P g.1 vwCl (fl [wk2 g t_p t_p_has t_has t_p_firstAt t_firstAt t_p_fullAt t_fullAt t_p_pressures t_pressures t_place t_fillTicks t_ticks t_coolTicks t_why, wk1 g o1_p o1_cavities o1_p_volumes o1_volumes o1_p_drags o1_drags o1_p_freezes o1_freezes o1_cores o1_p_ahead o1_ahead o1_stages o1_p_places o1_places o1_p_speeds o1_speeds o1_p_settings o1_settings]) H → va_S A s.heap H locs → W p l e ({ frames := 0, cells := 0, slots := 0, locals := 0 }) s m ([.ref t_p, .ref o1_p] : List Value).toArray below meth c H locs 0 0 (MQ below (pQi g (fun r => r = res) (fl [wk2 g t_p t_p_has t_has t_p_firstAt t_firstAt t_p_fullAt t_fullAt t_p_pressures t_pressures t_place t_fillTicks t_ticks t_coolTicks t_why, wk1 g o1_p o1_cavities o1_p_volumes o1_volumes o1_p_drags o1_drags o1_p_freezes o1_freezes o1_cores o1_p_ahead o1_ahead o1_stages o1_p_places o1_places o1_p_speeds o1_speeds o1_p_settings o1_settings]) A) ([.ref t_p, .ref o1_p] : List Value).toArray s 0 0 A) (F0 m 0 ls []) := by
    intro H locs hH hL hP hS
    refine lv_iconst (v := 0) hx hb dX2_isShort_0 (by decide) ?_
    refine lv_istore_n (lv' := [(2, .int 0), (0, .ref t_p), (1, .ref o1_p)]) hx hb dX2_isShort_1 rfl hl (by decide) rfl (fun ls hl => ?_)
    exact w_2  N 0 H locs ls hf hP hD hS (lv_sub hl [1, 2, 0] rfl)
  exact hgo s.heap [] rfl rfl hP hS

set_option maxHeartbeats 4000000 in
set_option maxRecDepth 100000 in
theorem c2_isFarOff (l : Launch) (g : gG) (t_p : Nat) (t_p_has : Nat) (t_has : (Nat → Int32)) (t_p_firstAt : Nat) (t_firstAt : (Nat → Int32)) (t_p_fullAt : Nat) (t_fullAt : (Nat → Int32)) (t_p_pressures : Nat) (t_pressures : (Nat → Int32)) (t_place : Int32) (t_fillTicks : Int32) (t_ticks : Int32) (t_coolTicks : Int32) (t_why : Int32) (o1_p : Nat) (o1_cavities : Int32) (o1_p_volumes : Nat) (o1_volumes : (Nat → Int32)) (o1_p_drags : Nat) (o1_drags : (Nat → Int32)) (o1_p_freezes : Nat) (o1_freezes : (Nat → Int32)) (o1_cores : Int32) (o1_p_ahead : Nat) (o1_ahead : (Nat → Int32)) (o1_stages : Int32) (o1_p_places : Nat) (o1_places : (Nat → Int32)) (o1_p_speeds : Nat) (o1_speeds : (Nat → Int32)) (o1_p_settings : Nat) (o1_settings : (Nat → Int32)) (sz : Nat) (N : Nat) (res : (Int32)) (hf : f2_isFarOff N t_has o1_cavities o1_volumes = some res) : Met l yX2_isFarOff wsX2_isFarOff ({ frames := 1, cells := 0, slots := 0, locals := 21 }) (pP g [.ref t_p, .ref o1_p] sz (fl [wk2 g t_p t_p_has t_has t_p_firstAt t_firstAt t_p_fullAt t_fullAt t_p_pressures t_pressures t_place t_fillTicks t_ticks t_coolTicks t_why, wk1 g o1_p o1_cavities o1_p_volumes o1_volumes o1_p_drags o1_drags o1_p_freezes o1_freezes o1_cores o1_p_ahead o1_ahead o1_stages o1_p_places o1_places o1_p_speeds o1_speeds o1_p_settings o1_settings])) (pQi g (fun r => r = res) (fl [wk2 g t_p t_p_has t_has t_p_firstAt t_firstAt t_p_fullAt t_fullAt t_p_pressures t_pressures t_place t_fillTicks t_ticks t_coolTicks t_why, wk1 g o1_p o1_cavities o1_p_volumes o1_volumes o1_p_drags o1_drags o1_p_freezes o1_freezes o1_cores o1_p_ahead o1_ahead o1_stages o1_p_places o1_places o1_p_speeds o1_speeds o1_p_settings o1_settings]) (va_A (fl [wk2 g t_p t_p_has t_has t_p_firstAt t_firstAt t_p_fullAt t_fullAt t_p_pressures t_pressures t_place t_fillTicks t_ticks t_coolTicks t_why, wk1 g o1_p o1_cavities o1_p_volumes o1_volumes o1_p_drags o1_drags o1_p_freezes o1_freezes o1_cores o1_p_ahead o1_ahead o1_stages o1_p_places o1_places o1_p_speeds o1_speeds o1_p_settings o1_settings]) sz)) 0 0 (va_A (fl [wk2 g t_p t_p_has t_has t_p_firstAt t_firstAt t_p_fullAt t_fullAt t_p_pressures t_pressures t_place t_fillTicks t_ticks t_coolTicks t_why, wk1 g o1_p o1_cavities o1_p_volumes o1_volumes o1_p_drags o1_drags o1_p_freezes o1_freezes o1_cores o1_p_ahead o1_ahead o1_stages o1_p_places o1_places o1_p_speeds o1_speeds o1_p_settings o1_settings]) sz) := by
  refine Met.ofW (cc := cX2_isFarOff) (maxL := 3) (ret := (some .boolean)) (by decide) rfl ?_
  intro p e s m args below meth c s₁ B hml hv
  obtain ⟨rfl, hsz, hP, hK, hD0, hG⟩ := hv
  have hx := B.exec
  have hb := B.bytes
  have hr := B.returns
  have hts := atoms_spec (ws := wsX2_isFarOff) B.pre
  have hown : s.vm.findClass RX2 = some m.cls := findClass_of_methodNamed B.named
  have hlocks := B.notSynchronized
  subst hsz
  have hD := hD0.self (sz := s.heap.size)
  generalize hAe : va_A (fl [wk2 g t_p t_p_has t_has t_p_firstAt t_firstAt t_p_fullAt t_fullAt t_p_pressures t_pressures t_place t_fillTicks t_ticks t_coolTicks t_why, wk1 g o1_p o1_cavities o1_p_volumes o1_volumes o1_p_drags o1_drags o1_p_freezes o1_freezes o1_cores o1_p_ahead o1_ahead o1_stages o1_p_places o1_places o1_p_speeds o1_speeds o1_p_settings o1_settings]) s.heap.size = A at hD hG ⊢
  have hA : ∀ q : Nat, s.heap.size ≤ q → A q := fun q h => by rw [← hAe]; exact Or.inr h
  have hS : va_S A s.heap s.heap [] := va_S.rf
  have hin1 : ∀ w ∈ u_ws RX1 TX1 10, w ∈ wsX2_isFarOff := by decide +kernel
  have hin2 : ∀ w ∈ u_ws RX2 TX2 9, w ∈ wsX2_isFarOff := by decide +kernel
  have L1 := hts (Cond.fieldLink RX2 9 "MouldShots$Shot" "has" "[I") (by decide +kernel)
  have L2 := hts (Cond.methodLink RX2 122 Lib.Math.abs.name) (by decide +kernel)
  have L3 := hts (Cond.static Lib.Math.abs.name) (by decide +kernel)
  have L4 := hts (Cond.initialized "java/lang/Math") (by decide +kernel)
  have L5 := hts (Cond.code Lib.Math.abs.name Lib.Math.abs.code 1 (some .int)) (by decide +kernel)
  have w_2 : ∀ n : Nat, ∀ (v2 : Int32)  (H : Heap) (locs : List Loc) (ls : Array Slot), f2_isFarOff_2  N n v2 t_has o1_cavities o1_volumes = some res → va_P g.1 vwCl (fl [wk2 g t_p t_p_has t_has t_p_firstAt t_firstAt t_p_fullAt t_fullAt t_p_pressures t_pressures t_place t_fillTicks t_ticks t_coolTicks t_why, wk1 g o1_p o1_cavities o1_p_volumes o1_volumes o1_p_drags o1_drags o1_p_freezes o1_freezes o1_cores o1_p_ahead o1_ahead o1_stages o1_p_places o1_places o1_p_speeds o1_speeds o1_p_settings o1_settings]) H → va_D A (fl [wk2 g t_p t_p_has t_has t_p_firstAt t_firstAt t_p_fullAt t_fullAt t_p_pressures t_pressures t_place t_fillTicks t_ticks t_coolTicks t_why, wk1 g o1_p o1_cavities o1_p_volumes o1_volumes o1_p_drags o1_drags o1_p_freezes o1_freezes o1_cores o1_p_ahead o1_ahead o1_stages o1_p_places o1_places o1_p_speeds o1_speeds o1_p_settings o1_settings]) → va_S A s.heap H locs → lv_has ls 3 [(0, .ref t_p), (1, .ref o1_p), (2, .int v2)] → W p l e ({ frames := 1, cells := 0, slots := 0, locals := 21 }) s m ([.ref t_p, .ref o1_p] : List Value).toArray below meth c H locs 0 0 (MQ below (pQi g (fun r => r = res) (fl [wk2 g t_p t_p_has t_has t_p_firstAt t_firstAt t_p_fullAt t_fullAt t_p_pressures t_pressures t_place t_fillTicks t_ticks t_coolTicks t_why, wk1 g o1_p o1_cavities o1_p_volumes o1_volumes o1_p_drags o1_drags o1_p_freezes o1_freezes o1_cores o1_p_ahead o1_ahead o1_stages o1_p_places o1_places o1_p_speeds o1_speeds o1_p_settings o1_settings]) A) ([.ref t_p, .ref o1_p] : List Value).toArray s 0 0 A) (F0 m 2 ls []) := by
    intro  n
    induction n with
    | zero => intro v2 H locs ls hf; exact no_some hf
    | succ n ih =>
      intro v2 H locs ls hf hP hD hS hl
      rw [f2_isFarOff_2] at hf
      refine lv_iload_n hx hb dX2_isFarOff_2 rfl (lv_at hl 2 rfl) ?_
      refine lv_aload_n hx hb dX2_isFarOff_3 rfl (lv_at hl 1 rfl) ?_
      refine va_getN (D := g.1) (ci := 1) (v := .int o1_cavities) (C := RX1) (T := TX1) (N := 10) hx hb hts hin1 hown hK.1 hP 5 rfl rfl 0 (by decide) (hK.use _ 39 rfl) (fun _ h9 => h9) rfl dX2_isFarOff_4 ?_
      refine lv_icmp_ge (tgt := 38) hx hb dX2_isFarOff_7 (by decide) (fun c_1 => ?_) (fun c_1 => ?_)
      · replace hf := (if_pos c_1).symm.trans hf
        refine lv_iconst (v := 0) hx hb dX2_isFarOff_38 (by decide) ?_
        replace hf := Option.some.inj hf
        subst hf
        exact W.zret (v := 0) hx hb hr rfl (fun t ht hW => ⟨⟨_, (), rfl, rfl, by show va_P g.1 vwCl _ t.heap; rw [ht]; exact hP⟩, hS.F ht⟩) hS.2.2 dX2_isFarOff_39 hlocks
      · replace hf := (if_neg c_1).symm.trans hf
        refine lv_aload_n hx hb dX2_isFarOff_10 rfl (lv_at hl 0 rfl) ?_
        refine va_get (D := g.1) (ci := 2) (v := .ref t_p_has) (C := RX2) (T := TX2) (N := 9) hx hb hts hin2 hown hK.1 hP 0 rfl rfl 0 (by decide) L1 (fun _ h9 => h9) rfl dX2_isFarOff_11 ?_
        refine lv_iload_n hx hb dX2_isFarOff_14 rfl (lv_at hl 2 rfl) ?_
        obtain ⟨h_2, hf⟩ := if_some hf
        refine va_iald hx hb hK.1 hP 1 0 rfl rfl (ok_in h_2) dX2_isFarOff_15 ?_
        refine lv_aload_n hx hb dX2_isFarOff_16 rfl (lv_at hl 1 rfl) ?_
        refine va_getN (D := g.1) (ci := 1) (v := .ref o1_p_volumes) (C := RX1) (T := TX1) (N := 10) hx hb hts hin1 hown hK.1 hP 5 rfl rfl 1 (by decide) (hK.use _ 32 rfl) (fun _ h9 => h9) rfl dX2_isFarOff_17 ?_
        refine lv_iload_n hx hb dX2_isFarOff_20 rfl (lv_at hl 2 rfl) ?_
        obtain ⟨h_3, hf⟩ := if_some hf
        refine va_iald hx hb hK.1 hP 6 0 rfl rfl (ok_in h_3) dX2_isFarOff_21 ?_
        refine lv_isub hx hb dX2_isFarOff_22 ?_
        refine va_mabs hx hb (hml.trans hl.1.symm) hown L2 L3 L4 L5 (Nat.le_of_ble_eq_true rfl) (Nat.le_of_ble_eq_true rfl) (Nat.zero_le _) (Nat.zero_le _) dX2_isFarOff_23 ?_
        refine lv_iconst (v := 2) hx hb dX2_isFarOff_26 (by decide) ?_
        refine lv_icmp_lt (tgt := 32) hx hb dX2_isFarOff_27 (by decide) (fun c_4 => ?_) (fun c_4 => ?_)
        · replace hf := (if_pos c_4).symm.trans hf
          refine lv_iinc (v := v2 + 1) (lv' := [(2, .int (v2 + 1)), (0, .ref t_p), (1, .ref o1_p)]) hx hb dX2_isFarOff_32 hl (k := 2) rfl rfl (by decide) rfl (fun ls hl => ?_)
          refine lv_goto (tgt := 2) hx hb dX2_isFarOff_35 (by decide) ?_
          exact ih (v2 + 1) H locs ls hf hP hD hS (lv_sub hl [1, 2, 0] rfl)
        · replace hf := (if_neg c_4).symm.trans hf
          refine lv_iconst (v := 1) hx hb dX2_isFarOff_30 (by decide) ?_
          replace hf := Option.some.inj hf
          subst hf
          exact W.zret (v := 1) hx hb hr rfl (fun t ht hW => ⟨⟨_, (), rfl, rfl, by show va_P g.1 vwCl _ t.heap; rw [ht]; exact hP⟩, hS.F ht⟩) hS.2.2 dX2_isFarOff_31 hlocks
  have hl := lv_entry ([.ref t_p, .ref o1_p]) (n := 3) (Nat.le_of_ble_eq_true rfl)
  rw [lg_entry_eq]
  generalize (lg_sl ([.ref t_p, .ref o1_p]) ++ List.replicate (3 - (lg_sl ([.ref t_p, .ref o1_p])).length) Slot.unset).toArray = ls at hl ⊢
  replace hl : lv_has ls 3 [(0, .ref t_p), (1, .ref o1_p)] := hl
  rw [f2_isFarOff] at hf
  have hgo : ∀ (H : Heap) (locs : List Loc), H = s.heap → locs = [] → va_P g.1 vwCl (fl [wk2 g t_p t_p_has t_has t_p_firstAt t_firstAt t_p_fullAt t_fullAt t_p_pressures t_pressures t_place t_fillTicks t_ticks t_coolTicks t_why, wk1 g o1_p o1_cavities o1_p_volumes o1_volumes o1_p_drags o1_drags o1_p_freezes o1_freezes o1_cores o1_p_ahead o1_ahead o1_stages o1_p_places o1_places o1_p_speeds o1_speeds o1_p_settings o1_settings]) H → va_S A s.heap H locs → W p l e ({ frames := 1, cells := 0, slots := 0, locals := 21 }) s m ([.ref t_p, .ref o1_p] : List Value).toArray below meth c H locs 0 0 (MQ below (pQi g (fun r => r = res) (fl [wk2 g t_p t_p_has t_has t_p_firstAt t_firstAt t_p_fullAt t_fullAt t_p_pressures t_pressures t_place t_fillTicks t_ticks t_coolTicks t_why, wk1 g o1_p o1_cavities o1_p_volumes o1_volumes o1_p_drags o1_drags o1_p_freezes o1_freezes o1_cores o1_p_ahead o1_ahead o1_stages o1_p_places o1_places o1_p_speeds o1_speeds o1_p_settings o1_settings]) A) ([.ref t_p, .ref o1_p] : List Value).toArray s 0 0 A) (F0 m 0 ls []) := by
    intro H locs hH hL hP hS
    refine lv_iconst (v := 0) hx hb dX2_isFarOff_0 (by decide) ?_
    refine lv_istore_n (lv' := [(2, .int 0), (0, .ref t_p), (1, .ref o1_p)]) hx hb dX2_isFarOff_1 rfl hl (by decide) rfl (fun ls hl => ?_)
    exact w_2  N 0 H locs ls hf hP hD hS (lv_sub hl [1, 2, 0] rfl)
  exact hgo s.heap [] rfl rfl hP hS
