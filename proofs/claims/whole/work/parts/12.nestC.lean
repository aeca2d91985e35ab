set_option maxHeartbeats 4000000 in
set_option maxRecDepth 100000 in
theorem c3_startWith (l : Launch) (g : gG) (t_p : Nat) (t_p_drags : Nat) (t_drags : (Nat → Int32)) (t_p_speeds : Nat) (t_speeds : (Nat → Int32)) (t_p_settings : Nat) (t_settings : (Nat → Int32)) (t_shut : Int32) (t_coresIn : Int32) (t_loaded : Int32) (t_hot : Int32) (t_made : Int32) (t_width : Int32) (t_p_taught : Nat) (tB_teachers : Int32) (tB_shortest : Int32) (tB_longest : Int32) (tB_p_least : Nat) (tB_least : (Nat → Int32)) (tB_p_greatest : Nat) (tB_greatest : (Nat → Int32)) (o1_p : Nat) (o1_cavities : Int32) (o1_p_volumes : Nat) (o1_volumes : (Nat → Int32)) (o1_p_drags : Nat) (o1_drags : (Nat → Int32)) (o1_p_freezes : Nat) (o1_freezes : (Nat → Int32)) (o1_cores : Int32) (o1_p_ahead : Nat) (o1_ahead : (Nat → Int32)) (o1_stages : Int32) (o1_p_places : Nat) (o1_places : (Nat → Int32)) (o1_p_speeds : Nat) (o1_speeds : (Nat → Int32)) (o1_p_settings : Nat) (o1_settings : (Nat → Int32)) (sz : Nat) (N : Nat) (res : Unit) (hf : f3_startWith N  = some res) : Met l yX3_startWith wsX3_startWith ({ frames := 1, cells := 0, slots := 0, locals := 43 }) (pP g [.ref t_p, .ref o1_p] sz (fl [wk3 g t_p t_p_drags t_drags t_p_speeds t_speeds t_p_settings t_settings t_shut t_coresIn t_loaded t_hot t_made t_width t_p_taught, wk0 g t_p_taught tB_teachers tB_shortest tB_longest tB_p_least tB_least tB_p_greatest tB_greatest, wk1 g o1_p o1_cavities o1_p_volumes o1_volumes o1_p_drags o1_drags o1_p_freezes o1_freezes o1_cores o1_p_ahead o1_ahead o1_stages o1_p_places o1_places o1_p_speeds o1_speeds o1_p_settings o1_settings])) (pQv g (fl [wk3 g t_p t_p_drags (va_cpy o1_drags t_drags (Int32.toNatClampNeg 0) (Int32.toNatClampNeg 0) (Int32.toNatClampNeg 6)) t_p_speeds (va_cpy o1_speeds t_speeds (Int32.toNatClampNeg 0) (Int32.toNatClampNeg 0) (Int32.toNatClampNeg 4)) t_p_settings (va_cpy o1_settings t_settings (Int32.toNatClampNeg 0) (Int32.toNatClampNeg 0) (Int32.toNatClampNeg 6)) 0 0 0 0 0 2 t_p_taught, wk0 g t_p_taught 0 0 0 tB_p_least tB_least tB_p_greatest tB_greatest, wk1 g o1_p o1_cavities o1_p_volumes o1_volumes o1_p_drags o1_drags o1_p_freezes o1_freezes o1_cores o1_p_ahead o1_ahead o1_stages o1_p_places o1_places o1_p_speeds o1_speeds o1_p_settings o1_settings]) (va_A (fl [wk3 g t_p t_p_drags t_drags t_p_speeds t_speeds t_p_settings t_settings t_shut t_coresIn t_loaded t_hot t_made t_width t_p_taught, wk0 g t_p_taught tB_teachers tB_shortest tB_longest tB_p_least tB_least tB_p_greatest tB_greatest, wk1 g o1_p o1_cavities o1_p_volumes o1_volumes o1_p_drags o1_drags o1_p_freezes o1_freezes o1_cores o1_p_ahead o1_ahead o1_stages o1_p_places o1_places o1_p_speeds o1_speeds o1_p_settings o1_settings]) sz)) 0 0 (va_A (fl [wk3 g t_p t_p_drags t_drags t_p_speeds t_speeds t_p_settings t_settings t_shut t_coresIn t_loaded t_hot t_made t_width t_p_taught, wk0 g t_p_taught tB_teachers tB_shortest tB_longest tB_p_least tB_least tB_p_greatest tB_greatest, wk1 g o1_p o1_cavities o1_p_volumes o1_volumes o1_p_drags o1_drags o1_p_freezes o1_freezes o1_cores o1_p_ahead o1_ahead o1_stages o1_p_places o1_places o1_p_speeds o1_speeds o1_p_settings o1_settings]) sz) := by
  refine Met.ofW (cc := cX3_startWith) (maxL := 2) (ret := none) (by decide) rfl ?_
  intro p e s m args below meth c s₁ B hml hv
  obtain ⟨rfl, hsz, hP, hK, hD0, hG⟩ := hv
  have hx := B.exec
  have hb := B.bytes
  have hr := B.returns
  have hts := atoms_spec (ws := wsX3_startWith) B.pre
  have hown : s.vm.findClass RX3 = some m.cls := findClass_of_methodNamed B.named
  have hlocks := B.notSynchronized
  subst hsz
  have hD := hD0.self (sz := s.heap.size)
  generalize hAe : va_A (fl [wk3 g t_p t_p_drags t_drags t_p_speeds t_speeds t_p_settings t_settings t_shut t_coresIn t_loaded t_hot t_made t_width t_p_taught, wk0 g t_p_taught tB_teachers tB_shortest tB_longest tB_p_least tB_least tB_p_greatest tB_greatest, wk1 g o1_p o1_cavities o1_p_volumes o1_volumes o1_p_drags o1_drags o1_p_freezes o1_freezes o1_cores o1_p_ahead o1_ahead o1_stages o1_p_places o1_places o1_p_speeds o1_speeds o1_p_settings o1_settings]) s.heap.size = A at hD hG ⊢
  have hA : ∀ q : Nat, s.heap.size ≤ q → A q := fun q h => by rw [← hAe]; exact Or.inr h
  have hS : va_S A s.heap s.heap [] := va_S.rf
  have hin1 : ∀ w ∈ u_ws RX1 TX1 10, w ∈ wsX3_startWith := by decide +kernel
  have hin3 : ∀ w ∈ u_ws RX3 TX3 10, w ∈ wsX3_startWith := by decide +kernel
  have L1 := hts (Cond.fieldLink RX3 9 "MouldShots$State" "drags" "[I") (by decide +kernel)
  have L2 := hts (Cond.methodLink RX3 51 arraycopyName) (by decide +kernel)
  have L3 := hts (Cond.native arraycopyName) (by decide +kernel)
  have L4 := hts (Cond.static arraycopyName) (by decide +kernel)
  have L5 := hts (Cond.initialized "java/lang/System") (by decide +kernel)
  have L6 := hts (Cond.fieldLink RX3 15 "MouldShots$State" "speeds" "[I") (by decide +kernel)
  have L7 := hts (Cond.fieldLink RX3 18 "MouldShots$State" "settings" "[I") (by decide +kernel)
  have L8 := hts (Cond.fieldLink RX3 21 "MouldShots$State" "shut" "Z") (by decide +kernel)
  have L9 := hts (Cond.fieldLink RX3 25 "MouldShots$State" "coresIn" "I") (by decide +kernel)
  have L10 := hts (Cond.fieldLink RX3 29 "MouldShots$State" "loaded" "Z") (by decide +kernel)
  have L11 := hts (Cond.fieldLink RX3 32 "MouldShots$State" "hot" "Z") (by decide +kernel)
  have L12 := hts (Cond.fieldLink RX3 35 "MouldShots$State" "made" "I") (by decide +kernel)
  have L13 := hts (Cond.fieldLink RX3 38 "MouldShots$State" "width" "I") (by decide +kernel)
  have L14 := hts (Cond.fieldLink RX3 44 "MouldShots$State" "taught" "LMouldShots$Band;") (by decide +kernel)
  have L15 := hts (Cond.initialized RX0) (by decide +kernel)
  have L16 := hts (Cond.instanceMethod yX0_clear) (by decide +kernel)
  have L17 := hts (Cond.selects RX0 yX0_clear yX0_clear) (by decide +kernel)
  have hl := lv_entry ([.ref t_p, .ref o1_p]) (n := 2) (Nat.le_of_ble_eq_true rfl)
  rw [lg_entry_eq]
  generalize (lg_sl ([.ref t_p, .ref o1_p]) ++ List.replicate (2 - (lg_sl ([.ref t_p, .ref o1_p])).length) Slot.unset).toArray = ls at hl ⊢
  replace hl : lv_has ls 2 [(0, .ref t_p), (1, .ref o1_p)] := hl
  rw [f3_startWith] at hf
  have hgo : ∀ (H : Heap) (locs : List Loc), H = s.heap → locs = [] → va_P g.1 vwCl (fl [wk3 g t_p t_p_drags t_drags t_p_speeds t_speeds t_p_settings t_settings t_shut t_coresIn t_loaded t_hot t_made t_width t_p_taught, wk0 g t_p_taught tB_teachers tB_shortest tB_longest tB_p_least tB_least tB_p_greatest tB_greatest, wk1 g o1_p o1_cavities o1_p_volumes o1_volumes o1_p_drags o1_drags o1_p_freezes o1_freezes o1_cores o1_p_ahead o1_ahead o1_stages o1_p_places o1_places o1_p_speeds o1_speeds o1_p_settings o1_settings]) H → va_S A s.heap H locs → W p l e ({ frames := 1, cells := 0, slots := 0, locals := 43 }) s m ([.ref t_p, .ref o1_p] : List Value).toArray below meth c H locs 0 0 (MQ below (pQv g (fl [wk3 g t_p t_p_drags (va_cpy o1_drags t_drags (Int32.toNatClampNeg 0) (Int32.toNatClampNeg 0) (Int32.toNatClampNeg 6)) t_p_speeds (va_cpy o1_speeds t_speeds (Int32.toNatClampNeg 0) (Int32.toNatClampNeg 0) (Int32.toNatClampNeg 4)) t_p_settings (va_cpy o1_settings t_settings (Int32.toNatClampNeg 0) (Int32.toNatClampNeg 0) (Int32.toNatClampNeg 6)) 0 0 0 0 0 2 t_p_taught, wk0 g t_p_taught 0 0 0 tB_p_least tB_least tB_p_greatest tB_greatest, wk1 g o1_p o1_cavities o1_p_volumes o1_volumes o1_p_drags o1_drags o1_p_freezes o1_freezes o1_cores o1_p_ahead o1_ahead o1_stages o1_p_places o1_places o1_p_speeds o1_speeds o1_p_settings o1_settings]) A) ([.ref t_p, .ref o1_p] : List Value).toArray s 0 0 A) (F0 m 0 ls []) := by
    intro H locs hH hL hP hS
    refine lv_aload_n hx hb dX3_startWith_0 rfl (lv_at hl 1 rfl) ?_
    refine va_getN (D := g.1) (ci := 1) (v := .ref o1_p_drags) (C := RX1) (T := TX1) (N := 10) hx hb hts hin1 hown hK.1 hP 7 rfl rfl 2 (by decide) (hK.use _ 40 rfl) (fun _ h9 => h9) rfl dX3_startWith_1 ?_
    refine lv_iconst (v := 0) hx hb dX3_startWith_4 (by decide) ?_
    refine lv_aload_n hx hb dX3_startWith_5 rfl (lv_at hl 0 rfl) ?_
    refine va_get (D := g.1) (ci := 3) (v := .ref t_p_drags) (C := RX3) (T := TX3) (N := 10) hx hb hts hin3 hown hK.1 hP 0 rfl rfl 0 (by decide) L1 (fun _ h9 => h9) rfl dX3_startWith_6 ?_
    refine lv_iconst (v := 0) hx hb dX3_startWith_9 (by decide) ?_
    refine lv_bipush (v := 6) hx hb dX3_startWith_10 (by decide) ?_
    refine va_copyi (ty := .int) hx hb (hml.trans hl.1.symm) hown L2 L3 L4 L5 hK.1 hP hD hS 9 1 0 0 rfl rfl rfl rfl rfl (by decide) (by decide) (by decide) (by decide) (by decide) (fun _ _ => rfl) (Nat.le_of_ble_eq_true rfl) (Nat.le_of_ble_eq_true rfl) dX3_startWith_12 (fun H locs hP hD hS => ?_)
    replace hP : va_P g.1 vwCl (fl [wk3 g t_p t_p_drags (va_cpy o1_drags t_drags (Int32.toNatClampNeg 0) (Int32.toNatClampNeg 0) (Int32.toNatClampNeg 6)) t_p_speeds t_speeds t_p_settings t_settings t_shut t_coresIn t_loaded t_hot t_made t_width t_p_taught, wk0 g t_p_taught tB_teachers tB_shortest tB_longest tB_p_least tB_least tB_p_greatest tB_greatest, wk1 g o1_p o1_cavities o1_p_volumes o1_volumes o1_p_drags o1_drags o1_p_freezes o1_freezes o1_cores o1_p_ahead o1_ahead o1_stages o1_p_places o1_places o1_p_speeds o1_speeds o1_p_settings o1_settings]) H := hP
    replace hD : va_D A (fl [wk3 g t_p t_p_drags (va_cpy o1_drags t_drags (Int32.toNatClampNeg 0) (Int32.toNatClampNeg 0) (Int32.toNatClampNeg 6)) t_p_speeds t_speeds t_p_settings t_settings t_shut t_coresIn t_loaded t_hot t_made t_width t_p_taught, wk0 g t_p_taught tB_teachers tB_shortest tB_longest tB_p_least tB_least tB_p_greatest tB_greatest, wk1 g o1_p o1_cavities o1_p_volumes o1_volumes o1_p_drags o1_drags o1_p_freezes o1_freezes o1_cores o1_p_ahead o1_ahead o1_stages o1_p_places o1_places o1_p_speeds o1_speeds o1_p_settings o1_settings]) := hD
    refine lv_aload_n hx hb dX3_startWith_15 rfl (lv_at hl 1 rfl) ?_
    refine va_getN (D := g.1) (ci := 1) (v := .ref o1_p_speeds) (C := RX1) (T := TX1) (N := 10) hx hb hts hin1 hown hK.1 hP 7 rfl rfl 8 (by decide) (hK.use _ 41 rfl) (fun _ h9 => h9) rfl dX3_startWith_16 ?_
    refine lv_iconst (v := 0) hx hb dX3_startWith_19 (by decide) ?_
    refine lv_aload_n hx hb dX3_startWith_20 rfl (lv_at hl 0 rfl) ?_
    refine va_get (D := g.1) (ci := 3) (v := .ref t_p_speeds) (C := RX3) (T := TX3) (N := 10) hx hb hts hin3 hown hK.1 hP 0 rfl rfl 1 (by decide) L6 (fun _ h9 => h9) rfl dX3_startWith_21 ?_
    refine lv_iconst (v := 0) hx hb dX3_startWith_24 (by decide) ?_
    refine lv_iconst (v := 4) hx hb dX3_startWith_25 (by decide) ?_
    refine va_copyi (ty := .int) hx hb (hml.trans hl.1.symm) hown L2 L3 L4 L5 hK.1 hP hD hS 13 2 0 0 rfl rfl rfl rfl rfl (by decide) (by decide) (by decide) (by decide) (by decide) (fun _ _ => rfl) (Nat.le_of_ble_eq_true rfl) (Nat.le_of_ble_eq_true rfl) dX3_startWith_26 (fun H locs hP hD hS => ?_)
    replace hP : va_P g.1 vwCl (fl [wk3 g t_p t_p_drags (va_cpy o1_drags t_drags (Int32.toNatClampNeg 0) (Int32.toNatClampNeg 0) (Int32.toNatClampNeg 6)) t_p_speeds (va_cpy o1_speeds t_speeds (Int32.toNatClampNeg 0) (Int32.toNatClampNeg 0) (Int32.toNatClampNeg 4)) t_p_settings t_settings t_shut t_coresIn t_loaded t_hot t_made t_width t_p_taught, wk0 g t_p_taught tB_teachers tB_shortest tB_longest tB_p_least tB_least tB_p_greatest tB_greatest, wk1 g o1_p o1_cavities o1_p_volumes o1_volumes o1_p_drags o1_drags o1_p_freezes o1_freezes o1_cores o1_p_ahead o1_ahead o1_stages o1_p_places o1_places o1_p_speeds o1_speeds o1_p_settings o1_settings]) H := hP
    replace hD : va_D A (fl [wk3 g t_p t_p_drags (va_cpy o1_drags t_drags (Int32.toNatClampNeg 0) (Int32.toNatClampNeg 0) (Int32.toNatClampNeg 6)) t_p_speeds (va_cpy o1_speeds t_speeds (Int32.toNatClampNeg 0) (Int32.toNatClampNeg 0) (Int32.toNatClampNeg 4)) t_p_settings t_settings t_shut t_coresIn t_loaded t_hot t_made t_width t_p_taught, wk0 g t_p_taught tB_teachers tB_shortest tB_longest tB_p_least tB_least tB_p_greatest tB_greatest, wk1 g o1_p o1_cavities o1_p_volumes o1_volumes o1_p_drags o1_drags o1_p_freezes o1_freezes o1_cores o1_p_ahead o1_ahead o1_stages o1_p_places o1_places o1_p_speeds o1_speeds o1_p_settings o1_settings]) := hD
    refine lv_aload_n hx hb dX3_startWith_29 rfl (lv_at hl 1 rfl) ?_
    refine va_getN (D := g.1) (ci := 1) (v := .ref o1_p_settings) (C := RX1) (T := TX1) (N := 10) hx hb hts hin1 hown hK.1 hP 7 rfl rfl 9 (by decide) (hK.use _ 42 rfl) (fun _ h9 => h9) rfl dX3_startWith_30 ?_
    refine lv_iconst (v := 0) hx hb dX3_startWith_33 (by decide) ?_
    refine lv_aload_n hx hb dX3_startWith_34 rfl (lv_at hl 0 rfl) ?_
    refine va_get (D := g.1) (ci := 3) (v := .ref t_p_settings) (C := RX3) (T := TX3) (N := 10) hx hb hts hin3 hown hK.1 hP 0 rfl rfl 2 (by decide) L7 (fun _ h9 => h9) rfl dX3_startWith_35 ?_
    refine lv_iconst (v := 0) hx hb dX3_startWith_38 (by decide) ?_
    refine lv_bipush (v := 6) hx hb dX3_startWith_39 (by decide) ?_
    refine va_copyi (ty := .int) hx hb (hml.trans hl.1.symm) hown L2 L3 L4 L5 hK.1 hP hD hS 14 3 0 0 rfl rfl rfl rfl rfl (by decide) (by decide) (by decide) (by decide) (by decide) (fun _ _ => rfl) (Nat.le_of_ble_eq_true rfl) (Nat.le_of_ble_eq_true rfl) dX3_startWith_41 (fun H locs hP hD hS => ?_)
    replace hP : va_P g.1 vwCl (fl [wk3 g t_p t_p_drags (va_cpy o1_drags t_drags (Int32.toNatClampNeg 0) (Int32.toNatClampNeg 0) (Int32.toNatClampNeg 6)) t_p_speeds (va_cpy o1_speeds t_speeds (Int32.toNatClampNeg 0) (Int32.toNatClampNeg 0) (Int32.toNatClampNeg 4)) t_p_settings (va_cpy o1_settings t_settings (Int32.toNatClampNeg 0) (Int32.toNatClampNeg 0) (Int32.toNatClampNeg 6)) t_shut t_coresIn t_loaded t_hot t_made t_width t_p_taught, wk0 g t_p_taught tB_teachers tB_shortest tB_longest tB_p_least tB_least tB_p_greatest tB_greatest, wk1 g o1_p o1_cavities o1_p_volumes o1_volumes o1_p_drags o1_drags o1_p_freezes o1_freezes o1_cores o1_p_ahead o1_ahead o1_stages o1_p_places o1_places o1_p_speeds o1_speeds o1_p_settings o1_settings]) H := hP
    replace hD : va_D A (fl [wk3 g t_p t_p_drags (va_cpy o1_drags t_drags (Int32.toNatClampNeg 0) (Int32.toNatClampNeg 0) (Int32.toNatClampNeg 6)) t_p_speeds (va_cpy o1_speeds t_speeds (Int32.toNatClampNeg 0) (Int32.toNatClampNeg 0) (Int32.toNatClampNeg 4)) t_p_settings (va_cpy o1_settings t_settings (Int32.toNatClampNeg 0) (Int32.toNatClampNeg 0) (Int32.toNatClampNeg 6)) t_shut t_coresIn t_loaded t_hot t_made t_width t_p_taught, wk0 g t_p_taught tB_teachers tB_shortest tB_longest tB_p_least tB_least tB_p_greatest tB_greatest, wk1 g o1_p o1_cavities o1_p_volumes o1_volumes o1_p_drags o1_drags o1_p_freezes o1_freezes o1_cores o1_p_ahead o1_ahead o1_stages o1_p_places o1_places o1_p_speeds o1_speeds o1_p_settings o1_settings]) := hD
    refine lv_aload_n hx hb dX3_startWith_44 rfl (lv_at hl 0 rfl) ?_
    refine lv_iconst (v := 0) hx hb dX3_startWith_45 (by decide) ?_
    refine va_put (D := g.1) (ci := 3) (v := .int 0) (ty := .boolean) (C := RX3) (T := TX3) (N := 10) hx hb hts hin3 tyX3 tyX3_ok nmX3 hown hK.1 hP hD hS 0 rfl rfl 3 (by decide) L8 (fun _ h9 => h9) rfl (by decide +kernel) rfl rfl (Nat.le_of_ble_eq_true rfl) dX3_startWith_46 (fun H locs hP hD hS => ?_)
    replace hP : va_P g.1 vwCl (fl [wk3 g t_p t_p_drags (va_cpy o1_drags t_drags (Int32.toNatClampNeg 0) (Int32.toNatClampNeg 0) (Int32.toNatClampNeg 6)) t_p_speeds (va_cpy o1_speeds t_speeds (Int32.toNatClampNeg 0) (Int32.toNatClampNeg 0) (Int32.toNatClampNeg 4)) t_p_settings (va_cpy o1_settings t_settings (Int32.toNatClampNeg 0) (Int32.toNatClampNeg 0) (Int32.toNatClampNeg 6)) 0 t_coresIn t_loaded t_hot t_made t_width t_p_taught, wk0 g t_p_taught tB_teachers tB_shortest tB_longest tB_p_least tB_least tB_p_greatest tB_greatest, wk1 g o1_p o1_cavities o1_p_volumes o1_volumes o1_p_drags o1_drags o1_p_freezes o1_freezes o1_cores o1_p_ahead o1_ahead o1_stages o1_p_places o1_places o1_p_speeds o1_speeds o1_p_settings o1_settings]) H := hP
    replace hD : va_D A (fl [wk3 g t_p t_p_drags (va_cpy o1_drags t_drags (Int32.toNatClampNeg 0) (Int32.toNatClampNeg 0) (Int32.toNatClampNeg 6)) t_p_speeds (va_cpy o1_speeds t_speeds (Int32.toNatClampNeg 0) (Int32.toNatClampNeg 0) (Int32.toNatClampNeg 4)) t_p_settings (va_cpy o1_settings t_settings (Int32.toNatClampNeg 0) (Int32.toNatClampNeg 0) (Int32.toNatClampNeg 6)) 0 t_coresIn t_loaded t_hot t_made t_width t_p_taught, wk0 g t_p_taught tB_teachers tB_shortest tB_longest tB_p_least tB_least tB_p_greatest tB_greatest, wk1 g o1_p o1_cavities o1_p_volumes o1_volumes o1_p_drags o1_drags o1_p_freezes o1_freezes o1_cores o1_p_ahead o1_ahead o1_stages o1_p_places o1_places o1_p_speeds o1_speeds o1_p_settings o1_settings]) := hD
    refine lv_aload_n hx hb dX3_startWith_49 rfl (lv_at hl 0 rfl) ?_
    refine lv_iconst (v := 0) hx hb dX3_startWith_50 (by decide) ?_
    refine va_put (D := g.1) (ci := 3) (v := .int 0) (ty := .int) (C := RX3) (T := TX3) (N := 10) hx hb hts hin3 tyX3 tyX3_ok nmX3 hown hK.1 hP hD hS 0 rfl rfl 4 (by decide) L9 (fun _ h9 => h9) rfl (by decide +kernel) rfl rfl (Nat.le_of_ble_eq_true rfl) dX3_startWith_51 (fun H locs hP hD hS => ?_)
    replace hP : va_P g.1 vwCl (fl [wk3 g t_p t_p_drags (va_cpy o1_drags t_drags (Int32.toNatClampNeg 0) (Int32.toNatClampNeg 0) (Int32.toNatClampNeg 6)) t_p_speeds (va_cpy o1_speeds t_speeds (Int32.toNatClampNeg 0) (Int32.toNatClampNeg 0) (Int32.toNatClampNeg 4)) t_p_settings (va_cpy o1_settings t_settings (Int32.toNatClampNeg 0) (Int32.toNatClampNeg 0) (Int32.toNatClampNeg 6)) 0 0 t_loaded t_hot t_made t_width t_p_taught, wk0 g t_p_taught tB_teachers tB_shortest tB_longest tB_p_least tB_least tB_p_greatest tB_greatest, wk1 g o1_p o1_cavities o1_p_volumes o1_volumes o1_p_drags o1_drags o1_p_freezes o1_freezes o1_cores o1_p_ahead o1_ahead o1_stages o1_p_places o1_places o1_p_speeds o1_speeds o1_p_settings o1_settings]) H := hP
    replace hD : va_D A (fl [wk3 g t_p t_p_drags (va_cpy o1_drags t_drags (Int32.toNatClampNeg 0) (Int32.toNatClampNeg 0) (Int32.toNatClampNeg 6)) t_p_speeds (va_cpy o1_speeds t_speeds (Int32.toNatClampNeg 0) (Int32.toNatClampNeg 0) (Int32.toNatClampNeg 4)) t_p_settings (va_cpy o1_settings t_settings (Int32.toNatClampNeg 0) (Int32.toNatClampNeg 0) (Int32.toNatClampNeg 6)) 0 0 t_loaded t_hot t_made t_width t_p_taught, wk0 g t_p_taught tB_teachers tB_shortest tB_longest tB_p_least tB_least tB_p_greatest tB_greatest, wk1 g o1_p o1_cavities o1_p_volumes o1_volumes o1_p_drags o1_drags o1_p_freezes o1_freezes o1_cores o1_p_ahead o1_ahead o1_stages o1_p_places o1_places o1_p_speeds o1_speeds o1_p_settings o1_settings]) := hD
    refine lv_aload_n hx hb dX3_startWith_54 rfl (lv_at hl 0 rfl) ?_
    refine lv_iconst (v := 0) hx hb dX3_startWith_55 (by decide) ?_
    refine va_put (D := g.1) (ci := 3) (v := .int 0) (ty := .boolean) (C := RX3) (T := TX3) (N := 10) hx hb hts hin3 tyX3 tyX3_ok nmX3 hown hK.1 hP hD hS 0 rfl rfl 5 (by decide) L10 (fun _ h9 => h9) rfl (by decide +kernel) rfl rfl (Nat.le_of_ble_eq_true rfl) dX3_startWith_56 (fun H locs hP hD hS => ?_)
    replace hP : va_P g.1 vwCl (fl [wk3 g t_p t_p_drags (va_cpy o1_drags t_drags (Int32.toNatClampNeg 0) (Int32.toNatClampNeg 0) (Int32.toNatClampNeg 6)) t_p_speeds (va_cpy o1_speeds t_speeds (Int32.toNatClampNeg 0) (Int32.toNatClampNeg 0) (Int32.toNatClampNeg 4)) t_p_settings (va_cpy o1_settings t_settings (Int32.toNatClampNeg 0) (Int32.toNatClampNeg 0) (Int32.toNatClampNeg 6)) 0 0 0 t_hot t_made t_width t_p_taught, wk0 g t_p_taught tB_teachers tB_shortest tB_longest tB_p_least tB_least tB_p_greatest tB_greatest, wk1 g o1_p o1_cavities o1_p_volumes o1_volumes o1_p_drags o1_drags o1_p_freezes o1_freezes o1_cores o1_p_ahead o1_ahead o1_stages o1_p_places o1_places o1_p_speeds o1_speeds o1_p_settings o1_settings]) H := hP
    replace hD : va_D A (fl [wk3 g t_p t_p_drags (va_cpy o1_drags t_drags (Int32.toNatClampNeg 0) (Int32.toNatClampNeg 0) (Int32.toNatClampNeg 6)) t_p_speeds (va_cpy o1_speeds t_speeds (Int32.toNatClampNeg 0) (Int32.toNatClampNeg 0) (Int32.toNatClampNeg 4)) t_p_settings (va_cpy o1_settings t_settings (Int32.toNatClampNeg 0) (Int32.toNatClampNeg 0) (Int32.toNatClampNeg 6)) 0 0 0 t_hot t_made t_width t_p_taught, wk0 g t_p_taught tB_teachers tB_shortest tB_longest tB_p_least tB_least tB_p_greatest tB_greatest, wk1 g o1_p o1_cavities o1_p_volumes o1_volumes o1_p_drags o1_drags o1_p_freezes o1_freezes o1_cores o1_p_ahead o1_ahead o1_stages o1_p_places o1_places o1_p_speeds o1_speeds o1_p_settings o1_settings]) := hD
    refine lv_aload_n hx hb dX3_startWith_59 rfl (lv_at hl 0 rfl) ?_
    refine lv_iconst (v := 0) hx hb dX3_startWith_60 (by decide) ?_
    refine va_put (D := g.1) (ci := 3) (v := .int 0) (ty := .boolean) (C := RX3) (T := TX3) (N := 10) hx hb hts hin3 tyX3 tyX3_ok nmX3 hown hK.1 hP hD hS 0 rfl rfl 6 (by decide) L11 (fun _ h9 => h9) rfl (by decide +kernel) rfl rfl (Nat.le_of_ble_eq_true rfl) dX3_startWith_61 (fun H locs hP hD hS => ?_)
    replace hP : va_P g.1 vwCl (fl [wk3 g t_p t_p_drags (va_cpy o1_drags t_drags (Int32.toNatClampNeg 0) (Int32.toNatClampNeg 0) (Int32.toNatClampNeg 6)) t_p_speeds (va_cpy o1_speeds t_speeds (Int32.toNatClampNeg 0) (Int32.toNatClampNeg 0) (Int32.toNatClampNeg 4)) t_p_settings (va_cpy o1_settings t_settings (Int32.toNatClampNeg 0) (Int32.toNatClampNeg 0) (Int32.toNatClampNeg 6)) 0 0 0 0 t_made t_width t_p_taught, wk0 g t_p_taught tB_teachers tB_shortest tB_longest tB_p_least tB_least tB_p_greatest tB_greatest, wk1 g o1_p o1_cavities o1_p_volumes o1_volumes o1_p_drags o1_drags o1_p_freezes o1_freezes o1_cores o1_p_ahead o1_ahead o1_stages o1_p_places o1_places o1_p_speeds o1_speeds o1_p_settings o1_settings]) H := hP
    replace hD : va_D A (fl [wk3 g t_p t_p_drags (va_cpy o1_drags t_drags (Int32.toNatClampNeg 0) (Int32.toNatClampNeg 0) (Int32.toNatClampNeg 6)) t_p_speeds (va_cpy o1_speeds t_speeds (Int32.toNatClampNeg 0) (Int32.toNatClampNeg 0) (Int32.toNatClampNeg 4)) t_p_settings (va_cpy o1_settings t_settings (Int32.toNatClampNeg 0) (Int32.toNatClampNeg 0) (Int32.toNatClampNeg 6)) 0 0 0 0 t_made t_width t_p_taught, wk0 g t_p_taught tB_teachers tB_shortest tB_longest tB_p_least tB_least tB_p_greatest tB_greatest, wk1 g o1_p o1_cavities o1_p_volumes o1_volumes o1_p_drags o1_drags o1_p_freezes o1_freezes o1_cores o1_p_ahead o1_ahead o1_stages o1_p_places o1_places o1_p_speeds o1_speeds o1_p_settings o1_settings]) := hD
    refine lv_aload_n hx hb dX3_startWith_64 rfl (lv_at hl 0 rfl) ?_
    refine lv_iconst (v := 0) hx hb dX3_startWith_65 (by decide) ?_
    refine va_put (D := g.1) (ci := 3) (v := .int 0) (ty := .int) (C := RX3) (T := TX3) (N := 10) hx hb hts hin3 tyX3 tyX3_ok nmX3 hown hK.1 hP hD hS 0 rfl rfl 7 (by decide) L12 (fun _ h9 => h9) rfl (by decide +kernel) rfl rfl (Nat.le_of_ble_eq_true rfl) dX3_startWith_66 (fun H locs hP hD hS => ?_)
    replace hP : va_P g.1 vwCl (fl [wk3 g t_p t_p_drags (va_cpy o1_drags t_drags (Int32.toNatClampNeg 0) (Int32.toNatClampNeg 0) (Int32.toNatClampNeg 6)) t_p_speeds (va_cpy o1_speeds t_speeds (Int32.toNatClampNeg 0) (Int32.toNatClampNeg 0) (Int32.toNatClampNeg 4)) t_p_settings (va_cpy o1_settings t_settings (Int32.toNatClampNeg 0) (Int32.toNatClampNeg 0) (Int32.toNatClampNeg 6)) 0 0 0 0 0 t_width t_p_taught, wk0 g t_p_taught tB_teachers tB_shortest tB_longest tB_p_least tB_least tB_p_greatest tB_greatest, wk1 g o1_p o1_cavities o1_p_volumes o1_volumes o1_p_drags o1_drags o1_p_freezes o1_freezes o1_cores o1_p_ahead o1_ahead o1_stages o1_p_places o1_places o1_p_speeds o1_speeds o1_p_settings o1_settings]) H := hP
    replace hD : va_D A (fl [wk3 g t_p t_p_drags (va_cpy o1_drags t_drags (Int32.toNatClampNeg 0) (Int32.toNatClampNeg 0) (Int32.toNatClampNeg 6)) t_p_speeds (va_cpy o1_speeds t_speeds (Int32.toNatClampNeg 0) (Int32.toNatClampNeg 0) (Int32.toNatClampNeg 4)) t_p_settings (va_cpy o1_settings t_settings (Int32.toNatClampNeg 0) (Int32.toNatClampNeg 0) (Int32.toNatClampNeg 6)) 0 0 0 0 0 t_width t_p_taught, wk0 g t_p_taught tB_teachers tB_shortest tB_longest tB_p_least tB_least tB_p_greatest tB_greatest, wk1 g o1_p o1_cavities o1_p_volumes o1_volumes o1_p_drags o1_drags o1_p_freezes o1_freezes o1_cores o1_p_ahead o1_ahead o1_stages o1_p_places o1_places o1_p_speeds o1_speeds o1_p_settings o1_settings]) := hD
    refine lv_aload_n hx hb dX3_startWith_69 rfl (lv_at hl 0 rfl) ?_
    refine lv_iconst (v := 2) hx hb dX3_startWith_70 (by decide) ?_
    refine va_put (D := g.1) (ci := 3) (v := .int 2) (ty := .int) (C := RX3) (T := TX3) (N := 10) hx hb hts hin3 tyX3 tyX3_ok nmX3 hown hK.1 hP hD hS 0 rfl rfl 8 (by decide) L13 (fun _ h9 => h9) rfl (by decide +kernel) rfl rfl (Nat.le_of_ble_eq_true rfl) dX3_startWith_71 (fun H locs hP hD hS => ?_)
    replace hP : va_P g.1 vwCl (fl [wk3 g t_p t_p_drags (va_cpy o1_drags t_drags (Int32.toNatClampNeg 0) (Int32.toNatClampNeg 0) (Int32.toNatClampNeg 6)) t_p_speeds (va_cpy o1_speeds t_speeds (Int32.toNatClampNeg 0) (Int32.toNatClampNeg 0) (Int32.toNatClampNeg 4)) t_p_settings (va_cpy o1_settings t_settings (Int32.toNatClampNeg 0) (Int32.toNatClampNeg 0) (Int32.toNatClampNeg 6)) 0 0 0 0 0 2 t_p_taught, wk0 g t_p_taught tB_teachers tB_shortest tB_longest tB_p_least tB_least tB_p_greatest tB_greatest, wk1 g o1_p o1_cavities o1_p_volumes o1_volumes o1_p_drags o1_drags o1_p_freezes o1_freezes o1_cores o1_p_ahead o1_ahead o1_stages o1_p_places o1_places o1_p_speeds o1_speeds o1_p_settings o1_settings]) H := hP
    replace hD : va_D A (fl [wk3 g t_p t_p_drags (va_cpy o1_drags t_drags (Int32.toNatClampNeg 0) (Int32.toNatClampNeg 0) (Int32.toNatClampNeg 6)) t_p_speeds (va_cpy o1_speeds t_speeds (Int32.toNatClampNeg 0) (Int32.toNatClampNeg 0) (Int32.toNatClampNeg 4)) t_p_settings (va_cpy o1_settings t_settings (Int32.toNatClampNeg 0) (Int32.toNatClampNeg 0) (Int32.toNatClampNeg 6)) 0 0 0 0 0 2 t_p_taught, wk0 g t_p_taught tB_teachers tB_shortest tB_longest tB_p_least tB_least tB_p_greatest tB_greatest, wk1 g o1_p o1_cavities o1_p_volumes o1_volumes o1_p_drags o1_drags o1_p_freezes o1_freezes o1_cores o1_p_ahead o1_ahead o1_stages o1_p_places o1_places o1_p_speeds o1_speeds o1_p_settings o1_settings]) := hD
    refine lv_aload_n hx hb dX3_startWith_74 rfl (lv_at hl 0 rfl) ?_
    refine va_get (D := g.1) (ci := 3) (v := .ref t_p_taught) (C := RX3) (T := TX3) (N := 10) hx hb hts hin3 hown hK.1 hP 0 rfl rfl 9 (by decide) L14 (fun _ h9 => h9) rfl dX3_startWith_75 ?_
    obtain ⟨q_1, hq_1, hf⟩ := bd_some hf
    refine bft_v (bn := [wk3 g t_p t_p_drags (va_cpy o1_drags t_drags (Int32.toNatClampNeg 0) (Int32.toNatClampNeg 0) (Int32.toNatClampNeg 6)) t_p_speeds (va_cpy o1_speeds t_speeds (Int32.toNatClampNeg 0) (Int32.toNatClampNeg 0) (Int32.toNatClampNeg 4)) t_p_settings (va_cpy o1_settings t_settings (Int32.toNatClampNeg 0) (Int32.toNatClampNeg 0) (Int32.toNatClampNeg 6)) 0 0 0 0 0 2 t_p_taught, wk0 g t_p_taught 0 0 0 tB_p_least tB_least tB_p_greatest tB_greatest, wk1 g o1_p o1_cavities o1_p_volumes o1_volumes o1_p_drags o1_drags o1_p_freezes o1_freezes o1_cores o1_p_ahead o1_ahead o1_stages o1_p_places o1_places o1_p_speeds o1_speeds o1_p_settings o1_settings]) (L := [[t_p_taught, tB_p_least, tB_p_greatest]]) (va_runVN (As := []) (rest := []) ⟨hx, hb, hml, hown, hts⟩ (c0_clear l g t_p_taught tB_teachers tB_shortest tB_longest tB_p_least tB_least tB_p_greatest tB_greatest H.size N q_1 hq_1) ⟨va_cnB 0 hts gX3_startWith_X0_clear_n59 rfl rfl rfl (hK.nw _ 66 rfl) L15 ⟨nh0.1, nh0.2, pd_9⟩ ⟨Nat.le_of_ble_eq_true rfl, Nat.le_of_ble_eq_true rfl⟩, L16, L17⟩ (qPV hK hG hP hD hS hA [1] (by decide) rfl (va_recv hK.1 hP (ci := 0) (q0 := 4) rfl rfl)) rfl rfl hl.1 rfl (lv_room (Nat.le_of_ble_eq_true rfl)) dX3_startWith_78 ⟨Nat.zero_le _, Nat.zero_le _⟩) hP hD hS hA [1] rfl rfl rfl rfl (fun H locs hP hD hS => ?_)
    replace hf := Option.some.inj hf
    subst hf
    exact W.vret hx hb hr (fun t ht hW => ⟨⟨(), rfl, trivial, by show va_P g.1 vwCl _ t.heap; rw [ht]; exact hP⟩, hS.F ht⟩) hS.2.2 dX3_startWith_81 hlocks
  exact hgo s.heap [] rfl rfl hP hS

set_option maxHeartbeats 4000000 in
set_option maxRecDepth 100000 in
theorem c3_copyFrom (l : Launch) (g : gG) (t_p : Nat) (t_p_drags : Nat) (t_drags : (Nat → Int32)) (t_p_speeds : Nat) (t_speeds : (Nat → Int32)) (t_p_settings : Nat) (t_settings : (Nat → Int32)) (t_shut : Int32) (t_coresIn : Int32) (t_loaded : Int32) (t_hot : Int32) (t_made : Int32) (t_width : Int32) (t_p_taught : Nat) (tB_teachers : Int32) (tB_shortest : Int32) (tB_longest : Int32) (tB_p_least : Nat) (tB_least : (Nat → Int32)) (tB_p_greatest : Nat) (tB_greatest : (Nat → Int32)) (o1_p : Nat) (o1_p_drags : Nat) (o1_drags : (Nat → Int32)) (o1_p_speeds : Nat) (o1_speeds : (Nat → Int32)) (o1_p_settings : Nat) (o1_settings : (Nat → Int32)) (o1_shut : Int32) (o1_coresIn : Int32) (o1_loaded : Int32) (o1_hot : Int32) (o1_made : Int32) (o1_width : Int32) (o1_p_taught : Nat) (o1B_teachers : Int32) (o1B_shortest : Int32) (o1B_longest : Int32) (o1B_p_least : Nat) (o1B_least : (Nat → Int32)) (o1B_p_greatest : Nat) (o1B_greatest : (Nat → Int32)) (sz : Nat) (N : Nat) (res : Unit) (hf : f3_copyFrom N o1_shut o1_loaded o1_hot = some res) : Met l yX3_copyFrom wsX3_copyFrom ({ frames := 2, cells := 0, slots := 0, locals := 64 }) (pP g [.ref t_p, .ref o1_p] sz (fl [wk3 g t_p t_p_drags t_drags t_p_speeds t_speeds t_p_settings t_settings t_shut t_coresIn t_loaded t_hot t_made t_width t_p_taught, wk0 g t_p_taught tB_teachers tB_shortest tB_longest tB_p_least tB_least tB_p_greatest tB_greatest, wk3 g o1_p o1_p_drags o1_drags o1_p_speeds o1_speeds o1_p_settings o1_settings o1_shut o1_coresIn o1_loaded o1_hot o1_made o1_width o1_p_taught, wk0 g o1_p_taught o1B_teachers o1B_shortest o1B_longest o1B_p_least o1B_least o1B_p_greatest o1B_greatest])) (pQv g (fl [wk3 g t_p t_p_drags (va_cpy o1_drags t_drags (Int32.toNatClampNeg 0) (Int32.toNatClampNeg 0) (Int32.toNatClampNeg 6)) t_p_speeds (va_cpy o1_speeds t_speeds (Int32.toNatClampNeg 0) (Int32.toNatClampNeg 0) (Int32.toNatClampNeg 4)) t_p_settings (va_cpy o1_settings t_settings (Int32.toNatClampNeg 0) (Int32.toNatClampNeg 0) (Int32.toNatClampNeg 6)) o1_shut o1_coresIn o1_loaded o1_hot o1_made o1_width t_p_taught, wk0 g t_p_taught o1B_teachers o1B_shortest o1B_longest tB_p_least (va_cpy o1B_least tB_least (Int32.toNatClampNeg 0) (Int32.toNatClampNeg 0) (Int32.toNatClampNeg 60)) tB_p_greatest (va_cpy o1B_greatest tB_greatest (Int32.toNatClampNeg 0) (Int32.toNatClampNeg 0) (Int32.toNatClampNeg 60)), wk3 g o1_p o1_p_drags o1_drags o1_p_speeds o1_speeds o1_p_settings o1_settings o1_shut o1_coresIn o1_loaded o1_hot o1_made o1_width o1_p_taught, wk0 g o1_p_taught o1B_teachers o1B_shortest o1B_longest o1B_p_least o1B_least o1B_p_greatest o1B_greatest]) (va_A (fl [wk3 g t_p t_p_drags t_drags t_p_speeds t_speeds t_p_settings t_settings t_shut t_coresIn t_loaded t_hot t_made t_width t_p_taught, wk0 g t_p_taught tB_teachers tB_shortest tB_longest tB_p_least tB_least tB_p_greatest tB_greatest, wk3 g o1_p o1_p_drags o1_drags o1_p_speeds o1_speeds o1_p_settings o1_settings o1_shut o1_coresIn o1_loaded o1_hot o1_made o1_width o1_p_taught, wk0 g o1_p_taught o1B_teachers o1B_shortest o1B_longest o1B_p_least o1B_least o1B_p_greatest o1B_greatest]) sz)) 0 0 (va_A (fl [wk3 g t_p t_p_drags t_drags t_p_speeds t_speeds t_p_settings t_settings t_shut t_coresIn t_loaded t_hot t_made t_width t_p_taught, wk0 g t_p_taught tB_teachers tB_shortest tB_longest tB_p_least tB_least tB_p_greatest tB_greatest, wk3 g o1_p o1_p_drags o1_drags o1_p_speeds o1_speeds o1_p_settings o1_settings o1_shut o1_coresIn o1_loaded o1_hot o1_made o1_width o1_p_taught, wk0 g o1_p_taught o1B_teachers o1B_shortest o1B_longest o1B_p_least o1B_least o1B_p_greatest o1B_greatest]) sz) := by
  refine Met.ofW (cc := cX3_copyFrom) (maxL := 2) (ret := none) (by decide) rfl ?_
  intro p e s m args below meth c s₁ B hml hv
  obtain ⟨rfl, hsz, hP, hK, hD0, hG⟩ := hv
  have hx := B.exec
  have hb := B.bytes
  have hr := B.returns
  have hts := atoms_spec (ws := wsX3_copyFrom) B.pre
  have hown : s.vm.findClass RX3 = some m.cls := findClass_of_methodNamed B.named
  have hlocks := B.notSynchronized
  subst hsz
  have hD := hD0.self (sz := s.heap.size)
  generalize hAe : va_A (fl [wk3 g t_p t_p_drags t_drags t_p_speeds t_speeds t_p_settings t_settings t_shut t_coresIn t_loaded t_hot t_made t_width t_p_taught, wk0 g t_p_taught tB_teachers tB_shortest tB_longest tB_p_least tB_least tB_p_greatest tB_greatest, wk3 g o1_p o1_p_drags o1_drags o1_p_speeds o1_speeds o1_p_settings o1_settings o1_shut o1_coresIn o1_loaded o1_hot o1_made o1_width o1_p_taught, wk0 g o1_p_taught o1B_teachers o1B_shortest o1B_longest o1B_p_least o1B_least o1B_p_greatest o1B_greatest]) s.heap.size = A at hD hG ⊢
  have hA : ∀ q : Nat, s.heap.size ≤ q → A q := fun q h => by rw [← hAe]; exact Or.inr h
  have hS : va_S A s.heap s.heap [] := va_S.rf
  have hin3 : ∀ w ∈ u_ws RX3 TX3 10, w ∈ wsX3_copyFrom := by decide +kernel
  have L1 := hts (Cond.fieldLink RX3 9 "MouldShots$State" "drags" "[I") (by decide +kernel)
  have L2 := hts (Cond.methodLink RX3 51 arraycopyName) (by decide +kernel)
  have L3 := hts (Cond.native arraycopyName) (by decide +kernel)
  have L4 := hts (Cond.static arraycopyName) (by decide +kernel)
  have L5 := hts (Cond.initialized "java/lang/System") (by decide +kernel)
  have L6 := hts (Cond.fieldLink RX3 15 "MouldShots$State" "speeds" "[I") (by decide +kernel)
  have L7 := hts (Cond.fieldLink RX3 18 "MouldShots$State" "settings" "[I") (by decide +kernel)
  have L8 := hts (Cond.fieldLink RX3 21 "MouldShots$State" "shut" "Z") (by decide +kernel)
  have L9 := hts (Cond.fieldLink RX3 25 "MouldShots$State" "coresIn" "I") (by decide +kernel)
  have L10 := hts (Cond.fieldLink RX3 29 "MouldShots$State" "loaded" "Z") (by decide +kernel)
  have L11 := hts (Cond.fieldLink RX3 32 "MouldShots$State" "hot" "Z") (by decide +kernel)
  have L12 := hts (Cond.fieldLink RX3 35 "MouldShots$State" "made" "I") (by decide +kernel)
  have L13 := hts (Cond.fieldLink RX3 38 "MouldShots$State" "width" "I") (by decide +kernel)
  have L14 := hts (Cond.fieldLink RX3 44 "MouldShots$State" "taught" "LMouldShots$Band;") (by decide +kernel)
  have L15 := hts (Cond.initialized RX0) (by decide +kernel)
  have L16 := hts (Cond.instanceMethod yX0_copyFrom) (by decide +kernel)
  have L17 := hts (Cond.selects RX0 yX0_copyFrom yX0_copyFrom) (by decide +kernel)
  have hl := lv_entry ([.ref t_p, .ref o1_p]) (n := 2) (Nat.le_of_ble_eq_true rfl)
  rw [lg_entry_eq]
  generalize (lg_sl ([.ref t_p, .ref o1_p]) ++ List.replicate (2 - (lg_sl ([.ref t_p, .ref o1_p])).length) Slot.unset).toArray = ls at hl ⊢
  replace hl : lv_has ls 2 [(0, .ref t_p), (1, .ref o1_p)] := hl
  rw [f3_copyFrom] at hf
  have hgo : ∀ (H : Heap) (locs : List Loc), H = s.heap → locs = [] → va_P g.1 vwCl (fl [wk3 g t_p t_p_drags t_drags t_p_speeds t_speeds t_p_settings t_settings t_shut t_coresIn t_loaded t_hot t_made t_width t_p_taught, wk0 g t_p_taught tB_teachers tB_shortest tB_longest tB_p_least tB_least tB_p_greatest tB_greatest, wk3 g o1_p o1_p_drags o1_drags o1_p_speeds o1_speeds o1_p_settings o1_settings o1_shut o1_coresIn o1_loaded o1_hot o1_made o1_width o1_p_taught, wk0 g o1_p_taught o1B_teachers o1B_shortest o1B_longest o1B_p_least o1B_least o1B_p_greatest o1B_greatest]) H → va_S A s.heap H locs → W p l e ({ frames := 2, cells := 0, slots := 0, locals := 64 }) s m ([.ref t_p, .ref o1_p] : List Value).toArray below meth c H locs 0 0 (MQ below (pQv g (fl [wk3 g t_p t_p_drags (va_cpy o1_drags t_drags (Int32.toNatClampNeg 0) (Int32.toNatClampNeg 0) (Int32.toNatClampNeg 6)) t_p_speeds (va_cpy o1_speeds t_speeds (Int32.toNatClampNeg 0) (Int32.toNatClampNeg 0) (Int32.toNatClampNeg 4)) t_p_settings (va_cpy o1_settings t_settings (Int32.toNatClampNeg 0) (Int32.toNatClampNeg 0) (Int32.toNatClampNeg 6)) o1_shut o1_coresIn o1_loaded o1_hot o1_made o1_width t_p_taught, wk0 g t_p_taught o1B_teachers o1B_shortest o1B_longest tB_p_least (va_cpy o1B_least tB_least (Int32.toNatClampNeg 0) (Int32.toNatClampNeg 0) (Int32.toNatClampNeg 60)) tB_p_greatest (va_cpy o1B_greatest tB_greatest (Int32.toNatClampNeg 0) (Int32.toNatClampNeg 0) (Int32.toNatClampNeg 60)), wk3 g o1_p o1_p_drags o1_drags o1_p_speeds o1_speeds o1_p_settings o1_settings o1_shut o1_coresIn o1_loaded o1_hot o1_made o1_width o1_p_taught, wk0 g o1_p_taught o1B_teachers o1B_shortest o1B_longest o1B_p_least o1B_least o1B_p_greatest o1B_greatest]) A) ([.ref t_p, .ref o1_p] : List Value).toArray s 0 0 A) (F0 m 0 ls []) := by
    intro H locs hH hL hP hS
    refine lv_aload_n hx hb dX3_copyFrom_0 rfl (lv_at hl 1 rfl) ?_
    refine va_get (D := g.1) (ci := 3) (v := .ref o1_p_drags) (C := RX3) (T := TX3) (N := 10) hx hb hts hin3 hown hK.1 hP 7 rfl rfl 0 (by decide) L1 (fun _ h9 => h9) rfl dX3_copyFrom_1 ?_
    refine lv_iconst (v := 0) hx hb dX3_copyFrom_4 (by decide) ?_
    refine lv_aload_n hx hb dX3_copyFrom_5 rfl (lv_at hl 0 rfl) ?_
    refine va_get (D := g.1) (ci := 3) (v := .ref t_p_drags) (C := RX3) (T := TX3) (N := 10) hx hb hts hin3 hown hK.1 hP 0 rfl rfl 0 (by decide) L1 (fun _ h9 => h9) rfl dX3_copyFrom_6 ?_
    refine lv_iconst (v := 0) hx hb dX3_copyFrom_9 (by decide) ?_
    refine lv_bipush (v := 6) hx hb dX3_copyFrom_10 (by decide) ?_
    refine va_copyi (ty := .int) hx hb (hml.trans hl.1.symm) hown L2 L3 L4 L5 hK.1 hP hD hS 8 1 0 0 rfl rfl rfl rfl rfl (by decide) (by decide) (by decide) (by decide) (by decide) (fun _ _ => rfl) (Nat.le_of_ble_eq_true rfl) (Nat.le_of_ble_eq_true rfl) dX3_copyFrom_12 (fun H locs hP hD hS => ?_)
    replace hP : va_P g.1 vwCl (fl [wk3 g t_p t_p_drags (va_cpy o1_drags t_drags (Int32.toNatClampNeg 0) (Int32.toNatClampNeg 0) (Int32.toNatClampNeg 6)) t_p_speeds t_speeds t_p_settings t_settings t_shut t_coresIn t_loaded t_hot t_made t_width t_p_taught, wk0 g t_p_taught tB_teachers tB_shortest tB_longest tB_p_least tB_least tB_p_greatest tB_greatest, wk3 g o1_p o1_p_drags o1_drags o1_p_speeds o1_speeds o1_p_settings o1_settings o1_shut o1_coresIn o1_loaded o1_hot o1_made o1_width o1_p_taught, wk0 g o1_p_taught o1B_teachers o1B_shortest o1B_longest o1B_p_least o1B_least o1B_p_greatest o1B_greatest]) H := hP
    replace hD : va_D A (fl [wk3 g t_p t_p_drags (va_cpy o1_drags t_drags (Int32.toNatClampNeg 0) (Int32.toNatClampNeg 0) (Int32.toNatClampNeg 6)) t_p_speeds t_speeds t_p_settings t_settings t_shut t_coresIn t_loaded t_hot t_made t_width t_p_taught, wk0 g t_p_taught tB_teachers tB_shortest tB_longest tB_p_least tB_least tB_p_greatest tB_greatest, wk3 g o1_p o1_p_drags o1_drags o1_p_speeds o1_speeds o1_p_settings o1_settings o1_shut o1_coresIn o1_loaded o1_hot o1_made o1_width o1_p_taught, wk0 g o1_p_taught o1B_teachers o1B_shortest o1B_longest o1B_p_least o1B_least o1B_p_greatest o1B_greatest]) := hD
    refine lv_aload_n hx hb dX3_copyFrom_15 rfl (lv_at hl 1 rfl) ?_
    refine va_get (D := g.1) (ci := 3) (v := .ref o1_p_speeds) (C := RX3) (T := TX3) (N := 10) hx hb hts hin3 hown hK.1 hP 7 rfl rfl 1 (by decide) L6 (fun _ h9 => h9) rfl dX3_copyFrom_16 ?_
    refine lv_iconst (v := 0) hx hb dX3_copyFrom_19 (by decide) ?_
    refine lv_aload_n hx hb dX3_copyFrom_20 rfl (lv_at hl 0 rfl) ?_
    refine va_get (D := g.1) (ci := 3) (v := .ref t_p_speeds) (C := RX3) (T := TX3) (N := 10) hx hb hts hin3 hown hK.1 hP 0 rfl rfl 1 (by decide) L6 (fun _ h9 => h9) rfl dX3_copyFrom_21 ?_
    refine lv_iconst (v := 0) hx hb dX3_copyFrom_24 (by decide) ?_
    refine lv_iconst (v := 4) hx hb dX3_copyFrom_25 (by decide) ?_
    refine va_copyi (ty := .int) hx hb (hml.trans hl.1.symm) hown L2 L3 L4 L5 hK.1 hP hD hS 9 2 0 0 rfl rfl rfl rfl rfl (by decide) (by decide) (by decide) (by decide) (by decide) (fun _ _ => rfl) (Nat.le_of_ble_eq_true rfl) (Nat.le_of_ble_eq_true rfl) dX3_copyFrom_26 (fun H locs hP hD hS => ?_)
    replace hP : va_P g.1 vwCl (fl [wk3 g t_p t_p_drags (va_cpy o1_drags t_drags (Int32.toNatClampNeg 0) (Int32.toNatClampNeg 0) (Int32.toNatClampNeg 6)) t_p_speeds (va_cpy o1_speeds t_speeds (Int32.toNatClampNeg 0) (Int32.toNatClampNeg 0) (Int32.toNatClampNeg 4)) t_p_settings t_settings t_shut t_coresIn t_loaded t_hot t_made t_width t_p_taught, wk0 g t_p_taught tB_teachers tB_shortest tB_longest tB_p_least tB_least tB_p_greatest tB_greatest, wk3 g o1_p o1_p_drags o1_drags o1_p_speeds o1_speeds o1_p_settings o1_settings o1_shut o1_coresIn o1_loaded o1_hot o1_made o1_width o1_p_taught, wk0 g o1_p_taught o1B_teachers o1B_shortest o1B_longest o1B_p_least o1B_least o1B_p_greatest o1B_greatest]) H := hP
    replace hD : va_D A (fl [wk3 g t_p t_p_drags (va_cpy o1_drags t_drags (Int32.toNatClampNeg 0) (Int32.toNatClampNeg 0) (Int32.toNatClampNeg 6)) t_p_speeds (va_cpy o1_speeds t_speeds (Int32.toNatClampNeg 0) (Int32.toNatClampNeg 0) (Int32.toNatClampNeg 4)) t_p_settings t_settings t_shut t_coresIn t_loaded t_hot t_made t_width t_p_taught, wk0 g t_p_taught tB_teachers tB_shortest tB_longest tB_p_least tB_least tB_p_greatest tB_greatest, wk3 g o1_p o1_p_drags o1_drags o1_p_speeds o1_speeds o1_p_settings o1_settings o1_shut o1_coresIn o1_loaded o1_hot o1_made o1_width o1_p_taught, wk0 g o1_p_taught o1B_teachers o1B_shortest o1B_longest o1B_p_least o1B_least o1B_p_greatest o1B_greatest]) := hD
    refine lv_aload_n hx hb dX3_copyFrom_29 rfl (lv_at hl 1 rfl) ?_
    refine va_get (D := g.1) (ci := 3) (v := .ref o1_p_settings) (C := RX3) (T := TX3) (N := 10) hx hb hts hin3 hown hK.1 hP 7 rfl rfl 2 (by decide) L7 (fun _ h9 => h9) rfl dX3_copyFrom_30 ?_
    refine lv_iconst (v := 0) hx hb dX3_copyFrom_33 (by decide) ?_
    refine lv_aload_n hx hb dX3_copyFrom_34 rfl (lv_at hl 0 rfl) ?_
    refine va_get (D := g.1) (ci := 3) (v := .ref t_p_settings) (C := RX3) (T := TX3) (N := 10) hx hb hts hin3 hown hK.1 hP 0 rfl rfl 2 (by decide) L7 (fun _ h9 => h9) rfl dX3_copyFrom_35 ?_
    refine lv_iconst (v := 0) hx hb dX3_copyFrom_38 (by decide) ?_
    refine lv_bipush (v := 6) hx hb dX3_copyFrom_39 (by decide) ?_
    refine va_copyi (ty := .int) hx hb (hml.trans hl.1.symm) hown L2 L3 L4 L5 hK.1 hP hD hS 10 3 0 0 rfl rfl rfl rfl rfl (by decide) (by decide) (by decide) (by decide) (by decide) (fun _ _ => rfl) (Nat.le_of_ble_eq_true rfl) (Nat.le_of_ble_eq_true rfl) dX3_copyFrom_41 (fun H locs hP hD hS => ?_)
    replace hP : va_P g.1 vwCl (fl [wk3 g t_p t_p_drags (va_cpy o1_drags t_drags (Int32.toNatClampNeg 0) (Int32.toNatClampNeg 0) (Int32.toNatClampNeg 6)) t_p_speeds (va_cpy o1_speeds t_speeds (Int32.toNatClampNeg 0) (Int32.toNatClampNeg 0) (Int32.toNatClampNeg 4)) t_p_settings (va_cpy o1_settings t_settings (Int32.toNatClampNeg 0) (Int32.toNatClampNeg 0) (Int32.toNatClampNeg 6)) t_shut t_coresIn t_loaded t_hot t_made t_width t_p_taught, wk0 g t_p_taught tB_teachers tB_shortest tB_longest tB_p_least tB_least tB_p_greatest tB_greatest, wk3 g o1_p o1_p_drags o1_drags o1_p_speeds o1_speeds o1_p_settings o1_settings o1_shut o1_coresIn o1_loaded o1_hot o1_made o1_width o1_p_taught, wk0 g o1_p_taught o1B_teachers o1B_shortest o1B_longest o1B_p_least o1B_least o1B_p_greatest o1B_greatest]) H := hP
    replace hD : va_D A (fl [wk3 g t_p t_p_drags (va_cpy o1_drags t_drags (Int32.toNatClampNeg 0) (Int32.toNatClampNeg 0) (Int32.toNatClampNeg 6)) t_p_speeds (va_cpy o1_speeds t_speeds (Int32.toNatClampNeg 0) (Int32.toNatClampNeg 0) (Int32.toNatClampNeg 4)) t_p_settings (va_cpy o1_settings t_settings (Int32.toNatClampNeg 0) (Int32.toNatClampNeg 0) (Int32.toNatClampNeg 6)) t_shut t_coresIn t_loaded t_hot t_made t_width t_p_taught, wk0 g t_p_taught tB_teachers tB_shortest tB_longest tB_p_least tB_least tB_p_greatest tB_greatest, wk3 g o1_p o1_p_drags o1_drags o1_p_speeds o1_speeds o1_p_settings o1_settings o1_shut o1_coresIn o1_loaded o1_hot o1_made o1_width o1_p_taught, wk0 g o1_p_taught o1B_teachers o1B_shortest o1B_longest o1B_p_least o1B_least o1B_p_greatest o1B_greatest]) := hD
    refine lv_aload_n hx hb dX3_copyFrom_44 rfl (lv_at hl 0 rfl) ?_
    refine lv_aload_n hx hb dX3_copyFrom_45 rfl (lv_at hl 1 rfl) ?_
    refine va_get (D := g.1) (ci := 3) (v := .int o1_shut) (C := RX3) (T := TX3) (N := 10) hx hb hts hin3 hown hK.1 hP 7 rfl rfl 3 (by decide) L8 (fun _ h9 => h9) rfl dX3_copyFrom_46 ?_
    obtain ⟨h_1, hf⟩ := if_some hf
    refine va_put (D := g.1) (ci := 3) (v := .int o1_shut) (ty := .boolean) (C := RX3) (T := TX3) (N := 10) hx hb hts hin3 tyX3 tyX3_ok nmX3 hown hK.1 hP hD hS 0 rfl rfl 3 (by decide) L8 (fun _ h9 => h9) rfl (by decide +kernel) (isb_n h_1) (isb_f h_1) (Nat.le_of_ble_eq_true rfl) dX3_copyFrom_49 (fun H locs hP hD hS => ?_)
    replace hP : va_P g.1 vwCl (fl [wk3 g t_p t_p_drags (va_cpy o1_drags t_drags (Int32.toNatClampNeg 0) (Int32.toNatClampNeg 0) (Int32.toNatClampNeg 6)) t_p_speeds (va_cpy o1_speeds t_speeds (Int32.toNatClampNeg 0) (Int32.toNatClampNeg 0) (Int32.toNatClampNeg 4)) t_p_settings (va_cpy o1_settings t_settings (Int32.toNatClampNeg 0) (Int32.toNatClampNeg 0) (Int32.toNatClampNeg 6)) o1_shut t_coresIn t_loaded t_hot t_made t_width t_p_taught, wk0 g t_p_taught tB_teachers tB_shortest tB_longest tB_p_least tB_least tB_p_greatest tB_greatest, wk3 g o1_p o1_p_drags o1_drags o1_p_speeds o1_speeds o1_p_settings o1_settings o1_shut o1_coresIn o1_loaded o1_hot o1_made o1_width o1_p_taught, wk0 g o1_p_taught o1B_teachers o1B_shortest o1B_longest o1B_p_least o1B_least o1B_p_greatest o1B_greatest]) H := hP
    replace hD : va_D A (fl [wk3 g t_p t_p_drags (va_cpy o1_drags t_drags (Int32.toNatClampNeg 0) (Int32.toNatClampNeg 0) (Int32.toNatClampNeg 6)) t_p_speeds (va_cpy o1_speeds t_speeds (Int32.toNatClampNeg 0) (Int32.toNatClampNeg 0) (Int32.toNatClampNeg 4)) t_p_settings (va_cpy o1_settings t_settings (Int32.toNatClampNeg 0) (Int32.toNatClampNeg 0) (Int32.toNatClampNeg 6)) o1_shut t_coresIn t_loaded t_hot t_made t_width t_p_taught, wk0 g t_p_taught tB_teachers tB_shortest tB_longest tB_p_least tB_least tB_p_greatest tB_greatest, wk3 g o1_p o1_p_drags o1_drags o1_p_speeds o1_speeds o1_p_settings o1_settings o1_shut o1_coresIn o1_loaded o1_hot o1_made o1_width o1_p_taught, wk0 g o1_p_taught o1B_teachers o1B_shortest o1B_longest o1B_p_least o1B_least o1B_p_greatest o1B_greatest]) := hD
    refine lv_aload_n hx hb dX3_copyFrom_52 rfl (lv_at hl 0 rfl) ?_
    refine lv_aload_n hx hb dX3_copyFrom_53 rfl (lv_at hl 1 rfl) ?_
    refine va_get (D := g.1) (ci := 3) (v := .int o1_coresIn) (C := RX3) (T := TX3) (N := 10) hx hb hts hin3 hown hK.1 hP 7 rfl rfl 4 (by decide) L9 (fun _ h9 => h9) rfl dX3_copyFrom_54 ?_
    refine va_put (D := g.1) (ci := 3) (v := .int o1_coresIn) (ty := .int) (C := RX3) (T := TX3) (N := 10) hx hb hts hin3 tyX3 tyX3_ok nmX3 hown hK.1 hP hD hS 0 rfl rfl 4 (by decide) L9 (fun _ h9 => h9) rfl (by decide +kernel) rfl rfl (Nat.le_of_ble_eq_true rfl) dX3_copyFrom_57 (fun H locs hP hD hS => ?_)
    replace hP : va_P g.1 vwCl (fl [wk3 g t_p t_p_drags (va_cpy o1_drags t_drags (Int32.toNatClampNeg 0) (Int32.toNatClampNeg 0) (Int32.toNatClampNeg 6)) t_p_speeds (va_cpy o1_speeds t_speeds (Int32.toNatClampNeg 0) (Int32.toNatClampNeg 0) (Int32.toNatClampNeg 4)) t_p_settings (va_cpy o1_settings t_settings (Int32.toNatClampNeg 0) (Int32.toNatClampNeg 0) (Int32.toNatClampNeg 6)) o1_shut o1_coresIn t_loaded t_hot t_made t_width t_p_taught, wk0 g t_p_taught tB_teachers tB_shortest tB_longest tB_p_least tB_least tB_p_greatest tB_greatest, wk3 g o1_p o1_p_drags o1_drags o1_p_speeds o1_speeds o1_p_settings o1_settings o1_shut o1_coresIn o1_loaded o1_hot o1_made o1_width o1_p_taught, wk0 g o1_p_taught o1B_teachers o1B_shortest o1B_longest o1B_p_least o1B_least o1B_p_greatest o1B_greatest]) H := hP
    replace hD : va_D A (fl [wk3 g t_p t_p_drags (va_cpy o1_drags t_drags (Int32.toNatClampNeg 0) (Int32.toNatClampNeg 0) (Int32.toNatClampNeg 6)) t_p_speeds (va_cpy o1_speeds t_speeds (Int32.toNatClampNeg 0) (Int32.toNatClampNeg 0) (Int32.toNatClampNeg 4)) t_p_settings (va_cpy o1_settings t_settings (Int32.toNatClampNeg 0) (Int32.toNatClampNeg 0) (Int32.toNatClampNeg 6)) o1_shut o1_coresIn t_loaded t_hot t_made t_width t_p_taught, wk0 g t_p_taught tB_teachers tB_shortest tB_longest tB_p_least tB_least tB_p_greatest tB_greatest, wk3 g o1_p o1_p_drags o1_drags o1_p_speeds o1_speeds o1_p_settings o1_settings o1_shut o1_coresIn o1_loaded o1_hot o1_made o1_width o1_p_taught, wk0 g o1_p_taught o1B_teachers o1B_shortest o1B_longest o1B_p_least o1B_least o1B_p_greatest o1B_greatest]) := hD
    refine lv_aload_n hx hb dX3_copyFrom_60 rfl (lv_at hl 0 rfl) ?_
    refine lv_aload_n hx hb dX3_copyFrom_61 rfl (lv_at hl 1 rfl) ?_
    refine va_get (D := g.1) (ci := 3) (v := .int o1_loaded) (C := RX3) (T := TX3) (N := 10) hx hb hts hin3 hown hK.1 hP 7 rfl rfl 5 (by decide) L10 (fun _ h9 => h9) rfl dX3_copyFrom_62 ?_
    obtain ⟨h_2, hf⟩ := if_some hf
    refine va_put (D := g.1) (ci := 3) (v := .int o1_loaded) (ty := .boolean) (C := RX3) (T := TX3) (N := 10) hx hb hts hin3 tyX3 tyX3_ok nmX3 hown hK.1 hP hD hS 0 rfl rfl 5 (by decide) L10 (fun _ h9 => h9) rfl (by decide +kernel) (isb_n h_2) (isb_f h_2) (Nat.le_of_ble_eq_true rfl) dX3_copyFrom_65 (fun H locs hP hD hS => ?_)
    replace hP : va_P g.1 vwCl (fl [wk3 g t_p t_p_drags (va_cpy o1_drags t_drags (Int32.toNatClampNeg 0) (Int32.toNatClampNeg 0) (Int32.toNatClampNeg 6)) t_p_speeds (va_cpy o1_speeds t_speeds (Int32.toNatClampNeg 0) (Int32.toNatClampNeg 0) (Int32.toNatClampNeg 4)) t_p_settings (va_cpy o1_settings t_settings (Int32.toNatClampNeg 0) (Int32.toNatClampNeg 0) (Int32.toNatClampNeg 6)) o1_shut o1_coresIn o1_loaded t_hot t_made t_width t_p_taught, wk0 g t_p_taught tB_teachers tB_shortest tB_longest tB_p_least tB_least tB_p_greatest tB_greatest, wk3 g o1_p o1_p_drags o1_drags o1_p_speeds o1_speeds o1_p_settings o1_settings o1_shut o1_coresIn o1_loaded o1_hot o1_made o1_width o1_p_taught, wk0 g o1_p_taught o1B_teachers o1B_shortest o1B_longest o1B_p_least o1B_least o1B_p_greatest o1B_greatest]) H := hP
    replace hD : va_D A (fl [wk3 g t_p t_p_drags (va_cpy o1_drags t_drags (Int32.toNatClampNeg 0) (Int32.toNatClampNeg 0) (Int32.toNatClampNeg 6)) t_p_speeds (va_cpy o1_speeds t_speeds (Int32.toNatClampNeg 0) (Int32.toNatClampNeg 0) (Int32.toNatClampNeg 4)) t_p_settings (va_cpy o1_settings t_settings (Int32.toNatClampNeg 0) (Int32.toNatClampNeg 0) (Int32.toNatClampNeg 6)) o1_shut o1_coresIn o1_loaded t_hot t_made t_width t_p_taught, wk0 g t_p_taught tB_teachers tB_shortest tB_longest tB_p_least tB_least tB_p_greatest tB_greatest, wk3 g o1_p o1_p_drags o1_drags o1_p_speeds o1_speeds o1_p_settings o1_settings o1_shut o1_coresIn o1_loaded o1_hot o1_made o1_width o1_p_taught, wk0 g o1_p_taught o1B_teachers o1B_shortest o1B_longest o1B_p_least o1B_least o1B_p_greatest o1B_greatest]) := hD
    refine lv_aload_n hx hb dX3_copyFrom_68 rfl (lv_at hl 0 rfl) ?_
    refine lv_aload_n hx hb dX3_copyFrom_69 rfl (lv_at hl 1 rfl) ?_
    refine va_get (D := g.1) (ci := 3) (v := .int o1_hot) (C := RX3) (T := TX3) (N := 10) hx hb hts hin3 hown hK.1 hP 7 rfl rfl 6 (by decide) L11 (fun _ h9 => h9) rfl dX3_copyFrom_70 ?_
    obtain ⟨h_3, hf⟩ := if_some hf
    refine va_put (D := g.1) (ci := 3) (v := .int o1_hot) (ty := .boolean) (C := RX3) (T := TX3) (N := 10) hx hb hts hin3 tyX3 tyX3_ok nmX3 hown hK.1 hP hD hS 0 rfl rfl 6 (by decide) L11 (fun _ h9 => h9) rfl (by decide +kernel) (isb_n h_3) (isb_f h_3) (Nat.le_of_ble_eq_true rfl) dX3_copyFrom_73 (fun H locs hP hD hS => ?_)
    replace hP : va_P g.1 vwCl (fl [wk3 g t_p t_p_drags (va_cpy o1_drags t_drags (Int32.toNatClampNeg 0) (Int32.toNatClampNeg 0) (Int32.toNatClampNeg 6)) t_p_speeds (va_cpy o1_speeds t_speeds (Int32.toNatClampNeg 0) (Int32.toNatClampNeg 0) (Int32.toNatClampNeg 4)) t_p_settings (va_cpy o1_settings t_settings (Int32.toNatClampNeg 0) (Int32.toNatClampNeg 0) (Int32.toNatClampNeg 6)) o1_shut o1_coresIn o1_loaded o1_hot t_made t_width t_p_taught, wk0 g t_p_taught tB_teachers tB_shortest tB_longest tB_p_least tB_least tB_p_greatest tB_greatest, wk3 g o1_p o1_p_drags o1_drags o1_p_speeds o1_speeds o1_p_settings o1_settings o1_shut o1_coresIn o1_loaded o1_hot o1_made o1_width o1_p_taught, wk0 g o1_p_taught o1B_teachers o1B_shortest o1B_longest o1B_p_least o1B_least o1B_p_greatest o1B_greatest]) H := hP
    replace hD : va_D A (fl [wk3 g t_p t_p_drags (va_cpy o1_drags t_drags (Int32.toNatClampNeg 0) (Int32.toNatClampNeg 0) (Int32.toNatClampNeg 6)) t_p_speeds (va_cpy o1_speeds t_speeds (Int32.toNatClampNeg 0) (Int32.toNatClampNeg 0) (Int32.toNatClampNeg 4)) t_p_settings (va_cpy o1_settings t_settings (Int32.toNatClampNeg 0) (Int32.toNatClampNeg 0) (Int32.toNatClampNeg 6)) o1_shut o1_coresIn o1_loaded o1_hot t_made t_width t_p_taught, wk0 g t_p_taught tB_teachers tB_shortest tB_longest tB_p_least tB_least tB_p_greatest tB_greatest, wk3 g o1_p o1_p_drags o1_drags o1_p_speeds o1_speeds o1_p_settings o1_settings o1_shut o1_coresIn o1_loaded o1_hot o1_made o1_width o1_p_taught, wk0 g o1_p_taught o1B_teachers o1B_shortest o1B_longest o1B_p_least o1B_least o1B_p_greatest o1B_greatest]) := hD
    refine lv_aload_n hx hb dX3_copyFrom_76 rfl (lv_at hl 0 rfl) ?_
    refine lv_aload_n hx hb dX3_copyFrom_77 rfl (lv_at hl 1 rfl) ?_
    refine va_get (D := g.1) (ci := 3) (v := .int o1_made) (C := RX3) (T := TX3) (N := 10) hx hb hts hin3 hown hK.1 hP 7 rfl rfl 7 (by decide) L12 (fun _ h9 => h9) rfl dX3_copyFrom_78 ?_
    refine va_put (D := g.1) (ci := 3) (v := .int o1_made) (ty := .int) (C := RX3) (T := TX3) (N := 10) hx hb hts hin3 tyX3 tyX3_ok nmX3 hown hK.1 hP hD hS 0 rfl rfl 7 (by decide) L12 (fun _ h9 => h9) rfl (by decide +kernel) rfl rfl (Nat.le_of_ble_eq_true rfl) dX3_copyFrom_81 (fun H locs hP hD hS => ?_)
    replace hP : va_P g.1 vwCl (fl [wk3 g t_p t_p_drags (va_cpy o1_drags t_drags (Int32.toNatClampNeg 0) (Int32.toNatClampNeg 0) (Int32.toNatClampNeg 6)) t_p_speeds (va_cpy o1_speeds t_speeds (Int32.toNatClampNeg 0) (Int32.toNatClampNeg 0) (Int32.toNatClampNeg 4)) t_p_settings (va_cpy o1_settings t_settings (Int32.toNatClampNeg 0) (Int32.toNatClampNeg 0) (Int32.toNatClampNeg 6)) o1_shut o1_coresIn o1_loaded o1_hot o1_made t_width t_p_taught, wk0 g t_p_taught tB_teachers tB_shortest tB_longest tB_p_least tB_least tB_p_greatest tB_greatest, wk3 g o1_p o1_p_drags o1_drags o1_p_speeds o1_speeds o1_p_settings o1_settings o1_shut o1_coresIn o1_loaded o1_hot o1_made o1_width o1_p_taught, wk0 g o1_p_taught o1B_teachers o1B_shortest o1B_longest o1B_p_least o1B_least o1B_p_greatest o1B_greatest]) H := hP
    replace hD : va_D A (fl [wk3 g t_p t_p_drags (va_cpy o1_drags t_drags (Int32.toNatClampNeg 0) (Int32.toNatClampNeg 0) (Int32.toNatClampNeg 6)) t_p_speeds (va_cpy o1_speeds t_speeds (Int32.toNatClampNeg 0) (Int32.toNatClampNeg 0) (Int32.toNatClampNeg 4)) t_p_settings (va_cpy o1_settings t_settings (Int32.toNatClampNeg 0) (Int32.toNatClampNeg 0) (Int32.toNatClampNeg 6)) o1_shut o1_coresIn o1_loaded o1_hot o1_made t_width t_p_taught, wk0 g t_p_taught tB_teachers tB_shortest tB_longest tB_p_least tB_least tB_p_greatest tB_greatest, wk3 g o1_p o1_p_drags o1_drags o1_p_speeds o1_speeds o1_p_settings o1_settings o1_shut o1_coresIn o1_loaded o1_hot o1_made o1_width o1_p_taught, wk0 g o1_p_taught o1B_teachers o1B_shortest o1B_longest o1B_p_least o1B_least o1B_p_greatest o1B_greatest]) := hD
    refine lv_aload_n hx hb dX3_copyFrom_84 rfl (lv_at hl 0 rfl) ?_
    refine lv_aload_n hx hb dX3_copyFrom_85 rfl (lv_at hl 1 rfl) ?_
    refine va_get (D := g.1) (ci := 3) (v := .int o1_width) (C := RX3) (T := TX3) (N := 10) hx hb hts hin3 hown hK.1 hP 7 rfl rfl 8 (by decide) L13 (fun _ h9 => h9) rfl dX3_copyFrom_86 ?_
    refine va_put (D := g.1) (ci := 3) (v := .int o1_width) (ty := .int) (C := RX3) (T := TX3) (N := 10) hx hb hts hin3 tyX3 tyX3_ok nmX3 hown hK.1 hP hD hS 0 rfl rfl 8 (by decide) L13 (fun _ h9 => h9) rfl (by decide +kernel) rfl rfl (Nat.le_of_ble_eq_true rfl) dX3_copyFrom_89 (fun H locs hP hD hS => ?_)
    replace hP : va_P g.1 vwCl (fl [wk3 g t_p t_p_drags (va_cpy o1_drags t_drags (Int32.toNatClampNeg 0) (Int32.toNatClampNeg 0) (Int32.toNatClampNeg 6)) t_p_speeds (va_cpy o1_speeds t_speeds (Int32.toNatClampNeg 0) (Int32.toNatClampNeg 0) (Int32.toNatClampNeg 4)) t_p_settings (va_cpy o1_settings t_settings (Int32.toNatClampNeg 0) (Int32.toNatClampNeg 0) (Int32.toNatClampNeg 6)) o1_shut o1_coresIn o1_loaded o1_hot o1_made o1_width t_p_taught, wk0 g t_p_taught tB_teachers tB_shortest tB_longest tB_p_least tB_least tB_p_greatest tB_greatest, wk3 g o1_p o1_p_drags o1_drags o1_p_speeds o1_speeds o1_p_settings o1_settings o1_shut o1_coresIn o1_loaded o1_hot o1_made o1_width o1_p_taught, wk0 g o1_p_taught o1B_teachers o1B_shortest o1B_longest o1B_p_least o1B_least o1B_p_greatest o1B_greatest]) H := hP
    replace hD : va_D A (fl [wk3 g t_p t_p_drags (va_cpy o1_drags t_drags (Int32.toNatClampNeg 0) (Int32.toNatClampNeg 0) (Int32.toNatClampNeg 6)) t_p_speeds (va_cpy o1_speeds t_speeds (Int32.toNatClampNeg 0) (Int32.toNatClampNeg 0) (Int32.toNatClampNeg 4)) t_p_settings (va_cpy o1_settings t_settings (Int32.toNatClampNeg 0) (Int32.toNatClampNeg 0) (Int32.toNatClampNeg 6)) o1_shut o1_coresIn o1_loaded o1_hot o1_made o1_width t_p_taught, wk0 g t_p_taught tB_teachers tB_shortest tB_longest tB_p_least tB_least tB_p_greatest tB_greatest, wk3 g o1_p o1_p_drags o1_drags o1_p_speeds o1_speeds o1_p_settings o1_settings o1_shut o1_coresIn o1_loaded o1_hot o1_made o1_width o1_p_taught, wk0 g o1_p_taught o1B_teachers o1B_shortest o1B_longest o1B_p_least o1B_least o1B_p_greatest o1B_greatest]) := hD
    refine lv_aload_n hx hb dX3_copyFrom_92 rfl (lv_at hl 0 rfl) ?_
    refine va_get (D := g.1) (ci := 3) (v := .ref t_p_taught) (C := RX3) (T := TX3) (N := 10) hx hb hts hin3 hown hK.1 hP 0 rfl rfl 9 (by decide) L14 (fun _ h9 => h9) rfl dX3_copyFrom_93 ?_
    refine lv_aload_n hx hb dX3_copyFrom_96 rfl (lv_at hl 1 rfl) ?_
    refine va_get (D := g.1) (ci := 3) (v := .ref o1_p_taught) (C := RX3) (T := TX3) (N := 10) hx hb hts hin3 hown hK.1 hP 7 rfl rfl 9 (by decide) L14 (fun _ h9 => h9) rfl dX3_copyFrom_97 ?_
    obtain ⟨q_4, hq_4, hf⟩ := bd_some hf
    refine bft_v (bn := [wk3 g t_p t_p_drags (va_cpy o1_drags t_drags (Int32.toNatClampNeg 0) (Int32.toNatClampNeg 0) (Int32.toNatClampNeg 6)) t_p_speeds (va_cpy o1_speeds t_speeds (Int32.toNatClampNeg 0) (Int32.toNatClampNeg 0) (Int32.toNatClampNeg 4)) t_p_settings (va_cpy o1_settings t_settings (Int32.toNatClampNeg 0) (Int32.toNatClampNeg 0) (Int32.toNatClampNeg 6)) o1_shut o1_coresIn o1_loaded o1_hot o1_made o1_width t_p_taught, wk0 g t_p_taught o1B_teachers o1B_shortest o1B_longest tB_p_least (va_cpy o1B_least tB_least (Int32.toNatClampNeg 0) (Int32.toNatClampNeg 0) (Int32.toNatClampNeg 60)) tB_p_greatest (va_cpy o1B_greatest tB_greatest (Int32.toNatClampNeg 0) (Int32.toNatClampNeg 0) (Int32.toNatClampNeg 60)), wk3 g o1_p o1_p_drags o1_drags o1_p_speeds o1_speeds o1_p_settings o1_settings o1_shut o1_coresIn o1_loaded o1_hot o1_made o1_width o1_p_taught, wk0 g o1_p_taught o1B_teachers o1B_shortest o1B_longest o1B_p_least o1B_least o1B_p_greatest o1B_greatest]) (L := [[t_p_taught, tB_p_least, tB_p_greatest], [o1_p_taught, o1B_p_least, o1B_p_greatest]]) (va_runVN (As := [.ref o1_p_taught]) (rest := []) ⟨hx, hb, hml, hown, hts⟩ (c0_copyFrom l g t_p_taught tB_teachers tB_shortest tB_longest tB_p_least tB_least tB_p_greatest tB_greatest o1_p_taught o1B_teachers o1B_shortest o1B_longest o1B_p_least o1B_least o1B_p_greatest o1B_greatest H.size N q_4 hq_4) ⟨va_cnB 1 hts gX3_copyFrom_X0_copyFrom_n62 rfl rfl rfl (hK.nw _ 67 rfl) L15 ⟨nh0.1, nh0.2, pd_13⟩ ⟨Nat.le_of_ble_eq_true rfl, Nat.le_of_ble_eq_true rfl⟩, L16, L17⟩ (qPV hK hG hP hD hS hA [1, 3] (by decide) rfl (va_recv hK.1 hP (ci := 0) (q0 := 4) rfl rfl)) rfl rfl hl.1 rfl (lv_room (Nat.le_of_ble_eq_true rfl)) dX3_copyFrom_100 ⟨Nat.zero_le _, Nat.zero_le _⟩) hP hD hS hA [1, 3] rfl rfl rfl rfl (fun H locs hP hD hS => ?_)
    replace hf := Option.some.inj hf
    subst hf
    exact W.vret hx hb hr (fun t ht hW => ⟨⟨(), rfl, trivial, by show va_P g.1 vwCl _ t.heap; rw [ht]; exact hP⟩, hS.F ht⟩) hS.2.2 dX3_copyFrom_103 hlocks
  exact hgo s.heap [] rfl rfl hP hS

set_option maxHeartbeats 4000000 in
set_option maxRecDepth 100000 in
theorem c3_isIn (l : Launch) (g : gG) (t_p : Nat) (t_p_drags : Nat) (t_drags : (Nat → Int32)) (t_p_speeds : Nat) (t_speeds : (Nat → Int32)) (t_p_settings : Nat) (t_settings : (Nat → Int32)) (t_shut : Int32) (t_coresIn : Int32) (t_loaded : Int32) (t_hot : Int32) (t_made : Int32) (t_width : Int32) (t_p_taught : Nat) (l1 : Int32) (sz : Nat) (N : Nat) (res : (Int32)) (hf : f3_isIn N l1 t_coresIn = some res) : Met l yX3_isIn wsX3_isIn ({ frames := 0, cells := 0, slots := 0, locals := 0 }) (pP g [.ref t_p, .int l1] sz (fl [wk3 g t_p t_p_drags t_drags t_p_speeds t_speeds t_p_settings t_settings t_shut t_coresIn t_loaded t_hot t_made t_width t_p_taught])) (pQi g (fun r => r = res) (fl [wk3 g t_p t_p_drags t_drags t_p_speeds t_speeds t_p_settings t_settings t_shut t_coresIn t_loaded t_hot t_made t_width t_p_taught]) (va_A (fl [wk3 g t_p t_p_drags t_drags t_p_speeds t_speeds t_p_settings t_settings t_shut t_coresIn t_loaded t_hot t_made t_width t_p_taught]) sz)) 0 0 (va_A (fl [wk3 g t_p t_p_drags t_drags t_p_speeds t_speeds t_p_settings t_settings t_shut t_coresIn t_loaded t_hot t_made t_width t_p_taught]) sz) := by
  refine Met.ofW (cc := cX3_isIn) (maxL := 2) (ret := (some .boolean)) (by decide) rfl ?_
  intro p e s m args below meth c s₁ B hml hv
  obtain ⟨rfl, hsz, hP, hK, hD0, hG⟩ := hv
  have hx := B.exec
  have hb := B.bytes
  have hr := B.returns
  have hts := atoms_spec (ws := wsX3_isIn) B.pre
  have hown : s.vm.findClass RX3 = some m.cls := findClass_of_methodNamed B.named
  have hlocks := B.notSynchronized
  subst hsz
  have hD := hD0.self (sz := s.heap.size)
  generalize hAe : va_A (fl [wk3 g t_p t_p_drags t_drags t_p_speeds t_speeds t_p_settings t_settings t_shut t_coresIn t_loaded t_hot t_made t_width t_p_taught]) s.heap.size = A at hD hG ⊢
  have hA : ∀ q : Nat, s.heap.size ≤ q → A q := fun q h => by rw [← hAe]; exact Or.inr h
  have hS : va_S A s.heap s.heap [] := va_S.rf
  have hin3 : ∀ w ∈ u_ws RX3 TX3 10, w ∈ wsX3_isIn := by decide +kernel
  have L1 := hts (Cond.fieldLink RX3 25 "MouldShots$State" "coresIn" "I") (by decide +kernel)
  have hl := lv_entry ([.ref t_p, .int l1]) (n := 2) (Nat.le_of_ble_eq_true rfl)
  rw [lg_entry_eq]
  generalize (lg_sl ([.ref t_p, .int l1]) ++ List.replicate (2 - (lg_sl ([.ref t_p, .int l1])).length) Slot.unset).toArray = ls at hl ⊢
  replace hl : lv_has ls 2 [(0, .ref t_p), (1, .int l1)] := hl
  rw [f3_isIn] at hf
  have hgo : ∀ (H : Heap) (locs : List Loc), H = s.heap → locs = [] → va_P g.1 vwCl (fl [wk3 g t_p t_p_drags t_drags t_p_speeds t_speeds t_p_settings t_settings t_shut t_coresIn t_loaded t_hot t_made t_width t_p_taught]) H → va_S A s.heap H locs → W p l e ({ frames := 0, cells := 0, slots := 0, locals := 0 }) s m ([.ref t_p, .int l1] : List Value).toArray below meth c H locs 0 0 (MQ below (pQi g (fun r => r = res) (fl [wk3 g t_p t_p_drags t_drags t_p_speeds t_speeds t_p_settings t_settings t_shut t_coresIn t_loaded t_hot t_made t_width t_p_taught]) A) ([.ref t_p, .int l1] : List Value).toArray s 0 0 A) (F0 m 0 ls []) := by
    intro H locs hH hL hP hS
    refine lv_aload_n hx hb dX3_isIn_0 rfl (lv_at hl 0 rfl) ?_
    refine va_get (D := g.1) (ci := 3) (v := .int t_coresIn) (C := RX3) (T := TX3) (N := 10) hx hb hts hin3 hown hK.1 hP 0 rfl rfl 4 (by decide) L1 (fun _ h9 => h9) rfl dX3_isIn_1 ?_
    refine lv_iload_n hx hb dX3_isIn_4 rfl (lv_at hl 1 rfl) ?_
    refine lv_ishr hx hb dX3_isIn_5 ?_
    refine lv_iconst (v := 1) hx hb dX3_isIn_6 (by decide) ?_
    refine lv_iand hx hb dX3_isIn_7 ?_
    refine lv_iconst (v := 1) hx hb dX3_isIn_8 (by decide) ?_
    refine lv_icmp_ne (tgt := 16) hx hb dX3_isIn_9 (by decide) (fun c_1 => ?_) (fun c_1 => ?_)
    · replace hf := (if_neg c_1).symm.trans hf
      refine lv_iconst (v := 0) hx hb dX3_isIn_16 (by decide) ?_
      replace hf := Option.some.inj hf
      subst hf
      exact W.zret (v := 0) hx hb hr rfl (fun t ht hW => ⟨⟨_, (), rfl, rfl, by show va_P g.1 vwCl _ t.heap; rw [ht]; exact hP⟩, hS.F ht⟩) hS.2.2 dX3_isIn_17 hlocks
    · replace hf := (if_pos c_1).symm.trans hf
      refine lv_iconst (v := 1) hx hb dX3_isIn_12 (by decide) ?_
      refine lv_goto (tgt := 17) hx hb dX3_isIn_13 (by decide) ?_
      replace hf := Option.some.inj hf
      subst hf
      exact W.zret (v := 1) hx hb hr rfl (fun t ht hW => ⟨⟨_, (), rfl, rfl, by show va_P g.1 vwCl _ t.heap; rw [ht]; exact hP⟩, hS.F ht⟩) hS.2.2 dX3_isIn_17 hlocks
  exact hgo s.heap [] rfl rfl hP hS

set_option maxHeartbeats 4000000 in
set_option maxRecDepth 100000 in
theorem c4_clear (l : Launch) (g : gG) (t_p : Nat) (t_p_letters : Nat) (t_letters : (Nat → Int32)) (t_p_numbers : Nat) (t_numbers : (Nat → Int32)) (t_length : Int32) (sz : Nat) (N : Nat) (res : Unit) (hf : f4_clear N  = some res) : Met l yX4_clear wsX4_clear ({ frames := 0, cells := 0, slots := 0, locals := 0 }) (pP g [.ref t_p] sz (fl [wk4 g t_p t_p_letters t_letters t_p_numbers t_numbers t_length])) (pQv g (fl [wk4 g t_p t_p_letters t_letters t_p_numbers t_numbers 0]) (va_A (fl [wk4 g t_p t_p_letters t_letters t_p_numbers t_numbers t_length]) sz)) 0 0 (va_A (fl [wk4 g t_p t_p_letters t_letters t_p_numbers t_numbers t_length]) sz) := by
  refine Met.ofW (cc := cX4_clear) (maxL := 1) (ret := none) (by decide) rfl ?_
  intro p e s m args below meth c s₁ B hml hv
  obtain ⟨rfl, hsz, hP, hK, hD0, hG⟩ := hv
  have hx := B.exec
  have hb := B.bytes
  have hr := B.returns
  have hts := atoms_spec (ws := wsX4_clear) B.pre
  have hown : s.vm.findClass RX4 = some m.cls := findClass_of_methodNamed B.named
  have hlocks := B.notSynchronized
  subst hsz
  have hD := hD0.self (sz := s.heap.size)
  generalize hAe : va_A (fl [wk4 g t_p t_p_letters t_letters t_p_numbers t_numbers t_length]) s.heap.size = A at hD hG ⊢
  have hA : ∀ q : Nat, s.heap.size ≤ q → A q := fun q h => by rw [← hAe]; exact Or.inr h
  have hS : va_S A s.heap s.heap [] := va_S.rf
  have hin4 : ∀ w ∈ u_ws RX4 TX4 3, w ∈ wsX4_clear := by decide +kernel
  have L1 := hts (Cond.fieldLink RX4 18 "MouldShots$Text" "length" "I") (by decide +kernel)
  have hl := lv_entry ([.ref t_p]) (n := 1) (Nat.le_of_ble_eq_true rfl)
  rw [lg_entry_eq]
  generalize (lg_sl ([.ref t_p]) ++ List.replicate (1 - (lg_sl ([.ref t_p])).length) Slot.unset).toArray = ls at hl ⊢
  replace hl : lv_has ls 1 [(0, .ref t_p)] := hl
  rw [f4_clear] at hf
  have hgo : ∀ (H : Heap) (locs : List Loc), H = s.heap → locs = [] → va_P g.1 vwCl (fl [wk4 g t_p t_p_letters t_letters t_p_numbers t_numbers t_length]) H → va_S A s.heap H locs → W p l e ({ frames := 0, cells := 0, slots := 0, locals := 0 }) s m ([.ref t_p] : List Value).toArray below meth c H locs 0 0 (MQ below (pQv g (fl [wk4 g t_p t_p_letters t_letters t_p_numbers t_numbers 0]) A) ([.ref t_p] : List Value).toArray s 0 0 A) (F0 m 0 ls []) := by
    intro H locs hH hL hP hS
    refine lv_aload_n hx hb dX4_clear_0 rfl (lv_at hl 0 rfl) ?_
    refine lv_iconst (v := 0) hx hb dX4_clear_1 (by decide) ?_
    refine va_put (D := g.1) (ci := 4) (v := .int 0) (ty := .int) (C := RX4) (T := TX4) (N := 3) hx hb hts hin4 tyX4 tyX4_ok nmX4 hown hK.1 hP hD hS 0 rfl rfl 2 (by decide) L1 (fun _ h9 => h9) rfl (by decide +kernel) rfl rfl (Nat.le_of_ble_eq_true rfl) dX4_clear_2 (fun H locs hP hD hS => ?_)
    replace hP : va_P g.1 vwCl (fl [wk4 g t_p t_p_letters t_letters t_p_numbers t_numbers 0]) H := hP
    replace hD : va_D A (fl [wk4 g t_p t_p_letters t_letters t_p_numbers t_numbers 0]) := hD
    replace hf := Option.some.inj hf
    subst hf
    exact W.vret hx hb hr (fun t ht hW => ⟨⟨(), rfl, trivial, by show va_P g.1 vwCl _ t.heap; rw [ht]; exact hP⟩, hS.F ht⟩) hS.2.2 dX4_clear_5 hlocks
  exact hgo s.heap [] rfl rfl hP hS

set_option maxHeartbeats 4000000 in
set_option maxRecDepth 100000 in
theorem c4_append (l : Launch) (g : gG) (t_p : Nat) (t_p_letters : Nat) (t_letters : (Nat → Int32)) (t_p_numbers : Nat) (t_numbers : (Nat → Int32)) (t_length : Int32) (l1 : Int32) (sz : Nat) (N : Nat) (res : (Int32 × (Nat → Int32) × Int32)) (hf : f4_append N l1 t_letters t_length = some res) : Met l yX4_append wsX4_append ({ frames := 0, cells := 0, slots := 0, locals := 0 }) (pP g [.ref t_p, .int l1] sz (fl [wk4 g t_p t_p_letters t_letters t_p_numbers t_numbers t_length])) (pQi g (fun r => r = res.1) (fl [wk4 g t_p t_p_letters res.2.1 t_p_numbers t_numbers res.2.2]) (va_A (fl [wk4 g t_p t_p_letters t_letters t_p_numbers t_numbers t_length]) sz)) 0 0 (va_A (fl [wk4 g t_p t_p_letters t_letters t_p_numbers t_numbers t_length]) sz) := by
  refine Met.ofW (cc := cX4_append) (maxL := 2) (ret := (some .boolean)) (by decide) rfl ?_
  intro p e s m args below meth c s₁ B hml hv
  obtain ⟨rfl, hsz, hP, hK, hD0, hG⟩ := hv
  have hx := B.exec
  have hb := B.bytes
  have hr := B.returns
  have hts := atoms_spec (ws := wsX4_append) B.pre
  have hown : s.vm.findClass RX4 = some m.cls := findClass_of_methodNamed B.named
  have hlocks := B.notSynchronized
  subst hsz
  have hD := hD0.self (sz := s.heap.size)
  generalize hAe : va_A (fl [wk4 g t_p t_p_letters t_letters t_p_numbers t_numbers t_length]) s.heap.size = A at hD hG ⊢
  have hA : ∀ q : Nat, s.heap.size ≤ q → A q := fun q h => by rw [← hAe]; exact Or.inr h
  have hS : va_S A s.heap s.heap [] := va_S.rf
  have hin4 : ∀ w ∈ u_ws RX4 TX4 3, w ∈ wsX4_append := by decide +kernel
  have L1 := hts (Cond.fieldLink RX4 18 "MouldShots$Text" "length" "I") (by decide +kernel)
  have L2 := hts (Cond.fieldLink RX4 9 "MouldShots$Text" "letters" "[I") (by decide +kernel)
  have hl := lv_entry ([.ref t_p, .int l1]) (n := 2) (Nat.le_of_ble_eq_true rfl)
  rw [lg_entry_eq]
  generalize (lg_sl ([.ref t_p, .int l1]) ++ List.replicate (2 - (lg_sl ([.ref t_p, .int l1])).length) Slot.unset).toArray = ls at hl ⊢
  replace hl : lv_has ls 2 [(0, .ref t_p), (1, .int l1)] := hl
  rw [f4_append] at hf
  have hgo : ∀ (H : Heap) (locs : List Loc), H = s.heap → locs = [] → va_P g.1 vwCl (fl [wk4 g t_p t_p_letters t_letters t_p_numbers t_numbers t_length]) H → va_S A s.heap H locs → W p l e ({ frames := 0, cells := 0, slots := 0, locals := 0 }) s m ([.ref t_p, .int l1] : List Value).toArray below meth c H locs 0 0 (MQ below (pQi g (fun r => r = res.1) (fl [wk4 g t_p t_p_letters res.2.1 t_p_numbers t_numbers res.2.2]) A) ([.ref t_p, .int l1] : List Value).toArray s 0 0 A) (F0 m 0 ls []) := by
    intro H locs hH hL hP hS
    refine lv_aload_n hx hb dX4_append_0 rfl (lv_at hl 0 rfl) ?_
    refine va_get (D := g.1) (ci := 4) (v := .int t_length) (C := RX4) (T := TX4) (N := 3) hx hb hts hin4 hown hK.1 hP 0 rfl rfl 2 (by decide) L1 (fun _ h9 => h9) rfl dX4_append_1 ?_
    refine lv_sipush (v := 200) hx hb dX4_append_4 (by decide) ?_
    refine lv_icmp_lt (tgt := 12) hx hb dX4_append_7 (by decide) (fun c_1 => ?_) (fun c_1 => ?_)
    · replace hf := (if_pos c_1).symm.trans hf
      refine lv_aload_n hx hb dX4_append_12 rfl (lv_at hl 0 rfl) ?_
      refine va_get (D := g.1) (ci := 4) (v := .ref t_p_letters) (C := RX4) (T := TX4) (N := 3) hx hb hts hin4 hown hK.1 hP 0 rfl rfl 0 (by decide) L2 (fun _ h9 => h9) rfl dX4_append_13 ?_
      refine lv_aload_n hx hb dX4_append_16 rfl (lv_at hl 0 rfl) ?_
      refine va_get (D := g.1) (ci := 4) (v := .int t_length) (C := RX4) (T := TX4) (N := 3) hx hb hts hin4 hown hK.1 hP 0 rfl rfl 2 (by decide) L1 (fun _ h9 => h9) rfl dX4_append_17 ?_
      refine lv_iload_n hx hb dX4_append_20 rfl (lv_at hl 1 rfl) ?_
      obtain ⟨h_2, hf⟩ := if_some hf
      refine va_iast hx hb hK.1 hP hD hS 1 0 rfl rfl (ok_in h_2) dX4_append_21 (fun H locs hP hD hS => ?_)
      replace hP : va_P g.1 vwCl (fl [wk4 g t_p t_p_letters (upd t_letters (Int32.toNatClampNeg t_length) l1) t_p_numbers t_numbers t_length]) H := hP
      replace hD : va_D A (fl [wk4 g t_p t_p_letters (upd t_letters (Int32.toNatClampNeg t_length) l1) t_p_numbers t_numbers t_length]) := hD
      refine lv_aload_n hx hb dX4_append_22 rfl (lv_at hl 0 rfl) ?_
      refine lv_dup hx hb dX4_append_23 rfl ?_
      refine va_get (D := g.1) (ci := 4) (v := .int t_length) (C := RX4) (T := TX4) (N := 3) hx hb hts hin4 hown hK.1 hP 0 rfl rfl 2 (by decide) L1 (fun _ h9 => h9) rfl dX4_append_24 ?_
      refine lv_iconst (v := 1) hx hb dX4_append_27 (by decide) ?_
      refine lv_iadd hx hb dX4_append_28 ?_
      refine va_put (D := g.1) (ci := 4) (v := .int (t_length + 1)) (ty := .int) (C := RX4) (T := TX4) (N := 3) hx hb hts hin4 tyX4 tyX4_ok nmX4 hown hK.1 hP hD hS 0 rfl rfl 2 (by decide) L1 (fun _ h9 => h9) rfl (by decide +kernel) rfl rfl (Nat.le_of_ble_eq_true rfl) dX4_append_29 (fun H locs hP hD hS => ?_)
      replace hP : va_P g.1 vwCl (fl [wk4 g t_p t_p_letters (upd t_letters (Int32.toNatClampNeg t_length) l1) t_p_numbers t_numbers (t_length + 1)]) H := hP
      replace hD : va_D A (fl [wk4 g t_p t_p_letters (upd t_letters (Int32.toNatClampNeg t_length) l1) t_p_numbers t_numbers (t_length + 1)]) := hD
      refine lv_iconst (v := 1) hx hb dX4_append_32 (by decide) ?_
      replace hf := Option.some.inj hf
      subst hf
      exact W.zret (v := 1) hx hb hr rfl (fun t ht hW => ⟨⟨_, (), rfl, rfl, by show va_P g.1 vwCl _ t.heap; rw [ht]; exact hP⟩, hS.F ht⟩) hS.2.2 dX4_append_33 hlocks
    · replace hf := (if_neg c_1).symm.trans hf
      refine lv_iconst (v := 0) hx hb dX4_append_10 (by decide) ?_
      replace hf := Option.some.inj hf
      subst hf
      exact W.zret (v := 0) hx hb hr rfl (fun t ht hW => ⟨⟨_, (), rfl, rfl, by show va_P g.1 vwCl _ t.heap; rw [ht]; exact hP⟩, hS.F ht⟩) hS.2.2 dX4_append_11 hlocks
  exact hgo s.heap [] rfl rfl hP hS

set_option maxHeartbeats 4000000 in
set_option maxRecDepth 100000 in
theorem c4_readNumbers (l : Launch) (g : gG) (t_p : Nat) (t_p_letters : Nat) (t_letters : (Nat → Int32)) (t_p_numbers : Nat) (t_numbers : (Nat → Int32)) (t_length : Int32) (l1 : Int32) (l2 : Int32) (sz : Nat) (N : Nat) (res : (Int32 × (Nat → Int32))) (hf : f4_readNumbers N l1 l2 t_letters t_numbers = some res) : Met l yX4_readNumbers wsX4_readNumbers ({ frames := 0, cells := 0, slots := 0, locals := 0 }) (pP g [.ref t_p, .int l1, .int l2] sz (fl [wk4 g t_p t_p_letters t_letters t_p_numbers t_numbers t_length])) (pQi g (fun r => r = res.1) (fl [wk4 g t_p t_p_letters t_letters t_p_numbers res.2 t_length]) (va_A (fl [wk4 g t_p t_p_letters t_letters t_p_numbers t_numbers t_length]) sz)) 0 0 (va_A (fl [wk4 g t_p t_p_letters t_letters t_p_numbers t_numbers t_length]) sz) := by
  refine Met.ofW (cc := cX4_readNumbers) (maxL := 8) (ret := (some .int)) (by decide) rfl ?_
  intro p e s m args below meth c s₁ B hml hv
  obtain ⟨rfl, hsz, hP, hK, hD0, hG⟩ := hv
  have hx := B.exec
  have hb := B.bytes
  have hr := B.returns
  have hts := atoms_spec (ws := wsX4_readNumbers) B.pre
  have hown : s.vm.findClass RX4 = some m.cls := findClass_of_methodNamed B.named
  have hlocks := B.notSynchronized
  subst hsz
  have hD := hD0.self (sz := s.heap.size)
  generalize hAe : va_A (fl [wk4 g t_p t_p_letters t_letters t_p_numbers t_numbers t_length]) s.heap.size = A at hD hG ⊢
  have hA : ∀ q : Nat, s.heap.size ≤ q → A q := fun q h => by rw [← hAe]; exact Or.inr h
  have hS : va_S A s.heap s.heap [] := va_S.rf
  have hin4 : ∀ w ∈ u_ws RX4 TX4 3, w ∈ wsX4_readNumbers := by decide +kernel
  have L1 := hts (Cond.fieldLink RX4 9 "MouldShots$Text" "letters" "[I") (by decide +kernel)
  have L2 := hts (Cond.fieldLink RX4 15 "MouldShots$Text" "numbers" "[I") (by decide +kernel)
  have w_35 : ∀ (k_11 : Int32 → Int32 → Int32 → Int32 → Int32 → (Nat → Int32) → (Nat → Int32) → Option (Int32 × (Nat → Int32))), (∀ (v2 : Int32) (v3 : Int32) (v4 : Int32) (v5 : Int32) (v6 : Int32) (t_numbers : (Nat → Int32)) (H : Heap) (locs : List Loc) (ls : Array Slot), k_11 v2 v3 v4 v5 v6 t_letters t_numbers = some res → va_P g.1 vwCl (fl [wk4 g t_p t_p_letters t_letters t_p_numbers t_numbers t_length]) H → va_D A (fl [wk4 g t_p t_p_letters t_letters t_p_numbers t_numbers t_length]) → va_S A s.heap H locs → lv_has ls 8 [(0, .ref t_p), (2, .int v2), (3, .int v3), (4, .int v4), (5, .int v5), (6, .int v6)] → W p l e ({ frames := 0, cells := 0, slots := 0, locals := 0 }) s m ([.ref t_p, .int l1, .int l2] : List Value).toArray below meth c H locs 0 0 (MQ below (pQi g (fun r => r = res.1) (fl [wk4 g t_p t_p_letters t_letters t_p_numbers res.2 t_length]) A) ([.ref t_p, .int l1, .int l2] : List Value).toArray s 0 0 A) (F0 m 11 ls [])) → ∀ (v2 : Int32) (v3 : Int32) (v4 : Int32) (v5 : Int32) (v6 : Int32) (s0 : Int32) (t_numbers : (Nat → Int32)) (H : Heap) (locs : List Loc) (ls : Array Slot), f4_readNumbers_35 k_11 N v2 v3 v4 v5 v6 s0 t_letters t_numbers = some res → va_P g.1 vwCl (fl [wk4 g t_p t_p_letters t_letters t_p_numbers t_numbers t_length]) H → va_D A (fl [wk4 g t_p t_p_letters t_letters t_p_numbers t_numbers t_length]) → va_S A s.heap H locs → lv_has ls 8 [(0, .ref t_p), (2, .int v2), (3, .int v3), (4, .int v4), (5, .int v5), (6, .int v6)] → W p l e ({ frames := 0, cells := 0, slots := 0, locals := 0 }) s m ([.ref t_p, .int l1, .int l2] : List Value).toArray below meth c H locs 0 0 (MQ below (pQi g (fun r => r = res.1) (fl [wk4 g t_p t_p_letters t_letters t_p_numbers res.2 t_length]) A) ([.ref t_p, .int l1, .int l2] : List Value).toArray s 0 0 A) (F0 m 35 ls [.int s0]) := by
    intro k_11 hk_11 v2 v3 v4 v5 v6 s0 t_numbers H locs ls hf hP hD hS hl
    rw [f4_readNumbers_35] at hf
    refine lv_istore (lv' := [(7, .int s0), (0, .ref t_p), (2, .int v2), (3, .int v3), (4, .int v4), (5, .int v5), (6, .int v6)]) hx hb dX4_readNumbers_35 hl (by decide) rfl (fun ls hl => ?_)
    refine lv_iload hx hb dX4_readNumbers_37 (lv_at hl 0 rfl) ?_
    refine lv_bipush (v := 44) hx hb dX4_readNumbers_39 (by decide) ?_
    refine lv_icmp_ne (tgt := 76) hx hb dX4_readNumbers_41 (by decide) (fun c_4 => ?_) (fun c_4 => ?_)
    · replace hf := (if_neg c_4).symm.trans hf
      refine lv_iload hx hb dX4_readNumbers_76 (lv_at hl 0 rfl) ?_
      refine lv_bipush (v := 48) hx hb dX4_readNumbers_78 (by decide) ?_
      refine lv_icmp_lt (tgt := 96) hx hb dX4_readNumbers_80 (by decide) (fun c_5 => ?_) (fun c_5 => ?_)
      · replace hf := (if_pos c_5).symm.trans hf
        refine lv_iconst (v := 0) hx hb dX4_readNumbers_96 (by decide) ?_
        replace hf := Option.some.inj hf
        subst hf
        exact W.iret (v := 0) hx hb hr (fun t ht hW => ⟨⟨_, (), rfl, rfl, by show va_P g.1 vwCl _ t.heap; rw [ht]; exact hP⟩, hS.F ht⟩) hS.2.2 dX4_readNumbers_97 hlocks
      · replace hf := (if_neg c_5).symm.trans hf
        refine lv_iload hx hb dX4_readNumbers_83 (lv_at hl 0 rfl) ?_
        refine lv_bipush (v := 57) hx hb dX4_readNumbers_85 (by decide) ?_
        refine lv_icmp_gt (tgt := 96) hx hb dX4_readNumbers_87 (by decide) (fun c_6 => ?_) (fun c_6 => ?_)
        · replace hf := (if_pos c_6).symm.trans hf
          refine lv_iconst (v := 0) hx hb dX4_readNumbers_96 (by decide) ?_
          replace hf := Option.some.inj hf
          subst hf
          exact W.iret (v := 0) hx hb hr (fun t ht hW => ⟨⟨_, (), rfl, rfl, by show va_P g.1 vwCl _ t.heap; rw [ht]; exact hP⟩, hS.F ht⟩) hS.2.2 dX4_readNumbers_97 hlocks
        · replace hf := (if_neg c_6).symm.trans hf
          refine lv_iload hx hb dX4_readNumbers_90 (lv_at hl 4 rfl) ?_
          refine lv_iconst (v := 2) hx hb dX4_readNumbers_92 (by decide) ?_
          refine lv_icmp_lt (tgt := 98) hx hb dX4_readNumbers_93 (by decide) (fun c_7 => ?_) (fun c_7 => ?_)
          · replace hf := (if_pos c_7).symm.trans hf
            refine lv_bipush (v := 10) hx hb dX4_readNumbers_98 (by decide) ?_
            refine lv_iload hx hb dX4_readNumbers_100 (lv_at hl 5 rfl) ?_
            refine lv_imul hx hb dX4_readNumbers_102 ?_
            refine lv_iload hx hb dX4_readNumbers_103 (lv_at hl 0 rfl) ?_
            refine lv_iadd hx hb dX4_readNumbers_105 ?_
            refine lv_bipush (v := 48) hx hb dX4_readNumbers_106 (by decide) ?_
            refine lv_isub hx hb dX4_readNumbers_108 ?_
            refine lv_istore (lv' := [(5, .int (((10 * v5) + s0) - 48)), (7, .int s0), (0, .ref t_p), (2, .int v2), (3, .int v3), (4, .int v4), (6, .int v6)]) hx hb dX4_readNumbers_109 hl (by decide) rfl (fun ls hl => ?_)
            refine lv_iinc (v := v4 + 1) (lv' := [(4, .int (v4 + 1)), (5, .int (((10 * v5) + s0) - 48)), (7, .int s0), (0, .ref t_p), (2, .int v2), (3, .int v3), (6, .int v6)]) hx hb dX4_readNumbers_111 hl (k := 5) rfl rfl (by decide) rfl (fun ls hl => ?_)
            refine lv_iinc (v := v6 + 1) (lv' := [(6, .int (v6 + 1)), (4, .int (v4 + 1)), (5, .int (((10 * v5) + s0) - 48)), (7, .int s0), (0, .ref t_p), (2, .int v2), (3, .int v3)]) hx hb dX4_readNumbers_114 hl (k := 6) rfl rfl (by decide) rfl (fun ls hl => ?_)
            refine lv_goto (tgt := 11) hx hb dX4_readNumbers_117 (by decide) ?_
            exact hk_11 v2 v3 (v4 + 1) (((10 * v5) + s0) - 48) (v6 + 1) t_numbers H locs ls hf hP hD hS (lv_sub hl [4, 5, 6, 1, 2, 0] rfl)
          · replace hf := (if_neg c_7).symm.trans hf
            refine lv_iconst (v := 0) hx hb dX4_readNumbers_96 (by decide) ?_
            replace hf := Option.some.inj hf
            subst hf
            exact W.iret (v := 0) hx hb hr (fun t ht hW => ⟨⟨_, (), rfl, rfl, by show va_P g.1 vwCl _ t.heap; rw [ht]; exact hP⟩, hS.F ht⟩) hS.2.2 dX4_readNumbers_97 hlocks
    · replace hf := (if_pos c_4).symm.trans hf
      refine lv_iload hx hb dX4_readNumbers_44 (lv_at hl 4 rfl) ?_
      refine lv_if_eq (tgt := 54) hx hb dX4_readNumbers_46 (by decide) (fun c_8 => ?_) (fun c_8 => ?_)
      · replace hf := (if_pos c_8).symm.trans hf
        refine lv_iconst (v := 0) hx hb dX4_readNumbers_54 (by decide) ?_
        replace hf := Option.some.inj hf
        subst hf
        exact W.iret (v := 0) hx hb hr (fun t ht hW => ⟨⟨_, (), rfl, rfl, by show va_P g.1 vwCl _ t.heap; rw [ht]; exact hP⟩, hS.F ht⟩) hS.2.2 dX4_readNumbers_55 hlocks
      · replace hf := (if_neg c_8).symm.trans hf
        refine lv_iload_n hx hb dX4_readNumbers_49 rfl (lv_at hl 3 rfl) ?_
        refine lv_iconst (v := 3) hx hb dX4_readNumbers_50 (by decide) ?_
        refine lv_icmp_lt (tgt := 56) hx hb dX4_readNumbers_51 (by decide) (fun c_9 => ?_) (fun c_9 => ?_)
        · replace hf := (if_pos c_9).symm.trans hf
          refine lv_aload_n hx hb dX4_readNumbers_56 rfl (lv_at hl 1 rfl) ?_
          refine va_get (D := g.1) (ci := 4) (v := .ref t_p_numbers) (C := RX4) (T := TX4) (N := 3) hx hb hts hin4 hown hK.1 hP 0 rfl rfl 1 (by decide) L2 (fun _ h9 => h9) rfl dX4_readNumbers_57 ?_
          refine lv_iload_n hx hb dX4_readNumbers_60 rfl (lv_at hl 3 rfl) ?_
          refine lv_iload hx hb dX4_readNumbers_61 (lv_at hl 5 rfl) ?_
          obtain ⟨h_10, hf⟩ := if_some hf
          refine va_iast hx hb hK.1 hP hD hS 2 0 rfl rfl (ok_in h_10) dX4_readNumbers_63 (fun H locs hP hD hS => ?_)
          replace hP : va_P g.1 vwCl (fl [wk4 g t_p t_p_letters t_letters t_p_numbers (upd t_numbers (Int32.toNatClampNeg v3) v5) t_length]) H := hP
          replace hD : va_D A (fl [wk4 g t_p t_p_letters t_letters t_p_numbers (upd t_numbers (Int32.toNatClampNeg v3) v5) t_length]) := hD
          refine lv_iinc (v := v3 + 1) (lv' := [(3, .int (v3 + 1)), (7, .int s0), (0, .ref t_p), (2, .int v2), (4, .int v4), (5, .int v5), (6, .int v6)]) hx hb dX4_readNumbers_64 hl (k := 3) rfl rfl (by decide) rfl (fun ls hl => ?_)
          refine lv_iconst (v := 0) hx hb dX4_readNumbers_67 (by decide) ?_
          refine lv_istore (lv' := [(4, .int 0), (3, .int (v3 + 1)), (7, .int s0), (0, .ref t_p), (2, .int v2), (5, .int v5), (6, .int v6)]) hx hb dX4_readNumbers_68 hl (by decide) rfl (fun ls hl => ?_)
          refine lv_iconst (v := 0) hx hb dX4_readNumbers_70 (by decide) ?_
          refine lv_istore (lv' := [(5, .int 0), (4, .int 0), (3, .int (v3 + 1)), (7, .int s0), (0, .ref t_p), (2, .int v2), (6, .int v6)]) hx hb dX4_readNumbers_71 hl (by decide) rfl (fun ls hl => ?_)
          refine lv_goto (tgt := 114) hx hb dX4_readNumbers_73 (by decide) ?_
          refine lv_iinc (v := v6 + 1) (lv' := [(6, .int (v6 + 1)), (5, .int 0), (4, .int 0), (3, .int (v3 + 1)), (7, .int s0), (0, .ref t_p), (2, .int v2)]) hx hb dX4_readNumbers_114 hl (k := 6) rfl rfl (by decide) rfl (fun ls hl => ?_)
          refine lv_goto (tgt := 11) hx hb dX4_readNumbers_117 (by decide) ?_
          exact hk_11 v2 (v3 + 1) 0 0 (v6 + 1) (upd t_numbers (Int32.toNatClampNeg v3) v5) H locs ls hf hP hD hS (lv_sub hl [5, 6, 3, 2, 1, 0] rfl)
        · replace hf := (if_neg c_9).symm.trans hf
          refine lv_iconst (v := 0) hx hb dX4_readNumbers_54 (by decide) ?_
          replace hf := Option.some.inj hf
          subst hf
          exact W.iret (v := 0) hx hb hr (fun t ht hW => ⟨⟨_, (), rfl, rfl, by show va_P g.1 vwCl _ t.heap; rw [ht]; exact hP⟩, hS.F ht⟩) hS.2.2 dX4_readNumbers_55 hlocks
  have w_11 : ∀ n : Nat, ∀ (v2 : Int32) (v3 : Int32) (v4 : Int32) (v5 : Int32) (v6 : Int32) (t_numbers : (Nat → Int32)) (H : Heap) (locs : List Loc) (ls : Array Slot), f4_readNumbers_11  N n v2 v3 v4 v5 v6 t_letters t_numbers = some res → va_P g.1 vwCl (fl [wk4 g t_p t_p_letters t_letters t_p_numbers t_numbers t_length]) H → va_D A (fl [wk4 g t_p t_p_letters t_letters t_p_numbers t_numbers t_length]) → va_S A s.heap H locs → lv_has ls 8 [(0, .ref t_p), (2, .int v2), (3, .int v3), (4, .int v4), (5, .int v5), (6, .int v6)] → W p l e ({ frames := 0, cells := 0, slots := 0, locals := 0 }) s m ([.ref t_p, .int l1, .int l2] : List Value).toArray below meth c H locs 0 0 (MQ below (pQi g (fun r => r = res.1) (fl [wk4 g t_p t_p_letters t_letters t_p_numbers res.2 t_length]) A) ([.ref t_p, .int l1, .int l2] : List Value).toArray s 0 0 A) (F0 m 11 ls []) := by
    intro  n
    induction n with
    | zero => intro v2 v3 v4 v5 v6 t_numbers H locs ls hf; exact no_some hf
    | succ n ih =>
      intro v2 v3 v4 v5 v6 t_numbers H locs ls hf hP hD hS hl
      rw [f4_readNumbers_11] at hf
      refine lv_iload hx hb dX4_readNumbers_11 (lv_at hl 5 rfl) ?_
      refine lv_iload_n hx hb dX4_readNumbers_13 rfl (lv_at hl 1 rfl) ?_
      refine lv_icmp_gt (tgt := 120) hx hb dX4_readNumbers_14 (by decide) (fun c_1 => ?_) (fun c_1 => ?_)
      · replace hf := (if_pos c_1).symm.trans hf
        refine lv_iload_n hx hb dX4_readNumbers_120 rfl (lv_at hl 2 rfl) ?_
        replace hf := Option.some.inj hf
        subst hf
        exact W.iret (v := v3) hx hb hr (fun t ht hW => ⟨⟨_, (), rfl, rfl, by show va_P g.1 vwCl _ t.heap; rw [ht]; exact hP⟩, hS.F ht⟩) hS.2.2 dX4_readNumbers_121 hlocks
      · replace hf := (if_neg c_1).symm.trans hf
        refine lv_iload hx hb dX4_readNumbers_17 (lv_at hl 5 rfl) ?_
        refine lv_iload_n hx hb dX4_readNumbers_19 rfl (lv_at hl 1 rfl) ?_
        refine lv_icmp_ge (tgt := 33) hx hb dX4_readNumbers_20 (by decide) (fun c_2 => ?_) (fun c_2 => ?_)
        · replace hf := (if_pos c_2).symm.trans hf
          refine lv_bipush (v := 44) hx hb dX4_readNumbers_33 (by decide) ?_
          exact w_35 (fun a0 a1 a2 a3 a4 a5 a6 => f4_readNumbers_11 N n a0 a1 a2 a3 a4 a5 a6) ih v2 v3 v4 v5 v6 44 t_numbers H locs ls hf hP hD hS (lv_sub hl [0, 1, 2, 3, 4, 5] rfl)
        · replace hf := (if_neg c_2).symm.trans hf
          refine lv_aload_n hx hb dX4_readNumbers_23 rfl (lv_at hl 0 rfl) ?_
          refine va_get (D := g.1) (ci := 4) (v := .ref t_p_letters) (C := RX4) (T := TX4) (N := 3) hx hb hts hin4 hown hK.1 hP 0 rfl rfl 0 (by decide) L1 (fun _ h9 => h9) rfl dX4_readNumbers_24 ?_
          refine lv_iload hx hb dX4_readNumbers_27 (lv_at hl 5 rfl) ?_
          obtain ⟨h_3, hf⟩ := if_some hf
          refine va_iald hx hb hK.1 hP 1 0 rfl rfl (ok_in h_3) dX4_readNumbers_29 ?_
          refine lv_goto (tgt := 35) hx hb dX4_readNumbers_30 (by decide) ?_
          exact w_35 (fun a0 a1 a2 a3 a4 a5 a6 => f4_readNumbers_11 N n a0 a1 a2 a3 a4 a5 a6) ih v2 v3 v4 v5 v6 (t_letters (Int32.toNatClampNeg v6)) t_numbers H locs ls hf hP hD hS (lv_sub hl [0, 1, 2, 3, 4, 5] rfl)
  have hl := lv_entry ([.ref t_p, .int l1, .int l2]) (n := 8) (Nat.le_of_ble_eq_true rfl)
  rw [lg_entry_eq]
  generalize (lg_sl ([.ref t_p, .int l1, .int l2]) ++ List.replicate (8 - (lg_sl ([.ref t_p, .int l1, .int l2])).length) Slot.unset).toArray = ls at hl ⊢
  replace hl : lv_has ls 8 [(0, .ref t_p), (1, .int l1), (2, .int l2)] := hl
  rw [f4_readNumbers] at hf
  have hgo : ∀ (H : Heap) (locs : List Loc), H = s.heap → locs = [] → va_P g.1 vwCl (fl [wk4 g t_p t_p_letters t_letters t_p_numbers t_numbers t_length]) H → va_S A s.heap H locs → W p l e ({ frames := 0, cells := 0, slots := 0, locals := 0 }) s m ([.ref t_p, .int l1, .int l2] : List Value).toArray below meth c H locs 0 0 (MQ below (pQi g (fun r => r = res.1) (fl [wk4 g t_p t_p_letters t_letters t_p_numbers res.2 t_length]) A) ([.ref t_p, .int l1, .int l2] : List Value).toArray s 0 0 A) (F0 m 0 ls []) := by
    intro H locs hH hL hP hS
    refine lv_iconst (v := 0) hx hb dX4_readNumbers_0 (by decide) ?_
    refine lv_istore_n (lv' := [(3, .int 0), (0, .ref t_p), (1, .int l1), (2, .int l2)]) hx hb dX4_readNumbers_1 rfl hl (by decide) rfl (fun ls hl => ?_)
    refine lv_iconst (v := 0) hx hb dX4_readNumbers_2 (by decide) ?_
    refine lv_istore (lv' := [(4, .int 0), (3, .int 0), (0, .ref t_p), (1, .int l1), (2, .int l2)]) hx hb dX4_readNumbers_3 hl (by decide) rfl (fun ls hl => ?_)
    refine lv_iconst (v := 0) hx hb dX4_readNumbers_5 (by decide) ?_
    refine lv_istore (lv' := [(5, .int 0), (4, .int 0), (3, .int 0), (0, .ref t_p), (1, .int l1), (2, .int l2)]) hx hb dX4_readNumbers_6 hl (by decide) rfl (fun ls hl => ?_)
    refine lv_iload_n hx hb dX4_readNumbers_8 rfl (lv_at hl 4 rfl) ?_
    refine lv_istore (lv' := [(6, .int l1), (5, .int 0), (4, .int 0), (3, .int 0), (0, .ref t_p), (1, .int l1), (2, .int l2)]) hx hb dX4_readNumbers_9 hl (by decide) rfl (fun ls hl => ?_)
    exact w_11  N l2 0 0 0 l1 t_numbers H locs ls hf hP hD hS (lv_sub hl [4, 6, 3, 2, 1, 0] rfl)
  exact hgo s.heap [] rfl rfl hP hS

set_option maxHeartbeats 4000000 in
set_option maxRecDepth 100000 in
theorem c4_readItem (l : Launch) (g : gG) (t_p : Nat) (t_p_letters : Nat) (t_letters : (Nat → Int32)) (t_p_numbers : Nat) (t_numbers : (Nat → Int32)) (t_length : Int32) (o1_p : Nat) (o1_cavities : Int32) (o1_p_volumes : Nat) (o1_volumes : (Nat → Int32)) (o1_p_drags : Nat) (o1_drags : (Nat → Int32)) (o1_p_freezes : Nat) (o1_freezes : (Nat → Int32)) (o1_cores : Int32) (o1_p_ahead : Nat) (o1_ahead : (Nat → Int32)) (o1_stages : Int32) (o1_p_places : Nat) (o1_places : (Nat → Int32)) (o1_p_speeds : Nat) (o1_speeds : (Nat → Int32)) (o1_p_settings : Nat) (o1_settings : (Nat → Int32)) (l1 : Int32) (l2 : Int32) (sz : Nat) (N : Nat) (res : (Int32 × (Nat → Int32) × Int32 × (Nat → Int32) × (Nat → Int32) × (Nat → Int32) × Int32 × (Nat → Int32) × Int32 × (Nat → Int32) × (Nat → Int32) × (Nat → Int32))) (hf : f4_readItem N l1 l2 t_letters t_numbers o1_cavities o1_volumes o1_drags o1_freezes o1_cores o1_ahead o1_stages o1_places o1_speeds o1_settings = some res) : Met l yX4_readItem wsX4_readItem ({ frames := 2, cells := 0, slots := 0, locals := 66 }) (pP g [.ref t_p, .int l1, .int l2, .ref o1_p] sz (fl [wk4 g t_p t_p_letters t_letters t_p_numbers t_numbers t_length, wk1 g o1_p o1_cavities o1_p_volumes o1_volumes o1_p_drags o1_drags o1_p_freezes o1_freezes o1_cores o1_p_ahead o1_ahead o1_stages o1_p_places o1_places o1_p_speeds o1_speeds o1_p_settings o1_settings])) (pQi g (fun r => r = res.1) (fl [wk4 g t_p t_p_letters t_letters t_p_numbers res.2.1 t_length, wk1 g o1_p res.2.2.1 o1_p_volumes res.2.2.2.1 o1_p_drags res.2.2.2.2.1 o1_p_freezes res.2.2.2.2.2.1 res.2.2.2.2.2.2.1 o1_p_ahead res.2.2.2.2.2.2.2.1 res.2.2.2.2.2.2.2.2.1 o1_p_places res.2.2.2.2.2.2.2.2.2.1 o1_p_speeds res.2.2.2.2.2.2.2.2.2.2.1 o1_p_settings res.2.2.2.2.2.2.2.2.2.2.2]) (va_A (fl [wk4 g t_p t_p_letters t_letters t_p_numbers t_numbers t_length, wk1 g o1_p o1_cavities o1_p_volumes o1_volumes o1_p_drags o1_drags o1_p_freezes o1_freezes o1_cores o1_p_ahead o1_ahead o1_stages o1_p_places o1_places o1_p_speeds o1_speeds o1_p_settings o1_settings]) sz)) 0 0 (va_A (fl [wk4 g t_p t_p_letters t_letters t_p_numbers t_numbers t_length, wk1 g o1_p o1_cavities o1_p_volumes o1_volumes o1_p_drags o1_drags o1_p_freezes o1_freezes o1_cores o1_p_ahead o1_ahead o1_stages o1_p_places o1_places o1_p_speeds o1_speeds o1_p_settings o1_settings]) sz) := by
  refine Met.ofW (cc := cX4_readItem) (maxL := 5) (ret := (some .boolean)) (by decide) rfl ?_
  intro p e s m args below meth c s₁ B hml hv
  obtain ⟨rfl, hsz, hP, hK, hD0, hG⟩ := hv
  have hx := B.exec
  have hb := B.bytes
  have hr := B.returns
  have hts := atoms_spec (ws := wsX4_readItem) B.pre
  have hown : s.vm.findClass RX4 = some m.cls := findClass_of_methodNamed B.named
  have hlocks := B.notSynchronized
  subst hsz
  have hD := hD0.self (sz := s.heap.size)
  generalize hAe : va_A (fl [wk4 g t_p t_p_letters t_letters t_p_numbers t_numbers t_length, wk1 g o1_p o1_cavities o1_p_volumes o1_volumes o1_p_drags o1_drags o1_p_freezes o1_freezes o1_cores o1_p_ahead o1_ahead o1_stages o1_p_places o1_places o1_p_speeds o1_speeds o1_p_settings o1_settings]) s.heap.size = A at hD hG ⊢
  have hA : ∀ q : Nat, s.heap.size ≤ q → A q := fun q h => by rw [← hAe]; exact Or.inr h
  have hS : va_S A s.heap s.heap [] := va_S.rf
  have hin4 : ∀ w ∈ u_ws RX4 TX4 3, w ∈ wsX4_readItem := by decide +kernel
  have L1 := hts (Cond.fieldLink RX4 9 "MouldShots$Text" "letters" "[I") (by decide +kernel)
  have L2 := hts (Cond.fieldLink RX4 15 "MouldShots$Text" "numbers" "[I") (by decide +kernel)
  have L3 := hts (Cond.initialized RX1) (by decide +kernel)
  have L4 := hts (Cond.instanceMethod yX1_addCore) (by decide +kernel)
  have L5 := hts (Cond.selects RX1 yX1_addCore yX1_addCore) (by decide +kernel)
  have L6 := hts (Cond.instanceMethod yX1_setThree) (by decide +kernel)
  have L7 := hts (Cond.selects RX1 yX1_setThree yX1_setThree) (by decide +kernel)
  have L8 := hts (Cond.instanceMethod yX1_addStage) (by decide +kernel)
  have L9 := hts (Cond.selects RX1 yX1_addStage yX1_addStage) (by decide +kernel)
  have L10 := hts (Cond.instanceMethod yX1_addCavity) (by decide +kernel)
  have L11 := hts (Cond.selects RX1 yX1_addCavity yX1_addCavity) (by decide +kernel)
  have hl := lv_entry ([.ref t_p, .int l1, .int l2, .ref o1_p]) (n := 5) (Nat.le_of_ble_eq_true rfl)
  rw [lg_entry_eq]
  generalize (lg_sl ([.ref t_p, .int l1, .int l2, .ref o1_p]) ++ List.replicate (5 - (lg_sl ([.ref t_p, .int l1, .int l2, .ref o1_p])).length) Slot.unset).toArray = ls at hl ⊢
  replace hl : lv_has ls 5 [(0, .ref t_p), (1, .int l1), (2, .int l2), (3, .ref o1_p)] := hl
  rw [f4_readItem] at hf
  have hgo : ∀ (H : Heap) (locs : List Loc), H = s.heap → locs = [] → va_P g.1 vwCl (fl [wk4 g t_p t_p_letters t_letters t_p_numbers t_numbers t_length, wk1 g o1_p o1_cavities o1_p_volumes o1_volumes o1_p_drags o1_drags o1_p_freezes o1_freezes o1_cores o1_p_ahead o1_ahead o1_stages o1_p_places o1_places o1_p_speeds o1_speeds o1_p_settings o1_settings]) H → va_S A s.heap H locs → W p l e ({ frames := 2, cells := 0, slots := 0, locals := 66 }) s m ([.ref t_p, .int l1, .int l2, .ref o1_p] : List Value).toArray below meth c H locs 0 0 (MQ below (pQi g (fun r => r = res.1) (fl [wk4 g t_p t_p_letters t_letters t_p_numbers res.2.1 t_length, wk1 g o1_p res.2.2.1 o1_p_volumes res.2.2.2.1 o1_p_drags res.2.2.2.2.1 o1_p_freezes res.2.2.2.2.2.1 res.2.2.2.2.2.2.1 o1_p_ahead res.2.2.2.2.2.2.2.1 res.2.2.2.2.2.2.2.2.1 o1_p_places res.2.2.2.2.2.2.2.2.2.1 o1_p_speeds res.2.2.2.2.2.2.2.2.2.2.1 o1_p_settings res.2.2.2.2.2.2.2.2.2.2.2]) A) ([.ref t_p, .int l1, .int l2, .ref o1_p] : List Value).toArray s 0 0 A) (F0 m 0 ls []) := by
    intro H locs hH hL hP hS
    refine lv_aload_n hx hb dX4_readItem_0 rfl (lv_at hl 0 rfl) ?_
    refine lv_iload_n hx hb dX4_readItem_1 rfl (lv_at hl 1 rfl) ?_
    refine lv_iconst (v := 1) hx hb dX4_readItem_2 (by decide) ?_
    refine lv_iadd hx hb dX4_readItem_3 ?_
    refine lv_iload_n hx hb dX4_readItem_4 rfl (lv_at hl 2 rfl) ?_
    obtain ⟨q_1, hq_1, hf⟩ := bd_some hf
    refine bft_i (bn := [wk4 g t_p t_p_letters t_letters t_p_numbers q_1.2 t_length, wk1 g o1_p o1_cavities o1_p_volumes o1_volumes o1_p_drags o1_drags o1_p_freezes o1_freezes o1_cores o1_p_ahead o1_ahead o1_stages o1_p_places o1_places o1_p_speeds o1_speeds o1_p_settings o1_settings]) (L := [[t_p, t_p_letters, t_p_numbers]]) (va_runV (As := [.int (l1 + 1), .int l2]) (rest := []) ⟨hx, hb, hml, hown, hts⟩ (c4_readNumbers l g t_p t_p_letters t_letters t_p_numbers t_numbers t_length (l1 + 1) l2 H.size N q_1 hq_1) (cwV 2 hts gX4_readItem_X4_readNumbers rfl rfl rfl ⟨rfl, nh4.1, nh4.2, pd_14⟩ ⟨Nat.le_of_ble_eq_true rfl, Nat.le_of_ble_eq_true rfl⟩) (qPV hK hG hP hD hS hA [0] (by decide) rfl (va_recv hK.1 hP (ci := 4) (q0 := 0) rfl rfl)) rfl rfl hl.1 rfl (lv_room (Nat.le_of_ble_eq_true rfl)) dX4_readItem_5 ⟨Nat.zero_le _, Nat.zero_le _⟩) hP hD hS hA [0] rfl rfl rfl rfl (fun r_2 H locs hw hP hD hS => ?_)
    replace hw := hw.symm
    subst hw
    refine lv_istore (lv' := [(4, .int q_1.1), (0, .ref t_p), (1, .int l1), (2, .int l2), (3, .ref o1_p)]) hx hb dX4_readItem_8 hl (by decide) rfl (fun ls hl => ?_)
    refine lv_aload_n hx hb dX4_readItem_10 rfl (lv_at hl 1 rfl) ?_
    refine va_get (D := g.1) (ci := 4) (v := .ref t_p_letters) (C := RX4) (T := TX4) (N := 3) hx hb hts hin4 hown hK.1 hP 0 rfl rfl 0 (by decide) L1 (fun _ h9 => h9) rfl dX4_readItem_11 ?_
    refine lv_iload_n hx hb dX4_readItem_14 rfl (lv_at hl 2 rfl) ?_
    obtain ⟨h_3, hf⟩ := if_some hf
    refine va_iald hx hb hK.1 hP 1 0 rfl rfl (ok_in h_3) dX4_readItem_15 ?_
    by_cases c_4 : (t_letters (Int32.toNatClampNeg l1)) = 99
    · replace hf := (if_pos c_4).symm.trans hf
      refine lv_lookup (tgt := 105) hx hb dX4_readItem_16 (by decide) (by rw [c_4]) (by decide) ?_
      refine lv_iload hx hb dX4_readItem_105 (lv_at hl 0 rfl) ?_
      refine lv_iconst (v := 1) hx hb dX4_readItem_107 (by decide) ?_
      refine lv_icmp_ne (tgt := 128) hx hb dX4_readItem_108 (by decide) (fun c_5 => ?_) (fun c_5 => ?_)
      · replace hf := (if_neg c_5).symm.trans hf
        refine lv_iconst (v := 0) hx hb dX4_readItem_128 (by decide) ?_
        replace hf := Option.some.inj hf
        subst hf
        exact W.zret (v := 0) hx hb hr rfl (fun t ht hW => ⟨⟨_, (), rfl, rfl, by show va_P g.1 vwCl _ t.heap; rw [ht]; exact hP⟩, hS.F ht⟩) hS.2.2 dX4_readItem_129 hlocks
      · replace hf := (if_pos c_5).symm.trans hf
        refine lv_aload_n hx hb dX4_readItem_111 rfl (lv_at hl 4 rfl) ?_
        refine lv_aload_n hx hb dX4_readItem_112 rfl (lv_at hl 1 rfl) ?_
        refine va_get (D := g.1) (ci := 4) (v := .ref t_p_numbers) (C := RX4) (T := TX4) (N := 3) hx hb hts hin4 hown hK.1 hP 0 rfl rfl 1 (by decide) L2 (fun _ h9 => h9) rfl dX4_readItem_113 ?_
        refine lv_iconst (v := 0) hx hb dX4_readItem_116 (by decide) ?_
        obtain ⟨h_6, hf⟩ := if_some hf
        refine va_iald hx hb hK.1 hP 2 0 rfl rfl (ok_in h_6) dX4_readItem_117 ?_
        obtain ⟨q_7, hq_7, hf⟩ := bd_some hf
        refine bft_i (bn := [wk4 g t_p t_p_letters t_letters t_p_numbers q_1.2 t_length, wk1 g o1_p o1_cavities o1_p_volumes o1_volumes o1_p_drags o1_drags o1_p_freezes o1_freezes q_7.2.1 o1_p_ahead q_7.2.2 o1_stages o1_p_places o1_places o1_p_speeds o1_speeds o1_p_settings o1_settings]) (L := [[o1_p, o1_p_volumes, o1_p_drags, o1_p_freezes, o1_p_ahead, o1_p_places, o1_p_speeds, o1_p_settings]]) (va_runVN (As := [.int (q_1.2 (Int32.toNatClampNeg 0))]) (rest := []) ⟨hx, hb, hml, hown, hts⟩ (c1_addCore l g o1_p o1_cavities o1_p_volumes o1_volumes o1_p_drags o1_drags o1_p_freezes o1_freezes o1_cores o1_p_ahead o1_ahead o1_stages o1_p_places o1_places o1_p_speeds o1_speeds o1_p_settings o1_settings (q_1.2 (Int32.toNatClampNeg 0)) H.size N q_7 hq_7) ⟨va_cnB 1 hts gX4_readItem_X1_addCore_n39 rfl rfl rfl (hK.nw _ 70 rfl) L3 ⟨nh1.1, nh1.2, pd_1⟩ ⟨Nat.le_of_ble_eq_true rfl, Nat.le_of_ble_eq_true rfl⟩, L4, L5⟩ (qPV hK hG hP hD hS hA [1] (by decide) rfl (va_recv hK.1 hP (ci := 1) (q0 := 3) rfl rfl)) rfl rfl hl.1 rfl (lv_room (Nat.le_of_ble_eq_true rfl)) dX4_readItem_118 ⟨Nat.zero_le _, Nat.zero_le _⟩) hP hD hS hA [1] rfl rfl rfl rfl (fun r_8 H locs hw hP hD hS => ?_)
        replace hw := hw.symm
        subst hw
        refine lv_if_eq (tgt := 128) hx hb dX4_readItem_121 (by decide) (fun c_9 => ?_) (fun c_9 => ?_)
        · replace hf := (if_pos c_9).symm.trans hf
          refine lv_iconst (v := 0) hx hb dX4_readItem_128 (by decide) ?_
          replace hf := Option.some.inj hf
          subst hf
          exact W.zret (v := 0) hx hb hr rfl (fun t ht hW => ⟨⟨_, (), rfl, rfl, by show va_P g.1 vwCl _ t.heap; rw [ht]; exact hP⟩, hS.F ht⟩) hS.2.2 dX4_readItem_129 hlocks
        · replace hf := (if_neg c_9).symm.trans hf
          refine lv_iconst (v := 1) hx hb dX4_readItem_124 (by decide) ?_
          refine lv_goto (tgt := 129) hx hb dX4_readItem_125 (by decide) ?_
          replace hf := Option.some.inj hf
          subst hf
          exact W.zret (v := 1) hx hb hr rfl (fun t ht hW => ⟨⟨_, (), rfl, rfl, by show va_P g.1 vwCl _ t.heap; rw [ht]; exact hP⟩, hS.F ht⟩) hS.2.2 dX4_readItem_129 hlocks
    · replace hf := (if_neg c_4).symm.trans hf
      by_cases c_10 : (t_letters (Int32.toNatClampNeg l1)) = 104
      · replace hf := (if_pos c_10).symm.trans hf
        refine lv_lookup (tgt := 185) hx hb dX4_readItem_16 (by decide) (by rw [c_10]) (by decide) ?_
        refine lv_iload hx hb dX4_readItem_185 (lv_at hl 0 rfl) ?_
        refine lv_iconst (v := 3) hx hb dX4_readItem_187 (by decide) ?_
        refine lv_icmp_ne (tgt := 207) hx hb dX4_readItem_188 (by decide) (fun c_11 => ?_) (fun c_11 => ?_)
        · replace hf := (if_neg c_11).symm.trans hf
          refine lv_iconst (v := 0) hx hb dX4_readItem_207 (by decide) ?_
          replace hf := Option.some.inj hf
          subst hf
          exact W.zret (v := 0) hx hb hr rfl (fun t ht hW => ⟨⟨_, (), rfl, rfl, by show va_P g.1 vwCl _ t.heap; rw [ht]; exact hP⟩, hS.F ht⟩) hS.2.2 dX4_readItem_208 hlocks
        · replace hf := (if_pos c_11).symm.trans hf
          refine lv_aload_n hx hb dX4_readItem_191 rfl (lv_at hl 4 rfl) ?_
          refine lv_iconst (v := 3) hx hb dX4_readItem_192 (by decide) ?_
          refine lv_aload_n hx hb dX4_readItem_193 rfl (lv_at hl 1 rfl) ?_
          refine va_get (D := g.1) (ci := 4) (v := .ref t_p_numbers) (C := RX4) (T := TX4) (N := 3) hx hb hts hin4 hown hK.1 hP 0 rfl rfl 1 (by decide) L2 (fun _ h9 => h9) rfl dX4_readItem_194 ?_
          obtain ⟨q_12, hq_12, hf⟩ := bd_some hf
          refine aft_i (wn := (fl [wk4 g t_p t_p_letters t_letters t_p_numbers q_1.2 t_length, wk1 g o1_p o1_cavities o1_p_volumes o1_volumes o1_p_drags o1_drags o1_p_freezes o1_freezes o1_cores o1_p_ahead o1_ahead o1_stages o1_p_places o1_places o1_p_speeds o1_speeds o1_p_settings q_12.2])) (va_runVN (As := [.int 3, .ref t_p_numbers]) (rest := []) ⟨hx, hb, hml, hown, hts⟩ (c1_setThree l g o1_p o1_cavities o1_p_volumes o1_volumes o1_p_drags o1_drags o1_p_freezes o1_freezes o1_cores o1_p_ahead o1_ahead o1_stages o1_p_places o1_places o1_p_speeds o1_speeds o1_p_settings o1_settings t_p_numbers q_1.2 3 H.size N q_12 hq_12) ⟨va_cnB 2 hts gX4_readItem_X1_setThree_n47 rfl rfl rfl (hK.nw _ 72 rfl) L3 ⟨nh1.1, nh1.2, pd_15⟩ ⟨Nat.le_of_ble_eq_true rfl, Nat.le_of_ble_eq_true rfl⟩, L6, L7⟩ (pPV hK hG hP hD hS hA [3, 4, 5, 6, 7, 8, 9, 10, 2] (by decide) rfl (va_recv hK.1 hP (ci := 1) (q0 := 3) rfl rfl)) rfl rfl hl.1 rfl (lv_room (Nat.le_of_ble_eq_true rfl)) dX4_readItem_197 ⟨Nat.zero_le _, Nat.zero_le _⟩) hP hD hS hA [3, 4, 5, 6, 7, 8, 9, 10, 2] rfl rfl rfl (fun r_13 H locs hw hP hD hS => ?_)
          replace hw := hw.symm
          subst hw
          refine lv_if_eq (tgt := 207) hx hb dX4_readItem_200 (by decide) (fun c_14 => ?_) (fun c_14 => ?_)
          · replace hf := (if_pos c_14).symm.trans hf
            refine lv_iconst (v := 0) hx hb dX4_readItem_207 (by decide) ?_
            replace hf := Option.some.inj hf
            subst hf
            exact W.zret (v := 0) hx hb hr rfl (fun t ht hW => ⟨⟨_, (), rfl, rfl, by show va_P g.1 vwCl _ t.heap; rw [ht]; exact hP⟩, hS.F ht⟩) hS.2.2 dX4_readItem_208 hlocks
          · replace hf := (if_neg c_14).symm.trans hf
            refine lv_iconst (v := 1) hx hb dX4_readItem_203 (by decide) ?_
            refine lv_goto (tgt := 208) hx hb dX4_readItem_204 (by decide) ?_
            replace hf := Option.some.inj hf
            subst hf
            exact W.zret (v := 1) hx hb hr rfl (fun t ht hW => ⟨⟨_, (), rfl, rfl, by show va_P g.1 vwCl _ t.heap; rw [ht]; exact hP⟩, hS.F ht⟩) hS.2.2 dX4_readItem_208 hlocks
      · replace hf := (if_neg c_10).symm.trans hf
        by_cases c_15 : (t_letters (Int32.toNatClampNeg l1)) = 111
        · replace hf := (if_pos c_15).symm.trans hf
          refine lv_lookup (tgt := 161) hx hb dX4_readItem_16 (by decide) (by rw [c_15]) (by decide) ?_
          refine lv_iload hx hb dX4_readItem_161 (lv_at hl 0 rfl) ?_
          refine lv_iconst (v := 3) hx hb dX4_readItem_163 (by decide) ?_
          refine lv_icmp_ne (tgt := 183) hx hb dX4_readItem_164 (by decide) (fun c_16 => ?_) (fun c_16 => ?_)
          · replace hf := (if_neg c_16).symm.trans hf
            refine lv_iconst (v := 0) hx hb dX4_readItem_183 (by decide) ?_
            replace hf := Option.some.inj hf
            subst hf
            exact W.zret (v := 0) hx hb hr rfl (fun t ht hW => ⟨⟨_, (), rfl, rfl, by show va_P g.1 vwCl _ t.heap; rw [ht]; exact hP⟩, hS.F ht⟩) hS.2.2 dX4_readItem_184 hlocks
          · replace hf := (if_pos c_16).symm.trans hf
            refine lv_aload_n hx hb dX4_readItem_167 rfl (lv_at hl 4 rfl) ?_
            refine lv_iconst (v := 0) hx hb dX4_readItem_168 (by decide) ?_
            refine lv_aload_n hx hb dX4_readItem_169 rfl (lv_at hl 1 rfl) ?_
            refine va_get (D := g.1) (ci := 4) (v := .ref t_p_numbers) (C := RX4) (T := TX4) (N := 3) hx hb hts hin4 hown hK.1 hP 0 rfl rfl 1 (by decide) L2 (fun _ h9 => h9) rfl dX4_readItem_170 ?_
            obtain ⟨q_17, hq_17, hf⟩ := bd_some hf
            refine aft_i (wn := (fl [wk4 g t_p t_p_letters t_letters t_p_numbers q_1.2 t_length, wk1 g o1_p o1_cavities o1_p_volumes o1_volumes o1_p_drags o1_drags o1_p_freezes o1_freezes o1_cores o1_p_ahead o1_ahead o1_stages o1_p_places o1_places o1_p_speeds o1_speeds o1_p_settings q_17.2])) (va_runVN (As := [.int 0, .ref t_p_numbers]) (rest := []) ⟨hx, hb, hml, hown, hts⟩ (c1_setThree l g o1_p o1_cavities o1_p_volumes o1_volumes o1_p_drags o1_drags o1_p_freezes o1_freezes o1_cores o1_p_ahead o1_ahead o1_stages o1_p_places o1_places o1_p_speeds o1_speeds o1_p_settings o1_settings t_p_numbers q_1.2 0 H.size N q_17 hq_17) ⟨va_cnB 2 hts gX4_readItem_X1_setThree_n47 rfl rfl rfl (hK.nw _ 72 rfl) L3 ⟨nh1.1, nh1.2, pd_15⟩ ⟨Nat.le_of_ble_eq_true rfl, Nat.le_of_ble_eq_true rfl⟩, L6, L7⟩ (pPV hK hG hP hD hS hA [3, 4, 5, 6, 7, 8, 9, 10, 2] (by decide) rfl (va_recv hK.1 hP (ci := 1) (q0 := 3) rfl rfl)) rfl rfl hl.1 rfl (lv_room (Nat.le_of_ble_eq_true rfl)) dX4_readItem_173 ⟨Nat.zero_le _, Nat.zero_le _⟩) hP hD hS hA [3, 4, 5, 6, 7, 8, 9, 10, 2] rfl rfl rfl (fun r_18 H locs hw hP hD hS => ?_)
            replace hw := hw.symm
            subst hw
            refine lv_if_eq (tgt := 183) hx hb dX4_readItem_176 (by decide) (fun c_19 => ?_) (fun c_19 => ?_)
            · replace hf := (if_pos c_19).symm.trans hf
              refine lv_iconst (v := 0) hx hb dX4_readItem_183 (by decide) ?_
              replace hf := Option.some.inj hf
              subst hf
              exact W.zret (v := 0) hx hb hr rfl (fun t ht hW => ⟨⟨_, (), rfl, rfl, by show va_P g.1 vwCl _ t.heap; rw [ht]; exact hP⟩, hS.F ht⟩) hS.2.2 dX4_readItem_184 hlocks
            · replace hf := (if_neg c_19).symm.trans hf
              refine lv_iconst (v := 1) hx hb dX4_readItem_179 (by decide) ?_
              refine lv_goto (tgt := 184) hx hb dX4_readItem_180 (by decide) ?_
              replace hf := Option.some.inj hf
              subst hf
              exact W.zret (v := 1) hx hb hr rfl (fun t ht hW => ⟨⟨_, (), rfl, rfl, by show va_P g.1 vwCl _ t.heap; rw [ht]; exact hP⟩, hS.F ht⟩) hS.2.2 dX4_readItem_184 hlocks
        · replace hf := (if_neg c_15).symm.trans hf
          by_cases c_20 : (t_letters (Int32.toNatClampNeg l1)) = 115
          · replace hf := (if_pos c_20).symm.trans hf
            refine lv_lookup (tgt := 130) hx hb dX4_readItem_16 (by decide) (by rw [c_20]) (by decide) ?_
            refine lv_iload hx hb dX4_readItem_130 (lv_at hl 0 rfl) ?_
            refine lv_iconst (v := 2) hx hb dX4_readItem_132 (by decide) ?_
            refine lv_icmp_ne (tgt := 159) hx hb dX4_readItem_133 (by decide) (fun c_21 => ?_) (fun c_21 => ?_)
            · replace hf := (if_neg c_21).symm.trans hf
              refine lv_iconst (v := 0) hx hb dX4_readItem_159 (by decide) ?_
              replace hf := Option.some.inj hf
              subst hf
              exact W.zret (v := 0) hx hb hr rfl (fun t ht hW => ⟨⟨_, (), rfl, rfl, by show va_P g.1 vwCl _ t.heap; rw [ht]; exact hP⟩, hS.F ht⟩) hS.2.2 dX4_readItem_160 hlocks
            · replace hf := (if_pos c_21).symm.trans hf
              refine lv_aload_n hx hb dX4_readItem_136 rfl (lv_at hl 4 rfl) ?_
              refine lv_aload_n hx hb dX4_readItem_137 rfl (lv_at hl 1 rfl) ?_
              refine va_get (D := g.1) (ci := 4) (v := .ref t_p_numbers) (C := RX4) (T := TX4) (N := 3) hx hb hts hin4 hown hK.1 hP 0 rfl rfl 1 (by decide) L2 (fun _ h9 => h9) rfl dX4_readItem_138 ?_
              refine lv_iconst (v := 0) hx hb dX4_readItem_141 (by decide) ?_
              obtain ⟨h_22, hf⟩ := if_some hf
              refine va_iald hx hb hK.1 hP 2 0 rfl rfl (ok_in h_22) dX4_readItem_142 ?_
              refine lv_aload_n hx hb dX4_readItem_143 rfl (lv_at hl 1 rfl) ?_
              refine va_get (D := g.1) (ci := 4) (v := .ref t_p_numbers) (C := RX4) (T := TX4) (N := 3) hx hb hts hin4 hown hK.1 hP 0 rfl rfl 1 (by decide) L2 (fun _ h9 => h9) rfl dX4_readItem_144 ?_
              refine lv_iconst (v := 1) hx hb dX4_readItem_147 (by decide) ?_
              obtain ⟨h_23, hf⟩ := if_some hf
              refine va_iald hx hb hK.1 hP 2 0 rfl rfl (ok_in h_23) dX4_readItem_148 ?_
              obtain ⟨q_24, hq_24, hf⟩ := bd_some hf
              refine bft_i (bn := [wk4 g t_p t_p_letters t_letters t_p_numbers q_1.2 t_length, wk1 g o1_p o1_cavities o1_p_volumes o1_volumes o1_p_drags o1_drags o1_p_freezes o1_freezes o1_cores o1_p_ahead o1_ahead q_24.2.1 o1_p_places q_24.2.2.1 o1_p_speeds q_24.2.2.2 o1_p_settings o1_settings]) (L := [[o1_p, o1_p_volumes, o1_p_drags, o1_p_freezes, o1_p_ahead, o1_p_places, o1_p_speeds, o1_p_settings]]) (va_runVN (As := [.int (q_1.2 (Int32.toNatClampNeg 0)), .int (q_1.2 (Int32.toNatClampNeg 1))]) (rest := []) ⟨hx, hb, hml, hown, hts⟩ (c1_addStage l g o1_p o1_cavities o1_p_volumes o1_volumes o1_p_drags o1_drags o1_p_freezes o1_freezes o1_cores o1_p_ahead o1_ahead o1_stages o1_p_places o1_places o1_p_speeds o1_speeds o1_p_settings o1_settings (q_1.2 (Int32.toNatClampNeg 0)) (q_1.2 (Int32.toNatClampNeg 1)) H.size N q_24 hq_24) ⟨va_cnB 2 hts gX4_readItem_X1_addStage_n43 rfl rfl rfl (hK.nw _ 71 rfl) L3 ⟨nh1.1, nh1.2, pd_16⟩ ⟨Nat.le_of_ble_eq_true rfl, Nat.le_of_ble_eq_true rfl⟩, L8, L9⟩ (qPV hK hG hP hD hS hA [1] (by decide) rfl (va_recv hK.1 hP (ci := 1) (q0 := 3) rfl rfl)) rfl rfl hl.1 rfl (lv_room (Nat.le_of_ble_eq_true rfl)) dX4_readItem_149 ⟨Nat.zero_le _, Nat.zero_le _⟩) hP hD hS hA [1] rfl rfl rfl rfl (fun r_25 H locs hw hP hD hS => ?_)
              replace hw := hw.symm
              subst hw
              refine lv_if_eq (tgt := 159) hx hb dX4_readItem_152 (by decide) (fun c_26 => ?_) (fun c_26 => ?_)
              · replace hf := (if_pos c_26).symm.trans hf
                refine lv_iconst (v := 0) hx hb dX4_readItem_159 (by decide) ?_
                replace hf := Option.some.inj hf
                subst hf
                exact W.zret (v := 0) hx hb hr rfl (fun t ht hW => ⟨⟨_, (), rfl, rfl, by show va_P g.1 vwCl _ t.heap; rw [ht]; exact hP⟩, hS.F ht⟩) hS.2.2 dX4_readItem_160 hlocks
              · replace hf := (if_neg c_26).symm.trans hf
                refine lv_iconst (v := 1) hx hb dX4_readItem_155 (by decide) ?_
                refine lv_goto (tgt := 160) hx hb dX4_readItem_156 (by decide) ?_
                replace hf := Option.some.inj hf
                subst hf
                exact W.zret (v := 1) hx hb hr rfl (fun t ht hW => ⟨⟨_, (), rfl, rfl, by show va_P g.1 vwCl _ t.heap; rw [ht]; exact hP⟩, hS.F ht⟩) hS.2.2 dX4_readItem_160 hlocks
          · replace hf := (if_neg c_20).symm.trans hf
            by_cases c_27 : (t_letters (Int32.toNatClampNeg l1)) = 118
            · replace hf := (if_pos c_27).symm.trans hf
              refine lv_lookup (tgt := 68) hx hb dX4_readItem_16 (by decide) (by rw [c_27]) (by decide) ?_
              refine lv_iload hx hb dX4_readItem_68 (lv_at hl 0 rfl) ?_
              refine lv_iconst (v := 3) hx hb dX4_readItem_70 (by decide) ?_
              refine lv_icmp_ne (tgt := 103) hx hb dX4_readItem_71 (by decide) (fun c_28 => ?_) (fun c_28 => ?_)
              · replace hf := (if_neg c_28).symm.trans hf
                refine lv_iconst (v := 0) hx hb dX4_readItem_103 (by decide) ?_
                replace hf := Option.some.inj hf
                subst hf
                exact W.zret (v := 0) hx hb hr rfl (fun t ht hW => ⟨⟨_, (), rfl, rfl, by show va_P g.1 vwCl _ t.heap; rw [ht]; exact hP⟩, hS.F ht⟩) hS.2.2 dX4_readItem_104 hlocks
              · replace hf := (if_pos c_28).symm.trans hf
                refine lv_aload_n hx hb dX4_readItem_74 rfl (lv_at hl 4 rfl) ?_
                refine lv_aload_n hx hb dX4_readItem_75 rfl (lv_at hl 1 rfl) ?_
                refine va_get (D := g.1) (ci := 4) (v := .ref t_p_numbers) (C := RX4) (T := TX4) (N := 3) hx hb hts hin4 hown hK.1 hP 0 rfl rfl 1 (by decide) L2 (fun _ h9 => h9) rfl dX4_readItem_76 ?_
                refine lv_iconst (v := 0) hx hb dX4_readItem_79 (by decide) ?_
                obtain ⟨h_29, hf⟩ := if_some hf
                refine va_iald hx hb hK.1 hP 2 0 rfl rfl (ok_in h_29) dX4_readItem_80 ?_
                refine lv_aload_n hx hb dX4_readItem_81 rfl (lv_at hl 1 rfl) ?_
                refine va_get (D := g.1) (ci := 4) (v := .ref t_p_numbers) (C := RX4) (T := TX4) (N := 3) hx hb hts hin4 hown hK.1 hP 0 rfl rfl 1 (by decide) L2 (fun _ h9 => h9) rfl dX4_readItem_82 ?_
                refine lv_iconst (v := 1) hx hb dX4_readItem_85 (by decide) ?_
                obtain ⟨h_30, hf⟩ := if_some hf
                refine va_iald hx hb hK.1 hP 2 0 rfl rfl (ok_in h_30) dX4_readItem_86 ?_
                refine lv_aload_n hx hb dX4_readItem_87 rfl (lv_at hl 1 rfl) ?_
                refine va_get (D := g.1) (ci := 4) (v := .ref t_p_numbers) (C := RX4) (T := TX4) (N := 3) hx hb hts hin4 hown hK.1 hP 0 rfl rfl 1 (by decide) L2 (fun _ h9 => h9) rfl dX4_readItem_88 ?_
                refine lv_iconst (v := 2) hx hb dX4_readItem_91 (by decide) ?_
                obtain ⟨h_31, hf⟩ := if_some hf
                refine va_iald hx hb hK.1 hP 2 0 rfl rfl (ok_in h_31) dX4_readItem_92 ?_
                obtain ⟨q_32, hq_32, hf⟩ := bd_some hf
                refine bft_i (bn := [wk4 g t_p t_p_letters t_letters t_p_numbers q_1.2 t_length, wk1 g o1_p q_32.2.1 o1_p_volumes q_32.2.2.1 o1_p_drags q_32.2.2.2.1 o1_p_freezes q_32.2.2.2.2 o1_cores o1_p_ahead o1_ahead o1_stages o1_p_places o1_places o1_p_speeds o1_speeds o1_p_settings o1_settings]) (L := [[o1_p, o1_p_volumes, o1_p_drags, o1_p_freezes, o1_p_ahead, o1_p_places, o1_p_speeds, o1_p_settings]]) (va_runVN (As := [.int (q_1.2 (Int32.toNatClampNeg 0)), .int (q_1.2 (Int32.toNatClampNeg 1)), .int (q_1.2 (Int32.toNatClampNeg 2))]) (rest := []) ⟨hx, hb, hml, hown, hts⟩ (c1_addCavity l g o1_p o1_cavities o1_p_volumes o1_volumes o1_p_drags o1_drags o1_p_freezes o1_freezes o1_cores o1_p_ahead o1_ahead o1_stages o1_p_places o1_places o1_p_speeds o1_speeds o1_p_settings o1_settings (q_1.2 (Int32.toNatClampNeg 0)) (q_1.2 (Int32.toNatClampNeg 1)) (q_1.2 (Int32.toNatClampNeg 2)) H.size N q_32 hq_32) ⟨va_cnB 3 hts gX4_readItem_X1_addCavity_n35 rfl rfl rfl (hK.nw _ 69 rfl) L3 ⟨nh1.1, nh1.2, pd_17⟩ ⟨Nat.le_of_ble_eq_true rfl, Nat.le_of_ble_eq_true rfl⟩, L10, L11⟩ (qPV hK hG hP hD hS hA [1] (by decide) rfl (va_recv hK.1 hP (ci := 1) (q0 := 3) rfl rfl)) rfl rfl hl.1 rfl (lv_room (Nat.le_of_ble_eq_true rfl)) dX4_readItem_93 ⟨Nat.zero_le _, Nat.zero_le _⟩) hP hD hS hA [1] rfl rfl rfl rfl (fun r_33 H locs hw hP hD hS => ?_)
                replace hw := hw.symm
                subst hw
                refine lv_if_eq (tgt := 103) hx hb dX4_readItem_96 (by decide) (fun c_34 => ?_) (fun c_34 => ?_)
                · replace hf := (if_pos c_34).symm.trans hf
                  refine lv_iconst (v := 0) hx hb dX4_readItem_103 (by decide) ?_
                  replace hf := Option.some.inj hf
                  subst hf
                  exact W.zret (v := 0) hx hb hr rfl (fun t ht hW => ⟨⟨_, (), rfl, rfl, by show va_P g.1 vwCl _ t.heap; rw [ht]; exact hP⟩, hS.F ht⟩) hS.2.2 dX4_readItem_104 hlocks
                · replace hf := (if_neg c_34).symm.trans hf
                  refine lv_iconst (v := 1) hx hb dX4_readItem_99 (by decide) ?_
                  refine lv_goto (tgt := 104) hx hb dX4_readItem_100 (by decide) ?_
                  replace hf := Option.some.inj hf
                  subst hf
                  exact W.zret (v := 1) hx hb hr rfl (fun t ht hW => ⟨⟨_, (), rfl, rfl, by show va_P g.1 vwCl _ t.heap; rw [ht]; exact hP⟩, hS.F ht⟩) hS.2.2 dX4_readItem_104 hlocks
            · replace hf := (if_neg c_27).symm.trans hf
              refine lv_lookup (tgt := 209) hx hb dX4_readItem_16 (by decide) (look_out5 c_4 c_10 c_15 c_20 c_27) (by decide) ?_
              refine lv_iconst (v := 0) hx hb dX4_readItem_209 (by decide) ?_
              replace hf := Option.some.inj hf
              subst hf
              exact W.zret (v := 0) hx hb hr rfl (fun t ht hW => ⟨⟨_, (), rfl, rfl, by show va_P g.1 vwCl _ t.heap; rw [ht]; exact hP⟩, hS.F ht⟩) hS.2.2 dX4_readItem_210 hlocks
  exact hgo s.heap [] rfl rfl hP hS

set_option maxHeartbeats 4000000 in
set_option maxRecDepth 100000 in
theorem c4_readInto (l : Launch) (g : gG) (t_p : Nat) (t_p_letters : Nat) (t_letters : (Nat → Int32)) (t_p_numbers : Nat) (t_numbers : (Nat → Int32)) (t_length : Int32) (o1_p : Nat) (o1_cavities : Int32) (o1_p_volumes : Nat) (o1_volumes : (Nat → Int32)) (o1_p_drags : Nat) (o1_drags : (Nat → Int32)) (o1_p_freezes : Nat) (o1_freezes : (Nat → Int32)) (o1_cores : Int32) (o1_p_ahead : Nat) (o1_ahead : (Nat → Int32)) (o1_stages : Int32) (o1_p_places : Nat) (o1_places : (Nat → Int32)) (o1_p_speeds : Nat) (o1_speeds : (Nat → Int32)) (o1_p_settings : Nat) (o1_settings : (Nat → Int32)) (sz : Nat) (N : Nat) (res : (Int32 × (Nat → Int32) × Int32 × (Nat → Int32) × (Nat → Int32) × (Nat → Int32) × Int32 × (Nat → Int32) × Int32 × (Nat → Int32) × (Nat → Int32) × (Nat → Int32))) (hf : f4_readInto N t_letters t_numbers t_length o1_volumes o1_drags o1_freezes o1_ahead o1_places o1_speeds o1_settings = some res) : Met l yX4_readInto wsX4_readInto ({ frames := 3, cells := 0, slots := 0, locals := 90 }) (pP g [.ref t_p, .ref o1_p] sz (fl [wk4 g t_p t_p_letters t_letters t_p_numbers t_numbers t_length, wk1 g o1_p o1_cavities o1_p_volumes o1_volumes o1_p_drags o1_drags o1_p_freezes o1_freezes o1_cores o1_p_ahead o1_ahead o1_stages o1_p_places o1_places o1_p_speeds o1_speeds o1_p_settings o1_settings])) (pQi g (fun r => r = res.1) (fl [wk4 g t_p t_p_letters t_letters t_p_numbers res.2.1 t_length, wk1 g o1_p res.2.2.1 o1_p_volumes res.2.2.2.1 o1_p_drags res.2.2.2.2.1 o1_p_freezes res.2.2.2.2.2.1 res.2.2.2.2.2.2.1 o1_p_ahead res.2.2.2.2.2.2.2.1 res.2.2.2.2.2.2.2.2.1 o1_p_places res.2.2.2.2.2.2.2.2.2.1 o1_p_speeds res.2.2.2.2.2.2.2.2.2.2.1 o1_p_settings res.2.2.2.2.2.2.2.2.2.2.2]) (va_A (fl [wk4 g t_p t_p_letters t_letters t_p_numbers t_numbers t_length, wk1 g o1_p o1_cavities o1_p_volumes o1_volumes o1_p_drags o1_drags o1_p_freezes o1_freezes o1_cores o1_p_ahead o1_ahead o1_stages o1_p_places o1_places o1_p_speeds o1_speeds o1_p_settings o1_settings]) sz)) 0 0 (va_A (fl [wk4 g t_p t_p_letters t_letters t_p_numbers t_numbers t_length, wk1 g o1_p o1_cavities o1_p_volumes o1_volumes o1_p_drags o1_drags o1_p_freezes o1_freezes o1_cores o1_p_ahead o1_ahead o1_stages o1_p_places o1_places o1_p_speeds o1_speeds o1_p_settings o1_settings]) sz) := by
  refine Met.ofW (cc := cX4_readInto) (maxL := 4) (ret := (some .int)) (by decide) rfl ?_
  intro p e s m args below meth c s₁ B hml hv
  obtain ⟨rfl, hsz, hP, hK, hD0, hG⟩ := hv
  have hx := B.exec
  have hb := B.bytes
  have hr := B.returns
  have hts := atoms_spec (ws := wsX4_readInto) B.pre
  have hown : s.vm.findClass RX4 = some m.cls := findClass_of_methodNamed B.named
  have hlocks := B.notSynchronized
  subst hsz
  have hD := hD0.self (sz := s.heap.size)
  generalize hAe : va_A (fl [wk4 g t_p t_p_letters t_letters t_p_numbers t_numbers t_length, wk1 g o1_p o1_cavities o1_p_volumes o1_volumes o1_p_drags o1_drags o1_p_freezes o1_freezes o1_cores o1_p_ahead o1_ahead o1_stages o1_p_places o1_places o1_p_speeds o1_speeds o1_p_settings o1_settings]) s.heap.size = A at hD hG ⊢
  have hA : ∀ q : Nat, s.heap.size ≤ q → A q := fun q h => by rw [← hAe]; exact Or.inr h
  have hS : va_S A s.heap s.heap [] := va_S.rf
  have hin4 : ∀ w ∈ u_ws RX4 TX4 3, w ∈ wsX4_readInto := by decide +kernel
  have L1 := hts (Cond.initialized RX1) (by decide +kernel)
  have L2 := hts (Cond.instanceMethod yX1_clear) (by decide +kernel)
  have L3 := hts (Cond.selects RX1 yX1_clear yX1_clear) (by decide +kernel)
  have L4 := hts (Cond.fieldLink RX4 18 "MouldShots$Text" "length" "I") (by decide +kernel)
  have L5 := hts (Cond.fieldLink RX4 9 "MouldShots$Text" "letters" "[I") (by decide +kernel)
  have w_8 : ∀ n : Nat, ∀ (v2 : Int32) (v3 : Int32) (t_numbers : (Nat → Int32)) (o1_cavities : Int32) (o1_volumes : (Nat → Int32)) (o1_drags : (Nat → Int32)) (o1_freezes : (Nat → Int32)) (o1_cores : Int32) (o1_ahead : (Nat → Int32)) (o1_stages : Int32) (o1_places : (Nat → Int32)) (o1_speeds : (Nat → Int32)) (o1_settings : (Nat → Int32)) (H : Heap) (locs : List Loc) (ls : Array Slot), f4_readInto_8  N n v2 v3 t_letters t_numbers t_length o1_cavities o1_volumes o1_drags o1_freezes o1_cores o1_ahead o1_stages o1_places o1_speeds o1_settings = some res → va_P g.1 vwCl (fl [wk4 g t_p t_p_letters t_letters t_p_numbers t_numbers t_length, wk1 g o1_p o1_cavities o1_p_volumes o1_volumes o1_p_drags o1_drags o1_p_freezes o1_freezes o1_cores o1_p_ahead o1_ahead o1_stages o1_p_places o1_places o1_p_speeds o1_speeds o1_p_settings o1_settings]) H → va_D A (fl [wk4 g t_p t_p_letters t_letters t_p_numbers t_numbers t_length, wk1 g o1_p o1_cavities o1_p_volumes o1_volumes o1_p_drags o1_drags o1_p_freezes o1_freezes o1_cores o1_p_ahead o1_ahead o1_stages o1_p_places o1_places o1_p_speeds o1_speeds o1_p_settings o1_settings]) → va_S A s.heap H locs → lv_has ls 4 [(0, .ref t_p), (1, .ref o1_p), (2, .int v2), (3, .int v3)] → W p l e ({ frames := 3, cells := 0, slots := 0, locals := 90 }) s m ([.ref t_p, .ref o1_p] : List Value).toArray below meth c H locs 0 0 (MQ below (pQi g (fun r => r = res.1) (fl [wk4 g t_p t_p_letters t_letters t_p_numbers res.2.1 t_length, wk1 g o1_p res.2.2.1 o1_p_volumes res.2.2.2.1 o1_p_drags res.2.2.2.2.1 o1_p_freezes res.2.2.2.2.2.1 res.2.2.2.2.2.2.1 o1_p_ahead res.2.2.2.2.2.2.2.1 res.2.2.2.2.2.2.2.2.1 o1_p_places res.2.2.2.2.2.2.2.2.2.1 o1_p_speeds res.2.2.2.2.2.2.2.2.2.2.1 o1_p_settings res.2.2.2.2.2.2.2.2.2.2.2]) A) ([.ref t_p, .ref o1_p] : List Value).toArray s 0 0 A) (F0 m 8 ls []) := by
    intro  n
    induction n with
    | zero => intro v2 v3 t_numbers o1_cavities o1_volumes o1_drags o1_freezes o1_cores o1_ahead o1_stages o1_places o1_speeds o1_settings H locs ls hf; exact no_some hf
    | succ n ih =>
      intro v2 v3 t_numbers o1_cavities o1_volumes o1_drags o1_freezes o1_cores o1_ahead o1_stages o1_places o1_speeds o1_settings H locs ls hf hP hD hS hl
      rw [f4_readInto_8] at hf
      refine lv_iload_n hx hb dX4_readInto_8 rfl (lv_at hl 3 rfl) ?_
      refine lv_aload_n hx hb dX4_readInto_9 rfl (lv_at hl 0 rfl) ?_
      refine va_get (D := g.1) (ci := 4) (v := .int t_length) (C := RX4) (T := TX4) (N := 3) hx hb hts hin4 hown hK.1 hP 0 rfl rfl 2 (by decide) L4 (fun _ h9 => h9) rfl dX4_readInto_10 ?_
      refine lv_icmp_ge (tgt := 49) hx hb dX4_readInto_13 (by decide) (fun c_2 => ?_) (fun c_2 => ?_)
      · replace hf := (if_pos c_2).symm.trans hf
        refine lv_iload_n hx hb dX4_readInto_49 rfl (lv_at hl 2 rfl) ?_
        refine lv_aload_n hx hb dX4_readInto_50 rfl (lv_at hl 0 rfl) ?_
        refine va_get (D := g.1) (ci := 4) (v := .int t_length) (C := RX4) (T := TX4) (N := 3) hx hb hts hin4 hown hK.1 hP 0 rfl rfl 2 (by decide) L4 (fun _ h9 => h9) rfl dX4_readInto_51 ?_
        refine lv_icmp_ge (tgt := 61) hx hb dX4_readInto_54 (by decide) (fun c_3 => ?_) (fun c_3 => ?_)
        · replace hf := (if_pos c_3).symm.trans hf
          refine lv_bipush (v := (-4)) hx hb dX4_readInto_61 (by decide) ?_
          replace hf := Option.some.inj hf
          subst hf
          exact W.iret (v := (-4)) hx hb hr (fun t ht hW => ⟨⟨_, (), rfl, rfl, by show va_P g.1 vwCl _ t.heap; rw [ht]; exact hP⟩, hS.F ht⟩) hS.2.2 dX4_readInto_63 hlocks
        · replace hf := (if_neg c_3).symm.trans hf
          refine lv_iload_n hx hb dX4_readInto_57 rfl (lv_at hl 2 rfl) ?_
          refine lv_goto (tgt := 63) hx hb dX4_readInto_58 (by decide) ?_
          replace hf := Option.some.inj hf
          subst hf
          exact W.iret (v := v2) hx hb hr (fun t ht hW => ⟨⟨_, (), rfl, rfl, by show va_P g.1 vwCl _ t.heap; rw [ht]; exact hP⟩, hS.F ht⟩) hS.2.2 dX4_readInto_63 hlocks
      · replace hf := (if_neg c_2).symm.trans hf
        refine lv_aload_n hx hb dX4_readInto_16 rfl (lv_at hl 0 rfl) ?_
        refine va_get (D := g.1) (ci := 4) (v := .ref t_p_letters) (C := RX4) (T := TX4) (N := 3) hx hb hts hin4 hown hK.1 hP 0 rfl rfl 0 (by decide) L5 (fun _ h9 => h9) rfl dX4_readInto_17 ?_
        refine lv_iload_n hx hb dX4_readInto_20 rfl (lv_at hl 3 rfl) ?_
        obtain ⟨h_4, hf⟩ := if_some hf
        refine va_iald hx hb hK.1 hP 1 0 rfl rfl (ok_in h_4) dX4_readInto_21 ?_
        refine lv_bipush (v := 59) hx hb dX4_readInto_22 (by decide) ?_
        refine lv_icmp_ne (tgt := 43) hx hb dX4_readInto_24 (by decide) (fun c_5 => ?_) (fun c_5 => ?_)
        · replace hf := (if_neg c_5).symm.trans hf
          refine lv_iinc (v := v3 + 1) (lv' := [(3, .int (v3 + 1)), (0, .ref t_p), (1, .ref o1_p), (2, .int v2)]) hx hb dX4_readInto_43 hl (k := 3) rfl rfl (by decide) rfl (fun ls hl => ?_)
          refine lv_goto (tgt := 8) hx hb dX4_readInto_46 (by decide) ?_
          exact ih v2 (v3 + 1) t_numbers o1_cavities o1_volumes o1_drags o1_freezes o1_cores o1_ahead o1_stages o1_places o1_speeds o1_settings H locs ls hf hP hD hS (lv_sub hl [1, 2, 3, 0] rfl)
        · replace hf := (if_pos c_5).symm.trans hf
          refine lv_aload_n hx hb dX4_readInto_27 rfl (lv_at hl 0 rfl) ?_
          refine lv_iload_n hx hb dX4_readInto_28 rfl (lv_at hl 2 rfl) ?_
          refine lv_iload_n hx hb dX4_readInto_29 rfl (lv_at hl 3 rfl) ?_
          refine lv_aload_n hx hb dX4_readInto_30 rfl (lv_at hl 1 rfl) ?_
          obtain ⟨q_6, hq_6, hf⟩ := bd_some hf
          refine bft_i (bn := [wk4 g t_p t_p_letters t_letters t_p_numbers q_6.2.1 t_length, wk1 g o1_p q_6.2.2.1 o1_p_volumes q_6.2.2.2.1 o1_p_drags q_6.2.2.2.2.1 o1_p_freezes q_6.2.2.2.2.2.1 q_6.2.2.2.2.2.2.1 o1_p_ahead q_6.2.2.2.2.2.2.2.1 q_6.2.2.2.2.2.2.2.2.1 o1_p_places q_6.2.2.2.2.2.2.2.2.2.1 o1_p_speeds q_6.2.2.2.2.2.2.2.2.2.2.1 o1_p_settings q_6.2.2.2.2.2.2.2.2.2.2.2]) (L := [[t_p, t_p_letters, t_p_numbers], [o1_p, o1_p_volumes, o1_p_drags, o1_p_freezes, o1_p_ahead, o1_p_places, o1_p_speeds, o1_p_settings]]) (va_runV (As := [.int v2, .int v3, .ref o1_p]) (rest := []) ⟨hx, hb, hml, hown, hts⟩ (c4_readItem l g t_p t_p_letters t_letters t_p_numbers t_numbers t_length o1_p o1_cavities o1_p_volumes o1_volumes o1_p_drags o1_drags o1_p_freezes o1_freezes o1_cores o1_p_ahead o1_ahead o1_stages o1_p_places o1_places o1_p_speeds o1_speeds o1_p_settings o1_settings v2 v3 H.size N q_6 hq_6) (cwV 3 hts gX4_readInto_X4_readItem rfl rfl rfl ⟨rfl, nh4.1, nh4.2, pd_18⟩ ⟨Nat.le_of_ble_eq_true rfl, Nat.le_of_ble_eq_true rfl⟩) (qPV hK hG hP hD hS hA [0, 1] (by decide) rfl (va_recv hK.1 hP (ci := 4) (q0 := 0) rfl rfl)) rfl rfl hl.1 rfl (lv_room (Nat.le_of_ble_eq_true rfl)) dX4_readInto_31 ⟨Nat.zero_le _, Nat.zero_le _⟩) hP hD hS hA [0, 1] rfl rfl rfl rfl (fun r_7 H locs hw hP hD hS => ?_)
          replace hw := hw.symm
          subst hw
          refine lv_if_ne (tgt := 39) hx hb dX4_readInto_34 (by decide) (fun c_8 => ?_) (fun c_8 => ?_)
          · replace hf := (if_neg c_8).symm.trans hf
            refine lv_iload_n hx hb dX4_readInto_39 rfl (lv_at hl 3 rfl) ?_
            refine lv_iconst (v := 1) hx hb dX4_readInto_40 (by decide) ?_
            refine lv_iadd hx hb dX4_readInto_41 ?_
            refine lv_istore_n (lv' := [(2, .int (v3 + 1)), (0, .ref t_p), (1, .ref o1_p), (3, .int v3)]) hx hb dX4_readInto_42 rfl hl (by decide) rfl (fun ls hl => ?_)
            refine lv_iinc (v := v3 + 1) (lv' := [(3, .int (v3 + 1)), (2, .int (v3 + 1)), (0, .ref t_p), (1, .ref o1_p)]) hx hb dX4_readInto_43 hl (k := 3) rfl rfl (by decide) rfl (fun ls hl => ?_)
            refine lv_goto (tgt := 8) hx hb dX4_readInto_46 (by decide) ?_
            exact ih (v3 + 1) (v3 + 1) q_6.2.1 q_6.2.2.1 q_6.2.2.2.1 q_6.2.2.2.2.1 q_6.2.2.2.2.2.1 q_6.2.2.2.2.2.2.1 q_6.2.2.2.2.2.2.2.1 q_6.2.2.2.2.2.2.2.2.1 q_6.2.2.2.2.2.2.2.2.2.1 q_6.2.2.2.2.2.2.2.2.2.2.1 q_6.2.2.2.2.2.2.2.2.2.2.2 H locs ls hf hP hD hS (lv_sub hl [2, 3, 1, 0] rfl)
          · replace hf := (if_pos c_8).symm.trans hf
            refine lv_iload_n hx hb dX4_readInto_37 rfl (lv_at hl 2 rfl) ?_
            replace hf := Option.some.inj hf
            subst hf
            exact W.iret (v := v2) hx hb hr (fun t ht hW => ⟨⟨_, (), rfl, rfl, by show va_P g.1 vwCl _ t.heap; rw [ht]; exact hP⟩, hS.F ht⟩) hS.2.2 dX4_readInto_38 hlocks
  have hl := lv_entry ([.ref t_p, .ref o1_p]) (n := 4) (Nat.le_of_ble_eq_true rfl)
  rw [lg_entry_eq]
  generalize (lg_sl ([.ref t_p, .ref o1_p]) ++ List.replicate (4 - (lg_sl ([.ref t_p, .ref o1_p])).length) Slot.unset).toArray = ls at hl ⊢
  replace hl : lv_has ls 4 [(0, .ref t_p), (1, .ref o1_p)] := hl
  rw [f4_readInto] at hf
  have hgo : ∀ (H : Heap) (locs : List Loc), H = s.heap → locs = [] → va_P g.1 vwCl (fl [wk4 g t_p t_p_letters t_letters t_p_numbers t_numbers t_length, wk1 g o1_p o1_cavities o1_p_volumes o1_volumes o1_p_drags o1_drags o1_p_freezes o1_freezes o1_cores o1_p_ahead o1_ahead o1_stages o1_p_places o1_places o1_p_speeds o1_speeds o1_p_settings o1_settings]) H → va_S A s.heap H locs → W p l e ({ frames := 3, cells := 0, slots := 0, locals := 90 }) s m ([.ref t_p, .ref o1_p] : List Value).toArray below meth c H locs 0 0 (MQ below (pQi g (fun r => r = res.1) (fl [wk4 g t_p t_p_letters t_letters t_p_numbers res.2.1 t_length, wk1 g o1_p res.2.2.1 o1_p_volumes res.2.2.2.1 o1_p_drags res.2.2.2.2.1 o1_p_freezes res.2.2.2.2.2.1 res.2.2.2.2.2.2.1 o1_p_ahead res.2.2.2.2.2.2.2.1 res.2.2.2.2.2.2.2.2.1 o1_p_places res.2.2.2.2.2.2.2.2.2.1 o1_p_speeds res.2.2.2.2.2.2.2.2.2.2.1 o1_p_settings res.2.2.2.2.2.2.2.2.2.2.2]) A) ([.ref t_p, .ref o1_p] : List Value).toArray s 0 0 A) (F0 m 0 ls []) := by
    intro H locs hH hL hP hS
    refine lv_aload_n hx hb dX4_readInto_0 rfl (lv_at hl 1 rfl) ?_
    obtain ⟨q_1, hq_1, hf⟩ := bd_some hf
    refine bft_v (bn := [wk4 g t_p t_p_letters t_letters t_p_numbers t_numbers t_length, wk1 g o1_p q_1.1 o1_p_volumes o1_volumes o1_p_drags o1_drags o1_p_freezes o1_freezes q_1.2.1 o1_p_ahead o1_ahead q_1.2.2.1 o1_p_places o1_places o1_p_speeds o1_speeds o1_p_settings q_1.2.2.2]) (L := [[o1_p, o1_p_volumes, o1_p_drags, o1_p_freezes, o1_p_ahead, o1_p_places, o1_p_speeds, o1_p_settings]]) (va_runVN (As := []) (rest := []) ⟨hx, hb, hml, hown, hts⟩ (c1_clear l g o1_p o1_cavities o1_p_volumes o1_volumes o1_p_drags o1_drags o1_p_freezes o1_freezes o1_cores o1_p_ahead o1_ahead o1_stages o1_p_places o1_places o1_p_speeds o1_speeds o1_p_settings o1_settings H.size N q_1 hq_1) ⟨va_cnB 0 hts gX4_readInto_X1_clear_n22 rfl rfl rfl (hK.nw _ 68 rfl) L1 ⟨nh1.1, nh1.2, pd_9⟩ ⟨Nat.le_of_ble_eq_true rfl, Nat.le_of_ble_eq_true rfl⟩, L2, L3⟩ (qPV hK hG hP hD hS hA [1] (by decide) rfl (va_recv hK.1 hP (ci := 1) (q0 := 3) rfl rfl)) rfl rfl hl.1 rfl (lv_room (Nat.le_of_ble_eq_true rfl)) dX4_readInto_1 ⟨Nat.zero_le _, Nat.zero_le _⟩) hP hD hS hA [1] rfl rfl rfl rfl (fun H locs hP hD hS => ?_)
    refine lv_iconst (v := 0) hx hb dX4_readInto_4 (by decide) ?_
    refine lv_istore_n (lv' := [(2, .int 0), (0, .ref t_p), (1, .ref o1_p)]) hx hb dX4_readInto_5 rfl hl (by decide) rfl (fun ls hl => ?_)
    refine lv_iconst (v := 0) hx hb dX4_readInto_6 (by decide) ?_
    refine lv_istore_n (lv' := [(3, .int 0), (2, .int 0), (0, .ref t_p), (1, .ref o1_p)]) hx hb dX4_readInto_7 rfl hl (by decide) rfl (fun ls hl => ?_)
    exact w_8  N 0 0 t_numbers q_1.1 o1_volumes o1_drags o1_freezes q_1.2.1 o1_ahead q_1.2.2.1 o1_places o1_speeds q_1.2.2.2 H locs ls hf hP hD hS (lv_sub hl [2, 3, 1, 0] rfl)
  exact hgo s.heap [] rfl rfl hP hS
