set_option maxHeartbeats 4000000 in
set_option maxRecDepth 100000 in
theorem c0_clear (l : Launch) (g : gG) (t_p : Nat) (t_teachers : Int32) (t_shortest : Int32) (t_longest : Int32) (t_p_least : Nat) (t_least : (Nat → Int32)) (t_p_greatest : Nat) (t_greatest : (Nat → Int32)) (sz : Nat) (N : Nat) (res : Unit) (hf : f0_clear N  = some res) : Met l yX0_clear wsX0_clear ({ frames := 0, cells := 0, slots := 0, locals := 0 }) (pP g [.ref t_p] sz (fl [wk0 g t_p t_teachers t_shortest t_longest t_p_least t_least t_p_greatest t_greatest])) (pQv g (fl [wk0 g t_p 0 0 0 t_p_least t_least t_p_greatest t_greatest]) (va_A (fl [wk0 g t_p t_teachers t_shortest t_longest t_p_least t_least t_p_greatest t_greatest]) sz)) 0 0 (va_A (fl [wk0 g t_p t_teachers t_shortest t_longest t_p_least t_least t_p_greatest t_greatest]) sz) := by
  refine Met.ofW (cc := cX0_clear) (maxL := 1) (ret := none) (by decide) rfl ?_
  intro p e s m args below meth c s₁ B hml hv
  obtain ⟨rfl, hsz, hP, hK, hD0, hG⟩ := hv
  have hx := B.exec
  have hb := B.bytes
  have hr := B.returns
  have hts := atoms_spec (ws := wsX0_clear) B.pre
  have hown : s.vm.findClass RX0 = some m.cls := findClass_of_methodNamed B.named
  have hlocks := B.notSynchronized
  subst hsz
  have hD := hD0.self (sz := s.heap.size)
  generalize hAe : va_A (fl [wk0 g t_p t_teachers t_shortest t_longest t_p_least t_least t_p_greatest t_greatest]) s.heap.size = A at hD hG ⊢
  have hA : ∀ q : Nat, s.heap.size ≤ q → A q := fun q h => by rw [← hAe]; exact Or.inr h
  have hS : va_S A s.heap s.heap [] := va_S.rf
  have hin0 : ∀ w ∈ u_ws RX0 TX0 5, w ∈ wsX0_clear := by decide +kernel
  have L1 := hts (Cond.fieldLink RX0 9 "MouldShots$Band" "teachers" "I") (by decide +kernel)
  have L2 := hts (Cond.fieldLink RX0 15 "MouldShots$Band" "shortest" "I") (by decide +kernel)
  have L3 := hts (Cond.fieldLink RX0 18 "MouldShots$Band" "longest" "I") (by decide +kernel)
  have hl := lv_entry ([.ref t_p]) (n := 1) (Nat.le_of_ble_eq_true rfl)
  rw [lg_entry_eq]
  generalize (lg_sl ([.ref t_p]) ++ List.replicate (1 - (lg_sl ([.ref t_p])).length) Slot.unset).toArray = ls at hl ⊢
  replace hl : lv_has ls 1 [(0, .ref t_p)] := hl
  rw [f0_clear] at hf
  have hgo : ∀ (H : Heap) (locs : List Loc), H = s.heap → locs = [] → va_P g.1 vwCl (fl [wk0 g t_p t_teachers t_shortest t_longest t_p_least t_least t_p_greatest t_greatest]) H → va_S A s.heap H locs → W p l e ({ frames := 0, cells := 0, slots := 0, locals := 0 }) s m ([.ref t_p] : List Value).toArray below meth c H locs 0 0 (MQ below (pQv g (fl [wk0 g t_p 0 0 0 t_p_least t_least t_p_greatest t_greatest]) A) ([.ref t_p] : List Value).toArray s 0 0 A) (F0 m 0 ls []) := by
    intro H locs hH hL hP hS
    refine lv_aload_n hx hb dX0_clear_0 rfl (lv_at hl 0 rfl) ?_
    refine lv_iconst (v := 0) hx hb dX0_clear_1 (by decide) ?_
    refine va_put (D := g.1) (ci := 0) (v := .int 0) (ty := .int) (C := RX0) (T := TX0) (N := 5) hx hb hts hin0 tyX0 tyX0_ok nmX0 hown hK.1 hP hD hS 0 rfl rfl 0 (by decide) L1 (fun _ h9 => h9) rfl (by decide +kernel) rfl rfl (Nat.le_of_ble_eq_true rfl) dX0_clear_2 (fun H locs hP hD hS => ?_)
    replace hP : va_P g.1 vwCl (fl [wk0 g t_p 0 t_shortest t_longest t_p_least t_least t_p_greatest t_greatest]) H := hP
    replace hD : va_D A (fl [wk0 g t_p 0 t_shortest t_longest t_p_least t_least t_p_greatest t_greatest]) := hD
    refine lv_aload_n hx hb dX0_clear_5 rfl (lv_at hl 0 rfl) ?_
    refine lv_iconst (v := 0) hx hb dX0_clear_6 (by decide) ?_
    refine va_put (D := g.1) (ci := 0) (v := .int 0) (ty := .int) (C := RX0) (T := TX0) (N := 5) hx hb hts hin0 tyX0 tyX0_ok nmX0 hown hK.1 hP hD hS 0 rfl rfl 1 (by decide) L2 (fun _ h9 => h9) rfl (by decide +kernel) rfl rfl (Nat.le_of_ble_eq_true rfl) dX0_clear_7 (fun H locs hP hD hS => ?_)
    replace hP : va_P g.1 vwCl (fl [wk0 g t_p 0 0 t_longest t_p_least t_least t_p_greatest t_greatest]) H := hP
    replace hD : va_D A (fl [wk0 g t_p 0 0 t_longest t_p_least t_least t_p_greatest t_greatest]) := hD
    refine lv_aload_n hx hb dX0_clear_10 rfl (lv_at hl 0 rfl) ?_
    refine lv_iconst (v := 0) hx hb dX0_clear_11 (by decide) ?_
    refine va_put (D := g.1) (ci := 0) (v := .int 0) (ty := .int) (C := RX0) (T := TX0) (N := 5) hx hb hts hin0 tyX0 tyX0_ok nmX0 hown hK.1 hP hD hS 0 rfl rfl 2 (by decide) L3 (fun _ h9 => h9) rfl (by decide +kernel) rfl rfl (Nat.le_of_ble_eq_true rfl) dX0_clear_12 (fun H locs hP hD hS => ?_)
    replace hP : va_P g.1 vwCl (fl [wk0 g t_p 0 0 0 t_p_least t_least t_p_greatest t_greatest]) H := hP
    replace hD : va_D A (fl [wk0 g t_p 0 0 0 t_p_least t_least t_p_greatest t_greatest]) := hD
    replace hf := Option.some.inj hf
    subst hf
    exact W.vret hx hb hr (fun t ht hW => ⟨⟨(), rfl, trivial, by show va_P g.1 vwCl _ t.heap; rw [ht]; exact hP⟩, hS.F ht⟩) hS.2.2 dX0_clear_15 hlocks
  exact hgo s.heap [] rfl rfl hP hS

set_option maxHeartbeats 4000000 in
set_option maxRecDepth 100000 in
theorem c0_copyFrom (l : Launch) (g : gG) (t_p : Nat) (t_teachers : Int32) (t_shortest : Int32) (t_longest : Int32) (t_p_least : Nat) (t_least : (Nat → Int32)) (t_p_greatest : Nat) (t_greatest : (Nat → Int32)) (o1_p : Nat) (o1_teachers : Int32) (o1_shortest : Int32) (o1_longest : Int32) (o1_p_least : Nat) (o1_least : (Nat → Int32)) (o1_p_greatest : Nat) (o1_greatest : (Nat → Int32)) (sz : Nat) (N : Nat) (res : Unit) (hf : f0_copyFrom N  = some res) : Met l yX0_copyFrom wsX0_copyFrom ({ frames := 1, cells := 0, slots := 0, locals := 43 }) (pP g [.ref t_p, .ref o1_p] sz (fl [wk0 g t_p t_teachers t_shortest t_longest t_p_least t_least t_p_greatest t_greatest, wk0 g o1_p o1_teachers o1_shortest o1_longest o1_p_least o1_least o1_p_greatest o1_greatest])) (pQv g (fl [wk0 g t_p o1_teachers o1_shortest o1_longest t_p_least (va_cpy o1_least t_least (Int32.toNatClampNeg 0) (Int32.toNatClampNeg 0) (Int32.toNatClampNeg 60)) t_p_greatest (va_cpy o1_greatest t_greatest (Int32.toNatClampNeg 0) (Int32.toNatClampNeg 0) (Int32.toNatClampNeg 60)), wk0 g o1_p o1_teachers o1_shortest o1_longest o1_p_least o1_least o1_p_greatest o1_greatest]) (va_A (fl [wk0 g t_p t_teachers t_shortest t_longest t_p_least t_least t_p_greatest t_greatest, wk0 g o1_p o1_teachers o1_shortest o1_longest o1_p_least o1_least o1_p_greatest o1_greatest]) sz)) 0 0 (va_A (fl [wk0 g t_p t_teachers t_shortest t_longest t_p_least t_least t_p_greatest t_greatest, wk0 g o1_p o1_teachers o1_shortest o1_longest o1_p_least o1_least o1_p_greatest o1_greatest]) sz) := by
  refine Met.ofW (cc := cX0_copyFrom) (maxL := 2) (ret := none) (by decide) rfl ?_
  intro p e s m args below meth c s₁ B hml hv
  obtain ⟨rfl, hsz, hP, hK, hD0, hG⟩ := hv
  have hx := B.exec
  have hb := B.bytes
  have hr := B.returns
  have hts := atoms_spec (ws := wsX0_copyFrom) B.pre
  have hown : s.vm.findClass RX0 = some m.cls := findClass_of_methodNamed B.named
  have hlocks := B.notSynchronized
  subst hsz
  have hD := hD0.self (sz := s.heap.size)
  generalize hAe : va_A (fl [wk0 g t_p t_teachers t_shortest t_longest t_p_least t_least t_p_greatest t_greatest, wk0 g o1_p o1_teachers o1_shortest o1_longest o1_p_least o1_least o1_p_greatest o1_greatest]) s.heap.size = A at hD hG ⊢
  have hA : ∀ q : Nat, s.heap.size ≤ q → A q := fun q h => by rw [← hAe]; exact Or.inr h
  have hS : va_S A s.heap s.heap [] := va_S.rf
  have hin0 : ∀ w ∈ u_ws RX0 TX0 5, w ∈ wsX0_copyFrom := by decide +kernel
  have L1 := hts (Cond.fieldLink RX0 9 "MouldShots$Band" "teachers" "I") (by decide +kernel)
  have L2 := hts (Cond.fieldLink RX0 15 "MouldShots$Band" "shortest" "I") (by decide +kernel)
  have L3 := hts (Cond.fieldLink RX0 18 "MouldShots$Band" "longest" "I") (by decide +kernel)
  have L4 := hts (Cond.fieldLink RX0 21 "MouldShots$Band" "least" "[I") (by decide +kernel)
  have L5 := hts (Cond.methodLink RX0 28 arraycopyName) (by decide +kernel)
  have L6 := hts (Cond.native arraycopyName) (by decide +kernel)
  have L7 := hts (Cond.static arraycopyName) (by decide +kernel)
  have L8 := hts (Cond.initialized "java/lang/System") (by decide +kernel)
  have L9 := hts (Cond.fieldLink RX0 25 "MouldShots$Band" "greatest" "[I") (by decide +kernel)
  have hl := lv_entry ([.ref t_p, .ref o1_p]) (n := 2) (Nat.le_of_ble_eq_true rfl)
  rw [lg_entry_eq]
  generalize (lg_sl ([.ref t_p, .ref o1_p]) ++ List.replicate (2 - (lg_sl ([.ref t_p, .ref o1_p])).length) Slot.unset).toArray = ls at hl ⊢
  replace hl : lv_has ls 2 [(0, .ref t_p), (1, .ref o1_p)] := hl
  rw [f0_copyFrom] at hf
  have hgo : ∀ (H : Heap) (locs : List Loc), H = s.heap → locs = [] → va_P g.1 vwCl (fl [wk0 g t_p t_teachers t_shortest t_longest t_p_least t_least t_p_greatest t_greatest, wk0 g o1_p o1_teachers o1_shortest o1_longest o1_p_least o1_least o1_p_greatest o1_greatest]) H → va_S A s.heap H locs → W p l e ({ frames := 1, cells := 0, slots := 0, locals := 43 }) s m ([.ref t_p, .ref o1_p] : List Value).toArray below meth c H locs 0 0 (MQ below (pQv g (fl [wk0 g t_p o1_teachers o1_shortest o1_longest t_p_least (va_cpy o1_least t_least (Int32.toNatClampNeg 0) (Int32.toNatClampNeg 0) (Int32.toNatClampNeg 60)) t_p_greatest (va_cpy o1_greatest t_greatest (Int32.toNatClampNeg 0) (Int32.toNatClampNeg 0) (Int32.toNatClampNeg 60)), wk0 g o1_p o1_teachers o1_shortest o1_longest o1_p_least o1_least o1_p_greatest o1_greatest]) A) ([.ref t_p, .ref o1_p] : List Value).toArray s 0 0 A) (F0 m 0 ls []) := by
    intro H locs hH hL hP hS
    refine lv_aload_n hx hb dX0_copyFrom_0 rfl (lv_at hl 0 rfl) ?_
    refine lv_aload_n hx hb dX0_copyFrom_1 rfl (lv_at hl 1 rfl) ?_
    refine va_get (D := g.1) (ci := 0) (v := .int o1_teachers) (C := RX0) (T := TX0) (N := 5) hx hb hts hin0 hown hK.1 hP 3 rfl rfl 0 (by decide) L1 (fun _ h9 => h9) rfl dX0_copyFrom_2 ?_
    refine va_put (D := g.1) (ci := 0) (v := .int o1_teachers) (ty := .int) (C := RX0) (T := TX0) (N := 5) hx hb hts hin0 tyX0 tyX0_ok nmX0 hown hK.1 hP hD hS 0 rfl rfl 0 (by decide) L1 (fun _ h9 => h9) rfl (by decide +kernel) rfl rfl (Nat.le_of_ble_eq_true rfl) dX0_copyFrom_5 (fun H locs hP hD hS => ?_)
    replace hP : va_P g.1 vwCl (fl [wk0 g t_p o1_teachers t_shortest t_longest t_p_least t_least t_p_greatest t_greatest, wk0 g o1_p o1_teachers o1_shortest o1_longest o1_p_least o1_least o1_p_greatest o1_greatest]) H := hP
    replace hD : va_D A (fl [wk0 g t_p o1_teachers t_shortest t_longest t_p_least t_least t_p_greatest t_greatest, wk0 g o1_p o1_teachers o1_shortest o1_longest o1_p_least o1_least o1_p_greatest o1_greatest]) := hD
    refine lv_aload_n hx hb dX0_copyFrom_8 rfl (lv_at hl 0 rfl) ?_
    refine lv_aload_n hx hb dX0_copyFrom_9 rfl (lv_at hl 1 rfl) ?_
    refine va_get (D := g.1) (ci := 0) (v := .int o1_shortest) (C := RX0) (T := TX0) (N := 5) hx hb hts hin0 hown hK.1 hP 3 rfl rfl 1 (by decide) L2 (fun _ h9 => h9) rfl dX0_copyFrom_10 ?_
    refine va_put (D := g.1) (ci := 0) (v := .int o1_shortest) (ty := .int) (C := RX0) (T := TX0) (N := 5) hx hb hts hin0 tyX0 tyX0_ok nmX0 hown hK.1 hP hD hS 0 rfl rfl 1 (by decide) L2 (fun _ h9 => h9) rfl (by decide +kernel) rfl rfl (Nat.le_of_ble_eq_true rfl) dX0_copyFrom_13 (fun H locs hP hD hS => ?_)
    replace hP : va_P g.1 vwCl (fl [wk0 g t_p o1_teachers o1_shortest t_longest t_p_least t_least t_p_greatest t_greatest, wk0 g o1_p o1_teachers o1_shortest o1_longest o1_p_least o1_least o1_p_greatest o1_greatest]) H := hP
    replace hD : va_D A (fl [wk0 g t_p o1_teachers o1_shortest t_longest t_p_least t_least t_p_greatest t_greatest, wk0 g o1_p o1_teachers o1_shortest o1_longest o1_p_least o1_least o1_p_greatest o1_greatest]) := hD
    refine lv_aload_n hx hb dX0_copyFrom_16 rfl (lv_at hl 0 rfl) ?_
    refine lv_aload_n hx hb dX0_copyFrom_17 rfl (lv_at hl 1 rfl) ?_
    refine va_get (D := g.1) (ci := 0) (v := .int o1_longest) (C := RX0) (T := TX0) (N := 5) hx hb hts hin0 hown hK.1 hP 3 rfl rfl 2 (by decide) L3 (fun _ h9 => h9) rfl dX0_copyFrom_18 ?_
    refine va_put (D := g.1) (ci := 0) (v := .int o1_longest) (ty := .int) (C := RX0) (T := TX0) (N := 5) hx hb hts hin0 tyX0 tyX0_ok nmX0 hown hK.1 hP hD hS 0 rfl rfl 2 (by decide) L3 (fun _ h9 => h9) rfl (by decide +kernel) rfl rfl (Nat.le_of_ble_eq_true rfl) dX0_copyFrom_21 (fun H locs hP hD hS => ?_)
    replace hP : va_P g.1 vwCl (fl [wk0 g t_p o1_teachers o1_shortest o1_longest t_p_least t_least t_p_greatest t_greatest, wk0 g o1_p o1_teachers o1_shortest o1_longest o1_p_least o1_least o1_p_greatest o1_greatest]) H := hP
    replace hD : va_D A (fl [wk0 g t_p o1_teachers o1_shortest o1_longest t_p_least t_least t_p_greatest t_greatest, wk0 g o1_p o1_teachers o1_shortest o1_longest o1_p_least o1_least o1_p_greatest o1_greatest]) := hD
    refine lv_aload_n hx hb dX0_copyFrom_24 rfl (lv_at hl 1 rfl) ?_
    refine va_get (D := g.1) (ci := 0) (v := .ref o1_p_least) (C := RX0) (T := TX0) (N := 5) hx hb hts hin0 hown hK.1 hP 3 rfl rfl 3 (by decide) L4 (fun _ h9 => h9) rfl dX0_copyFrom_25 ?_
    refine lv_iconst (v := 0) hx hb dX0_copyFrom_28 (by decide) ?_
    refine lv_aload_n hx hb dX0_copyFrom_29 rfl (lv_at hl 0 rfl) ?_
    refine va_get (D := g.1) (ci := 0) (v := .ref t_p_least) (C := RX0) (T := TX0) (N := 5) hx hb hts hin0 hown hK.1 hP 0 rfl rfl 3 (by decide) L4 (fun _ h9 => h9) rfl dX0_copyFrom_30 ?_
    refine lv_iconst (v := 0) hx hb dX0_copyFrom_33 (by decide) ?_
    refine lv_bipush (v := 60) hx hb dX0_copyFrom_34 (by decide) ?_
    refine va_copyi (ty := .int) hx hb (hml.trans hl.1.symm) hown L5 L6 L7 L8 hK.1 hP hD hS 4 1 0 0 rfl rfl rfl rfl rfl (by decide) (by decide) (by decide) (by decide) (by decide) (fun _ _ => rfl) (Nat.le_of_ble_eq_true rfl) (Nat.le_of_ble_eq_true rfl) dX0_copyFrom_36 (fun H locs hP hD hS => ?_)
    replace hP : va_P g.1 vwCl (fl [wk0 g t_p o1_teachers o1_shortest o1_longest t_p_least (va_cpy o1_least t_least (Int32.toNatClampNeg 0) (Int32.toNatClampNeg 0) (Int32.toNatClampNeg 60)) t_p_greatest t_greatest, wk0 g o1_p o1_teachers o1_shortest o1_longest o1_p_least o1_least o1_p_greatest o1_greatest]) H := hP
    replace hD : va_D A (fl [wk0 g t_p o1_teachers o1_shortest o1_longest t_p_least (va_cpy o1_least t_least (Int32.toNatClampNeg 0) (Int32.toNatClampNeg 0) (Int32.toNatClampNeg 60)) t_p_greatest t_greatest, wk0 g o1_p o1_teachers o1_shortest o1_longest o1_p_least o1_least o1_p_greatest o1_greatest]) := hD
    refine lv_aload_n hx hb dX0_copyFrom_39 rfl (lv_at hl 1 rfl) ?_
    refine va_get (D := g.1) (ci := 0) (v := .ref o1_p_greatest) (C := RX0) (T := TX0) (N := 5) hx hb hts hin0 hown hK.1 hP 3 rfl rfl 4 (by decide) L9 (fun _ h9 => h9) rfl dX0_copyFrom_40 ?_
    refine lv_iconst (v := 0) hx hb dX0_copyFrom_43 (by decide) ?_
    refine lv_aload_n hx hb dX0_copyFrom_44 rfl (lv_at hl 0 rfl) ?_
    refine va_get (D := g.1) (ci := 0) (v := .ref t_p_greatest) (C := RX0) (T := TX0) (N := 5) hx hb hts hin0 hown hK.1 hP 0 rfl rfl 4 (by decide) L9 (fun _ h9 => h9) rfl dX0_copyFrom_45 ?_
    refine lv_iconst (v := 0) hx hb dX0_copyFrom_48 (by decide) ?_
    refine lv_bipush (v := 60) hx hb dX0_copyFrom_49 (by decide) ?_
    refine va_copyi (ty := .int) hx hb (hml.trans hl.1.symm) hown L5 L6 L7 L8 hK.1 hP hD hS 5 2 0 0 rfl rfl rfl rfl rfl (by decide) (by decide) (by decide) (by decide) (by decide) (fun _ _ => rfl) (Nat.le_of_ble_eq_true rfl) (Nat.le_of_ble_eq_true rfl) dX0_copyFrom_51 (fun H locs hP hD hS => ?_)
    replace hP : va_P g.1 vwCl (fl [wk0 g t_p o1_teachers o1_shortest o1_longest t_p_least (va_cpy o1_least t_least (Int32.toNatClampNeg 0) (Int32.toNatClampNeg 0) (Int32.toNatClampNeg 60)) t_p_greatest (va_cpy o1_greatest t_greatest (Int32.toNatClampNeg 0) (Int32.toNatClampNeg 0) (Int32.toNatClampNeg 60)), wk0 g o1_p o1_teachers o1_shortest o1_longest o1_p_least o1_least o1_p_greatest o1_greatest]) H := hP
    replace hD : va_D A (fl [wk0 g t_p o1_teachers o1_shortest o1_longest t_p_least (va_cpy o1_least t_least (Int32.toNatClampNeg 0) (Int32.toNatClampNeg 0) (Int32.toNatClampNeg 60)) t_p_greatest (va_cpy o1_greatest t_greatest (Int32.toNatClampNeg 0) (Int32.toNatClampNeg 0) (Int32.toNatClampNeg 60)), wk0 g o1_p o1_teachers o1_shortest o1_longest o1_p_least o1_least o1_p_greatest o1_greatest]) := hD
    replace hf := Option.some.inj hf
    subst hf
    exact W.vret hx hb hr (fun t ht hW => ⟨⟨(), rfl, trivial, by show va_P g.1 vwCl _ t.heap; rw [ht]; exact hP⟩, hS.F ht⟩) hS.2.2 dX0_copyFrom_54 hlocks
  exact hgo s.heap [] rfl rfl hP hS

set_option maxHeartbeats 4000000 in
set_option maxRecDepth 100000 in
theorem c0_learn (l : Launch) (g : gG) (t_p : Nat) (t_teachers : Int32) (t_shortest : Int32) (t_longest : Int32) (t_p_least : Nat) (t_least : (Nat → Int32)) (t_p_greatest : Nat) (t_greatest : (Nat → Int32)) (o1_p : Nat) (o1_p_has : Nat) (o1_has : (Nat → Int32)) (o1_p_firstAt : Nat) (o1_firstAt : (Nat → Int32)) (o1_p_fullAt : Nat) (o1_fullAt : (Nat → Int32)) (o1_p_pressures : Nat) (o1_pressures : (Nat → Int32)) (o1_place : Int32) (o1_fillTicks : Int32) (o1_ticks : Int32) (o1_coolTicks : Int32) (o1_why : Int32) (sz : Nat) (N : Nat) (res : (Int32 × Int32 × Int32 × (Nat → Int32) × (Nat → Int32))) (hf : f0_learn N t_teachers t_shortest t_longest t_least t_greatest o1_pressures o1_ticks = some res) : Met l yX0_learn wsX0_learn ({ frames := 1, cells := 0, slots := 0, locals := 21 }) (pP g [.ref t_p, .ref o1_p] sz (fl [wk0 g t_p t_teachers t_shortest t_longest t_p_least t_least t_p_greatest t_greatest, wk2 g o1_p o1_p_has o1_has o1_p_firstAt o1_firstAt o1_p_fullAt o1_fullAt o1_p_pressures o1_pressures o1_place o1_fillTicks o1_ticks o1_coolTicks o1_why])) (pQv g (fl [wk0 g t_p res.1 res.2.1 res.2.2.1 t_p_least res.2.2.2.1 t_p_greatest res.2.2.2.2, wk2 g o1_p o1_p_has o1_has o1_p_firstAt o1_firstAt o1_p_fullAt o1_fullAt o1_p_pressures o1_pressures o1_place o1_fillTicks o1_ticks o1_coolTicks o1_why]) (va_A (fl [wk0 g t_p t_teachers t_shortest t_longest t_p_least t_least t_p_greatest t_greatest, wk2 g o1_p o1_p_has o1_has o1_p_firstAt o1_firstAt o1_p_fullAt o1_fullAt o1_p_pressures o1_pressures o1_place o1_fillTicks o1_ticks o1_coolTicks o1_why]) sz)) 0 0 (va_A (fl [wk0 g t_p t_teachers t_shortest t_longest t_p_least t_least t_p_greatest t_greatest, wk2 g o1_p o1_p_has o1_has o1_p_firstAt o1_firstAt o1_p_fullAt o1_fullAt o1_p_pressures o1_pressures o1_place o1_fillTicks o1_ticks o1_coolTicks o1_why]) sz) := by
  refine Met.ofW (cc := cX0_learn) (maxL := 5) (ret := none) (by decide) rfl ?_
  intro p e s m args below meth c s₁ B hml hv
  obtain ⟨rfl, hsz, hP, hK, hD0, hG⟩ := hv
  have hx := B.exec
  have hb := B.bytes
  have hr := B.returns
  have hts := atoms_spec (ws := wsX0_learn) B.pre
  have hown : s.vm.findClass RX0 = some m.cls := findClass_of_methodNamed B.named
  have hlocks := B.notSynchronized
  subst hsz
  have hD := hD0.self (sz := s.heap.size)
  generalize hAe : va_A (fl [wk0 g t_p t_teachers t_shortest t_longest t_p_least t_least t_p_greatest t_greatest, wk2 g o1_p o1_p_has o1_has o1_p_firstAt o1_firstAt o1_p_fullAt o1_fullAt o1_p_pressures o1_pressures o1_place o1_fillTicks o1_ticks o1_coolTicks o1_why]) s.heap.size = A at hD hG ⊢
  have hA : ∀ q : Nat, s.heap.size ≤ q → A q := fun q h => by rw [← hAe]; exact Or.inr h
  have hS : va_S A s.heap s.heap [] := va_S.rf
  have hin0 : ∀ w ∈ u_ws RX0 TX0 5, w ∈ wsX0_learn := by decide +kernel
  have hin2 : ∀ w ∈ u_ws RX2 TX2 9, w ∈ wsX0_learn := by decide +kernel
  have L1 := hts (Cond.fieldLink RX0 9 "MouldShots$Band" "teachers" "I") (by decide +kernel)
  have L2 := hts (Cond.fieldLink RX0 15 "MouldShots$Band" "shortest" "I") (by decide +kernel)
  have L3 := hts (Cond.methodLink RX0 39 Lib.Math.min.name) (by decide +kernel)
  have L4 := hts (Cond.static Lib.Math.min.name) (by decide +kernel)
  have L5 := hts (Cond.initialized "java/lang/Math") (by decide +kernel)
  have L6 := hts (Cond.code Lib.Math.min.name Lib.Math.min.code 2 (some .int)) (by decide +kernel)
  have L7 := hts (Cond.fieldLink RX0 21 "MouldShots$Band" "least" "[I") (by decide +kernel)
  have L8 := hts (Cond.fieldLink RX0 18 "MouldShots$Band" "longest" "I") (by decide +kernel)
  have L9 := hts (Cond.methodLink RX0 45 Lib.Math.max.name) (by decide +kernel)
  have L10 := hts (Cond.static Lib.Math.max.name) (by decide +kernel)
  have L11 := hts (Cond.initialized "java/lang/Math") (by decide +kernel)
  have L12 := hts (Cond.code Lib.Math.max.name Lib.Math.max.code 2 (some .int)) (by decide +kernel)
  have L13 := hts (Cond.fieldLink RX0 25 "MouldShots$Band" "greatest" "[I") (by decide +kernel)
  have w_80 : ∀ (k_15 : Int32 → Int32 → Int32 → Int32 → Int32 → (Nat → Int32) → (Nat → Int32) → (Nat → Int32) → Int32 → Option (Int32 × Int32 × Int32 × (Nat → Int32) × (Nat → Int32))), (∀ (v2 : Int32) (v3 : Int32) (t_teachers : Int32) (t_shortest : Int32) (t_longest : Int32) (t_least : (Nat → Int32)) (t_greatest : (Nat → Int32)) (H : Heap) (locs : List Loc) (ls : Array Slot), k_15 v2 v3 t_teachers t_shortest t_longest t_least t_greatest o1_pressures o1_ticks = some res → va_P g.1 vwCl (fl [wk0 g t_p t_teachers t_shortest t_longest t_p_least t_least t_p_greatest t_greatest, wk2 g o1_p o1_p_has o1_has o1_p_firstAt o1_firstAt o1_p_fullAt o1_fullAt o1_p_pressures o1_pressures o1_place o1_fillTicks o1_ticks o1_coolTicks o1_why]) H → va_D A (fl [wk0 g t_p t_teachers t_shortest t_longest t_p_least t_least t_p_greatest t_greatest, wk2 g o1_p o1_p_has o1_has o1_p_firstAt o1_firstAt o1_p_fullAt o1_fullAt o1_p_pressures o1_pressures o1_place o1_fillTicks o1_ticks o1_coolTicks o1_why]) → va_S A s.heap H locs → lv_has ls 5 [(0, .ref t_p), (1, .ref o1_p), (2, .int v2), (3, .int v3)] → W p l e ({ frames := 1, cells := 0, slots := 0, locals := 21 }) s m ([.ref t_p, .ref o1_p] : List Value).toArray below meth c H locs 0 0 (MQ below (pQv g (fl [wk0 g t_p res.1 res.2.1 res.2.2.1 t_p_least res.2.2.2.1 t_p_greatest res.2.2.2.2, wk2 g o1_p o1_p_has o1_has o1_p_firstAt o1_firstAt o1_p_fullAt o1_fullAt o1_p_pressures o1_pressures o1_place o1_fillTicks o1_ticks o1_coolTicks o1_why]) A) ([.ref t_p, .ref o1_p] : List Value).toArray s 0 0 A) (F0 m 15 ls [])) → ∀ (v2 : Int32) (v3 : Int32) (s1 : Int32) (s2 : Int32) (t_teachers : Int32) (t_shortest : Int32) (t_longest : Int32) (t_least : (Nat → Int32)) (t_greatest : (Nat → Int32)) (H : Heap) (locs : List Loc) (ls : Array Slot), f0_learn_80 k_15 N v2 v3 s1 s2 t_teachers t_shortest t_longest t_least t_greatest o1_pressures o1_ticks = some res → va_P g.1 vwCl (fl [wk0 g t_p t_teachers t_shortest t_longest t_p_least t_least t_p_greatest t_greatest, wk2 g o1_p o1_p_has o1_has o1_p_firstAt o1_firstAt o1_p_fullAt o1_fullAt o1_p_pressures o1_pressures o1_place o1_fillTicks o1_ticks o1_coolTicks o1_why]) H → va_D A (fl [wk0 g t_p t_teachers t_shortest t_longest t_p_least t_least t_p_greatest t_greatest, wk2 g o1_p o1_p_has o1_has o1_p_firstAt o1_firstAt o1_p_fullAt o1_fullAt o1_p_pressures o1_pressures o1_place o1_fillTicks o1_ticks o1_coolTicks o1_why]) → va_S A s.heap H locs → lv_has ls 5 [(0, .ref t_p), (1, .ref o1_p), (2, .int v2), (3, .int v3)] → W p l e ({ frames := 1, cells := 0, slots := 0, locals := 21 }) s m ([.ref t_p, .ref o1_p] : List Value).toArray below meth c H locs 0 0 (MQ below (pQv g (fl [wk0 g t_p res.1 res.2.1 res.2.2.1 t_p_least res.2.2.2.1 t_p_greatest res.2.2.2.2, wk2 g o1_p o1_p_has o1_has o1_p_firstAt o1_firstAt o1_p_fullAt o1_fullAt o1_p_pressures o1_pressures o1_place o1_fillTicks o1_ticks o1_coolTicks o1_why]) A) ([.ref t_p, .ref o1_p] : List Value).toArray s 0 0 A) (F0 m 80 ls [.int s2, .int s1, .ref t_p_greatest]) := by
    intro k_15 hk_15 v2 v3 s1 s2 t_teachers t_shortest t_longest t_least t_greatest H locs ls hf hP hD hS hl
    rw [f0_learn_80] at hf
    obtain ⟨h_10, hf⟩ := if_some hf
    refine va_iast hx hb hK.1 hP hD hS 2 0 rfl rfl (ok_in h_10) dX0_learn_80 (fun H locs hP hD hS => ?_)
    replace hP : va_P g.1 vwCl (fl [wk0 g t_p t_teachers t_shortest t_longest t_p_least t_least t_p_greatest (upd t_greatest (Int32.toNatClampNeg s1) s2), wk2 g o1_p o1_p_has o1_has o1_p_firstAt o1_firstAt o1_p_fullAt o1_fullAt o1_p_pressures o1_pressures o1_place o1_fillTicks o1_ticks o1_coolTicks o1_why]) H := hP
    replace hD : va_D A (fl [wk0 g t_p t_teachers t_shortest t_longest t_p_least t_least t_p_greatest (upd t_greatest (Int32.toNatClampNeg s1) s2), wk2 g o1_p o1_p_has o1_has o1_p_firstAt o1_firstAt o1_p_fullAt o1_fullAt o1_p_pressures o1_pressures o1_place o1_fillTicks o1_ticks o1_coolTicks o1_why]) := hD
    refine lv_iinc (v := v3 + 1) (lv' := [(3, .int (v3 + 1)), (0, .ref t_p), (1, .ref o1_p), (2, .int v2)]) hx hb dX0_learn_81 hl (k := 3) rfl rfl (by decide) rfl (fun ls hl => ?_)
    refine lv_goto (tgt := 15) hx hb dX0_learn_84 (by decide) ?_
    exact hk_15 v2 (v3 + 1) t_teachers t_shortest t_longest t_least (upd t_greatest (Int32.toNatClampNeg s1) s2) H locs ls hf hP hD hS (lv_sub hl [1, 2, 3, 0] rfl)
  have w_54 : ∀ (k_15 : Int32 → Int32 → Int32 → Int32 → Int32 → (Nat → Int32) → (Nat → Int32) → (Nat → Int32) → Int32 → Option (Int32 × Int32 × Int32 × (Nat → Int32) × (Nat → Int32))), (∀ (v2 : Int32) (v3 : Int32) (t_teachers : Int32) (t_shortest : Int32) (t_longest : Int32) (t_least : (Nat → Int32)) (t_greatest : (Nat → Int32)) (H : Heap) (locs : List Loc) (ls : Array Slot), k_15 v2 v3 t_teachers t_shortest t_longest t_least t_greatest o1_pressures o1_ticks = some res → va_P g.1 vwCl (fl [wk0 g t_p t_teachers t_shortest t_longest t_p_least t_least t_p_greatest t_greatest, wk2 g o1_p o1_p_has o1_has o1_p_firstAt o1_firstAt o1_p_fullAt o1_fullAt o1_p_pressures o1_pressures o1_place o1_fillTicks o1_ticks o1_coolTicks o1_why]) H → va_D A (fl [wk0 g t_p t_teachers t_shortest t_longest t_p_least t_least t_p_greatest t_greatest, wk2 g o1_p o1_p_has o1_has o1_p_firstAt o1_firstAt o1_p_fullAt o1_fullAt o1_p_pressures o1_pressures o1_place o1_fillTicks o1_ticks o1_coolTicks o1_why]) → va_S A s.heap H locs → lv_has ls 5 [(0, .ref t_p), (1, .ref o1_p), (2, .int v2), (3, .int v3)] → W p l e ({ frames := 1, cells := 0, slots := 0, locals := 21 }) s m ([.ref t_p, .ref o1_p] : List Value).toArray below meth c H locs 0 0 (MQ below (pQv g (fl [wk0 g t_p res.1 res.2.1 res.2.2.1 t_p_least res.2.2.2.1 t_p_greatest res.2.2.2.2, wk2 g o1_p o1_p_has o1_has o1_p_firstAt o1_firstAt o1_p_fullAt o1_fullAt o1_p_pressures o1_pressures o1_place o1_fillTicks o1_ticks o1_coolTicks o1_why]) A) ([.ref t_p, .ref o1_p] : List Value).toArray s 0 0 A) (F0 m 15 ls [])) → ∀ (v2 : Int32) (v3 : Int32) (v4 : Int32) (s1 : Int32) (s2 : Int32) (t_teachers : Int32) (t_shortest : Int32) (t_longest : Int32) (t_least : (Nat → Int32)) (t_greatest : (Nat → Int32)) (H : Heap) (locs : List Loc) (ls : Array Slot), f0_learn_54 k_15 N v2 v3 v4 s1 s2 t_teachers t_shortest t_longest t_least t_greatest o1_pressures o1_ticks = some res → va_P g.1 vwCl (fl [wk0 g t_p t_teachers t_shortest t_longest t_p_least t_least t_p_greatest t_greatest, wk2 g o1_p o1_p_has o1_has o1_p_firstAt o1_firstAt o1_p_fullAt o1_fullAt o1_p_pressures o1_pressures o1_place o1_fillTicks o1_ticks o1_coolTicks o1_why]) H → va_D A (fl [wk0 g t_p t_teachers t_shortest t_longest t_p_least t_least t_p_greatest t_greatest, wk2 g o1_p o1_p_has o1_has o1_p_firstAt o1_firstAt o1_p_fullAt o1_fullAt o1_p_pressures o1_pressures o1_place o1_fillTicks o1_ticks o1_coolTicks o1_why]) → va_S A s.heap H locs → lv_has ls 5 [(0, .ref t_p), (1, .ref o1_p), (2, .int v2), (3, .int v3), (4, .int v4)] → W p l e ({ frames := 1, cells := 0, slots := 0, locals := 21 }) s m ([.ref t_p, .ref o1_p] : List Value).toArray below meth c H locs 0 0 (MQ below (pQv g (fl [wk0 g t_p res.1 res.2.1 res.2.2.1 t_p_least res.2.2.2.1 t_p_greatest res.2.2.2.2, wk2 g o1_p o1_p_has o1_has o1_p_firstAt o1_firstAt o1_p_fullAt o1_fullAt o1_p_pressures o1_pressures o1_place o1_fillTicks o1_ticks o1_coolTicks o1_why]) A) ([.ref t_p, .ref o1_p] : List Value).toArray s 0 0 A) (F0 m 54 ls [.int s2, .int s1, .ref t_p_least]) := by
    intro k_15 hk_15 v2 v3 v4 s1 s2 t_teachers t_shortest t_longest t_least t_greatest H locs ls hf hP hD hS hl
    rw [f0_learn_54] at hf
    obtain ⟨h_7, hf⟩ := if_some hf
    refine va_iast hx hb hK.1 hP hD hS 1 0 rfl rfl (ok_in h_7) dX0_learn_54 (fun H locs hP hD hS => ?_)
    replace hP : va_P g.1 vwCl (fl [wk0 g t_p t_teachers t_shortest t_longest t_p_least (upd t_least (Int32.toNatClampNeg s1) s2) t_p_greatest t_greatest, wk2 g o1_p o1_p_has o1_has o1_p_firstAt o1_firstAt o1_p_fullAt o1_fullAt o1_p_pressures o1_pressures o1_place o1_fillTicks o1_ticks o1_coolTicks o1_why]) H := hP
    replace hD : va_D A (fl [wk0 g t_p t_teachers t_shortest t_longest t_p_least (upd t_least (Int32.toNatClampNeg s1) s2) t_p_greatest t_greatest, wk2 g o1_p o1_p_has o1_has o1_p_firstAt o1_firstAt o1_p_fullAt o1_fullAt o1_p_pressures o1_pressures o1_place o1_fillTicks o1_ticks o1_coolTicks o1_why]) := hD
    refine lv_aload_n hx hb dX0_learn_55 rfl (lv_at hl 0 rfl) ?_
    refine va_get (D := g.1) (ci := 0) (v := .ref t_p_greatest) (C := RX0) (T := TX0) (N := 5) hx hb hts hin0 hown hK.1 hP 0 rfl rfl 4 (by decide) L13 (fun _ h9 => h9) rfl dX0_learn_56 ?_
    refine lv_iload_n hx hb dX0_learn_59 rfl (lv_at hl 3 rfl) ?_
    refine lv_iload_n hx hb dX0_learn_60 rfl (lv_at hl 2 rfl) ?_
    refine lv_if_eq (tgt := 69) hx hb dX0_learn_61 (by decide) (fun c_8 => ?_) (fun c_8 => ?_)
    · replace hf := (if_pos c_8).symm.trans hf
      refine lv_aload_n hx hb dX0_learn_69 rfl (lv_at hl 0 rfl) ?_
      refine va_get (D := g.1) (ci := 0) (v := .ref t_p_greatest) (C := RX0) (T := TX0) (N := 5) hx hb hts hin0 hown hK.1 hP 0 rfl rfl 4 (by decide) L13 (fun _ h9 => h9) rfl dX0_learn_70 ?_
      refine lv_iload_n hx hb dX0_learn_73 rfl (lv_at hl 3 rfl) ?_
      obtain ⟨h_9, hf⟩ := if_some hf
      refine va_iald hx hb hK.1 hP 2 0 rfl rfl (ok_in h_9) dX0_learn_74 ?_
      refine lv_iload hx hb dX0_learn_75 (lv_at hl 4 rfl) ?_
      refine va_mmax hx hb (hml.trans hl.1.symm) hown L9 L10 L11 L12 (Nat.le_of_ble_eq_true rfl) (Nat.le_of_ble_eq_true rfl) (Nat.zero_le _) (Nat.zero_le _) dX0_learn_77 ?_
      exact w_80 k_15 hk_15 v2 v3 v3 (if (t_greatest (Int32.toNatClampNeg v3)) < v4 then v4 else t_greatest (Int32.toNatClampNeg v3)) t_teachers t_shortest t_longest (upd t_least (Int32.toNatClampNeg s1) s2) t_greatest H locs ls hf hP hD hS (lv_sub hl [0, 1, 2, 3] rfl)
    · replace hf := (if_neg c_8).symm.trans hf
      refine lv_iload hx hb dX0_learn_64 (lv_at hl 4 rfl) ?_
      refine lv_goto (tgt := 80) hx hb dX0_learn_66 (by decide) ?_
      exact w_80 k_15 hk_15 v2 v3 v3 v4 t_teachers t_shortest t_longest (upd t_least (Int32.toNatClampNeg s1) s2) t_greatest H locs ls hf hP hD hS (lv_sub hl [0, 1, 2, 3] rfl)
  have w_110 : ∀ (s1 : Int32) (t_teachers : Int32) (t_shortest : Int32) (t_longest : Int32) (t_least : (Nat → Int32)) (t_greatest : (Nat → Int32)) (H : Heap) (locs : List Loc) (ls : Array Slot), f0_learn_110  N s1 t_teachers t_longest t_least t_greatest o1_ticks = some res → va_P g.1 vwCl (fl [wk0 g t_p t_teachers t_shortest t_longest t_p_least t_least t_p_greatest t_greatest, wk2 g o1_p o1_p_has o1_has o1_p_firstAt o1_firstAt o1_p_fullAt o1_fullAt o1_p_pressures o1_pressures o1_place o1_fillTicks o1_ticks o1_coolTicks o1_why]) H → va_D A (fl [wk0 g t_p t_teachers t_shortest t_longest t_p_least t_least t_p_greatest t_greatest, wk2 g o1_p o1_p_has o1_has o1_p_firstAt o1_firstAt o1_p_fullAt o1_fullAt o1_p_pressures o1_pressures o1_place o1_fillTicks o1_ticks o1_coolTicks o1_why]) → va_S A s.heap H locs → lv_has ls 5 [(0, .ref t_p), (1, .ref o1_p)] → W p l e ({ frames := 1, cells := 0, slots := 0, locals := 21 }) s m ([.ref t_p, .ref o1_p] : List Value).toArray below meth c H locs 0 0 (MQ below (pQv g (fl [wk0 g t_p res.1 res.2.1 res.2.2.1 t_p_least res.2.2.2.1 t_p_greatest res.2.2.2.2, wk2 g o1_p o1_p_has o1_has o1_p_firstAt o1_firstAt o1_p_fullAt o1_fullAt o1_p_pressures o1_pressures o1_place o1_fillTicks o1_ticks o1_coolTicks o1_why]) A) ([.ref t_p, .ref o1_p] : List Value).toArray s 0 0 A) (F0 m 110 ls [.int s1, .ref t_p]) := by
    intro  s1 t_teachers t_shortest t_longest t_least t_greatest H locs ls hf hP hD hS hl
    rw [f0_learn_110] at hf
    refine va_put (D := g.1) (ci := 0) (v := .int s1) (ty := .int) (C := RX0) (T := TX0) (N := 5) hx hb hts hin0 tyX0 tyX0_ok nmX0 hown hK.1 hP hD hS 0 rfl rfl 1 (by decide) L2 (fun _ h9 => h9) rfl (by decide +kernel) rfl rfl (Nat.le_of_ble_eq_true rfl) dX0_learn_110 (fun H locs hP hD hS => ?_)
    replace hP : va_P g.1 vwCl (fl [wk0 g t_p t_teachers s1 t_longest t_p_least t_least t_p_greatest t_greatest, wk2 g o1_p o1_p_has o1_has o1_p_firstAt o1_firstAt o1_p_fullAt o1_fullAt o1_p_pressures o1_pressures o1_place o1_fillTicks o1_ticks o1_coolTicks o1_why]) H := hP
    replace hD : va_D A (fl [wk0 g t_p t_teachers s1 t_longest t_p_least t_least t_p_greatest t_greatest, wk2 g o1_p o1_p_has o1_has o1_p_firstAt o1_firstAt o1_p_fullAt o1_fullAt o1_p_pressures o1_pressures o1_place o1_fillTicks o1_ticks o1_coolTicks o1_why]) := hD
    refine lv_aload_n hx hb dX0_learn_113 rfl (lv_at hl 0 rfl) ?_
    refine lv_aload_n hx hb dX0_learn_114 rfl (lv_at hl 0 rfl) ?_
    refine va_get (D := g.1) (ci := 0) (v := .int t_longest) (C := RX0) (T := TX0) (N := 5) hx hb hts hin0 hown hK.1 hP 0 rfl rfl 2 (by decide) L8 (fun _ h9 => h9) rfl dX0_learn_115 ?_
    refine lv_aload_n hx hb dX0_learn_118 rfl (lv_at hl 1 rfl) ?_
    refine va_getN (D := g.1) (ci := 2) (v := .int o1_ticks) (C := RX2) (T := TX2) (N := 9) hx hb hts hin2 hown hK.1 hP 3 rfl rfl 6 (by decide) (hK.use _ 28 rfl) (fun _ h9 => h9) rfl dX0_learn_119 ?_
    refine va_mmax hx hb (hml.trans hl.1.symm) hown L9 L10 L11 L12 (Nat.le_of_ble_eq_true rfl) (Nat.le_of_ble_eq_true rfl) (Nat.zero_le _) (Nat.zero_le _) dX0_learn_122 ?_
    refine va_put (D := g.1) (ci := 0) (v := .int (if t_longest < o1_ticks then o1_ticks else t_longest)) (ty := .int) (C := RX0) (T := TX0) (N := 5) hx hb hts hin0 tyX0 tyX0_ok nmX0 hown hK.1 hP hD hS 0 rfl rfl 2 (by decide) L8 (fun _ h9 => h9) rfl (by decide +kernel) rfl rfl (Nat.le_of_ble_eq_true rfl) dX0_learn_125 (fun H locs hP hD hS => ?_)
    replace hP : va_P g.1 vwCl (fl [wk0 g t_p t_teachers s1 (if t_longest < o1_ticks then o1_ticks else t_longest) t_p_least t_least t_p_greatest t_greatest, wk2 g o1_p o1_p_has o1_has o1_p_firstAt o1_firstAt o1_p_fullAt o1_fullAt o1_p_pressures o1_pressures o1_place o1_fillTicks o1_ticks o1_coolTicks o1_why]) H := hP
    replace hD : va_D A (fl [wk0 g t_p t_teachers s1 (if t_longest < o1_ticks then o1_ticks else t_longest) t_p_least t_least t_p_greatest t_greatest, wk2 g o1_p o1_p_has o1_has o1_p_firstAt o1_firstAt o1_p_fullAt o1_fullAt o1_p_pressures o1_pressures o1_place o1_fillTicks o1_ticks o1_coolTicks o1_why]) := hD
    refine lv_aload_n hx hb dX0_learn_128 rfl (lv_at hl 0 rfl) ?_
    refine lv_dup hx hb dX0_learn_129 rfl ?_
    refine va_get (D := g.1) (ci := 0) (v := .int t_teachers) (C := RX0) (T := TX0) (N := 5) hx hb hts hin0 hown hK.1 hP 0 rfl rfl 0 (by decide) L1 (fun _ h9 => h9) rfl dX0_learn_130 ?_
    refine lv_iconst (v := 1) hx hb dX0_learn_133 (by decide) ?_
    refine lv_iadd hx hb dX0_learn_134 ?_
    refine va_put (D := g.1) (ci := 0) (v := .int (t_teachers + 1)) (ty := .int) (C := RX0) (T := TX0) (N := 5) hx hb hts hin0 tyX0 tyX0_ok nmX0 hown hK.1 hP hD hS 0 rfl rfl 0 (by decide) L1 (fun _ h9 => h9) rfl (by decide +kernel) rfl rfl (Nat.le_of_ble_eq_true rfl) dX0_learn_135 (fun H locs hP hD hS => ?_)
    replace hP : va_P g.1 vwCl (fl [wk0 g t_p (t_teachers + 1) s1 (if t_longest < o1_ticks then o1_ticks else t_longest) t_p_least t_least t_p_greatest t_greatest, wk2 g o1_p o1_p_has o1_has o1_p_firstAt o1_firstAt o1_p_fullAt o1_fullAt o1_p_pressures o1_pressures o1_place o1_fillTicks o1_ticks o1_coolTicks o1_why]) H := hP
    replace hD : va_D A (fl [wk0 g t_p (t_teachers + 1) s1 (if t_longest < o1_ticks then o1_ticks else t_longest) t_p_least t_least t_p_greatest t_greatest, wk2 g o1_p o1_p_has o1_has o1_p_firstAt o1_firstAt o1_p_fullAt o1_fullAt o1_p_pressures o1_pressures o1_place o1_fillTicks o1_ticks o1_coolTicks o1_why]) := hD
    replace hf := Option.some.inj hf
    subst hf
    exact W.vret hx hb hr (fun t ht hW => ⟨⟨(), rfl, trivial, by show va_P g.1 vwCl _ t.heap; rw [ht]; exact hP⟩, hS.F ht⟩) hS.2.2 dX0_learn_138 hlocks
  have w_15 : ∀ n : Nat, ∀ (v2 : Int32) (v3 : Int32) (t_teachers : Int32) (t_shortest : Int32) (t_longest : Int32) (t_least : (Nat → Int32)) (t_greatest : (Nat → Int32)) (H : Heap) (locs : List Loc) (ls : Array Slot), f0_learn_15  N n v2 v3 t_teachers t_shortest t_longest t_least t_greatest o1_pressures o1_ticks = some res → va_P g.1 vwCl (fl [wk0 g t_p t_teachers t_shortest t_longest t_p_least t_least t_p_greatest t_greatest, wk2 g o1_p o1_p_has o1_has o1_p_firstAt o1_firstAt o1_p_fullAt o1_fullAt o1_p_pressures o1_pressures o1_place o1_fillTicks o1_ticks o1_coolTicks o1_why]) H → va_D A (fl [wk0 g t_p t_teachers t_shortest t_longest t_p_least t_least t_p_greatest t_greatest, wk2 g o1_p o1_p_has o1_has o1_p_firstAt o1_firstAt o1_p_fullAt o1_fullAt o1_p_pressures o1_pressures o1_place o1_fillTicks o1_ticks o1_coolTicks o1_why]) → va_S A s.heap H locs → lv_has ls 5 [(0, .ref t_p), (1, .ref o1_p), (2, .int v2), (3, .int v3)] → W p l e ({ frames := 1, cells := 0, slots := 0, locals := 21 }) s m ([.ref t_p, .ref o1_p] : List Value).toArray below meth c H locs 0 0 (MQ below (pQv g (fl [wk0 g t_p res.1 res.2.1 res.2.2.1 t_p_least res.2.2.2.1 t_p_greatest res.2.2.2.2, wk2 g o1_p o1_p_has o1_has o1_p_firstAt o1_firstAt o1_p_fullAt o1_fullAt o1_p_pressures o1_pressures o1_place o1_fillTicks o1_ticks o1_coolTicks o1_why]) A) ([.ref t_p, .ref o1_p] : List Value).toArray s 0 0 A) (F0 m 15 ls []) := by
    intro  n
    induction n with
    | zero => intro v2 v3 t_teachers t_shortest t_longest t_least t_greatest H locs ls hf; exact no_some hf
    | succ n ih =>
      intro v2 v3 t_teachers t_shortest t_longest t_least t_greatest H locs ls hf hP hD hS hl
      rw [f0_learn_15] at hf
      refine lv_iload_n hx hb dX0_learn_15 rfl (lv_at hl 3 rfl) ?_
      refine lv_bipush (v := 60) hx hb dX0_learn_16 (by decide) ?_
      refine lv_icmp_ge (tgt := 87) hx hb dX0_learn_18 (by decide) (fun c_2 => ?_) (fun c_2 => ?_)
      · replace hf := (if_pos c_2).symm.trans hf
        refine lv_aload_n hx hb dX0_learn_87 rfl (lv_at hl 0 rfl) ?_
        refine lv_iload_n hx hb dX0_learn_88 rfl (lv_at hl 2 rfl) ?_
        refine lv_if_eq (tgt := 99) hx hb dX0_learn_89 (by decide) (fun c_3 => ?_) (fun c_3 => ?_)
        · replace hf := (if_pos c_3).symm.trans hf
          refine lv_aload_n hx hb dX0_learn_99 rfl (lv_at hl 0 rfl) ?_
          refine va_get (D := g.1) (ci := 0) (v := .int t_shortest) (C := RX0) (T := TX0) (N := 5) hx hb hts hin0 hown hK.1 hP 0 rfl rfl 1 (by decide) L2 (fun _ h9 => h9) rfl dX0_learn_100 ?_
          refine lv_aload_n hx hb dX0_learn_103 rfl (lv_at hl 1 rfl) ?_
          refine va_getN (D := g.1) (ci := 2) (v := .int o1_ticks) (C := RX2) (T := TX2) (N := 9) hx hb hts hin2 hown hK.1 hP 3 rfl rfl 6 (by decide) (hK.use _ 28 rfl) (fun _ h9 => h9) rfl dX0_learn_104 ?_
          refine va_mmin hx hb (hml.trans hl.1.symm) hown L3 L4 L5 L6 (Nat.le_of_ble_eq_true rfl) (Nat.le_of_ble_eq_true rfl) (Nat.zero_le _) (Nat.zero_le _) dX0_learn_107 ?_
          exact w_110  (if o1_ticks < t_shortest then o1_ticks else t_shortest) t_teachers t_shortest t_longest t_least t_greatest H locs ls hf hP hD hS (lv_sub hl [0, 1] rfl)
        · replace hf := (if_neg c_3).symm.trans hf
          refine lv_aload_n hx hb dX0_learn_92 rfl (lv_at hl 1 rfl) ?_
          refine va_getN (D := g.1) (ci := 2) (v := .int o1_ticks) (C := RX2) (T := TX2) (N := 9) hx hb hts hin2 hown hK.1 hP 3 rfl rfl 6 (by decide) (hK.use _ 28 rfl) (fun _ h9 => h9) rfl dX0_learn_93 ?_
          refine lv_goto (tgt := 110) hx hb dX0_learn_96 (by decide) ?_
          exact w_110  o1_ticks t_teachers t_shortest t_longest t_least t_greatest H locs ls hf hP hD hS (lv_sub hl [0, 1] rfl)
      · replace hf := (if_neg c_2).symm.trans hf
        refine lv_aload_n hx hb dX0_learn_21 rfl (lv_at hl 1 rfl) ?_
        refine va_getN (D := g.1) (ci := 2) (v := .ref o1_p_pressures) (C := RX2) (T := TX2) (N := 9) hx hb hts hin2 hown hK.1 hP 3 rfl rfl 3 (by decide) (hK.use _ 27 rfl) (fun _ h9 => h9) rfl dX0_learn_22 ?_
        refine lv_iload_n hx hb dX0_learn_25 rfl (lv_at hl 3 rfl) ?_
        obtain ⟨h_4, hf⟩ := if_some hf
        refine va_iald hx hb hK.1 hP 7 0 rfl rfl (ok_in h_4) dX0_learn_26 ?_
        refine lv_istore (lv' := [(4, .int (o1_pressures (Int32.toNatClampNeg v3))), (0, .ref t_p), (1, .ref o1_p), (2, .int v2), (3, .int v3)]) hx hb dX0_learn_27 hl (by decide) rfl (fun ls hl => ?_)
        refine lv_aload_n hx hb dX0_learn_29 rfl (lv_at hl 1 rfl) ?_
        refine va_get (D := g.1) (ci := 0) (v := .ref t_p_least) (C := RX0) (T := TX0) (N := 5) hx hb hts hin0 hown hK.1 hP 0 rfl rfl 3 (by decide) L7 (fun _ h9 => h9) rfl dX0_learn_30 ?_
        refine lv_iload_n hx hb dX0_learn_33 rfl (lv_at hl 4 rfl) ?_
        refine lv_iload_n hx hb dX0_learn_34 rfl (lv_at hl 3 rfl) ?_
        refine lv_if_eq (tgt := 43) hx hb dX0_learn_35 (by decide) (fun c_5 => ?_) (fun c_5 => ?_)
        · replace hf := (if_pos c_5).symm.trans hf
          refine lv_aload_n hx hb dX0_learn_43 rfl (lv_at hl 1 rfl) ?_
          refine va_get (D := g.1) (ci := 0) (v := .ref t_p_least) (C := RX0) (T := TX0) (N := 5) hx hb hts hin0 hown hK.1 hP 0 rfl rfl 3 (by decide) L7 (fun _ h9 => h9) rfl dX0_learn_44 ?_
          refine lv_iload_n hx hb dX0_learn_47 rfl (lv_at hl 4 rfl) ?_
          obtain ⟨h_6, hf⟩ := if_some hf
          refine va_iald hx hb hK.1 hP 1 0 rfl rfl (ok_in h_6) dX0_learn_48 ?_
          refine lv_iload hx hb dX0_learn_49 (lv_at hl 0 rfl) ?_
          refine va_mmin hx hb (hml.trans hl.1.symm) hown L3 L4 L5 L6 (Nat.le_of_ble_eq_true rfl) (Nat.le_of_ble_eq_true rfl) (Nat.zero_le _) (Nat.zero_le _) dX0_learn_51 ?_
          exact w_54 (fun a0 a1 a2 a3 a4 a5 a6 a7 a8 => f0_learn_15 N n a0 a1 a2 a3 a4 a5 a6 a7 a8) ih v2 v3 (o1_pressures (Int32.toNatClampNeg v3)) v3 (if (o1_pressures (Int32.toNatClampNeg v3)) < (t_least (Int32.toNatClampNeg v3)) then o1_pressures (Int32.toNatClampNeg v3) else t_least (Int32.toNatClampNeg v3)) t_teachers t_shortest t_longest t_least t_greatest H locs ls hf hP hD hS (lv_sub hl [1, 2, 3, 4, 0] rfl)
        · replace hf := (if_neg c_5).symm.trans hf
          refine lv_iload hx hb dX0_learn_38 (lv_at hl 0 rfl) ?_
          refine lv_goto (tgt := 54) hx hb dX0_learn_40 (by decide) ?_
          exact w_54 (fun a0 a1 a2 a3 a4 a5 a6 a7 a8 => f0_learn_15 N n a0 a1 a2 a3 a4 a5 a6 a7 a8) ih v2 v3 (o1_pressures (Int32.toNatClampNeg v3)) v3 (o1_pressures (Int32.toNatClampNeg v3)) t_teachers t_shortest t_longest t_least t_greatest H locs ls hf hP hD hS (lv_sub hl [1, 2, 3, 4, 0] rfl)
  have hl := lv_entry ([.ref t_p, .ref o1_p]) (n := 5) (Nat.le_of_ble_eq_true rfl)
  rw [lg_entry_eq]
  generalize (lg_sl ([.ref t_p, .ref o1_p]) ++ List.replicate (5 - (lg_sl ([.ref t_p, .ref o1_p])).length) Slot.unset).toArray = ls at hl ⊢
  replace hl : lv_has ls 5 [(0, .ref t_p), (1, .ref o1_p)] := hl
  rw [f0_learn] at hf
  have hgo : ∀ (H : Heap) (locs : List Loc), H = s.heap → locs = [] → va_P g.1 vwCl (fl [wk0 g t_p t_teachers t_shortest t_longest t_p_least t_least t_p_greatest t_greatest, wk2 g o1_p o1_p_has o1_has o1_p_firstAt o1_firstAt o1_p_fullAt o1_fullAt o1_p_pressures o1_pressures o1_place o1_fillTicks o1_ticks o1_coolTicks o1_why]) H → va_S A s.heap H locs → W p l e ({ frames := 1, cells := 0, slots := 0, locals := 21 }) s m ([.ref t_p, .ref o1_p] : List Value).toArray below meth c H locs 0 0 (MQ below (pQv g (fl [wk0 g t_p res.1 res.2.1 res.2.2.1 t_p_least res.2.2.2.1 t_p_greatest res.2.2.2.2, wk2 g o1_p o1_p_has o1_has o1_p_firstAt o1_firstAt o1_p_fullAt o1_fullAt o1_p_pressures o1_pressures o1_place o1_fillTicks o1_ticks o1_coolTicks o1_why]) A) ([.ref t_p, .ref o1_p] : List Value).toArray s 0 0 A) (F0 m 0 ls []) := by
    intro H locs hH hL hP hS
    refine lv_aload_n hx hb dX0_learn_0 rfl (lv_at hl 0 rfl) ?_
    refine va_get (D := g.1) (ci := 0) (v := .int t_teachers) (C := RX0) (T := TX0) (N := 5) hx hb hts hin0 hown hK.1 hP 0 rfl rfl 0 (by decide) L1 (fun _ h9 => h9) rfl dX0_learn_1 ?_
    refine lv_if_ne (tgt := 11) hx hb dX0_learn_4 (by decide) (fun c_1 => ?_) (fun c_1 => ?_)
    · replace hf := (if_neg c_1).symm.trans hf
      refine lv_iconst (v := 0) hx hb dX0_learn_11 (by decide) ?_
      refine lv_istore_n (lv' := [(2, .int 0), (0, .ref t_p), (1, .ref o1_p)]) hx hb dX0_learn_12 rfl hl (by decide) rfl (fun ls hl => ?_)
      refine lv_iconst (v := 0) hx hb dX0_learn_13 (by decide) ?_
      refine lv_istore_n (lv' := [(3, .int 0), (2, .int 0), (0, .ref t_p), (1, .ref o1_p)]) hx hb dX0_learn_14 rfl hl (by decide) rfl (fun ls hl => ?_)
      exact w_15  N 0 0 t_teachers t_shortest t_longest t_least t_greatest H locs ls hf hP hD hS (lv_sub hl [2, 3, 1, 0] rfl)
    · replace hf := (if_pos c_1).symm.trans hf
      refine lv_iconst (v := 1) hx hb dX0_learn_7 (by decide) ?_
      refine lv_goto (tgt := 12) hx hb dX0_learn_8 (by decide) ?_
      refine lv_istore_n (lv' := [(2, .int 1), (0, .ref t_p), (1, .ref o1_p)]) hx hb dX0_learn_12 rfl hl (by decide) rfl (fun ls hl => ?_)
      refine lv_iconst (v := 0) hx hb dX0_learn_13 (by decide) ?_
      refine lv_istore_n (lv' := [(3, .int 0), (2, .int 1), (0, .ref t_p), (1, .ref o1_p)]) hx hb dX0_learn_14 rfl hl (by decide) rfl (fun ls hl => ?_)
      exact w_15  N 1 0 t_teachers t_shortest t_longest t_least t_greatest H locs ls hf hP hD hS (lv_sub hl [2, 3, 1, 0] rfl)
  exact hgo s.heap [] rfl rfl hP hS

set_option maxHeartbeats 4000000 in
set_option maxRecDepth 100000 in
theorem c0_amissIn (l : Launch) (g : gG) (t_p : Nat) (t_teachers : Int32) (t_shortest : Int32) (t_longest : Int32) (t_p_least : Nat) (t_least : (Nat → Int32)) (t_p_greatest : Nat) (t_greatest : (Nat → Int32)) (o1_p : Nat) (o1_p_has : Nat) (o1_has : (Nat → Int32)) (o1_p_firstAt : Nat) (o1_firstAt : (Nat → Int32)) (o1_p_fullAt : Nat) (o1_fullAt : (Nat → Int32)) (o1_p_pressures : Nat) (o1_pressures : (Nat → Int32)) (o1_place : Int32) (o1_fillTicks : Int32) (o1_ticks : Int32) (o1_coolTicks : Int32) (o1_why : Int32) (l2 : Int32) (sz : Nat) (N : Nat) (res : (Int32)) (hf : f0_amissIn N l2 t_least t_greatest o1_pressures = some res) : Met l yX0_amissIn wsX0_amissIn ({ frames := 0, cells := 0, slots := 0, locals := 0 }) (pP g [.ref t_p, .ref o1_p, .int l2] sz (fl [wk0 g t_p t_teachers t_shortest t_longest t_p_least t_least t_p_greatest t_greatest, wk2 g o1_p o1_p_has o1_has o1_p_firstAt o1_firstAt o1_p_fullAt o1_fullAt o1_p_pressures o1_pressures o1_place o1_fillTicks o1_ticks o1_coolTicks o1_why])) (pQi g (fun r => r = res) (fl [wk0 g t_p t_teachers t_shortest t_longest t_p_least t_least t_p_greatest t_greatest, wk2 g o1_p o1_p_has o1_has o1_p_firstAt o1_firstAt o1_p_fullAt o1_fullAt o1_p_pressures o1_pressures o1_place o1_fillTicks o1_ticks o1_coolTicks o1_why]) (va_A (fl [wk0 g t_p t_teachers t_shortest t_longest t_p_least t_least t_p_greatest t_greatest, wk2 g o1_p o1_p_has o1_has o1_p_firstAt o1_firstAt o1_p_fullAt o1_fullAt o1_p_pressures o1_pressures o1_place o1_fillTicks o1_ticks o1_coolTicks o1_why]) sz)) 0 0 (va_A (fl [wk0 g t_p t_teachers t_shortest t_longest t_p_least t_least t_p_greatest t_greatest, wk2 g o1_p o1_p_has o1_has o1_p_firstAt o1_firstAt o1_p_fullAt o1_fullAt o1_p_pressures o1_pressures o1_place o1_fillTicks o1_ticks o1_coolTicks o1_why]) sz) := by
  refine Met.ofW (cc := cX0_amissIn) (maxL := 6) (ret := (some .int)) (by decide) rfl ?_
  intro p e s m args below meth c s₁ B hml hv
  obtain ⟨rfl, hsz, hP, hK, hD0, hG⟩ := hv
  have hx := B.exec
  have hb := B.bytes
  have hr := B.returns
  have hts := atoms_spec (ws := wsX0_amissIn) B.pre
  have hown : s.vm.findClass RX0 = some m.cls := findClass_of_methodNamed B.named
  have hlocks := B.notSynchronized
  subst hsz
  have hD := hD0.self (sz := s.heap.size)
  generalize hAe : va_A (fl [wk0 g t_p t_teachers t_shortest t_longest t_p_least t_least t_p_greatest t_greatest, wk2 g o1_p o1_p_has o1_has o1_p_firstAt o1_firstAt o1_p_fullAt o1_fullAt o1_p_pressures o1_pressures o1_place o1_fillTicks o1_ticks o1_coolTicks o1_why]) s.heap.size = A at hD hG ⊢
  have hA : ∀ q : Nat, s.heap.size ≤ q → A q := fun q h => by rw [← hAe]; exact Or.inr h
  have hS : va_S A s.heap s.heap [] := va_S.rf
  have hin0 : ∀ w ∈ u_ws RX0 TX0 5, w ∈ wsX0_amissIn := by decide +kernel
  have hin2 : ∀ w ∈ u_ws RX2 TX2 9, w ∈ wsX0_amissIn := by decide +kernel
  have L1 := hts (Cond.fieldLink RX0 21 "MouldShots$Band" "least" "[I") (by decide +kernel)
  have L2 := hts (Cond.fieldLink RX0 25 "MouldShots$Band" "greatest" "[I") (by decide +kernel)
  have w_5 : ∀ n : Nat, ∀ (v2 : Int32) (v3 : Int32) (v4 : Int32)  (H : Heap) (locs : List Loc) (ls : Array Slot), f0_amissIn_5  N n v2 v3 v4 t_least t_greatest o1_pressures = some res → va_P g.1 vwCl (fl [wk0 g t_p t_teachers t_shortest t_longest t_p_least t_least t_p_greatest t_greatest, wk2 g o1_p o1_p_has o1_has o1_p_firstAt o1_firstAt o1_p_fullAt o1_fullAt o1_p_pressures o1_pressures o1_place o1_fillTicks o1_ticks o1_coolTicks o1_why]) H → va_D A (fl [wk0 g t_p t_teachers t_shortest t_longest t_p_least t_least t_p_greatest t_greatest, wk2 g o1_p o1_p_has o1_has o1_p_firstAt o1_firstAt o1_p_fullAt o1_fullAt o1_p_pressures o1_pressures o1_place o1_fillTicks o1_ticks o1_coolTicks o1_why]) → va_S A s.heap H locs → lv_has ls 6 [(0, .ref t_p), (1, .ref o1_p), (2, .int v2), (3, .int v3), (4, .int v4)] → W p l e ({ frames := 0, cells := 0, slots := 0, locals := 0 }) s m ([.ref t_p, .ref o1_p, .int l2] : List Value).toArray below meth c H locs 0 0 (MQ below (pQi g (fun r => r = res) (fl [wk0 g t_p t_teachers t_shortest t_longest t_p_least t_least t_p_greatest t_greatest, wk2 g o1_p o1_p_has o1_has o1_p_firstAt o1_firstAt o1_p_fullAt o1_fullAt o1_p_pressures o1_pressures o1_place o1_fillTicks o1_ticks o1_coolTicks o1_why]) A) ([.ref t_p, .ref o1_p, .int l2] : List Value).toArray s 0 0 A) (F0 m 5 ls []) := by
    intro  n
    induction n with
    | zero => intro v2 v3 v4 H locs ls hf; exact no_some hf
    | succ n ih =>
      intro v2 v3 v4 H locs ls hf hP hD hS hl
      rw [f0_amissIn_5] at hf
      refine lv_iload hx hb dX0_amissIn_5 (lv_at hl 4 rfl) ?_
      refine lv_bipush (v := 60) hx hb dX0_amissIn_7 (by decide) ?_
      refine lv_icmp_ge (tgt := 58) hx hb dX0_amissIn_9 (by decide) (fun c_1 => ?_) (fun c_1 => ?_)
      · replace hf := (if_pos c_1).symm.trans hf
        refine lv_iload_n hx hb dX0_amissIn_58 rfl (lv_at hl 3 rfl) ?_
        replace hf := Option.some.inj hf
        subst hf
        exact W.iret (v := v3) hx hb hr (fun t ht hW => ⟨⟨_, (), rfl, rfl, by show va_P g.1 vwCl _ t.heap; rw [ht]; exact hP⟩, hS.F ht⟩) hS.2.2 dX0_amissIn_59 hlocks
      · replace hf := (if_neg c_1).symm.trans hf
        refine lv_aload_n hx hb dX0_amissIn_12 rfl (lv_at hl 1 rfl) ?_
        refine va_getN (D := g.1) (ci := 2) (v := .ref o1_p_pressures) (C := RX2) (T := TX2) (N := 9) hx hb hts hin2 hown hK.1 hP 3 rfl rfl 3 (by decide) (hK.use _ 27 rfl) (fun _ h9 => h9) rfl dX0_amissIn_13 ?_
        refine lv_iload hx hb dX0_amissIn_16 (lv_at hl 4 rfl) ?_
        obtain ⟨h_2, hf⟩ := if_some hf
        refine va_iald hx hb hK.1 hP 7 0 rfl rfl (ok_in h_2) dX0_amissIn_18 ?_
        refine lv_istore (lv' := [(5, .int (o1_pressures (Int32.toNatClampNeg v4))), (0, .ref t_p), (1, .ref o1_p), (2, .int v2), (3, .int v3), (4, .int v4)]) hx hb dX0_amissIn_19 hl (by decide) rfl (fun ls hl => ?_)
        refine lv_iload hx hb dX0_amissIn_21 (lv_at hl 0 rfl) ?_
        refine lv_aload_n hx hb dX0_amissIn_23 rfl (lv_at hl 1 rfl) ?_
        refine va_get (D := g.1) (ci := 0) (v := .ref t_p_least) (C := RX0) (T := TX0) (N := 5) hx hb hts hin0 hown hK.1 hP 0 rfl rfl 3 (by decide) L1 (fun _ h9 => h9) rfl dX0_amissIn_24 ?_
        refine lv_iload hx hb dX0_amissIn_27 (lv_at hl 5 rfl) ?_
        obtain ⟨h_3, hf⟩ := if_some hf
        refine va_iald hx hb hK.1 hP 1 0 rfl rfl (ok_in h_3) dX0_amissIn_29 ?_
        refine lv_iload_n hx hb dX0_amissIn_30 rfl (lv_at hl 3 rfl) ?_
        refine lv_isub hx hb dX0_amissIn_31 ?_
        refine lv_icmp_lt (tgt := 49) hx hb dX0_amissIn_32 (by decide) (fun c_4 => ?_) (fun c_4 => ?_)
        · replace hf := (if_pos c_4).symm.trans hf
          refine lv_iinc (v := v3 + 1) (lv' := [(3, .int (v3 + 1)), (5, .int (o1_pressures (Int32.toNatClampNeg v4))), (0, .ref t_p), (1, .ref o1_p), (2, .int v2), (4, .int v4)]) hx hb dX0_amissIn_49 hl (k := 4) rfl rfl (by decide) rfl (fun ls hl => ?_)
          refine lv_iinc (v := v4 + 1) (lv' := [(4, .int (v4 + 1)), (3, .int (v3 + 1)), (5, .int (o1_pressures (Int32.toNatClampNeg v4))), (0, .ref t_p), (1, .ref o1_p), (2, .int v2)]) hx hb dX0_amissIn_52 hl (k := 5) rfl rfl (by decide) rfl (fun ls hl => ?_)
          refine lv_goto (tgt := 5) hx hb dX0_amissIn_55 (by decide) ?_
          exact ih v2 (v3 + 1) (v4 + 1) H locs ls hf hP hD hS (lv_sub hl [3, 4, 5, 1, 0] rfl)
        · replace hf := (if_neg c_4).symm.trans hf
          refine lv_iload hx hb dX0_amissIn_35 (lv_at hl 0 rfl) ?_
          refine lv_aload_n hx hb dX0_amissIn_37 rfl (lv_at hl 1 rfl) ?_
          refine va_get (D := g.1) (ci := 0) (v := .ref t_p_greatest) (C := RX0) (T := TX0) (N := 5) hx hb hts hin0 hown hK.1 hP 0 rfl rfl 4 (by decide) L2 (fun _ h9 => h9) rfl dX0_amissIn_38 ?_
          refine lv_iload hx hb dX0_amissIn_41 (lv_at hl 5 rfl) ?_
          obtain ⟨h_5, hf⟩ := if_some hf
          refine va_iald hx hb hK.1 hP 2 0 rfl rfl (ok_in h_5) dX0_amissIn_43 ?_
          refine lv_iload_n hx hb dX0_amissIn_44 rfl (lv_at hl 3 rfl) ?_
          refine lv_iadd hx hb dX0_amissIn_45 ?_
          refine lv_icmp_le (tgt := 52) hx hb dX0_amissIn_46 (by decide) (fun c_6 => ?_) (fun c_6 => ?_)
          · replace hf := (if_pos c_6).symm.trans hf
            refine lv_iinc (v := v4 + 1) (lv' := [(4, .int (v4 + 1)), (5, .int (o1_pressures (Int32.toNatClampNeg v4))), (0, .ref t_p), (1, .ref o1_p), (2, .int v2), (3, .int v3)]) hx hb dX0_amissIn_52 hl (k := 5) rfl rfl (by decide) rfl (fun ls hl => ?_)
            refine lv_goto (tgt := 5) hx hb dX0_amissIn_55 (by decide) ?_
            exact ih v2 v3 (v4 + 1) H locs ls hf hP hD hS (lv_sub hl [2, 3, 4, 5, 0] rfl)
          · replace hf := (if_neg c_6).symm.trans hf
            refine lv_iinc (v := v3 + 1) (lv' := [(3, .int (v3 + 1)), (5, .int (o1_pressures (Int32.toNatClampNeg v4))), (0, .ref t_p), (1, .ref o1_p), (2, .int v2), (4, .int v4)]) hx hb dX0_amissIn_49 hl (k := 4) rfl rfl (by decide) rfl (fun ls hl => ?_)
            refine lv_iinc (v := v4 + 1) (lv' := [(4, .int (v4 + 1)), (3, .int (v3 + 1)), (5, .int (o1_pressures (Int32.toNatClampNeg v4))), (0, .ref t_p), (1, .ref o1_p), (2, .int v2)]) hx hb dX0_amissIn_52 hl (k := 5) rfl rfl (by decide) rfl (fun ls hl => ?_)
            refine lv_goto (tgt := 5) hx hb dX0_amissIn_55 (by decide) ?_
            exact ih v2 (v3 + 1) (v4 + 1) H locs ls hf hP hD hS (lv_sub hl [3, 4, 5, 1, 0] rfl)
  have hl := lv_entry ([.ref t_p, .ref o1_p, .int l2]) (n := 6) (Nat.le_of_ble_eq_true rfl)
  rw [lg_entry_eq]
  generalize (lg_sl ([.ref t_p, .ref o1_p, .int l2]) ++ List.replicate (6 - (lg_sl ([.ref t_p, .ref o1_p, .int l2])).length) Slot.unset).toArray = ls at hl ⊢
  replace hl : lv_has ls 6 [(0, .ref t_p), (1, .ref o1_p), (2, .int l2)] := hl
  rw [f0_amissIn] at hf
  have hgo : ∀ (H : Heap) (locs : List Loc), H = s.heap → locs = [] → va_P g.1 vwCl (fl [wk0 g t_p t_teachers t_shortest t_longest t_p_least t_least t_p_greatest t_greatest, wk2 g o1_p o1_p_has o1_has o1_p_firstAt o1_firstAt o1_p_fullAt o1_fullAt o1_p_pressures o1_pressures o1_place o1_fillTicks o1_ticks o1_coolTicks o1_why]) H → va_S A s.heap H locs → W p l e ({ frames := 0, cells := 0, slots := 0, locals := 0 }) s m ([.ref t_p, .ref o1_p, .int l2] : List Value).toArray below meth c H locs 0 0 (MQ below (pQi g (fun r => r = res) (fl [wk0 g t_p t_teachers t_shortest t_longest t_p_least t_least t_p_greatest t_greatest, wk2 g o1_p o1_p_has o1_has o1_p_firstAt o1_firstAt o1_p_fullAt o1_fullAt o1_p_pressures o1_pressures o1_place o1_fillTicks o1_ticks o1_coolTicks o1_why]) A) ([.ref t_p, .ref o1_p, .int l2] : List Value).toArray s 0 0 A) (F0 m 0 ls []) := by
    intro H locs hH hL hP hS
    refine lv_iconst (v := 0) hx hb dX0_amissIn_0 (by decide) ?_
    refine lv_istore_n (lv' := [(3, .int 0), (0, .ref t_p), (1, .ref o1_p), (2, .int l2)]) hx hb dX0_amissIn_1 rfl hl (by decide) rfl (fun ls hl => ?_)
    refine lv_iconst (v := 0) hx hb dX0_amissIn_2 (by decide) ?_
    refine lv_istore (lv' := [(4, .int 0), (3, .int 0), (0, .ref t_p), (1, .ref o1_p), (2, .int l2)]) hx hb dX0_amissIn_3 hl (by decide) rfl (fun ls hl => ?_)
    exact w_5  N l2 0 0 H locs ls hf hP hD hS (lv_sub hl [2, 3, 4, 1, 0] rfl)
  exact hgo s.heap [] rfl rfl hP hS

set_option maxHeartbeats 4000000 in
set_option maxRecDepth 100000 in
theorem c0_rejects (l : Launch) (g : gG) (t_p : Nat) (t_teachers : Int32) (t_shortest : Int32) (t_longest : Int32) (t_p_least : Nat) (t_least : (Nat → Int32)) (t_p_greatest : Nat) (t_greatest : (Nat → Int32)) (o1_p : Nat) (o1_p_has : Nat) (o1_has : (Nat → Int32)) (o1_p_firstAt : Nat) (o1_firstAt : (Nat → Int32)) (o1_p_fullAt : Nat) (o1_fullAt : (Nat → Int32)) (o1_p_pressures : Nat) (o1_pressures : (Nat → Int32)) (o1_place : Int32) (o1_fillTicks : Int32) (o1_ticks : Int32) (o1_coolTicks : Int32) (o1_why : Int32) (l2 : Int32) (sz : Nat) (N : Nat) (res : (Int32)) (hf : f0_rejects N l2 t_teachers t_shortest t_longest t_least t_greatest o1_pressures o1_ticks = some res) : Met l yX0_rejects wsX0_rejects ({ frames := 1, cells := 0, slots := 0, locals := 25 }) (pP g [.ref t_p, .ref o1_p, .int l2] sz (fl [wk0 g t_p t_teachers t_shortest t_longest t_p_least t_least t_p_greatest t_greatest, wk2 g o1_p o1_p_has o1_has o1_p_firstAt o1_firstAt o1_p_fullAt o1_fullAt o1_p_pressures o1_pressures o1_place o1_fillTicks o1_ticks o1_coolTicks o1_why])) (pQi g (fun r => r = res) (fl [wk0 g t_p t_teachers t_shortest t_longest t_p_least t_least t_p_greatest t_greatest, wk2 g o1_p o1_p_has o1_has o1_p_firstAt o1_firstAt o1_p_fullAt o1_fullAt o1_p_pressures o1_pressures o1_place o1_fillTicks o1_ticks o1_coolTicks o1_why]) (va_A (fl [wk0 g t_p t_teachers t_shortest t_longest t_p_least t_least t_p_greatest t_greatest, wk2 g o1_p o1_p_has o1_has o1_p_firstAt o1_firstAt o1_p_fullAt o1_fullAt o1_p_pressures o1_pressures o1_place o1_fillTicks o1_ticks o1_coolTicks o1_why]) sz)) 0 0 (va_A (fl [wk0 g t_p t_teachers t_shortest t_longest t_p_least t_least t_p_greatest t_greatest, wk2 g o1_p o1_p_has o1_has o1_p_firstAt o1_firstAt o1_p_fullAt o1_fullAt o1_p_pressures o1_pressures o1_place o1_fillTicks o1_ticks o1_coolTicks o1_why]) sz) := by
  refine Met.ofW (cc := cX0_rejects) (maxL := 3) (ret := (some .boolean)) (by decide) rfl ?_
  intro p e s m args below meth c s₁ B hml hv
  obtain ⟨rfl, hsz, hP, hK, hD0, hG⟩ := hv
  have hx := B.exec
  have hb := B.bytes
  have hr := B.returns
  have hts := atoms_spec (ws := wsX0_rejects) B.pre
  have hown : s.vm.findClass RX0 = some m.cls := findClass_of_methodNamed B.named
  have hlocks := B.notSynchronized
  subst hsz
  have hD := hD0.self (sz := s.heap.size)
  generalize hAe : va_A (fl [wk0 g t_p t_teachers t_shortest t_longest t_p_least t_least t_p_greatest t_greatest, wk2 g o1_p o1_p_has o1_has o1_p_firstAt o1_firstAt o1_p_fullAt o1_fullAt o1_p_pressures o1_pressures o1_place o1_fillTicks o1_ticks o1_coolTicks o1_why]) s.heap.size = A at hD hG ⊢
  have hA : ∀ q : Nat, s.heap.size ≤ q → A q := fun q h => by rw [← hAe]; exact Or.inr h
  have hS : va_S A s.heap s.heap [] := va_S.rf
  have hin0 : ∀ w ∈ u_ws RX0 TX0 5, w ∈ wsX0_rejects := by decide +kernel
  have hin2 : ∀ w ∈ u_ws RX2 TX2 9, w ∈ wsX0_rejects := by decide +kernel
  have L1 := hts (Cond.fieldLink RX0 9 "MouldShots$Band" "teachers" "I") (by decide +kernel)
  have L2 := hts (Cond.fieldLink RX0 15 "MouldShots$Band" "shortest" "I") (by decide +kernel)
  have L3 := hts (Cond.fieldLink RX0 18 "MouldShots$Band" "longest" "I") (by decide +kernel)
  have hl := lv_entry ([.ref t_p, .ref o1_p, .int l2]) (n := 3) (Nat.le_of_ble_eq_true rfl)
  rw [lg_entry_eq]
  generalize (lg_sl ([.ref t_p, .ref o1_p, .int l2]) ++ List.replicate (3 - (lg_sl ([.ref t_p, .ref o1_p, .int l2])).length) Slot.unset).toArray = ls at hl ⊢
  replace hl : lv_has ls 3 [(0, .ref t_p), (1, .ref o1_p), (2, .int l2)] := hl
  rw [f0_rejects] at hf
  have hgo : ∀ (H : Heap) (locs : List Loc), H = s.heap → locs = [] → va_P g.1 vwCl (fl [wk0 g t_p t_teachers t_shortest t_longest t_p_least t_least t_p_greatest t_greatest, wk2 g o1_p o1_p_has o1_has o1_p_firstAt o1_firstAt o1_p_fullAt o1_fullAt o1_p_pressures o1_pressures o1_place o1_fillTicks o1_ticks o1_coolTicks o1_why]) H → va_S A s.heap H locs → W p l e ({ frames := 1, cells := 0, slots := 0, locals := 25 }) s m ([.ref t_p, .ref o1_p, .int l2] : List Value).toArray below meth c H locs 0 0 (MQ below (pQi g (fun r => r = res) (fl [wk0 g t_p t_teachers t_shortest t_longest t_p_least t_least t_p_greatest t_greatest, wk2 g o1_p o1_p_has o1_has o1_p_firstAt o1_firstAt o1_p_fullAt o1_fullAt o1_p_pressures o1_pressures o1_place o1_fillTicks o1_ticks o1_coolTicks o1_why]) A) ([.ref t_p, .ref o1_p, .int l2] : List Value).toArray s 0 0 A) (F0 m 0 ls []) := by
    intro H locs hH hL hP hS
    refine lv_aload_n hx hb dX0_rejects_0 rfl (lv_at hl 0 rfl) ?_
    refine va_get (D := g.1) (ci := 0) (v := .int t_teachers) (C := RX0) (T := TX0) (N := 5) hx hb hts hin0 hown hK.1 hP 0 rfl rfl 0 (by decide) L1 (fun _ h9 => h9) rfl dX0_rejects_1 ?_
    refine lv_if_ne (tgt := 9) hx hb dX0_rejects_4 (by decide) (fun c_1 => ?_) (fun c_1 => ?_)
    · replace hf := (if_neg c_1).symm.trans hf
      refine lv_aload_n hx hb dX0_rejects_9 rfl (lv_at hl 0 rfl) ?_
      refine lv_aload_n hx hb dX0_rejects_10 rfl (lv_at hl 1 rfl) ?_
      refine lv_iload_n hx hb dX0_rejects_11 rfl (lv_at hl 2 rfl) ?_
      obtain ⟨q_2, hq_2, hf⟩ := bd_some hf
      refine bft_i (bn := [wk0 g t_p t_teachers t_shortest t_longest t_p_least t_least t_p_greatest t_greatest, wk2 g o1_p o1_p_has o1_has o1_p_firstAt o1_firstAt o1_p_fullAt o1_fullAt o1_p_pressures o1_pressures o1_place o1_fillTicks o1_ticks o1_coolTicks o1_why]) (L := [[t_p, t_p_least, t_p_greatest], [o1_p, o1_p_has, o1_p_firstAt, o1_p_fullAt, o1_p_pressures]]) (va_runV (As := [.ref o1_p, .int l2]) (rest := []) ⟨hx, hb, hml, hown, hts⟩ (c0_amissIn l g t_p t_teachers t_shortest t_longest t_p_least t_least t_p_greatest t_greatest o1_p o1_p_has o1_has o1_p_firstAt o1_firstAt o1_p_fullAt o1_fullAt o1_p_pressures o1_pressures o1_place o1_fillTicks o1_ticks o1_coolTicks o1_why l2 H.size N q_2 hq_2) (cwV 2 hts gX0_rejects_X0_amissIn rfl rfl rfl ⟨rfl, nh0.1, nh0.2, pd_0⟩ ⟨Nat.le_of_ble_eq_true rfl, Nat.le_of_ble_eq_true rfl⟩) (qPV hK hG hP hD hS hA [0, 1] (by decide) rfl (va_recv hK.1 hP (ci := 0) (q0 := 0) rfl rfl)) rfl rfl hl.1 rfl (lv_room (Nat.le_of_ble_eq_true rfl)) dX0_rejects_12 ⟨Nat.zero_le _, Nat.zero_le _⟩) hP hD hS hA [0, 1] rfl rfl rfl rfl (fun r_3 H locs hw hP hD hS => ?_)
      replace hw := hw.symm
      subst hw
      refine lv_iconst (v := 1) hx hb dX0_rejects_15 (by decide) ?_
      refine lv_icmp_gt (tgt := 45) hx hb dX0_rejects_16 (by decide) (fun c_4 => ?_) (fun c_4 => ?_)
      · replace hf := (if_pos c_4).symm.trans hf
        refine lv_iconst (v := 1) hx hb dX0_rejects_45 (by decide) ?_
        refine lv_goto (tgt := 50) hx hb dX0_rejects_46 (by decide) ?_
        replace hf := Option.some.inj hf
        subst hf
        exact W.zret (v := 1) hx hb hr rfl (fun t ht hW => ⟨⟨_, (), rfl, rfl, by show va_P g.1 vwCl _ t.heap; rw [ht]; exact hP⟩, hS.F ht⟩) hS.2.2 dX0_rejects_50 hlocks
      · replace hf := (if_neg c_4).symm.trans hf
        refine lv_aload_n hx hb dX0_rejects_19 rfl (lv_at hl 0 rfl) ?_
        refine va_get (D := g.1) (ci := 0) (v := .int t_shortest) (C := RX0) (T := TX0) (N := 5) hx hb hts hin0 hown hK.1 hP 0 rfl rfl 1 (by decide) L2 (fun _ h9 => h9) rfl dX0_rejects_20 ?_
        refine lv_aload_n hx hb dX0_rejects_23 rfl (lv_at hl 1 rfl) ?_
        refine va_getN (D := g.1) (ci := 2) (v := .int o1_ticks) (C := RX2) (T := TX2) (N := 9) hx hb hts hin2 hown hK.1 hP 3 rfl rfl 6 (by decide) (hK.use _ 28 rfl) (fun _ h9 => h9) rfl dX0_rejects_24 ?_
        refine lv_isub hx hb dX0_rejects_27 ?_
        refine lv_iconst (v := 1) hx hb dX0_rejects_28 (by decide) ?_
        refine lv_icmp_gt (tgt := 45) hx hb dX0_rejects_29 (by decide) (fun c_5 => ?_) (fun c_5 => ?_)
        · replace hf := (if_pos c_5).symm.trans hf
          refine lv_iconst (v := 1) hx hb dX0_rejects_45 (by decide) ?_
          refine lv_goto (tgt := 50) hx hb dX0_rejects_46 (by decide) ?_
          replace hf := Option.some.inj hf
          subst hf
          exact W.zret (v := 1) hx hb hr rfl (fun t ht hW => ⟨⟨_, (), rfl, rfl, by show va_P g.1 vwCl _ t.heap; rw [ht]; exact hP⟩, hS.F ht⟩) hS.2.2 dX0_rejects_50 hlocks
        · replace hf := (if_neg c_5).symm.trans hf
          refine lv_aload_n hx hb dX0_rejects_32 rfl (lv_at hl 1 rfl) ?_
          refine va_getN (D := g.1) (ci := 2) (v := .int o1_ticks) (C := RX2) (T := TX2) (N := 9) hx hb hts hin2 hown hK.1 hP 3 rfl rfl 6 (by decide) (hK.use _ 28 rfl) (fun _ h9 => h9) rfl dX0_rejects_33 ?_
          refine lv_aload_n hx hb dX0_rejects_36 rfl (lv_at hl 0 rfl) ?_
          refine va_get (D := g.1) (ci := 0) (v := .int t_longest) (C := RX0) (T := TX0) (N := 5) hx hb hts hin0 hown hK.1 hP 0 rfl rfl 2 (by decide) L3 (fun _ h9 => h9) rfl dX0_rejects_37 ?_
          refine lv_isub hx hb dX0_rejects_40 ?_
          refine lv_iconst (v := 1) hx hb dX0_rejects_41 (by decide) ?_
          refine lv_icmp_le (tgt := 49) hx hb dX0_rejects_42 (by decide) (fun c_6 => ?_) (fun c_6 => ?_)
          · replace hf := (if_pos c_6).symm.trans hf
            refine lv_iconst (v := 0) hx hb dX0_rejects_49 (by decide) ?_
            replace hf := Option.some.inj hf
            subst hf
            exact W.zret (v := 0) hx hb hr rfl (fun t ht hW => ⟨⟨_, (), rfl, rfl, by show va_P g.1 vwCl _ t.heap; rw [ht]; exact hP⟩, hS.F ht⟩) hS.2.2 dX0_rejects_50 hlocks
          · replace hf := (if_neg c_6).symm.trans hf
            refine lv_iconst (v := 1) hx hb dX0_rejects_45 (by decide) ?_
            refine lv_goto (tgt := 50) hx hb dX0_rejects_46 (by decide) ?_
            replace hf := Option.some.inj hf
            subst hf
            exact W.zret (v := 1) hx hb hr rfl (fun t ht hW => ⟨⟨_, (), rfl, rfl, by show va_P g.1 vwCl _ t.heap; rw [ht]; exact hP⟩, hS.F ht⟩) hS.2.2 dX0_rejects_50 hlocks
    · replace hf := (if_pos c_1).symm.trans hf
      refine lv_iconst (v := 0) hx hb dX0_rejects_7 (by decide) ?_
      replace hf := Option.some.inj hf
      subst hf
      exact W.zret (v := 0) hx hb hr rfl (fun t ht hW => ⟨⟨_, (), rfl, rfl, by show va_P g.1 vwCl _ t.heap; rw [ht]; exact hP⟩, hS.F ht⟩) hS.2.2 dX0_rejects_8 hlocks
  exact hgo s.heap [] rfl rfl hP hS

set_option maxHeartbeats 4000000 in
set_option maxRecDepth 100000 in
theorem c1_clear (l : Launch) (g : gG) (t_p : Nat) (t_cavities : Int32) (t_p_volumes : Nat) (t_volumes : (Nat → Int32)) (t_p_drags : Nat) (t_drags : (Nat → Int32)) (t_p_freezes : Nat) (t_freezes : (Nat → Int32)) (t_cores : Int32) (t_p_ahead : Nat) (t_ahead : (Nat → Int32)) (t_stages : Int32) (t_p_places : Nat) (t_places : (Nat → Int32)) (t_p_speeds : Nat) (t_speeds : (Nat → Int32)) (t_p_settings : Nat) (t_settings : (Nat → Int32)) (sz : Nat) (N : Nat) (res : (Int32 × Int32 × Int32 × (Nat → Int32))) (hf : f1_clear N t_settings = some res) : Met l yX1_clear wsX1_clear ({ frames := 1, cells := 0, slots := 0, locals := 43 }) (pP g [.ref t_p] sz (fl [wk1 g t_p t_cavities t_p_volumes t_volumes t_p_drags t_drags t_p_freezes t_freezes t_cores t_p_ahead t_ahead t_stages t_p_places t_places t_p_speeds t_speeds t_p_settings t_settings])) (pQv g (fl [wk1 g t_p res.1 t_p_volumes t_volumes t_p_drags t_drags t_p_freezes t_freezes res.2.1 t_p_ahead t_ahead res.2.2.1 t_p_places t_places t_p_speeds t_speeds t_p_settings res.2.2.2]) (va_A (fl [wk1 g t_p t_cavities t_p_volumes t_volumes t_p_drags t_drags t_p_freezes t_freezes t_cores t_p_ahead t_ahead t_stages t_p_places t_places t_p_speeds t_speeds t_p_settings t_settings]) sz)) 0 0 (va_A (fl [wk1 g t_p t_cavities t_p_volumes t_volumes t_p_drags t_drags t_p_freezes t_freezes t_cores t_p_ahead t_ahead t_stages t_p_places t_places t_p_speeds t_speeds t_p_settings t_settings]) sz) := by
  refine Met.ofW (cc := cX1_clear) (maxL := 1) (ret := none) (by decide) rfl ?_
  intro p e s m args below meth c s₁ B hml hv
  obtain ⟨rfl, hsz, hP, hK, hD0, hG⟩ := hv
  have hx := B.exec
  have hb := B.bytes
  have hr := B.returns
  have hts := atoms_spec (ws := wsX1_clear) B.pre
  have hown : s.vm.findClass RX1 = some m.cls := findClass_of_methodNamed B.named
  have hlocks := B.notSynchronized
  subst hsz
  have hD := hD0.self (sz := s.heap.size)
  generalize hAe : va_A (fl [wk1 g t_p t_cavities t_p_volumes t_volumes t_p_drags t_drags t_p_freezes t_freezes t_cores t_p_ahead t_ahead t_stages t_p_places t_places t_p_speeds t_speeds t_p_settings t_settings]) s.heap.size = A at hD hG ⊢
  have hA : ∀ q : Nat, s.heap.size ≤ q → A q := fun q h => by rw [← hAe]; exact Or.inr h
  have hS : va_S A s.heap s.heap [] := va_S.rf
  have hin1 : ∀ w ∈ u_ws RX1 TX1 10, w ∈ wsX1_clear := by decide +kernel
  have L1 := hts (Cond.fieldLink RX1 9 "MouldShots$Plan" "cavities" "I") (by decide +kernel)
  have L2 := hts (Cond.fieldLink RX1 25 "MouldShots$Plan" "cores" "I") (by decide +kernel)
  have L3 := hts (Cond.fieldLink RX1 31 "MouldShots$Plan" "stages" "I") (by decide +kernel)
  have L4 := hts (Cond.fieldLink RX1 40 "MouldShots$Plan" "settings" "[I") (by decide +kernel)
  have L5 := hts (Cond.methodLink RX1 46 arraycopyName) (by decide +kernel)
  have L6 := hts (Cond.native arraycopyName) (by decide +kernel)
  have L7 := hts (Cond.static arraycopyName) (by decide +kernel)
  have L8 := hts (Cond.initialized "java/lang/System") (by decide +kernel)
  have hl := lv_entry ([.ref t_p]) (n := 1) (Nat.le_of_ble_eq_true rfl)
  rw [lg_entry_eq]
  generalize (lg_sl ([.ref t_p]) ++ List.replicate (1 - (lg_sl ([.ref t_p])).length) Slot.unset).toArray = ls at hl ⊢
  replace hl : lv_has ls 1 [(0, .ref t_p)] := hl
  rw [f1_clear] at hf
  have hgo : ∀ (H : Heap) (locs : List Loc), H = s.heap → locs = [] → va_P g.1 vwCl (fl [wk1 g t_p t_cavities t_p_volumes t_volumes t_p_drags t_drags t_p_freezes t_freezes t_cores t_p_ahead t_ahead t_stages t_p_places t_places t_p_speeds t_speeds t_p_settings t_settings]) H → va_S A s.heap H locs → W p l e ({ frames := 1, cells := 0, slots := 0, locals := 43 }) s m ([.ref t_p] : List Value).toArray below meth c H locs 0 0 (MQ below (pQv g (fl [wk1 g t_p res.1 t_p_volumes t_volumes t_p_drags t_drags t_p_freezes t_freezes res.2.1 t_p_ahead t_ahead res.2.2.1 t_p_places t_places t_p_speeds t_speeds t_p_settings res.2.2.2]) A) ([.ref t_p] : List Value).toArray s 0 0 A) (F0 m 0 ls []) := by
    intro H locs hH hL hP hS
    refine lv_aload_n hx hb dX1_clear_0 rfl (lv_at hl 0 rfl) ?_
    refine lv_iconst (v := 0) hx hb dX1_clear_1 (by decide) ?_
    refine va_put (D := g.1) (ci := 1) (v := .int 0) (ty := .int) (C := RX1) (T := TX1) (N := 10) hx hb hts hin1 tyX1 tyX1_ok nmX1 hown hK.1 hP hD hS 0 rfl rfl 0 (by decide) L1 (fun _ h9 => h9) rfl (by decide +kernel) rfl rfl (Nat.le_of_ble_eq_true rfl) dX1_clear_2 (fun H locs hP hD hS => ?_)
    replace hP : va_P g.1 vwCl (fl [wk1 g t_p 0 t_p_volumes t_volumes t_p_drags t_drags t_p_freezes t_freezes t_cores t_p_ahead t_ahead t_stages t_p_places t_places t_p_speeds t_speeds t_p_settings t_settings]) H := hP
    replace hD : va_D A (fl [wk1 g t_p 0 t_p_volumes t_volumes t_p_drags t_drags t_p_freezes t_freezes t_cores t_p_ahead t_ahead t_stages t_p_places t_places t_p_speeds t_speeds t_p_settings t_settings]) := hD
    refine lv_aload_n hx hb dX1_clear_5 rfl (lv_at hl 0 rfl) ?_
    refine lv_iconst (v := 0) hx hb dX1_clear_6 (by decide) ?_
    refine va_put (D := g.1) (ci := 1) (v := .int 0) (ty := .int) (C := RX1) (T := TX1) (N := 10) hx hb hts hin1 tyX1 tyX1_ok nmX1 hown hK.1 hP hD hS 0 rfl rfl 4 (by decide) L2 (fun _ h9 => h9) rfl (by decide +kernel) rfl rfl (Nat.le_of_ble_eq_true rfl) dX1_clear_7 (fun H locs hP hD hS => ?_)
    replace hP : va_P g.1 vwCl (fl [wk1 g t_p 0 t_p_volumes t_volumes t_p_drags t_drags t_p_freezes t_freezes 0 t_p_ahead t_ahead t_stages t_p_places t_places t_p_speeds t_speeds t_p_settings t_settings]) H := hP
    replace hD : va_D A (fl [wk1 g t_p 0 t_p_volumes t_volumes t_p_drags t_drags t_p_freezes t_freezes 0 t_p_ahead t_ahead t_stages t_p_places t_places t_p_speeds t_speeds t_p_settings t_settings]) := hD
    refine lv_aload_n hx hb dX1_clear_10 rfl (lv_at hl 0 rfl) ?_
    refine lv_iconst (v := 0) hx hb dX1_clear_11 (by decide) ?_
    refine va_put (D := g.1) (ci := 1) (v := .int 0) (ty := .int) (C := RX1) (T := TX1) (N := 10) hx hb hts hin1 tyX1 tyX1_ok nmX1 hown hK.1 hP hD hS 0 rfl rfl 6 (by decide) L3 (fun _ h9 => h9) rfl (by decide +kernel) rfl rfl (Nat.le_of_ble_eq_true rfl) dX1_clear_12 (fun H locs hP hD hS => ?_)
    replace hP : va_P g.1 vwCl (fl [wk1 g t_p 0 t_p_volumes t_volumes t_p_drags t_drags t_p_freezes t_freezes 0 t_p_ahead t_ahead 0 t_p_places t_places t_p_speeds t_speeds t_p_settings t_settings]) H := hP
    replace hD : va_D A (fl [wk1 g t_p 0 t_p_volumes t_volumes t_p_drags t_drags t_p_freezes t_freezes 0 t_p_ahead t_ahead 0 t_p_places t_places t_p_speeds t_speeds t_p_settings t_settings]) := hD
    refine va_getsN hx hb (hG 2 _ rfl).1 hS hown (hK.use _ 29 rfl) (fun _ h9 => h9) dX1_clear_15 ?_
    refine lv_iconst (v := 0) hx hb dX1_clear_18 (by decide) ?_
    refine lv_aload_n hx hb dX1_clear_19 rfl (lv_at hl 0 rfl) ?_
    refine va_get (D := g.1) (ci := 1) (v := .ref t_p_settings) (C := RX1) (T := TX1) (N := 10) hx hb hts hin1 hown hK.1 hP 0 rfl rfl 9 (by decide) L4 (fun _ h9 => h9) rfl dX1_clear_20 ?_
    refine lv_iconst (v := 0) hx hb dX1_clear_23 (by decide) ?_
    refine lv_bipush (v := 6) hx hb dX1_clear_24 (by decide) ?_
    refine va_copyx hx hb (hml.trans hl.1.symm) hown L5 L6 L7 L8 hK.1 hP hD hS (hG 2 _ rfl).2.1 (hG 2 _ rfl).2.2.1 (hG 2 _ rfl).2.2.2 7 0 rfl rfl (by decide) (by decide) (by decide) (by decide) (by decide) (Nat.le_of_ble_eq_true rfl) (Nat.le_of_ble_eq_true rfl) dX1_clear_26 (fun H locs hP hD hS => ?_)
    replace hP : va_P g.1 vwCl (fl [wk1 g t_p 0 t_p_volumes t_volumes t_p_drags t_drags t_p_freezes t_freezes 0 t_p_ahead t_ahead 0 t_p_places t_places t_p_speeds t_speeds t_p_settings (va_cpy tabW t_settings (Int32.toNatClampNeg 0) (Int32.toNatClampNeg 0) (Int32.toNatClampNeg 6))]) H := hP
    replace hD : va_D A (fl [wk1 g t_p 0 t_p_volumes t_volumes t_p_drags t_drags t_p_freezes t_freezes 0 t_p_ahead t_ahead 0 t_p_places t_places t_p_speeds t_speeds t_p_settings (va_cpy tabW t_settings (Int32.toNatClampNeg 0) (Int32.toNatClampNeg 0) (Int32.toNatClampNeg 6))]) := hD
    replace hf := Option.some.inj hf
    subst hf
    exact W.vret hx hb hr (fun t ht hW => ⟨⟨(), rfl, trivial, by show va_P g.1 vwCl _ t.heap; rw [ht]; exact hP⟩, hS.F ht⟩) hS.2.2 dX1_clear_29 hlocks
  exact hgo s.heap [] rfl rfl hP hS

set_option maxHeartbeats 4000000 in
set_option maxRecDepth 100000 in
theorem c1_addCavity (l : Launch) (g : gG) (t_p : Nat) (t_cavities : Int32) (t_p_volumes : Nat) (t_volumes : (Nat → Int32)) (t_p_drags : Nat) (t_drags : (Nat → Int32)) (t_p_freezes : Nat) (t_freezes : (Nat → Int32)) (t_cores : Int32) (t_p_ahead : Nat) (t_ahead : (Nat → Int32)) (t_stages : Int32) (t_p_places : Nat) (t_places : (Nat → Int32)) (t_p_speeds : Nat) (t_speeds : (Nat → Int32)) (t_p_settings : Nat) (t_settings : (Nat → Int32)) (l1 : Int32) (l2 : Int32) (l3 : Int32) (sz : Nat) (N : Nat) (res : (Int32 × Int32 × (Nat → Int32) × (Nat → Int32) × (Nat → Int32))) (hf : f1_addCavity N l1 l2 l3 t_cavities t_volumes t_drags t_freezes = some res) : Met l yX1_addCavity wsX1_addCavity ({ frames := 0, cells := 0, slots := 0, locals := 0 }) (pP g [.ref t_p, .int l1, .int l2, .int l3] sz (fl [wk1 g t_p t_cavities t_p_volumes t_volumes t_p_drags t_drags t_p_freezes t_freezes t_cores t_p_ahead t_ahead t_stages t_p_places t_places t_p_speeds t_speeds t_p_settings t_settings])) (pQi g (fun r => r = res.1) (fl [wk1 g t_p res.2.1 t_p_volumes res.2.2.1 t_p_drags res.2.2.2.1 t_p_freezes res.2.2.2.2 t_cores t_p_ahead t_ahead t_stages t_p_places t_places t_p_speeds t_speeds t_p_settings t_settings]) (va_A (fl [wk1 g t_p t_cavities t_p_volumes t_volumes t_p_drags t_drags t_p_freezes t_freezes t_cores t_p_ahead t_ahead t_stages t_p_places t_places t_p_speeds t_speeds t_p_settings t_settings]) sz)) 0 0 (va_A (fl [wk1 g t_p t_cavities t_p_volumes t_volumes t_p_drags t_drags t_p_freezes t_freezes t_cores t_p_ahead t_ahead t_stages t_p_places t_places t_p_speeds t_speeds t_p_settings t_settings]) sz) := by
  refine Met.ofW (cc := cX1_addCavity) (maxL := 4) (ret := (some .boolean)) (by decide) rfl ?_
  intro p e s m args below meth c s₁ B hml hv
  obtain ⟨rfl, hsz, hP, hK, hD0, hG⟩ := hv
  have hx := B.exec
  have hb := B.bytes
  have hr := B.returns
  have hts := atoms_spec (ws := wsX1_addCavity) B.pre
  have hown : s.vm.findClass RX1 = some m.cls := findClass_of_methodNamed B.named
  have hlocks := B.notSynchronized
  subst hsz
  have hD := hD0.self (sz := s.heap.size)
  generalize hAe : va_A (fl [wk1 g t_p t_cavities t_p_volumes t_volumes t_p_drags t_drags t_p_freezes t_freezes t_cores t_p_ahead t_ahead t_stages t_p_places t_places t_p_speeds t_speeds t_p_settings t_settings]) s.heap.size = A at hD hG ⊢
  have hA : ∀ q : Nat, s.heap.size ≤ q → A q := fun q h => by rw [← hAe]; exact Or.inr h
  have hS : va_S A s.heap s.heap [] := va_S.rf
  have hin1 : ∀ w ∈ u_ws RX1 TX1 10, w ∈ wsX1_addCavity := by decide +kernel
  have L1 := hts (Cond.fieldLink RX1 9 "MouldShots$Plan" "cavities" "I") (by decide +kernel)
  have L2 := hts (Cond.fieldLink RX1 15 "MouldShots$Plan" "volumes" "[I") (by decide +kernel)
  have L3 := hts (Cond.fieldLink RX1 19 "MouldShots$Plan" "drags" "[I") (by decide +kernel)
  have L4 := hts (Cond.fieldLink RX1 22 "MouldShots$Plan" "freezes" "[I") (by decide +kernel)
  have hl := lv_entry ([.ref t_p, .int l1, .int l2, .int l3]) (n := 4) (Nat.le_of_ble_eq_true rfl)
  rw [lg_entry_eq]
  generalize (lg_sl ([.ref t_p, .int l1, .int l2, .int l3]) ++ List.replicate (4 - (lg_sl ([.ref t_p, .int l1, .int l2, .int l3])).length) Slot.unset).toArray = ls at hl ⊢
  replace hl : lv_has ls 4 [(0, .ref t_p), (1, .int l1), (2, .int l2), (3, .int l3)] := hl
  rw [f1_addCavity] at hf
  have hgo : ∀ (H : Heap) (locs : List Loc), H = s.heap → locs = [] → va_P g.1 vwCl (fl [wk1 g t_p t_cavities t_p_volumes t_volumes t_p_drags t_drags t_p_freezes t_freezes t_cores t_p_ahead t_ahead t_stages t_p_places t_places t_p_speeds t_speeds t_p_settings t_settings]) H → va_S A s.heap H locs → W p l e ({ frames := 0, cells := 0, slots := 0, locals := 0 }) s m ([.ref t_p, .int l1, .int l2, .int l3] : List Value).toArray below meth c H locs 0 0 (MQ below (pQi g (fun r => r = res.1) (fl [wk1 g t_p res.2.1 t_p_volumes res.2.2.1 t_p_drags res.2.2.2.1 t_p_freezes res.2.2.2.2 t_cores t_p_ahead t_ahead t_stages t_p_places t_places t_p_speeds t_speeds t_p_settings t_settings]) A) ([.ref t_p, .int l1, .int l2, .int l3] : List Value).toArray s 0 0 A) (F0 m 0 ls []) := by
    intro H locs hH hL hP hS
    refine lv_aload_n hx hb dX1_addCavity_0 rfl (lv_at hl 0 rfl) ?_
    refine va_get (D := g.1) (ci := 1) (v := .int t_cavities) (C := RX1) (T := TX1) (N := 10) hx hb hts hin1 hown hK.1 hP 0 rfl rfl 0 (by decide) L1 (fun _ h9 => h9) rfl dX1_addCavity_1 ?_
    refine lv_bipush (v := 6) hx hb dX1_addCavity_4 (by decide) ?_
    refine lv_icmp_ge (tgt := 42) hx hb dX1_addCavity_6 (by decide) (fun c_1 => ?_) (fun c_1 => ?_)
    · replace hf := (if_pos c_1).symm.trans hf
      refine lv_iconst (v := 0) hx hb dX1_addCavity_42 (by decide) ?_
      replace hf := Option.some.inj hf
      subst hf
      exact W.zret (v := 0) hx hb hr rfl (fun t ht hW => ⟨⟨_, (), rfl, rfl, by show va_P g.1 vwCl _ t.heap; rw [ht]; exact hP⟩, hS.F ht⟩) hS.2.2 dX1_addCavity_43 hlocks
    · replace hf := (if_neg c_1).symm.trans hf
      refine lv_iload_n hx hb dX1_addCavity_9 rfl (lv_at hl 1 rfl) ?_
      refine lv_iconst (v := 1) hx hb dX1_addCavity_10 (by decide) ?_
      refine lv_icmp_lt (tgt := 42) hx hb dX1_addCavity_11 (by decide) (fun c_2 => ?_) (fun c_2 => ?_)
      · replace hf := (if_pos c_2).symm.trans hf
        refine lv_iconst (v := 0) hx hb dX1_addCavity_42 (by decide) ?_
        replace hf := Option.some.inj hf
        subst hf
        exact W.zret (v := 0) hx hb hr rfl (fun t ht hW => ⟨⟨_, (), rfl, rfl, by show va_P g.1 vwCl _ t.heap; rw [ht]; exact hP⟩, hS.F ht⟩) hS.2.2 dX1_addCavity_43 hlocks
      · replace hf := (if_neg c_2).symm.trans hf
        refine lv_iload_n hx hb dX1_addCavity_14 rfl (lv_at hl 1 rfl) ?_
        refine lv_bipush (v := 30) hx hb dX1_addCavity_15 (by decide) ?_
        refine lv_icmp_gt (tgt := 42) hx hb dX1_addCavity_17 (by decide) (fun c_3 => ?_) (fun c_3 => ?_)
        · replace hf := (if_pos c_3).symm.trans hf
          refine lv_iconst (v := 0) hx hb dX1_addCavity_42 (by decide) ?_
          replace hf := Option.some.inj hf
          subst hf
          exact W.zret (v := 0) hx hb hr rfl (fun t ht hW => ⟨⟨_, (), rfl, rfl, by show va_P g.1 vwCl _ t.heap; rw [ht]; exact hP⟩, hS.F ht⟩) hS.2.2 dX1_addCavity_43 hlocks
        · replace hf := (if_neg c_3).symm.trans hf
          refine lv_iload_n hx hb dX1_addCavity_20 rfl (lv_at hl 2 rfl) ?_
          refine lv_iconst (v := 1) hx hb dX1_addCavity_21 (by decide) ?_
          refine lv_icmp_lt (tgt := 42) hx hb dX1_addCavity_22 (by decide) (fun c_4 => ?_) (fun c_4 => ?_)
          · replace hf := (if_pos c_4).symm.trans hf
            refine lv_iconst (v := 0) hx hb dX1_addCavity_42 (by decide) ?_
            replace hf := Option.some.inj hf
            subst hf
            exact W.zret (v := 0) hx hb hr rfl (fun t ht hW => ⟨⟨_, (), rfl, rfl, by show va_P g.1 vwCl _ t.heap; rw [ht]; exact hP⟩, hS.F ht⟩) hS.2.2 dX1_addCavity_43 hlocks
          · replace hf := (if_neg c_4).symm.trans hf
            refine lv_iload_n hx hb dX1_addCavity_25 rfl (lv_at hl 2 rfl) ?_
            refine lv_bipush (v := 9) hx hb dX1_addCavity_26 (by decide) ?_
            refine lv_icmp_gt (tgt := 42) hx hb dX1_addCavity_28 (by decide) (fun c_5 => ?_) (fun c_5 => ?_)
            · replace hf := (if_pos c_5).symm.trans hf
              refine lv_iconst (v := 0) hx hb dX1_addCavity_42 (by decide) ?_
              replace hf := Option.some.inj hf
              subst hf
              exact W.zret (v := 0) hx hb hr rfl (fun t ht hW => ⟨⟨_, (), rfl, rfl, by show va_P g.1 vwCl _ t.heap; rw [ht]; exact hP⟩, hS.F ht⟩) hS.2.2 dX1_addCavity_43 hlocks
            · replace hf := (if_neg c_5).symm.trans hf
              refine lv_iload_n hx hb dX1_addCavity_31 rfl (lv_at hl 3 rfl) ?_
              refine lv_iconst (v := 1) hx hb dX1_addCavity_32 (by decide) ?_
              refine lv_icmp_lt (tgt := 42) hx hb dX1_addCavity_33 (by decide) (fun c_6 => ?_) (fun c_6 => ?_)
              · replace hf := (if_pos c_6).symm.trans hf
                refine lv_iconst (v := 0) hx hb dX1_addCavity_42 (by decide) ?_
                replace hf := Option.some.inj hf
                subst hf
                exact W.zret (v := 0) hx hb hr rfl (fun t ht hW => ⟨⟨_, (), rfl, rfl, by show va_P g.1 vwCl _ t.heap; rw [ht]; exact hP⟩, hS.F ht⟩) hS.2.2 dX1_addCavity_43 hlocks
              · replace hf := (if_neg c_6).symm.trans hf
                refine lv_iload_n hx hb dX1_addCavity_36 rfl (lv_at hl 3 rfl) ?_
                refine lv_bipush (v := 9) hx hb dX1_addCavity_37 (by decide) ?_
                refine lv_icmp_le (tgt := 44) hx hb dX1_addCavity_39 (by decide) (fun c_7 => ?_) (fun c_7 => ?_)
                · replace hf := (if_pos c_7).symm.trans hf
                  refine lv_aload_n hx hb dX1_addCavity_44 rfl (lv_at hl 0 rfl) ?_
                  refine va_get (D := g.1) (ci := 1) (v := .ref t_p_volumes) (C := RX1) (T := TX1) (N := 10) hx hb hts hin1 hown hK.1 hP 0 rfl rfl 1 (by decide) L2 (fun _ h9 => h9) rfl dX1_addCavity_45 ?_
                  refine lv_aload_n hx hb dX1_addCavity_48 rfl (lv_at hl 0 rfl) ?_
                  refine va_get (D := g.1) (ci := 1) (v := .int t_cavities) (C := RX1) (T := TX1) (N := 10) hx hb hts hin1 hown hK.1 hP 0 rfl rfl 0 (by decide) L1 (fun _ h9 => h9) rfl dX1_addCavity_49 ?_
                  refine lv_iload_n hx hb dX1_addCavity_52 rfl (lv_at hl 1 rfl) ?_
                  obtain ⟨h_8, hf⟩ := if_some hf
                  refine va_iast hx hb hK.1 hP hD hS 1 0 rfl rfl (ok_in h_8) dX1_addCavity_53 (fun H locs hP hD hS => ?_)
                  replace hP : va_P g.1 vwCl (fl [wk1 g t_p t_cavities t_p_volumes (upd t_volumes (Int32.toNatClampNeg t_cavities) l1) t_p_drags t_drags t_p_freezes t_freezes t_cores t_p_ahead t_ahead t_stages t_p_places t_places t_p_speeds t_speeds t_p_settings t_settings]) H := hP
                  replace hD : va_D A (fl [wk1 g t_p t_cavities t_p_volumes (upd t_volumes (Int32.toNatClampNeg t_cavities) l1) t_p_drags t_drags t_p_freezes t_freezes t_cores t_p_ahead t_ahead t_stages t_p_places t_places t_p_speeds t_speeds t_p_settings t_settings]) := hD
                  refine lv_aload_n hx hb dX1_addCavity_54 rfl (lv_at hl 0 rfl) ?_
                  refine va_get (D := g.1) (ci := 1) (v := .ref t_p_drags) (C := RX1) (T := TX1) (N := 10) hx hb hts hin1 hown hK.1 hP 0 rfl rfl 2 (by decide) L3 (fun _ h9 => h9) rfl dX1_addCavity_55 ?_
                  refine lv_aload_n hx hb dX1_addCavity_58 rfl (lv_at hl 0 rfl) ?_
                  refine va_get (D := g.1) (ci := 1) (v := .int t_cavities) (C := RX1) (T := TX1) (N := 10) hx hb hts hin1 hown hK.1 hP 0 rfl rfl 0 (by decide) L1 (fun _ h9 => h9) rfl dX1_addCavity_59 ?_
                  refine lv_iload_n hx hb dX1_addCavity_62 rfl (lv_at hl 2 rfl) ?_
                  obtain ⟨h_9, hf⟩ := if_some hf
                  refine va_iast hx hb hK.1 hP hD hS 2 0 rfl rfl (ok_in h_9) dX1_addCavity_63 (fun H locs hP hD hS => ?_)
                  replace hP : va_P g.1 vwCl (fl [wk1 g t_p t_cavities t_p_volumes (upd t_volumes (Int32.toNatClampNeg t_cavities) l1) t_p_drags (upd t_drags (Int32.toNatClampNeg t_cavities) l2) t_p_freezes t_freezes t_cores t_p_ahead t_ahead t_stages t_p_places t_places t_p_speeds t_speeds t_p_settings t_settings]) H := hP
                  replace hD : va_D A (fl [wk1 g t_p t_cavities t_p_volumes (upd t_volumes (Int32.toNatClampNeg t_cavities) l1) t_p_drags (upd t_drags (Int32.toNatClampNeg t_cavities) l2) t_p_freezes t_freezes t_cores t_p_ahead t_ahead t_stages t_p_places t_places t_p_speeds t_speeds t_p_settings t_settings]) := hD
                  refine lv_aload_n hx hb dX1_addCavity_64 rfl (lv_at hl 0 rfl) ?_
                  refine va_get (D := g.1) (ci := 1) (v := .ref t_p_freezes) (C := RX1) (T := TX1) (N := 10) hx hb hts hin1 hown hK.1 hP 0 rfl rfl 3 (by decide) L4 (fun _ h9 => h9) rfl dX1_addCavity_65 ?_
                  refine lv_aload_n hx hb dX1_addCavity_68 rfl (lv_at hl 0 rfl) ?_
                  refine va_get (D := g.1) (ci := 1) (v := .int t_cavities) (C := RX1) (T := TX1) (N := 10) hx hb hts hin1 hown hK.1 hP 0 rfl rfl 0 (by decide) L1 (fun _ h9 => h9) rfl dX1_addCavity_69 ?_
                  refine lv_iload_n hx hb dX1_addCavity_72 rfl (lv_at hl 3 rfl) ?_
                  obtain ⟨h_10, hf⟩ := if_some hf
                  refine va_iast hx hb hK.1 hP hD hS 3 0 rfl rfl (ok_in h_10) dX1_addCavity_73 (fun H locs hP hD hS => ?_)
                  replace hP : va_P g.1 vwCl (fl [wk1 g t_p t_cavities t_p_volumes (upd t_volumes (Int32.toNatClampNeg t_cavities) l1) t_p_drags (upd t_drags (Int32.toNatClampNeg t_cavities) l2) t_p_freezes (upd t_freezes (Int32.toNatClampNeg t_cavities) l3) t_cores t_p_ahead t_ahead t_stages t_p_places t_places t_p_speeds t_speeds t_p_settings t_settings]) H := hP
                  replace hD : va_D A (fl [wk1 g t_p t_cavities t_p_volumes (upd t_volumes (Int32.toNatClampNeg t_cavities) l1) t_p_drags (upd t_drags (Int32.toNatClampNeg t_cavities) l2) t_p_freezes (upd t_freezes (Int32.toNatClampNeg t_cavities) l3) t_cores t_p_ahead t_ahead t_stages t_p_places t_places t_p_speeds t_speeds t_p_settings t_settings]) := hD
                  refine lv_aload_n hx hb dX1_addCavity_74 rfl (lv_at hl 0 rfl) ?_
                  refine lv_dup hx hb dX1_addCavity_75 rfl ?_
                  refine va_get (D := g.1) (ci := 1) (v := .int t_cavities) (C := RX1) (T := TX1) (N := 10) hx hb hts hin1 hown hK.1 hP 0 rfl rfl 0 (by decide) L1 (fun _ h9 => h9) rfl dX1_addCavity_76 ?_
                  refine lv_iconst (v := 1) hx hb dX1_addCavity_79 (by decide) ?_
                  refine lv_iadd hx hb dX1_addCavity_80 ?_
                  refine va_put (D := g.1) (ci := 1) (v := .int (t_cavities + 1)) (ty := .int) (C := RX1) (T := TX1) (N := 10) hx hb hts hin1 tyX1 tyX1_ok nmX1 hown hK.1 hP hD hS 0 rfl rfl 0 (by decide) L1 (fun _ h9 => h9) rfl (by decide +kernel) rfl rfl (Nat.le_of_ble_eq_true rfl) dX1_addCavity_81 (fun H locs hP hD hS => ?_)
                  replace hP : va_P g.1 vwCl (fl [wk1 g t_p (t_cavities + 1) t_p_volumes (upd t_volumes (Int32.toNatClampNeg t_cavities) l1) t_p_drags (upd t_drags (Int32.toNatClampNeg t_cavities) l2) t_p_freezes (upd t_freezes (Int32.toNatClampNeg t_cavities) l3) t_cores t_p_ahead t_ahead t_stages t_p_places t_places t_p_speeds t_speeds t_p_settings t_settings]) H := hP
                  replace hD : va_D A (fl [wk1 g t_p (t_cavities + 1) t_p_volumes (upd t_volumes (Int32.toNatClampNeg t_cavities) l1) t_p_drags (upd t_drags (Int32.toNatClampNeg t_cavities) l2) t_p_freezes (upd t_freezes (Int32.toNatClampNeg t_cavities) l3) t_cores t_p_ahead t_ahead t_stages t_p_places t_places t_p_speeds t_speeds t_p_settings t_settings]) := hD
                  refine lv_iconst (v := 1) hx hb dX1_addCavity_84 (by decide) ?_
                  replace hf := Option.some.inj hf
                  subst hf
                  exact W.zret (v := 1) hx hb hr rfl (fun t ht hW => ⟨⟨_, (), rfl, rfl, by show va_P g.1 vwCl _ t.heap; rw [ht]; exact hP⟩, hS.F ht⟩) hS.2.2 dX1_addCavity_85 hlocks
                · replace hf := (if_neg c_7).symm.trans hf
                  refine lv_iconst (v := 0) hx hb dX1_addCavity_42 (by decide) ?_
                  replace hf := Option.some.inj hf
                  subst hf
                  exact W.zret (v := 0) hx hb hr rfl (fun t ht hW => ⟨⟨_, (), rfl, rfl, by show va_P g.1 vwCl _ t.heap; rw [ht]; exact hP⟩, hS.F ht⟩) hS.2.2 dX1_addCavity_43 hlocks
  exact hgo s.heap [] rfl rfl hP hS

set_option maxHeartbeats 4000000 in
set_option maxRecDepth 100000 in
theorem c1_addCore (l : Launch) (g : gG) (t_p : Nat) (t_cavities : Int32) (t_p_volumes : Nat) (t_volumes : (Nat → Int32)) (t_p_drags : Nat) (t_drags : (Nat → Int32)) (t_p_freezes : Nat) (t_freezes : (Nat → Int32)) (t_cores : Int32) (t_p_ahead : Nat) (t_ahead : (Nat → Int32)) (t_stages : Int32) (t_p_places : Nat) (t_places : (Nat → Int32)) (t_p_speeds : Nat) (t_speeds : (Nat → Int32)) (t_p_settings : Nat) (t_settings : (Nat → Int32)) (l1 : Int32) (sz : Nat) (N : Nat) (res : (Int32 × Int32 × (Nat → Int32))) (hf : f1_addCore N l1 t_cores t_ahead = some res) : Met l yX1_addCore wsX1_addCore ({ frames := 0, cells := 0, slots := 0, locals := 0 }) (pP g [.ref t_p, .int l1] sz (fl [wk1 g t_p t_cavities t_p_volumes t_volumes t_p_drags t_drags t_p_freezes t_freezes t_cores t_p_ahead t_ahead t_stages t_p_places t_places t_p_speeds t_speeds t_p_settings t_settings])) (pQi g (fun r => r = res.1) (fl [wk1 g t_p t_cavities t_p_volumes t_volumes t_p_drags t_drags t_p_freezes t_freezes res.2.1 t_p_ahead res.2.2 t_stages t_p_places t_places t_p_speeds t_speeds t_p_settings t_settings]) (va_A (fl [wk1 g t_p t_cavities t_p_volumes t_volumes t_p_drags t_drags t_p_freezes t_freezes t_cores t_p_ahead t_ahead t_stages t_p_places t_places t_p_speeds t_speeds t_p_settings t_settings]) sz)) 0 0 (va_A (fl [wk1 g t_p t_cavities t_p_volumes t_volumes t_p_drags t_drags t_p_freezes t_freezes t_cores t_p_ahead t_ahead t_stages t_p_places t_places t_p_speeds t_speeds t_p_settings t_settings]) sz) := by
  refine Met.ofW (cc := cX1_addCore) (maxL := 2) (ret := (some .boolean)) (by decide) rfl ?_
  intro p e s m args below meth c s₁ B hml hv
  obtain ⟨rfl, hsz, hP, hK, hD0, hG⟩ := hv
  have hx := B.exec
  have hb := B.bytes
  have hr := B.returns
  have hts := atoms_spec (ws := wsX1_addCore) B.pre
  have hown : s.vm.findClass RX1 = some m.cls := findClass_of_methodNamed B.named
  have hlocks := B.notSynchronized
  subst hsz
  have hD := hD0.self (sz := s.heap.size)
  generalize hAe : va_A (fl [wk1 g t_p t_cavities t_p_volumes t_volumes t_p_drags t_drags t_p_freezes t_freezes t_cores t_p_ahead t_ahead t_stages t_p_places t_places t_p_speeds t_speeds t_p_settings t_settings]) s.heap.size = A at hD hG ⊢
  have hA : ∀ q : Nat, s.heap.size ≤ q → A q := fun q h => by rw [← hAe]; exact Or.inr h
  have hS : va_S A s.heap s.heap [] := va_S.rf
  have hin1 : ∀ w ∈ u_ws RX1 TX1 10, w ∈ wsX1_addCore := by decide +kernel
  have L1 := hts (Cond.fieldLink RX1 25 "MouldShots$Plan" "cores" "I") (by decide +kernel)
  have L2 := hts (Cond.fieldLink RX1 28 "MouldShots$Plan" "ahead" "[I") (by decide +kernel)
  have w_21 : ∀ (v1 : Int32) (t_cores : Int32) (t_ahead : (Nat → Int32)) (H : Heap) (locs : List Loc) (ls : Array Slot), f1_addCore_21  N v1 t_cores t_ahead = some res → va_P g.1 vwCl (fl [wk1 g t_p t_cavities t_p_volumes t_volumes t_p_drags t_drags t_p_freezes t_freezes t_cores t_p_ahead t_ahead t_stages t_p_places t_places t_p_speeds t_speeds t_p_settings t_settings]) H → va_D A (fl [wk1 g t_p t_cavities t_p_volumes t_volumes t_p_drags t_drags t_p_freezes t_freezes t_cores t_p_ahead t_ahead t_stages t_p_places t_places t_p_speeds t_speeds t_p_settings t_settings]) → va_S A s.heap H locs → lv_has ls 2 [(0, .ref t_p), (1, .int v1)] → W p l e ({ frames := 0, cells := 0, slots := 0, locals := 0 }) s m ([.ref t_p, .int l1] : List Value).toArray below meth c H locs 0 0 (MQ below (pQi g (fun r => r = res.1) (fl [wk1 g t_p t_cavities t_p_volumes t_volumes t_p_drags t_drags t_p_freezes t_freezes res.2.1 t_p_ahead res.2.2 t_stages t_p_places t_places t_p_speeds t_speeds t_p_settings t_settings]) A) ([.ref t_p, .int l1] : List Value).toArray s 0 0 A) (F0 m 21 ls []) := by
    intro  v1 t_cores t_ahead H locs ls hf hP hD hS hl
    rw [f1_addCore_21] at hf
    refine lv_aload_n hx hb dX1_addCore_21 rfl (lv_at hl 0 rfl) ?_
    refine va_get (D := g.1) (ci := 1) (v := .ref t_p_ahead) (C := RX1) (T := TX1) (N := 10) hx hb hts hin1 hown hK.1 hP 0 rfl rfl 5 (by decide) L2 (fun _ h9 => h9) rfl dX1_addCore_22 ?_
    refine lv_aload_n hx hb dX1_addCore_25 rfl (lv_at hl 0 rfl) ?_
    refine va_get (D := g.1) (ci := 1) (v := .int t_cores) (C := RX1) (T := TX1) (N := 10) hx hb hts hin1 hown hK.1 hP 0 rfl rfl 4 (by decide) L1 (fun _ h9 => h9) rfl dX1_addCore_26 ?_
    refine lv_iload_n hx hb dX1_addCore_29 rfl (lv_at hl 1 rfl) ?_
    obtain ⟨h_4, hf⟩ := if_some hf
    refine va_iast hx hb hK.1 hP hD hS 4 0 rfl rfl (ok_in h_4) dX1_addCore_30 (fun H locs hP hD hS => ?_)
    replace hP : va_P g.1 vwCl (fl [wk1 g t_p t_cavities t_p_volumes t_volumes t_p_drags t_drags t_p_freezes t_freezes t_cores t_p_ahead (upd t_ahead (Int32.toNatClampNeg t_cores) v1) t_stages t_p_places t_places t_p_speeds t_speeds t_p_settings t_settings]) H := hP
    replace hD : va_D A (fl [wk1 g t_p t_cavities t_p_volumes t_volumes t_p_drags t_drags t_p_freezes t_freezes t_cores t_p_ahead (upd t_ahead (Int32.toNatClampNeg t_cores) v1) t_stages t_p_places t_places t_p_speeds t_speeds t_p_settings t_settings]) := hD
    refine lv_aload_n hx hb dX1_addCore_31 rfl (lv_at hl 0 rfl) ?_
    refine lv_dup hx hb dX1_addCore_32 rfl ?_
    refine va_get (D := g.1) (ci := 1) (v := .int t_cores) (C := RX1) (T := TX1) (N := 10) hx hb hts hin1 hown hK.1 hP 0 rfl rfl 4 (by decide) L1 (fun _ h9 => h9) rfl dX1_addCore_33 ?_
    refine lv_iconst (v := 1) hx hb dX1_addCore_36 (by decide) ?_
    refine lv_iadd hx hb dX1_addCore_37 ?_
    refine va_put (D := g.1) (ci := 1) (v := .int (t_cores + 1)) (ty := .int) (C := RX1) (T := TX1) (N := 10) hx hb hts hin1 tyX1 tyX1_ok nmX1 hown hK.1 hP hD hS 0 rfl rfl 4 (by decide) L1 (fun _ h9 => h9) rfl (by decide +kernel) rfl rfl (Nat.le_of_ble_eq_true rfl) dX1_addCore_38 (fun H locs hP hD hS => ?_)
    replace hP : va_P g.1 vwCl (fl [wk1 g t_p t_cavities t_p_volumes t_volumes t_p_drags t_drags t_p_freezes t_freezes (t_cores + 1) t_p_ahead (upd t_ahead (Int32.toNatClampNeg t_cores) v1) t_stages t_p_places t_places t_p_speeds t_speeds t_p_settings t_settings]) H := hP
    replace hD : va_D A (fl [wk1 g t_p t_cavities t_p_volumes t_volumes t_p_drags t_drags t_p_freezes t_freezes (t_cores + 1) t_p_ahead (upd t_ahead (Int32.toNatClampNeg t_cores) v1) t_stages t_p_places t_places t_p_speeds t_speeds t_p_settings t_settings]) := hD
    refine lv_iconst (v := 1) hx hb dX1_addCore_41 (by decide) ?_
    replace hf := Option.some.inj hf
    subst hf
    exact W.zret (v := 1) hx hb hr rfl (fun t ht hW => ⟨⟨_, (), rfl, rfl, by show va_P g.1 vwCl _ t.heap; rw [ht]; exact hP⟩, hS.F ht⟩) hS.2.2 dX1_addCore_42 hlocks
  have hl := lv_entry ([.ref t_p, .int l1]) (n := 2) (Nat.le_of_ble_eq_true rfl)
  rw [lg_entry_eq]
  generalize (lg_sl ([.ref t_p, .int l1]) ++ List.replicate (2 - (lg_sl ([.ref t_p, .int l1])).length) Slot.unset).toArray = ls at hl ⊢
  replace hl : lv_has ls 2 [(0, .ref t_p), (1, .int l1)] := hl
  rw [f1_addCore] at hf
  have hgo : ∀ (H : Heap) (locs : List Loc), H = s.heap → locs = [] → va_P g.1 vwCl (fl [wk1 g t_p t_cavities t_p_volumes t_volumes t_p_drags t_drags t_p_freezes t_freezes t_cores t_p_ahead t_ahead t_stages t_p_places t_places t_p_speeds t_speeds t_p_settings t_settings]) H → va_S A s.heap H locs → W p l e ({ frames := 0, cells := 0, slots := 0, locals := 0 }) s m ([.ref t_p, .int l1] : List Value).toArray below meth c H locs 0 0 (MQ below (pQi g (fun r => r = res.1) (fl [wk1 g t_p t_cavities t_p_volumes t_volumes t_p_drags t_drags t_p_freezes t_freezes res.2.1 t_p_ahead res.2.2 t_stages t_p_places t_places t_p_speeds t_speeds t_p_settings t_settings]) A) ([.ref t_p, .int l1] : List Value).toArray s 0 0 A) (F0 m 0 ls []) := by
    intro H locs hH hL hP hS
    refine lv_aload_n hx hb dX1_addCore_0 rfl (lv_at hl 0 rfl) ?_
    refine va_get (D := g.1) (ci := 1) (v := .int t_cores) (C := RX1) (T := TX1) (N := 10) hx hb hts hin1 hown hK.1 hP 0 rfl rfl 4 (by decide) L1 (fun _ h9 => h9) rfl dX1_addCore_1 ?_
    refine lv_iconst (v := 4) hx hb dX1_addCore_4 (by decide) ?_
    refine lv_icmp_ge (tgt := 19) hx hb dX1_addCore_5 (by decide) (fun c_1 => ?_) (fun c_1 => ?_)
    · replace hf := (if_pos c_1).symm.trans hf
      refine lv_iconst (v := 0) hx hb dX1_addCore_19 (by decide) ?_
      replace hf := Option.some.inj hf
      subst hf
      exact W.zret (v := 0) hx hb hr rfl (fun t ht hW => ⟨⟨_, (), rfl, rfl, by show va_P g.1 vwCl _ t.heap; rw [ht]; exact hP⟩, hS.F ht⟩) hS.2.2 dX1_addCore_20 hlocks
    · replace hf := (if_neg c_1).symm.trans hf
      refine lv_iload_n hx hb dX1_addCore_8 rfl (lv_at hl 1 rfl) ?_
      refine lv_iconst (v := 4) hx hb dX1_addCore_9 (by decide) ?_
      refine lv_icmp_lt (tgt := 21) hx hb dX1_addCore_10 (by decide) (fun c_2 => ?_) (fun c_2 => ?_)
      · replace hf := (if_pos c_2).symm.trans hf
        exact w_21  l1 t_cores t_ahead H locs ls hf hP hD hS (lv_sub hl [0, 1] rfl)
      · replace hf := (if_neg c_2).symm.trans hf
        refine lv_iload_n hx hb dX1_addCore_13 rfl (lv_at hl 1 rfl) ?_
        refine lv_bipush (v := 9) hx hb dX1_addCore_14 (by decide) ?_
        refine lv_icmp_eq (tgt := 21) hx hb dX1_addCore_16 (by decide) (fun c_3 => ?_) (fun c_3 => ?_)
        · replace hf := (if_pos c_3).symm.trans hf
          exact w_21  l1 t_cores t_ahead H locs ls hf hP hD hS (lv_sub hl [0, 1] rfl)
        · replace hf := (if_neg c_3).symm.trans hf
          refine lv_iconst (v := 0) hx hb dX1_addCore_19 (by decide) ?_
          replace hf := Option.some.inj hf
          subst hf
          exact W.zret (v := 0) hx hb hr rfl (fun t ht hW => ⟨⟨_, (), rfl, rfl, by show va_P g.1 vwCl _ t.heap; rw [ht]; exact hP⟩, hS.F ht⟩) hS.2.2 dX1_addCore_20 hlocks
  exact hgo s.heap [] rfl rfl hP hS

set_option maxHeartbeats 4000000 in
set_option maxRecDepth 100000 in
theorem c1_addStage (l : Launch) (g : gG) (t_p : Nat) (t_cavities : Int32) (t_p_volumes : Nat) (t_volumes : (Nat → Int32)) (t_p_drags : Nat) (t_drags : (Nat → Int32)) (t_p_freezes : Nat) (t_freezes : (Nat → Int32)) (t_cores : Int32) (t_p_ahead : Nat) (t_ahead : (Nat → Int32)) (t_stages : Int32) (t_p_places : Nat) (t_places : (Nat → Int32)) (t_p_speeds : Nat) (t_speeds : (Nat → Int32)) (t_p_settings : Nat) (t_settings : (Nat → Int32)) (l1 : Int32) (l2 : Int32) (sz : Nat) (N : Nat) (res : (Int32 × Int32 × (Nat → Int32) × (Nat → Int32))) (hf : f1_addStage N l1 l2 t_stages t_places t_speeds = some res) : Met l yX1_addStage wsX1_addStage ({ frames := 0, cells := 0, slots := 0, locals := 0 }) (pP g [.ref t_p, .int l1, .int l2] sz (fl [wk1 g t_p t_cavities t_p_volumes t_volumes t_p_drags t_drags t_p_freezes t_freezes t_cores t_p_ahead t_ahead t_stages t_p_places t_places t_p_speeds t_speeds t_p_settings t_settings])) (pQi g (fun r => r = res.1) (fl [wk1 g t_p t_cavities t_p_volumes t_volumes t_p_drags t_drags t_p_freezes t_freezes t_cores t_p_ahead t_ahead res.2.1 t_p_places res.2.2.1 t_p_speeds res.2.2.2 t_p_settings t_settings]) (va_A (fl [wk1 g t_p t_cavities t_p_volumes t_volumes t_p_drags t_drags t_p_freezes t_freezes t_cores t_p_ahead t_ahead t_stages t_p_places t_places t_p_speeds t_speeds t_p_settings t_settings]) sz)) 0 0 (va_A (fl [wk1 g t_p t_cavities t_p_volumes t_volumes t_p_drags t_drags t_p_freezes t_freezes t_cores t_p_ahead t_ahead t_stages t_p_places t_places t_p_speeds t_speeds t_p_settings t_settings]) sz) := by
  refine Met.ofW (cc := cX1_addStage) (maxL := 4) (ret := (some .boolean)) (by decide) rfl ?_
  intro p e s m args below meth c s₁ B hml hv
  obtain ⟨rfl, hsz, hP, hK, hD0, hG⟩ := hv
  have hx := B.exec
  have hb := B.bytes
  have hr := B.returns
  have hts := atoms_spec (ws := wsX1_addStage) B.pre
  have hown : s.vm.findClass RX1 = some m.cls := findClass_of_methodNamed B.named
  have hlocks := B.notSynchronized
  subst hsz
  have hD := hD0.self (sz := s.heap.size)
  generalize hAe : va_A (fl [wk1 g t_p t_cavities t_p_volumes t_volumes t_p_drags t_drags t_p_freezes t_freezes t_cores t_p_ahead t_ahead t_stages t_p_places t_places t_p_speeds t_speeds t_p_settings t_settings]) s.heap.size = A at hD hG ⊢
  have hA : ∀ q : Nat, s.heap.size ≤ q → A q := fun q h => by rw [← hAe]; exact Or.inr h
  have hS : va_S A s.heap s.heap [] := va_S.rf
  have hin1 : ∀ w ∈ u_ws RX1 TX1 10, w ∈ wsX1_addStage := by decide +kernel
  have L1 := hts (Cond.fieldLink RX1 31 "MouldShots$Plan" "stages" "I") (by decide +kernel)
  have L2 := hts (Cond.fieldLink RX1 34 "MouldShots$Plan" "places" "[I") (by decide +kernel)
  have L3 := hts (Cond.fieldLink RX1 37 "MouldShots$Plan" "speeds" "[I") (by decide +kernel)
  have w_66 : ∀ (v1 : Int32) (v2 : Int32) (s0 : Int32) (t_stages : Int32) (t_places : (Nat → Int32)) (t_speeds : (Nat → Int32)) (H : Heap) (locs : List Loc) (ls : Array Slot), f1_addStage_66  N v1 v2 s0 t_stages t_places t_speeds = some res → va_P g.1 vwCl (fl [wk1 g t_p t_cavities t_p_volumes t_volumes t_p_drags t_drags t_p_freezes t_freezes t_cores t_p_ahead t_ahead t_stages t_p_places t_places t_p_speeds t_speeds t_p_settings t_settings]) H → va_D A (fl [wk1 g t_p t_cavities t_p_volumes t_volumes t_p_drags t_drags t_p_freezes t_freezes t_cores t_p_ahead t_ahead t_stages t_p_places t_places t_p_speeds t_speeds t_p_settings t_settings]) → va_S A s.heap H locs → lv_has ls 4 [(0, .ref t_p), (1, .int v1), (2, .int v2)] → W p l e ({ frames := 0, cells := 0, slots := 0, locals := 0 }) s m ([.ref t_p, .int l1, .int l2] : List Value).toArray below meth c H locs 0 0 (MQ below (pQi g (fun r => r = res.1) (fl [wk1 g t_p t_cavities t_p_volumes t_volumes t_p_drags t_drags t_p_freezes t_freezes t_cores t_p_ahead t_ahead res.2.1 t_p_places res.2.2.1 t_p_speeds res.2.2.2 t_p_settings t_settings]) A) ([.ref t_p, .int l1, .int l2] : List Value).toArray s 0 0 A) (F0 m 66 ls [.int s0]) := by
    intro  v1 v2 s0 t_stages t_places t_speeds H locs ls hf hP hD hS hl
    rw [f1_addStage_66] at hf
    refine lv_istore_n (lv' := [(3, .int s0), (0, .ref t_p), (1, .int v1), (2, .int v2)]) hx hb dX1_addStage_66 rfl hl (by decide) rfl (fun ls hl => ?_)
    refine lv_iload_n hx hb dX1_addStage_67 rfl (lv_at hl 0 rfl) ?_
    refine lv_if_ne (tgt := 73) hx hb dX1_addStage_68 (by decide) (fun c_9 => ?_) (fun c_9 => ?_)
    · replace hf := (if_neg c_9).symm.trans hf
      refine lv_aload_n hx hb dX1_addStage_73 rfl (lv_at hl 1 rfl) ?_
      refine va_get (D := g.1) (ci := 1) (v := .ref t_p_places) (C := RX1) (T := TX1) (N := 10) hx hb hts hin1 hown hK.1 hP 0 rfl rfl 7 (by decide) L2 (fun _ h9 => h9) rfl dX1_addStage_74 ?_
      refine lv_aload_n hx hb dX1_addStage_77 rfl (lv_at hl 1 rfl) ?_
      refine va_get (D := g.1) (ci := 1) (v := .int t_stages) (C := RX1) (T := TX1) (N := 10) hx hb hts hin1 hown hK.1 hP 0 rfl rfl 6 (by decide) L1 (fun _ h9 => h9) rfl dX1_addStage_78 ?_
      refine lv_iload_n hx hb dX1_addStage_81 rfl (lv_at hl 2 rfl) ?_
      obtain ⟨h_10, hf⟩ := if_some hf
      refine va_iast hx hb hK.1 hP hD hS 5 0 rfl rfl (ok_in h_10) dX1_addStage_82 (fun H locs hP hD hS => ?_)
      replace hP : va_P g.1 vwCl (fl [wk1 g t_p t_cavities t_p_volumes t_volumes t_p_drags t_drags t_p_freezes t_freezes t_cores t_p_ahead t_ahead t_stages t_p_places (upd t_places (Int32.toNatClampNeg t_stages) v1) t_p_speeds t_speeds t_p_settings t_settings]) H := hP
      replace hD : va_D A (fl [wk1 g t_p t_cavities t_p_volumes t_volumes t_p_drags t_drags t_p_freezes t_freezes t_cores t_p_ahead t_ahead t_stages t_p_places (upd t_places (Int32.toNatClampNeg t_stages) v1) t_p_speeds t_speeds t_p_settings t_settings]) := hD
      refine lv_aload_n hx hb dX1_addStage_83 rfl (lv_at hl 1 rfl) ?_
      refine va_get (D := g.1) (ci := 1) (v := .ref t_p_speeds) (C := RX1) (T := TX1) (N := 10) hx hb hts hin1 hown hK.1 hP 0 rfl rfl 8 (by decide) L3 (fun _ h9 => h9) rfl dX1_addStage_84 ?_
      refine lv_aload_n hx hb dX1_addStage_87 rfl (lv_at hl 1 rfl) ?_
      refine va_get (D := g.1) (ci := 1) (v := .int t_stages) (C := RX1) (T := TX1) (N := 10) hx hb hts hin1 hown hK.1 hP 0 rfl rfl 6 (by decide) L1 (fun _ h9 => h9) rfl dX1_addStage_88 ?_
      refine lv_iload_n hx hb dX1_addStage_91 rfl (lv_at hl 3 rfl) ?_
      obtain ⟨h_11, hf⟩ := if_some hf
      refine va_iast hx hb hK.1 hP hD hS 6 0 rfl rfl (ok_in h_11) dX1_addStage_92 (fun H locs hP hD hS => ?_)
      replace hP : va_P g.1 vwCl (fl [wk1 g t_p t_cavities t_p_volumes t_volumes t_p_drags t_drags t_p_freezes t_freezes t_cores t_p_ahead t_ahead t_stages t_p_places (upd t_places (Int32.toNatClampNeg t_stages) v1) t_p_speeds (upd t_speeds (Int32.toNatClampNeg t_stages) v2) t_p_settings t_settings]) H := hP
      replace hD : va_D A (fl [wk1 g t_p t_cavities t_p_volumes t_volumes t_p_drags t_drags t_p_freezes t_freezes t_cores t_p_ahead t_ahead t_stages t_p_places (upd t_places (Int32.toNatClampNeg t_stages) v1) t_p_speeds (upd t_speeds (Int32.toNatClampNeg t_stages) v2) t_p_settings t_settings]) := hD
      refine lv_aload_n hx hb dX1_addStage_93 rfl (lv_at hl 1 rfl) ?_
      refine lv_dup hx hb dX1_addStage_94 rfl ?_
      refine va_get (D := g.1) (ci := 1) (v := .int t_stages) (C := RX1) (T := TX1) (N := 10) hx hb hts hin1 hown hK.1 hP 0 rfl rfl 6 (by decide) L1 (fun _ h9 => h9) rfl dX1_addStage_95 ?_
      refine lv_iconst (v := 1) hx hb dX1_addStage_98 (by decide) ?_
      refine lv_iadd hx hb dX1_addStage_99 ?_
      refine va_put (D := g.1) (ci := 1) (v := .int (t_stages + 1)) (ty := .int) (C := RX1) (T := TX1) (N := 10) hx hb hts hin1 tyX1 tyX1_ok nmX1 hown hK.1 hP hD hS 0 rfl rfl 6 (by decide) L1 (fun _ h9 => h9) rfl (by decide +kernel) rfl rfl (Nat.le_of_ble_eq_true rfl) dX1_addStage_100 (fun H locs hP hD hS => ?_)
      replace hP : va_P g.1 vwCl (fl [wk1 g t_p t_cavities t_p_volumes t_volumes t_p_drags t_drags t_p_freezes t_freezes t_cores t_p_ahead t_ahead (t_stages + 1) t_p_places (upd t_places (Int32.toNatClampNeg t_stages) v1) t_p_speeds (upd t_speeds (Int32.toNatClampNeg t_stages) v2) t_p_settings t_settings]) H := hP
      replace hD : va_D A (fl [wk1 g t_p t_cavities t_p_volumes t_volumes t_p_drags t_drags t_p_freezes t_freezes t_cores t_p_ahead t_ahead (t_stages + 1) t_p_places (upd t_places (Int32.toNatClampNeg t_stages) v1) t_p_speeds (upd t_speeds (Int32.toNatClampNeg t_stages) v2) t_p_settings t_settings]) := hD
      refine lv_iconst (v := 1) hx hb dX1_addStage_103 (by decide) ?_
      replace hf := Option.some.inj hf
      subst hf
      exact W.zret (v := 1) hx hb hr rfl (fun t ht hW => ⟨⟨_, (), rfl, rfl, by show va_P g.1 vwCl _ t.heap; rw [ht]; exact hP⟩, hS.F ht⟩) hS.2.2 dX1_addStage_104 hlocks
    · replace hf := (if_pos c_9).symm.trans hf
      refine lv_iconst (v := 0) hx hb dX1_addStage_71 (by decide) ?_
      replace hf := Option.some.inj hf
      subst hf
      exact W.zret (v := 0) hx hb hr rfl (fun t ht hW => ⟨⟨_, (), rfl, rfl, by show va_P g.1 vwCl _ t.heap; rw [ht]; exact hP⟩, hS.F ht⟩) hS.2.2 dX1_addStage_72 hlocks
  have w_65 : ∀ (v1 : Int32) (v2 : Int32) (t_stages : Int32) (t_places : (Nat → Int32)) (t_speeds : (Nat → Int32)) (H : Heap) (locs : List Loc) (ls : Array Slot), f1_addStage_65  N v1 v2 t_stages t_places t_speeds = some res → va_P g.1 vwCl (fl [wk1 g t_p t_cavities t_p_volumes t_volumes t_p_drags t_drags t_p_freezes t_freezes t_cores t_p_ahead t_ahead t_stages t_p_places t_places t_p_speeds t_speeds t_p_settings t_settings]) H → va_D A (fl [wk1 g t_p t_cavities t_p_volumes t_volumes t_p_drags t_drags t_p_freezes t_freezes t_cores t_p_ahead t_ahead t_stages t_p_places t_places t_p_speeds t_speeds t_p_settings t_settings]) → va_S A s.heap H locs → lv_has ls 4 [(0, .ref t_p), (1, .int v1), (2, .int v2)] → W p l e ({ frames := 0, cells := 0, slots := 0, locals := 0 }) s m ([.ref t_p, .int l1, .int l2] : List Value).toArray below meth c H locs 0 0 (MQ below (pQi g (fun r => r = res.1) (fl [wk1 g t_p t_cavities t_p_volumes t_volumes t_p_drags t_drags t_p_freezes t_freezes t_cores t_p_ahead t_ahead res.2.1 t_p_places res.2.2.1 t_p_speeds res.2.2.2 t_p_settings t_settings]) A) ([.ref t_p, .int l1, .int l2] : List Value).toArray s 0 0 A) (F0 m 65 ls []) := by
    intro  v1 v2 t_stages t_places t_speeds H locs ls hf hP hD hS hl
    rw [f1_addStage_65] at hf
    refine lv_iconst (v := 0) hx hb dX1_addStage_65 (by decide) ?_
    exact w_66  v1 v2 0 t_stages t_places t_speeds H locs ls hf hP hD hS (lv_sub hl [0, 1, 2] rfl)
  have hl := lv_entry ([.ref t_p, .int l1, .int l2]) (n := 4) (Nat.le_of_ble_eq_true rfl)
  rw [lg_entry_eq]
  generalize (lg_sl ([.ref t_p, .int l1, .int l2]) ++ List.replicate (4 - (lg_sl ([.ref t_p, .int l1, .int l2])).length) Slot.unset).toArray = ls at hl ⊢
  replace hl : lv_has ls 4 [(0, .ref t_p), (1, .int l1), (2, .int l2)] := hl
  rw [f1_addStage] at hf
  have hgo : ∀ (H : Heap) (locs : List Loc), H = s.heap → locs = [] → va_P g.1 vwCl (fl [wk1 g t_p t_cavities t_p_volumes t_volumes t_p_drags t_drags t_p_freezes t_freezes t_cores t_p_ahead t_ahead t_stages t_p_places t_places t_p_speeds t_speeds t_p_settings t_settings]) H → va_S A s.heap H locs → W p l e ({ frames := 0, cells := 0, slots := 0, locals := 0 }) s m ([.ref t_p, .int l1, .int l2] : List Value).toArray below meth c H locs 0 0 (MQ below (pQi g (fun r => r = res.1) (fl [wk1 g t_p t_cavities t_p_volumes t_volumes t_p_drags t_drags t_p_freezes t_freezes t_cores t_p_ahead t_ahead res.2.1 t_p_places res.2.2.1 t_p_speeds res.2.2.2 t_p_settings t_settings]) A) ([.ref t_p, .int l1, .int l2] : List Value).toArray s 0 0 A) (F0 m 0 ls []) := by
    intro H locs hH hL hP hS
    refine lv_aload_n hx hb dX1_addStage_0 rfl (lv_at hl 0 rfl) ?_
    refine va_get (D := g.1) (ci := 1) (v := .int t_stages) (C := RX1) (T := TX1) (N := 10) hx hb hts hin1 hown hK.1 hP 0 rfl rfl 6 (by decide) L1 (fun _ h9 => h9) rfl dX1_addStage_1 ?_
    refine lv_iconst (v := 4) hx hb dX1_addStage_4 (by decide) ?_
    refine lv_icmp_ge (tgt := 19) hx hb dX1_addStage_5 (by decide) (fun c_1 => ?_) (fun c_1 => ?_)
    · replace hf := (if_pos c_1).symm.trans hf
      refine lv_iconst (v := 0) hx hb dX1_addStage_19 (by decide) ?_
      replace hf := Option.some.inj hf
      subst hf
      exact W.zret (v := 0) hx hb hr rfl (fun t ht hW => ⟨⟨_, (), rfl, rfl, by show va_P g.1 vwCl _ t.heap; rw [ht]; exact hP⟩, hS.F ht⟩) hS.2.2 dX1_addStage_20 hlocks
    · replace hf := (if_neg c_1).symm.trans hf
      refine lv_iload_n hx hb dX1_addStage_8 rfl (lv_at hl 2 rfl) ?_
      refine lv_iconst (v := 1) hx hb dX1_addStage_9 (by decide) ?_
      refine lv_icmp_lt (tgt := 19) hx hb dX1_addStage_10 (by decide) (fun c_2 => ?_) (fun c_2 => ?_)
      · replace hf := (if_pos c_2).symm.trans hf
        refine lv_iconst (v := 0) hx hb dX1_addStage_19 (by decide) ?_
        replace hf := Option.some.inj hf
        subst hf
        exact W.zret (v := 0) hx hb hr rfl (fun t ht hW => ⟨⟨_, (), rfl, rfl, by show va_P g.1 vwCl _ t.heap; rw [ht]; exact hP⟩, hS.F ht⟩) hS.2.2 dX1_addStage_20 hlocks
      · replace hf := (if_neg c_2).symm.trans hf
        refine lv_iload_n hx hb dX1_addStage_13 rfl (lv_at hl 2 rfl) ?_
        refine lv_bipush (v := 9) hx hb dX1_addStage_14 (by decide) ?_
        refine lv_icmp_le (tgt := 21) hx hb dX1_addStage_16 (by decide) (fun c_3 => ?_) (fun c_3 => ?_)
        · replace hf := (if_pos c_3).symm.trans hf
          refine lv_aload_n hx hb dX1_addStage_21 rfl (lv_at hl 0 rfl) ?_
          refine va_get (D := g.1) (ci := 1) (v := .int t_stages) (C := RX1) (T := TX1) (N := 10) hx hb hts hin1 hown hK.1 hP 0 rfl rfl 6 (by decide) L1 (fun _ h9 => h9) rfl dX1_addStage_22 ?_
          refine lv_if_ne (tgt := 40) hx hb dX1_addStage_25 (by decide) (fun c_4 => ?_) (fun c_4 => ?_)
          · replace hf := (if_neg c_4).symm.trans hf
            refine lv_iload_n hx hb dX1_addStage_40 rfl (lv_at hl 1 rfl) ?_
            refine lv_aload_n hx hb dX1_addStage_41 rfl (lv_at hl 0 rfl) ?_
            refine va_get (D := g.1) (ci := 1) (v := .ref t_p_places) (C := RX1) (T := TX1) (N := 10) hx hb hts hin1 hown hK.1 hP 0 rfl rfl 7 (by decide) L2 (fun _ h9 => h9) rfl dX1_addStage_42 ?_
            refine lv_aload_n hx hb dX1_addStage_45 rfl (lv_at hl 0 rfl) ?_
            refine va_get (D := g.1) (ci := 1) (v := .int t_stages) (C := RX1) (T := TX1) (N := 10) hx hb hts hin1 hown hK.1 hP 0 rfl rfl 6 (by decide) L1 (fun _ h9 => h9) rfl dX1_addStage_46 ?_
            refine lv_iconst (v := 1) hx hb dX1_addStage_49 (by decide) ?_
            refine lv_isub hx hb dX1_addStage_50 ?_
            obtain ⟨h_5, hf⟩ := if_some hf
            refine va_iald hx hb hK.1 hP 5 0 rfl rfl (ok_in h_5) dX1_addStage_51 ?_
            refine lv_icmp_le (tgt := 65) hx hb dX1_addStage_52 (by decide) (fun c_6 => ?_) (fun c_6 => ?_)
            · replace hf := (if_pos c_6).symm.trans hf
              exact w_65  l1 l2 t_stages t_places t_speeds H locs ls hf hP hD hS (lv_sub hl [0, 1, 2] rfl)
            · replace hf := (if_neg c_6).symm.trans hf
              refine lv_iload_n hx hb dX1_addStage_55 rfl (lv_at hl 1 rfl) ?_
              refine lv_bipush (v := 98) hx hb dX1_addStage_56 (by decide) ?_
              refine lv_icmp_gt (tgt := 65) hx hb dX1_addStage_58 (by decide) (fun c_7 => ?_) (fun c_7 => ?_)
              · replace hf := (if_pos c_7).symm.trans hf
                exact w_65  l1 l2 t_stages t_places t_speeds H locs ls hf hP hD hS (lv_sub hl [0, 1, 2] rfl)
              · replace hf := (if_neg c_7).symm.trans hf
                refine lv_iconst (v := 1) hx hb dX1_addStage_61 (by decide) ?_
                refine lv_goto (tgt := 66) hx hb dX1_addStage_62 (by decide) ?_
                exact w_66  l1 l2 1 t_stages t_places t_speeds H locs ls hf hP hD hS (lv_sub hl [0, 1, 2] rfl)
          · replace hf := (if_pos c_4).symm.trans hf
            refine lv_iload_n hx hb dX1_addStage_28 rfl (lv_at hl 1 rfl) ?_
            refine lv_if_ne (tgt := 36) hx hb dX1_addStage_29 (by decide) (fun c_8 => ?_) (fun c_8 => ?_)
            · replace hf := (if_neg c_8).symm.trans hf
              refine lv_iconst (v := 0) hx hb dX1_addStage_36 (by decide) ?_
              refine lv_goto (tgt := 66) hx hb dX1_addStage_37 (by decide) ?_
              exact w_66  l1 l2 0 t_stages t_places t_speeds H locs ls hf hP hD hS (lv_sub hl [0, 1, 2] rfl)
            · replace hf := (if_pos c_8).symm.trans hf
              refine lv_iconst (v := 1) hx hb dX1_addStage_32 (by decide) ?_
              refine lv_goto (tgt := 66) hx hb dX1_addStage_33 (by decide) ?_
              exact w_66  l1 l2 1 t_stages t_places t_speeds H locs ls hf hP hD hS (lv_sub hl [0, 1, 2] rfl)
        · replace hf := (if_neg c_3).symm.trans hf
          refine lv_iconst (v := 0) hx hb dX1_addStage_19 (by decide) ?_
          replace hf := Option.some.inj hf
          subst hf
          exact W.zret (v := 0) hx hb hr rfl (fun t ht hW => ⟨⟨_, (), rfl, rfl, by show va_P g.1 vwCl _ t.heap; rw [ht]; exact hP⟩, hS.F ht⟩) hS.2.2 dX1_addStage_20 hlocks
  exact hgo s.heap [] rfl rfl hP hS

set_option maxHeartbeats 4000000 in
set_option maxRecDepth 100000 in
theorem c1_setThree (l : Launch) (g : gG) (t_p : Nat) (t_cavities : Int32) (t_p_volumes : Nat) (t_volumes : (Nat → Int32)) (t_p_drags : Nat) (t_drags : (Nat → Int32)) (t_p_freezes : Nat) (t_freezes : (Nat → Int32)) (t_cores : Int32) (t_p_ahead : Nat) (t_ahead : (Nat → Int32)) (t_stages : Int32) (t_p_places : Nat) (t_places : (Nat → Int32)) (t_p_speeds : Nat) (t_speeds : (Nat → Int32)) (t_p_settings : Nat) (t_settings : (Nat → Int32)) (o1_p : Nat) (o1_v : (Nat → Int32)) (l1 : Int32) (sz : Nat) (N : Nat) (res : (Int32 × (Nat → Int32))) (hf : f1_setThree N l1 t_settings o1_v = some res) : Met l yX1_setThree wsX1_setThree ({ frames := 1, cells := 0, slots := 0, locals := 43 }) (pP g [.ref t_p, .int l1, .ref o1_p] sz (fl [wk1 g t_p t_cavities t_p_volumes t_volumes t_p_drags t_drags t_p_freezes t_freezes t_cores t_p_ahead t_ahead t_stages t_p_places t_places t_p_speeds t_speeds t_p_settings t_settings, wkA g 3 o1_p o1_v])) (pQi g (fun r => r = res.1) (fl [wk1 g t_p t_cavities t_p_volumes t_volumes t_p_drags t_drags t_p_freezes t_freezes t_cores t_p_ahead t_ahead t_stages t_p_places t_places t_p_speeds t_speeds t_p_settings res.2, wkA g 3 o1_p o1_v]) (va_A (fl [wk1 g t_p t_cavities t_p_volumes t_volumes t_p_drags t_drags t_p_freezes t_freezes t_cores t_p_ahead t_ahead t_stages t_p_places t_places t_p_speeds t_speeds t_p_settings t_settings, wkA g 3 o1_p o1_v]) sz)) 0 0 (va_A (fl [wk1 g t_p t_cavities t_p_volumes t_volumes t_p_drags t_drags t_p_freezes t_freezes t_cores t_p_ahead t_ahead t_stages t_p_places t_places t_p_speeds t_speeds t_p_settings t_settings, wkA g 3 o1_p o1_v]) sz) := by
  refine Met.ofW (cc := cX1_setThree) (maxL := 4) (ret := (some .boolean)) (by decide) rfl ?_
  intro p e s m args below meth c s₁ B hml hv
  obtain ⟨rfl, hsz, hP, hK, hD0, hG⟩ := hv
  have hx := B.exec
  have hb := B.bytes
  have hr := B.returns
  have hts := atoms_spec (ws := wsX1_setThree) B.pre
  have hown : s.vm.findClass RX1 = some m.cls := findClass_of_methodNamed B.named
  have hlocks := B.notSynchronized
  subst hsz
  have hD := hD0.self (sz := s.heap.size)
  generalize hAe : va_A (fl [wk1 g t_p t_cavities t_p_volumes t_volumes t_p_drags t_drags t_p_freezes t_freezes t_cores t_p_ahead t_ahead t_stages t_p_places t_places t_p_speeds t_speeds t_p_settings t_settings, wkA g 3 o1_p o1_v]) s.heap.size = A at hD hG ⊢
  have hA : ∀ q : Nat, s.heap.size ≤ q → A q := fun q h => by rw [← hAe]; exact Or.inr h
  have hS : va_S A s.heap s.heap [] := va_S.rf
  have hin1 : ∀ w ∈ u_ws RX1 TX1 10, w ∈ wsX1_setThree := by decide +kernel
  have L1 := hts (Cond.fieldLink RX1 40 "MouldShots$Plan" "settings" "[I") (by decide +kernel)
  have L2 := hts (Cond.methodLink RX1 46 arraycopyName) (by decide +kernel)
  have L3 := hts (Cond.native arraycopyName) (by decide +kernel)
  have L4 := hts (Cond.static arraycopyName) (by decide +kernel)
  have L5 := hts (Cond.initialized "java/lang/System") (by decide +kernel)
  have w_2 : ∀ n : Nat, ∀ (v1 : Int32) (v3 : Int32) (t_settings : (Nat → Int32)) (H : Heap) (locs : List Loc) (ls : Array Slot), f1_setThree_2  N n v1 v3 t_settings o1_v = some res → va_P g.1 vwCl (fl [wk1 g t_p t_cavities t_p_volumes t_volumes t_p_drags t_drags t_p_freezes t_freezes t_cores t_p_ahead t_ahead t_stages t_p_places t_places t_p_speeds t_speeds t_p_settings t_settings, wkA g 3 o1_p o1_v]) H → va_D A (fl [wk1 g t_p t_cavities t_p_volumes t_volumes t_p_drags t_drags t_p_freezes t_freezes t_cores t_p_ahead t_ahead t_stages t_p_places t_places t_p_speeds t_speeds t_p_settings t_settings, wkA g 3 o1_p o1_v]) → va_S A s.heap H locs → lv_has ls 4 [(0, .ref t_p), (1, .int v1), (2, .ref o1_p), (3, .int v3)] → W p l e ({ frames := 1, cells := 0, slots := 0, locals := 43 }) s m ([.ref t_p, .int l1, .ref o1_p] : List Value).toArray below meth c H locs 0 0 (MQ below (pQi g (fun r => r = res.1) (fl [wk1 g t_p t_cavities t_p_volumes t_volumes t_p_drags t_drags t_p_freezes t_freezes t_cores t_p_ahead t_ahead t_stages t_p_places t_places t_p_speeds t_speeds t_p_settings res.2, wkA g 3 o1_p o1_v]) A) ([.ref t_p, .int l1, .ref o1_p] : List Value).toArray s 0 0 A) (F0 m 2 ls []) := by
    intro  n
    induction n with
    | zero => intro v1 v3 t_settings H locs ls hf; exact no_some hf
    | succ n ih =>
      intro v1 v3 t_settings H locs ls hf hP hD hS hl
      rw [f1_setThree_2] at hf
      refine lv_iload_n hx hb dX1_setThree_2 rfl (lv_at hl 3 rfl) ?_
      refine lv_iconst (v := 3) hx hb dX1_setThree_3 (by decide) ?_
      refine lv_icmp_ge (tgt := 41) hx hb dX1_setThree_4 (by decide) (fun c_1 => ?_) (fun c_1 => ?_)
      · replace hf := (if_pos c_1).symm.trans hf
        refine lv_aload_n hx hb dX1_setThree_41 rfl (lv_at hl 2 rfl) ?_
        refine lv_iconst (v := 0) hx hb dX1_setThree_42 (by decide) ?_
        refine lv_aload_n hx hb dX1_setThree_43 rfl (lv_at hl 0 rfl) ?_
        refine va_get (D := g.1) (ci := 1) (v := .ref t_p_settings) (C := RX1) (T := TX1) (N := 10) hx hb hts hin1 hown hK.1 hP 0 rfl rfl 9 (by decide) L1 (fun _ h9 => h9) rfl dX1_setThree_44 ?_
        refine lv_iload_n hx hb dX1_setThree_47 rfl (lv_at hl 1 rfl) ?_
        refine lv_iconst (v := 3) hx hb dX1_setThree_48 (by decide) ?_
        obtain ⟨h_2, hf⟩ := if_some hf
        refine va_copyi (ty := .int) hx hb (hml.trans hl.1.symm) hown L2 L3 L4 L5 hK.1 hP hD hS 8 7 0 0 rfl rfl rfl rfl rfl (by decide) (ok_nn h_2) (by decide) (by decide) (ok_le h_2) (fun _ _ => rfl) (Nat.le_of_ble_eq_true rfl) (Nat.le_of_ble_eq_true rfl) dX1_setThree_49 (fun H locs hP hD hS => ?_)
        replace hP : va_P g.1 vwCl (fl [wk1 g t_p t_cavities t_p_volumes t_volumes t_p_drags t_drags t_p_freezes t_freezes t_cores t_p_ahead t_ahead t_stages t_p_places t_places t_p_speeds t_speeds t_p_settings (va_cpy o1_v t_settings (Int32.toNatClampNeg 0) (Int32.toNatClampNeg v1) (Int32.toNatClampNeg 3)), wkA g 3 o1_p o1_v]) H := hP
        replace hD : va_D A (fl [wk1 g t_p t_cavities t_p_volumes t_volumes t_p_drags t_drags t_p_freezes t_freezes t_cores t_p_ahead t_ahead t_stages t_p_places t_places t_p_speeds t_speeds t_p_settings (va_cpy o1_v t_settings (Int32.toNatClampNeg 0) (Int32.toNatClampNeg v1) (Int32.toNatClampNeg 3)), wkA g 3 o1_p o1_v]) := hD
        refine lv_iconst (v := 1) hx hb dX1_setThree_52 (by decide) ?_
        replace hf := Option.some.inj hf
        subst hf
        exact W.zret (v := 1) hx hb hr rfl (fun t ht hW => ⟨⟨_, (), rfl, rfl, by show va_P g.1 vwCl _ t.heap; rw [ht]; exact hP⟩, hS.F ht⟩) hS.2.2 dX1_setThree_53 hlocks
      · replace hf := (if_neg c_1).symm.trans hf
        refine lv_aload_n hx hb dX1_setThree_7 rfl (lv_at hl 2 rfl) ?_
        refine lv_iload_n hx hb dX1_setThree_8 rfl (lv_at hl 3 rfl) ?_
        obtain ⟨h_3, hf⟩ := if_some hf
        refine va_iald hx hb hK.1 hP 8 0 rfl rfl (ok_in h_3) dX1_setThree_9 ?_
        refine va_getsN hx hb (hG 0 _ rfl).1 hS hown (hK.use _ 30 rfl) (fun _ h9 => h9) dX1_setThree_10 ?_
        refine lv_iload_n hx hb dX1_setThree_13 rfl (lv_at hl 1 rfl) ?_
        refine lv_iload_n hx hb dX1_setThree_14 rfl (lv_at hl 3 rfl) ?_
        refine lv_iadd hx hb dX1_setThree_15 ?_
        obtain ⟨h_4, hf⟩ := if_some hf
        refine va_sld hx hb (hG 0 _ rfl).2.1 (hG 0 _ rfl).2.2.1 (hG 0 _ rfl).2.2.2 hS (ok_in h_4) dX1_setThree_16 ?_
        refine lv_icmp_lt (tgt := 33) hx hb dX1_setThree_17 (by decide) (fun c_5 => ?_) (fun c_5 => ?_)
        · replace hf := (if_pos c_5).symm.trans hf
          refine lv_iconst (v := 0) hx hb dX1_setThree_33 (by decide) ?_
          replace hf := Option.some.inj hf
          subst hf
          exact W.zret (v := 0) hx hb hr rfl (fun t ht hW => ⟨⟨_, (), rfl, rfl, by show va_P g.1 vwCl _ t.heap; rw [ht]; exact hP⟩, hS.F ht⟩) hS.2.2 dX1_setThree_34 hlocks
        · replace hf := (if_neg c_5).symm.trans hf
          refine lv_aload_n hx hb dX1_setThree_20 rfl (lv_at hl 2 rfl) ?_
          refine lv_iload_n hx hb dX1_setThree_21 rfl (lv_at hl 3 rfl) ?_
          obtain ⟨h_6, hf⟩ := if_some hf
          refine va_iald hx hb hK.1 hP 8 0 rfl rfl (ok_in h_6) dX1_setThree_22 ?_
          refine va_getsN hx hb (hG 1 _ rfl).1 hS hown (hK.use _ 31 rfl) (fun _ h9 => h9) dX1_setThree_23 ?_
          refine lv_iload_n hx hb dX1_setThree_26 rfl (lv_at hl 1 rfl) ?_
          refine lv_iload_n hx hb dX1_setThree_27 rfl (lv_at hl 3 rfl) ?_
          refine lv_iadd hx hb dX1_setThree_28 ?_
          obtain ⟨h_7, hf⟩ := if_some hf
          refine va_sld hx hb (hG 1 _ rfl).2.1 (hG 1 _ rfl).2.2.1 (hG 1 _ rfl).2.2.2 hS (ok_in h_7) dX1_setThree_29 ?_
          refine lv_icmp_le (tgt := 35) hx hb dX1_setThree_30 (by decide) (fun c_8 => ?_) (fun c_8 => ?_)
          · replace hf := (if_pos c_8).symm.trans hf
            refine lv_iinc (v := v3 + 1) (lv' := [(3, .int (v3 + 1)), (0, .ref t_p), (1, .int v1), (2, .ref o1_p)]) hx hb dX1_setThree_35 hl (k := 3) rfl rfl (by decide) rfl (fun ls hl => ?_)
            refine lv_goto (tgt := 2) hx hb dX1_setThree_38 (by decide) ?_
            exact ih v1 (v3 + 1) t_settings H locs ls hf hP hD hS (lv_sub hl [1, 2, 3, 0] rfl)
          · replace hf := (if_neg c_8).symm.trans hf
            refine lv_iconst (v := 0) hx hb dX1_setThree_33 (by decide) ?_
            replace hf := Option.some.inj hf
            subst hf
            exact W.zret (v := 0) hx hb hr rfl (fun t ht hW => ⟨⟨_, (), rfl, rfl, by show va_P g.1 vwCl _ t.heap; rw [ht]; exact hP⟩, hS.F ht⟩) hS.2.2 dX1_setThree_34 hlocks
  have hl := lv_entry ([.ref t_p, .int l1, .ref o1_p]) (n := 4) (Nat.le_of_ble_eq_true rfl)
  rw [lg_entry_eq]
  generalize (lg_sl ([.ref t_p, .int l1, .ref o1_p]) ++ List.replicate (4 - (lg_sl ([.ref t_p, .int l1, .ref o1_p])).length) Slot.unset).toArray = ls at hl ⊢
  replace hl : lv_has ls 4 [(0, .ref t_p), (1, .int l1), (2, .ref o1_p)] := hl
  rw [f1_setThree] at hf
  have hgo : ∀ (H : Heap) (locs : List Loc), H = s.heap → locs = [] → va_P g.1 vwCl (fl [wk1 g t_p t_cavities t_p_volumes t_volumes t_p_drags t_drags t_p_freezes t_freezes t_cores t_p_ahead t_ahead t_stages t_p_places t_places t_p_speeds t_speeds t_p_settings t_settings, wkA g 3 o1_p o1_v]) H → va_S A s.heap H locs → W p l e ({ frames := 1, cells := 0, slots := 0, locals := 43 }) s m ([.ref t_p, .int l1, .ref o1_p] : List Value).toArray below meth c H locs 0 0 (MQ below (pQi g (fun r => r = res.1) (fl [wk1 g t_p t_cavities t_p_volumes t_volumes t_p_drags t_drags t_p_freezes t_freezes t_cores t_p_ahead t_ahead t_stages t_p_places t_places t_p_speeds t_speeds t_p_settings res.2, wkA g 3 o1_p o1_v]) A) ([.ref t_p, .int l1, .ref o1_p] : List Value).toArray s 0 0 A) (F0 m 0 ls []) := by
    intro H locs hH hL hP hS
    refine lv_iconst (v := 0) hx hb dX1_setThree_0 (by decide) ?_
    refine lv_istore_n (lv' := [(3, .int 0), (0, .ref t_p), (1, .int l1), (2, .ref o1_p)]) hx hb dX1_setThree_1 rfl hl (by decide) rfl (fun ls hl => ?_)
    exact w_2  N l1 0 t_settings H locs ls hf hP hD hS (lv_sub hl [1, 2, 3, 0] rfl)
  exact hgo s.heap [] rfl rfl hP hS

set_option maxHeartbeats 4000000 in
set_option maxRecDepth 100000 in
theorem c1_chainEnds (l : Launch) (g : gG) (t_p : Nat) (t_cavities : Int32) (t_p_volumes : Nat) (t_volumes : (Nat → Int32)) (t_p_drags : Nat) (t_drags : (Nat → Int32)) (t_p_freezes : Nat) (t_freezes : (Nat → Int32)) (t_cores : Int32) (t_p_ahead : Nat) (t_ahead : (Nat → Int32)) (t_stages : Int32) (t_p_places : Nat) (t_places : (Nat → Int32)) (t_p_speeds : Nat) (t_speeds : (Nat → Int32)) (t_p_settings : Nat) (t_settings : (Nat → Int32)) (l1 : Int32) (sz : Nat) (N : Nat) (res : (Int32)) (hf : f1_chainEnds N l1 t_cores t_ahead = some res) : Met l yX1_chainEnds wsX1_chainEnds ({ frames := 0, cells := 0, slots := 0, locals := 0 }) (pP g [.ref t_p, .int l1] sz (fl [wk1 g t_p t_cavities t_p_volumes t_volumes t_p_drags t_drags t_p_freezes t_freezes t_cores t_p_ahead t_ahead t_stages t_p_places t_places t_p_speeds t_speeds t_p_settings t_settings])) (pQi g (fun r => r = res) (fl [wk1 g t_p t_cavities t_p_volumes t_volumes t_p_drags t_drags t_p_freezes t_freezes t_cores t_p_ahead t_ahead t_stages t_p_places t_places t_p_speeds t_speeds t_p_settings t_settings]) (va_A (fl [wk1 g t_p t_cavities t_p_volumes t_volumes t_p_drags t_drags t_p_freezes t_freezes t_cores t_p_ahead t_ahead t_stages t_p_places t_places t_p_speeds t_speeds t_p_settings t_settings]) sz)) 0 0 (va_A (fl [wk1 g t_p t_cavities t_p_volumes t_volumes t_p_drags t_drags t_p_freezes t_freezes t_cores t_p_ahead t_ahead t_stages t_p_places t_places t_p_speeds t_speeds t_p_settings t_settings]) sz) := by
  refine Met.ofW (cc := cX1_chainEnds) (maxL := 4) (ret := (some .boolean)) (by decide) rfl ?_
  intro p e s m args below meth c s₁ B hml hv
  obtain ⟨rfl, hsz, hP, hK, hD0, hG⟩ := hv
  have hx := B.exec
  have hb := B.bytes
  have hr := B.returns
  have hts := atoms_spec (ws := wsX1_chainEnds) B.pre
  have hown : s.vm.findClass RX1 = some m.cls := findClass_of_methodNamed B.named
  have hlocks := B.notSynchronized
  subst hsz
  have hD := hD0.self (sz := s.heap.size)
  generalize hAe : va_A (fl [wk1 g t_p t_cavities t_p_volumes t_volumes t_p_drags t_drags t_p_freezes t_freezes t_cores t_p_ahead t_ahead t_stages t_p_places t_places t_p_speeds t_speeds t_p_settings t_settings]) s.heap.size = A at hD hG ⊢
  have hA : ∀ q : Nat, s.heap.size ≤ q → A q := fun q h => by rw [← hAe]; exact Or.inr h
  have hS : va_S A s.heap s.heap [] := va_S.rf
  have hin1 : ∀ w ∈ u_ws RX1 TX1 10, w ∈ wsX1_chainEnds := by decide +kernel
  have L1 := hts (Cond.fieldLink RX1 25 "MouldShots$Plan" "cores" "I") (by decide +kernel)
  have L2 := hts (Cond.fieldLink RX1 28 "MouldShots$Plan" "ahead" "[I") (by decide +kernel)
  have w_36 : ∀ (v2 : Int32)  (H : Heap) (locs : List Loc) (ls : Array Slot), f1_chainEnds_36  N v2 = some res → va_P g.1 vwCl (fl [wk1 g t_p t_cavities t_p_volumes t_volumes t_p_drags t_drags t_p_freezes t_freezes t_cores t_p_ahead t_ahead t_stages t_p_places t_places t_p_speeds t_speeds t_p_settings t_settings]) H → va_D A (fl [wk1 g t_p t_cavities t_p_volumes t_volumes t_p_drags t_drags t_p_freezes t_freezes t_cores t_p_ahead t_ahead t_stages t_p_places t_places t_p_speeds t_speeds t_p_settings t_settings]) → va_S A s.heap H locs → lv_has ls 4 [(2, .int v2)] → W p l e ({ frames := 0, cells := 0, slots := 0, locals := 0 }) s m ([.ref t_p, .int l1] : List Value).toArray below meth c H locs 0 0 (MQ below (pQi g (fun r => r = res) (fl [wk1 g t_p t_cavities t_p_volumes t_volumes t_p_drags t_drags t_p_freezes t_freezes t_cores t_p_ahead t_ahead t_stages t_p_places t_places t_p_speeds t_speeds t_p_settings t_settings]) A) ([.ref t_p, .int l1] : List Value).toArray s 0 0 A) (F0 m 36 ls []) := by
    intro  v2 H locs ls hf hP hD hS hl
    rw [f1_chainEnds_36] at hf
    refine lv_iload_n hx hb dX1_chainEnds_36 rfl (lv_at hl 0 rfl) ?_
    refine lv_bipush (v := 9) hx hb dX1_chainEnds_37 (by decide) ?_
    refine lv_icmp_ne (tgt := 46) hx hb dX1_chainEnds_39 (by decide) (fun c_4 => ?_) (fun c_4 => ?_)
    · replace hf := (if_neg c_4).symm.trans hf
      refine lv_iconst (v := 0) hx hb dX1_chainEnds_46 (by decide) ?_
      replace hf := Option.some.inj hf
      subst hf
      exact W.zret (v := 0) hx hb hr rfl (fun t ht hW => ⟨⟨_, (), rfl, rfl, by show va_P g.1 vwCl _ t.heap; rw [ht]; exact hP⟩, hS.F ht⟩) hS.2.2 dX1_chainEnds_47 hlocks
    · replace hf := (if_pos c_4).symm.trans hf
      refine lv_iconst (v := 1) hx hb dX1_chainEnds_42 (by decide) ?_
      refine lv_goto (tgt := 47) hx hb dX1_chainEnds_43 (by decide) ?_
      replace hf := Option.some.inj hf
      subst hf
      exact W.zret (v := 1) hx hb hr rfl (fun t ht hW => ⟨⟨_, (), rfl, rfl, by show va_P g.1 vwCl _ t.heap; rw [ht]; exact hP⟩, hS.F ht⟩) hS.2.2 dX1_chainEnds_47 hlocks
  have w_4 : ∀ n : Nat, ∀ (v2 : Int32) (v3 : Int32)  (H : Heap) (locs : List Loc) (ls : Array Slot), f1_chainEnds_4  N n v2 v3 t_cores t_ahead = some res → va_P g.1 vwCl (fl [wk1 g t_p t_cavities t_p_volumes t_volumes t_p_drags t_drags t_p_freezes t_freezes t_cores t_p_ahead t_ahead t_stages t_p_places t_places t_p_speeds t_speeds t_p_settings t_settings]) H → va_D A (fl [wk1 g t_p t_cavities t_p_volumes t_volumes t_p_drags t_drags t_p_freezes t_freezes t_cores t_p_ahead t_ahead t_stages t_p_places t_places t_p_speeds t_speeds t_p_settings t_settings]) → va_S A s.heap H locs → lv_has ls 4 [(0, .ref t_p), (2, .int v2), (3, .int v3)] → W p l e ({ frames := 0, cells := 0, slots := 0, locals := 0 }) s m ([.ref t_p, .int l1] : List Value).toArray below meth c H locs 0 0 (MQ below (pQi g (fun r => r = res) (fl [wk1 g t_p t_cavities t_p_volumes t_volumes t_p_drags t_drags t_p_freezes t_freezes t_cores t_p_ahead t_ahead t_stages t_p_places t_places t_p_speeds t_speeds t_p_settings t_settings]) A) ([.ref t_p, .int l1] : List Value).toArray s 0 0 A) (F0 m 4 ls []) := by
    intro  n
    induction n with
    | zero => intro v2 v3 H locs ls hf; exact no_some hf
    | succ n ih =>
      intro v2 v3 H locs ls hf hP hD hS hl
      rw [f1_chainEnds_4] at hf
      refine lv_iload_n hx hb dX1_chainEnds_4 rfl (lv_at hl 2 rfl) ?_
      refine lv_aload_n hx hb dX1_chainEnds_5 rfl (lv_at hl 0 rfl) ?_
      refine va_get (D := g.1) (ci := 1) (v := .int t_cores) (C := RX1) (T := TX1) (N := 10) hx hb hts hin1 hown hK.1 hP 0 rfl rfl 4 (by decide) L1 (fun _ h9 => h9) rfl dX1_chainEnds_6 ?_
      refine lv_icmp_ge (tgt := 36) hx hb dX1_chainEnds_9 (by decide) (fun c_1 => ?_) (fun c_1 => ?_)
      · replace hf := (if_pos c_1).symm.trans hf
        exact w_36  v2 H locs ls hf hP hD hS (lv_sub hl [1] rfl)
      · replace hf := (if_neg c_1).symm.trans hf
        refine lv_iload_n hx hb dX1_chainEnds_12 rfl (lv_at hl 1 rfl) ?_
        refine lv_aload_n hx hb dX1_chainEnds_13 rfl (lv_at hl 0 rfl) ?_
        refine va_get (D := g.1) (ci := 1) (v := .int t_cores) (C := RX1) (T := TX1) (N := 10) hx hb hts hin1 hown hK.1 hP 0 rfl rfl 4 (by decide) L1 (fun _ h9 => h9) rfl dX1_chainEnds_14 ?_
        refine lv_icmp_lt (tgt := 23) hx hb dX1_chainEnds_17 (by decide) (fun c_2 => ?_) (fun c_2 => ?_)
        · replace hf := (if_pos c_2).symm.trans hf
          refine lv_aload_n hx hb dX1_chainEnds_23 rfl (lv_at hl 0 rfl) ?_
          refine va_get (D := g.1) (ci := 1) (v := .ref t_p_ahead) (C := RX1) (T := TX1) (N := 10) hx hb hts hin1 hown hK.1 hP 0 rfl rfl 5 (by decide) L2 (fun _ h9 => h9) rfl dX1_chainEnds_24 ?_
          refine lv_iload_n hx hb dX1_chainEnds_27 rfl (lv_at hl 1 rfl) ?_
          obtain ⟨h_3, hf⟩ := if_some hf
          refine va_iald hx hb hK.1 hP 4 0 rfl rfl (ok_in h_3) dX1_chainEnds_28 ?_
          refine lv_istore_n (lv' := [(2, .int (t_ahead (Int32.toNatClampNeg v2))), (0, .ref t_p), (3, .int v3)]) hx hb dX1_chainEnds_29 rfl hl (by decide) rfl (fun ls hl => ?_)
          refine lv_iinc (v := v3 + 1) (lv' := [(3, .int (v3 + 1)), (2, .int (t_ahead (Int32.toNatClampNeg v2))), (0, .ref t_p)]) hx hb dX1_chainEnds_30 hl (k := 2) rfl rfl (by decide) rfl (fun ls hl => ?_)
          refine lv_goto (tgt := 4) hx hb dX1_chainEnds_33 (by decide) ?_
          exact ih (t_ahead (Int32.toNatClampNeg v2)) (v3 + 1) H locs ls hf hP hD hS (lv_sub hl [2, 1, 0] rfl)
        · replace hf := (if_neg c_2).symm.trans hf
          refine lv_goto (tgt := 36) hx hb dX1_chainEnds_20 (by decide) ?_
          exact w_36  v2 H locs ls hf hP hD hS (lv_sub hl [1] rfl)
  have hl := lv_entry ([.ref t_p, .int l1]) (n := 4) (Nat.le_of_ble_eq_true rfl)
  rw [lg_entry_eq]
  generalize (lg_sl ([.ref t_p, .int l1]) ++ List.replicate (4 - (lg_sl ([.ref t_p, .int l1])).length) Slot.unset).toArray = ls at hl ⊢
  replace hl : lv_has ls 4 [(0, .ref t_p), (1, .int l1)] := hl
  rw [f1_chainEnds] at hf
  have hgo : ∀ (H : Heap) (locs : List Loc), H = s.heap → locs = [] → va_P g.1 vwCl (fl [wk1 g t_p t_cavities t_p_volumes t_volumes t_p_drags t_drags t_p_freezes t_freezes t_cores t_p_ahead t_ahead t_stages t_p_places t_places t_p_speeds t_speeds t_p_settings t_settings]) H → va_S A s.heap H locs → W p l e ({ frames := 0, cells := 0, slots := 0, locals := 0 }) s m ([.ref t_p, .int l1] : List Value).toArray below meth c H locs 0 0 (MQ below (pQi g (fun r => r = res) (fl [wk1 g t_p t_cavities t_p_volumes t_volumes t_p_drags t_drags t_p_freezes t_freezes t_cores t_p_ahead t_ahead t_stages t_p_places t_places t_p_speeds t_speeds t_p_settings t_settings]) A) ([.ref t_p, .int l1] : List Value).toArray s 0 0 A) (F0 m 0 ls []) := by
    intro H locs hH hL hP hS
    refine lv_iload_n hx hb dX1_chainEnds_0 rfl (lv_at hl 1 rfl) ?_
    refine lv_istore_n (lv' := [(2, .int l1), (0, .ref t_p), (1, .int l1)]) hx hb dX1_chainEnds_1 rfl hl (by decide) rfl (fun ls hl => ?_)
    refine lv_iconst (v := 0) hx hb dX1_chainEnds_2 (by decide) ?_
    refine lv_istore_n (lv' := [(3, .int 0), (2, .int l1), (0, .ref t_p), (1, .int l1)]) hx hb dX1_chainEnds_3 rfl hl (by decide) rfl (fun ls hl => ?_)
    exact w_4  N l1 0 H locs ls hf hP hD hS (lv_sub hl [2, 1, 0] rfl)
  exact hgo s.heap [] rfl rfl hP hS

set_option maxHeartbeats 4000000 in
set_option maxRecDepth 100000 in
theorem c1_canBeLaid (l : Launch) (g : gG) (t_p : Nat) (t_cavities : Int32) (t_p_volumes : Nat) (t_volumes : (Nat → Int32)) (t_p_drags : Nat) (t_drags : (Nat → Int32)) (t_p_freezes : Nat) (t_freezes : (Nat → Int32)) (t_cores : Int32) (t_p_ahead : Nat) (t_ahead : (Nat → Int32)) (t_stages : Int32) (t_p_places : Nat) (t_places : (Nat → Int32)) (t_p_speeds : Nat) (t_speeds : (Nat → Int32)) (t_p_settings : Nat) (t_settings : (Nat → Int32)) (sz : Nat) (N : Nat) (res : (Int32)) (hf : f1_canBeLaid N t_cavities t_cores t_ahead t_stages = some res) : Met l yX1_canBeLaid wsX1_canBeLaid ({ frames := 1, cells := 0, slots := 0, locals := 23 }) (pP g [.ref t_p] sz (fl [wk1 g t_p t_cavities t_p_volumes t_volumes t_p_drags t_drags t_p_freezes t_freezes t_cores t_p_ahead t_ahead t_stages t_p_places t_places t_p_speeds t_speeds t_p_settings t_settings])) (pQi g (fun r => r = res) (fl [wk1 g t_p t_cavities t_p_volumes t_volumes t_p_drags t_drags t_p_freezes t_freezes t_cores t_p_ahead t_ahead t_stages t_p_places t_places t_p_speeds t_speeds t_p_settings t_settings]) (va_A (fl [wk1 g t_p t_cavities t_p_volumes t_volumes t_p_drags t_drags t_p_freezes t_freezes t_cores t_p_ahead t_ahead t_stages t_p_places t_places t_p_speeds t_speeds t_p_settings t_settings]) sz)) 0 0 (va_A (fl [wk1 g t_p t_cavities t_p_volumes t_volumes t_p_drags t_drags t_p_freezes t_freezes t_cores t_p_ahead t_ahead t_stages t_p_places t_places t_p_speeds t_speeds t_p_settings t_settings]) sz) := by
  refine Met.ofW (cc := cX1_canBeLaid) (maxL := 2) (ret := (some .boolean)) (by decide) rfl ?_
  intro p e s m args below meth c s₁ B hml hv
  obtain ⟨rfl, hsz, hP, hK, hD0, hG⟩ := hv
  have hx := B.exec
  have hb := B.bytes
  have hr := B.returns
  have hts := atoms_spec (ws := wsX1_canBeLaid) B.pre
  have hown : s.vm.findClass RX1 = some m.cls := findClass_of_methodNamed B.named
  have hlocks := B.notSynchronized
  subst hsz
  have hD := hD0.self (sz := s.heap.size)
  generalize hAe : va_A (fl [wk1 g t_p t_cavities t_p_volumes t_volumes t_p_drags t_drags t_p_freezes t_freezes t_cores t_p_ahead t_ahead t_stages t_p_places t_places t_p_speeds t_speeds t_p_settings t_settings]) s.heap.size = A at hD hG ⊢
  have hA : ∀ q : Nat, s.heap.size ≤ q → A q := fun q h => by rw [← hAe]; exact Or.inr h
  have hS : va_S A s.heap s.heap [] := va_S.rf
  have hin1 : ∀ w ∈ u_ws RX1 TX1 10, w ∈ wsX1_canBeLaid := by decide +kernel
  have L1 := hts (Cond.fieldLink RX1 9 "MouldShots$Plan" "cavities" "I") (by decide +kernel)
  have L2 := hts (Cond.fieldLink RX1 31 "MouldShots$Plan" "stages" "I") (by decide +kernel)
  have L3 := hts (Cond.fieldLink RX1 25 "MouldShots$Plan" "cores" "I") (by decide +kernel)
  have w_18 : ∀ n : Nat, ∀ (v1 : Int32)  (H : Heap) (locs : List Loc) (ls : Array Slot), f1_canBeLaid_18  N n v1 t_cores t_ahead = some res → va_P g.1 vwCl (fl [wk1 g t_p t_cavities t_p_volumes t_volumes t_p_drags t_drags t_p_freezes t_freezes t_cores t_p_ahead t_ahead t_stages t_p_places t_places t_p_speeds t_speeds t_p_settings t_settings]) H → va_D A (fl [wk1 g t_p t_cavities t_p_volumes t_volumes t_p_drags t_drags t_p_freezes t_freezes t_cores t_p_ahead t_ahead t_stages t_p_places t_places t_p_speeds t_speeds t_p_settings t_settings]) → va_S A s.heap H locs → lv_has ls 2 [(0, .ref t_p), (1, .int v1)] → W p l e ({ frames := 1, cells := 0, slots := 0, locals := 23 }) s m ([.ref t_p] : List Value).toArray below meth c H locs 0 0 (MQ below (pQi g (fun r => r = res) (fl [wk1 g t_p t_cavities t_p_volumes t_volumes t_p_drags t_drags t_p_freezes t_freezes t_cores t_p_ahead t_ahead t_stages t_p_places t_places t_p_speeds t_speeds t_p_settings t_settings]) A) ([.ref t_p] : List Value).toArray s 0 0 A) (F0 m 18 ls []) := by
    intro  n
    induction n with
    | zero => intro v1 H locs ls hf; exact no_some hf
    | succ n ih =>
      intro v1 H locs ls hf hP hD hS hl
      rw [f1_canBeLaid_18] at hf
      refine lv_iload_n hx hb dX1_canBeLaid_18 rfl (lv_at hl 1 rfl) ?_
      refine lv_aload_n hx hb dX1_canBeLaid_19 rfl (lv_at hl 0 rfl) ?_
      refine va_get (D := g.1) (ci := 1) (v := .int t_cores) (C := RX1) (T := TX1) (N := 10) hx hb hts hin1 hown hK.1 hP 0 rfl rfl 4 (by decide) L3 (fun _ h9 => h9) rfl dX1_canBeLaid_20 ?_
      refine lv_icmp_ge (tgt := 42) hx hb dX1_canBeLaid_23 (by decide) (fun c_3 => ?_) (fun c_3 => ?_)
      · replace hf := (if_pos c_3).symm.trans hf
        refine lv_iconst (v := 1) hx hb dX1_canBeLaid_42 (by decide) ?_
        replace hf := Option.some.inj hf
        subst hf
        exact W.zret (v := 1) hx hb hr rfl (fun t ht hW => ⟨⟨_, (), rfl, rfl, by show va_P g.1 vwCl _ t.heap; rw [ht]; exact hP⟩, hS.F ht⟩) hS.2.2 dX1_canBeLaid_43 hlocks
      · replace hf := (if_neg c_3).symm.trans hf
        refine lv_aload_n hx hb dX1_canBeLaid_26 rfl (lv_at hl 0 rfl) ?_
        refine lv_iload_n hx hb dX1_canBeLaid_27 rfl (lv_at hl 1 rfl) ?_
        obtain ⟨q_4, hq_4, hf⟩ := bd_some hf
        refine bft_i (bn := [wk1 g t_p t_cavities t_p_volumes t_volumes t_p_drags t_drags t_p_freezes t_freezes t_cores t_p_ahead t_ahead t_stages t_p_places t_places t_p_speeds t_speeds t_p_settings t_settings]) (L := [[t_p, t_p_volumes, t_p_drags, t_p_freezes, t_p_ahead, t_p_places, t_p_speeds, t_p_settings]]) (va_runV (As := [.int v1]) (rest := []) ⟨hx, hb, hml, hown, hts⟩ (c1_chainEnds l g t_p t_cavities t_p_volumes t_volumes t_p_drags t_drags t_p_freezes t_freezes t_cores t_p_ahead t_ahead t_stages t_p_places t_places t_p_speeds t_speeds t_p_settings t_settings v1 H.size N q_4 hq_4) (cwV 1 hts gX1_canBeLaid_X1_chainEnds rfl rfl rfl ⟨rfl, nh1.1, nh1.2, pd_1⟩ ⟨Nat.le_of_ble_eq_true rfl, Nat.le_of_ble_eq_true rfl⟩) (qPV hK hG hP hD hS hA [0] (by decide) rfl (va_recv hK.1 hP (ci := 1) (q0 := 0) rfl rfl)) rfl rfl hl.1 rfl (lv_room (Nat.le_of_ble_eq_true rfl)) dX1_canBeLaid_28 ⟨Nat.zero_le _, Nat.zero_le _⟩) hP hD hS hA [0] rfl rfl rfl rfl (fun r_5 H locs hw hP hD hS => ?_)
        replace hw := hw.symm
        subst hw
        refine lv_if_ne (tgt := 36) hx hb dX1_canBeLaid_31 (by decide) (fun c_6 => ?_) (fun c_6 => ?_)
        · replace hf := (if_neg c_6).symm.trans hf
          refine lv_iinc (v := v1 + 1) (lv' := [(1, .int (v1 + 1)), (0, .ref t_p)]) hx hb dX1_canBeLaid_36 hl (k := 1) rfl rfl (by decide) rfl (fun ls hl => ?_)
          refine lv_goto (tgt := 18) hx hb dX1_canBeLaid_39 (by decide) ?_
          exact ih (v1 + 1) H locs ls hf hP hD hS (lv_sub hl [1, 0] rfl)
        · replace hf := (if_pos c_6).symm.trans hf
          refine lv_iconst (v := 0) hx hb dX1_canBeLaid_34 (by decide) ?_
          replace hf := Option.some.inj hf
          subst hf
          exact W.zret (v := 0) hx hb hr rfl (fun t ht hW => ⟨⟨_, (), rfl, rfl, by show va_P g.1 vwCl _ t.heap; rw [ht]; exact hP⟩, hS.F ht⟩) hS.2.2 dX1_canBeLaid_35 hlocks
  have hl := lv_entry ([.ref t_p]) (n := 2) (Nat.le_of_ble_eq_true rfl)
  rw [lg_entry_eq]
  generalize (lg_sl ([.ref t_p]) ++ List.replicate (2 - (lg_sl ([.ref t_p])).length) Slot.unset).toArray = ls at hl ⊢
  replace hl : lv_has ls 2 [(0, .ref t_p)] := hl
  rw [f1_canBeLaid] at hf
  have hgo : ∀ (H : Heap) (locs : List Loc), H = s.heap → locs = [] → va_P g.1 vwCl (fl [wk1 g t_p t_cavities t_p_volumes t_volumes t_p_drags t_drags t_p_freezes t_freezes t_cores t_p_ahead t_ahead t_stages t_p_places t_places t_p_speeds t_speeds t_p_settings t_settings]) H → va_S A s.heap H locs → W p l e ({ frames := 1, cells := 0, slots := 0, locals := 23 }) s m ([.ref t_p] : List Value).toArray below meth c H locs 0 0 (MQ below (pQi g (fun r => r = res) (fl [wk1 g t_p t_cavities t_p_volumes t_volumes t_p_drags t_drags t_p_freezes t_freezes t_cores t_p_ahead t_ahead t_stages t_p_places t_places t_p_speeds t_speeds t_p_settings t_settings]) A) ([.ref t_p] : List Value).toArray s 0 0 A) (F0 m 0 ls []) := by
    intro H locs hH hL hP hS
    refine lv_aload_n hx hb dX1_canBeLaid_0 rfl (lv_at hl 0 rfl) ?_
    refine va_get (D := g.1) (ci := 1) (v := .int t_cavities) (C := RX1) (T := TX1) (N := 10) hx hb hts hin1 hown hK.1 hP 0 rfl rfl 0 (by decide) L1 (fun _ h9 => h9) rfl dX1_canBeLaid_1 ?_
    refine lv_if_eq (tgt := 14) hx hb dX1_canBeLaid_4 (by decide) (fun c_1 => ?_) (fun c_1 => ?_)
    · replace hf := (if_pos c_1).symm.trans hf
      refine lv_iconst (v := 0) hx hb dX1_canBeLaid_14 (by decide) ?_
      replace hf := Option.some.inj hf
      subst hf
      exact W.zret (v := 0) hx hb hr rfl (fun t ht hW => ⟨⟨_, (), rfl, rfl, by show va_P g.1 vwCl _ t.heap; rw [ht]; exact hP⟩, hS.F ht⟩) hS.2.2 dX1_canBeLaid_15 hlocks
    · replace hf := (if_neg c_1).symm.trans hf
      refine lv_aload_n hx hb dX1_canBeLaid_7 rfl (lv_at hl 0 rfl) ?_
      refine va_get (D := g.1) (ci := 1) (v := .int t_stages) (C := RX1) (T := TX1) (N := 10) hx hb hts hin1 hown hK.1 hP 0 rfl rfl 6 (by decide) L2 (fun _ h9 => h9) rfl dX1_canBeLaid_8 ?_
      refine lv_if_ne (tgt := 16) hx hb dX1_canBeLaid_11 (by decide) (fun c_2 => ?_) (fun c_2 => ?_)
      · replace hf := (if_neg c_2).symm.trans hf
        refine lv_iconst (v := 0) hx hb dX1_canBeLaid_16 (by decide) ?_
        refine lv_istore_n (lv' := [(1, .int 0), (0, .ref t_p)]) hx hb dX1_canBeLaid_17 rfl hl (by decide) rfl (fun ls hl => ?_)
        exact w_18  N 0 H locs ls hf hP hD hS (lv_sub hl [1, 0] rfl)
      · replace hf := (if_pos c_2).symm.trans hf
        refine lv_iconst (v := 0) hx hb dX1_canBeLaid_14 (by decide) ?_
        replace hf := Option.some.inj hf
        subst hf
        exact W.zret (v := 0) hx hb hr rfl (fun t ht hW => ⟨⟨_, (), rfl, rfl, by show va_P g.1 vwCl _ t.heap; rw [ht]; exact hP⟩, hS.F ht⟩) hS.2.2 dX1_canBeLaid_15 hlocks
  exact hgo s.heap [] rfl rfl hP hS

set_option maxHeartbeats 4000000 in
set_option maxRecDepth 100000 in
theorem c1_nextIn (l : Launch) (g : gG) (t_p : Nat) (t_cavities : Int32) (t_p_volumes : Nat) (t_volumes : (Nat → Int32)) (t_p_drags : Nat) (t_drags : (Nat → Int32)) (t_p_freezes : Nat) (t_freezes : (Nat → Int32)) (t_cores : Int32) (t_p_ahead : Nat) (t_ahead : (Nat → Int32)) (t_stages : Int32) (t_p_places : Nat) (t_places : (Nat → Int32)) (t_p_speeds : Nat) (t_speeds : (Nat → Int32)) (t_p_settings : Nat) (t_settings : (Nat → Int32)) (l1 : Int32) (sz : Nat) (N : Nat) (res : (Int32)) (hf : f1_nextIn N l1 t_cores t_ahead = some res) : Met l yX1_nextIn wsX1_nextIn ({ frames := 0, cells := 0, slots := 0, locals := 0 }) (pP g [.ref t_p, .int l1] sz (fl [wk1 g t_p t_cavities t_p_volumes t_volumes t_p_drags t_drags t_p_freezes t_freezes t_cores t_p_ahead t_ahead t_stages t_p_places t_places t_p_speeds t_speeds t_p_settings t_settings])) (pQi g (fun r => r = res) (fl [wk1 g t_p t_cavities t_p_volumes t_volumes t_p_drags t_drags t_p_freezes t_freezes t_cores t_p_ahead t_ahead t_stages t_p_places t_places t_p_speeds t_speeds t_p_settings t_settings]) (va_A (fl [wk1 g t_p t_cavities t_p_volumes t_volumes t_p_drags t_drags t_p_freezes t_freezes t_cores t_p_ahead t_ahead t_stages t_p_places t_places t_p_speeds t_speeds t_p_settings t_settings]) sz)) 0 0 (va_A (fl [wk1 g t_p t_cavities t_p_volumes t_volumes t_p_drags t_drags t_p_freezes t_freezes t_cores t_p_ahead t_ahead t_stages t_p_places t_places t_p_speeds t_speeds t_p_settings t_settings]) sz) := by
  refine Met.ofW (cc := cX1_nextIn) (maxL := 4) (ret := (some .int)) (by decide) rfl ?_
  intro p e s m args below meth c s₁ B hml hv
  obtain ⟨rfl, hsz, hP, hK, hD0, hG⟩ := hv
  have hx := B.exec
  have hb := B.bytes
  have hr := B.returns
  have hts := atoms_spec (ws := wsX1_nextIn) B.pre
  have hown : s.vm.findClass RX1 = some m.cls := findClass_of_methodNamed B.named
  have hlocks := B.notSynchronized
  subst hsz
  have hD := hD0.self (sz := s.heap.size)
  generalize hAe : va_A (fl [wk1 g t_p t_cavities t_p_volumes t_volumes t_p_drags t_drags t_p_freezes t_freezes t_cores t_p_ahead t_ahead t_stages t_p_places t_places t_p_speeds t_speeds t_p_settings t_settings]) s.heap.size = A at hD hG ⊢
  have hA : ∀ q : Nat, s.heap.size ≤ q → A q := fun q h => by rw [← hAe]; exact Or.inr h
  have hS : va_S A s.heap s.heap [] := va_S.rf
  have hin1 : ∀ w ∈ u_ws RX1 TX1 10, w ∈ wsX1_nextIn := by decide +kernel
  have L1 := hts (Cond.fieldLink RX1 25 "MouldShots$Plan" "cores" "I") (by decide +kernel)
  have L2 := hts (Cond.fieldLink RX1 28 "MouldShots$Plan" "ahead" "[I") (by decide +kernel)
  have w_23 : ∀ (k_2 : Int32 → Int32 → Int32 → (Nat → Int32) → Option (Int32)), (∀ (v1 : Int32) (v2 : Int32)  (H : Heap) (locs : List Loc) (ls : Array Slot), k_2 v1 v2 t_cores t_ahead = some res → va_P g.1 vwCl (fl [wk1 g t_p t_cavities t_p_volumes t_volumes t_p_drags t_drags t_p_freezes t_freezes t_cores t_p_ahead t_ahead t_stages t_p_places t_places t_p_speeds t_speeds t_p_settings t_settings]) H → va_D A (fl [wk1 g t_p t_cavities t_p_volumes t_volumes t_p_drags t_drags t_p_freezes t_freezes t_cores t_p_ahead t_ahead t_stages t_p_places t_places t_p_speeds t_speeds t_p_settings t_settings]) → va_S A s.heap H locs → lv_has ls 4 [(0, .ref t_p), (1, .int v1), (2, .int v2)] → W p l e ({ frames := 0, cells := 0, slots := 0, locals := 0 }) s m ([.ref t_p, .int l1] : List Value).toArray below meth c H locs 0 0 (MQ below (pQi g (fun r => r = res) (fl [wk1 g t_p t_cavities t_p_volumes t_volumes t_p_drags t_drags t_p_freezes t_freezes t_cores t_p_ahead t_ahead t_stages t_p_places t_places t_p_speeds t_speeds t_p_settings t_settings]) A) ([.ref t_p, .int l1] : List Value).toArray s 0 0 A) (F0 m 2 ls [])) → ∀ (v1 : Int32) (v2 : Int32) (s0 : Int32)  (H : Heap) (locs : List Loc) (ls : Array Slot), f1_nextIn_23 k_2 N v1 v2 s0 t_cores t_ahead = some res → va_P g.1 vwCl (fl [wk1 g t_p t_cavities t_p_volumes t_volumes t_p_drags t_drags t_p_freezes t_freezes t_cores t_p_ahead t_ahead t_stages t_p_places t_places t_p_speeds t_speeds t_p_settings t_settings]) H → va_D A (fl [wk1 g t_p t_cavities t_p_volumes t_volumes t_p_drags t_drags t_p_freezes t_freezes t_cores t_p_ahead t_ahead t_stages t_p_places t_places t_p_speeds t_speeds t_p_settings t_settings]) → va_S A s.heap H locs → lv_has ls 4 [(0, .ref t_p), (1, .int v1), (2, .int v2)] → W p l e ({ frames := 0, cells := 0, slots := 0, locals := 0 }) s m ([.ref t_p, .int l1] : List Value).toArray below meth c H locs 0 0 (MQ below (pQi g (fun r => r = res) (fl [wk1 g t_p t_cavities t_p_volumes t_volumes t_p_drags t_drags t_p_freezes t_freezes t_cores t_p_ahead t_ahead t_stages t_p_places t_places t_p_speeds t_speeds t_p_settings t_settings]) A) ([.ref t_p, .int l1] : List Value).toArray s 0 0 A) (F0 m 23 ls [.int s0]) := by
    intro k_2 hk_2 v1 v2 s0 H locs ls hf hP hD hS hl
    rw [f1_nextIn_23] at hf
    refine lv_istore_n (lv' := [(3, .int s0), (0, .ref t_p), (1, .int v1), (2, .int v2)]) hx hb dX1_nextIn_23 rfl hl (by decide) rfl (fun ls hl => ?_)
    refine lv_iload_n hx hb dX1_nextIn_24 rfl (lv_at hl 0 rfl) ?_
    refine lv_if_eq (tgt := 55) hx hb dX1_nextIn_25 (by decide) (fun c_3 => ?_) (fun c_3 => ?_)
    · replace hf := (if_pos c_3).symm.trans hf
      refine lv_iinc (v := v2 + 1) (lv' := [(2, .int (v2 + 1)), (3, .int s0), (0, .ref t_p), (1, .int v1)]) hx hb dX1_nextIn_55 hl (k := 3) rfl rfl (by decide) rfl (fun ls hl => ?_)
      refine lv_goto (tgt := 2) hx hb dX1_nextIn_58 (by decide) ?_
      exact hk_2 v1 (v2 + 1) H locs ls hf hP hD hS (lv_sub hl [2, 3, 0] rfl)
    · replace hf := (if_neg c_3).symm.trans hf
      refine lv_aload_n hx hb dX1_nextIn_28 rfl (lv_at hl 1 rfl) ?_
      refine va_get (D := g.1) (ci := 1) (v := .ref t_p_ahead) (C := RX1) (T := TX1) (N := 10) hx hb hts hin1 hown hK.1 hP 0 rfl rfl 5 (by decide) L2 (fun _ h9 => h9) rfl dX1_nextIn_29 ?_
      refine lv_iload_n hx hb dX1_nextIn_32 rfl (lv_at hl 3 rfl) ?_
      obtain ⟨h_4, hf⟩ := if_some hf
      refine va_iald hx hb hK.1 hP 4 0 rfl rfl (ok_in h_4) dX1_nextIn_33 ?_
      refine lv_bipush (v := 9) hx hb dX1_nextIn_34 (by decide) ?_
      refine lv_icmp_eq (tgt := 53) hx hb dX1_nextIn_36 (by decide) (fun c_5 => ?_) (fun c_5 => ?_)
      · replace hf := (if_pos c_5).symm.trans hf
        refine lv_iload_n hx hb dX1_nextIn_53 rfl (lv_at hl 3 rfl) ?_
        replace hf := Option.some.inj hf
        subst hf
        exact W.iret (v := v2) hx hb hr (fun t ht hW => ⟨⟨_, (), rfl, rfl, by show va_P g.1 vwCl _ t.heap; rw [ht]; exact hP⟩, hS.F ht⟩) hS.2.2 dX1_nextIn_54 hlocks
      · replace hf := (if_neg c_5).symm.trans hf
        refine lv_iload_n hx hb dX1_nextIn_39 rfl (lv_at hl 2 rfl) ?_
        refine lv_aload_n hx hb dX1_nextIn_40 rfl (lv_at hl 1 rfl) ?_
        refine va_get (D := g.1) (ci := 1) (v := .ref t_p_ahead) (C := RX1) (T := TX1) (N := 10) hx hb hts hin1 hown hK.1 hP 0 rfl rfl 5 (by decide) L2 (fun _ h9 => h9) rfl dX1_nextIn_41 ?_
        refine lv_iload_n hx hb dX1_nextIn_44 rfl (lv_at hl 3 rfl) ?_
        obtain ⟨h_6, hf⟩ := if_some hf
        refine va_iald hx hb hK.1 hP 4 0 rfl rfl (ok_in h_6) dX1_nextIn_45 ?_
        refine lv_ishr hx hb dX1_nextIn_46 ?_
        refine lv_iconst (v := 1) hx hb dX1_nextIn_47 (by decide) ?_
        refine lv_iand hx hb dX1_nextIn_48 ?_
        refine lv_iconst (v := 1) hx hb dX1_nextIn_49 (by decide) ?_
        refine lv_icmp_ne (tgt := 55) hx hb dX1_nextIn_50 (by decide) (fun c_7 => ?_) (fun c_7 => ?_)
        · replace hf := (if_neg c_7).symm.trans hf
          refine lv_iinc (v := v2 + 1) (lv' := [(2, .int (v2 + 1)), (3, .int s0), (0, .ref t_p), (1, .int v1)]) hx hb dX1_nextIn_55 hl (k := 3) rfl rfl (by decide) rfl (fun ls hl => ?_)
          refine lv_goto (tgt := 2) hx hb dX1_nextIn_58 (by decide) ?_
          exact hk_2 v1 (v2 + 1) H locs ls hf hP hD hS (lv_sub hl [2, 3, 0] rfl)
        · replace hf := (if_pos c_7).symm.trans hf
          refine lv_iload_n hx hb dX1_nextIn_53 rfl (lv_at hl 3 rfl) ?_
          replace hf := Option.some.inj hf
          subst hf
          exact W.iret (v := v2) hx hb hr (fun t ht hW => ⟨⟨_, (), rfl, rfl, by show va_P g.1 vwCl _ t.heap; rw [ht]; exact hP⟩, hS.F ht⟩) hS.2.2 dX1_nextIn_54 hlocks
  have w_2 : ∀ n : Nat, ∀ (v1 : Int32) (v2 : Int32)  (H : Heap) (locs : List Loc) (ls : Array Slot), f1_nextIn_2  N n v1 v2 t_cores t_ahead = some res → va_P g.1 vwCl (fl [wk1 g t_p t_cavities t_p_volumes t_volumes t_p_drags t_drags t_p_freezes t_freezes t_cores t_p_ahead t_ahead t_stages t_p_places t_places t_p_speeds t_speeds t_p_settings t_settings]) H → va_D A (fl [wk1 g t_p t_cavities t_p_volumes t_volumes t_p_drags t_drags t_p_freezes t_freezes t_cores t_p_ahead t_ahead t_stages t_p_places t_places t_p_speeds t_speeds t_p_settings t_settings]) → va_S A s.heap H locs → lv_has ls 4 [(0, .ref t_p), (1, .int v1), (2, .int v2)] → W p l e ({ frames := 0, cells := 0, slots := 0, locals := 0 }) s m ([.ref t_p, .int l1] : List Value).toArray below meth c H locs 0 0 (MQ below (pQi g (fun r => r = res) (fl [wk1 g t_p t_cavities t_p_volumes t_volumes t_p_drags t_drags t_p_freezes t_freezes t_cores t_p_ahead t_ahead t_stages t_p_places t_places t_p_speeds t_speeds t_p_settings t_settings]) A) ([.ref t_p, .int l1] : List Value).toArray s 0 0 A) (F0 m 2 ls []) := by
    intro  n
    induction n with
    | zero => intro v1 v2 H locs ls hf; exact no_some hf
    | succ n ih =>
      intro v1 v2 H locs ls hf hP hD hS hl
      rw [f1_nextIn_2] at hf
      refine lv_iload_n hx hb dX1_nextIn_2 rfl (lv_at hl 2 rfl) ?_
      refine lv_aload_n hx hb dX1_nextIn_3 rfl (lv_at hl 0 rfl) ?_
      refine va_get (D := g.1) (ci := 1) (v := .int t_cores) (C := RX1) (T := TX1) (N := 10) hx hb hts hin1 hown hK.1 hP 0 rfl rfl 4 (by decide) L1 (fun _ h9 => h9) rfl dX1_nextIn_4 ?_
      refine lv_icmp_ge (tgt := 61) hx hb dX1_nextIn_7 (by decide) (fun c_1 => ?_) (fun c_1 => ?_)
      · replace hf := (if_pos c_1).symm.trans hf
        refine lv_bipush (v := (-4)) hx hb dX1_nextIn_61 (by decide) ?_
        replace hf := Option.some.inj hf
        subst hf
        exact W.iret (v := (-4)) hx hb hr (fun t ht hW => ⟨⟨_, (), rfl, rfl, by show va_P g.1 vwCl _ t.heap; rw [ht]; exact hP⟩, hS.F ht⟩) hS.2.2 dX1_nextIn_63 hlocks
      · replace hf := (if_neg c_1).symm.trans hf
        refine lv_iload_n hx hb dX1_nextIn_10 rfl (lv_at hl 1 rfl) ?_
        refine lv_iload_n hx hb dX1_nextIn_11 rfl (lv_at hl 2 rfl) ?_
        refine lv_ishr hx hb dX1_nextIn_12 ?_
        refine lv_iconst (v := 1) hx hb dX1_nextIn_13 (by decide) ?_
        refine lv_iand hx hb dX1_nextIn_14 ?_
        refine lv_if_ne (tgt := 22) hx hb dX1_nextIn_15 (by decide) (fun c_2 => ?_) (fun c_2 => ?_)
        · replace hf := (if_neg c_2).symm.trans hf
          refine lv_iconst (v := 0) hx hb dX1_nextIn_22 (by decide) ?_
          exact w_23 (fun a0 a1 a2 a3 => f1_nextIn_2 N n a0 a1 a2 a3) ih v1 v2 0 H locs ls hf hP hD hS (lv_sub hl [0, 1, 2] rfl)
        · replace hf := (if_pos c_2).symm.trans hf
          refine lv_iconst (v := 1) hx hb dX1_nextIn_18 (by decide) ?_
          refine lv_goto (tgt := 23) hx hb dX1_nextIn_19 (by decide) ?_
          exact w_23 (fun a0 a1 a2 a3 => f1_nextIn_2 N n a0 a1 a2 a3) ih v1 v2 1 H locs ls hf hP hD hS (lv_sub hl [0, 1, 2] rfl)
  have hl := lv_entry ([.ref t_p, .int l1]) (n := 4) (Nat.le_of_ble_eq_true rfl)
  rw [lg_entry_eq]
  generalize (lg_sl ([.ref t_p, .int l1]) ++ List.replicate (4 - (lg_sl ([.ref t_p, .int l1])).length) Slot.unset).toArray = ls at hl ⊢
  replace hl : lv_has ls 4 [(0, .ref t_p), (1, .int l1)] := hl
  rw [f1_nextIn] at hf
  have hgo : ∀ (H : Heap) (locs : List Loc), H = s.heap → locs = [] → va_P g.1 vwCl (fl [wk1 g t_p t_cavities t_p_volumes t_volumes t_p_drags t_drags t_p_freezes t_freezes t_cores t_p_ahead t_ahead t_stages t_p_places t_places t_p_speeds t_speeds t_p_settings t_settings]) H → va_S A s.heap H locs → W p l e ({ frames := 0, cells := 0, slots := 0, locals := 0 }) s m ([.ref t_p, .int l1] : List Value).toArray below meth c H locs 0 0 (MQ below (pQi g (fun r => r = res) (fl [wk1 g t_p t_cavities t_p_volumes t_volumes t_p_drags t_drags t_p_freezes t_freezes t_cores t_p_ahead t_ahead t_stages t_p_places t_places t_p_speeds t_speeds t_p_settings t_settings]) A) ([.ref t_p, .int l1] : List Value).toArray s 0 0 A) (F0 m 0 ls []) := by
    intro H locs hH hL hP hS
    refine lv_iconst (v := 0) hx hb dX1_nextIn_0 (by decide) ?_
    refine lv_istore_n (lv' := [(2, .int 0), (0, .ref t_p), (1, .int l1)]) hx hb dX1_nextIn_1 rfl hl (by decide) rfl (fun ls hl => ?_)
    exact w_2  N l1 0 H locs ls hf hP hD hS (lv_sub hl [1, 2, 0] rfl)
  exact hgo s.heap [] rfl rfl hP hS

set_option maxHeartbeats 4000000 in
set_option maxRecDepth 100000 in
theorem c1_coreInTurn (l : Launch) (g : gG) (t_p : Nat) (t_cavities : Int32) (t_p_volumes : Nat) (t_volumes : (Nat → Int32)) (t_p_drags : Nat) (t_drags : (Nat → Int32)) (t_p_freezes : Nat) (t_freezes : (Nat → Int32)) (t_cores : Int32) (t_p_ahead : Nat) (t_ahead : (Nat → Int32)) (t_stages : Int32) (t_p_places : Nat) (t_places : (Nat → Int32)) (t_p_speeds : Nat) (t_speeds : (Nat → Int32)) (t_p_settings : Nat) (t_settings : (Nat → Int32)) (l1 : Int32) (sz : Nat) (N : Nat) (res : (Int32)) (hf : f1_coreInTurn N l1 t_cores t_ahead = some res) : Met l yX1_coreInTurn wsX1_coreInTurn ({ frames := 1, cells := 0, slots := 0, locals := 23 }) (pP g [.ref t_p, .int l1] sz (fl [wk1 g t_p t_cavities t_p_volumes t_volumes t_p_drags t_drags t_p_freezes t_freezes t_cores t_p_ahead t_ahead t_stages t_p_places t_places t_p_speeds t_speeds t_p_settings t_settings])) (pQi g (fun r => r = res) (fl [wk1 g t_p t_cavities t_p_volumes t_volumes t_p_drags t_drags t_p_freezes t_freezes t_cores t_p_ahead t_ahead t_stages t_p_places t_places t_p_speeds t_speeds t_p_settings t_settings]) (va_A (fl [wk1 g t_p t_cavities t_p_volumes t_volumes t_p_drags t_drags t_p_freezes t_freezes t_cores t_p_ahead t_ahead t_stages t_p_places t_places t_p_speeds t_speeds t_p_settings t_settings]) sz)) 0 0 (va_A (fl [wk1 g t_p t_cavities t_p_volumes t_volumes t_p_drags t_drags t_p_freezes t_freezes t_cores t_p_ahead t_ahead t_stages t_p_places t_places t_p_speeds t_speeds t_p_settings t_settings]) sz) := by
  refine Met.ofW (cc := cX1_coreInTurn) (maxL := 5) (ret := (some .int)) (by decide) rfl ?_
  intro p e s m args below meth c s₁ B hml hv
  obtain ⟨rfl, hsz, hP, hK, hD0, hG⟩ := hv
  have hx := B.exec
  have hb := B.bytes
  have hr := B.returns
  have hts := atoms_spec (ws := wsX1_coreInTurn) B.pre
  have hown : s.vm.findClass RX1 = some m.cls := findClass_of_methodNamed B.named
  have hlocks := B.notSynchronized
  subst hsz
  have hD := hD0.self (sz := s.heap.size)
  generalize hAe : va_A (fl [wk1 g t_p t_cavities t_p_volumes t_volumes t_p_drags t_drags t_p_freezes t_freezes t_cores t_p_ahead t_ahead t_stages t_p_places t_places t_p_speeds t_speeds t_p_settings t_settings]) s.heap.size = A at hD hG ⊢
  have hA : ∀ q : Nat, s.heap.size ≤ q → A q := fun q h => by rw [← hAe]; exact Or.inr h
  have hS : va_S A s.heap s.heap [] := va_S.rf
  have hin1 : ∀ w ∈ u_ws RX1 TX1 10, w ∈ wsX1_coreInTurn := by decide +kernel
  have L1 := hts (Cond.fieldLink RX1 25 "MouldShots$Plan" "cores" "I") (by decide +kernel)
  have w_8 : ∀ n : Nat, ∀ (v1 : Int32) (v2 : Int32) (v3 : Int32) (v4 : Int32)  (H : Heap) (locs : List Loc) (ls : Array Slot), f1_coreInTurn_8  N n v1 v2 v3 v4 t_cores t_ahead = some res → va_P g.1 vwCl (fl [wk1 g t_p t_cavities t_p_volumes t_volumes t_p_drags t_drags t_p_freezes t_freezes t_cores t_p_ahead t_ahead t_stages t_p_places t_places t_p_speeds t_speeds t_p_settings t_settings]) H → va_D A (fl [wk1 g t_p t_cavities t_p_volumes t_volumes t_p_drags t_drags t_p_freezes t_freezes t_cores t_p_ahead t_ahead t_stages t_p_places t_places t_p_speeds t_speeds t_p_settings t_settings]) → va_S A s.heap H locs → lv_has ls 5 [(0, .ref t_p), (1, .int v1), (2, .int v2), (3, .int v3), (4, .int v4)] → W p l e ({ frames := 1, cells := 0, slots := 0, locals := 23 }) s m ([.ref t_p, .int l1] : List Value).toArray below meth c H locs 0 0 (MQ below (pQi g (fun r => r = res) (fl [wk1 g t_p t_cavities t_p_volumes t_volumes t_p_drags t_drags t_p_freezes t_freezes t_cores t_p_ahead t_ahead t_stages t_p_places t_places t_p_speeds t_speeds t_p_settings t_settings]) A) ([.ref t_p, .int l1] : List Value).toArray s 0 0 A) (F0 m 8 ls []) := by
    intro  n
    induction n with
    | zero => intro v1 v2 v3 v4 H locs ls hf; exact no_some hf
    | succ n ih =>
      intro v1 v2 v3 v4 H locs ls hf hP hD hS hl
      rw [f1_coreInTurn_8] at hf
      refine lv_iload hx hb dX1_coreInTurn_8 (lv_at hl 4 rfl) ?_
      refine lv_iload_n hx hb dX1_coreInTurn_10 rfl (lv_at hl 1 rfl) ?_
      refine lv_icmp_gt (tgt := 50) hx hb dX1_coreInTurn_11 (by decide) (fun c_1 => ?_) (fun c_1 => ?_)
      · replace hf := (if_pos c_1).symm.trans hf
        refine lv_iload_n hx hb dX1_coreInTurn_50 rfl (lv_at hl 3 rfl) ?_
        replace hf := Option.some.inj hf
        subst hf
        exact W.iret (v := v3) hx hb hr (fun t ht hW => ⟨⟨_, (), rfl, rfl, by show va_P g.1 vwCl _ t.heap; rw [ht]; exact hP⟩, hS.F ht⟩) hS.2.2 dX1_coreInTurn_51 hlocks
      · replace hf := (if_neg c_1).symm.trans hf
        refine lv_iload hx hb dX1_coreInTurn_14 (lv_at hl 4 rfl) ?_
        refine lv_aload_n hx hb dX1_coreInTurn_16 rfl (lv_at hl 0 rfl) ?_
        refine va_get (D := g.1) (ci := 1) (v := .int t_cores) (C := RX1) (T := TX1) (N := 10) hx hb hts hin1 hown hK.1 hP 0 rfl rfl 4 (by decide) L1 (fun _ h9 => h9) rfl dX1_coreInTurn_17 ?_
        refine lv_icmp_ge (tgt := 50) hx hb dX1_coreInTurn_20 (by decide) (fun c_2 => ?_) (fun c_2 => ?_)
        · replace hf := (if_pos c_2).symm.trans hf
          refine lv_iload_n hx hb dX1_coreInTurn_50 rfl (lv_at hl 3 rfl) ?_
          replace hf := Option.some.inj hf
          subst hf
          exact W.iret (v := v3) hx hb hr (fun t ht hW => ⟨⟨_, (), rfl, rfl, by show va_P g.1 vwCl _ t.heap; rw [ht]; exact hP⟩, hS.F ht⟩) hS.2.2 dX1_coreInTurn_51 hlocks
        · replace hf := (if_neg c_2).symm.trans hf
          refine lv_aload_n hx hb dX1_coreInTurn_23 rfl (lv_at hl 0 rfl) ?_
          refine lv_iload_n hx hb dX1_coreInTurn_24 rfl (lv_at hl 2 rfl) ?_
          obtain ⟨q_3, hq_3, hf⟩ := bd_some hf
          refine bft_i (bn := [wk1 g t_p t_cavities t_p_volumes t_volumes t_p_drags t_drags t_p_freezes t_freezes t_cores t_p_ahead t_ahead t_stages t_p_places t_places t_p_speeds t_speeds t_p_settings t_settings]) (L := [[t_p, t_p_volumes, t_p_drags, t_p_freezes, t_p_ahead, t_p_places, t_p_speeds, t_p_settings]]) (va_runV (As := [.int v2]) (rest := []) ⟨hx, hb, hml, hown, hts⟩ (c1_nextIn l g t_p t_cavities t_p_volumes t_volumes t_p_drags t_drags t_p_freezes t_freezes t_cores t_p_ahead t_ahead t_stages t_p_places t_places t_p_speeds t_speeds t_p_settings t_settings v2 H.size N q_3 hq_3) (cwV 1 hts gX1_coreInTurn_X1_nextIn rfl rfl rfl ⟨rfl, nh1.1, nh1.2, pd_2⟩ ⟨Nat.le_of_ble_eq_true rfl, Nat.le_of_ble_eq_true rfl⟩) (qPV hK hG hP hD hS hA [0] (by decide) rfl (va_recv hK.1 hP (ci := 1) (q0 := 0) rfl rfl)) rfl rfl hl.1 rfl (lv_room (Nat.le_of_ble_eq_true rfl)) dX1_coreInTurn_25 ⟨Nat.zero_le _, Nat.zero_le _⟩) hP hD hS hA [0] rfl rfl rfl rfl (fun r_4 H locs hw hP hD hS => ?_)
          replace hw := hw.symm
          subst hw
          refine lv_istore_n (lv' := [(3, .int q_3), (0, .ref t_p), (1, .int v1), (2, .int v2), (4, .int v4)]) hx hb dX1_coreInTurn_28 rfl hl (by decide) rfl (fun ls hl => ?_)
          refine lv_iload_n hx hb dX1_coreInTurn_29 rfl (lv_at hl 0 rfl) ?_
          refine lv_bipush (v := (-4)) hx hb dX1_coreInTurn_30 (by decide) ?_
          refine lv_icmp_ne (tgt := 38) hx hb dX1_coreInTurn_32 (by decide) (fun c_5 => ?_) (fun c_5 => ?_)
          · replace hf := (if_neg c_5).symm.trans hf
            refine lv_iload_n hx hb dX1_coreInTurn_38 rfl (lv_at hl 3 rfl) ?_
            refine lv_iconst (v := 1) hx hb dX1_coreInTurn_39 (by decide) ?_
            refine lv_iload_n hx hb dX1_coreInTurn_40 rfl (lv_at hl 0 rfl) ?_
            refine lv_ishl hx hb dX1_coreInTurn_41 ?_
            refine lv_ior hx hb dX1_coreInTurn_42 ?_
            refine lv_istore_n (lv' := [(2, .int (v2 ||| (1 <<< (q_3 &&& 31)))), (3, .int q_3), (0, .ref t_p), (1, .int v1), (4, .int v4)]) hx hb dX1_coreInTurn_43 rfl hl (by decide) rfl (fun ls hl => ?_)
            refine lv_iinc (v := v4 + 1) (lv' := [(4, .int (v4 + 1)), (2, .int (v2 ||| (1 <<< (q_3 &&& 31)))), (3, .int q_3), (0, .ref t_p), (1, .int v1)]) hx hb dX1_coreInTurn_44 hl (k := 4) rfl rfl (by decide) rfl (fun ls hl => ?_)
            refine lv_goto (tgt := 8) hx hb dX1_coreInTurn_47 (by decide) ?_
            exact ih v1 (v2 ||| (1 <<< (q_3 &&& 31))) q_3 (v4 + 1) H locs ls hf hP hD hS (lv_sub hl [3, 4, 1, 2, 0] rfl)
          · replace hf := (if_pos c_5).symm.trans hf
            refine lv_bipush (v := (-4)) hx hb dX1_coreInTurn_35 (by decide) ?_
            replace hf := Option.some.inj hf
            subst hf
            exact W.iret (v := (-4)) hx hb hr (fun t ht hW => ⟨⟨_, (), rfl, rfl, by show va_P g.1 vwCl _ t.heap; rw [ht]; exact hP⟩, hS.F ht⟩) hS.2.2 dX1_coreInTurn_37 hlocks
  have hl := lv_entry ([.ref t_p, .int l1]) (n := 5) (Nat.le_of_ble_eq_true rfl)
  rw [lg_entry_eq]
  generalize (lg_sl ([.ref t_p, .int l1]) ++ List.replicate (5 - (lg_sl ([.ref t_p, .int l1])).length) Slot.unset).toArray = ls at hl ⊢
  replace hl : lv_has ls 5 [(0, .ref t_p), (1, .int l1)] := hl
  rw [f1_coreInTurn] at hf
  have hgo : ∀ (H : Heap) (locs : List Loc), H = s.heap → locs = [] → va_P g.1 vwCl (fl [wk1 g t_p t_cavities t_p_volumes t_volumes t_p_drags t_drags t_p_freezes t_freezes t_cores t_p_ahead t_ahead t_stages t_p_places t_places t_p_speeds t_speeds t_p_settings t_settings]) H → va_S A s.heap H locs → W p l e ({ frames := 1, cells := 0, slots := 0, locals := 23 }) s m ([.ref t_p, .int l1] : List Value).toArray below meth c H locs 0 0 (MQ below (pQi g (fun r => r = res) (fl [wk1 g t_p t_cavities t_p_volumes t_volumes t_p_drags t_drags t_p_freezes t_freezes t_cores t_p_ahead t_ahead t_stages t_p_places t_places t_p_speeds t_speeds t_p_settings t_settings]) A) ([.ref t_p, .int l1] : List Value).toArray s 0 0 A) (F0 m 0 ls []) := by
    intro H locs hH hL hP hS
    refine lv_iconst (v := 0) hx hb dX1_coreInTurn_0 (by decide) ?_
    refine lv_istore_n (lv' := [(2, .int 0), (0, .ref t_p), (1, .int l1)]) hx hb dX1_coreInTurn_1 rfl hl (by decide) rfl (fun ls hl => ?_)
    refine lv_bipush (v := (-4)) hx hb dX1_coreInTurn_2 (by decide) ?_
    refine lv_istore_n (lv' := [(3, .int (-4)), (2, .int 0), (0, .ref t_p), (1, .int l1)]) hx hb dX1_coreInTurn_4 rfl hl (by decide) rfl (fun ls hl => ?_)
    refine lv_iconst (v := 0) hx hb dX1_coreInTurn_5 (by decide) ?_
    refine lv_istore (lv' := [(4, .int 0), (3, .int (-4)), (2, .int 0), (0, .ref t_p), (1, .int l1)]) hx hb dX1_coreInTurn_6 hl (by decide) rfl (fun ls hl => ?_)
    exact w_8  N l1 0 (-4) 0 H locs ls hf hP hD hS (lv_sub hl [3, 4, 2, 1, 0] rfl)
  exact hgo s.heap [] rfl rfl hP hS
