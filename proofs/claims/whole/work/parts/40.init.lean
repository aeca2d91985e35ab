theorem cA_int {g : gG} {s : State} {cA : ClassId} (h : va_K g.1 vwCl (gT g ++ [(cA, .int)]) s) : g.2.1 = cA := by
  have h1 := (h.2 0 (g.2.1, .int) rfl).2
  have h2 := (h.2 3 (cA, .int) rfl).2
  exact Option.some.inj (h1.symm.trans h2)
section AFTC
variable {p : Program} {l : Launch} {e : Env} {R : Room} {s : State} {m : MethodId} {args : Array Value} {below : List Frame} {meth : Method} {c : Code} {H : Heap} {locs : List Loc} {cells slots mc ms : Nat} {Q : State → Prop}
variable {pc : Nat} {ls : Array Slot} {rest st0 : List Value} {a : Array Value} {A0 : Nat → Prop} {H0 : Heap} {g : gG} {ws wc wr : va_W}
theorem aft_c {S : Type} {w1 : S → va_W} (hr : va_Run p l e R s m args below meth c H locs cells slots mc ms (F0 m pc ls st0) rest (va_Qv (fun (_ : S) => True) (fun u t => va_P g.1 vwCl (w1 u) t.heap ∧ va_D (va_A wc H.size) (w1 u)) (va_A wc H.size) a) (va_A wc H.size)) (hP : va_P g.1 vwCl ws H) (hD : va_D A0 ws) (hS : va_S A0 H0 H locs) (hA : ∀ q, H0.size ≤ q → A0 q) (isC isR : List Nat) (hC : isC.map (fun i => ws[i]?) = wc.map some) (hR : isR.map (fun i => ws[i]?) = wr.map some) (hn : va_nd isR = true) (hdis : ∀ i ∈ isR, i ∉ isC)
    (kk : ∀ (u : S) (H1 : Heap) (locs1 : List Loc), va_P g.1 vwCl (wr ++ w1 u) H1 → va_D A0 (wr ++ w1 u) → va_S A0 H0 H1 locs1 → W p l e R s m args below meth c H1 locs1 (cells + mc) (slots + ms) Q (F0 m (pc + 3) ls rest)) : W p l e R s m args below meth c H locs cells slots Q (F0 m pc ls st0) := by
  have hF := va_free (wc := wc) hD hS hA isC hC
  refine va_callv hr hS (fun q _ h => hF q h) hF (fun u t H1 locs1 ht hvm hw hB hz hk hS1 => ?_)
  rw [ht] at hB
  obtain ⟨h1, h2⟩ := va_join hP hD isC isR hC hR hn hdis hk hF hB.1 hB.2
  exact kk u H1 locs1 h1 h2 hS1
end AFTC
set_option maxHeartbeats 8000000 in
set_option maxRecDepth 100000 in
theorem c0_init (l : Launch) (g : gG) (t_p : Nat) (sz : Nat) : Met l yX0_init wsX0_init ({ frames := 1, cells := 2, slots := 120, locals := 12 }) (pP g [.ref t_p] sz [(t_p, .inr (0, [.int 0, .int 0, .int 0, .null, .null]))]) (va_Qv (fun (_ : Nat × Nat) => True) (fun u t => va_P g.1 vwCl ([(t_p, .inr (0, [.int 0, .int 0, .int 0, .ref (u.1), .ref (u.2)])), ((u.1), .inl (g.2.1, 60, .inl (fun _ => 0))), ((u.2), .inl (g.2.1, 60, .inl (fun _ => 0)))]) t.heap ∧ va_D (va_A [(t_p, .inr (0, [.int 0, .int 0, .int 0, .null, .null]))] sz) ([(t_p, .inr (0, [.int 0, .int 0, .int 0, .ref (u.1), .ref (u.2)])), ((u.1), .inl (g.2.1, 60, .inl (fun _ => 0))), ((u.2), .inl (g.2.1, 60, .inl (fun _ => 0)))])) (va_A [(t_p, .inr (0, [.int 0, .int 0, .int 0, .null, .null]))] sz)) 2 120 (va_A [(t_p, .inr (0, [.int 0, .int 0, .int 0, .null, .null]))] sz) := by
  refine Met.ofW (cc := cX0_init) (maxL := 1) (ret := none) (by decide) rfl ?_
  intro p e s m args below meth c s₁ B hml hv
  obtain ⟨rfl, hsz, hP, hK, hD0, hG⟩ := hv
  have hx := B.exec
  have hb := B.bytes
  have hr := B.returns
  have hts := atoms_spec (ws := wsX0_init) B.pre
  have hown : s.vm.findClass RX0 = some m.cls := findClass_of_methodNamed B.named
  have hlocks := B.notSynchronized
  have hin : meth.name = "<init>" := (name_of_methodNamed B.named B.method).1
  subst hsz
  have hD := hD0.self (sz := s.heap.size)
  generalize hAe : va_A [(t_p, .inr (0, [.int 0, .int 0, .int 0, .null, .null]))] s.heap.size = A at hD hG ⊢
  have hA : ∀ q : Nat, s.heap.size ≤ q → A q := fun q h => by rw [← hAe]; exact Or.inr h
  have hS : va_S A s.heap s.heap [] := va_S.rf
  have hin0 : ∀ w ∈ u_ws RX0 TX0 5, w ∈ wsX0_init := by decide +kernel
  have L1 := hts (Cond.methodLink RX0 3 objectInit) (by decide +kernel)
  have L2 := hts (Cond.instanceMethod objectInit) (by decide +kernel)
  have L3 := hts (Cond.code objectInit ⟨#[0xb1]⟩ 1 none) (by decide +kernel)
  have L4 := hts (Cond.fieldLink RX0 9 "MouldShots$Band" "teachers" "I") (by decide +kernel)
  have L5 := hts (Cond.fieldLink RX0 15 "MouldShots$Band" "shortest" "I") (by decide +kernel)
  have L6 := hts (Cond.fieldLink RX0 18 "MouldShots$Band" "longest" "I") (by decide +kernel)
  have L7 := hts (Cond.arrayClass .int) (by decide +kernel)
  have L8 := hts (Cond.fieldLink RX0 21 "MouldShots$Band" "least" "[I") (by decide +kernel)
  have L9 := hts (Cond.fieldLink RX0 25 "MouldShots$Band" "greatest" "[I") (by decide +kernel)
  have hl := lv_entry ([.ref t_p]) (n := 1) (Nat.le_of_ble_eq_true rfl)
  rw [lg_entry_eq]
  generalize (lg_sl ([.ref t_p]) ++ List.replicate (1 - (lg_sl ([.ref t_p])).length) Slot.unset).toArray = ls at hl ⊢
  replace hl : lv_has ls 1 [(0, .ref t_p)] := hl
  refine lv_aload_n hx hb dX0_init_0 rfl (lv_at hl 0 rfl) ?_
  refine W.objInit hx hb hown L1 L2 L3 rfl (by rw [hml]; exact hl.1) rfl dX0_init_1 (Nat.le_of_ble_eq_true rfl) (Nat.le_of_ble_eq_true rfl) ?_
  refine W.eq (g2 := F0 m 4 ls []) rfl ?_
  refine lv_aload_n hx hb dX0_init_4 rfl (lv_at hl 0 rfl) ?_
  refine lv_iconst (v := 0) hx hb dX0_init_5 (by decide) ?_
  refine va_put (D := g.1) (ci := 0) (v := .int 0) (ty := .int) (C := RX0) (T := TX0) (N := 5) hx hb hts hin0 tyX0 tyX0_ok nmX0 hown hK.1 hP hD hS 0 rfl rfl 0 (by decide) L4 (fun _ h9 => h9) rfl (by decide +kernel) rfl rfl (Nat.le_of_ble_eq_true rfl) dX0_init_6 (fun H locs hP hD hS => ?_)
  replace hP : va_P g.1 vwCl ([(t_p, .inr (0, [.int 0, .int 0, .int 0, .null, .null]))]) H := hP
  replace hD : va_D A ([(t_p, .inr (0, [.int 0, .int 0, .int 0, .null, .null]))]) := hD
  refine lv_aload_n hx hb dX0_init_9 rfl (lv_at hl 0 rfl) ?_
  refine lv_iconst (v := 0) hx hb dX0_init_10 (by decide) ?_
  refine va_put (D := g.1) (ci := 0) (v := .int 0) (ty := .int) (C := RX0) (T := TX0) (N := 5) hx hb hts hin0 tyX0 tyX0_ok nmX0 hown hK.1 hP hD hS 0 rfl rfl 1 (by decide) L5 (fun _ h9 => h9) rfl (by decide +kernel) rfl rfl (Nat.le_of_ble_eq_true rfl) dX0_init_11 (fun H locs hP hD hS => ?_)
  replace hP : va_P g.1 vwCl ([(t_p, .inr (0, [.int 0, .int 0, .int 0, .null, .null]))]) H := hP
  replace hD : va_D A ([(t_p, .inr (0, [.int 0, .int 0, .int 0, .null, .null]))]) := hD
  refine lv_aload_n hx hb dX0_init_14 rfl (lv_at hl 0 rfl) ?_
  refine lv_iconst (v := 0) hx hb dX0_init_15 (by decide) ?_
  refine va_put (D := g.1) (ci := 0) (v := .int 0) (ty := .int) (C := RX0) (T := TX0) (N := 5) hx hb hts hin0 tyX0 tyX0_ok nmX0 hown hK.1 hP hD hS 0 rfl rfl 2 (by decide) L6 (fun _ h9 => h9) rfl (by decide +kernel) rfl rfl (Nat.le_of_ble_eq_true rfl) dX0_init_16 (fun H locs hP hD hS => ?_)
  replace hP : va_P g.1 vwCl ([(t_p, .inr (0, [.int 0, .int 0, .int 0, .null, .null]))]) H := hP
  replace hD : va_D A ([(t_p, .inr (0, [.int 0, .int 0, .int 0, .null, .null]))]) := hD
  refine lv_aload_n hx hb dX0_init_19 rfl (lv_at hl 0 rfl) ?_
  refine lv_bipush (v := 60) hx hb dX0_init_20 (by decide) ?_
  refine va_newa (atype := .int) (ty := .int) (N' := 60) (a0 := (60, .inl (fun _ => 0))) hx hb L7 rfl hK.1 hP hD hS hA (fun _ => rfl) (by decide) (by decide) (Nat.le_of_ble_eq_true rfl) (Nat.le_of_ble_eq_true rfl) (Nat.le_of_ble_eq_true rfl) dX0_init_22 (fun a_1 k_2 H hK_3 hP hD hS => ?_)
  obtain rfl := cA_int hK_3
  refine W.widen (k := 1) (n := 60) (Nat.le_refl _) (Nat.le_refl _) ?_
  replace hP : va_P g.1 vwCl ([(t_p, .inr (0, [.int 0, .int 0, .int 0, .null, .null])), (a_1, .inl (g.2.1, 60, .inl (fun _ => 0)))]) H := hP
  replace hD : va_D A ([(t_p, .inr (0, [.int 0, .int 0, .int 0, .null, .null])), (a_1, .inl (g.2.1, 60, .inl (fun _ => 0)))]) := hD
  refine va_putF (D := g.1) (ci := 0) (v := .ref a_1) (ty := (.array .int)) (C := RX0) (T := TX0) (N := 5) hx hb hts hin0 tyX0 tyX0_ok nmX0 hown hK.1 hP hD hS 0 rfl rfl 3 (by decide) L8 (fun _ h9 => h9) rfl hin rfl (by decide +kernel) rfl rfl (Nat.le_of_ble_eq_true rfl) dX0_init_24 (fun H locs hP hD hS => ?_)
  replace hP : va_P g.1 vwCl ([(t_p, .inr (0, [.int 0, .int 0, .int 0, .ref a_1, .null])), (a_1, .inl (g.2.1, 60, .inl (fun _ => 0)))]) H := hP
  replace hD : va_D A ([(t_p, .inr (0, [.int 0, .int 0, .int 0, .ref a_1, .null])), (a_1, .inl (g.2.1, 60, .inl (fun _ => 0)))]) := hD
  refine lv_aload_n hx hb dX0_init_27 rfl (lv_at hl 0 rfl) ?_
  refine lv_bipush (v := 60) hx hb dX0_init_28 (by decide) ?_
  refine va_newa (atype := .int) (ty := .int) (N' := 60) (a0 := (60, .inl (fun _ => 0))) hx hb L7 rfl hK.1 hP hD hS hA (fun _ => rfl) (by decide) (by decide) (Nat.le_of_ble_eq_true rfl) (Nat.le_of_ble_eq_true rfl) (Nat.le_of_ble_eq_true rfl) dX0_init_30 (fun a_4 k_5 H hK_6 hP hD hS => ?_)
  obtain rfl := cA_int hK_6
  refine W.widen (k := 2) (n := 120) (Nat.le_refl _) (Nat.le_refl _) ?_
  replace hP : va_P g.1 vwCl ([(t_p, .inr (0, [.int 0, .int 0, .int 0, .ref a_1, .null])), (a_1, .inl (g.2.1, 60, .inl (fun _ => 0))), (a_4, .inl (g.2.1, 60, .inl (fun _ => 0)))]) H := hP
  replace hD : va_D A ([(t_p, .inr (0, [.int 0, .int 0, .int 0, .ref a_1, .null])), (a_1, .inl (g.2.1, 60, .inl (fun _ => 0))), (a_4, .inl (g.2.1, 60, .inl (fun _ => 0)))]) := hD
  refine va_putF (D := g.1) (ci := 0) (v := .ref a_4) (ty := (.array .int)) (C := RX0) (T := TX0) (N := 5) hx hb hts hin0 tyX0 tyX0_ok nmX0 hown hK.1 hP hD hS 0 rfl rfl 4 (by decide) L9 (fun _ h9 => h9) rfl hin rfl (by decide +kernel) rfl rfl (Nat.le_of_ble_eq_true rfl) dX0_init_32 (fun H locs hP hD hS => ?_)
  replace hP : va_P g.1 vwCl ([(t_p, .inr (0, [.int 0, .int 0, .int 0, .ref a_1, .ref a_4])), (a_1, .inl (g.2.1, 60, .inl (fun _ => 0))), (a_4, .inl (g.2.1, 60, .inl (fun _ => 0)))]) H := hP
  replace hD : va_D A ([(t_p, .inr (0, [.int 0, .int 0, .int 0, .ref a_1, .ref a_4])), (a_1, .inl (g.2.1, 60, .inl (fun _ => 0))), (a_4, .inl (g.2.1, 60, .inl (fun _ => 0)))]) := hD
  exact W.vret hx hb hr (fun t ht hW => ⟨⟨⟨a_1, a_4⟩, rfl, trivial, by show va_P g.1 vwCl _ t.heap; rw [ht]; exact hP, hD⟩, hS.F ht⟩) hS.2.2 dX0_init_35 hlocks

set_option maxHeartbeats 8000000 in
set_option maxRecDepth 100000 in
theorem c1_init (l : Launch) (g : gG) (t_p : Nat) (sz : Nat) : Met l yX1_init wsX1_init ({ frames := 1, cells := 7, slots := 36, locals := 12 }) (pP g [.ref t_p] sz [(t_p, .inr (1, [.int 0, .null, .null, .null, .int 0, .null, .int 0, .null, .null, .null]))]) (va_Qv (fun (_ : Nat × Nat × Nat × Nat × Nat × Nat × Nat) => True) (fun u t => va_P g.1 vwCl ([(t_p, .inr (1, [.int 0, .ref (u.1), .ref (u.2.1), .ref (u.2.2.1), .int 0, .ref (u.2.2.2.1), .int 0, .ref (u.2.2.2.2.1), .ref (u.2.2.2.2.2.1), .ref (u.2.2.2.2.2.2)])), ((u.1), .inl (g.2.1, 6, .inl (fun _ => 0))), ((u.2.1), .inl (g.2.1, 6, .inl (fun _ => 0))), ((u.2.2.1), .inl (g.2.1, 6, .inl (fun _ => 0))), ((u.2.2.2.1), .inl (g.2.1, 4, .inl (fun _ => 0))), ((u.2.2.2.2.1), .inl (g.2.1, 4, .inl (fun _ => 0))), ((u.2.2.2.2.2.1), .inl (g.2.1, 4, .inl (fun _ => 0))), ((u.2.2.2.2.2.2), .inl (g.2.1, 6, .inl (fun _ => 0)))]) t.heap ∧ va_D (va_A [(t_p, .inr (1, [.int 0, .null, .null, .null, .int 0, .null, .int 0, .null, .null, .null]))] sz) ([(t_p, .inr (1, [.int 0, .ref (u.1), .ref (u.2.1), .ref (u.2.2.1), .int 0, .ref (u.2.2.2.1), .int 0, .ref (u.2.2.2.2.1), .ref (u.2.2.2.2.2.1), .ref (u.2.2.2.2.2.2)])), ((u.1), .inl (g.2.1, 6, .inl (fun _ => 0))), ((u.2.1), .inl (g.2.1, 6, .inl (fun _ => 0))), ((u.2.2.1), .inl (g.2.1, 6, .inl (fun _ => 0))), ((u.2.2.2.1), .inl (g.2.1, 4, .inl (fun _ => 0))), ((u.2.2.2.2.1), .inl (g.2.1, 4, .inl (fun _ => 0))), ((u.2.2.2.2.2.1), .inl (g.2.1, 4, .inl (fun _ => 0))), ((u.2.2.2.2.2.2), .inl (g.2.1, 6, .inl (fun _ => 0)))])) (va_A [(t_p, .inr (1, [.int 0, .null, .null, .null, .int 0, .null, .int 0, .null, .null, .null]))] sz)) 7 36 (va_A [(t_p, .inr (1, [.int 0, .null, .null, .null, .int 0, .null, .int 0, .null, .null, .null]))] sz) := by
  refine Met.ofW (cc := cX1_init) (maxL := 1) (ret := none) (by decide) rfl ?_
  intro p e s m args below meth c s₁ B hml hv
  obtain ⟨rfl, hsz, hP, hK, hD0, hG⟩ := hv
  have hx := B.exec
  have hb := B.bytes
  have hr := B.returns
  have hts := atoms_spec (ws := wsX1_init) B.pre
  have hown : s.vm.findClass RX1 = some m.cls := findClass_of_methodNamed B.named
  have hlocks := B.notSynchronized
  have hin : meth.name = "<init>" := (name_of_methodNamed B.named B.method).1
  subst hsz
  have hD := hD0.self (sz := s.heap.size)
  generalize hAe : va_A [(t_p, .inr (1, [.int 0, .null, .null, .null, .int 0, .null, .int 0, .null, .null, .null]))] s.heap.size = A at hD hG ⊢
  have hA : ∀ q : Nat, s.heap.size ≤ q → A q := fun q h => by rw [← hAe]; exact Or.inr h
  have hS : va_S A s.heap s.heap [] := va_S.rf
  have hin1 : ∀ w ∈ u_ws RX1 TX1 10, w ∈ wsX1_init := by decide +kernel
  have L1 := hts (Cond.methodLink RX1 3 objectInit) (by decide +kernel)
  have L2 := hts (Cond.instanceMethod objectInit) (by decide +kernel)
  have L3 := hts (Cond.code objectInit ⟨#[0xb1]⟩ 1 none) (by decide +kernel)
  have L4 := hts (Cond.fieldLink RX1 9 "MouldShots$Plan" "cavities" "I") (by decide +kernel)
  have L5 := hts (Cond.arrayClass .int) (by decide +kernel)
  have L6 := hts (Cond.fieldLink RX1 15 "MouldShots$Plan" "volumes" "[I") (by decide +kernel)
  have L7 := hts (Cond.fieldLink RX1 19 "MouldShots$Plan" "drags" "[I") (by decide +kernel)
  have L8 := hts (Cond.fieldLink RX1 22 "MouldShots$Plan" "freezes" "[I") (by decide +kernel)
  have L9 := hts (Cond.fieldLink RX1 25 "MouldShots$Plan" "cores" "I") (by decide +kernel)
  have L10 := hts (Cond.fieldLink RX1 28 "MouldShots$Plan" "ahead" "[I") (by decide +kernel)
  have L11 := hts (Cond.fieldLink RX1 31 "MouldShots$Plan" "stages" "I") (by decide +kernel)
  have L12 := hts (Cond.fieldLink RX1 34 "MouldShots$Plan" "places" "[I") (by decide +kernel)
  have L13 := hts (Cond.fieldLink RX1 37 "MouldShots$Plan" "speeds" "[I") (by decide +kernel)
  have L14 := hts (Cond.fieldLink RX1 40 "MouldShots$Plan" "settings" "[I") (by decide +kernel)
  have hl := lv_entry ([.ref t_p]) (n := 1) (Nat.le_of_ble_eq_true rfl)
  rw [lg_entry_eq]
  generalize (lg_sl ([.ref t_p]) ++ List.replicate (1 - (lg_sl ([.ref t_p])).length) Slot.unset).toArray = ls at hl ⊢
  replace hl : lv_has ls 1 [(0, .ref t_p)] := hl
  refine lv_aload_n hx hb dX1_init_0 rfl (lv_at hl 0 rfl) ?_
  refine W.objInit hx hb hown L1 L2 L3 rfl (by rw [hml]; exact hl.1) rfl dX1_init_1 (Nat.le_of_ble_eq_true rfl) (Nat.le_of_ble_eq_true rfl) ?_
  refine W.eq (g2 := F0 m 4 ls []) rfl ?_
  refine lv_aload_n hx hb dX1_init_4 rfl (lv_at hl 0 rfl) ?_
  refine lv_iconst (v := 0) hx hb dX1_init_5 (by decide) ?_
  refine va_put (D := g.1) (ci := 1) (v := .int 0) (ty := .int) (C := RX1) (T := TX1) (N := 10) hx hb hts hin1 tyX1 tyX1_ok nmX1 hown hK.1 hP hD hS 0 rfl rfl 0 (by decide) L4 (fun _ h9 => h9) rfl (by decide +kernel) rfl rfl (Nat.le_of_ble_eq_true rfl) dX1_init_6 (fun H locs hP hD hS => ?_)
  replace hP : va_P g.1 vwCl ([(t_p, .inr (1, [.int 0, .null, .null, .null, .int 0, .null, .int 0, .null, .null, .null]))]) H := hP
  replace hD : va_D A ([(t_p, .inr (1, [.int 0, .null, .null, .null, .int 0, .null, .int 0, .null, .null, .null]))]) := hD
  refine lv_aload_n hx hb dX1_init_9 rfl (lv_at hl 0 rfl) ?_
  refine lv_bipush (v := 6) hx hb dX1_init_10 (by decide) ?_
  refine va_newa (atype := .int) (ty := .int) (N' := 6) (a0 := (6, .inl (fun _ => 0))) hx hb L5 rfl hK.1 hP hD hS hA (fun _ => rfl) (by decide) (by decide) (Nat.le_of_ble_eq_true rfl) (Nat.le_of_ble_eq_true rfl) (Nat.le_of_ble_eq_true rfl) dX1_init_12 (fun a_1 k_2 H hK_3 hP hD hS => ?_)
  obtain rfl := cA_int hK_3
  refine W.widen (k := 1) (n := 6) (Nat.le_refl _) (Nat.le_refl _) ?_
  replace hP : va_P g.1 vwCl ([(t_p, .inr (1, [.int 0, .null, .null, .null, .int 0, .null, .int 0, .null, .null, .null])), (a_1, .inl (g.2.1, 6, .inl (fun _ => 0)))]) H := hP
  replace hD : va_D A ([(t_p, .inr (1, [.int 0, .null, .null, .null, .int 0, .null, .int 0, .null, .null, .null])), (a_1, .inl (g.2.1, 6, .inl (fun _ => 0)))]) := hD
  refine va_putF (D := g.1) (ci := 1) (v := .ref a_1) (ty := (.array .int)) (C := RX1) (T := TX1) (N := 10) hx hb hts hin1 tyX1 tyX1_ok nmX1 hown hK.1 hP hD hS 0 rfl rfl 1 (by decide) L6 (fun _ h9 => h9) rfl hin rfl (by decide +kernel) rfl rfl (Nat.le_of_ble_eq_true rfl) dX1_init_14 (fun H locs hP hD hS => ?_)
  replace hP : va_P g.1 vwCl ([(t_p, .inr (1, [.int 0, .ref a_1, .null, .null, .int 0, .null, .int 0, .null, .null, .null])), (a_1, .inl (g.2.1, 6, .inl (fun _ => 0)))]) H := hP
  replace hD : va_D A ([(t_p, .inr (1, [.int 0, .ref a_1, .null, .null, .int 0, .null, .int 0, .null, .null, .null])), (a_1, .inl (g.2.1, 6, .inl (fun _ => 0)))]) := hD
  refine lv_aload_n hx hb dX1_init_17 rfl (lv_at hl 0 rfl) ?_
  refine lv_bipush (v := 6) hx hb dX1_init_18 (by decide) ?_
  refine va_newa (atype := .int) (ty := .int) (N' := 6) (a0 := (6, .inl (fun _ => 0))) hx hb L5 rfl hK.1 hP hD hS hA (fun _ => rfl) (by decide) (by decide) (Nat.le_of_ble_eq_true rfl) (Nat.le_of_ble_eq_true rfl) (Nat.le_of_ble_eq_true rfl) dX1_init_20 (fun a_4 k_5 H hK_6 hP hD hS => ?_)
  obtain rfl := cA_int hK_6
  refine W.widen (k := 2) (n := 12) (Nat.le_refl _) (Nat.le_refl _) ?_
  replace hP : va_P g.1 vwCl ([(t_p, .inr (1, [.int 0, .ref a_1, .null, .null, .int 0, .null, .int 0, .null, .null, .null])), (a_1, .inl (g.2.1, 6, .inl (fun _ => 0))), (a_4, .inl (g.2.1, 6, .inl (fun _ => 0)))]) H := hP
  replace hD : va_D A ([(t_p, .inr (1, [.int 0, .ref a_1, .null, .null, .int 0, .null, .int 0, .null, .null, .null])), (a_1, .inl (g.2.1, 6, .inl (fun _ => 0))), (a_4, .inl (g.2.1, 6, .inl (fun _ => 0)))]) := hD
  refine va_putF (D := g.1) (ci := 1) (v := .ref a_4) (ty := (.array .int)) (C := RX1) (T := TX1) (N := 10) hx hb hts hin1 tyX1 tyX1_ok nmX1 hown hK.1 hP hD hS 0 rfl rfl 2 (by decide) L7 (fun _ h9 => h9) rfl hin rfl (by decide +kernel) rfl rfl (Nat.le_of_ble_eq_true rfl) dX1_init_22 (fun H locs hP hD hS => ?_)
  replace hP : va_P g.1 vwCl ([(t_p, .inr (1, [.int 0, .ref a_1, .ref a_4, .null, .int 0, .null, .int 0, .null, .null, .null])), (a_1, .inl (g.2.1, 6, .inl (fun _ => 0))), (a_4, .inl (g.2.1, 6, .inl (fun _ => 0)))]) H := hP
  replace hD : va_D A ([(t_p, .inr (1, [.int 0, .ref a_1, .ref a_4, .null, .int 0, .null, .int 0, .null, .null, .null])), (a_1, .inl (g.2.1, 6, .inl (fun _ => 0))), (a_4, .inl (g.2.1, 6, .inl (fun _ => 0)))]) := hD
  refine lv_aload_n hx hb dX1_init_25 rfl (lv_at hl 0 rfl) ?_
  refine lv_bipush (v := 6) hx hb dX1_init_26 (by decide) ?_
  refine va_newa (atype := .int) (ty := .int) (N' := 6) (a0 := (6, .inl (fun _ => 0))) hx hb L5 rfl hK.1 hP hD hS hA (fun _ => rfl) (by decide) (by decide) (Nat.le_of_ble_eq_true rfl) (Nat.le_of_ble_eq_true rfl) (Nat.le_of_ble_eq_true rfl) dX1_init_28 (fun a_7 k_8 H hK_9 hP hD hS => ?_)
  obtain rfl := cA_int hK_9
  refine W.widen (k := 3) (n := 18) (Nat.le_refl _) (Nat.le_refl _) ?_
  replace hP : va_P g.1 vwCl ([(t_p, .inr (1, [.int 0, .ref a_1, .ref a_4, .null, .int 0, .null, .int 0, .null, .null, .null])), (a_1, .inl (g.2.1, 6, .inl (fun _ => 0))), (a_4, .inl (g.2.1, 6, .inl (fun _ => 0))), (a_7, .inl (g.2.1, 6, .inl (fun _ => 0)))]) H := hP
  replace hD : va_D A ([(t_p, .inr (1, [.int 0, .ref a_1, .ref a_4, .null, .int 0, .null, .int 0, .null, .null, .null])), (a_1, .inl (g.2.1, 6, .inl (fun _ => 0))), (a_4, .inl (g.2.1, 6, .inl (fun _ => 0))), (a_7, .inl (g.2.1, 6, .inl (fun _ => 0)))]) := hD
  refine va_putF (D := g.1) (ci := 1) (v := .ref a_7) (ty := (.array .int)) (C := RX1) (T := TX1) (N := 10) hx hb hts hin1 tyX1 tyX1_ok nmX1 hown hK.1 hP hD hS 0 rfl rfl 3 (by decide) L8 (fun _ h9 => h9) rfl hin rfl (by decide +kernel) rfl rfl (Nat.le_of_ble_eq_true rfl) dX1_init_30 (fun H locs hP hD hS => ?_)
  replace hP : va_P g.1 vwCl ([(t_p, .inr (1, [.int 0, .ref a_1, .ref a_4, .ref a_7, .int 0, .null, .int 0, .null, .null, .null])), (a_1, .inl (g.2.1, 6, .inl (fun _ => 0))), (a_4, .inl (g.2.1, 6, .inl (fun _ => 0))), (a_7, .inl (g.2.1, 6, .inl (fun _ => 0)))]) H := hP
  replace hD : va_D A ([(t_p, .inr (1, [.int 0, .ref a_1, .ref a_4, .ref a_7, .int 0, .null, .int 0, .null, .null, .null])), (a_1, .inl (g.2.1, 6, .inl (fun _ => 0))), (a_4, .inl (g.2.1, 6, .inl (fun _ => 0))), (a_7, .inl (g.2.1, 6, .inl (fun _ => 0)))]) := hD
  refine lv_aload_n hx hb dX1_init_33 rfl (lv_at hl 0 rfl) ?_
  refine lv_iconst (v := 0) hx hb dX1_init_34 (by decide) ?_
  refine va_put (D := g.1) (ci := 1) (v := .int 0) (ty := .int) (C := RX1) (T := TX1) (N := 10) hx hb hts hin1 tyX1 tyX1_ok nmX1 hown hK.1 hP hD hS 0 rfl rfl 4 (by decide) L9 (fun _ h9 => h9) rfl (by decide +kernel) rfl rfl (Nat.le_of_ble_eq_true rfl) dX1_init_35 (fun H locs hP hD hS => ?_)
  replace hP : va_P g.1 vwCl ([(t_p, .inr (1, [.int 0, .ref a_1, .ref a_4, .ref a_7, .int 0, .null, .int 0, .null, .null, .null])), (a_1, .inl (g.2.1, 6, .inl (fun _ => 0))), (a_4, .inl (g.2.1, 6, .inl (fun _ => 0))), (a_7, .inl (g.2.1, 6, .inl (fun _ => 0)))]) H := hP
  replace hD : va_D A ([(t_p, .inr (1, [.int 0, .ref a_1, .ref a_4, .ref a_7, .int 0, .null, .int 0, .null, .null, .null])), (a_1, .inl (g.2.1, 6, .inl (fun _ => 0))), (a_4, .inl (g.2.1, 6, .inl (fun _ => 0))), (a_7, .inl (g.2.1, 6, .inl (fun _ => 0)))]) := hD
  refine lv_aload_n hx hb dX1_init_38 rfl (lv_at hl 0 rfl) ?_
  refine lv_iconst (v := 4) hx hb dX1_init_39 (by decide) ?_
  refine va_newa (atype := .int) (ty := .int) (N' := 4) (a0 := (4, .inl (fun _ => 0))) hx hb L5 rfl hK.1 hP hD hS hA (fun _ => rfl) (by decide) (by decide) (Nat.le_of_ble_eq_true rfl) (Nat.le_of_ble_eq_true rfl) (Nat.le_of_ble_eq_true rfl) dX1_init_40 (fun a_10 k_11 H hK_12 hP hD hS => ?_)
  obtain rfl := cA_int hK_12
  refine W.widen (k := 4) (n := 22) (Nat.le_refl _) (Nat.le_refl _) ?_
  replace hP : va_P g.1 vwCl ([(t_p, .inr (1, [.int 0, .ref a_1, .ref a_4, .ref a_7, .int 0, .null, .int 0, .null, .null, .null])), (a_1, .inl (g.2.1, 6, .inl (fun _ => 0))), (a_4, .inl (g.2.1, 6, .inl (fun _ => 0))), (a_7, .inl (g.2.1, 6, .inl (fun _ => 0))), (a_10, .inl (g.2.1, 4, .inl (fun _ => 0)))]) H := hP
  replace hD : va_D A ([(t_p, .inr (1, [.int 0, .ref a_1, .ref a_4, .ref a_7, .int 0, .null, .int 0, .null, .null, .null])), (a_1, .inl (g.2.1, 6, .inl (fun _ => 0))), (a_4, .inl (g.2.1, 6, .inl (fun _ => 0))), (a_7, .inl (g.2.1, 6, .inl (fun _ => 0))), (a_10, .inl (g.2.1, 4, .inl (fun _ => 0)))]) := hD
  refine va_putF (D := g.1) (ci := 1) (v := .ref a_10) (ty := (.array .int)) (C := RX1) (T := TX1) (N := 10) hx hb hts hin1 tyX1 tyX1_ok nmX1 hown hK.1 hP hD hS 0 rfl rfl 5 (by decide) L10 (fun _ h9 => h9) rfl hin rfl (by decide +kernel) rfl rfl (Nat.le_of_ble_eq_true rfl) dX1_init_42 (fun H locs hP hD hS => ?_)
  replace hP : va_P g.1 vwCl ([(t_p, .inr (1, [.int 0, .ref a_1, .ref a_4, .ref a_7, .int 0, .ref a_10, .int 0, .null, .null, .null])), (a_1, .inl (g.2.1, 6, .inl (fun _ => 0))), (a_4, .inl (g.2.1, 6, .inl (fun _ => 0))), (a_7, .inl (g.2.1, 6, .inl (fun _ => 0))), (a_10, .inl (g.2.1, 4, .inl (fun _ => 0)))]) H := hP
  replace hD : va_D A ([(t_p, .inr (1, [.int 0, .ref a_1, .ref a_4, .ref a_7, .int 0, .ref a_10, .int 0, .null, .null, .null])), (a_1, .inl (g.2.1, 6, .inl (fun _ => 0))), (a_4, .inl (g.2.1, 6, .inl (fun _ => 0))), (a_7, .inl (g.2.1, 6, .inl (fun _ => 0))), (a_10, .inl (g.2.1, 4, .inl (fun _ => 0)))]) := hD
  refine lv_aload_n hx hb dX1_init_45 rfl (lv_at hl 0 rfl) ?_
  refine lv_iconst (v := 0) hx hb dX1_init_46 (by decide) ?_
  refine va_put (D := g.1) (ci := 1) (v := .int 0) (ty := .int) (C := RX1) (T := TX1) (N := 10) hx hb hts hin1 tyX1 tyX1_ok nmX1 hown hK.1 hP hD hS 0 rfl rfl 6 (by decide) L11 (fun _ h9 => h9) rfl (by decide +kernel) rfl rfl (Nat.le_of_ble_eq_true rfl) dX1_init_47 (fun H locs hP hD hS => ?_)
  replace hP : va_P g.1 vwCl ([(t_p, .inr (1, [.int 0, .ref a_1, .ref a_4, .ref a_7, .int 0, .ref a_10, .int 0, .null, .null, .null])), (a_1, .inl (g.2.1, 6, .inl (fun _ => 0))), (a_4, .inl (g.2.1, 6, .inl (fun _ => 0))), (a_7, .inl (g.2.1, 6, .inl (fun _ => 0))), (a_10, .inl (g.2.1, 4, .inl (fun _ => 0)))]) H := hP
  replace hD : va_D A ([(t_p, .inr (1, [.int 0, .ref a_1, .ref a_4, .ref a_7, .int 0, .ref a_10, .int 0, .null, .null, .null])), (a_1, .inl (g.2.1, 6, .inl (fun _ => 0))), (a_4, .inl (g.2.1, 6, .inl (fun _ => 0))), (a_7, .inl (g.2.1, 6, .inl (fun _ => 0))), (a_10, .inl (g.2.1, 4, .inl (fun _ => 0)))]) := hD
  refine lv_aload_n hx hb dX1_init_50 rfl (lv_at hl 0 rfl) ?_
  refine lv_iconst (v := 4) hx hb dX1_init_51 (by decide) ?_
  refine va_newa (atype := .int) (ty := .int) (N' := 4) (a0 := (4, .inl (fun _ => 0))) hx hb L5 rfl hK.1 hP hD hS hA (fun _ => rfl) (by decide) (by decide) (Nat.le_of_ble_eq_true rfl) (Nat.le_of_ble_eq_true rfl) (Nat.le_of_ble_eq_true rfl) dX1_init_52 (fun a_13 k_14 H hK_15 hP hD hS => ?_)
  obtain rfl := cA_int hK_15
  refine W.widen (k := 5) (n := 26) (Nat.le_refl _) (Nat.le_refl _) ?_
  replace hP : va_P g.1 vwCl ([(t_p, .inr (1, [.int 0, .ref a_1, .ref a_4, .ref a_7, .int 0, .ref a_10, .int 0, .null, .null, .null])), (a_1, .inl (g.2.1, 6, .inl (fun _ => 0))), (a_4, .inl (g.2.1, 6, .inl (fun _ => 0))), (a_7, .inl (g.2.1, 6, .inl (fun _ => 0))), (a_10, .inl (g.2.1, 4, .inl (fun _ => 0))), (a_13, .inl (g.2.1, 4, .inl (fun _ => 0)))]) H := hP
  replace hD : va_D A ([(t_p, .inr (1, [.int 0, .ref a_1, .ref a_4, .ref a_7, .int 0, .ref a_10, .int 0, .null, .null, .null])), (a_1, .inl (g.2.1, 6, .inl (fun _ => 0))), (a_4, .inl (g.2.1, 6, .inl (fun _ => 0))), (a_7, .inl (g.2.1, 6, .inl (fun _ => 0))), (a_10, .inl (g.2.1, 4, .inl (fun _ => 0))), (a_13, .inl (g.2.1, 4, .inl (fun _ => 0)))]) := hD
  refine va_putF (D := g.1) (ci := 1) (v := .ref a_13) (ty := (.array .int)) (C := RX1) (T := TX1) (N := 10) hx hb hts hin1 tyX1 tyX1_ok nmX1 hown hK.1 hP hD hS 0 rfl rfl 7 (by decide) L12 (fun _ h9 => h9) rfl hin rfl (by decide +kernel) rfl rfl (Nat.le_of_ble_eq_true rfl) dX1_init_54 (fun H locs hP hD hS => ?_)
  replace hP : va_P g.1 vwCl ([(t_p, .inr (1, [.int 0, .ref a_1, .ref a_4, .ref a_7, .int 0, .ref a_10, .int 0, .ref a_13, .null, .null])), (a_1, .inl (g.2.1, 6, .inl (fun _ => 0))), (a_4, .inl (g.2.1, 6, .inl (fun _ => 0))), (a_7, .inl (g.2.1, 6, .inl (fun _ => 0))), (a_10, .inl (g.2.1, 4, .inl (fun _ => 0))), (a_13, .inl (g.2.1, 4, .inl (fun _ => 0)))]) H := hP
  replace hD : va_D A ([(t_p, .inr (1, [.int 0, .ref a_1, .ref a_4, .ref a_7, .int 0, .ref a_10, .int 0, .ref a_13, .null, .null])), (a_1, .inl (g.2.1, 6, .inl (fun _ => 0))), (a_4, .inl (g.2.1, 6, .inl (fun _ => 0))), (a_7, .inl (g.2.1, 6, .inl (fun _ => 0))), (a_10, .inl (g.2.1, 4, .inl (fun _ => 0))), (a_13, .inl (g.2.1, 4, .inl (fun _ => 0)))]) := hD
  refine lv_aload_n hx hb dX1_init_57 rfl (lv_at hl 0 rfl) ?_
  refine lv_iconst (v := 4) hx hb dX1_init_58 (by decide) ?_
  refine va_newa (atype := .int) (ty := .int) (N' := 4) (a0 := (4, .inl (fun _ => 0))) hx hb L5 rfl hK.1 hP hD hS hA (fun _ => rfl) (by decide) (by decide) (Nat.le_of_ble_eq_true rfl) (Nat.le_of_ble_eq_true rfl) (Nat.le_of_ble_eq_true rfl) dX1_init_59 (fun a_16 k_17 H hK_18 hP hD hS => ?_)
  obtain rfl := cA_int hK_18
  refine W.widen (k := 6) (n := 30) (Nat.le_refl _) (Nat.le_refl _) ?_
  replace hP : va_P g.1 vwCl ([(t_p, .inr (1, [.int 0, .ref a_1, .ref a_4, .ref a_7, .int 0, .ref a_10, .int 0, .ref a_13, .null, .null])), (a_1, .inl (g.2.1, 6, .inl (fun _ => 0))), (a_4, .inl (g.2.1, 6, .inl (fun _ => 0))), (a_7, .inl (g.2.1, 6, .inl (fun _ => 0))), (a_10, .inl (g.2.1, 4, .inl (fun _ => 0))), (a_13, .inl (g.2.1, 4, .inl (fun _ => 0))), (a_16, .inl (g.2.1, 4, .inl (fun _ => 0)))]) H := hP
  replace hD : va_D A ([(t_p, .inr (1, [.int 0, .ref a_1, .ref a_4, .ref a_7, .int 0, .ref a_10, .int 0, .ref a_13, .null, .null])), (a_1, .inl (g.2.1, 6, .inl (fun _ => 0))), (a_4, .inl (g.2.1, 6, .inl (fun _ => 0))), (a_7, .inl (g.2.1, 6, .inl (fun _ => 0))), (a_10, .inl (g.2.1, 4, .inl (fun _ => 0))), (a_13, .inl (g.2.1, 4, .inl (fun _ => 0))), (a_16, .inl (g.2.1, 4, .inl (fun _ => 0)))]) := hD
  refine va_putF (D := g.1) (ci := 1) (v := .ref a_16) (ty := (.array .int)) (C := RX1) (T := TX1) (N := 10) hx hb hts hin1 tyX1 tyX1_ok nmX1 hown hK.1 hP hD hS 0 rfl rfl 8 (by decide) L13 (fun _ h9 => h9) rfl hin rfl (by decide +kernel) rfl rfl (Nat.le_of_ble_eq_true rfl) dX1_init_61 (fun H locs hP hD hS => ?_)
  replace hP : va_P g.1 vwCl ([(t_p, .inr (1, [.int 0, .ref a_1, .ref a_4, .ref a_7, .int 0, .ref a_10, .int 0, .ref a_13, .ref a_16, .null])), (a_1, .inl (g.2.1, 6, .inl (fun _ => 0))), (a_4, .inl (g.2.1, 6, .inl (fun _ => 0))), (a_7, .inl (g.2.1, 6, .inl (fun _ => 0))), (a_10, .inl (g.2.1, 4, .inl (fun _ => 0))), (a_13, .inl (g.2.1, 4, .inl (fun _ => 0))), (a_16, .inl (g.2.1, 4, .inl (fun _ => 0)))]) H := hP
  replace hD : va_D A ([(t_p, .inr (1, [.int 0, .ref a_1, .ref a_4, .ref a_7, .int 0, .ref a_10, .int 0, .ref a_13, .ref a_16, .null])), (a_1, .inl (g.2.1, 6, .inl (fun _ => 0))), (a_4, .inl (g.2.1, 6, .inl (fun _ => 0))), (a_7, .inl (g.2.1, 6, .inl (fun _ => 0))), (a_10, .inl (g.2.1, 4, .inl (fun _ => 0))), (a_13, .inl (g.2.1, 4, .inl (fun _ => 0))), (a_16, .inl (g.2.1, 4, .inl (fun _ => 0)))]) := hD
  refine lv_aload_n hx hb dX1_init_64 rfl (lv_at hl 0 rfl) ?_
  refine lv_bipush (v := 6) hx hb dX1_init_65 (by decide) ?_
  refine va_newa (atype := .int) (ty := .int) (N' := 6) (a0 := (6, .inl (fun _ => 0))) hx hb L5 rfl hK.1 hP hD hS hA (fun _ => rfl) (by decide) (by decide) (Nat.le_of_ble_eq_true rfl) (Nat.le_of_ble_eq_true rfl) (Nat.le_of_ble_eq_true rfl) dX1_init_67 (fun a_19 k_20 H hK_21 hP hD hS => ?_)
  obtain rfl := cA_int hK_21
  refine W.widen (k := 7) (n := 36) (Nat.le_refl _) (Nat.le_refl _) ?_
  replace hP : va_P g.1 vwCl ([(t_p, .inr (1, [.int 0, .ref a_1, .ref a_4, .ref a_7, .int 0, .ref a_10, .int 0, .ref a_13, .ref a_16, .null])), (a_1, .inl (g.2.1, 6, .inl (fun _ => 0))), (a_4, .inl (g.2.1, 6, .inl (fun _ => 0))), (a_7, .inl (g.2.1, 6, .inl (fun _ => 0))), (a_10, .inl (g.2.1, 4, .inl (fun _ => 0))), (a_13, .inl (g.2.1, 4, .inl (fun _ => 0))), (a_16, .inl (g.2.1, 4, .inl (fun _ => 0))), (a_19, .inl (g.2.1, 6, .inl (fun _ => 0)))]) H := hP
  replace hD : va_D A ([(t_p, .inr (1, [.int 0, .ref a_1, .ref a_4, .ref a_7, .int 0, .ref a_10, .int 0, .ref a_13, .ref a_16, .null])), (a_1, .inl (g.2.1, 6, .inl (fun _ => 0))), (a_4, .inl (g.2.1, 6, .inl (fun _ => 0))), (a_7, .inl (g.2.1, 6, .inl (fun _ => 0))), (a_10, .inl (g.2.1, 4, .inl (fun _ => 0))), (a_13, .inl (g.2.1, 4, .inl (fun _ => 0))), (a_16, .inl (g.2.1, 4, .inl (fun _ => 0))), (a_19, .inl (g.2.1, 6, .inl (fun _ => 0)))]) := hD
  refine va_putF (D := g.1) (ci := 1) (v := .ref a_19) (ty := (.array .int)) (C := RX1) (T := TX1) (N := 10) hx hb hts hin1 tyX1 tyX1_ok nmX1 hown hK.1 hP hD hS 0 rfl rfl 9 (by decide) L14 (fun _ h9 => h9) rfl hin rfl (by decide +kernel) rfl rfl (Nat.le_of_ble_eq_true rfl) dX1_init_69 (fun H locs hP hD hS => ?_)
  replace hP : va_P g.1 vwCl ([(t_p, .inr (1, [.int 0, .ref a_1, .ref a_4, .ref a_7, .int 0, .ref a_10, .int 0, .ref a_13, .ref a_16, .ref a_19])), (a_1, .inl (g.2.1, 6, .inl (fun _ => 0))), (a_4, .inl (g.2.1, 6, .inl (fun _ => 0))), (a_7, .inl (g.2.1, 6, .inl (fun _ => 0))), (a_10, .inl (g.2.1, 4, .inl (fun _ => 0))), (a_13, .inl (g.2.1, 4, .inl (fun _ => 0))), (a_16, .inl (g.2.1, 4, .inl (fun _ => 0))), (a_19, .inl (g.2.1, 6, .inl (fun _ => 0)))]) H := hP
  replace hD : va_D A ([(t_p, .inr (1, [.int 0, .ref a_1, .ref a_4, .ref a_7, .int 0, .ref a_10, .int 0, .ref a_13, .ref a_16, .ref a_19])), (a_1, .inl (g.2.1, 6, .inl (fun _ => 0))), (a_4, .inl (g.2.1, 6, .inl (fun _ => 0))), (a_7, .inl (g.2.1, 6, .inl (fun _ => 0))), (a_10, .inl (g.2.1, 4, .inl (fun _ => 0))), (a_13, .inl (g.2.1, 4, .inl (fun _ => 0))), (a_16, .inl (g.2.1, 4, .inl (fun _ => 0))), (a_19, .inl (g.2.1, 6, .inl (fun _ => 0)))]) := hD
  exact W.vret hx hb hr (fun t ht hW => ⟨⟨⟨a_1, a_4, a_7, a_10, a_13, a_16, a_19⟩, rfl, trivial, by show va_P g.1 vwCl _ t.heap; rw [ht]; exact hP, hD⟩, hS.F ht⟩) hS.2.2 dX1_init_72 hlocks

set_option maxHeartbeats 8000000 in
set_option maxRecDepth 100000 in
theorem c2_init (l : Launch) (g : gG) (t_p : Nat) (sz : Nat) : Met l yX2_init wsX2_init ({ frames := 1, cells := 4, slots := 78, locals := 12 }) (pP g [.ref t_p] sz [(t_p, .inr (2, [.null, .null, .null, .null, .int 0, .int 0, .int 0, .int 0, .int 0]))]) (va_Qv (fun (_ : Nat × Nat × Nat × Nat) => True) (fun u t => va_P g.1 vwCl ([(t_p, .inr (2, [.ref (u.1), .ref (u.2.1), .ref (u.2.2.1), .ref (u.2.2.2), .int 0, .int 0, .int 0, .int 0, .int (-4)])), ((u.1), .inl (g.2.1, 6, .inl (fun _ => 0))), ((u.2.1), .inl (g.2.1, 6, .inl (fun _ => 0))), ((u.2.2.1), .inl (g.2.1, 6, .inl (fun _ => 0))), ((u.2.2.2), .inl (g.2.1, 60, .inl (fun _ => 0)))]) t.heap ∧ va_D (va_A [(t_p, .inr (2, [.null, .null, .null, .null, .int 0, .int 0, .int 0, .int 0, .int 0]))] sz) ([(t_p, .inr (2, [.ref (u.1), .ref (u.2.1), .ref (u.2.2.1), .ref (u.2.2.2), .int 0, .int 0, .int 0, .int 0, .int (-4)])), ((u.1), .inl (g.2.1, 6, .inl (fun _ => 0))), ((u.2.1), .inl (g.2.1, 6, .inl (fun _ => 0))), ((u.2.2.1), .inl (g.2.1, 6, .inl (fun _ => 0))), ((u.2.2.2), .inl (g.2.1, 60, .inl (fun _ => 0)))])) (va_A [(t_p, .inr (2, [.null, .null, .null, .null, .int 0, .int 0, .int 0, .int 0, .int 0]))] sz)) 4 78 (va_A [(t_p, .inr (2, [.null, .null, .null, .null, .int 0, .int 0, .int 0, .int 0, .int 0]))] sz) := by
  refine Met.ofW (cc := cX2_init) (maxL := 1) (ret := none) (by decide) rfl ?_
  intro p e s m args below meth c s₁ B hml hv
  obtain ⟨rfl, hsz, hP, hK, hD0, hG⟩ := hv
  have hx := B.exec
  have hb := B.bytes
  have hr := B.returns
  have hts := atoms_spec (ws := wsX2_init) B.pre
  have hown : s.vm.findClass RX2 = some m.cls := findClass_of_methodNamed B.named
  have hlocks := B.notSynchronized
  have hin : meth.name = "<init>" := (name_of_methodNamed B.named B.method).1
  subst hsz
  have hD := hD0.self (sz := s.heap.size)
  generalize hAe : va_A [(t_p, .inr (2, [.null, .null, .null, .null, .int 0, .int 0, .int 0, .int 0, .int 0]))] s.heap.size = A at hD hG ⊢
  have hA : ∀ q : Nat, s.heap.size ≤ q → A q := fun q h => by rw [← hAe]; exact Or.inr h
  have hS : va_S A s.heap s.heap [] := va_S.rf
  have hin2 : ∀ w ∈ u_ws RX2 TX2 9, w ∈ wsX2_init := by decide +kernel
  have L1 := hts (Cond.methodLink RX2 3 objectInit) (by decide +kernel)
  have L2 := hts (Cond.instanceMethod objectInit) (by decide +kernel)
  have L3 := hts (Cond.code objectInit ⟨#[0xb1]⟩ 1 none) (by decide +kernel)
  have L4 := hts (Cond.arrayClass .int) (by decide +kernel)
  have L5 := hts (Cond.fieldLink RX2 9 "MouldShots$Shot" "has" "[I") (by decide +kernel)
  have L6 := hts (Cond.fieldLink RX2 15 "MouldShots$Shot" "firstAt" "[I") (by decide +kernel)
  have L7 := hts (Cond.fieldLink RX2 18 "MouldShots$Shot" "fullAt" "[I") (by decide +kernel)
  have L8 := hts (Cond.fieldLink RX2 21 "MouldShots$Shot" "pressures" "[I") (by decide +kernel)
  have L9 := hts (Cond.fieldLink RX2 24 "MouldShots$Shot" "place" "I") (by decide +kernel)
  have L10 := hts (Cond.fieldLink RX2 28 "MouldShots$Shot" "fillTicks" "I") (by decide +kernel)
  have L11 := hts (Cond.fieldLink RX2 31 "MouldShots$Shot" "ticks" "I") (by decide +kernel)
  have L12 := hts (Cond.fieldLink RX2 34 "MouldShots$Shot" "coolTicks" "I") (by decide +kernel)
  have L13 := hts (Cond.fieldLink RX2 37 "MouldShots$Shot" "why" "I") (by decide +kernel)
  have hl := lv_entry ([.ref t_p]) (n := 1) (Nat.le_of_ble_eq_true rfl)
  rw [lg_entry_eq]
  generalize (lg_sl ([.ref t_p]) ++ List.replicate (1 - (lg_sl ([.ref t_p])).length) Slot.unset).toArray = ls at hl ⊢
  replace hl : lv_has ls 1 [(0, .ref t_p)] := hl
  refine lv_aload_n hx hb dX2_init_0 rfl (lv_at hl 0 rfl) ?_
  refine W.objInit hx hb hown L1 L2 L3 rfl (by rw [hml]; exact hl.1) rfl dX2_init_1 (Nat.le_of_ble_eq_true rfl) (Nat.le_of_ble_eq_true rfl) ?_
  refine W.eq (g2 := F0 m 4 ls []) rfl ?_
  refine lv_aload_n hx hb dX2_init_4 rfl (lv_at hl 0 rfl) ?_
  refine lv_bipush (v := 6) hx hb dX2_init_5 (by decide) ?_
  refine va_newa (atype := .int) (ty := .int) (N' := 6) (a0 := (6, .inl (fun _ => 0))) hx hb L4 rfl hK.1 hP hD hS hA (fun _ => rfl) (by decide) (by decide) (Nat.le_of_ble_eq_true rfl) (Nat.le_of_ble_eq_true rfl) (Nat.le_of_ble_eq_true rfl) dX2_init_7 (fun a_1 k_2 H hK_3 hP hD hS => ?_)
  obtain rfl := cA_int hK_3
  refine W.widen (k := 1) (n := 6) (Nat.le_refl _) (Nat.le_refl _) ?_
  replace hP : va_P g.1 vwCl ([(t_p, .inr (2, [.null, .null, .null, .null, .int 0, .int 0, .int 0, .int 0, .int 0])), (a_1, .inl (g.2.1, 6, .inl (fun _ => 0)))]) H := hP
  replace hD : va_D A ([(t_p, .inr (2, [.null, .null, .null, .null, .int 0, .int 0, .int 0, .int 0, .int 0])), (a_1, .inl (g.2.1, 6, .inl (fun _ => 0)))]) := hD
  refine va_putF (D := g.1) (ci := 2) (v := .ref a_1) (ty := (.array .int)) (C := RX2) (T := TX2) (N := 9) hx hb hts hin2 tyX2 tyX2_ok nmX2 hown hK.1 hP hD hS 0 rfl rfl 0 (by decide) L5 (fun _ h9 => h9) rfl hin rfl (by decide +kernel) rfl rfl (Nat.le_of_ble_eq_true rfl) dX2_init_9 (fun H locs hP hD hS => ?_)
  replace hP : va_P g.1 vwCl ([(t_p, .inr (2, [.ref a_1, .null, .null, .null, .int 0, .int 0, .int 0, .int 0, .int 0])), (a_1, .inl (g.2.1, 6, .inl (fun _ => 0)))]) H := hP
  replace hD : va_D A ([(t_p, .inr (2, [.ref a_1, .null, .null, .null, .int 0, .int 0, .int 0, .int 0, .int 0])), (a_1, .inl (g.2.1, 6, .inl (fun _ => 0)))]) := hD
  refine lv_aload_n hx hb dX2_init_12 rfl (lv_at hl 0 rfl) ?_
  refine lv_bipush (v := 6) hx hb dX2_init_13 (by decide) ?_
  refine va_newa (atype := .int) (ty := .int) (N' := 6) (a0 := (6, .inl (fun _ => 0))) hx hb L4 rfl hK.1 hP hD hS hA (fun _ => rfl) (by decide) (by decide) (Nat.le_of_ble_eq_true rfl) (Nat.le_of_ble_eq_true rfl) (Nat.le_of_ble_eq_true rfl) dX2_init_15 (fun a_4 k_5 H hK_6 hP hD hS => ?_)
  obtain rfl := cA_int hK_6
  refine W.widen (k := 2) (n := 12) (Nat.le_refl _) (Nat.le_refl _) ?_
  replace hP : va_P g.1 vwCl ([(t_p, .inr (2, [.ref a_1, .null, .null, .null, .int 0, .int 0, .int 0, .int 0, .int 0])), (a_1, .inl (g.2.1, 6, .inl (fun _ => 0))), (a_4, .inl (g.2.1, 6, .inl (fun _ => 0)))]) H := hP
  replace hD : va_D A ([(t_p, .inr (2, [.ref a_1, .null, .null, .null, .int 0, .int 0, .int 0, .int 0, .int 0])), (a_1, .inl (g.2.1, 6, .inl (fun _ => 0))), (a_4, .inl (g.2.1, 6, .inl (fun _ => 0)))]) := hD
  refine va_putF (D := g.1) (ci := 2) (v := .ref a_4) (ty := (.array .int)) (C := RX2) (T := TX2) (N := 9) hx hb hts hin2 tyX2 tyX2_ok nmX2 hown hK.1 hP hD hS 0 rfl rfl 1 (by decide) L6 (fun _ h9 => h9) rfl hin rfl (by decide +kernel) rfl rfl (Nat.le_of_ble_eq_true rfl) dX2_init_17 (fun H locs hP hD hS => ?_)
  replace hP : va_P g.1 vwCl ([(t_p, .inr (2, [.ref a_1, .ref a_4, .null, .null, .int 0, .int 0, .int 0, .int 0, .int 0])), (a_1, .inl (g.2.1, 6, .inl (fun _ => 0))), (a_4, .inl (g.2.1, 6, .inl (fun _ => 0)))]) H := hP
  replace hD : va_D A ([(t_p, .inr (2, [.ref a_1, .ref a_4, .null, .null, .int 0, .int 0, .int 0, .int 0, .int 0])), (a_1, .inl (g.2.1, 6, .inl (fun _ => 0))), (a_4, .inl (g.2.1, 6, .inl (fun _ => 0)))]) := hD
  refine lv_aload_n hx hb dX2_init_20 rfl (lv_at hl 0 rfl) ?_
  refine lv_bipush (v := 6) hx hb dX2_init_21 (by decide) ?_
  refine va_newa (atype := .int) (ty := .int) (N' := 6) (a0 := (6, .inl (fun _ => 0))) hx hb L4 rfl hK.1 hP hD hS hA (fun _ => rfl) (by decide) (by decide) (Nat.le_of_ble_eq_true rfl) (Nat.le_of_ble_eq_true rfl) (Nat.le_of_ble_eq_true rfl) dX2_init_23 (fun a_7 k_8 H hK_9 hP hD hS => ?_)
  obtain rfl := cA_int hK_9
  refine W.widen (k := 3) (n := 18) (Nat.le_refl _) (Nat.le_refl _) ?_
  replace hP : va_P g.1 vwCl ([(t_p, .inr (2, [.ref a_1, .ref a_4, .null, .null, .int 0, .int 0, .int 0, .int 0, .int 0])), (a_1, .inl (g.2.1, 6, .inl (fun _ => 0))), (a_4, .inl (g.2.1, 6, .inl (fun _ => 0))), (a_7, .inl (g.2.1, 6, .inl (fun _ => 0)))]) H := hP
  replace hD : va_D A ([(t_p, .inr (2, [.ref a_1, .ref a_4, .null, .null, .int 0, .int 0, .int 0, .int 0, .int 0])), (a_1, .inl (g.2.1, 6, .inl (fun _ => 0))), (a_4, .inl (g.2.1, 6, .inl (fun _ => 0))), (a_7, .inl (g.2.1, 6, .inl (fun _ => 0)))]) := hD
  refine va_putF (D := g.1) (ci := 2) (v := .ref a_7) (ty := (.array .int)) (C := RX2) (T := TX2) (N := 9) hx hb hts hin2 tyX2 tyX2_ok nmX2 hown hK.1 hP hD hS 0 rfl rfl 2 (by decide) L7 (fun _ h9 => h9) rfl hin rfl (by decide +kernel) rfl rfl (Nat.le_of_ble_eq_true rfl) dX2_init_25 (fun H locs hP hD hS => ?_)
  replace hP : va_P g.1 vwCl ([(t_p, .inr (2, [.ref a_1, .ref a_4, .ref a_7, .null, .int 0, .int 0, .int 0, .int 0, .int 0])), (a_1, .inl (g.2.1, 6, .inl (fun _ => 0))), (a_4, .inl (g.2.1, 6, .inl (fun _ => 0))), (a_7, .inl (g.2.1, 6, .inl (fun _ => 0)))]) H := hP
  replace hD : va_D A ([(t_p, .inr (2, [.ref a_1, .ref a_4, .ref a_7, .null, .int 0, .int 0, .int 0, .int 0, .int 0])), (a_1, .inl (g.2.1, 6, .inl (fun _ => 0))), (a_4, .inl (g.2.1, 6, .inl (fun _ => 0))), (a_7, .inl (g.2.1, 6, .inl (fun _ => 0)))]) := hD
  refine lv_aload_n hx hb dX2_init_28 rfl (lv_at hl 0 rfl) ?_
  refine lv_bipush (v := 60) hx hb dX2_init_29 (by decide) ?_
  refine va_newa (atype := .int) (ty := .int) (N' := 60) (a0 := (60, .inl (fun _ => 0))) hx hb L4 rfl hK.1 hP hD hS hA (fun _ => rfl) (by decide) (by decide) (Nat.le_of_ble_eq_true rfl) (Nat.le_of_ble_eq_true rfl) (Nat.le_of_ble_eq_true rfl) dX2_init_31 (fun a_10 k_11 H hK_12 hP hD hS => ?_)
  obtain rfl := cA_int hK_12
  refine W.widen (k := 4) (n := 78) (Nat.le_refl _) (Nat.le_refl _) ?_
  replace hP : va_P g.1 vwCl ([(t_p, .inr (2, [.ref a_1, .ref a_4, .ref a_7, .null, .int 0, .int 0, .int 0, .int 0, .int 0])), (a_1, .inl (g.2.1, 6, .inl (fun _ => 0))), (a_4, .inl (g.2.1, 6, .inl (fun _ => 0))), (a_7, .inl (g.2.1, 6, .inl (fun _ => 0))), (a_10, .inl (g.2.1, 60, .inl (fun _ => 0)))]) H := hP
  replace hD : va_D A ([(t_p, .inr (2, [.ref a_1, .ref a_4, .ref a_7, .null, .int 0, .int 0, .int 0, .int 0, .int 0])), (a_1, .inl (g.2.1, 6, .inl (fun _ => 0))), (a_4, .inl (g.2.1, 6, .inl (fun _ => 0))), (a_7, .inl (g.2.1, 6, .inl (fun _ => 0))), (a_10, .inl (g.2.1, 60, .inl (fun _ => 0)))]) := hD
  refine va_putF (D := g.1) (ci := 2) (v := .ref a_10) (ty := (.array .int)) (C := RX2) (T := TX2) (N := 9) hx hb hts hin2 tyX2 tyX2_ok nmX2 hown hK.1 hP hD hS 0 rfl rfl 3 (by decide) L8 (fun _ h9 => h9) rfl hin rfl (by decide +kernel) rfl rfl (Nat.le_of_ble_eq_true rfl) dX2_init_33 (fun H locs hP hD hS => ?_)
  replace hP : va_P g.1 vwCl ([(t_p, .inr (2, [.ref a_1, .ref a_4, .ref a_7, .ref a_10, .int 0, .int 0, .int 0, .int 0, .int 0])), (a_1, .inl (g.2.1, 6, .inl (fun _ => 0))), (a_4, .inl (g.2.1, 6, .inl (fun _ => 0))), (a_7, .inl (g.2.1, 6, .inl (fun _ => 0))), (a_10, .inl (g.2.1, 60, .inl (fun _ => 0)))]) H := hP
  replace hD : va_D A ([(t_p, .inr (2, [.ref a_1, .ref a_4, .ref a_7, .ref a_10, .int 0, .int 0, .int 0, .int 0, .int 0])), (a_1, .inl (g.2.1, 6, .inl (fun _ => 0))), (a_4, .inl (g.2.1, 6, .inl (fun _ => 0))), (a_7, .inl (g.2.1, 6, .inl (fun _ => 0))), (a_10, .inl (g.2.1, 60, .inl (fun _ => 0)))]) := hD
  refine lv_aload_n hx hb dX2_init_36 rfl (lv_at hl 0 rfl) ?_
  refine lv_iconst (v := 0) hx hb dX2_init_37 (by decide) ?_
  refine va_put (D := g.1) (ci := 2) (v := .int 0) (ty := .int) (C := RX2) (T := TX2) (N := 9) hx hb hts hin2 tyX2 tyX2_ok nmX2 hown hK.1 hP hD hS 0 rfl rfl 4 (by decide) L9 (fun _ h9 => h9) rfl (by decide +kernel) rfl rfl (Nat.le_of_ble_eq_true rfl) dX2_init_38 (fun H locs hP hD hS => ?_)
  replace hP : va_P g.1 vwCl ([(t_p, .inr (2, [.ref a_1, .ref a_4, .ref a_7, .ref a_10, .int 0, .int 0, .int 0, .int 0, .int 0])), (a_1, .inl (g.2.1, 6, .inl (fun _ => 0))), (a_4, .inl (g.2.1, 6, .inl (fun _ => 0))), (a_7, .inl (g.2.1, 6, .inl (fun _ => 0))), (a_10, .inl (g.2.1, 60, .inl (fun _ => 0)))]) H := hP
  replace hD : va_D A ([(t_p, .inr (2, [.ref a_1, .ref a_4, .ref a_7, .ref a_10, .int 0, .int 0, .int 0, .int 0, .int 0])), (a_1, .inl (g.2.1, 6, .inl (fun _ => 0))), (a_4, .inl (g.2.1, 6, .inl (fun _ => 0))), (a_7, .inl (g.2.1, 6, .inl (fun _ => 0))), (a_10, .inl (g.2.1, 60, .inl (fun _ => 0)))]) := hD
  refine lv_aload_n hx hb dX2_init_41 rfl (lv_at hl 0 rfl) ?_
  refine lv_iconst (v := 0) hx hb dX2_init_42 (by decide) ?_
  refine va_put (D := g.1) (ci := 2) (v := .int 0) (ty := .int) (C := RX2) (T := TX2) (N := 9) hx hb hts hin2 tyX2 tyX2_ok nmX2 hown hK.1 hP hD hS 0 rfl rfl 5 (by decide) L10 (fun _ h9 => h9) rfl (by decide +kernel) rfl rfl (Nat.le_of_ble_eq_true rfl) dX2_init_43 (fun H locs hP hD hS => ?_)
  replace hP : va_P g.1 vwCl ([(t_p, .inr (2, [.ref a_1, .ref a_4, .ref a_7, .ref a_10, .int 0, .int 0, .int 0, .int 0, .int 0])), (a_1, .inl (g.2.1, 6, .inl (fun _ => 0))), (a_4, .inl (g.2.1, 6, .inl (fun _ => 0))), (a_7, .inl (g.2.1, 6, .inl (fun _ => 0))), (a_10, .inl (g.2.1, 60, .inl (fun _ => 0)))]) H := hP
  replace hD : va_D A ([(t_p, .inr (2, [.ref a_1, .ref a_4, .ref a_7, .ref a_10, .int 0, .int 0, .int 0, .int 0, .int 0])), (a_1, .inl (g.2.1, 6, .inl (fun _ => 0))), (a_4, .inl (g.2.1, 6, .inl (fun _ => 0))), (a_7, .inl (g.2.1, 6, .inl (fun _ => 0))), (a_10, .inl (g.2.1, 60, .inl (fun _ => 0)))]) := hD
  refine lv_aload_n hx hb dX2_init_46 rfl (lv_at hl 0 rfl) ?_
  refine lv_iconst (v := 0) hx hb dX2_init_47 (by decide) ?_
  refine va_put (D := g.1) (ci := 2) (v := .int 0) (ty := .int) (C := RX2) (T := TX2) (N := 9) hx hb hts hin2 tyX2 tyX2_ok nmX2 hown hK.1 hP hD hS 0 rfl rfl 6 (by decide) L11 (fun _ h9 => h9) rfl (by decide +kernel) rfl rfl (Nat.le_of_ble_eq_true rfl) dX2_init_48 (fun H locs hP hD hS => ?_)
  replace hP : va_P g.1 vwCl ([(t_p, .inr (2, [.ref a_1, .ref a_4, .ref a_7, .ref a_10, .int 0, .int 0, .int 0, .int 0, .int 0])), (a_1, .inl (g.2.1, 6, .inl (fun _ => 0))), (a_4, .inl (g.2.1, 6, .inl (fun _ => 0))), (a_7, .inl (g.2.1, 6, .inl (fun _ => 0))), (a_10, .inl (g.2.1, 60, .inl (fun _ => 0)))]) H := hP
  replace hD : va_D A ([(t_p, .inr (2, [.ref a_1, .ref a_4, .ref a_7, .ref a_10, .int 0, .int 0, .int 0, .int 0, .int 0])), (a_1, .inl (g.2.1, 6, .inl (fun _ => 0))), (a_4, .inl (g.2.1, 6, .inl (fun _ => 0))), (a_7, .inl (g.2.1, 6, .inl (fun _ => 0))), (a_10, .inl (g.2.1, 60, .inl (fun _ => 0)))]) := hD
  refine lv_aload_n hx hb dX2_init_51 rfl (lv_at hl 0 rfl) ?_
  refine lv_iconst (v := 0) hx hb dX2_init_52 (by decide) ?_
  refine va_put (D := g.1) (ci := 2) (v := .int 0) (ty := .int) (C := RX2) (T := TX2) (N := 9) hx hb hts hin2 tyX2 tyX2_ok nmX2 hown hK.1 hP hD hS 0 rfl rfl 7 (by decide) L12 (fun _ h9 => h9) rfl (by decide +kernel) rfl rfl (Nat.le_of_ble_eq_true rfl) dX2_init_53 (fun H locs hP hD hS => ?_)
  replace hP : va_P g.1 vwCl ([(t_p, .inr (2, [.ref a_1, .ref a_4, .ref a_7, .ref a_10, .int 0, .int 0, .int 0, .int 0, .int 0])), (a_1, .inl (g.2.1, 6, .inl (fun _ => 0))), (a_4, .inl (g.2.1, 6, .inl (fun _ => 0))), (a_7, .inl (g.2.1, 6, .inl (fun _ => 0))), (a_10, .inl (g.2.1, 60, .inl (fun _ => 0)))]) H := hP
  replace hD : va_D A ([(t_p, .inr (2, [.ref a_1, .ref a_4, .ref a_7, .ref a_10, .int 0, .int 0, .int 0, .int 0, .int 0])), (a_1, .inl (g.2.1, 6, .inl (fun _ => 0))), (a_4, .inl (g.2.1, 6, .inl (fun _ => 0))), (a_7, .inl (g.2.1, 6, .inl (fun _ => 0))), (a_10, .inl (g.2.1, 60, .inl (fun _ => 0)))]) := hD
  refine lv_aload_n hx hb dX2_init_56 rfl (lv_at hl 0 rfl) ?_
  refine lv_bipush (v := (-4)) hx hb dX2_init_57 (by decide) ?_
  refine va_put (D := g.1) (ci := 2) (v := .int (-4)) (ty := .int) (C := RX2) (T := TX2) (N := 9) hx hb hts hin2 tyX2 tyX2_ok nmX2 hown hK.1 hP hD hS 0 rfl rfl 8 (by decide) L13 (fun _ h9 => h9) rfl (by decide +kernel) rfl rfl (Nat.le_of_ble_eq_true rfl) dX2_init_59 (fun H locs hP hD hS => ?_)
  replace hP : va_P g.1 vwCl ([(t_p, .inr (2, [.ref a_1, .ref a_4, .ref a_7, .ref a_10, .int 0, .int 0, .int 0, .int 0, .int (-4)])), (a_1, .inl (g.2.1, 6, .inl (fun _ => 0))), (a_4, .inl (g.2.1, 6, .inl (fun _ => 0))), (a_7, .inl (g.2.1, 6, .inl (fun _ => 0))), (a_10, .inl (g.2.1, 60, .inl (fun _ => 0)))]) H := hP
  replace hD : va_D A ([(t_p, .inr (2, [.ref a_1, .ref a_4, .ref a_7, .ref a_10, .int 0, .int 0, .int 0, .int 0, .int (-4)])), (a_1, .inl (g.2.1, 6, .inl (fun _ => 0))), (a_4, .inl (g.2.1, 6, .inl (fun _ => 0))), (a_7, .inl (g.2.1, 6, .inl (fun _ => 0))), (a_10, .inl (g.2.1, 60, .inl (fun _ => 0)))]) := hD
  exact W.vret hx hb hr (fun t ht hW => ⟨⟨⟨a_1, a_4, a_7, a_10⟩, rfl, trivial, by show va_P g.1 vwCl _ t.heap; rw [ht]; exact hP, hD⟩, hS.F ht⟩) hS.2.2 dX2_init_62 hlocks

set_option maxHeartbeats 8000000 in
set_option maxRecDepth 100000 in
theorem c3_init (l : Launch) (g : gG) (t_p : Nat) (sz : Nat) : Met l yX3_init wsX3_init ({ frames := 2, cells := 6, slots := 141, locals := 32 }) (pP g [.ref t_p] sz [(t_p, .inr (3, [.null, .null, .null, .int 0, .int 0, .int 0, .int 0, .int 0, .int 0, .null]))]) (va_Qv (fun (_ : Nat × Nat × Nat × Nat × Nat × Nat) => True) (fun u t => va_P g.1 vwCl ([(t_p, .inr (3, [.ref (u.1), .ref (u.2.1), .ref (u.2.2.1), .int 0, .int 0, .int 0, .int 0, .int 0, .int 2, .ref (u.2.2.2.1)])), ((u.1), .inl (g.2.1, 6, .inl (fun _ => 0))), ((u.2.1), .inl (g.2.1, 4, .inl (fun _ => 0))), ((u.2.2.1), .inl (g.2.1, 6, .inl (fun _ => 0)))] ++ ([((u.2.2.2.1), .inr (0, [.int 0, .int 0, .int 0, .ref (u.2.2.2.2.1), .ref (u.2.2.2.2.2)])), ((u.2.2.2.2.1), .inl (g.2.1, 60, .inl (fun _ => 0))), ((u.2.2.2.2.2), .inl (g.2.1, 60, .inl (fun _ => 0)))])) t.heap ∧ va_D (va_A [(t_p, .inr (3, [.null, .null, .null, .int 0, .int 0, .int 0, .int 0, .int 0, .int 0, .null]))] sz) ([(t_p, .inr (3, [.ref (u.1), .ref (u.2.1), .ref (u.2.2.1), .int 0, .int 0, .int 0, .int 0, .int 0, .int 2, .ref (u.2.2.2.1)])), ((u.1), .inl (g.2.1, 6, .inl (fun _ => 0))), ((u.2.1), .inl (g.2.1, 4, .inl (fun _ => 0))), ((u.2.2.1), .inl (g.2.1, 6, .inl (fun _ => 0)))] ++ ([((u.2.2.2.1), .inr (0, [.int 0, .int 0, .int 0, .ref (u.2.2.2.2.1), .ref (u.2.2.2.2.2)])), ((u.2.2.2.2.1), .inl (g.2.1, 60, .inl (fun _ => 0))), ((u.2.2.2.2.2), .inl (g.2.1, 60, .inl (fun _ => 0)))]))) (va_A [(t_p, .inr (3, [.null, .null, .null, .int 0, .int 0, .int 0, .int 0, .int 0, .int 0, .null]))] sz)) 6 141 (va_A [(t_p, .inr (3, [.null, .null, .null, .int 0, .int 0, .int 0, .int 0, .int 0, .int 0, .null]))] sz) := by
  refine Met.ofW (cc := cX3_init) (maxL := 1) (ret := none) (by decide) rfl ?_
  intro p e s m args below meth c s₁ B hml hv
  obtain ⟨rfl, hsz, hP, hK, hD0, hG⟩ := hv
  have hx := B.exec
  have hb := B.bytes
  have hr := B.returns
  have hts := atoms_spec (ws := wsX3_init) B.pre
  have hown : s.vm.findClass RX3 = some m.cls := findClass_of_methodNamed B.named
  have hlocks := B.notSynchronized
  have hin : meth.name = "<init>" := (name_of_methodNamed B.named B.method).1
  subst hsz
  have hD := hD0.self (sz := s.heap.size)
  generalize hAe : va_A [(t_p, .inr (3, [.null, .null, .null, .int 0, .int 0, .int 0, .int 0, .int 0, .int 0, .null]))] s.heap.size = A at hD hG ⊢
  have hA : ∀ q : Nat, s.heap.size ≤ q → A q := fun q h => by rw [← hAe]; exact Or.inr h
  have hS : va_S A s.heap s.heap [] := va_S.rf
  have hin0 : ∀ w ∈ u_ws RX0 TX0 5, w ∈ wsX3_init := by decide +kernel
  have hin3 : ∀ w ∈ u_ws RX3 TX3 10, w ∈ wsX3_init := by decide +kernel
  have L1 := hts (Cond.methodLink RX3 3 objectInit) (by decide +kernel)
  have L2 := hts (Cond.instanceMethod objectInit) (by decide +kernel)
  have L3 := hts (Cond.code objectInit ⟨#[0xb1]⟩ 1 none) (by decide +kernel)
  have L4 := hts (Cond.arrayClass .int) (by decide +kernel)
  have L5 := hts (Cond.fieldLink RX3 9 "MouldShots$State" "drags" "[I") (by decide +kernel)
  have L6 := hts (Cond.fieldLink RX3 15 "MouldShots$State" "speeds" "[I") (by decide +kernel)
  have L7 := hts (Cond.fieldLink RX3 18 "MouldShots$State" "settings" "[I") (by decide +kernel)
  have L8 := hts (Cond.fieldLink RX3 21 "MouldShots$State" "shut" "Z") (by decide +kernel)
  have L9 := hts (Cond.fieldLink RX3 25 "MouldShots$State" "coresIn" "I") (by decide +kernel)
  have L10 := hts (Cond.fieldLink RX3 29 "MouldShots$State" "loaded" "Z") (by decide +kernel)
  have L11 := hts (Cond.fieldLink RX3 32 "MouldShots$State" "hot" "Z") (by decide +kernel)
  have L12 := hts (Cond.fieldLink RX3 35 "MouldShots$State" "made" "I") (by decide +kernel)
  have L13 := hts (Cond.fieldLink RX3 38 "MouldShots$State" "width" "I") (by decide +kernel)
  have L14 := hts (Cond.classLink RX3 41 RX0) (by decide +kernel)
  have L15 := hts (Cond.instantiable RX0 5) (by decide +kernel)
  have L16 := hts (Cond.initialized RX0) (by decide +kernel)
  have L17 := hts (Cond.instanceMethod yX0_init) (by decide +kernel)
  have L18 := hts (Cond.fieldLink RX3 44 "MouldShots$State" "taught" "LMouldShots$Band;") (by decide +kernel)
  have hl := lv_entry ([.ref t_p]) (n := 1) (Nat.le_of_ble_eq_true rfl)
  rw [lg_entry_eq]
  generalize (lg_sl ([.ref t_p]) ++ List.replicate (1 - (lg_sl ([.ref t_p])).length) Slot.unset).toArray = ls at hl ⊢
  replace hl : lv_has ls 1 [(0, .ref t_p)] := hl
  refine lv_aload_n hx hb dX3_init_0 rfl (lv_at hl 0 rfl) ?_
  refine W.objInit hx hb hown L1 L2 L3 rfl (by rw [hml]; exact hl.1) rfl dX3_init_1 (Nat.le_of_ble_eq_true rfl) (Nat.le_of_ble_eq_true rfl) ?_
  refine W.eq (g2 := F0 m 4 ls []) rfl ?_
  refine lv_aload_n hx hb dX3_init_4 rfl (lv_at hl 0 rfl) ?_
  refine lv_bipush (v := 6) hx hb dX3_init_5 (by decide) ?_
  refine va_newa (atype := .int) (ty := .int) (N' := 6) (a0 := (6, .inl (fun _ => 0))) hx hb L4 rfl hK.1 hP hD hS hA (fun _ => rfl) (by decide) (by decide) (Nat.le_of_ble_eq_true rfl) (Nat.le_of_ble_eq_true rfl) (Nat.le_of_ble_eq_true rfl) dX3_init_7 (fun a_1 k_2 H hK_3 hP hD hS => ?_)
  obtain rfl := cA_int hK_3
  refine W.widen (k := 1) (n := 6) (Nat.le_refl _) (Nat.le_refl _) ?_
  replace hP : va_P g.1 vwCl ([(t_p, .inr (3, [.null, .null, .null, .int 0, .int 0, .int 0, .int 0, .int 0, .int 0, .null])), (a_1, .inl (g.2.1, 6, .inl (fun _ => 0)))]) H := hP
  replace hD : va_D A ([(t_p, .inr (3, [.null, .null, .null, .int 0, .int 0, .int 0, .int 0, .int 0, .int 0, .null])), (a_1, .inl (g.2.1, 6, .inl (fun _ => 0)))]) := hD
  refine va_putF (D := g.1) (ci := 3) (v := .ref a_1) (ty := (.array .int)) (C := RX3) (T := TX3) (N := 10) hx hb hts hin3 tyX3 tyX3_ok nmX3 hown hK.1 hP hD hS 0 rfl rfl 0 (by decide) L5 (fun _ h9 => h9) rfl hin rfl (by decide +kernel) rfl rfl (Nat.le_of_ble_eq_true rfl) dX3_init_9 (fun H locs hP hD hS => ?_)
  replace hP : va_P g.1 vwCl ([(t_p, .inr (3, [.ref a_1, .null, .null, .int 0, .int 0, .int 0, .int 0, .int 0, .int 0, .null])), (a_1, .inl (g.2.1, 6, .inl (fun _ => 0)))]) H := hP
  replace hD : va_D A ([(t_p, .inr (3, [.ref a_1, .null, .null, .int 0, .int 0, .int 0, .int 0, .int 0, .int 0, .null])), (a_1, .inl (g.2.1, 6, .inl (fun _ => 0)))]) := hD
  refine lv_aload_n hx hb dX3_init_12 rfl (lv_at hl 0 rfl) ?_
  refine lv_iconst (v := 4) hx hb dX3_init_13 (by decide) ?_
  refine va_newa (atype := .int) (ty := .int) (N' := 4) (a0 := (4, .inl (fun _ => 0))) hx hb L4 rfl hK.1 hP hD hS hA (fun _ => rfl) (by decide) (by decide) (Nat.le_of_ble_eq_true rfl) (Nat.le_of_ble_eq_true rfl) (Nat.le_of_ble_eq_true rfl) dX3_init_14 (fun a_4 k_5 H hK_6 hP hD hS => ?_)
  obtain rfl := cA_int hK_6
  refine W.widen (k := 2) (n := 10) (Nat.le_refl _) (Nat.le_refl _) ?_
  replace hP : va_P g.1 vwCl ([(t_p, .inr (3, [.ref a_1, .null, .null, .int 0, .int 0, .int 0, .int 0, .int 0, .int 0, .null])), (a_1, .inl (g.2.1, 6, .inl (fun _ => 0))), (a_4, .inl (g.2.1, 4, .inl (fun _ => 0)))]) H := hP
  replace hD : va_D A ([(t_p, .inr (3, [.ref a_1, .null, .null, .int 0, .int 0, .int 0, .int 0, .int 0, .int 0, .null])), (a_1, .inl (g.2.1, 6, .inl (fun _ => 0))), (a_4, .inl (g.2.1, 4, .inl (fun _ => 0)))]) := hD
  refine va_putF (D := g.1) (ci := 3) (v := .ref a_4) (ty := (.array .int)) (C := RX3) (T := TX3) (N := 10) hx hb hts hin3 tyX3 tyX3_ok nmX3 hown hK.1 hP hD hS 0 rfl rfl 1 (by decide) L6 (fun _ h9 => h9) rfl hin rfl (by decide +kernel) rfl rfl (Nat.le_of_ble_eq_true rfl) dX3_init_16 (fun H locs hP hD hS => ?_)
  replace hP : va_P g.1 vwCl ([(t_p, .inr (3, [.ref a_1, .ref a_4, .null, .int 0, .int 0, .int 0, .int 0, .int 0, .int 0, .null])), (a_1, .inl (g.2.1, 6, .inl (fun _ => 0))), (a_4, .inl (g.2.1, 4, .inl (fun _ => 0)))]) H := hP
  replace hD : va_D A ([(t_p, .inr (3, [.ref a_1, .ref a_4, .null, .int 0, .int 0, .int 0, .int 0, .int 0, .int 0, .null])), (a_1, .inl (g.2.1, 6, .inl (fun _ => 0))), (a_4, .inl (g.2.1, 4, .inl (fun _ => 0)))]) := hD
  refine lv_aload_n hx hb dX3_init_19 rfl (lv_at hl 0 rfl) ?_
  refine lv_bipush (v := 6) hx hb dX3_init_20 (by decide) ?_
  refine va_newa (atype := .int) (ty := .int) (N' := 6) (a0 := (6, .inl (fun _ => 0))) hx hb L4 rfl hK.1 hP hD hS hA (fun _ => rfl) (by decide) (by decide) (Nat.le_of_ble_eq_true rfl) (Nat.le_of_ble_eq_true rfl) (Nat.le_of_ble_eq_true rfl) dX3_init_22 (fun a_7 k_8 H hK_9 hP hD hS => ?_)
  obtain rfl := cA_int hK_9
  refine W.widen (k := 3) (n := 16) (Nat.le_refl _) (Nat.le_refl _) ?_
  replace hP : va_P g.1 vwCl ([(t_p, .inr (3, [.ref a_1, .ref a_4, .null, .int 0, .int 0, .int 0, .int 0, .int 0, .int 0, .null])), (a_1, .inl (g.2.1, 6, .inl (fun _ => 0))), (a_4, .inl (g.2.1, 4, .inl (fun _ => 0))), (a_7, .inl (g.2.1, 6, .inl (fun _ => 0)))]) H := hP
  replace hD : va_D A ([(t_p, .inr (3, [.ref a_1, .ref a_4, .null, .int 0, .int 0, .int 0, .int 0, .int 0, .int 0, .null])), (a_1, .inl (g.2.1, 6, .inl (fun _ => 0))), (a_4, .inl (g.2.1, 4, .inl (fun _ => 0))), (a_7, .inl (g.2.1, 6, .inl (fun _ => 0)))]) := hD
  refine va_putF (D := g.1) (ci := 3) (v := .ref a_7) (ty := (.array .int)) (C := RX3) (T := TX3) (N := 10) hx hb hts hin3 tyX3 tyX3_ok nmX3 hown hK.1 hP hD hS 0 rfl rfl 2 (by decide) L7 (fun _ h9 => h9) rfl hin rfl (by decide +kernel) rfl rfl (Nat.le_of_ble_eq_true rfl) dX3_init_24 (fun H locs hP hD hS => ?_)
  replace hP : va_P g.1 vwCl ([(t_p, .inr (3, [.ref a_1, .ref a_4, .ref a_7, .int 0, .int 0, .int 0, .int 0, .int 0, .int 0, .null])), (a_1, .inl (g.2.1, 6, .inl (fun _ => 0))), (a_4, .inl (g.2.1, 4, .inl (fun _ => 0))), (a_7, .inl (g.2.1, 6, .inl (fun _ => 0)))]) H := hP
  replace hD : va_D A ([(t_p, .inr (3, [.ref a_1, .ref a_4, .ref a_7, .int 0, .int 0, .int 0, .int 0, .int 0, .int 0, .null])), (a_1, .inl (g.2.1, 6, .inl (fun _ => 0))), (a_4, .inl (g.2.1, 4, .inl (fun _ => 0))), (a_7, .inl (g.2.1, 6, .inl (fun _ => 0)))]) := hD
  refine lv_aload_n hx hb dX3_init_27 rfl (lv_at hl 0 rfl) ?_
  refine lv_iconst (v := 0) hx hb dX3_init_28 (by decide) ?_
  refine va_put (D := g.1) (ci := 3) (v := .int 0) (ty := .boolean) (C := RX3) (T := TX3) (N := 10) hx hb hts hin3 tyX3 tyX3_ok nmX3 hown hK.1 hP hD hS 0 rfl rfl 3 (by decide) L8 (fun _ h9 => h9) rfl (by decide +kernel) rfl rfl (Nat.le_of_ble_eq_true rfl) dX3_init_29 (fun H locs hP hD hS => ?_)
  replace hP : va_P g.1 vwCl ([(t_p, .inr (3, [.ref a_1, .ref a_4, .ref a_7, .int 0, .int 0, .int 0, .int 0, .int 0, .int 0, .null])), (a_1, .inl (g.2.1, 6, .inl (fun _ => 0))), (a_4, .inl (g.2.1, 4, .inl (fun _ => 0))), (a_7, .inl (g.2.1, 6, .inl (fun _ => 0)))]) H := hP
  replace hD : va_D A ([(t_p, .inr (3, [.ref a_1, .ref a_4, .ref a_7, .int 0, .int 0, .int 0, .int 0, .int 0, .int 0, .null])), (a_1, .inl (g.2.1, 6, .inl (fun _ => 0))), (a_4, .inl (g.2.1, 4, .inl (fun _ => 0))), (a_7, .inl (g.2.1, 6, .inl (fun _ => 0)))]) := hD
  refine lv_aload_n hx hb dX3_init_32 rfl (lv_at hl 0 rfl) ?_
  refine lv_iconst (v := 0) hx hb dX3_init_33 (by decide) ?_
  refine va_put (D := g.1) (ci := 3) (v := .int 0) (ty := .int) (C := RX3) (T := TX3) (N := 10) hx hb hts hin3 tyX3 tyX3_ok nmX3 hown hK.1 hP hD hS 0 rfl rfl 4 (by decide) L9 (fun _ h9 => h9) rfl (by decide +kernel) rfl rfl (Nat.le_of_ble_eq_true rfl) dX3_init_34 (fun H locs hP hD hS => ?_)
  replace hP : va_P g.1 vwCl ([(t_p, .inr (3, [.ref a_1, .ref a_4, .ref a_7, .int 0, .int 0, .int 0, .int 0, .int 0, .int 0, .null])), (a_1, .inl (g.2.1, 6, .inl (fun _ => 0))), (a_4, .inl (g.2.1, 4, .inl (fun _ => 0))), (a_7, .inl (g.2.1, 6, .inl (fun _ => 0)))]) H := hP
  replace hD : va_D A ([(t_p, .inr (3, [.ref a_1, .ref a_4, .ref a_7, .int 0, .int 0, .int 0, .int 0, .int 0, .int 0, .null])), (a_1, .inl (g.2.1, 6, .inl (fun _ => 0))), (a_4, .inl (g.2.1, 4, .inl (fun _ => 0))), (a_7, .inl (g.2.1, 6, .inl (fun _ => 0)))]) := hD
  refine lv_aload_n hx hb dX3_init_37 rfl (lv_at hl 0 rfl) ?_
  refine lv_iconst (v := 0) hx hb dX3_init_38 (by decide) ?_
  refine va_put (D := g.1) (ci := 3) (v := .int 0) (ty := .boolean) (C := RX3) (T := TX3) (N := 10) hx hb hts hin3 tyX3 tyX3_ok nmX3 hown hK.1 hP hD hS 0 rfl rfl 5 (by decide) L10 (fun _ h9 => h9) rfl (by decide +kernel) rfl rfl (Nat.le_of_ble_eq_true rfl) dX3_init_39 (fun H locs hP hD hS => ?_)
  replace hP : va_P g.1 vwCl ([(t_p, .inr (3, [.ref a_1, .ref a_4, .ref a_7, .int 0, .int 0, .int 0, .int 0, .int 0, .int 0, .null])), (a_1, .inl (g.2.1, 6, .inl (fun _ => 0))), (a_4, .inl (g.2.1, 4, .inl (fun _ => 0))), (a_7, .inl (g.2.1, 6, .inl (fun _ => 0)))]) H := hP
  replace hD : va_D A ([(t_p, .inr (3, [.ref a_1, .ref a_4, .ref a_7, .int 0, .int 0, .int 0, .int 0, .int 0, .int 0, .null])), (a_1, .inl (g.2.1, 6, .inl (fun _ => 0))), (a_4, .inl (g.2.1, 4, .inl (fun _ => 0))), (a_7, .inl (g.2.1, 6, .inl (fun _ => 0)))]) := hD
  refine lv_aload_n hx hb dX3_init_42 rfl (lv_at hl 0 rfl) ?_
  refine lv_iconst (v := 0) hx hb dX3_init_43 (by decide) ?_
  refine va_put (D := g.1) (ci := 3) (v := .int 0) (ty := .boolean) (C := RX3) (T := TX3) (N := 10) hx hb hts hin3 tyX3 tyX3_ok nmX3 hown hK.1 hP hD hS 0 rfl rfl 6 (by decide) L11 (fun _ h9 => h9) rfl (by decide +kernel) rfl rfl (Nat.le_of_ble_eq_true rfl) dX3_init_44 (fun H locs hP hD hS => ?_)
  replace hP : va_P g.1 vwCl ([(t_p, .inr (3, [.ref a_1, .ref a_4, .ref a_7, .int 0, .int 0, .int 0, .int 0, .int 0, .int 0, .null])), (a_1, .inl (g.2.1, 6, .inl (fun _ => 0))), (a_4, .inl (g.2.1, 4, .inl (fun _ => 0))), (a_7, .inl (g.2.1, 6, .inl (fun _ => 0)))]) H := hP
  replace hD : va_D A ([(t_p, .inr (3, [.ref a_1, .ref a_4, .ref a_7, .int 0, .int 0, .int 0, .int 0, .int 0, .int 0, .null])), (a_1, .inl (g.2.1, 6, .inl (fun _ => 0))), (a_4, .inl (g.2.1, 4, .inl (fun _ => 0))), (a_7, .inl (g.2.1, 6, .inl (fun _ => 0)))]) := hD
  refine lv_aload_n hx hb dX3_init_47 rfl (lv_at hl 0 rfl) ?_
  refine lv_iconst (v := 0) hx hb dX3_init_48 (by decide) ?_
  refine va_put (D := g.1) (ci := 3) (v := .int 0) (ty := .int) (C := RX3) (T := TX3) (N := 10) hx hb hts hin3 tyX3 tyX3_ok nmX3 hown hK.1 hP hD hS 0 rfl rfl 7 (by decide) L12 (fun _ h9 => h9) rfl (by decide +kernel) rfl rfl (Nat.le_of_ble_eq_true rfl) dX3_init_49 (fun H locs hP hD hS => ?_)
  replace hP : va_P g.1 vwCl ([(t_p, .inr (3, [.ref a_1, .ref a_4, .ref a_7, .int 0, .int 0, .int 0, .int 0, .int 0, .int 0, .null])), (a_1, .inl (g.2.1, 6, .inl (fun _ => 0))), (a_4, .inl (g.2.1, 4, .inl (fun _ => 0))), (a_7, .inl (g.2.1, 6, .inl (fun _ => 0)))]) H := hP
  replace hD : va_D A ([(t_p, .inr (3, [.ref a_1, .ref a_4, .ref a_7, .int 0, .int 0, .int 0, .int 0, .int 0, .int 0, .null])), (a_1, .inl (g.2.1, 6, .inl (fun _ => 0))), (a_4, .inl (g.2.1, 4, .inl (fun _ => 0))), (a_7, .inl (g.2.1, 6, .inl (fun _ => 0)))]) := hD
  refine lv_aload_n hx hb dX3_init_52 rfl (lv_at hl 0 rfl) ?_
  refine lv_iconst (v := 2) hx hb dX3_init_53 (by decide) ?_
  refine va_put (D := g.1) (ci := 3) (v := .int 2) (ty := .int) (C := RX3) (T := TX3) (N := 10) hx hb hts hin3 tyX3 tyX3_ok nmX3 hown hK.1 hP hD hS 0 rfl rfl 8 (by decide) L13 (fun _ h9 => h9) rfl (by decide +kernel) rfl rfl (Nat.le_of_ble_eq_true rfl) dX3_init_54 (fun H locs hP hD hS => ?_)
  replace hP : va_P g.1 vwCl ([(t_p, .inr (3, [.ref a_1, .ref a_4, .ref a_7, .int 0, .int 0, .int 0, .int 0, .int 0, .int 2, .null])), (a_1, .inl (g.2.1, 6, .inl (fun _ => 0))), (a_4, .inl (g.2.1, 4, .inl (fun _ => 0))), (a_7, .inl (g.2.1, 6, .inl (fun _ => 0)))]) H := hP
  replace hD : va_D A ([(t_p, .inr (3, [.ref a_1, .ref a_4, .ref a_7, .int 0, .int 0, .int 0, .int 0, .int 0, .int 2, .null])), (a_1, .inl (g.2.1, 6, .inl (fun _ => 0))), (a_4, .inl (g.2.1, 4, .inl (fun _ => 0))), (a_7, .inl (g.2.1, 6, .inl (fun _ => 0)))]) := hD
  refine lv_aload_n hx hb dX3_init_57 rfl (lv_at hl 0 rfl) ?_
  refine va_new (ci := 0) (fs := [.int 0, .int 0, .int 0, .null, .null]) (C := RX0) (T := TX0) (N := 5) hx hb hts hin0 tyX0 tyX0_ok hown L14 L15 L16 hK.1 hP hD hS hA rfl (fun j hj => by rcases (show j = 0 ∨ j = 1 ∨ j = 2 ∨ j = 3 ∨ j = 4 by omega) with rfl | rfl | rfl | rfl | rfl <;> rfl) (Nat.le_of_ble_eq_true rfl) (Nat.le_of_ble_eq_true rfl) dX3_init_58 (fun a_10 H hP hD hS => ?_)
  refine W.widen (k := 4) (n := 21) (Nat.le_refl _) (Nat.le_refl _) ?_
  replace hP : va_P g.1 vwCl ([(t_p, .inr (3, [.ref a_1, .ref a_4, .ref a_7, .int 0, .int 0, .int 0, .int 0, .int 0, .int 2, .null])), (a_1, .inl (g.2.1, 6, .inl (fun _ => 0))), (a_4, .inl (g.2.1, 4, .inl (fun _ => 0))), (a_7, .inl (g.2.1, 6, .inl (fun _ => 0))), (a_10, .inr (0, [.int 0, .int 0, .int 0, .null, .null]))]) H := hP
  replace hD : va_D A ([(t_p, .inr (3, [.ref a_1, .ref a_4, .ref a_7, .int 0, .int 0, .int 0, .int 0, .int 0, .int 2, .null])), (a_1, .inl (g.2.1, 6, .inl (fun _ => 0))), (a_4, .inl (g.2.1, 4, .inl (fun _ => 0))), (a_7, .inl (g.2.1, 6, .inl (fun _ => 0))), (a_10, .inr (0, [.int 0, .int 0, .int 0, .null, .null]))]) := hD
  refine lv_dup hx hb dX3_init_61 rfl ?_
  refine aft_c (wr := ([(t_p, .inr (3, [.ref a_1, .ref a_4, .ref a_7, .int 0, .int 0, .int 0, .int 0, .int 0, .int 2, .null])), (a_1, .inl (g.2.1, 6, .inl (fun _ => 0))), (a_4, .inl (g.2.1, 4, .inl (fun _ => 0))), (a_7, .inl (g.2.1, 6, .inl (fun _ => 0)))])) (va_runIN (As := []) (rest := [.ref a_10, .ref t_p]) ⟨hx, hb, hml, hown, hts⟩ (c0_init l g a_10 H.size) ⟨va_cnB 0 hts gX3_init_X0_init_n43 rfl rfl rfl (hK.nw _ 65 rfl) L16 ⟨nh0.1, nh0.2, pd_9⟩ ⟨Nat.le_of_ble_eq_true rfl, Nat.le_of_ble_eq_true rfl⟩, rfl, L17⟩ (pPS (As := [.ref a_10]) hK hG hP hD hS hA [4] (by decide) rfl) rfl rfl hl.1 rfl (lv_room (Nat.le_of_ble_eq_true rfl)) dX3_init_62 ⟨Nat.le_of_ble_eq_true rfl, Nat.le_of_ble_eq_true rfl⟩) hP hD hS hA [4] [0, 1, 2, 3] rfl rfl (by decide) (by decide) (fun u_62 H locs hP hD hS => ?_)
  obtain ⟨u_11, u_12⟩ := u_62
  refine W.widen (k := 6) (n := 141) (Nat.le_refl _) (Nat.le_refl _) ?_
  replace hP : va_P g.1 vwCl ([(t_p, .inr (3, [.ref a_1, .ref a_4, .ref a_7, .int 0, .int 0, .int 0, .int 0, .int 0, .int 2, .null])), (a_1, .inl (g.2.1, 6, .inl (fun _ => 0))), (a_4, .inl (g.2.1, 4, .inl (fun _ => 0))), (a_7, .inl (g.2.1, 6, .inl (fun _ => 0)))] ++ ([(a_10, .inr (0, [.int 0, .int 0, .int 0, .ref u_11, .ref u_12])), (u_11, .inl (g.2.1, 60, .inl (fun _ => 0))), (u_12, .inl (g.2.1, 60, .inl (fun _ => 0)))])) H := hP
  replace hD : va_D A ([(t_p, .inr (3, [.ref a_1, .ref a_4, .ref a_7, .int 0, .int 0, .int 0, .int 0, .int 0, .int 2, .null])), (a_1, .inl (g.2.1, 6, .inl (fun _ => 0))), (a_4, .inl (g.2.1, 4, .inl (fun _ => 0))), (a_7, .inl (g.2.1, 6, .inl (fun _ => 0)))] ++ ([(a_10, .inr (0, [.int 0, .int 0, .int 0, .ref u_11, .ref u_12])), (u_11, .inl (g.2.1, 60, .inl (fun _ => 0))), (u_12, .inl (g.2.1, 60, .inl (fun _ => 0)))])) := hD
  refine va_putF (D := g.1) (ci := 3) (v := .ref a_10) (ty := (.object "MouldShots$Band")) (C := RX3) (T := TX3) (N := 10) hx hb hts hin3 tyX3 tyX3_ok nmX3 hown hK.1 hP hD hS 0 rfl rfl 9 (by decide) L18 (fun _ h9 => h9) rfl hin rfl (by decide +kernel) rfl rfl (Nat.le_of_ble_eq_true rfl) dX3_init_65 (fun H locs hP hD hS => ?_)
  replace hP : va_P g.1 vwCl ([(t_p, .inr (3, [.ref a_1, .ref a_4, .ref a_7, .int 0, .int 0, .int 0, .int 0, .int 0, .int 2, .ref a_10])), (a_1, .inl (g.2.1, 6, .inl (fun _ => 0))), (a_4, .inl (g.2.1, 4, .inl (fun _ => 0))), (a_7, .inl (g.2.1, 6, .inl (fun _ => 0)))] ++ ([(a_10, .inr (0, [.int 0, .int 0, .int 0, .ref u_11, .ref u_12])), (u_11, .inl (g.2.1, 60, .inl (fun _ => 0))), (u_12, .inl (g.2.1, 60, .inl (fun _ => 0)))])) H := hP
  replace hD : va_D A ([(t_p, .inr (3, [.ref a_1, .ref a_4, .ref a_7, .int 0, .int 0, .int 0, .int 0, .int 0, .int 2, .ref a_10])), (a_1, .inl (g.2.1, 6, .inl (fun _ => 0))), (a_4, .inl (g.2.1, 4, .inl (fun _ => 0))), (a_7, .inl (g.2.1, 6, .inl (fun _ => 0)))] ++ ([(a_10, .inr (0, [.int 0, .int 0, .int 0, .ref u_11, .ref u_12])), (u_11, .inl (g.2.1, 60, .inl (fun _ => 0))), (u_12, .inl (g.2.1, 60, .inl (fun _ => 0)))])) := hD
  exact W.vret hx hb hr (fun t ht hW => ⟨⟨⟨a_1, a_4, a_7, a_10, u_11, u_12⟩, rfl, trivial, by show va_P g.1 vwCl _ t.heap; rw [ht]; exact hP, hD⟩, hS.F ht⟩) hS.2.2 dX3_init_68 hlocks

set_option maxHeartbeats 8000000 in
set_option maxRecDepth 100000 in
theorem c4_init (l : Launch) (g : gG) (t_p : Nat) (sz : Nat) : Met l yX4_init wsX4_init ({ frames := 1, cells := 2, slots := 203, locals := 12 }) (pP g [.ref t_p] sz [(t_p, .inr (4, [.null, .null, .int 0]))]) (va_Qv (fun (_ : Nat × Nat) => True) (fun u t => va_P g.1 vwCl ([(t_p, .inr (4, [.ref (u.1), .ref (u.2), .int 0])), ((u.1), .inl (g.2.1, 200, .inl (fun _ => 0))), ((u.2), .inl (g.2.1, 3, .inl (fun _ => 0)))]) t.heap ∧ va_D (va_A [(t_p, .inr (4, [.null, .null, .int 0]))] sz) ([(t_p, .inr (4, [.ref (u.1), .ref (u.2), .int 0])), ((u.1), .inl (g.2.1, 200, .inl (fun _ => 0))), ((u.2), .inl (g.2.1, 3, .inl (fun _ => 0)))])) (va_A [(t_p, .inr (4, [.null, .null, .int 0]))] sz)) 2 203 (va_A [(t_p, .inr (4, [.null, .null, .int 0]))] sz) := by
  refine Met.ofW (cc := cX4_init) (maxL := 1) (ret := none) (by decide) rfl ?_
  intro p e s m args below meth c s₁ B hml hv
  obtain ⟨rfl, hsz, hP, hK, hD0, hG⟩ := hv
  have hx := B.exec
  have hb := B.bytes
  have hr := B.returns
  have hts := atoms_spec (ws := wsX4_init) B.pre
  have hown : s.vm.findClass RX4 = some m.cls := findClass_of_methodNamed B.named
  have hlocks := B.notSynchronized
  have hin : meth.name = "<init>" := (name_of_methodNamed B.named B.method).1
  subst hsz
  have hD := hD0.self (sz := s.heap.size)
  generalize hAe : va_A [(t_p, .inr (4, [.null, .null, .int 0]))] s.heap.size = A at hD hG ⊢
  have hA : ∀ q : Nat, s.heap.size ≤ q → A q := fun q h => by rw [← hAe]; exact Or.inr h
  have hS : va_S A s.heap s.heap [] := va_S.rf
  have hin4 : ∀ w ∈ u_ws RX4 TX4 3, w ∈ wsX4_init := by decide +kernel
  have L1 := hts (Cond.methodLink RX4 3 objectInit) (by decide +kernel)
  have L2 := hts (Cond.instanceMethod objectInit) (by decide +kernel)
  have L3 := hts (Cond.code objectInit ⟨#[0xb1]⟩ 1 none) (by decide +kernel)
  have L4 := hts (Cond.arrayClass .int) (by decide +kernel)
  have L5 := hts (Cond.fieldLink RX4 9 "MouldShots$Text" "letters" "[I") (by decide +kernel)
  have L6 := hts (Cond.fieldLink RX4 15 "MouldShots$Text" "numbers" "[I") (by decide +kernel)
  have L7 := hts (Cond.fieldLink RX4 18 "MouldShots$Text" "length" "I") (by decide +kernel)
  have hl := lv_entry ([.ref t_p]) (n := 1) (Nat.le_of_ble_eq_true rfl)
  rw [lg_entry_eq]
  generalize (lg_sl ([.ref t_p]) ++ List.replicate (1 - (lg_sl ([.ref t_p])).length) Slot.unset).toArray = ls at hl ⊢
  replace hl : lv_has ls 1 [(0, .ref t_p)] := hl
  refine lv_aload_n hx hb dX4_init_0 rfl (lv_at hl 0 rfl) ?_
  refine W.objInit hx hb hown L1 L2 L3 rfl (by rw [hml]; exact hl.1) rfl dX4_init_1 (Nat.le_of_ble_eq_true rfl) (Nat.le_of_ble_eq_true rfl) ?_
  refine W.eq (g2 := F0 m 4 ls []) rfl ?_
  refine lv_aload_n hx hb dX4_init_4 rfl (lv_at hl 0 rfl) ?_
  refine lv_sipush (v := 200) hx hb dX4_init_5 (by decide) ?_
  refine va_newa (atype := .int) (ty := .int) (N' := 200) (a0 := (200, .inl (fun _ => 0))) hx hb L4 rfl hK.1 hP hD hS hA (fun _ => rfl) (by decide) (by decide) (Nat.le_of_ble_eq_true rfl) (Nat.le_of_ble_eq_true rfl) (Nat.le_of_ble_eq_true rfl) dX4_init_8 (fun a_1 k_2 H hK_3 hP hD hS => ?_)
  obtain rfl := cA_int hK_3
  refine W.widen (k := 1) (n := 200) (Nat.le_refl _) (Nat.le_refl _) ?_
  replace hP : va_P g.1 vwCl ([(t_p, .inr (4, [.null, .null, .int 0])), (a_1, .inl (g.2.1, 200, .inl (fun _ => 0)))]) H := hP
  replace hD : va_D A ([(t_p, .inr (4, [.null, .null, .int 0])), (a_1, .inl (g.2.1, 200, .inl (fun _ => 0)))]) := hD
  refine va_putF (D := g.1) (ci := 4) (v := .ref a_1) (ty := (.array .int)) (C := RX4) (T := TX4) (N := 3) hx hb hts hin4 tyX4 tyX4_ok nmX4 hown hK.1 hP hD hS 0 rfl rfl 0 (by decide) L5 (fun _ h9 => h9) rfl hin rfl (by decide +kernel) rfl rfl (Nat.le_of_ble_eq_true rfl) dX4_init_10 (fun H locs hP hD hS => ?_)
  replace hP : va_P g.1 vwCl ([(t_p, .inr (4, [.ref a_1, .null, .int 0])), (a_1, .inl (g.2.1, 200, .inl (fun _ => 0)))]) H := hP
  replace hD : va_D A ([(t_p, .inr (4, [.ref a_1, .null, .int 0])), (a_1, .inl (g.2.1, 200, .inl (fun _ => 0)))]) := hD
  refine lv_aload_n hx hb dX4_init_13 rfl (lv_at hl 0 rfl) ?_
  refine lv_iconst (v := 3) hx hb dX4_init_14 (by decide) ?_
  refine va_newa (atype := .int) (ty := .int) (N' := 3) (a0 := (3, .inl (fun _ => 0))) hx hb L4 rfl hK.1 hP hD hS hA (fun _ => rfl) (by decide) (by decide) (Nat.le_of_ble_eq_true rfl) (Nat.le_of_ble_eq_true rfl) (Nat.le_of_ble_eq_true rfl) dX4_init_15 (fun a_4 k_5 H hK_6 hP hD hS => ?_)
  obtain rfl := cA_int hK_6
  refine W.widen (k := 2) (n := 203) (Nat.le_refl _) (Nat.le_refl _) ?_
  replace hP : va_P g.1 vwCl ([(t_p, .inr (4, [.ref a_1, .null, .int 0])), (a_1, .inl (g.2.1, 200, .inl (fun _ => 0))), (a_4, .inl (g.2.1, 3, .inl (fun _ => 0)))]) H := hP
  replace hD : va_D A ([(t_p, .inr (4, [.ref a_1, .null, .int 0])), (a_1, .inl (g.2.1, 200, .inl (fun _ => 0))), (a_4, .inl (g.2.1, 3, .inl (fun _ => 0)))]) := hD
  refine va_putF (D := g.1) (ci := 4) (v := .ref a_4) (ty := (.array .int)) (C := RX4) (T := TX4) (N := 3) hx hb hts hin4 tyX4 tyX4_ok nmX4 hown hK.1 hP hD hS 0 rfl rfl 1 (by decide) L6 (fun _ h9 => h9) rfl hin rfl (by decide +kernel) rfl rfl (Nat.le_of_ble_eq_true rfl) dX4_init_17 (fun H locs hP hD hS => ?_)
  replace hP : va_P g.1 vwCl ([(t_p, .inr (4, [.ref a_1, .ref a_4, .int 0])), (a_1, .inl (g.2.1, 200, .inl (fun _ => 0))), (a_4, .inl (g.2.1, 3, .inl (fun _ => 0)))]) H := hP
  replace hD : va_D A ([(t_p, .inr (4, [.ref a_1, .ref a_4, .int 0])), (a_1, .inl (g.2.1, 200, .inl (fun _ => 0))), (a_4, .inl (g.2.1, 3, .inl (fun _ => 0)))]) := hD
  refine lv_aload_n hx hb dX4_init_20 rfl (lv_at hl 0 rfl) ?_
  refine lv_iconst (v := 0) hx hb dX4_init_21 (by decide) ?_
  refine va_put (D := g.1) (ci := 4) (v := .int 0) (ty := .int) (C := RX4) (T := TX4) (N := 3) hx hb hts hin4 tyX4 tyX4_ok nmX4 hown hK.1 hP hD hS 0 rfl rfl 2 (by decide) L7 (fun _ h9 => h9) rfl (by decide +kernel) rfl rfl (Nat.le_of_ble_eq_true rfl) dX4_init_22 (fun H locs hP hD hS => ?_)
  replace hP : va_P g.1 vwCl ([(t_p, .inr (4, [.ref a_1, .ref a_4, .int 0])), (a_1, .inl (g.2.1, 200, .inl (fun _ => 0))), (a_4, .inl (g.2.1, 3, .inl (fun _ => 0)))]) H := hP
  replace hD : va_D A ([(t_p, .inr (4, [.ref a_1, .ref a_4, .int 0])), (a_1, .inl (g.2.1, 200, .inl (fun _ => 0))), (a_4, .inl (g.2.1, 3, .inl (fun _ => 0)))]) := hD
  exact W.vret hx hb hr (fun t ht hW => ⟨⟨⟨a_1, a_4⟩, rfl, trivial, by show va_P g.1 vwCl _ t.heap; rw [ht]; exact hP, hD⟩, hS.F ht⟩) hS.2.2 dX4_init_25 hlocks
