/-! the start: what the Statement gives of it -/
theorem gv_z3 {k : Nat} (hk : k < 3) : Cond.arrayOf (zT k) .int ∈ gvF ∧ Cond.eq (.length (zT k)) (.int (Int32.ofNat 6)) ∈ gvF ∧ ∀ j, j < 6 → Cond.eq (.elem (zT k) (.int (Int32.ofNat j))) (.int (zN k j)) ∈ gvF := by
  have h := List.all_eq_true.mp gv_z k (List.mem_range.mpr hk)
  simp only [Bool.and_eq_true, decide_eq_true_eq, List.all_eq_true, List.mem_range] at h
  exact h
theorem K_at {D : va_G} {s : State} {c0 c1 c2 c3 c4 c5 c6 : ClassId} {i0 i1 i2 i3 i4 i5 i6 : Nat → Nat} (h0 : u_Kn s RX0 TX0 5 c0 i0) (h1 : u_Kn s RX1 TX1 10 c1 i1) (h2 : u_Kn s RX2 TX2 9 c2 i2) (h3 : u_Kn s RX3 TX3 10 c3 i3) (h4 : u_Kn s RX4 TX4 3 c4 i4) (h5 : u_Kn s RX5 TX5 9 c5 i5) (h6 : u_Kn s RX6 TX6 23 c6 i6) : ∃ D : va_G, ∀ (k : Nat) (q : vw_C), vwCl[k]? = some q → u_Kn s q.1 q.2.1 q.2.2 (D.1 k) (D.2 k) := by
  refine ⟨⟨fun k => match k with | 0 => c0 | 1 => c1 | 2 => c2 | 3 => c3 | 4 => c4 | 5 => c5 | _ => c6, fun k => match k with | 0 => i0 | 1 => i1 | 2 => i2 | 3 => i3 | 4 => i4 | 5 => i5 | _ => i6⟩, ?_⟩
  intro k q hq
  match k, hq with
  | 0, hq => cases hq; exact h0
  | 1, hq => cases hq; exact h1
  | 2, hq => cases hq; exact h2
  | 3, hq => cases hq; exact h3
  | 4, hq => cases hq; exact h4
  | 5, hq => cases hq; exact h5
  | 6, hq => cases hq; exact h6
  | k + 7, hq => cases hq
theorem gK_at {args : Array Value} {s : State} (hts : ∀ w ∈ lw_tbl, w.before args s = true) (st : Nat → Nat) : ∃ (D : va_G) (cI cS cH : ClassId), gK (D, cI, cS, cH, st) s := by
  obtain ⟨c0, i0, h0⟩ := u_known (C := RX0) (T := TX0) (N := 5) (n := 5) hts wl_wsX00 (hts _ sI0)
  obtain ⟨c1, i1, h1⟩ := u_known (C := RX1) (T := TX1) (N := 10) (n := 10) hts wl_wsX10 (hts _ sI1)
  obtain ⟨c2, i2, h2⟩ := u_known (C := RX2) (T := TX2) (N := 9) (n := 9) hts wl_wsX20 (hts _ sI2)
  obtain ⟨c3, i3, h3⟩ := u_known (C := RX3) (T := TX3) (N := 10) (n := 10) hts wl_wsX30 (hts _ sI3)
  obtain ⟨c4, i4, h4⟩ := u_known (C := RX4) (T := TX4) (N := 3) (n := 3) hts wl_wsX40 (hts _ sI4)
  obtain ⟨c5, i5, h5⟩ := u_known (C := RX5) (T := TX5) (N := 9) (n := 9) hts wl_wsX50 (hts _ sI5)
  obtain ⟨c6, i6, h6⟩ := u_known (C := RX6) (T := TX6) (N := 23) (n := 23) hts wl_wsX60 (hts _ sI6)
  obtain ⟨D, hD⟩ := K_at (D := (fun _ => c0, fun _ => i0)) h0 h1 h2 h3 h4 h5 h6
  obtain ⟨cI, kI, mI, a1, a2, a3⟩ := Cond.arrayClass_spec (hts _ sA)
  obtain ⟨mS, cS, kS, b1, b2, b3, b4, b5⟩ := Cond.arrayOver_spec (hts _ sO3)
  obtain ⟨mH, cH, kH, d1, d2, d3, d4, d5⟩ := Cond.arrayOver_spec (hts _ sO2)
  refine ⟨D, cI, cS, cH, ⟨hD, fun k q hq => ?_⟩, fun w hw => va_Nw.of (nest_ok w hw).1 (hts w (in_nest w hw))⟩
  match k, hq with
  | 0, hq => cases hq; exact ⟨fun n z => ⟨(fun k h => by cases h), kI, a2, mI, a3⟩, a1⟩
  | 1, hq => cases hq; exact ⟨fun n z => ⟨(fun k h => by cases h), kS, b3, mS, b4⟩, kS, mS, b3, b4, b1, b5⟩
  | 2, hq => cases hq; exact ⟨fun n z => ⟨(fun k h => by cases h), kH, d3, mH, d4⟩, kH, mH, d3, d4, d1, d5⟩
  | k + 3, hq => cases hq
theorem st_at {args : Array Value} {s : State} (hts : ∀ w ∈ lw_tbl, w.before args s = true) (hgv : (Jvm.Cond.and given_1 narrow_1).before args s = true) : ∃ st : Nat → Nat, ∀ k, k < 3 → (zT k).eval args s none [] s = some (.ref (st k)) ∧ va_X (st k) 6 (zN k) s s.heap ∧ st k < s.heap.size := by
  have hs := flat_of_before _ hgv
  have h : ∀ k, k < 3 → ∃ t, (zT k).eval args s none [] s = some (.ref t) ∧ va_X t 6 (zN k) s s.heap ∧ t < s.heap.size := fun k hk => va_Xof (by decide) (hs _ (gv_z3 hk).1) (hs _ (gv_z3 hk).2.1) (fun j hj => hs _ ((gv_z3 hk).2.2 j hj))
  obtain ⟨t0, a0⟩ := h 0 (by omega)
  obtain ⟨t1, a1⟩ := h 1 (by omega)
  obtain ⟨t2, a2⟩ := h 2 (by omega)
  refine ⟨fun k => match k with | 0 => t0 | 1 => t1 | _ => t2, fun k hk => ?_⟩
  match k, hk with
  | 0, _ => exact a0
  | 1, _ => exact a1
  | 2, _ => exact a2
theorem gS_at {args : Array Value} {s : State} {g : gG} (hts : ∀ w ∈ lw_tbl, w.before args s = true) (hst : ∀ k, k < 3 → (zT k).eval args s none [] s = some (.ref (g.2.2.2.2 k)) ∧ va_X (g.2.2.2.2 k) 6 (zN k) s s.heap ∧ g.2.2.2.2 k < s.heap.size) : gS g (fun q => s.heap.size ≤ q) s s.heap := by
  have hA : ∀ a : Nat, a < s.heap.size → ¬ (fun q => s.heap.size ≤ q) a := fun a h => Nat.not_le.mpr h
  have hi := hts _ sN5
  intro k q hq
  match k, hq with
  | 0, hq => cases hq; obtain ⟨h1, h2, h3⟩ := hst 0 (by omega); exact ⟨va_Zof (hts _ sZ0) hi h1 hA, h2, h3, hA _ h3⟩
  | 1, hq => cases hq; obtain ⟨h1, h2, h3⟩ := hst 1 (by omega); exact ⟨va_Zof (hts _ sZ1) hi h1 hA, h2, h3, hA _ h3⟩
  | 2, hq => cases hq; obtain ⟨h1, h2, h3⟩ := hst 2 (by omega); exact ⟨va_Zof (hts _ sZ2) hi h1 hA, h2, h3, hA _ h3⟩
  | k + 3, hq => cases hq
theorem tx_b : ∀ j, j < 67 → (([txL.map nI] : List (List Int32)).getD 0 []).getD j 0 = txF j := by decide +kernel
theorem sW_at {args : Array Value} {s : State} (hts : ∀ w ∈ lw_tbl, w.before args s = true) (hgv : (Jvm.Cond.and given_1 narrow_1).before args s = true) : ∃ k v : Nat, sW k v (fun q => s.heap.size ≤ q) s s.heap ∧ vk_R RX5 55 tx0 k s := by
  have hs := flat_of_before _ hgv
  have hA : ∀ a : Nat, a < s.heap.size → ¬ (fun q => s.heap.size ≤ q) a := fun a h => Nat.not_le.mpr h
  obtain ⟨aK, aV, hS, he⟩ := vk_Sof (N := 1) (tm := fun _ => sT) (len := [67]) (byt := [txL.map nI]) (A := fun q => s.heap.size ≤ q) (fun i hi => by obtain rfl : i = 0 := (by omega); decide) (fun i _ => hs _ gv_s1) (fun i _ => hs _ gv_s2) (fun i _ => hs _ gv_s3) (fun i hi => by obtain rfl : i = 0 := (by omega); exact hs _ gv_s4) (fun i hi j hj => by
    obtain rfl : i = 0 := (by omega)
    rw [tx_b j hj]
    exact hs _ (of_decide_eq_true (List.all_eq_true.mp gv_s5 j (List.mem_range.mpr hj)))) (fun i j hi hj h => absurd (show i = j by omega) h) hA
  obtain ⟨o1, o2, o3, cell, t1, t2, t3, t4, t5, t6, t7⟩ := hS.1 0 (by omega)
  refine ⟨aK 0, aV 0, ⟨o1, o2, o3, ⟨cell, t1, t2, t3, t4, t5, fun j hj => (t6 j hj).trans (congrArg (fun z => some (Value.int z)) (tx_b j hj)), t7⟩, va_Zof (hts _ sZc) (hts _ sNs) (va_eqt (hs _ gv_c)) hA, va_Zqof (hts _ sZq) (hts _ sNp) (hs _ gv_q) hA⟩, vk_R.of (hts _ sR) (he 0 (by omega))⟩
theorem cPre_blind {g : gG} {k v t sz : Nat} : FrameBlind (cPre g k v t sz) := by
  intro a U G mk q
  obtain ⟨q0, q1, qP, qK, qD, qS, o3, o2, r, w⟩ := q
  exact ⟨q0, q1, qP, ⟨va_K.moved (u := U) (U := U.calling G mk a) (Vm.Alike.refl U.vm) qK.1, fun w hw => va_Nw.same (u := U) (U := U.calling G mk a) (nest_ok w hw).1 rfl (qK.2 w hw)⟩, qD, qS.on (U := U.calling G mk a) (va_S.rf (H0 := U.heap)) (Vm.Alike.refl U.vm) (fun _ h => h), va_AO.moved (u := U) (U := U.calling G mk a) (Vm.Alike.refl U.vm) o3, va_AO.moved (u := U) (U := U.calling G mk a) (Vm.Alike.refl U.vm) o2, vk_R.same (u := U) (U := U.calling G mk a) rfl r, w.on (U := U.calling G mk a) (va_S.rf (H0 := U.heap)) (Vm.Alike.refl U.vm) (fun _ h => h)⟩
