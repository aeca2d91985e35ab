/-! the law: cavity, filled, tried, even, order, count -/
set_option maxHeartbeats 4000000 in
set_option maxRecDepth 100000 in
theorem lc_cavity {p : Program} {e : Env} {s : State} {m : MethodId} {below : List Frame} {meth : Method} {c : Code} {l : Launch} {g : gG} {b L xp mp q K CC SS : Nat} {xs : Nat → Int32} {Q : State → Prop} (hL : L ≤ 2048) (hCC : CC + 0 ≤ room_1.cells) (hSS : SS + 0 ≤ room_1.slots) (C0 : lw_At p s m meth c b L xs) (hK : gK g s) (hG : gS g (fun q : Nat => s.heap.size ≤ q) s s.heap) (hq4 : q + 4 ≤ L) (hK6 : K < 600) {H : Heap} {locs : List Loc} {ls : Array Slot} (hI : INV g (fun q : Nat => s.heap.size ≤ q) xp mp K H) (hS : va_S (fun q : Nat => s.heap.size ≤ q) s.heap H locs) (hl : lv_has ls 4 [(0, .ref b), (1, .ref xp), (2, .ref mp), (3, .int (nI q))]) (kk : ∀ (H1 : Heap) (locs1 : List Loc), INV g (fun q : Nat => s.heap.size ≤ q) xp mp (K + 1) H1 → va_S (fun q : Nat => s.heap.size ≤ q) s.heap H1 locs1 → W p l e room_1 s m #[Value.ref b] below meth c H1 locs1 CC SS Q (F0 m 800 ls [])) : W p l e room_1 s m #[Value.ref b] below meth c H locs CC SS Q (F0 m 599 ls []) := by
  obtain ⟨hx0, hb, hr, hml, hown, hts0, hX, hbl, hlocks, hgv⟩ := C0
  have hts := hts0
  have hA : ∀ q : Nat, s.heap.size ≤ q → (fun q : Nat => s.heap.size ≤ q) q := fun _ h => h
  have hbA : ¬ (fun q : Nat => s.heap.size ≤ q) b := Nat.not_le.mpr hbl
  obtain ⟨z, pp, pd, pq, dq, sa, ha, rq, mq, sq, bq, hq, i, d, cav, cor, stg, pl, dv, rv, S, Hh, xl, nums, xn, tn, tt, tv, tf, te, tp, now, was, one, sc, y, hP, hD, hT, hRP, hRW, hMB⟩ := hI
  have hi5 : i < 5 := hRW.1
  have hj5 : (i + 1) % 5 < 5 := Nat.mod_lt _ (by decide)
  have hij : i ≠ (i + 1) % 5 := by omega
  have hc : cav ≤ 6 := hRP.1.2.1
  have hs : stg ≤ 4 := hRP.2.2.1.2.1
  have hcor : cor ≤ 4 := hRP.2.1.1
  have hE : RE cor (pl.2 3) te := hRP.2.2.2.2.1
  have hv : ∀ c, c < cav → tv c = pl.2 0 c ∧ ∃ k : Nat, k ≤ 30 ∧ pl.2 0 c = nI k := fun c h => by
    obtain ⟨h1, -, ⟨v, -, h2, h3⟩, -⟩ := hRP.2.2.2.1 c h
    exact ⟨h1, v, h2, h3⟩
  obtain ⟨m0, hm⟩ := RW_now hRW
  have hin1 : vp_in (nI q + 1) L := by rw [show nI q + (1 : Int32) = nI (q + 1) from addn q 1]; exact vp_in_nI (by omega) (by omega)
  have hin2 : vp_in (nI q + 2) L := by rw [show nI q + (2 : Int32) = nI (q + 2) from addn q 2]; exact vp_in_nI (by omega) (by omega)
  obtain ⟨r0, h1, h2⟩ := eq_cavity 5000 (xs (Int32.toNatClampNeg (nI q + 1))) (xs (Int32.toNatClampNeg (nI q + 2))) (cav := cav) (vol := pl.2 0) (fre := pl.2 2) (dr := (S i).2 0) (tv := tv) (tf := tf) (a := now) hc (fun c hc' => ⟨(hRP.2.2.2.1 c hc').1, (hRP.2.2.2.1 c hc').2.1, RS_dr hm hc'⟩)
  have ct := c5_cavity l g xp (z 0) pp pd (z 1) sa (nI i) (nI d) (z 2) ha (z 3) (nI cav) (pq 0) (pl.2 0) (pq 1) (pl.2 1) (pq 2) (pl.2 2) (nI cor) (pq 3) (pl.2 3) (nI stg) (pq 4) (pl.2 4) (pq 5) (pl.2 5) (pq 6) (pl.2 6) (sq i 0) ((S i).2 0) (sq i 1) ((S i).2 1) (sq i 2) ((S i).2 2) ((S i).1 0) ((S i).1 1) ((S i).1 2) ((S i).1 3) ((S i).1 4) ((S i).1 5) (sq i 3) (xs (Int32.toNatClampNeg (nI q + 1))) (xs (Int32.toNatClampNeg (nI q + 2))) H.size 5000 _ h1
  try dsimp only [outS, outSH] at ct
  simp only [clI hi5, clU hi5] at ct
  refine lv_aload_n hx0 hb dL_law_599 rfl (lv_at hl 1 rfl) ?_
  refine lv_aload_n hx0 hb dL_law_600 rfl (lv_at hl 0 rfl) ?_
  refine lv_iload_n hx0 hb dL_law_601 rfl (lv_at hl 3 rfl) ?_
  refine lv_iconst (v := 1) hx0 hb dL_law_602 (by decide) ?_
  refine lv_iadd hx0 hb dL_law_603 ?_
  refine va_sld hx0 hb hX hbl hbA hS hin1 dL_law_604 ?_
  refine lv_aload_n hx0 hb dL_law_605 rfl (lv_at hl 0 rfl) ?_
  refine lv_iload_n hx0 hb dL_law_606 rfl (lv_at hl 3 rfl) ?_
  refine lv_iconst (v := 2) hx0 hb dL_law_607 (by decide) ?_
  refine lv_iadd hx0 hb dL_law_608 ?_
  refine va_sld hx0 hb hX hbl hbA hS hin2 dL_law_609 ?_
  refine bft_i_ro (va_runV (As := [.int (xs (Int32.toNatClampNeg (nI q + 1))), .int (xs (Int32.toNatClampNeg (nI q + 2)))]) (rest := []) ⟨hx0, hb, hml, hown, hts⟩ ct (cwV 2 hts gL_law_X5_cavity rfl rfl rfl ⟨rfl, nh5.1, nh5.2, pd_14⟩ ⟨Nat.le_of_ble_eq_true rfl, Nat.le_of_ble_eq_true rfl⟩) (qPV hK hG hP hD hS hA [0, 2, 6 + i] (nd_ps i hi5) (mc rfl (mc rfl (mc (mm_S hi5) rfl))) (va_recv hK.1 hP (ci := 5) (q0 := 0) rfl rfl)) rfl rfl hl.1 rfl (lv_room (Nat.le_of_ble_eq_true rfl)) dL_law_610 ⟨hCC, hSS⟩) hP hD hS hA [0, 2, 6 + i] (mc rfl (mc rfl (mc (mm_S hi5) rfl))) (fun r H locs hw hP hD hS => ?_)
  replace hw := hw.symm
  subst hw
  refine lv_aload_n hx0 hb dL_law_613 rfl (lv_at hl 2 rfl) ?_
  refine lv_aload_n hx0 hb dL_law_614 rfl (lv_at hl 0 rfl) ?_
  refine lv_iload_n hx0 hb dL_law_615 rfl (lv_at hl 3 rfl) ?_
  refine lv_iconst (v := 1) hx0 hb dL_law_616 (by decide) ?_
  refine lv_iadd hx0 hb dL_law_617 ?_
  refine va_sld hx0 hb hX hbl hbA hS hin1 dL_law_618 ?_
  refine lv_aload_n hx0 hb dL_law_619 rfl (lv_at hl 0 rfl) ?_
  refine lv_iload_n hx0 hb dL_law_620 rfl (lv_at hl 3 rfl) ?_
  refine lv_iconst (v := 2) hx0 hb dL_law_621 (by decide) ?_
  refine lv_iadd hx0 hb dL_law_622 ?_
  refine va_sld hx0 hb hX hbl hbA hS hin2 dL_law_623 ?_
  have cm := c6_cavity l g mp tn (mq 0) tt (nI cav) (mq 1) tv (mq 2) tf (nI cor) (mq 3) te (nI stg) (mq 4) tp (mq 5) now (mq 6) was (nI d) (mq 7) one y.1 (mq 8) y.2.1 y.2.2.1 (mq 9) y.2.2.2.1 y.2.2.2.2.1 (mq 10) y.2.2.2.2.2.1 (mq 11) y.2.2.2.2.2.2.1 y.2.2.2.2.2.2.2.1 y.2.2.2.2.2.2.2.2 sc (xs (Int32.toNatClampNeg (nI q + 1))) (xs (Int32.toNatClampNeg (nI q + 2))) H.size 5000 _ h2
  try dsimp only at cm
  refine bft_i_ro (va_runV (As := [.int (xs (Int32.toNatClampNeg (nI q + 1))), .int (xs (Int32.toNatClampNeg (nI q + 2)))]) (rest := [.int r0]) ⟨hx0, hb, hml, hown, hts⟩ cm (cwV 2 hts gL_law_X6_cavity rfl rfl rfl ⟨rfl, nh6.1, nh6.2, pd_14⟩ ⟨Nat.le_of_ble_eq_true rfl, Nat.le_of_ble_eq_true rfl⟩) (qPV hK hG hP hD hS hA [5] rfl (mc rfl rfl) (va_recv hK.1 hP (ci := 6) (q0 := 27) rfl rfl)) rfl rfl hl.1 rfl (lv_room (Nat.le_of_ble_eq_true rfl)) dL_law_624 ⟨hCC, hSS⟩) hP hD hS hA [5] (mc rfl rfl) (fun r H locs hw hP hD hS => ?_)
  replace hw := hw.symm
  subst hw
  refine lv_icmp_eq (tgt := 800) hx0 hb dL_law_627 (by decide) (fun _ => ?_) (fun c9 => absurd rfl c9)
  exact kk H locs ⟨z, pp, pd, pq, dq, sa, ha, rq, mq, sq, bq, hq, i, d, cav, cor, stg, pl, dv, rv, S, Hh, xl, nums, xn, tn, tt, tv, tf, te, tp, now, was, one, sc, y, hP, hD, hT, hRP, hRW, (MB_up hMB)⟩ hS
set_option maxHeartbeats 4000000 in
set_option maxRecDepth 100000 in
theorem lc_filled {p : Program} {e : Env} {s : State} {m : MethodId} {below : List Frame} {meth : Method} {c : Code} {l : Launch} {g : gG} {b L xp mp q K CC SS : Nat} {xs : Nat → Int32} {Q : State → Prop} (hL : L ≤ 2048) (hCC : CC + 0 ≤ room_1.cells) (hSS : SS + 0 ≤ room_1.slots) (C0 : lw_At p s m meth c b L xs) (hK : gK g s) (hG : gS g (fun q : Nat => s.heap.size ≤ q) s s.heap) (hq4 : q + 4 ≤ L) (hK6 : K < 600) {H : Heap} {locs : List Loc} {ls : Array Slot} (hI : INV g (fun q : Nat => s.heap.size ≤ q) xp mp K H) (hS : va_S (fun q : Nat => s.heap.size ≤ q) s.heap H locs) (hl : lv_has ls 4 [(0, .ref b), (1, .ref xp), (2, .ref mp), (3, .int (nI q))]) (kk : ∀ (H1 : Heap) (locs1 : List Loc), INV g (fun q : Nat => s.heap.size ≤ q) xp mp (K + 1) H1 → va_S (fun q : Nat => s.heap.size ≤ q) s.heap H1 locs1 → W p l e room_1 s m #[Value.ref b] below meth c H1 locs1 CC SS Q (F0 m 800 ls [])) : W p l e room_1 s m #[Value.ref b] below meth c H locs CC SS Q (F0 m 632 ls []) := by
  obtain ⟨hx0, hb, hr, hml, hown, hts0, hX, hbl, hlocks, hgv⟩ := C0
  have hts := hts0
  have hA : ∀ q : Nat, s.heap.size ≤ q → (fun q : Nat => s.heap.size ≤ q) q := fun _ h => h
  have hbA : ¬ (fun q : Nat => s.heap.size ≤ q) b := Nat.not_le.mpr hbl
  obtain ⟨z, pp, pd, pq, dq, sa, ha, rq, mq, sq, bq, hq, i, d, cav, cor, stg, pl, dv, rv, S, Hh, xl, nums, xn, tn, tt, tv, tf, te, tp, now, was, one, sc, y, hP, hD, hT, hRP, hRW, hMB⟩ := hI
  have hi5 : i < 5 := hRW.1
  have hj5 : (i + 1) % 5 < 5 := Nat.mod_lt _ (by decide)
  have hij : i ≠ (i + 1) % 5 := by omega
  have hc : cav ≤ 6 := hRP.1.2.1
  have hs : stg ≤ 4 := hRP.2.2.1.2.1
  have hcor : cor ≤ 4 := hRP.2.1.1
  have hE : RE cor (pl.2 3) te := hRP.2.2.2.2.1
  have hv : ∀ c, c < cav → tv c = pl.2 0 c ∧ ∃ k : Nat, k ≤ 30 ∧ pl.2 0 c = nI k := fun c h => by
    obtain ⟨h1, -, ⟨v, -, h2, h3⟩, -⟩ := hRP.2.2.2.1 c h
    exact ⟨h1, v, h2, h3⟩
  obtain ⟨m0, hm⟩ := RW_now hRW
  have hin1 : vp_in (nI q + 1) L := by rw [show nI q + (1 : Int32) = nI (q + 1) from addn q 1]; exact vp_in_nI (by omega) (by omega)
  have hin2 : vp_in (nI q + 2) L := by rw [show nI q + (2 : Int32) = nI (q + 2) from addn q 2]; exact vp_in_nI (by omega) (by omega)
  have hin3 : vp_in (nI q + 3) L := by rw [show nI q + (3 : Int32) = nI (q + 3) from addn q 3]; exact vp_in_nI (by omega) (by omega)
  obtain ⟨r0, h1, h2⟩ := eq_filled 5000 (xs (Int32.toNatClampNeg (nI q + 1))) (xs (Int32.toNatClampNeg (nI q + 2))) (xs (Int32.toNatClampNeg (nI q + 3))) hc hm (fun c hc' => (hv c hc').1)
  have ct := c5_filled l g xp (z 0) pp pd (z 1) sa (nI i) (nI d) (z 2) ha (z 3) (nI cav) (pq 0) (pl.2 0) (pq 1) (pl.2 1) (pq 2) (pl.2 2) (nI cor) (pq 3) (pl.2 3) (nI stg) (pq 4) (pl.2 4) (pq 5) (pl.2 5) (pq 6) (pl.2 6) (sq i 0) ((S i).2 0) (sq i 1) ((S i).2 1) (sq i 2) ((S i).2 2) ((S i).1 0) ((S i).1 1) ((S i).1 2) ((S i).1 3) ((S i).1 4) ((S i).1 5) (sq i 3) (hq (hx ((S i).1 4) (xs (Int32.toNatClampNeg (nI q + 1)))) 0) ((Hh (hx ((S i).1 4) (xs (Int32.toNatClampNeg (nI q + 1))))).2 0) (hq (hx ((S i).1 4) (xs (Int32.toNatClampNeg (nI q + 1)))) 1) ((Hh (hx ((S i).1 4) (xs (Int32.toNatClampNeg (nI q + 1))))).2 1) (hq (hx ((S i).1 4) (xs (Int32.toNatClampNeg (nI q + 1)))) 2) ((Hh (hx ((S i).1 4) (xs (Int32.toNatClampNeg (nI q + 1))))).2 2) (hq (hx ((S i).1 4) (xs (Int32.toNatClampNeg (nI q + 1)))) 3) ((Hh (hx ((S i).1 4) (xs (Int32.toNatClampNeg (nI q + 1))))).2 3) ((Hh (hx ((S i).1 4) (xs (Int32.toNatClampNeg (nI q + 1))))).1 0) ((Hh (hx ((S i).1 4) (xs (Int32.toNatClampNeg (nI q + 1))))).1 1) ((Hh (hx ((S i).1 4) (xs (Int32.toNatClampNeg (nI q + 1))))).1 2) ((Hh (hx ((S i).1 4) (xs (Int32.toNatClampNeg (nI q + 1))))).1 3) ((Hh (hx ((S i).1 4) (xs (Int32.toNatClampNeg (nI q + 1))))).1 4) (xs (Int32.toNatClampNeg (nI q + 1))) (xs (Int32.toNatClampNeg (nI q + 2))) (xs (Int32.toNatClampNeg (nI q + 3))) H.size 5000 _ h1
  try dsimp only [outS, outSH] at ct
  simp only [clI hi5, clU hi5] at ct
  have hX16 : (hx ((S i).1 4) (xs (Int32.toNatClampNeg (nI q + 1)))) < 16 := hx_lt _ _
  refine lv_aload_n hx0 hb dL_law_632 rfl (lv_at hl 1 rfl) ?_
  refine lv_aload_n hx0 hb dL_law_633 rfl (lv_at hl 0 rfl) ?_
  refine lv_iload_n hx0 hb dL_law_634 rfl (lv_at hl 3 rfl) ?_
  refine lv_iconst (v := 1) hx0 hb dL_law_635 (by decide) ?_
  refine lv_iadd hx0 hb dL_law_636 ?_
  refine va_sld hx0 hb hX hbl hbA hS hin1 dL_law_637 ?_
  refine lv_aload_n hx0 hb dL_law_638 rfl (lv_at hl 0 rfl) ?_
  refine lv_iload_n hx0 hb dL_law_639 rfl (lv_at hl 3 rfl) ?_
  refine lv_iconst (v := 2) hx0 hb dL_law_640 (by decide) ?_
  refine lv_iadd hx0 hb dL_law_641 ?_
  refine va_sld hx0 hb hX hbl hbA hS hin2 dL_law_642 ?_
  refine lv_aload_n hx0 hb dL_law_643 rfl (lv_at hl 0 rfl) ?_
  refine lv_iload_n hx0 hb dL_law_644 rfl (lv_at hl 3 rfl) ?_
  refine lv_iconst (v := 3) hx0 hb dL_law_645 (by decide) ?_
  refine lv_iadd hx0 hb dL_law_646 ?_
  refine va_sld hx0 hb hX hbl hbA hS hin3 dL_law_647 ?_
  refine bft_i_ro (va_runV (As := [.int (xs (Int32.toNatClampNeg (nI q + 1))), .int (xs (Int32.toNatClampNeg (nI q + 2))), .int (xs (Int32.toNatClampNeg (nI q + 3)))]) (rest := []) ⟨hx0, hb, hml, hown, hts⟩ ct (cwV 3 hts gL_law_X5_filled rfl rfl rfl ⟨rfl, nh5.1, nh5.2, pd_III⟩ ⟨Nat.le_of_ble_eq_true rfl, Nat.le_of_ble_eq_true rfl⟩) (qPV hK hG hP hD hS hA [0, 2, 6 + i, 16 + (hx ((S i).1 4) (xs (Int32.toNatClampNeg (nI q + 1))))] (nd_psh i hi5 _ hX16) (mc rfl (mc rfl (mc (mm_S hi5) (mc (mm_H hX16) rfl)))) (va_recv hK.1 hP (ci := 5) (q0 := 0) rfl rfl)) rfl rfl hl.1 rfl (lv_room (Nat.le_of_ble_eq_true rfl)) dL_law_648 ⟨hCC, hSS⟩) hP hD hS hA [0, 2, 6 + i, 16 + (hx ((S i).1 4) (xs (Int32.toNatClampNeg (nI q + 1))))] (mc rfl (mc rfl (mc (mm_S hi5) (mc (mm_H hX16) rfl)))) (fun r H locs hw hP hD hS => ?_)
  replace hw := hw.symm
  subst hw
  refine lv_aload_n hx0 hb dL_law_651 rfl (lv_at hl 2 rfl) ?_
  refine lv_aload_n hx0 hb dL_law_652 rfl (lv_at hl 0 rfl) ?_
  refine lv_iload_n hx0 hb dL_law_653 rfl (lv_at hl 3 rfl) ?_
  refine lv_iconst (v := 1) hx0 hb dL_law_654 (by decide) ?_
  refine lv_iadd hx0 hb dL_law_655 ?_
  refine va_sld hx0 hb hX hbl hbA hS hin1 dL_law_656 ?_
  refine lv_aload_n hx0 hb dL_law_657 rfl (lv_at hl 0 rfl) ?_
  refine lv_iload_n hx0 hb dL_law_658 rfl (lv_at hl 3 rfl) ?_
  refine lv_iconst (v := 2) hx0 hb dL_law_659 (by decide) ?_
  refine lv_iadd hx0 hb dL_law_660 ?_
  refine va_sld hx0 hb hX hbl hbA hS hin2 dL_law_661 ?_
  refine lv_aload_n hx0 hb dL_law_662 rfl (lv_at hl 0 rfl) ?_
  refine lv_iload_n hx0 hb dL_law_663 rfl (lv_at hl 3 rfl) ?_
  refine lv_iconst (v := 3) hx0 hb dL_law_664 (by decide) ?_
  refine lv_iadd hx0 hb dL_law_665 ?_
  refine va_sld hx0 hb hX hbl hbA hS hin3 dL_law_666 ?_
  have cm := c6_filled l g mp tn (mq 0) tt (nI cav) (mq 1) tv (mq 2) tf (nI cor) (mq 3) te (nI stg) (mq 4) tp (mq 5) now (mq 6) was (nI d) (mq 7) one y.1 (mq 8) y.2.1 y.2.2.1 (mq 9) y.2.2.2.1 y.2.2.2.2.1 (mq 10) y.2.2.2.2.2.1 (mq 11) y.2.2.2.2.2.2.1 y.2.2.2.2.2.2.2.1 y.2.2.2.2.2.2.2.2 sc (xs (Int32.toNatClampNeg (nI q + 1))) (xs (Int32.toNatClampNeg (nI q + 2))) (xs (Int32.toNatClampNeg (nI q + 3))) H.size 5000 _ h2
  try dsimp only at cm
  refine bft_i_ro (va_runV (As := [.int (xs (Int32.toNatClampNeg (nI q + 1))), .int (xs (Int32.toNatClampNeg (nI q + 2))), .int (xs (Int32.toNatClampNeg (nI q + 3)))]) (rest := [.int r0]) ⟨hx0, hb, hml, hown, hts⟩ cm (cwV 3 hts gL_law_X6_filled rfl rfl rfl ⟨rfl, nh6.1, nh6.2, pd_III⟩ ⟨Nat.le_of_ble_eq_true rfl, Nat.le_of_ble_eq_true rfl⟩) (qPV hK hG hP hD hS hA [5] rfl (mc rfl rfl) (va_recv hK.1 hP (ci := 6) (q0 := 27) rfl rfl)) rfl rfl hl.1 rfl (lv_room (Nat.le_of_ble_eq_true rfl)) dL_law_667 ⟨hCC, hSS⟩) hP hD hS hA [5] (mc rfl rfl) (fun r H locs hw hP hD hS => ?_)
  replace hw := hw.symm
  subst hw
  refine lv_icmp_eq (tgt := 800) hx0 hb dL_law_670 (by decide) (fun _ => ?_) (fun c9 => absurd rfl c9)
  exact kk H locs ⟨z, pp, pd, pq, dq, sa, ha, rq, mq, sq, bq, hq, i, d, cav, cor, stg, pl, dv, rv, S, Hh, xl, nums, xn, tn, tt, tv, tf, te, tp, now, was, one, sc, y, hP, hD, hT, hRP, hRW, (MB_up hMB)⟩ hS
set_option maxHeartbeats 4000000 in
set_option maxRecDepth 100000 in
theorem lc_tried {p : Program} {e : Env} {s : State} {m : MethodId} {below : List Frame} {meth : Method} {c : Code} {l : Launch} {g : gG} {b L xp mp q K CC SS : Nat} {xs : Nat → Int32} {Q : State → Prop} (hL : L ≤ 2048) (hCC : CC + 0 ≤ room_1.cells) (hSS : SS + 0 ≤ room_1.slots) (C0 : lw_At p s m meth c b L xs) (hK : gK g s) (hG : gS g (fun q : Nat => s.heap.size ≤ q) s s.heap) (hq4 : q + 4 ≤ L) (hK6 : K < 600) {H : Heap} {locs : List Loc} {ls : Array Slot} (hI : INV g (fun q : Nat => s.heap.size ≤ q) xp mp K H) (hS : va_S (fun q : Nat => s.heap.size ≤ q) s.heap H locs) (hl : lv_has ls 4 [(0, .ref b), (1, .ref xp), (2, .ref mp), (3, .int (nI q))]) (kk : ∀ (H1 : Heap) (locs1 : List Loc), INV g (fun q : Nat => s.heap.size ≤ q) xp mp (K + 1) H1 → va_S (fun q : Nat => s.heap.size ≤ q) s.heap H1 locs1 → W p l e room_1 s m #[Value.ref b] below meth c H1 locs1 CC SS Q (F0 m 800 ls [])) : W p l e room_1 s m #[Value.ref b] below meth c H locs CC SS Q (F0 m 675 ls []) := by
  obtain ⟨hx0, hb, hr, hml, hown, hts0, hX, hbl, hlocks, hgv⟩ := C0
  have hts := hts0
  have hA : ∀ q : Nat, s.heap.size ≤ q → (fun q : Nat => s.heap.size ≤ q) q := fun _ h => h
  have hbA : ¬ (fun q : Nat => s.heap.size ≤ q) b := Nat.not_le.mpr hbl
  obtain ⟨z, pp, pd, pq, dq, sa, ha, rq, mq, sq, bq, hq, i, d, cav, cor, stg, pl, dv, rv, S, Hh, xl, nums, xn, tn, tt, tv, tf, te, tp, now, was, one, sc, y, hP, hD, hT, hRP, hRW, hMB⟩ := hI
  have hi5 : i < 5 := hRW.1
  have hj5 : (i + 1) % 5 < 5 := Nat.mod_lt _ (by decide)
  have hij : i ≠ (i + 1) % 5 := by omega
  have hc : cav ≤ 6 := hRP.1.2.1
  have hs : stg ≤ 4 := hRP.2.2.1.2.1
  have hcor : cor ≤ 4 := hRP.2.1.1
  have hE : RE cor (pl.2 3) te := hRP.2.2.2.2.1
  have hv : ∀ c, c < cav → tv c = pl.2 0 c ∧ ∃ k : Nat, k ≤ 30 ∧ pl.2 0 c = nI k := fun c h => by
    obtain ⟨h1, -, ⟨v, -, h2, h3⟩, -⟩ := hRP.2.2.2.1 c h
    exact ⟨h1, v, h2, h3⟩
  obtain ⟨m0, hm⟩ := RW_now hRW
  have hin1 : vp_in (nI q + 1) L := by rw [show nI q + (1 : Int32) = nI (q + 1) from addn q 1]; exact vp_in_nI (by omega) (by omega)
  have hin2 : vp_in (nI q + 2) L := by rw [show nI q + (2 : Int32) = nI (q + 2) from addn q 2]; exact vp_in_nI (by omega) (by omega)
  obtain ⟨r0, x', o', h1, h2⟩ := eq_tried 5000 (Nat.le_refl 5000) (xs (Int32.toNatClampNeg (nI q + 1))) (xs (Int32.toNatClampNeg (nI q + 2))) (MK_of hRP hm) (rv.2 0) (rv.2 1) (rv.2 2) (rv.2 3) one (rv.1 0) (rv.1 1) (rv.1 2) (rv.1 3) (rv.1 4) sc
  have ct := c5_tried l g xp (z 0) pp pd (z 1) sa (nI i) (nI d) (z 2) ha (z 3) (nI cav) (pq 0) (pl.2 0) (pq 1) (pl.2 1) (pq 2) (pl.2 2) (nI cor) (pq 3) (pl.2 3) (nI stg) (pq 4) (pl.2 4) (pq 5) (pl.2 5) (pq 6) (pl.2 6) (sq i 0) ((S i).2 0) (sq i 1) ((S i).2 1) (sq i 2) ((S i).2 2) ((S i).1 0) ((S i).1 1) ((S i).1 2) ((S i).1 3) ((S i).1 4) ((S i).1 5) (sq i 3) (rq 0) (rv.2 0) (rq 1) (rv.2 1) (rq 2) (rv.2 2) (rq 3) (rv.2 3) (rv.1 0) (rv.1 1) (rv.1 2) (rv.1 3) (rv.1 4) (xs (Int32.toNatClampNeg (nI q + 1))) (xs (Int32.toNatClampNeg (nI q + 2))) H.size 5000 _ h1
  try dsimp only [outS, outSH] at ct
  simp only [clI hi5, clU hi5] at ct
  refine lv_aload_n hx0 hb dL_law_675 rfl (lv_at hl 1 rfl) ?_
  refine lv_aload_n hx0 hb dL_law_676 rfl (lv_at hl 0 rfl) ?_
  refine lv_iload_n hx0 hb dL_law_677 rfl (lv_at hl 3 rfl) ?_
  refine lv_iconst (v := 1) hx0 hb dL_law_678 (by decide) ?_
  refine lv_iadd hx0 hb dL_law_679 ?_
  refine va_sld hx0 hb hX hbl hbA hS hin1 dL_law_680 ?_
  refine lv_aload_n hx0 hb dL_law_681 rfl (lv_at hl 0 rfl) ?_
  refine lv_iload_n hx0 hb dL_law_682 rfl (lv_at hl 3 rfl) ?_
  refine lv_iconst (v := 2) hx0 hb dL_law_683 (by decide) ?_
  refine lv_iadd hx0 hb dL_law_684 ?_
  refine va_sld hx0 hb hX hbl hbA hS hin2 dL_law_685 ?_
  refine bft_i (bn := MW g xp mp z pp pd pq dq sa ha rq mq sq bq hq i d cav cor stg pl dv (mkH x'.1 x'.2.1 x'.2.2.1 x'.2.2.2.1 x'.2.2.2.2.1 x'.2.2.2.2.2.1 x'.2.2.2.2.2.2.1 x'.2.2.2.2.2.2.2.1 x'.2.2.2.2.2.2.2.2) S Hh xl nums xn tn tt (nI cav) (nI cor) (nI stg) (nI d) tv tf te tp now was one sc y) (va_runV (As := [.int (xs (Int32.toNatClampNeg (nI q + 1))), .int (xs (Int32.toNatClampNeg (nI q + 2)))]) (rest := []) ⟨hx0, hb, hml, hown, hts⟩ ct (cwV 2 hts gL_law_X5_tried rfl rfl rfl ⟨rfl, nh5.1, nh5.2, pd_14⟩ ⟨Nat.le_of_ble_eq_true rfl, Nat.le_of_ble_eq_true rfl⟩) (qPV hK hG hP hD hS hA [0, 2, 6 + i, 4] (nd_psr i hi5) (mc rfl (mc rfl (mc (mm_S hi5) (mc rfl rfl)))) (va_recv hK.1 hP (ci := 5) (q0 := 0) rfl rfl)) rfl rfl hl.1 rfl (lv_room (Nat.le_of_ble_eq_true rfl)) dL_law_686 ⟨hCC, hSS⟩) hP hD hS hA [0, 2, 6 + i, 4] (mc rfl (mc rfl (mc (mm_S hi5) (mc rfl rfl)))) rfl rfl (mm_zs (mc rfl (mc rfl (mc (mm_S hi5) (mc rfl rfl)))) (mm_keep (.inr rfl) (.inr rfl) (.inr rfl) (.inr rfl) (.inl (by simp)) (.inr rfl) (fun _ _ => .inr rfl) (fun _ _ => .inr rfl) (fun _ _ => .inr rfl))) (fun r H locs hw hP hD hS => ?_)
  replace hw := hw.symm
  subst hw
  refine lv_aload_n hx0 hb dL_law_689 rfl (lv_at hl 2 rfl) ?_
  refine lv_aload_n hx0 hb dL_law_690 rfl (lv_at hl 0 rfl) ?_
  refine lv_iload_n hx0 hb dL_law_691 rfl (lv_at hl 3 rfl) ?_
  refine lv_iconst (v := 1) hx0 hb dL_law_692 (by decide) ?_
  refine lv_iadd hx0 hb dL_law_693 ?_
  refine va_sld hx0 hb hX hbl hbA hS hin1 dL_law_694 ?_
  refine lv_aload_n hx0 hb dL_law_695 rfl (lv_at hl 0 rfl) ?_
  refine lv_iload_n hx0 hb dL_law_696 rfl (lv_at hl 3 rfl) ?_
  refine lv_iconst (v := 2) hx0 hb dL_law_697 (by decide) ?_
  refine lv_iadd hx0 hb dL_law_698 ?_
  refine va_sld hx0 hb hX hbl hbA hS hin2 dL_law_699 ?_
  have cm := c6_tried l g mp tn (mq 0) tt (nI cav) (mq 1) tv (mq 2) tf (nI cor) (mq 3) te (nI stg) (mq 4) tp (mq 5) now (mq 6) was (nI d) (mq 7) one y.1 (mq 8) y.2.1 y.2.2.1 (mq 9) y.2.2.2.1 y.2.2.2.2.1 (mq 10) y.2.2.2.2.2.1 (mq 11) y.2.2.2.2.2.2.1 y.2.2.2.2.2.2.2.1 y.2.2.2.2.2.2.2.2 sc (xs (Int32.toNatClampNeg (nI q + 1))) (xs (Int32.toNatClampNeg (nI q + 2))) H.size 5000 _ h2
  try dsimp only at cm
  refine bft_i (bn := MW g xp mp z pp pd pq dq sa ha rq mq sq bq hq i d cav cor stg pl dv (mkH x'.1 x'.2.1 x'.2.2.1 x'.2.2.2.1 x'.2.2.2.2.1 x'.2.2.2.2.2.1 x'.2.2.2.2.2.2.1 x'.2.2.2.2.2.2.2.1 x'.2.2.2.2.2.2.2.2) S Hh xl nums xn tn tt (nI cav) (nI cor) (nI stg) (nI d) tv tf te tp now was o'.1 o'.2 y) (va_runV (As := [.int (xs (Int32.toNatClampNeg (nI q + 1))), .int (xs (Int32.toNatClampNeg (nI q + 2)))]) (rest := [.int r0]) ⟨hx0, hb, hml, hown, hts⟩ cm (cwV 2 hts gL_law_X6_tried rfl rfl rfl ⟨rfl, nh6.1, nh6.2, pd_14⟩ ⟨Nat.le_of_ble_eq_true rfl, Nat.le_of_ble_eq_true rfl⟩) (qPV hK hG hP hD hS hA [5] rfl (mc rfl rfl) (va_recv hK.1 hP (ci := 6) (q0 := 27) rfl rfl)) rfl rfl hl.1 rfl (lv_room (Nat.le_of_ble_eq_true rfl)) dL_law_700 ⟨hCC, hSS⟩) hP hD hS hA [5] (mc rfl rfl) rfl rfl (mm_zs (mc rfl rfl) (mm_keep (.inr rfl) (.inr rfl) (.inr rfl) (.inr rfl) (.inr rfl) (.inl (by simp)) (fun _ _ => .inr rfl) (fun _ _ => .inr rfl) (fun _ _ => .inr rfl))) (fun r H locs hw hP hD hS => ?_)
  replace hw := hw.symm
  subst hw
  refine lv_icmp_eq (tgt := 800) hx0 hb dL_law_703 (by decide) (fun _ => ?_) (fun c9 => absurd rfl c9)
  exact kk H locs ⟨z, pp, pd, pq, dq, sa, ha, rq, mq, sq, bq, hq, i, d, cav, cor, stg, pl, dv, (mkH x'.1 x'.2.1 x'.2.2.1 x'.2.2.2.1 x'.2.2.2.2.1 x'.2.2.2.2.2.1 x'.2.2.2.2.2.2.1 x'.2.2.2.2.2.2.2.1 x'.2.2.2.2.2.2.2.2), S, Hh, xl, nums, xn, tn, tt, tv, tf, te, tp, now, was, o'.1, o'.2, y, hP, hD, hT, hRP, hRW, (MB_up hMB)⟩ hS
set_option maxHeartbeats 4000000 in
set_option maxRecDepth 100000 in
theorem lc_even {p : Program} {e : Env} {s : State} {m : MethodId} {below : List Frame} {meth : Method} {c : Code} {l : Launch} {g : gG} {b L xp mp q K CC SS : Nat} {xs : Nat → Int32} {Q : State → Prop} (hL : L ≤ 2048) (hCC : CC + 0 ≤ room_1.cells) (hSS : SS + 0 ≤ room_1.slots) (C0 : lw_At p s m meth c b L xs) (hK : gK g s) (hG : gS g (fun q : Nat => s.heap.size ≤ q) s s.heap) (hq4 : q + 4 ≤ L) (hK6 : K < 600) {H : Heap} {locs : List Loc} {ls : Array Slot} (hI : INV g (fun q : Nat => s.heap.size ≤ q) xp mp K H) (hS : va_S (fun q : Nat => s.heap.size ≤ q) s.heap H locs) (hl : lv_has ls 4 [(0, .ref b), (1, .ref xp), (2, .ref mp), (3, .int (nI q))]) (kk : ∀ (H1 : Heap) (locs1 : List Loc), INV g (fun q : Nat => s.heap.size ≤ q) xp mp (K + 1) H1 → va_S (fun q : Nat => s.heap.size ≤ q) s.heap H1 locs1 → W p l e room_1 s m #[Value.ref b] below meth c H1 locs1 CC SS Q (F0 m 800 ls [])) : W p l e room_1 s m #[Value.ref b] below meth c H locs CC SS Q (F0 m 708 ls []) := by
  obtain ⟨hx0, hb, hr, hml, hown, hts0, hX, hbl, hlocks, hgv⟩ := C0
  have hts := hts0
  have hA : ∀ q : Nat, s.heap.size ≤ q → (fun q : Nat => s.heap.size ≤ q) q := fun _ h => h
  have hbA : ¬ (fun q : Nat => s.heap.size ≤ q) b := Nat.not_le.mpr hbl
  obtain ⟨z, pp, pd, pq, dq, sa, ha, rq, mq, sq, bq, hq, i, d, cav, cor, stg, pl, dv, rv, S, Hh, xl, nums, xn, tn, tt, tv, tf, te, tp, now, was, one, sc, y, hP, hD, hT, hRP, hRW, hMB⟩ := hI
  have hi5 : i < 5 := hRW.1
  have hj5 : (i + 1) % 5 < 5 := Nat.mod_lt _ (by decide)
  have hij : i ≠ (i + 1) % 5 := by omega
  have hc : cav ≤ 6 := hRP.1.2.1
  have hs : stg ≤ 4 := hRP.2.2.1.2.1
  have hcor : cor ≤ 4 := hRP.2.1.1
  have hE : RE cor (pl.2 3) te := hRP.2.2.2.2.1
  have hv : ∀ c, c < cav → tv c = pl.2 0 c ∧ ∃ k : Nat, k ≤ 30 ∧ pl.2 0 c = nI k := fun c h => by
    obtain ⟨h1, -, ⟨v, -, h2, h3⟩, -⟩ := hRP.2.2.2.1 c h
    exact ⟨h1, v, h2, h3⟩
  obtain ⟨m0, hm⟩ := RW_now hRW
  have hin1 : vp_in (nI q + 1) L := by rw [show nI q + (1 : Int32) = nI (q + 1) from addn q 1]; exact vp_in_nI (by omega) (by omega)
  obtain ⟨r0, x', o', h1, h2⟩ := eq_even 5000 (Nat.le_refl 5000) (xs (Int32.toNatClampNeg (nI q + 1))) (MK_of hRP hm) (rv.2 0) (rv.2 1) (rv.2 2) (rv.2 3) one (rv.1 0) (rv.1 1) (rv.1 2) (rv.1 3) (rv.1 4) sc
  have ct := c5_even l g xp (z 0) pp pd (z 1) sa (nI i) (nI d) (z 2) ha (z 3) (nI cav) (pq 0) (pl.2 0) (pq 1) (pl.2 1) (pq 2) (pl.2 2) (nI cor) (pq 3) (pl.2 3) (nI stg) (pq 4) (pl.2 4) (pq 5) (pl.2 5) (pq 6) (pl.2 6) (sq i 0) ((S i).2 0) (sq i 1) ((S i).2 1) (sq i 2) ((S i).2 2) ((S i).1 0) ((S i).1 1) ((S i).1 2) ((S i).1 3) ((S i).1 4) ((S i).1 5) (sq i 3) (rq 0) (rv.2 0) (rq 1) (rv.2 1) (rq 2) (rv.2 2) (rq 3) (rv.2 3) (rv.1 0) (rv.1 1) (rv.1 2) (rv.1 3) (rv.1 4) (xs (Int32.toNatClampNeg (nI q + 1))) H.size 5000 _ h1
  try dsimp only [outS, outSH] at ct
  simp only [clI hi5, clU hi5] at ct
  refine lv_aload_n hx0 hb dL_law_708 rfl (lv_at hl 1 rfl) ?_
  refine lv_aload_n hx0 hb dL_law_709 rfl (lv_at hl 0 rfl) ?_
  refine lv_iload_n hx0 hb dL_law_710 rfl (lv_at hl 3 rfl) ?_
  refine lv_iconst (v := 1) hx0 hb dL_law_711 (by decide) ?_
  refine lv_iadd hx0 hb dL_law_712 ?_
  refine va_sld hx0 hb hX hbl hbA hS hin1 dL_law_713 ?_
  refine bft_i (bn := MW g xp mp z pp pd pq dq sa ha rq mq sq bq hq i d cav cor stg pl dv (mkH x'.1 x'.2.1 x'.2.2.1 x'.2.2.2.1 x'.2.2.2.2.1 x'.2.2.2.2.2.1 x'.2.2.2.2.2.2.1 x'.2.2.2.2.2.2.2.1 x'.2.2.2.2.2.2.2.2) S Hh xl nums xn tn tt (nI cav) (nI cor) (nI stg) (nI d) tv tf te tp now was one sc y) (va_runV (As := [.int (xs (Int32.toNatClampNeg (nI q + 1)))]) (rest := []) ⟨hx0, hb, hml, hown, hts⟩ ct (cwV 1 hts gL_law_X5_even rfl rfl rfl ⟨rfl, nh5.1, nh5.2, pd_2⟩ ⟨Nat.le_of_ble_eq_true rfl, Nat.le_of_ble_eq_true rfl⟩) (qPV hK hG hP hD hS hA [0, 2, 6 + i, 4] (nd_psr i hi5) (mc rfl (mc rfl (mc (mm_S hi5) (mc rfl rfl)))) (va_recv hK.1 hP (ci := 5) (q0 := 0) rfl rfl)) rfl rfl hl.1 rfl (lv_room (Nat.le_of_ble_eq_true rfl)) dL_law_714 ⟨hCC, hSS⟩) hP hD hS hA [0, 2, 6 + i, 4] (mc rfl (mc rfl (mc (mm_S hi5) (mc rfl rfl)))) rfl rfl (mm_zs (mc rfl (mc rfl (mc (mm_S hi5) (mc rfl rfl)))) (mm_keep (.inr rfl) (.inr rfl) (.inr rfl) (.inr rfl) (.inl (by simp)) (.inr rfl) (fun _ _ => .inr rfl) (fun _ _ => .inr rfl) (fun _ _ => .inr rfl))) (fun r H locs hw hP hD hS => ?_)
  replace hw := hw.symm
  subst hw
  refine lv_aload_n hx0 hb dL_law_717 rfl (lv_at hl 2 rfl) ?_
  refine lv_aload_n hx0 hb dL_law_718 rfl (lv_at hl 0 rfl) ?_
  refine lv_iload_n hx0 hb dL_law_719 rfl (lv_at hl 3 rfl) ?_
  refine lv_iconst (v := 1) hx0 hb dL_law_720 (by decide) ?_
  refine lv_iadd hx0 hb dL_law_721 ?_
  refine va_sld hx0 hb hX hbl hbA hS hin1 dL_law_722 ?_
  have cm := c6_even l g mp tn (mq 0) tt (nI cav) (mq 1) tv (mq 2) tf (nI cor) (mq 3) te (nI stg) (mq 4) tp (mq 5) now (mq 6) was (nI d) (mq 7) one y.1 (mq 8) y.2.1 y.2.2.1 (mq 9) y.2.2.2.1 y.2.2.2.2.1 (mq 10) y.2.2.2.2.2.1 (mq 11) y.2.2.2.2.2.2.1 y.2.2.2.2.2.2.2.1 y.2.2.2.2.2.2.2.2 sc (xs (Int32.toNatClampNeg (nI q + 1))) H.size 5000 _ h2
  try dsimp only at cm
  refine bft_i (bn := MW g xp mp z pp pd pq dq sa ha rq mq sq bq hq i d cav cor stg pl dv (mkH x'.1 x'.2.1 x'.2.2.1 x'.2.2.2.1 x'.2.2.2.2.1 x'.2.2.2.2.2.1 x'.2.2.2.2.2.2.1 x'.2.2.2.2.2.2.2.1 x'.2.2.2.2.2.2.2.2) S Hh xl nums xn tn tt (nI cav) (nI cor) (nI stg) (nI d) tv tf te tp now was o'.1 o'.2 y) (va_runV (As := [.int (xs (Int32.toNatClampNeg (nI q + 1)))]) (rest := [.int r0]) ⟨hx0, hb, hml, hown, hts⟩ cm (cwV 1 hts gL_law_X6_even rfl rfl rfl ⟨rfl, nh6.1, nh6.2, pd_2⟩ ⟨Nat.le_of_ble_eq_true rfl, Nat.le_of_ble_eq_true rfl⟩) (qPV hK hG hP hD hS hA [5] rfl (mc rfl rfl) (va_recv hK.1 hP (ci := 6) (q0 := 27) rfl rfl)) rfl rfl hl.1 rfl (lv_room (Nat.le_of_ble_eq_true rfl)) dL_law_723 ⟨hCC, hSS⟩) hP hD hS hA [5] (mc rfl rfl) rfl rfl (mm_zs (mc rfl rfl) (mm_keep (.inr rfl) (.inr rfl) (.inr rfl) (.inr rfl) (.inr rfl) (.inl (by simp)) (fun _ _ => .inr rfl) (fun _ _ => .inr rfl) (fun _ _ => .inr rfl))) (fun r H locs hw hP hD hS => ?_)
  replace hw := hw.symm
  subst hw
  refine lv_icmp_eq (tgt := 800) hx0 hb dL_law_726 (by decide) (fun _ => ?_) (fun c9 => absurd rfl c9)
  exact kk H locs ⟨z, pp, pd, pq, dq, sa, ha, rq, mq, sq, bq, hq, i, d, cav, cor, stg, pl, dv, (mkH x'.1 x'.2.1 x'.2.2.1 x'.2.2.2.1 x'.2.2.2.2.1 x'.2.2.2.2.2.1 x'.2.2.2.2.2.2.1 x'.2.2.2.2.2.2.2.1 x'.2.2.2.2.2.2.2.2), S, Hh, xl, nums, xn, tn, tt, tv, tf, te, tp, now, was, o'.1, o'.2, y, hP, hD, hT, hRP, hRW, (MB_up hMB)⟩ hS
set_option maxHeartbeats 4000000 in
set_option maxRecDepth 100000 in
theorem lc_order {p : Program} {e : Env} {s : State} {m : MethodId} {below : List Frame} {meth : Method} {c : Code} {l : Launch} {g : gG} {b L xp mp q K CC SS : Nat} {xs : Nat → Int32} {Q : State → Prop} (hL : L ≤ 2048) (hCC : CC + 0 ≤ room_1.cells) (hSS : SS + 0 ≤ room_1.slots) (C0 : lw_At p s m meth c b L xs) (hK : gK g s) (hG : gS g (fun q : Nat => s.heap.size ≤ q) s s.heap) (hq4 : q + 4 ≤ L) (hK6 : K < 600) {H : Heap} {locs : List Loc} {ls : Array Slot} (hI : INV g (fun q : Nat => s.heap.size ≤ q) xp mp K H) (hS : va_S (fun q : Nat => s.heap.size ≤ q) s.heap H locs) (hl : lv_has ls 4 [(0, .ref b), (1, .ref xp), (2, .ref mp), (3, .int (nI q))]) (kk : ∀ (H1 : Heap) (locs1 : List Loc), INV g (fun q : Nat => s.heap.size ≤ q) xp mp (K + 1) H1 → va_S (fun q : Nat => s.heap.size ≤ q) s.heap H1 locs1 → W p l e room_1 s m #[Value.ref b] below meth c H1 locs1 CC SS Q (F0 m 800 ls [])) : W p l e room_1 s m #[Value.ref b] below meth c H locs CC SS Q (F0 m 754 ls []) := by
  obtain ⟨hx0, hb, hr, hml, hown, hts0, hX, hbl, hlocks, hgv⟩ := C0
  have hts := hts0
  have hA : ∀ q : Nat, s.heap.size ≤ q → (fun q : Nat => s.heap.size ≤ q) q := fun _ h => h
  have hbA : ¬ (fun q : Nat => s.heap.size ≤ q) b := Nat.not_le.mpr hbl
  obtain ⟨z, pp, pd, pq, dq, sa, ha, rq, mq, sq, bq, hq, i, d, cav, cor, stg, pl, dv, rv, S, Hh, xl, nums, xn, tn, tt, tv, tf, te, tp, now, was, one, sc, y, hP, hD, hT, hRP, hRW, hMB⟩ := hI
  have hi5 : i < 5 := hRW.1
  have hj5 : (i + 1) % 5 < 5 := Nat.mod_lt _ (by decide)
  have hij : i ≠ (i + 1) % 5 := by omega
  have hc : cav ≤ 6 := hRP.1.2.1
  have hs : stg ≤ 4 := hRP.2.2.1.2.1
  have hcor : cor ≤ 4 := hRP.2.1.1
  have hE : RE cor (pl.2 3) te := hRP.2.2.2.2.1
  have hv : ∀ c, c < cav → tv c = pl.2 0 c ∧ ∃ k : Nat, k ≤ 30 ∧ pl.2 0 c = nI k := fun c h => by
    obtain ⟨h1, -, ⟨v, -, h2, h3⟩, -⟩ := hRP.2.2.2.1 c h
    exact ⟨h1, v, h2, h3⟩
  obtain ⟨m0, hm⟩ := RW_now hRW
  have hin1 : vp_in (nI q + 1) L := by rw [show nI q + (1 : Int32) = nI (q + 1) from addn q 1]; exact vp_in_nI (by omega) (by omega)
  obtain ⟨r0, h1, h2⟩ := eq_order 5000 (Nat.le_refl 5000) (xs (Int32.toNatClampNeg (nI q + 1))) hcor hE
  have ct := c5_order l g xp (z 0) pp pd (z 1) sa (nI i) (nI d) (z 2) ha (z 3) (nI cav) (pq 0) (pl.2 0) (pq 1) (pl.2 1) (pq 2) (pl.2 2) (nI cor) (pq 3) (pl.2 3) (nI stg) (pq 4) (pl.2 4) (pq 5) (pl.2 5) (pq 6) (pl.2 6) (xs (Int32.toNatClampNeg (nI q + 1))) H.size 5000 _ h1
  try dsimp only [outS, outSH] at ct
  simp only [clI hi5, clU hi5] at ct
  refine lv_aload_n hx0 hb dL_law_754 rfl (lv_at hl 1 rfl) ?_
  refine lv_aload_n hx0 hb dL_law_755 rfl (lv_at hl 0 rfl) ?_
  refine lv_iload_n hx0 hb dL_law_756 rfl (lv_at hl 3 rfl) ?_
  refine lv_iconst (v := 1) hx0 hb dL_law_757 (by decide) ?_
  refine lv_iadd hx0 hb dL_law_758 ?_
  refine va_sld hx0 hb hX hbl hbA hS hin1 dL_law_759 ?_
  refine bft_i_ro (va_runV (As := [.int (xs (Int32.toNatClampNeg (nI q + 1)))]) (rest := []) ⟨hx0, hb, hml, hown, hts⟩ ct (cwV 1 hts gL_law_X5_order rfl rfl rfl ⟨rfl, nh5.1, nh5.2, pd_2⟩ ⟨Nat.le_of_ble_eq_true rfl, Nat.le_of_ble_eq_true rfl⟩) (qPV hK hG hP hD hS hA [0, 2] rfl (mc rfl (mc rfl rfl)) (va_recv hK.1 hP (ci := 5) (q0 := 0) rfl rfl)) rfl rfl hl.1 rfl (lv_room (Nat.le_of_ble_eq_true rfl)) dL_law_760 ⟨hCC, hSS⟩) hP hD hS hA [0, 2] (mc rfl (mc rfl rfl)) (fun r H locs hw hP hD hS => ?_)
  replace hw := hw.symm
  subst hw
  refine lv_aload_n hx0 hb dL_law_763 rfl (lv_at hl 2 rfl) ?_
  refine lv_aload_n hx0 hb dL_law_764 rfl (lv_at hl 0 rfl) ?_
  refine lv_iload_n hx0 hb dL_law_765 rfl (lv_at hl 3 rfl) ?_
  refine lv_iconst (v := 1) hx0 hb dL_law_766 (by decide) ?_
  refine lv_iadd hx0 hb dL_law_767 ?_
  refine va_sld hx0 hb hX hbl hbA hS hin1 dL_law_768 ?_
  have cm := c6_order l g mp tn (mq 0) tt (nI cav) (mq 1) tv (mq 2) tf (nI cor) (mq 3) te (nI stg) (mq 4) tp (mq 5) now (mq 6) was (nI d) (mq 7) one y.1 (mq 8) y.2.1 y.2.2.1 (mq 9) y.2.2.2.1 y.2.2.2.2.1 (mq 10) y.2.2.2.2.2.1 (mq 11) y.2.2.2.2.2.2.1 y.2.2.2.2.2.2.2.1 y.2.2.2.2.2.2.2.2 sc (xs (Int32.toNatClampNeg (nI q + 1))) H.size 5000 _ h2
  try dsimp only at cm
  refine bft_i_ro (va_runV (As := [.int (xs (Int32.toNatClampNeg (nI q + 1)))]) (rest := [.int r0]) ⟨hx0, hb, hml, hown, hts⟩ cm (cwV 1 hts gL_law_X6_order rfl rfl rfl ⟨rfl, nh6.1, nh6.2, pd_2⟩ ⟨Nat.le_of_ble_eq_true rfl, Nat.le_of_ble_eq_true rfl⟩) (qPV hK hG hP hD hS hA [5] rfl (mc rfl rfl) (va_recv hK.1 hP (ci := 6) (q0 := 27) rfl rfl)) rfl rfl hl.1 rfl (lv_room (Nat.le_of_ble_eq_true rfl)) dL_law_769 ⟨hCC, hSS⟩) hP hD hS hA [5] (mc rfl rfl) (fun r H locs hw hP hD hS => ?_)
  replace hw := hw.symm
  subst hw
  refine lv_icmp_eq (tgt := 800) hx0 hb dL_law_772 (by decide) (fun _ => ?_) (fun c9 => absurd rfl c9)
  exact kk H locs ⟨z, pp, pd, pq, dq, sa, ha, rq, mq, sq, bq, hq, i, d, cav, cor, stg, pl, dv, rv, S, Hh, xl, nums, xn, tn, tt, tv, tf, te, tp, now, was, one, sc, y, hP, hD, hT, hRP, hRW, (MB_up hMB)⟩ hS
set_option maxHeartbeats 4000000 in
set_option maxRecDepth 100000 in
theorem lc_count {p : Program} {e : Env} {s : State} {m : MethodId} {below : List Frame} {meth : Method} {c : Code} {l : Launch} {g : gG} {b L xp mp q K CC SS : Nat} {xs : Nat → Int32} {Q : State → Prop} (hL : L ≤ 2048) (hCC : CC + 0 ≤ room_1.cells) (hSS : SS + 0 ≤ room_1.slots) (C0 : lw_At p s m meth c b L xs) (hK : gK g s) (hG : gS g (fun q : Nat => s.heap.size ≤ q) s s.heap) (hq4 : q + 4 ≤ L) (hK6 : K < 600) {H : Heap} {locs : List Loc} {ls : Array Slot} (hI : INV g (fun q : Nat => s.heap.size ≤ q) xp mp K H) (hS : va_S (fun q : Nat => s.heap.size ≤ q) s.heap H locs) (hl : lv_has ls 4 [(0, .ref b), (1, .ref xp), (2, .ref mp), (3, .int (nI q))]) (kk : ∀ (H1 : Heap) (locs1 : List Loc), INV g (fun q : Nat => s.heap.size ≤ q) xp mp (K + 1) H1 → va_S (fun q : Nat => s.heap.size ≤ q) s.heap H1 locs1 → W p l e room_1 s m #[Value.ref b] below meth c H1 locs1 CC SS Q (F0 m 800 ls [])) : W p l e room_1 s m #[Value.ref b] below meth c H locs CC SS Q (F0 m 777 ls []) := by
  obtain ⟨hx0, hb, hr, hml, hown, hts0, hX, hbl, hlocks, hgv⟩ := C0
  have hts := hts0
  have hA : ∀ q : Nat, s.heap.size ≤ q → (fun q : Nat => s.heap.size ≤ q) q := fun _ h => h
  have hbA : ¬ (fun q : Nat => s.heap.size ≤ q) b := Nat.not_le.mpr hbl
  obtain ⟨z, pp, pd, pq, dq, sa, ha, rq, mq, sq, bq, hq, i, d, cav, cor, stg, pl, dv, rv, S, Hh, xl, nums, xn, tn, tt, tv, tf, te, tp, now, was, one, sc, y, hP, hD, hT, hRP, hRW, hMB⟩ := hI
  have hi5 : i < 5 := hRW.1
  have hj5 : (i + 1) % 5 < 5 := Nat.mod_lt _ (by decide)
  have hij : i ≠ (i + 1) % 5 := by omega
  have hc : cav ≤ 6 := hRP.1.2.1
  have hs : stg ≤ 4 := hRP.2.2.1.2.1
  have hcor : cor ≤ 4 := hRP.2.1.1
  have hE : RE cor (pl.2 3) te := hRP.2.2.2.2.1
  have hv : ∀ c, c < cav → tv c = pl.2 0 c ∧ ∃ k : Nat, k ≤ 30 ∧ pl.2 0 c = nI k := fun c h => by
    obtain ⟨h1, -, ⟨v, -, h2, h3⟩, -⟩ := hRP.2.2.2.1 c h
    exact ⟨h1, v, h2, h3⟩
  obtain ⟨m0, hm⟩ := RW_now hRW
  have hin1 : vp_in (nI q + 1) L := by rw [show nI q + (1 : Int32) = nI (q + 1) from addn q 1]; exact vp_in_nI (by omega) (by omega)
  obtain ⟨L0, -, ex0, et0, -⟩ := id hT
  have etn : tn = xn := et0.trans ex0.symm
  obtain ⟨r0, h1, h2⟩ := eq_count 5000 (Nat.le_refl 5000) (xs (Int32.toNatClampNeg (nI q + 1))) xn hc hcor hm hv
  rw [← etn] at h2
  have ct := c5_count l g xp (z 0) pp pd (z 1) sa (nI i) (nI d) (z 2) ha (z 3) (nI cav) (pq 0) (pl.2 0) (pq 1) (pl.2 1) (pq 2) (pl.2 2) (nI cor) (pq 3) (pl.2 3) (nI stg) (pq 4) (pl.2 4) (pq 5) (pl.2 5) (pq 6) (pl.2 6) (sq i 0) ((S i).2 0) (sq i 1) ((S i).2 1) (sq i 2) ((S i).2 2) ((S i).1 0) ((S i).1 1) ((S i).1 2) ((S i).1 3) ((S i).1 4) ((S i).1 5) (sq i 3) ((S i).1 6) ((S i).1 7) ((S i).1 8) (bq i 0) ((S i).2 3) (bq i 1) ((S i).2 4) (z 4) xl (z 5) nums xn hq Hh (xs (Int32.toNatClampNeg (nI q + 1))) H.size 5000 _ h1
  try dsimp only [outS, outSH] at ct
  simp only [clI hi5, clU hi5] at ct
  refine lv_aload_n hx0 hb dL_law_777 rfl (lv_at hl 1 rfl) ?_
  refine lv_aload_n hx0 hb dL_law_778 rfl (lv_at hl 0 rfl) ?_
  refine lv_iload_n hx0 hb dL_law_779 rfl (lv_at hl 3 rfl) ?_
  refine lv_iconst (v := 1) hx0 hb dL_law_780 (by decide) ?_
  refine lv_iadd hx0 hb dL_law_781 ?_
  refine va_sld hx0 hb hX hbl hbA hS hin1 dL_law_782 ?_
  refine bft_i_ro (va_runV (As := [.int (xs (Int32.toNatClampNeg (nI q + 1)))]) (rest := []) ⟨hx0, hb, hml, hown, hts⟩ ct (cwV 1 hts gL_law_X5_count rfl rfl rfl ⟨rfl, nh5.1, nh5.2, pd_2⟩ ⟨Nat.le_of_ble_eq_true rfl, Nat.le_of_ble_eq_true rfl⟩) (qPV hK hG hP hD hS hA ([0, 2, 6 + i, 11 + i, 1] ++ (List.range 16).map (fun j => 16 + j)) (nd_cnt i hi5) (cntC hi5) (va_recv hK.1 hP (ci := 5) (q0 := 0) rfl rfl)) rfl rfl hl.1 rfl (lv_room (Nat.le_of_ble_eq_true rfl)) dL_law_783 ⟨hCC, hSS⟩) hP hD hS hA ([0, 2, 6 + i, 11 + i, 1] ++ (List.range 16).map (fun j => 16 + j)) (cntC hi5) (fun r H locs hw hP hD hS => ?_)
  replace hw := hw.symm
  subst hw
  refine lv_aload_n hx0 hb dL_law_786 rfl (lv_at hl 2 rfl) ?_
  refine lv_aload_n hx0 hb dL_law_787 rfl (lv_at hl 0 rfl) ?_
  refine lv_iload_n hx0 hb dL_law_788 rfl (lv_at hl 3 rfl) ?_
  refine lv_iconst (v := 1) hx0 hb dL_law_789 (by decide) ?_
  refine lv_iadd hx0 hb dL_law_790 ?_
  refine va_sld hx0 hb hX hbl hbA hS hin1 dL_law_791 ?_
  have cm := c6_count l g mp tn (mq 0) tt (nI cav) (mq 1) tv (mq 2) tf (nI cor) (mq 3) te (nI stg) (mq 4) tp (mq 5) now (mq 6) was (nI d) (mq 7) one y.1 (mq 8) y.2.1 y.2.2.1 (mq 9) y.2.2.2.1 y.2.2.2.2.1 (mq 10) y.2.2.2.2.2.1 (mq 11) y.2.2.2.2.2.2.1 y.2.2.2.2.2.2.2.1 y.2.2.2.2.2.2.2.2 sc (xs (Int32.toNatClampNeg (nI q + 1))) H.size 5000 _ h2
  try dsimp only at cm
  refine bft_i_ro (va_runV (As := [.int (xs (Int32.toNatClampNeg (nI q + 1)))]) (rest := [.int r0]) ⟨hx0, hb, hml, hown, hts⟩ cm (cwV 1 hts gL_law_X6_count rfl rfl rfl ⟨rfl, nh6.1, nh6.2, pd_2⟩ ⟨Nat.le_of_ble_eq_true rfl, Nat.le_of_ble_eq_true rfl⟩) (qPV hK hG hP hD hS hA [5] rfl (mc rfl rfl) (va_recv hK.1 hP (ci := 6) (q0 := 27) rfl rfl)) rfl rfl hl.1 rfl (lv_room (Nat.le_of_ble_eq_true rfl)) dL_law_792 ⟨hCC, hSS⟩) hP hD hS hA [5] (mc rfl rfl) (fun r H locs hw hP hD hS => ?_)
  replace hw := hw.symm
  subst hw
  refine lv_icmp_eq (tgt := 800) hx0 hb dL_law_795 (by decide) (fun _ => ?_) (fun c9 => absurd rfl c9)
  exact kk H locs ⟨z, pp, pd, pq, dq, sa, ha, rq, mq, sq, bq, hq, i, d, cav, cor, stg, pl, dv, rv, S, Hh, xl, nums, xn, tn, tt, tv, tf, te, tp, now, was, one, sc, y, hP, hD, hT, hRP, hRW, (MB_up hMB)⟩ hS
