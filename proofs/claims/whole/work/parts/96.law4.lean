/-! the law: teach, forget, wide, band, shot -/
set_option maxHeartbeats 4000000 in
set_option maxRecDepth 100000 in
theorem lc_teach {p : Program} {e : Env} {s : State} {m : MethodId} {below : List Frame} {meth : Method} {c : Code} {l : Launch} {g : gG} {b L xp mp q K CC SS : Nat} {xs : Nat → Int32} {Q : State → Prop} (hL : L ≤ 2048) (hCC : CC + 0 ≤ room_1.cells) (hSS : SS + 0 ≤ room_1.slots) (C0 : lw_At p s m meth c b L xs) (hK : gK g s) (hG : gS g (fun q : Nat => s.heap.size ≤ q) s s.heap) (hq4 : q + 4 ≤ L) (hK6 : K < 600) {H : Heap} {locs : List Loc} {ls : Array Slot} (hI : INV g (fun q : Nat => s.heap.size ≤ q) xp mp K H) (hS : va_S (fun q : Nat => s.heap.size ≤ q) s.heap H locs) (hl : lv_has ls 4 [(0, .ref b), (1, .ref xp), (2, .ref mp), (3, .int (nI q))]) (kk : ∀ (H1 : Heap) (locs1 : List Loc), INV g (fun q : Nat => s.heap.size ≤ q) xp mp (K + 1) H1 → va_S (fun q : Nat => s.heap.size ≤ q) s.heap H1 locs1 → W p l e room_1 s m #[Value.ref b] below meth c H1 locs1 CC SS Q (F0 m 800 ls [])) : W p l e room_1 s m #[Value.ref b] below meth c H locs CC SS Q (F0 m 441 ls []) := by
  obtain ⟨hx0, hb, hr, hml, hown, hts0, hX, hbl, hlocks, hgv⟩ := C0
  have hts := hts0
  have hA : ∀ q : Nat, s.heap.size ≤ q → (fun q : Nat => s.heap.size ≤ q) q := fun _ h => h
  have hbA : ¬ (fun q : Nat => s.heap.size ≤ q) b := Nat.not_le.mpr hbl
  obtain ⟨z, pp, pd, pq, dq, sa, ha, rq, mq, sq, bq, hq, i, d, cav, cor, stg, pl, dv, rv, S, Hh, xl, nums, xn, tn, tt, tv, tf, te, tp, now, was, one, sc, y, hP, hD, hT, hRP, hRW, hMB⟩ := hI
  have hi5 : i < 5 := hRW.1
  have hj5 : (i + 1) % 5 < 5 := Nat.mod_lt _ (by decide)
  have hij : i ≠ (i + 1) % 5 := by omega
  have hc : cav ≤ 6 := hRP.1.2.1
  have hs : stg ≤ 4 := hRP.2.2.1.2.1
  have hcor : cor ≤ 4 := hRP.2.1.1
  have hE : RE cor (pl.2 3) te := hRP.2.2.2.2.1
  have hv : ∀ c, c < cav → tv c = pl.2 0 c ∧ ∃ k : Nat, k ≤ 30 ∧ pl.2 0 c = nI k := fun c h => by
    obtain ⟨h1, -, ⟨v, -, h2, h3⟩, -⟩ := hRP.2.2.2.1 c h
    exact ⟨h1, v, h2, h3⟩
  obtain ⟨m0, hm⟩ := RW_now hRW
  have hin1 : vp_in (nI q + 1) L := by rw [show nI q + (1 : Int32) = nI (q + 1) from addn q 1]; exact vp_in_nI (by omega) (by omega)
  obtain ⟨r0, i', d', w', now', was', h1, h2, hRW', hMBf⟩ := eq_teach 5000 (Nat.le_refl 5000) (xs (Int32.toNatClampNeg (nI q + 1))) hc hs hv hRW hK6 hMB rfl rfl rfl
  have ct := c5_teach l g xp (z 0) pp pd (z 1) sa (nI i) (nI d) (z 2) ha (z 3) (nI cav) (pq 0) (pl.2 0) (pq 1) (pl.2 1) (pq 2) (pl.2 2) (nI cor) (pq 3) (pl.2 3) (nI stg) (pq 4) (pl.2 4) (pq 5) (pl.2 5) (pq 6) (pl.2 6) (sq i 0) ((S i).2 0) (sq i 1) ((S i).2 1) (sq i 2) ((S i).2 2) ((S i).1 0) ((S i).1 1) ((S i).1 2) ((S i).1 3) ((S i).1 4) ((S i).1 5) (sq i 3) ((S i).1 6) ((S i).1 7) ((S i).1 8) (bq i 0) ((S i).2 3) (bq i 1) ((S i).2 4) (sq ((i + 1) % 5) 0) ((S ((i + 1) % 5)).2 0) (sq ((i + 1) % 5) 1) ((S ((i + 1) % 5)).2 1) (sq ((i + 1) % 5) 2) ((S ((i + 1) % 5)).2 2) ((S ((i + 1) % 5)).1 0) ((S ((i + 1) % 5)).1 1) ((S ((i + 1) % 5)).1 2) ((S ((i + 1) % 5)).1 3) ((S ((i + 1) % 5)).1 4) ((S ((i + 1) % 5)).1 5) (sq ((i + 1) % 5) 3) ((S ((i + 1) % 5)).1 6) ((S ((i + 1) % 5)).1 7) ((S ((i + 1) % 5)).1 8) (bq ((i + 1) % 5) 0) ((S ((i + 1) % 5)).2 3) (bq ((i + 1) % 5) 1) ((S ((i + 1) % 5)).2 4) (hq (hx ((S i).1 4) (xs (Int32.toNatClampNeg (nI q + 1)))) 0) ((Hh (hx ((S i).1 4) (xs (Int32.toNatClampNeg (nI q + 1))))).2 0) (hq (hx ((S i).1 4) (xs (Int32.toNatClampNeg (nI q + 1)))) 1) ((Hh (hx ((S i).1 4) (xs (Int32.toNatClampNeg (nI q + 1))))).2 1) (hq (hx ((S i).1 4) (xs (Int32.toNatClampNeg (nI q + 1)))) 2) ((Hh (hx ((S i).1 4) (xs (Int32.toNatClampNeg (nI q + 1))))).2 2) (hq (hx ((S i).1 4) (xs (Int32.toNatClampNeg (nI q + 1)))) 3) ((Hh (hx ((S i).1 4) (xs (Int32.toNatClampNeg (nI q + 1))))).2 3) ((Hh (hx ((S i).1 4) (xs (Int32.toNatClampNeg (nI q + 1))))).1 0) ((Hh (hx ((S i).1 4) (xs (Int32.toNatClampNeg (nI q + 1))))).1 1) ((Hh (hx ((S i).1 4) (xs (Int32.toNatClampNeg (nI q + 1))))).1 2) ((Hh (hx ((S i).1 4) (xs (Int32.toNatClampNeg (nI q + 1))))).1 3) ((Hh (hx ((S i).1 4) (xs (Int32.toNatClampNeg (nI q + 1))))).1 4) (xs (Int32.toNatClampNeg (nI q + 1))) H.size 5000 _ h1
  try dsimp only [outS, outSH] at ct
  simp only [clI hi5, clU hi5] at ct
  simp only [clI hRW'.1] at ct
  have hX16 : (hx ((S i).1 4) (xs (Int32.toNatClampNeg (nI q + 1)))) < 16 := hx_lt _ _
  refine lv_aload_n hx0 hb dL_law_441 rfl (lv_at hl 1 rfl) ?_
  refine lv_aload_n hx0 hb dL_law_442 rfl (lv_at hl 0 rfl) ?_
  refine lv_iload_n hx0 hb dL_law_443 rfl (lv_at hl 3 rfl) ?_
  refine lv_iconst (v := 1) hx0 hb dL_law_444 (by decide) ?_
  refine lv_iadd hx0 hb dL_law_445 ?_
  refine va_sld hx0 hb hX hbl hbA hS hin1 dL_law_446 ?_
  refine bft_i (bn := MW g xp mp z pp pd pq dq sa ha rq mq sq bq hq i' d' cav cor stg pl dv rv (va_up S ((i + 1) % 5) w') Hh xl nums xn tn tt (nI cav) (nI cor) (nI stg) (nI d) tv tf te tp now was one sc y) (va_runV (As := [.int (xs (Int32.toNatClampNeg (nI q + 1)))]) (rest := []) ⟨hx0, hb, hml, hown, hts⟩ ct (cwV 1 hts gL_law_X5_teach rfl rfl rfl ⟨rfl, nh5.1, nh5.2, pd_2⟩ ⟨Nat.le_of_ble_eq_true rfl, Nat.le_of_ble_eq_true rfl⟩) (qPV hK hG hP hD hS hA [0, 2, 6 + i, 11 + i, 6 + (i + 1) % 5, 11 + (i + 1) % 5, 16 + (hx ((S i).1 4) (xs (Int32.toNatClampNeg (nI q + 1))))] (nd_psuh i hi5 _ hX16) (mc rfl (mc rfl (mc (mm_S hi5) (mc (mm_B hi5) (mc (mm_S hj5) (mc (mm_B hj5) (mc (mm_H hX16) rfl))))))) (va_recv hK.1 hP (ci := 5) (q0 := 0) rfl rfl)) rfl rfl hl.1 rfl (lv_room (Nat.le_of_ble_eq_true rfl)) dL_law_447 ⟨hCC, hSS⟩) hP hD hS hA [0, 2, 6 + i, 11 + i, 6 + (i + 1) % 5, 11 + (i + 1) % 5, 16 + (hx ((S i).1 4) (xs (Int32.toNatClampNeg (nI q + 1))))] (mc rfl (mc rfl (mc (mm_S hi5) (mc (mm_B hi5) (mc (mm_S hj5) (mc (mm_B hj5) (mc (mm_H hX16) rfl))))))) rfl rfl (mm_zs (mc rfl (mc rfl (mc (mmS_n hi5 hij) (mc (mmB_n hi5 hij) (mc (mmS_u hj5) (mc (mmB_u hj5) (mc (mm_H hX16) rfl))))))) (mm_keep (.inl (by simp)) (.inr rfl) (.inr rfl) (.inr rfl) (.inr rfl) (.inr rfl) (keepS (by simp)) (keepB (by simp)) (fun _ _ => .inr rfl))) (fun r H locs hw hP hD hS => ?_)
  replace hw := hw.symm
  subst hw
  refine lv_aload_n hx0 hb dL_law_450 rfl (lv_at hl 2 rfl) ?_
  refine lv_aload_n hx0 hb dL_law_451 rfl (lv_at hl 0 rfl) ?_
  refine lv_iload_n hx0 hb dL_law_452 rfl (lv_at hl 3 rfl) ?_
  refine lv_iconst (v := 1) hx0 hb dL_law_453 (by decide) ?_
  refine lv_iadd hx0 hb dL_law_454 ?_
  refine va_sld hx0 hb hX hbl hbA hS hin1 dL_law_455 ?_
  have cm := c6_teach l g mp tn (mq 0) tt (nI cav) (mq 1) tv (mq 2) tf (nI cor) (mq 3) te (nI stg) (mq 4) tp (mq 5) now (mq 6) was (nI d) (mq 7) one y.1 (mq 8) y.2.1 y.2.2.1 (mq 9) y.2.2.2.1 y.2.2.2.2.1 (mq 10) y.2.2.2.2.2.1 (mq 11) y.2.2.2.2.2.2.1 y.2.2.2.2.2.2.2.1 y.2.2.2.2.2.2.2.2 sc (xs (Int32.toNatClampNeg (nI q + 1))) H.size 5000 _ h2
  try dsimp only at cm
  refine bft_i (bn := MW g xp mp z pp pd pq dq sa ha rq mq sq bq hq i' d' cav cor stg pl dv rv (va_up S ((i + 1) % 5) w') Hh xl nums xn tn tt (nI cav) (nI cor) (nI stg) (nI d') tv tf te tp now' was' one sc y) (va_runV (As := [.int (xs (Int32.toNatClampNeg (nI q + 1)))]) (rest := [.int r0]) ⟨hx0, hb, hml, hown, hts⟩ cm (cwV 1 hts gL_law_X6_teach rfl rfl rfl ⟨rfl, nh6.1, nh6.2, pd_2⟩ ⟨Nat.le_of_ble_eq_true rfl, Nat.le_of_ble_eq_true rfl⟩) (qPV hK hG hP hD hS hA [5] rfl (mc rfl rfl) (va_recv hK.1 hP (ci := 6) (q0 := 27) rfl rfl)) rfl rfl hl.1 rfl (lv_room (Nat.le_of_ble_eq_true rfl)) dL_law_456 ⟨hCC, hSS⟩) hP hD hS hA [5] (mc rfl rfl) rfl rfl (mm_zs (mc rfl rfl) (mm_keep (.inr rfl) (.inr rfl) (.inr rfl) (.inr rfl) (.inr rfl) (.inl (by simp)) (fun _ _ => .inr rfl) (fun _ _ => .inr rfl) (fun _ _ => .inr rfl))) (fun r H locs hw hP hD hS => ?_)
  replace hw := hw.symm
  subst hw
  refine lv_icmp_eq (tgt := 800) hx0 hb dL_law_459 (by decide) (fun _ => ?_) (fun c9 => absurd rfl c9)
  exact kk H locs ⟨z, pp, pd, pq, dq, sa, ha, rq, mq, sq, bq, hq, i', d', cav, cor, stg, pl, dv, rv, (va_up S ((i + 1) % 5) w'), Hh, xl, nums, xn, tn, tt, tv, tf, te, tp, now', was', one, sc, y, hP, hD, hT, hRP, hRW', (hMBf K (by omega) hMB)⟩ hS
set_option maxHeartbeats 4000000 in
set_option maxRecDepth 100000 in
theorem lc_forget {p : Program} {e : Env} {s : State} {m : MethodId} {below : List Frame} {meth : Method} {c : Code} {l : Launch} {g : gG} {b L xp mp q K CC SS : Nat} {xs : Nat → Int32} {Q : State → Prop} (hL : L ≤ 2048) (hCC : CC + 0 ≤ room_1.cells) (hSS : SS + 0 ≤ room_1.slots) (C0 : lw_At p s m meth c b L xs) (hK : gK g s) (hG : gS g (fun q : Nat => s.heap.size ≤ q) s s.heap) (hq4 : q + 4 ≤ L) (hK6 : K < 600) {H : Heap} {locs : List Loc} {ls : Array Slot} (hI : INV g (fun q : Nat => s.heap.size ≤ q) xp mp K H) (hS : va_S (fun q : Nat => s.heap.size ≤ q) s.heap H locs) (hl : lv_has ls 4 [(0, .ref b), (1, .ref xp), (2, .ref mp), (3, .int (nI q))]) (kk : ∀ (H1 : Heap) (locs1 : List Loc), INV g (fun q : Nat => s.heap.size ≤ q) xp mp (K + 1) H1 → va_S (fun q : Nat => s.heap.size ≤ q) s.heap H1 locs1 → W p l e room_1 s m #[Value.ref b] below meth c H1 locs1 CC SS Q (F0 m 800 ls [])) : W p l e room_1 s m #[Value.ref b] below meth c H locs CC SS Q (F0 m 464 ls []) := by
  obtain ⟨hx0, hb, hr, hml, hown, hts0, hX, hbl, hlocks, hgv⟩ := C0
  have hts := hts0
  have hA : ∀ q : Nat, s.heap.size ≤ q → (fun q : Nat => s.heap.size ≤ q) q := fun _ h => h
  have hbA : ¬ (fun q : Nat => s.heap.size ≤ q) b := Nat.not_le.mpr hbl
  obtain ⟨z, pp, pd, pq, dq, sa, ha, rq, mq, sq, bq, hq, i, d, cav, cor, stg, pl, dv, rv, S, Hh, xl, nums, xn, tn, tt, tv, tf, te, tp, now, was, one, sc, y, hP, hD, hT, hRP, hRW, hMB⟩ := hI
  have hi5 : i < 5 := hRW.1
  have hj5 : (i + 1) % 5 < 5 := Nat.mod_lt _ (by decide)
  have hij : i ≠ (i + 1) % 5 := by omega
  have hc : cav ≤ 6 := hRP.1.2.1
  have hs : stg ≤ 4 := hRP.2.2.1.2.1
  have hcor : cor ≤ 4 := hRP.2.1.1
  have hE : RE cor (pl.2 3) te := hRP.2.2.2.2.1
  have hv : ∀ c, c < cav → tv c = pl.2 0 c ∧ ∃ k : Nat, k ≤ 30 ∧ pl.2 0 c = nI k := fun c h => by
    obtain ⟨h1, -, ⟨v, -, h2, h3⟩, -⟩ := hRP.2.2.2.1 c h
    exact ⟨h1, v, h2, h3⟩
  obtain ⟨m0, hm⟩ := RW_now hRW
  obtain ⟨r0, i', d', w', now', was', h1, h2, hRW', hMBf⟩ := eq_forget 5000 (Nat.le_refl 5000) hc hs hRW rfl rfl
  have ct := c5_forget l g xp (z 0) pp pd (z 1) sa (nI i) (nI d) (z 2) ha (z 3) (sq i 0) ((S i).2 0) (sq i 1) ((S i).2 1) (sq i 2) ((S i).2 2) ((S i).1 0) ((S i).1 1) ((S i).1 2) ((S i).1 3) ((S i).1 4) ((S i).1 5) (sq i 3) ((S i).1 6) ((S i).1 7) ((S i).1 8) (bq i 0) ((S i).2 3) (bq i 1) ((S i).2 4) (sq ((i + 1) % 5) 0) ((S ((i + 1) % 5)).2 0) (sq ((i + 1) % 5) 1) ((S ((i + 1) % 5)).2 1) (sq ((i + 1) % 5) 2) ((S ((i + 1) % 5)).2 2) ((S ((i + 1) % 5)).1 0) ((S ((i + 1) % 5)).1 1) ((S ((i + 1) % 5)).1 2) ((S ((i + 1) % 5)).1 3) ((S ((i + 1) % 5)).1 4) ((S ((i + 1) % 5)).1 5) (sq ((i + 1) % 5) 3) ((S ((i + 1) % 5)).1 6) ((S ((i + 1) % 5)).1 7) ((S ((i + 1) % 5)).1 8) (bq ((i + 1) % 5) 0) ((S ((i + 1) % 5)).2 3) (bq ((i + 1) % 5) 1) ((S ((i + 1) % 5)).2 4) H.size 5000 _ h1
  try dsimp only [outS, outSH] at ct
  simp only [clI hi5, clU hi5] at ct
  simp only [clI hRW'.1] at ct
  refine lv_aload_n hx0 hb dL_law_464 rfl (lv_at hl 1 rfl) ?_
  refine bft_i (bn := MW g xp mp z pp pd pq dq sa ha rq mq sq bq hq i' d' cav cor stg pl dv rv (va_up S ((i + 1) % 5) w') Hh xl nums xn tn tt (nI cav) (nI cor) (nI stg) (nI d) tv tf te tp now was one sc y) (va_runV (As := []) (rest := []) ⟨hx0, hb, hml, hown, hts⟩ ct (cwV 0 hts gL_law_X5_forget rfl rfl rfl ⟨rfl, nh5.1, nh5.2, pd_12⟩ ⟨Nat.le_of_ble_eq_true rfl, Nat.le_of_ble_eq_true rfl⟩) (qPV hK hG hP hD hS hA [0, 6 + i, 11 + i, 6 + (i + 1) % 5, 11 + (i + 1) % 5] (nd_su i hi5) (mc rfl (mc (mm_S hi5) (mc (mm_B hi5) (mc (mm_S hj5) (mc (mm_B hj5) rfl))))) (va_recv hK.1 hP (ci := 5) (q0 := 0) rfl rfl)) rfl rfl hl.1 rfl (lv_room (Nat.le_of_ble_eq_true rfl)) dL_law_465 ⟨hCC, hSS⟩) hP hD hS hA [0, 6 + i, 11 + i, 6 + (i + 1) % 5, 11 + (i + 1) % 5] (mc rfl (mc (mm_S hi5) (mc (mm_B hi5) (mc (mm_S hj5) (mc (mm_B hj5) rfl))))) rfl rfl (mm_zs (mc rfl (mc (mmS_n hi5 hij) (mc (mmB_n hi5 hij) (mc (mmS_u hj5) (mc (mmB_u hj5) rfl))))) (mm_keep (.inl (by simp)) (.inr rfl) (.inr rfl) (.inr rfl) (.inr rfl) (.inr rfl) (keepS (by simp)) (keepB (by simp)) (fun _ _ => .inr rfl))) (fun r H locs hw hP hD hS => ?_)
  replace hw := hw.symm
  subst hw
  refine lv_aload_n hx0 hb dL_law_468 rfl (lv_at hl 2 rfl) ?_
  have cm := c6_forget l g mp tn (mq 0) tt (nI cav) (mq 1) tv (mq 2) tf (nI cor) (mq 3) te (nI stg) (mq 4) tp (mq 5) now (mq 6) was (nI d) (mq 7) one y.1 (mq 8) y.2.1 y.2.2.1 (mq 9) y.2.2.2.1 y.2.2.2.2.1 (mq 10) y.2.2.2.2.2.1 (mq 11) y.2.2.2.2.2.2.1 y.2.2.2.2.2.2.2.1 y.2.2.2.2.2.2.2.2 sc H.size 5000 _ h2
  try dsimp only at cm
  refine bft_i (bn := MW g xp mp z pp pd pq dq sa ha rq mq sq bq hq i' d' cav cor stg pl dv rv (va_up S ((i + 1) % 5) w') Hh xl nums xn tn tt (nI cav) (nI cor) (nI stg) (nI d') tv tf te tp now' was' one sc y) (va_runV (As := []) (rest := [.int r0]) ⟨hx0, hb, hml, hown, hts⟩ cm (cwV 0 hts gL_law_X6_forget rfl rfl rfl ⟨rfl, nh6.1, nh6.2, pd_12⟩ ⟨Nat.le_of_ble_eq_true rfl, Nat.le_of_ble_eq_true rfl⟩) (qPV hK hG hP hD hS hA [5] rfl (mc rfl rfl) (va_recv hK.1 hP (ci := 6) (q0 := 27) rfl rfl)) rfl rfl hl.1 rfl (lv_room (Nat.le_of_ble_eq_true rfl)) dL_law_469 ⟨hCC, hSS⟩) hP hD hS hA [5] (mc rfl rfl) rfl rfl (mm_zs (mc rfl rfl) (mm_keep (.inr rfl) (.inr rfl) (.inr rfl) (.inr rfl) (.inr rfl) (.inl (by simp)) (fun _ _ => .inr rfl) (fun _ _ => .inr rfl) (fun _ _ => .inr rfl))) (fun r H locs hw hP hD hS => ?_)
  replace hw := hw.symm
  subst hw
  refine lv_icmp_eq (tgt := 800) hx0 hb dL_law_472 (by decide) (fun _ => ?_) (fun c9 => absurd rfl c9)
  exact kk H locs ⟨z, pp, pd, pq, dq, sa, ha, rq, mq, sq, bq, hq, i', d', cav, cor, stg, pl, dv, rv, (va_up S ((i + 1) % 5) w'), Hh, xl, nums, xn, tn, tt, tv, tf, te, tp, now', was', one, sc, y, hP, hD, hT, hRP, hRW', (hMBf K (by omega) hMB)⟩ hS
set_option maxHeartbeats 4000000 in
set_option maxRecDepth 100000 in
theorem lc_wide {p : Program} {e : Env} {s : State} {m : MethodId} {below : List Frame} {meth : Method} {c : Code} {l : Launch} {g : gG} {b L xp mp q K CC SS : Nat} {xs : Nat → Int32} {Q : State → Prop} (hL : L ≤ 2048) (hCC : CC + 0 ≤ room_1.cells) (hSS : SS + 0 ≤ room_1.slots) (C0 : lw_At p s m meth c b L xs) (hK : gK g s) (hG : gS g (fun q : Nat => s.heap.size ≤ q) s s.heap) (hq4 : q + 4 ≤ L) (hK6 : K < 600) {H : Heap} {locs : List Loc} {ls : Array Slot} (hI : INV g (fun q : Nat => s.heap.size ≤ q) xp mp K H) (hS : va_S (fun q : Nat => s.heap.size ≤ q) s.heap H locs) (hl : lv_has ls 4 [(0, .ref b), (1, .ref xp), (2, .ref mp), (3, .int (nI q))]) (kk : ∀ (H1 : Heap) (locs1 : List Loc), INV g (fun q : Nat => s.heap.size ≤ q) xp mp (K + 1) H1 → va_S (fun q : Nat => s.heap.size ≤ q) s.heap H1 locs1 → W p l e room_1 s m #[Value.ref b] below meth c H1 locs1 CC SS Q (F0 m 800 ls [])) : W p l e room_1 s m #[Value.ref b] below meth c H locs CC SS Q (F0 m 477 ls []) := by
  obtain ⟨hx0, hb, hr, hml, hown, hts0, hX, hbl, hlocks, hgv⟩ := C0
  have hts := hts0
  have hA : ∀ q : Nat, s.heap.size ≤ q → (fun q : Nat => s.heap.size ≤ q) q := fun _ h => h
  have hbA : ¬ (fun q : Nat => s.heap.size ≤ q) b := Nat.not_le.mpr hbl
  obtain ⟨z, pp, pd, pq, dq, sa, ha, rq, mq, sq, bq, hq, i, d, cav, cor, stg, pl, dv, rv, S, Hh, xl, nums, xn, tn, tt, tv, tf, te, tp, now, was, one, sc, y, hP, hD, hT, hRP, hRW, hMB⟩ := hI
  have hi5 : i < 5 := hRW.1
  have hj5 : (i + 1) % 5 < 5 := Nat.mod_lt _ (by decide)
  have hij : i ≠ (i + 1) % 5 := by omega
  have hc : cav ≤ 6 := hRP.1.2.1
  have hs : stg ≤ 4 := hRP.2.2.1.2.1
  have hcor : cor ≤ 4 := hRP.2.1.1
  have hE : RE cor (pl.2 3) te := hRP.2.2.2.2.1
  have hv : ∀ c, c < cav → tv c = pl.2 0 c ∧ ∃ k : Nat, k ≤ 30 ∧ pl.2 0 c = nI k := fun c h => by
    obtain ⟨h1, -, ⟨v, -, h2, h3⟩, -⟩ := hRP.2.2.2.1 c h
    exact ⟨h1, v, h2, h3⟩
  obtain ⟨m0, hm⟩ := RW_now hRW
  have hin1 : vp_in (nI q + 1) L := by rw [show nI q + (1 : Int32) = nI (q + 1) from addn q 1]; exact vp_in_nI (by omega) (by omega)
  obtain ⟨r0, i', d', w', now', was', h1, h2, hRW', hMBf⟩ := eq_wide 5000 (Nat.le_refl 5000) (xs (Int32.toNatClampNeg (nI q + 1))) hc hs hRW rfl rfl
  have ct := c5_wide l g xp (z 0) pp pd (z 1) sa (nI i) (nI d) (z 2) ha (z 3) (sq i 0) ((S i).2 0) (sq i 1) ((S i).2 1) (sq i 2) ((S i).2 2) ((S i).1 0) ((S i).1 1) ((S i).1 2) ((S i).1 3) ((S i).1 4) ((S i).1 5) (sq i 3) ((S i).1 6) ((S i).1 7) ((S i).1 8) (bq i 0) ((S i).2 3) (bq i 1) ((S i).2 4) (sq ((i + 1) % 5) 0) ((S ((i + 1) % 5)).2 0) (sq ((i + 1) % 5) 1) ((S ((i + 1) % 5)).2 1) (sq ((i + 1) % 5) 2) ((S ((i + 1) % 5)).2 2) ((S ((i + 1) % 5)).1 0) ((S ((i + 1) % 5)).1 1) ((S ((i + 1) % 5)).1 2) ((S ((i + 1) % 5)).1 3) ((S ((i + 1) % 5)).1 4) ((S ((i + 1) % 5)).1 5) (sq ((i + 1) % 5) 3) ((S ((i + 1) % 5)).1 6) ((S ((i + 1) % 5)).1 7) ((S ((i + 1) % 5)).1 8) (bq ((i + 1) % 5) 0) ((S ((i + 1) % 5)).2 3) (bq ((i + 1) % 5) 1) ((S ((i + 1) % 5)).2 4) (xs (Int32.toNatClampNeg (nI q + 1))) H.size 5000 _ h1
  try dsimp only [outS, outSH] at ct
  simp only [clI hi5, clU hi5] at ct
  simp only [clI hRW'.1] at ct
  refine lv_aload_n hx0 hb dL_law_477 rfl (lv_at hl 1 rfl) ?_
  refine lv_aload_n hx0 hb dL_law_478 rfl (lv_at hl 0 rfl) ?_
  refine lv_iload_n hx0 hb dL_law_479 rfl (lv_at hl 3 rfl) ?_
  refine lv_iconst (v := 1) hx0 hb dL_law_480 (by decide) ?_
  refine lv_iadd hx0 hb dL_law_481 ?_
  refine va_sld hx0 hb hX hbl hbA hS hin1 dL_law_482 ?_
  refine bft_i (bn := MW g xp mp z pp pd pq dq sa ha rq mq sq bq hq i' d' cav cor stg pl dv rv (va_up S ((i + 1) % 5) w') Hh xl nums xn tn tt (nI cav) (nI cor) (nI stg) (nI d) tv tf te tp now was one sc y) (va_runV (As := [.int (xs (Int32.toNatClampNeg (nI q + 1)))]) (rest := []) ⟨hx0, hb, hml, hown, hts⟩ ct (cwV 1 hts gL_law_X5_wide rfl rfl rfl ⟨rfl, nh5.1, nh5.2, pd_2⟩ ⟨Nat.le_of_ble_eq_true rfl, Nat.le_of_ble_eq_true rfl⟩) (qPV hK hG hP hD hS hA [0, 6 + i, 11 + i, 6 + (i + 1) % 5, 11 + (i + 1) % 5] (nd_su i hi5) (mc rfl (mc (mm_S hi5) (mc (mm_B hi5) (mc (mm_S hj5) (mc (mm_B hj5) rfl))))) (va_recv hK.1 hP (ci := 5) (q0 := 0) rfl rfl)) rfl rfl hl.1 rfl (lv_room (Nat.le_of_ble_eq_true rfl)) dL_law_483 ⟨hCC, hSS⟩) hP hD hS hA [0, 6 + i, 11 + i, 6 + (i + 1) % 5, 11 + (i + 1) % 5] (mc rfl (mc (mm_S hi5) (mc (mm_B hi5) (mc (mm_S hj5) (mc (mm_B hj5) rfl))))) rfl rfl (mm_zs (mc rfl (mc (mmS_n hi5 hij) (mc (mmB_n hi5 hij) (mc (mmS_u hj5) (mc (mmB_u hj5) rfl))))) (mm_keep (.inl (by simp)) (.inr rfl) (.inr rfl) (.inr rfl) (.inr rfl) (.inr rfl) (keepS (by simp)) (keepB (by simp)) (fun _ _ => .inr rfl))) (fun r H locs hw hP hD hS => ?_)
  replace hw := hw.symm
  subst hw
  refine lv_aload_n hx0 hb dL_law_486 rfl (lv_at hl 2 rfl) ?_
  refine lv_aload_n hx0 hb dL_law_487 rfl (lv_at hl 0 rfl) ?_
  refine lv_iload_n hx0 hb dL_law_488 rfl (lv_at hl 3 rfl) ?_
  refine lv_iconst (v := 1) hx0 hb dL_law_489 (by decide) ?_
  refine lv_iadd hx0 hb dL_law_490 ?_
  refine va_sld hx0 hb hX hbl hbA hS hin1 dL_law_491 ?_
  have cm := c6_wide l g mp tn (mq 0) tt (nI cav) (mq 1) tv (mq 2) tf (nI cor) (mq 3) te (nI stg) (mq 4) tp (mq 5) now (mq 6) was (nI d) (mq 7) one y.1 (mq 8) y.2.1 y.2.2.1 (mq 9) y.2.2.2.1 y.2.2.2.2.1 (mq 10) y.2.2.2.2.2.1 (mq 11) y.2.2.2.2.2.2.1 y.2.2.2.2.2.2.2.1 y.2.2.2.2.2.2.2.2 sc (xs (Int32.toNatClampNeg (nI q + 1))) H.size 5000 _ h2
  try dsimp only at cm
  refine bft_i (bn := MW g xp mp z pp pd pq dq sa ha rq mq sq bq hq i' d' cav cor stg pl dv rv (va_up S ((i + 1) % 5) w') Hh xl nums xn tn tt (nI cav) (nI cor) (nI stg) (nI d') tv tf te tp now' was' one sc y) (va_runV (As := [.int (xs (Int32.toNatClampNeg (nI q + 1)))]) (rest := [.int r0]) ⟨hx0, hb, hml, hown, hts⟩ cm (cwV 1 hts gL_law_X6_wide rfl rfl rfl ⟨rfl, nh6.1, nh6.2, pd_2⟩ ⟨Nat.le_of_ble_eq_true rfl, Nat.le_of_ble_eq_true rfl⟩) (qPV hK hG hP hD hS hA [5] rfl (mc rfl rfl) (va_recv hK.1 hP (ci := 6) (q0 := 27) rfl rfl)) rfl rfl hl.1 rfl (lv_room (Nat.le_of_ble_eq_true rfl)) dL_law_492 ⟨hCC, hSS⟩) hP hD hS hA [5] (mc rfl rfl) rfl rfl (mm_zs (mc rfl rfl) (mm_keep (.inr rfl) (.inr rfl) (.inr rfl) (.inr rfl) (.inr rfl) (.inl (by simp)) (fun _ _ => .inr rfl) (fun _ _ => .inr rfl) (fun _ _ => .inr rfl))) (fun r H locs hw hP hD hS => ?_)
  replace hw := hw.symm
  subst hw
  refine lv_icmp_eq (tgt := 800) hx0 hb dL_law_495 (by decide) (fun _ => ?_) (fun c9 => absurd rfl c9)
  exact kk H locs ⟨z, pp, pd, pq, dq, sa, ha, rq, mq, sq, bq, hq, i', d', cav, cor, stg, pl, dv, rv, (va_up S ((i + 1) % 5) w'), Hh, xl, nums, xn, tn, tt, tv, tf, te, tp, now', was', one, sc, y, hP, hD, hT, hRP, hRW', (hMBf K (by omega) hMB)⟩ hS
set_option maxHeartbeats 4000000 in
set_option maxRecDepth 100000 in
theorem lc_band {p : Program} {e : Env} {s : State} {m : MethodId} {below : List Frame} {meth : Method} {c : Code} {l : Launch} {g : gG} {b L xp mp q K CC SS : Nat} {xs : Nat → Int32} {Q : State → Prop} (hL : L ≤ 2048) (hCC : CC + 0 ≤ room_1.cells) (hSS : SS + 0 ≤ room_1.slots) (C0 : lw_At p s m meth c b L xs) (hK : gK g s) (hG : gS g (fun q : Nat => s.heap.size ≤ q) s s.heap) (hq4 : q + 4 ≤ L) (hK6 : K < 600) {H : Heap} {locs : List Loc} {ls : Array Slot} (hI : INV g (fun q : Nat => s.heap.size ≤ q) xp mp K H) (hS : va_S (fun q : Nat => s.heap.size ≤ q) s.heap H locs) (hl : lv_has ls 4 [(0, .ref b), (1, .ref xp), (2, .ref mp), (3, .int (nI q))]) (kk : ∀ (H1 : Heap) (locs1 : List Loc), INV g (fun q : Nat => s.heap.size ≤ q) xp mp (K + 1) H1 → va_S (fun q : Nat => s.heap.size ≤ q) s.heap H1 locs1 → W p l e room_1 s m #[Value.ref b] below meth c H1 locs1 CC SS Q (F0 m 800 ls [])) : W p l e room_1 s m #[Value.ref b] below meth c H locs CC SS Q (F0 m 500 ls []) := by
  obtain ⟨hx0, hb, hr, hml, hown, hts0, hX, hbl, hlocks, hgv⟩ := C0
  have hts := hts0
  have hA : ∀ q : Nat, s.heap.size ≤ q → (fun q : Nat => s.heap.size ≤ q) q := fun _ h => h
  have hbA : ¬ (fun q : Nat => s.heap.size ≤ q) b := Nat.not_le.mpr hbl
  obtain ⟨z, pp, pd, pq, dq, sa, ha, rq, mq, sq, bq, hq, i, d, cav, cor, stg, pl, dv, rv, S, Hh, xl, nums, xn, tn, tt, tv, tf, te, tp, now, was, one, sc, y, hP, hD, hT, hRP, hRW, hMB⟩ := hI
  have hi5 : i < 5 := hRW.1
  have hj5 : (i + 1) % 5 < 5 := Nat.mod_lt _ (by decide)
  have hij : i ≠ (i + 1) % 5 := by omega
  have hc : cav ≤ 6 := hRP.1.2.1
  have hs : stg ≤ 4 := hRP.2.2.1.2.1
  have hcor : cor ≤ 4 := hRP.2.1.1
  have hE : RE cor (pl.2 3) te := hRP.2.2.2.2.1
  have hv : ∀ c, c < cav → tv c = pl.2 0 c ∧ ∃ k : Nat, k ≤ 30 ∧ pl.2 0 c = nI k := fun c h => by
    obtain ⟨h1, -, ⟨v, -, h2, h3⟩, -⟩ := hRP.2.2.2.1 c h
    exact ⟨h1, v, h2, h3⟩
  obtain ⟨m0, hm⟩ := RW_now hRW
  have hin1 : vp_in (nI q + 1) L := by rw [show nI q + (1 : Int32) = nI (q + 1) from addn q 1]; exact vp_in_nI (by omega) (by omega)
  have hin2 : vp_in (nI q + 2) L := by rw [show nI q + (2 : Int32) = nI (q + 2) from addn q 2]; exact vp_in_nI (by omega) (by omega)
  obtain ⟨T, hT6, a15, v6, T0, T1⟩ := hm.2.2.2.2.2.2.1
  obtain ⟨r0, h1, h2⟩ := eq_band 5000 (xs (Int32.toNatClampNeg (nI q + 1))) (xs (Int32.toNatClampNeg (nI q + 2))) (so := (S i).1 7) hT6 a15 T0 (fun h => ⟨(T1 h).2.1, (T1 h).2.2.2⟩)
  have ct := c5_band l g xp (z 0) pp pd (z 1) sa (nI i) (nI d) (z 2) ha (z 3) (sq i 0) ((S i).2 0) (sq i 1) ((S i).2 1) (sq i 2) ((S i).2 2) ((S i).1 0) ((S i).1 1) ((S i).1 2) ((S i).1 3) ((S i).1 4) ((S i).1 5) (sq i 3) ((S i).1 6) ((S i).1 7) ((S i).1 8) (bq i 0) ((S i).2 3) (bq i 1) ((S i).2 4) (xs (Int32.toNatClampNeg (nI q + 1))) (xs (Int32.toNatClampNeg (nI q + 2))) H.size 5000 _ h1
  try dsimp only [outS, outSH] at ct
  simp only [clI hi5, clU hi5] at ct
  refine lv_aload_n hx0 hb dL_law_500 rfl (lv_at hl 1 rfl) ?_
  refine lv_aload_n hx0 hb dL_law_501 rfl (lv_at hl 0 rfl) ?_
  refine lv_iload_n hx0 hb dL_law_502 rfl (lv_at hl 3 rfl) ?_
  refine lv_iconst (v := 1) hx0 hb dL_law_503 (by decide) ?_
  refine lv_iadd hx0 hb dL_law_504 ?_
  refine va_sld hx0 hb hX hbl hbA hS hin1 dL_law_505 ?_
  refine lv_aload_n hx0 hb dL_law_506 rfl (lv_at hl 0 rfl) ?_
  refine lv_iload_n hx0 hb dL_law_507 rfl (lv_at hl 3 rfl) ?_
  refine lv_iconst (v := 2) hx0 hb dL_law_508 (by decide) ?_
  refine lv_iadd hx0 hb dL_law_509 ?_
  refine va_sld hx0 hb hX hbl hbA hS hin2 dL_law_510 ?_
  refine bft_i_ro (va_runV (As := [.int (xs (Int32.toNatClampNeg (nI q + 1))), .int (xs (Int32.toNatClampNeg (nI q + 2)))]) (rest := []) ⟨hx0, hb, hml, hown, hts⟩ ct (cwV 2 hts gL_law_X5_band rfl rfl rfl ⟨rfl, nh5.1, nh5.2, pd_14⟩ ⟨Nat.le_of_ble_eq_true rfl, Nat.le_of_ble_eq_true rfl⟩) (qPV hK hG hP hD hS hA [0, 6 + i, 11 + i] (nd_sB i hi5) (mc rfl (mc (mm_S hi5) (mc (mm_B hi5) rfl))) (va_recv hK.1 hP (ci := 5) (q0 := 0) rfl rfl)) rfl rfl hl.1 rfl (lv_room (Nat.le_of_ble_eq_true rfl)) dL_law_511 ⟨hCC, hSS⟩) hP hD hS hA [0, 6 + i, 11 + i] (mc rfl (mc (mm_S hi5) (mc (mm_B hi5) rfl))) (fun r H locs hw hP hD hS => ?_)
  replace hw := hw.symm
  subst hw
  refine lv_aload_n hx0 hb dL_law_514 rfl (lv_at hl 2 rfl) ?_
  refine lv_aload_n hx0 hb dL_law_515 rfl (lv_at hl 0 rfl) ?_
  refine lv_iload_n hx0 hb dL_law_516 rfl (lv_at hl 3 rfl) ?_
  refine lv_iconst (v := 1) hx0 hb dL_law_517 (by decide) ?_
  refine lv_iadd hx0 hb dL_law_518 ?_
  refine va_sld hx0 hb hX hbl hbA hS hin1 dL_law_519 ?_
  refine lv_aload_n hx0 hb dL_law_520 rfl (lv_at hl 0 rfl) ?_
  refine lv_iload_n hx0 hb dL_law_521 rfl (lv_at hl 3 rfl) ?_
  refine lv_iconst (v := 2) hx0 hb dL_law_522 (by decide) ?_
  refine lv_iadd hx0 hb dL_law_523 ?_
  refine va_sld hx0 hb hX hbl hbA hS hin2 dL_law_524 ?_
  have cm := c6_band l g mp tn (mq 0) tt (nI cav) (mq 1) tv (mq 2) tf (nI cor) (mq 3) te (nI stg) (mq 4) tp (mq 5) now (mq 6) was (nI d) (mq 7) one y.1 (mq 8) y.2.1 y.2.2.1 (mq 9) y.2.2.2.1 y.2.2.2.2.1 (mq 10) y.2.2.2.2.2.1 (mq 11) y.2.2.2.2.2.2.1 y.2.2.2.2.2.2.2.1 y.2.2.2.2.2.2.2.2 sc (xs (Int32.toNatClampNeg (nI q + 1))) (xs (Int32.toNatClampNeg (nI q + 2))) H.size 5000 _ h2
  try dsimp only at cm
  refine bft_i_ro (va_runV (As := [.int (xs (Int32.toNatClampNeg (nI q + 1))), .int (xs (Int32.toNatClampNeg (nI q + 2)))]) (rest := [.int r0]) ⟨hx0, hb, hml, hown, hts⟩ cm (cwV 2 hts gL_law_X6_band rfl rfl rfl ⟨rfl, nh6.1, nh6.2, pd_14⟩ ⟨Nat.le_of_ble_eq_true rfl, Nat.le_of_ble_eq_true rfl⟩) (qPV hK hG hP hD hS hA [5] rfl (mc rfl rfl) (va_recv hK.1 hP (ci := 6) (q0 := 27) rfl rfl)) rfl rfl hl.1 rfl (lv_room (Nat.le_of_ble_eq_true rfl)) dL_law_525 ⟨hCC, hSS⟩) hP hD hS hA [5] (mc rfl rfl) (fun r H locs hw hP hD hS => ?_)
  replace hw := hw.symm
  subst hw
  refine lv_icmp_eq (tgt := 800) hx0 hb dL_law_528 (by decide) (fun _ => ?_) (fun c9 => absurd rfl c9)
  exact kk H locs ⟨z, pp, pd, pq, dq, sa, ha, rq, mq, sq, bq, hq, i, d, cav, cor, stg, pl, dv, rv, S, Hh, xl, nums, xn, tn, tt, tv, tf, te, tp, now, was, one, sc, y, hP, hD, hT, hRP, hRW, (MB_up hMB)⟩ hS
set_option maxHeartbeats 4000000 in
set_option maxRecDepth 100000 in
theorem lc_shot {p : Program} {e : Env} {s : State} {m : MethodId} {below : List Frame} {meth : Method} {c : Code} {l : Launch} {g : gG} {b L xp mp q K CC SS : Nat} {xs : Nat → Int32} {Q : State → Prop} (hL : L ≤ 2048) (hCC : CC + 0 ≤ room_1.cells) (hSS : SS + 0 ≤ room_1.slots) (C0 : lw_At p s m meth c b L xs) (hK : gK g s) (hG : gS g (fun q : Nat => s.heap.size ≤ q) s s.heap) (hq4 : q + 4 ≤ L) (hK6 : K < 600) {H : Heap} {locs : List Loc} {ls : Array Slot} (hI : INV g (fun q : Nat => s.heap.size ≤ q) xp mp K H) (hS : va_S (fun q : Nat => s.heap.size ≤ q) s.heap H locs) (hl : lv_has ls 4 [(0, .ref b), (1, .ref xp), (2, .ref mp), (3, .int (nI q))]) (kk : ∀ (H1 : Heap) (locs1 : List Loc), INV g (fun q : Nat => s.heap.size ≤ q) xp mp (K + 1) H1 → va_S (fun q : Nat => s.heap.size ≤ q) s.heap H1 locs1 → W p l e room_1 s m #[Value.ref b] below meth c H1 locs1 CC SS Q (F0 m 800 ls [])) : W p l e room_1 s m #[Value.ref b] below meth c H locs CC SS Q (F0 m 533 ls []) := by
  obtain ⟨hx0, hb, hr, hml, hown, hts0, hX, hbl, hlocks, hgv⟩ := C0
  have hts := hts0
  have hA : ∀ q : Nat, s.heap.size ≤ q → (fun q : Nat => s.heap.size ≤ q) q := fun _ h => h
  have hbA : ¬ (fun q : Nat => s.heap.size ≤ q) b := Nat.not_le.mpr hbl
  obtain ⟨z, pp, pd, pq, dq, sa, ha, rq, mq, sq, bq, hq, i, d, cav, cor, stg, pl, dv, rv, S, Hh, xl, nums, xn, tn, tt, tv, tf, te, tp, now, was, one, sc, y, hP, hD, hT, hRP, hRW, hMB⟩ := hI
  have hi5 : i < 5 := hRW.1
  have hj5 : (i + 1) % 5 < 5 := Nat.mod_lt _ (by decide)
  have hij : i ≠ (i + 1) % 5 := by omega
  have hc : cav ≤ 6 := hRP.1.2.1
  have hs : stg ≤ 4 := hRP.2.2.1.2.1
  have hcor : cor ≤ 4 := hRP.2.1.1
  have hE : RE cor (pl.2 3) te := hRP.2.2.2.2.1
  have hv : ∀ c, c < cav → tv c = pl.2 0 c ∧ ∃ k : Nat, k ≤ 30 ∧ pl.2 0 c = nI k := fun c h => by
    obtain ⟨h1, -, ⟨v, -, h2, h3⟩, -⟩ := hRP.2.2.2.1 c h
    exact ⟨h1, v, h2, h3⟩
  obtain ⟨m0, hm⟩ := RW_now hRW
  have hin1 : vp_in (nI q + 1) L := by rw [show nI q + (1 : Int32) = nI (q + 1) from addn q 1]; exact vp_in_nI (by omega) (by omega)
  have hin2 : vp_in (nI q + 2) L := by rw [show nI q + (2 : Int32) = nI (q + 2) from addn q 2]; exact vp_in_nI (by omega) (by omega)
  obtain ⟨r0, h1, h2⟩ := eq_shot 5000 (Nat.le_refl 5000) (xs (Int32.toNatClampNeg (nI q + 1))) (xs (Int32.toNatClampNeg (nI q + 2))) hc hm hv rfl
  have ct := c5_shot l g xp (z 0) pp pd (z 1) sa (nI i) (nI d) (z 2) ha (z 3) (nI cav) (pq 0) (pl.2 0) (pq 1) (pl.2 1) (pq 2) (pl.2 2) (nI cor) (pq 3) (pl.2 3) (nI stg) (pq 4) (pl.2 4) (pq 5) (pl.2 5) (pq 6) (pl.2 6) (sq i 0) ((S i).2 0) (sq i 1) ((S i).2 1) (sq i 2) ((S i).2 2) ((S i).1 0) ((S i).1 1) ((S i).1 2) ((S i).1 3) ((S i).1 4) ((S i).1 5) (sq i 3) ((S i).1 6) ((S i).1 7) ((S i).1 8) (bq i 0) ((S i).2 3) (bq i 1) ((S i).2 4) (hq (hx ((S i).1 4) (xs (Int32.toNatClampNeg (nI q + 1)))) 0) ((Hh (hx ((S i).1 4) (xs (Int32.toNatClampNeg (nI q + 1))))).2 0) (hq (hx ((S i).1 4) (xs (Int32.toNatClampNeg (nI q + 1)))) 1) ((Hh (hx ((S i).1 4) (xs (Int32.toNatClampNeg (nI q + 1))))).2 1) (hq (hx ((S i).1 4) (xs (Int32.toNatClampNeg (nI q + 1)))) 2) ((Hh (hx ((S i).1 4) (xs (Int32.toNatClampNeg (nI q + 1))))).2 2) (hq (hx ((S i).1 4) (xs (Int32.toNatClampNeg (nI q + 1)))) 3) ((Hh (hx ((S i).1 4) (xs (Int32.toNatClampNeg (nI q + 1))))).2 3) ((Hh (hx ((S i).1 4) (xs (Int32.toNatClampNeg (nI q + 1))))).1 0) ((Hh (hx ((S i).1 4) (xs (Int32.toNatClampNeg (nI q + 1))))).1 1) ((Hh (hx ((S i).1 4) (xs (Int32.toNatClampNeg (nI q + 1))))).1 2) ((Hh (hx ((S i).1 4) (xs (Int32.toNatClampNeg (nI q + 1))))).1 3) ((Hh (hx ((S i).1 4) (xs (Int32.toNatClampNeg (nI q + 1))))).1 4) (xs (Int32.toNatClampNeg (nI q + 1))) (xs (Int32.toNatClampNeg (nI q + 2))) H.size 5000 _ h1
  try dsimp only [outS, outSH] at ct
  simp only [clI hi5, clU hi5] at ct
  have hX16 : (hx ((S i).1 4) (xs (Int32.toNatClampNeg (nI q + 1)))) < 16 := hx_lt _ _
  refine lv_aload_n hx0 hb dL_law_533 rfl (lv_at hl 1 rfl) ?_
  refine lv_aload_n hx0 hb dL_law_534 rfl (lv_at hl 0 rfl) ?_
  refine lv_iload_n hx0 hb dL_law_535 rfl (lv_at hl 3 rfl) ?_
  refine lv_iconst (v := 1) hx0 hb dL_law_536 (by decide) ?_
  refine lv_iadd hx0 hb dL_law_537 ?_
  refine va_sld hx0 hb hX hbl hbA hS hin1 dL_law_538 ?_
  refine lv_aload_n hx0 hb dL_law_539 rfl (lv_at hl 0 rfl) ?_
  refine lv_iload_n hx0 hb dL_law_540 rfl (lv_at hl 3 rfl) ?_
  refine lv_iconst (v := 2) hx0 hb dL_law_541 (by decide) ?_
  refine lv_iadd hx0 hb dL_law_542 ?_
  refine va_sld hx0 hb hX hbl hbA hS hin2 dL_law_543 ?_
  refine bft_i_ro (va_runV (As := [.int (xs (Int32.toNatClampNeg (nI q + 1))), .int (xs (Int32.toNatClampNeg (nI q + 2)))]) (rest := []) ⟨hx0, hb, hml, hown, hts⟩ ct (cwV 2 hts gL_law_X5_shot rfl rfl rfl ⟨rfl, nh5.1, nh5.2, pd_14⟩ ⟨Nat.le_of_ble_eq_true rfl, Nat.le_of_ble_eq_true rfl⟩) (qPV hK hG hP hD hS hA [0, 2, 6 + i, 11 + i, 16 + (hx ((S i).1 4) (xs (Int32.toNatClampNeg (nI q + 1))))] (nd_psBh i hi5 _ hX16) (mc rfl (mc rfl (mc (mm_S hi5) (mc (mm_B hi5) (mc (mm_H hX16) rfl))))) (va_recv hK.1 hP (ci := 5) (q0 := 0) rfl rfl)) rfl rfl hl.1 rfl (lv_room (Nat.le_of_ble_eq_true rfl)) dL_law_544 ⟨hCC, hSS⟩) hP hD hS hA [0, 2, 6 + i, 11 + i, 16 + (hx ((S i).1 4) (xs (Int32.toNatClampNeg (nI q + 1))))] (mc rfl (mc rfl (mc (mm_S hi5) (mc (mm_B hi5) (mc (mm_H hX16) rfl))))) (fun r H locs hw hP hD hS => ?_)
  replace hw := hw.symm
  subst hw
  refine lv_aload_n hx0 hb dL_law_547 rfl (lv_at hl 2 rfl) ?_
  refine lv_aload_n hx0 hb dL_law_548 rfl (lv_at hl 0 rfl) ?_
  refine lv_iload_n hx0 hb dL_law_549 rfl (lv_at hl 3 rfl) ?_
  refine lv_iconst (v := 1) hx0 hb dL_law_550 (by decide) ?_
  refine lv_iadd hx0 hb dL_law_551 ?_
  refine va_sld hx0 hb hX hbl hbA hS hin1 dL_law_552 ?_
  refine lv_aload_n hx0 hb dL_law_553 rfl (lv_at hl 0 rfl) ?_
  refine lv_iload_n hx0 hb dL_law_554 rfl (lv_at hl 3 rfl) ?_
  refine lv_iconst (v := 2) hx0 hb dL_law_555 (by decide) ?_
  refine lv_iadd hx0 hb dL_law_556 ?_
  refine va_sld hx0 hb hX hbl hbA hS hin2 dL_law_557 ?_
  have cm := c6_shot l g mp tn (mq 0) tt (nI cav) (mq 1) tv (mq 2) tf (nI cor) (mq 3) te (nI stg) (mq 4) tp (mq 5) now (mq 6) was (nI d) (mq 7) one y.1 (mq 8) y.2.1 y.2.2.1 (mq 9) y.2.2.2.1 y.2.2.2.2.1 (mq 10) y.2.2.2.2.2.1 (mq 11) y.2.2.2.2.2.2.1 y.2.2.2.2.2.2.2.1 y.2.2.2.2.2.2.2.2 sc (xs (Int32.toNatClampNeg (nI q + 1))) (xs (Int32.toNatClampNeg (nI q + 2))) H.size 5000 _ h2
  try dsimp only at cm
  refine bft_i_ro (va_runV (As := [.int (xs (Int32.toNatClampNeg (nI q + 1))), .int (xs (Int32.toNatClampNeg (nI q + 2)))]) (rest := [.int r0]) ⟨hx0, hb, hml, hown, hts⟩ cm (cwV 2 hts gL_law_X6_shot rfl rfl rfl ⟨rfl, nh6.1, nh6.2, pd_14⟩ ⟨Nat.le_of_ble_eq_true rfl, Nat.le_of_ble_eq_true rfl⟩) (qPV hK hG hP hD hS hA [5] rfl (mc rfl rfl) (va_recv hK.1 hP (ci := 6) (q0 := 27) rfl rfl)) rfl rfl hl.1 rfl (lv_room (Nat.le_of_ble_eq_true rfl)) dL_law_558 ⟨hCC, hSS⟩) hP hD hS hA [5] (mc rfl rfl) (fun r H locs hw hP hD hS => ?_)
  replace hw := hw.symm
  subst hw
  refine lv_icmp_eq (tgt := 800) hx0 hb dL_law_561 (by decide) (fun _ => ?_) (fun c9 => absurd rfl c9)
  exact kk H locs ⟨z, pp, pd, pq, dq, sa, ha, rq, mq, sq, bq, hq, i, d, cav, cor, stg, pl, dv, rv, S, Hh, xl, nums, xn, tn, tt, tv, tf, te, tp, now, was, one, sc, y, hP, hD, hT, hRP, hRW, (MB_up hMB)⟩ hS
