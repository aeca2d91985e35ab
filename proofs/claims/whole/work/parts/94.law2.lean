/-! the law: fault, lay, mould, core, against -/
set_option maxHeartbeats 4000000 in
set_option maxRecDepth 100000 in
theorem lc_fault {p : Program} {e : Env} {s : State} {m : MethodId} {below : List Frame} {meth : Method} {c : Code} {l : Launch} {g : gG} {b L xp mp q K CC SS : Nat} {xs : Nat → Int32} {Q : State → Prop} (hL : L ≤ 2048) (hCC : CC + 0 ≤ room_1.cells) (hSS : SS + 0 ≤ room_1.slots) (C0 : lw_At p s m meth c b L xs) (hK : gK g s) (hG : gS g (fun q : Nat => s.heap.size ≤ q) s s.heap) (hq4 : q + 4 ≤ L) (hK6 : K < 600) {H : Heap} {locs : List Loc} {ls : Array Slot} (hI : INV g (fun q : Nat => s.heap.size ≤ q) xp mp K H) (hS : va_S (fun q : Nat => s.heap.size ≤ q) s.heap H locs) (hl : lv_has ls 4 [(0, .ref b), (1, .ref xp), (2, .ref mp), (3, .int (nI q))]) (kk : ∀ (H1 : Heap) (locs1 : List Loc), INV g (fun q : Nat => s.heap.size ≤ q) xp mp (K + 1) H1 → va_S (fun q : Nat => s.heap.size ≤ q) s.heap H1 locs1 → W p l e room_1 s m #[Value.ref b] below meth c H1 locs1 CC SS Q (F0 m 800 ls [])) : W p l e room_1 s m #[Value.ref b] below meth c H locs CC SS Q (F0 m 188 ls []) := by
  obtain ⟨hx0, hb, hr, hml, hown, hts0, hX, hbl, hlocks, hgv⟩ := C0
  have hts := hts0
  have hA : ∀ q : Nat, s.heap.size ≤ q → (fun q : Nat => s.heap.size ≤ q) q := fun _ h => h
  have hbA : ¬ (fun q : Nat => s.heap.size ≤ q) b := Nat.not_le.mpr hbl
  obtain ⟨z, pp, pd, pq, dq, sa, ha, rq, mq, sq, bq, hq, i, d, cav, cor, stg, pl, dv, rv, S, Hh, xl, nums, xn, tn, tt, tv, tf, te, tp, now, was, one, sc, y, hP, hD, hT, hRP, hRW, hMB⟩ := hI
  have hi5 : i < 5 := hRW.1
  have hj5 : (i + 1) % 5 < 5 := Nat.mod_lt _ (by decide)
  have hij : i ≠ (i + 1) % 5 := by omega
  have hc : cav ≤ 6 := hRP.1.2.1
  have hs : stg ≤ 4 := hRP.2.2.1.2.1
  have hcor : cor ≤ 4 := hRP.2.1.1
  have hE : RE cor (pl.2 3) te := hRP.2.2.2.2.1
  have hv : ∀ c, c < cav → tv c = pl.2 0 c ∧ ∃ k : Nat, k ≤ 30 ∧ pl.2 0 c = nI k := fun c h => by
    obtain ⟨h1, -, ⟨v, -, h2, h3⟩, -⟩ := hRP.2.2.2.1 c h
    exact ⟨h1, v, h2, h3⟩
  obtain ⟨m0, hm⟩ := RW_now hRW
  obtain ⟨r0, x', y', h1, h2⟩ := eq_fault 5000 (Nat.le_refl 5000) hT nums (dv.2 0) (dv.2 1) (dv.2 2) (dv.2 3) (dv.2 4) (dv.2 5) (dv.2 6) y.2.1 y.2.2.2.1 y.2.2.2.2.2.1 y.2.2.2.2.2.2.1 y.2.2.2.2.2.2.2.1 y.2.2.2.2.2.2.2.2
  have ct := c5_fault l g xp (z 0) pp pd (z 1) sa (nI i) (nI d) (z 2) ha (z 3) (z 4) xl (z 5) nums xn (dv.1 0) (dq 0) (dv.2 0) (dq 1) (dv.2 1) (dq 2) (dv.2 2) (dv.1 1) (dq 3) (dv.2 3) (dv.1 2) (dq 4) (dv.2 4) (dq 5) (dv.2 5) (dq 6) (dv.2 6) H.size 5000 _ h1
  try dsimp only [outS, outSH] at ct
  simp only [clI hi5, clU hi5] at ct
  refine lv_aload_n hx0 hb dL_law_188 rfl (lv_at hl 1 rfl) ?_
  refine bft_i (bn := MW g xp mp z pp pd pq dq sa ha rq mq sq bq hq i d cav cor stg pl (mkP x'.2.1 x'.2.2.2.2.2.1 x'.2.2.2.2.2.2.2.1 x'.2.2.1 x'.2.2.2.1 x'.2.2.2.2.1 x'.2.2.2.2.2.2.1 x'.2.2.2.2.2.2.2.2.1 x'.2.2.2.2.2.2.2.2.2.1 x'.2.2.2.2.2.2.2.2.2.2) rv S Hh xl x'.1 xn tn tt (nI cav) (nI cor) (nI stg) (nI d) tv tf te tp now was one sc y) (va_runV (As := []) (rest := []) ⟨hx0, hb, hml, hown, hts⟩ ct (cwV 0 hts gL_law_X5_fault rfl rfl rfl ⟨rfl, nh5.1, nh5.2, pd_12⟩ ⟨Nat.le_of_ble_eq_true rfl, Nat.le_of_ble_eq_true rfl⟩) (qPV hK hG hP hD hS hA [0, 1, 3] rfl (mc rfl (mc rfl (mc rfl rfl))) (va_recv hK.1 hP (ci := 5) (q0 := 0) rfl rfl)) rfl rfl hl.1 rfl (lv_room (Nat.le_of_ble_eq_true rfl)) dL_law_189 ⟨hCC, hSS⟩) hP hD hS hA [0, 1, 3] (mc rfl (mc rfl (mc rfl rfl))) rfl rfl (mm_zs (mc rfl (mc rfl (mc rfl rfl))) (mm_keep (.inr rfl) (.inl (by simp)) (.inr rfl) (.inl (by simp)) (.inr rfl) (.inr rfl) (fun _ _ => .inr rfl) (fun _ _ => .inr rfl) (fun _ _ => .inr rfl))) (fun r H locs hw hP hD hS => ?_)
  replace hw := hw.symm
  subst hw
  refine lv_aload_n hx0 hb dL_law_192 rfl (lv_at hl 2 rfl) ?_
  have cm := c6_fault l g mp tn (mq 0) tt (nI cav) (mq 1) tv (mq 2) tf (nI cor) (mq 3) te (nI stg) (mq 4) tp (mq 5) now (mq 6) was (nI d) (mq 7) one y.1 (mq 8) y.2.1 y.2.2.1 (mq 9) y.2.2.2.1 y.2.2.2.2.1 (mq 10) y.2.2.2.2.2.1 (mq 11) y.2.2.2.2.2.2.1 y.2.2.2.2.2.2.2.1 y.2.2.2.2.2.2.2.2 sc H.size 5000 _ h2
  try dsimp only at cm
  refine bft_i (bn := MW g xp mp z pp pd pq dq sa ha rq mq sq bq hq i d cav cor stg pl (mkP x'.2.1 x'.2.2.2.2.2.1 x'.2.2.2.2.2.2.2.1 x'.2.2.1 x'.2.2.2.1 x'.2.2.2.2.1 x'.2.2.2.2.2.2.1 x'.2.2.2.2.2.2.2.2.1 x'.2.2.2.2.2.2.2.2.2.1 x'.2.2.2.2.2.2.2.2.2.2) rv S Hh xl x'.1 xn tn tt (nI cav) (nI cor) (nI stg) (nI d) tv tf te tp now was one sc y') (va_runV (As := []) (rest := [.int r0]) ⟨hx0, hb, hml, hown, hts⟩ cm (cwV 0 hts gL_law_X6_fault rfl rfl rfl ⟨rfl, nh6.1, nh6.2, pd_12⟩ ⟨Nat.le_of_ble_eq_true rfl, Nat.le_of_ble_eq_true rfl⟩) (qPV hK hG hP hD hS hA [5] rfl (mc rfl rfl) (va_recv hK.1 hP (ci := 6) (q0 := 27) rfl rfl)) rfl rfl hl.1 rfl (lv_room (Nat.le_of_ble_eq_true rfl)) dL_law_193 ⟨hCC, hSS⟩) hP hD hS hA [5] (mc rfl rfl) rfl rfl (mm_zs (mc rfl rfl) (mm_keep (.inr rfl) (.inr rfl) (.inr rfl) (.inr rfl) (.inr rfl) (.inl (by simp)) (fun _ _ => .inr rfl) (fun _ _ => .inr rfl) (fun _ _ => .inr rfl))) (fun r H locs hw hP hD hS => ?_)
  replace hw := hw.symm
  subst hw
  refine lv_icmp_eq (tgt := 800) hx0 hb dL_law_196 (by decide) (fun _ => ?_) (fun c9 => absurd rfl c9)
  exact kk H locs ⟨z, pp, pd, pq, dq, sa, ha, rq, mq, sq, bq, hq, i, d, cav, cor, stg, pl, (mkP x'.2.1 x'.2.2.2.2.2.1 x'.2.2.2.2.2.2.2.1 x'.2.2.1 x'.2.2.2.1 x'.2.2.2.2.1 x'.2.2.2.2.2.2.1 x'.2.2.2.2.2.2.2.2.1 x'.2.2.2.2.2.2.2.2.2.1 x'.2.2.2.2.2.2.2.2.2.2), rv, S, Hh, xl, x'.1, xn, tn, tt, tv, tf, te, tp, now, was, one, sc, y', hP, hD, hT, hRP, hRW, (MB_up hMB)⟩ hS
set_option maxHeartbeats 4000000 in
set_option maxRecDepth 100000 in
theorem lc_lay {p : Program} {e : Env} {s : State} {m : MethodId} {below : List Frame} {meth : Method} {c : Code} {l : Launch} {g : gG} {b L xp mp q K CC SS : Nat} {xs : Nat → Int32} {Q : State → Prop} (hL : L ≤ 2048) (hCC : CC + 0 ≤ room_1.cells) (hSS : SS + 0 ≤ room_1.slots) (C0 : lw_At p s m meth c b L xs) (hK : gK g s) (hG : gS g (fun q : Nat => s.heap.size ≤ q) s s.heap) (hq4 : q + 4 ≤ L) (hK6 : K < 600) {H : Heap} {locs : List Loc} {ls : Array Slot} (hI : INV g (fun q : Nat => s.heap.size ≤ q) xp mp K H) (hS : va_S (fun q : Nat => s.heap.size ≤ q) s.heap H locs) (hl : lv_has ls 4 [(0, .ref b), (1, .ref xp), (2, .ref mp), (3, .int (nI q))]) (kk : ∀ (H1 : Heap) (locs1 : List Loc), INV g (fun q : Nat => s.heap.size ≤ q) xp mp (K + 1) H1 → va_S (fun q : Nat => s.heap.size ≤ q) s.heap H1 locs1 → W p l e room_1 s m #[Value.ref b] below meth c H1 locs1 CC SS Q (F0 m 800 ls [])) : W p l e room_1 s m #[Value.ref b] below meth c H locs CC SS Q (F0 m 201 ls []) := by
  obtain ⟨hx0, hb, hr, hml, hown, hts0, hX, hbl, hlocks, hgv⟩ := C0
  have hts := hts0
  have hA : ∀ q : Nat, s.heap.size ≤ q → (fun q : Nat => s.heap.size ≤ q) q := fun _ h => h
  have hbA : ¬ (fun q : Nat => s.heap.size ≤ q) b := Nat.not_le.mpr hbl
  obtain ⟨z, pp, pd, pq, dq, sa, ha, rq, mq, sq, bq, hq, i, d, cav, cor, stg, pl, dv, rv, S, Hh, xl, nums, xn, tn, tt, tv, tf, te, tp, now, was, one, sc, y, hP, hD, hT, hRP, hRW, hMB⟩ := hI
  have hi5 : i < 5 := hRW.1
  have hj5 : (i + 1) % 5 < 5 := Nat.mod_lt _ (by decide)
  have hij : i ≠ (i + 1) % 5 := by omega
  have hc : cav ≤ 6 := hRP.1.2.1
  have hs : stg ≤ 4 := hRP.2.2.1.2.1
  have hcor : cor ≤ 4 := hRP.2.1.1
  have hE : RE cor (pl.2 3) te := hRP.2.2.2.2.1
  have hv : ∀ c, c < cav → tv c = pl.2 0 c ∧ ∃ k : Nat, k ≤ 30 ∧ pl.2 0 c = nI k := fun c h => by
    obtain ⟨h1, -, ⟨v, -, h2, h3⟩, -⟩ := hRP.2.2.2.1 c h
    exact ⟨h1, v, h2, h3⟩
  obtain ⟨m0, hm⟩ := RW_now hRW
  rcases eq_lay 5000 (Nat.le_refl 5000) hT pp pd (nI d) (nI cav) (nI cor) (nI stg) (nI d) y.2.2.2.2.2.2.2.1 y.2.2.2.2.2.2.2.2 (S i) nums (dv.2 0) (dv.2 1) (dv.2 2) (dv.2 3) (dv.2 4) (dv.2 5) (dv.2 6) tv tf te tp now y.2.1 y.2.2.2.1 y.2.2.2.2.2.1 y.2.2.2.2.2.2.1 with ⟨nums', vo', dr', fr', ah', pl', sp', se', C', c', s', y', h1, h2⟩ | ⟨C', c', s', nums', vo', dr', fr', ah', pl', sp', se', tv', tf', te', tp', now', v', y', h1, h2, hRP', ⟨e3, e4⟩, hfin⟩
  · have ct := c5_lay l g xp (z 0) pp pd (z 1) sa (nI i) (nI d) (z 2) ha (z 3) (z 4) xl (z 5) nums xn (dv.1 0) (dq 0) (dv.2 0) (dq 1) (dv.2 1) (dq 2) (dv.2 2) (dv.1 1) (dq 3) (dv.2 3) (dv.1 2) (dq 4) (dv.2 4) (dq 5) (dv.2 5) (dq 6) (dv.2 6) (sq i 0) ((S i).2 0) (sq i 1) ((S i).2 1) (sq i 2) ((S i).2 2) ((S i).1 0) ((S i).1 1) ((S i).1 2) ((S i).1 3) ((S i).1 4) ((S i).1 5) (sq i 3) ((S i).1 6) ((S i).1 7) ((S i).1 8) (bq i 0) ((S i).2 3) (bq i 1) ((S i).2 4) H.size 5000 _ h1
    dsimp only at ct
    simp only [clI hi5] at ct
    refine lv_aload_n hx0 hb dL_law_201 rfl (lv_at hl 1 rfl) ?_
    refine bft_i (bn := MW g xp mp z pp pd pq dq sa ha rq mq sq bq hq i d cav cor stg pl (mkP C' c' s' vo' dr' fr' ah' pl' sp' se') rv S Hh xl nums' xn tn tt (nI cav) (nI cor) (nI stg) (nI d) tv tf te tp now was one sc y) (va_runV (As := []) (rest := []) ⟨hx0, hb, hml, hown, hts⟩ ct (cwV 0 hts gL_law_X5_lay rfl rfl rfl ⟨rfl, nh5.1, nh5.2, pd_12⟩ ⟨Nat.le_of_ble_eq_true rfl, Nat.le_of_ble_eq_true rfl⟩) (qPV hK hG hP hD hS hA [0, 1, 3, 6 + i, 11 + i] (nd_lay i hi5) (mc rfl (mc rfl (mc rfl (mc (mm_S hi5) (mc (mm_B hi5) rfl))))) (va_recv hK.1 hP (ci := 5) (q0 := 0) rfl rfl)) rfl rfl hl.1 rfl (lv_room (Nat.le_of_ble_eq_true rfl)) dL_law_202 ⟨hCC, hSS⟩) hP hD hS hA [0, 1, 3, 6 + i, 11 + i] (mc rfl (mc rfl (mc rfl (mc (mm_S hi5) (mc (mm_B hi5) rfl))))) rfl rfl (mm_zs (mc rfl (mc rfl (mc rfl (mc (mm_S hi5) (mc (mm_B hi5) rfl))))) (mm_keep (.inr rfl) (.inl (by simp)) (.inr rfl) (.inl (by simp)) (.inr rfl) (.inr rfl) (fun _ _ => .inr rfl) (fun _ _ => .inr rfl) (fun _ _ => .inr rfl))) (fun r H locs hw hP hD hS => ?_)
    replace hw := hw.symm
    subst hw
    refine lv_aload_n hx0 hb dL_law_205 rfl (lv_at hl 2 rfl) ?_
    have cm := c6_lay l g mp tn (mq 0) tt (nI cav) (mq 1) tv (mq 2) tf (nI cor) (mq 3) te (nI stg) (mq 4) tp (mq 5) now (mq 6) was (nI d) (mq 7) one y.1 (mq 8) y.2.1 y.2.2.1 (mq 9) y.2.2.2.1 y.2.2.2.2.1 (mq 10) y.2.2.2.2.2.1 (mq 11) y.2.2.2.2.2.2.1 y.2.2.2.2.2.2.2.1 y.2.2.2.2.2.2.2.2 sc H.size 5000 _ h2
    dsimp only at cm
    refine bft_i (bn := MW g xp mp z pp pd pq dq sa ha rq mq sq bq hq i d cav cor stg pl (mkP C' c' s' vo' dr' fr' ah' pl' sp' se') rv S Hh xl nums' xn tn tt (nI cav) (nI cor) (nI stg) (nI d) tv tf te tp now was one sc y') (va_runV (As := []) (rest := [.int (-2)]) ⟨hx0, hb, hml, hown, hts⟩ cm (cwV 0 hts gL_law_X6_lay rfl rfl rfl ⟨rfl, nh6.1, nh6.2, pd_12⟩ ⟨Nat.le_of_ble_eq_true rfl, Nat.le_of_ble_eq_true rfl⟩) (qPV hK hG hP hD hS hA [5] rfl (mc rfl rfl) (va_recv hK.1 hP (ci := 6) (q0 := 27) rfl rfl)) rfl rfl hl.1 rfl (lv_room (Nat.le_of_ble_eq_true rfl)) dL_law_206 ⟨hCC, hSS⟩) hP hD hS hA [5] (mc rfl rfl) rfl rfl (mm_zs (mc rfl rfl) (mm_keep (.inr rfl) (.inr rfl) (.inr rfl) (.inr rfl) (.inr rfl) (.inl (by simp)) (fun _ _ => .inr rfl) (fun _ _ => .inr rfl) (fun _ _ => .inr rfl))) (fun r H locs hw hP hD hS => ?_)
    replace hw := hw.symm
    subst hw
    refine lv_icmp_eq (tgt := 800) hx0 hb dL_law_209 (by decide) (fun _ => ?_) (fun c9 => absurd rfl c9)
    exact kk H locs ⟨z, pp, pd, pq, dq, sa, ha, rq, mq, sq, bq, hq, i, d, cav, cor, stg, pl, (mkP C' c' s' vo' dr' fr' ah' pl' sp' se'), rv, S, Hh, xl, nums', xn, tn, tt, tv, tf, te, tp, now, was, one, sc, y', hP, hD, hT, hRP, hRW, (MB_up hMB)⟩ hS
  · have ct := c5_lay l g xp (z 0) pp pd (z 1) sa (nI i) (nI d) (z 2) ha (z 3) (z 4) xl (z 5) nums xn (dv.1 0) (dq 0) (dv.2 0) (dq 1) (dv.2 1) (dq 2) (dv.2 2) (dv.1 1) (dq 3) (dv.2 3) (dv.1 2) (dq 4) (dv.2 4) (dq 5) (dv.2 5) (dq 6) (dv.2 6) (sq i 0) ((S i).2 0) (sq i 1) ((S i).2 1) (sq i 2) ((S i).2 2) ((S i).1 0) ((S i).1 1) ((S i).1 2) ((S i).1 3) ((S i).1 4) ((S i).1 5) (sq i 3) ((S i).1 6) ((S i).1 7) ((S i).1 8) (bq i 0) ((S i).2 3) (bq i 1) ((S i).2 4) H.size 5000 _ h1
    dsimp only at ct
    simp only [clI hi5] at ct
    refine lv_aload_n hx0 hb dL_law_201 rfl (lv_at hl 1 rfl) ?_
    refine bft_i (bn := MM (wk5 g xp (z 0) pd pp (z 1) (fun k => some (sa k)) (nI i) 0 (sa i) (z 2) (fun k => some (ha k)) (z 3)) (wk4 g (z 0) (z 4) xl (z 5) nums' xn) (wk1 g pp (nI cav) (pq 0) (pl.2 0) (pq 1) (pl.2 1) (pq 2) (pl.2 2) (nI cor) (pq 3) (pl.2 3) (nI stg) (pq 4) (pl.2 4) (pq 5) (pl.2 5) (pq 6) (pl.2 6)) (wk1 g pd (nI C') (dq 0) vo' (dq 1) dr' (dq 2) fr' (nI c') (dq 3) ah' (nI s') (dq 4) pl' (dq 5) sp' (dq 6) se') (wkH g (z 3) rq rv) (wk6 g mp tn (mq 0) tt (nI cav) (mq 1) tv (mq 2) tf (nI cor) (mq 3) te (nI stg) (mq 4) tp (mq 5) now (mq 6) was (nI d) (mq 7) one y.1 (mq 8) y.2.1 y.2.2.1 (mq 9) y.2.2.2.1 y.2.2.2.2.1 (mq 10) y.2.2.2.2.2.1 (mq 11) y.2.2.2.2.2.2.1 y.2.2.2.2.2.2.2.1 y.2.2.2.2.2.2.2.2 sc) (fun j => wkS g (sa j) (sq j) (va_up S i v' j)) (fun j => wkB g (sq j 3) (bq j) (va_up S i v' j)) (fun j => wkH g (ha j) (hq j) (Hh j))) (va_runV (As := []) (rest := []) ⟨hx0, hb, hml, hown, hts⟩ ct (cwV 0 hts gL_law_X5_lay rfl rfl rfl ⟨rfl, nh5.1, nh5.2, pd_12⟩ ⟨Nat.le_of_ble_eq_true rfl, Nat.le_of_ble_eq_true rfl⟩) (qPV hK hG hP hD hS hA [0, 1, 3, 6 + i, 11 + i] (nd_lay i hi5) (mc rfl (mc rfl (mc rfl (mc (mm_S hi5) (mc (mm_B hi5) rfl))))) (va_recv hK.1 hP (ci := 5) (q0 := 0) rfl rfl)) rfl rfl hl.1 rfl (lv_room (Nat.le_of_ble_eq_true rfl)) dL_law_202 ⟨hCC, hSS⟩) hP hD hS hA [0, 1, 3, 6 + i, 11 + i] (mc rfl (mc rfl (mc rfl (mc (mm_S hi5) (mc (mm_B hi5) rfl))))) rfl rfl (mm_zs (mc rfl (mc rfl (mc rfl (mc (mmS_u hi5) (mc (mmB_l hi5 e3 e4) rfl))))) (mm_keep (.inl (by simp)) (.inl (by simp)) (.inr rfl) (.inl (by simp)) (.inr rfl) (.inr rfl) (keepS (by simp)) (keepB (by simp)) (fun _ _ => .inr rfl))) (fun r H locs hw hP hD hS => ?_)
    replace hw := hw.symm
    subst hw
    refine lv_aload_n hx0 hb dL_law_205 rfl (lv_at hl 2 rfl) ?_
    have cm := c6_lay l g mp tn (mq 0) tt (nI cav) (mq 1) tv (mq 2) tf (nI cor) (mq 3) te (nI stg) (mq 4) tp (mq 5) now (mq 6) was (nI d) (mq 7) one y.1 (mq 8) y.2.1 y.2.2.1 (mq 9) y.2.2.2.1 y.2.2.2.2.1 (mq 10) y.2.2.2.2.2.1 (mq 11) y.2.2.2.2.2.2.1 y.2.2.2.2.2.2.2.1 y.2.2.2.2.2.2.2.2 sc H.size 5000 _ h2
    dsimp only at cm
    refine bft_i (bn := MM (wk5 g xp (z 0) pd pp (z 1) (fun k => some (sa k)) (nI i) 0 (sa i) (z 2) (fun k => some (ha k)) (z 3)) (wk4 g (z 0) (z 4) xl (z 5) nums' xn) (wk1 g pp (nI cav) (pq 0) (pl.2 0) (pq 1) (pl.2 1) (pq 2) (pl.2 2) (nI cor) (pq 3) (pl.2 3) (nI stg) (pq 4) (pl.2 4) (pq 5) (pl.2 5) (pq 6) (pl.2 6)) (wk1 g pd (nI C') (dq 0) vo' (dq 1) dr' (dq 2) fr' (nI c') (dq 3) ah' (nI s') (dq 4) pl' (dq 5) sp' (dq 6) se') (wkH g (z 3) rq rv) (wk6 g mp tn (mq 0) tt (nI C') (mq 1) tv' (mq 2) tf' (nI c') (mq 3) te' (nI s') (mq 4) tp' (mq 5) now' (mq 6) was 0 (mq 7) one y'.1 (mq 8) y'.2.1 y'.2.2.1 (mq 9) y'.2.2.2.1 y'.2.2.2.2.1 (mq 10) y'.2.2.2.2.2.1 (mq 11) y'.2.2.2.2.2.2.1 y'.2.2.2.2.2.2.2.1 y'.2.2.2.2.2.2.2.2 sc) (fun j => wkS g (sa j) (sq j) (va_up S i v' j)) (fun j => wkB g (sq j 3) (bq j) (va_up S i v' j)) (fun j => wkH g (ha j) (hq j) (Hh j))) (va_runV (As := []) (rest := [.int (nI C')]) ⟨hx0, hb, hml, hown, hts⟩ cm (cwV 0 hts gL_law_X6_lay rfl rfl rfl ⟨rfl, nh6.1, nh6.2, pd_12⟩ ⟨Nat.le_of_ble_eq_true rfl, Nat.le_of_ble_eq_true rfl⟩) (qPV hK hG hP hD hS hA [5] rfl (mc rfl rfl) (va_recv hK.1 hP (ci := 6) (q0 := 27) rfl rfl)) rfl rfl hl.1 rfl (lv_room (Nat.le_of_ble_eq_true rfl)) dL_law_206 ⟨hCC, hSS⟩) hP hD hS hA [5] (mc rfl rfl) rfl rfl (mm_zs (mc rfl rfl) (mm_keep (.inr rfl) (.inr rfl) (.inr rfl) (.inr rfl) (.inr rfl) (.inl (by simp)) (fun _ _ => .inr rfl) (fun _ _ => .inr rfl) (fun _ _ => .inr rfl))) (fun r H locs hw hP hD hS => ?_)
    replace hw := hw.symm
    subst hw
    refine lv_icmp_eq (tgt := 800) hx0 hb dL_law_209 (by decide) (fun _ => ?_) (fun c9 => absurd rfl c9)
    obtain ⟨hRW', hMB'⟩ := hfin (va_up S i v') Hh i was hi5 vu_s
    replace hP : va_P g.1 vwCl (fl (MW g xp mp z pd pp dq pq sa ha rq mq sq bq hq i 0 C' c' s' (mkP (nI C') (nI c') (nI s') vo' dr' fr' ah' pl' sp' se') (mkP (nI cav) (nI cor) (nI stg) (pl.2 0) (pl.2 1) (pl.2 2) (pl.2 3) (pl.2 4) (pl.2 5) (pl.2 6)) rv (va_up S i v') Hh xl nums' xn tn tt (nI C') (nI c') (nI s') (nI 0) tv' tf' te' tp' now' was one sc y')) H := P_swap hP
    replace hD : va_D (fun q : Nat => s.heap.size ≤ q) (fl (MW g xp mp z pd pp dq pq sa ha rq mq sq bq hq i 0 C' c' s' (mkP (nI C') (nI c') (nI s') vo' dr' fr' ah' pl' sp' se') (mkP (nI cav) (nI cor) (nI stg) (pl.2 0) (pl.2 1) (pl.2 2) (pl.2 3) (pl.2 4) (pl.2 5) (pl.2 6)) rv (va_up S i v') Hh xl nums' xn tn tt (nI C') (nI c') (nI s') (nI 0) tv' tf' te' tp' now' was one sc y')) := D_swap hD
    exact kk H locs ⟨z, pd, pp, dq, pq, sa, ha, rq, mq, sq, bq, hq, i, 0, C', c', s', (mkP (nI C') (nI c') (nI s') vo' dr' fr' ah' pl' sp' se'), (mkP (nI cav) (nI cor) (nI stg) (pl.2 0) (pl.2 1) (pl.2 2) (pl.2 3) (pl.2 4) (pl.2 5) (pl.2 6)), rv, (va_up S i v'), Hh, xl, nums', xn, tn, tt, tv', tf', te', tp', now', was, one, sc, y', hP, hD, hT, hRP', hRW', (MB_le hMB' (Nat.zero_le _))⟩ hS
set_option maxHeartbeats 4000000 in
set_option maxRecDepth 100000 in
theorem lc_mould {p : Program} {e : Env} {s : State} {m : MethodId} {below : List Frame} {meth : Method} {c : Code} {l : Launch} {g : gG} {b L xp mp q K CC SS : Nat} {xs : Nat → Int32} {Q : State → Prop} (hL : L ≤ 2048) (hCC : CC + 0 ≤ room_1.cells) (hSS : SS + 0 ≤ room_1.slots) (C0 : lw_At p s m meth c b L xs) (hK : gK g s) (hG : gS g (fun q : Nat => s.heap.size ≤ q) s s.heap) (hq4 : q + 4 ≤ L) (hK6 : K < 600) {H : Heap} {locs : List Loc} {ls : Array Slot} (hI : INV g (fun q : Nat => s.heap.size ≤ q) xp mp K H) (hS : va_S (fun q : Nat => s.heap.size ≤ q) s.heap H locs) (hl : lv_has ls 4 [(0, .ref b), (1, .ref xp), (2, .ref mp), (3, .int (nI q))]) (kk : ∀ (H1 : Heap) (locs1 : List Loc), INV g (fun q : Nat => s.heap.size ≤ q) xp mp (K + 1) H1 → va_S (fun q : Nat => s.heap.size ≤ q) s.heap H1 locs1 → W p l e room_1 s m #[Value.ref b] below meth c H1 locs1 CC SS Q (F0 m 800 ls [])) : W p l e room_1 s m #[Value.ref b] below meth c H locs CC SS Q (F0 m 214 ls []) := by
  obtain ⟨hx0, hb, hr, hml, hown, hts0, hX, hbl, hlocks, hgv⟩ := C0
  have hts := hts0
  have hA : ∀ q : Nat, s.heap.size ≤ q → (fun q : Nat => s.heap.size ≤ q) q := fun _ h => h
  have hbA : ¬ (fun q : Nat => s.heap.size ≤ q) b := Nat.not_le.mpr hbl
  obtain ⟨z, pp, pd, pq, dq, sa, ha, rq, mq, sq, bq, hq, i, d, cav, cor, stg, pl, dv, rv, S, Hh, xl, nums, xn, tn, tt, tv, tf, te, tp, now, was, one, sc, y, hP, hD, hT, hRP, hRW, hMB⟩ := hI
  have hi5 : i < 5 := hRW.1
  have hj5 : (i + 1) % 5 < 5 := Nat.mod_lt _ (by decide)
  have hij : i ≠ (i + 1) % 5 := by omega
  have hc : cav ≤ 6 := hRP.1.2.1
  have hs : stg ≤ 4 := hRP.2.2.1.2.1
  have hcor : cor ≤ 4 := hRP.2.1.1
  have hE : RE cor (pl.2 3) te := hRP.2.2.2.2.1
  have hv : ∀ c, c < cav → tv c = pl.2 0 c ∧ ∃ k : Nat, k ≤ 30 ∧ pl.2 0 c = nI k := fun c h => by
    obtain ⟨h1, -, ⟨v, -, h2, h3⟩, -⟩ := hRP.2.2.2.1 c h
    exact ⟨h1, v, h2, h3⟩
  obtain ⟨m0, hm⟩ := RW_now hRW
  have hin1 : vp_in (nI q + 1) L := by rw [show nI q + (1 : Int32) = nI (q + 1) from addn q 1]; exact vp_in_nI (by omega) (by omega)
  obtain ⟨r0, i', d', w', now', was', h1, h2, hRW', hMBf⟩ := eq_mould 5000 (Nat.le_refl 5000) (xs (Int32.toNatClampNeg (nI q + 1))) hc hs hRW rfl rfl
  have ct := c5_mould l g xp (z 0) pp pd (z 1) sa (nI i) (nI d) (z 2) ha (z 3) (sq i 0) ((S i).2 0) (sq i 1) ((S i).2 1) (sq i 2) ((S i).2 2) ((S i).1 0) ((S i).1 1) ((S i).1 2) ((S i).1 3) ((S i).1 4) ((S i).1 5) (sq i 3) ((S i).1 6) ((S i).1 7) ((S i).1 8) (bq i 0) ((S i).2 3) (bq i 1) ((S i).2 4) (sq ((i + 1) % 5) 0) ((S ((i + 1) % 5)).2 0) (sq ((i + 1) % 5) 1) ((S ((i + 1) % 5)).2 1) (sq ((i + 1) % 5) 2) ((S ((i + 1) % 5)).2 2) ((S ((i + 1) % 5)).1 0) ((S ((i + 1) % 5)).1 1) ((S ((i + 1) % 5)).1 2) ((S ((i + 1) % 5)).1 3) ((S ((i + 1) % 5)).1 4) ((S ((i + 1) % 5)).1 5) (sq ((i + 1) % 5) 3) ((S ((i + 1) % 5)).1 6) ((S ((i + 1) % 5)).1 7) ((S ((i + 1) % 5)).1 8) (bq ((i + 1) % 5) 0) ((S ((i + 1) % 5)).2 3) (bq ((i + 1) % 5) 1) ((S ((i + 1) % 5)).2 4) (xs (Int32.toNatClampNeg (nI q + 1))) H.size 5000 _ h1
  try dsimp only [outS, outSH] at ct
  simp only [clI hi5, clU hi5] at ct
  simp only [clI hRW'.1] at ct
  refine lv_aload_n hx0 hb dL_law_214 rfl (lv_at hl 1 rfl) ?_
  refine lv_aload_n hx0 hb dL_law_215 rfl (lv_at hl 0 rfl) ?_
  refine lv_iload_n hx0 hb dL_law_216 rfl (lv_at hl 3 rfl) ?_
  refine lv_iconst (v := 1) hx0 hb dL_law_217 (by decide) ?_
  refine lv_iadd hx0 hb dL_law_218 ?_
  refine va_sld hx0 hb hX hbl hbA hS hin1 dL_law_219 ?_
  refine bft_i (bn := MW g xp mp z pp pd pq dq sa ha rq mq sq bq hq i' d' cav cor stg pl dv rv (va_up S ((i + 1) % 5) w') Hh xl nums xn tn tt (nI cav) (nI cor) (nI stg) (nI d) tv tf te tp now was one sc y) (va_runV (As := [.int (xs (Int32.toNatClampNeg (nI q + 1)))]) (rest := []) ⟨hx0, hb, hml, hown, hts⟩ ct (cwV 1 hts gL_law_X5_mould rfl rfl rfl ⟨rfl, nh5.1, nh5.2, pd_2⟩ ⟨Nat.le_of_ble_eq_true rfl, Nat.le_of_ble_eq_true rfl⟩) (qPV hK hG hP hD hS hA [0, 6 + i, 11 + i, 6 + (i + 1) % 5, 11 + (i + 1) % 5] (nd_su i hi5) (mc rfl (mc (mm_S hi5) (mc (mm_B hi5) (mc (mm_S hj5) (mc (mm_B hj5) rfl))))) (va_recv hK.1 hP (ci := 5) (q0 := 0) rfl rfl)) rfl rfl hl.1 rfl (lv_room (Nat.le_of_ble_eq_true rfl)) dL_law_220 ⟨hCC, hSS⟩) hP hD hS hA [0, 6 + i, 11 + i, 6 + (i + 1) % 5, 11 + (i + 1) % 5] (mc rfl (mc (mm_S hi5) (mc (mm_B hi5) (mc (mm_S hj5) (mc (mm_B hj5) rfl))))) rfl rfl (mm_zs (mc rfl (mc (mmS_n hi5 hij) (mc (mmB_n hi5 hij) (mc (mmS_u hj5) (mc (mmB_u hj5) rfl))))) (mm_keep (.inl (by simp)) (.inr rfl) (.inr rfl) (.inr rfl) (.inr rfl) (.inr rfl) (keepS (by simp)) (keepB (by simp)) (fun _ _ => .inr rfl))) (fun r H locs hw hP hD hS => ?_)
  replace hw := hw.symm
  subst hw
  refine lv_aload_n hx0 hb dL_law_223 rfl (lv_at hl 2 rfl) ?_
  refine lv_aload_n hx0 hb dL_law_224 rfl (lv_at hl 0 rfl) ?_
  refine lv_iload_n hx0 hb dL_law_225 rfl (lv_at hl 3 rfl) ?_
  refine lv_iconst (v := 1) hx0 hb dL_law_226 (by decide) ?_
  refine lv_iadd hx0 hb dL_law_227 ?_
  refine va_sld hx0 hb hX hbl hbA hS hin1 dL_law_228 ?_
  have cm := c6_mould l g mp tn (mq 0) tt (nI cav) (mq 1) tv (mq 2) tf (nI cor) (mq 3) te (nI stg) (mq 4) tp (mq 5) now (mq 6) was (nI d) (mq 7) one y.1 (mq 8) y.2.1 y.2.2.1 (mq 9) y.2.2.2.1 y.2.2.2.2.1 (mq 10) y.2.2.2.2.2.1 (mq 11) y.2.2.2.2.2.2.1 y.2.2.2.2.2.2.2.1 y.2.2.2.2.2.2.2.2 sc (xs (Int32.toNatClampNeg (nI q + 1))) H.size 5000 _ h2
  try dsimp only at cm
  refine bft_i (bn := MW g xp mp z pp pd pq dq sa ha rq mq sq bq hq i' d' cav cor stg pl dv rv (va_up S ((i + 1) % 5) w') Hh xl nums xn tn tt (nI cav) (nI cor) (nI stg) (nI d') tv tf te tp now' was' one sc y) (va_runV (As := [.int (xs (Int32.toNatClampNeg (nI q + 1)))]) (rest := [.int r0]) ⟨hx0, hb, hml, hown, hts⟩ cm (cwV 1 hts gL_law_X6_mould rfl rfl rfl ⟨rfl, nh6.1, nh6.2, pd_2⟩ ⟨Nat.le_of_ble_eq_true rfl, Nat.le_of_ble_eq_true rfl⟩) (qPV hK hG hP hD hS hA [5] rfl (mc rfl rfl) (va_recv hK.1 hP (ci := 6) (q0 := 27) rfl rfl)) rfl rfl hl.1 rfl (lv_room (Nat.le_of_ble_eq_true rfl)) dL_law_229 ⟨hCC, hSS⟩) hP hD hS hA [5] (mc rfl rfl) rfl rfl (mm_zs (mc rfl rfl) (mm_keep (.inr rfl) (.inr rfl) (.inr rfl) (.inr rfl) (.inr rfl) (.inl (by simp)) (fun _ _ => .inr rfl) (fun _ _ => .inr rfl) (fun _ _ => .inr rfl))) (fun r H locs hw hP hD hS => ?_)
  replace hw := hw.symm
  subst hw
  refine lv_icmp_eq (tgt := 800) hx0 hb dL_law_232 (by decide) (fun _ => ?_) (fun c9 => absurd rfl c9)
  exact kk H locs ⟨z, pp, pd, pq, dq, sa, ha, rq, mq, sq, bq, hq, i', d', cav, cor, stg, pl, dv, rv, (va_up S ((i + 1) % 5) w'), Hh, xl, nums, xn, tn, tt, tv, tf, te, tp, now', was', one, sc, y, hP, hD, hT, hRP, hRW', (hMBf K (by omega) hMB)⟩ hS
set_option maxHeartbeats 4000000 in
set_option maxRecDepth 100000 in
theorem lc_core {p : Program} {e : Env} {s : State} {m : MethodId} {below : List Frame} {meth : Method} {c : Code} {l : Launch} {g : gG} {b L xp mp q K CC SS : Nat} {xs : Nat → Int32} {Q : State → Prop} (hL : L ≤ 2048) (hCC : CC + 0 ≤ room_1.cells) (hSS : SS + 0 ≤ room_1.slots) (C0 : lw_At p s m meth c b L xs) (hK : gK g s) (hG : gS g (fun q : Nat => s.heap.size ≤ q) s s.heap) (hq4 : q + 4 ≤ L) (hK6 : K < 600) {H : Heap} {locs : List Loc} {ls : Array Slot} (hI : INV g (fun q : Nat => s.heap.size ≤ q) xp mp K H) (hS : va_S (fun q : Nat => s.heap.size ≤ q) s.heap H locs) (hl : lv_has ls 4 [(0, .ref b), (1, .ref xp), (2, .ref mp), (3, .int (nI q))]) (kk : ∀ (H1 : Heap) (locs1 : List Loc), INV g (fun q : Nat => s.heap.size ≤ q) xp mp (K + 1) H1 → va_S (fun q : Nat => s.heap.size ≤ q) s.heap H1 locs1 → W p l e room_1 s m #[Value.ref b] below meth c H1 locs1 CC SS Q (F0 m 800 ls [])) : W p l e room_1 s m #[Value.ref b] below meth c H locs CC SS Q (F0 m 237 ls []) := by
  obtain ⟨hx0, hb, hr, hml, hown, hts0, hX, hbl, hlocks, hgv⟩ := C0
  have hts := hts0
  have hA : ∀ q : Nat, s.heap.size ≤ q → (fun q : Nat => s.heap.size ≤ q) q := fun _ h => h
  have hbA : ¬ (fun q : Nat => s.heap.size ≤ q) b := Nat.not_le.mpr hbl
  obtain ⟨z, pp, pd, pq, dq, sa, ha, rq, mq, sq, bq, hq, i, d, cav, cor, stg, pl, dv, rv, S, Hh, xl, nums, xn, tn, tt, tv, tf, te, tp, now, was, one, sc, y, hP, hD, hT, hRP, hRW, hMB⟩ := hI
  have hi5 : i < 5 := hRW.1
  have hj5 : (i + 1) % 5 < 5 := Nat.mod_lt _ (by decide)
  have hij : i ≠ (i + 1) % 5 := by omega
  have hc : cav ≤ 6 := hRP.1.2.1
  have hs : stg ≤ 4 := hRP.2.2.1.2.1
  have hcor : cor ≤ 4 := hRP.2.1.1
  have hE : RE cor (pl.2 3) te := hRP.2.2.2.2.1
  have hv : ∀ c, c < cav → tv c = pl.2 0 c ∧ ∃ k : Nat, k ≤ 30 ∧ pl.2 0 c = nI k := fun c h => by
    obtain ⟨h1, -, ⟨v, -, h2, h3⟩, -⟩ := hRP.2.2.2.1 c h
    exact ⟨h1, v, h2, h3⟩
  obtain ⟨m0, hm⟩ := RW_now hRW
  have hin1 : vp_in (nI q + 1) L := by rw [show nI q + (1 : Int32) = nI (q + 1) from addn q 1]; exact vp_in_nI (by omega) (by omega)
  have hin2 : vp_in (nI q + 2) L := by rw [show nI q + (2 : Int32) = nI (q + 2) from addn q 2]; exact vp_in_nI (by omega) (by omega)
  obtain ⟨r0, i', d', w', now', was', h1, h2, hRW', hMBf⟩ := eq_core 5000 (Nat.le_refl 5000) (xs (Int32.toNatClampNeg (nI q + 1))) (xs (Int32.toNatClampNeg (nI q + 2))) hcor hE hc hs hRW rfl rfl
  have ct := c5_core l g xp (z 0) pp pd (z 1) sa (nI i) (nI d) (z 2) ha (z 3) (nI cav) (pq 0) (pl.2 0) (pq 1) (pl.2 1) (pq 2) (pl.2 2) (nI cor) (pq 3) (pl.2 3) (nI stg) (pq 4) (pl.2 4) (pq 5) (pl.2 5) (pq 6) (pl.2 6) (sq i 0) ((S i).2 0) (sq i 1) ((S i).2 1) (sq i 2) ((S i).2 2) ((S i).1 0) ((S i).1 1) ((S i).1 2) ((S i).1 3) ((S i).1 4) ((S i).1 5) (sq i 3) ((S i).1 6) ((S i).1 7) ((S i).1 8) (bq i 0) ((S i).2 3) (bq i 1) ((S i).2 4) (sq ((i + 1) % 5) 0) ((S ((i + 1) % 5)).2 0) (sq ((i + 1) % 5) 1) ((S ((i + 1) % 5)).2 1) (sq ((i + 1) % 5) 2) ((S ((i + 1) % 5)).2 2) ((S ((i + 1) % 5)).1 0) ((S ((i + 1) % 5)).1 1) ((S ((i + 1) % 5)).1 2) ((S ((i + 1) % 5)).1 3) ((S ((i + 1) % 5)).1 4) ((S ((i + 1) % 5)).1 5) (sq ((i + 1) % 5) 3) ((S ((i + 1) % 5)).1 6) ((S ((i + 1) % 5)).1 7) ((S ((i + 1) % 5)).1 8) (bq ((i + 1) % 5) 0) ((S ((i + 1) % 5)).2 3) (bq ((i + 1) % 5) 1) ((S ((i + 1) % 5)).2 4) (xs (Int32.toNatClampNeg (nI q + 1))) (xs (Int32.toNatClampNeg (nI q + 2))) H.size 5000 _ h1
  try dsimp only [outS, outSH] at ct
  simp only [clI hi5, clU hi5] at ct
  simp only [clI hRW'.1] at ct
  refine lv_aload_n hx0 hb dL_law_237 rfl (lv_at hl 1 rfl) ?_
  refine lv_aload_n hx0 hb dL_law_238 rfl (lv_at hl 0 rfl) ?_
  refine lv_iload_n hx0 hb dL_law_239 rfl (lv_at hl 3 rfl) ?_
  refine lv_iconst (v := 1) hx0 hb dL_law_240 (by decide) ?_
  refine lv_iadd hx0 hb dL_law_241 ?_
  refine va_sld hx0 hb hX hbl hbA hS hin1 dL_law_242 ?_
  refine lv_aload_n hx0 hb dL_law_243 rfl (lv_at hl 0 rfl) ?_
  refine lv_iload_n hx0 hb dL_law_244 rfl (lv_at hl 3 rfl) ?_
  refine lv_iconst (v := 2) hx0 hb dL_law_245 (by decide) ?_
  refine lv_iadd hx0 hb dL_law_246 ?_
  refine va_sld hx0 hb hX hbl hbA hS hin2 dL_law_247 ?_
  refine bft_i (bn := MW g xp mp z pp pd pq dq sa ha rq mq sq bq hq i' d' cav cor stg pl dv rv (va_up S ((i + 1) % 5) w') Hh xl nums xn tn tt (nI cav) (nI cor) (nI stg) (nI d) tv tf te tp now was one sc y) (va_runV (As := [.int (xs (Int32.toNatClampNeg (nI q + 1))), .int (xs (Int32.toNatClampNeg (nI q + 2)))]) (rest := []) ⟨hx0, hb, hml, hown, hts⟩ ct (cwV 2 hts gL_law_X5_core rfl rfl rfl ⟨rfl, nh5.1, nh5.2, pd_14⟩ ⟨Nat.le_of_ble_eq_true rfl, Nat.le_of_ble_eq_true rfl⟩) (qPV hK hG hP hD hS hA [0, 2, 6 + i, 11 + i, 6 + (i + 1) % 5, 11 + (i + 1) % 5] (nd_psu i hi5) (mc rfl (mc rfl (mc (mm_S hi5) (mc (mm_B hi5) (mc (mm_S hj5) (mc (mm_B hj5) rfl)))))) (va_recv hK.1 hP (ci := 5) (q0 := 0) rfl rfl)) rfl rfl hl.1 rfl (lv_room (Nat.le_of_ble_eq_true rfl)) dL_law_248 ⟨hCC, hSS⟩) hP hD hS hA [0, 2, 6 + i, 11 + i, 6 + (i + 1) % 5, 11 + (i + 1) % 5] (mc rfl (mc rfl (mc (mm_S hi5) (mc (mm_B hi5) (mc (mm_S hj5) (mc (mm_B hj5) rfl)))))) rfl rfl (mm_zs (mc rfl (mc rfl (mc (mmS_n hi5 hij) (mc (mmB_n hi5 hij) (mc (mmS_u hj5) (mc (mmB_u hj5) rfl)))))) (mm_keep (.inl (by simp)) (.inr rfl) (.inr rfl) (.inr rfl) (.inr rfl) (.inr rfl) (keepS (by simp)) (keepB (by simp)) (fun _ _ => .inr rfl))) (fun r H locs hw hP hD hS => ?_)
  replace hw := hw.symm
  subst hw
  refine lv_aload_n hx0 hb dL_law_251 rfl (lv_at hl 2 rfl) ?_
  refine lv_aload_n hx0 hb dL_law_252 rfl (lv_at hl 0 rfl) ?_
  refine lv_iload_n hx0 hb dL_law_253 rfl (lv_at hl 3 rfl) ?_
  refine lv_iconst (v := 1) hx0 hb dL_law_254 (by decide) ?_
  refine lv_iadd hx0 hb dL_law_255 ?_
  refine va_sld hx0 hb hX hbl hbA hS hin1 dL_law_256 ?_
  refine lv_aload_n hx0 hb dL_law_257 rfl (lv_at hl 0 rfl) ?_
  refine lv_iload_n hx0 hb dL_law_258 rfl (lv_at hl 3 rfl) ?_
  refine lv_iconst (v := 2) hx0 hb dL_law_259 (by decide) ?_
  refine lv_iadd hx0 hb dL_law_260 ?_
  refine va_sld hx0 hb hX hbl hbA hS hin2 dL_law_261 ?_
  have cm := c6_core l g mp tn (mq 0) tt (nI cav) (mq 1) tv (mq 2) tf (nI cor) (mq 3) te (nI stg) (mq 4) tp (mq 5) now (mq 6) was (nI d) (mq 7) one y.1 (mq 8) y.2.1 y.2.2.1 (mq 9) y.2.2.2.1 y.2.2.2.2.1 (mq 10) y.2.2.2.2.2.1 (mq 11) y.2.2.2.2.2.2.1 y.2.2.2.2.2.2.2.1 y.2.2.2.2.2.2.2.2 sc (xs (Int32.toNatClampNeg (nI q + 1))) (xs (Int32.toNatClampNeg (nI q + 2))) H.size 5000 _ h2
  try dsimp only at cm
  refine bft_i (bn := MW g xp mp z pp pd pq dq sa ha rq mq sq bq hq i' d' cav cor stg pl dv rv (va_up S ((i + 1) % 5) w') Hh xl nums xn tn tt (nI cav) (nI cor) (nI stg) (nI d') tv tf te tp now' was' one sc y) (va_runV (As := [.int (xs (Int32.toNatClampNeg (nI q + 1))), .int (xs (Int32.toNatClampNeg (nI q + 2)))]) (rest := [.int r0]) ⟨hx0, hb, hml, hown, hts⟩ cm (cwV 2 hts gL_law_X6_core rfl rfl rfl ⟨rfl, nh6.1, nh6.2, pd_14⟩ ⟨Nat.le_of_ble_eq_true rfl, Nat.le_of_ble_eq_true rfl⟩) (qPV hK hG hP hD hS hA [5] rfl (mc rfl rfl) (va_recv hK.1 hP (ci := 6) (q0 := 27) rfl rfl)) rfl rfl hl.1 rfl (lv_room (Nat.le_of_ble_eq_true rfl)) dL_law_262 ⟨hCC, hSS⟩) hP hD hS hA [5] (mc rfl rfl) rfl rfl (mm_zs (mc rfl rfl) (mm_keep (.inr rfl) (.inr rfl) (.inr rfl) (.inr rfl) (.inr rfl) (.inl (by simp)) (fun _ _ => .inr rfl) (fun _ _ => .inr rfl) (fun _ _ => .inr rfl))) (fun r H locs hw hP hD hS => ?_)
  replace hw := hw.symm
  subst hw
  refine lv_icmp_eq (tgt := 800) hx0 hb dL_law_265 (by decide) (fun _ => ?_) (fun c9 => absurd rfl c9)
  exact kk H locs ⟨z, pp, pd, pq, dq, sa, ha, rq, mq, sq, bq, hq, i', d', cav, cor, stg, pl, dv, rv, (va_up S ((i + 1) % 5) w'), Hh, xl, nums, xn, tn, tt, tv, tf, te, tp, now', was', one, sc, y, hP, hD, hT, hRP, hRW', (hMBf K (by omega) hMB)⟩ hS
set_option maxHeartbeats 4000000 in
set_option maxRecDepth 100000 in
theorem lc_against {p : Program} {e : Env} {s : State} {m : MethodId} {below : List Frame} {meth : Method} {c : Code} {l : Launch} {g : gG} {b L xp mp q K CC SS : Nat} {xs : Nat → Int32} {Q : State → Prop} (hL : L ≤ 2048) (hCC : CC + 0 ≤ room_1.cells) (hSS : SS + 0 ≤ room_1.slots) (C0 : lw_At p s m meth c b L xs) (hK : gK g s) (hG : gS g (fun q : Nat => s.heap.size ≤ q) s s.heap) (hq4 : q + 4 ≤ L) (hK6 : K < 600) {H : Heap} {locs : List Loc} {ls : Array Slot} (hI : INV g (fun q : Nat => s.heap.size ≤ q) xp mp K H) (hS : va_S (fun q : Nat => s.heap.size ≤ q) s.heap H locs) (hl : lv_has ls 4 [(0, .ref b), (1, .ref xp), (2, .ref mp), (3, .int (nI q))]) (kk : ∀ (H1 : Heap) (locs1 : List Loc), INV g (fun q : Nat => s.heap.size ≤ q) xp mp (K + 1) H1 → va_S (fun q : Nat => s.heap.size ≤ q) s.heap H1 locs1 → W p l e room_1 s m #[Value.ref b] below meth c H1 locs1 CC SS Q (F0 m 800 ls [])) : W p l e room_1 s m #[Value.ref b] below meth c H locs CC SS Q (F0 m 270 ls []) := by
  obtain ⟨hx0, hb, hr, hml, hown, hts0, hX, hbl, hlocks, hgv⟩ := C0
  have hts := hts0
  have hA : ∀ q : Nat, s.heap.size ≤ q → (fun q : Nat => s.heap.size ≤ q) q := fun _ h => h
  have hbA : ¬ (fun q : Nat => s.heap.size ≤ q) b := Nat.not_le.mpr hbl
  obtain ⟨z, pp, pd, pq, dq, sa, ha, rq, mq, sq, bq, hq, i, d, cav, cor, stg, pl, dv, rv, S, Hh, xl, nums, xn, tn, tt, tv, tf, te, tp, now, was, one, sc, y, hP, hD, hT, hRP, hRW, hMB⟩ := hI
  have hi5 : i < 5 := hRW.1
  have hj5 : (i + 1) % 5 < 5 := Nat.mod_lt _ (by decide)
  have hij : i ≠ (i + 1) % 5 := by omega
  have hc : cav ≤ 6 := hRP.1.2.1
  have hs : stg ≤ 4 := hRP.2.2.1.2.1
  have hcor : cor ≤ 4 := hRP.2.1.1
  have hE : RE cor (pl.2 3) te := hRP.2.2.2.2.1
  have hv : ∀ c, c < cav → tv c = pl.2 0 c ∧ ∃ k : Nat, k ≤ 30 ∧ pl.2 0 c = nI k := fun c h => by
    obtain ⟨h1, -, ⟨v, -, h2, h3⟩, -⟩ := hRP.2.2.2.1 c h
    exact ⟨h1, v, h2, h3⟩
  obtain ⟨m0, hm⟩ := RW_now hRW
  have hin1 : vp_in (nI q + 1) L := by rw [show nI q + (1 : Int32) = nI (q + 1) from addn q 1]; exact vp_in_nI (by omega) (by omega)
  have hin2 : vp_in (nI q + 2) L := by rw [show nI q + (2 : Int32) = nI (q + 2) from addn q 2]; exact vp_in_nI (by omega) (by omega)
  obtain ⟨y0, hy0, a11, v1⟩ := hm.2.2.1
  obtain ⟨r0, h1, h2⟩ := eq_against 5000 (Nat.le_refl 5000) (xs (Int32.toNatClampNeg (nI q + 1))) (xs (Int32.toNatClampNeg (nI q + 2))) hcor (pow4 hcor hy0) hE a11 hm.2.1.1 hm.2.2.2.1.1 hm.2.2.2.2.1.1 hm.2.2.2.1.2 hm.2.2.2.2.1.2
  rw [← v1] at h1
  have ct := c5_against l g xp (z 0) pp pd (z 1) sa (nI i) (nI d) (z 2) ha (z 3) (nI cav) (pq 0) (pl.2 0) (pq 1) (pl.2 1) (pq 2) (pl.2 2) (nI cor) (pq 3) (pl.2 3) (nI stg) (pq 4) (pl.2 4) (pq 5) (pl.2 5) (pq 6) (pl.2 6) (sq i 0) ((S i).2 0) (sq i 1) ((S i).2 1) (sq i 2) ((S i).2 2) ((S i).1 0) ((S i).1 1) ((S i).1 2) ((S i).1 3) ((S i).1 4) ((S i).1 5) (sq i 3) (xs (Int32.toNatClampNeg (nI q + 1))) (xs (Int32.toNatClampNeg (nI q + 2))) H.size 5000 _ h1
  try dsimp only [outS, outSH] at ct
  simp only [clI hi5, clU hi5] at ct
  refine lv_aload_n hx0 hb dL_law_270 rfl (lv_at hl 1 rfl) ?_
  refine lv_aload_n hx0 hb dL_law_271 rfl (lv_at hl 0 rfl) ?_
  refine lv_iload_n hx0 hb dL_law_272 rfl (lv_at hl 3 rfl) ?_
  refine lv_iconst (v := 1) hx0 hb dL_law_273 (by decide) ?_
  refine lv_iadd hx0 hb dL_law_274 ?_
  refine va_sld hx0 hb hX hbl hbA hS hin1 dL_law_275 ?_
  refine lv_aload_n hx0 hb dL_law_276 rfl (lv_at hl 0 rfl) ?_
  refine lv_iload_n hx0 hb dL_law_277 rfl (lv_at hl 3 rfl) ?_
  refine lv_iconst (v := 2) hx0 hb dL_law_278 (by decide) ?_
  refine lv_iadd hx0 hb dL_law_279 ?_
  refine va_sld hx0 hb hX hbl hbA hS hin2 dL_law_280 ?_
  refine bft_i_ro (va_runV (As := [.int (xs (Int32.toNatClampNeg (nI q + 1))), .int (xs (Int32.toNatClampNeg (nI q + 2)))]) (rest := []) ⟨hx0, hb, hml, hown, hts⟩ ct (cwV 2 hts gL_law_X5_against rfl rfl rfl ⟨rfl, nh5.1, nh5.2, pd_14⟩ ⟨Nat.le_of_ble_eq_true rfl, Nat.le_of_ble_eq_true rfl⟩) (qPV hK hG hP hD hS hA [0, 2, 6 + i] (nd_ps i hi5) (mc rfl (mc rfl (mc (mm_S hi5) rfl))) (va_recv hK.1 hP (ci := 5) (q0 := 0) rfl rfl)) rfl rfl hl.1 rfl (lv_room (Nat.le_of_ble_eq_true rfl)) dL_law_281 ⟨hCC, hSS⟩) hP hD hS hA [0, 2, 6 + i] (mc rfl (mc rfl (mc (mm_S hi5) rfl))) (fun r H locs hw hP hD hS => ?_)
  replace hw := hw.symm
  subst hw
  refine lv_aload_n hx0 hb dL_law_284 rfl (lv_at hl 2 rfl) ?_
  refine lv_aload_n hx0 hb dL_law_285 rfl (lv_at hl 0 rfl) ?_
  refine lv_iload_n hx0 hb dL_law_286 rfl (lv_at hl 3 rfl) ?_
  refine lv_iconst (v := 1) hx0 hb dL_law_287 (by decide) ?_
  refine lv_iadd hx0 hb dL_law_288 ?_
  refine va_sld hx0 hb hX hbl hbA hS hin1 dL_law_289 ?_
  refine lv_aload_n hx0 hb dL_law_290 rfl (lv_at hl 0 rfl) ?_
  refine lv_iload_n hx0 hb dL_law_291 rfl (lv_at hl 3 rfl) ?_
  refine lv_iconst (v := 2) hx0 hb dL_law_292 (by decide) ?_
  refine lv_iadd hx0 hb dL_law_293 ?_
  refine va_sld hx0 hb hX hbl hbA hS hin2 dL_law_294 ?_
  have cm := c6_against l g mp tn (mq 0) tt (nI cav) (mq 1) tv (mq 2) tf (nI cor) (mq 3) te (nI stg) (mq 4) tp (mq 5) now (mq 6) was (nI d) (mq 7) one y.1 (mq 8) y.2.1 y.2.2.1 (mq 9) y.2.2.2.1 y.2.2.2.2.1 (mq 10) y.2.2.2.2.2.1 (mq 11) y.2.2.2.2.2.2.1 y.2.2.2.2.2.2.2.1 y.2.2.2.2.2.2.2.2 sc (xs (Int32.toNatClampNeg (nI q + 1))) (xs (Int32.toNatClampNeg (nI q + 2))) H.size 5000 _ h2
  try dsimp only at cm
  refine bft_i_ro (va_runV (As := [.int (xs (Int32.toNatClampNeg (nI q + 1))), .int (xs (Int32.toNatClampNeg (nI q + 2)))]) (rest := [.int r0]) ⟨hx0, hb, hml, hown, hts⟩ cm (cwV 2 hts gL_law_X6_against rfl rfl rfl ⟨rfl, nh6.1, nh6.2, pd_14⟩ ⟨Nat.le_of_ble_eq_true rfl, Nat.le_of_ble_eq_true rfl⟩) (qPV hK hG hP hD hS hA [5] rfl (mc rfl rfl) (va_recv hK.1 hP (ci := 6) (q0 := 27) rfl rfl)) rfl rfl hl.1 rfl (lv_room (Nat.le_of_ble_eq_true rfl)) dL_law_295 ⟨hCC, hSS⟩) hP hD hS hA [5] (mc rfl rfl) (fun r H locs hw hP hD hS => ?_)
  replace hw := hw.symm
  subst hw
  refine lv_icmp_eq (tgt := 800) hx0 hb dL_law_298 (by decide) (fun _ => ?_) (fun c9 => absurd rfl c9)
  exact kk H locs ⟨z, pp, pd, pq, dq, sa, ha, rq, mq, sq, bq, hq, i, d, cav, cor, stg, pl, dv, rv, S, Hh, xl, nums, xn, tn, tt, tv, tf, te, tp, now, was, one, sc, y, hP, hD, hT, hRP, hRW, (MB_up hMB)⟩ hS
