/-! the law's loop -/
theorem INV_up {g : gG} {A : Nat → Prop} {xp mp K : Nat} {H : Heap} (h : INV g A xp mp K H) : INV g A xp mp (K + 1) H := by
  obtain ⟨z, pp, pd, pq, dq, sa, ha, rq, mq, sq, bq, hq, i, d, cav, cor, stg, pl, dv, rv, S, Hh, xl, nums, xn, tn, tt, tv, tf, te, tp, now, was, one, sc, y, hP, hD, hT, hRP, hRW, hMB⟩ := h
  exact ⟨z, pp, pd, pq, dq, sa, ha, rq, mq, sq, bq, hq, i, d, cav, cor, stg, pl, dv, rv, S, Hh, xl, nums, xn, tn, tt, tv, tf, te, tp, now, was, one, sc, y, hP, hD, hT, hRP, hRW, MB_up hMB⟩
set_option maxHeartbeats 8000000 in
set_option maxRecDepth 100000 in
theorem law_loop {p : Program} {e : Env} {s : State} {m : MethodId} {below : List Frame} {meth : Method} {c : Code} {l : Launch} {g : gG} {b L xp mp CC SS : Nat} {xs : Nat → Int32} (hL : L ≤ 2048) (hCC : CC + 0 ≤ room_1.cells) (hSS : SS + 0 ≤ room_1.slots) (hCk : CC ≤ 600000) (hSk : SS ≤ 7302250) (C0 : lw_At p s m meth c b L xs) (hK : gK g s) (hG : gS g (fun q : Nat => s.heap.size ≤ q) s s.heap) :
    ∀ (n K : Nat), 4 * K ≤ L → L < 4 * K + 4 * n → ∀ (H : Heap) (locs : List Loc) (ls : Array Slot), INV g (fun q : Nat => s.heap.size ≤ q) xp mp K H → va_S (fun q : Nat => s.heap.size ≤ q) s.heap H locs → lv_has ls 4 [(0, .ref b), (1, .ref xp), (2, .ref mp), (3, .int (nI (4 * K)))] → W p l e room_1 s m #[Value.ref b] below meth c H locs CC SS (lw_Z below #[Value.ref b] s) (F0 m 18 ls []) := by
  obtain ⟨hx, hb, hr, hml, hown, hts, hX, hbl, hlocks, hgv⟩ := id C0
  have hA : ∀ q : Nat, s.heap.size ≤ q → (fun q : Nat => s.heap.size ≤ q) q := fun _ h => h
  have hbA : ¬ (fun q : Nat => s.heap.size ≤ q) b := Nat.not_le.mpr hbl
  intro n
  induction n with
  | zero => intro K h1 h2; omega
  | succ n ih =>
    intro K h1 h2 H locs ls hI hS hl
    have e4 : (nI L - 4 : Int32).toInt = (L : Int) - 4 := by
      have f4 : (4 : Int32).toInt = 4 := rfl
      rw [i_sub (by rw [nI_toInt (by omega), f4]; omega) (by rw [nI_toInt (by omega), f4]; omega), nI_toInt (by omega), f4]
    refine lv_iload_n hx hb dL_law_18 rfl (lv_at hl 3 rfl) ?_
    refine lv_aload_n hx hb dL_law_19 rfl (lv_at hl 0 rfl) ?_
    refine va_slen hx hb hX hbl hbA hS dL_law_20 ?_
    refine lv_iconst (v := 4) hx hb dL_law_21 (by decide) ?_
    refine lv_isub hx hb dL_law_22 ?_
    refine lv_icmp_gt (tgt := 806) hx hb dL_law_23 (by decide) (fun c9 => ?_) (fun c9 => ?_)
    · refine lv_iconst (v := 1) hx hb dL_law_806 (by decide) ?_
      refine va_forget (fun q hq => hS.2.2 q hq) ?_
      refine W.widen (k := 600000) (n := 7302250) hCk hSk ?_
      exact lw_ret hx hb hr hlocks dL_law_807
    · have hq4 : 4 * K + 4 ≤ L := by
        have c8 : ¬ (nI L - 4 : Int32) < nI (4 * K) := c9
        rw [i_lt, e4, nI_toInt (by omega)] at c8
        omega
      have hin : vp_in (nI (4 * K)) L := vp_in_nI (by omega) (by omega)
      have tail : ∀ (H1 : Heap) (locs1 : List Loc), INV g (fun q : Nat => s.heap.size ≤ q) xp mp (K + 1) H1 → va_S (fun q : Nat => s.heap.size ≤ q) s.heap H1 locs1 → W p l e room_1 s m #[Value.ref b] below meth c H1 locs1 CC SS (lw_Z below #[Value.ref b] s) (F0 m 800 ls []) := by
        intro H1 locs1 hI1 hS1
        refine lv_iinc (v := nI (4 * (K + 1))) (lv' := [(3, .int (nI (4 * (K + 1)))), (0, .ref b), (1, .ref xp), (2, .ref mp)]) hx hb dL_law_800 hl (k := 3) rfl (addn (4 * K) 4) (by decide) rfl (fun ls hl => ?_)
        refine lv_goto (tgt := 18) hx hb dL_law_803 (by decide) ?_
        exact ih (K + 1) (by omega) (by omega) H1 locs1 ls hI1 hS1 (lv_sub hl [1, 2, 3, 0] rfl)
      refine lv_aload_n hx hb dL_law_26 rfl (lv_at hl 0 rfl) ?_
      refine lv_iload_n hx hb dL_law_27 rfl (lv_at hl 3 rfl) ?_
      refine va_sld hx hb hX hbl hbA hS hin dL_law_28 ?_
      refine lv_bipush (v := 31) hx hb dL_law_29 (by decide) ?_
      refine lv_iand hx hb dL_law_31 ?_
      obtain ⟨j, hj, ej⟩ := pk_andE (xs (Int32.toNatClampNeg (nI (4 * K)))) (m := 31) 5 (by decide)
      rw [ej]
      rcases (show j = 0 ∨ j = 1 ∨ j = 2 ∨ j = 3 ∨ j = 4 ∨ j = 5 ∨ j = 6 ∨ j = 7 ∨ j = 8 ∨ j = 9 ∨ j = 10 ∨ j = 11 ∨ j = 12 ∨ j = 13 ∨ j = 14 ∨ j = 15 ∨ j = 16 ∨ j = 17 ∨ j = 18 ∨ j = 19 ∨ j = 20 ∨ j = 21 ∨ j = 22 ∨ j = 23 ∨ j = 24 ∨ j = 25 ∨ 26 ≤ j by omega) with rfl | rfl | rfl | rfl | rfl | rfl | rfl | rfl | rfl | rfl | rfl | rfl | rfl | rfl | rfl | rfl | rfl | rfl | rfl | rfl | rfl | rfl | rfl | rfl | rfl | rfl | h26
      · refine lv_tableIn (tgt := 152) hx hb dL_law_32 (by decide) (by decide) rfl (by decide) ?_
        exact lc_write hL hCC hSS C0 hK hG hq4 (by omega) hI hS hl tail
      · refine lv_tableIn (tgt := 175) hx hb dL_law_32 (by decide) (by decide) rfl (by decide) ?_
        exact lc_wipe hL hCC hSS C0 hK hG hq4 (by omega) hI hS hl tail
      · refine lv_tableIn (tgt := 188) hx hb dL_law_32 (by decide) (by decide) rfl (by decide) ?_
        exact lc_fault hL hCC hSS C0 hK hG hq4 (by omega) hI hS hl tail
      · refine lv_tableIn (tgt := 201) hx hb dL_law_32 (by decide) (by decide) rfl (by decide) ?_
        exact lc_lay hL hCC hSS C0 hK hG hq4 (by omega) hI hS hl tail
      · refine lv_tableIn (tgt := 214) hx hb dL_law_32 (by decide) (by decide) rfl (by decide) ?_
        exact lc_mould hL hCC hSS C0 hK hG hq4 (by omega) hI hS hl tail
      · refine lv_tableIn (tgt := 237) hx hb dL_law_32 (by decide) (by decide) rfl (by decide) ?_
        exact lc_core hL hCC hSS C0 hK hG hq4 (by omega) hI hS hl tail
      · refine lv_tableIn (tgt := 270) hx hb dL_law_32 (by decide) (by decide) rfl (by decide) ?_
        exact lc_against hL hCC hSS C0 hK hG hq4 (by omega) hI hS hl tail
      · refine lv_tableIn (tgt := 303) hx hb dL_law_32 (by decide) (by decide) rfl (by decide) ?_
        exact lc_drag hL hCC hSS C0 hK hG hq4 (by omega) hI hS hl tail
      · refine lv_tableIn (tgt := 336) hx hb dL_law_32 (by decide) (by decide) rfl (by decide) ?_
        exact lc_speed hL hCC hSS C0 hK hG hq4 (by omega) hI hS hl tail
      · refine lv_tableIn (tgt := 369) hx hb dL_law_32 (by decide) (by decide) rfl (by decide) ?_
        exact lc_tell hL hCC hSS C0 hK hG hq4 (by omega) hI hS hl tail
      · refine lv_tableIn (tgt := 402) hx hb dL_law_32 (by decide) (by decide) rfl (by decide) ?_
        exact lc_shoot hL hCC hSS C0 hK hG hq4 (by omega) hI hS hl tail
      · refine lv_tableIn (tgt := 415) hx hb dL_law_32 (by decide) (by decide) rfl (by decide) ?_
        exact lc_waitCool hL hCC hSS C0 hK hG hq4 (by omega) hI hS hl tail
      · refine lv_tableIn (tgt := 428) hx hb dL_law_32 (by decide) (by decide) rfl (by decide) ?_
        exact lc_undo hL hCC hSS C0 hK hG hq4 (by omega) hI hS hl tail
      · refine lv_tableIn (tgt := 441) hx hb dL_law_32 (by decide) (by decide) rfl (by decide) ?_
        exact lc_teach hL hCC hSS C0 hK hG hq4 (by omega) hI hS hl tail
      · refine lv_tableIn (tgt := 464) hx hb dL_law_32 (by decide) (by decide) rfl (by decide) ?_
        exact lc_forget hL hCC hSS C0 hK hG hq4 (by omega) hI hS hl tail
      · refine lv_tableIn (tgt := 477) hx hb dL_law_32 (by decide) (by decide) rfl (by decide) ?_
        exact lc_wide hL hCC hSS C0 hK hG hq4 (by omega) hI hS hl tail
      · refine lv_tableIn (tgt := 500) hx hb dL_law_32 (by decide) (by decide) rfl (by decide) ?_
        exact lc_band hL hCC hSS C0 hK hG hq4 (by omega) hI hS hl tail
      · refine lv_tableIn (tgt := 533) hx hb dL_law_32 (by decide) (by decide) rfl (by decide) ?_
        exact lc_shot hL hCC hSS C0 hK hG hq4 (by omega) hI hS hl tail
      · refine lv_tableIn (tgt := 566) hx hb dL_law_32 (by decide) (by decide) rfl (by decide) ?_
        exact lc_curve hL hCC hSS C0 hK hG hq4 (by omega) hI hS hl tail
      · refine lv_tableIn (tgt := 599) hx hb dL_law_32 (by decide) (by decide) rfl (by decide) ?_
        exact lc_cavity hL hCC hSS C0 hK hG hq4 (by omega) hI hS hl tail
      · refine lv_tableIn (tgt := 632) hx hb dL_law_32 (by decide) (by decide) rfl (by decide) ?_
        exact lc_filled hL hCC hSS C0 hK hG hq4 (by omega) hI hS hl tail
      · refine lv_tableIn (tgt := 675) hx hb dL_law_32 (by decide) (by decide) rfl (by decide) ?_
        exact lc_tried hL hCC hSS C0 hK hG hq4 (by omega) hI hS hl tail
      · refine lv_tableIn (tgt := 708) hx hb dL_law_32 (by decide) (by decide) rfl (by decide) ?_
        exact lc_even hL hCC hSS C0 hK hG hq4 (by omega) hI hS hl tail
      · refine lv_tableIn (tgt := 731) hx hb dL_law_32 (by decide) (by decide) rfl (by decide) ?_
        exact lc_earlier hL hCC hSS C0 hK hG hq4 (by omega) hI hS hl tail
      · refine lv_tableIn (tgt := 754) hx hb dL_law_32 (by decide) (by decide) rfl (by decide) ?_
        exact lc_order hL hCC hSS C0 hK hG hq4 (by omega) hI hS hl tail
      · refine lv_tableIn (tgt := 777) hx hb dL_law_32 (by decide) (by decide) rfl (by decide) ?_
        exact lc_count hL hCC hSS C0 hK hG hq4 (by omega) hI hS hl tail
      · refine lv_tableOut (tgt := 800) hx hb dL_law_32 (Or.inr (by rw [nI_toInt (by omega)]; omega)) (by decide) ?_
        exact tail H locs (INV_up hI) hS
