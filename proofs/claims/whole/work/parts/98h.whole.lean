/-! the law, from its entry -/
theorem pm6 {α : Type} (A0 A1 A2 A3 A4 Y w : List α) : ((A0 ++ (A1 ++ (A2 ++ (A3 ++ (A4 ++ ([] ++ Y)))))) ++ w).Perm (A0 ++ (A1 ++ (A2 ++ (A3 ++ (A4 ++ (w ++ Y)))))) := by
  classical
  refine List.perm_iff_count.mpr (fun a => ?_)
  simp only [List.count_append, List.count_nil]
  omega
theorem fl_mm {B0 B1 B2 B3 B4 w : va_W} {fS fB fH : Nat → va_W} : (fl (MM B0 B1 B2 B3 B4 [] fS fB fH) ++ w).Perm (fl (MM B0 B1 B2 B3 B4 w fS fB fH)) := pm6 B0 B1 B2 B3 B4 (rmap 5 fS ++ (rmap 5 fB ++ rmap 16 fH)).flatten w
def q12 (u : Nat × Nat × Nat × Nat × Nat × Nat × Nat × Nat × Nat × Nat × Nat × Nat) : Nat → Nat := fun j => [u.1, u.2.1, u.2.2.1, u.2.2.2.1, u.2.2.2.2.1, u.2.2.2.2.2.1, u.2.2.2.2.2.2.1, u.2.2.2.2.2.2.2.1, u.2.2.2.2.2.2.2.2.1, u.2.2.2.2.2.2.2.2.2.1, u.2.2.2.2.2.2.2.2.2.2.1, u.2.2.2.2.2.2.2.2.2.2.2].getD j 0
set_option maxHeartbeats 8000000 in
set_option maxRecDepth 100000 in
/-- THE LAW, from its entry -/
theorem whole_start {p : Program} {e : Env} {s : State} {m : MethodId} {below : List Frame} {meth : Method} {c : Code} (l : Launch) (hflags : l.flags = flags0) {b L : Nat} {xs : Nat → Int32} (hL : L ≤ 2048) (C0 : lw_At p s m meth c b L xs) : W p l e room_1 s m #[Value.ref b] below meth c s.heap [] 0 0 (lw_Z below #[Value.ref b] s) (entryFrame m ([Value.ref b] : List Value).toArray 4) := by
  obtain ⟨hx, hb, hr, hml, hown, hts, hX, hbl, hlocks, hgv⟩ := id C0
  have hA : ∀ q : Nat, s.heap.size ≤ q → (fun q : Nat => s.heap.size ≤ q) q := fun _ h => h
  obtain ⟨st, hst⟩ := st_at hts hgv
  obtain ⟨D, cI, cS, cH, hK⟩ := gK_at hts st
  obtain ⟨g, hg⟩ : ∃ g : gG, g = (D, cI, cS, cH, st) := ⟨_, rfl⟩
  rw [← hg] at hK
  have hG : gS g (fun q : Nat => s.heap.size ≤ q) s s.heap := gS_at hts (by rw [hg]; exact hst)
  clear hg hst
  obtain ⟨sk, sv, hSW, hR55⟩ := sW_at hts hgv
  obtain ⟨rv, nums, vo, dr, fr, ah, pl, sp, se, hf4, hj1, hj2⟩ := rd_read
  obtain ⟨-, -, tv, tf, te, tp, now, rc, rs, rr, hf6, k1, k2, k3, k4, k5, k6, k7, k8, k9⟩ := rd_init
  have hRD : RD 3 3 3 vo dr fr ah pl sp se rc rkU rs rr := rd_start hj1 hj2 k1 k2 k3
  have hS : va_S (fun q : Nat => s.heap.size ≤ q) s.heap s.heap [] := va_S.rf
  have hP : va_P g.1 vwCl [] s.heap := va_nil
  have hD : va_D (fun q : Nat => s.heap.size ≤ q) ([] : va_W) := vD_nil
  have hl := lv_entry ([.ref b]) (n := 4) (Nat.le_of_ble_eq_true rfl)
  rw [lg_entry_eq]
  generalize (lg_sl ([.ref b]) ++ List.replicate (4 - (lg_sl ([.ref b])).length) Slot.unset).toArray = ls at hl ⊢
  have hl : lv_has ls 4 [(0, .ref b)] := hl
  refine va_new (ci := 5) (fs := [.null, .null, .null, .null, .int 0, .int 0, .null, .null, .null]) (C := RX5) (T := TX5) (N := 9) hx hb hts wl_wsX50 tyX5 tyX5_ok hown (hts _ sC5) (hts _ sI5) (hts _ sN5) hK.1 hP hD hS hA rfl (fun j hj => by rcases (show j = 0 ∨ j = 1 ∨ j = 2 ∨ j = 3 ∨ j = 4 ∨ j = 5 ∨ j = 6 ∨ j = 7 ∨ j = 8 by omega) with rfl | rfl | rfl | rfl | rfl | rfl | rfl | rfl | rfl <;> rfl) (Nat.le_of_ble_eq_true rfl) (Nat.le_of_ble_eq_true rfl) dL_law_0 (fun xp H hP hD hS => ?_)
  refine W.widen (k := 1) (n := 9) (Nat.le_refl _) (Nat.le_refl _) ?_
  replace hP : va_P g.1 vwCl [(xp, .inr (5, [.null, .null, .null, .null, .int 0, .int 0, .null, .null, .null]))] H := hP
  replace hD : va_D (fun q : Nat => s.heap.size ≤ q) [(xp, .inr (5, [.null, .null, .null, .null, .int 0, .int 0, .null, .null, .null]))] := hD
  refine lv_dup hx hb dL_law_3 rfl ?_
  have hF := va_free (wc := [(xp, .inr (5, [.null, .null, .null, .null, .int 0, .int 0, .null, .null, .null]))]) hD hS hA [0] rfl
  have hpre : PreS s H (cPre g sk sv xp H.size) [.ref xp] := ⟨cPre_blind, fun U hU hW => by
    obtain ⟨e1, e2, e3, e4, e5, e6⟩ := (pPS (As := [.ref xp]) (wc := [(xp, .inr (5, [.null, .null, .null, .null, .int 0, .int 0, .null, .null, .null]))]) hK hG hP hD hS hA [0] (by decide) rfl).2 U hU hW
    exact ⟨e1, e2, e3, e4, e5, e6, va_AO.moved hW.alike (va_AO.of (hts _ sO3)), va_AO.moved hW.alike (va_AO.of (hts _ sO2)), vk_R.warm hW hR55, by rw [hU]; exact hSW.on hS hW.alike hF⟩⟩
  refine va_callv (va_runI (As := []) (rest := [.ref xp]) ⟨hx, hb, hml, hown, hts⟩ (c5_init l g xp sk sv H.size 5000 rv nums (nI 3) (nI 3) (nI 3) vo dr fr ah pl sp se hf4) (cwI 0 hts gL_law_X5_init rfl rfl rfl (hts _ sN5) (hts _ sM5) (hts _ sm5) rfl (by decide +kernel) ⟨Nat.le_of_ble_eq_true rfl, Nat.le_of_ble_eq_true rfl⟩) hpre rfl rfl hl.1 rfl (lv_room (Nat.le_of_ble_eq_true rfl)) dL_law_4 ⟨Nat.le_of_ble_eq_true rfl, Nat.le_of_ble_eq_true rfl⟩) hS (fun q _ h => hF q h) hF (fun u t H1 locs ht hvm hw hB hz hk hS => ?_)
  rw [ht] at hB
  obtain ⟨pt, pp, pd, ps, ph, pr, a0, a1, pq, dq, rq, sa, ha, sq, bq, hq, hP1, hD1⟩ := hB
  obtain ⟨hP, hD⟩ := va_join (wr := []) hP hD [0] [] rfl rfl (by decide) (by decide) hk hF hP1 hD1
  clear hP1 hD1 hk hF hpre hvm ht hw hz
  replace hP : va_P g.1 vwCl (fl (MM (wk5 g xp pt pd pp ps (fun i => some (sa i)) 0 0 (sa 0) ph (fun i => some (ha i)) pr) (wk4 g pt a0 (txU 67) a1 nums 0) (wk1 g pd (nI 3) (dq 0) vo (dq 1) dr (dq 2) fr (nI 3) (dq 3) ah (nI 3) (dq 4) pl (dq 5) sp (dq 6) se) (wk1 g pp 0 (pq 0) (fun _ => 0) (pq 1) (fun _ => 0) (pq 2) (fun _ => 0) 0 (pq 3) (fun _ => 0) 0 (pq 4) (fun _ => 0) (pq 5) (fun _ => 0) (pq 6) (fun _ => 0)) (wkH g pr rq zH) [] (fun j => wkS g (sa j) (sq j) (va_up (fun _ => zS) 0 (mkS (va_cpy dr (fun _ => 0) 0 0 6) (va_cpy sp (fun _ => 0) 0 0 4) (va_cpy se (fun _ => 0) 0 0 6) 0 0 0 0 0 2 0 0 0 (fun _ => 0) (fun _ => 0)) j)) (fun j => wkB g (sq j 3) (bq j) (va_up (fun _ => zS) 0 (mkS (va_cpy dr (fun _ => 0) 0 0 6) (va_cpy sp (fun _ => 0) 0 0 4) (va_cpy se (fun _ => 0) 0 0 6) 0 0 0 0 0 2 0 0 0 (fun _ => 0) (fun _ => 0)) j)) (fun j => wkH g (ha j) (hq j) zH))) H1 := hP
  replace hD : va_D (fun q : Nat => s.heap.size ≤ q) (fl (MM (wk5 g xp pt pd pp ps (fun i => some (sa i)) 0 0 (sa 0) ph (fun i => some (ha i)) pr) (wk4 g pt a0 (txU 67) a1 nums 0) (wk1 g pd (nI 3) (dq 0) vo (dq 1) dr (dq 2) fr (nI 3) (dq 3) ah (nI 3) (dq 4) pl (dq 5) sp (dq 6) se) (wk1 g pp 0 (pq 0) (fun _ => 0) (pq 1) (fun _ => 0) (pq 2) (fun _ => 0) 0 (pq 3) (fun _ => 0) 0 (pq 4) (fun _ => 0) (pq 5) (fun _ => 0) (pq 6) (fun _ => 0)) (wkH g pr rq zH) [] (fun j => wkS g (sa j) (sq j) (va_up (fun _ => zS) 0 (mkS (va_cpy dr (fun _ => 0) 0 0 6) (va_cpy sp (fun _ => 0) 0 0 4) (va_cpy se (fun _ => 0) 0 0 6) 0 0 0 0 0 2 0 0 0 (fun _ => 0) (fun _ => 0)) j)) (fun j => wkB g (sq j 3) (bq j) (va_up (fun _ => zS) 0 (mkS (va_cpy dr (fun _ => 0) 0 0 6) (va_cpy sp (fun _ => 0) 0 0 4) (va_cpy se (fun _ => 0) 0 0 6) 0 0 0 0 0 2 0 0 0 (fun _ => 0) (fun _ => 0)) j)) (fun j => wkH g (ha j) (hq j) zH))) := hD
  refine W.widen (k := 142) (n := 2562) (Nat.le_refl _) (Nat.le_refl _) ?_
  refine lv_astore_n (lv' := [(1, .ref xp), (0, .ref b)]) hx hb dL_law_7 rfl hl (by decide) rfl (fun ls hl => ?_)
  refine va_new (ci := 6) (fs := [.int 0, .null, .int 0, .null, .null, .int 0, .null, .int 0, .null, .null, .null, .int 0, .null, .int 0, .null, .int 0, .null, .int 0, .null, .null, .int 0, .int 0, .int 0]) (C := RX6) (T := TX6) (N := 23) hx hb hts wl_wsX60 tyX6 tyX6_ok hown (hts _ sC6) (hts _ sI6) (hts _ sN6) hK.1 hP hD hS hA rfl (fun j hj => by rcases (show j = 0 ∨ j = 1 ∨ j = 2 ∨ j = 3 ∨ j = 4 ∨ j = 5 ∨ j = 6 ∨ j = 7 ∨ j = 8 ∨ j = 9 ∨ j = 10 ∨ j = 11 ∨ j = 12 ∨ j = 13 ∨ j = 14 ∨ j = 15 ∨ j = 16 ∨ j = 17 ∨ j = 18 ∨ j = 19 ∨ j = 20 ∨ j = 21 ∨ j = 22 by omega) with rfl | rfl | rfl | rfl | rfl | rfl | rfl | rfl | rfl | rfl | rfl | rfl | rfl | rfl | rfl | rfl | rfl | rfl | rfl | rfl | rfl | rfl | rfl <;> rfl) (Nat.le_of_ble_eq_true rfl) (Nat.le_of_ble_eq_true rfl) dL_law_8 (fun mp H hP hD hS => ?_)
  refine W.widen (k := 143) (n := 2585) (Nat.le_refl _) (Nat.le_refl _) ?_
  refine lv_dup hx hb dL_law_11 rfl ?_
  refine aft_e (va_runI (As := []) (rest := [.ref mp]) ⟨hx, hb, hml, hown, hts⟩ (c6_init l g mp H.size 5000 _ hf6) (cwI 0 hts gL_law_X6_init rfl rfl rfl (hts _ sN6) (hts _ sM6) (hts _ sm6) rfl (by decide +kernel) ⟨Nat.le_of_ble_eq_true rfl, Nat.le_of_ble_eq_true rfl⟩) (pPS (As := [.ref mp]) hK hG hP hD hS hA [_] (nd1 _) at1) rfl rfl hl.1 rfl (lv_room (Nat.le_of_ble_eq_true rfl)) dL_law_12 ⟨Nat.le_of_ble_eq_true rfl, Nat.le_of_ble_eq_true rfl⟩) hP hD hS hA (fun u H locs hP hD hS => ?_)
  obtain ⟨mq, hmq⟩ : ∃ f : Nat → Nat, f = q12 u := ⟨_, rfl⟩
  replace hP := P_perm (fl_mm (w := wk6 g mp 0 (mq 0) (fun _ => 0) (nI 3) (mq 1) tv (mq 2) tf (nI 3) (mq 3) te (nI 3) (mq 4) tp (mq 5) now (mq 6) (fun _ => 0) 0 (mq 7) (fun _ => 0) (nI 3) (mq 8) rc 3 (mq 9) rkU (nI 3) (mq 10) rs (mq 11) rr 0 0 0)) (show va_P g.1 vwCl (fl (MM (wk5 g xp pt pd pp ps (fun i => some (sa i)) 0 0 (sa 0) ph (fun i => some (ha i)) pr) (wk4 g pt a0 (txU 67) a1 nums 0) (wk1 g pd (nI 3) (dq 0) vo (dq 1) dr (dq 2) fr (nI 3) (dq 3) ah (nI 3) (dq 4) pl (dq 5) sp (dq 6) se) (wk1 g pp 0 (pq 0) (fun _ => 0) (pq 1) (fun _ => 0) (pq 2) (fun _ => 0) 0 (pq 3) (fun _ => 0) 0 (pq 4) (fun _ => 0) (pq 5) (fun _ => 0) (pq 6) (fun _ => 0)) (wkH g pr rq zH) [] (fun j => wkS g (sa j) (sq j) (va_up (fun _ => zS) 0 (mkS (va_cpy dr (fun _ => 0) 0 0 6) (va_cpy sp (fun _ => 0) 0 0 4) (va_cpy se (fun _ => 0) 0 0 6) 0 0 0 0 0 2 0 0 0 (fun _ => 0) (fun _ => 0)) j)) (fun j => wkB g (sq j 3) (bq j) (va_up (fun _ => zS) 0 (mkS (va_cpy dr (fun _ => 0) 0 0 6) (va_cpy sp (fun _ => 0) 0 0 4) (va_cpy se (fun _ => 0) 0 0 6) 0 0 0 0 0 2 0 0 0 (fun _ => 0) (fun _ => 0)) j)) (fun j => wkH g (ha j) (hq j) zH)) ++ wk6 g mp 0 (mq 0) (fun _ => 0) (nI 3) (mq 1) tv (mq 2) tf (nI 3) (mq 3) te (nI 3) (mq 4) tp (mq 5) now (mq 6) (fun _ => 0) 0 (mq 7) (fun _ => 0) (nI 3) (mq 8) rc 3 (mq 9) rkU (nI 3) (mq 10) rs (mq 11) rr 0 0 0) H by subst hmq; exact hP)
  replace hD := D_perm (fl_mm (w := wk6 g mp 0 (mq 0) (fun _ => 0) (nI 3) (mq 1) tv (mq 2) tf (nI 3) (mq 3) te (nI 3) (mq 4) tp (mq 5) now (mq 6) (fun _ => 0) 0 (mq 7) (fun _ => 0) (nI 3) (mq 8) rc 3 (mq 9) rkU (nI 3) (mq 10) rs (mq 11) rr 0 0 0)) (show va_D (fun q : Nat => s.heap.size ≤ q) (fl (MM (wk5 g xp pt pd pp ps (fun i => some (sa i)) 0 0 (sa 0) ph (fun i => some (ha i)) pr) (wk4 g pt a0 (txU 67) a1 nums 0) (wk1 g pd (nI 3) (dq 0) vo (dq 1) dr (dq 2) fr (nI 3) (dq 3) ah (nI 3) (dq 4) pl (dq 5) sp (dq 6) se) (wk1 g pp 0 (pq 0) (fun _ => 0) (pq 1) (fun _ => 0) (pq 2) (fun _ => 0) 0 (pq 3) (fun _ => 0) 0 (pq 4) (fun _ => 0) (pq 5) (fun _ => 0) (pq 6) (fun _ => 0)) (wkH g pr rq zH) [] (fun j => wkS g (sa j) (sq j) (va_up (fun _ => zS) 0 (mkS (va_cpy dr (fun _ => 0) 0 0 6) (va_cpy sp (fun _ => 0) 0 0 4) (va_cpy se (fun _ => 0) 0 0 6) 0 0 0 0 0 2 0 0 0 (fun _ => 0) (fun _ => 0)) j)) (fun j => wkB g (sq j 3) (bq j) (va_up (fun _ => zS) 0 (mkS (va_cpy dr (fun _ => 0) 0 0 6) (va_cpy sp (fun _ => 0) 0 0 4) (va_cpy se (fun _ => 0) 0 0 6) 0 0 0 0 0 2 0 0 0 (fun _ => 0) (fun _ => 0)) j)) (fun j => wkH g (ha j) (hq j) zH)) ++ wk6 g mp 0 (mq 0) (fun _ => 0) (nI 3) (mq 1) tv (mq 2) tf (nI 3) (mq 3) te (nI 3) (mq 4) tp (mq 5) now (mq 6) (fun _ => 0) 0 (mq 7) (fun _ => 0) (nI 3) (mq 8) rc 3 (mq 9) rkU (nI 3) (mq 10) rs (mq 11) rr 0 0 0) by subst hmq; exact hD)
  refine W.widen (k := 155) (n := 8700) (Nat.le_refl _) (Nat.le_refl _) ?_
  refine lv_astore_n (lv' := [(2, .ref mp), (1, .ref xp), (0, .ref b)]) hx hb dL_law_15 rfl hl (by decide) rfl (fun ls hl => ?_)
  refine lv_iconst (v := 0) hx hb dL_law_16 (by decide) ?_
  refine lv_istore_n (lv' := [(3, .int 0), (2, .ref mp), (1, .ref xp), (0, .ref b)]) hx hb dL_law_17 rfl hl (by decide) rfl (fun ls hl => ?_)
  have hRP : RP 3 3 3 (mkP (nI 3) (nI 3) (nI 3) vo dr fr ah pl sp se) (nI 3) tv tf (nI 3) te (nI 3) tp := lay_RP (g := fun j => (rk0 j).toNatClampNeg) hRD (by omega) (by omega) (fun j hj => ⟨(hj1 j hj).2.2.2.1.trans (rk_v j hj).2.1, (rk_v j hj).1⟩) alB0 (fun j hj => ⟨(k4 j hj).1, (k4 j hj).2.1⟩) k5 (fun j hj => (k6 j hj).1)
  have hRS : ∀ Hh : Nat → tO, RS 3 3 3 (mkS (va_cpy dr (fun _ => 0) 0 0 6) (va_cpy sp (fun _ => 0) 0 0 4) (va_cpy se (fun _ => 0) 0 0 6) 0 0 0 0 0 2 0 0 0 (fun _ => 0) (fun _ => 0)) Hh now 0 := fun Hh => lay_RS (v := (fun _ => 0, fun _ _ => 0)) hRD (fun j hj => (k4 j hj).2.2) (fun j hj => (k6 j hj).2) k7 k8 k9
  have hI : INV g (fun q : Nat => s.heap.size ≤ q) xp mp 0 H := by
    refine ⟨fun j => [pt, ps, ph, pr, a0, a1].getD j 0, pd, pp, dq, pq, sa, ha, rq, mq, sq, bq, hq, 0, 0, 3, 3, 3, mkP (nI 3) (nI 3) (nI 3) vo dr fr ah pl sp se, (fun _ => 0, fun _ _ => 0), zH, va_up (fun _ => zS) 0 (mkS (va_cpy dr (fun _ => 0) 0 0 6) (va_cpy sp (fun _ => 0) 0 0 4) (va_cpy se (fun _ => 0) 0 0 6) 0 0 0 0 0 2 0 0 0 (fun _ => 0) (fun _ => 0)), fun _ => zH, txU 67, nums, 0, 0, fun _ => 0, tv, tf, te, tp, now, fun _ => 0, fun _ => 0, 0, (nI 3, rc, 3, rkU, nI 3, rs, rr, 0, 0), hP, hD, ⟨0, by omega, rfl, rfl, fun k hk => absurd hk (Nat.not_lt_zero _)⟩, hRP, ⟨by omega, by omega, fun _ => 0, fun j hj => by omega, fun j hj => ?_⟩, fun j hj => ?_⟩
    · have j0 : j = 0 := by omega
      rw [j0, wasAt, if_pos rfl, show (0 + 5 - 0 + 0) % 5 = 0 by omega, vu_s]
      exact hRS _
    · have j0 : j = 0 := by omega
      rw [j0, wasAt, if_pos rfl]
      exact ⟨0, 0, by omega, by omega, k9 _ (by omega) (by omega), k9 _ (by omega) (by omega)⟩
  exact law_loop hL (Nat.le_of_ble_eq_true rfl) (Nat.le_of_ble_eq_true rfl) (Nat.le_of_ble_eq_true rfl) (Nat.le_of_ble_eq_true rfl) C0 hK hG (L + 1) 0 (by omega) (by omega) H locs ls hI hS (lv_sub hl [3, 2, 1, 0] rfl)
