/-! lay: class and reference the same -/
/-- a Plan: ints 0 cavities, 1 cores, 2 stages; rows 0 volumes, 1 drags, 2 freezes, 3 ahead, 4 places, 5 speeds, 6 settings -/
def mkP (C c s : Int32) (vo dr fr ah pl sp se : Nat → Int32) : tO := (fun k => match k with | 0 => C | 1 => c | _ => s, fun k => match k with | 0 => vo | 1 => dr | 2 => fr | 3 => ah | 4 => pl | 5 => sp | _ => se)
theorem lay_RS {C c s : Nat} {vo dr fr ah pl sp se rc rk rs rr now : Nat → Int32} {v : tO} {H : Nat → tO} (hR : RD C c s vo dr fr ah pl sp se rc rk rs rr) (h1 : ∀ j, j < C → now (1139 + j) = rc (3 * j + 1)) (h2 : ∀ j, j < s → now (1145 + j) = rs (2 * j + 1)) (h3 : ∀ j, j < 6 → now (1149 + j) = rr j) (h4 : now 1018 = 2) (h5 : ∀ k, k < 1139 → k ≠ 1018 → now k = 0) : RS C c s (mkS (va_cpy dr (v.2 0) 0 0 6) (va_cpy sp (v.2 1) 0 0 4) (va_cpy se (v.2 2) 0 0 6) 0 0 0 0 0 2 0 0 0 (v.2 3) (v.2 4)) H now 0 := by
  obtain ⟨⟨hC, hc, hs⟩, qC, -, qs, -, q6⟩ := hR
  refine ⟨⟨by omega, rfl, h5 _ (by omega) (by omega), h5 _ (by omega) (by omega)⟩, ⟨h5 _ (by omega) (by omega), (show isb (0 : Int32) = true by decide)⟩, ⟨0, Nat.two_pow_pos _, h5 _ (by omega) (by omega), rfl⟩, ⟨h5 _ (by omega) (by omega), (show isb (0 : Int32) = true by decide)⟩, ⟨h5 _ (by omega) (by omega), (show isb (0 : Int32) = true by decide)⟩, ⟨2, by omega, h4, rfl⟩, ⟨0, by omega, h5 _ (by omega) (by omega), rfl, fun _ => rfl, fun q => by omega⟩, fun j hj => ?_, fun j hj => ?_, fun j hj => ?_, fun q => absurd q (show ¬ (0 : Int32) = 1 by decide), fun j hj => by omega⟩
  · obtain ⟨⟨-, e, -⟩, -, g, -⟩ := qC j hj
    have ee : va_cpy dr (v.2 0) 0 0 6 j = dr j := cp_in (by omega)
    show now (1139 + j) = va_cpy dr (v.2 0) 0 0 6 j ∧ ∃ r : Nat, 1 ≤ r ∧ r ≤ 9 ∧ va_cpy dr (v.2 0) 0 0 6 j = nI r
    rw [ee, h1 j hj, e]; exact ⟨rfl, g⟩
  · obtain ⟨⟨-, e⟩, -, g⟩ := qs j hj
    have ee : va_cpy sp (v.2 1) 0 0 4 j = sp j := cp_in (by omega)
    show now (1145 + j) = va_cpy sp (v.2 1) 0 0 4 j ∧ ∃ r : Nat, 1 ≤ r ∧ r ≤ 9 ∧ va_cpy sp (v.2 1) 0 0 4 j = nI r
    rw [ee, h2 j hj, e]; exact ⟨rfl, g⟩
  · obtain ⟨e, g⟩ := q6 j hj
    have ee : va_cpy se (v.2 2) 0 0 6 j = se j := cp_in hj
    show now (1149 + j) = va_cpy se (v.2 2) 0 0 6 j ∧ ∃ r : Nat, setLo j ≤ r ∧ r ≤ setHi j ∧ va_cpy se (v.2 2) 0 0 6 j = nI r
    rw [ee, h3 j hj, e]; exact ⟨rfl, g⟩
theorem lay_RP {C c s : Nat} {vo dr fr ah pl sp se rc rk rs rr tv tf te tp : Nat → Int32} {g : Nat → Nat} (hR : RD C c s vo dr fr ah pl sp se rc rk rs rr) (hC1 : 1 ≤ C) (hs1 : 1 ≤ s) (hg : ∀ j, j < c → ah j = nI (g j) ∧ (g j < 4 ∨ g j = 9)) (ha : alB (enB g c 5) 0 c = true) (h1 : ∀ j, j < C → tv j = rc (3 * j) ∧ tf j = rc (3 * j + 2)) (h2 : ∀ j, j < c → te j = if rk j = 9 then -4 else rk j) (h3 : ∀ j, j < s → tp j = rs (2 * j)) : RP C c s (mkP (nI C) (nI c) (nI s) vo dr fr ah pl sp se) (nI C) tv tf (nI c) te (nI s) tp := by
  obtain ⟨⟨hC, hc, hs⟩, qC, qc, qs, ⟨q0, qm⟩, -⟩ := hR
  refine ⟨⟨hC1, hC, rfl, rfl⟩, ⟨hc, rfl, rfl⟩, ⟨hs1, hs, rfl, rfl⟩, fun j hj => ?_, ⟨rkB g c 5, fun j hj => ?_⟩, ⟨q0 (by omega), fun j hj => ?_⟩, qm⟩
  · obtain ⟨⟨e1, -, e2⟩, g1, -, g2⟩ := qC j hj
    exact ⟨(h1 j hj).1.trans e1, (h1 j hj).2.trans e2, g1, g2⟩
  · obtain ⟨e1, e2⟩ := hg j hj
    have k1 : rk j = nI (g j) := (qc j hj).1.trans e1
    have en := al_iff c 0 ha j (by omega) (by omega)
    rw [enB, if_neg (show ¬ j = 9 by omega), if_pos hj] at en
    show (ah j = 9 ∧ te j = -4) ∨ _
    rw [h2 j hj, k1, e1]
    by_cases z : g j = 9
    · left
      rw [z, if_pos (show nI 9 = 9 from rfl)]
      exact ⟨rfl, rfl⟩
    · right
      have ge : g j < c := by
        rw [enB, if_neg z] at en
        by_cases y : g j < c
        · exact y
        · rw [if_neg y] at en; cases en
      refine ⟨g j, ge, e1, if_neg (fun q => z ((nI_eq (b := 9) (by omega) (by omega)).mp q)), ?_⟩
      obtain ⟨-, m2⟩ := en_mono 4 (g j) en
      have r1 : rkB g c 5 j = rkB g c 4 (g j) + 1 := by rw [rkB, if_neg (show ¬ j = 9 by omega), if_pos hj]
      rw [r1, m2]; exact Nat.lt_succ_self _
  · obtain ⟨⟨e1, -⟩, g1, -⟩ := qs j hj
    exact ⟨(h3 j hj).trans e1, g1⟩
theorem eq_lay (N : Nat) (hN : 5000 ≤ N) {xl tt : Nat → Int32} {xn tn : Int32} (hT : RT xl xn tt tn) (pp pd : Nat) (u tca tco tst ch v0 e0 : Int32) (v : tO) (nums vo dr fr ah pl sp se tv tf te tp now rc rk rs rr : Nat → Int32) :
    (∃ (nums' vo' dr' fr' ah' pl' sp' se' : Nat → Int32) (C' c' s' : Int32) (y : Int32 × (Nat → Int32) × Int32 × (Nat → Int32) × Int32 × (Nat → Int32) × (Nat → Int32) × Int32 × Int32), f5_lay N pp pd u xl nums xn vo dr fr ah pl sp se (v.2 0) (v.2 1) (v.2 2) (v.1 0) (v.1 1) (v.1 2) (v.1 3) (v.1 4) (v.1 5) (v.1 6) (v.1 7) (v.1 8) = some (-2, pp, pd, u, nums', C', vo', dr', fr', c', ah', s', pl', sp', se', v.2 0, v.2 1, v.2 2, v.1 0, v.1 1, v.1 2, v.1 3, v.1 4, v.1 5, v.1 6, v.1 7, v.1 8) ∧
      f6_lay N tn tt tca tv tf tco te tst tp now ch rc rk rs rr v0 e0 = some (-2, tca, tv, tf, tco, te, tst, tp, now, ch, y)) ∨
    (∃ (C c s : Nat) (nums' vo' dr' fr' ah' pl' sp' se' tv' tf' te' tp' now' : Nat → Int32) (v' : tO) (y : Int32 × (Nat → Int32) × Int32 × (Nat → Int32) × Int32 × (Nat → Int32) × (Nat → Int32) × Int32 × Int32), f5_lay N pp pd u xl nums xn vo dr fr ah pl sp se (v.2 0) (v.2 1) (v.2 2) (v.1 0) (v.1 1) (v.1 2) (v.1 3) (v.1 4) (v.1 5) (v.1 6) (v.1 7) (v.1 8) = some (nI C, pd, pp, 0, nums', nI C, vo', dr', fr', nI c, ah', nI s, pl', sp', se', v'.2 0, v'.2 1, v'.2 2, v'.1 0, v'.1 1, v'.1 2, v'.1 3, v'.1 4, v'.1 5, v'.1 6, v'.1 7, v'.1 8) ∧
      f6_lay N tn tt tca tv tf tco te tst tp now ch rc rk rs rr v0 e0 = some (nI C, nI C, tv', tf', nI c, te', nI s, tp', now', 0, y) ∧ RP C c s (mkP (nI C) (nI c) (nI s) vo' dr' fr' ah' pl' sp' se') (nI C) tv' tf' (nI c) te' (nI s) tp' ∧ (v'.2 3 = v.2 3 ∧ v'.2 4 = v.2 4) ∧ ∀ (S H : Nat → tO) (i : Nat) (was : Nat → Int32), i < 5 → S i = v' → RW C c s i 0 S H now' was ∧ MB 0 now' was 0) := by
  obtain ⟨L, hL, rfl, rfl, ht⟩ := hT
  obtain ⟨r, x, y, h1, h2, h3⟩ := reads_eq N hN hL ht nums vo dr fr ah pl sp se rc rk rs rr v0 e0
  rw [f5_lay, f6_lay, h1, h2, Option.bind_some, Option.bind_some]
  by_cases hr : r = -4
  · obtain ⟨C, c, s, nums', vo', dr', fr', ah', pl', sp', se', rc', rk', rs', rr', v1, q1, rfl, rfl, hR⟩ := h3 hr
    rw [if_pos hr, if_pos hr]
    dsimp only
    obtain ⟨hC6, hc4, hs4⟩ := hR.1
    by_cases hC0 : C = 0
    · left
      have e : nI C = 0 := by rw [hC0]; rfl
      rw [if_pos e, f1_canBeLaid, if_pos e, Option.bind_some, if_pos rfl]
      exact ⟨_, _, _, _, _, _, _, _, _, _, _, _, rfl, rfl⟩
    · by_cases hs0 : s = 0
      · left
        have e : nI s = 0 := by rw [hs0]; rfl
        rw [if_neg (nI_ne0 (by omega) (by omega)), if_pos e, f1_canBeLaid, if_neg (nI_ne0 (by omega) (by omega)), if_pos e, Option.bind_some, if_pos rfl]
        exact ⟨_, _, _, _, _, _, _, _, _, _, _, _, rfl, rfl⟩
      · have hg : ∀ j, j < c → ah' j = nI (Int32.toNatClampNeg (ah' j)) ∧ (Int32.toNatClampNeg (ah' j) < 4 ∨ Int32.toNatClampNeg (ah' j) = 9) := by
          intro j hj
          obtain ⟨x, hx, ex⟩ := (hR.2.2.1 j hj).2
          rw [ex, cl_nI (by omega)]
          exact ⟨rfl, hx⟩
        have hgk : ∀ j, j < c → rk' j = nI (Int32.toNatClampNeg (ah' j)) ∧ (Int32.toNatClampNeg (ah' j) < 4 ∨ Int32.toNatClampNeg (ah' j) = 9) := fun j hj => ⟨(hR.2.2.1 j hj).1.trans (hg j hj).1, (hg j hj).2⟩
        have g0 : alB (enB (fun j => Int32.toNatClampNeg (ah' j)) c 5) 0 c = alB (enB (fun j => Int32.toNatClampNeg (ah' j)) c c) 0 c := al_cg c 0 (fun i h1 h2 => en_cor hc4 (fun j hj => (hg j hj).2) (by omega))
        have k1 : f1_canBeLaid_18 N N 0 (nI c) ah' = some (bi (alB (enB (fun j => Int32.toNatClampNeg (ah' j)) c 5) 0 c)) := by rw [g0]; exact canBe N hN (g := fun j => Int32.toNatClampNeg (ah' j)) hc4 hg c N 0 (by omega) (by omega)
        have k2 : f6_areCores_2 N N 0 (nI c) rk' = some (bi (alB (enB (fun j => Int32.toNatClampNeg (ah' j)) c 5) 0 c)) := areC N hN (g := fun j => Int32.toNatClampNeg (ah' j)) hc4 hgk c N 0 (by omega) (by omega)
        rw [if_neg (nI_ne0 (by omega) (by omega)), if_neg (nI_ne0 (by omega) (by omega)), f1_canBeLaid, if_neg (nI_ne0 (by omega) (by omega)), if_neg (nI_ne0 (by omega) (by omega)), k1, f6_areCores, k2, Option.bind_some, Option.bind_some]
        by_cases hA : alB (enB (fun j => Int32.toNatClampNeg (ah' j)) c 5) 0 c = true
        · right
          obtain ⟨tv', tf', te', tp', now', t1, t2, t3, t4, t5, t6, t7⟩ := takes_eq N hN (tv := tv) (tf := tf) (te := te) (tp := tp) (now := now) (rc := rc') (rk := rk') (rs := rs') (rr := rr') hC6 hc4 hs4
          rw [if_neg (bi_1 hA), if_neg (bi_1 hA), t1, f5_takeDraft, f3_startWith, f0_clear, Option.bind_some, Option.bind_some, Option.bind_some, Option.bind_some]
          have hRS : ∀ H : Nat → tO, RS C c s (mkS (va_cpy dr' (v.2 0) 0 0 6) (va_cpy sp' (v.2 1) 0 0 4) (va_cpy se' (v.2 2) 0 0 6) 0 0 0 0 0 2 0 0 0 (v.2 3) (v.2 4)) H now' 0 := fun H => lay_RS hR (fun j hj => (t2 j hj).2.2) (fun j hj => (t4 j hj).2) t5 t6 t7
          refine ⟨C, c, s, nums', vo', dr', fr', ah', pl', sp', se', tv', tf', te', tp', now', mkS (va_cpy dr' (v.2 0) 0 0 6) (va_cpy sp' (v.2 1) 0 0 4) (va_cpy se' (v.2 2) 0 0 6) 0 0 0 0 0 2 0 0 0 (v.2 3) (v.2 4), _, rfl, rfl, lay_RP hR (by omega) (by omega) hg hA (fun j hj => ⟨(t2 j hj).1, (t2 j hj).2.1⟩) t3 (fun j hj => (t4 j hj).1), ⟨rfl, rfl⟩, fun S H i was hi eS => ⟨⟨hi, by omega, fun _ => 0, fun j hj => by omega, fun j hj => ?_⟩, fun j hj => ?_⟩⟩
          · have j0 : j = 0 := by omega
            rw [j0, wasAt, if_pos rfl, show (i + 5 - 0 + 0) % 5 = i by omega, eS]
            exact hRS H
          · have j0 : j = 0 := by omega
            rw [j0, wasAt, if_pos rfl]
            exact ⟨0, 0, by omega, by omega, t7 _ (by omega) (by omega), t7 _ (by omega) (by omega)⟩
        · left
          rw [if_pos (bi_0 hA), if_pos (bi_0 hA)]
          exact ⟨_, _, _, _, _, _, _, _, _, _, _, _, rfl, rfl⟩
  · left
    rw [if_neg hr, if_neg hr]
    exact ⟨_, _, _, _, _, _, _, _, _, _, _, _, rfl, rfl⟩
