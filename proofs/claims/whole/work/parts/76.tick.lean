/-! the ticks of the filling -/
theorem tick_lp (N : Nat) (hN : 5000 ≤ N) {cav stg s2 : Nat} {vol drags tv tf now pl tp sp st : Nat → Int32} {l : Int32} (hcav : cav ≤ 6) (hc1 : 1 ≤ cav) (h1 : 1 ≤ stg) (hstg : stg ≤ 4) (hm : ∀ k, k + 1 < stg → pl k ≤ pl (k + 1)) (HS : ∀ k, k < stg → tp k = pl k ∧ now (1145 + k) = sp k) (H : ∀ c, c < cav → tv c = vol c ∧ now (1139 + c) = drags c) (HT : ∀ j, j < 6 → now (1149 + j) = st j) (e2 : st 2 = nI s2) (hs2 : s2 ≤ 40) : ∀ (m n n' t p : Nat) (w : Int32) (has first full pr one : Nat → Int32), t + m = 40 → m + 1 < n → m + 1 < n' → p ≤ 99 → (w = -4 ∨ w = 0 ∨ w = 1 ∨ w = 2) → (w = -4 → t < s2) → (t = 0 → w = -4) → RM cav p has first full one → (∀ k, k < 60 → one (6 + k) = pr k) →
    ∃ (t' p' : Nat) (w' : Int32) (has' first' full' pr' one' : Nat → Int32), 1 ≤ t' ∧ t' ≤ 40 ∧ p' ≤ 99 ∧ (w' = 0 ∨ w' = 1 ∨ w' = 2) ∧ f2_fill_3 N n l (nI (t + 1)) has first full pr (nI p) (nI t) w (nI cav) vol (nI stg) pl drags sp st = some (has', first', full', pr', nI p', nI t', nI t', w') ∧ f6_tries_42 N n' l (nI t) w (nI cav) tv tf (nI stg) tp now one (nI p) = f6_tries_98 N N (nI t') 0 (nI cav) tv tf now (upd (upd one' 0 (nI t')) 2 w') (nI p') ∧ RM cav p' has' first' full' one' ∧ (∀ k, k < 60 → one' (6 + k) = pr' k) := by
  intro m
  induction m with
  | zero =>
    intro n n' t p w has first full pr one hk hn hn' hp hw hw2 hw0 h hpr
    obtain ⟨n, rfl⟩ : ∃ q, n = q + 1 := ⟨n - 1, by omega⟩
    obtain ⟨n', rfl⟩ : ∃ q, n' = q + 1 := ⟨n' - 1, by omega⟩
    have w4 : ¬ w = -4 := fun q => by have := hw2 q; omega
    have w3 : w = 0 ∨ w = 1 ∨ w = 2 := by rcases hw with q | q; exact absurd q w4; exact q
    have w0 : (0 : Int32) ≤ w := by rcases w3 with q | q | q <;> rw [q] <;> decide
    refine ⟨t, p, w, has, first, full, pr, one, by omega, by omega, hp, w3, ?_, ?_, h, hpr⟩
    · rw [f2_fill_3, if_pos (show (40 : Int32) < nI (t + 1) from nI_lt (a := 40) (by omega) (by omega)), f2_fill_116]
    · rw [f6_tries_42, if_pos w0, if_pos (show ok 0 84 = true by decide), if_pos (show ok 2 84 = true by decide)]; rfl
  | succ m ih =>
    intro n n' t p w has first full pr one hk hn hn' hp hw hw2 hw0 h hpr
    obtain ⟨n, rfl⟩ : ∃ q, n = q + 1 := ⟨n - 1, by omega⟩
    obtain ⟨n', rfl⟩ : ∃ q, n' = q + 1 := ⟨n' - 1, by omega⟩
    by_cases w4 : w = -4
    · obtain ⟨r, ⟨r1, r9⟩, sp1, sp2⟩ := speed_eq N hN (l := l) (t := nI p) h1 hstg hm HS
      obtain ⟨q, hq, rfl⟩ : ∃ q : Nat, q < 10 ∧ r = nI q := ok_of (n := 10) (by
        have o : (1 : Int32).toInt = 1 := rfl
        have z : (9 : Int32).toInt = 9 := rfl
        rw [i_le] at r1 r9
        exact decide_eq_true (by omega)) (by decide)
      have q1 : 1 ≤ q := by
        have o : (1 : Int32).toInt = 1 := rfl
        rw [i_le, nI_toInt (by omega)] at r1
        omega
      have eE : (if nI p + nI q < 99 then nI p + nI q else 99) = nI (min (p + q) 99) := by
        rw [addn]
        by_cases z : p + q < 99
        · rw [if_pos (show nI (p + q) < 99 from nI_lt (b := 99) z (by omega)), show min (p + q) 99 = p + q by omega]
        · rw [if_neg (show ¬ nI (p + q) < 99 from nI_nlt (b := 99) (by omega) (by omega)), show min (p + q) 99 = 99 by omega]; rfl
      obtain ⟨n2, v6', has', first', full', one', g1, g2, g3, g4⟩ := fill_lp N hN (l := l) (v4 := nI (t + 1)) (stg := stg) (pl := pl) (sp := sp) (st := st) (pr := pr) (t := t + 1) (fun a0 a1 a2 a3 a4 a5 a6 a7 a8 a9 a10 a11 a12 a13 a14 a15 => f2_fill_3 N n a0 a1 a2 a3 a4 a5 a6 a7 a8 a9 a10 a11 a12 a13 a14 a15) hcav hc1 (by omega) (by omega) (rfl : min (p + q) 99 = min (p + q) 99) (by omega) H (min (p + q) 99 - p) N N p 0 has first full one (by omega) (by omega) (by omega) h
      have mn : (if v6' < 99 then v6' else 99) = if v6' ≤ 99 then v6' else 99 := by
        by_cases z : v6' < 99
        · rw [if_pos z, if_pos (by rw [i_lt] at z; rw [i_le]; omega)]
        · rw [if_neg z]
          by_cases z' : v6' ≤ 99
          · rw [if_pos z', i_ti]; rw [i_lt] at z; rw [i_le] at z'; omega
          · rw [if_neg z']
      obtain ⟨w', y1, y2, y3, y4⟩ := why_eq N (k := t) (p := if v6' ≤ 99 then v6' else 99) (t := nI (min (p + q) 99)) (pr := upd pr t (if v6' ≤ 99 then v6' else 99)) (by omega) up_s HT
      have lt' : w' = -4 → t + 1 < s2 := fun z => by
        have a := y2 z
        rw [e2] at a
        rw [i_lt, nI_toInt (by omega), nI_toInt (by omega)] at a
        omega
      obtain ⟨t', p', w'', has'', first'', full'', pr'', one'', u1, u2, u3, u4, u5, u6, u7, u8⟩ := ih n n' (t + 1) (min (p + q) 99) w' has' first' full' (upd pr t (if v6' ≤ 99 then v6' else 99)) (upd one' (6 + t) (if v6' ≤ 99 then v6' else 99)) (by omega) (by omega) (by omega) (by omega) y1 lt' (fun z => by omega) ⟨g3.1, fun c hc => by
          obtain ⟨x, f, u, d1, d2, d3, d4, d5, d6, d7, d8, d9, d10⟩ := g3.2 c hc
          exact ⟨x, f, u, d1, d2, d3, d4, d5, d6, d7, (up_n (by omega)).trans d8, (up_n (by omega)).trans d9, (up_n (by omega)).trans d10⟩⟩ (fun k hk => by
          by_cases z : k = t
          · rw [z, up_s, up_s]
          · rw [up_n (by omega), up_n z, g4 (6 + k) (by omega), hpr k hk])
      refine ⟨t', p', w'', has'', first'', full'', pr'', one'', u1, u2, u3, u4, ?_, ?_, u7, u8⟩
      · rw [f2_fill_3, if_neg (show ¬ (40 : Int32) < nI (t + 1) from nI_nlt (a := 40) (by omega) (by omega)), if_pos w4, sp1, Option.bind_some, eE, g1, f2_fill_53, if_pos (nI_le (Nat.le_refl _) (by omega)), nI_pred, if_pos (ok_nI (n := 60) (k := t) (by omega) (by omega)), cl_nI (by omega), mn, y3, Option.bind_some, nI_1]
        exact u5
      · rw [f6_tries_42, if_neg (show ¬ (0 : Int32) ≤ w by rw [w4]; decide), nI_1, f6_fills, sp2, Option.bind_some, addn, g2, Option.bind_some, show (6 : Int32) + nI (t + 1) - 1 = nI (6 + t) by rw [show (6 : Int32) + nI (t + 1) = nI (6 + t + 1) from addn 6 (t + 1), nI_pred], if_pos (ok_nI (n := 84) (k := 6 + t) (by omega) (by omega)), cl_nI (by omega), y4, Option.bind_some]
        exact u6
    · have w3 : w = 0 ∨ w = 1 ∨ w = 2 := by rcases hw with q | q; exact absurd q w4; exact q
      have w0 : (0 : Int32) ≤ w := by rcases w3 with q | q | q <;> rw [q] <;> decide
      have t0 : t ≠ 0 := fun q => w4 (hw0 q)
      refine ⟨t, p, w, has, first, full, pr, one, by omega, by omega, hp, w3, ?_, ?_, h, hpr⟩
      · rw [f2_fill_3, if_neg (show ¬ (40 : Int32) < nI (t + 1) from nI_nlt (a := 40) (by omega) (by omega)), if_neg w4, f2_fill_116]
      · rw [f6_tries_42, if_pos w0, if_pos (show ok 0 84 = true by decide), if_pos (show ok 2 84 = true by decide)]; rfl
