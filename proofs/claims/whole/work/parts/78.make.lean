/-! a shot is made: class and reference the same -/
theorem clear37 (N : Nat) {ha fi fu : Nat → Int32} : ∀ (m n k : Nat) (pr : Nat → Int32), k + m = 60 → m < n → (∀ j, j < k → pr j = 0) → ∃ pr' : Nat → Int32, f2_clear_37 N n (nI k) ha fi fu pr = some (ha, fi, fu, pr', 0, 0, -4) ∧ ∀ j, j < 60 → pr' j = 0 := by
  intro m
  induction m with
  | zero =>
    intro n k pr hk hn h
    obtain ⟨n, rfl⟩ : ∃ q, n = q + 1 := ⟨n - 1, by omega⟩
    refine ⟨pr, ?_, fun j hj => h j (by omega)⟩
    rw [f2_clear_37, if_pos (show (60 : Int32) ≤ nI k from nI_le (a := 60) (by omega) (by omega))]
  | succ m ih =>
    intro n k pr hk hn h
    obtain ⟨n, rfl⟩ : ∃ q, n = q + 1 := ⟨n - 1, by omega⟩
    rw [f2_clear_37, if_neg (show ¬ (60 : Int32) ≤ nI k from nI_ge (b := 60) (by omega) (by omega)), if_pos (ok_nI (n := 60) (k := k) (by omega) (by omega)), cl_nI (by omega), nI_1]
    refine ih n (k + 1) _ (by omega) (by omega) (fun j hj => ?_)
    by_cases z : j = k
    · rw [z, up_s]
    · rw [up_n z]; exact h j (by omega)
theorem clear2 (N : Nat) (hN : 5000 ≤ N) {pr : Nat → Int32} : ∀ (m n k : Nat) (ha fi fu : Nat → Int32), k + m = 6 → m < n → (∀ j, j < k → ha j = 0 ∧ fi j = 0 ∧ fu j = 0) → ∃ ha' fi' fu' pr' : Nat → Int32, f2_clear_2 N n (nI k) ha fi fu pr = some (ha', fi', fu', pr', 0, 0, -4) ∧ (∀ j, j < 6 → ha' j = 0 ∧ fi' j = 0 ∧ fu' j = 0) ∧ ∀ j, j < 60 → pr' j = 0 := by
  intro m
  induction m with
  | zero =>
    intro n k ha fi fu hk hn h
    obtain ⟨n, rfl⟩ : ∃ q, n = q + 1 := ⟨n - 1, by omega⟩
    obtain ⟨pr', h1, h2⟩ := clear37 N (ha := ha) (fi := fi) (fu := fu) 60 N 0 pr (by omega) (by omega) (fun j hj => by omega)
    refine ⟨ha, fi, fu, pr', ?_, fun j hj => h j (by omega), h2⟩
    rw [f2_clear_2, if_pos (show (6 : Int32) ≤ nI k from nI_le (a := 6) (by omega) (by omega))]
    exact h1
  | succ m ih =>
    intro n k ha fi fu hk hn h
    obtain ⟨n, rfl⟩ : ∃ q, n = q + 1 := ⟨n - 1, by omega⟩
    have o : ok (nI k) 6 = true := ok_nI (by omega) (by omega)
    rw [f2_clear_2, if_neg (show ¬ (6 : Int32) ≤ nI k from nI_ge (b := 6) (by omega) (by omega)), if_pos o, if_pos o, if_pos o, cl_nI (by omega), nI_1]
    refine ih n (k + 1) _ _ _ (by omega) (by omega) (fun j hj => ?_)
    by_cases z : j = k
    · rw [z, up_s, up_s, up_s]; exact ⟨rfl, rfl, rfl⟩
    · rw [up_n z, up_n z, up_n z]; exact h j (by omega)
theorem tries2 (N : Nat) {cav stg : Nat} {l : Int32} {tv tf tp now : Nat → Int32} : ∀ (m n k : Nat) (one : Nat → Int32), k + m = 84 → m < n → (∀ j, j < k → one j = if j < 72 then 0 else -4) → ∃ one' : Nat → Int32, f6_tries_2 N n l (nI k) (nI cav) tv tf (nI stg) tp now one = f6_tries_42 N N l 0 (-4) (nI cav) tv tf (nI stg) tp now one' 0 ∧ ∀ j, j < 84 → one' j = if j < 72 then 0 else -4 := by
  intro m
  induction m with
  | zero =>
    intro n k one hk hn h
    obtain ⟨n, rfl⟩ : ∃ q, n = q + 1 := ⟨n - 1, by omega⟩
    refine ⟨one, ?_, fun j hj => h j (by omega)⟩
    rw [f6_tries_2, if_pos (show (84 : Int32) ≤ nI k from nI_le (a := 84) (by omega) (by omega))]
  | succ m ih =>
    intro n k one hk hn h
    obtain ⟨n, rfl⟩ : ∃ q, n = q + 1 := ⟨n - 1, by omega⟩
    have o : ok (nI k) 84 = true := ok_nI (by omega) (by omega)
    rw [f6_tries_2, if_neg (show ¬ (84 : Int32) ≤ nI k from nI_ge (b := 84) (by omega) (by omega)), f6_tries_25, f6_tries_25, if_pos o, if_pos o, cl_nI (by omega), nI_1]
    by_cases q : k < 72
    · rw [if_pos (show nI k < (72 : Int32) from nI_lt (b := 72) q (by omega))]
      refine ih n (k + 1) _ (by omega) (by omega) (fun j hj => ?_)
      by_cases z : j = k
      · rw [z, up_s, if_pos q]
      · rw [up_n z]; exact h j (by omega)
    · rw [if_neg (show ¬ nI k < (72 : Int32) from nI_nlt (b := 72) (by omega) (by omega))]
      refine ih n (k + 1) _ (by omega) (by omega) (fun j hj => ?_)
      by_cases z : j = k
      · rw [z, up_s, if_neg q]
      · rw [up_n z]; exact h j (by omega)
/-- the ticks of the hold -/
theorem hold_lp (N : Nat) (hN : 5000 ≤ N) {cav E h4 : Nat} {vol frz drags tv tf now : Nat → Int32} {v3 : Int32} (hcav : cav ≤ 6) (hE : E ≤ 60) (H : ∀ c, c < cav → tv c = vol c ∧ now (1139 + c) = drags c ∧ tf c = frz c) (h3 : now 1152 = v3) (hh4 : now 1153 = nI h4) (h20 : h4 ≤ 20) : ∀ (m n n' k t p : Nat) (has first full pr one : Nat → Int32), t + m = E → k + m = h4 → m < n → m < n' → p ≤ 99 → RM cav p has first full one → (∀ k, k < 60 → one (6 + k) = pr k) →
    ∃ (p' : Nat) (has' first' full' pr' one' : Nat → Int32), p' ≤ 99 ∧ f2_hold_33 N n v3 (nI E) (nI (t + 1)) has first full pr (nI p) (nI t) (nI cav) vol frz drags = some (has', first', full', pr', nI p', nI E) ∧ f6_tries_98 N n' (nI t) (nI k) (nI cav) tv tf now one (nI p) = f6_tries_188 N N (-4) (-4) 0 (nI cav) (upd (upd (upd one' 1 (nI E)) 3 (nI p')) 5 (nI E + now 1154)) (nI p') ∧ RM cav p' has' first' full' one' ∧ (∀ k, k < 60 → one' (6 + k) = pr' k) ∧ one' 0 = one 0 ∧ one' 2 = one 2 := by
  intro m
  induction m with
  | zero =>
    intro n n' k t p has first full pr one ht hk hn hn' hp h hpr
    obtain ⟨n, rfl⟩ : ∃ q, n = q + 1 := ⟨n - 1, by omega⟩
    obtain ⟨n', rfl⟩ : ∃ q, n' = q + 1 := ⟨n' - 1, by omega⟩
    have e1 : t = E := by omega
    have e2 : k = h4 := by omega
    rw [e1, e2]
    refine ⟨p, has, first, full, pr, one, hp, ?_, ?_, h, hpr, rfl, rfl⟩
    · rw [f2_hold_33, if_pos (nI_lt (Nat.lt_succ_self E) (by omega))]
    · rw [f6_tries_98, if_pos (show ok 1153 1155 = true by decide), show Int32.toNatClampNeg 1153 = 1153 from rfl, hh4, if_pos (nI_le (Nat.le_refl _) (by omega)), if_pos (show ok 1 84 = true by decide), if_pos (show ok 3 84 = true by decide), if_pos (show ok 1154 1155 = true by decide), if_pos (show ok 5 84 = true by decide)]; rfl
  | succ m ih =>
    intro n n' k t p has first full pr one ht hk hn hn' hp h hpr
    obtain ⟨n, rfl⟩ : ∃ q, n = q + 1 := ⟨n - 1, by omega⟩
    obtain ⟨n', rfl⟩ : ∃ q, n' = q + 1 := ⟨n' - 1, by omega⟩
    obtain ⟨n2, p1, has', first', full', one', hp1, g0, g1, g2, g3⟩ := hold_in N (t := t + 1) (v3 := v3) (v4 := nI E) (pr := pr) (fun a0 a1 a2 a3 a4 a5 a6 a7 a8 a9 a10 a11 a12 => f2_hold_33 N n a0 a1 a2 a3 a4 a5 a6 a7 a8 a9 a10 a11 a12) hcav (by omega) (by omega) H h3 cav N N 0 p has first full one (by omega) (by omega) (by omega) hp h
    obtain ⟨p', has'', first'', full'', pr'', one'', q1, q2, q3, q4, q5, q6, q7⟩ := ih n n' (k + 1) (t + 1) p1 has' first' full' (upd pr t v3) (upd one' (6 + t) v3) (by omega) (by omega) (by omega) (by omega) hp1 ⟨g2.1, fun c hc => by
        obtain ⟨x, f, u, d1, d2, d3, d4, d5, d6, d7, d8, d9, d10⟩ := g2.2 c hc
        exact ⟨x, f, u, d1, d2, d3, d4, d5, d6, d7, (up_n (by omega)).trans d8, (up_n (by omega)).trans d9, (up_n (by omega)).trans d10⟩⟩ (fun k hk => by
        by_cases z : k = t
        · rw [z, up_s, up_s]
        · rw [up_n (by omega), up_n z, g3 (6 + k) (by omega), hpr k hk])
    refine ⟨p', has'', first'', full'', pr'', one'', q1, ?_, ?_, q4, q5, q6.trans ((up_n (by omega)).trans (g3 0 (by omega))), q7.trans ((up_n (by omega)).trans (g3 2 (by omega)))⟩
    · rw [f2_hold_33, if_neg (show ¬ nI E < nI (t + 1) from nI_nlt (by omega) (by omega))]
      refine g0.trans ?_
      rw [f2_hold_49, if_pos (nI_le (Nat.le_refl _) (by omega)), nI_pred, if_pos (ok_nI (n := 60) (k := t) (by omega) (by omega)), cl_nI (by omega), nI_1]
      exact q2
    · rw [f6_tries_98, if_pos (show ok 1153 1155 = true by decide), show Int32.toNatClampNeg 1153 = 1153 from rfl, hh4, if_neg (show ¬ nI h4 ≤ nI k from nI_ge (by omega) (by omega)), nI_1, f6_holds, show f6_holds_2 N N (nI (t + 1)) 0 (nI cav) tv tf now one (nI p) = _ from g1, Option.bind_some, if_pos (show ok 1152 1155 = true by decide), show (6 : Int32) + nI (t + 1) - 1 = nI (6 + t) by rw [show (6 : Int32) + nI (t + 1) = nI (6 + t + 1) from addn 6 (t + 1), nI_pred], if_pos (ok_nI (n := 84) (k := 6 + t) (by omega) (by omega)), cl_nI (by omega), show Int32.toNatClampNeg 1152 = 1152 from rfl, h3, nI_1]
      exact q3
/-- the balance -/
theorem bal_tail {full : Nat → Int32} {v1 v2 : Int32} : ∀ (m k : Nat), k + m = 6 → (∀ c, k ≤ c → c < 6 → full c = 0) → ∀ M n, m < n → f2_balance_7 M n v1 v2 (nI k) full = some (if 0 < v2 - v1 then v2 - v1 else 0) := by
  intro m
  induction m with
  | zero =>
    intro k hk h M n hn
    obtain ⟨n, rfl⟩ : ∃ q, n = q + 1 := ⟨n - 1, by omega⟩
    rw [f2_balance_7, if_pos (show (6 : Int32) ≤ nI k from nI_le (a := 6) (by omega) (by omega))]
  | succ m ih =>
    intro k hk h M n hn
    obtain ⟨n, rfl⟩ : ∃ q, n = q + 1 := ⟨n - 1, by omega⟩
    rw [f2_balance_7, if_neg (show ¬ (6 : Int32) ≤ nI k from nI_ge (b := 6) (by omega) (by omega)), if_pos (ok_nI (n := 6) (k := k) (by omega) (by omega)), cl_nI (by omega), if_pos (h k (by omega) (by omega)), nI_1]
    exact ih (k + 1) (by omega) (fun c h1 h2 => h c (by omega) h2) M n (by omega)
def BQ (v1 v2 v4 v5 : Int32) : Prop := (v1 = nI 60 ∧ v2 = nI 0 ∧ v4 = -4 ∧ v5 = -4) ∨ ∃ a b : Nat, a ≤ b ∧ b ≤ 60 ∧ 1 ≤ a ∧ v1 = nI a ∧ v2 = nI b ∧ v4 = nI a ∧ v5 = nI b
theorem bal_lp (N : Nat) {cav : Nat} {full one : Nat → Int32} {sc : Int32} (hcav : cav ≤ 6) (hu : ∀ c, c < cav → ∃ u : Nat, u < 61 ∧ full c = nI u ∧ one (72 + c) = z4 (nI u)) (h0 : ∀ c, cav ≤ c → c < 6 → full c = 0) : ∀ (m k n' : Nat) (v1 v2 v4 v5 : Int32), k + m = cav → m < n' → BQ v1 v2 v4 v5 → ∃ r : Int32, (∀ M n, 6 - k < n → f2_balance_7 M n v1 v2 (nI k) full = some r) ∧ f6_tries_188 N n' v4 v5 (nI k) (nI cav) one sc = some (upd one 4 r, sc) ∧ ¬ r < 0 := by
  intro m
  induction m with
  | zero =>
    intro k n' v1 v2 v4 v5 hk hn' hq
    obtain ⟨n', rfl⟩ : ∃ q, n' = q + 1 := ⟨n' - 1, by omega⟩
    have e : k = cav := by omega
    rw [e]
    have pz : ∀ x : Int32, ¬ (if 0 < x then x else 0) < 0 := by
      intro x
      by_cases z : 0 < x
      · rw [if_pos z]; rw [i_lt] at z ⊢; omega
      · rw [if_neg z]; decide
    refine ⟨_, fun M n hn => bal_tail (6 - cav) cav (by omega) h0 M n hn, ?_, pz _⟩
    rw [f6_tries_188, if_pos (nI_le (Nat.le_refl _) (by omega)), f6_tries_282, f6_tries_282, if_pos (show ok 4 84 = true by decide), if_pos (show ok 4 84 = true by decide), show Int32.toNatClampNeg 4 = 4 from rfl]
    rcases hq with ⟨rfl, rfl, rfl, rfl⟩ | ⟨a, b, hab, hb, ha, rfl, rfl, rfl, rfl⟩
    · rw [if_pos rfl]; rfl
    · rw [if_neg (nI_nm4 (by omega)), pk_sub hab]
      by_cases z : b - a = 0
      · rw [z]; rfl
      · rw [if_pos (show (0 : Int32) < nI (b - a) from nI_lt (a := 0) (by omega) (by omega))]
  | succ m ih =>
    intro k n' v1 v2 v4 v5 hk hn' hq
    obtain ⟨n', rfl⟩ : ∃ q, n' = q + 1 := ⟨n' - 1, by omega⟩
    obtain ⟨u, hu61, hf, h72⟩ := hu k (by omega)
    have x1 : (72 : Int32) + nI k = nI (72 + k) := addn 72 k
    have o : ok (nI k) 6 = true := ok_nI (by omega) (by omega)
    have cstep : ∀ M n, 6 - k < n → ∃ n0, n = n0 + 1 ∧ f2_balance_7 M n v1 v2 (nI k) full = if nI u = 0 then f2_balance_7 M n0 v1 v2 (nI (k + 1)) full else f2_balance_7 M n0 (if nI u < v1 then nI u else v1) (if v2 < nI u then nI u else v2) (nI (k + 1)) full := by
      intro M n hn
      obtain ⟨n, rfl⟩ : ∃ q, n = q + 1 := ⟨n - 1, by omega⟩
      refine ⟨n, rfl, ?_⟩
      rw [f2_balance_7, if_neg (show ¬ (6 : Int32) ≤ nI k from nI_ge (b := 6) (by omega) (by omega)), if_pos o, if_pos o, if_pos o, cl_nI (by omega), hf, nI_1]
    rw [f6_tries_188, if_neg (show ¬ nI cav ≤ nI k from nI_ge (by omega) (by omega)), x1, if_pos (ok_nI (n := 84) (k := 72 + k) (by omega) (by omega)), cl_nI (by omega), h72, f6_tries_235, f6_tries_230, f6_tries_237, f6_tries_237, nI_1]
    by_cases hz : u = 0
    · rw [hz, if_pos (show z4 (nI 0) = -4 from rfl), show z4 (nI 0) = -4 from rfl]
      have l4 : (-4 : Int32) ≤ v5 := by
        rcases hq with ⟨-, -, -, rfl⟩ | ⟨a, b, hab, hb, ha, -, -, -, rfl⟩
        · decide
        · rw [i_le, nI_toInt (by omega)]; show (-4 : Int) ≤ b; omega
      rw [if_pos l4]
      obtain ⟨r, r1, r2, r3⟩ := ih (k + 1) n' v1 v2 v4 v5 (by omega) (by omega) hq
      refine ⟨r, fun M n hn => ?_, r2, r3⟩
      obtain ⟨n0, e0, e1⟩ := cstep M n hn
      rw [e1, hz, if_pos (show nI 0 = 0 from rfl)]
      exact r1 M n0 (by omega)
    · rw [z4n (by omega) hu61, if_neg (nI_nm4 (by omega))]
      have fin : ∀ w4 w5 : Int32, BQ (if nI u < v1 then nI u else v1) (if v2 < nI u then nI u else v2) w4 w5 → ∃ r : Int32, (∀ M n, 6 - k < n → f2_balance_7 M n v1 v2 (nI k) full = some r) ∧ f6_tries_188 N n' w4 w5 (nI (k + 1)) (nI cav) one sc = some (upd one 4 r, sc) ∧ ¬ r < 0 := by
        intro w4 w5 hq'
        obtain ⟨r, r1, r2, r3⟩ := ih (k + 1) n' _ _ w4 w5 (by omega) (by omega) hq'
        refine ⟨r, fun M n hn => ?_, r2, r3⟩
        obtain ⟨n0, e0, e1⟩ := cstep M n hn
        rw [e1, if_neg (nI_ne0 (by omega) (by omega))]
        exact r1 M n0 (by omega)
      rcases hq with ⟨rfl, rfl, rfl, rfl⟩ | ⟨a, b, hab, hb, ha, rfl, rfl, rfl, rfl⟩
      · rw [if_pos (show (-4 : Int32) = -4 from rfl), if_neg (show ¬ nI u ≤ (-4 : Int32) by rw [i_le, nI_toInt (by omega)]; show ¬ (u : Int) ≤ -4; omega)]
        refine fin _ _ (.inr ⟨u, u, by omega, by omega, by omega, ?_, ?_, rfl, rfl⟩)
        · by_cases q : u < 60
          · rw [if_pos (nI_lt q (by omega))]
          · rw [if_neg (nI_nlt (by omega) (by omega)), show u = 60 by omega]
        · rw [if_pos (nI_lt (by omega) (by omega))]
      · rw [if_neg (nI_nm4 (by omega))]
        by_cases q1 : a ≤ u
        · rw [if_pos (nI_le q1 (by omega))]
          by_cases q2 : u ≤ b
          · rw [if_pos (nI_le q2 (by omega))]
            refine fin _ _ (.inr ⟨a, b, hab, hb, ha, ?_, ?_, rfl, rfl⟩)
            · rw [if_neg (nI_nlt (by omega) (by omega))]
            · rw [if_neg (nI_nlt (by omega) (by omega))]
          · rw [if_neg (nI_ge (by omega) (by omega))]
            refine fin _ _ (.inr ⟨a, u, q1, by omega, ha, ?_, ?_, rfl, rfl⟩)
            · rw [if_neg (nI_nlt (by omega) (by omega))]
            · rw [if_pos (nI_lt (by omega) (by omega))]
        · rw [if_neg (nI_ge (by omega) (by omega)), if_pos (nI_le (by omega) (by omega))]
          refine fin _ _ (.inr ⟨u, b, by omega, hb, by omega, ?_, ?_, rfl, rfl⟩)
          · rw [if_pos (nI_lt (by omega) (by omega))]
          · rw [if_neg (nI_nlt (by omega) (by omega))]
theorem make_eq (N : Nat) (hN : 5000 ≤ N) {cav stg s2 h4 : Nat} {vol frz drags tv tf now pl tp sp st : Nat → Int32} {l : Int32} (hcav : cav ≤ 6) (hc1 : 1 ≤ cav) (h1 : 1 ≤ stg) (hstg : stg ≤ 4) (hm : ∀ k, k + 1 < stg → pl k ≤ pl (k + 1)) (HS : ∀ k, k < stg → tp k = pl k ∧ now (1145 + k) = sp k) (H : ∀ c, c < cav → tv c = vol c ∧ now (1139 + c) = drags c ∧ tf c = frz c) (HT : ∀ j, j < 6 → now (1149 + j) = st j) (e2 : st 2 = nI s2) (hs2 : s2 ≤ 40) (hs1 : 1 ≤ s2) (e4 : st 4 = nI h4) (h20 : h4 ≤ 20) (has first full pr one : Nat → Int32) : ∃ (ha fi fu pr' one' : Nat → Int32) (pc ft ti wh sc : Int32), f2_make N l has first full pr (nI cav) vol frz (nI stg) pl drags sp st = some (ha, fi, fu, pr', pc, ft, ti, st 5, wh) ∧ f6_tries N l (nI cav) tv tf (nI stg) tp now one = some (one', sc) ∧ RH cav (mkH ha fi fu pr' pc ft ti (st 5) wh) one' ∧ ¬ one' 4 < 0 := by
  obtain ⟨ha0, fi0, fu0, pr0, c1, c2, c3⟩ := clear2 N hN (pr := pr) 6 N 0 has first full (by omega) (by omega) (fun j hj => by omega)
  obtain ⟨one0, t1, t2⟩ := tries2 N (cav := cav) (stg := stg) (l := l) (tv := tv) (tf := tf) (tp := tp) (now := now) 84 N 0 one (by omega) (by omega) (fun j hj => by omega)
  have rm0 : RM cav 0 ha0 fi0 fu0 one0 := ⟨fun c _ h6 => (c2 c h6).2.2, fun c hc => ⟨0, 0, 0, by omega, by omega, by omega, (c2 c (by omega)).1, (c2 c (by omega)).2.1, (c2 c (by omega)).2.2, Iff.rfl, (t2 (66 + c) (by omega)).trans (if_pos (by omega)), (t2 (72 + c) (by omega)).trans (if_neg (by omega)), (t2 (78 + c) (by omega)).trans (if_neg (by omega))⟩⟩
  obtain ⟨t', p', w', ha1, fi1, fu1, pr1, one1, u1, u2, u3, u4, u5, u6, u7, u8⟩ := tick_lp N hN (l := l) (tf := tf) hcav hc1 h1 hstg hm HS (fun c hc => ⟨(H c hc).1, (H c hc).2.1⟩) HT e2 hs2 40 N N 0 0 (-4) ha0 fi0 fu0 pr0 one0 (by omega) (by omega) (by omega) (by omega) (.inl rfl) (fun _ => hs1) (fun _ => rfl) rm0 (fun k hk => (t2 (6 + k) (by omega)).trans ((if_pos (by omega)).trans (c3 k hk).symm))
  obtain ⟨p2, ha2, fi2, fu2, pr2, one2, y1, y2, y3, y4, y5, y6, y7⟩ := hold_lp N hN (E := t' + h4) (v3 := st 3) hcav (by omega) H (HT 3 (by omega)) ((HT 4 (by omega)).trans e4) h20 h4 N N 0 t' p' ha1 fi1 fu1 pr1 (upd (upd one1 0 (nI t')) 2 w') (by omega) (by omega) (by omega) (by omega) u3 ⟨u7.1, fun c hc => by
        obtain ⟨x, f, u, d1, d2, d3, d4, d5, d6, d7, d8, d9, d10⟩ := u7.2 c hc
        exact ⟨x, f, u, d1, d2, d3, d4, d5, d6, d7, (up_n (by omega)).trans ((up_n (by omega)).trans d8), (up_n (by omega)).trans ((up_n (by omega)).trans d9), (up_n (by omega)).trans ((up_n (by omega)).trans d10)⟩⟩ (fun k hk => (up_n (by omega)).trans ((up_n (by omega)).trans (u8 k hk)))
  obtain ⟨r, r1, r2, r3⟩ := bal_lp N (full := fu2) (one := upd (upd (upd one2 1 (nI (t' + h4))) 3 (nI p2)) 5 (nI (t' + h4) + now 1154)) (sc := nI p2) hcav (fun c hc => by
        obtain ⟨x, f, u, d1, d2, d3, d4, d5, d6, d7, d8, d9, d10⟩ := y4.2 c hc
        exact ⟨u, d3, d6, (up_n (by omega)).trans ((up_n (by omega)).trans ((up_n (by omega)).trans d9))⟩) y4.1 cav 0 N (nI 60) (nI 0) (-4) (-4) (by omega) (by omega) (.inl ⟨rfl, rfl, rfl, rfl⟩)
  refine ⟨ha2, fi2, fu2, pr2, upd (upd (upd (upd one2 1 (nI (t' + h4))) 3 (nI p2)) 5 (nI (t' + h4) + now 1154)) 4 r, nI p2, nI t', nI (t' + h4), w', nI p2, ?_, ?_, ?_, (by rw [up_s]; exact r3)⟩
  · rw [f2_make, f2_clear, show f2_clear_2 N N 0 has first full pr = _ from c1, Option.bind_some, f2_fill]
    show (f2_fill_3 N N l 1 ha0 fi0 fu0 pr0 0 0 (-4) (nI cav) vol (nI stg) pl drags sp st).bind _ = _
    rw [show f2_fill_3 N N l 1 ha0 fi0 fu0 pr0 0 0 (-4) (nI cav) vol (nI stg) pl drags sp st = _ from u5, Option.bind_some]
    show (f2_hold N ha1 fi1 fu1 pr1 (nI p') (nI t') (nI t') (nI cav) vol frz drags st).bind _ = _
    have mn : (if nI t' + st (Int32.toNatClampNeg 4) < 60 then nI t' + st (Int32.toNatClampNeg 4) else 60) = nI (t' + h4) := by
      rw [show Int32.toNatClampNeg 4 = 4 from rfl, e4, addn]
      by_cases z : t' + h4 < 60
      · rw [if_pos (show nI (t' + h4) < 60 from nI_lt (b := 60) z (by omega))]
      · rw [if_neg (show ¬ nI (t' + h4) < 60 from nI_nlt (b := 60) (by omega) (by omega)), show t' + h4 = 60 by omega]; rfl
    rw [f2_hold, if_pos (show ok 3 6 = true by decide), if_pos (show ok 4 6 = true by decide), mn, nI_1, show st (Int32.toNatClampNeg 3) = st 3 from rfl, y2, Option.bind_some, if_pos (show ok 5 6 = true by decide)]
    rfl
  · rw [f6_tries, show f6_tries_2 N N l 0 (nI cav) tv tf (nI stg) tp now one = _ from t1, show f6_tries_42 N N l 0 (-4) (nI cav) tv tf (nI stg) tp now one0 0 = _ from u6]
    exact y3.trans r2
  · have h5 : now 1154 = st 5 := HT 5 (by omega)
    refine ⟨?_, ?_, ?_, ?_, ?_, fun M hM => ?_, fun k hk => ?_, fun c hc => ?_, t' + h4, by omega, by omega, rfl⟩
    · rw [up_n (by omega), up_n (by omega), up_n (by omega), up_n (by omega), y6, up_n (by omega), up_s]; rfl
    · rw [up_n (by omega), up_n (by omega), up_n (by omega), up_s]; rfl
    · rw [up_n (by omega), up_n (by omega), up_n (by omega), up_n (by omega), y7, up_s]; rfl
    · rw [up_n (by omega), up_n (by omega), up_s]; rfl
    · rw [up_n (by omega), up_s, h5]; rfl
    · rw [up_s]; exact r1 M M (by omega)
    · rw [up_n (by omega), up_n (by omega), up_n (by omega), up_n (by omega)]; exact y5 k hk
    · obtain ⟨x, f, u, d1, d2, d3, d4, d5, d6, d7, d8, d9, d10⟩ := y4.2 c hc
      refine ⟨⟨x, by omega, d4⟩, ?_, ?_, ?_⟩
      · rw [up_n (by omega), up_n (by omega), up_n (by omega), up_n (by omega), d8]; exact d4.symm
      · rw [up_n (by omega), up_n (by omega), up_n (by omega), up_n (by omega), d9, ← d6]; rfl
      · rw [up_n (by omega), up_n (by omega), up_n (by omega), up_n (by omega), d10, ← d5]; rfl
