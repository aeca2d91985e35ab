/-! the cavity that takes the next unit -/
theorem eas0 (N : Nat) {cav : Nat} {has vol drags tv now one : Nat → Int32} (hcav : cav ≤ 6) (H : ∀ c, c < cav → tv c = vol c ∧ now (1139 + c) = drags c ∧ one (66 + c) = has c) : ∀ (m n n' k : Nat) (v4 v5 : Int32), k + m = cav → m < n → m < n' → ((v4 = -4 ∧ ∀ c, c < k → ¬ has c < vol c) ∨ ∃ b, b < k ∧ has b < vol b ∧ v4 = nI b ∧ v5 = drags b * (has b + 1)) →
    (f2_easiest_10 N n 0 v4 v5 (nI k) has (nI cav) vol drags = some (-4) ∧ (∀ c, c < cav → ¬ has c < vol c) ∧ f6_easiest_5 N n' v4 (nI k) (nI cav) tv now one = f6_easiest_118 N N 0 1 (nI cav) now one) ∨ ∃ b, b < cav ∧ has b < vol b ∧ f2_easiest_10 N n 0 v4 v5 (nI k) has (nI cav) vol drags = some (nI b) ∧ f6_easiest_5 N n' v4 (nI k) (nI cav) tv now one = some (nI b) := by
  intro m
  induction m with
  | zero =>
    intro n n' k v4 v5 hk hn hn' hi
    obtain ⟨n, rfl⟩ : ∃ q, n = q + 1 := ⟨n - 1, by omega⟩
    obtain ⟨n', rfl⟩ : ∃ q, n' = q + 1 := ⟨n' - 1, by omega⟩
    rw [f2_easiest_10, f6_easiest_5, if_pos (nI_le (by omega) (by omega)), if_pos (nI_le (by omega) (by omega))]
    rcases hi with ⟨h4, hf⟩ | ⟨b, hb, hw, h4, h5⟩
    · left
      rw [h4, if_pos (show (-4 : Int32) < 0 by decide)]
      exact ⟨rfl, fun c hc => hf c (by omega), rfl⟩
    · right
      rw [h4, if_neg (nI_n0 (by omega))]
      exact ⟨b, by omega, hw, rfl, rfl⟩
  | succ m ih =>
    intro n n' k v4 v5 hk hn hn' hi
    obtain ⟨n, rfl⟩ : ∃ q, n = q + 1 := ⟨n - 1, by omega⟩
    obtain ⟨n', rfl⟩ : ∃ q, n' = q + 1 := ⟨n' - 1, by omega⟩
    obtain ⟨t1, t2, t3⟩ := H k (by omega)
    have e6 : ok (nI k) 6 = true := ok_nI (by omega) (by omega)
    have x1 : (1139 : Int32) + nI k = nI (1139 + k) := addn 1139 k
    have x2 : (66 : Int32) + nI k = nI (66 + k) := addn 66 k
    have o1 : ok (nI (1139 + k)) 1155 = true := ok_nI (by omega) (by omega)
    have o2 : ok (nI (66 + k)) 84 = true := ok_nI (by omega) (by omega)
    rw [f2_easiest_10, f6_easiest_5, if_neg (show ¬ nI cav ≤ nI k from nI_ge (by omega) (by omega)), if_neg (show ¬ nI cav ≤ nI k from nI_ge (by omega) (by omega)), if_pos e6, if_pos e6, if_pos e6, x2, if_pos o2, cl_nI (show k < 2 ^ 31 by omega), cl_nI (show 66 + k < 2 ^ 31 by omega), t1, t3]
    by_cases h : has k < vol k
    · rw [if_pos h, if_neg (i_nle.mpr h), f2_easiest_41, f6_easiest_36, x1, x2, if_pos o1, if_pos o2, if_pos (show (0 : Int32) = 0 from rfl), if_pos e6, if_pos (show (0 : Int32) = 0 from rfl), if_pos e6, if_neg (show ¬ (1 : Int32) = 0 by decide), cl_nI (show k < 2 ^ 31 by omega), cl_nI (show 66 + k < 2 ^ 31 by omega), cl_nI (show 1139 + k < 2 ^ 31 by omega), t2, t3, f2_easiest_75, nI_1]
      rcases hi with ⟨h4, -⟩ | ⟨b, hb, hw, h4, h5⟩
      · rw [if_pos h4, if_pos (show v4 < 0 by rw [h4]; decide)]
        exact ih n n' (k + 1) (nI k) _ (by omega) (by omega) (by omega) (.inr ⟨k, by omega, h, rfl, rfl⟩)
      · obtain ⟨-, s2, s3⟩ := H b (by omega)
        have y1 : (1139 : Int32) + nI b = nI (1139 + b) := addn 1139 b
        have y2 : (66 : Int32) + nI b = nI (66 + b) := addn 66 b
        rw [h4, h5, if_neg (nI_nm4 (by omega)), if_neg (nI_n0 (by omega)), y1, y2, if_pos (ok_nI (n := 1155) (k := 1139 + b) (by omega) (by omega)), if_pos (ok_nI (n := 84) (k := 66 + b) (by omega) (by omega)), cl_nI (show 66 + b < 2 ^ 31 by omega), cl_nI (show 1139 + b < 2 ^ 31 by omega), s2, s3]
        by_cases hh : drags b * (has b + 1) ≤ drags k * (has k + 1)
        · rw [if_pos hh, if_pos hh]
          exact ih n n' (k + 1) (nI b) _ (by omega) (by omega) (by omega) (.inr ⟨b, by omega, hw, rfl, rfl⟩)
        · rw [if_neg hh, if_neg hh]
          exact ih n n' (k + 1) (nI k) _ (by omega) (by omega) (by omega) (.inr ⟨k, by omega, h, rfl, rfl⟩)
    · rw [if_neg h, if_pos (i_nlt.mp h), f2_easiest_41, f6_easiest_36, x1, x2, if_pos o1, if_pos o2, if_neg (show ¬ (1 : Int32) = 0 by decide), if_pos (show (0 : Int32) = 0 from rfl), nI_1]
      refine ih n n' (k + 1) v4 v5 (by omega) (by omega) (by omega) ?_
      rcases hi with ⟨h4, hf⟩ | ⟨b, hb, hw, h4, h5⟩
      · refine .inl ⟨h4, fun c hc => ?_⟩
        by_cases e : c = k
        · rw [e]; exact h
        · exact hf c (by omega)
      · exact .inr ⟨b, by omega, hw, h4, h5⟩
theorem eas1 (N : Nat) {cav : Nat} {has vol drags now one : Nat → Int32} (hcav : cav ≤ 6) (H : ∀ c, c < cav → now (1139 + c) = drags c ∧ one (66 + c) = has c) (hf : ∀ c, c < cav → ¬ has c < vol c) : ∀ (m n n' k b : Nat), k + m = cav → m < n → m < n' → b < k → ∃ b', b' < cav ∧ f2_easiest_10 N n 1 (nI b) (drags b * has b) (nI k) has (nI cav) vol drags = some (nI b') ∧ f6_easiest_118 N n' (nI b) (nI k) (nI cav) now one = some (nI b') := by
  intro m
  induction m with
  | zero =>
    intro n n' k b hk hn hn' hb
    obtain ⟨n, rfl⟩ : ∃ q, n = q + 1 := ⟨n - 1, by omega⟩
    obtain ⟨n', rfl⟩ : ∃ q, n' = q + 1 := ⟨n' - 1, by omega⟩
    rw [f2_easiest_10, f6_easiest_118, if_pos (nI_le (by omega) (by omega)), if_pos (nI_le (by omega) (by omega))]
    exact ⟨b, by omega, rfl, rfl⟩
  | succ m ih =>
    intro n n' k b hk hn hn' hb
    obtain ⟨n, rfl⟩ : ∃ q, n = q + 1 := ⟨n - 1, by omega⟩
    obtain ⟨n', rfl⟩ : ∃ q, n' = q + 1 := ⟨n' - 1, by omega⟩
    obtain ⟨t2, t3⟩ := H k (by omega)
    obtain ⟨s2, s3⟩ := H b (by omega)
    have e6 : ok (nI k) 6 = true := ok_nI (by omega) (by omega)
    have x1 : (1139 : Int32) + nI k = nI (1139 + k) := addn 1139 k
    have x2 : (66 : Int32) + nI k = nI (66 + k) := addn 66 k
    have y1 : (1139 : Int32) + nI b = nI (1139 + b) := addn 1139 b
    have y2 : (66 : Int32) + nI b = nI (66 + b) := addn 66 b
    rw [f2_easiest_10, f6_easiest_118, if_neg (show ¬ nI cav ≤ nI k from nI_ge (by omega) (by omega)), if_neg (show ¬ nI cav ≤ nI k from nI_ge (by omega) (by omega)), if_pos e6, if_pos e6, cl_nI (show k < 2 ^ 31 by omega), if_neg (hf k (by omega)), f2_easiest_41, if_pos (show (1 : Int32) = 1 from rfl), if_pos e6, if_neg (show ¬ (1 : Int32) = 0 by decide), if_pos e6, f2_easiest_75, if_neg (nI_nm4 (by omega)), x1, x2, y1, y2, if_pos (ok_nI (n := 1155) (k := 1139 + k) (by omega) (by omega)), if_pos (ok_nI (n := 84) (k := 66 + k) (by omega) (by omega)), if_pos (ok_nI (n := 1155) (k := 1139 + b) (by omega) (by omega)), if_pos (ok_nI (n := 84) (k := 66 + b) (by omega) (by omega)), cl_nI (show k < 2 ^ 31 by omega), cl_nI (show 66 + k < 2 ^ 31 by omega), cl_nI (show 1139 + k < 2 ^ 31 by omega), cl_nI (show 66 + b < 2 ^ 31 by omega), cl_nI (show 1139 + b < 2 ^ 31 by omega), t2, t3, s2, s3, nI_1]
    by_cases hh : drags b * has b ≤ drags k * has k
    · rw [if_pos hh, if_pos hh]
      exact ih n n' (k + 1) b (by omega) (by omega) (by omega) (by omega)
    · rw [if_neg hh, if_neg hh]
      exact ih n n' (k + 1) k (by omega) (by omega) (by omega) (by omega)
theorem easiest_eq (N : Nat) (hN : 5000 ≤ N) {cav : Nat} {has vol drags tv now one : Nat → Int32} (hcav : cav ≤ 6) (hc1 : 1 ≤ cav) (H : ∀ c, c < cav → tv c = vol c ∧ now (1139 + c) = drags c ∧ one (66 + c) = has c) : ∃ b, b < cav ∧ f6_easiest N (nI cav) tv now one = some (nI b) ∧ ((has b < vol b ∧ f2_easiest N 0 has (nI cav) vol drags = some (nI b)) ∨ (f2_easiest N 0 has (nI cav) vol drags = some (-4) ∧ ¬ has b < vol b ∧ f2_easiest N 1 has (nI cav) vol drags = some (nI b))) := by
  rcases eas0 N hcav H cav N N 0 (-4) 0 (by omega) (by omega) (by omega) (.inl ⟨rfl, fun c hc => absurd hc (Nat.not_lt_zero c)⟩) with ⟨h1, hf, h2⟩ | ⟨b, hb, hw, h1, h2⟩
  · obtain ⟨n, rfl⟩ : ∃ q, N = q + 1 := ⟨N - 1, by omega⟩
    obtain ⟨b, hb, g1, g2⟩ := eas1 (n + 1) hcav (fun c hc => (H c hc).2) hf (cav - 1) n (n + 1) 1 0 (by omega) (by omega) (by omega) (by omega)
    refine ⟨b, hb, h2.trans g2, .inr ⟨h1, hf b hb, ?_⟩⟩
    rw [f2_easiest, f2_easiest_10, if_neg (show ¬ nI cav ≤ 0 from nI_ge (a := 0) (by omega) (by omega)), if_pos (show ok 0 6 = true by decide), if_pos (show ok 0 6 = true by decide), show Int32.toNatClampNeg 0 = 0 from rfl, if_neg (hf 0 (by omega)), f2_easiest_41, if_pos (show (1 : Int32) = 1 from rfl), if_pos (show ok 0 6 = true by decide), if_neg (show ¬ (1 : Int32) = 0 by decide), if_pos (show ok 0 6 = true by decide), f2_easiest_75, if_pos (show (-4 : Int32) = -4 from rfl)]
    exact g1
  · exact ⟨b, hb, h2, .inl ⟨hw, h1⟩⟩
