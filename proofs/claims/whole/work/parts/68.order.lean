/-! order -/
def pcN (y : Nat) : Nat := y % 2 + y / 2 % 2 + y / 4 % 2 + y / 8 % 2
theorem pc_free : ∀ cor, cor < 5 → ∀ y, y < 2 ^ cor → pcN y < cor → ∃ c, c < cor ∧ bb y c = 0 := by decide +kernel
theorem pc_up : ∀ y, y < 16 → ∀ c, c < 4 → bb y c = 0 → pcN (y ||| 2 ^ c) = pcN y + 1 := by decide +kernel
theorem bit_or : ∀ y, y < 16 → ∀ c, c < 4 → nI y ||| ((1 : Int32) <<< (nI c &&& 31)) = nI (y ||| 2 ^ c) := by decide +kernel
theorem core_n9 : ∀ c, c < 4 → ¬ nI c = (9 : Int32) ∧ ¬ nI c = (-4 : Int32) := by decide +kernel
def Free (cor y : Nat) (earl : Nat → Int32) (c : Nat) : Prop := c < cor ∧ bb y c = 0 ∧ (earl c = -4 ∨ ∃ e, e < cor ∧ earl c = nI e ∧ bb y e = 1)
theorem free_one {cor y : Nat} {ahead earl : Nat → Int32} (hcor : cor ≤ 4) (hy : y < 16) (hE : RE cor ahead earl) {c : Nat} (hc : c < cor) (h0 : bb y c = 0) : ∃ c, Free cor y earl c := by
  obtain ⟨rk, hE⟩ := hE
  have key : ∀ (n c : Nat), rk c ≤ n → c < cor → bb y c = 0 → ∃ c, Free cor y earl c := by
    intro n
    induction n with
    | zero =>
      intro c hr hc h0
      rcases hE c hc with ⟨-, h⟩ | ⟨e, -, -, -, hr'⟩
      · exact ⟨c, hc, h0, .inl h⟩
      · omega
    | succ n ih =>
      intro c hr hc h0
      rcases hE c hc with ⟨-, h⟩ | ⟨e, he, -, he', hr'⟩
      · exact ⟨c, hc, h0, .inl h⟩
      · rcases bb_01 y hy e (by omega) with q | q
        · exact ih e (by omega) he q
        · exact ⟨c, hc, h0, .inr ⟨e, he, he', q⟩⟩
  exact key (rk c) c (Nat.le_refl _) hc h0
theorem next_lp (N : Nat) {cor y : Nat} {ahead earl : Nat → Int32} (hcor : cor ≤ 4) (hy : y < 16) (hE : RE cor ahead earl) (v1 v4 : Int32) (K : Int32 → Int32 → Int32 → Int32 → (Nat → Int32) → Option Int32) : ∀ (m n n' k : Nat), k + m = cor → m < n → m < n' → (∃ c, k ≤ c ∧ Free cor y earl c) → ∃ c, c < cor ∧ bb y c = 0 ∧ f1_nextIn_2 N n (nI y) (nI k) (nI cor) ahead = some (nI c) ∧ f6_order_34 K N n' v1 (nI y) v4 (nI k) earl = f6_order_76 K N v1 (nI y) v4 (nI c) earl := by
  intro m
  induction m with
  | zero =>
    intro n n' k hk _ _ h
    obtain ⟨c, h1, h2, -⟩ := h
    omega
  | succ m ih =>
    intro n n' k hk hn hn' h
    obtain ⟨n, rfl⟩ : ∃ q, n = q + 1 := ⟨n - 1, by omega⟩
    obtain ⟨n', rfl⟩ : ∃ q, n' = q + 1 := ⟨n' - 1, by omega⟩
    have go : ¬ Free cor y earl k → ∃ c, k + 1 ≤ c ∧ Free cor y earl c := by
      intro hf
      obtain ⟨c, h1, h2⟩ := h
      have : c ≠ k := fun q => hf (q ▸ h2)
      exact ⟨c, by omega, h2⟩
    have e4 : ok (nI k) 4 = true := ok_nI (by omega) (by omega)
    rw [f1_nextIn_2, f6_order_34, if_neg (show ¬ nI cor ≤ nI k from nI_ge (by omega) (by omega)), show (nI y >>> (nI k &&& 31)) &&& 1 = bb y k from rfl]
    rcases bb_01 y hy k (by omega) with q | q
    · rw [q, if_pos (show (0 : Int32) = 0 from rfl), if_neg (show ¬ (0 : Int32) = 1 by decide), f1_nextIn_23, if_neg (show ¬ (1 : Int32) = 0 by decide), if_pos e4, if_pos e4, if_pos e4, if_pos e4, cl_nI (show k < 2 ^ 31 by omega)]
      have hE' := hE
      obtain ⟨rk, hE'⟩ := hE'
      rcases hE' k (by omega) with ⟨a9, e9⟩ | ⟨e, he, ha, hb, -⟩
      · rw [if_pos a9, if_pos e9]
        exact ⟨k, by omega, q, rfl, rfl⟩
      · obtain ⟨n9, n4⟩ := core_n9 e (by omega)
        rw [ha, hb, if_neg n9, if_neg n4, show (nI y >>> (nI e &&& 31)) &&& 1 = bb y e from rfl]
        rcases bb_01 y hy e (by omega) with p | p
        · rw [p, if_neg (show ¬ (0 : Int32) = 1 by decide), if_pos (show (0 : Int32) = 0 from rfl), nI_1]
          refine ih n n' (k + 1) (by omega) (by omega) (by omega) (go ?_)
          rintro ⟨-, -, r | ⟨e', he', r, r'⟩⟩
          · exact n4 (hb.symm.trans r)
          · have ee : e = e' := (nI_eq (by omega) (by omega)).mp (hb.symm.trans r)
            rw [← ee, p] at r'
            exact absurd r' (by decide)
        · rw [p, if_pos (show (1 : Int32) = 1 from rfl), if_neg (show ¬ (1 : Int32) = 0 by decide)]
          exact ⟨k, by omega, q, rfl, rfl⟩
    · rw [q, if_neg (show ¬ (1 : Int32) = 0 by decide), if_pos (show (1 : Int32) = 1 from rfl), f1_nextIn_23, if_pos (show (0 : Int32) = 0 from rfl), nI_1]
      refine ih n n' (k + 1) (by omega) (by omega) (by omega) (go ?_)
      rintro ⟨-, r, -⟩
      rw [q] at r
      exact absurd r (by decide)
theorem order_lp (N : Nat) (hN : 5000 ≤ N) {cor L : Nat} {ahead earl : Nat → Int32} (hcor : cor ≤ 4) (hL : L < cor) (hE : RE cor ahead earl) : ∀ (m n n' i y : Nat) (v3 : Int32), i + m = L + 1 → m < n → m < n' → y < 2 ^ cor → pcN y = i → ∃ r : Int32, f1_coreInTurn_8 N n (nI L) (nI y) v3 (nI i) (nI cor) ahead = some r ∧ f6_order_25 N n' (nI L) (nI y) v3 (nI i) earl = some r := by
  intro m
  induction m with
  | zero =>
    intro n n' i y v3 hi hn hn' hy hp
    obtain ⟨n, rfl⟩ : ∃ q, n = q + 1 := ⟨n - 1, by omega⟩
    obtain ⟨n', rfl⟩ : ∃ q, n' = q + 1 := ⟨n' - 1, by omega⟩
    rw [f1_coreInTurn_8, f6_order_25, if_pos (nI_lt (by omega) (by omega)), if_pos (nI_lt (by omega) (by omega))]
    exact ⟨_, rfl, rfl⟩
  | succ m ih =>
    intro n n' i y v3 hi hn hn' hy hp
    obtain ⟨n, rfl⟩ : ∃ q, n = q + 1 := ⟨n - 1, by omega⟩
    obtain ⟨n', rfl⟩ : ∃ q, n' = q + 1 := ⟨n' - 1, by omega⟩
    obtain ⟨c0, hc0, hb0⟩ := pc_free cor (by omega) y hy (by omega)
    obtain ⟨c1, hf⟩ := free_one hcor (pow4 hcor hy) hE hc0 hb0
    obtain ⟨c, hc, hb, s1, s2⟩ := next_lp N hcor (pow4 hcor hy) hE (nI L) (nI i) (fun a0 a1 a2 a3 a4 => f6_order_25 N n' a0 a1 a2 a3 a4) cor N N 0 (by omega) (by omega) (by omega) ⟨c1, Nat.zero_le _, hf⟩
    rw [f1_coreInTurn_8, f6_order_25, if_neg (show ¬ nI L < nI i from nI_nlt (by omega) (by omega)), if_neg (show ¬ nI L < nI i from nI_nlt (by omega) (by omega)), if_neg (show ¬ nI cor ≤ nI i from nI_ge (by omega) (by omega)), f1_nextIn, show f1_nextIn_2 N N (nI y) 0 (nI cor) ahead = some (nI c) from s1, Option.bind_some, if_neg (core_n9 c (by omega)).2, show f6_order_34 (fun a0 a1 a2 a3 a4 => f6_order_25 N n' a0 a1 a2 a3 a4) N N (nI L) (nI y) (nI i) 0 earl = _ from s2, f6_order_76, bit_or y (pow4 hcor hy) c (by omega), nI_1]
    exact ih n n' (i + 1) (y ||| 2 ^ c) (nI c) (by omega) (by omega) (by omega) (Nat.or_lt_two_pow hy (Nat.pow_lt_pow_right (by decide) hc)) (by rw [pc_up y (pow4 hcor hy) c (by omega) hb]; omega)
theorem eq_order (N : Nat) (hN : 5000 ≤ N) (l1 : Int32) {cor : Nat} {ahead earl : Nat → Int32} (hcor : cor ≤ 4) (hE : RE cor ahead earl) : ∃ r : Int32, f5_order N l1 (nI cor) ahead = some r ∧ f6_order N l1 (nI cor) earl = some r := by
  rw [f5_order, f6_order]
  by_cases h0 : (0 : Int32) ≤ l1
  · rw [if_pos h0, if_pos h0]
    by_cases h1 : l1 < nI cor
    · rw [if_pos h1, if_pos h1]
      have hk : ok l1 cor = true := by
        rw [i_le] at h0
        rw [i_lt] at h1
        have o : (0 : Int32).toInt = 0 := rfl
        have c : (nI cor).toInt = cor := nI_toInt (by omega)
        exact decide_eq_true (by omega)
      obtain ⟨L, hL, rfl⟩ := ok_of hk (by omega)
      obtain ⟨r, r1, r2⟩ := order_lp N hN hcor hL hE (L + 1) N N 0 0 (-4) (by omega) (by omega) (by omega) (Nat.two_pow_pos cor) rfl
      rw [f1_coreInTurn, show f1_coreInTurn_8 N N (nI L) 0 (-4) 0 (nI cor) ahead = some r from r1, show f6_order_25 N N (nI L) 0 (-4) 0 earl = some r from r2]
      exact ⟨_, rfl, rfl⟩
    · rw [if_neg h1, if_neg h1]; exact ⟨_, rfl, rfl⟩
  · rw [if_neg h0, if_neg h0]; exact ⟨_, rfl, rfl⟩
