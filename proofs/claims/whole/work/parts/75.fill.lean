/-! the units of one tick -/
theorem fill_lp (N : Nat) (hN : 5000 ≤ N) {cav E W t stg : Nat} {vol drags tv now pl sp st pr : Nat → Int32} {l v4 : Int32} (K : Int32 → Int32 → (Nat → Int32) → (Nat → Int32) → (Nat → Int32) → (Nat → Int32) → Int32 → Int32 → Int32 → Int32 → (Nat → Int32) → Int32 → (Nat → Int32) → (Nat → Int32) → (Nat → Int32) → (Nat → Int32) → Option ((Nat → Int32) × (Nat → Int32) × (Nat → Int32) × (Nat → Int32) × Int32 × Int32 × Int32 × Int32)) (hcav : cav ≤ 6) (hc1 : 1 ≤ cav) (ht : 1 ≤ t) (ht' : t < 61) (hE : E = min W 99) (hW : W < 1000) (H : ∀ c, c < cav → tv c = vol c ∧ now (1139 + c) = drags c) : ∀ (m n n' p : Nat) (v6 : Int32) (has first full one : Nat → Int32), p + m = E → m < n → m < n' → RM cav p has first full one → ∃ (n2 : Nat) (v6' : Int32) (has' first' full' one' : Nat → Int32),
    f2_fill_53 K N n l v4 (nI E) v6 (nI p) has first full pr (nI t) (nI cav) vol (nI stg) pl drags sp st = f2_fill_53 K N (n2 + 1) l v4 (nI E) v6' (nI E) has' first' full' pr (nI t) (nI cav) vol (nI stg) pl drags sp st ∧ f6_fills_14 N n' (nI t) (nI W) v6 (nI cav) tv now one (nI p) = some (if v6' ≤ 99 then v6' else 99, one', nI E) ∧ RM cav E has' first' full' one' ∧ ∀ k, k < 66 → one' k = one k := by
  intro m
  induction m with
  | zero =>
    intro n n' p v6 has first full one hp hn hn' h
    obtain ⟨n, rfl⟩ : ∃ q, n = q + 1 := ⟨n - 1, by omega⟩
    obtain ⟨n', rfl⟩ : ∃ q, n' = q + 1 := ⟨n' - 1, by omega⟩
    have e : p = E := by omega
    rw [e] at h ⊢
    refine ⟨n, v6, has, first, full, one, rfl, ?_, h, fun _ _ => rfl⟩
    have q : f6_fills_134 N v6 one (nI E) = some (if v6 ≤ 99 then v6 else 99, one, nI E) := by
      rw [f6_fills_134]
      by_cases z : v6 ≤ 99
      · rw [if_pos z, if_pos z]
      · rw [if_neg z, if_neg z]
    rw [f6_fills_14]
    by_cases z : W ≤ E
    · rw [if_pos (nI_le z (by omega)), q]
    · rw [if_neg (show ¬ nI W ≤ nI E from nI_ge (by omega) (by omega)), if_pos (show (99 : Int32) ≤ nI E from nI_le (a := 99) (by omega) (by omega)), q]
  | succ m ih =>
    intro n n' p v6 has first full one hp hn hn' h
    obtain ⟨n, rfl⟩ : ∃ q, n = q + 1 := ⟨n - 1, by omega⟩
    obtain ⟨n', rfl⟩ : ∃ q, n' = q + 1 := ⟨n' - 1, by omega⟩
    obtain ⟨s, has', first', full', one', m1, m2, m3, m4⟩ := push_eq N hN hcav hc1 ht ht' (by omega) H h
    obtain ⟨n2, v6', has'', first'', full'', one'', g1, g2, g3, g4⟩ := ih n n' (p + 1) (if s ≤ v6 then v6 else s) has' first' full' one' (by omega) (by omega) (by omega) m2
    refine ⟨n2, v6', has'', first'', full'', one'', ?_, ?_, g3, fun k hk => (g4 k hk).trans (m3 k hk)⟩
    · have mx : (if v6 < s then s else v6) = if s ≤ v6 then v6 else s := by
        by_cases z : v6 < s
        · rw [if_pos z, if_neg (i_nle.mpr z)]
        · rw [if_neg z, if_pos (i_nlt.mp z)]
      rw [f2_fill_53, if_neg (show ¬ nI E ≤ nI p from nI_ge (by omega) (by omega)), m1, Option.bind_some, nI_1, mx]
      exact g1
    · rw [m4 n' (nI W) v6 (nI p) (nI_ge (by omega) (by omega)) (nI_ge (b := 99) (by omega) (by omega)), nI_1]
      exact g2
