/-! the speed at the screw's place -/
def cl9 (x : Int32) : Int32 := if 1 ≤ x then (if x ≤ 9 then x else 9) else 1
theorem cl9_in (x : Int32) : 1 ≤ cl9 x ∧ cl9 x ≤ 9 := by
  unfold cl9
  by_cases h : 1 ≤ x
  · rw [if_pos h]
    by_cases h9 : x ≤ 9
    · rw [if_pos h9]; exact ⟨h, h9⟩
    · rw [if_neg h9]; exact ⟨by decide, by decide⟩
  · rw [if_neg h]; exact ⟨by decide, by decide⟩
theorem cl9_c (x : Int32) : (if 1 < (if x < 9 then x else 9) then if x < 9 then x else 9 else 1) = cl9 x := by
  unfold cl9
  have o : (1 : Int32).toInt = 1 := rfl
  have n : (9 : Int32).toInt = 9 := rfl
  by_cases h9 : x < 9
  · rw [if_pos h9, if_pos (show x ≤ 9 by rw [i_lt] at h9; rw [i_le]; omega)]
    by_cases h : 1 < x
    · rw [if_pos h, if_pos (show 1 ≤ x by rw [i_lt] at h; rw [i_le]; omega)]
    · rw [if_neg h]
      by_cases h1 : 1 ≤ x
      · rw [if_pos h1]
        rw [i_ti]; rw [i_lt] at h; rw [i_le] at h1; omega
      · rw [if_neg h1]
  · rw [if_neg h9, if_pos (show (1 : Int32) < 9 by decide), if_pos (show 1 ≤ x by rw [i_lt] at h9; rw [i_le]; omega)]
    by_cases h : x ≤ 9
    · rw [if_pos h]
      rw [i_ti]; rw [i_lt] at h9; rw [i_le] at h; omega
    · rw [if_neg h]
theorem here_tail (N : Nat) {stg b : Nat} {l t : Int32} {pl sp : Nat → Int32} (hstg : stg ≤ 4) (hb : b < 4) : ∀ (m n k : Nat), k + m = stg → m < n → (∀ j, k ≤ j → j < stg → t < pl j) → f2_speedHere_6 N n l (nI b) (nI k) t (nI stg) pl sp = some (cl9 (sp b + l)) := by
  intro m
  induction m with
  | zero =>
    intro n k hk hn ht
    obtain ⟨n, rfl⟩ : ∃ q, n = q + 1 := ⟨n - 1, by omega⟩
    rw [f2_speedHere_6, if_pos (nI_le (by omega) (by omega)), if_pos (ok_nI (n := 4) (k := b) hb (by omega)), cl_nI (by omega), cl9_c]
  | succ m ih =>
    intro n k hk hn ht
    obtain ⟨n, rfl⟩ : ∃ q, n = q + 1 := ⟨n - 1, by omega⟩
    rw [f2_speedHere_6, if_neg (show ¬ nI stg ≤ nI k from nI_ge (by omega) (by omega)), if_pos (ok_nI (n := 4) (k := k) (by omega) (by omega)), cl_nI (by omega), if_pos (ht k (by omega) (by omega)), nI_1]
    exact ih n (k + 1) (by omega) (by omega) (fun j h1 h2 => ht j (by omega) h2)
theorem at33 (N : Nat) {b : Nat} {l : Int32} {now sp : Nat → Int32} (hb : b < 4) (e : now (1145 + b) = sp b) : f6_speedAt_33 N l (nI b) now = some (cl9 (sp b + l)) := by
  rw [f6_speedAt_33, show (1145 : Int32) + nI b = nI (1145 + b) from addn 1145 b, if_pos (ok_nI (n := 1155) (k := 1145 + b) (by omega) (by omega)), cl_nI (by omega), e]
  unfold cl9
  by_cases h : 1 ≤ sp b + l
  · rw [if_pos h, if_pos h]
    by_cases h9 : sp b + l ≤ 9
    · rw [if_pos h9, if_pos h9]
    · rw [if_neg h9, if_neg h9]
  · rw [if_neg h, if_neg h]
theorem speed_lp (N : Nat) {stg : Nat} {l t : Int32} {pl tp sp now : Nat → Int32} (hstg : stg ≤ 4) (hm : ∀ k, k + 1 < stg → pl k ≤ pl (k + 1)) (H : ∀ k, k < stg → tp k = pl k ∧ now (1145 + k) = sp k) : ∀ (m n n' k : Nat), k + 1 + m = stg → m < n → m < n' → ∃ x : Int32, f2_speedHere_6 N n l (nI k) (nI (k + 1)) t (nI stg) pl sp = some (cl9 x) ∧ f6_speedAt_2 N n' l (nI k) (nI stg) tp now t = some (cl9 x) := by
  intro m
  induction m with
  | zero =>
    intro n n' k hk hn hn'
    obtain ⟨n', rfl⟩ : ∃ q, n' = q + 1 := ⟨n' - 1, by omega⟩
    refine ⟨_, here_tail N hstg (by omega) 0 n (k + 1) (by omega) (by omega) (fun j h1 h2 => by omega), ?_⟩
    rw [f6_speedAt_2, nI_1, if_pos (nI_le (by omega) (by omega))]
    exact at33 N (by omega) (H k (by omega)).2
  | succ m ih =>
    intro n n' k hk hn hn'
    obtain ⟨n', rfl⟩ : ∃ q, n' = q + 1 := ⟨n' - 1, by omega⟩
    rw [f6_speedAt_2, nI_1, if_neg (show ¬ nI stg ≤ nI (k + 1) from nI_ge (by omega) (by omega)), if_pos (ok_nI (n := 4) (k := k + 1) (by omega) (by omega)), cl_nI (by omega), (H (k + 1) (by omega)).1]
    by_cases h : t < pl (k + 1)
    · have mono : ∀ d, k + 1 + d < stg → t < pl (k + 1 + d) := by
        intro d
        induction d with
        | zero => intro _; exact h
        | succ d id =>
          intro hd
          have a := id (by omega)
          have b := hm (k + 1 + d) (by omega)
          rw [show k + 1 + (d + 1) = k + 1 + d + 1 by omega]
          rw [i_lt] at a ⊢
          rw [i_le] at b
          omega
      rw [if_pos h]
      refine ⟨_, here_tail N hstg (by omega) (m + 1) n (k + 1) (by omega) (by omega) (fun j h1 h2 => ?_), at33 N (by omega) (H k (by omega)).2⟩
      have q := mono (j - (k + 1)) (by omega)
      rw [show k + 1 + (j - (k + 1)) = j by omega] at q
      exact q
    · obtain ⟨n, rfl⟩ : ∃ q, n = q + 1 := ⟨n - 1, by omega⟩
      rw [if_neg h, f2_speedHere_6, if_neg (show ¬ nI stg ≤ nI (k + 1) from nI_ge (by omega) (by omega)), if_pos (ok_nI (n := 4) (k := k + 1) (by omega) (by omega)), cl_nI (by omega), if_neg h, nI_1]
      exact ih n n' (k + 1) (by omega) (by omega) (by omega)
theorem speed_eq (N : Nat) (hN : 5000 ≤ N) {stg : Nat} {l t : Int32} {pl tp sp now : Nat → Int32} (h1 : 1 ≤ stg) (hstg : stg ≤ 4) (hm : ∀ k, k + 1 < stg → pl k ≤ pl (k + 1)) (H : ∀ k, k < stg → tp k = pl k ∧ now (1145 + k) = sp k) : ∃ r : Int32, (1 ≤ r ∧ r ≤ 9) ∧ f2_speedHere N l t (nI stg) pl sp = some r ∧ f6_speedAt N l (nI stg) tp now t = some r := by
  obtain ⟨x, r1, r2⟩ := speed_lp N (l := l) (t := t) hstg hm H (stg - 1) N N 0 (by omega) (by omega) (by omega)
  exact ⟨_, cl9_in x, r1, r2⟩
