/-! AMISS, far off -/
theorem amiss_lp (N : Nat) {s : Nat} {w : Int32} {le gr pr a : Nat → Int32} (hs : s < 12) (hw : a 1018 = w) (hp : ∀ k, k < 60 → a (84 * s + (6 + k)) = pr k) (hb : ∀ k, k < 60 → a (1019 + k) = le k ∧ a (1079 + k) = gr k) : ∀ (m n k : Nat) (ct : Int32), k + m = 60 → m < n → ∃ r : Int32, f0_amissIn_5 N n w ct (nI k) le gr pr = some r ∧ f6_amiss_4 N n (nI s) ct (nI k) a = some r := by
  intro m
  induction m with
  | zero =>
    intro n k ct hk hn
    obtain ⟨n, rfl⟩ : ∃ n', n = n' + 1 := ⟨n - 1, by omega⟩
    rw [f0_amissIn_5, f6_amiss_4, if_pos (show (60 : Int32) ≤ nI k from nI_le (a := 60) (by omega) (by omega)), if_pos (show (60 : Int32) ≤ nI k from nI_le (a := 60) (by omega) (by omega))]
    exact ⟨_, rfl, rfl⟩
  | succ m ih =>
    intro n k ct hk hn
    obtain ⟨n, rfl⟩ : ∃ n', n = n' + 1 := ⟨n - 1, by omega⟩
    have k60 : k < 60 := by omega
    obtain ⟨b1, b2⟩ := hb k k60
    have e60 : ok (nI k) 60 = true := ok_nI k60 (by omega)
    have i6 : (84 : Int32) * nI s + 6 + nI k = nI (84 * s + (6 + k)) := by
      rw [show (84 : Int32) * nI s + 6 = nI (84 * s + 6) from a84 s 6, addn]
      congr 1; omega
    obtain ⟨r1, g1, g2⟩ := ih n (k + 1) (ct + 1) (by omega) (by omega)
    obtain ⟨r2, g3, g4⟩ := ih n (k + 1) ct (by omega) (by omega)
    rw [f0_amissIn_5, f6_amiss_4, if_neg (show ¬ (60 : Int32) ≤ nI k from nI_ge (b := 60) k60 (by omega)), if_neg (show ¬ (60 : Int32) ≤ nI k from nI_ge (b := 60) k60 (by omega)), if_pos e60, if_pos e60, if_pos e60, i6, show (1019 : Int32) + nI k = nI (1019 + k) from addn 1019 k, show (1079 : Int32) + nI k = nI (1079 + k) from addn 1079 k, if_pos (ok_nI (n := 1155) (k := 84 * s + (6 + k)) (by omega) (by omega)), if_pos (ok_nI (n := 1155) (k := 1019 + k) (by omega) (by omega)), if_pos (show ok 1018 1155 = true by decide), if_pos (ok_nI (n := 1155) (k := 1079 + k) (by omega) (by omega)), if_pos (show ok 1018 1155 = true by decide), cl_nI (show 84 * s + (6 + k) < 2 ^ 31 by omega), cl_nI (show 1019 + k < 2 ^ 31 by omega), cl_nI (show 1079 + k < 2 ^ 31 by omega), cl_nI (show k < 2 ^ 31 by omega), show Int32.toNatClampNeg 1018 = 1018 from rfl, hw, hp k k60, b1, b2, nI_1]
    by_cases h1 : pr k < le k - w
    · rw [if_pos h1, if_pos h1]
      exact ⟨r1, g1, g2⟩
    · rw [if_neg h1, if_neg h1]
      by_cases h2 : pr k ≤ gr k + w
      · rw [if_pos h2, if_pos h2, Int32.add_zero]
        exact ⟨r2, g3, g4⟩
      · rw [if_neg h2, if_neg h2]
        exact ⟨r1, g1, g2⟩
theorem amiss_eq (N : Nat) (hN : 5000 ≤ N) {s : Nat} {w : Int32} {le gr pr a : Nat → Int32} (hs : s < 12) (hw : a 1018 = w) (hp : ∀ k, k < 60 → a (84 * s + (6 + k)) = pr k) (hb : ∀ k, k < 60 → a (1019 + k) = le k ∧ a (1079 + k) = gr k) : ∃ r : Int32, f0_amissIn N w le gr pr = some r ∧ f6_amiss N (nI s) a = some r :=
  amiss_lp N hs hw hp hb 60 N 0 0 (by omega) (by omega)
/-- a cavity is far off: from k on, m cavities -/
def farB (vol has : Nat → Int32) : Nat → Nat → Bool
  | _, 0 => false
  | k, m + 1 => decide ((has k).toInt - (vol k).toInt ≥ 2 ∨ (vol k).toInt - (has k).toInt ≥ 2) || farB vol has (k + 1) m
theorem farOff_lp (N : Nat) {cav : Nat} {vol has : Nat → Int32} (hcav : cav ≤ 6) (hr : ∀ c, c < cav → (∃ x : Nat, x ≤ 200 ∧ has c = nI x) ∧ ∃ v : Nat, v ≤ 30 ∧ vol c = nI v) : ∀ (m n k : Nat), k + m = cav → m < n → f2_isFarOff_2 N n (nI k) has (nI cav) vol = some (bi (farB vol has k m)) := by
  intro m
  induction m with
  | zero =>
    intro n k hk hn
    obtain ⟨n, rfl⟩ : ∃ n', n = n' + 1 := ⟨n - 1, by omega⟩
    rw [f2_isFarOff_2, if_pos (nI_le (by omega) (by omega))]
    rfl
  | succ m ih =>
    intro n k hk hn
    obtain ⟨n, rfl⟩ : ∃ n', n = n' + 1 := ⟨n - 1, by omega⟩
    obtain ⟨⟨x, hx, ex⟩, v, hv, ev⟩ := hr k (by omega)
    have e6 : ok (nI k) 6 = true := ok_nI (by omega) (by omega)
    have t1 := nI_toInt (n := x) (by omega)
    have t2 := nI_toInt (n := v) (by omega)
    have sI : (nI x - nI v).toInt = (x : Int) - v := by rw [i_sub (by omega) (by omega), t1, t2]
    have z0 : (0 : Int32).toInt = 0 := rfl
    have z2 : (2 : Int32).toInt = 2 := rfl
    rw [f2_isFarOff_2, if_neg (nI_ge (by omega) (by omega)), if_pos e6, if_pos e6, cl_nI (by omega), nI_1, ih n (k + 1) (by omega) (by omega), ex, ev, farB, ex, ev, t1, t2]
    by_cases h0 : 0 ≤ nI x - nI v
    · rw [if_pos h0]
      rw [i_le, sI, z0] at h0
      by_cases h2 : nI x - nI v < 2
      · rw [if_pos h2]
        rw [i_lt, sI, z2] at h2
        rw [decide_eq_false (by omega), Bool.false_or]
      · rw [if_neg h2]
        rw [i_lt, sI, z2] at h2
        rw [decide_eq_true (by omega), Bool.true_or]
        rfl
    · rw [if_neg h0]
      rw [i_le, sI, z0] at h0
      have sJ : (0 - (nI x - nI v)).toInt = (v : Int) - x := by rw [i_sub (by omega) (by omega), sI, z0]; omega
      by_cases h2 : 0 - (nI x - nI v) < 2
      · rw [if_pos h2]
        rw [i_lt, sJ, z2] at h2
        rw [decide_eq_false (by omega), Bool.false_or]
      · rw [if_neg h2]
        rw [i_lt, sJ, z2] at h2
        rw [decide_eq_true (by omega), Bool.true_or]
        rfl
