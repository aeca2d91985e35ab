/-! count -/
theorem cnt_lp (N : Nat) (hN : 5000 ≤ N) {cav cor stg : Nat} {v : tO} {H : Nat → tO} {a vol tv : Nat → Int32} {m : Nat} (hcav : cav ≤ 6) (h : RS cav cor stg v H a m) (hv : ∀ c, c < cav → tv c = vol c ∧ ∃ k : Nat, k ≤ 30 ∧ vol c = nI k) : ∀ (j n k : Nat) (x : Int32), k + j = min m 12 → j < n → ∃ r : Int32, f5_badShots_4 N n x (nI k) (nI cav) vol (nI m) (v.1 5) (v.1 6) (v.1 7) (v.1 8) (v.2 3) (v.2 4) H = some r ∧ f6_count_161 N n x (nI k) (nI cav) tv a = some r := by
  obtain ⟨hm6, v4, -, a8⟩ := h.1
  intro j
  induction j with
  | zero =>
    intro n k x hk hn'
    obtain ⟨n, rfl⟩ : ∃ n', n = n' + 1 := ⟨n - 1, by omega⟩
    rw [f5_badShots_4, f6_count_161, f5_keptShots, kept_eq hm6, if_pos (show ok 1008 1155 = true by decide), show Int32.toNatClampNeg 1008 = 1008 from rfl, a8, Option.bind_some, if_pos (nI_le (by omega) (by omega)), if_pos (nI_le (by omega) (by omega))]
    exact ⟨_, rfl, rfl⟩
  | succ j ih =>
    intro n k x hk hn'
    obtain ⟨n, rfl⟩ : ∃ n', n = n' + 1 := ⟨n - 1, by omega⟩
    have hs : k < min m 12 := by omega
    obtain ⟨B, B1, B2⟩ := eq_isBad N hN (tv := tv) hcav h hs hv (g := H (hx (nI m) (nI k))) rfl
    have e16 : ok (fmodJ ((nI m - (if (12 : Int32) < nI m then 12 else nI m)) + nI k) 16) 16 = true := by
      rw [kx_eq hm6 (by omega), fmod_eq (by omega)]
      exact ok_nI (Nat.mod_lt _ (by decide)) (by omega)
    rw [f5_badShots_4, f6_count_161, keptShot_ok N hm6 (by omega), if_pos e16, if_pos (show ok 1008 1155 = true by decide), show Int32.toNatClampNeg 1008 = 1008 from rfl, a8, B2]
    rw [show Int32.toNatClampNeg (fmodJ ((nI m - (if (12 : Int32) < nI m then 12 else nI m)) + nI k) 16) = hx (nI m) (nI k) from rfl, B1, f5_keptShots, kept_eq hm6]
    rw [Option.bind_some, Option.bind_some, Option.bind_some, Option.bind_some, if_neg (nI_ge (by omega) (by omega)), if_neg (nI_ge (by omega) (by omega)), show nI k + 1 = nI (k + 1) from nI_1 k]
    cases B with
    | false =>
      rw [if_pos (show bi false = 0 from rfl), if_pos (show bi false = 0 from rfl), Int32.add_zero]
      exact ih n (k + 1) _ (by omega) (by omega)
    | true =>
      rw [if_neg (show ¬ bi true = 0 by decide), if_neg (show ¬ bi true = 0 by decide)]
      exact ih n (k + 1) _ (by omega) (by omega)
