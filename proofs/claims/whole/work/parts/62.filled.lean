/-! filled -/
theorem pos_eq {x : Int32} : (if x ≤ 0 then some (0 : Int32) else some x) = some (if 0 < x then x else 0) := by
  by_cases h : x ≤ 0
  · rw [if_pos h, if_neg (i_nlt.mpr h)]
  · rw [if_neg h, if_pos (i_nle.mp h)]
theorem five_iff {c : Int32} : (0 ≤ c ∧ c ≤ 4) ↔ (c = 0 ∨ c = 1 ∨ c = 2 ∨ c = 3 ∨ c = 4) := by
  rw [i_le, i_le, i_ti, i_ti, i_ti, i_ti, i_ti]
  have z : (0 : Int32).toInt = 0 := rfl
  have o : (1 : Int32).toInt = 1 := rfl
  have t : (2 : Int32).toInt = 2 := rfl
  have u : (3 : Int32).toInt = 3 := rfl
  have w : (4 : Int32).toInt = 4 := rfl
  omega
theorem z4_eq (x : Int32) : (if x = 0 then some (-4 : Int32) else some x) = some (z4 x) := by
  rw [z4]
  by_cases h : x = 0
  · rw [if_pos h, if_pos h]
  · rw [if_neg h, if_neg h]
theorem shortBy_eq (N : Nat) {s c : Nat} {tv a : Nat → Int32} (hs : s < 12) (hc : c < 6) : f6_shortBy N (nI s) (nI c) tv a = some (if 0 < tv c - a (84 * s + (66 + c)) then tv c - a (84 * s + (66 + c)) else 0) := by
  rw [f6_shortBy, if_pos (ok_nI (n := 6) hc (by omega)), show (84 : Int32) * nI s + 66 = nI (84 * s + 66) from a84 s 66, addn, show 84 * s + 66 + c = 84 * s + (66 + c) by omega, if_pos (ok_nI (n := 1155) (by omega) (by omega)), cl_nI (by omega), cl_nI (by omega)]
  exact pos_eq
theorem overBy_eq (N : Nat) {s c : Nat} {tv a : Nat → Int32} (hs : s < 12) (hc : c < 6) : f6_overBy N (nI s) (nI c) tv a = some (if 0 < a (84 * s + (66 + c)) - tv c then a (84 * s + (66 + c)) - tv c else 0) := by
  rw [f6_overBy, show (84 : Int32) * nI s + 66 = nI (84 * s + 66) from a84 s 66, addn, show 84 * s + 66 + c = 84 * s + (66 + c) by omega, if_pos (ok_nI (n := 1155) (by omega) (by omega)), if_pos (ok_nI (n := 6) hc (by omega)), cl_nI (by omega), cl_nI (by omega)]
  exact pos_eq
theorem eq_filled (N : Nat) (l1 l2 l3 : Int32) {cav cor stg : Nat} {v : tO} {H : Nat → tO} {a vol tv : Nat → Int32} {m : Nat} (hcav : cav ≤ 6) (h : RS cav cor stg v H a m) (hv : ∀ c, c < cav → tv c = vol c) : ∃ r : Int32, f5_filled N l1 l2 l3 (nI cav) vol (v.1 4) ((H (hx (v.1 4) l1)).2 0) ((H (hx (v.1 4) l1)).2 1) ((H (hx (v.1 4) l1)).2 2) = some r ∧ f6_filled N l1 l2 l3 (nI cav) tv a = some r := by
  obtain ⟨hm6, v4, -, a8⟩ := h.1
  rw [f5_filled, f6_filled, v4, c_isShot N l1 hm6, r_isShot N l1 a8, c_isCavity N l2 (by omega), r_isCavity N l2 (by omega), isIn_eq]
  show ∃ r, (if bi (ok l1 _) = 0 then _ else (if bi _ = 0 then _ else _)) = some r ∧ (if bi (ok l1 _) = 0 then _ else (if bi _ = 0 then _ else (if bi _ = 0 then _ else _))) = some r
  by_cases hk : ok l1 (min m 12) = true
  · obtain ⟨s, hs, rfl⟩ := ok_of hk (by omega)
    rw [if_neg (bi_1 hk), if_neg (bi_1 hk)]
    by_cases h2 : ok l2 cav = true
    · obtain ⟨c, hc, rfl⟩ := ok_of h2 (by omega)
      obtain ⟨-, -, -, -, -, -, -, hcv, -⟩ := RS_shot h hs
      obtain ⟨-, g1, g2, g3⟩ := hcv c hc
      have e6 : ok (nI c) 6 = true := ok_nI (by omega) (by omega)
      have e1 : a (84 * s + (66 + c)) = (H (hx (nI m) (nI s))).2 0 c := g1
      have e2 : a (84 * s + (72 + c)) = z4 ((H (hx (nI m) (nI s))).2 2 c) := g2
      have e3 : a (84 * s + (78 + c)) = z4 ((H (hx (nI m) (nI s))).2 1 c) := g3
      have ix : ∀ k : Nat, k ≤ 78 → ok ((84 : Int32) * nI s + nI k + nI c) 1155 = true ∧ Int32.toNatClampNeg ((84 : Int32) * nI s + nI k + nI c) = 84 * s + (k + c) := by
        intro k hk
        rw [a84, addn, show 84 * s + k + c = 84 * s + (k + c) by omega]
        exact ⟨ok_nI (by omega) (by omega), cl_nI (by omega)⟩
      rw [if_neg (bi_1 h2), if_neg (bi_1 h2), keptShot_ok N hm6 (by omega), shortBy_eq N (by omega) (by omega), overBy_eq N (by omega) (by omega), e1, hv c hc]
      show ∃ r, (if ok (nI c) 6 = true then (if ok (nI c) 6 = true then _ else none) else none) = some r ∧ _
      rw [if_pos e6, if_pos e6, cl_nI (show c < 2 ^ 31 by omega)]
      by_cases w0 : l3 = 0
      · rw [if_pos w0, if_pos w0, if_neg (bi_1 (decide_eq_true (five_iff.mpr (Or.inl w0)))), if_pos (show ok ((84 : Int32) * nI s + 66 + nI c) 1155 = true from (ix 66 (by omega)).1), show Int32.toNatClampNeg ((84 : Int32) * nI s + 66 + nI c) = _ from (ix 66 (by omega)).2, e1]
        exact ⟨_, rfl, rfl⟩
      · rw [if_neg w0, if_neg w0]
        by_cases w1 : l3 = 1
        · rw [if_pos w1, if_pos w1, if_neg (bi_1 (decide_eq_true (five_iff.mpr (Or.inr (Or.inl w1)))))]
          exact ⟨_, rfl, rfl⟩
        · rw [if_neg w1, if_neg w1]
          by_cases w2 : l3 = 2
          · rw [if_pos w2, if_pos w2, if_neg (bi_1 (decide_eq_true (five_iff.mpr (Or.inr (Or.inr (Or.inl w2))))))]
            exact ⟨_, rfl, rfl⟩
          · rw [if_neg w2, if_neg w2]
            by_cases w3 : l3 = 3
            · rw [if_pos w3, if_pos w3, if_neg (bi_1 (decide_eq_true (five_iff.mpr (Or.inr (Or.inr (Or.inr (Or.inl w3))))))), if_pos (show ok ((84 : Int32) * nI s + 72 + nI c) 1155 = true from (ix 72 (by omega)).1), show Int32.toNatClampNeg ((84 : Int32) * nI s + 72 + nI c) = _ from (ix 72 (by omega)).2, e2, if_pos e6, if_pos e6, z4_eq]
              exact ⟨_, rfl, rfl⟩
            · rw [if_neg w3, if_neg w3]
              by_cases w4 : l3 = 4
              · rw [if_pos w4, if_neg (bi_1 (decide_eq_true (five_iff.mpr (Or.inr (Or.inr (Or.inr (Or.inr w4))))))), if_pos (show ok ((84 : Int32) * nI s + 78 + nI c) 1155 = true from (ix 78 (by omega)).1), show Int32.toNatClampNeg ((84 : Int32) * nI s + 78 + nI c) = _ from (ix 78 (by omega)).2, e3, if_pos e6, if_pos e6, z4_eq]
                exact ⟨_, rfl, rfl⟩
              · rw [if_neg w4, if_pos (bi_0 (fun q => (five_iff.mp (of_decide_eq_true q)).elim w0 (fun q => q.elim w1 (fun q => q.elim w2 (fun q => q.elim w3 w4)))))]
                exact ⟨_, rfl, rfl⟩
    · rw [if_pos (bi_0 h2), if_pos (bi_0 h2)]
      exact ⟨_, rfl, rfl⟩
  · rw [if_pos (bi_0 hk), if_pos (bi_0 hk)]
    exact ⟨_, rfl, rfl⟩
