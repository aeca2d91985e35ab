/-! why the filling ends -/
theorem why_eq (N : Nat) {k : Nat} {p t : Int32} {pr st now : Nat → Int32} (hk : k < 60) (hp : pr k = p) (H : ∀ j, j < 6 → now (1149 + j) = st j) : ∃ r : Int32, (r = -4 ∨ r = 0 ∨ r = 1 ∨ r = 2) ∧ (r = -4 → nI (k + 1) < st 2) ∧ f2_whySwitch N pr t (nI (k + 1)) st = some r ∧ f6_why N (nI (k + 1)) p now t = some r := by
  have c0 : Int32.toNatClampNeg 0 = 0 := rfl
  have c1 : Int32.toNatClampNeg 1 = 1 := rfl
  have c2 : Int32.toNatClampNeg 2 = 2 := rfl
  have d0 : Int32.toNatClampNeg 1149 = 1149 := rfl
  have d1 : Int32.toNatClampNeg 1150 = 1150 := rfl
  have d2 : Int32.toNatClampNeg 1151 = 1151 := rfl
  have n0 : now 1149 = st 0 := H 0 (by omega)
  have n1 : now 1150 = st 1 := H 1 (by omega)
  have n2 : now 1151 = st 2 := H 2 (by omega)
  have o1 : ok (nI k) 60 = true := ok_nI hk (by omega)
  rw [f2_whySwitch, f6_why, if_pos (show ok 0 6 = true by decide), if_pos (show ok 1149 1155 = true by decide), c0, d0, n0, nI_pred, if_pos o1, if_neg (show ¬ nI (k + 1) < 1 from nI_nlt (b := 1) (by omega) (by omega)), if_pos (show ok 1 6 = true by decide), if_pos (show ok 1150 1155 = true by decide), c1, d1, n1, cl_nI (by omega), hp, f2_whySwitch_45, if_pos (show ok 2 6 = true by decide), if_pos (show ok 1151 1155 = true by decide), c2, d2, n2]
  by_cases h : t < st 0
  · rw [if_pos h]
    by_cases h1 : p < st 1
    · rw [if_pos h1]
      by_cases h2 : nI (k + 1) < st 2
      · rw [if_pos h2]; exact ⟨_, .inl rfl, fun _ => h2, rfl, rfl⟩
      · rw [if_neg h2]; exact ⟨_, .inr (.inr (.inr rfl)), fun q => absurd q (by decide), rfl, rfl⟩
    · rw [if_neg h1]; exact ⟨_, .inr (.inr (.inl rfl)), fun q => absurd q (by decide), rfl, rfl⟩
  · rw [if_neg h]; exact ⟨_, .inr (.inl rfl), fun q => absurd q (by decide), rfl, rfl⟩
