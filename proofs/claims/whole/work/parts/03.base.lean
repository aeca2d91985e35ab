/-- an index inside a row -/
def ok (i : Int32) (n : Nat) : Bool := decide (0 ≤ i.toInt ∧ i.toInt < n)
theorem ok_in {i : Int32} {n : Nat} (h : ok i n = true) : vp_in i n := vp_in_iff.mpr (of_decide_eq_true h)
theorem if_some {α : Type} {b : Prop} [Decidable b] {x : Option α} {r : α} (h : (if b then x else none) = some r) : b ∧ x = some r := by
  by_cases hb : b
  · rw [if_pos hb] at h; exact ⟨hb, h⟩
  · rw [if_neg hb] at h; cases h
