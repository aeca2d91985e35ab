/-! a shot under way: the class's and the reference's -/
def RM (cav p : Nat) (has first full one : Nat → Int32) : Prop := (∀ c, cav ≤ c → c < 6 → full c = 0) ∧ ∀ c, c < cav → ∃ x f u : Nat, x ≤ p ∧ f < 61 ∧ u < 61 ∧ has c = nI x ∧ first c = nI f ∧ full c = nI u ∧ (x = 0 ↔ f = 0) ∧ one (66 + c) = nI x ∧ one (72 + c) = z4 (nI u) ∧ one (78 + c) = z4 (nI f)
theorem z4n {t : Nat} (h : 1 ≤ t) (h' : t < 61) : z4 (nI t) = nI t := if_neg (nI_ne0 (by omega) (by omega))
theorem melt_step (N : Nat) {cav p c t : Nat} {has first full vol tv one : Nat → Int32} (hcav : cav ≤ 6) (hc : c < cav) (ht : 1 ≤ t) (ht' : t < 61) (hp : p < 1000) (hv : tv c = vol c) (h : RM cav p has first full one) : ∃ has' first' full' one' : Nat → Int32, f2_addMelt N (nI c) has first full (nI t) vol = some (has', first', full') ∧ f6_comes N (nI c) (nI t) tv one = some one' ∧ RM cav (p + 1) has' first' full' one' ∧ ∀ k, k < 66 → one' k = one k := by
  obtain ⟨x, f, u, xp, f1, u1, hx, hf, hu, xf, h66, h72, h78⟩ := h.2 c hc
  refine ⟨_, _, _, _, melt_form N (by omega) hx (by omega), comes_form N (by omega) h66, ?_, ?_⟩
  · have F : (if x = 0 then upd first c (nI t) else first) c = nI (if x = 0 then t else f) := by
      by_cases q : x = 0
      · rw [if_pos q, if_pos q, up_s]
      · rw [if_neg q, if_neg q, hf]
    have G : (if nI (x + 1) = vol c then upd full c (nI t) else full) c = nI (if nI (x + 1) = vol c then t else u) := by
      by_cases q : nI (x + 1) = vol c
      · rw [if_pos q, if_pos q, up_s]
      · rw [if_neg q, if_neg q, hu]
    have A : (if one (78 + c) = -4 then nI t else one (78 + c)) = z4 (nI (if x = 0 then t else f)) := by
      rw [h78]
      by_cases q : x = 0
      · rw [if_pos q, xf.mp q, if_pos (show z4 (nI 0) = -4 from rfl), z4n ht ht']
      · have q' : 1 ≤ f := by have : ¬ f = 0 := fun z => q (xf.mpr z); omega
        rw [if_neg q, z4n q' f1, if_neg (nI_nm4 (by omega))]
    have B : (if nI (x + 1) = tv c then nI t else one (72 + c)) = z4 (nI (if nI (x + 1) = vol c then t else u)) := by
      rw [h72, hv]
      by_cases q : nI (x + 1) = vol c
      · rw [if_pos q, if_pos q, z4n ht ht']
      · rw [if_neg q, if_neg q]
    refine ⟨fun j hj hj6 => ?_, fun j hj => ?_⟩
    · by_cases q : nI (x + 1) = vol c
      · rw [if_pos q, up_n (by omega)]; exact h.1 j hj hj6
      · rw [if_neg q]; exact h.1 j hj hj6
    by_cases e : j = c
    · rw [e]
      refine ⟨x + 1, if x = 0 then t else f, if nI (x + 1) = vol c then t else u, by omega, by split <;> omega, by split <;> omega, up_s, F, G, ⟨fun z => by omega, fun z => ?_⟩, ?_, ?_, ?_⟩
      · exfalso
        by_cases q : x = 0
        · rw [if_pos q] at z; omega
        · rw [if_neg q] at z; exact q (xf.mpr z)
      · rw [up_n (by omega), up_n (by omega), up_s]
      · rw [up_s, B]
      · rw [up_n (by omega), up_s, A]
    · obtain ⟨x', f', u', xp', f1', u1', hx', hf', hu', xf', h66', h72', h78'⟩ := h.2 j hj
      refine ⟨x', f', u', by omega, f1', u1', (up_n e).trans hx', ?_, ?_, xf', ?_, ?_, ?_⟩
      · by_cases q : x = 0
        · rw [if_pos q, up_n e, hf']
        · rw [if_neg q, hf']
      · by_cases q : nI (x + 1) = vol c
        · rw [if_pos q, up_n e, hu']
        · rw [if_neg q, hu']
      · rw [up_n (by omega), up_n (by omega), up_n (by omega), h66']
      · rw [up_n (by omega), up_n (by omega), up_n (by omega), h72']
      · rw [up_n (by omega), up_n (by omega), up_n (by omega), h78']
  · intro k hk
    rw [up_n (by omega), up_n (by omega), up_n (by omega)]
