/-! count, the question -/
theorem eq_count (N : Nat) (hN : 5000 ≤ N) (l1 xl : Int32) {cav cor stg d : Nat} {v : tO} {H : Nat → tO} {a vol tv : Nat → Int32} {m : Nat} (hcav : cav ≤ 6) (hcor : cor ≤ 4) (h : RS cav cor stg v H a m) (hv : ∀ c, c < cav → tv c = vol c ∧ ∃ k : Nat, k ≤ 30 ∧ vol c = nI k) : ∃ r : Int32, f5_count N l1 (nI d) (nI cav) vol (nI cor) (nI stg) (v.1 0) (v.1 1) (v.1 2) (v.1 3) (v.1 4) (v.1 5) (v.1 6) (v.1 7) (v.1 8) (v.2 3) (v.2 4) xl H = some r ∧ f6_count N l1 xl (nI cav) tv (nI cor) (nI stg) a (nI d) = some r := by
  obtain ⟨hm6, v4, a9, a8⟩ := h.1
  obtain ⟨a10, b10⟩ := h.2.1
  obtain ⟨y, hy, a11, v1⟩ := h.2.2.1
  obtain ⟨a12, b12⟩ := h.2.2.2.1
  obtain ⟨a13, b13⟩ := h.2.2.2.2.1
  obtain ⟨w, hw20, a18, v5⟩ := h.2.2.2.2.2.1
  obtain ⟨T, hT, a15, v6, v8, hT1⟩ := h.2.2.2.2.2.2.1
  have fl : ∀ {z : Int32}, isb z = true → (if z = 0 then some (0 : Int32) else some 1) = some z := by
    intro z hz
    rcases of_decide_eq_true hz with q | q <;> subst q <;> rfl
  rw [f5_count, f6_count]
  by_cases e0 : l1 = 0
  · rw [if_pos e0, if_pos e0]
    exact ⟨_, rfl, rfl⟩
  rw [if_neg e0, if_neg e0]
  by_cases e1 : l1 = 1
  · rw [if_pos e1, if_pos e1]
    exact ⟨_, rfl, rfl⟩
  rw [if_neg e1, if_neg e1]
  by_cases e2 : l1 = 2
  · rw [if_pos e2, if_pos e2]
    exact ⟨_, rfl, rfl⟩
  rw [if_neg e2, if_neg e2]
  by_cases e3 : l1 = 3
  · rw [if_pos e3, if_pos e3]
    rw [fl b10, if_pos (show ok 1010 1155 = true by decide), show Int32.toNatClampNeg 1010 = 1010 from rfl, a10]
    exact ⟨_, rfl, rfl⟩
  rw [if_neg e3, if_neg e3]
  by_cases e4 : l1 = 4
  · rw [if_pos e4, if_pos e4]
    rw [if_pos (show ok 1011 1155 = true by decide), show Int32.toNatClampNeg 1011 = 1011 from rfl, a11, v1, bits_eq N hN y (pow4 hcor hy)]
    exact ⟨_, rfl, rfl⟩
  rw [if_neg e4, if_neg e4]
  by_cases e5 : l1 = 5
  · rw [if_pos e5, if_pos e5]
    rw [fl b12, if_pos (show ok 1012 1155 = true by decide), show Int32.toNatClampNeg 1012 = 1012 from rfl, a12]
    exact ⟨_, rfl, rfl⟩
  rw [if_neg e5, if_neg e5]
  by_cases e6 : l1 = 6
  · rw [if_pos e6, if_pos e6]
    rw [v4, kept_eq hm6, if_pos (show ok 1008 1155 = true by decide), show Int32.toNatClampNeg 1008 = 1008 from rfl, a8]
    exact ⟨_, rfl, rfl⟩
  rw [if_neg e6, if_neg e6]
  by_cases e7 : l1 = 7
  · rw [if_pos e7, if_pos e7]
    rw [v4, if_pos (show ok 1009 1155 = true by decide), show Int32.toNatClampNeg 1009 = 1009 from rfl, a9]
    exact ⟨_, rfl, rfl⟩
  rw [if_neg e7, if_neg e7]
  by_cases e8 : l1 = 8
  · rw [if_pos e8, if_pos e8]
    rw [v6, if_pos (show ok 1015 1155 = true by decide), show Int32.toNatClampNeg 1015 = 1015 from rfl, a15]
    exact ⟨_, rfl, rfl⟩
  rw [if_neg e8, if_neg e8]
  by_cases e9 : l1 = 9
  · rw [if_pos e9, if_pos e9]
    rw [v5, if_pos (show ok 1018 1155 = true by decide), show Int32.toNatClampNeg 1018 = 1018 from rfl, a18]
    exact ⟨_, rfl, rfl⟩
  rw [if_neg e9, if_neg e9]
  by_cases e10 : l1 = 10
  · rw [if_pos e10, if_pos e10]
    obtain ⟨r, r1, r2⟩ := cnt_lp N hN (tv := tv) hcav h hv (min m 12) N 0 0 (by omega) (by omega)
    rw [f5_badShots, v4, show f5_badShots_4 N N 0 0 (nI cav) vol (nI m) (v.1 5) (v.1 6) (v.1 7) (v.1 8) (v.2 3) (v.2 4) H = some r from r1, show f6_count_161 N N 0 0 (nI cav) tv a = some r from r2]
    exact ⟨_, rfl, rfl⟩
  rw [if_neg e10, if_neg e10]
  by_cases e11 : l1 = 11
  · rw [if_pos e11, if_pos e11]
    obtain ⟨b, r1, r2⟩ := ready_eq N hcor hy a11 a10 b10
    rw [v1, r1, r2]
    cases b <;> exact ⟨_, rfl, rfl⟩
  rw [if_neg e11, if_neg e11]
  by_cases e12 : l1 = 12
  · rw [if_pos e12, if_pos e12]
    exact ⟨_, rfl, rfl⟩
  rw [if_neg e12, if_neg e12]
  by_cases e13 : l1 = 13
  · rw [if_pos e13, if_pos e13]
    exact ⟨_, rfl, rfl⟩
  rw [if_neg e13, if_neg e13]
  by_cases e14 : l1 = 14
  · rw [if_pos e14, if_pos e14]
    rw [fl b13, if_pos (show ok 1013 1155 = true by decide), show Int32.toNatClampNeg 1013 = 1013 from rfl, a13]
    exact ⟨_, rfl, rfl⟩
  rw [if_neg e14, if_neg e14]
  exact ⟨_, rfl, rfl⟩
