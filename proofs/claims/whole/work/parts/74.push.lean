/-! a unit is pushed in -/
theorem push_eq (N : Nat) (hN : 5000 ≤ N) {cav p t : Nat} {has first full vol drags tv now one : Nat → Int32} (hcav : cav ≤ 6) (hc1 : 1 ≤ cav) (ht : 1 ≤ t) (ht' : t < 61) (hp : p < 1000) (H : ∀ c, c < cav → tv c = vol c ∧ now (1139 + c) = drags c) (h : RM cav p has first full one) : ∃ (s : Int32) (has' first' full' one' : Nat → Int32), f2_push N has first full (nI t) (nI cav) vol drags = some (s, has', first', full') ∧ RM cav (p + 1) has' first' full' one' ∧ (∀ k, k < 66 → one' k = one k) ∧
    ∀ (n : Nat) (v3 v4 sc : Int32), ¬ v3 ≤ sc → ¬ 99 ≤ sc → f6_fills_14 N (n + 1) (nI t) v3 v4 (nI cav) tv now one sc = f6_fills_14 N n (nI t) v3 (if s ≤ v4 then v4 else s) (nI cav) tv now one' (sc + 1) := by
  obtain ⟨b, hb, e6, hcase⟩ := easiest_eq N hN (has := has) (vol := vol) (drags := drags) (tv := tv) (now := now) (one := one) hcav hc1 (fun c hc => by
    obtain ⟨x, f, u, -, -, -, hx, -, -, -, h66, -⟩ := h.2 c hc
    exact ⟨(H c hc).1, (H c hc).2, h66.trans hx.symm⟩)
  obtain ⟨has', first', full', one', m1, m2, m3, m4⟩ := melt_step N (vol := vol) (tv := tv) hcav hb ht ht' hp (H b hb).1 h
  obtain ⟨x, f, u, -, -, -, hx, -, -, -, h66, -⟩ := h.2 b hb
  obtain ⟨t1, t2⟩ := H b hb
  have o0 : ok (nI b) 6 = true := ok_nI (by omega) (by omega)
  have x1 : (66 : Int32) + nI b = nI (66 + b) := addn 66 b
  have x2 : (1139 : Int32) + nI b = nI (1139 + b) := addn 1139 b
  have o1 : ok (nI (66 + b)) 84 = true := ok_nI (by omega) (by omega)
  have o2 : ok (nI (1139 + b)) 1155 = true := ok_nI (by omega) (by omega)
  have c0 : Int32.toNatClampNeg (nI b) = b := cl_nI (by omega)
  have c1 : Int32.toNatClampNeg (nI (66 + b)) = 66 + b := cl_nI (by omega)
  have c2 : Int32.toNatClampNeg (nI (1139 + b)) = 1139 + b := cl_nI (by omega)
  have fin : ∀ (K : Int32 → Int32 → Int32 → Int32 → (Nat → Int32) → (Nat → Int32) → (Nat → Int32) → Int32 → Option (Int32 × (Nat → Int32) × Int32)) (s v3 v4 sc : Int32), f6_fills_96 K N (nI t) v3 v4 (nI b) s (nI cav) tv now one sc = K (nI t) v3 (if s ≤ v4 then v4 else s) (nI cav) tv now one' (sc + 1) := by
    intro K s v3 v4 sc
    rw [f6_fills_96]
    by_cases q : s ≤ v4
    · rw [if_pos q, if_pos q, f6_fills_112, m2, Option.bind_some]
    · rw [if_neg q, if_neg q, f6_fills_112, m2, Option.bind_some]
  rcases hcase with ⟨hw, q0⟩ | ⟨q0, hw, q1⟩
  · refine ⟨drags b * (has b + 1), has', first', full', one', ?_, m3, m4, ?_⟩
    · rw [f2_push, q0, Option.bind_some, if_neg (nI_nm4 (by omega)), if_pos o0, if_pos o0, c0, f2_push_70, m1, Option.bind_some]
    · intro n v3 v4 sc z1 z2
      rw [f6_fills_14, if_neg z1, if_neg z2, e6, Option.bind_some, x1, x2, if_pos o1, if_pos o0, if_pos o2, if_pos o2, c0, c1, c2, t1, t2, h66, ← hx, if_neg (i_nle.mpr hw), fin]
  · refine ⟨(3 * drags b) * has b, has', first', full', one', ?_, m3, m4, ?_⟩
    · rw [f2_push, q0, Option.bind_some, if_pos (show (-4 : Int32) = -4 from rfl), q1, Option.bind_some, if_neg (nI_nm4 (by omega)), if_pos o0, if_pos o0, c0, f2_push_70, m1, Option.bind_some]
    · intro n v3 v4 sc z1 z2
      rw [f6_fills_14, if_neg z1, if_neg z2, e6, Option.bind_some, x1, x2, if_pos o1, if_pos o0, if_pos o2, if_pos o2, c0, c1, c2, t1, t2, h66, ← hx, if_pos (i_nlt.mp hw), fin]
