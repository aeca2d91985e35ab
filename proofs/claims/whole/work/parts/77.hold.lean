/-! a tick of the hold -/
theorem hold_in (N : Nat) {cav t : Nat} {vol frz drags tv tf now pr : Nat → Int32} {v3 v4 : Int32} (K : Int32 → Int32 → Int32 → (Nat → Int32) → (Nat → Int32) → (Nat → Int32) → (Nat → Int32) → Int32 → Int32 → Int32 → (Nat → Int32) → (Nat → Int32) → (Nat → Int32) → Option ((Nat → Int32) × (Nat → Int32) × (Nat → Int32) × (Nat → Int32) × Int32 × Int32)) (hcav : cav ≤ 6) (ht : 1 ≤ t) (ht' : t < 61) (H : ∀ c, c < cav → tv c = vol c ∧ now (1139 + c) = drags c ∧ tf c = frz c) (h3 : now 1152 = v3) : ∀ (m n n' c p : Nat) (has first full one : Nat → Int32), c + m = cav → m < n → m < n' → p ≤ 99 → RM cav p has first full one → ∃ (n2 p' : Nat) (has' first' full' one' : Nat → Int32), p' ≤ 99 ∧
    f2_hold_49 K N n v3 v4 (nI t) (nI c) has first full pr (nI p) (nI t) (nI cav) vol frz drags = f2_hold_49 K N (n2 + 1) v3 v4 (nI t) (nI cav) has' first' full' pr (nI p') (nI t) (nI cav) vol frz drags ∧ f6_holds_2 N n' (nI t) (nI c) (nI cav) tv tf now one (nI p) = some (one', nI p') ∧ RM cav p' has' first' full' one' ∧ ∀ k, k < 66 → one' k = one k := by
  intro m
  induction m with
  | zero =>
    intro n n' c p has first full one hk hn hn' hp h
    obtain ⟨n, rfl⟩ : ∃ q, n = q + 1 := ⟨n - 1, by omega⟩
    obtain ⟨n', rfl⟩ : ∃ q, n' = q + 1 := ⟨n' - 1, by omega⟩
    have e : c = cav := by omega
    rw [e]
    refine ⟨n, p, has, first, full, one, hp, rfl, ?_, h, fun _ _ => rfl⟩
    rw [f6_holds_2, if_pos (nI_le (Nat.le_refl _) (by omega))]
  | succ m ih =>
    intro n n' c p has first full one hk hn hn' hp h
    obtain ⟨n, rfl⟩ : ∃ q, n = q + 1 := ⟨n - 1, by omega⟩
    obtain ⟨n', rfl⟩ : ∃ q, n' = q + 1 := ⟨n' - 1, by omega⟩
    have hc : c < cav := by omega
    obtain ⟨x, f, u, xp, f1, u1, hx, hf, hu, xf, h66, h72, h78⟩ := h.2 c hc
    obtain ⟨t1, t2, t3⟩ := H c hc
    have x1 : (66 : Int32) + nI c = nI (66 + c) := addn 66 c
    have x2 : (1139 : Int32) + nI c = nI (1139 + c) := addn 1139 c
    have x3 : (78 : Int32) + nI c = nI (78 + c) := addn 78 c
    have o0 : ok (nI c) 6 = true := ok_nI (by omega) (by omega)
    have o1 : ok (nI (66 + c)) 84 = true := ok_nI (by omega) (by omega)
    have o2 : ok (nI (1139 + c)) 1155 = true := ok_nI (by omega) (by omega)
    have o3 : ok (nI (78 + c)) 84 = true := ok_nI (by omega) (by omega)
    have c0 : Int32.toNatClampNeg (nI c) = c := cl_nI (by omega)
    have c1 : Int32.toNatClampNeg (nI (66 + c)) = 66 + c := cl_nI (by omega)
    have c2 : Int32.toNatClampNeg (nI (1139 + c)) = 1139 + c := cl_nI (by omega)
    have c3 : Int32.toNatClampNeg (nI (78 + c)) = 78 + c := cl_nI (by omega)
    have next := ih n n' (c + 1) p has first full one (by omega) (by omega) (by omega) hp h
    obtain ⟨B, b1, b2⟩ : ∃ B : Bool, f2_isFrozen N (nI c) first (nI t) frz = some (bi B) ∧ f6_holds_2 N (n' + 1) (nI t) (nI c) (nI cav) tv tf now one (nI p) = f6_holds_49 (fun a0 a1 a2 a3 a4 a5 a6 a7 => f6_holds_2 N n' a0 a1 a2 a3 a4 a5 a6 a7) N (nI t) (nI c) (bi B) (nI cav) tv tf now one (nI p) := by
      rw [f2_isFrozen, f6_holds_2, if_neg (show ¬ nI cav ≤ nI c from nI_ge (by omega) (by omega)), if_pos o0, if_pos o0, if_pos o0, x3, if_pos o3, if_pos o3, if_pos o0, c0, c3, h78, hf, t3, f6_holds_48]
      by_cases q : f = 0
      · rw [q, if_pos (show nI 0 = 0 from rfl), if_pos (show z4 (nI 0) = -4 from rfl)]
        exact ⟨false, rfl, rfl⟩
      · rw [z4n (by omega) f1, if_neg (nI_ne0 (by omega) (by omega)), if_neg (nI_nm4 (by omega))]
        by_cases z : nI t - nI f < frz c
        · rw [if_pos z, if_pos z]; exact ⟨false, rfl, rfl⟩
        · rw [if_neg z, if_neg z]; exact ⟨true, rfl, rfl⟩
    rw [b2, f2_hold_49, if_neg (show ¬ nI cav ≤ nI c from nI_ge (by omega) (by omega)), b1, Option.bind_some, f6_holds_49, x1, x2, c1, c2, if_pos o2, if_pos o1, if_pos (show ok 1152 1155 = true by decide), show Int32.toNatClampNeg 1152 = 1152 from rfl, h3, t2, h66, if_pos o0, if_pos o0, c0, hx, f2_hold_91, f2_hold_92, f2_hold_92, nI_1]
    cases B with
    | true =>
      rw [if_neg (show ¬ bi true = 0 by decide), if_neg (show ¬ bi true = 0 by decide), if_pos (show (0 : Int32) = 0 from rfl)]
      exact next
    | false =>
      rw [if_pos (show bi false = 0 from rfl), if_pos (show bi false = 0 from rfl)]
      by_cases z : v3 ≤ drags c * nI x
      · rw [if_pos z, if_pos z, if_pos (show (0 : Int32) = 0 from rfl)]
        exact next
      · rw [if_neg z, if_neg z, if_neg (show ¬ (1 : Int32) = 0 by decide)]
        by_cases z9 : p = 99
        · rw [if_pos (show (99 : Int32) ≤ nI p from nI_le (a := 99) (by omega) (by omega)), if_pos (show (99 : Int32) ≤ nI p from nI_le (a := 99) (by omega) (by omega))]
          exact next
        · obtain ⟨has', first', full', one', m1, m2, m3, m4⟩ := melt_step N (vol := vol) (tv := tv) hcav hc ht ht' (by omega) t1 h
          obtain ⟨n2, p', has'', first'', full'', one'', g0, g1, g2, g3, g4⟩ := ih n n' (c + 1) (p + 1) has' first' full' one' (by omega) (by omega) (by omega) (by omega) m3
          rw [if_neg (show ¬ (99 : Int32) ≤ nI p from nI_ge (b := 99) (by omega) (by omega)), if_neg (show ¬ (99 : Int32) ≤ nI p from nI_ge (b := 99) (by omega) (by omega)), m1, m2, Option.bind_some, Option.bind_some, nI_1]
          exact ⟨n2, p', has'', first'', full'', one'', g0, g1, g2, g3, fun k hk => (g4 k hk).trans (m4 k hk)⟩
