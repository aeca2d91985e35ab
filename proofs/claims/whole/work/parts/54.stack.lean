/-! the stack of what was -/
theorem vu_s {α : Type} {f : Nat → α} {k : Nat} {v : α} : va_up f k v k = v := if_pos rfl
theorem vu_n {α : Type} {f : Nat → α} {k j : Nat} {v : α} (h : j ≠ k) : va_up f k v j = f j := if_neg h
theorem RH_cg {cav : Nat} {h : tO} {r r' : Nat → Int32} (hc : cav ≤ 6) (e : ∀ k, k < 84 → r' k = r k) (hR : RH cav h r) : RH cav h r' := by
  obtain ⟨h0, h1, h2, h3, h5, hb, hp, hcv, ht⟩ := hR
  refine ⟨(e 0 (by omega)).trans h0, (e 1 (by omega)).trans h1, (e 2 (by omega)).trans h2, (e 3 (by omega)).trans h3, (e 5 (by omega)).trans h5, fun N hN => ?_, fun k hk => (e (6 + k) (by omega)).trans (hp k hk), fun c hc' => ?_, ht⟩
  · rw [e 4 (by omega)]; exact hb N hN
  · obtain ⟨g0, g1, g2, g3⟩ := hcv c hc'
    exact ⟨g0, (e (66 + c) (by omega)).trans g1, (e (72 + c) (by omega)).trans g2, (e (78 + c) (by omega)).trans g3⟩
theorem RS_cg {cav cor stg : Nat} {v : tO} {H : Nat → tO} {a a' : Nat → Int32} {m : Nat} (hc : cav ≤ 6) (hs : stg ≤ 4) (e : ∀ k, k < 1155 → a' k = a k) (hR : RS cav cor stg v H a m) : RS cav cor stg v H a' m := by
  obtain ⟨⟨m1, m2, m3, m4⟩, ⟨s1, s2⟩, ⟨x, i1, i2, i3⟩, ⟨l1, l2⟩, ⟨o1, o2⟩, ⟨w, w1, w2, w3⟩, ⟨T, t1, t2, t3, t4, t5⟩, hd, hsp, hse, hh, hsh⟩ := hR
  refine ⟨⟨m1, m2, (e _ (by omega)).trans m3, (e _ (by omega)).trans m4⟩, ⟨(e _ (by omega)).trans s1, s2⟩, ⟨x, i1, (e _ (by omega)).trans i2, i3⟩, ⟨(e _ (by omega)).trans l1, l2⟩, ⟨(e _ (by omega)).trans o1, o2⟩, ⟨w, w1, (e _ (by omega)).trans w2, w3⟩, ⟨T, t1, (e _ (by omega)).trans t2, t3, t4, fun hT => ?_⟩, fun c hc' => ?_, fun k hk => ?_, fun k hk => ?_, fun hh' => ?_, fun j hj => ?_⟩
  · obtain ⟨a1, a2, a3, a4⟩ := t5 hT
    exact ⟨(e _ (by omega)).trans a1, (e _ (by omega)).trans a2, a3, fun k hk => ⟨(e _ (by omega)).trans (a4 k hk).1, (e _ (by omega)).trans (a4 k hk).2⟩⟩
  · exact ⟨(e _ (by omega)).trans (hd c hc').1, (hd c hc').2⟩
  · exact ⟨(e _ (by omega)).trans (hsp k hk).1, (hsp k hk).2⟩
  · exact ⟨(e _ (by omega)).trans (hse k hk).1, (hse k hk).2⟩
  · exact ⟨(hh hh').1, (e _ (by omega)).trans (hh hh').2⟩
  · exact RH_cg hc (fun k hk => e _ (by omega)) (hsh j hj)
/-- other rows of shots may change -/
theorem RS_H {cav cor stg : Nat} {v : tO} {H H' : Nat → tO} {a : Nat → Int32} {m : Nat} (e : ∀ s : Nat, s < m → m ≤ s + 12 → H' (s % 16) = H (s % 16)) (hR : RS cav cor stg v H a m) : RS cav cor stg v H' a m := by
  obtain ⟨hm, h1, h2, h3, h4, h5, h6, hd, hsp, hse, hh, hsh⟩ := hR
  refine ⟨hm, h1, h2, h3, h4, h5, h6, hd, hsp, hse, fun hh' => ?_, fun j hj => ?_⟩
  · obtain ⟨a1, a2⟩ := hh hh'
    exact ⟨a1, by rw [e (m - 1) (by omega) (by omega)]; exact a2⟩
  · rw [e (m - min m 12 + j) (by omega) (by omega)]
    exact hsh j hj
theorem RW_now {cav cor stg i d : Nat} {S H : Nat → tO} {now was : Nat → Int32} (h : RW cav cor stg i d S H now was) : ∃ m, RS cav cor stg (S i) H now m := by
  obtain ⟨hi, hd, ms, -, hR⟩ := h
  have h1 := hR d (Nat.le_refl d)
  rw [wasAt, if_pos rfl, show (i + 5 - d + d) % 5 = i by omega] at h1
  exact ⟨_, h1⟩
theorem wasP_lo {d : Nat} (hd : d < 4) (now was : Nat → Int32) {j k : Nat} (hj : j ≤ d) (hk : k < 1155) : wasP d now was (1155 * j + k) = if j = d then now k else was (1155 * j + k) := by
  rw [wasP, if_neg (by omega)]
  by_cases h : j = d
  · subst h
    rw [if_pos (by omega), if_pos rfl]
    exact congrArg now (by omega)
  · rw [if_neg (by omega), if_neg h]
theorem wasP_hi (now was : Nat → Int32) {j k : Nat} (hj : j < 4) (hk : k < 1155) : wasP 4 now was (1155 * j + k) = if j = 3 then now k else was (1155 * (j + 1) + k) := by
  rw [wasP, if_pos rfl]
  by_cases h : j = 3
  · subst h
    show (if 3465 ≤ 1155 * 3 + k ∧ 1155 * 3 + k < 4620 then now (1155 * 3 + k - 3465) else _) = _
    rw [if_pos (by omega), if_pos rfl]
    exact congrArg now (by omega)
  · show (if 3465 ≤ 1155 * j + k ∧ 1155 * j + k < 4620 then _ else if 1155 * j + k < 3465 then was (1155 * j + k + 1155) else _) = _
    rw [if_neg (by omega), if_pos (by omega), if_neg h]
    exact congrArg was (by omega)
theorem ms_rg {ms : Nat → Nat} {d : Nat} (h : ∀ j, j < d → ms j ≤ ms (j + 1) ∧ ms (j + 1) ≤ ms j + 1) : ∀ e j, j + e ≤ d → ms j ≤ ms (j + e) ∧ ms (j + e) ≤ ms j + e
  | 0, j, _ => ⟨Nat.le_refl _, Nat.le_refl _⟩
  | e + 1, j, hj => by
    have h1 := ms_rg h e j (by omega)
    have h2 := h (j + e) (by omega)
    have h3 : ms (j + (e + 1)) = ms (j + e + 1) := rfl
    omega
theorem ms_to {ms : Nat → Nat} {d : Nat} (h : ∀ j, j < d → ms j ≤ ms (j + 1) ∧ ms (j + 1) ≤ ms j + 1) {j : Nat} (hj : j ≤ d) : ms j ≤ ms d ∧ ms d + j ≤ ms j + d := by
  have h1 := ms_rg h (d - j) j (by omega)
  rw [show j + (d - j) = d by omega] at h1
  omega
/-- a change: what is now goes behind, something else is now -/
theorem RW_push {cav cor stg i d : Nat} {S H H' : Nat → tO} {now now' was : Nat → Int32} {v' : tO} {m m' : Nat} (hc : cav ≤ 6) (hs : stg ≤ 4) (h : RW cav cor stg i d S H now was) (hm : RS cav cor stg (S i) H now m) (hmm : m ≤ m' ∧ m' ≤ m + 1) (hR' : RS cav cor stg v' H' now' m') (eH : ∀ (s : Nat), s + 12 < m + 12 → m ≤ s + 15 → H' (s % 16) = H (s % 16)) : RW cav cor stg ((i + 1) % 5) (dP d) (va_up S ((i + 1) % 5) v') H' now' (wasP d now was) := by
  obtain ⟨hi, hd, ms, hms, hR⟩ := h
  have hnow := hR d (Nat.le_refl d)
  rw [wasAt, if_pos rfl, show (i + 5 - d + d) % 5 = i by omega] at hnow
  have em : ms d = m := by
    have a1 := hnow.1.2.2.1
    have a2 := hm.1.2.2.1
    have := hnow.1.1
    have := hm.1.1
    exact (nI_eq (by omega) (by omega)).mp (a1.symm.trans a2)
  by_cases h4 : d = 4
  · subst h4
    refine ⟨Nat.mod_lt _ (by decide), by decide, fun j => if j = 4 then m' else ms (j + 1), fun j hj => ?_, fun j hj => ?_⟩
    · have hj4 : j < 4 := hj
      dsimp only
      rw [if_neg (show ¬ j = 4 by omega)]
      by_cases h3 : j = 3
      · subst h3
        rw [if_pos rfl, em]; exact hmm
      · rw [if_neg (by omega)]
        exact hms (j + 1) (by omega)
    · show RS cav cor stg _ H' (wasAt 4 now' _ j) (if j = 4 then m' else ms (j + 1))
      have hj4 : j ≤ 4 := hj
      by_cases hj' : j = 4
      · subst hj'
        rw [wasAt, if_pos rfl, if_pos rfl, show ((i + 1) % 5 + 5 - dP 4 + 4) % 5 = (i + 1) % 5 by show ((i + 1) % 5 + 5 - 4 + 4) % 5 = _; omega, vu_s]
        exact hR'
      · rw [wasAt, if_neg hj', if_neg hj', show ((i + 1) % 5 + 5 - dP 4 + j) % 5 = (i + 5 - 4 + (j + 1)) % 5 by show ((i + 1) % 5 + 5 - 4 + j) % 5 = _; omega, vu_n (show (i + 5 - 4 + (j + 1)) % 5 ≠ (i + 1) % 5 by omega)]
        have hb := ms_to hms (show j + 1 ≤ 4 by omega)
        refine RS_H (fun s h1 h2 => eH s (by omega) (by omega)) (RS_cg hc hs (fun k hk => ?_) (hR (j + 1) (by omega)))
        rw [wasP_hi now was (by omega) hk, wasAt]
        by_cases h3 : j = 3
        · subst h3; rw [if_pos rfl, if_pos rfl]
        · rw [if_neg h3, if_neg (by omega)]
  · have e1 : dP d = d + 1 := if_neg h4
    have hd3 : d ≤ 3 := by omega
    have hge : ∀ j, j ≤ d → m ≤ ms j + 3 ∧ ms j ≤ m := fun j hj => by have := ms_to hms hj; omega
    rw [e1]
    refine ⟨Nat.mod_lt _ (by decide), by omega, fun j => if j = d + 1 then m' else ms j, fun j hj => ?_, fun j hj => ?_⟩
    · dsimp only
      rw [if_neg (show ¬ j = d + 1 by omega)]
      by_cases h3 : j = d
      · subst h3
        rw [if_pos rfl, em]; exact hmm
      · rw [if_neg (by omega)]
        exact hms j (by omega)
    · show RS cav cor stg _ H' (wasAt (d + 1) now' _ j) (if j = d + 1 then m' else ms j)
      by_cases hj' : j = d + 1
      · subst hj'
        rw [wasAt, if_pos rfl, if_pos rfl, show ((i + 1) % 5 + 5 - (d + 1) + (d + 1)) % 5 = (i + 1) % 5 by omega, vu_s]
        exact hR'
      · obtain ⟨b1, b2⟩ := hge j (by omega)
        rw [wasAt, if_neg hj', if_neg hj', show ((i + 1) % 5 + 5 - (d + 1) + j) % 5 = (i + 5 - d + j) % 5 by omega, vu_n (show (i + 5 - d + j) % 5 ≠ (i + 1) % 5 by omega)]
        refine RS_H (fun s h1 h2 => eH s (by omega) (by omega)) (RS_cg hc hs (fun k hk => ?_) (hR j (by omega)))
        rw [wasP_lo (by omega) now was (by omega) hk, wasAt]
        by_cases h3 : j = d
        · subst h3; rw [if_pos rfl, if_pos rfl]
        · rw [if_neg h3, if_neg h3]
theorem RW_undo {cav cor stg i d : Nat} {S H : Nat → tO} {now was : Nat → Int32} (hc : cav ≤ 6) (hs : stg ≤ 4) (h : RW cav cor stg i (d + 1) S H now was) : RW cav cor stg ((i + 4) % 5) d S H (fun j => if j < 1155 then was (1155 * d + j) else now j) was := by
  obtain ⟨hi, hd, ms, hms, hR⟩ := h
  refine ⟨Nat.mod_lt _ (by decide), by omega, ms, fun j hj => hms j (by omega), fun j hj => ?_⟩
  have h1 := hR j (by omega)
  rw [wasAt, if_neg (by omega)] at h1
  rw [show ((i + 4) % 5 + 5 - d + j) % 5 = (i + 5 - (d + 1) + j) % 5 by omega]
  refine RS_cg hc hs (fun k hk => ?_) h1
  rw [wasAt]
  by_cases h2 : j = d
  · subst h2; rw [if_pos rfl, if_pos hk]
  · rw [if_neg h2]
