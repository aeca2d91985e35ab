/-! one clause of the relation is other -/
theorem RS_wide {cav cor stg : Nat} {v : tO} {H : Nat → tO} {a : Nat → Int32} {m : Nat} {x : Nat} (hx : x ≤ 20) (hc : cav ≤ 6) (hs : stg ≤ 4) (hR : RS cav cor stg v H a m) : RS cav cor stg (va_up v.1 5 (nI x), v.2) H (upd a 1018 (nI x)) m := by
  obtain ⟨⟨m1, m2, m3, m4⟩, ⟨s1, s2⟩, ⟨y, i1, i2, i3⟩, ⟨l1, l2⟩, ⟨o1, o2⟩, ⟨w, w1, w2, w3⟩, ⟨T, t1, t2, t3, t4, t5⟩, hd, hsp, hse, hh, hsh⟩ := hR
  have u : ∀ k, k ≠ 1018 → (upd a 1018 (nI x)) k = a k := fun k h0 => up_n h0
  refine ⟨⟨m1, m2, (u _ (by omega)).trans m3, (u _ (by omega)).trans m4⟩, ⟨(u _ (by omega)).trans s1, s2⟩, ⟨y, i1, (u _ (by omega)).trans i2, i3⟩, ⟨(u _ (by omega)).trans l1, l2⟩, ⟨(u _ (by omega)).trans o1, o2⟩, ?_, ⟨T, t1, (u _ (by omega)).trans t2, t3, t4, fun hT => (t5 hT).elim fun a1 h => ⟨(u _ (by omega)).trans a1, h.elim fun a2 h => ⟨(u _ (by omega)).trans a2, h.1, fun k hk => ⟨(u _ (by omega)).trans (h.2 k hk).1, (u _ (by omega)).trans (h.2 k hk).2⟩⟩⟩⟩, fun c hc' => ⟨(u _ (by omega)).trans (hd c hc').1, (hd c hc').2⟩, fun k hk => ⟨(u _ (by omega)).trans (hsp k hk).1, (hsp k hk).2⟩, fun k hk => ⟨(u _ (by omega)).trans (hse k hk).1, (hse k hk).2⟩, fun hh' => ⟨(hh hh').1, (u _ (by omega)).trans (hh hh').2⟩, fun q hq => RH_cg hc (fun k hk => u _ (by omega)) (hsh q hq)⟩
  · exact ⟨x, hx, up_s, rfl⟩
theorem RS_forget {cav cor stg : Nat} {v : tO} {H : Nat → tO} {a : Nat → Int32} {m : Nat}  (hc : cav ≤ 6) (hs : stg ≤ 4) (hR : RS cav cor stg v H a m) : RS cav cor stg (va_up (va_up (va_up v.1 6 0) 7 0) 8 0, v.2) H (upd a 1015 0) m := by
  obtain ⟨⟨m1, m2, m3, m4⟩, ⟨s1, s2⟩, ⟨y, i1, i2, i3⟩, ⟨l1, l2⟩, ⟨o1, o2⟩, ⟨w, w1, w2, w3⟩, ⟨T, t1, t2, t3, t4, t5⟩, hd, hsp, hse, hh, hsh⟩ := hR
  have u : ∀ k, k ≠ 1015 → (upd a 1015 0) k = a k := fun k h0 => up_n h0
  refine ⟨⟨m1, m2, (u _ (by omega)).trans m3, (u _ (by omega)).trans m4⟩, ⟨(u _ (by omega)).trans s1, s2⟩, ⟨y, i1, (u _ (by omega)).trans i2, i3⟩, ⟨(u _ (by omega)).trans l1, l2⟩, ⟨(u _ (by omega)).trans o1, o2⟩, ⟨w, w1, (u _ (by omega)).trans w2, w3⟩, ?_, fun c hc' => ⟨(u _ (by omega)).trans (hd c hc').1, (hd c hc').2⟩, fun k hk => ⟨(u _ (by omega)).trans (hsp k hk).1, (hsp k hk).2⟩, fun k hk => ⟨(u _ (by omega)).trans (hse k hk).1, (hse k hk).2⟩, fun hh' => ⟨(hh hh').1, (u _ (by omega)).trans (hh hh').2⟩, fun q hq => RH_cg hc (fun k hk => u _ (by omega)) (hsh q hq)⟩
  · exact ⟨0, by omega, up_s, rfl, fun _ => rfl, fun h => absurd h (Nat.lt_irrefl 0)⟩
theorem RS_cool {cav cor stg : Nat} {v : tO} {H : Nat → tO} {a : Nat → Int32} {m : Nat}  (hc : cav ≤ 6) (hs : stg ≤ 4) (hR : RS cav cor stg v H a m) : RS cav cor stg (va_up v.1 3 0, v.2) H (upd a 1013 0) m := by
  obtain ⟨⟨m1, m2, m3, m4⟩, ⟨s1, s2⟩, ⟨y, i1, i2, i3⟩, ⟨l1, l2⟩, ⟨o1, o2⟩, ⟨w, w1, w2, w3⟩, ⟨T, t1, t2, t3, t4, t5⟩, hd, hsp, hse, hh, hsh⟩ := hR
  have u : ∀ k, k ≠ 1013 → (upd a 1013 0) k = a k := fun k h0 => up_n h0
  refine ⟨⟨m1, m2, (u _ (by omega)).trans m3, (u _ (by omega)).trans m4⟩, ⟨(u _ (by omega)).trans s1, s2⟩, ⟨y, i1, (u _ (by omega)).trans i2, i3⟩, ⟨(u _ (by omega)).trans l1, l2⟩, ?_, ⟨w, w1, (u _ (by omega)).trans w2, w3⟩, ⟨T, t1, (u _ (by omega)).trans t2, t3, t4, fun hT => (t5 hT).elim fun a1 h => ⟨(u _ (by omega)).trans a1, h.elim fun a2 h => ⟨(u _ (by omega)).trans a2, h.1, fun k hk => ⟨(u _ (by omega)).trans (h.2 k hk).1, (u _ (by omega)).trans (h.2 k hk).2⟩⟩⟩⟩, fun c hc' => ⟨(u _ (by omega)).trans (hd c hc').1, (hd c hc').2⟩, fun k hk => ⟨(u _ (by omega)).trans (hsp k hk).1, (hsp k hk).2⟩, fun k hk => ⟨(u _ (by omega)).trans (hse k hk).1, (hse k hk).2⟩, ?_, fun q hq => RH_cg hc (fun k hk => u _ (by omega)) (hsh q hq)⟩
  · exact ⟨up_s, rfl⟩
  · exact fun h => absurd (show (0 : Int32) = 1 from h) (by decide)
theorem RS_speed {cav cor stg : Nat} {v : tO} {H : Nat → tO} {a : Nat → Int32} {m : Nat} {j x : Nat} (hx : 1 ≤ x ∧ x ≤ 9) (hj : j < stg) (hc : cav ≤ 6) (hs : stg ≤ 4) (hR : RS cav cor stg v H a m) : RS cav cor stg (v.1, va_up v.2 1 (upd (v.2 1) j (nI x))) H (upd a (1145 + j) (nI x)) m := by
  obtain ⟨⟨m1, m2, m3, m4⟩, ⟨s1, s2⟩, ⟨y, i1, i2, i3⟩, ⟨l1, l2⟩, ⟨o1, o2⟩, ⟨w, w1, w2, w3⟩, ⟨T, t1, t2, t3, t4, t5⟩, hd, hsp, hse, hh, hsh⟩ := hR
  have u : ∀ k, k ≠ 1145 + j → (upd a (1145 + j) (nI x)) k = a k := fun k h0 => up_n h0
  refine ⟨⟨m1, m2, (u _ (by omega)).trans m3, (u _ (by omega)).trans m4⟩, ⟨(u _ (by omega)).trans s1, s2⟩, ⟨y, i1, (u _ (by omega)).trans i2, i3⟩, ⟨(u _ (by omega)).trans l1, l2⟩, ⟨(u _ (by omega)).trans o1, o2⟩, ⟨w, w1, (u _ (by omega)).trans w2, w3⟩, ⟨T, t1, (u _ (by omega)).trans t2, t3, t4, fun hT => (t5 hT).elim fun a1 h => ⟨(u _ (by omega)).trans a1, h.elim fun a2 h => ⟨(u _ (by omega)).trans a2, h.1, fun k hk => ⟨(u _ (by omega)).trans (h.2 k hk).1, (u _ (by omega)).trans (h.2 k hk).2⟩⟩⟩⟩, fun c hc' => ⟨(u _ (by omega)).trans (hd c hc').1, (hd c hc').2⟩, ?_, fun k hk => ⟨(u _ (by omega)).trans (hse k hk).1, (hse k hk).2⟩, fun hh' => ⟨(hh hh').1, (u _ (by omega)).trans (hh hh').2⟩, fun q hq => RH_cg hc (fun k hk => u _ (by omega)) (hsh q hq)⟩
  · intro k hk
    show upd a (1145 + j) (nI x) (1145 + k) = upd (v.2 1) j (nI x) k ∧ ∃ r : Nat, 1 ≤ r ∧ r ≤ 9 ∧ upd (v.2 1) j (nI x) k = nI r
    by_cases hcj : k = j
    · subst hcj
      rw [up_s, up_s]
      exact ⟨rfl, x, hx.1, hx.2, rfl⟩
    · rw [up_n (by omega), up_n hcj]
      exact hsp k hk
theorem RS_set {cav cor stg : Nat} {v : tO} {H : Nat → tO} {a : Nat → Int32} {m : Nat} {j x : Nat} (hx : setLo j ≤ x ∧ x ≤ setHi j) (hj : j < 6) (hc : cav ≤ 6) (hs : stg ≤ 4) (hR : RS cav cor stg v H a m) : RS cav cor stg (v.1, va_up v.2 2 (upd (v.2 2) j (nI x))) H (upd a (1149 + j) (nI x)) m := by
  obtain ⟨⟨m1, m2, m3, m4⟩, ⟨s1, s2⟩, ⟨y, i1, i2, i3⟩, ⟨l1, l2⟩, ⟨o1, o2⟩, ⟨w, w1, w2, w3⟩, ⟨T, t1, t2, t3, t4, t5⟩, hd, hsp, hse, hh, hsh⟩ := hR
  have u : ∀ k, k ≠ 1149 + j → (upd a (1149 + j) (nI x)) k = a k := fun k h0 => up_n h0
  refine ⟨⟨m1, m2, (u _ (by omega)).trans m3, (u _ (by omega)).trans m4⟩, ⟨(u _ (by omega)).trans s1, s2⟩, ⟨y, i1, (u _ (by omega)).trans i2, i3⟩, ⟨(u _ (by omega)).trans l1, l2⟩, ⟨(u _ (by omega)).trans o1, o2⟩, ⟨w, w1, (u _ (by omega)).trans w2, w3⟩, ⟨T, t1, (u _ (by omega)).trans t2, t3, t4, fun hT => (t5 hT).elim fun a1 h => ⟨(u _ (by omega)).trans a1, h.elim fun a2 h => ⟨(u _ (by omega)).trans a2, h.1, fun k hk => ⟨(u _ (by omega)).trans (h.2 k hk).1, (u _ (by omega)).trans (h.2 k hk).2⟩⟩⟩⟩, fun c hc' => ⟨(u _ (by omega)).trans (hd c hc').1, (hd c hc').2⟩, fun k hk => ⟨(u _ (by omega)).trans (hsp k hk).1, (hsp k hk).2⟩, ?_, fun hh' => ⟨(hh hh').1, (u _ (by omega)).trans (hh hh').2⟩, fun q hq => RH_cg hc (fun k hk => u _ (by omega)) (hsh q hq)⟩
  · intro k hk
    show upd a (1149 + j) (nI x) (1149 + k) = upd (v.2 2) j (nI x) k ∧ ∃ r : Nat, setLo k ≤ r ∧ r ≤ setHi k ∧ upd (v.2 2) j (nI x) k = nI r
    by_cases hcj : k = j
    · subst hcj
      rw [up_s, up_s]
      exact ⟨rfl, x, hx.1, hx.2, rfl⟩
    · rw [up_n (by omega), up_n hcj]
      exact hse k hk
theorem RS_in {cav cor stg : Nat} {v : tO} {H : Nat → tO} {a : Nat → Int32} {m : Nat} {x : Nat} (hx : x < 2 ^ cor) (hc : cav ≤ 6) (hs : stg ≤ 4) (hR : RS cav cor stg v H a m) : RS cav cor stg (va_up v.1 1 (nI x), v.2) H (upd a 1011 (nI x)) m := by
  obtain ⟨⟨m1, m2, m3, m4⟩, ⟨s1, s2⟩, ⟨y, i1, i2, i3⟩, ⟨l1, l2⟩, ⟨o1, o2⟩, ⟨w, w1, w2, w3⟩, ⟨T, t1, t2, t3, t4, t5⟩, hd, hsp, hse, hh, hsh⟩ := hR
  have u : ∀ k, k ≠ 1011 → (upd a 1011 (nI x)) k = a k := fun k h0 => up_n h0
  refine ⟨⟨m1, m2, (u _ (by omega)).trans m3, (u _ (by omega)).trans m4⟩, ⟨(u _ (by omega)).trans s1, s2⟩, ?_, ⟨(u _ (by omega)).trans l1, l2⟩, ⟨(u _ (by omega)).trans o1, o2⟩, ⟨w, w1, (u _ (by omega)).trans w2, w3⟩, ⟨T, t1, (u _ (by omega)).trans t2, t3, t4, fun hT => (t5 hT).elim fun a1 h => ⟨(u _ (by omega)).trans a1, h.elim fun a2 h => ⟨(u _ (by omega)).trans a2, h.1, fun k hk => ⟨(u _ (by omega)).trans (h.2 k hk).1, (u _ (by omega)).trans (h.2 k hk).2⟩⟩⟩⟩, fun c hc' => ⟨(u _ (by omega)).trans (hd c hc').1, (hd c hc').2⟩, fun k hk => ⟨(u _ (by omega)).trans (hsp k hk).1, (hsp k hk).2⟩, fun k hk => ⟨(u _ (by omega)).trans (hse k hk).1, (hse k hk).2⟩, fun hh' => ⟨(hh hh').1, (u _ (by omega)).trans (hh hh').2⟩, fun q hq => RH_cg hc (fun k hk => u _ (by omega)) (hsh q hq)⟩
  · exact ⟨x, hx, up_s, rfl⟩
theorem RS_shut {cav cor stg : Nat} {v : tO} {H : Nat → tO} {a : Nat → Int32} {m : Nat} {x : Int32} (hx : isb x = true) (hc : cav ≤ 6) (hs : stg ≤ 4) (hR : RS cav cor stg v H a m) : RS cav cor stg (va_up v.1 0 x, v.2) H (upd a 1010 x) m := by
  obtain ⟨⟨m1, m2, m3, m4⟩, ⟨s1, s2⟩, ⟨y, i1, i2, i3⟩, ⟨l1, l2⟩, ⟨o1, o2⟩, ⟨w, w1, w2, w3⟩, ⟨T, t1, t2, t3, t4, t5⟩, hd, hsp, hse, hh, hsh⟩ := hR
  have u : ∀ k, k ≠ 1010 → (upd a 1010 x) k = a k := fun k h0 => up_n h0
  refine ⟨⟨m1, m2, (u _ (by omega)).trans m3, (u _ (by omega)).trans m4⟩, ?_, ⟨y, i1, (u _ (by omega)).trans i2, i3⟩, ⟨(u _ (by omega)).trans l1, l2⟩, ⟨(u _ (by omega)).trans o1, o2⟩, ⟨w, w1, (u _ (by omega)).trans w2, w3⟩, ⟨T, t1, (u _ (by omega)).trans t2, t3, t4, fun hT => (t5 hT).elim fun a1 h => ⟨(u _ (by omega)).trans a1, h.elim fun a2 h => ⟨(u _ (by omega)).trans a2, h.1, fun k hk => ⟨(u _ (by omega)).trans (h.2 k hk).1, (u _ (by omega)).trans (h.2 k hk).2⟩⟩⟩⟩, fun c hc' => ⟨(u _ (by omega)).trans (hd c hc').1, (hd c hc').2⟩, fun k hk => ⟨(u _ (by omega)).trans (hsp k hk).1, (hsp k hk).2⟩, fun k hk => ⟨(u _ (by omega)).trans (hse k hk).1, (hse k hk).2⟩, fun hh' => ⟨(hh hh').1, (u _ (by omega)).trans (hh hh').2⟩, fun q hq => RH_cg hc (fun k hk => u _ (by omega)) (hsh q hq)⟩
  · exact ⟨up_s, hx⟩
theorem RS_open {cav cor stg : Nat} {v : tO} {H : Nat → tO} {a : Nat → Int32} {m : Nat}  (hc : cav ≤ 6) (hs : stg ≤ 4) (hR : RS cav cor stg v H a m) : RS cav cor stg (va_up (va_up v.1 0 0) 2 0, v.2) H (upd (upd a 1010 0) 1012 0) m := by
  obtain ⟨⟨m1, m2, m3, m4⟩, ⟨s1, s2⟩, ⟨y, i1, i2, i3⟩, ⟨l1, l2⟩, ⟨o1, o2⟩, ⟨w, w1, w2, w3⟩, ⟨T, t1, t2, t3, t4, t5⟩, hd, hsp, hse, hh, hsh⟩ := hR
  have u : ∀ k, k ≠ 1010 → k ≠ 1012 → (upd (upd a 1010 0) 1012 0) k = a k := fun k h0 h1 => (up_n h1).trans (up_n h0)
  refine ⟨⟨m1, m2, (u _ (by omega) (by omega)).trans m3, (u _ (by omega) (by omega)).trans m4⟩, ?_, ⟨y, i1, (u _ (by omega) (by omega)).trans i2, i3⟩, ?_, ⟨(u _ (by omega) (by omega)).trans o1, o2⟩, ⟨w, w1, (u _ (by omega) (by omega)).trans w2, w3⟩, ⟨T, t1, (u _ (by omega) (by omega)).trans t2, t3, t4, fun hT => (t5 hT).elim fun a1 h => ⟨(u _ (by omega) (by omega)).trans a1, h.elim fun a2 h => ⟨(u _ (by omega) (by omega)).trans a2, h.1, fun k hk => ⟨(u _ (by omega) (by omega)).trans (h.2 k hk).1, (u _ (by omega) (by omega)).trans (h.2 k hk).2⟩⟩⟩⟩, fun c hc' => ⟨(u _ (by omega) (by omega)).trans (hd c hc').1, (hd c hc').2⟩, fun k hk => ⟨(u _ (by omega) (by omega)).trans (hsp k hk).1, (hsp k hk).2⟩, fun k hk => ⟨(u _ (by omega) (by omega)).trans (hse k hk).1, (hse k hk).2⟩, fun hh' => ⟨(hh hh').1, (u _ (by omega) (by omega)).trans (hh hh').2⟩, fun q hq => RH_cg hc (fun k hk => u _ (by omega) (by omega)) (hsh q hq)⟩
  · exact ⟨(up_n (by omega)).trans up_s, rfl⟩
  · exact ⟨up_s, rfl⟩
