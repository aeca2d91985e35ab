/-! bad shots -/
def TB (N s : Nat) (a : Nat → Int32) : Option Int32 := if a 1015 ≤ 0 then some 0 else ((f6_amiss N (nI s) a).bind fun q => (if 1 < q then some 1 else (if a (84 * s + 1) < a 1016 - 1 then some 1 else (if a (84 * s + 1) ≤ a 1017 + 1 then some 0 else some 1))))
theorem bad_lp (N : Nat) {cav s : Nat} {vol has tv a : Nat → Int32} (hs : s < 12) (hcav : cav ≤ 6) (hr : ∀ c, c < cav → (∃ x : Nat, x ≤ 200 ∧ has c = nI x) ∧ ∃ v : Nat, v ≤ 30 ∧ vol c = nI v) (hv : ∀ c, c < cav → tv c = vol c) (ha : ∀ c, c < cav → a (84 * s + (66 + c)) = has c) : ∀ (m n k : Nat) (b : Bool), k + m = cav → m < n → f6_isBad_4 N n (nI s) (bi b) (nI k) (nI cav) tv a = if (b || farB vol has k m) = true then some 1 else TB N s a := by
  intro m
  induction m with
  | zero =>
    intro n k b hk hn
    obtain ⟨n, rfl⟩ : ∃ n', n = n' + 1 := ⟨n - 1, by omega⟩
    have e1 : (84 : Int32) * nI s + 1 = nI (84 * s + 1) := a84 s 1
    rw [f6_isBad_4, if_pos (nI_le (by omega) (by omega)), e1, if_pos (ok_nI (n := 1155) (k := 84 * s + 1) (by omega) (by omega)), cl_nI (show 84 * s + 1 < 2 ^ 31 by omega), farB, Bool.or_false]
    cases b with
    | true => rfl
    | false =>
      rw [if_pos (show bi false = 0 from rfl), if_pos (show ok 1015 1155 = true by decide), if_neg (show ¬ false = true by decide)]
      rfl
  | succ m ih =>
    intro n k b hk hn
    obtain ⟨n, rfl⟩ : ∃ n', n = n' + 1 := ⟨n - 1, by omega⟩
    have i0 : f6_isBad_4 N n (nI s) 0 (nI (k + 1)) (nI cav) tv a = _ := ih n (k + 1) false (by omega) (by omega)
    have i1 : f6_isBad_4 N n (nI s) 1 (nI (k + 1)) (nI cav) tv a = _ := ih n (k + 1) true (by omega) (by omega)
    rw [Bool.false_or] at i0
    rw [Bool.true_or, if_pos rfl] at i1
    rw [f6_isBad_4, if_neg (nI_ge (by omega) (by omega)), nI_1]
    cases b with
    | true =>
      rw [if_neg (show ¬ bi true = 0 by decide), i1]
      rfl
    | false =>
      obtain ⟨⟨x, hx, ex⟩, v, hvv, ev⟩ := hr k (by omega)
      have t1 := nI_toInt (n := x) (by omega)
      have t2 := nI_toInt (n := v) (by omega)
      have sI : (nI x - nI v).toInt = (x : Int) - v := by rw [i_sub (by omega) (by omega), t1, t2]
      have sJ : (nI v - nI x).toInt = (v : Int) - x := by rw [i_sub (by omega) (by omega), t1, t2]
      have z0 : (0 : Int32).toInt = 0 := rfl
      have z1 : (1 : Int32).toInt = 1 := rfl
      rw [if_pos (show bi false = 0 from rfl), overBy_eq N hs (by omega), shortBy_eq N hs (by omega), hv k (by omega), ha k (by omega), ex, ev, i0, i1, farB, ex, ev, t1, t2, Bool.false_or]
      show (if 1 < (if 0 < nI x - nI v then nI x - nI v else 0) then some 1 else (if (if 0 < nI v - nI x then nI v - nI x else 0) ≤ 1 then _ else some 1)) = _
      have c1 : (1 < (if 0 < nI x - nI v then nI x - nI v else 0)) ↔ (x : Int) - v ≥ 2 := by
        by_cases h : 0 < nI x - nI v
        · rw [if_pos h, i_lt, sI, z1]; omega
        · rw [if_neg h]
          rw [i_lt, sI, z0] at h
          rw [i_lt, z0, z1]; omega
      have c2 : ((if 0 < nI v - nI x then nI v - nI x else 0) ≤ 1) ↔ ¬ (v : Int) - x ≥ 2 := by
        by_cases h : 0 < nI v - nI x
        · rw [if_pos h, i_le, sJ, z1]; omega
        · rw [if_neg h]
          rw [i_lt, sJ, z0] at h
          rw [i_le, z0, z1]; omega
      by_cases h1 : (x : Int) - v ≥ 2
      · rw [if_pos (c1.mpr h1), decide_eq_true (Or.inl h1), Bool.true_or, if_pos rfl]
      · rw [if_neg (fun q => h1 (c1.mp q))]
        by_cases h2 : (v : Int) - x ≥ 2
        · rw [if_neg (fun q => c2.mp q h2), decide_eq_true (Or.inr h2), Bool.true_or, if_pos rfl]
        · rw [if_pos (c2.mpr h2), decide_eq_false (by omega), Bool.false_or]
theorem eq_isBad (N : Nat) (hN : 5000 ≤ N) {cav cor stg s : Nat} {v : tO} {H : Nat → tO} {a vol tv : Nat → Int32} {m : Nat} (hcav : cav ≤ 6) (h : RS cav cor stg v H a m) (hs : s < min m 12) (hv : ∀ c, c < cav → tv c = vol c ∧ ∃ k : Nat, k ≤ 30 ∧ vol c = nI k) {g : tO} (eg : g = H (hx (nI m) (nI s))) : ∃ B : Bool, f5_isBad N (nI cav) vol (v.1 5) (v.1 6) (v.1 7) (v.1 8) (v.2 3) (v.2 4) (g.2 0) (g.2 3) (g.1 2) = some (bi B) ∧ f6_isBad N (nI s) (nI cav) tv a = some (bi B) := by
  obtain ⟨q0, q1, q2, q3, q5, qb, qp, qc, t, tt1, tt60, qt⟩ := RS_shot h hs
  rw [← eg] at q1 qp qc qt
  have b1 : a (84 * s + 1) = nI t := q1.trans qt
  have hr : ∀ c, c < cav → (∃ x : Nat, x ≤ 200 ∧ g.2 0 c = nI x) ∧ ∃ v : Nat, v ≤ 30 ∧ vol c = nI v := fun c hc => ⟨(qc c hc).1, (hv c hc).2⟩
  have f1 := farOff_lp N (has := g.2 0) hcav hr cav N 0 (by omega) (by omega)
  have f2 := bad_lp N (s := s) (tv := tv) (a := a) (by omega) hcav hr (fun c hc => (hv c hc).1) (fun c hc => (qc c hc).2.1) cav N 0 false (by omega) (by omega)
  rw [Bool.false_or] at f2
  obtain ⟨w, hw20, a18, v5⟩ := h.2.2.2.2.2.1
  obtain ⟨T, hT, a15, v6, v8, hT1⟩ := h.2.2.2.2.2.2.1
  rw [f5_isBad, f6_isBad, show f2_isFarOff N (g.2 0) (nI cav) vol = _ from f1, show f6_isBad_4 N N (nI s) 0 0 (nI cav) tv a = _ from f2]
  show ∃ B, (if bi (farB vol (g.2 0) 0 cav) = 0 then _ else _) = some (bi B) ∧ _
  by_cases hf : farB vol (g.2 0) 0 cav = true
  · rw [if_neg (bi_1 hf), if_pos hf]
    exact ⟨true, rfl, rfl⟩
  · rw [if_pos (bi_0 hf), if_neg hf, TB, f0_rejects, a15, v6, b1, qt]
    by_cases h0 : T = 0
    · subst h0
      rw [if_pos (show nI 0 = (0 : Int32) from rfl), if_pos (show nI 0 ≤ (0 : Int32) by decide)]
      exact ⟨false, rfl, rfl⟩
    · obtain ⟨a16, a17, ⟨so, lg, hso, hlg, e7, e8⟩, hb⟩ := hT1 (by omega)
      obtain ⟨r, r1, r2⟩ := amiss_eq N hN (s := s) (w := v.1 5) (pr := g.2 3) (by omega) (a18.trans v5.symm) (fun k hk => qp k hk) hb
      rw [if_neg (nI_ne0 (by omega) (by omega)), if_neg (show ¬ nI T ≤ (0 : Int32) from nI_ge (a := 0) (by omega) (by omega)), r1, r2, a16, a17, e7, e8]
      have z1 : (1 : Int32).toInt = 1 := rfl
      have u1 := nI_toInt (n := so) (by omega)
      have u2 := nI_toInt (n := lg) (by omega)
      have u3 := nI_toInt (n := t) (by omega)
      have w1 : (nI so - 1).toInt = (so : Int) - 1 := by rw [i_sub (by omega) (by omega), u1, z1]
      have w2 : (nI so - nI t).toInt = (so : Int) - t := by rw [i_sub (by omega) (by omega), u1, u3]
      have w3 : (nI t - nI lg).toInt = (t : Int) - lg := by rw [i_sub (by omega) (by omega), u2, u3]
      have w4 : (nI lg + 1).toInt = (lg : Int) + 1 := by rw [i_add (by omega) (by omega), u2, z1]
      have c1 : (1 < nI so - nI t) ↔ (nI t < nI so - 1) := by rw [i_lt, i_lt, w1, w2, z1, u3]; omega
      have c2 : (nI t - nI lg ≤ 1) ↔ (nI t ≤ nI lg + 1) := by rw [i_le, i_le, w3, w4, z1, u3]; omega
      show ∃ B, ((if 1 < r then some (1 : Int32) else (if 1 < nI so - nI t then some 1 else (if nI t - nI lg ≤ 1 then some 0 else some 1))).bind fun q => (if q = 0 then some 0 else some 1)) = some (bi B) ∧ (if 1 < r then some (1 : Int32) else (if nI t < nI so - 1 then some 1 else (if nI t ≤ nI lg + 1 then some 0 else some 1))) = some (bi B)
      by_cases k1 : 1 < r
      · rw [if_pos k1, if_pos k1]; exact ⟨true, rfl, rfl⟩
      · rw [if_neg k1, if_neg k1]
        by_cases k2 : 1 < nI so - nI t
        · rw [if_pos k2, if_pos (c1.mp k2)]; exact ⟨true, rfl, rfl⟩
        · rw [if_neg k2, if_neg (fun z => k2 (c1.mpr z))]
          by_cases k3 : nI t - nI lg ≤ 1
          · rw [if_pos k3, if_pos (c2.mp k3)]; exact ⟨false, rfl, rfl⟩
          · rw [if_neg k3, if_neg (fun z => k3 (c2.mpr z))]; exact ⟨true, rfl, rfl⟩
