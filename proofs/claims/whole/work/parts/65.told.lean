/-! what is told of a shot -/
theorem gp_lp (N : Nat) {p nn : Nat} {pr a : Nat → Int32} (hp : p + 84 ≤ nn) (hn : nn < 2 ^ 20) (e : ∀ k, k < 60 → a (p + (6 + k)) = pr k) : ∀ (m n k : Nat) (g : Int32), k + m = 60 → m < n → ∃ r : Int32, f2_greatestPressure_4 N n g (nI k) pr = some r ∧ f6_told_11 N n (nI p) g (nI k) nn a = some r := by
  intro m
  induction m with
  | zero =>
    intro n k g hk hn'
    obtain ⟨n, rfl⟩ : ∃ n', n = n' + 1 := ⟨n - 1, by omega⟩
    rw [f2_greatestPressure_4, f6_told_11, if_pos (show (60 : Int32) ≤ nI k from nI_le (a := 60) (by omega) (by omega)), if_pos (show (60 : Int32) ≤ nI k from nI_le (a := 60) (by omega) (by omega))]
    exact ⟨_, rfl, rfl⟩
  | succ m ih =>
    intro n k g hk hn'
    obtain ⟨n, rfl⟩ : ∃ n', n = n' + 1 := ⟨n - 1, by omega⟩
    have ix : nI p + 6 + nI k = nI (p + (6 + k)) := by
      rw [show nI p + (6 : Int32) = nI (p + 6) from addn p 6, addn]
      congr 1; omega
    have e60 : ok (nI k) 60 = true := ok_nI (by omega) (by omega)
    have enn : ok (nI (p + (6 + k))) nn = true := ok_nI (by omega) (by omega)
    rw [f2_greatestPressure_4, f6_told_11, if_neg (show ¬ (60 : Int32) ≤ nI k from nI_ge (b := 60) (by omega) (by omega)), if_neg (show ¬ (60 : Int32) ≤ nI k from nI_ge (b := 60) (by omega) (by omega)), if_pos e60, ix, if_pos enn, if_pos enn, cl_nI (show k < 2 ^ 31 by omega), cl_nI (show p + (6 + k) < 2 ^ 31 by omega), e k (by omega), nI_1]
    by_cases h : g < pr k
    · rw [if_pos h, if_neg (i_nle.mpr h)]
      exact ih n (k + 1) _ (by omega) (by omega)
    · rw [if_neg h, if_pos (i_nlt.mp h)]
      exact ih n (k + 1) _ (by omega) (by omega)
theorem told_eq (N : Nat) (hN : 5000 ≤ N) {cav p nn j : Nat} {g : tO} {a : Nat → Int32} (hp : p + 84 ≤ nn) (hn : nn < 2 ^ 20) (hR : RH cav g (fun k => a (p + k))) (hj : j < 7) : ∃ r : Int32, f2_told N (nI j) (g.2 2) (g.2 3) (g.1 0) (g.1 1) (g.1 2) (g.1 3) (g.1 4) = some r ∧ f6_told N (nI p) (nI j) nn a = some r := by
  obtain ⟨h0, h1, h2, h3, h5, hb, hpr, -, -⟩ := hR
  have z : ∀ i : Nat, i < 7 → (nI j = (nI i) ↔ j = i) := fun i hi => nI_eq (by omega) (by omega)
  have ej : ok (nI p + nI j) nn = true := by rw [addn]; exact ok_nI (by omega) (by omega)
  have cj : Int32.toNatClampNeg (nI p + nI j) = p + j := by rw [addn]; exact cl_nI (by omega)
  obtain ⟨q, q1, q2⟩ := gp_lp N (p := p) (nn := nn) (a := a) hp hn hpr 60 N 0 0 (by omega) (by omega)
  rw [f2_told, f6_told, if_pos ej, cj]
  rcases (show j = 0 ∨ j = 1 ∨ j = 2 ∨ j = 3 ∨ j = 4 ∨ j = 5 ∨ j = 6 by omega) with rfl | rfl | rfl | rfl | rfl | rfl | rfl
  · rw [if_pos (show nI 0 = (0 : Int32) from rfl), if_neg (show ¬ nI 0 = (6 : Int32) by decide), if_neg (show ¬ nI 0 = (3 : Int32) by decide)]
    exact ⟨_, rfl, congrArg some h0⟩
  · rw [if_neg (show ¬ nI 1 = (0 : Int32) by decide), if_pos (show nI 1 = (1 : Int32) from rfl), if_neg (show ¬ nI 1 = (6 : Int32) by decide), if_neg (show ¬ nI 1 = (3 : Int32) by decide)]
    exact ⟨_, rfl, congrArg some h1⟩
  · rw [if_neg (show ¬ nI 2 = (0 : Int32) by decide), if_neg (show ¬ nI 2 = (1 : Int32) by decide), if_pos (show nI 2 = (2 : Int32) from rfl), if_neg (show ¬ nI 2 = (6 : Int32) by decide), if_neg (show ¬ nI 2 = (3 : Int32) by decide)]
    exact ⟨_, rfl, congrArg some h2⟩
  · rw [if_neg (show ¬ nI 3 = (0 : Int32) by decide), if_neg (show ¬ nI 3 = (1 : Int32) by decide), if_neg (show ¬ nI 3 = (2 : Int32) by decide), if_pos (show nI 3 = (3 : Int32) from rfl), if_neg (show ¬ nI 3 = (6 : Int32) by decide), if_pos (show nI 3 = (3 : Int32) from rfl)]
    rw [show ok (nI p + 3) nn = true from ej, show Int32.toNatClampNeg (nI p + 3) = p + 3 from cj]
    exact ⟨_, rfl, congrArg (fun z => some (99 - z)) h3⟩
  · rw [if_neg (show ¬ nI 4 = (0 : Int32) by decide), if_neg (show ¬ nI 4 = (1 : Int32) by decide), if_neg (show ¬ nI 4 = (2 : Int32) by decide), if_neg (show ¬ nI 4 = (3 : Int32) by decide), if_pos (show nI 4 = (4 : Int32) from rfl), if_neg (show ¬ nI 4 = (6 : Int32) by decide), if_neg (show ¬ nI 4 = (3 : Int32) by decide), hb N (by omega)]
    exact ⟨_, rfl, rfl⟩
  · rw [if_neg (show ¬ nI 5 = (0 : Int32) by decide), if_neg (show ¬ nI 5 = (1 : Int32) by decide), if_neg (show ¬ nI 5 = (2 : Int32) by decide), if_neg (show ¬ nI 5 = (3 : Int32) by decide), if_neg (show ¬ nI 5 = (4 : Int32) by decide), if_pos (show nI 5 = (5 : Int32) from rfl), if_neg (show ¬ nI 5 = (6 : Int32) by decide), if_neg (show ¬ nI 5 = (3 : Int32) by decide)]
    exact ⟨_, rfl, congrArg some h5⟩
  · rw [if_neg (show ¬ nI 6 = (0 : Int32) by decide), if_neg (show ¬ nI 6 = (1 : Int32) by decide), if_neg (show ¬ nI 6 = (2 : Int32) by decide), if_neg (show ¬ nI 6 = (3 : Int32) by decide), if_neg (show ¬ nI 6 = (4 : Int32) by decide), if_neg (show ¬ nI 6 = (5 : Int32) by decide), if_pos (show nI 6 = (6 : Int32) from rfl), if_pos (show nI 6 = (6 : Int32) from rfl), show f2_greatestPressure N (g.2 3) = some q from q1, show f6_told_11 N N (nI p) 0 0 nn a = some q from q2]
    exact ⟨_, rfl, rfl⟩
theorem nine0 {c : Int32} (h : 0 ≤ c ∧ c ≤ 8) : ∃ x : Nat, x ≤ 8 ∧ c = nI x := by
  have o : (0 : Int32).toInt = 0 := rfl
  have n : (8 : Int32).toInt = 8 := rfl
  rw [i_le, i_le] at h
  have h0 : ok c 9 = true := decide_eq_true (by omega)
  obtain ⟨k, hk, rfl⟩ := ok_of h0 (by decide)
  exact ⟨k, by omega, rfl⟩
theorem eq_shot (N : Nat) (hN : 5000 ≤ N) (l1 l2 : Int32) {cav cor stg : Nat} {v : tO} {H : Nat → tO} {a vol tv : Nat → Int32} {m : Nat} (hcav : cav ≤ 6) (h : RS cav cor stg v H a m) (hv : ∀ c, c < cav → tv c = vol c ∧ ∃ k : Nat, k ≤ 30 ∧ vol c = nI k) {g : tO} (eg : g = H (hx (v.1 4) l1)) : ∃ r : Int32, f5_shot N l1 l2 (nI cav) vol (v.1 4) (v.1 5) (v.1 6) (v.1 7) (v.1 8) (v.2 3) (v.2 4) (g.2 0) (g.2 2) (g.2 3) (g.1 0) (g.1 1) (g.1 2) (g.1 3) (g.1 4) = some r ∧ f6_shot N l1 l2 (nI cav) tv a = some r := by
  obtain ⟨hm6, v4, -, a8⟩ := h.1
  rw [v4] at eg
  rw [f5_shot, f6_shot, v4, c_isShot N l1 hm6, r_isShot N l1 a8, isIn_eq]
  show ∃ r, (if bi (ok l1 _) = 0 then _ else _) = some r ∧ (if bi (ok l1 _) = 0 then _ else (if bi _ = 0 then _ else _)) = some r
  by_cases hk : ok l1 (min m 12) = true
  · obtain ⟨s, hs, rfl⟩ := ok_of hk (by omega)
    rw [if_neg (bi_1 hk), if_neg (bi_1 hk)]
    by_cases hl : 0 ≤ l2 ∧ l2 ≤ 8
    · obtain ⟨j, hj, rfl⟩ := nine0 hl
      obtain ⟨w, hw20, a18, v5⟩ := h.2.2.2.2.2.1
      obtain ⟨T, hT, a15, v6, v8, hT1⟩ := h.2.2.2.2.2.2.1
      have hRH := RS_shot h hs
      rw [← eg] at hRH
      rw [if_neg (i_nlt.mpr hl.1), if_pos hl.2, if_neg (bi_1 (decide_eq_true hl)), keptShot_ok N hm6 (by omega)]
      by_cases h7 : j = 7
      · subst h7
        rw [if_pos (show (7 : Int32) ≤ nI 7 by decide), if_neg (show ¬ nI 7 = (8 : Int32) by decide), if_pos (show ok 1015 1155 = true by decide), show Int32.toNatClampNeg 1015 = 1015 from rfl, a15, v6]
        rw [Option.bind_some]
        rw [if_pos (show nI 7 = (7 : Int32) from rfl)]
        by_cases h0 : T = 0
        · subst h0
          rw [if_pos (show nI 0 = (0 : Int32) from rfl), if_pos (show nI 0 = (0 : Int32) from rfl)]
          exact ⟨_, rfl, rfl⟩
        · obtain ⟨-, -, -, hb⟩ := hT1 (by omega)
          obtain ⟨r, r1, r2⟩ := amiss_eq N hN (s := s) (w := v.1 5) (pr := g.2 3) (by omega) (a18.trans v5.symm) (fun k hk => hRH.2.2.2.2.2.2.1 k hk) hb
          rw [if_neg (nI_ne0 (by omega) (by omega)), if_neg (nI_ne0 (by omega) (by omega)), r1, r2]
          exact ⟨_, rfl, rfl⟩
      · by_cases h8 : j = 8
        · subst h8
          obtain ⟨B, B1, B2⟩ := eq_isBad N hN (tv := tv) hcav h hs hv eg
          rw [if_pos (show (7 : Int32) ≤ nI 8 by decide), if_pos (show nI 8 = (8 : Int32) from rfl), B2]
          rw [Option.bind_some]
          rw [if_neg (show ¬ nI 8 = (7 : Int32) by decide), if_pos (show nI 8 = (8 : Int32) from rfl), B1]
          cases B <;> exact ⟨_, rfl, rfl⟩
        · obtain ⟨r, r1, r2⟩ := told_eq N hN (p := 84 * s) (nn := 1155) (a := a) (by omega) (by omega) hRH (show j < 7 by omega)
          rw [if_neg (show ¬ (7 : Int32) ≤ nI j from nI_ge (b := 7) (by omega) (by omega)), show (84 : Int32) * nI s = nI (84 * s) from pk_mul 84 s, r2]
          rw [Option.bind_some]
          rw [if_neg (show ¬ nI j = (7 : Int32) from fun q => h7 ((nI_eq (b := 7) (by omega) (by omega)).mp q)), if_neg (show ¬ nI j = (8 : Int32) from fun q => h8 ((nI_eq (b := 8) (by omega) (by omega)).mp q)), r1]
          exact ⟨_, rfl, rfl⟩
    · rw [if_pos (bi_0 (fun q => hl (of_decide_eq_true q)))]
      by_cases h1 : l2 < 0
      · rw [if_pos h1]; exact ⟨_, rfl, rfl⟩
      · rw [if_neg h1, if_neg (fun h9 => hl ⟨i_nlt.mp h1, h9⟩)]; exact ⟨_, rfl, rfl⟩
  · rw [if_pos (bi_0 hk), if_pos (bi_0 hk)]
    exact ⟨_, rfl, rfl⟩
