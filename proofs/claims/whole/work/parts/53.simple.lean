/-! the questions on numbers -/
def bi (b : Bool) : Int32 := if b then 1 else 0
theorem bi_isb (b : Bool) : isb (bi b) = true := by cases b <;> decide
theorem i_nlt {x y : Int32} : ¬ x < y ↔ y ≤ x := by rw [i_lt, i_le]; omega
theorem i_nle {x y : Int32} : ¬ x ≤ y ↔ y < x := by rw [i_lt, i_le]; omega
theorem isIn_eq (N : Nat) (v a b : Int32) : f6_isIn N v a b = some (bi (decide (a ≤ v ∧ v ≤ b))) := by
  rw [f6_isIn]
  by_cases h1 : v < a
  · rw [if_pos h1, decide_eq_false (fun h => i_nlt.mpr h.1 h1)]; rfl
  · rw [if_neg h1]
    by_cases h2 : b < v
    · rw [if_pos h2, decide_eq_false (fun h => i_nlt.mpr h.2 h2)]; rfl
    · rw [if_neg h2, decide_eq_true ⟨i_nlt.mp h1, i_nlt.mp h2⟩]; rfl
theorem ok_dec {c : Int32} {n : Nat} (hn : n < 2 ^ 30) : decide (0 ≤ c ∧ c ≤ nI n - 1) = ok c n := by
  rw [ok]
  congr 1
  rw [i_le, i_le, i_sub (by rw [nI_toInt (by omega)]; show _ ≤ (n : Int) - 1; omega) (by rw [nI_toInt (by omega)]; show (n : Int) - 1 < _; omega), nI_toInt (by omega)]
  show (0 ≤ c.toInt ∧ c.toInt ≤ (n : Int) - 1) = _
  apply propext
  omega
theorem nn_eq {c : Int32} {n : Nat} (hn : n < 2 ^ 30) : (if c < 0 then some (0 : Int32) else (if nI n ≤ c then some 0 else some 1)) = some (bi (ok c n)) := by
  by_cases h1 : c < 0
  · rw [if_pos h1]
    have : ok c n = false := decide_eq_false (fun h => by rw [i_lt] at h1; have : (0 : Int32).toInt = 0 := rfl; omega)
    rw [this]; rfl
  · rw [if_neg h1]
    rw [i_lt] at h1
    have z : (0 : Int32).toInt = 0 := rfl
    by_cases h2 : nI n ≤ c
    · rw [if_pos h2]
      rw [i_le, nI_toInt (by omega)] at h2
      have : ok c n = false := decide_eq_false (fun h => by omega)
      rw [this]; rfl
    · rw [if_neg h2]
      rw [i_le, nI_toInt (by omega)] at h2
      have : ok c n = true := decide_eq_true (by omega)
      rw [this]; rfl
theorem c_isCore (N : Nat) (c : Int32) {n : Nat} (hn : n < 2 ^ 30) : f5_isCore N c (nI n) = some (bi (ok c n)) := nn_eq hn
theorem c_isCavity (N : Nat) (c : Int32) {n : Nat} (hn : n < 2 ^ 30) : f5_isCavity N c (nI n) = some (bi (ok c n)) := nn_eq hn
theorem r_in0 (N : Nat) (c : Int32) {n : Nat} (hn : n < 2 ^ 30) : ((f6_isIn N c 0 (nI n - 1)).bind fun q_1 => (if isb q_1 = true then some (q_1) else none)) = some (bi (ok c n)) := by
  rw [isIn_eq, ok_dec hn]
  exact if_pos (bi_isb _)
theorem r_isCore (N : Nat) (c : Int32) {n : Nat} (hn : n < 2 ^ 30) : f6_isCore N c (nI n) = some (bi (ok c n)) := r_in0 N c hn
theorem r_isCavity (N : Nat) (c : Int32) {n : Nat} (hn : n < 2 ^ 30) : f6_isCavity N c (nI n) = some (bi (ok c n)) := r_in0 N c hn
theorem kept_eq {m : Nat} (hm : m ≤ 600) : (if (12 : Int32) < nI m then 12 else nI m) = nI (min m 12) := by
  by_cases h : 12 < m
  · rw [if_pos (show (12 : Int32) < nI m from nI_lt (a := 12) h (by omega)), show min m 12 = 12 by omega]; rfl
  · rw [if_neg (show ¬ (12 : Int32) < nI m from nI_nlt (a := 12) (by omega) (by omega)), show min m 12 = m by omega]
theorem c_isShot (N : Nat) (c : Int32) {m : Nat} (hm : m ≤ 600) : f5_isShot N c (nI m) = some (bi (ok c (min m 12))) := by
  rw [f5_isShot, f5_keptShots, kept_eq hm]
  exact nn_eq (by omega)
theorem r_isShot (N : Nat) (c : Int32) {m : Nat} {a : Nat → Int32} (ha : a 1008 = nI (min m 12)) : f6_isShot N c a = some (bi (ok c (min m 12))) := by
  rw [f6_isShot, if_pos (by decide), show Int32.toNatClampNeg 1008 = 1008 from rfl, ha]
  exact r_in0 N c (by omega)
theorem c_isTick (N : Nat) (c : Int32) : f5_isTick N c = some (bi (decide (1 ≤ c ∧ c ≤ 60))) := by
  rw [f5_isTick]
  by_cases h1 : c < 1
  · rw [if_pos h1, decide_eq_false (fun h => i_nlt.mpr h.1 h1)]; rfl
  · rw [if_neg h1]
    by_cases h2 : 60 < c
    · rw [if_pos h2, decide_eq_false (fun h => i_nlt.mpr h.2 h2)]; rfl
    · rw [if_neg h2, decide_eq_true ⟨i_nlt.mp h1, i_nlt.mp h2⟩]; rfl
theorem flag_iff {c : Int32} : (0 ≤ c ∧ c ≤ 1) ↔ (c = 0 ∨ c = 1) := by
  rw [i_le, i_le, i_ti, i_ti]
  have z : (0 : Int32).toInt = 0 := rfl
  have o : (1 : Int32).toInt = 1 := rfl
  omega
theorem c_isFlag (N : Nat) (c : Int32) : f5_isFlag N c = some (bi (isb c)) := by
  rw [f5_isFlag, isb]
  by_cases h0 : c = 0
  · rw [if_pos h0, decide_eq_true (Or.inl h0)]; rfl
  · rw [if_neg h0]
    by_cases h1 : c = 1
    · rw [if_pos h1, decide_eq_true (Or.inr h1)]; rfl
    · rw [if_neg h1, decide_eq_false (fun h => h.elim h0 h1)]; rfl
theorem r_isFlag (N : Nat) (c : Int32) : f6_isIn N c 0 1 = some (bi (isb c)) := by
  rw [isIn_eq, isb]
  congr 2
  exact decide_eq_decide.mpr flag_iff
theorem bi_1 {b : Bool} (h : b = true) : ¬ bi b = 0 := by subst h; decide
theorem bi_0 {b : Bool} (h : ¬ b = true) : bi b = 0 := by cases b; rfl; exact absurd rfl h
/-! write, wipe, earlier, cavity, band -/
/-- the text in common -/
def RT (xl : Nat → Int32) (xn : Int32) (tt : Nat → Int32) (tn : Int32) : Prop := ∃ L : Nat, L ≤ 200 ∧ xn = nI L ∧ tn = nI L ∧ ∀ k, k < L → tt k = xl k
theorem eq_write (N : Nat) (l1 : Int32) {xl tt : Nat → Int32} {xn tn : Int32} (h : RT xl xn tt tn) : ∃ (r : Int32) (xl' tt' : Nat → Int32) (xn' tn' : Int32), f5_write N l1 xl xn = some (r, xl', xn') ∧ f6_write N l1 tn tt = some (r, tn', tt') ∧ RT xl' xn' tt' tn' := by
  obtain ⟨L, hL, rfl, rfl, ht⟩ := h
  rw [f5_write, f6_write]
  by_cases h1 : l1 < 32
  · rw [if_pos h1, if_pos h1]
    exact ⟨_, _, _, _, _, rfl, rfl, L, hL, rfl, rfl, ht⟩
  · rw [if_neg h1, if_neg h1]
    by_cases h2 : l1 ≤ 126
    · rw [if_pos h2, if_pos h2, f4_append]
      by_cases h3 : L < 200
      · rw [if_pos (show nI L < (200 : Int32) from nI_lt (b := 200) h3 (by omega)), if_pos (ok_nI h3 (by omega)), if_neg (show ¬ nI L = (200 : Int32) from fun e => by have := (nI_eq (b := 200) (by omega) (by omega)).mp e; omega), if_pos (ok_nI h3 (by omega)), cl_nI (by omega), nI_1]
        refine ⟨_, _, _, _, _, rfl, rfl, L + 1, h3, rfl, rfl, fun k hk => ?_⟩
        show upd tt L l1 k = upd xl L l1 k
        rw [up_d, up_d]
        by_cases h4 : k = L
        · rw [if_pos h4, if_pos h4]
        · rw [if_neg h4, if_neg h4]; exact ht k (by omega)
      · rw [if_neg (show ¬ nI L < (200 : Int32) from nI_nlt (b := 200) (by omega) (by omega)), if_pos (show nI L = (200 : Int32) by rw [show L = 200 by omega]; rfl)]
        exact ⟨_, _, _, _, _, rfl, rfl, L, hL, rfl, rfl, ht⟩
    · rw [if_neg h2, if_neg h2]
      exact ⟨_, _, _, _, _, rfl, rfl, L, hL, rfl, rfl, ht⟩
theorem eq_wipe (N : Nat) {xl tt : Nat → Int32} {xn tn : Int32} (h : RT xl xn tt tn) : ∃ r : Int32, f5_wipe N xn = some (r, 0) ∧ f6_wipe N tn = some (r, 0) ∧ RT xl 0 tt 0 := by
  obtain ⟨L, hL, rfl, rfl, ht⟩ := h
  exact ⟨_, rfl, rfl, 0, Nat.zero_le _, rfl, rfl, fun k hk => absurd hk (Nat.not_lt_zero k)⟩
theorem addO {k : Nat} {c : Int32} {n : Nat} (hc : ok c n = true) (hn : n < 2 ^ 20) (hk : k < 2 ^ 20) : ∃ j : Nat, j < n ∧ c = nI j ∧ nI k + c = nI (k + j) := by
  obtain ⟨j, hj, rfl⟩ := ok_of hc (by omega)
  exact ⟨j, hj, rfl, addn k j⟩
theorem z9 {x : Int32} {e : Nat} (he : e < 4) (h : x = nI e) : ¬ x = 9 := by
  subst h
  intro q
  have := (nI_eq (b := 9) (by omega) (by omega)).mp q
  omega
theorem eq_earlier (N : Nat) (c : Int32) {cor : Nat} {ahead earl : Nat → Int32} (hcor : cor ≤ 4) (hR : ∃ rk : Nat → Nat, ∀ c, c < cor → (ahead c = 9 ∧ earl c = -4) ∨ ∃ e : Nat, e < cor ∧ ahead c = nI e ∧ earl c = nI e ∧ rk e < rk c) : ∃ r : Int32, f5_earlier N c (nI cor) ahead = some r ∧ f6_earlier N c (nI cor) earl = some r := by
  rw [f5_earlier, f6_earlier, c_isCore N c (by omega), r_isCore N c (by omega)]
  show ∃ r, (if bi (ok c cor) = 0 then _ else _) = _ ∧ (if bi (ok c cor) = 0 then _ else _) = _
  by_cases h : ok c cor = true
  · obtain ⟨j, hj, rfl⟩ := ok_of h (by omega)
    rw [if_neg (bi_1 h), if_neg (bi_1 h), if_pos (ok_nI (by omega) (by omega)), cl_nI (by omega), if_pos (ok_nI (by omega) (by omega)), if_pos (ok_nI (by omega) (by omega))]
    obtain ⟨rk, hR⟩ := hR
    rcases hR j hj with ⟨h1, h2⟩ | ⟨e, he, h1, h2, -⟩
    · rw [if_pos h1, h2]
      exact ⟨_, rfl, rfl⟩
    · rw [if_neg (z9 (by omega) h1), h1, h2]
      exact ⟨_, rfl, rfl⟩
  · rw [if_pos (bi_0 h), if_pos (bi_0 h)]
    exact ⟨_, rfl, rfl⟩
theorem three_iff {c : Int32} : (0 ≤ c ∧ c ≤ 2) ↔ (c = 0 ∨ c = 1 ∨ c = 2) := by
  rw [i_le, i_le, i_ti, i_ti, i_ti]
  have z : (0 : Int32).toInt = 0 := rfl
  have o : (1 : Int32).toInt = 1 := rfl
  have t : (2 : Int32).toInt = 2 := rfl
  omega
theorem eq_cavity (N : Nat) (c w : Int32) {cav : Nat} {vol fre dr tv tf a : Nat → Int32} (hcav : cav ≤ 6) (hv : ∀ c, c < cav → tv c = vol c ∧ tf c = fre c ∧ a (1139 + c) = dr c) : ∃ r : Int32, f5_cavity N c w (nI cav) vol fre dr = some r ∧ f6_cavity N c w (nI cav) tv tf a = some r := by
  rw [f5_cavity, f6_cavity, c_isCavity N c (by omega), r_isCavity N c (by omega), isIn_eq]
  show ∃ r, (if bi (ok c cav) = 0 then _ else _) = _ ∧ (if bi (ok c cav) = 0 then _ else (if bi _ = 0 then _ else _)) = _
  by_cases h : ok c cav = true
  · obtain ⟨j, hj, rfl⟩ := ok_of h (by omega)
    obtain ⟨h1, h2, h3⟩ := hv j hj
    rw [if_neg (bi_1 h), if_neg (bi_1 h)]
    by_cases w0 : w = 0
    · subst w0
      rw [if_neg (bi_1 (by decide)), if_pos rfl, if_pos rfl, if_pos (ok_nI (by omega) (by omega)), if_pos (ok_nI (by omega) (by omega)), cl_nI (by omega), h1]
      exact ⟨_, rfl, rfl⟩
    · by_cases w1 : w = 1
      · subst w1
        rw [if_neg (bi_1 (by decide)), if_neg w0, if_neg w0, if_pos rfl, if_pos rfl, if_pos (ok_nI (by omega) (by omega)), show (1139 : Int32) + nI j = nI (1139 + j) from addn 1139 j, if_pos (ok_nI (by omega) (by omega)), cl_nI (by omega), cl_nI (by omega), h3]
        exact ⟨_, rfl, rfl⟩
      · by_cases w2 : w = 2
        · subst w2
          rw [if_neg (bi_1 (by decide)), if_neg w0, if_neg w0, if_neg w1, if_neg w1, if_pos rfl, if_pos (ok_nI (by omega) (by omega)), if_pos (ok_nI (by omega) (by omega)), cl_nI (by omega), h2]
          exact ⟨_, rfl, rfl⟩
        · rw [if_neg w0, if_neg w1, if_neg w2, if_pos (bi_0 (fun q => (three_iff.mp (of_decide_eq_true q)).elim w0 (fun q => q.elim w1 w2)))]
          exact ⟨_, rfl, rfl⟩
  · rw [if_pos (bi_0 h), if_pos (bi_0 h)]
    exact ⟨_, rfl, rfl⟩
theorem next_eq {i : Nat} (hi : i < 5) : (nI i + 1) - (nI i + 1) / 5 * 5 = nI ((i + 1) % 5) := by
  rw [nI_1]
  exact pk_rem (a := i + 1) (d := 5) (by omega) (by omega) (by omega)
theorem prev_eq {i : Nat} (hi : i < 5) : ((nI i + 5) - 1) - ((nI i + 5) - 1) / 5 * 5 = nI ((i + 4) % 5) := by
  rw [show nI i + (5 : Int32) = nI (i + 4 + 1) from addn i 5, nI_pred]
  exact pk_rem (a := i + 4) (d := 5) (by omega) (by omega) (by omega)
theorem copyS (N : Nat) {sh lo ho : Int32} (h1 : isb sh = true) (h2 : isb lo = true) (h3 : isb ho = true) : f3_copyFrom N sh lo ho = some () := by
  rw [f3_copyFrom, if_pos h1, if_pos h2, if_pos h3]; rfl
theorem startC (N : Nat) {i : Nat} {sh lo ho : Int32} (hi : i < 5) (h1 : isb sh = true) (h2 : isb lo = true) (h3 : isb ho = true) : f5_startChange N (nI i) sh lo ho = some () := by
  have h4 : i + 1 - (i + 1) / 5 * 5 = (i + 1) % 5 := by omega
  rw [f5_startChange, next_eq hi, if_pos (ok_nI (Nat.mod_lt _ (by decide)) (by omega)), copyS N h1 h2 h3, if_pos (ok_nI (Nat.mod_lt _ (by decide)) (by omega))]
  rfl
theorem und_eq {d : Nat} (hd : d ≤ 4) : (if (4 : Int32) < nI d + 1 then 4 else nI d + 1) = nI (dP d) := by
  rw [nI_1, dP]
  by_cases h : d = 4
  · subst h; decide
  · rw [if_neg (show ¬ (4 : Int32) < nI (d + 1) from nI_nlt (a := 4) (by omega) (by omega)), if_neg h]
theorem c_undo0 (N : Nat) (at_ : Int32) : f5_undo N at_ 0 = some (-2, at_, 0) := by
  rw [f5_undo, if_pos rfl]
theorem c_undo (N : Nat) {i d : Nat} (hi : i < 5) (hd : d ≤ 3) : f5_undo N (nI i) (nI (d + 1)) = some (nI d, nI ((i + 4) % 5), nI d) := by
  rw [f5_undo, if_neg (nI_ne0 (by omega) (by omega)), prev_eq hi, if_pos (ok_nI (Nat.mod_lt _ (by decide)) (by omega)), nI_pred]
theorem tick_iff {c : Int32} (h : 1 ≤ c ∧ c ≤ 60) : ∃ k : Nat, k < 60 ∧ c = nI (k + 1) := by
  have h0 : ok (c - 1) 60 = true := by
    rw [i_le, i_le] at h
    have o : (1 : Int32).toInt = 1 := rfl
    have s : (60 : Int32).toInt = 60 := rfl
    refine decide_eq_true ?_
    rw [i_sub (by rw [o]; omega) (by rw [o]; omega), o]
    omega
  obtain ⟨k, hk, e⟩ := ok_of h0 (by decide)
  refine ⟨k, hk, ?_⟩
  rw [← nI_1, ← e]
  rw [i_ti]
  rw [i_le, i_le] at h
  have o : (1 : Int32).toInt = 1 := rfl
  have s : (60 : Int32).toInt = 60 := rfl
  have e1 : (c - 1).toInt = c.toInt - 1 := by rw [i_sub (by rw [o]; omega) (by rw [o]; omega), o]
  rw [i_add (by rw [e1, o]; omega) (by rw [e1, o]; omega), e1, o]
  omega
theorem eq_band (N : Nat) (t w : Int32) {T : Nat} {so lg : Int32} {le gr a : Nat → Int32} (hT : T ≤ 600) (h15 : a 1015 = nI T) (h0 : T = 0 → lg = 0) (h1 : 0 < T → a 1017 = lg ∧ ∀ k, k < 60 → a (1019 + k) = le k ∧ a (1079 + k) = gr k) : ∃ r : Int32, f5_band N t w lg le gr = some r ∧ f6_band N t w a = some r := by
  rw [f5_band, f6_band, c_isTick, isIn_eq, r_isFlag, c_isFlag]
  show ∃ r, (if bi _ = 0 then _ else (if bi _ = 0 then _ else _)) = _ ∧ (if bi _ = 0 then _ else (if bi _ = 0 then _ else _)) = _
  by_cases ht : (1 ≤ t ∧ t ≤ 60)
  · rw [if_neg (bi_1 (decide_eq_true ht)), if_neg (bi_1 (decide_eq_true ht))]
    by_cases hw : isb w = true
    · rw [if_neg (bi_1 hw), if_neg (bi_1 hw), if_pos (show ok 1015 1155 = true by decide), show Int32.toNatClampNeg 1015 = 1015 from rfl, h15]
      obtain ⟨k, hk, rfl⟩ := tick_iff ht
      by_cases hz : T = 0
      · subst hz
        rw [h0 rfl, if_neg (show ¬ nI (k + 1) ≤ (0 : Int32) from nI_ge (a := 0) (by omega) (by omega)), if_pos (show nI 0 = (0 : Int32) from rfl)]
        exact ⟨_, rfl, rfl⟩
      · obtain ⟨h2, h3⟩ := h1 (by omega)
        rw [if_neg (nI_ne0 (by omega) (by omega)), if_pos (show ok 1017 1155 = true by decide), show Int32.toNatClampNeg 1017 = 1017 from rfl, h2]
        by_cases hl : nI (k + 1) ≤ lg
        · rw [if_pos hl, if_pos hl]
          by_cases hw0 : w = 0
          · rw [if_pos hw0, if_pos hw0, nI_pred, if_pos (ok_nI hk (by omega)), cl_nI (by omega), f6_band_64, show (1019 : Int32) + nI (k + 1) = nI (1019 + k + 1) from addn 1019 (k + 1), nI_pred, if_pos (ok_nI (by omega) (by omega)), cl_nI (by omega), (h3 k hk).1]
            exact ⟨_, rfl, rfl⟩
          · rw [if_neg hw0, if_neg hw0, nI_pred, if_pos (ok_nI hk (by omega)), cl_nI (by omega), f6_band_64, show (1079 : Int32) + nI (k + 1) = nI (1079 + k + 1) from addn 1079 (k + 1), nI_pred, if_pos (ok_nI (by omega) (by omega)), cl_nI (by omega), (h3 k hk).2]
            exact ⟨_, rfl, rfl⟩
        · rw [if_neg hl, if_neg hl]
          exact ⟨_, rfl, rfl⟩
    · rw [if_pos (bi_0 hw), if_pos (bi_0 hw)]
      exact ⟨_, rfl, rfl⟩
  · rw [if_pos (bi_0 (fun q => ht (of_decide_eq_true q))), if_pos (bi_0 (fun q => ht (of_decide_eq_true q)))]
    exact ⟨_, rfl, rfl⟩
