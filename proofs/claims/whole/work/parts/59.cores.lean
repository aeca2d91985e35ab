/-! cores: what stands against a motion -/
def bb (y c : Nat) : Int32 := (nI y >>> (nI c &&& 31)) &&& 1
theorem bb_01 : ∀ y, y < 16 → ∀ c, c < 4 → bb y c = 0 ∨ bb y c = 1 := by decide +kernel
theorem isIn3 (N : Nat) {y c : Nat} (hy : y < 16) (hc : c < 4) : f3_isIn N (nI c) (nI y) = some (bb y c) := by
  show (if bb y c = 1 then some 1 else some 0) = _
  rcases bb_01 y hy c hc with h | h
  · rw [h]; rfl
  · rw [h]; rfl
/-- EARLIER ones, with the class and with the reference -/
def RE (cor : Nat) (ahead earl : Nat → Int32) : Prop := ∃ rk : Nat → Nat, ∀ c, c < cor → (ahead c = 9 ∧ earl c = -4) ∨ ∃ e : Nat, e < cor ∧ ahead c = nI e ∧ earl c = nI e ∧ rk e < rk c
theorem RE_eq {cor : Nat} {ahead earl : Nat → Int32} (hcor : cor ≤ 4) (h : RE cor ahead earl) {k c : Nat} (hk : k < cor) (hc : c < 4) : (ahead k = nI c ↔ earl k = nI c) := by
  obtain ⟨rk, h⟩ := h
  rcases h k hk with ⟨h1, h2⟩ | ⟨e, he, h1, h2, -⟩
  · rw [h1, h2]
    constructor
    · intro q
      have := (nI_eq (a := 9) (b := c) (by omega) (by omega)).mp q
      omega
    · intro q
      exact absurd q.symm (nI_nm4 (by omega))
  · rw [h1, h2]
theorem inBehind_eq (N : Nat) {cor y c : Nat} {ahead earl a : Nat → Int32} (hcor : cor ≤ 4) (hy : y < 16) (hc : c < 4) (h : RE cor ahead earl) (ha : a 1011 = nI y) : ∀ (m n k : Nat), k + m = cor → m < n → ∃ r : Int32, f5_inBehind_2 N n (nI c) (nI k) (nI cor) ahead (nI y) = some r ∧ f6_against1_116 N n (nI c) (nI k) (nI cor) earl a = f5_barrier_83 N r := by
  intro m
  induction m with
  | zero =>
    intro n k hk hn
    obtain ⟨n, rfl⟩ : ∃ n', n = n' + 1 := ⟨n - 1, by omega⟩
    rw [f5_inBehind_2, f6_against1_116, if_pos (show nI cor ≤ nI k from nI_le (by omega) (by omega)), if_pos (show nI cor ≤ nI k from nI_le (by omega) (by omega))]
    exact ⟨_, rfl, rfl⟩
  | succ m ih =>
    intro n k hk hn
    obtain ⟨n, rfl⟩ : ∃ n', n = n' + 1 := ⟨n - 1, by omega⟩
    obtain ⟨r, h1, h2⟩ := ih n (k + 1) (by omega) (by omega)
    rw [f5_inBehind_2, f6_against1_116, if_neg (show ¬ nI cor ≤ nI k from nI_ge (by omega) (by omega)), if_neg (show ¬ nI cor ≤ nI k from nI_ge (by omega) (by omega)), if_pos (ok_nI (by omega) (by omega)), if_pos (ok_nI (by omega) (by omega)), cl_nI (by omega), nI_1]
    by_cases he : ahead k = nI c
    · rw [if_pos he, if_pos ((RE_eq hcor h (by omega) hc).mp he), isIn3 N hy (by omega), if_pos (show ok 1011 1155 = true by decide), show Int32.toNatClampNeg 1011 = 1011 from rfl, ha]
      show ∃ r, (if bb y k = 0 then _ else _) = some r ∧ (if bb y k = 1 then _ else _) = _
      rcases bb_01 y hy k (by omega) with hb | hb
      · rw [hb, if_pos rfl, if_neg (show ¬ (0 : Int32) = 1 by decide)]
        exact ⟨r, h1, h2⟩
      · rw [hb, if_neg (show ¬ (1 : Int32) = 0 by decide), if_pos rfl]
        refine ⟨_, rfl, ?_⟩
        rw [f5_barrier_83, if_neg (z9 (e := k) (by omega) rfl)]
    · rw [if_neg he, if_neg (fun q => he ((RE_eq hcor h (by omega) hc).mpr q))]
      exact ⟨r, h1, h2⟩
theorem barrier_66_eq (N : Nat) (hN : 5000 ≤ N) {cor y c : Nat} {ahead earl a : Nat → Int32} (hcor : cor ≤ 4) (hy : y < 16) (hc : c < cor) (h : RE cor ahead earl) (ha : a 1011 = nI y) {fl : Int32} (hf : fl = 0 ∨ fl = 1) : ∃ r : Int32, f5_barrier_66 N (nI c) fl (nI cor) ahead (nI y) = some r ∧ f6_against1_65 N (nI c) fl (nI cor) earl a = some r := by
  rw [f5_barrier_66, f6_against1_65]
  rcases hf with rfl | rfl
  · obtain ⟨r, h1, h2⟩ := inBehind_eq N hcor hy (show c < 4 by omega) h ha cor N 0 (by omega) (by omega)
    rw [if_pos rfl, if_neg (show ¬ (0 : Int32) = 1 by decide)]
    rw [show f5_inBehind N (nI c) (nI cor) ahead (nI y) = some r from h1, show f6_against1_116 N N (nI c) 0 (nI cor) earl a = _ from h2]
    show ∃ s, f5_barrier_83 N r = some s ∧ f5_barrier_83 N r = some s
    rw [f5_barrier_83]
    by_cases h9 : r = 9
    · rw [if_pos h9]; exact ⟨_, rfl, rfl⟩
    · rw [if_neg h9]; exact ⟨_, rfl, rfl⟩
  · rw [if_neg (show ¬ (1 : Int32) = 0 by decide), if_pos rfl, f5_outAheadOf, if_pos (ok_nI (by omega) (by omega)), if_pos (ok_nI (by omega) (by omega)), cl_nI (by omega)]
    obtain ⟨rk, hr⟩ := h
    rcases hr c hc with ⟨h1, h2⟩ | ⟨e, he, h1, h2, -⟩
    · rw [h1, h2, if_pos rfl, c_isCore N 9 (by omega), show ok 9 cor = false from decide_eq_false (fun q => by have z : (9 : Int32).toInt = 9 := rfl; omega)]
      exact ⟨_, rfl, rfl⟩
    · rw [h1, h2, c_isCore N (nI e) (by omega), ok_nI he (by omega), if_neg (nI_nm4 (by omega)), isIn3 N hy (by omega), if_pos (show ok 1011 1155 = true by decide), show Int32.toNatClampNeg 1011 = 1011 from rfl, ha]
      have hk4 : ok (nI c) 4 = true := ok_nI (by omega) (by omega)
      show ∃ r, ((if bb y e = 0 then some (nI e) else some 9).bind fun q => f5_barrier_83 N q) = some r ∧ (if ok (nI c) 4 = true then (if bb y e = 0 then (if ok (nI c) 4 = true then some (4 + nI e) else none) else some 0) else none) = some r
      rw [if_pos hk4, if_pos hk4]
      rcases bb_01 y hy e (by omega) with hb | hb
      · rw [hb, if_pos rfl, if_pos rfl]
        show ∃ r, f5_barrier_83 N (nI e) = some r ∧ _
        rw [f5_barrier_83, if_neg (z9 (e := e) (by omega) rfl)]
        exact ⟨_, rfl, rfl⟩
      · rw [hb, if_neg (show ¬ (1 : Int32) = 0 by decide), if_neg (show ¬ (1 : Int32) = 0 by decide)]
        exact ⟨_, rfl, rfl⟩
theorem barrier_eq (N : Nat) (hN : 5000 ≤ N) {cor y c : Nat} {ahead earl a : Nat → Int32} {sh lo ho : Int32} (hcor : cor ≤ 4) (hy : y < 16) (hc : c < cor) (h : RE cor ahead earl) (ha : a 1011 = nI y) (h10 : a 1010 = sh) (h12 : a 1012 = lo) (h13 : a 1013 = ho) (hlo : isb lo = true) (hho : isb ho = true) {fl : Int32} (hf : fl = 0 ∨ fl = 1) : ∃ r : Int32, f5_barrier N (nI c) fl (nI cor) ahead sh (nI y) lo ho = some r ∧ f6_against1 N (nI c) fl (nI cor) earl a = some r := by
  obtain ⟨r, h1, h2⟩ := barrier_66_eq N hN hcor hy hc h ha hf
  have e : f5_barrier N (nI c) fl (nI cor) ahead sh (nI y) lo ho = f5_barrier_10 N (nI c) fl (nI cor) ahead sh (nI y) lo ho := by
    rw [f5_barrier]
    rcases hf with rfl | rfl
    · rw [if_neg (show ¬ (0 : Int32) = 1 by decide)]
    · rw [if_pos rfl]
  rw [e, f5_barrier_10, f6_against1, isIn3 N hy (by omega), if_pos (show ok 1011 1155 = true by decide), show Int32.toNatClampNeg 1011 = 1011 from rfl, ha, if_pos (show ok 1010 1155 = true by decide), show Int32.toNatClampNeg 1010 = 1010 from rfl, h10, if_pos (show ok 1012 1155 = true by decide), show Int32.toNatClampNeg 1012 = 1012 from rfl, h12, if_pos (show ok 1013 1155 = true by decide), show Int32.toNatClampNeg 1013 = 1013 from rfl, h13, h1, h2]
  show ∃ r, (if bb y c = fl then _ else _) = some r ∧ (if bb y c = fl then _ else _) = some r
  by_cases hb : bb y c = fl
  · rw [if_pos hb, if_pos hb]; exact ⟨_, rfl, rfl⟩
  · rw [if_neg hb, if_neg hb]
    by_cases hs : sh = 0
    · rw [if_pos hs, if_pos hs]; exact ⟨_, rfl, rfl⟩
    · rw [if_neg hs, if_neg hs]
      rcases hf with rfl | rfl
      · rw [if_pos rfl, if_neg (show ¬ (0 : Int32) = 1 by decide)]
        rcases of_decide_eq_true hho with q | q
        · rw [if_pos q, if_neg (show ¬ ho = 1 by rw [q]; decide)]; exact ⟨_, rfl, rfl⟩
        · rw [if_neg (show ¬ ho = 0 by rw [q]; decide), if_pos q]; exact ⟨_, rfl, rfl⟩
      · rw [if_neg (show ¬ (1 : Int32) = 0 by decide), if_pos rfl]
        rcases of_decide_eq_true hlo with q | q
        · rw [if_pos q, if_neg (show ¬ lo = 1 by rw [q]; decide)]; exact ⟨_, rfl, rfl⟩
        · rw [if_neg (show ¬ lo = 0 by rw [q]; decide), if_pos q]; exact ⟨_, rfl, rfl⟩
theorem eq_against (N : Nat) (hN : 5000 ≤ N) (l1 l2 : Int32) {cor y : Nat} {ahead earl a : Nat → Int32} {sh lo ho : Int32} (hcor : cor ≤ 4) (hy : y < 16) (h : RE cor ahead earl) (ha : a 1011 = nI y) (h10 : a 1010 = sh) (h12 : a 1012 = lo) (h13 : a 1013 = ho) (hlo : isb lo = true) (hho : isb ho = true) : ∃ r : Int32, f5_against N l1 l2 (nI cor) ahead sh (nI y) lo ho = some r ∧ f6_against N l1 l2 (nI cor) earl a = some r := by
  rw [f5_against, f6_against, c_isCore N l1 (by omega), r_isCore N l1 (by omega), c_isFlag, r_isFlag]
  show ∃ r, (if bi (ok l1 cor) = 0 then _ else (if bi (isb l2) = 0 then _ else _)) = some r ∧ (if bi (ok l1 cor) = 0 then _ else (if bi (isb l2) = 0 then _ else _)) = some r
  by_cases hk : ok l1 cor = true
  · obtain ⟨c, hc, rfl⟩ := ok_of hk (by omega)
    rw [if_neg (bi_1 hk), if_neg (bi_1 hk)]
    by_cases hl : isb l2 = true
    · obtain ⟨r, h1, h2⟩ := barrier_eq N hN hcor hy hc h ha h10 h12 h13 hlo hho (of_decide_eq_true hl)
      rw [if_neg (bi_1 hl), if_neg (bi_1 hl), h1, h2]
      exact ⟨_, rfl, rfl⟩
    · rw [if_pos (bi_0 hl), if_pos (bi_0 hl)]; exact ⟨_, rfl, rfl⟩
  · rw [if_pos (bi_0 hk), if_pos (bi_0 hk)]; exact ⟨_, rfl, rfl⟩
