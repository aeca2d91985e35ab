/-! the text: letters, numbers -/
def la (L : Nat) (T : Nat → Int32) (p : Nat) : Int32 := if p < L then T p else 0
def dB (x : Int32) : Bool := decide (48 ≤ x ∧ x ≤ 57)
theorem dB_t {x : Int32} (h : dB x = true) : ¬ x < 48 ∧ ¬ 57 < x ∧ ¬ x = 44 ∧ ¬ x = 59 ∧ ¬ x = 0 := by
  have := of_decide_eq_true h
  obtain ⟨h1, h2⟩ := this
  refine ⟨i_nlt.mpr h1, i_nlt.mpr h2, fun e => ?_, fun e => ?_, fun e => ?_⟩ <;> (rw [e] at h1 h2; revert h1 h2; decide)
theorem dB_f {x : Int32} (h : ¬ dB x = true) : x < 48 ∨ 57 < x := by
  by_cases z : x < 48
  · exact .inl z
  · exact .inr (i_nle.mp (fun q => h (decide_eq_true ⟨i_nlt.mp z, q⟩)))
/-- how many figures stand there, at most two; what they tell -/
def nd (L : Nat) (T : Nat → Int32) (p : Nat) : Nat := if dB (la L T p) = true then (if dB (la L T (p + 1)) = true then 2 else 1) else 0
def nv (L : Nat) (T : Nat → Int32) (p : Nat) : Int32 := if dB (la L T p) = true then (if dB (la L T (p + 1)) = true then 10 * (10 * 0 + la L T p - 48) + la L T (p + 1) - 48 else 10 * 0 + la L T p - 48) else 0
theorem dig_of {x : Int32} (h : dB x = true) : ∃ d : Nat, d < 10 ∧ x = nI (48 + d) := by
  obtain ⟨h1, h2⟩ := of_decide_eq_true h
  have a : (48 : Int32).toInt = 48 := rfl
  have b : (57 : Int32).toInt = 57 := rfl
  rw [i_le] at h1 h2
  have h0 : ok x 58 = true := decide_eq_true (by omega)
  obtain ⟨k, hk, rfl⟩ := ok_of h0 (by decide)
  rw [nI_toInt (by omega)] at h1
  exact ⟨k - 48, by omega, by congr 1; omega⟩
theorem dig_val {d : Nat} : (10 : Int32) * 0 + nI (48 + d) - 48 = nI d := by
  rw [show (10 : Int32) * 0 = nI 0 by decide, addn, show (48 : Int32) = nI 48 from rfl, pk_sub (by omega)]
  congr 1; omega
theorem nv_nat {L : Nat} {T : Nat → Int32} {p : Nat} : ∃ x : Nat, x < 100 ∧ nv L T p = nI x := by
  unfold nv
  by_cases h : dB (la L T p) = true
  · rw [if_pos h]
    obtain ⟨d, hd, e⟩ := dig_of h
    rw [e, dig_val]
    by_cases h2 : dB (la L T (p + 1)) = true
    · rw [if_pos h2]
      obtain ⟨d2, hd2, e2⟩ := dig_of h2
      refine ⟨10 * d + d2, by omega, ?_⟩
      rw [e2, show (10 : Int32) * nI d = nI (10 * d) from pk_mul 10 d, addn, show (48 : Int32) = nI 48 from rfl, pk_sub (by omega)]
      congr 1; omega
    · rw [if_neg h2]
      exact ⟨d, by omega, rfl⟩
  · rw [if_neg h]
    exact ⟨0, by omega, rfl⟩
theorem la_lt {L : Nat} {T : Nat → Int32} {p : Nat} (h : ¬ la L T p = 0) : p < L ∧ la L T p = T p := by
  by_cases z : p < L
  · exact ⟨z, if_pos z⟩
  · exact absurd (if_neg z) h
theorem letter_eq (N : Nat) {L : Nat} {T : Nat → Int32} {p : Nat} (hL : L ≤ 200) (hp : p < 2 ^ 20) : f6_letterAt N (nI p) (nI L) T = some (la L T p) := by
  rw [f6_letterAt, la]
  by_cases z : p < L
  · rw [if_neg (show ¬ nI L ≤ nI p from nI_ge z (by omega)), if_pos (ok_nI (n := 200) (k := p) (by omega) (by omega)), if_pos z, cl_nI (by omega)]
  · rw [if_pos (nI_le (by omega) (by omega)), if_neg z]
theorem num83 (N : Nat) {p q : Nat} {lo hi v : Int32} (hq : q < 2 ^ 20) (hp : p ≤ q) : f6_number_83 N (nI p) lo hi v (nI q) = some (bi (decide (p < q ∧ lo ≤ v ∧ v ≤ hi)), v, nI q) := by
  rw [f6_number_83]
  by_cases z : p < q
  · rw [if_neg (show ¬ nI q ≤ nI p from nI_ge z (by omega)), isIn_eq, Option.bind_some]
    by_cases y : lo ≤ v ∧ v ≤ hi
    · rw [if_neg (bi_1 (decide_eq_true y)), decide_eq_true ⟨z, y⟩]; rfl
    · rw [if_pos (bi_0 (fun h => y (of_decide_eq_true h))), decide_eq_false (fun h => y h.2)]; rfl
  · rw [if_pos (nI_le (by omega) (by omega)), decide_eq_false (fun h => z h.1)]; rfl
theorem num_eq (N : Nat) (hN : 5000 ≤ N) {L : Nat} {T : Nat → Int32} {p : Nat} {lo hi : Int32} (hL : L ≤ 200) (hp : p < 1000) : f6_number N (nI p) lo hi (nI L) T = some (bi (decide (p < p + nd L T p ∧ lo ≤ nv L T p ∧ nv L T p ≤ hi)), nv L T p, nI (p + nd L T p)) := by
  obtain ⟨n, rfl⟩ : ∃ n, N = n + 3 := ⟨N - 3, by omega⟩
  have e2 : nI p + (2 : Int32) = nI (p + 2) := addn p 2
  rw [f6_number, f6_number_10, e2, if_neg (show ¬ nI (p + 2) ≤ nI p from nI_ge (by omega) (by omega)), letter_eq (n + 3) hL (by omega), Option.bind_some, Option.bind_some]
  by_cases h : dB (la L T p) = true
  · obtain ⟨h1, h2, -, -, h0⟩ := dB_t h
    obtain ⟨l1, l2⟩ := la_lt h0
    rw [if_neg h1, if_neg h2, if_pos (ok_nI (n := 200) (k := p) (by omega) (by omega)), cl_nI (by omega), ← l2, nI_1, f6_number_10, e2, if_neg (show ¬ nI (p + 2) ≤ nI (p + 1) from nI_ge (by omega) (by omega)), letter_eq (n + 3) hL (by omega), Option.bind_some, Option.bind_some]
    by_cases g : dB (la L T (p + 1)) = true
    · obtain ⟨g1, g2, -, -, g0⟩ := dB_t g
      obtain ⟨k1, k2⟩ := la_lt g0
      have n2 : nd L T p = 2 := by rw [nd, if_pos h, if_pos g]
      have v2 : nv L T p = 10 * (10 * 0 + la L T p - 48) + la L T (p + 1) - 48 := by rw [nv, if_pos h, if_pos g]
      rw [if_neg g1, if_neg g2, if_pos (ok_nI (n := 200) (k := p + 1) (by omega) (by omega)), cl_nI (by omega), ← k2, nI_1, f6_number_10, e2, if_pos (nI_le (by omega) (by omega)), show p + 1 + 1 = p + 2 by omega, num83 _ (by omega) (by omega), n2, v2]
    · have n1 : nd L T p = 1 := by rw [nd, if_pos h, if_neg g]
      have v1 : nv L T p = 10 * 0 + la L T p - 48 := by rw [nv, if_pos h, if_neg g]
      rw [n1, v1]
      rcases dB_f g with g1 | g1
      · rw [if_pos g1, num83 _ (by omega) (by omega)]
      · by_cases g2 : la L T (p + 1) < 48
        · rw [if_pos g2, num83 _ (by omega) (by omega)]
        · rw [if_neg g2, if_pos g1, num83 _ (by omega) (by omega)]
  · have n0 : nd L T p = 0 := by rw [nd, if_neg h]
    have v0 : nv L T p = 0 := by rw [nv, if_neg h]
    rw [n0, v0]
    rcases dB_f h with g1 | g1
    · rw [if_pos g1, num83 _ (by omega) (by omega)]; rfl
    · by_cases g2 : la L T p < 48
      · rw [if_pos g2, num83 _ (by omega) (by omega)]; rfl
      · rw [if_neg g2, if_pos g1, num83 _ (by omega) (by omega)]; rfl
theorem bi_b {b : Bool} {x1 x2 : Int32} : (if bi b = 0 then some ((0 : Int32), x1, x2) else some (1, x1, x2)) = some (bi b, x1, x2) := by cases b <;> rfl
/-- where the next number would stand -/
def nx (L : Nat) (T : Nat → Int32) (p : Nat) : Nat := p + nd L T p + 1
theorem nd_le {L : Nat} {T : Nat → Int32} {p : Nat} : nd L T p ≤ 2 := by
  unfold nd
  by_cases h : dB (la L T p) = true
  · rw [if_pos h]
    by_cases g : dB (la L T (p + 1)) = true
    · rw [if_pos g]; omega
    · rw [if_neg g]; omega
  · rw [if_neg h]; omega
theorem more_eq (N : Nat) (hN : 5000 ≤ N) {L : Nat} {T : Nat → Int32} {p : Nat} {lo hi v : Int32} (hL : L ≤ 200) (hp : p < 900) : f6_more N lo hi (nI L) T v (nI p) = if la L T p = 44 then some (bi (decide (p + 1 < p + 1 + nd L T (p + 1) ∧ lo ≤ nv L T (p + 1) ∧ nv L T (p + 1) ≤ hi)), nv L T (p + 1), nI (p + 1 + nd L T (p + 1))) else some (bi false, v, nI p) := by
  rw [f6_more, letter_eq N hL (by omega), Option.bind_some]
  by_cases z : la L T p = 44
  · rw [if_pos z, if_pos z, nI_1, num_eq N hN hL (by omega), Option.bind_some]
    exact bi_b
  · rw [if_neg z, if_neg z]; rfl
/-! the class's numbers -/
/-- a ';' at e, none ahead of it from a on -/
def SEMI (L : Nat) (T : Nat → Int32) (a e : Nat) : Prop := a ≤ e ∧ e < L ∧ la L T e = 59 ∧ ∀ j, a ≤ j → j < e → ¬ la L T j = 59
theorem SEMI_nd {L : Nat} {T : Nat → Int32} {a e : Nat} (h : SEMI L T a e) : a + nd L T a ≤ e := by
  obtain ⟨h1, h2, h3, h4⟩ := h
  have nD : ¬ dB (la L T e) = true := by rw [h3]; decide
  unfold nd
  by_cases h : dB (la L T a) = true
  · have ae : a ≠ e := fun z => nD (z ▸ h)
    rw [if_pos h]
    by_cases g : dB (la L T (a + 1)) = true
    · have ae : a + 1 ≠ e := fun z => nD (z ▸ g)
      rw [if_pos g]; omega
    · rw [if_neg g]; omega
  · rw [if_neg h]; omega
theorem SEMI_nx {L : Nat} {T : Nat → Int32} {a e : Nat} (h : SEMI L T a e) (h44 : la L T (a + nd L T a) = 44) : SEMI L T (nx L T a) e := by
  have h0 := SEMI_nd h
  obtain ⟨h1, h2, h3, h4⟩ := h
  have ne : a + nd L T a ≠ e := fun z => by rw [z, h3] at h44; revert h44; decide
  exact ⟨by unfold nx; omega, h2, h3, fun j q1 q2 => h4 j (by unfold nx at q1; omega) q2⟩
theorem SEMI_eq {L : Nat} {T : Nat → Int32} {a e : Nat} (h : SEMI L T a e) (h59 : la L T (a + nd L T a) = 59) : a + nd L T a = e := by
  have h0 := SEMI_nd h
  by_cases z : a + nd L T a = e
  · exact z
  · exact absurd h59 (h.2.2.2 _ (by omega) (by omega))
def rd (L : Nat) (T : Nat → Int32) (e : Nat) : Nat → Nat → Nat → (Nat → Int32) → Int32 × (Nat → Int32)
  | 0, _, _, nums => (0, nums)
  | r + 1, a, k, nums => if nd L T a = 0 then (0, nums) else if a + nd L T a = e then (nI (k + 1), upd nums k (nv L T a)) else if la L T (a + nd L T a) = 44 then rd L T e r (nx L T a) (k + 1) (upd nums k (nv L T a)) else (0, nums)
theorem rn_one (N : Nat) {L e i k f n : Nat} {T xl nums : Nat → Int32} {v : Int32} (hL : L ≤ 200) (he : e < L) (hi : i ≤ e) (hx : ∀ j, j < L → xl j = la L T j) : f4_readNumbers_11 N (n + 1) (nI e) (nI k) (nI f) v (nI i) xl nums = f4_readNumbers_35 (fun a0 a1 a2 a3 a4 a5 a6 => f4_readNumbers_11 N n a0 a1 a2 a3 a4 a5 a6) N (nI e) (nI k) (nI f) v (nI i) (if i = e then 44 else la L T i) xl nums := by
  rw [f4_readNumbers_11, if_neg (show ¬ nI e < nI i from nI_nlt hi (by omega))]
  by_cases z : i = e
  · rw [if_pos (nI_le (by omega) (by omega)), if_pos z]
  · rw [if_neg (show ¬ nI e ≤ nI i from nI_ge (by omega) (by omega)), if_neg z, if_pos (ok_nI (n := 200) (k := i) (by omega) (by omega)), cl_nI (by omega), hx i (by omega)]
theorem rn_end (N : Nat) {e k n : Nat} {xl nums : Nat → Int32} {f v : Int32} (he : e < 1000) : f4_readNumbers_11 N (n + 1) (nI e) (nI k) f v (nI (e + 1)) xl nums = some (nI k, nums) := by
  rw [f4_readNumbers_11, if_pos (show nI e < nI (e + 1) from nI_lt (by omega) (by omega))]
theorem rn_sep (N : Nat) {L e i k f n : Nat} {T xl nums : Nat → Int32} {v : Int32} (hL : L ≤ 200) (he : e < L) (hi : i ≤ e) (hx : ∀ j, j < L → xl j = la L T j) (hf : 1 ≤ f ∧ f ≤ 2) (hk : k ≤ 3) (h2 : f = 2 ∨ i = e ∨ ¬ dB (la L T i) = true) : f4_readNumbers_11 N (n + 2) (nI e) (nI k) (nI f) v (nI i) xl nums = if k < 3 then (if i = e then some (nI (k + 1), upd nums k v) else if la L T i = 44 then f4_readNumbers_11 N (n + 1) (nI e) (nI (k + 1)) 0 0 (nI (i + 1)) xl (upd nums k v) else some (0, nums)) else some (0, nums) := by
  have f0 : ¬ nI f = 0 := nI_ne0 (by omega) (by omega)
  have sep : (if nI k < (3 : Int32) then (if ok (nI k) 3 = true then f4_readNumbers_11 N (n + 1) (nI e) (nI k + 1) 0 0 (nI i + 1) xl (upd nums (Int32.toNatClampNeg (nI k)) v) else none) else some (0, nums)) = if k < 3 then f4_readNumbers_11 N (n + 1) (nI e) (nI (k + 1)) 0 0 (nI (i + 1)) xl (upd nums k v) else some (0, nums) := by
    by_cases z : k < 3
    · rw [if_pos (show nI k < (3 : Int32) from nI_lt (b := 3) z (by omega)), if_pos (ok_nI z (by omega)), if_pos z, cl_nI (by omega), nI_1, nI_1]
    · rw [if_neg (show ¬ nI k < (3 : Int32) from nI_nlt (b := 3) (by omega) (by omega)), if_neg z]
  rw [rn_one N hL he hi hx, f4_readNumbers_35]
  by_cases z : i = e
  · rw [if_pos z, if_pos (show (44 : Int32) = 44 from rfl), if_neg f0, if_pos z]
    refine sep.trans ?_
    by_cases y : k < 3
    · rw [if_pos y, if_pos y, z, rn_end N (by omega)]
    · rw [if_neg y, if_neg y]
  · rw [if_neg z, if_neg z]
    by_cases y : la L T i = 44
    · rw [if_pos y, if_pos y, if_neg f0]
      exact sep
    · rw [if_neg y, if_neg y]
      have r : (if k < 3 then some ((0 : Int32), nums) else some (0, nums)) = some (0, nums) := by
        by_cases w : k < 3
        · rw [if_pos w]
        · rw [if_neg w]
      rw [r]
      by_cases w : la L T i < 48
      · rw [if_pos w]
      · rw [if_neg w]
        by_cases u : 57 < la L T i
        · rw [if_pos u]
        · rw [if_neg u]
          rcases h2 with q | q | q
          · rw [q, if_neg (show ¬ nI 2 < (2 : Int32) by decide)]
          · exact absurd q z
          · exact absurd (dB_f q) (fun o => o.elim w u)
theorem rn_dig (N : Nat) {L e i k f n : Nat} {T xl nums : Nat → Int32} {v : Int32} (hL : L ≤ 200) (he : e < L) (hi : i ≤ e) (hx : ∀ j, j < L → xl j = la L T j) (h59 : la L T e = 59) (hf : f < 2) (hd : dB (la L T i) = true) : i < e ∧ f4_readNumbers_11 N (n + 1) (nI e) (nI k) (nI f) v (nI i) xl nums = f4_readNumbers_11 N n (nI e) (nI k) (nI (f + 1)) (10 * v + la L T i - 48) (nI (i + 1)) xl nums := by
  have ne : i ≠ e := fun z => by rw [z, h59] at hd; revert hd; decide
  obtain ⟨g1, g2, g3, -, -⟩ := dB_t hd
  refine ⟨by omega, ?_⟩
  rw [rn_one N hL he hi hx, f4_readNumbers_35, if_neg ne, if_neg g3, if_neg g1, if_neg g2, if_pos (show nI f < (2 : Int32) from nI_lt (b := 2) hf (by omega)), nI_1, nI_1]
theorem rn_lp (N : Nat) {L e : Nat} {T xl : Nat → Int32} (hL : L ≤ 200) (he : e < L) (hx : ∀ j, j < L → xl j = la L T j) (h59 : la L T e = 59) : ∀ (r a k n : Nat) (nums : Nat → Int32), a ≤ e → k + r = 3 → 4 * r + 5 ≤ n → ∃ nums' : Nat → Int32, f4_readNumbers_11 N n (nI e) (nI k) 0 0 (nI a) xl nums = some ((rd L T e r a k nums).1, nums') ∧ (¬ (rd L T e r a k nums).1 = 0 → nums' = (rd L T e r a k nums).2) := by
  intro r
  induction r with
  | zero =>
    intro a k n nums ha hk hn
    obtain ⟨n, rfl⟩ : ∃ q, n = q + 5 := ⟨n - 5, by omega⟩
    refine ⟨nums, ?_, fun h => absurd rfl h⟩
    have k3 : k = 3 := by omega
    by_cases h : dB (la L T a) = true
    · obtain ⟨a1, s1⟩ := rn_dig N (k := k) (f := 0) (n := n + 4) (v := 0) (nums := nums) hL he ha hx h59 (by omega) h
      refine s1.trans ?_
      by_cases g : dB (la L T (a + 1)) = true
      · obtain ⟨a2, s2⟩ := rn_dig N (k := k) (f := 0 + 1) (n := n + 3) (v := 10 * 0 + la L T a - 48) (nums := nums) hL he (show a + 1 ≤ e by omega) hx h59 (by omega) g
        refine s2.trans ?_
        rw [rn_sep N (n := n + 1) (f := 0 + 1 + 1) hL he (show a + 1 + 1 ≤ e by omega) hx (by omega) (by omega) (.inl rfl), if_neg (by omega)]; rfl
      · rw [rn_sep N (n := n + 2) (f := 0 + 1) hL he (show a + 1 ≤ e by omega) hx (by omega) (by omega) (.inr (.inr g)), if_neg (by omega)]; rfl
    · rw [show (0 : Int32) = nI 0 from rfl, rn_one N hL he ha hx, f4_readNumbers_35]
      by_cases z : a = e
      · rw [if_pos z, if_pos (show (44 : Int32) = 44 from rfl), if_pos (show nI 0 = 0 from rfl)]; rfl
      · rw [if_neg z]
        by_cases y : la L T a = 44
        · rw [if_pos y, if_pos (show nI 0 = 0 from rfl)]; rfl
        · rw [if_neg y]
          by_cases w : la L T a < 48
          · rw [if_pos w]; rfl
          · rw [if_neg w, if_pos ((dB_f h).resolve_left w)]; rfl
  | succ r ih =>
    intro a k n nums ha hk hn
    obtain ⟨n, rfl⟩ : ∃ q, n = q + 5 := ⟨n - 5, by omega⟩
    have k3 : k < 3 := by omega
    have fin : ∀ (d n1 : Nat) (v : Int32), d = nd L T a → 1 ≤ d → v = nv L T a → a + d ≤ e → 4 * r + 5 ≤ n1 → ∃ nums' : Nat → Int32, (if k < 3 then (if a + d = e then some (nI (k + 1), upd nums k v) else if la L T (a + d) = 44 then f4_readNumbers_11 N n1 (nI e) (nI (k + 1)) 0 0 (nI (a + d + 1)) xl (upd nums k v) else some (0, nums)) else some (0, nums)) = some ((rd L T e (r + 1) a k nums).1, nums') ∧ (¬ (rd L T e (r + 1) a k nums).1 = 0 → nums' = (rd L T e (r + 1) a k nums).2) := by
      intro d n1 v ed d1 evv hde hn1
      rw [if_pos k3, rd, ed, evv, if_neg (show ¬ nd L T a = 0 by omega)]
      by_cases z : a + nd L T a = e
      · rw [if_pos z, if_pos z]
        exact ⟨_, rfl, fun _ => rfl⟩
      · rw [if_neg z, if_neg z]
        by_cases y : la L T (a + nd L T a) = 44
        · rw [if_pos y, if_pos y]
          exact ih (nx L T a) (k + 1) n1 (upd nums k (nv L T a)) (by unfold nx; omega) (by omega) hn1
        · rw [if_neg y, if_neg y]
          exact ⟨_, rfl, fun h => absurd rfl h⟩
    by_cases h : dB (la L T a) = true
    · obtain ⟨a1, s1⟩ := rn_dig N (k := k) (f := 0) (n := n + 4) (v := 0) (nums := nums) hL he ha hx h59 (by omega) h
      have s1' : f4_readNumbers_11 N (n + 5) (nI e) (nI k) 0 0 (nI a) xl nums = _ := s1
      rw [s1']
      by_cases g : dB (la L T (a + 1)) = true
      · obtain ⟨a2, s2⟩ := rn_dig N (k := k) (f := 0 + 1) (n := n + 3) (v := 10 * 0 + la L T a - 48) (nums := nums) hL he (show a + 1 ≤ e by omega) hx h59 (by omega) g
        rw [s2, rn_sep N (n := n + 1) (f := 0 + 1 + 1) hL he (show a + 1 + 1 ≤ e by omega) hx (by omega) (by omega) (.inl rfl)]
        exact fin 2 (n + 1 + 1) _ (by rw [nd, if_pos h, if_pos g]) (by omega) (by rw [nv, if_pos h, if_pos g]) (by omega) (by omega)
      · rw [rn_sep N (n := n + 2) (f := 0 + 1) hL he (show a + 1 ≤ e by omega) hx (by omega) (by omega) (.inr (.inr g))]
        exact fin 1 (n + 2 + 1) _ (by rw [nd, if_pos h, if_neg g]) (by omega) (by rw [nv, if_pos h, if_neg g]) (by omega) (by omega)
    · have n0 : nd L T a = 0 := by rw [nd, if_neg h]
      rw [rd, if_pos n0]
      refine ⟨nums, ?_, fun h => absurd rfl h⟩
      rw [show (0 : Int32) = nI 0 from rfl, rn_one N hL he ha hx, f4_readNumbers_35]
      by_cases z : a = e
      · rw [if_pos z, if_pos (show (44 : Int32) = 44 from rfl), if_pos (show nI 0 = 0 from rfl)]; rfl
      · rw [if_neg z]
        by_cases y : la L T a = 44
        · rw [if_pos y, if_pos (show nI 0 = 0 from rfl)]; rfl
        · rw [if_neg y]
          by_cases w : la L T a < 48
          · rw [if_pos w]; rfl
          · rw [if_neg w, if_pos ((dB_f h).resolve_left w)]; rfl
/-- one number, two, three up to e -/
def C1 (L : Nat) (T : Nat → Int32) (e a : Nat) : Prop := ¬ nd L T a = 0 ∧ a + nd L T a = e
def C2 (L : Nat) (T : Nat → Int32) (e a : Nat) : Prop := ¬ nd L T a = 0 ∧ ¬ a + nd L T a = e ∧ la L T (a + nd L T a) = 44 ∧ C1 L T e (nx L T a)
def C3 (L : Nat) (T : Nat → Int32) (e a : Nat) : Prop := ¬ nd L T a = 0 ∧ ¬ a + nd L T a = e ∧ la L T (a + nd L T a) = 44 ∧ C2 L T e (nx L T a)
theorem rd_cases (L : Nat) (T : Nat → Int32) (e a : Nat) (nums : Nat → Int32) : (C1 L T e a ∧ rd L T e 3 a 0 nums = (1, upd nums 0 (nv L T a))) ∨ (C2 L T e a ∧ rd L T e 3 a 0 nums = (2, upd (upd nums 0 (nv L T a)) 1 (nv L T (nx L T a)))) ∨ (C3 L T e a ∧ rd L T e 3 a 0 nums = (3, upd (upd (upd nums 0 (nv L T a)) 1 (nv L T (nx L T a))) 2 (nv L T (nx L T (nx L T a))))) ∨ ((rd L T e 3 a 0 nums).1 = 0 ∧ ¬ C1 L T e a ∧ ¬ C2 L T e a ∧ ¬ C3 L T e a) := by
  rw [rd]
  by_cases h0 : nd L T a = 0
  · rw [if_pos h0]
    exact .inr (.inr (.inr ⟨rfl, fun q => q.1 h0, fun q => q.1 h0, fun q => q.1 h0⟩))
  · rw [if_neg h0]
    by_cases h1 : a + nd L T a = e
    · rw [if_pos h1]
      exact .inl ⟨⟨h0, h1⟩, rfl⟩
    · rw [if_neg h1]
      by_cases h2 : la L T (a + nd L T a) = 44
      · rw [if_pos h2, rd]
        by_cases g0 : nd L T (nx L T a) = 0
        · rw [if_pos g0]
          exact .inr (.inr (.inr ⟨rfl, fun q => h1 q.2, fun q => q.2.2.2.1 g0, fun q => q.2.2.2.1 g0⟩))
        · rw [if_neg g0]
          by_cases g1 : nx L T a + nd L T (nx L T a) = e
          · rw [if_pos g1]
            exact .inr (.inl ⟨⟨h0, h1, h2, g0, g1⟩, rfl⟩)
          · rw [if_neg g1]
            by_cases g2 : la L T (nx L T a + nd L T (nx L T a)) = 44
            · rw [if_pos g2, rd]
              by_cases k0 : nd L T (nx L T (nx L T a)) = 0
              · rw [if_pos k0]
                exact .inr (.inr (.inr ⟨rfl, fun q => h1 q.2, fun q => g1 q.2.2.2.2, fun q => q.2.2.2.2.2.2.1 k0⟩))
              · rw [if_neg k0]
                by_cases k1 : nx L T (nx L T a) + nd L T (nx L T (nx L T a)) = e
                · rw [if_pos k1]
                  exact .inr (.inr (.inl ⟨⟨h0, h1, h2, g0, g1, g2, k0, k1⟩, rfl⟩))
                · rw [if_neg k1]
                  refine .inr (.inr (.inr ⟨?_, fun q => h1 q.2, fun q => g1 q.2.2.2.2, fun q => k1 q.2.2.2.2.2.2.2⟩))
                  by_cases k2 : la L T (nx L T (nx L T a) + nd L T (nx L T (nx L T a))) = 44
                  · rw [if_pos k2]; rfl
                  · rw [if_neg k2]
            · rw [if_neg g2]
              exact .inr (.inr (.inr ⟨rfl, fun q => h1 q.2, fun q => g1 q.2.2.2.2, fun q => g2 q.2.2.2.2.2.1⟩))
      · rw [if_neg h2]
        exact .inr (.inr (.inr ⟨rfl, fun q => h1 q.2, fun q => h2 q.2.2.1, fun q => h2 q.2.2.1⟩))
theorem rn_eq (N : Nat) (hN : 5000 ≤ N) {L e a : Nat} {T xl nums : Nat → Int32} (hL : L ≤ 200) (hx : ∀ j, j < L → xl j = la L T j) (hS : SEMI L T a e) : ∃ (f : Int32) (nums' : Nat → Int32), f4_readNumbers N (nI a) (nI e) xl nums = some (f, nums') ∧ ((C1 L T e a ∧ f = 1 ∧ nums' 0 = nv L T a) ∨ (C2 L T e a ∧ f = 2 ∧ nums' 0 = nv L T a ∧ nums' 1 = nv L T (nx L T a)) ∨ (C3 L T e a ∧ f = 3 ∧ nums' 0 = nv L T a ∧ nums' 1 = nv L T (nx L T a) ∧ nums' 2 = nv L T (nx L T (nx L T a))) ∨ (f = 0 ∧ ¬ C1 L T e a ∧ ¬ C2 L T e a ∧ ¬ C3 L T e a)) := by
  obtain ⟨nums', h1, h2⟩ := rn_lp N hL hS.2.1 hx hS.2.2.1 3 a 0 N nums hS.1 (by omega) (by omega)
  refine ⟨_, nums', h1, ?_⟩
  rcases rd_cases L T e a nums with ⟨c, q⟩ | ⟨c, q⟩ | ⟨c, q⟩ | ⟨q, c⟩
  · rw [q] at h2 ⊢
    have e2 := h2 (show ¬ (1 : Int32) = 0 by decide)
    refine .inl ⟨c, rfl, ?_⟩
    rw [e2]; show upd nums 0 (nv L T a) 0 = _; rw [up_s]
  · rw [q] at h2 ⊢
    have e2 := h2 (show ¬ (2 : Int32) = 0 by decide)
    refine .inr (.inl ⟨c, rfl, ?_, ?_⟩)
    · rw [e2]; show upd (upd nums 0 (nv L T a)) 1 (nv L T (nx L T a)) 0 = _; rw [up_n (show (0 : Nat) ≠ 1 by decide), up_s]
    · rw [e2]; show upd (upd nums 0 (nv L T a)) 1 (nv L T (nx L T a)) 1 = _; rw [up_s]
  · rw [q] at h2 ⊢
    have e2 := h2 (show ¬ (3 : Int32) = 0 by decide)
    refine .inr (.inr (.inl ⟨c, rfl, ?_, ?_, ?_⟩))
    · rw [e2]; show upd (upd (upd nums 0 (nv L T a)) 1 (nv L T (nx L T a))) 2 (nv L T (nx L T (nx L T a))) 0 = _; rw [up_n (show (0 : Nat) ≠ 2 by decide), up_n (show (0 : Nat) ≠ 1 by decide), up_s]
    · rw [e2]; show upd (upd (upd nums 0 (nv L T a)) 1 (nv L T (nx L T a))) 2 (nv L T (nx L T (nx L T a))) 1 = _; rw [up_n (show (1 : Nat) ≠ 2 by decide), up_s]
    · rw [e2]; show upd (upd (upd nums 0 (nv L T a)) 1 (nv L T (nx L T a))) 2 (nv L T (nx L T (nx L T a))) 2 = _; rw [up_s]
  · exact .inr (.inr (.inr ⟨q, c⟩))
