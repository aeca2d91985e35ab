/-! the whole text: class and reference the same -/
def RX (x : (Nat → Int32) × Int32 × (Nat → Int32) × (Nat → Int32) × (Nat → Int32) × Int32 × (Nat → Int32) × Int32 × (Nat → Int32) × (Nat → Int32) × (Nat → Int32)) (y : Int32 × (Nat → Int32) × Int32 × (Nat → Int32) × Int32 × (Nat → Int32) × (Nat → Int32) × Int32 × Int32) : Prop :=
  ∃ (C c s : Nat) (nums vo dr fr ah pl sp se rc rk rs rr : Nat → Int32) (v q : Int32), x = (nums, nI C, vo, dr, fr, nI c, ah, nI s, pl, sp, se) ∧ y = (nI C, rc, nI c, rk, nI s, rs, rr, v, q) ∧ RD C c s vo dr fr ah pl sp se rc rk rs rr
theorem scan_to (N : Nat) {L p e : Nat} {xl nums vo dr fr ah pl sp se : Nat → Int32} {ca co st : Int32} (hL : L ≤ 200) (he : e < L) : ∀ (m n i : Nat), i + m = e → (∀ j, i ≤ j → j < e → ¬ xl j = 59) → f4_readInto_8 N (n + m) (nI p) (nI i) xl nums (nI L) ca vo dr fr co ah st pl sp se = f4_readInto_8 N n (nI p) (nI e) xl nums (nI L) ca vo dr fr co ah st pl sp se := by
  intro m
  induction m with
  | zero =>
    intro n i hi h
    rw [show i = e by omega]; rfl
  | succ m ih =>
    intro n i hi h
    rw [show n + (m + 1) = n + m + 1 by omega, f4_readInto_8, if_neg (show ¬ nI L ≤ nI i from nI_ge (by omega) (by omega)), if_pos (ok_nI (n := 200) (k := i) (by omega) (by omega)), cl_nI (by omega), if_neg (h i (by omega) (by omega)), nI_1]
    exact ih n (i + 1) (by omega) (fun j h1 h2 => h j (by omega) h2)
theorem scan_end (N : Nat) {L p : Nat} {xl nums vo dr fr ah pl sp se : Nat → Int32} {ca co st : Int32} (hL : L ≤ 200) (hp : p < L) : ∀ (m n i : Nat), i + m = L → (∀ j, i ≤ j → j < L → ¬ xl j = 59) → f4_readInto_8 N (n + m + 1) (nI p) (nI i) xl nums (nI L) ca vo dr fr co ah st pl sp se = some (nI p, nums, ca, vo, dr, fr, co, ah, st, pl, sp, se) := by
  intro m
  induction m with
  | zero =>
    intro n i hi h
    rw [f4_readInto_8, if_pos (nI_le (by omega) (by omega)), if_neg (show ¬ nI L ≤ nI p from nI_ge (by omega) (by omega))]
  | succ m ih =>
    intro n i hi h
    rw [show n + (m + 1) + 1 = n + m + 1 + 1 by omega, f4_readInto_8, if_neg (show ¬ nI L ≤ nI i from nI_ge (by omega) (by omega)), if_pos (ok_nI (n := 200) (k := i) (by omega) (by omega)), cl_nI (by omega), if_neg (h i (by omega) (by omega)), nI_1]
    exact ih n (i + 1) (by omega) (fun j h1 h2 => h j (by omega) h2)
theorem find_semi (xl : Nat → Int32) (L : Nat) : ∀ (m i : Nat), i + m = L → (∀ j, i ≤ j → j < L → ¬ xl j = 59) ∨ ∃ e, i ≤ e ∧ e < L ∧ xl e = 59 ∧ ∀ j, i ≤ j → j < e → ¬ xl j = 59 := by
  intro m
  induction m with
  | zero => intro i hi; exact .inl (fun j h1 h2 => by omega)
  | succ m ih =>
    intro i hi
    by_cases h : xl i = 59
    · exact .inr ⟨i, Nat.le_refl _, by omega, h, fun j h1 h2 => by omega⟩
    · rcases ih (i + 1) (by omega) with q | ⟨e, q1, q2, q3, q4⟩
      · refine .inl (fun j h1 h2 => ?_)
        by_cases z : j = i
        · rw [z]; exact h
        · exact q j (by omega) h2
      · refine .inr ⟨e, by omega, q2, q3, fun j h1 h2 => ?_⟩
        by_cases z : j = i
        · rw [z]; exact h
        · exact q4 j (by omega) h2
/-- the reference's item, whatever it is -/
theorem ir (N : Nat) (hN : 5000 ≤ N) {L a C c s : Nat} {T rc rk rs rr : Nat → Int32} {x v0 e0 : Int32} (hL : L ≤ 200) (ha : a < 300) (hC : C ≤ 6) (hc : c ≤ 4) (hs : s ≤ 4) : IY (fun k => a ≤ k) (f6_readsItem N x (nI a) (nI L) T (nI C) rc (nI c) rk (nI s) rs rr v0 e0) := by
  have el := ex_le (L := L) (T := T) (a := a)
  have nl := nd_le (L := L) (T := T) (p := a)
  rw [f6_readsItem]
  by_cases h1 : x = 99
  · obtain ⟨B, c2', rk', v, q, y1, y2, y3⟩ := ref_c N hN (rk := rk) (v0 := v0) (e0 := e0) (T := T) hL ha hc
    rw [if_pos h1, y1, Option.bind_some, if_pos (bi_isb B)]
    by_cases hB : B = true
    · obtain ⟨q1, -, -⟩ := y3 hB
      exact .inr ⟨_, _, _, _, _, _, _, _, a + nd L T a, by rw [hB, q1]; rfl, by omega, by omega⟩
    · exact .inl ⟨_, by rw [(Bool.not_eq_true B).mp hB]; rfl⟩
  · rw [if_neg h1]
    by_cases h2 : x = 104
    · obtain ⟨B, rr', v, q, y1, y2, y3⟩ := ref_r N hN (f := 3) (rr := rr) (v0 := v0) (e0 := e0) (T := T) hL ha (by decide)
      rw [if_pos h2, show f6_readsRules N (nI a) 3 (nI L) T rr v0 e0 = _ from y1, Option.bind_some, if_pos (bi_isb B)]
      by_cases hB : B = true
      · obtain ⟨q1, -⟩ := y3 hB
        exact .inr ⟨_, _, _, _, _, _, _, _, e3 L T a, by rw [hB, q1]; rfl, by omega, by omega⟩
      · exact .inl ⟨_, by rw [(Bool.not_eq_true B).mp hB]; rfl⟩
    · rw [if_neg h2]
      by_cases h3 : x = 111
      · obtain ⟨B, rr', v, q, y1, y2, y3⟩ := ref_r N hN (f := 0) (rr := rr) (v0 := v0) (e0 := e0) (T := T) hL ha (by decide)
        rw [if_pos h3, show f6_readsRules N (nI a) 0 (nI L) T rr v0 e0 = _ from y1, Option.bind_some, if_pos (bi_isb B)]
        by_cases hB : B = true
        · obtain ⟨q1, -⟩ := y3 hB
          exact .inr ⟨_, _, _, _, _, _, _, _, e3 L T a, by rw [hB, q1]; rfl, by omega, by omega⟩
        · exact .inl ⟨_, by rw [(Bool.not_eq_true B).mp hB]; rfl⟩
      · rw [if_neg h3]
        by_cases h4 : x = 115
        · obtain ⟨B, s2', rs', v, q, y1, y2, y3⟩ := ref_s N hN (rs := rs) (v0 := v0) (e0 := e0) (T := T) hL ha hs
          rw [if_pos h4, y1, Option.bind_some, if_pos (bi_isb B)]
          by_cases hB : B = true
          · obtain ⟨q1, -, -⟩ := y3 hB
            exact .inr ⟨_, _, _, _, _, _, _, _, e2 L T a, by rw [hB, q1]; rfl, by omega, by omega⟩
          · exact .inl ⟨_, by rw [(Bool.not_eq_true B).mp hB]; rfl⟩
        · rw [if_neg h4]
          by_cases h5 : x = 118
          · obtain ⟨B, C2', rc', v, q, y1, y2, y3⟩ := ref_v N hN (rc := rc) (v0 := v0) (e0 := e0) (T := T) hL ha hC
            rw [if_pos h5, y1, Option.bind_some, if_pos (bi_isb B)]
            by_cases hB : B = true
            · obtain ⟨q1, -, -⟩ := y3 hB
              exact .inr ⟨_, _, _, _, _, _, _, _, e3 L T a, by rw [hB, q1]; rfl, by omega, by omega⟩
            · exact .inl ⟨_, by rw [(Bool.not_eq_true B).mp hB]; rfl⟩
          · rw [if_neg h5]
            exact .inl ⟨_, rfl⟩
/-- an item that ends with ';' at e -/
theorem it_all (N : Nat) (hN : 5000 ≤ N) {L p e C c s : Nat} {T xl nums vo dr fr ah pl sp se rc rk rs rr : Nat → Int32} {v0 e0 : Int32} (hL : L ≤ 200) (hx : ∀ j, j < L → xl j = la L T j) (hp : p < L) (hS : SEMI L T p e) (hR : RD C c s vo dr fr ah pl sp se rc rk rs rr) : IT L T e (f4_readItem N (nI p) (nI e) xl nums (nI C) vo dr fr (nI c) ah (nI s) pl sp se) (f6_readsItem N (xl p) (nI (p + 1)) (nI L) T (nI C) rc (nI c) rk (nI s) rs rr v0 e0) := by
  obtain ⟨s1, s2, s3, s4⟩ := hS
  by_cases hpe : p = e
  · subst hpe
    have x59 : xl p = 59 := (hx p hp).trans s3
    have h4 : f4_readItem N (nI p) (nI p) xl nums (nI C) vo dr fr (nI c) ah (nI s) pl sp se = some (0, nums, nI C, vo, dr, fr, nI c, ah, nI s, pl, sp, se) := by
      rw [f4_readItem, nI_1, f4_readNumbers]
      obtain ⟨n, rfl⟩ : ∃ q, N = q + 1 := ⟨N - 1, by omega⟩
      rw [show f4_readNumbers_11 (n + 1) (n + 1) (nI p) 0 0 0 (nI (p + 1)) xl nums = _ from rn_end (n + 1) (k := 0) (by omega), Option.bind_some, if_pos (ok_nI (n := 200) (k := p) (by omega) (by omega)), cl_nI (by omega), x59, if_neg (show ¬ (59 : Int32) = 99 by decide), if_neg (show ¬ (59 : Int32) = 104 by decide), if_neg (show ¬ (59 : Int32) = 111 by decide), if_neg (show ¬ (59 : Int32) = 115 by decide), if_neg (show ¬ (59 : Int32) = 118 by decide)]
    have h6 : f6_readsItem N (xl p) (nI (p + 1)) (nI L) T (nI C) rc (nI c) rk (nI s) rs rr v0 e0 = some (0, nI C, rc, nI c, rk, nI s, rs, rr, v0, e0) := by
      rw [f6_readsItem, x59, if_neg (show ¬ (59 : Int32) = 99 by decide), if_neg (show ¬ (59 : Int32) = 104 by decide), if_neg (show ¬ (59 : Int32) = 111 by decide), if_neg (show ¬ (59 : Int32) = 115 by decide), if_neg (show ¬ (59 : Int32) = 118 by decide)]
    exact .inr ⟨⟨_, h4⟩, .inl ⟨_, h6⟩⟩
  · have hS' : SEMI L T (p + 1) e := ⟨by omega, s2, s3, fun j h1 h2 => s4 j (by omega) h2⟩
    by_cases h1 : xl p = 99
    · rw [h1]; exact it_c N hN hL hx hp hS' hR h1
    · by_cases h2 : xl p = 104
      · rw [h2]; exact it_r N hN hL hx hp hS' hR (f := 3) (.inr ⟨rfl, rfl⟩) h2
      · by_cases h3 : xl p = 111
        · rw [h3]; exact it_r N hN hL hx hp hS' hR (f := 0) (.inl ⟨rfl, rfl⟩) h3
        · by_cases h4 : xl p = 115
          · rw [h4]; exact it_s N hN hL hx hp hS' hR h4
          · by_cases h5 : xl p = 118
            · rw [h5]; exact it_v N hN hL hx hp hS' hR h5
            · obtain ⟨f, nums', g1, -⟩ := rn_eq N hN (nums := nums) hL hx hS'
              have h4' : f4_readItem N (nI p) (nI e) xl nums (nI C) vo dr fr (nI c) ah (nI s) pl sp se = some (0, nums', nI C, vo, dr, fr, nI c, ah, nI s, pl, sp, se) := by
                rw [f4_readItem, nI_1, g1, Option.bind_some, if_pos (ok_nI (n := 200) (k := p) (by omega) (by omega)), cl_nI (by omega), if_neg h1, if_neg h2, if_neg h3, if_neg h4, if_neg h5]
              have h6' : f6_readsItem N (xl p) (nI (p + 1)) (nI L) T (nI C) rc (nI c) rk (nI s) rs rr v0 e0 = some (0, nI C, rc, nI c, rk, nI s, rs, rr, v0, e0) := by
                rw [f6_readsItem, if_neg h1, if_neg h2, if_neg h3, if_neg h4, if_neg h5]
              exact .inr ⟨⟨_, h4'⟩, .inl ⟨_, h6'⟩⟩
theorem reads_lp (N : Nat) (hN : 5000 ≤ N) {L : Nat} {T xl : Nat → Int32} (hL : L ≤ 200) (hx : ∀ j, j < L → xl j = la L T j) : ∀ (m n n' p C c s : Nat) (nums vo dr fr ah pl sp se rc rk rs rr : Nat → Int32) (v0 e0 : Int32), p ≤ L → L ≤ p + m → L < p + n → L < p + n' → RD C c s vo dr fr ah pl sp se rc rk rs rr → ∃ r x y, f4_readInto_8 N n (nI p) (nI p) xl nums (nI L) (nI C) vo dr fr (nI c) ah (nI s) pl sp se = some (r, x) ∧ f6_reads_6 N n' (nI p) (nI L) T (nI C) rc (nI c) rk (nI s) rs rr v0 e0 = some (r, y) ∧ (r = -4 → RX x y) := by
  intro m
  induction m with
  | zero =>
    intro n n' p C c s nums vo dr fr ah pl sp se rc rk rs rr v0 e0 hp hm hn hn' hR
    obtain ⟨n, rfl⟩ : ∃ q, n = q + 1 := ⟨n - 1, by omega⟩
    obtain ⟨n', rfl⟩ : ∃ q, n' = q + 1 := ⟨n' - 1, by omega⟩
    have g : nI L ≤ nI p := nI_le (by omega) (by omega)
    rw [f4_readInto_8, if_pos g, if_pos g, f6_reads_6, if_pos g]
    exact ⟨_, _, _, rfl, rfl, fun _ => ⟨C, c, s, nums, vo, dr, fr, ah, pl, sp, se, rc, rk, rs, rr, v0, e0, rfl, rfl, hR⟩⟩
  | succ m ih =>
    intro n n' p C c s nums vo dr fr ah pl sp se rc rk rs rr v0 e0 hp hm hn hn' hR
    obtain ⟨n', rfl⟩ : ∃ q, n' = q + 1 := ⟨n' - 1, by omega⟩
    by_cases hpL : p = L
    · obtain ⟨n, rfl⟩ : ∃ q, n = q + 1 := ⟨n - 1, by omega⟩
      have g : nI L ≤ nI p := nI_le (by omega) (by omega)
      rw [f4_readInto_8, if_pos g, if_pos g, f6_reads_6, if_pos g]
      exact ⟨_, _, _, rfl, rfl, fun _ => ⟨C, c, s, nums, vo, dr, fr, ah, pl, sp, se, rc, rk, rs, rr, v0, e0, rfl, rfl, hR⟩⟩
    · have hp' : p < L := by omega
      have p4 : nI p = -4 → False := fun q => nI_nm4 (by omega) q
      have tp : T p = xl p := by rw [hx p hp', la, if_pos hp']
      rw [f6_reads_6, if_neg (show ¬ nI L ≤ nI p from nI_ge (by omega) (by omega)), if_pos (ok_nI (n := 200) (k := p) (by omega) (by omega)), cl_nI (by omega), tp, nI_1]
      rcases find_semi xl L (L - p) p (by omega) with h59 | ⟨e, e1, e2', e3', e4⟩
      · obtain ⟨k, rfl⟩ : ∃ k, n = k + (L - p) + 1 := ⟨n - (L - p) - 1, by omega⟩
        rw [scan_end N hL hp' (L - p) k p (by omega) h59]
        rcases ir N hN (a := p + 1) (T := T) (rc := rc) (rk := rk) (rs := rs) (rr := rr) (x := xl p) (v0 := v0) (e0 := e0) hL (by omega) hR.1.1 hR.1.2.1 hR.1.2.2 with ⟨y, hy⟩ | ⟨a1, a2, a3, a4, a5, a6, a7, a8, k', hy, k9, hk⟩
        · rw [hy, Option.bind_some, if_pos rfl]
          exact ⟨_, _, _, rfl, rfl, fun q => (p4 q).elim⟩
        · have n59 : ¬ la L T k' = 59 := by
            by_cases z : k' < L
            · rw [← hx k' z]; exact h59 k' (by omega) z
            · rw [la, if_neg z]; decide
          rw [hy, Option.bind_some, if_neg one_ne, letter_eq N hL (by omega), Option.bind_some, if_neg n59]
          exact ⟨_, _, _, rfl, rfl, fun q => (p4 q).elim⟩
      · have hS : SEMI L T p e := ⟨e1, e2', by rw [← hx e e2']; exact e3', fun j h1 h2 => by rw [← hx j (by omega)]; exact e4 j h1 h2⟩
        obtain ⟨k, rfl⟩ : ∃ k, n = k + 1 + (e - p) := ⟨n - (e - p) - 1, by omega⟩
        rw [scan_to N hL e2' (e - p) (k + 1) p (by omega) e4, f4_readInto_8, if_neg (show ¬ nI L ≤ nI e from nI_ge (by omega) (by omega)), if_pos (ok_nI (n := 200) (k := e) (by omega) (by omega)), cl_nI (by omega), if_pos e3', nI_1]
        rcases it_all N hN (nums := nums) (v0 := v0) (e0 := e0) hL hx hp' hS hR with ⟨C', c', s', nums', vo', dr', fr', ah', pl', sp', se', rc', rk', rs', rr', v', hX, hY, hR'⟩ | ⟨⟨x, hX⟩, ⟨y, hY⟩ | ⟨a1, a2, a3, a4, a5, a6, a7, a8, k', hY, k9, hk⟩⟩
        · rw [hX, hY, Option.bind_some, Option.bind_some, if_neg one_ne, if_neg one_ne, letter_eq N hL (by omega), Option.bind_some, if_pos hS.2.2.1, nI_1]
          exact ih k n' (e + 1) C' c' s' nums' vo' dr' fr' ah' pl' sp' se' rc' rk' rs' rr' v' (nI e) (by omega) (by omega) (by omega) (by omega) hR'
        · rw [hX, hY, Option.bind_some, Option.bind_some, if_pos rfl, if_pos rfl]
          exact ⟨_, _, _, rfl, rfl, fun q => (p4 q).elim⟩
        · rw [hX, hY, Option.bind_some, Option.bind_some, if_pos rfl, if_neg one_ne, letter_eq N hL (by omega), Option.bind_some, if_neg hk]
          exact ⟨_, _, _, rfl, rfl, fun q => (p4 q).elim⟩
theorem RD_0 {vo dr fr ah pl sp se rc rk rs rr : Nat → Int32} : RD 0 0 0 vo dr fr ah pl sp (va_cpy tabW se 0 0 6) rc rk rs (upd (upd (upd (upd (upd (upd rr 0 80) 1 90) 2 30) 3 40) 4 5) 5 8) := by
  refine ⟨⟨by omega, by omega, by omega⟩, fun j h => by omega, fun j h => by omega, fun j h => by omega, ⟨fun h => by omega, fun j h => by omega⟩, fun j hj => ?_⟩
  rw [cp_in hj]
  rcases (show j = 0 ∨ j = 1 ∨ j = 2 ∨ j = 3 ∨ j = 4 ∨ j = 5 by omega) with rfl | rfl | rfl | rfl | rfl | rfl
  · exact ⟨rfl, 80, by decide, by decide, rfl⟩
  · exact ⟨rfl, 90, by decide, by decide, rfl⟩
  · exact ⟨rfl, 30, by decide, by decide, rfl⟩
  · exact ⟨rfl, 40, by decide, by decide, rfl⟩
  · exact ⟨rfl, 5, by decide, by decide, rfl⟩
  · exact ⟨rfl, 8, by decide, by decide, rfl⟩
theorem reads_eq (N : Nat) (hN : 5000 ≤ N) {L : Nat} {T xl : Nat → Int32} (hL : L ≤ 200) (hx : ∀ j, j < L → T j = xl j) (nums vo dr fr ah pl sp se rc rk rs rr : Nat → Int32) (v0 e0 : Int32) : ∃ r x y, f4_readInto N xl nums (nI L) vo dr fr ah pl sp se = some (r, x) ∧ f6_reads N (nI L) T rc rk rs rr v0 e0 = some (r, y) ∧ (r = -4 → RX x y) := by
  have hx' : ∀ j, j < L → xl j = la L T j := fun j hj => by rw [la, if_pos hj, hx j hj]
  rw [f4_readInto, f1_clear, Option.bind_some, f6_reads, f6_clears, if_pos (show ok 0 6 = true by decide), if_pos (show ok 1 6 = true by decide), if_pos (show ok 2 6 = true by decide), if_pos (show ok 3 6 = true by decide), if_pos (show ok 4 6 = true by decide), if_pos (show ok 5 6 = true by decide), Option.bind_some]
  exact reads_lp N hN hL hx' 200 N N 0 0 0 0 nums vo dr fr ah pl sp _ rc rk rs _ v0 e0 (by omega) (by omega) (by omega) (by omega) RD_0
theorem eq_fault (N : Nat) (hN : 5000 ≤ N) {xl tt : Nat → Int32} {xn tn : Int32} (h : RT xl xn tt tn) (nums vo dr fr ah pl sp se rc rk rs rr : Nat → Int32) (v0 e0 : Int32) : ∃ r x y, f5_fault N xl nums xn vo dr fr ah pl sp se = some (r, x) ∧ f6_fault N tn tt rc rk rs rr v0 e0 = some (r, y) := by
  obtain ⟨L, hL, rfl, rfl, ht⟩ := h
  obtain ⟨r, x, y, h1, h2, -⟩ := reads_eq N hN hL ht nums vo dr fr ah pl sp se rc rk rs rr v0 e0
  rw [f5_fault, f6_fault, h1, h2]
  exact ⟨_, _, _, rfl, rfl⟩
