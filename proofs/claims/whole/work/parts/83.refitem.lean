/-! the reference reads an item -/
def gB (L : Nat) (T : Nat → Int32) (a : Nat) (lo hi : Int32) : Bool := decide (¬ nd L T a = 0 ∧ lo ≤ nv L T a ∧ nv L T a ≤ hi)
theorem num_g (N : Nat) (hN : 5000 ≤ N) {L : Nat} {T : Nat → Int32} {p : Nat} {lo hi : Int32} (hL : L ≤ 200) (hp : p < 1000) : f6_number N (nI p) lo hi (nI L) T = some (bi (gB L T p lo hi), nv L T p, nI (p + nd L T p)) := by
  rw [num_eq N hN hL hp]
  have e : decide (p < p + nd L T p ∧ lo ≤ nv L T p ∧ nv L T p ≤ hi) = gB L T p lo hi := decide_eq_decide.mpr ⟨fun h => ⟨by omega, h.2⟩, fun h => ⟨by omega, h.2⟩⟩
  rw [e]
theorem more_g (N : Nat) (hN : 5000 ≤ N) {L : Nat} {T : Nat → Int32} {a : Nat} {lo hi v : Int32} (hL : L ≤ 200) (hp : a < 890) : f6_more N lo hi (nI L) T v (nI (a + nd L T a)) = if la L T (a + nd L T a) = 44 then some (bi (gB L T (nx L T a) lo hi), nv L T (nx L T a), nI (nx L T a + nd L T (nx L T a))) else some (bi false, v, nI (a + nd L T a)) := by
  have := nd_le (L := L) (T := T) (p := a)
  rw [more_eq N hN hL (by omega)]
  have e : decide (a + nd L T a + 1 < a + nd L T a + 1 + nd L T (a + nd L T a + 1) ∧ lo ≤ nv L T (a + nd L T a + 1) ∧ nv L T (a + nd L T a + 1) ≤ hi) = gB L T (nx L T a) lo hi := decide_eq_decide.mpr ⟨fun h => ⟨fun q => by unfold nx at q; omega, h.2⟩, fun h => ⟨by have := h.1; unfold nx at this; omega, h.2⟩⟩
  rw [e]; rfl
theorem nx_le {L : Nat} {T : Nat → Int32} {a : Nat} : nx L T a ≤ a + 3 := by
  have := nd_le (L := L) (T := T) (p := a)
  unfold nx; omega
theorem ff {P : Prop} (h : false = true) : P := by cases h
theorem cavOf (N : Nat) {C : Nat} {v r k : Int32} {rc : Nat → Int32} (hC : C < 6) : f6_cavityOf N v r k (nI C) rc = some (nI (C + 1), upd (upd (upd rc (3 * C) v) (3 * C + 1) r) (3 * C + 2) k) := by
  have x0 : (3 : Int32) * nI C = nI (3 * C) := pk_mul 3 C
  have x2 : nI (3 * C) + (2 : Int32) = nI (3 * C + 2) := addn (3 * C) 2
  rw [f6_cavityOf, x0, nI_1, x2, if_pos (ok_nI (n := 18) (k := 3 * C) (by omega) (by omega)), if_pos (ok_nI (n := 18) (k := 3 * C + 1) (by omega) (by omega)), if_pos (ok_nI (n := 18) (k := 3 * C + 2) (by omega) (by omega)), cl_nI (by omega), cl_nI (by omega), cl_nI (by omega), nI_1]
theorem stOf (N : Nat) {s : Nat} {v r : Int32} {rs : Nat → Int32} (hs : s < 4) : f6_stageOf N v r (nI s) rs = some (nI (s + 1), upd (upd rs (2 * s) v) (2 * s + 1) r) := by
  have x0 : (2 : Int32) * nI s = nI (2 * s) := pk_mul 2 s
  rw [f6_stageOf, x0, nI_1, if_pos (ok_nI (n := 8) (k := 2 * s) (by omega) (by omega)), if_pos (ok_nI (n := 8) (k := 2 * s + 1) (by omega) (by omega)), cl_nI (by omega), cl_nI (by omega), nI_1]
/-- three numbers, two, in their bounds -/
def G2 (L : Nat) (T : Nat → Int32) (a : Nat) (l0 h0 l1 h1 : Int32) : Prop := gB L T a l0 h0 = true ∧ la L T (a + nd L T a) = 44 ∧ gB L T (nx L T a) l1 h1 = true
def G3 (L : Nat) (T : Nat → Int32) (a : Nat) (l0 h0 l1 h1 l2 h2 : Int32) : Prop := gB L T a l0 h0 = true ∧ la L T (a + nd L T a) = 44 ∧ G2 L T (nx L T a) l1 h1 l2 h2
def e2 (L : Nat) (T : Nat → Int32) (a : Nat) : Nat := nx L T a + nd L T (nx L T a)
def e3 (L : Nat) (T : Nat → Int32) (a : Nat) : Nat := nx L T (nx L T a) + nd L T (nx L T (nx L T a))
theorem ref_v (N : Nat) (hN : 5000 ≤ N) {L a C : Nat} {T rc : Nat → Int32} {v0 e0 : Int32} (hL : L ≤ 200) (ha : a < 300) (hC : C ≤ 6) : ∃ (B : Bool) (C' : Int32) (rc' : Nat → Int32) (v q : Int32), f6_readsCavity N (nI a) (nI L) T (nI C) rc v0 e0 = some (bi B, C', rc', v, q) ∧ (B = true ↔ C < 6 ∧ G3 L T a 1 30 1 9 1 9) ∧ (B = true → q = nI (e3 L T a) ∧ C' = nI (C + 1) ∧ rc' = upd (upd (upd rc (3 * C) (nv L T a)) (3 * C + 1) (nv L T (nx L T a))) (3 * C + 2) (nv L T (nx L T (nx L T a)))) := by
  have n1 := nx_le (L := L) (T := T) (a := a)
  have n2 := nx_le (L := L) (T := T) (a := nx L T a)
  rw [f6_readsCavity]
  by_cases h6 : C = 6
  · rw [if_pos (show nI C = 6 by rw [h6]; rfl)]
    exact ⟨false, _, _, _, _, rfl, ⟨ff, fun h => by omega⟩, ff⟩
  · rw [if_neg (show ¬ nI C = 6 from fun q => h6 ((nI_eq (b := 6) (by omega) (by omega)).mp q)), num_g N hN hL (by omega), Option.bind_some]
    by_cases h1 : gB L T a 1 30 = true
    · rw [if_neg (bi_1 h1), more_g N hN hL (by omega)]
      by_cases h2 : la L T (a + nd L T a) = 44
      · rw [if_pos h2, Option.bind_some]
        by_cases h3 : gB L T (nx L T a) 1 9 = true
        · rw [if_neg (bi_1 h3), more_g N hN hL (by omega)]
          by_cases h4 : la L T (nx L T a + nd L T (nx L T a)) = 44
          · rw [if_pos h4, Option.bind_some, cavOf N (by omega), Option.bind_some, if_pos (bi_isb _)]
            exact ⟨_, _, _, _, _, rfl, ⟨fun h => ⟨by omega, h1, h2, h3, h4, h⟩, fun h => h.2.2.2.2.2⟩, fun h => ⟨rfl, rfl, rfl⟩⟩
          · rw [if_neg h4, Option.bind_some, cavOf N (by omega), Option.bind_some, if_pos (bi_isb _)]
            exact ⟨false, _, _, _, _, rfl, ⟨ff, fun h => absurd h.2.2.2.2.1 h4⟩, ff⟩
        · rw [if_pos (bi_0 h3)]
          exact ⟨false, _, _, _, _, rfl, ⟨ff, fun h => absurd h.2.2.2.1 h3⟩, ff⟩
      · rw [if_neg h2, Option.bind_some, if_pos (show bi false = 0 from rfl)]
        exact ⟨false, _, _, _, _, rfl, ⟨ff, fun h => absurd h.2.2.1 h2⟩, ff⟩
    · rw [if_pos (bi_0 h1)]
      exact ⟨false, _, _, _, _, rfl, ⟨ff, fun h => absurd h.2.1 h1⟩, ff⟩
theorem ref_c (N : Nat) (hN : 5000 ≤ N) {L a c : Nat} {T rk : Nat → Int32} {v0 e0 : Int32} (hL : L ≤ 200) (ha : a < 300) (hc : c ≤ 4) : ∃ (B : Bool) (c' : Int32) (rk' : Nat → Int32) (v q : Int32), f6_readsCore N (nI a) (nI L) T (nI c) rk v0 e0 = some (bi B, c', rk', v, q) ∧ (B = true ↔ c < 4 ∧ gB L T a 0 9 = true ∧ (nv L T a < 4 ∨ nv L T a = 9)) ∧ (B = true → q = nI (a + nd L T a) ∧ c' = nI (c + 1) ∧ rk' = upd rk c (nv L T a)) := by
  have no : ∀ v q, f6_readsCore_40 N (nI c) rk v q = some (bi false, nI c, rk, v, q) := by
    intro v q
    rw [f6_readsCore_40, f6_readsCore_41, if_pos rfl, if_pos (show isb 0 = true by decide)]; rfl
  rw [f6_readsCore]
  by_cases h4 : c = 4
  · rw [if_pos (show (4 : Int32) ≤ nI c by rw [h4]; decide), no]
    exact ⟨false, _, _, _, _, rfl, ⟨ff, fun h => by omega⟩, ff⟩
  · have yes : ∀ v q, f6_readsCore_36 N (nI c) rk v q = some (bi true, nI (c + 1), upd rk c v, v, q) := by
      intro v q
      rw [f6_readsCore_36, f6_readsCore_41, if_neg one_ne, if_pos (ok_nI (n := 4) (k := c) (by omega) (by omega)), if_pos (show isb 1 = true by decide), cl_nI (by omega), nI_1]; rfl
    rw [if_neg (show ¬ (4 : Int32) ≤ nI c from nI_ge (b := 4) (by omega) (by omega)), num_g N hN hL (by omega), Option.bind_some]
    by_cases h1 : gB L T a 0 9 = true
    · rw [if_neg (bi_1 h1)]
      dsimp only
      by_cases h2 : nv L T a < 4
      · rw [if_pos h2, yes]
        exact ⟨true, _, _, _, _, rfl, ⟨fun _ => ⟨by omega, h1, .inl h2⟩, fun _ => rfl⟩, fun _ => ⟨rfl, rfl, rfl⟩⟩
      · rw [if_neg h2]
        by_cases h3 : nv L T a = 9
        · rw [if_pos h3, yes]
          exact ⟨true, _, _, _, _, rfl, ⟨fun _ => ⟨by omega, h1, .inr h3⟩, fun _ => rfl⟩, fun _ => ⟨rfl, rfl, rfl⟩⟩
        · rw [if_neg h3, no]
          exact ⟨false, _, _, _, _, rfl, ⟨ff, fun h => h.2.2.elim (fun q => absurd q h2) (fun q => absurd q h3)⟩, ff⟩
    · rw [if_pos (bi_0 h1), no]
      exact ⟨false, _, _, _, _, rfl, ⟨ff, fun h => absurd h.2.1 h1⟩, ff⟩
/-- the bounds of a stage's place -/
def loS (s : Nat) (rs : Nat → Int32) : Int32 := if s = 0 then 0 else rs (2 * s - 2) + 1
def hiS (s : Nat) : Int32 := if s = 0 then 0 else 98
theorem ref_s59 (N : Nat) (hN : 5000 ≤ N) {L a s : Nat} {T rs : Nat → Int32} {lo hi : Int32} (hL : L ≤ 200) (ha : a < 300) (hs : s < 4) : ∃ (B : Bool) (s' : Int32) (rs' : Nat → Int32) (v q : Int32), f6_readsStage_59 N (nI a) lo hi (nI L) T (nI s) rs = some (bi B, s', rs', v, q) ∧ (B = true ↔ s < 4 ∧ G2 L T a lo hi 1 9) ∧ (B = true → q = nI (e2 L T a) ∧ s' = nI (s + 1) ∧ rs' = upd (upd rs (2 * s) (nv L T a)) (2 * s + 1) (nv L T (nx L T a))) := by
  have n1 := nx_le (L := L) (T := T) (a := a)
  rw [f6_readsStage_59, num_g N hN hL (by omega), Option.bind_some]
  by_cases h1 : gB L T a lo hi = true
  · rw [if_neg (bi_1 h1), more_g N hN hL (by omega)]
    by_cases h2 : la L T (a + nd L T a) = 44
    · rw [if_pos h2, Option.bind_some, stOf N hs, Option.bind_some, if_pos (bi_isb _)]
      exact ⟨_, _, _, _, _, rfl, ⟨fun h => ⟨hs, h1, h2, h⟩, fun h => h.2.2.2⟩, fun h => ⟨rfl, rfl, rfl⟩⟩
    · rw [if_neg h2, Option.bind_some, stOf N hs, Option.bind_some, if_pos (bi_isb _)]
      exact ⟨false, _, _, _, _, rfl, ⟨ff, fun h => absurd h.2.2.1 h2⟩, ff⟩
  · rw [if_pos (bi_0 h1)]
    exact ⟨false, _, _, _, _, rfl, ⟨ff, fun h => absurd h.2.1 h1⟩, ff⟩
theorem ref_s (N : Nat) (hN : 5000 ≤ N) {L a s : Nat} {T rs : Nat → Int32} {v0 e0 : Int32} (hL : L ≤ 200) (ha : a < 300) (hs : s ≤ 4) : ∃ (B : Bool) (s' : Int32) (rs' : Nat → Int32) (v q : Int32), f6_readsStage N (nI a) (nI L) T (nI s) rs v0 e0 = some (bi B, s', rs', v, q) ∧ (B = true ↔ s < 4 ∧ G2 L T a (loS s rs) (hiS s) 1 9) ∧ (B = true → q = nI (e2 L T a) ∧ s' = nI (s + 1) ∧ rs' = upd (upd rs (2 * s) (nv L T a)) (2 * s + 1) (nv L T (nx L T a))) := by
  rw [f6_readsStage]
  by_cases h0 : s = 0
  · rw [if_pos (show nI s = 0 by rw [h0]; rfl), f6_readsStage_15, f6_readsStage_34, if_neg (show ¬ nI s = 4 by rw [h0]; decide), if_pos (show nI s = 0 by rw [h0]; rfl), loS, hiS, if_pos h0, if_pos h0]
    exact ref_s59 N hN hL ha (by omega)
  · rw [if_neg (nI_ne0 (by omega) (by omega))]
    by_cases h4 : s = 4
    · rw [if_pos (show nI s = 4 by rw [h4]; rfl), f6_readsStage_15, f6_readsStage_34, if_pos (show nI s = 4 by rw [h4]; rfl)]
      exact ⟨false, _, _, _, _, rfl, ⟨ff, fun h => by omega⟩, ff⟩
    · have n4 : ¬ nI s = 4 := fun q => h4 ((nI_eq (b := 4) (by omega) (by omega)).mp q)
      have x0 : (2 : Int32) * nI s - 2 = nI (2 * s - 2) := by
        rw [show (2 : Int32) * nI s = nI (2 * s) from pk_mul 2 s, show (2 : Int32) = nI 2 from rfl, pk_sub (by omega)]
      rw [if_neg n4, x0, if_pos (ok_nI (n := 8) (k := 2 * s - 2) (by omega) (by omega)), cl_nI (by omega), f6_readsStage_34, if_neg n4, if_neg (nI_ne0 (by omega) (by omega)), loS, hiS, if_neg h0, if_neg h0]
      exact ref_s59 N hN hL ha (by omega)
theorem ref_r (N : Nat) (hN : 5000 ≤ N) {L a f : Nat} {T rr : Nat → Int32} {v0 e0 : Int32} (hL : L ≤ 200) (ha : a < 300) (hf : f ≤ 3) : ∃ (B : Bool) (rr' : Nat → Int32) (v q : Int32), f6_readsRules N (nI a) (nI f) (nI L) T rr v0 e0 = some (bi B, rr', v, q) ∧ (B = true ↔ G3 L T a (nI (setLo f)) (nI (setHi f)) (nI (setLo (f + 1))) (nI (setHi (f + 1))) (nI (setLo (f + 2))) (nI (setHi (f + 2)))) ∧ (B = true → q = nI (e3 L T a) ∧ rr' = upd (upd (upd rr f (nv L T a)) (f + 1) (nv L T (nx L T a))) (f + 2) (nv L T (nx L T (nx L T a)))) := by
  have n1 := nx_le (L := L) (T := T) (a := a)
  have n2 := nx_le (L := L) (T := T) (a := nx L T a)
  obtain ⟨n, rfl⟩ : ∃ n, N = n + 4 := ⟨N - 4, by omega⟩
  have x3 : nI f + (3 : Int32) = nI (f + 3) := addn f 3
  have ne : ∀ k, f < k → k < 10 → ¬ nI k = nI f := fun k h1 h2 q => by
    have := (nI_eq (by omega) (by omega)).mp q
    omega
  rw [f6_readsRules, f6_readsRules_2, x3, if_neg (show ¬ nI (f + 3) ≤ nI f from nI_ge (by omega) (by omega)), if_pos rfl, lowOf_eq _ (by omega), highOf_eq _ (by omega), Option.bind_some, Option.bind_some, num_g _ hN hL (by omega), Option.bind_some, f6_readsRules_42]
  by_cases h1 : gB L T a (nI (setLo f)) (nI (setHi f)) = true
  · rw [if_neg (bi_1 h1), if_pos (ok_nI (n := 6) (k := f) (by omega) (by omega)), cl_nI (by omega), nI_1, f6_readsRules_2, x3, if_neg (show ¬ nI (f + 3) ≤ nI (f + 1) from nI_ge (by omega) (by omega)), if_neg (ne _ (by omega) (by omega)), lowOf_eq _ (by omega), highOf_eq _ (by omega), Option.bind_some, Option.bind_some, more_g _ hN hL (by omega)]
    by_cases h2 : la L T (a + nd L T a) = 44
    · rw [if_pos h2, Option.bind_some, f6_readsRules_42]
      by_cases h3 : gB L T (nx L T a) (nI (setLo (f + 1))) (nI (setHi (f + 1))) = true
      · rw [if_neg (bi_1 h3), if_pos (ok_nI (n := 6) (k := f + 1) (by omega) (by omega)), cl_nI (by omega), nI_1, f6_readsRules_2, x3, if_neg (show ¬ nI (f + 3) ≤ nI (f + 1 + 1) from nI_ge (by omega) (by omega)), if_neg (ne _ (by omega) (by omega)), lowOf_eq _ (by omega), highOf_eq _ (by omega), Option.bind_some, Option.bind_some, more_g _ hN hL (by omega)]
        by_cases h4 : la L T (nx L T a + nd L T (nx L T a)) = 44
        · rw [if_pos h4, Option.bind_some, f6_readsRules_42]
          by_cases h5 : gB L T (nx L T (nx L T a)) (nI (setLo (f + 2))) (nI (setHi (f + 2))) = true
          · rw [if_neg (bi_1 h5), if_pos (ok_nI (n := 6) (k := f + 1 + 1) (by omega) (by omega)), cl_nI (by omega), nI_1, f6_readsRules_2, x3, if_pos (nI_le (by omega) (by omega))]
            exact ⟨true, _, _, _, rfl, ⟨fun _ => ⟨h1, h2, h3, h4, h5⟩, fun _ => rfl⟩, fun _ => ⟨rfl, rfl⟩⟩
          · rw [if_pos (bi_0 h5)]
            exact ⟨false, _, _, _, rfl, ⟨ff, fun h => absurd h.2.2.2.2 h5⟩, ff⟩
        · rw [if_neg h4, Option.bind_some, f6_readsRules_42, if_pos (show bi false = 0 from rfl)]
          exact ⟨false, _, _, _, rfl, ⟨ff, fun h => absurd h.2.2.2.1 h4⟩, ff⟩
      · rw [if_pos (bi_0 h3)]
        exact ⟨false, _, _, _, rfl, ⟨ff, fun h => absurd h.2.2.1 h3⟩, ff⟩
    · rw [if_neg h2, Option.bind_some, f6_readsRules_42, if_pos (show bi false = 0 from rfl)]
      exact ⟨false, _, _, _, rfl, ⟨ff, fun h => absurd h.2.1 h2⟩, ff⟩
  · rw [if_pos (bi_0 h1)]
    exact ⟨false, _, _, _, rfl, ⟨ff, fun h => absurd h.1 h1⟩, ff⟩
