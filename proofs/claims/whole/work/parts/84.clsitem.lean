/-! the class reads an item -/
theorem ht1 {x : Int32} {k : Int32} (h : x = k) (n : k = 99 ∨ k = 104 ∨ k = 111 ∨ k = 115 ∨ k = 118) : x = k := h
theorem C12 {L : Nat} {T : Nat → Int32} {e a : Nat} (h : C1 L T e a) : ¬ C2 L T e a := fun q => q.2.1 h.2
theorem C13 {L : Nat} {T : Nat → Int32} {e a : Nat} (h : C1 L T e a) : ¬ C3 L T e a := fun q => q.2.1 h.2
theorem C23 {L : Nat} {T : Nat → Int32} {e a : Nat} (h : C2 L T e a) : ¬ C3 L T e a := fun q => q.2.2.2.2.1 h.2.2.2.2
theorem cl_v (N : Nat) (hN : 5000 ≤ N) {L p e C : Nat} {T xl nums vo dr fr ah pl sp se : Nat → Int32} {co st : Int32} (hL : L ≤ 200) (hx : ∀ j, j < L → xl j = la L T j) (hp : p < L) (hS : SEMI L T (p + 1) e) (hC : C ≤ 6) (ht : xl p = 118) : ∃ (B : Bool) (nums' : Nat → Int32) (C' : Int32) (vo' dr' fr' : Nat → Int32), f4_readItem N (nI p) (nI e) xl nums (nI C) vo dr fr co ah st pl sp se = some (bi B, nums', C', vo', dr', fr', co, ah, st, pl, sp, se) ∧ (B = true ↔ C < 6 ∧ C3 L T e (p + 1) ∧ (1 ≤ nv L T (p + 1) ∧ nv L T (p + 1) ≤ 30) ∧ (1 ≤ nv L T (nx L T (p + 1)) ∧ nv L T (nx L T (p + 1)) ≤ 9) ∧ 1 ≤ nv L T (nx L T (nx L T (p + 1))) ∧ nv L T (nx L T (nx L T (p + 1))) ≤ 9) ∧ (B = true → C' = nI (C + 1) ∧ vo' = upd vo C (nv L T (p + 1)) ∧ dr' = upd dr C (nv L T (nx L T (p + 1))) ∧ fr' = upd fr C (nv L T (nx L T (nx L T (p + 1))))) := by
  obtain ⟨f, nums', h1, h2⟩ := rn_eq N hN (nums := nums) hL hx hS
  rw [f4_readItem, nI_1, h1, Option.bind_some, if_pos (ok_nI (n := 200) (k := p) (by omega) (by omega)), cl_nI (by omega), ht, if_neg (show ¬ (118 : Int32) = 99 by decide), if_neg (show ¬ (118 : Int32) = 104 by decide), if_neg (show ¬ (118 : Int32) = 111 by decide), if_neg (show ¬ (118 : Int32) = 115 by decide), if_pos rfl]
  have nope : (f = 0 ∨ f = 1 ∨ f = 2) → ¬ C3 L T e (p + 1) → ∃ (B : Bool) (nums1 : Nat → Int32) (C' : Int32) (vo' dr' fr' : Nat → Int32), some ((0 : Int32), nums', nI C, vo, dr, fr, co, ah, st, pl, sp, se) = some (bi B, nums1, C', vo', dr', fr', co, ah, st, pl, sp, se) ∧ (B = true ↔ C < 6 ∧ C3 L T e (p + 1) ∧ (1 ≤ nv L T (p + 1) ∧ nv L T (p + 1) ≤ 30) ∧ (1 ≤ nv L T (nx L T (p + 1)) ∧ nv L T (nx L T (p + 1)) ≤ 9) ∧ 1 ≤ nv L T (nx L T (nx L T (p + 1))) ∧ nv L T (nx L T (nx L T (p + 1))) ≤ 9) ∧ (B = true → C' = nI (C + 1) ∧ vo' = upd vo C (nv L T (p + 1)) ∧ dr' = upd dr C (nv L T (nx L T (p + 1))) ∧ fr' = upd fr C (nv L T (nx L T (nx L T (p + 1))))) :=
    fun _ q => ⟨false, _, _, _, _, _, rfl, ⟨ff, fun h => absurd h.2.1 q⟩, ff⟩
  dsimp only
  rcases h2 with ⟨c, rfl, -⟩ | ⟨c, rfl, -⟩ | ⟨c, rfl, v0, v1, v2⟩ | ⟨rfl, -, -, c⟩
  · rw [if_neg (show ¬ (1 : Int32) = 3 by decide)]; exact nope (.inr (.inl rfl)) (C13 c)
  · rw [if_neg (show ¬ (2 : Int32) = 3 by decide)]; exact nope (.inr (.inr rfl)) (C23 c)
  · rw [if_pos rfl, if_pos (show ok 0 3 = true by decide), if_pos (show ok 1 3 = true by decide), if_pos (show ok 2 3 = true by decide), show Int32.toNatClampNeg 0 = 0 from rfl, show Int32.toNatClampNeg 1 = 1 from rfl, show Int32.toNatClampNeg 2 = 2 from rfl, v0, v1, v2, f1_addCavity]
    have no : ∀ (Q : ¬ (C < 6 ∧ (1 ≤ nv L T (p + 1) ∧ nv L T (p + 1) ≤ 30) ∧ (1 ≤ nv L T (nx L T (p + 1)) ∧ nv L T (nx L T (p + 1)) ≤ 9) ∧ 1 ≤ nv L T (nx L T (nx L T (p + 1))) ∧ nv L T (nx L T (nx L T (p + 1))) ≤ 9)), ∃ (B : Bool) (nums1 : Nat → Int32) (C' : Int32) (vo' dr' fr' : Nat → Int32), some ((0 : Int32), nums', nI C, vo, dr, fr, co, ah, st, pl, sp, se) = some (bi B, nums1, C', vo', dr', fr', co, ah, st, pl, sp, se) ∧ (B = true ↔ C < 6 ∧ C3 L T e (p + 1) ∧ (1 ≤ nv L T (p + 1) ∧ nv L T (p + 1) ≤ 30) ∧ (1 ≤ nv L T (nx L T (p + 1)) ∧ nv L T (nx L T (p + 1)) ≤ 9) ∧ 1 ≤ nv L T (nx L T (nx L T (p + 1))) ∧ nv L T (nx L T (nx L T (p + 1))) ≤ 9) ∧ (B = true → C' = nI (C + 1) ∧ vo' = upd vo C (nv L T (p + 1)) ∧ dr' = upd dr C (nv L T (nx L T (p + 1))) ∧ fr' = upd fr C (nv L T (nx L T (nx L T (p + 1))))) :=
      fun q => ⟨false, _, _, _, _, _, rfl, ⟨ff, fun h => absurd ⟨h.1, h.2.2⟩ q⟩, ff⟩
    by_cases g0 : 6 ≤ C
    · rw [if_pos (show (6 : Int32) ≤ nI C from nI_le (a := 6) g0 (by omega)), Option.bind_some, if_pos rfl]
      exact no (fun q => by omega)
    · rw [if_neg (show ¬ (6 : Int32) ≤ nI C from nI_ge (b := 6) (by omega) (by omega))]
      by_cases g1 : nv L T (p + 1) < 1
      · rw [if_pos g1, Option.bind_some, if_pos rfl]; exact no (fun q => i_nlt.mpr q.2.1.1 g1)
      · rw [if_neg g1]
        by_cases g2 : 30 < nv L T (p + 1)
        · rw [if_pos g2, Option.bind_some, if_pos rfl]; exact no (fun q => i_nlt.mpr q.2.1.2 g2)
        · rw [if_neg g2]
          by_cases g3 : nv L T (nx L T (p + 1)) < 1
          · rw [if_pos g3, Option.bind_some, if_pos rfl]; exact no (fun q => i_nlt.mpr q.2.2.1.1 g3)
          · rw [if_neg g3]
            by_cases g4 : 9 < nv L T (nx L T (p + 1))
            · rw [if_pos g4, Option.bind_some, if_pos rfl]; exact no (fun q => i_nlt.mpr q.2.2.1.2 g4)
            · rw [if_neg g4]
              by_cases g5 : nv L T (nx L T (nx L T (p + 1))) < 1
              · rw [if_pos g5, Option.bind_some, if_pos rfl]; exact no (fun q => i_nlt.mpr q.2.2.2.1 g5)
              · rw [if_neg g5]
                by_cases g6 : nv L T (nx L T (nx L T (p + 1))) ≤ 9
                · have o : ok (nI C) 6 = true := ok_nI (by omega) (by omega)
                  rw [if_pos g6, if_pos o, if_pos o, if_pos o, cl_nI (by omega), Option.bind_some, if_neg one_ne, nI_1]
                  exact ⟨true, _, _, _, _, _, rfl, ⟨fun _ => ⟨by omega, c, ⟨i_nlt.mp g1, i_nlt.mp g2⟩, ⟨i_nlt.mp g3, i_nlt.mp g4⟩, i_nlt.mp g5, g6⟩, fun _ => rfl⟩, fun _ => ⟨rfl, rfl, rfl, rfl⟩⟩
                · rw [if_neg g6, Option.bind_some, if_pos rfl]; exact no (fun q => g6 q.2.2.2.2)
  · rw [if_neg (show ¬ (0 : Int32) = 3 by decide)]; exact nope (.inl rfl) c
theorem cl_c (N : Nat) (hN : 5000 ≤ N) {L p e c : Nat} {T xl nums vo dr fr ah pl sp se : Nat → Int32} {ca st : Int32} (hL : L ≤ 200) (hx : ∀ j, j < L → xl j = la L T j) (hp : p < L) (hS : SEMI L T (p + 1) e) (hc : c ≤ 4) (ht : xl p = 99) : ∃ (B : Bool) (nums' : Nat → Int32) (c' : Int32) (ah' : Nat → Int32), f4_readItem N (nI p) (nI e) xl nums ca vo dr fr (nI c) ah st pl sp se = some (bi B, nums', ca, vo, dr, fr, c', ah', st, pl, sp, se) ∧ (B = true ↔ c < 4 ∧ C1 L T e (p + 1) ∧ (nv L T (p + 1) < 4 ∨ nv L T (p + 1) = 9)) ∧ (B = true → c' = nI (c + 1) ∧ ah' = upd ah c (nv L T (p + 1))) := by
  obtain ⟨f, nums', h1, h2⟩ := rn_eq N hN (nums := nums) hL hx hS
  rw [f4_readItem, nI_1, h1, Option.bind_some, if_pos (ok_nI (n := 200) (k := p) (by omega) (by omega)), cl_nI (by omega), ht, if_pos rfl]
  have no : ¬ (c < 4 ∧ C1 L T e (p + 1) ∧ (nv L T (p + 1) < 4 ∨ nv L T (p + 1) = 9)) → ∃ (B : Bool) (nums1 : Nat → Int32) (c' : Int32) (ah' : Nat → Int32), some ((0 : Int32), nums', ca, vo, dr, fr, nI c, ah, st, pl, sp, se) = some (bi B, nums1, ca, vo, dr, fr, c', ah', st, pl, sp, se) ∧ (B = true ↔ c < 4 ∧ C1 L T e (p + 1) ∧ (nv L T (p + 1) < 4 ∨ nv L T (p + 1) = 9)) ∧ (B = true → c' = nI (c + 1) ∧ ah' = upd ah c (nv L T (p + 1))) :=
    fun q => ⟨false, _, _, _, rfl, ⟨ff, fun h => absurd h q⟩, ff⟩
  dsimp only
  rcases h2 with ⟨c0, rfl, v0⟩ | ⟨c0, rfl, -⟩ | ⟨c0, rfl, -⟩ | ⟨rfl, c0, -, -⟩
  · rw [if_pos rfl, if_pos (show ok 0 3 = true by decide), show Int32.toNatClampNeg 0 = 0 from rfl, v0, f1_addCore]
    by_cases g0 : 4 ≤ c
    · rw [if_pos (show (4 : Int32) ≤ nI c from nI_le (a := 4) g0 (by omega)), Option.bind_some, if_pos rfl]
      exact no (fun q => by omega)
    · have yes : f1_addCore_21 N (nv L T (p + 1)) (nI c) ah = some (1, nI (c + 1), upd ah c (nv L T (p + 1))) := by
        rw [f1_addCore_21, if_pos (ok_nI (n := 4) (k := c) (by omega) (by omega)), cl_nI (by omega), nI_1]
      rw [if_neg (show ¬ (4 : Int32) ≤ nI c from nI_ge (b := 4) (by omega) (by omega))]
      by_cases g1 : nv L T (p + 1) < 4
      · rw [if_pos g1, yes, Option.bind_some, if_neg one_ne]
        exact ⟨true, _, _, _, rfl, ⟨fun _ => ⟨by omega, c0, .inl g1⟩, fun _ => rfl⟩, fun _ => ⟨rfl, rfl⟩⟩
      · rw [if_neg g1]
        by_cases g2 : nv L T (p + 1) = 9
        · rw [if_pos g2, yes, Option.bind_some, if_neg one_ne]
          exact ⟨true, _, _, _, rfl, ⟨fun _ => ⟨by omega, c0, .inr g2⟩, fun _ => rfl⟩, fun _ => ⟨rfl, rfl⟩⟩
        · rw [if_neg g2, Option.bind_some, if_pos rfl]
          exact no (fun q => q.2.2.elim g1 g2)
  · rw [if_neg (show ¬ (2 : Int32) = 1 by decide)]; exact no (fun q => C12 q.2.1 c0)
  · rw [if_neg (show ¬ (3 : Int32) = 1 by decide)]; exact no (fun q => C13 q.2.1 c0)
  · rw [if_neg (show ¬ (0 : Int32) = 1 by decide)]; exact no (fun q => c0 q.2.1)
/-- the class's own bound for a stage's place -/
def inS (s : Nat) (pl : Nat → Int32) (x : Int32) : Prop := (s = 0 ∧ x = 0) ∨ (¬ s = 0 ∧ ¬ x ≤ pl (s - 1) ∧ x ≤ 98)
theorem cl_s (N : Nat) (hN : 5000 ≤ N) {L p e s : Nat} {T xl nums vo dr fr ah pl sp se : Nat → Int32} {ca co : Int32} (hL : L ≤ 200) (hx : ∀ j, j < L → xl j = la L T j) (hp : p < L) (hS : SEMI L T (p + 1) e) (hs : s ≤ 4) (ht : xl p = 115) : ∃ (B : Bool) (nums' : Nat → Int32) (s' : Int32) (pl' sp' : Nat → Int32), f4_readItem N (nI p) (nI e) xl nums ca vo dr fr co ah (nI s) pl sp se = some (bi B, nums', ca, vo, dr, fr, co, ah, s', pl', sp', se) ∧ (B = true ↔ s < 4 ∧ C2 L T e (p + 1) ∧ (1 ≤ nv L T (nx L T (p + 1)) ∧ nv L T (nx L T (p + 1)) ≤ 9) ∧ inS s pl (nv L T (p + 1))) ∧ (B = true → s' = nI (s + 1) ∧ pl' = upd pl s (nv L T (p + 1)) ∧ sp' = upd sp s (nv L T (nx L T (p + 1)))) := by
  obtain ⟨f, nums', h1, h2⟩ := rn_eq N hN (nums := nums) hL hx hS
  rw [f4_readItem, nI_1, h1, Option.bind_some, if_pos (ok_nI (n := 200) (k := p) (by omega) (by omega)), cl_nI (by omega), ht, if_neg (show ¬ (115 : Int32) = 99 by decide), if_neg (show ¬ (115 : Int32) = 104 by decide), if_neg (show ¬ (115 : Int32) = 111 by decide), if_pos rfl]
  have no : ¬ (s < 4 ∧ C2 L T e (p + 1) ∧ (1 ≤ nv L T (nx L T (p + 1)) ∧ nv L T (nx L T (p + 1)) ≤ 9) ∧ inS s pl (nv L T (p + 1))) → ∃ (B : Bool) (nums1 : Nat → Int32) (s' : Int32) (pl' sp' : Nat → Int32), some ((0 : Int32), nums', ca, vo, dr, fr, co, ah, nI s, pl, sp, se) = some (bi B, nums1, ca, vo, dr, fr, co, ah, s', pl', sp', se) ∧ (B = true ↔ s < 4 ∧ C2 L T e (p + 1) ∧ (1 ≤ nv L T (nx L T (p + 1)) ∧ nv L T (nx L T (p + 1)) ≤ 9) ∧ inS s pl (nv L T (p + 1))) ∧ (B = true → s' = nI (s + 1) ∧ pl' = upd pl s (nv L T (p + 1)) ∧ sp' = upd sp s (nv L T (nx L T (p + 1)))) :=
    fun q => ⟨false, _, _, _, _, rfl, ⟨ff, fun h => absurd h q⟩, ff⟩
  dsimp only
  rcases h2 with ⟨c, rfl, -⟩ | ⟨c, rfl, v0, v1⟩ | ⟨c, rfl, -⟩ | ⟨rfl, -, c, -⟩
  · rw [if_neg (show ¬ (1 : Int32) = 2 by decide)]; exact no (fun q => C12 c q.2.1)
  · rw [if_pos rfl, if_pos (show ok 0 3 = true by decide), if_pos (show ok 1 3 = true by decide), show Int32.toNatClampNeg 0 = 0 from rfl, show Int32.toNatClampNeg 1 = 1 from rfl, v0, v1, f1_addStage]
    by_cases g0 : 4 ≤ s
    · rw [if_pos (show (4 : Int32) ≤ nI s from nI_le (a := 4) g0 (by omega)), Option.bind_some, if_pos rfl]
      exact no (fun q => by omega)
    · rw [if_neg (show ¬ (4 : Int32) ≤ nI s from nI_ge (b := 4) (by omega) (by omega))]
      have yes : f1_addStage_66 N (nv L T (p + 1)) (nv L T (nx L T (p + 1))) 1 (nI s) pl sp = some (1, nI (s + 1), upd pl s (nv L T (p + 1)), upd sp s (nv L T (nx L T (p + 1)))) := by
        have o : ok (nI s) 4 = true := ok_nI (by omega) (by omega)
        rw [f1_addStage_66, if_neg one_ne, if_pos o, if_pos o, cl_nI (by omega), nI_1]
      have nop : f1_addStage_66 N (nv L T (p + 1)) (nv L T (nx L T (p + 1))) 0 (nI s) pl sp = some (0, nI s, pl, sp) := by
        rw [f1_addStage_66, if_pos rfl]
      by_cases g1 : nv L T (nx L T (p + 1)) < 1
      · rw [if_pos g1, Option.bind_some, if_pos rfl]; exact no (fun q => i_nlt.mpr q.2.2.1.1 g1)
      · rw [if_neg g1]
        by_cases g2 : nv L T (nx L T (p + 1)) ≤ 9
        · rw [if_pos g2]
          by_cases g3 : s = 0
          · rw [if_pos (show nI s = 0 by rw [g3]; rfl)]
            by_cases g4 : nv L T (p + 1) = 0
            · rw [if_pos g4, yes, Option.bind_some, if_neg one_ne]
              exact ⟨true, _, _, _, _, rfl, ⟨fun _ => ⟨by omega, c, ⟨i_nlt.mp g1, g2⟩, .inl ⟨g3, g4⟩⟩, fun _ => rfl⟩, fun _ => ⟨rfl, rfl, rfl⟩⟩
            · rw [if_neg g4, nop, Option.bind_some, if_pos rfl]
              exact no (fun q => q.2.2.2.elim (fun w => g4 w.2) (fun w => w.1 g3))
          · have x1 : nI s - 1 = nI (s - 1) := by
              rw [show nI s = nI (s - 1 + 1) by congr 1; omega, nI_pred]
            rw [if_neg (nI_ne0 (by omega) (by omega)), x1, if_pos (ok_nI (n := 4) (k := s - 1) (by omega) (by omega)), cl_nI (by omega)]
            by_cases g4 : nv L T (p + 1) ≤ pl (s - 1)
            · rw [if_pos g4, f1_addStage_65, nop, Option.bind_some, if_pos rfl]
              exact no (fun q => q.2.2.2.elim (fun w => g3 w.1) (fun w => w.2.1 g4))
            · rw [if_neg g4]
              by_cases g5 : 98 < nv L T (p + 1)
              · rw [if_pos g5, f1_addStage_65, nop, Option.bind_some, if_pos rfl]
                exact no (fun q => q.2.2.2.elim (fun w => g3 w.1) (fun w => i_nlt.mpr w.2.2 g5))
              · rw [if_neg g5, yes, Option.bind_some, if_neg one_ne]
                exact ⟨true, _, _, _, _, rfl, ⟨fun _ => ⟨by omega, c, ⟨i_nlt.mp g1, g2⟩, .inr ⟨g3, g4, i_nlt.mp g5⟩⟩, fun _ => rfl⟩, fun _ => ⟨rfl, rfl, rfl⟩⟩
        · rw [if_neg g2, Option.bind_some, if_pos rfl]; exact no (fun q => g2 q.2.2.1.2)
  · rw [if_neg (show ¬ (3 : Int32) = 2 by decide)]; exact no (fun q => C23 q.2.1 c)
  · rw [if_neg (show ¬ (0 : Int32) = 2 by decide)]; exact no (fun q => c q.2.1)
/-- three settings are set -/
def inT (f i : Nat) (x : Int32) : Prop := nI (setLo (f + i)) ≤ x ∧ x ≤ nI (setHi (f + i))
theorem set3 (N : Nat) (hN : 5000 ≤ N) {f : Nat} {se nums : Nat → Int32} (hf : f ≤ 3) : ∃ B : Bool, f1_setThree N (nI f) se nums = some (bi B, if B = true then va_cpy nums se 0 f 3 else se) ∧ (B = true ↔ inT f 0 (nums 0) ∧ inT f 1 (nums 1) ∧ inT f 2 (nums 2)) := by
  have lp : ∀ (m n k : Nat), k + m = 3 → m < n → ∃ B : Bool, f1_setThree_2 N n (nI f) (nI k) se nums = some (bi B, if B = true then va_cpy nums se 0 f 3 else se) ∧ (B = true ↔ ∀ i, k ≤ i → i < 3 → inT f i (nums i)) := by
    intro m
    induction m with
    | zero =>
      intro n k hk hn
      obtain ⟨n, rfl⟩ : ∃ q, n = q + 1 := ⟨n - 1, by omega⟩
      rw [f1_setThree_2, if_pos (show (3 : Int32) ≤ nI k from nI_le (a := 3) (by omega) (by omega)), if_pos (ok_nI (n := 4) (k := f) (by omega) (by omega)), show Int32.toNatClampNeg 0 = 0 from rfl, show Int32.toNatClampNeg 3 = 3 from rfl, cl_nI (by omega)]
      exact ⟨true, rfl, ⟨fun _ i h1 h2 => by omega, fun _ => rfl⟩⟩
    | succ m ih =>
      intro n k hk hn
      obtain ⟨n, rfl⟩ : ∃ q, n = q + 1 := ⟨n - 1, by omega⟩
      have o3 : ok (nI k) 3 = true := ok_nI (by omega) (by omega)
      have o6 : ok (nI (f + k)) 6 = true := ok_nI (by omega) (by omega)
      rw [f1_setThree_2, if_neg (show ¬ (3 : Int32) ≤ nI k from nI_ge (b := 3) (by omega) (by omega)), addn, if_pos o3, if_pos o3, if_pos o6, if_pos o6, cl_nI (by omega), cl_nI (by omega), tabL_eq (by omega), tabM_eq (by omega), nI_1]
      by_cases g1 : nums k < nI (setLo (f + k))
      · rw [if_pos g1]
        exact ⟨false, rfl, ⟨ff, fun h => absurd g1 (i_nlt.mpr (h k (by omega) (by omega)).1)⟩⟩
      · rw [if_neg g1]
        by_cases g2 : nums k ≤ nI (setHi (f + k))
        · rw [if_pos g2]
          obtain ⟨B, b1, b2⟩ := ih n (k + 1) (by omega) (by omega)
          refine ⟨B, b1, b2.trans ⟨fun h i i1 i2 => ?_, fun h i i1 i2 => h i (by omega) i2⟩⟩
          by_cases z : i = k
          · rw [z]; exact ⟨i_nlt.mp g1, g2⟩
          · exact h i (by omega) i2
        · rw [if_neg g2]
          exact ⟨false, rfl, ⟨ff, fun h => absurd (h k (by omega) (by omega)).2 g2⟩⟩
  obtain ⟨B, b1, b2⟩ := lp 3 N 0 (by omega) (by omega)
  refine ⟨B, b1, b2.trans ⟨fun h => ⟨h 0 (by omega) (by omega), h 1 (by omega) (by omega), h 2 (by omega) (by omega)⟩, fun h i i1 i2 => ?_⟩⟩
  rcases (show i = 0 ∨ i = 1 ∨ i = 2 by omega) with rfl | rfl | rfl
  · exact h.1
  · exact h.2.1
  · exact h.2.2
theorem cl_r (N : Nat) (hN : 5000 ≤ N) {L p e f : Nat} {T xl nums vo dr fr ah pl sp se : Nat → Int32} {ca co st : Int32} (hL : L ≤ 200) (hx : ∀ j, j < L → xl j = la L T j) (hp : p < L) (hS : SEMI L T (p + 1) e) (hf : (f = 0 ∧ xl p = 111) ∨ (f = 3 ∧ xl p = 104)) : ∃ (B : Bool) (nums' se' : Nat → Int32), f4_readItem N (nI p) (nI e) xl nums ca vo dr fr co ah st pl sp se = some (bi B, nums', ca, vo, dr, fr, co, ah, st, pl, sp, se') ∧ (B = true ↔ C3 L T e (p + 1) ∧ inT f 0 (nv L T (p + 1)) ∧ inT f 1 (nv L T (nx L T (p + 1))) ∧ inT f 2 (nv L T (nx L T (nx L T (p + 1))))) ∧ (B = true → ∀ j, j < 6 → se' j = if j = f then nv L T (p + 1) else if j = f + 1 then nv L T (nx L T (p + 1)) else if j = f + 2 then nv L T (nx L T (nx L T (p + 1))) else se j) := by
  obtain ⟨g, nums', h1, h2⟩ := rn_eq N hN (nums := nums) hL hx hS
  have hf3 : f ≤ 3 := by rcases hf with q | q <;> omega
  have red : f4_readItem N (nI p) (nI e) xl nums ca vo dr fr co ah st pl sp se = if g = 3 then (f1_setThree N (nI f) se nums').bind fun q => (if q.1 = 0 then some ((0 : Int32), nums', ca, vo, dr, fr, co, ah, st, pl, sp, q.2) else some (1, nums', ca, vo, dr, fr, co, ah, st, pl, sp, q.2)) else some (0, nums', ca, vo, dr, fr, co, ah, st, pl, sp, se) := by
    rcases hf with ⟨rfl, q⟩ | ⟨rfl, q⟩
    · rw [f4_readItem, nI_1, h1, Option.bind_some, if_pos (ok_nI (n := 200) (k := p) (by omega) (by omega)), cl_nI (by omega), q, if_neg (show ¬ (111 : Int32) = 99 by decide), if_neg (show ¬ (111 : Int32) = 104 by decide), if_pos rfl]; rfl
    · rw [f4_readItem, nI_1, h1, Option.bind_some, if_pos (ok_nI (n := 200) (k := p) (by omega) (by omega)), cl_nI (by omega), q, if_neg (show ¬ (104 : Int32) = 99 by decide), if_pos rfl]; rfl
  rw [red]
  have no : ¬ C3 L T e (p + 1) → ∃ (B : Bool) (nums1 se' : Nat → Int32), some ((0 : Int32), nums', ca, vo, dr, fr, co, ah, st, pl, sp, se) = some (bi B, nums1, ca, vo, dr, fr, co, ah, st, pl, sp, se') ∧ (B = true ↔ C3 L T e (p + 1) ∧ inT f 0 (nv L T (p + 1)) ∧ inT f 1 (nv L T (nx L T (p + 1))) ∧ inT f 2 (nv L T (nx L T (nx L T (p + 1))))) ∧ (B = true → ∀ j, j < 6 → se' j = if j = f then nv L T (p + 1) else if j = f + 1 then nv L T (nx L T (p + 1)) else if j = f + 2 then nv L T (nx L T (nx L T (p + 1))) else se j) :=
    fun q => ⟨false, _, _, rfl, ⟨ff, fun h => absurd h.1 q⟩, ff⟩
  rcases h2 with ⟨c, rfl, -⟩ | ⟨c, rfl, -⟩ | ⟨c, rfl, v0, v1, v2⟩ | ⟨rfl, -, -, c⟩
  · rw [if_neg (show ¬ (1 : Int32) = 3 by decide)]; exact no (C13 c)
  · rw [if_neg (show ¬ (2 : Int32) = 3 by decide)]; exact no (C23 c)
  · obtain ⟨B, b1, b2⟩ := set3 N hN (se := se) (nums := nums') hf3
    rw [v0, v1, v2] at b2
    rw [if_pos rfl, b1, Option.bind_some]
    by_cases hB : B = true
    · have hc := b2.mp hB
      rw [if_neg (bi_1 hB)]
      refine ⟨true, _, _, rfl, ⟨fun _ => ⟨c, hc⟩, fun _ => rfl⟩, fun _ j hj => ?_⟩
      show (if B = true then va_cpy nums' se 0 f 3 else se) j = _
      rw [if_pos hB]
      by_cases j0 : j = f
      · rw [if_pos j0, pk_cpy_in (by omega) (by omega), show 0 + (j - f) = 0 by omega, v0]
      · rw [if_neg j0]
        by_cases j1 : j = f + 1
        · rw [if_pos j1, pk_cpy_in (by omega) (by omega), show 0 + (j - f) = 1 by omega, v1]
        · rw [if_neg j1]
          by_cases j2 : j = f + 2
          · rw [if_pos j2, pk_cpy_in (by omega) (by omega), show 0 + (j - f) = 2 by omega, v2]
          · rw [if_neg j2, pk_cpy_out (by omega)]
    · rw [if_pos (bi_0 hB)]
      exact ⟨false, _, _, rfl, ⟨ff, fun h => absurd (b2.mpr h.2) hB⟩, ff⟩
  · rw [if_neg (show ¬ (0 : Int32) = 3 by decide)]; exact no c
