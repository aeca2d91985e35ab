/-- an index inside a row -/
def ok (i : Int32) (n : Nat) : Bool := decide (0 ≤ i.toInt ∧ i.toInt < n)
theorem ok_in {i : Int32} {n : Nat} (h : ok i n = true) : vp_in i n := vp_in_iff.mpr (of_decide_eq_true h)
/-- a truth value as the machine holds it -/
def isb (x : Int32) : Bool := decide (x = 0 ∨ x = 1)
theorem isb_n {x : Int32} (h : isb x = true) : narrow .boolean (.int x) = .int x := by
  rcases of_decide_eq_true h with h | h <;> subst h <;> rfl
theorem isb_f {x : Int32} (h : isb x = true) : fits .boolean (.int x) = true := by
  rcases of_decide_eq_true h with h | h <;> subst h <;> rfl
theorem if_some {α : Type} {b : Prop} [Decidable b] {x : Option α} {r : α} (h : (if b then x else none) = some r) : b ∧ x = some r := by
  by_cases hb : b
  · rw [if_pos hb] at h; exact ⟨hb, h⟩
  · rw [if_neg hb] at h; cases h
theorem bd_some {α β : Type} {x : Option α} {f : α → Option β} {r : β} (h : x.bind f = some r) : ∃ q, x = some q ∧ f q = some r := by
  cases x with
  | none => cases h
  | some q => exact ⟨q, rfl, h⟩
theorem no_some {α : Type} {r : α} {P : Prop} (h : (none : Option α) = some r) : P := by cases h
/-- the classes' numbers, the slots, the array classes of int, State, Shot, and where the rows of constants lie -/
abbrev gG : Type := va_G × ClassId × ClassId × ClassId × (Nat → Nat)
abbrev gT (g : gG) : List (ClassId × FieldType) := [(g.2.1, .int), (g.2.2.1, .object "MouldShots$State"), (g.2.2.2.1, .object "MouldShots$Shot")]
/-- the rows of constants -/
def tabL : Nat → Int32 := fun j => [1, 1, 1, 0, 0, 0].getD j 0
def tabM : Nat → Int32 := fun j => [99, 99, 40, 99, 20, 99].getD j 0
def tabW : Nat → Int32 := fun j => [80, 90, 30, 40, 5, 8].getD j 0
def statT : List (String × (Nat → Int32)) := [("LEAST_SETTING", tabL), ("MOST_SETTING", tabM), ("SETTING_WITHOUT", tabW)]
def gS (g : gG) (A : Nat → Prop) (U : State) (H : Heap) : Prop := ∀ (k : Nat) (q : String × (Nat → Int32)), statT[k]? = some q → va_Z "MouldShots" q.1 "[I" (.ref (g.2.2.2.2 k)) A U H ∧ va_X (g.2.2.2.2 k) 6 q.2 U H ∧ g.2.2.2.2 k < H.size ∧ ¬ A (g.2.2.2.2 k)
theorem gS.on {g : gG} {A B : Nat → Prop} {s U : State} {H0 H : Heap} {locs : List Loc} (h : gS g A s H0) (hS : va_S A H0 H locs) (hvm : s.vm.Alike U.vm) (hAB : ∀ q, B q → A q) : gS g B U H := by
  intro k q hk
  obtain ⟨h1, h2, h3, h4⟩ := h k q hk
  exact ⟨((h1.kept hS.2.1).moved hvm).narrow hAB, (h2.kept (hS.2.1 _ h3 h4)).moved hvm, Nat.lt_of_lt_of_le h3 hS.1, fun z => h4 (hAB _ z)⟩
theorem fm_of {ws wc : va_W} {is : List Nat} (hC : is.map (fun i => ws[i]?) = wc.map some) : is.filterMap (fun i => ws[i]?) = wc := by
  have e : is.filterMap (fun i => ws[i]?) = (is.map (fun i => ws[i]?)).filterMap id := by
    rw [List.filterMap_map]; rfl
  rw [e, hC, List.filterMap_map]
  exact List.filterMap_some
theorem ok_nn {x : Int32} {n : Nat} (h : ok x n = true) : ¬ x < 0 := fun z => ok_in h (Or.inl z)
theorem ok_le {x : Int32} {n k N : Nat} (h : ok x n = true) (e : n + k = N + 1 := by decide) : x.toNatClampNeg + k ≤ N := by
  have h1 : ¬ n ≤ x.toNatClampNeg := fun z => ok_in h (Or.inr z)
  omega
theorem ne_ti {x : Int32} {k : Int32} (h : ¬ x = k) : x.toInt ≠ k.toInt := fun e => h (Int32.toInt_inj.mp e)
theorem tab_out3 {x : Int32} (h0 : ¬ x = 0) (h1 : ¬ x = 1) (h2 : ¬ x = 2) : x.toInt < 0 ∨ 2 < x.toInt := by
  have := ne_ti h0; have := ne_ti h1; have := ne_ti h2
  simp only [show (0 : Int32).toInt = 0 from rfl, show (1 : Int32).toInt = 1 from rfl, show (2 : Int32).toInt = 2 from rfl] at *
  omega
/-- cells put at places -/
def zs {α : Type} : List α → List Nat → List α → List α
  | ws, i :: is, x :: xs => zs (ws.set i x) is xs
  | ws, _, _ => ws
theorem zs_at {α : Type} : ∀ (w1 : List α) (is : List Nat) (ws : List α), is.length = w1.length → ∀ (k : Nat) (q : α), (zs ws is w1)[k]? = some q → q ∈ w1 ∨ (ws[k]? = some q ∧ k ∉ is)
  | [], [], ws, _, k, q, h => Or.inr ⟨h, by simp⟩
  | [], i :: is, ws, hl, k, q, h => by simp at hl
  | x :: xs, [], ws, hl, k, q, h => by simp at hl
  | x :: xs, i :: is, ws, hl, k, q, h => by
    rcases zs_at xs is (ws.set i x) (by simpa using hl) k q h with h1 | ⟨h1, h2⟩
    · exact Or.inl (List.mem_cons_of_mem _ h1)
    · by_cases hk : i = k
      · subst hk
        by_cases hlt : i < ws.length
        · rw [List.getElem?_set_self hlt] at h1
          cases h1
          exact Or.inl List.mem_cons_self
        · rw [List.getElem?_eq_none (by rw [List.length_set]; omega)] at h1
          cases h1
      · rw [List.getElem?_set_ne hk] at h1
        refine Or.inr ⟨h1, ?_⟩
        intro hm
        rcases List.mem_cons.mp hm with h3 | h3
        · exact hk h3.symm
        · exact h2 h3
theorem set_self {α : Type} {l : List α} {i : Nat} {a : α} (h : l[i]? = some a) : l.set i a = l := by
  apply List.ext_getElem?
  intro k
  by_cases hk : i = k
  · subst hk; rw [List.getElem?_set_self (List.getElem?_eq_some_iff.mp h).1, h]
  · rw [List.getElem?_set_ne hk]
theorem zs_ad {α β : Type} (f : α → β) : ∀ (w1 : List α) (is : List Nat) (ws : List α), (∀ (j i : Nat) (x : α), is[j]? = some i → w1[j]? = some x → (ws.map f)[i]? = some (f x)) → (zs ws is w1).map f = ws.map f
  | [], [], ws, _ => rfl
  | [], i :: is, ws, _ => rfl
  | x :: xs, [], ws, _ => rfl
  | x :: xs, i :: is, ws, h => by
    have h0 := h 0 i x rfl rfl
    have e : (ws.set i x).map f = ws.map f := by
      rw [List.map_set]
      exact set_self h0
    show (zs (ws.set i x) is xs).map f = _
    rw [zs_ad f xs is (ws.set i x) (fun j i' y h1 h2 => by rw [e]; exact h (j + 1) i' y h1 h2), e]
theorem va_D_ad {A : Nat → Prop} {ws ws' : va_W} (h : va_D A ws) (e : ws'.map (·.1) = ws.map (·.1)) : va_D A ws' := by
  have key : ∀ (k : Nat) (q : Nat × va_E), ws'[k]? = some q → ∃ q0 : Nat × va_E, ws[k]? = some q0 ∧ q0.1 = q.1 := by
    intro k q hk
    have h1 : (ws'.map (·.1))[k]? = some q.1 := by rw [List.getElem?_map, hk]; rfl
    rw [e, List.getElem?_map] at h1
    cases hq : ws[k]? with
    | none => rw [hq] at h1; cases h1
    | some q0 => rw [hq] at h1; exact ⟨q0, rfl, Option.some.inj h1⟩
  refine ⟨fun i j x y hi hj hxy => ?_, fun k q hk => ?_⟩
  · obtain ⟨x0, h1, h2⟩ := key i x hi
    obtain ⟨y0, h3, h4⟩ := key j y hj
    exact h.1 i j x0 y0 h1 h3 (h2.trans (hxy.trans h4.symm))
  · obtain ⟨q0, h1, h2⟩ := key k q hk
    rw [← h2]
    exact h.2 k q0 h1
theorem zs_ok {A0 : Nat → Prop} {D : va_G} {cl : List vw_C} {ws wc w1 : va_W} {H H1 : Heap} (hP : va_P D cl ws H) (hD : va_D A0 ws) (is : List Nat) (hC : is.map (fun i => ws[i]?) = wc.map some) (ha : w1.map (·.1) = wc.map (·.1)) (hk : ∀ q : Nat, q < H.size → ¬ va_A wc H.size q → H1[q]? = H[q]?) (hP1 : va_P D cl w1 H1) : va_P D cl (zs ws is w1) H1 ∧ va_D A0 (zs ws is w1) := by
  have l1 : is.length = wc.length := by simpa using congrArg List.length hC
  have l2 : w1.length = wc.length := by simpa using congrArg List.length ha
  have at' : ∀ (k i : Nat), is[k]? = some i → ws[i]? = wc[k]? := by
    intro k i hi
    have h1 : (is.map (fun i => ws[i]?))[k]? = (wc.map some)[k]? := by rw [hC]
    rw [List.getElem?_map, List.getElem?_map, hi] at h1
    cases hw : wc[k]? with
    | none => rw [hw] at h1; cases h1
    | some x => rw [hw] at h1; exact Option.some.inj h1
  constructor
  · intro k q hq
    rcases zs_at w1 is ws (l1.trans l2.symm) k q hq with h | ⟨h, hn⟩
    · obtain ⟨i, hi⟩ := List.getElem?_of_mem h
      exact hP1 i q hi
    · refine (hP k q h).kept (hk q.1 (hP k q h).lt ?_)
      rintro (⟨j, e, hj⟩ | hj)
      · have hlt : j < is.length := by
          have := (List.getElem?_eq_some_iff.mp hj).1
          omega
        have h2 := at' j _ (List.getElem?_eq_getElem hlt)
        rw [hj] at h2
        have h3 := hD.1 _ _ _ _ h h2 rfl
        exact hn (h3 ▸ List.getElem_mem hlt)
      · exact absurd (hP k q h).lt (Nat.not_lt.mpr hj)
  · refine va_D_ad hD (zs_ad (·.1) w1 is ws fun j i x hj hx => ?_)
    have h2 := at' j i hj
    have h3 : (wc.map (·.1))[j]? = some x.1 := by rw [← ha, List.getElem?_map, hx]; rfl
    rw [List.getElem?_map] at h3 ⊢
    rw [h2]
    exact h3
/-- blocks of cells, one behind the other -/
def fl (bs : List va_W) : va_W := bs.flatten
def ads (b : va_W) : List Nat := b.map (·.1)
def va_R (x y : Nat × va_E) : Prop := x.1 ≠ y.1
theorem va_D_iff {A : Nat → Prop} {ws : va_W} : va_D A ws ↔ ws.Pairwise va_R ∧ ∀ q ∈ ws, A q.1 := by
  constructor
  · intro h
    refine ⟨List.pairwise_iff_getElem.mpr fun i j hi hj hij e => ?_, fun q hq => ?_⟩
    · have := h.1 i j _ _ (List.getElem?_eq_getElem hi) (List.getElem?_eq_getElem hj) e
      omega
    · obtain ⟨i, hi⟩ := List.getElem?_of_mem hq
      exact h.2 i q hi
  · intro h
    refine ⟨fun i j x y hi hj e => ?_, fun k q hk => h.2 q (List.mem_of_getElem? hk)⟩
    obtain ⟨hi1, rfl⟩ := List.getElem?_eq_some_iff.mp hi
    obtain ⟨hj1, rfl⟩ := List.getElem?_eq_some_iff.mp hj
    rcases Nat.lt_trichotomy i j with h1 | h1 | h1
    · exact absurd e (List.pairwise_iff_getElem.mp h.1 i j hi1 hj1 h1)
    · exact h1
    · exact absurd e.symm (List.pairwise_iff_getElem.mp h.1 j i hj1 hi1 h1)
theorem va_P_iff {D : va_G} {cl : List vw_C} {ws : va_W} {H : Heap} : va_P D cl ws H ↔ ∀ q ∈ ws, va_at D cl q H := by
  constructor
  · intro h q hq
    obtain ⟨i, hi⟩ := List.getElem?_of_mem hq
    exact h i q hi
  · intro h k q hk
    exact h q (List.mem_of_getElem? hk)
theorem bl_at {bs bc : List va_W} {is : List Nat} (hC : is.map (fun i => bs[i]?) = bc.map some) {j : Nat} {b : va_W} (hj : bc[j]? = some b) : ∃ i, is[j]? = some i ∧ bs[i]? = some b := by
  have h1 : (is.map (fun i => bs[i]?))[j]? = some (some b) := by rw [hC, List.getElem?_map, hj]; rfl
  rw [List.getElem?_map] at h1
  cases hi : is[j]? with
  | none => rw [hi] at h1; cases h1
  | some i => rw [hi] at h1; exact ⟨i, rfl, Option.some.inj h1⟩
theorem fl_sub {bs bc : List va_W} {is : List Nat} (hC : is.map (fun i => bs[i]?) = bc.map some) {q : Nat × va_E} (hq : q ∈ fl bc) : ∃ (i : Nat) (b : va_W), i ∈ is ∧ bs[i]? = some b ∧ q ∈ b ∧ q ∈ fl bs := by
  obtain ⟨b, hb, hqb⟩ := List.mem_flatten.mp hq
  obtain ⟨j, hj⟩ := List.getElem?_of_mem hb
  obtain ⟨i, h1, h2⟩ := bl_at hC hj
  exact ⟨i, b, List.mem_of_getElem? h1, h2, hqb, List.mem_flatten.mpr ⟨b, List.mem_of_getElem? h2, hqb⟩⟩
/-- two blocks at two places are apart -/
theorem fl_ne {A : Nat → Prop} {bs : List va_W} (hD : va_D A (fl bs)) {i j : Nat} {b b' : va_W} (hi : bs[i]? = some b) (hj : bs[j]? = some b') (hij : i ≠ j) {q q' : Nat × va_E} (hq : q ∈ b) (hq' : q' ∈ b') : q.1 ≠ q'.1 := by
  obtain ⟨-, h2⟩ := List.pairwise_flatten.mp (va_D_iff.mp hD).1
  obtain ⟨hi1, rfl⟩ := List.getElem?_eq_some_iff.mp hi
  obtain ⟨hj1, rfl⟩ := List.getElem?_eq_some_iff.mp hj
  rcases Nat.lt_or_gt_of_ne hij with h | h
  · exact List.pairwise_iff_getElem.mp h2 i j hi1 hj1 h q hq q' hq'
  · exact fun e => List.pairwise_iff_getElem.mp h2 j i hj1 hi1 h q' hq' q hq e.symm
theorem fl_D {A : Nat → Prop} {bs bc : List va_W} (hD : va_D A (fl bs)) (is : List Nat) (hn : va_nd is = true) (hC : is.map (fun i => bs[i]?) = bc.map some) : va_D A (fl bc) := by
  refine va_D_iff.mpr ⟨List.pairwise_flatten.mpr ⟨fun b hb => ?_, List.pairwise_iff_getElem.mpr fun i j hi hj hij q hq q' hq' => ?_⟩, fun q hq => ?_⟩
  · obtain ⟨j, hj⟩ := List.getElem?_of_mem hb
    obtain ⟨i, h1, h2⟩ := bl_at hC hj
    exact (List.pairwise_flatten.mp (va_D_iff.mp hD).1).1 b (List.mem_of_getElem? h2)
  · obtain ⟨a, h1, h2⟩ := bl_at hC (List.getElem?_eq_getElem hi)
    obtain ⟨a', h3, h4⟩ := bl_at hC (List.getElem?_eq_getElem hj)
    refine fl_ne hD h2 h4 (fun e => ?_) hq hq'
    subst e
    have := va_nd_inj is hn i j a h1 h3
    omega
  · obtain ⟨i, b, -, -, -, h⟩ := fl_sub hC hq
    exact (va_D_iff.mp hD).2 q h
theorem fl_free {A0 : Nat → Prop} {bs bc : List va_W} {H0 H : Heap} {locs : List Loc} (hD : va_D A0 (fl bs)) (hS : va_S A0 H0 H locs) (hA : ∀ q, H0.size ≤ q → A0 q) (is : List Nat) (hC : is.map (fun i => bs[i]?) = bc.map some) : ∀ q, va_A (fl bc) H.size q → A0 q := by
  rintro q (⟨k, e, h⟩ | h)
  · obtain ⟨i, b, -, -, -, h⟩ := fl_sub hC (List.mem_of_getElem? h)
    exact (va_D_iff.mp hD).2 _ h
  · exact hA q (Nat.le_trans hS.1 h)
theorem ads_fl {bs bs' : List va_W} (h : bs'.map ads = bs.map ads) : (fl bs').map (·.1) = (fl bs).map (·.1) := by
  have e : ∀ l : List va_W, (fl l).map (·.1) = (l.map ads).flatten := fun l => List.map_flatten
  rw [e, e, h]
theorem fl_ok {A0 : Nat → Prop} {D : va_G} {cl : List vw_C} {bs bc b1 : List va_W} {H H1 : Heap} (hP : va_P D cl (fl bs) H) (hD : va_D A0 (fl bs)) (is : List Nat) (hC : is.map (fun i => bs[i]?) = bc.map some) {L : List (List Nat)} (ha : bc.map ads = L) (ha1 : b1.map ads = L) (hk : ∀ q : Nat, q < H.size → ¬ va_A (fl bc) H.size q → H1[q]? = H[q]?) (hP1 : va_P D cl (fl b1) H1) : va_P D cl (fl (zs bs is b1)) H1 ∧ va_D A0 (fl (zs bs is b1)) := by
  have l1 : is.length = bc.length := by simpa using congrArg List.length hC
  have l2 : b1.length = bc.length := by
    have := congrArg List.length (ha1.trans ha.symm)
    simpa using this
  constructor
  · refine va_P_iff.mpr fun q hq => ?_
    obtain ⟨b, hb, hqb⟩ := List.mem_flatten.mp hq
    obtain ⟨k, hbk⟩ := List.getElem?_of_mem hb
    rcases zs_at b1 is bs (l1.trans l2.symm) k b hbk with h | ⟨h, hn⟩
    · exact va_P_iff.mp hP1 q (List.mem_flatten.mpr ⟨b, h, hqb⟩)
    · have hqs : q ∈ fl bs := List.mem_flatten.mpr ⟨b, List.mem_of_getElem? h, hqb⟩
      have hlt := (va_P_iff.mp hP q hqs).lt
      refine (va_P_iff.mp hP q hqs).kept (hk q.1 hlt ?_)
      rintro (⟨j, e, hj⟩ | hj)
      · obtain ⟨i, b', h1, h2, h3, -⟩ := fl_sub hC (List.mem_of_getElem? hj)
        exact fl_ne hD h h2 (fun e => hn (e ▸ h1)) hqb h3 rfl
      · omega
  · refine va_D_ad hD (ads_fl (zs_ad ads b1 is bs fun j i x hj hx => ?_))
    have h3 : (bc.map ads)[j]? = some (ads x) := by rw [ha, ← ha1, List.getElem?_map, hx]; rfl
    rw [List.getElem?_map] at h3 ⊢
    cases hb : bc[j]? with
    | none => rw [hb] at h3; cases h3
    | some b =>
      obtain ⟨i', h1, h2⟩ := bl_at hC hb
      cases hj.symm.trans h1
      rw [h2, ← h3, hb]
/-- words that stay as classes warm up -/
def nwOk (nw : List Cond) : Prop := ∀ w ∈ nw, w.onTables = true ∧ ∀ s U : State, s.WarmedH U.vm → va_Nw w s → va_Nw w U
/-- the words on members of nest mates -/
def nestF : List Cond := [.fieldLinkNest RX5 103 "MouldShots$State" "shut" "Z" "MouldShots", .fieldLinkNest RX5 110 "MouldShots$State" "coresIn" "I" "MouldShots", .fieldLinkNest RX5 113 "MouldShots$State" "hot" "Z" "MouldShots", .fieldLinkNest RX5 116 "MouldShots$State" "loaded" "Z" "MouldShots", .fieldLinkNest RX5 141 "MouldShots$Plan" "ahead" "[I" "MouldShots", .fieldLinkNest RX5 145 "MouldShots$Plan" "cores" "I" "MouldShots", .fieldLinkNest RX5 151 "MouldShots$State" "drags" "[I" "MouldShots", .fieldLinkNest RX5 154 "MouldShots$Plan" "stages" "I" "MouldShots", .fieldLinkNest RX5 157 "MouldShots$State" "speeds" "[I" "MouldShots", .fieldLinkNest RX5 166 "MouldShots$State" "settings" "[I" "MouldShots", .fieldLinkNest RX5 172 "MouldShots$State" "made" "I" "MouldShots", .fieldLinkNest RX5 189 "MouldShots$Shot" "coolTicks" "I" "MouldShots", .fieldLinkNest RX5 208 "MouldShots$State" "taught" "LMouldShots$Band;" "MouldShots", .fieldLinkNest RX5 218 "MouldShots$Band" "teachers" "I" "MouldShots", .fieldLinkNest RX5 222 "MouldShots$State" "width" "I" "MouldShots", .fieldLinkNest RX5 228 "MouldShots$Band" "longest" "I" "MouldShots", .fieldLinkNest RX5 231 "MouldShots$Band" "least" "[I" "MouldShots", .fieldLinkNest RX5 234 "MouldShots$Band" "greatest" "[I" "MouldShots", .fieldLinkNest RX5 255 "MouldShots$Shot" "ticks" "I" "MouldShots", .fieldLinkNest RX5 258 "MouldShots$Shot" "pressures" "[I" "MouldShots", .fieldLinkNest RX5 261 "MouldShots$Plan" "volumes" "[I" "MouldShots", .fieldLinkNest RX5 264 "MouldShots$Plan" "freezes" "[I" "MouldShots", .fieldLinkNest RX5 267 "MouldShots$Shot" "has" "[I" "MouldShots", .fieldLinkNest RX5 273 "MouldShots$Shot" "fullAt" "[I" "MouldShots", .fieldLinkNest RX5 276 "MouldShots$Shot" "firstAt" "[I" "MouldShots", .fieldLinkNest RX5 81 "MouldShots$Text" "length" "I" "MouldShots", .fieldLinkNest RX5 87 "MouldShots$Plan" "cavities" "I" "MouldShots", .fieldLinkNest RX0 34 "MouldShots$Shot" "pressures" "[I" "MouldShots", .fieldLinkNest RX0 48 "MouldShots$Shot" "ticks" "I" "MouldShots", .fieldLinkNest RX1 43 "MouldShots" "SETTING_WITHOUT" "[I" "MouldShots", .fieldLinkNest RX1 52 "MouldShots" "LEAST_SETTING" "[I" "MouldShots", .fieldLinkNest RX1 55 "MouldShots" "MOST_SETTING" "[I" "MouldShots", .fieldLinkNest RX2 102 "MouldShots$Plan" "volumes" "[I" "MouldShots", .fieldLinkNest RX2 109 "MouldShots$Plan" "freezes" "[I" "MouldShots", .fieldLinkNest RX2 51 "MouldShots$State" "settings" "[I" "MouldShots", .fieldLinkNest RX2 77 "MouldShots$Plan" "stages" "I" "MouldShots", .fieldLinkNest RX2 82 "MouldShots$Plan" "places" "[I" "MouldShots", .fieldLinkNest RX2 85 "MouldShots$State" "speeds" "[I" "MouldShots", .fieldLinkNest RX2 92 "MouldShots$State" "drags" "[I" "MouldShots", .fieldLinkNest RX2 99 "MouldShots$Plan" "cavities" "I" "MouldShots", .fieldLinkNest RX3 48 "MouldShots$Plan" "drags" "[I" "MouldShots", .fieldLinkNest RX3 57 "MouldShots$Plan" "speeds" "[I" "MouldShots", .fieldLinkNest RX3 58 "MouldShots$Plan" "settings" "[I" "MouldShots"]
def nestM : List Cond := [.methodLinkNest RX5 11 yX4_init "MouldShots", .methodLinkNest RX5 132 yX3_isIn "MouldShots", .methodLinkNest RX5 175 yX2_make "MouldShots", .methodLinkNest RX5 179 yX2_whole "MouldShots", .methodLinkNest RX5 18 yX1_init "MouldShots", .methodLinkNest RX5 192 yX3_copyFrom "MouldShots", .methodLinkNest RX5 204 yX2_isShort "MouldShots", .methodLinkNest RX5 212 yX0_learn "MouldShots", .methodLinkNest RX5 221 yX0_clear "MouldShots", .methodLinkNest RX5 237 yX0_amissIn "MouldShots", .methodLinkNest RX5 245 yX2_told "MouldShots", .methodLinkNest RX5 248 yX2_isFarOff "MouldShots", .methodLinkNest RX5 251 yX0_rejects "MouldShots", .methodLinkNest RX5 282 yX2_balance "MouldShots", .methodLinkNest RX5 285 yX1_coreInTurn "MouldShots", .methodLinkNest RX5 39 yX3_init "MouldShots", .methodLinkNest RX5 50 yX2_init "MouldShots", .methodLinkNest RX5 67 yX4_append "MouldShots", .methodLinkNest RX5 71 yX4_readInto "MouldShots", .methodLinkNest RX5 78 yX4_clear "MouldShots", .methodLinkNest RX5 83 yX1_canBeLaid "MouldShots", .methodLinkNest RX5 90 yX3_startWith "MouldShots", .methodLinkNest RX3 43 yX0_init "MouldShots", .methodLinkNest RX3 59 yX0_clear "MouldShots", .methodLinkNest RX3 62 yX0_copyFrom "MouldShots", .methodLinkNest RX4 22 yX1_clear "MouldShots", .methodLinkNest RX4 35 yX1_addCavity "MouldShots", .methodLinkNest RX4 39 yX1_addCore "MouldShots", .methodLinkNest RX4 43 yX1_addStage "MouldShots", .methodLinkNest RX4 47 yX1_setThree "MouldShots"]
def nestW : List Cond := nestF ++ nestM
theorem nest_F : ∀ w ∈ nestF, ∃ a i b n d h, w = Cond.fieldLinkNest a i b n d h := by
  intro w hw
  simp only [nestF, List.mem_cons, List.not_mem_nil, or_false] at hw
  rcases hw with h | h | h | h | h | h | h | h | h | h | h | h | h | h | h | h | h | h | h | h | h | h | h | h | h | h | h | h | h | h | h | h | h | h | h | h | h | h | h | h | h | h | h <;> exact ⟨_, _, _, _, _, _, h⟩
theorem nest_M : ∀ w ∈ nestM, ∃ a i x h, w = Cond.methodLinkNest a i x h := by
  intro w hw
  simp only [nestM, List.mem_cons, List.not_mem_nil, or_false] at hw
  rcases hw with h | h | h | h | h | h | h | h | h | h | h | h | h | h | h | h | h | h | h | h | h | h | h | h | h | h | h | h | h | h <;> exact ⟨_, _, _, _, h⟩
theorem nest_ok : nwOk nestW := by
  intro w hw
  rcases List.mem_append.mp hw with h | h
  · obtain ⟨a, i, b, n, d, h, rfl⟩ := nest_F w h
    exact ⟨rfl, fun s U hW hN => hN.warmF hW⟩
  · obtain ⟨a, i, x, h, rfl⟩ := nest_M w h
    exact ⟨rfl, fun s U hW hN => hN.warmM hW⟩
/-- what every method takes over from its caller: the classes, the words on nest mates -/
def gK (g : gG) (s : State) : Prop := va_K g.1 vwCl (gT g) s ∧ ∀ w ∈ nestW, va_Nw w s
theorem gK.warm {g : gG} {s U : State} (h : gK g s) (hW : s.WarmedH U.vm) : gK g U := ⟨va_K.moved hW.alike h.1, fun w hw => (nest_ok w hw).2 s U hW (h.2 w hw)⟩
theorem gK.use {g : gG} {s : State} (h : gK g s) {A : Array Value} (w : Cond) (k : Nat) (hk : nestW[k]? = some w) : w.before A s = true := va_Nw.use (nest_ok w (List.mem_of_getElem? hk)).1 (h.2 w (List.mem_of_getElem? hk))
theorem gK.nw {g : gG} {s : State} (h : gK g s) (w : Cond) (k : Nat) (hk : nestW[k]? = some w) : va_Nw w s := h.2 w (List.mem_of_getElem? hk)
/-- a method's start: its arguments, the heap's size, its world -/
def pP (g : gG) (av : List Value) (sz : Nat) (ws : va_W) : Array Value → State → Prop := va_Pc av (fun U => U.heap.size = sz ∧ va_P g.1 vwCl ws U.heap ∧ gK g U ∧ va_D (fun _ => True) ws ∧ gS g (va_A ws sz) U U.heap)
def pQi (g : gG) (post : Int32 → Prop) (w1 : va_W) (A : Nat → Prop) : Array Value → State → Outcome → State → Prop := va_Qi (fun (r : Int32) (_ : Unit) => post r) (fun _ t => va_P g.1 vwCl w1 t.heap) A
def pQv (g : gG) (w1 : va_W) (A : Nat → Prop) : Array Value → State → Outcome → State → Prop := va_Qv (fun (_ : Unit) => True) (fun _ t => va_P g.1 vwCl w1 t.heap) A
def pQr (g : gG) (ra : Nat) (w1 : va_W) (A : Nat → Prop) : Array Value → State → Outcome → State → Prop := va_Qr (fun (_ : Unit) => True) (fun _ a t => a = ra ∧ va_P g.1 vwCl w1 t.heap) A
theorem pP_blind {g : gG} {av : List Value} {sz : Nat} {ws : va_W} : FrameBlind (pP g av sz ws) := by
  intro a U G mk q
  obtain ⟨q0, q1, qP, qK, qD, qS⟩ := q
  exact ⟨q0, q1, qP, ⟨va_K.moved (u := U) (U := U.calling G mk a) (Vm.Alike.refl U.vm) qK.1, fun w hw => va_Nw.same (u := U) (U := U.calling G mk a) (nest_ok w hw).1 rfl (qK.2 w hw)⟩, qD, qS.on (U := U.calling G mk a) (va_S.rf (H0 := U.heap)) (Vm.Alike.refl U.vm) (fun _ h => h)⟩
theorem pPS {g : gG} {s : State} {H : Heap} {As : List Value} {ws wc : va_W} {A : Nat → Prop} {locs : List Loc} (hK : gK g s) (hG : gS g A s s.heap) (hP : va_P g.1 vwCl ws H) (hD : va_D A ws) (hS : va_S A s.heap H locs) (hA : ∀ q, s.heap.size ≤ q → A q) (is : List Nat) (hn : va_nd is = true) (hC : is.map (fun i => ws[i]?) = wc.map some) : PreS s H (pP g As H.size wc) As :=
  ⟨pP_blind, fun U hU hW => ⟨rfl, by rw [hU], by rw [hU]; exact hP.sub is (fm_of hC), hK.warm hW, (hD.sub is hn hC).weaken (fun _ _ _ _ => trivial), by rw [hU]; exact hG.on hS hW.alike (va_free hD hS hA is hC)⟩⟩
theorem pPV {g : gG} {s : State} {H : Heap} {C : String} {b : Nat} {As : List Value} {ws wc : va_W} {A : Nat → Prop} {locs : List Loc} (hK : gK g s) (hG : gS g A s s.heap) (hP : va_P g.1 vwCl ws H) (hD : va_D A ws) (hS : va_S A s.heap H locs) (hA : ∀ q, s.heap.size ≤ q → A q) (is : List Nat) (hn : va_nd is = true) (hC : is.map (fun i => ws[i]?) = wc.map some) (hre : ∃ cellB : Cell, H[b]? = some cellB ∧ cellB.vm.isStatics = false ∧ s.vm.findClass C = some cellB.cls) : PreV s H C b (pP g (.ref b :: As) H.size wc) As :=
  ⟨pP_blind, hre, (pPS (As := .ref b :: As) hK hG hP hD hS hA is hn hC).2⟩
theorem qPS {g : gG} {s : State} {H : Heap} {As : List Value} {bs bc : List va_W} {A : Nat → Prop} {locs : List Loc} (hK : gK g s) (hG : gS g A s s.heap) (hP : va_P g.1 vwCl (fl bs) H) (hD : va_D A (fl bs)) (hS : va_S A s.heap H locs) (hA : ∀ q, s.heap.size ≤ q → A q) (is : List Nat) (hn : va_nd is = true) (hC : is.map (fun i => bs[i]?) = bc.map some) : PreS s H (pP g As H.size (fl bc)) As :=
  ⟨pP_blind, fun U hU hW => ⟨rfl, by rw [hU], by rw [hU]; exact va_P_iff.mpr (fun q hq => (fl_sub hC hq).elim fun _ h => h.elim fun _ h => va_P_iff.mp hP q h.2.2.2), hK.warm hW, (fl_D hD is hn hC).weaken (fun _ _ _ _ => trivial), by rw [hU]; exact hG.on hS hW.alike (fl_free hD hS hA is hC)⟩⟩
theorem qPV {g : gG} {s : State} {H : Heap} {C : String} {b : Nat} {As : List Value} {bs bc : List va_W} {A : Nat → Prop} {locs : List Loc} (hK : gK g s) (hG : gS g A s s.heap) (hP : va_P g.1 vwCl (fl bs) H) (hD : va_D A (fl bs)) (hS : va_S A s.heap H locs) (hA : ∀ q, s.heap.size ≤ q → A q) (is : List Nat) (hn : va_nd is = true) (hC : is.map (fun i => bs[i]?) = bc.map some) (hre : ∃ cellB : Cell, H[b]? = some cellB ∧ cellB.vm.isStatics = false ∧ s.vm.findClass C = some cellB.cls) : PreV s H C b (pP g (.ref b :: As) H.size (fl bc)) As :=
  ⟨pP_blind, hre, (qPS (As := .ref b :: As) hK hG hP hD hS hA is hn hC).2⟩
theorem zs_same {α : Type} : ∀ (w1 : List α) (is : List Nat) (ws : List α), is.map (fun i => ws[i]?) = w1.map some → zs ws is w1 = ws
  | [], [], ws, _ => rfl
  | [], i :: is, ws, h => by simp at h
  | x :: xs, [], ws, h => by simp at h
  | x :: xs, i :: is, ws, h => by
    simp only [List.map_cons, List.cons.injEq] at h
    show zs (ws.set i x) is xs = ws
    rw [set_self h.1]
    exact zs_same xs is ws h.2
section AFT
variable {p : Program} {l : Launch} {e : Env} {R : Room} {s : State} {m : MethodId} {args : Array Value} {below : List Frame} {meth : Method} {c : Code} {H : Heap} {locs : List Loc} {cells slots : Nat} {Q : State → Prop}
variable {pc : Nat} {ls : Array Slot} {rest st0 : List Value} {a : Array Value} {A0 : Nat → Prop} {H0 : Heap} {g : gG} {ws wc w1 wn : va_W}
theorem aft_i {post : Int32 → Prop} (hr : va_Run p l e R s m args below meth c H locs cells slots 0 0 (F0 m pc ls st0) rest (pQi g post w1 (va_A wc H.size) a) (va_A wc H.size)) (hP : va_P g.1 vwCl ws H) (hD : va_D A0 ws) (hS : va_S A0 H0 H locs) (hA : ∀ q, H0.size ≤ q → A0 q) (is : List Nat) (hC : is.map (fun i => ws[i]?) = wc.map some) (ha : w1.map (·.1) = wc.map (·.1)) (hn : zs ws is w1 = wn)
    (kk : ∀ (r : Int32) (H1 : Heap) (locs1 : List Loc), post r → va_P g.1 vwCl wn H1 → va_D A0 wn → va_S A0 H0 H1 locs1 → W p l e R s m args below meth c H1 locs1 cells slots Q (F0 m (pc + 3) ls (.int r :: rest))) : W p l e R s m args below meth c H locs cells slots Q (F0 m pc ls st0) := by
  have hF := va_free (wc := wc) hD hS hA is hC
  refine va_calli hr hS (fun q _ h => hF q h) hF (fun r u t H1 locs1 ht hvm hw hB hz hk hS1 => ?_)
  rw [ht] at hB
  obtain ⟨h1, h2⟩ := zs_ok hP hD is hC ha hk hB
  subst hn
  exact kk r H1 locs1 hw h1 h2 hS1
theorem aft_v (hr : va_Run p l e R s m args below meth c H locs cells slots 0 0 (F0 m pc ls st0) rest (pQv g w1 (va_A wc H.size) a) (va_A wc H.size)) (hP : va_P g.1 vwCl ws H) (hD : va_D A0 ws) (hS : va_S A0 H0 H locs) (hA : ∀ q, H0.size ≤ q → A0 q) (is : List Nat) (hC : is.map (fun i => ws[i]?) = wc.map some) (ha : w1.map (·.1) = wc.map (·.1)) (hn : zs ws is w1 = wn)
    (kk : ∀ (H1 : Heap) (locs1 : List Loc), va_P g.1 vwCl wn H1 → va_D A0 wn → va_S A0 H0 H1 locs1 → W p l e R s m args below meth c H1 locs1 cells slots Q (F0 m (pc + 3) ls rest)) : W p l e R s m args below meth c H locs cells slots Q (F0 m pc ls st0) := by
  have hF := va_free (wc := wc) hD hS hA is hC
  refine va_callv hr hS (fun q _ h => hF q h) hF (fun u t H1 locs1 ht hvm hw hB hz hk hS1 => ?_)
  rw [ht] at hB
  obtain ⟨h1, h2⟩ := zs_ok hP hD is hC ha hk hB
  subst hn
  exact kk H1 locs1 h1 h2 hS1
theorem aft_r {ra : Nat} (hr : va_Run p l e R s m args below meth c H locs cells slots 0 0 (F0 m pc ls st0) rest (pQr g ra w1 (va_A wc H.size) a) (va_A wc H.size)) (hP : va_P g.1 vwCl ws H) (hD : va_D A0 ws) (hS : va_S A0 H0 H locs) (hA : ∀ q, H0.size ≤ q → A0 q) (is : List Nat) (hC : is.map (fun i => ws[i]?) = wc.map some) (ha : w1.map (·.1) = wc.map (·.1)) (hn : zs ws is w1 = wn)
    (kk : ∀ (H1 : Heap) (locs1 : List Loc), va_P g.1 vwCl wn H1 → va_D A0 wn → va_S A0 H0 H1 locs1 → W p l e R s m args below meth c H1 locs1 cells slots Q (F0 m (pc + 3) ls (.ref ra :: rest))) : W p l e R s m args below meth c H locs cells slots Q (F0 m pc ls st0) := by
  have hF := va_free (wc := wc) hD hS hA is hC
  refine va_callr hr hS (fun q _ h => hF q h) hF (fun u ra' t H1 locs1 ht hvm hw hB hz hk hS1 => ?_)
  obtain ⟨rfl, hB⟩ := hB
  rw [ht] at hB
  obtain ⟨h1, h2⟩ := zs_ok hP hD is hC ha hk hB
  subst hn
  exact kk H1 locs1 h1 h2 hS1
variable {bs bc b1 bn : List va_W} {L : List (List Nat)}
theorem bft_i {post : Int32 → Prop} (hr : va_Run p l e R s m args below meth c H locs cells slots 0 0 (F0 m pc ls st0) rest (pQi g post (fl b1) (va_A (fl bc) H.size) a) (va_A (fl bc) H.size)) (hP : va_P g.1 vwCl (fl bs) H) (hD : va_D A0 (fl bs)) (hS : va_S A0 H0 H locs) (hA : ∀ q, H0.size ≤ q → A0 q) (is : List Nat) (hC : is.map (fun i => bs[i]?) = bc.map some) (ha : bc.map ads = L) (ha1 : b1.map ads = L) (hn : zs bs is b1 = bn)
    (kk : ∀ (r : Int32) (H1 : Heap) (locs1 : List Loc), post r → va_P g.1 vwCl (fl bn) H1 → va_D A0 (fl bn) → va_S A0 H0 H1 locs1 → W p l e R s m args below meth c H1 locs1 cells slots Q (F0 m (pc + 3) ls (.int r :: rest))) : W p l e R s m args below meth c H locs cells slots Q (F0 m pc ls st0) := by
  have hF := fl_free hD hS hA is hC
  refine va_calli hr hS (fun q _ h => hF q h) hF (fun r u t H1 locs1 ht hvm hw hB hz hk hS1 => ?_)
  rw [ht] at hB
  obtain ⟨h1, h2⟩ := fl_ok hP hD is hC ha ha1 hk hB
  subst hn
  exact kk r H1 locs1 hw h1 h2 hS1
theorem bft_v (hr : va_Run p l e R s m args below meth c H locs cells slots 0 0 (F0 m pc ls st0) rest (pQv g (fl b1) (va_A (fl bc) H.size) a) (va_A (fl bc) H.size)) (hP : va_P g.1 vwCl (fl bs) H) (hD : va_D A0 (fl bs)) (hS : va_S A0 H0 H locs) (hA : ∀ q, H0.size ≤ q → A0 q) (is : List Nat) (hC : is.map (fun i => bs[i]?) = bc.map some) (ha : bc.map ads = L) (ha1 : b1.map ads = L) (hn : zs bs is b1 = bn)
    (kk : ∀ (H1 : Heap) (locs1 : List Loc), va_P g.1 vwCl (fl bn) H1 → va_D A0 (fl bn) → va_S A0 H0 H1 locs1 → W p l e R s m args below meth c H1 locs1 cells slots Q (F0 m (pc + 3) ls rest)) : W p l e R s m args below meth c H locs cells slots Q (F0 m pc ls st0) := by
  have hF := fl_free hD hS hA is hC
  refine va_callv hr hS (fun q _ h => hF q h) hF (fun u t H1 locs1 ht hvm hw hB hz hk hS1 => ?_)
  rw [ht] at hB
  obtain ⟨h1, h2⟩ := fl_ok hP hD is hC ha ha1 hk hB
  subst hn
  exact kk H1 locs1 h1 h2 hS1
theorem bft_r {ra : Nat} (hr : va_Run p l e R s m args below meth c H locs cells slots 0 0 (F0 m pc ls st0) rest (pQr g ra (fl b1) (va_A (fl bc) H.size) a) (va_A (fl bc) H.size)) (hP : va_P g.1 vwCl (fl bs) H) (hD : va_D A0 (fl bs)) (hS : va_S A0 H0 H locs) (hA : ∀ q, H0.size ≤ q → A0 q) (is : List Nat) (hC : is.map (fun i => bs[i]?) = bc.map some) (ha : bc.map ads = L) (ha1 : b1.map ads = L) (hn : zs bs is b1 = bn)
    (kk : ∀ (H1 : Heap) (locs1 : List Loc), va_P g.1 vwCl (fl bn) H1 → va_D A0 (fl bn) → va_S A0 H0 H1 locs1 → W p l e R s m args below meth c H1 locs1 cells slots Q (F0 m (pc + 3) ls (.ref ra :: rest))) : W p l e R s m args below meth c H locs cells slots Q (F0 m pc ls st0) := by
  have hF := fl_free hD hS hA is hC
  refine va_callr hr hS (fun q _ h => hF q h) hF (fun u ra' t H1 locs1 ht hvm hw hB hz hk hS1 => ?_)
  obtain ⟨rfl, hB⟩ := hB
  rw [ht] at hB
  obtain ⟨h1, h2⟩ := fl_ok hP hD is hC ha ha1 hk hB
  subst hn
  exact kk H1 locs1 h1 h2 hS1
theorem bft_i_ro {post : Int32 → Prop} (hr : va_Run p l e R s m args below meth c H locs cells slots 0 0 (F0 m pc ls st0) rest (pQi g post (fl bc) (va_A (fl bc) H.size) a) (va_A (fl bc) H.size)) (hP : va_P g.1 vwCl (fl bs) H) (hD : va_D A0 (fl bs)) (hS : va_S A0 H0 H locs) (hA : ∀ q, H0.size ≤ q → A0 q) (is : List Nat) (hC : is.map (fun i => bs[i]?) = bc.map some)
    (kk : ∀ (r : Int32) (H1 : Heap) (locs1 : List Loc), post r → va_P g.1 vwCl (fl bs) H1 → va_D A0 (fl bs) → va_S A0 H0 H1 locs1 → W p l e R s m args below meth c H1 locs1 cells slots Q (F0 m (pc + 3) ls (.int r :: rest))) : W p l e R s m args below meth c H locs cells slots Q (F0 m pc ls st0) :=
  bft_i hr hP hD hS hA is hC rfl rfl (zs_same bc is bs hC) kk
end AFT
theorem tab_out4 {x : Int32} (h0 : ¬ x = 0) (h1 : ¬ x = 1) (h2 : ¬ x = 2) (h3 : ¬ x = 3) : x.toInt < 0 ∨ 3 < x.toInt := by
  have := ne_ti h0; have := ne_ti h1; have := ne_ti h2; have := ne_ti h3
  simp only [show (0 : Int32).toInt = 0 from rfl, show (1 : Int32).toInt = 1 from rfl, show (2 : Int32).toInt = 2 from rfl, show (3 : Int32).toInt = 3 from rfl] at *
  omega
theorem tab_out6 {x : Int32} (h0 : ¬ x = 0) (h1 : ¬ x = 1) (h2 : ¬ x = 2) (h3 : ¬ x = 3) (h4 : ¬ x = 4) (h5 : ¬ x = 5) : x.toInt < 0 ∨ 5 < x.toInt := by
  have := ne_ti h0; have := ne_ti h1; have := ne_ti h2; have := ne_ti h3; have := ne_ti h4; have := ne_ti h5
  simp only [show (0 : Int32).toInt = 0 from rfl, show (1 : Int32).toInt = 1 from rfl, show (2 : Int32).toInt = 2 from rfl, show (3 : Int32).toInt = 3 from rfl, show (4 : Int32).toInt = 4 from rfl, show (5 : Int32).toInt = 5 from rfl] at *
  omega
theorem tab_out8 {x : Int32} (h0 : ¬ x = 0) (h1 : ¬ x = 1) (h2 : ¬ x = 2) (h3 : ¬ x = 3) (h4 : ¬ x = 4) (h5 : ¬ x = 5) (h6 : ¬ x = 6) (h7 : ¬ x = 7) : x.toInt < 0 ∨ 7 < x.toInt := by
  have := ne_ti h0; have := ne_ti h1; have := ne_ti h2; have := ne_ti h3; have := ne_ti h4; have := ne_ti h5; have := ne_ti h6; have := ne_ti h7
  simp only [show (0 : Int32).toInt = 0 from rfl, show (1 : Int32).toInt = 1 from rfl, show (2 : Int32).toInt = 2 from rfl, show (3 : Int32).toInt = 3 from rfl, show (4 : Int32).toInt = 4 from rfl, show (5 : Int32).toInt = 5 from rfl, show (6 : Int32).toInt = 6 from rfl, show (7 : Int32).toInt = 7 from rfl] at *
  omega
theorem look_out5 {x : Int32} {o1 o2 o3 o4 o5 d : Int} (h1 : ¬ x = 99) (h2 : ¬ x = 104) (h3 : ¬ x = 111) (h4 : ¬ x = 115) (h5 : ¬ x = 118) : Op.lookupswitch.offset [(99, o1), (104, o2), (111, o3), (115, o4), (118, o5)] d x.toInt = d := by
  have a1 : ¬ (99 : Int) = x.toInt := fun e => ne_ti h1 (e.symm.trans (show (99 : Int) = (99 : Int32).toInt from rfl))
  have a2 : ¬ (104 : Int) = x.toInt := fun e => ne_ti h2 (e.symm.trans (show (104 : Int) = (104 : Int32).toInt from rfl))
  have a3 : ¬ (111 : Int) = x.toInt := fun e => ne_ti h3 (e.symm.trans (show (111 : Int) = (111 : Int32).toInt from rfl))
  have a4 : ¬ (115 : Int) = x.toInt := fun e => ne_ti h4 (e.symm.trans (show (115 : Int) = (115 : Int32).toInt from rfl))
  have a5 : ¬ (118 : Int) = x.toInt := fun e => ne_ti h5 (e.symm.trans (show (118 : Int) = (118 : Int32).toInt from rfl))
  rw [Op.lookupswitch.offset_cons, if_neg a1, Op.lookupswitch.offset_cons, if_neg a2, Op.lookupswitch.offset_cons, if_neg a3, Op.lookupswitch.offset_cons, if_neg a4, Op.lookupswitch.offset_cons, if_neg a5, Op.lookupswitch.offset_nil]
theorem tab_out5 {x : Int32} (h0 : ¬ x = 0) (h1 : ¬ x = 1) (h2 : ¬ x = 2) (h3 : ¬ x = 3) (h4 : ¬ x = 4) : x.toInt < 0 ∨ 4 < x.toInt := by
  have := ne_ti h0; have := ne_ti h1; have := ne_ti h2; have := ne_ti h3; have := ne_ti h4
  simp only [show (0 : Int32).toInt = 0 from rfl, show (1 : Int32).toInt = 1 from rfl, show (2 : Int32).toInt = 2 from rfl, show (3 : Int32).toInt = 3 from rfl, show (4 : Int32).toInt = 4 from rfl] at *
  omega
theorem tab_out7 {x : Int32} (h0 : ¬ x = 0) (h1 : ¬ x = 1) (h2 : ¬ x = 2) (h3 : ¬ x = 3) (h4 : ¬ x = 4) (h5 : ¬ x = 5) (h6 : ¬ x = 6) : x.toInt < 0 ∨ 6 < x.toInt := by
  have := ne_ti h0; have := ne_ti h1; have := ne_ti h2; have := ne_ti h3; have := ne_ti h4; have := ne_ti h5; have := ne_ti h6
  simp only [show (0 : Int32).toInt = 0 from rfl, show (1 : Int32).toInt = 1 from rfl, show (2 : Int32).toInt = 2 from rfl, show (3 : Int32).toInt = 3 from rfl, show (4 : Int32).toInt = 4 from rfl, show (5 : Int32).toInt = 5 from rfl, show (6 : Int32).toInt = 6 from rfl] at *
  omega
theorem tab_out9 {x : Int32} (h0 : ¬ x = 0) (h1 : ¬ x = 1) (h2 : ¬ x = 2) (h3 : ¬ x = 3) (h4 : ¬ x = 4) (h5 : ¬ x = 5) (h6 : ¬ x = 6) (h7 : ¬ x = 7) (h8 : ¬ x = 8) : x.toInt < 0 ∨ 8 < x.toInt := by
  have := ne_ti h0; have := ne_ti h1; have := ne_ti h2; have := ne_ti h3; have := ne_ti h4; have := ne_ti h5; have := ne_ti h6; have := ne_ti h7; have := ne_ti h8
  simp only [show (0 : Int32).toInt = 0 from rfl, show (1 : Int32).toInt = 1 from rfl, show (2 : Int32).toInt = 2 from rfl, show (3 : Int32).toInt = 3 from rfl, show (4 : Int32).toInt = 4 from rfl, show (5 : Int32).toInt = 5 from rfl, show (6 : Int32).toInt = 6 from rfl, show (7 : Int32).toInt = 7 from rfl, show (8 : Int32).toInt = 8 from rfl] at *
  omega
theorem tab_out15 {x : Int32} (h0 : ¬ x = 0) (h1 : ¬ x = 1) (h2 : ¬ x = 2) (h3 : ¬ x = 3) (h4 : ¬ x = 4) (h5 : ¬ x = 5) (h6 : ¬ x = 6) (h7 : ¬ x = 7) (h8 : ¬ x = 8) (h9 : ¬ x = 9) (h10 : ¬ x = 10) (h11 : ¬ x = 11) (h12 : ¬ x = 12) (h13 : ¬ x = 13) (h14 : ¬ x = 14) : x.toInt < 0 ∨ 14 < x.toInt := by
  have := ne_ti h0; have := ne_ti h1; have := ne_ti h2; have := ne_ti h3; have := ne_ti h4; have := ne_ti h5; have := ne_ti h6; have := ne_ti h7; have := ne_ti h8; have := ne_ti h9; have := ne_ti h10; have := ne_ti h11; have := ne_ti h12; have := ne_ti h13; have := ne_ti h14
  simp only [show (0 : Int32).toInt = 0 from rfl, show (1 : Int32).toInt = 1 from rfl, show (2 : Int32).toInt = 2 from rfl, show (3 : Int32).toInt = 3 from rfl, show (4 : Int32).toInt = 4 from rfl, show (5 : Int32).toInt = 5 from rfl, show (6 : Int32).toInt = 6 from rfl, show (7 : Int32).toInt = 7 from rfl, show (8 : Int32).toInt = 8 from rfl, show (9 : Int32).toInt = 9 from rfl, show (10 : Int32).toInt = 10 from rfl, show (11 : Int32).toInt = 11 from rfl, show (12 : Int32).toInt = 12 from rfl, show (13 : Int32).toInt = 13 from rfl, show (14 : Int32).toInt = 14 from rfl] at *
  omega
theorem tab_out26 {x : Int32} (h0 : ¬ x = 0) (h1 : ¬ x = 1) (h2 : ¬ x = 2) (h3 : ¬ x = 3) (h4 : ¬ x = 4) (h5 : ¬ x = 5) (h6 : ¬ x = 6) (h7 : ¬ x = 7) (h8 : ¬ x = 8) (h9 : ¬ x = 9) (h10 : ¬ x = 10) (h11 : ¬ x = 11) (h12 : ¬ x = 12) (h13 : ¬ x = 13) (h14 : ¬ x = 14) (h15 : ¬ x = 15) (h16 : ¬ x = 16) (h17 : ¬ x = 17) (h18 : ¬ x = 18) (h19 : ¬ x = 19) (h20 : ¬ x = 20) (h21 : ¬ x = 21) (h22 : ¬ x = 22) (h23 : ¬ x = 23) (h24 : ¬ x = 24) (h25 : ¬ x = 25) : x.toInt < 0 ∨ 25 < x.toInt := by
  have := ne_ti h0; have := ne_ti h1; have := ne_ti h2; have := ne_ti h3; have := ne_ti h4; have := ne_ti h5; have := ne_ti h6; have := ne_ti h7; have := ne_ti h8; have := ne_ti h9; have := ne_ti h10; have := ne_ti h11; have := ne_ti h12; have := ne_ti h13; have := ne_ti h14; have := ne_ti h15; have := ne_ti h16; have := ne_ti h17; have := ne_ti h18; have := ne_ti h19; have := ne_ti h20; have := ne_ti h21; have := ne_ti h22; have := ne_ti h23; have := ne_ti h24; have := ne_ti h25
  simp only [show (0 : Int32).toInt = 0 from rfl, show (1 : Int32).toInt = 1 from rfl, show (2 : Int32).toInt = 2 from rfl, show (3 : Int32).toInt = 3 from rfl, show (4 : Int32).toInt = 4 from rfl, show (5 : Int32).toInt = 5 from rfl, show (6 : Int32).toInt = 6 from rfl, show (7 : Int32).toInt = 7 from rfl, show (8 : Int32).toInt = 8 from rfl, show (9 : Int32).toInt = 9 from rfl, show (10 : Int32).toInt = 10 from rfl, show (11 : Int32).toInt = 11 from rfl, show (12 : Int32).toInt = 12 from rfl, show (13 : Int32).toInt = 13 from rfl, show (14 : Int32).toInt = 14 from rfl, show (15 : Int32).toInt = 15 from rfl, show (16 : Int32).toInt = 16 from rfl, show (17 : Int32).toInt = 17 from rfl, show (18 : Int32).toInt = 18 from rfl, show (19 : Int32).toInt = 19 from rfl, show (20 : Int32).toInt = 20 from rfl, show (21 : Int32).toInt = 21 from rfl, show (22 : Int32).toInt = 22 from rfl, show (23 : Int32).toInt = 23 from rfl, show (24 : Int32).toInt = 24 from rfl, show (25 : Int32).toInt = 25 from rfl] at *
  omega
/-- the cells of a MouldShots$Band -/
def wk0 (g : gG) (p : Nat) (x_teachers : Int32) (x_shortest : Int32) (x_longest : Int32) (p_least : Nat) (x_least : Nat → Int32) (p_greatest : Nat) (x_greatest : Nat → Int32) : va_W := [(p, .inr (0, [.int x_teachers, .int x_shortest, .int x_longest, .ref p_least, .ref p_greatest])), (p_least, .inl (g.2.1, 60, .inl x_least)), (p_greatest, .inl (g.2.1, 60, .inl x_greatest))]
/-- the cells of a MouldShots$Plan -/
def wk1 (g : gG) (p : Nat) (x_cavities : Int32) (p_volumes : Nat) (x_volumes : Nat → Int32) (p_drags : Nat) (x_drags : Nat → Int32) (p_freezes : Nat) (x_freezes : Nat → Int32) (x_cores : Int32) (p_ahead : Nat) (x_ahead : Nat → Int32) (x_stages : Int32) (p_places : Nat) (x_places : Nat → Int32) (p_speeds : Nat) (x_speeds : Nat → Int32) (p_settings : Nat) (x_settings : Nat → Int32) : va_W := [(p, .inr (1, [.int x_cavities, .ref p_volumes, .ref p_drags, .ref p_freezes, .int x_cores, .ref p_ahead, .int x_stages, .ref p_places, .ref p_speeds, .ref p_settings])), (p_volumes, .inl (g.2.1, 6, .inl x_volumes)), (p_drags, .inl (g.2.1, 6, .inl x_drags)), (p_freezes, .inl (g.2.1, 6, .inl x_freezes)), (p_ahead, .inl (g.2.1, 4, .inl x_ahead)), (p_places, .inl (g.2.1, 4, .inl x_places)), (p_speeds, .inl (g.2.1, 4, .inl x_speeds)), (p_settings, .inl (g.2.1, 6, .inl x_settings))]
/-- the cells of a MouldShots$Shot -/
def wk2 (g : gG) (p : Nat) (p_has : Nat) (x_has : Nat → Int32) (p_firstAt : Nat) (x_firstAt : Nat → Int32) (p_fullAt : Nat) (x_fullAt : Nat → Int32) (p_pressures : Nat) (x_pressures : Nat → Int32) (x_place : Int32) (x_fillTicks : Int32) (x_ticks : Int32) (x_coolTicks : Int32) (x_why : Int32) : va_W := [(p, .inr (2, [.ref p_has, .ref p_firstAt, .ref p_fullAt, .ref p_pressures, .int x_place, .int x_fillTicks, .int x_ticks, .int x_coolTicks, .int x_why])), (p_has, .inl (g.2.1, 6, .inl x_has)), (p_firstAt, .inl (g.2.1, 6, .inl x_firstAt)), (p_fullAt, .inl (g.2.1, 6, .inl x_fullAt)), (p_pressures, .inl (g.2.1, 60, .inl x_pressures))]
/-- the cells of a MouldShots$State -/
def wk3 (g : gG) (p : Nat) (p_drags : Nat) (x_drags : Nat → Int32) (p_speeds : Nat) (x_speeds : Nat → Int32) (p_settings : Nat) (x_settings : Nat → Int32) (x_shut : Int32) (x_coresIn : Int32) (x_loaded : Int32) (x_hot : Int32) (x_made : Int32) (x_width : Int32) (p_taught : Nat) : va_W := [(p, .inr (3, [.ref p_drags, .ref p_speeds, .ref p_settings, .int x_shut, .int x_coresIn, .int x_loaded, .int x_hot, .int x_made, .int x_width, .ref p_taught])), (p_drags, .inl (g.2.1, 6, .inl x_drags)), (p_speeds, .inl (g.2.1, 4, .inl x_speeds)), (p_settings, .inl (g.2.1, 6, .inl x_settings))]
/-- the cells of a MouldShots$Text -/
def wk4 (g : gG) (p : Nat) (p_letters : Nat) (x_letters : Nat → Int32) (p_numbers : Nat) (x_numbers : Nat → Int32) (x_length : Int32) : va_W := [(p, .inr (4, [.ref p_letters, .ref p_numbers, .int x_length])), (p_letters, .inl (g.2.1, 200, .inl x_letters)), (p_numbers, .inl (g.2.1, 3, .inl x_numbers))]
/-- the cells of a MouldShots -/
def wk5 (g : gG) (p : Nat) (p_text : Nat) (p_plan : Nat) (p_draft : Nat) (p_states : Nat) (x_states : Nat → Option Nat) (x_at : Int32) (x_undoable : Int32) (p_now : Nat) (p_shots : Nat) (x_shots : Nat → Option Nat) (p_trial : Nat) : va_W := [(p, .inr (5, [.ref p_text, .ref p_plan, .ref p_draft, .ref p_states, .int x_at, .int x_undoable, .ref p_now, .ref p_shots, .ref p_trial])), (p_states, .inl (g.2.2.1, 5, .inr (.inr (.inr (.inr x_states))))), (p_shots, .inl (g.2.2.2.1, 16, .inr (.inr (.inr (.inr x_shots)))))]
/-- the cells of a MouldShotsModel -/
def wk6 (g : gG) (p : Nat) (x_length : Int32) (p_text : Nat) (x_text : Nat → Int32) (x_cavities : Int32) (p_volume : Nat) (x_volume : Nat → Int32) (p_freeze : Nat) (x_freeze : Nat → Int32) (x_cores : Int32) (p_earlier : Nat) (x_earlier : Nat → Int32) (x_stages : Int32) (p_place : Nat) (x_place : Nat → Int32) (p_now : Nat) (x_now : Nat → Int32) (p_was : Nat) (x_was : Nat → Int32) (x_changes : Int32) (p_one : Nat) (x_one : Nat → Int32) (x_readCavities : Int32) (p_readCavity : Nat) (x_readCavity : Nat → Int32) (x_readCores : Int32) (p_readCore : Nat) (x_readCore : Nat → Int32) (x_readStages : Int32) (p_readStage : Nat) (x_readStage : Nat → Int32) (p_readRule : Nat) (x_readRule : Nat → Int32) (x_value : Int32) (x_ends : Int32) (x_screw : Int32) : va_W := [(p, .inr (6, [.int x_length, .ref p_text, .int x_cavities, .ref p_volume, .ref p_freeze, .int x_cores, .ref p_earlier, .int x_stages, .ref p_place, .ref p_now, .ref p_was, .int x_changes, .ref p_one, .int x_readCavities, .ref p_readCavity, .int x_readCores, .ref p_readCore, .int x_readStages, .ref p_readStage, .ref p_readRule, .int x_value, .int x_ends, .int x_screw])), (p_text, .inl (g.2.1, 200, .inl x_text)), (p_volume, .inl (g.2.1, 6, .inl x_volume)), (p_freeze, .inl (g.2.1, 6, .inl x_freeze)), (p_earlier, .inl (g.2.1, 4, .inl x_earlier)), (p_place, .inl (g.2.1, 4, .inl x_place)), (p_now, .inl (g.2.1, 1155, .inl x_now)), (p_was, .inl (g.2.1, 4620, .inl x_was)), (p_one, .inl (g.2.1, 84, .inl x_one)), (p_readCavity, .inl (g.2.1, 18, .inl x_readCavity)), (p_readCore, .inl (g.2.1, 4, .inl x_readCore)), (p_readStage, .inl (g.2.1, 8, .inl x_readStage)), (p_readRule, .inl (g.2.1, 6, .inl x_readRule))]
/-- a row of ints -/
def wkA (g : gG) (n p : Nat) (x : Nat → Int32) : va_W := [(p, .inl (g.2.1, n, .inl x))]
/-- an object's values: its ints and its rows, by their places -/
abbrev tO : Type := (Nat → Int32) × (Nat → Nat → Int32)
/-- a Shot's cells by its values: ints 0 place, 1 fillTicks, 2 ticks, 3 coolTicks, 4 why; rows 0 has, 1 firstAt, 2 fullAt, 3 pressures -/
def wkH (g : gG) (a : Nat) (q : Nat → Nat) (v : tO) : va_W := wk2 g a (q 0) (v.2 0) (q 1) (v.2 1) (q 2) (v.2 2) (q 3) (v.2 3) (v.1 0) (v.1 1) (v.1 2) (v.1 3) (v.1 4)
/-- the 16 rows of shots -/
def famH (g : gG) (ha : Nat → Nat) (hq : Nat → Nat → Nat) (hv : Nat → tO) : List va_W := (List.range 16).map (fun j => wkH g (ha j) (hq j) (hv j))
theorem fam_at {g : gG} {ha : Nat → Nat} {hq : Nat → Nat → Nat} {hv : Nat → tO} {j : Nat} (hj : j < 16) : (famH g ha hq hv)[j]? = some (wkH g (ha j) (hq j) (hv j)) := by
  rw [famH, List.getElem?_map, List.getElem?_range hj]; rfl
theorem fam4 {g : gG} {ha : Nat → Nat} {hq : Nat → Nat → Nat} {hv : Nat → tO} {j : Nat} {B0 B1 B2 B3 : va_W} (hj : j < 16) : ([0, 1, 2, 3, 4 + j] : List Nat).map (fun i => ([B0, B1, B2, B3] ++ famH g ha hq hv)[i]?) = [B0, B1, B2, B3, wkH g (ha j) (hq j) (hv j)].map some := by
  have e : ([B0, B1, B2, B3] ++ famH g ha hq hv)[4 + j]? = some (wkH g (ha j) (hq j) (hv j)) := by
    rw [List.getElem?_append_right (by simp), show 4 + j - [B0, B1, B2, B3].length = j by simp]
    exact fam_at hj
  show [some B0, some B1, some B2, some B3, ([B0, B1, B2, B3] ++ famH g ha hq hv)[4 + j]?] = _
  rw [e]; rfl
theorem nd4 (j : Nat) : va_nd [0, 1, 2, 3, 4 + j] = true := by
  have h : ∀ k : Nat, k < 4 → ¬ k = 4 + j := fun k hk e => by omega
  have h0 := h 0 (by decide)
  have h1 := h 1 (by decide)
  have h2 := h 2 (by decide)
  have h3 := h 3 (by decide)
  simp [va_nd, h0, h1, h2, h3]
theorem ok_lt {x : Int32} {n : Nat} (h : ok x n = true) : Int32.toNatClampNeg x < n := Nat.not_le.mp fun z => ok_in h (Or.inr z)
