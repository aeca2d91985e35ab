/-! lay -/
/-- whether one comes to the end from a core in k steps; in how many -/
def enB (g : Nat → Nat) (cor : Nat) : Nat → Nat → Bool
  | 0, x => decide (x = 9)
  | k + 1, x => if x = 9 then true else if x < cor then enB g cor k (g x) else false
def rkB (g : Nat → Nat) (cor : Nat) : Nat → Nat → Nat
  | 0, _ => 0
  | k + 1, x => if x = 9 then 0 else if x < cor then rkB g cor k (g x) + 1 else 0
theorem en9 {g : Nat → Nat} {cor : Nat} : ∀ k, enB g cor k 9 = true
  | 0 => rfl
  | k + 1 => by rw [enB, if_pos rfl]
theorem en_mono {g : Nat → Nat} {cor : Nat} : ∀ (k x : Nat), enB g cor k x = true → enB g cor (k + 1) x = true ∧ rkB g cor (k + 1) x = rkB g cor k x := by
  intro k
  induction k with
  | zero =>
    intro x h
    have e : x = 9 := of_decide_eq_true h
    rw [enB, rkB, rkB, if_pos e, if_pos e]
    exact ⟨rfl, rfl⟩
  | succ k ih =>
    intro x h
    rw [enB] at h
    have r1 : rkB g cor (k + 1 + 1) x = if x = 9 then 0 else if x < cor then rkB g cor (k + 1) (g x) + 1 else 0 := rfl
    have r2 : rkB g cor (k + 1) x = if x = 9 then 0 else if x < cor then rkB g cor k (g x) + 1 else 0 := rfl
    have r3 : enB g cor (k + 1 + 1) x = if x = 9 then true else if x < cor then enB g cor (k + 1) (g x) else false := rfl
    rw [r3, r1, r2]
    by_cases e : x = 9
    · rw [if_pos e, if_pos e, if_pos e]; exact ⟨rfl, rfl⟩
    · rw [if_neg e] at h
      rw [if_neg e, if_neg e, if_neg e]
      by_cases q : x < cor
      · rw [if_pos q] at h
        rw [if_pos q, if_pos q, if_pos q]
        obtain ⟨h1, h2⟩ := ih (g x) h
        exact ⟨h1, by rw [h2]⟩
      · rw [if_neg q] at h; cases h
theorem en_cg {g g' : Nat → Nat} {cor : Nat} (e : ∀ j, j < cor → g j = g' j) : ∀ (k x : Nat), enB g cor k x = enB g' cor k x := by
  intro k
  induction k with
  | zero => intro x; rfl
  | succ k ih =>
    intro x
    rw [enB, enB]
    by_cases q : x < cor
    · rw [if_pos q, if_pos q, e x q, ih]
    · rw [if_neg q, if_neg q]
def gC (q0 q1 q2 q3 : Nat) : Nat → Nat
  | 0 => if q0 = 4 then 9 else q0
  | 1 => if q1 = 4 then 9 else q1
  | 2 => if q2 = 4 then 9 else q2
  | _ => if q3 = 4 then 9 else q3
theorem en_all : ((List.range 5).all fun cor => (List.range 5).all fun q0 => (List.range 5).all fun q1 => (List.range 5).all fun q2 => (List.range 5).all fun q3 => (List.range cor).all fun c => !(enB (gC q0 q1 q2 q3) cor 5 c) || enB (gC q0 q1 q2 q3) cor cor c) = true := by decide +kernel
theorem en_dec (cor : Nat) (h0 : cor < 5) (q0 : Nat) (a0 : q0 < 5) (q1 : Nat) (a1 : q1 < 5) (q2 : Nat) (a2 : q2 < 5) (q3 : Nat) (a3 : q3 < 5) (c : Nat) (hc : c < cor) (h : enB (gC q0 q1 q2 q3) cor 5 c = true) : enB (gC q0 q1 q2 q3) cor cor c = true := by
  have e1 := List.all_eq_true.mp (List.all_eq_true.mp (List.all_eq_true.mp (List.all_eq_true.mp (List.all_eq_true.mp (List.all_eq_true.mp en_all cor (List.mem_range.mpr h0)) q0 (List.mem_range.mpr a0)) q1 (List.mem_range.mpr a1)) q2 (List.mem_range.mpr a2)) q3 (List.mem_range.mpr a3)) c (List.mem_range.mpr hc)
  rw [h] at e1
  exact e1
theorem en_cor {g : Nat → Nat} {cor : Nat} (hc : cor ≤ 4) (hg : ∀ j, j < cor → g j < 4 ∨ g j = 9) {c : Nat} (hcc : c < cor) : enB g cor 5 c = enB g cor cor c := by
  have cd : ∀ j, ∃ q : Nat, q < 5 ∧ (j < cor → (if q = 4 then 9 else q) = g j) := by
    intro j
    by_cases h : j < cor
    · rcases hg j h with q | q
      · exact ⟨g j, by omega, fun _ => if_neg (by omega)⟩
      · exact ⟨4, by omega, fun _ => by rw [if_pos rfl, q]⟩
    · exact ⟨0, by omega, fun q => absurd q h⟩
  obtain ⟨q0, a0, b0⟩ := cd 0
  obtain ⟨q1, a1, b1⟩ := cd 1
  obtain ⟨q2, a2, b2⟩ := cd 2
  obtain ⟨q3, a3, b3⟩ := cd 3
  have e : ∀ j, j < cor → g j = gC q0 q1 q2 q3 j := by
    intro j hj
    rcases (show j = 0 ∨ j = 1 ∨ j = 2 ∨ j = 3 by omega) with rfl | rfl | rfl | rfl
    · exact (b0 hj).symm
    · exact (b1 hj).symm
    · exact (b2 hj).symm
    · exact (b3 hj).symm
  rw [en_cg e, en_cg e]
  have up : ∀ k x, enB (gC q0 q1 q2 q3) cor k x = true → enB (gC q0 q1 q2 q3) cor (k + 1) x = true := fun k x h => (en_mono k x h).1
  have up5 : enB (gC q0 q1 q2 q3) cor cor c = true → enB (gC q0 q1 q2 q3) cor 5 c = true := by
    intro h
    rcases (show cor = 1 ∨ cor = 2 ∨ cor = 3 ∨ cor = 4 by omega) with rfl | rfl | rfl | rfl
    · exact up _ _ (up _ _ (up _ _ (up _ _ h)))
    · exact up _ _ (up _ _ (up _ _ h))
    · exact up _ _ (up _ _ h)
    · exact up _ _ h
  have dn := en_dec cor (by omega) q0 a0 q1 a1 q2 a2 q3 a3 c hcc
  exact Bool.eq_iff_iff.mpr ⟨dn, up5⟩
def alB (f : Nat → Bool) : Nat → Nat → Bool
  | _, 0 => true
  | k, m + 1 => if f k = true then alB f (k + 1) m else false
theorem al_iff {f : Nat → Bool} : ∀ (m k : Nat), alB f k m = true → ∀ i, k ≤ i → i < k + m → f i = true := by
  intro m
  induction m with
  | zero => intro k _ i h1 h2; omega
  | succ m ih =>
    intro k h i h1 h2
    rw [alB] at h
    by_cases q : f k = true
    · rw [if_pos q] at h
      by_cases e : i = k
      · rw [e]; exact q
      · exact ih (k + 1) h i (by omega) (by omega)
    · rw [if_neg q] at h; cases h
theorem al_cg {f f' : Nat → Bool} : ∀ (m k : Nat), (∀ i, k ≤ i → i < k + m → f i = f' i) → alB f k m = alB f' k m := by
  intro m
  induction m with
  | zero => intro k h; rfl
  | succ m ih =>
    intro k h
    rw [alB, alB, h k (by omega) (by omega), ih (k + 1) (fun i h1 h2 => h i (by omega) (by omega))]
theorem chain_lp (N : Nat) {cor : Nat} {ah : Nat → Int32} {g : Nat → Nat} (hc : cor ≤ 4) (hg : ∀ j, j < cor → ah j = nI (g j) ∧ (g j < 4 ∨ g j = 9)) : ∀ (m n k x : Nat), k + m = cor → m < n → (x < 4 ∨ x = 9) → f1_chainEnds_4 N n (nI x) (nI k) (nI cor) ah = some (bi (enB g cor m x)) := by
  have f36 : ∀ x, (x < 4 ∨ x = 9) → f1_chainEnds_36 N (nI x) = some (bi (decide (x = 9))) := by
    intro x hx
    rw [f1_chainEnds_36]
    by_cases e : x = 9
    · rw [if_pos (show nI x = 9 by rw [e]; rfl), decide_eq_true e]; rfl
    · rw [if_neg (show ¬ nI x = 9 from fun q => e ((nI_eq (b := 9) (by omega) (by omega)).mp q)), decide_eq_false e]; rfl
  intro m
  induction m with
  | zero =>
    intro n k x hk hn hx
    obtain ⟨n, rfl⟩ : ∃ q, n = q + 1 := ⟨n - 1, by omega⟩
    rw [f1_chainEnds_4, if_pos (nI_le (by omega) (by omega)), f36 x hx, enB]
  | succ m ih =>
    intro n k x hk hn hx
    obtain ⟨n, rfl⟩ : ∃ q, n = q + 1 := ⟨n - 1, by omega⟩
    rw [f1_chainEnds_4, if_neg (show ¬ nI cor ≤ nI k from nI_ge (by omega) (by omega)), enB]
    by_cases h : x < cor
    · obtain ⟨g1, g2⟩ := hg x h
      rw [if_pos (nI_lt h (by omega)), if_pos (ok_nI (n := 4) (k := x) (by omega) (by omega)), cl_nI (by omega), g1, nI_1, if_neg (show ¬ x = 9 by omega), if_pos h]
      exact ih n (k + 1) (g x) (by omega) (by omega) g2
    · rw [if_neg (show ¬ nI x < nI cor from nI_nlt (by omega) (by omega)), f36 x hx, if_neg h]
      by_cases e : x = 9
      · rw [if_pos e, decide_eq_true e]
      · rw [if_neg e, decide_eq_false e]
theorem canBe (N : Nat) (hN : 5000 ≤ N) {cor : Nat} {ah : Nat → Int32} {g : Nat → Nat} (hc : cor ≤ 4) (hg : ∀ j, j < cor → ah j = nI (g j) ∧ (g j < 4 ∨ g j = 9)) : ∀ (m n k : Nat), k + m = cor → m < n → f1_canBeLaid_18 N n (nI k) (nI cor) ah = some (bi (alB (enB g cor cor) k m)) := by
  intro m
  induction m with
  | zero =>
    intro n k hk hn
    obtain ⟨n, rfl⟩ : ∃ q, n = q + 1 := ⟨n - 1, by omega⟩
    rw [f1_canBeLaid_18, if_pos (nI_le (by omega) (by omega)), alB]; rfl
  | succ m ih =>
    intro n k hk hn
    obtain ⟨n, rfl⟩ : ∃ q, n = q + 1 := ⟨n - 1, by omega⟩
    have e : f1_chainEnds N (nI k) (nI cor) ah = some (bi (enB g cor cor k)) := chain_lp N hc hg cor N 0 k (by omega) (by omega) (.inl (by omega))
    rw [f1_canBeLaid_18, if_neg (show ¬ nI cor ≤ nI k from nI_ge (by omega) (by omega)), e, Option.bind_some, alB]
    by_cases q : enB g cor cor k = true
    · rw [if_neg (bi_1 q), if_pos q, nI_1]
      exact ih n (k + 1) (by omega) (by omega)
    · rw [if_pos (bi_0 q), if_neg q]; rfl
theorem are14 (N : Nat) {cor c : Nat} {ah : Nat → Int32} {g : Nat → Nat} (K : Int32 → Int32 → (Nat → Int32) → Option Int32) (hc : cor ≤ 4) (hg : ∀ j, j < cor → ah j = nI (g j) ∧ (g j < 4 ∨ g j = 9)) : ∀ (m n k x : Nat), k + m = 5 → m < n → (x < cor ∨ x = 9) → f6_areCores_14 K N n (nI c) (nI x) (nI k) (nI cor) ah = if enB g cor m x = true then K (nI c + 1) (nI cor) ah else some 0 := by
  have ne : ∀ x, (x < 4) → ¬ nI x = 9 := fun x hx q => by
    have := (nI_eq (b := 9) (by omega) (by omega)).mp q
    omega
  intro m
  induction m with
  | zero =>
    intro n k x hk hn hx
    obtain ⟨n, rfl⟩ : ∃ q, n = q + 1 := ⟨n - 1, by omega⟩
    rw [f6_areCores_14, enB]
    by_cases e : x = 9
    · rw [if_pos (show nI x = 9 by rw [e]; rfl), f6_areCores_54, if_pos (show nI x = 9 by rw [e]; rfl), if_pos (decide_eq_true e)]
    · rw [if_neg (ne x (by omega)), if_pos (show (5 : Int32) ≤ nI k from nI_le (a := 5) (by omega) (by omega)), f6_areCores_54, if_neg (ne x (by omega)), if_neg (by rw [decide_eq_false e]; decide)]
  | succ m ih =>
    intro n k x hk hn hx
    obtain ⟨n, rfl⟩ : ∃ q, n = q + 1 := ⟨n - 1, by omega⟩
    rw [f6_areCores_14, enB]
    by_cases e : x = 9
    · rw [if_pos (show nI x = 9 by rw [e]; rfl), f6_areCores_54, if_pos (show nI x = 9 by rw [e]; rfl), if_pos e, if_pos rfl]
    · have hx' : x < cor := by omega
      obtain ⟨g1, g2⟩ := hg x hx'
      rw [if_neg (ne x (by omega)), if_neg (show ¬ (5 : Int32) ≤ nI k from nI_ge (b := 5) (by omega) (by omega)), if_pos (ok_nI (n := 4) (k := x) (by omega) (by omega)), cl_nI (by omega), g1, nI_1, if_neg e, if_pos hx']
      by_cases z : g x = 9
      · rw [if_pos (show nI (g x) = 9 by rw [z]; rfl)]
        exact ih n (k + 1) (g x) (by omega) (by omega) (.inr z)
      · rw [if_neg (ne _ (by omega))]
        by_cases y : g x < cor
        · rw [if_pos (nI_lt y (by omega))]
          exact ih n (k + 1) (g x) (by omega) (by omega) (.inl y)
        · rw [if_neg (show ¬ nI (g x) < nI cor from nI_nlt (by omega) (by omega))]
          have no : enB g cor m (g x) = false := by
            cases m with
            | zero => exact decide_eq_false z
            | succ m => rw [enB, if_neg z, if_neg y]
          rw [no, if_neg (by decide)]
theorem areC (N : Nat) (hN : 5000 ≤ N) {cor : Nat} {ah : Nat → Int32} {g : Nat → Nat} (hc : cor ≤ 4) (hg : ∀ j, j < cor → ah j = nI (g j) ∧ (g j < 4 ∨ g j = 9)) : ∀ (m n k : Nat), k + m = cor → m < n → f6_areCores_2 N n (nI k) (nI cor) ah = some (bi (alB (enB g cor 5) k m)) := by
  intro m
  induction m with
  | zero =>
    intro n k hk hn
    obtain ⟨n, rfl⟩ : ∃ q, n = q + 1 := ⟨n - 1, by omega⟩
    rw [f6_areCores_2, if_pos (nI_le (by omega) (by omega)), alB]; rfl
  | succ m ih =>
    intro n k hk hn
    obtain ⟨n, rfl⟩ : ∃ q, n = q + 1 := ⟨n - 1, by omega⟩
    rw [f6_areCores_2, if_neg (show ¬ nI cor ≤ nI k from nI_ge (by omega) (by omega)), show f6_areCores_14 (fun a0 a1 a2 => f6_areCores_2 N n a0 a1 a2) N N (nI k) (nI k) 0 (nI cor) ah = _ from are14 N (fun a0 a1 a2 => f6_areCores_2 N n a0 a1 a2) hc hg 5 N 0 k (by omega) (by omega) (.inl (by omega)), alB]
    by_cases q : enB g cor 5 k = true
    · rw [if_pos q, if_pos q, nI_1]
      exact ih n (k + 1) (by omega) (by omega)
    · rw [if_neg q, if_neg q]; rfl
/-! what is read is laid: the reference -/
theorem tk26 (N : Nat) {ca co st : Int32} {tv tf te tp rc rk rs rr : Nat → Int32} : ∀ (m n k : Nat) (now : Nat → Int32), k + m = 1155 → m < n → (∀ j, j < k → now j = 0) → ∃ now' : Nat → Int32, f6_takes_26 N n (nI k) ca tv tf co te st tp now rc rk rs rr = f6_takes_48 N N 0 ca tv tf co te st tp now' rc rk rs rr ∧ ∀ j, j < 1155 → now' j = 0 := by
  intro m
  induction m with
  | zero =>
    intro n k now hk hn h
    obtain ⟨n, rfl⟩ : ∃ q, n = q + 1 := ⟨n - 1, by omega⟩
    refine ⟨now, ?_, fun j hj => h j (by omega)⟩
    rw [f6_takes_26, if_pos (show (1155 : Int32) ≤ nI k from nI_le (a := 1155) (by omega) (by omega))]
  | succ m ih =>
    intro n k now hk hn h
    obtain ⟨n, rfl⟩ : ∃ q, n = q + 1 := ⟨n - 1, by omega⟩
    rw [f6_takes_26, if_neg (show ¬ (1155 : Int32) ≤ nI k from nI_ge (b := 1155) (by omega) (by omega)), if_pos (ok_nI (n := 1155) (k := k) (by omega) (by omega)), cl_nI (by omega), nI_1]
    refine ih n (k + 1) _ (by omega) (by omega) (fun j hj => ?_)
    by_cases z : j = k
    · rw [z, up_s]
    · rw [up_n z]; exact h j (by omega)
theorem tk48 (N : Nat) {C : Nat} {co st : Int32} {te tp rc rk rs rr : Nat → Int32} (hC : C ≤ 6) : ∀ (m n k : Nat) (tv tf now : Nat → Int32), k + m = C → m < n → (∀ j, j < k → tv j = rc (3 * j) ∧ tf j = rc (3 * j + 2) ∧ now (1139 + j) = rc (3 * j + 1)) → ∃ tv' tf' now' : Nat → Int32, f6_takes_48 N n (nI k) (nI C) tv tf co te st tp now rc rk rs rr = f6_takes_114 N N 0 (nI C) tv' tf' co te st tp now' rk rs rr ∧ (∀ j, j < C → tv' j = rc (3 * j) ∧ tf' j = rc (3 * j + 2) ∧ now' (1139 + j) = rc (3 * j + 1)) ∧ ∀ i, i < 1139 ∨ 1145 ≤ i → now' i = now i := by
  intro m
  induction m with
  | zero =>
    intro n k tv tf now hk hn h
    obtain ⟨n, rfl⟩ : ∃ q, n = q + 1 := ⟨n - 1, by omega⟩
    refine ⟨tv, tf, now, ?_, fun j hj => h j (by omega), fun _ _ => rfl⟩
    rw [f6_takes_48, if_pos (nI_le (by omega) (by omega))]
  | succ m ih =>
    intro n k tv tf now hk hn h
    obtain ⟨n, rfl⟩ : ∃ q, n = q + 1 := ⟨n - 1, by omega⟩
    have x0 : (3 : Int32) * nI k = nI (3 * k) := pk_mul 3 k
    have x2 : nI (3 * k) + (2 : Int32) = nI (3 * k + 2) := addn (3 * k) 2
    have x3 : (1139 : Int32) + nI k = nI (1139 + k) := addn 1139 k
    obtain ⟨tv', tf', now', g1, g2, g3⟩ := ih n (k + 1) (upd tv k (rc (3 * k))) (upd tf k (rc (3 * k + 2))) (upd now (1139 + k) (rc (3 * k + 1))) (by omega) (by omega) (fun j hj => by
      by_cases z : j = k
      · rw [z, up_s, up_s, up_s]; exact ⟨rfl, rfl, rfl⟩
      · rw [up_n z, up_n z, up_n (by omega)]; exact h j (by omega))
    refine ⟨tv', tf', now', ?_, g2, fun i hi => (g3 i hi).trans (up_n (by omega))⟩
    have o6 : ok (nI k) 6 = true := ok_nI (by omega) (by omega)
    rw [f6_takes_48, if_neg (show ¬ nI C ≤ nI k from nI_ge (by omega) (by omega)), x0, nI_1, x2, x3, if_pos (ok_nI (n := 18) (k := 3 * k) (by omega) (by omega)), if_pos o6, if_pos (ok_nI (n := 18) (k := 3 * k + 1) (by omega) (by omega)), if_pos (ok_nI (n := 1155) (k := 1139 + k) (by omega) (by omega)), if_pos (ok_nI (n := 18) (k := 3 * k + 2) (by omega) (by omega)), if_pos o6, cl_nI (by omega), cl_nI (by omega), cl_nI (by omega), cl_nI (by omega), cl_nI (by omega), nI_1]
    exact g1
theorem tk114 (N : Nat) {c : Nat} {ca st : Int32} {tv tf tp now rk rs rr : Nat → Int32} (hc : c ≤ 4) : ∀ (m n k : Nat) (te : Nat → Int32), k + m = c → m < n → (∀ j, j < k → te j = if rk j = 9 then -4 else rk j) → ∃ te' : Nat → Int32, f6_takes_114 N n (nI k) ca tv tf (nI c) te st tp now rk rs rr = f6_takes_158 N N 0 ca tv tf (nI c) te' st tp now rs rr ∧ ∀ j, j < c → te' j = if rk j = 9 then -4 else rk j := by
  intro m
  induction m with
  | zero =>
    intro n k te hk hn h
    obtain ⟨n, rfl⟩ : ∃ q, n = q + 1 := ⟨n - 1, by omega⟩
    refine ⟨te, ?_, fun j hj => h j (by omega)⟩
    rw [f6_takes_114, if_pos (nI_le (by omega) (by omega))]
  | succ m ih =>
    intro n k te hk hn h
    obtain ⟨n, rfl⟩ : ∃ q, n = q + 1 := ⟨n - 1, by omega⟩
    have o : ok (nI k) 4 = true := ok_nI (by omega) (by omega)
    have go := ih n (k + 1) (upd te k (if rk k = 9 then -4 else rk k)) (by omega) (by omega) (fun j hj => by
      by_cases z : j = k
      · rw [z, up_s]
      · rw [up_n z]; exact h j (by omega))
    rw [f6_takes_114, if_neg (show ¬ nI c ≤ nI k from nI_ge (by omega) (by omega)), if_pos o, if_pos o, cl_nI (by omega), f6_takes_149, f6_takes_149, if_pos o, if_pos o, cl_nI (by omega), nI_1]
    by_cases z : rk k = 9
    · rw [if_pos z] at go ⊢; exact go
    · rw [if_neg z] at go ⊢; exact go
theorem tk158 (N : Nat) {s : Nat} {ca co : Int32} {tv tf te rs rr : Nat → Int32} (hs : s ≤ 4) : ∀ (m n k : Nat) (tp now : Nat → Int32), k + m = s → m < n → (∀ j, j < k → tp j = rs (2 * j) ∧ now (1145 + j) = rs (2 * j + 1)) → ∃ tp' now' : Nat → Int32, f6_takes_158 N n (nI k) ca tv tf co te (nI s) tp now rs rr = f6_takes_208 N N 0 ca tv tf co te (nI s) tp' now' rr ∧ (∀ j, j < s → tp' j = rs (2 * j) ∧ now' (1145 + j) = rs (2 * j + 1)) ∧ ∀ i, i < 1145 ∨ 1149 ≤ i → now' i = now i := by
  intro m
  induction m with
  | zero =>
    intro n k tp now hk hn h
    obtain ⟨n, rfl⟩ : ∃ q, n = q + 1 := ⟨n - 1, by omega⟩
    refine ⟨tp, now, ?_, fun j hj => h j (by omega), fun _ _ => rfl⟩
    rw [f6_takes_158, if_pos (nI_le (by omega) (by omega))]
  | succ m ih =>
    intro n k tp now hk hn h
    obtain ⟨n, rfl⟩ : ∃ q, n = q + 1 := ⟨n - 1, by omega⟩
    have x0 : (2 : Int32) * nI k = nI (2 * k) := pk_mul 2 k
    have x3 : (1145 : Int32) + nI k = nI (1145 + k) := addn 1145 k
    obtain ⟨tp', now', g1, g2, g3⟩ := ih n (k + 1) (upd tp k (rs (2 * k))) (upd now (1145 + k) (rs (2 * k + 1))) (by omega) (by omega) (fun j hj => by
      by_cases z : j = k
      · rw [z, up_s, up_s]; exact ⟨rfl, rfl⟩
      · rw [up_n z, up_n (by omega)]; exact h j (by omega))
    refine ⟨tp', now', ?_, g2, fun i hi => (g3 i hi).trans (up_n (by omega))⟩
    rw [f6_takes_158, if_neg (show ¬ nI s ≤ nI k from nI_ge (by omega) (by omega)), x0, nI_1, x3, if_pos (ok_nI (n := 8) (k := 2 * k) (by omega) (by omega)), if_pos (ok_nI (n := 4) (k := k) (by omega) (by omega)), if_pos (ok_nI (n := 8) (k := 2 * k + 1) (by omega) (by omega)), if_pos (ok_nI (n := 1155) (k := 1145 + k) (by omega) (by omega)), cl_nI (by omega), cl_nI (by omega), cl_nI (by omega), cl_nI (by omega), nI_1]
    exact g1
theorem tk208 (N : Nat) {ca co st : Int32} {tv tf te tp rr : Nat → Int32} : ∀ (m n k : Nat) (now : Nat → Int32), k + m = 6 → m < n → (∀ j, j < k → now (1149 + j) = rr j) → ∃ now' : Nat → Int32, f6_takes_208 N n (nI k) ca tv tf co te st tp now rr = some (ca, tv, tf, co, te, st, tp, upd now' 1018 2, 0) ∧ (∀ j, j < 6 → now' (1149 + j) = rr j) ∧ ∀ i, i < 1149 → now' i = now i := by
  intro m
  induction m with
  | zero =>
    intro n k now hk hn h
    obtain ⟨n, rfl⟩ : ∃ q, n = q + 1 := ⟨n - 1, by omega⟩
    refine ⟨now, ?_, fun j hj => h j (by omega), fun _ _ => rfl⟩
    rw [f6_takes_208, if_pos (show (6 : Int32) ≤ nI k from nI_le (a := 6) (by omega) (by omega)), if_pos (show ok 1018 1155 = true by decide)]; rfl
  | succ m ih =>
    intro n k now hk hn h
    obtain ⟨n, rfl⟩ : ∃ q, n = q + 1 := ⟨n - 1, by omega⟩
    have x3 : (1149 : Int32) + nI k = nI (1149 + k) := addn 1149 k
    obtain ⟨now', g1, g2, g3⟩ := ih n (k + 1) (upd now (1149 + k) (rr k)) (by omega) (by omega) (fun j hj => by
      by_cases z : j = k
      · rw [z, up_s]
      · rw [up_n (by omega)]; exact h j (by omega))
    refine ⟨now', ?_, g2, fun i hi => (g3 i hi).trans (up_n (by omega))⟩
    rw [f6_takes_208, if_neg (show ¬ (6 : Int32) ≤ nI k from nI_ge (b := 6) (by omega) (by omega)), x3, if_pos (ok_nI (n := 6) (k := k) (by omega) (by omega)), if_pos (ok_nI (n := 1155) (k := 1149 + k) (by omega) (by omega)), cl_nI (by omega), cl_nI (by omega), nI_1]
    exact g1
theorem takes_eq (N : Nat) (hN : 5000 ≤ N) {C c s : Nat} {tv tf te tp now rc rk rs rr : Nat → Int32} (hC : C ≤ 6) (hc : c ≤ 4) (hs : s ≤ 4) : ∃ tv' tf' te' tp' now' : Nat → Int32, f6_takes N tv tf te tp now (nI C) rc (nI c) rk (nI s) rs rr = some (nI C, tv', tf', nI c, te', nI s, tp', now', 0) ∧ (∀ j, j < C → tv' j = rc (3 * j) ∧ tf' j = rc (3 * j + 2) ∧ now' (1139 + j) = rc (3 * j + 1)) ∧ (∀ j, j < c → te' j = if rk j = 9 then -4 else rk j) ∧ (∀ j, j < s → tp' j = rs (2 * j) ∧ now' (1145 + j) = rs (2 * j + 1)) ∧ (∀ j, j < 6 → now' (1149 + j) = rr j) ∧ now' 1018 = 2 ∧ ∀ k, k < 1139 → k ≠ 1018 → now' k = 0 := by
  obtain ⟨now1, a1, a2⟩ := tk26 N (ca := nI C) (co := nI c) (st := nI s) (tv := tv) (tf := tf) (te := te) (tp := tp) (rc := rc) (rk := rk) (rs := rs) (rr := rr) 1155 N 0 now (by omega) (by omega) (fun j hj => by omega)
  obtain ⟨tv', tf', now2, b1, b2, b3⟩ := tk48 N (co := nI c) (st := nI s) (te := te) (tp := tp) (rc := rc) (rk := rk) (rs := rs) (rr := rr) hC C N 0 tv tf now1 (by omega) (by omega) (fun j hj => by omega)
  obtain ⟨te', c1, c2⟩ := tk114 N (ca := nI C) (st := nI s) (tv := tv') (tf := tf') (tp := tp) (now := now2) (rk := rk) (rs := rs) (rr := rr) hc c N 0 te (by omega) (by omega) (fun j hj => by omega)
  obtain ⟨tp', now3, d1, d2, d3⟩ := tk158 N (ca := nI C) (co := nI c) (tv := tv') (tf := tf') (te := te') (rs := rs) (rr := rr) hs s N 0 tp now2 (by omega) (by omega) (fun j hj => by omega)
  obtain ⟨now4, f1, f2, f3⟩ := tk208 N (ca := nI C) (co := nI c) (st := nI s) (tv := tv') (tf := tf') (te := te') (tp := tp') (rr := rr) 6 N 0 now3 (by omega) (by omega) (fun j hj => by omega)
  refine ⟨tv', tf', te', tp', upd now4 1018 2, ?_, fun j hj => ?_, c2, fun j hj => ?_, fun j hj => ?_, up_s, fun k hk hk' => ?_⟩
  · rw [f6_takes]
    exact a1.trans (b1.trans (c1.trans (d1.trans f1)))
  · obtain ⟨q1, q2, q3⟩ := b2 j hj
    exact ⟨q1, q2, by rw [up_n (by omega), f3 _ (by omega), d3 _ (by omega), q3]⟩
  · obtain ⟨q1, q2⟩ := d2 j hj
    exact ⟨q1, by rw [up_n (by omega), f3 _ (by omega), q2]⟩
  · rw [up_n (by omega), f2 j hj]
  · rw [up_n hk', f3 _ (by omega), d3 _ (by omega), b3 _ (by omega), a2 _ (by omega)]
