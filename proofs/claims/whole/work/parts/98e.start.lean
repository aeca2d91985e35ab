/-! the start, plain: what both sides read of the constant text -/
def rc0 : Nat → Int32 := fun j => [12, 2, 6, 12, 3, 5, 8, 4, 4].getD j 0
def rk0 : Nat → Int32 := fun j => [1, 9, 1].getD j 0
def rs0 : Nat → Int32 := fun j => [0, 2, 10, 5, 30, 3].getD j 0
def rr0 : Nat → Int32 := fun j => [36, 60, 20, 50, 6, 9].getD j 0
def cz : Nat → Int32 := fun _ => 0
def ck0 : Bool := match f4_readInto 5000 (txU 67) cz 67 cz cz cz cz cz cz cz with
  | some (_, _, C, vo, dr, fr, c, ah, s, pl, sp, se) => decide (C = 3 ∧ c = 3 ∧ s = 3) && ((List.range 3).all (fun j => decide (vo j = rc0 (3 * j) ∧ dr j = rc0 (3 * j + 1) ∧ fr j = rc0 (3 * j + 2) ∧ ah j = rk0 j ∧ pl j = rs0 (2 * j) ∧ sp j = rs0 (2 * j + 1))) && (List.range 6).all (fun j => decide (se j = rr0 j)))
  | none => false
set_option maxRecDepth 1000000 in
theorem ck0_ok : ck0 = true := by decide +kernel
def rrU (q : Nat → Int32) : Nat → Int32 := upd (upd (upd (upd (upd (upd q (Int32.toNatClampNeg 0) 36) (Int32.toNatClampNeg 1) 60) (Int32.toNatClampNeg 2) 20) (Int32.toNatClampNeg 3) 50) (Int32.toNatClampNeg 4) 6) (Int32.toNatClampNeg 5) 9
def rkU : Nat → Int32 := upd (upd (upd (fun _ => 0) (Int32.toNatClampNeg 0) 1) (Int32.toNatClampNeg 1) 9) (Int32.toNatClampNeg 2) 1
def ck6 : Bool := match f6_clears 5000 cz with
  | none => false
  | some q37 => match f6_cavityOf 5000 12 2 6 q37.1 cz with
    | none => false
    | some q38 => match f6_cavityOf 5000 12 3 5 q38.1 q38.2 with
      | none => false
      | some q39 => match f6_cavityOf 5000 8 4 4 q39.1 q39.2 with
        | none => false
        | some q40 => match f6_stageOf 5000 0 2 q37.2.2.1 cz with
          | none => false
          | some q41 => match f6_stageOf 5000 10 5 q41.1 q41.2 with
            | none => false
            | some q42 => match f6_stageOf 5000 30 3 q42.1 q42.2 with
              | none => false
              | some q43 => decide (q40.1 = nI 3 ∧ q43.1 = nI 3) && ((List.range 9).all (fun j => decide (q40.2 j = rc0 j)) && ((List.range 6).all (fun j => decide (q43.2 j = rs0 j)) && (List.range 6).all (fun j => decide (rrU q37.2.2.2 j = rr0 j))))
set_option maxRecDepth 1000000 in
theorem ck6_ok : ck6 = true := by decide +kernel
theorem rd_read : ∃ (rv : Int32) (nums vo dr fr ah pl sp se : Nat → Int32), f4_readInto 5000 (txU 67) (fun _ => 0) 67 (fun _ => 0) (fun _ => 0) (fun _ => 0) (fun _ => 0) (fun _ => 0) (fun _ => 0) (fun _ => 0) = some (rv, nums, nI 3, vo, dr, fr, nI 3, ah, nI 3, pl, sp, se) ∧ (∀ j, j < 3 → vo j = rc0 (3 * j) ∧ dr j = rc0 (3 * j + 1) ∧ fr j = rc0 (3 * j + 2) ∧ ah j = rk0 j ∧ pl j = rs0 (2 * j) ∧ sp j = rs0 (2 * j + 1)) ∧ ∀ j, j < 6 → se j = rr0 j := by
  have h := ck0_ok
  unfold ck0 at h
  cases e : f4_readInto 5000 (txU 67) cz 67 cz cz cz cz cz cz cz with
  | none => rw [e] at h; cases h
  | some r =>
    obtain ⟨rv, nums, C, vo, dr, fr, c, ah, s, pl, sp, se⟩ := r
    rw [e] at h
    replace h : (decide (C = 3 ∧ c = 3 ∧ s = 3) && ((List.range 3).all (fun j => decide (vo j = rc0 (3 * j) ∧ dr j = rc0 (3 * j + 1) ∧ fr j = rc0 (3 * j + 2) ∧ ah j = rk0 j ∧ pl j = rs0 (2 * j) ∧ sp j = rs0 (2 * j + 1))) && (List.range 6).all (fun j => decide (se j = rr0 j)))) = true := h
    simp only [Bool.and_eq_true, decide_eq_true_eq, List.all_eq_true, List.mem_range] at h
    obtain ⟨⟨rfl, rfl, rfl⟩, h2, h3⟩ := h
    exact ⟨rv, nums, vo, dr, fr, ah, pl, sp, se, e, h2, h3⟩
theorem rd_init : ∃ (ca co : Int32) (tv tf te tp now rc rs rr : Nat → Int32), f6_init 5000 = some (tv, tf, te, tp, now, rc, rs, rr, nI 3, nI 3, nI 3, 0, nI 3, nI 3) ∧ (∀ j, j < 9 → rc j = rc0 j) ∧ (∀ j, j < 6 → rs j = rs0 j) ∧ (∀ j, j < 6 → rr j = rr0 j) ∧
    (∀ j, j < 3 → tv j = rc (3 * j) ∧ tf j = rc (3 * j + 2) ∧ now (1139 + j) = rc (3 * j + 1)) ∧ (∀ j, j < 3 → te j = if rkU j = 9 then -4 else rkU j) ∧ (∀ j, j < 3 → tp j = rs (2 * j) ∧ now (1145 + j) = rs (2 * j + 1)) ∧ (∀ j, j < 6 → now (1149 + j) = rr j) ∧ now 1018 = 2 ∧ ∀ k, k < 1139 → k ≠ 1018 → now k = 0 := by
  have h := ck6_ok
  unfold ck6 at h
  cases e37 : f6_clears 5000 cz with
  | none => rw [e37] at h; cases h
  | some q37 =>
  rw [e37] at h; dsimp only at h
  cases e38 : f6_cavityOf 5000 12 2 6 q37.1 cz with
  | none => rw [e38] at h; cases h
  | some q38 =>
  rw [e38] at h; dsimp only at h
  cases e39 : f6_cavityOf 5000 12 3 5 q38.1 q38.2 with
  | none => rw [e39] at h; cases h
  | some q39 =>
  rw [e39] at h; dsimp only at h
  cases e40 : f6_cavityOf 5000 8 4 4 q39.1 q39.2 with
  | none => rw [e40] at h; cases h
  | some q40 =>
  rw [e40] at h; dsimp only at h
  cases e41 : f6_stageOf 5000 0 2 q37.2.2.1 cz with
  | none => rw [e41] at h; cases h
  | some q41 =>
  rw [e41] at h; dsimp only at h
  cases e42 : f6_stageOf 5000 10 5 q41.1 q41.2 with
  | none => rw [e42] at h; cases h
  | some q42 =>
  rw [e42] at h; dsimp only at h
  cases e43 : f6_stageOf 5000 30 3 q42.1 q42.2 with
  | none => rw [e43] at h; cases h
  | some q43 =>
  rw [e43] at h; dsimp only at h
  simp only [Bool.and_eq_true, decide_eq_true_eq, List.all_eq_true, List.mem_range] at h
  obtain ⟨⟨h1, h2⟩, h3, h4, h5⟩ := h
  obtain ⟨tv', tf', te', tp', now', t1, t2, t3, t4, t5, t6, t7⟩ := takes_eq 5000 (Nat.le_refl _) (C := 3) (c := 3) (s := 3) (tv := fun _ => 0) (tf := fun _ => 0) (te := fun _ => 0) (tp := fun _ => 0) (now := fun _ => 0) (rc := q40.2) (rk := rkU) (rs := q43.2) (rr := rrU q37.2.2.2) (by omega) (by omega) (by omega)
  refine ⟨0, 0, tv', tf', te', tp', now', q40.2, q43.2, rrU q37.2.2.2, ?_, h3, h4, h5, t2, t3, t4, t5, t6, t7⟩
  rw [f6_init]
  rw [show f6_clears 5000 (fun _ => 0) = some q37 from e37, Option.bind_some, show f6_cavityOf 5000 12 2 6 q37.1 (fun _ => 0) = some q38 from e38, Option.bind_some, e39, Option.bind_some, e40, Option.bind_some, show f6_stageOf 5000 0 2 q37.2.2.1 (fun _ => 0) = some q41 from e41, Option.bind_some, e42, Option.bind_some, e43, Option.bind_some]
  obtain ⟨q40a, q40b⟩ := q40
  obtain ⟨q43a, q43b⟩ := q43
  dsimp only at h1 h2
  subst h1 h2
  have t8 : f6_takes 5000 (fun _ => 0) (fun _ => 0) (fun _ => 0) (fun _ => 0) (fun _ => 0) (nI 3) q40b 3 (upd (upd (upd (fun _ => 0) (Int32.toNatClampNeg 0) 1) (Int32.toNatClampNeg 1) 9) (Int32.toNatClampNeg 2) 1) (nI 3) q43b (upd (upd (upd (upd (upd (upd q37.2.2.2 (Int32.toNatClampNeg 0) 36) (Int32.toNatClampNeg 1) 60) (Int32.toNatClampNeg 2) 20) (Int32.toNatClampNeg 3) 50) (Int32.toNatClampNeg 4) 6) (Int32.toNatClampNeg 5) 9) = some (nI 3, tv', tf', nI 3, te', nI 3, tp', now', 0) := t1
  rw [t8, Option.bind_some]
  rfl
theorem rc_v : ∀ j, j < 3 → 1 ≤ (rc0 (3 * j)).toNatClampNeg ∧ (rc0 (3 * j)).toNatClampNeg ≤ 30 ∧ rc0 (3 * j) = nI (rc0 (3 * j)).toNatClampNeg := by decide +kernel
theorem rc_d : ∀ j, j < 3 → 1 ≤ (rc0 (3 * j + 1)).toNatClampNeg ∧ (rc0 (3 * j + 1)).toNatClampNeg ≤ 9 ∧ rc0 (3 * j + 1) = nI (rc0 (3 * j + 1)).toNatClampNeg := by decide +kernel
theorem rc_f : ∀ j, j < 3 → 1 ≤ (rc0 (3 * j + 2)).toNatClampNeg ∧ (rc0 (3 * j + 2)).toNatClampNeg ≤ 9 ∧ rc0 (3 * j + 2) = nI (rc0 (3 * j + 2)).toNatClampNeg := by decide +kernel
theorem rk_v : ∀ j, j < 3 → ((rk0 j).toNatClampNeg < 4 ∨ (rk0 j).toNatClampNeg = 9) ∧ rk0 j = nI (rk0 j).toNatClampNeg ∧ rkU j = rk0 j := by decide +kernel
theorem rs_p : ∀ j, j < 3 → (rs0 (2 * j)).toNatClampNeg ≤ 98 ∧ rs0 (2 * j) = nI (rs0 (2 * j)).toNatClampNeg := by decide +kernel
theorem rs_s : ∀ j, j < 3 → 1 ≤ (rs0 (2 * j + 1)).toNatClampNeg ∧ (rs0 (2 * j + 1)).toNatClampNeg ≤ 9 ∧ rs0 (2 * j + 1) = nI (rs0 (2 * j + 1)).toNatClampNeg := by decide +kernel
theorem rs_m : ∀ j, j < 2 → rs0 (2 * j) ≤ rs0 (2 * (j + 1)) := by decide +kernel
theorem rr_v : ∀ j, j < 6 → setLo j ≤ (rr0 j).toNatClampNeg ∧ (rr0 j).toNatClampNeg ≤ setHi j ∧ rr0 j = nI (rr0 j).toNatClampNeg := by decide +kernel
theorem alB0 : alB (enB (fun j => (rk0 j).toNatClampNeg) 3 5) 0 3 = true := by decide +kernel
theorem rd_start {vo dr fr ah pl sp se rc rs rr : Nat → Int32} (h : ∀ j, j < 3 → vo j = rc0 (3 * j) ∧ dr j = rc0 (3 * j + 1) ∧ fr j = rc0 (3 * j + 2) ∧ ah j = rk0 j ∧ pl j = rs0 (2 * j) ∧ sp j = rs0 (2 * j + 1)) (h6 : ∀ j, j < 6 → se j = rr0 j) (k1 : ∀ j, j < 9 → rc j = rc0 j) (k2 : ∀ j, j < 6 → rs j = rs0 j) (k3 : ∀ j, j < 6 → rr j = rr0 j) : RD 3 3 3 vo dr fr ah pl sp se rc rkU rs rr := by
  refine ⟨⟨by omega, by omega, by omega⟩, fun j hj => ?_, fun j hj => ?_, fun j hj => ?_, ⟨fun _ => ?_, fun j hj => ?_⟩, fun j hj => ?_⟩
  · obtain ⟨a1, a2, a3, -⟩ := h j hj
    obtain ⟨b1, b2, b3⟩ := rc_v j hj
    obtain ⟨c1, c2, c3⟩ := rc_d j hj
    obtain ⟨d1, d2, d3⟩ := rc_f j hj
    exact ⟨⟨by rw [k1 _ (by omega), a1], by rw [k1 _ (by omega), a2], by rw [k1 _ (by omega), a3]⟩, ⟨_, b1, b2, a1.trans b3⟩, ⟨_, c1, c2, a2.trans c3⟩, ⟨_, d1, d2, a3.trans d3⟩⟩
  · obtain ⟨-, -, -, a4, -⟩ := h j hj
    obtain ⟨b1, b2, b3⟩ := rk_v j hj
    exact ⟨b3.trans a4.symm, _, b1, a4.trans b2⟩
  · obtain ⟨-, -, -, -, a5, a6⟩ := h j hj
    obtain ⟨b1, b2⟩ := rs_p j hj
    obtain ⟨c1, c2, c3⟩ := rs_s j hj
    exact ⟨⟨by rw [k2 _ (by omega), a5], by rw [k2 _ (by omega), a6]⟩, ⟨_, b1, a5.trans b2⟩, ⟨_, c1, c2, a6.trans c3⟩⟩
  · exact (h 0 (by omega)).2.2.2.2.1
  · rw [(h j (by omega)).2.2.2.2.1, (h (j + 1) (by omega)).2.2.2.2.1]
    exact rs_m j (by omega)
  · obtain ⟨b1, b2, b3⟩ := rr_v j hj
    exact ⟨(k3 j hj).trans (h6 j hj).symm, _, b1, b2, (h6 j hj).trans b3⟩
