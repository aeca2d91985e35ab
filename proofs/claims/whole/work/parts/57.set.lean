/-! setters: class and reference the same -/
theorem twenty {c : Int32} (h : 0 ≤ c ∧ c ≤ 20) : ∃ x : Nat, x ≤ 20 ∧ c = nI x := by
  have o : (0 : Int32).toInt = 0 := rfl
  have n : (20 : Int32).toInt = 20 := rfl
  rw [i_le, i_le] at h
  have h0 : ok c 21 = true := decide_eq_true (by omega)
  obtain ⟨k, hk, rfl⟩ := ok_of h0 (by decide)
  exact ⟨k, by omega, rfl⟩
theorem eq_wide (N : Nat) (hN : 5000 ≤ N) (l1 : Int32) {cav cor stg i d : Nat} {S H : Nat → tO} {now was : Nat → Int32} (hc : cav ≤ 6) (hs : stg ≤ 4) (h : RW cav cor stg i d S H now was) {v w : tO} (ev : v = S i) (ew : w = S ((i + 1) % 5)) :
    CH cav cor stg i d S H now was (f5_wide N l1 (nI i) (nI d) (v.2 0) (v.2 1) (v.2 2) (v.1 0) (v.1 1) (v.1 2) (v.1 3) (v.1 4) (v.1 5) (v.1 6) (v.1 7) (v.1 8) (v.2 3) (v.2 4) (w.2 0) (w.2 1) (w.2 2) (w.1 0) (w.1 1) (w.1 2) (w.1 3) (w.1 4) (w.1 5) (w.1 6) (w.1 7) (w.1 8) (w.2 3) (w.2 4)) (f6_wide N l1 now was (nI d)) := by
  obtain ⟨m, hm⟩ := RW_now h
  obtain ⟨hi, hd, -⟩ := id h
  have same : ∀ r : Int32, CH cav cor stg i d S H now was (some (outS r i d w)) (some (r, now, was, nI d)) := fun r => by rw [ew]; exact CH_same h r
  have hm0 := hm
  rw [← ev] at hm
  obtain ⟨f0, f2, f3⟩ := RS_fl hm
  rw [f5_wide, f6_wide, isIn_eq]
  show CH cav cor stg i d S H now was _ (if bi _ = 0 then _ else _)
  by_cases hx : 0 ≤ l1 ∧ l1 ≤ 20
  · obtain ⟨x, hx20, rfl⟩ := twenty hx
    obtain ⟨y, hy, a18, v5⟩ := hm.2.2.2.2.2.1
    rw [if_neg (i_nlt.mpr hx.1), if_pos hx.2, if_neg (bi_1 (decide_eq_true hx)), show f6_becomes N 1018 (nI x) now was (nI d) = _ from becomes_eq N hN (nI x) now was (p := 1018) (by omega) hd, a18, v5]
    by_cases he : nI y = nI x
    · rw [if_pos he, if_pos he]; exact same _
    · rw [if_neg he, if_neg he, startC N hi f0 f2 f3]
      show CH cav cor stg i d S H now was (some _) (some (nI y, upd now 1018 (nI x), wasP d now was, nI (dP d)))
      rw [next_eq hi, und_eq hd]
      refine CH_push (w' := mkS ((cpS v w).2 0) ((cpS v w).2 1) ((cpS v w).2 2) (v.1 0) (v.1 1) (v.1 2) (v.1 3) (v.1 4) (nI x) (v.1 6) (v.1 7) (v.1 8) ((cpS v w).2 3) ((cpS v w).2 4)) hc hs h hm0 ?_ (nI y) (TB_u (by omega))
      refine RS_v hc hs (v := (va_up (cpS v w).1 5 (nI x), (cpS v w).2)) (fun k hk => ?_) (fun _ _ => rfl) (fun _ _ => rfl) (fun _ _ => rfl) (fun _ _ => rfl) (fun _ _ => rfl) (RS_wide hx20 hc hs (RS_cp w hc hs hm))
      rcases (show k = 0 ∨ k = 1 ∨ k = 2 ∨ k = 3 ∨ k = 4 ∨ k = 5 ∨ k = 6 ∨ k = 7 ∨ k = 8 by omega) with rfl | rfl | rfl | rfl | rfl | rfl | rfl | rfl | rfl <;> rfl
  · rw [if_pos (bi_0 (fun q => hx (of_decide_eq_true q)))]
    by_cases h1 : l1 < 0
    · rw [if_pos h1]; exact same _
    · rw [if_neg h1, if_neg (fun h9 => hx ⟨i_nlt.mp h1, h9⟩)]; exact same _
theorem eq_forget (N : Nat) (hN : 5000 ≤ N) {cav cor stg i d : Nat} {S H : Nat → tO} {now was : Nat → Int32} (hc : cav ≤ 6) (hs : stg ≤ 4) (h : RW cav cor stg i d S H now was) {v w : tO} (ev : v = S i) (ew : w = S ((i + 1) % 5)) :
    CH cav cor stg i d S H now was (f5_forget N (nI i) (nI d) (v.2 0) (v.2 1) (v.2 2) (v.1 0) (v.1 1) (v.1 2) (v.1 3) (v.1 4) (v.1 5) (v.1 6) (v.2 3) (v.2 4) (w.2 0) (w.2 1) (w.2 2) (w.1 0) (w.1 1) (w.1 2) (w.1 3) (w.1 4) (w.1 5) (w.1 6) (w.1 7) (w.1 8) (w.2 3) (w.2 4)) (f6_forget N now was (nI d)) := by
  obtain ⟨m, hm⟩ := RW_now h
  obtain ⟨hi, hd, -⟩ := id h
  have same : ∀ r : Int32, CH cav cor stg i d S H now was (some (outS r i d w)) (some (r, now, was, nI d)) := fun r => by rw [ew]; exact CH_same h r
  have hm0 := hm
  rw [← ev] at hm
  obtain ⟨f0, f2, f3⟩ := RS_fl hm
  obtain ⟨T, hT, a15, v6, -, -⟩ := hm.2.2.2.2.2.2.1
  rw [f5_forget, f6_forget, if_pos (show ok 1015 1155 = true by decide), show Int32.toNatClampNeg 1015 = 1015 from rfl, a15, v6]
  by_cases he : nI T = 0
  · rw [if_pos he, if_pos he]; exact same _
  · rw [if_neg he, if_neg he, startC N hi f0 f2 f3, keeps_eq N hN now was hd]
    show CH cav cor stg i d S H now was (some _) (if ok 1015 1155 = true then some (nI T, upd now 1015 0, wasP d now was, nI (dP d)) else none)
    rw [if_pos (show ok 1015 1155 = true by decide), next_eq hi, und_eq hd]
    refine CH_push (w' := mkS ((cpS v w).2 0) ((cpS v w).2 1) ((cpS v w).2 2) (v.1 0) (v.1 1) (v.1 2) (v.1 3) (v.1 4) (v.1 5) 0 0 0 ((cpS v w).2 3) ((cpS v w).2 4)) hc hs h hm0 ?_ (nI T) TB_0
    refine RS_v hc hs (v := (va_up (va_up (va_up (cpS v w).1 6 0) 7 0) 8 0, (cpS v w).2)) (fun k hk => ?_) (fun _ _ => rfl) (fun _ _ => rfl) (fun _ _ => rfl) (fun _ _ => rfl) (fun _ _ => rfl) (RS_forget hc hs (RS_cp w hc hs hm))
    rcases (show k = 0 ∨ k = 1 ∨ k = 2 ∨ k = 3 ∨ k = 4 ∨ k = 5 ∨ k = 6 ∨ k = 7 ∨ k = 8 by omega) with rfl | rfl | rfl | rfl | rfl | rfl | rfl | rfl | rfl <;> rfl
theorem eq_speed (N : Nat) (hN : 5000 ≤ N) (l1 l2 : Int32) {cav cor stg i d : Nat} {S H : Nat → tO} {now was : Nat → Int32} (hc : cav ≤ 6) (hs : stg ≤ 4) (h : RW cav cor stg i d S H now was) {v w : tO} (ev : v = S i) (ew : w = S ((i + 1) % 5)) :
    CH cav cor stg i d S H now was (f5_speed N l1 l2 (nI i) (nI d) (nI stg) (v.2 0) (v.2 1) (v.2 2) (v.1 0) (v.1 1) (v.1 2) (v.1 3) (v.1 4) (v.1 5) (v.1 6) (v.1 7) (v.1 8) (v.2 3) (v.2 4) (w.2 0) (w.2 1) (w.2 2) (w.1 0) (w.1 1) (w.1 2) (w.1 3) (w.1 4) (w.1 5) (w.1 6) (w.1 7) (w.1 8) (w.2 3) (w.2 4)) (f6_speed N l1 l2 (nI stg) now was (nI d)) := by
  obtain ⟨m, hm⟩ := RW_now h
  obtain ⟨hi, hd, -⟩ := id h
  have same : ∀ r : Int32, CH cav cor stg i d S H now was (some (outS r i d w)) (some (r, now, was, nI d)) := fun r => by rw [ew]; exact CH_same h r
  have hm0 := hm
  rw [← ev] at hm
  obtain ⟨f0, f2, f3⟩ := RS_fl hm
  rw [f5_speed, f6_speed, isIn_eq, isIn_eq, ok_dec (by omega)]
  show CH cav cor stg i d S H now was _ (if bi (ok l1 stg) = 0 then _ else (if bi _ = 0 then _ else _))
  by_cases hk : ok l1 stg = true
  · obtain ⟨j, hj, rfl⟩ := ok_of hk (by omega)
    rw [if_neg (show ¬ nI j < 0 from nI_pos (by omega)), if_neg (show ¬ nI stg ≤ nI j from nI_ge hj (by omega)), if_neg (bi_1 hk)]
    by_cases hx : 1 ≤ l2 ∧ l2 ≤ 9
    · rw [if_neg (i_nlt.mpr hx.1), if_pos hx.2, if_neg (bi_1 (decide_eq_true hx)), if_pos (ok_nI (by omega) (by omega)), cl_nI (by omega), show (1145 : Int32) + nI j = nI (1145 + j) from addn 1145 j, becomes_eq N hN l2 now was (by omega) hd, (hm.2.2.2.2.2.2.2.2.1 j hj).1]
      by_cases he : v.2 1 j = l2
      · rw [if_pos he, if_pos he]
        exact same _
      · rw [if_neg he, if_neg he, startC N hi f0 f2 f3]
        obtain ⟨x, x1, x9, rfl⟩ := nine hx
        show CH cav cor stg i d S H now was (if ok (nI j) 4 = true then _ else _) (some (v.2 1 j, upd now (1145 + j) (nI x), wasP d now was, nI (dP d)))
        rw [if_pos (ok_nI (by omega) (by omega)), next_eq hi, und_eq hd]
        refine CH_push (w' := mkS ((cpS v w).2 0) (upd ((cpS v w).2 1) j (nI x)) ((cpS v w).2 2) (v.1 0) (v.1 1) (v.1 2) (v.1 3) (v.1 4) (v.1 5) (v.1 6) (v.1 7) (v.1 8) ((cpS v w).2 3) ((cpS v w).2 4)) hc hs h hm0 ?_ (v.2 1 j) (TB_u (by omega))
        refine RS_v hc hs (v := ((cpS v w).1, va_up (cpS v w).2 1 (upd ((cpS v w).2 1) j (nI x)))) (fun k hk => ?_) (fun _ _ => rfl) (fun _ _ => rfl) (fun _ _ => rfl) (fun _ _ => rfl) (fun _ _ => rfl) (RS_speed ⟨x1, x9⟩ hj hc hs (RS_cp w hc hs hm))
        rcases (show k = 0 ∨ k = 1 ∨ k = 2 ∨ k = 3 ∨ k = 4 ∨ k = 5 ∨ k = 6 ∨ k = 7 ∨ k = 8 by omega) with rfl | rfl | rfl | rfl | rfl | rfl | rfl | rfl | rfl <;> rfl
    · rw [if_pos (bi_0 (fun q => hx (of_decide_eq_true q)))]
      by_cases h1 : l2 < 1
      · rw [if_pos h1]; exact same _
      · rw [if_neg h1, if_neg (fun h9 => hx ⟨i_nlt.mp h1, h9⟩)]; exact same _
  · rw [if_pos (bi_0 hk)]
    by_cases h1 : l1 < 0
    · rw [if_pos h1]; exact same _
    · rw [if_neg h1]
      by_cases h2 : nI stg ≤ l1
      · rw [if_pos h2]; exact same _
      · exfalso
        apply hk
        rw [i_lt] at h1
        rw [i_le, nI_toInt (by omega)] at h2
        have z : (0 : Int32).toInt = 0 := rfl
        exact decide_eq_true (by omega)
