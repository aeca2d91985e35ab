/-! core, ready -/
theorem bit_xor : ∀ y, y < 16 → ∀ c, c < 4 → nI y ^^^ ((1 : Int32) <<< (nI c &&& 31)) = nI (y ^^^ 2 ^ c) := by decide +kernel
theorem bits_eq (N : Nat) (hN : 5000 ≤ N) : ∀ z, z < 16 → f6_bits N (nI z) = some (bitc (nI z)) := by
  obtain ⟨n, rfl⟩ : ∃ n, N = n + 5 := ⟨N - 5, by omega⟩
  intro z hz
  have e : f6_bits (n + 5) (nI z) = some ((((0 + bb z 0) + bb z 1) + bb z 2) + bb z 3) := rfl
  rw [e]
  congr 1
  clear e
  revert z
  decide +kernel
theorem ready_eq (N : Nat) {cor y : Nat} {a : Nat → Int32} {sh : Int32} (hcor : cor ≤ 4) (hy : y < 2 ^ cor) (ha : a 1011 = nI y) (h10 : a 1010 = sh) (hs : isb sh = true) : ∃ b : Bool, f5_isReady N (nI cor) sh (nI y) = some (bi b) ∧ f6_isReady N (nI cor) a = some (bi b) := by
  have key : ∀ cor, cor < 5 → ∀ y, y < 2 ^ cor → (bitc (nI y) = nI cor ↔ nI y = ((1 : Int32) <<< (nI cor &&& 31)) - 1) := by decide +kernel
  rw [f5_isReady, f6_isReady, if_pos (show ok 1010 1155 = true by decide), show Int32.toNatClampNeg 1010 = 1010 from rfl, h10, if_pos (show ok 1011 1155 = true by decide), show Int32.toNatClampNeg 1011 = 1011 from rfl, ha]
  rcases of_decide_eq_true hs with q | q
  · rw [if_pos q, if_neg (show ¬ sh = 1 by rw [q]; decide)]
    exact ⟨false, rfl, rfl⟩
  · rw [if_neg (show ¬ sh = 0 by rw [q]; decide), if_pos q]
    by_cases hb : bitc (nI y) = nI cor
    · rw [if_pos hb, if_pos ((key cor (by omega) y hy).mp hb)]
      exact ⟨true, rfl, rfl⟩
    · rw [if_neg hb, if_neg (fun z => hb ((key cor (by omega) y hy).mpr z))]
      exact ⟨false, rfl, rfl⟩
theorem pow4 {cor : Nat} (h : cor ≤ 4) {y : Nat} (hy : y < 2 ^ cor) : y < 16 := Nat.lt_of_lt_of_le hy (Nat.pow_le_pow_right (by decide) h)
theorem eq_core (N : Nat) (hN : 5000 ≤ N) (l1 l2 : Int32) {ahead earl : Nat → Int32} {cav cor stg i d : Nat} {S H : Nat → tO} {now was : Nat → Int32} (hcor : cor ≤ 4) (hE : RE cor ahead earl) (hc : cav ≤ 6) (hs : stg ≤ 4) (h : RW cav cor stg i d S H now was) {v w : tO} (ev : v = S i) (ew : w = S ((i + 1) % 5)) :
    CH cav cor stg i d S H now was (f5_core N l1 l2 (nI i) (nI d) (nI cor) ahead (v.2 0) (v.2 1) (v.2 2) (v.1 0) (v.1 1) (v.1 2) (v.1 3) (v.1 4) (v.1 5) (v.1 6) (v.1 7) (v.1 8) (v.2 3) (v.2 4) (w.2 0) (w.2 1) (w.2 2) (w.1 0) (w.1 1) (w.1 2) (w.1 3) (w.1 4) (w.1 5) (w.1 6) (w.1 7) (w.1 8) (w.2 3) (w.2 4)) (f6_core N l1 l2 (nI cor) earl now was (nI d)) := by
  obtain ⟨m, hm⟩ := RW_now h
  obtain ⟨hi, hd, -⟩ := id h
  have same : ∀ r : Int32, CH cav cor stg i d S H now was (some (outS r i d w)) (some (r, now, was, nI d)) := fun r => by rw [ew]; exact CH_same h r
  have hm0 := hm
  rw [← ev] at hm
  obtain ⟨f0, f2, f3⟩ := RS_fl hm
  obtain ⟨a10, -⟩ := hm.2.1
  obtain ⟨y, hy, a11, v1⟩ := hm.2.2.1
  obtain ⟨a12, -⟩ := hm.2.2.2.1
  obtain ⟨a13, -⟩ := hm.2.2.2.2.1
  rw [f5_core, f6_core, c_isCore N l1 (by omega), r_isCore N l1 (by omega), c_isFlag, r_isFlag]
  show CH cav cor stg i d S H now was (if bi (ok l1 cor) = 0 then _ else (if bi (isb l2) = 0 then _ else _)) (if bi (ok l1 cor) = 0 then _ else (if bi (isb l2) = 0 then _ else _))
  by_cases hk : ok l1 cor = true
  · obtain ⟨c, hc', rfl⟩ := ok_of hk (by omega)
    rw [if_neg (bi_1 hk), if_neg (bi_1 hk)]
    by_cases hl : isb l2 = true
    · obtain ⟨r, h1, h2⟩ := barrier_eq N hN hcor (pow4 hcor hy) hc' hE a11 a10 a12 a13 f2 f3 (of_decide_eq_true hl)
      rw [if_neg (bi_1 hl), if_neg (bi_1 hl), v1, h1, h2]
      show CH cav cor stg i d S H now was (if r = 0 then _ else _) (if r = 0 then _ else _)
      by_cases hr : r = 0
      · have hz : y ^^^ 2 ^ c < 2 ^ cor := Nat.xor_lt_two_pow hy (Nat.pow_lt_pow_right (by decide) hc')
        have ex := bit_xor y (pow4 hcor hy) c (by omega)
        rw [if_pos hr, if_pos hr, startC N hi f0 f2 f3, keeps_eq N hN now was hd, show Int32.toNatClampNeg 1011 = 1011 from rfl, a11, ex, up_s, bits_eq N hN _ (pow4 hcor hz)]
        show CH cav cor stg i d S H now was (some _) (if ok 1011 1155 = true then (if ok 1011 1155 = true then (if ok 1011 1155 = true then some (bitc (nI (y ^^^ 2 ^ c)), upd now 1011 (nI (y ^^^ 2 ^ c)), wasP d now was, nI (dP d)) else none) else none) else none)
        rw [if_pos (show ok 1011 1155 = true by decide), if_pos (show ok 1011 1155 = true by decide), if_pos (show ok 1011 1155 = true by decide), next_eq hi, und_eq hd]
        refine CH_push (w' := mkS ((cpS v w).2 0) ((cpS v w).2 1) ((cpS v w).2 2) (v.1 0) (nI (y ^^^ 2 ^ c)) (v.1 2) (v.1 3) (v.1 4) (v.1 5) (v.1 6) (v.1 7) (v.1 8) ((cpS v w).2 3) ((cpS v w).2 4)) hc hs h hm0 ?_ (bitc (nI (y ^^^ 2 ^ c))) (TB_u (by omega))
        refine RS_v hc hs (v := (va_up (cpS v w).1 1 (nI (y ^^^ 2 ^ c)), (cpS v w).2)) (fun k hk => ?_) (fun _ _ => rfl) (fun _ _ => rfl) (fun _ _ => rfl) (fun _ _ => rfl) (fun _ _ => rfl) (RS_in hz hc hs (RS_cp w hc hs hm))
        rcases (show k = 0 ∨ k = 1 ∨ k = 2 ∨ k = 3 ∨ k = 4 ∨ k = 5 ∨ k = 6 ∨ k = 7 ∨ k = 8 by omega) with rfl | rfl | rfl | rfl | rfl | rfl | rfl | rfl | rfl <;> rfl
      · rw [if_neg hr, if_neg hr]
        exact same _
    · rw [if_pos (bi_0 hl), if_pos (bi_0 hl)]; exact same _
  · rw [if_pos (bi_0 hk), if_pos (bi_0 hk)]; exact same _
