/-! tell, waitCool, undo, mould: class and reference the same -/
theorem rng {c : Int32} {lo hi : Nat} (hh : hi < 2 ^ 20) (hl : lo < 2 ^ 20) (h : nI lo ≤ c ∧ c ≤ nI hi) : ∃ x : Nat, lo ≤ x ∧ x ≤ hi ∧ c = nI x := by
  rw [i_le, i_le, nI_toInt (by omega), nI_toInt (by omega)] at h
  have h0 : ok c (hi + 1) = true := decide_eq_true (by omega)
  obtain ⟨k, hk, rfl⟩ := ok_of h0 (by omega)
  rw [nI_toInt (by omega)] at h
  exact ⟨k, by omega, by omega, rfl⟩
theorem six {P : Nat → Prop} (h0 : P 0) (h1 : P 1) (h2 : P 2) (h3 : P 3) (h4 : P 4) (h5 : P 5) {j : Nat} (hj : j < 6) : P j := by
  rcases (show j = 0 ∨ j = 1 ∨ j = 2 ∨ j = 3 ∨ j = 4 ∨ j = 5 by omega) with rfl | rfl | rfl | rfl | rfl | rfl <;> assumption
theorem tabL_eq {j : Nat} (hj : j < 6) : tabL j = nI (setLo j) := six (P := fun j => tabL j = nI (setLo j)) (by decide) (by decide) (by decide) (by decide) (by decide) (by decide) hj
theorem tabM_eq {j : Nat} (hj : j < 6) : tabM j = nI (setHi j) := six (P := fun j => tabM j = nI (setHi j)) (by decide) (by decide) (by decide) (by decide) (by decide) (by decide) hj
theorem lowOf_eq (N : Nat) {j : Nat} (hj : j < 6) : f6_lowOf N (nI j) = some (nI (setLo j)) := six (P := fun j => f6_lowOf N (nI j) = some (nI (setLo j))) rfl rfl rfl rfl rfl rfl hj
theorem highOf_eq (N : Nat) {j : Nat} (hj : j < 6) : f6_highOf N (nI j) = some (nI (setHi j)) := six (P := fun j => f6_highOf N (nI j) = some (nI (setHi j))) rfl rfl rfl rfl rfl rfl hj
theorem setB (j : Nat) : setLo j ≤ 1 ∧ setHi j ≤ 99 := by
  rw [setLo, setHi]
  constructor
  · split <;> omega
  · split
    · omega
    · split <;> omega
theorem eq_tell (N : Nat) (hN : 5000 ≤ N) (l1 l2 : Int32) {cav cor stg i d : Nat} {S H : Nat → tO} {now was : Nat → Int32} (hc : cav ≤ 6) (hs : stg ≤ 4) (h : RW cav cor stg i d S H now was) {v w : tO} (ev : v = S i) (ew : w = S ((i + 1) % 5)) :
    CH cav cor stg i d S H now was (f5_tell N l1 l2 (nI i) (nI d) (v.2 0) (v.2 1) (v.2 2) (v.1 0) (v.1 1) (v.1 2) (v.1 3) (v.1 4) (v.1 5) (v.1 6) (v.1 7) (v.1 8) (v.2 3) (v.2 4) (w.2 0) (w.2 1) (w.2 2) (w.1 0) (w.1 1) (w.1 2) (w.1 3) (w.1 4) (w.1 5) (w.1 6) (w.1 7) (w.1 8) (w.2 3) (w.2 4)) (f6_tell N l1 l2 now was (nI d)) := by
  obtain ⟨m, hm⟩ := RW_now h
  obtain ⟨hi, hd, -⟩ := id h
  have same : ∀ r : Int32, CH cav cor stg i d S H now was (some (outS r i d w)) (some (r, now, was, nI d)) := fun r => by rw [ew]; exact CH_same h r
  have hm0 := hm
  rw [← ev] at hm
  obtain ⟨f0, f2, f3⟩ := RS_fl hm
  rw [f5_tell, f6_tell, isIn_eq, show decide (0 ≤ l1 ∧ l1 ≤ 5) = ok l1 6 from ok_dec (n := 6) (by omega)]
  show CH cav cor stg i d S H now was _ (if bi (ok l1 6) = 0 then _ else _)
  by_cases hk : ok l1 6 = true
  · obtain ⟨j, hj, rfl⟩ := ok_of hk (by omega)
    obtain ⟨b1, b2⟩ := setB j
    rw [if_neg (show ¬ nI j < 0 from nI_pos (by omega)), if_neg (show ¬ (6 : Int32) ≤ nI j from nI_ge (b := 6) hj (by omega)), if_neg (bi_1 hk), if_pos hk, if_pos hk, if_pos hk, cl_nI (by omega), tabL_eq hj, tabM_eq hj, lowOf_eq N hj, highOf_eq N hj]
    show CH cav cor stg i d S H now was _ ((f6_isIn N l2 (nI (setLo j)) (nI (setHi j))).bind _)
    rw [isIn_eq]
    show CH cav cor stg i d S H now was _ (if bi _ = 0 then _ else _)
    by_cases hx : nI (setLo j) ≤ l2 ∧ l2 ≤ nI (setHi j)
    · rw [if_neg (i_nlt.mpr hx.1), if_pos hx.2, if_neg (bi_1 (decide_eq_true hx)), show (1149 : Int32) + nI j = nI (1149 + j) from addn 1149 j, becomes_eq N hN l2 now was (by omega) hd, (hm.2.2.2.2.2.2.2.2.2.1 j hj).1]
      by_cases he : v.2 2 j = l2
      · rw [if_pos he, if_pos he]
        exact same _
      · rw [if_neg he, if_neg he, startC N hi f0 f2 f3]
        obtain ⟨x, x1, x9, rfl⟩ := rng (by omega) (by omega) hx
        show CH cav cor stg i d S H now was (if ok (nI j) 6 = true then _ else _) (some (v.2 2 j, upd now (1149 + j) (nI x), wasP d now was, nI (dP d)))
        rw [if_pos hk, next_eq hi, und_eq hd]
        refine CH_push (w' := mkS ((cpS v w).2 0) ((cpS v w).2 1) (upd ((cpS v w).2 2) j (nI x)) (v.1 0) (v.1 1) (v.1 2) (v.1 3) (v.1 4) (v.1 5) (v.1 6) (v.1 7) (v.1 8) ((cpS v w).2 3) ((cpS v w).2 4)) hc hs h hm0 ?_ (v.2 2 j) (TB_u (by omega))
        refine RS_v hc hs (v := ((cpS v w).1, va_up (cpS v w).2 2 (upd ((cpS v w).2 2) j (nI x)))) (fun k hk => ?_) (fun _ _ => rfl) (fun _ _ => rfl) (fun _ _ => rfl) (fun _ _ => rfl) (fun _ _ => rfl) (RS_set ⟨x1, x9⟩ hj hc hs (RS_cp w hc hs hm))
        rcases (show k = 0 ∨ k = 1 ∨ k = 2 ∨ k = 3 ∨ k = 4 ∨ k = 5 ∨ k = 6 ∨ k = 7 ∨ k = 8 by omega) with rfl | rfl | rfl | rfl | rfl | rfl | rfl | rfl | rfl <;> rfl
    · rw [if_pos (bi_0 (fun q => hx (of_decide_eq_true q)))]
      by_cases h1 : l2 < nI (setLo j)
      · rw [if_pos h1]; exact same _
      · rw [if_neg h1, if_neg (fun h9 => hx ⟨i_nlt.mp h1, h9⟩)]; exact same _
  · rw [if_pos (bi_0 hk)]
    by_cases h1 : l1 < 0
    · rw [if_pos h1]; exact same _
    · rw [if_neg h1]
      by_cases h2 : 6 ≤ l1
      · rw [if_pos h2]; exact same _
      · exfalso
        apply hk
        rw [i_lt] at h1
        rw [i_le] at h2
        have z : (0 : Int32).toInt = 0 := rfl
        have z6 : (6 : Int32).toInt = 6 := rfl
        exact decide_eq_true (by omega)
theorem eq_undo (N : Nat) (hN : 5000 ≤ N) {cav cor stg i d : Nat} {S H : Nat → tO} {now was : Nat → Int32} (hc : cav ≤ 6) (hs : stg ≤ 4) (h : RW cav cor stg i d S H now was) :
    ∃ (r : Int32) (i' d' : Nat) (now' : Nat → Int32), f5_undo N (nI i) (nI d) = some (r, nI i', nI d') ∧ f6_undo N now was (nI d) = some (r, now', nI d') ∧ RW cav cor stg i' d' S H now' was ∧ ∀ K, K ≤ 600 → MB d now was K → MB d' now' was (K + 1) := by
  obtain ⟨hi, hd, -⟩ := id h
  by_cases h0 : d = 0
  · subst h0
    exact ⟨_, i, 0, now, c_undo0 N (nI i), by rw [f6_undo, if_pos (show nI 0 = (0 : Int32) from rfl)], h, fun K hK hB => MB_up hB⟩
  · obtain ⟨e, rfl⟩ : ∃ e, d = e + 1 := ⟨d - 1, by omega⟩
    exact ⟨_, _, _, _, c_undo N hi (by omega), undo_eq N hN now was (by omega), RW_undo hc hs h, fun K hK hB => MB_undo hB⟩
theorem nI_xor (a b : Nat) : nI a ^^^ nI b = nI (a ^^^ b) := by
  apply Int32.toBitVec_inj.1
  show BitVec.ofNat 32 a ^^^ BitVec.ofNat 32 b = BitVec.ofNat 32 (a ^^^ b)
  apply BitVec.eq_of_getLsbD_eq
  intro i hi
  simp [hi]
theorem fmod_eq {x : Nat} (hx : x < 2 ^ 30) : fmodJ (nI x) 16 = nI (x % 16) := by
  have e : nI x - nI x / 16 * 16 = nI (x % 16) := pk_rem (a := x) (d := 16) (by omega) (by omega) (by omega)
  rw [fmodJ, e]
  by_cases h : (0 : Int32) ≤ nI x ^^^ 16
  · rw [if_pos h]
  · exfalso
    apply h
    rw [show nI x ^^^ (16 : Int32) = nI (x ^^^ 16) from nI_xor x 16]
    exact nI_pos' (Nat.lt_trans (Nat.xor_lt_two_pow (n := 30) hx (by decide)) (by decide))
theorem eq_waitCool (N : Nat) (hN : 5000 ≤ N) {cav cor stg i d : Nat} {S H : Nat → tO} {now was : Nat → Int32} (hc : cav ≤ 6) (hs : stg ≤ 4) (h : RW cav cor stg i d S H now was) {v w : tO} (ev : v = S i) (ew : w = S ((i + 1) % 5)) :
    CH cav cor stg i d S H now was (f5_waitCool N (nI i) (nI d) (v.2 0) (v.2 1) (v.2 2) (v.1 0) (v.1 1) (v.1 2) (v.1 3) (v.1 4) (v.1 5) (v.1 6) (v.1 7) (v.1 8) (v.2 3) (v.2 4) (w.2 0) (w.2 1) (w.2 2) (w.1 0) (w.1 1) (w.1 2) (w.1 3) (w.1 4) (w.1 5) (w.1 6) (w.1 7) (w.1 8) (w.2 3) (w.2 4) ((H (Int32.toNatClampNeg (fmodJ ((v.1 4 - (if 12 < v.1 4 then 12 else v.1 4)) + ((if 12 < v.1 4 then 12 else v.1 4) - 1)) 16))).1 3)) (f6_waitCool N now was (nI d)) := by
  obtain ⟨m, hm⟩ := RW_now h
  obtain ⟨hi, hd, -⟩ := id h
  have same : ∀ r : Int32, CH cav cor stg i d S H now was (some (outS r i d w)) (some (r, now, was, nI d)) := fun r => by rw [ew]; exact CH_same h r
  have hm0 := hm
  rw [← ev] at hm
  obtain ⟨f0, f2, f3⟩ := RS_fl hm
  obtain ⟨hm6, v4, -, -⟩ := hm.1
  obtain ⟨a13, -⟩ := hm.2.2.2.2.1
  rw [f5_waitCool, f6_waitCool, if_pos (show ok 1013 1155 = true by decide), show Int32.toNatClampNeg 1013 = 1013 from rfl, a13]
  by_cases he : v.1 3 = 0
  · rw [if_pos he, if_pos he]; exact same _
  · have h1 : v.1 3 = 1 := (of_decide_eq_true f3).elim (fun q => absurd q he) id
    obtain ⟨m1, a14⟩ := hm.2.2.2.2.2.2.2.2.2.2.1 h1
    have ek : (nI m - nI (min m 12)) + (nI (min m 12) - 1) = nI (m - 1) := by
      rw [pk_sub (by omega), show nI (min m 12) - (1 : Int32) = nI (min m 12 - 1) from pk_sub (b := 1) (by omega), addn]
      congr 1; omega
    rw [if_neg he, if_neg he, startC N hi f0 f2 f3, keeps_eq N hN now was hd, v4, kept_eq hm6, ek, fmod_eq (by omega), cl_nI (by omega)]
    show CH cav cor stg i d S H now was ((f5_keptShot N (nI (min m 12) - 1) (nI m)).bind _) (if ok 1013 1155 = true then (if ok 1014 1155 = true then some ((upd now 1013 0) 1014, upd now 1013 0, wasP d now was, nI (dP d)) else none) else none)
    rw [show f5_keptShot N (nI (min m 12) - 1) (nI m) = some () by rw [f5_keptShot, kept_eq hm6, ek, fmod_eq (by omega)]; exact if_pos (ok_nI (Nat.mod_lt _ (by decide)) (by omega)), if_pos (show ok 1013 1155 = true by decide), if_pos (show ok 1014 1155 = true by decide), up_n (show (1014 : Nat) ≠ 1013 by decide), a14, next_eq hi, und_eq hd]
    rw [← v4]
    refine CH_push (w' := mkS ((cpS v w).2 0) ((cpS v w).2 1) ((cpS v w).2 2) (v.1 0) (v.1 1) (v.1 2) 0 (v.1 4) (v.1 5) (v.1 6) (v.1 7) (v.1 8) ((cpS v w).2 3) ((cpS v w).2 4)) hc hs h hm0 ?_ ((H ((m - 1) % 16)).1 3) (TB_u (by omega))
    refine RS_v hc hs (v := (va_up (cpS v w).1 3 0, (cpS v w).2)) (fun k hk => ?_) (fun _ _ => rfl) (fun _ _ => rfl) (fun _ _ => rfl) (fun _ _ => rfl) (fun _ _ => rfl) (RS_cool hc hs (RS_cp w hc hs hm))
    rcases (show k = 0 ∨ k = 1 ∨ k = 2 ∨ k = 3 ∨ k = 4 ∨ k = 5 ∨ k = 6 ∨ k = 7 ∨ k = 8 by omega) with rfl | rfl | rfl | rfl | rfl | rfl | rfl | rfl | rfl <;> rfl
theorem up_self {f : Nat → Int32} {k : Nat} : upd f k (f k) = f := by
  funext j
  by_cases h : j = k
  · subst h; exact up_s
  · exact up_n h
theorem one_ne : ¬ (1 : Int32) = 0 := by decide
theorem mould_53_1 (N : Nat) (hN : 5000 ≤ N) (now was : Nat → Int32) {d : Nat} (hd : d ≤ 4) : f6_mould_53 N 1 now was (nI d) = some (0, upd now 1010 1, wasP d now was, nI (dP d)) := by
  rw [f6_mould_53, keeps_eq N hN now was hd]
  show (if ok 1010 1155 = true then (if (1 : Int32) = 0 then (if ok 1012 1155 = true then f6_mould_82 N 1 ((upd now 1010 1) 1012) (upd now 1010 1) (wasP d now was) (nI (dP d)) else none) else f6_mould_82 N 1 0 (upd now 1010 1) (wasP d now was) (nI (dP d))) else none) = _
  rw [if_pos (show ok 1010 1155 = true by decide), if_neg one_ne, f6_mould_82, if_neg one_ne, if_pos (show ok 1012 1155 = true by decide), f6_mould_106, if_pos (show ok 1012 1155 = true by decide), up_self]
theorem mould_53_0 (N : Nat) (hN : 5000 ≤ N) (now was : Nat → Int32) {d : Nat} (hd : d ≤ 4) : f6_mould_53 N 0 now was (nI d) = some (now 1012, upd (upd now 1010 0) 1012 0, wasP d now was, nI (dP d)) := by
  rw [f6_mould_53, keeps_eq N hN now was hd]
  show (if ok 1010 1155 = true then (if (0 : Int32) = 0 then (if ok 1012 1155 = true then f6_mould_82 N 0 ((upd now 1010 0) 1012) (upd now 1010 0) (wasP d now was) (nI (dP d)) else none) else f6_mould_82 N 0 0 (upd now 1010 0) (wasP d now was) (nI (dP d))) else none) = _
  rw [if_pos (show ok 1010 1155 = true by decide), if_pos rfl, if_pos (show ok 1012 1155 = true by decide), f6_mould_82, if_pos rfl, f6_mould_106, if_pos (show ok 1012 1155 = true by decide), up_n (show (1012 : Nat) ≠ 1010 by decide)]
  rfl
theorem eq_mould (N : Nat) (hN : 5000 ≤ N) (l1 : Int32) {cav cor stg i d : Nat} {S H : Nat → tO} {now was : Nat → Int32} (hc : cav ≤ 6) (hs : stg ≤ 4) (h : RW cav cor stg i d S H now was) {v w : tO} (ev : v = S i) (ew : w = S ((i + 1) % 5)) :
    CH cav cor stg i d S H now was (f5_mould N l1 (nI i) (nI d) (v.2 0) (v.2 1) (v.2 2) (v.1 0) (v.1 1) (v.1 2) (v.1 3) (v.1 4) (v.1 5) (v.1 6) (v.1 7) (v.1 8) (v.2 3) (v.2 4) (w.2 0) (w.2 1) (w.2 2) (w.1 0) (w.1 1) (w.1 2) (w.1 3) (w.1 4) (w.1 5) (w.1 6) (w.1 7) (w.1 8) (w.2 3) (w.2 4)) (f6_mould N l1 now was (nI d)) := by
  obtain ⟨m, hm⟩ := RW_now h
  obtain ⟨hi, hd, -⟩ := id h
  have same : ∀ r : Int32, CH cav cor stg i d S H now was (some (outS r i d w)) (some (r, now, was, nI d)) := fun r => by rw [ew]; exact CH_same h r
  have hm0 := hm
  rw [← ev] at hm
  obtain ⟨f0, f2, f3⟩ := RS_fl hm
  obtain ⟨a10, -⟩ := hm.2.1
  obtain ⟨y, hy, a11, v1⟩ := hm.2.2.1
  obtain ⟨a12, -⟩ := hm.2.2.2.1
  obtain ⟨a13, -⟩ := hm.2.2.2.2.1
  rw [f5_mould, f6_mould, c_isFlag, r_isFlag]
  show CH cav cor stg i d S H now was (if bi (isb l1) = 0 then _ else _) (if bi (isb l1) = 0 then _ else _)
  by_cases hl : isb l1 = true
  · rw [if_neg (bi_1 hl), if_neg (bi_1 hl), if_pos (show ok 1010 1155 = true by decide), show Int32.toNatClampNeg 1010 = 1010 from rfl, a10]
    rcases of_decide_eq_true hl with rfl | rfl
    · rw [if_neg (show ¬ (0 : Int32) = 1 by decide), f5_openMould, if_pos (show (0 : Int32) = 0 from rfl)]
      by_cases hz : v.1 0 = 0
      · rw [if_pos hz, if_pos hz]
        exact same _
      · rw [if_neg hz, if_neg hz, if_pos (show ok 1011 1155 = true by decide), show Int32.toNatClampNeg 1011 = 1011 from rfl, a11, v1]
        by_cases hy0 : nI y = 0
        · rw [if_pos hy0, if_pos hy0, if_pos (show ok 1013 1155 = true by decide), show Int32.toNatClampNeg 1013 = 1013 from rfl, a13]
          rcases of_decide_eq_true f3 with h3 | h3
          · rw [if_pos h3, if_neg (show ¬ v.1 3 = 1 by rw [h3]; decide), mould_53_0 N hN now was hd, a12, f5_openMould_48, f5_openMould_48, startC N hi f0 f2 f3, next_eq hi, und_eq hd, ← v1]
            have key : CH cav cor stg i d S H now was (some (outS (v.1 2) ((i + 1) % 5) (dP d) (mkS ((cpS v w).2 0) ((cpS v w).2 1) ((cpS v w).2 2) 0 (v.1 1) 0 (v.1 3) (v.1 4) (v.1 5) (v.1 6) (v.1 7) (v.1 8) ((cpS v w).2 3) ((cpS v w).2 4)))) (some (v.1 2, upd (upd now 1010 0) 1012 0, wasP d now was, nI (dP d))) := by
              refine CH_push (w' := mkS ((cpS v w).2 0) ((cpS v w).2 1) ((cpS v w).2 2) 0 (v.1 1) 0 (v.1 3) (v.1 4) (v.1 5) (v.1 6) (v.1 7) (v.1 8) ((cpS v w).2 3) ((cpS v w).2 4)) hc hs h hm0 ?_ (v.1 2) (TB_uu (by omega) (by omega))
              refine RS_v hc hs (v := (va_up (va_up (cpS v w).1 0 0) 2 0, (cpS v w).2)) (fun k hk => ?_) (fun _ _ => rfl) (fun _ _ => rfl) (fun _ _ => rfl) (fun _ _ => rfl) (fun _ _ => rfl) (RS_open hc hs (RS_cp w hc hs hm))
              rcases (show k = 0 ∨ k = 1 ∨ k = 2 ∨ k = 3 ∨ k = 4 ∨ k = 5 ∨ k = 6 ∨ k = 7 ∨ k = 8 by omega) with rfl | rfl | rfl | rfl | rfl | rfl | rfl | rfl | rfl <;> rfl
            rcases of_decide_eq_true f2 with h2 | h2
            · rw [if_pos h2]
              rw [h2] at key
              rw [h2]
              exact key
            · rw [if_neg (show ¬ v.1 2 = 0 by rw [h2]; decide)]
              rw [h2] at key
              rw [h2]
              exact key
          · rw [if_neg (show ¬ v.1 3 = 0 by rw [h3]; decide), if_pos h3]
            exact same _
        · rw [if_neg hy0, if_neg hy0]
          exact same _
    · rw [if_pos (show (1 : Int32) = 1 from rfl), f5_shutMould, if_neg one_ne]
      rcases of_decide_eq_true f0 with h0 | h0
      · rw [if_pos h0, if_neg (show ¬ v.1 0 = 1 by rw [h0]; decide), mould_53_1 N hN now was hd, startC N hi f0 f2 f3, next_eq hi, und_eq hd]
        refine CH_push (w' := mkS ((cpS v w).2 0) ((cpS v w).2 1) ((cpS v w).2 2) 1 (v.1 1) (v.1 2) (v.1 3) (v.1 4) (v.1 5) (v.1 6) (v.1 7) (v.1 8) ((cpS v w).2 3) ((cpS v w).2 4)) hc hs h hm0 ?_ (0) (TB_u (by omega))
        refine RS_v hc hs (v := (va_up (cpS v w).1 0 1, (cpS v w).2)) (fun k hk => ?_) (fun _ _ => rfl) (fun _ _ => rfl) (fun _ _ => rfl) (fun _ _ => rfl) (fun _ _ => rfl) (RS_shut (x := 1) (by decide) hc hs (RS_cp w hc hs hm))
        rcases (show k = 0 ∨ k = 1 ∨ k = 2 ∨ k = 3 ∨ k = 4 ∨ k = 5 ∨ k = 6 ∨ k = 7 ∨ k = 8 by omega) with rfl | rfl | rfl | rfl | rfl | rfl | rfl | rfl | rfl <;> rfl
      · rw [if_neg (show ¬ v.1 0 = 0 by rw [h0]; decide), if_pos h0]
        exact same _
  · rw [if_pos (bi_0 hl), if_pos (bi_0 hl)]
    exact same _
