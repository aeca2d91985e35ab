/-! a unit comes into a cavity: both in closed form -/
theorem melt_form (N : Nat) {c x t : Nat} {has first full vol : Nat → Int32} (hc : c < 6) (hx : has c = nI x) (hx' : x < 2 ^ 20) : f2_addMelt N (nI c) has first full (nI t) vol = some (upd has c (nI (x + 1)), (if x = 0 then upd first c (nI t) else first), if nI (x + 1) = vol c then upd full c (nI t) else full) := by
  have e6 : ok (nI c) 6 = true := ok_nI hc (by omega)
  rw [f2_addMelt, if_pos e6, if_pos e6, cl_nI (show c < 2 ^ 31 by omega), hx]
  have k : ∀ fs : Nat → Int32, f2_addMelt_19 N (nI c) has fs full (nI t) vol = some (upd has c (nI (x + 1)), fs, if nI (x + 1) = vol c then upd full c (nI t) else full) := by
    intro fs
    rw [f2_addMelt_19, if_pos e6, if_pos e6, if_pos e6, if_pos e6, if_pos e6, cl_nI (show c < 2 ^ 31 by omega), hx, nI_1, up_s]
    by_cases h : nI (x + 1) = vol c
    · rw [if_pos h, if_pos h]
    · rw [if_neg h, if_neg h]
  by_cases h : x = 0
  · rw [if_pos (show nI x = 0 by rw [h]; rfl), if_pos h, k]
  · rw [if_neg (nI_ne0 (by omega) (by omega)), if_neg h, k]
theorem comes_form (N : Nat) {c x t : Nat} {one tv : Nat → Int32} (hc : c < 6) (hx : one (66 + c) = nI x) : f6_comes N (nI c) (nI t) tv one = some (upd (upd (upd one (66 + c) (nI (x + 1))) (78 + c) (if one (78 + c) = -4 then nI t else one (78 + c))) (72 + c) (if nI (x + 1) = tv c then nI t else one (72 + c))) := by
  have x1 : (66 : Int32) + nI c = nI (66 + c) := addn 66 c
  have x2 : (72 : Int32) + nI c = nI (72 + c) := addn 72 c
  have x3 : (78 : Int32) + nI c = nI (78 + c) := addn 78 c
  have o0 : ok (nI c) 6 = true := ok_nI hc (by omega)
  have o1 : ok (nI (66 + c)) 84 = true := ok_nI (by omega) (by omega)
  have o2 : ok (nI (72 + c)) 84 = true := ok_nI (by omega) (by omega)
  have o3 : ok (nI (78 + c)) 84 = true := ok_nI (by omega) (by omega)
  have c0 : Int32.toNatClampNeg (nI c) = c := cl_nI (by omega)
  have c1 : Int32.toNatClampNeg (nI (66 + c)) = 66 + c := cl_nI (by omega)
  have c2 : Int32.toNatClampNeg (nI (72 + c)) = 72 + c := cl_nI (by omega)
  have c3 : Int32.toNatClampNeg (nI (78 + c)) = 78 + c := cl_nI (by omega)
  have k : ∀ s2 : Int32, f6_comes_48 N (nI c) (nI t) (nI (78 + c)) s2 tv (upd one (66 + c) (nI (x + 1))) = some (upd (upd (upd one (66 + c) (nI (x + 1))) (78 + c) s2) (72 + c) (if nI (x + 1) = tv c then nI t else one (72 + c))) := by
    intro s2
    rw [f6_comes_48, x1, x2, if_pos o3, if_pos o1, if_pos o0, c0, c1, c3, up_n (show 66 + c ≠ 78 + c by omega), up_s]
    by_cases h : nI (x + 1) = tv c
    · rw [if_pos h, if_pos h, f6_comes_88, if_pos o2, c2]
    · rw [if_neg h, if_neg h, if_pos o2, f6_comes_88, if_pos o2, c2, up_n (show 72 + c ≠ 78 + c by omega), up_n (show 72 + c ≠ 66 + c by omega)]
  rw [f6_comes, x1, x3, if_pos o1, if_pos o1, if_pos o3, c1, c3, hx, nI_1, up_n (show 78 + c ≠ 66 + c by omega)]
  by_cases h : one (78 + c) = -4
  · rw [if_pos h, if_pos h, k]
  · rw [if_neg h, if_neg h, if_pos o3, k]
