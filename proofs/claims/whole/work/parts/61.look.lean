/-! shots looked at -/
/-- the row of the shot that is the c-th of those that are kept -/
def hx (made c : Int32) : Nat := Int32.toNatClampNeg (fmodJ ((made - (if 12 < made then 12 else made)) + c) 16)
theorem kx_eq {m s : Nat} (hm : m ≤ 600) (hs : s < 16) : (nI m - (if (12 : Int32) < nI m then 12 else nI m)) + nI s = nI (m - min m 12 + s) := by
  rw [kept_eq hm, pk_sub (by omega), addn]
theorem hx_eq {m s : Nat} (hm : m ≤ 600) (hs : s < 16) : hx (nI m) (nI s) = (m - min m 12 + s) % 16 := by
  rw [hx, kx_eq hm hs, fmod_eq (by omega), cl_nI (by omega)]
theorem keptShot_ok (N : Nat) {m s : Nat} (hm : m ≤ 600) (hs : s < 16) : f5_keptShot N (nI s) (nI m) = some () := by
  rw [f5_keptShot, kx_eq hm hs, fmod_eq (by omega)]
  exact if_pos (ok_nI (Nat.mod_lt _ (by decide)) (by omega))
/-- the shot of the class and its row, by the relation -/
theorem RS_shot {cav cor stg : Nat} {v : tO} {H : Nat → tO} {a : Nat → Int32} {m s : Nat} (h : RS cav cor stg v H a m) (hs : s < min m 12) : RH cav (H (hx (nI m) (nI s))) (fun k => a (84 * s + k)) := by
  rw [hx_eq h.1.1 (by omega)]
  exact h.2.2.2.2.2.2.2.2.2.2.2 s hs
theorem a84 (s k : Nat) : (84 : Int32) * nI s + nI k = nI (84 * s + k) := by
  rw [show (84 : Int32) * nI s = nI (84 * s) from pk_mul 84 s, addn]
theorem eq_curve (N : Nat) (l1 l2 : Int32) {cav cor stg : Nat} {v : tO} {H : Nat → tO} {a : Nat → Int32} {m : Nat} (h : RS cav cor stg v H a m) : ∃ r : Int32, f5_curve N l1 l2 (v.1 4) ((H (hx (v.1 4) l1)).2 3) ((H (hx (v.1 4) l1)).1 2) = some r ∧ f6_curve N l1 l2 a = some r := by
  obtain ⟨hm6, v4, -, a8⟩ := h.1
  rw [f5_curve, f6_curve, v4, c_isShot N l1 hm6, r_isShot N l1 a8, c_isTick, isIn_eq]
  show ∃ r, (if bi (ok l1 _) = 0 then _ else (if bi _ = 0 then _ else _)) = some r ∧ (if bi (ok l1 _) = 0 then _ else (if bi _ = 0 then _ else _)) = some r
  by_cases hk : ok l1 (min m 12) = true
  · obtain ⟨s, hs, rfl⟩ := ok_of hk (by omega)
    rw [if_neg (bi_1 hk), if_neg (bi_1 hk)]
    by_cases ht : 1 ≤ l2 ∧ l2 ≤ 60
    · obtain ⟨h0, h1, h2, h3, h5, hb, hp, hc, t, t1, t60, ht'⟩ := RS_shot h hs
      obtain ⟨k, hk60, rfl⟩ := tick_iff ht
      have b1 : a (84 * s + 1) = nI t := h1.trans ht'
      have b2 : a (84 * s + (6 + k)) = (H (hx (nI m) (nI s))).2 3 k := hp k hk60
      rw [if_neg (bi_1 (decide_eq_true ht)), if_neg (bi_1 (decide_eq_true ht)), keptShot_ok N hm6 (by omega), ht', show (84 : Int32) * nI s + 1 = nI (84 * s + 1) from a84 s 1, show (84 : Int32) * nI s + 6 = nI (84 * s + 6) from a84 s 6, addn, show nI (84 * s + 6 + (k + 1)) - 1 = nI (84 * s + 6 + k) from nI_pred _, if_pos (ok_nI (n := 1155) (k := 84 * s + 1) (by omega) (by omega)), cl_nI (by omega), b1]
      show ∃ r, (if nI (k + 1) ≤ nI t then (if ok (nI (k + 1) - 1) 60 = true then some ((H (hx (nI m) (nI s))).2 3 (Int32.toNatClampNeg (nI (k + 1) - 1))) else none) else some (-4)) = some r ∧ _
      rw [nI_pred, if_pos (ok_nI (n := 60) (k := k) hk60 (by omega)), cl_nI (by omega)]
      by_cases hl : k + 1 ≤ t
      · rw [if_pos (nI_le hl (by omega)), if_neg (show ¬ nI t < nI (k + 1) from nI_nlt hl (by omega)), if_pos (ok_nI (n := 1155) (k := 84 * s + 6 + k) (by omega) (by omega)), cl_nI (by omega), show 84 * s + 6 + k = 84 * s + (6 + k) by omega, b2]
        exact ⟨_, rfl, rfl⟩
      · rw [if_neg (show ¬ nI (k + 1) ≤ nI t from nI_ge (by omega) (by omega)), if_pos (nI_lt (by omega) (by omega))]
        exact ⟨_, rfl, rfl⟩
    · rw [if_pos (bi_0 (fun q => ht (of_decide_eq_true q))), if_pos (bi_0 (fun q => ht (of_decide_eq_true q)))]
      exact ⟨_, rfl, rfl⟩
  · rw [if_pos (bi_0 hk), if_pos (bi_0 hk)]
    exact ⟨_, rfl, rfl⟩
