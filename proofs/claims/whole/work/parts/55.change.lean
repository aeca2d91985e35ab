/-! changes: what is now is copied, something in the copy is other -/
def outS (r : Int32) (i d : Nat) (w : tO) : Int32 × Int32 × Int32 × (Nat → Int32) × (Nat → Int32) × (Nat → Int32) × Int32 × Int32 × Int32 × Int32 × Int32 × Int32 × Int32 × Int32 × Int32 × (Nat → Int32) × (Nat → Int32) :=
  (r, nI i, nI d, w.2 0, w.2 1, w.2 2, w.1 0, w.1 1, w.1 2, w.1 3, w.1 4, w.1 5, w.1 6, w.1 7, w.1 8, w.2 3, w.2 4)
/-- of no state on the stack more than K shots are made, or taught -/
def MB (d : Nat) (now was : Nat → Int32) (K : Nat) : Prop := ∀ j, j ≤ d → ∃ m T : Nat, m ≤ K ∧ T ≤ K ∧ wasAt d now was j 1009 = nI m ∧ wasAt d now was j 1015 = nI T
theorem MB_up {d : Nat} {now was : Nat → Int32} {K : Nat} (h : MB d now was K) : MB d now was (K + 1) := by
  intro j hj
  obtain ⟨m, T, h1, h2, h3, h4⟩ := h j hj
  exact ⟨m, T, by omega, by omega, h3, h4⟩
theorem MB_now {d : Nat} {now was : Nat → Int32} {K : Nat} (h : MB d now was K) : ∃ m T : Nat, m ≤ K ∧ T ≤ K ∧ now 1009 = nI m ∧ now 1015 = nI T := by
  have h1 := h d (Nat.le_refl d)
  rw [wasAt, if_pos rfl] at h1
  exact h1
theorem MB_push {d : Nat} {now now' was : Nat → Int32} {K : Nat} (hd : d ≤ 4) (hB : MB d now was K) (hn : ∃ m T : Nat, m ≤ K + 1 ∧ T ≤ K + 1 ∧ now' 1009 = nI m ∧ now' 1015 = nI T) : MB (dP d) now' (wasP d now was) (K + 1) := by
  intro j hj
  by_cases h4 : d = 4
  · subst h4
    have hj4 : j ≤ 4 := hj
    by_cases e : j = 4
    · rw [wasAt, if_pos (show j = dP 4 from e)]; exact hn
    · obtain ⟨m, T, h1, h2, h3, h5⟩ := hB (j + 1) (by omega)
      have q : ∀ k, k < 1155 → wasAt (dP 4) now' (wasP 4 now was) j k = wasAt 4 now was (j + 1) k := by
        intro k hk
        rw [wasAt, if_neg (show ¬ j = dP 4 from e), wasP_hi now was (by omega) hk, wasAt]
        by_cases h3 : j = 3
        · subst h3; rw [if_pos rfl, if_pos rfl]
        · rw [if_neg h3, if_neg (by omega)]
      exact ⟨m, T, by omega, by omega, (q _ (by decide)).trans h3, (q _ (by decide)).trans h5⟩
  · have e1 : dP d = d + 1 := if_neg h4
    by_cases e : j = d + 1
    · rw [wasAt, if_pos (by omega)]; exact hn
    · obtain ⟨m, T, h1, h2, h3, h5⟩ := hB j (by omega)
      have q : ∀ k, k < 1155 → wasAt (dP d) now' (wasP d now was) j k = wasAt d now was j k := by
        intro k hk
        rw [wasAt, if_neg (show ¬ j = dP d by omega), wasP_lo (by omega) now was (by omega) hk, wasAt]
        by_cases h3 : j = d
        · subst h3; rw [if_pos rfl, if_pos rfl]
        · rw [if_neg h3, if_neg h3]
      exact ⟨m, T, by omega, by omega, (q _ (by decide)).trans h3, (q _ (by decide)).trans h5⟩
theorem MB_undo {d : Nat} {now was : Nat → Int32} {K : Nat} (hB : MB (d + 1) now was K) : MB d (fun j => if j < 1155 then was (1155 * d + j) else now j) was (K + 1) := by
  intro j hj
  obtain ⟨m, T, h1, h2, h3, h4⟩ := hB j (by omega)
  have q : ∀ k, k < 1155 → wasAt d (fun j => if j < 1155 then was (1155 * d + j) else now j) was j k = wasAt (d + 1) now was j k := by
    intro k hk
    rw [wasAt, wasAt, if_neg (show ¬ j = d + 1 by omega)]
    by_cases e : j = d
    · subst e; rw [if_pos rfl, if_pos hk]
    · rw [if_neg e]
  exact ⟨m, T, by omega, by omega, (q _ (by decide)).trans h3, (q _ (by decide)).trans h4⟩
/-- at most one more is taught -/
def TchB (now now' : Nat → Int32) : Prop := ∀ T : Nat, now 1015 = nI T → ∃ T' : Nat, T' ≤ T + 1 ∧ now' 1015 = nI T'
theorem TB_u {now : Nat → Int32} {p : Nat} {x : Int32} (hp : 1015 ≠ p) : TchB now (upd now p x) := fun T h => ⟨T, by omega, (up_n hp).trans h⟩
theorem TB_uu {now : Nat → Int32} {p q : Nat} {x y : Int32} (hp : 1015 ≠ p) (hq : 1015 ≠ q) : TchB now (upd (upd now p x) q y) := fun T h => ⟨T, by omega, (up_n hq).trans ((up_n hp).trans h)⟩
theorem TB_0 {now : Nat → Int32} : TchB now (upd now 1015 0) := fun T h => ⟨0, by omega, up_s⟩
theorem MB_of {cav cor stg : Nat} {v w : tO} {H H' : Nat → tO} {now now' : Nat → Int32} {m m' : Nat} (h : RS cav cor stg v H now m) (h' : RS cav cor stg w H' now' m') (hm : m' ≤ m + 1) (hT : TchB now now') {d : Nat} {was : Nat → Int32} {K : Nat} (hK : K ≤ 600) (hB : MB d now was K) : ∃ m T : Nat, m ≤ K + 1 ∧ T ≤ K + 1 ∧ now' 1009 = nI m ∧ now' 1015 = nI T := by
  obtain ⟨q, T, h1, h2, h3, h4⟩ := MB_now hB
  have e : q = m := (nI_eq (by omega) (by have := h.1.1; omega)).mp (h3.symm.trans h.1.2.2.1)
  obtain ⟨T', t1, t2⟩ := hT T h4
  exact ⟨m', T', by omega, by omega, h'.1.2.2.1, t2⟩
/-- a call that may change: class and reference answer the same, and hold the same -/
def CH (cav cor stg i d : Nat) (S H : Nat → tO) (now was : Nat → Int32) (c : Option (Int32 × Int32 × Int32 × (Nat → Int32) × (Nat → Int32) × (Nat → Int32) × Int32 × Int32 × Int32 × Int32 × Int32 × Int32 × Int32 × Int32 × Int32 × (Nat → Int32) × (Nat → Int32))) (f : Option (Int32 × (Nat → Int32) × (Nat → Int32) × Int32)) : Prop :=
  ∃ (r : Int32) (i' d' : Nat) (w' : tO) (now' was' : Nat → Int32), c = some (outS r i' d' w') ∧ f = some (r, now', was', nI d') ∧ RW cav cor stg i' d' (va_up S ((i + 1) % 5) w') H now' was' ∧ ∀ K, K ≤ 600 → MB d now was K → MB d' now' was' (K + 1)
theorem CH_same {cav cor stg i d : Nat} {S H : Nat → tO} {now was : Nat → Int32} (h : RW cav cor stg i d S H now was) (r : Int32) : CH cav cor stg i d S H now was (some (outS r i d (S ((i + 1) % 5)))) (some (r, now, was, nI d)) := by
  refine ⟨r, i, d, _, now, was, rfl, rfl, ?_, fun K hK hB => MB_up hB⟩
  have e : va_up S ((i + 1) % 5) (S ((i + 1) % 5)) = S := by
    funext j
    by_cases hj : j = (i + 1) % 5
    · subst hj; exact vu_s
    · exact vu_n hj
  rw [e]; exact h
theorem CH_push {cav cor stg i d : Nat} {S H : Nat → tO} {now was now' : Nat → Int32} {w' : tO} {m : Nat} (hc : cav ≤ 6) (hs : stg ≤ 4) (h : RW cav cor stg i d S H now was) (hm : RS cav cor stg (S i) H now m) (hR : RS cav cor stg w' H now' m) (r : Int32) (hT : TchB now now') : CH cav cor stg i d S H now was (some (outS r ((i + 1) % 5) (dP d) w')) (some (r, now', wasP d now was, nI (dP d))) :=
  ⟨r, _, _, w', now', _, rfl, rfl, RW_push hc hs h hm ⟨Nat.le_refl _, Nat.le_succ _⟩ hR (fun _ _ _ => rfl), fun K hK hB => MB_push h.2.1 hB (MB_of hm hR (Nat.le_succ _) hT hK hB)⟩
/-- a state copied over another -/
def cpS (v w : tO) : tO := mkS (va_cpy (v.2 0) (w.2 0) (Int32.toNatClampNeg 0) (Int32.toNatClampNeg 0) (Int32.toNatClampNeg 6)) (va_cpy (v.2 1) (w.2 1) (Int32.toNatClampNeg 0) (Int32.toNatClampNeg 0) (Int32.toNatClampNeg 4)) (va_cpy (v.2 2) (w.2 2) (Int32.toNatClampNeg 0) (Int32.toNatClampNeg 0) (Int32.toNatClampNeg 6)) (v.1 0) (v.1 1) (v.1 2) (v.1 3) (v.1 4) (v.1 5) (v.1 6) (v.1 7) (v.1 8) (va_cpy (v.2 3) (w.2 3) (Int32.toNatClampNeg 0) (Int32.toNatClampNeg 0) (Int32.toNatClampNeg 60)) (va_cpy (v.2 4) (w.2 4) (Int32.toNatClampNeg 0) (Int32.toNatClampNeg 0) (Int32.toNatClampNeg 60))
theorem RS_v {cav cor stg : Nat} {v v' : tO} {H : Nat → tO} {a : Nat → Int32} {m : Nat} (hc : cav ≤ 6) (hs : stg ≤ 4) (e : ∀ k, k < 9 → v'.1 k = v.1 k) (e0 : ∀ c, c < 6 → v'.2 0 c = v.2 0 c) (e1 : ∀ c, c < 4 → v'.2 1 c = v.2 1 c) (e2 : ∀ c, c < 6 → v'.2 2 c = v.2 2 c) (e3 : ∀ c, c < 60 → v'.2 3 c = v.2 3 c) (e4 : ∀ c, c < 60 → v'.2 4 c = v.2 4 c) (hR : RS cav cor stg v H a m) : RS cav cor stg v' H a m := by
  obtain ⟨⟨m1, m2, m3, m4⟩, ⟨s1, s2⟩, ⟨x, i1, i2, i3⟩, ⟨l1, l2⟩, ⟨o1, o2⟩, ⟨w, w1, w2, w3⟩, ⟨T, t1, t2, t3, t4, t5⟩, hd, hsp, hse, hh, hsh⟩ := hR
  refine ⟨⟨m1, (e 4 (by omega)).trans m2, m3, m4⟩, ?_, ⟨x, i1, i2, (e 1 (by omega)).trans i3⟩, ?_, ?_, ⟨w, w1, w2, (e 5 (by omega)).trans w3⟩, ⟨T, t1, t2, (e 6 (by omega)).trans t3, fun hT => (e 8 (by omega)).trans (t4 hT), fun hT => ?_⟩, fun c hc' => ?_, fun k hk => ?_, fun k hk => ?_, fun hh' => ?_, hsh⟩
  · rw [e 0 (by omega)]; exact ⟨s1, s2⟩
  · rw [e 2 (by omega)]; exact ⟨l1, l2⟩
  · rw [e 3 (by omega)]; exact ⟨o1, o2⟩
  · obtain ⟨a1, a2, a3, a4⟩ := t5 hT
    rw [e 7 (by omega), e 8 (by omega)]
    exact ⟨a1, a2, a3, fun k hk => by rw [e3 k hk, e4 k hk]; exact a4 k hk⟩
  · rw [e0 c (by omega)]; exact hd c hc'
  · rw [e1 k (by omega)]; exact hsp k hk
  · rw [e2 k (by omega)]; exact hse k hk
  · rw [e 3 (by omega)] at hh'; exact hh hh'
theorem cpS_1 (v w : tO) : ∀ k, k < 9 → (cpS v w).1 k = v.1 k := by
  intro k hk
  rcases (show k = 0 ∨ k = 1 ∨ k = 2 ∨ k = 3 ∨ k = 4 ∨ k = 5 ∨ k = 6 ∨ k = 7 ∨ k = 8 by omega) with rfl | rfl | rfl | rfl | rfl | rfl | rfl | rfl | rfl <;> rfl
theorem RS_cp {cav cor stg : Nat} {v : tO} (w : tO) {H : Nat → tO} {a : Nat → Int32} {m : Nat} (hc : cav ≤ 6) (hs : stg ≤ 4) (hR : RS cav cor stg v H a m) : RS cav cor stg (cpS v w) H a m :=
  RS_v hc hs (cpS_1 v w) (fun _ h => cp_in h) (fun _ h => cp_in h) (fun _ h => cp_in h) (fun _ h => cp_in h) (fun _ h => cp_in h) hR
/-- a drag is other -/
theorem RS_drag {cav cor stg : Nat} {v v' : tO} {H : Nat → tO} {a : Nat → Int32} {m j x : Nat} (hc : cav ≤ 6) (hx : 1 ≤ x ∧ x ≤ 9) (hj : j < cav) (e : v' = (v.1, va_up v.2 0 (upd (v.2 0) j (nI x)))) (hR : RS cav cor stg v H a m) : RS cav cor stg v' H (upd a (1139 + j) (nI x)) m := by
  subst e
  obtain ⟨⟨m1, m2, m3, m4⟩, ⟨s1, s2⟩, ⟨y, i1, i2, i3⟩, ⟨l1, l2⟩, ⟨o1, o2⟩, ⟨w, w1, w2, w3⟩, ⟨T, t1, t2, t3, t4, t5⟩, hd, hsp, hse, hh, hsh⟩ := hR
  have u : ∀ k, k ≠ 1139 + j → upd a (1139 + j) (nI x) k = a k := fun k h => up_n h
  refine ⟨⟨m1, m2, (u _ (by omega)).trans m3, (u _ (by omega)).trans m4⟩, ⟨(u _ (by omega)).trans s1, s2⟩, ⟨y, i1, (u _ (by omega)).trans i2, i3⟩, ⟨(u _ (by omega)).trans l1, l2⟩, ⟨(u _ (by omega)).trans o1, o2⟩, ⟨w, w1, (u _ (by omega)).trans w2, w3⟩, ⟨T, t1, (u _ (by omega)).trans t2, t3, t4, fun hT => ?_⟩, fun c hc' => ?_, fun k hk => ?_, fun k hk => ?_, fun hh' => ?_, fun q hq => ?_⟩
  · obtain ⟨a1, a2, a3, a4⟩ := t5 hT
    exact ⟨(u _ (by omega)).trans a1, (u _ (by omega)).trans a2, a3, fun k hk => ⟨(u _ (by omega)).trans (a4 k hk).1, (u _ (by omega)).trans (a4 k hk).2⟩⟩
  · show upd a (1139 + j) (nI x) (1139 + c) = upd (v.2 0) j (nI x) c ∧ ∃ r : Nat, 1 ≤ r ∧ r ≤ 9 ∧ upd (v.2 0) j (nI x) c = nI r
    by_cases hcj : c = j
    · subst hcj
      rw [up_s, up_s]
      exact ⟨rfl, x, hx.1, hx.2, rfl⟩
    · rw [up_n (by omega), up_n hcj]
      exact hd c hc'
  · exact ⟨(u _ (by omega)).trans (hsp k hk).1, (hsp k hk).2⟩
  · exact ⟨(u _ (by omega)).trans (hse k hk).1, (hse k hk).2⟩
  · exact ⟨(hh hh').1, (u _ (by omega)).trans (hh hh').2⟩
  · exact RH_cg hc (fun k hk => u _ (by omega)) (hsh q hq)
theorem becomes_eq (N : Nat) (hN : 5000 ≤ N) (x : Int32) (now was : Nat → Int32) {p d : Nat} (hp : p < 1155) (hd : d ≤ 4) : f6_becomes N (nI p) x now was (nI d) = if now p = x then some (-2, now, was, nI d) else some (now p, upd now p x, wasP d now was, nI (dP d)) := by
  rw [f6_becomes, if_pos (ok_nI hp (by omega)), cl_nI (by omega), keeps_eq N hN now was hd]
  show (if now p = x then _ else (if ok (nI p) 1155 = true then some (now p, upd now p x, wasP d now was, nI (dP d)) else none)) = _
  rw [if_pos (ok_nI hp (by omega))]
theorem nine {c : Int32} (h : 1 ≤ c ∧ c ≤ 9) : ∃ x : Nat, 1 ≤ x ∧ x ≤ 9 ∧ c = nI x := by
  have o : (1 : Int32).toInt = 1 := rfl
  have n : (9 : Int32).toInt = 9 := rfl
  rw [i_le, i_le] at h
  have h0 : ok c 10 = true := decide_eq_true (by omega)
  obtain ⟨k, hk, rfl⟩ := ok_of h0 (by decide)
  rw [nI_toInt (by omega)] at h
  exact ⟨k, by omega, by omega, rfl⟩
theorem RS_dr {cav cor stg : Nat} {v : tO} {H : Nat → tO} {a : Nat → Int32} {m : Nat} (h : RS cav cor stg v H a m) {c : Nat} (hc : c < cav) : a (1139 + c) = v.2 0 c := (h.2.2.2.2.2.2.2.1 c hc).1
theorem RS_fl {cav cor stg : Nat} {v : tO} {H : Nat → tO} {a : Nat → Int32} {m : Nat} (h : RS cav cor stg v H a m) : isb (v.1 0) = true ∧ isb (v.1 2) = true ∧ isb (v.1 3) = true := ⟨h.2.1.2, h.2.2.2.1.2, h.2.2.2.2.1.2⟩
theorem eq_drag (N : Nat) (hN : 5000 ≤ N) (l1 l2 : Int32) {cav cor stg i d : Nat} {S H : Nat → tO} {now was : Nat → Int32} (hc : cav ≤ 6) (hs : stg ≤ 4) (h : RW cav cor stg i d S H now was) {v w : tO} (ev : v = S i) (ew : w = S ((i + 1) % 5)) :
    CH cav cor stg i d S H now was (f5_drag N l1 l2 (nI i) (nI d) (nI cav) (v.2 0) (v.2 1) (v.2 2) (v.1 0) (v.1 1) (v.1 2) (v.1 3) (v.1 4) (v.1 5) (v.1 6) (v.1 7) (v.1 8) (v.2 3) (v.2 4) (w.2 0) (w.2 1) (w.2 2) (w.1 0) (w.1 1) (w.1 2) (w.1 3) (w.1 4) (w.1 5) (w.1 6) (w.1 7) (w.1 8) (w.2 3) (w.2 4)) (f6_drag N l1 l2 (nI cav) now was (nI d)) := by
  obtain ⟨m, hm⟩ := RW_now h
  obtain ⟨hi, hd, -⟩ := id h
  have same : ∀ r : Int32, CH cav cor stg i d S H now was (some (outS r i d w)) (some (r, now, was, nI d)) := fun r => by rw [ew]; exact CH_same h r
  rw [← ev] at hm
  obtain ⟨f0, f2, f3⟩ := RS_fl hm
  rw [f5_drag, f6_drag, c_isCavity N l1 (by omega), r_isCavity N l1 (by omega), isIn_eq]
  show CH cav cor stg i d S H now was (if bi (ok l1 cav) = 0 then _ else _) (if bi (ok l1 cav) = 0 then _ else (if bi _ = 0 then _ else _))
  by_cases hk : ok l1 cav = true
  · obtain ⟨j, hj, rfl⟩ := ok_of hk (by omega)
    rw [if_neg (bi_1 hk), if_neg (bi_1 hk)]
    by_cases hx : 1 ≤ l2 ∧ l2 ≤ 9
    · rw [if_neg (i_nlt.mpr hx.1), if_pos hx.2, if_neg (bi_1 (decide_eq_true hx)), if_pos (ok_nI (by omega) (by omega)), cl_nI (by omega), show (1139 : Int32) + nI j = nI (1139 + j) from addn 1139 j, becomes_eq N hN l2 now was (by omega) hd, RS_dr hm hj]
      by_cases he : v.2 0 j = l2
      · rw [if_pos he, if_pos he]
        exact same _
      · rw [if_neg he, if_neg he, startC N hi f0 f2 f3]
        obtain ⟨x, x1, x9, rfl⟩ := nine hx
        show CH cav cor stg i d S H now was (if ok (nI j) 6 = true then _ else _) (some (v.2 0 j, upd now (1139 + j) (nI x), wasP d now was, nI (dP d)))
        rw [if_pos (ok_nI (by omega) (by omega)), next_eq hi, und_eq hd]
        refine CH_push (w' := mkS (upd ((cpS v w).2 0) j (nI x)) ((cpS v w).2 1) ((cpS v w).2 2) (v.1 0) (v.1 1) (v.1 2) (v.1 3) (v.1 4) (v.1 5) (v.1 6) (v.1 7) (v.1 8) ((cpS v w).2 3) ((cpS v w).2 4)) hc hs h (by rw [← ev]; exact hm) ?_ (v.2 0 j) (TB_u (by omega))
        refine RS_v hc hs (v := ((cpS v w).1, va_up (cpS v w).2 0 (upd ((cpS v w).2 0) j (nI x)))) (fun k hk => ?_) (fun _ _ => rfl) (fun _ _ => rfl) (fun _ _ => rfl) (fun _ _ => rfl) (fun _ _ => rfl) (RS_drag hc ⟨x1, x9⟩ hj rfl (RS_cp w hc hs hm))
        rcases (show k = 0 ∨ k = 1 ∨ k = 2 ∨ k = 3 ∨ k = 4 ∨ k = 5 ∨ k = 6 ∨ k = 7 ∨ k = 8 by omega) with rfl | rfl | rfl | rfl | rfl | rfl | rfl | rfl | rfl <;> rfl
    · rw [if_pos (bi_0 (fun q => hx (of_decide_eq_true q)))]
      by_cases h1 : l2 < 1
      · rw [if_pos h1]; exact same _
      · rw [if_neg h1, if_neg (fun h9 => hx ⟨i_nlt.mp h1, h9⟩)]; exact same _
  · rw [if_pos (bi_0 hk), if_pos (bi_0 hk)]
    exact same _
