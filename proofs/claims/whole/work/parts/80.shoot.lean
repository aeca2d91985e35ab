/-! shoot -/
theorem sh46 (N : Nat) (hN : 5000 ≤ N) {was one : Nat → Int32} {ch sc : Int32} : ∀ (m n k : Nat) (now : Nat → Int32), k + m = 924 → m < n → ∃ now' : Nat → Int32, f6_shoot_46 N n (nI k) now was ch one sc = f6_shoot_88 N N 0 (upd now' 1008 (now' 1008 - 1)) was ch one sc ∧ ∀ j, now' j = if k ≤ j ∧ j < 924 then now (j + 84) else now j := by
  intro m
  induction m with
  | zero =>
    intro n k now hk hn
    obtain ⟨n, rfl⟩ : ∃ q, n = q + 1 := ⟨n - 1, by omega⟩
    refine ⟨now, ?_, fun j => (if_neg (by omega)).symm⟩
    rw [f6_shoot_46, if_pos (show (924 : Int32) ≤ nI k from nI_le (a := 924) (by omega) (by omega)), if_pos (show ok 1008 1155 = true by decide), if_pos (show ok 1008 1155 = true by decide)]; rfl
  | succ m ih =>
    intro n k now hk hn
    obtain ⟨n, rfl⟩ : ∃ q, n = q + 1 := ⟨n - 1, by omega⟩
    obtain ⟨now', h1, h2⟩ := ih n (k + 1) (upd now k (now (k + 84))) (by omega) (by omega)
    refine ⟨now', ?_, fun j => ?_⟩
    · rw [f6_shoot_46, if_neg (show ¬ (924 : Int32) ≤ nI k from nI_ge (b := 924) (by omega) (by omega)), show nI k + (84 : Int32) = nI (k + 84) from addn k 84, if_pos (ok_nI (n := 1155) (k := k + 84) (by omega) (by omega)), if_pos (ok_nI (n := 1155) (k := k) (by omega) (by omega)), cl_nI (by omega), cl_nI (by omega), nI_1]
      exact h1
    · rw [h2 j]
      by_cases z : k + 1 ≤ j ∧ j < 924
      · rw [if_pos z, if_pos (by omega), up_n (by omega)]
      · rw [if_neg z]
        by_cases y : j = k
        · rw [if_pos (by omega), y, up_s]
        · rw [if_neg (by omega), up_n y]
/-- the row behind a shot -/
def shRow (q : Nat) (now : Nat → Int32) : Nat → Int32 := upd (upd (upd (upd (upd now 1008 (nI (q + 1))) 1009 (now 1009 + 1)) 1012 1) 1013 1) 1014 (now 1154)
theorem sh88 (N : Nat) {was one : Nat → Int32} {ch sc : Int32} {q : Nat} (hq : q ≤ 11) : ∀ (m n k : Nat) (now : Nat → Int32), k + m = 84 → m < n → now 1008 = nI q → ∃ now' : Nat → Int32, f6_shoot_88 N n (nI k) now was ch one sc = some (one 5, shRow q now', was, ch, one, sc) ∧ ∀ j, now' j = if 84 * q + k ≤ j ∧ j < 84 * q + 84 then one (j - 84 * q) else now j := by
  intro m
  induction m with
  | zero =>
    intro n k now hk hn h8
    obtain ⟨n, rfl⟩ : ∃ q, n = q + 1 := ⟨n - 1, by omega⟩
    refine ⟨now, ?_, fun j => (if_neg (by omega)).symm⟩
    have c8 : Int32.toNatClampNeg 1008 = 1008 := rfl
    have c9 : Int32.toNatClampNeg 1009 = 1009 := rfl
    have c12 : Int32.toNatClampNeg 1012 = 1012 := rfl
    have c13 : Int32.toNatClampNeg 1013 = 1013 := rfl
    have c14 : Int32.toNatClampNeg 1014 = 1014 := rfl
    have c54 : Int32.toNatClampNeg 1154 = 1154 := rfl
    have c5 : Int32.toNatClampNeg 5 = 5 := rfl
    rw [f6_shoot_88, if_pos (show (84 : Int32) ≤ nI k from nI_le (a := 84) (by omega) (by omega)), if_pos (show ok 1008 1155 = true by decide), if_pos (show ok 1008 1155 = true by decide), if_pos (show ok 1009 1155 = true by decide), if_pos (show ok 1009 1155 = true by decide), if_pos (show ok 1012 1155 = true by decide), if_pos (show ok 1013 1155 = true by decide), if_pos (show ok 1154 1155 = true by decide), if_pos (show ok 1014 1155 = true by decide), if_pos (show ok 5 84 = true by decide), c8, c9, c12, c13, c14, c54, c5, h8, nI_1, up_n (show 1154 ≠ 1013 by decide), up_n (show 1154 ≠ 1012 by decide), up_n (show 1154 ≠ 1009 by decide), up_n (show 1154 ≠ 1008 by decide), up_n (show 1009 ≠ 1008 by decide)]
    rfl
  | succ m ih =>
    intro n k now hk hn h8
    obtain ⟨n, rfl⟩ : ∃ q, n = q + 1 := ⟨n - 1, by omega⟩
    obtain ⟨now', h1, h2⟩ := ih n (k + 1) (upd now (84 * q + k) (one k)) (by omega) (by omega) ((up_n (by omega)).trans h8)
    refine ⟨now', ?_, fun j => ?_⟩
    · rw [f6_shoot_88, if_neg (show ¬ (84 : Int32) ≤ nI k from nI_ge (b := 84) (by omega) (by omega)), if_pos (show ok 1008 1155 = true by decide), if_pos (ok_nI (n := 84) (k := k) (by omega) (by omega)), show Int32.toNatClampNeg 1008 = 1008 from rfl, h8, a84, if_pos (ok_nI (n := 1155) (k := 84 * q + k) (by omega) (by omega)), cl_nI (by omega), cl_nI (by omega), nI_1]
      exact h1
    · rw [h2 j]
      by_cases z : 84 * q + (k + 1) ≤ j ∧ j < 84 * q + 84
      · rw [if_pos z, if_pos (by omega)]
      · rw [if_neg z]
        by_cases y : j = 84 * q + k
        · rw [if_pos (by omega), y, up_s, show 84 * q + k - 84 * q = k by omega]
        · rw [if_neg (by omega), up_n y]
theorem sh_row (N : Nat) (hN : 5000 ≤ N) {now was one : Nat → Int32} {ch sc : Int32} {m : Nat} (h8 : now 1008 = nI (min m 12)) : ∃ now' : Nat → Int32, (if now 1008 = 12 then f6_shoot_46 N N 0 now was ch one sc else f6_shoot_88 N N 0 now was ch one sc) = some (one 5, shRow (min m 11) now', was, ch, one, sc) ∧ (∀ k, 1009 ≤ k → now' k = now k) ∧ (∀ k, k < 84 → now' (84 * min m 11 + k) = one k) ∧ ∀ j k, j < min m 11 → k < 84 → now' (84 * j + k) = now (84 * (if m < 12 then j else j + 1) + k) := by
  by_cases z : m < 12
  · have e : min m 12 = m := by omega
    have e' : min m 11 = m := by omega
    obtain ⟨now', h1, h2⟩ := sh88 N (was := was) (one := one) (ch := ch) (sc := sc) (q := m) (by omega) 84 N 0 now (by omega) (by omega) (by rw [h8, e])
    rw [e', if_neg (show ¬ now 1008 = 12 by rw [h8, e]; exact fun q => by have := (nI_eq (b := 12) (by omega) (by omega)).mp q; omega)]
    refine ⟨now', h1, fun k hk => ?_, fun k hk => ?_, fun j k hj hk => ?_⟩
    · rw [h2, if_neg (by omega)]
    · rw [h2, if_pos (by omega)]; congr 1; omega
    · rw [h2, if_neg (by omega), if_pos z]
  · have e : min m 12 = 12 := by omega
    have e' : min m 11 = 11 := by omega
    obtain ⟨now1, g1, g2⟩ := sh46 N hN (was := was) (one := one) (ch := ch) (sc := sc) 924 N 0 now (by omega) (by omega)
    have g8 : now1 1008 = nI 12 := by rw [g2, if_neg (by omega), h8, e]
    obtain ⟨now', h1, h2⟩ := sh88 N (was := was) (one := one) (ch := ch) (sc := sc) (q := 11) (by omega) 84 N 0 (upd now1 1008 (now1 1008 - 1)) (by omega) (by omega) (by rw [up_s, g8]; rfl)
    rw [e', if_pos (show now 1008 = 12 by rw [h8, e]; rfl)]
    refine ⟨now', g1.trans h1, fun k hk => ?_, fun k hk => ?_, fun j k hj hk => ?_⟩
    · rw [h2, if_neg (by omega), up_n (by omega), g2, if_neg (by omega)]
    · rw [h2, if_pos (by omega)]; exact congrArg one (by omega)
    · rw [h2, if_neg (by omega), up_n (by omega), g2, if_pos (by omega), if_neg z]
      congr 1; omega
theorem RS_shoot {cav cor stg : Nat} {v g : tO} {H : Nat → tO} {a a2 one : Nat → Int32} {m : Nat} (hc : cav ≤ 6) (hs : stg ≤ 4) (hm : m < 600) (hg : RH cav g one) (e8 : a2 1008 = nI (min (m + 1) 12)) (e9 : a2 1009 = nI (m + 1)) (e12 : a2 1012 = 1) (e13 : a2 1013 = 1) (e14 : a2 1014 = g.1 3) (u : ∀ k, 1010 ≤ k → k ≠ 1012 → k ≠ 1013 → k ≠ 1014 → a2 k = a k) (el : ∀ k, k < 84 → a2 (84 * min m 11 + k) = one k) (er : ∀ j k, j < min m 11 → k < 84 → a2 (84 * j + k) = a (84 * (if m < 12 then j else j + 1) + k)) (hR : RS cav cor stg v H a m) : RS cav cor stg (va_up (va_up (va_up v.1 2 1) 3 1) 4 (nI (m + 1)), v.2) (va_up H (m % 16) g) a2 (m + 1) := by
  obtain ⟨⟨m1, m2, m3, m4⟩, ⟨s1, s2⟩, ⟨y, i1, i2, i3⟩, ⟨l1, l2⟩, ⟨o1, o2⟩, ⟨w, w1, w2, w3⟩, ⟨T, t1, t2, t3, t4, t5⟩, hd, hsp, hse, hh, hsh⟩ := hR
  refine ⟨⟨by omega, rfl, e9, e8⟩, ⟨(u _ (by omega) (by omega) (by omega) (by omega)).trans s1, s2⟩, ⟨y, i1, (u _ (by omega) (by omega) (by omega) (by omega)).trans i2, i3⟩, ⟨e12, show isb (1 : Int32) = true by decide⟩, ⟨e13, show isb (1 : Int32) = true by decide⟩, ⟨w, w1, (u _ (by omega) (by omega) (by omega) (by omega)).trans w2, w3⟩, ⟨T, t1, (u _ (by omega) (by omega) (by omega) (by omega)).trans t2, t3, t4, fun hT => ?_⟩, fun c hc' => ?_, fun k hk => ?_, fun k hk => ?_, fun _ => ⟨by omega, ?_⟩, fun q hq => ?_⟩
  · obtain ⟨a1, a2, a3, a4⟩ := t5 hT
    exact ⟨(u _ (by omega) (by omega) (by omega) (by omega)).trans a1, (u _ (by omega) (by omega) (by omega) (by omega)).trans a2, a3, fun k hk => ⟨(u _ (by omega) (by omega) (by omega) (by omega)).trans (a4 k hk).1, (u _ (by omega) (by omega) (by omega) (by omega)).trans (a4 k hk).2⟩⟩
  · exact ⟨(u _ (by omega) (by omega) (by omega) (by omega)).trans (hd c hc').1, (hd c hc').2⟩
  · exact ⟨(u _ (by omega) (by omega) (by omega) (by omega)).trans (hsp k hk).1, (hsp k hk).2⟩
  · exact ⟨(u _ (by omega) (by omega) (by omega) (by omega)).trans (hse k hk).1, (hse k hk).2⟩
  · rw [show (m + 1 - 1) % 16 = m % 16 by congr 1, vu_s]
    exact e14
  · by_cases z : q = min m 11
    · rw [z, show (m + 1 - min (m + 1) 12 + min m 11) % 16 = m % 16 by congr 1; omega, vu_s]
      exact RH_cg hc el hg
    · have hq' : q < min m 11 := by omega
      rw [vu_n (show (m + 1 - min (m + 1) 12 + q) % 16 ≠ m % 16 by omega)]
      have h1 := hsh (if m < 12 then q else q + 1) (by
        by_cases y : m < 12
        · rw [if_pos y]; omega
        · rw [if_neg y]; omega)
      rw [show (m - min m 12 + if m < 12 then q else q + 1) % 16 = (m + 1 - min (m + 1) 12 + q) % 16 by
        by_cases y : m < 12
        · rw [if_pos y]; congr 1; omega
        · rw [if_neg y]; congr 1; omega] at h1
      exact RH_cg hc (fun k hk => er q k hq' hk) h1
/-- what shoot gives -/
def outSH (r : Int32) (i d : Nat) (w g : tO) : Int32 × Int32 × Int32 × (Nat → Int32) × (Nat → Int32) × (Nat → Int32) × Int32 × Int32 × Int32 × Int32 × Int32 × Int32 × Int32 × Int32 × Int32 × (Nat → Int32) × (Nat → Int32) × (Nat → Int32) × (Nat → Int32) × (Nat → Int32) × (Nat → Int32) × Int32 × Int32 × Int32 × Int32 × Int32 :=
  (r, nI i, nI d, w.2 0, w.2 1, w.2 2, w.1 0, w.1 1, w.1 2, w.1 3, w.1 4, w.1 5, w.1 6, w.1 7, w.1 8, w.2 3, w.2 4, g.2 0, g.2 1, g.2 2, g.2 3, g.1 0, g.1 1, g.1 2, g.1 3, g.1 4)
theorem vu_self {α : Type} {f : Nat → α} {k : Nat} {x : α} (h : x = f k) : va_up f k x = f := by
  funext j
  by_cases e : j = k
  · rw [e, vu_s, h]
  · exact vu_n e
/-- where the next shot is laid -/
def ixs (made : Int32) : Nat := Int32.toNatClampNeg (made - made / 16 * 16)
theorem ixs_eq {m : Nat} (hm : m < 2 ^ 30) : ixs (nI m) = m % 16 := by
  rw [ixs, show nI m - nI m / 16 * 16 = nI (m % 16) from pk_rem (a := m) (d := 16) (by omega) (by omega) (by omega), cl_nI (by omega)]
theorem eq_shoot (N : Nat) (hN : 5000 ≤ N) {cav cor stg i d K : Nat} {S H : Nat → tO} {now was tv tf te tp one : Nat → Int32} {p : tO} {tc tco ts sc : Int32} (hP : RP cav cor stg p tc tv tf tco te ts tp) (h : RW cav cor stg i d S H now was) (hK : K < 600) (hB : MB d now was K) {v w g : tO} (ev : v = S i) (ew : w = S ((i + 1) % 5)) (eg : g = H (ixs (v.1 4))) :
    ∃ (r : Int32) (i' d' : Nat) (w' g' : tO) (now' was' one' : Nat → Int32) (sc' : Int32), f5_shoot N (nI i) (nI d) (nI cav) (p.2 0) (p.2 2) (nI cor) (nI stg) (p.2 4) (v.2 0) (v.2 1) (v.2 2) (v.1 0) (v.1 1) (v.1 2) (v.1 3) (v.1 4) (v.1 5) (v.1 6) (v.1 7) (v.1 8) (v.2 3) (v.2 4) (w.2 0) (w.2 1) (w.2 2) (w.1 0) (w.1 1) (w.1 2) (w.1 3) (w.1 4) (w.1 5) (w.1 6) (w.1 7) (w.1 8) (w.2 3) (w.2 4) (g.2 0) (g.2 1) (g.2 2) (g.2 3) (g.1 0) (g.1 1) (g.1 2) (g.1 3) (g.1 4) = some (outSH r i' d' w' g') ∧
      f6_shoot N (nI cav) tv tf (nI cor) (nI stg) tp now was (nI d) one sc = some (r, now', was', nI d', one', sc') ∧ RW cav cor stg i' d' (va_up S ((i + 1) % 5) w') (va_up H (ixs (v.1 4)) g') now' was' ∧ MB d' now' was' (K + 1) := by
  obtain ⟨m, hm⟩ := RW_now h
  obtain ⟨hi, hd, -⟩ := id h
  have hc : cav ≤ 6 := hP.1.2.1
  have hs : stg ≤ 4 := hP.2.2.1.2.1
  have hcor : cor ≤ 4 := hP.2.1.1
  have same : ∀ r : Int32, ∃ (r' : Int32) (i' d' : Nat) (w' g' : tO) (now' was' one' : Nat → Int32) (sc' : Int32), some (outSH r i d w g) = some (outSH r' i' d' w' g') ∧ some (r, now, was, nI d, one, sc) = some (r', now', was', nI d', one', sc') ∧ RW cav cor stg i' d' (va_up S ((i + 1) % 5) w') (va_up H (ixs (v.1 4)) g') now' was' ∧ MB d' now' was' (K + 1) := fun r => ⟨r, i, d, w, g, now, was, one, sc, rfl, rfl, by rw [vu_self ew, vu_self eg]; exact h, MB_up hB⟩
  have hm0 := hm
  rw [← ev] at hm
  obtain ⟨f0, f2, f3⟩ := RS_fl hm
  obtain ⟨m600, v4, a9, a8⟩ := hm.1
  obtain ⟨a10, -⟩ := hm.2.1
  obtain ⟨y, hy, a11, v1⟩ := hm.2.2.1
  obtain ⟨a12, -⟩ := hm.2.2.2.1
  have hm599 : m < 600 := by
    obtain ⟨q, T, h1, h2, h3, h4⟩ := MB_now hB
    have e : q = m := (nI_eq (by omega) (by omega)).mp (h3.symm.trans a9)
    omega
  obtain ⟨b, q1, q2⟩ := ready_eq N hcor hy a11 a10 f0
  have q1' : f5_isReady N (nI cor) (v.1 0) (v.1 1) = some (bi b) := by rw [v1]; exact q1
  have c12 : Int32.toNatClampNeg 1012 = 1012 := rfl
  have c8 : Int32.toNatClampNeg 1008 = 1008 := rfl
  rw [f5_shoot, f6_shoot, q1', q2, Option.bind_some, Option.bind_some]
  cases b with
  | false =>
    rw [if_pos (show bi false = 0 from rfl), if_pos (show bi false = 0 from rfl)]
    exact same _
  | true =>
    rw [if_neg (show ¬ bi true = 0 by decide), if_neg (show ¬ bi true = 0 by decide), if_pos (show ok 1012 1155 = true by decide), c12, a12]
    rcases of_decide_eq_true f2 with q | q
    · rw [if_pos q, if_neg (show ¬ v.1 2 = 1 by rw [q]; decide), startC N hi f0 f2 f3, keeps_eq N hN now was hd, Option.bind_some, Option.bind_some]
      obtain ⟨ha, fi, fu, pr', one', pc, ft, ti, wh, sc', m1, m2, m3, -⟩ := make_MK N hN (MK_of hP (RS_cp w hc hs hm)) 0 (g.2 0) (g.2 1) (g.2 2) (g.2 3) one
      have m1' : f2_make N 0 (g.2 0) (g.2 1) (g.2 2) (g.2 3) (nI cav) (p.2 0) (p.2 2) (nI stg) (p.2 4) (va_cpy (v.2 0) (w.2 0) (Int32.toNatClampNeg 0) (Int32.toNatClampNeg 0) (Int32.toNatClampNeg 6)) (va_cpy (v.2 1) (w.2 1) (Int32.toNatClampNeg 0) (Int32.toNatClampNeg 0) (Int32.toNatClampNeg 4)) (va_cpy (v.2 2) (w.2 2) (Int32.toNatClampNeg 0) (Int32.toNatClampNeg 0) (Int32.toNatClampNeg 6)) = _ := m1
      obtain ⟨now', g1, g2, g3, g4⟩ := sh_row N hN (was := wasP d now was) (one := one') (ch := nI (dP d)) (sc := sc') (m := m) a8
      have ix : v.1 4 - v.1 4 / 16 * 16 = nI (m % 16) := by rw [v4]; exact pk_rem (a := m) (d := 16) (by omega) (by omega) (by omega)
      rw [ix, if_pos (ok_nI (n := 16) (k := m % 16) (Nat.mod_lt _ (by decide)) (by omega)), m1', m2, Option.bind_some, Option.bind_some, if_pos (show ok 1008 1155 = true by decide), c8, g1, f2_whole, Option.bind_some, next_eq hi, und_eq hd]
      have hRS : RS cav cor stg (va_up (va_up (va_up (cpS v w).1 2 1) 3 1) 4 (nI (m + 1)), (cpS v w).2) (va_up H (m % 16) (mkH ha fi fu pr' pc ft ti ((cpS v w).2 2 5) wh)) (shRow (min m 11) now') (m + 1) := by
        refine RS_shoot hc hs hm599 m3 ?_ ?_ ?_ ?_ ?_ ?_ ?_ ?_ (RS_cp w hc hs hm)
        · rw [shRow, up_n (by decide), up_n (by decide), up_n (by decide), up_n (by decide), up_s]
          congr 1; omega
        · rw [shRow, up_n (by decide), up_n (by decide), up_n (by decide), up_s, g2 1009 (by omega), a9, nI_1]
        · rw [shRow, up_n (by decide), up_n (by decide), up_s]
        · rw [shRow, up_n (by decide), up_s]
        · rw [shRow, up_s, g2 1154 (by omega)]
          exact ((RS_cp w hc hs hm).2.2.2.2.2.2.2.2.2.1 5 (by omega)).1
        · intro k h1 h2 h3 h4
          rw [shRow, up_n h4, up_n h3, up_n h2, up_n (by omega), up_n (by omega), g2 k (by omega)]
        · intro k hk
          rw [shRow, up_n (by omega), up_n (by omega), up_n (by omega), up_n (by omega), up_n (by omega), g3 k hk]
        · intro j k hj hk
          rw [shRow, up_n (by omega), up_n (by omega), up_n (by omega), up_n (by omega), up_n (by omega), g4 j k hj hk]
      have hRS' : RS cav cor stg (mkS ((cpS v w).2 0) ((cpS v w).2 1) ((cpS v w).2 2) (v.1 0) (v.1 1) 1 1 (v.1 4 + 1) (v.1 5) (v.1 6) (v.1 7) (v.1 8) ((cpS v w).2 3) ((cpS v w).2 4)) (va_up H (m % 16) (mkH ha fi fu pr' pc ft ti ((cpS v w).2 2 5) wh)) (shRow (min m 11) now') (m + 1) := by
        refine RS_v hc hs (v := (va_up (va_up (va_up (cpS v w).1 2 1) 3 1) 4 (nI (m + 1)), (cpS v w).2)) (fun k hk => ?_) (fun _ _ => rfl) (fun _ _ => rfl) (fun _ _ => rfl) (fun _ _ => rfl) (fun _ _ => rfl) hRS
        rw [v4, nI_1]
        rcases (show k = 0 ∨ k = 1 ∨ k = 2 ∨ k = 3 ∨ k = 4 ∨ k = 5 ∨ k = 6 ∨ k = 7 ∨ k = 8 by omega) with rfl | rfl | rfl | rfl | rfl | rfl | rfl | rfl | rfl <;> rfl
      have h5 : one' 5 = ti + (cpS v w).2 2 5 := m3.2.2.2.2.1
      refine ⟨one' 5, (i + 1) % 5, dP d, mkS ((cpS v w).2 0) ((cpS v w).2 1) ((cpS v w).2 2) (v.1 0) (v.1 1) 1 1 (v.1 4 + 1) (v.1 5) (v.1 6) (v.1 7) (v.1 8) ((cpS v w).2 3) ((cpS v w).2 4), mkH ha fi fu pr' pc ft ti ((cpS v w).2 2 5) wh, shRow (min m 11) now', wasP d now was, one', sc', by rw [h5]; rfl, rfl, ?_, ?_⟩
      · rw [v4, ixs_eq (by omega), ← v4]
        refine RW_push hc hs h hm0 ⟨Nat.le_succ _, Nat.le_refl _⟩ hRS' (fun s h1 h2 => vu_n (by omega))
      · exact MB_push hd hB (MB_of hm hRS' (Nat.le_refl _) (fun T e => ⟨T, by omega, by rw [shRow, up_n (by decide), up_n (by decide), up_n (by decide), up_n (by decide), up_n (by decide), g2 1015 (by omega)]; exact e⟩) (by omega) hB)
    · rw [if_neg (show ¬ v.1 2 = 0 by rw [q]; decide), if_pos q]
      exact same _
