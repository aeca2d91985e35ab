/-! the law's world: six blocks, five States, their Bands, sixteen Shots -/
def rmap (n : Nat) (f : Nat → va_W) : List va_W := (List.range n).map f
theorem rmap_at {n : Nat} {f : Nat → va_W} {j : Nat} (h : j < n) : (rmap n f)[j]? = some (f j) := by
  rw [rmap, List.getElem?_map, List.getElem?_range h]; rfl
theorem rmap_len {n : Nat} {f : Nat → va_W} : (rmap n f).length = n := by
  rw [rmap, List.length_map, List.length_range]
def MM (B0 B1 B2 B3 B4 B5 : va_W) (fS fB fH : Nat → va_W) : List va_W := [B0, B1, B2, B3, B4, B5] ++ (rmap 5 fS ++ (rmap 5 fB ++ rmap 16 fH))
section
variable {B0 B1 B2 B3 B4 B5 C0 C1 C2 C3 C4 C5 : va_W} {fS fB fH gS' gB' gH' : Nat → va_W}
theorem mm_len : (MM B0 B1 B2 B3 B4 B5 fS fB fH).length = 32 := by
  rw [MM, List.length_append, List.length_append, List.length_append, rmap_len, rmap_len, rmap_len]; rfl
theorem ap_r {α : Type} (l1 l2 : List α) (n k : Nat) (h : l1.length = n) : (l1 ++ l2)[n + k]? = l2[k]? := by
  rw [List.getElem?_append_right (by omega), show n + k - l1.length = k by omega]
theorem ap_l {α : Type} (l1 l2 : List α) (k : Nat) (h : k < l1.length) : (l1 ++ l2)[k]? = l1[k]? := List.getElem?_append_left h
theorem mm_S {j : Nat} (h : j < 5) : (MM B0 B1 B2 B3 B4 B5 fS fB fH)[6 + j]? = some (fS j) := by
  rw [MM, ap_r _ _ 6 j rfl, ap_l _ _ j (by rw [rmap_len]; exact h), rmap_at h]
theorem mm_B {j : Nat} (h : j < 5) : (MM B0 B1 B2 B3 B4 B5 fS fB fH)[11 + j]? = some (fB j) := by
  rw [MM, show 11 + j = 6 + (5 + j) by omega, ap_r _ _ 6 (5 + j) rfl, ap_r _ _ 5 j rmap_len, ap_l _ _ j (by rw [rmap_len]; exact h), rmap_at h]
theorem mm_H {j : Nat} (h : j < 16) : (MM B0 B1 B2 B3 B4 B5 fS fB fH)[16 + j]? = some (fH j) := by
  rw [MM, show 16 + j = 6 + (5 + (5 + j)) by omega, ap_r _ _ 6 (5 + (5 + j)) rfl, ap_r _ _ 5 (5 + j) rmap_len, ap_r _ _ 5 j rmap_len, rmap_at h]
/-- where nothing else is, all is as it was -/
theorem mm_keep {is : List Nat} (h0 : 0 ∈ is ∨ C0 = B0) (h1 : 1 ∈ is ∨ C1 = B1) (h2 : 2 ∈ is ∨ C2 = B2) (h3 : 3 ∈ is ∨ C3 = B3) (h4 : 4 ∈ is ∨ C4 = B4) (h5 : 5 ∈ is ∨ C5 = B5) (hS : ∀ j, j < 5 → 6 + j ∈ is ∨ gS' j = fS j) (hB : ∀ j, j < 5 → 11 + j ∈ is ∨ gB' j = fB j) (hH : ∀ j, j < 16 → 16 + j ∈ is ∨ gH' j = fH j) : ∀ k, k ∉ is → (MM C0 C1 C2 C3 C4 C5 gS' gB' gH')[k]? = (MM B0 B1 B2 B3 B4 B5 fS fB fH)[k]? := by
  intro k hk
  have key : ∀ {x y : va_W}, (k ∈ is ∨ x = y) → some x = some y := fun {x y} h => by
    rcases h with h | h
    · exact absurd h hk
    · rw [h]
  by_cases k6 : k < 6
  · rcases (show k = 0 ∨ k = 1 ∨ k = 2 ∨ k = 3 ∨ k = 4 ∨ k = 5 by omega) with rfl | rfl | rfl | rfl | rfl | rfl
    · exact key h0
    · exact key h1
    · exact key h2
    · exact key h3
    · exact key h4
    · exact key h5
  · by_cases k11 : k < 11
    · obtain ⟨j, rfl⟩ : ∃ j, k = 6 + j := ⟨k - 6, by omega⟩
      rw [mm_S (by omega), mm_S (by omega)]
      exact key (hS j (by omega))
    · by_cases k16 : k < 16
      · obtain ⟨j, rfl⟩ : ∃ j, k = 11 + j := ⟨k - 11, by omega⟩
        rw [mm_B (by omega), mm_B (by omega)]
        exact key (hB j (by omega))
      · by_cases k32 : k < 32
        · obtain ⟨j, rfl⟩ : ∃ j, k = 16 + j := ⟨k - 16, by omega⟩
          rw [mm_H (by omega), mm_H (by omega)]
          exact key (hH j (by omega))
        · rw [List.getElem?_eq_none (by rw [mm_len]; omega), List.getElem?_eq_none (by rw [mm_len]; omega)]
theorem zs_of {α : Type} : ∀ (is : List Nat) (b1 bs bn : List α), bn.length = bs.length → is.map (fun k => bn[k]?) = b1.map some → (∀ k, k ∉ is → bn[k]? = bs[k]?) → zs bs is b1 = bn := by
  intro is
  induction is with
  | nil =>
    intro b1 bs bn hl hC hk
    have e : bs = bn := List.ext_getElem? (fun k => (hk k (by simp)).symm)
    cases b1 with
    | nil => exact e
    | cons x xs => simp at hC
  | cons i is ih =>
    intro b1 bs bn hl hC hk
    cases b1 with
    | nil => simp at hC
    | cons x xs =>
      simp only [List.map_cons, List.cons.injEq] at hC
      show zs (bs.set i x) is xs = bn
      refine ih xs (bs.set i x) bn (by rw [List.length_set]; exact hl) hC.2 (fun k hk' => ?_)
      by_cases e : i = k
      · subst e
        have hlt : i < bn.length := (List.getElem?_eq_some_iff.mp hC.1).1
        rw [List.getElem?_set_self (by omega), hC.1]
      · rw [List.getElem?_set_ne e]
        exact hk k (fun q => (List.mem_cons.mp q).elim (fun w => e w.symm) hk')
theorem mm_zs {is : List Nat} {b1 : List va_W} (hC : is.map (fun k => (MM C0 C1 C2 C3 C4 C5 gS' gB' gH')[k]?) = b1.map some) (hk : ∀ k, k ∉ is → (MM C0 C1 C2 C3 C4 C5 gS' gB' gH')[k]? = (MM B0 B1 B2 B3 B4 B5 fS fB fH)[k]?) : zs (MM B0 B1 B2 B3 B4 B5 fS fB fH) is b1 = MM C0 C1 C2 C3 C4 C5 gS' gB' gH' := zs_of is b1 _ _ (by rw [mm_len, mm_len]) hC hk
end
/-- a State's cells by its values, its Band's -/
def wkS (g : gG) (a : Nat) (q : Nat → Nat) (v : tO) : va_W := wk3 g a (q 0) (v.2 0) (q 1) (v.2 1) (q 2) (v.2 2) (v.1 0) (v.1 1) (v.1 2) (v.1 3) (v.1 4) (v.1 5) (q 3)
def wkB (g : gG) (a : Nat) (q : Nat → Nat) (v : tO) : va_W := wk0 g a (v.1 6) (v.1 7) (v.1 8) (q 0) (v.2 3) (q 1) (v.2 4)
/-- what the reference has read -/
abbrev tY : Type := Int32 × (Nat → Int32) × Int32 × (Nat → Int32) × Int32 × (Nat → Int32) × (Nat → Int32) × Int32 × Int32
/-- the law's world by its values -/
def MW (g : gG) (xp mp : Nat) (z : Nat → Nat) (pp pd : Nat) (pq dq sa ha rq mq : Nat → Nat) (sq bq hq : Nat → Nat → Nat) (i d cav cor stg : Nat) (pl dv rv : tO) (S Hh : Nat → tO) (xl nums : Nat → Int32) (xn tn : Int32) (tt : Nat → Int32) (tca tco tst ch : Int32) (tv tf te tp now was one : Nat → Int32) (sc : Int32) (y : tY) : List va_W :=
  MM (wk5 g xp (z 0) pp pd (z 1) (fun k => some (sa k)) (nI i) (nI d) (sa i) (z 2) (fun k => some (ha k)) (z 3))
    (wk4 g (z 0) (z 4) xl (z 5) nums xn)
    (wk1 g pp (nI cav) (pq 0) (pl.2 0) (pq 1) (pl.2 1) (pq 2) (pl.2 2) (nI cor) (pq 3) (pl.2 3) (nI stg) (pq 4) (pl.2 4) (pq 5) (pl.2 5) (pq 6) (pl.2 6))
    (wk1 g pd (dv.1 0) (dq 0) (dv.2 0) (dq 1) (dv.2 1) (dq 2) (dv.2 2) (dv.1 1) (dq 3) (dv.2 3) (dv.1 2) (dq 4) (dv.2 4) (dq 5) (dv.2 5) (dq 6) (dv.2 6))
    (wkH g (z 3) rq rv)
    (wk6 g mp tn (mq 0) tt tca (mq 1) tv (mq 2) tf tco (mq 3) te tst (mq 4) tp (mq 5) now (mq 6) was ch (mq 7) one y.1 (mq 8) y.2.1 y.2.2.1 (mq 9) y.2.2.2.1 y.2.2.2.2.1 (mq 10) y.2.2.2.2.2.1 (mq 11) y.2.2.2.2.2.2.1 y.2.2.2.2.2.2.2.1 y.2.2.2.2.2.2.2.2 sc)
    (fun j => wkS g (sa j) (sq j) (S j)) (fun j => wkB g (sq j 3) (bq j) (S j)) (fun j => wkH g (ha j) (hq j) (Hh j))
/-- what holds between two calls, when K are made -/
def INV (g : gG) (A : Nat → Prop) (xp mp K : Nat) (H : Heap) : Prop :=
  ∃ (z : Nat → Nat) (pp pd : Nat) (pq dq sa ha rq mq : Nat → Nat) (sq bq hq : Nat → Nat → Nat) (i d cav cor stg : Nat) (pl dv rv : tO) (S Hh : Nat → tO) (xl nums : Nat → Int32) (xn tn : Int32) (tt tv tf te tp now was one : Nat → Int32) (sc : Int32) (y : tY),
    va_P g.1 vwCl (fl (MW g xp mp z pp pd pq dq sa ha rq mq sq bq hq i d cav cor stg pl dv rv S Hh xl nums xn tn tt (nI cav) (nI cor) (nI stg) (nI d) tv tf te tp now was one sc y)) H ∧
    va_D A (fl (MW g xp mp z pp pd pq dq sa ha rq mq sq bq hq i d cav cor stg pl dv rv S Hh xl nums xn tn tt (nI cav) (nI cor) (nI stg) (nI d) tv tf te tp now was one sc y)) ∧
    RT xl xn tt tn ∧ RP cav cor stg pl (nI cav) tv tf (nI cor) te (nI stg) tp ∧ RW cav cor stg i d S Hh now was ∧ MB d now was K
theorem clI {i : Nat} (h : i < 5) : Int32.toNatClampNeg (nI i) = i := cl_nI (by omega)
theorem clU {i : Nat} (h : i < 5) : Int32.toNatClampNeg ((nI i + 1) - (nI i + 1) / 5 * 5) = (i + 1) % 5 := by
  rw [next_eq h, cl_nI (by omega)]
theorem MB_le {d : Nat} {now was : Nat → Int32} {K K' : Nat} (h : MB d now was K) (hK : K ≤ K') : MB d now was K' := by
  intro j hj
  obtain ⟨m, T, h1, h2, h3, h4⟩ := h j hj
  exact ⟨m, T, by omega, by omega, h3, h4⟩
theorem nd_su : ∀ i, i < 5 → va_nd [0, 6 + i, 11 + i, 6 + (i + 1) % 5, 11 + (i + 1) % 5] = true := by decide +kernel
theorem nd_psu : ∀ i, i < 5 → va_nd [0, 2, 6 + i, 11 + i, 6 + (i + 1) % 5, 11 + (i + 1) % 5] = true := by decide +kernel
theorem nd_suh : ∀ i, i < 5 → ∀ j, j < 16 → va_nd [0, 6 + i, 11 + i, 6 + (i + 1) % 5, 11 + (i + 1) % 5, 16 + j] = true := by decide +kernel
theorem nd_psuh : ∀ i, i < 5 → ∀ j, j < 16 → va_nd [0, 2, 6 + i, 11 + i, 6 + (i + 1) % 5, 11 + (i + 1) % 5, 16 + j] = true := by decide +kernel
theorem nd_sB : ∀ i, i < 5 → va_nd [0, 6 + i, 11 + i] = true := by decide +kernel
theorem nd_ps : ∀ i, i < 5 → va_nd [0, 2, 6 + i] = true := by decide +kernel
theorem nd_psBh : ∀ i, i < 5 → ∀ j, j < 16 → va_nd [0, 2, 6 + i, 11 + i, 16 + j] = true := by decide +kernel
theorem nd_sh : ∀ i, i < 5 → ∀ j, j < 16 → va_nd [0, 6 + i, 16 + j] = true := by decide +kernel
theorem nd_psh : ∀ i, i < 5 → ∀ j, j < 16 → va_nd [0, 2, 6 + i, 16 + j] = true := by decide +kernel
theorem nd_psr : ∀ i, i < 5 → va_nd [0, 2, 6 + i, 4] = true := by decide +kernel
theorem nd_lay : ∀ i, i < 5 → va_nd [0, 1, 3, 6 + i, 11 + i] = true := by decide +kernel
theorem nd_cnt : ∀ i, i < 5 → va_nd ([0, 2, 6 + i, 11 + i, 1] ++ (List.range 16).map (fun j => 16 + j)) = true := by decide +kernel
theorem tm_le (x : Int) (h : x ≤ 0) : x.tmod 16 ≤ 0 := by
  have h1 := Int.tmod_nonneg 16 (show 0 ≤ -x by omega)
  rw [Int.neg_tmod] at h1
  omega
theorem rem16 (x : Int32) : (x - x / 16 * 16).toInt = x.toInt.tmod 16 := by
  have h16 : (16 : Int32).toInt = 16 := rfl
  have r := i_rg x
  have d : (x / 16).toInt = x.toInt.tdiv 16 := by rw [Int32.toInt_div_of_ne_right _ _ (by decide), h16]
  have e := Int.mul_tdiv_add_tmod x.toInt 16
  have t1 := Int.tmod_lt_of_pos x.toInt (show (0 : Int) < 16 by decide)
  have t2 := Int.lt_tmod_of_pos x.toInt (show (0 : Int) < 16 by decide)
  have t3 := tm_le x.toInt
  have t4 := fun h => Int.tmod_nonneg (a := x.toInt) 16 h
  have m : (x / 16 * 16).toInt = x.toInt.tdiv 16 * 16 := by
    rw [Int32.toInt_mul, d, h16]
    exact i_bm (by omega) (by omega)
  rw [i_sub (by rw [m]; omega) (by rw [m]; omega), m]; omega
theorem xor16 (x : Int32) : (0 ≤ x ^^^ 16) ↔ 0 ≤ x.toInt := by
  have k : (x ^^^ 16).toBitVec.msb = x.toBitVec.msb := by
    rw [Int32.toBitVec_xor, BitVec.msb_xor, show (16 : Int32).toBitVec.msb = false from rfl, Bool.xor_false]
  rw [BitVec.msb_eq_toInt, BitVec.msb_eq_toInt] at k
  have e : ((x ^^^ 16).toBitVec.toInt < 0) ↔ (x.toBitVec.toInt < 0) := decide_eq_decide.mp k
  rw [Int32.toInt_toBitVec, Int32.toInt_toBitVec] at e
  rw [i_le, show (0 : Int32).toInt = 0 from rfl]
  omega
theorem fm_lt (x : Int32) : Int32.toNatClampNeg (fmodJ x 16) < 16 := by
  have t1 := Int.tmod_lt_of_pos x.toInt (show (0 : Int) < 16 by decide)
  have t2 := Int.lt_tmod_of_pos x.toInt (show (0 : Int) < 16 by decide)
  have h : ok (fmodJ x 16) 16 = true := by
    rw [fmodJ]
    by_cases z : 0 ≤ x ^^^ 16
    · have t4 := Int.tmod_nonneg 16 ((xor16 x).mp z)
      rw [if_pos z]
      refine decide_eq_true ?_
      rw [rem16]; omega
    · rw [if_neg z]
      have t3 := tm_le x.toInt (by
        by_cases q : 0 ≤ x.toInt
        · exact absurd ((xor16 x).mpr q) z
        · omega)
      by_cases y : x - x / 16 * 16 = 0
      · rw [if_pos y, y]; decide
      · rw [if_neg y]
        have y' : x.toInt.tmod 16 ≠ 0 := fun q => y (i_ti.mpr (by rw [rem16, q]; rfl))
        refine decide_eq_true ?_
        rw [i_add (by rw [rem16, show (16 : Int32).toInt = 16 from rfl]; omega) (by rw [rem16, show (16 : Int32).toInt = 16 from rfl]; omega), rem16, show (16 : Int32).toInt = 16 from rfl]
        omega
  exact ok_lt h
theorem hx_lt (m c : Int32) : hx m c < 16 := fm_lt _
theorem ixs_lt {m : Nat} (hm : m < 2 ^ 30) : ixs (nI m) < 16 := by
  rw [ixs_eq hm]; exact Nat.mod_lt _ (by decide)
/-- places, one by one -/
theorem mc {α β : Type} {f : α → Option β} {i : α} {is : List α} {x : β} {xs : List β} (h : f i = some x) (t : is.map f = xs.map some) : (i :: is).map f = (x :: xs).map some := by
  rw [List.map_cons, List.map_cons, h, t]
section
variable {B0 B1 B2 B3 B4 B5 : va_W} {g : gG} {sa ha : Nat → Nat} {sq bq hq : Nat → Nat → Nat} {S Hh : Nat → tO} {w v : tO} {fS fB fH : Nat → va_W} {i j : Nat}
theorem mmS_n (h : i < 5) (hij : i ≠ j) : (MM B0 B1 B2 B3 B4 B5 (fun k => wkS g (sa k) (sq k) (va_up S j w k)) fB fH)[6 + i]? = some (wkS g (sa i) (sq i) (S i)) := by
  rw [mm_S h, vu_n hij]
theorem mmS_u (h : j < 5) : (MM B0 B1 B2 B3 B4 B5 (fun k => wkS g (sa k) (sq k) (va_up S j w k)) fB fH)[6 + j]? = some (wkS g (sa j) (sq j) w) := by
  rw [mm_S h, vu_s]
theorem mmB_n (h : i < 5) (hij : i ≠ j) : (MM B0 B1 B2 B3 B4 B5 fS (fun k => wkB g (sq k 3) (bq k) (va_up S j w k)) fH)[11 + i]? = some (wkB g (sq i 3) (bq i) (S i)) := by
  rw [mm_B h, vu_n hij]
theorem mmB_u (h : j < 5) : (MM B0 B1 B2 B3 B4 B5 fS (fun k => wkB g (sq k 3) (bq k) (va_up S j w k)) fH)[11 + j]? = some (wkB g (sq j 3) (bq j) w) := by
  rw [mm_B h, vu_s]
theorem mmH_u (h : j < 16) : (MM B0 B1 B2 B3 B4 B5 fS fB (fun k => wkH g (ha k) (hq k) (va_up Hh j v k)))[16 + j]? = some (wkH g (ha j) (hq j) v) := by
  rw [mm_H h, vu_s]
theorem keepS {is : List Nat} (h : 6 + j ∈ is) : ∀ k, k < 5 → 6 + k ∈ is ∨ (fun k => wkS g (sa k) (sq k) (va_up S j w k)) k = (fun k => wkS g (sa k) (sq k) (S k)) k := by
  intro k hk
  by_cases e : k = j
  · rw [e]; exact .inl h
  · right; show wkS g (sa k) (sq k) (va_up S j w k) = _; rw [vu_n e]
theorem keepB {is : List Nat} (h : 11 + j ∈ is) : ∀ k, k < 5 → 11 + k ∈ is ∨ (fun k => wkB g (sq k 3) (bq k) (va_up S j w k)) k = (fun k => wkB g (sq k 3) (bq k) (S k)) k := by
  intro k hk
  by_cases e : k = j
  · rw [e]; exact .inl h
  · right; show wkB g (sq k 3) (bq k) (va_up S j w k) = _; rw [vu_n e]
theorem keepH {is : List Nat} (h : 16 + j ∈ is) : ∀ k, k < 16 → 16 + k ∈ is ∨ (fun k => wkH g (ha k) (hq k) (va_up Hh j v k)) k = (fun k => wkH g (ha k) (hq k) (Hh k)) k := by
  intro k hk
  by_cases e : k = j
  · rw [e]; exact .inl h
  · right; show wkH g (ha k) (hq k) (va_up Hh j v k) = _; rw [vu_n e]
end
theorem pd_III : (parseMethodDescriptor "(III)I").map (fun d => d.parameters.length) = some 3 := by decide +kernel
theorem cntC {B0 B1 B2 B3 B4 B5 : va_W} {fS fB fH : Nat → va_W} {i : Nat} (h : i < 5) : ([0, 2, 6 + i, 11 + i, 1] ++ (List.range 16).map (fun j => 16 + j)).map (fun k => (MM B0 B1 B2 B3 B4 B5 fS fB fH)[k]?) = ([B0, B2, fS i, fB i, B1] ++ rmap 16 fH).map some := by
  have e : ((List.range 16).map (fun j => 16 + j)).map (fun k => (MM B0 B1 B2 B3 B4 B5 fS fB fH)[k]?) = (rmap 16 fH).map some := by
    rw [rmap, List.map_map, List.map_map]
    exact List.map_congr_left (fun j hj => mm_H (List.mem_range.mp hj))
  rw [List.map_append, List.map_append, e]
  exact congrArg (· ++ (rmap 16 fH).map some) (mc rfl (mc rfl (mc (mm_S h) (mc (mm_B h) (mc rfl rfl)))))
section
variable {B0 B1 B2 B3 B4 B5 : va_W} {fS fB fH : Nat → va_W} {g : gG} {A : Nat → Prop} {H : Heap}
theorem fl_swap : (fl (MM B0 B1 B2 B3 B4 B5 fS fB fH)).Perm (fl (MM B0 B1 B3 B2 B4 B5 fS fB fH)) := ((List.perm_append_comm_assoc B2 B3 _).append_left B1).append_left B0
theorem P_swap (h : va_P g.1 vwCl (fl (MM B0 B1 B2 B3 B4 B5 fS fB fH)) H) : va_P g.1 vwCl (fl (MM B0 B1 B3 B2 B4 B5 fS fB fH)) H := va_P_iff.mpr (fun q hq => va_P_iff.mp h q (fl_swap.mem_iff.mpr hq))
theorem D_swap (h : va_D A (fl (MM B0 B1 B2 B3 B4 B5 fS fB fH))) : va_D A (fl (MM B0 B1 B3 B2 B4 B5 fS fB fH)) := by
  obtain ⟨h1, h2⟩ := va_D_iff.mp h
  exact va_D_iff.mpr ⟨(fl_swap.pairwise_iff (fun e => fun q => e q.symm)).mp h1, fun q hq => h2 q (fl_swap.mem_iff.mpr hq)⟩
theorem mmB_l {sq bq : Nat → Nat → Nat} {S : Nat → tO} {v : tO} {i : Nat} (h : i < 5) (e3 : v.2 3 = (S i).2 3) (e4 : v.2 4 = (S i).2 4) : (MM B0 B1 B2 B3 B4 B5 fS (fun k => wkB g (sq k 3) (bq k) (va_up S i v k)) fH)[11 + i]? = some (wk0 g (sq i 3) (v.1 6) (v.1 7) (v.1 8) (bq i 0) ((S i).2 3) (bq i 1) ((S i).2 4)) := by
  rw [mm_B h, vu_s, wkB, e3, e4]
end
