/-! an item: class and reference the same -/
def RD (C c s : Nat) (vo dr fr ah pl sp se rc rk rs rr : Nat → Int32) : Prop :=
  (C ≤ 6 ∧ c ≤ 4 ∧ s ≤ 4) ∧
  (∀ j, j < C → (rc (3 * j) = vo j ∧ rc (3 * j + 1) = dr j ∧ rc (3 * j + 2) = fr j) ∧ (∃ v : Nat, 1 ≤ v ∧ v ≤ 30 ∧ vo j = nI v) ∧ (∃ v : Nat, 1 ≤ v ∧ v ≤ 9 ∧ dr j = nI v) ∧ ∃ v : Nat, 1 ≤ v ∧ v ≤ 9 ∧ fr j = nI v) ∧
  (∀ j, j < c → rk j = ah j ∧ ∃ x : Nat, (x < 4 ∨ x = 9) ∧ ah j = nI x) ∧
  (∀ j, j < s → (rs (2 * j) = pl j ∧ rs (2 * j + 1) = sp j) ∧ (∃ q : Nat, q ≤ 98 ∧ pl j = nI q) ∧ ∃ v : Nat, 1 ≤ v ∧ v ≤ 9 ∧ sp j = nI v) ∧
  ((0 < s → pl 0 = 0) ∧ ∀ j, j + 1 < s → pl j ≤ pl (j + 1)) ∧
  (∀ j, j < 6 → rr j = se j ∧ ∃ x : Nat, setLo j ≤ x ∧ x ≤ setHi j ∧ se j = nI x)
def IY (P : Nat → Prop) (Y : Option (Int32 × Int32 × (Nat → Int32) × Int32 × (Nat → Int32) × Int32 × (Nat → Int32) × (Nat → Int32) × Int32 × Int32)) : Prop :=
  (∃ y, Y = some (0, y)) ∨ ∃ a1 a2 a3 a4 a5 a6 a7 a8 k, Y = some (1, a1, a2, a3, a4, a5, a6, a7, a8, nI k) ∧ k < 900 ∧ P k
def IT (L : Nat) (T : Nat → Int32) (e : Nat) (X : Option (Int32 × (Nat → Int32) × Int32 × (Nat → Int32) × (Nat → Int32) × (Nat → Int32) × Int32 × (Nat → Int32) × Int32 × (Nat → Int32) × (Nat → Int32) × (Nat → Int32))) (Y : Option (Int32 × Int32 × (Nat → Int32) × Int32 × (Nat → Int32) × Int32 × (Nat → Int32) × (Nat → Int32) × Int32 × Int32)) : Prop :=
  (∃ (C c s : Nat) (nums vo dr fr ah pl sp se rc rk rs rr : Nat → Int32) (v : Int32), X = some (1, nums, nI C, vo, dr, fr, nI c, ah, nI s, pl, sp, se) ∧ Y = some (1, nI C, rc, nI c, rk, nI s, rs, rr, v, nI e) ∧ RD C c s vo dr fr ah pl sp se rc rk rs rr) ∨
  ((∃ x, X = some (0, x)) ∧ IY (fun k => ¬ la L T k = 59) Y)
theorem gB_iff {L : Nat} {T : Nat → Int32} {a : Nat} {lo hi : Int32} : gB L T a lo hi = true ↔ ¬ nd L T a = 0 ∧ lo ≤ nv L T a ∧ nv L T a ≤ hi := ⟨fun h => of_decide_eq_true h, fun h => decide_eq_true h⟩
theorem n44 {L : Nat} {T : Nat → Int32} {a e q : Nat} (hS : SEMI L T a e) (h : la L T q = 44) : ¬ q = e := fun z => by
  rw [z, hS.2.2.1] at h
  revert h; decide
theorem C1_of {L : Nat} {T : Nat → Int32} {a e : Nat} (hS : SEMI L T a e) (h0 : ¬ nd L T a = 0) (h : la L T (a + nd L T a) = 59) : C1 L T e a := ⟨h0, SEMI_eq hS h⟩
theorem C2_of {L : Nat} {T : Nat → Int32} {a e : Nat} (hS : SEMI L T a e) (h0 : ¬ nd L T a = 0) (h1 : la L T (a + nd L T a) = 44) (h2 : ¬ nd L T (nx L T a) = 0) (h : la L T (e2 L T a) = 59) : C2 L T e a := ⟨h0, n44 hS h1, h1, C1_of (SEMI_nx hS h1) h2 h⟩
theorem C3_of {L : Nat} {T : Nat → Int32} {a e : Nat} (hS : SEMI L T a e) (h0 : ¬ nd L T a = 0) (h1 : la L T (a + nd L T a) = 44) (h2 : ¬ nd L T (nx L T a) = 0) (h3 : la L T (nx L T a + nd L T (nx L T a)) = 44) (h4 : ¬ nd L T (nx L T (nx L T a)) = 0) (h : la L T (e3 L T a) = 59) : C3 L T e a := ⟨h0, n44 hS h1, h1, C2_of (SEMI_nx hS h1) h2 h3 h4 h⟩
theorem ex_le {L : Nat} {T : Nat → Int32} {a : Nat} : e2 L T a ≤ a + 5 ∧ e3 L T a ≤ a + 8 ∧ a ≤ e2 L T a ∧ a ≤ e3 L T a := by
  have n1 := nx_le (L := L) (T := T) (a := a)
  have n2 := nx_le (L := L) (T := T) (a := nx L T a)
  have m1 := nd_le (L := L) (T := T) (p := nx L T a)
  have m2 := nd_le (L := L) (T := T) (p := nx L T (nx L T a))
  have k1 : a ≤ nx L T a := by unfold nx; omega
  have k2 : nx L T a ≤ nx L T (nx L T a) := by
    have : ∀ b, b ≤ nx L T b := fun b => by unfold nx; omega
    exact this _
  unfold e2 e3
  omega
theorem RD_v {C c s : Nat} {vo dr fr ah pl sp se rc rk rs rr : Nat → Int32} {x y z : Int32} (h : RD C c s vo dr fr ah pl sp se rc rk rs rr) (hC : C < 6) (hx : 1 ≤ x ∧ x ≤ 30) (hy : 1 ≤ y ∧ y ≤ 9) (hz : 1 ≤ z ∧ z ≤ 9) : RD (C + 1) c s (upd vo C x) (upd dr C y) (upd fr C z) ah pl sp se (upd (upd (upd rc (3 * C) x) (3 * C + 1) y) (3 * C + 2) z) rk rs rr := by
  obtain ⟨⟨h1, h2, h3⟩, hc, hk⟩ := h
  refine ⟨⟨by omega, h2, h3⟩, fun j hj => ?_, hk⟩
  by_cases e : j = C
  · rw [e, up_s, up_s, up_s, up_n (by omega), up_n (by omega), up_s, up_n (by omega), up_s, up_s]
    obtain ⟨a, a1, a2, a3⟩ := rng (lo := 1) (hi := 30) (by decide) (by decide) hx
    obtain ⟨b, b1, b2, b3⟩ := rng (lo := 1) (hi := 9) (by decide) (by decide) hy
    obtain ⟨d, d1, d2, d3⟩ := rng (lo := 1) (hi := 9) (by decide) (by decide) hz
    exact ⟨⟨rfl, rfl, rfl⟩, ⟨a, a1, a2, a3⟩, ⟨b, b1, b2, b3⟩, d, d1, d2, d3⟩
  · rw [up_n e, up_n e, up_n e, up_n (by omega), up_n (by omega), up_n (by omega), up_n (by omega), up_n (by omega), up_n (by omega), up_n (by omega), up_n (by omega), up_n (by omega)]
    exact hc j (by omega)
theorem RD_c {C c s : Nat} {vo dr fr ah pl sp se rc rk rs rr : Nat → Int32} {x : Nat} (h : RD C c s vo dr fr ah pl sp se rc rk rs rr) (hc : c < 4) (hx : x < 4 ∨ x = 9) : RD C (c + 1) s vo dr fr (upd ah c (nI x)) pl sp se rc (upd rk c (nI x)) rs rr := by
  obtain ⟨⟨h1, h2, h3⟩, hC, hk, hr⟩ := h
  refine ⟨⟨h1, by omega, h3⟩, hC, fun j hj => ?_, hr⟩
  by_cases e : j = c
  · rw [e, up_s, up_s]; exact ⟨rfl, x, hx, rfl⟩
  · rw [up_n e, up_n e]; exact hk j (by omega)
theorem RD_s {C c s : Nat} {vo dr fr ah pl sp se rc rk rs rr : Nat → Int32} {x y : Int32} (h : RD C c s vo dr fr ah pl sp se rc rk rs rr) (hs : s < 4) (hx : ∃ q : Nat, q < 100 ∧ x = nI q) (hi : inS s pl x) (hy : 1 ≤ y ∧ y ≤ 9) : RD C c (s + 1) vo dr fr ah (upd pl s x) (upd sp s y) se rc rk (upd (upd rs (2 * s) x) (2 * s + 1) y) rr := by
  obtain ⟨⟨h1, h2, h3⟩, hC, hk, hS, ⟨hz, hm⟩, hr⟩ := h
  obtain ⟨q, hq, rfl⟩ := hx
  have q98 : q ≤ 98 := by
    rcases hi with ⟨-, e⟩ | ⟨-, -, e⟩
    · have := (nI_eq (b := 0) (by omega) (by omega)).mp e
      omega
    · exact (nI_leI (b := 98) (by omega) (by omega)).mp e
  refine ⟨⟨h1, h2, by omega⟩, hC, hk, fun j hj => ?_, ⟨fun _ => ?_, fun j hj => ?_⟩, hr⟩
  · by_cases e : j = s
    · obtain ⟨b, b1, b2, b3⟩ := rng (lo := 1) (hi := 9) (by decide) (by decide) hy
      rw [e, up_s, up_s, up_n (by omega), up_s, up_s]
      exact ⟨⟨rfl, rfl⟩, ⟨q, q98, rfl⟩, b, b1, b2, b3⟩
    · rw [up_n e, up_n e, up_n (by omega), up_n (by omega), up_n (by omega), up_n (by omega)]
      exact hS j (by omega)
  · by_cases e : s = 0
    · rcases hi with ⟨-, e0⟩ | ⟨e0, -, -⟩
      · rw [e, up_s]; exact e0
      · exact absurd e e0
    · rw [up_n (by omega)]; exact hz (by omega)
  · by_cases e : j + 1 = s
    · rcases hi with ⟨e0, -⟩ | ⟨e0, e1, -⟩
      · omega
      · rw [e, up_s, up_n (by omega)]
        rw [show s - 1 = j by omega] at e1
        rw [i_le] at e1 ⊢
        omega
    · rw [up_n (by omega), up_n (by omega)]
      exact hm j (by omega)
theorem inS_iff {C c s : Nat} {vo dr fr ah pl sp se rc rk rs rr : Nat → Int32} {x : Int32} (h : RD C c s vo dr fr ah pl sp se rc rk rs rr) (hx : ∃ q : Nat, q < 100 ∧ x = nI q) : (loS s rs ≤ x ∧ x ≤ hiS s) ↔ inS s pl x := by
  obtain ⟨q, hq, rfl⟩ := hx
  unfold loS hiS inS
  by_cases e : s = 0
  · rw [if_pos e, if_pos e]
    constructor
    · intro h
      refine .inl ⟨e, ?_⟩
      have := (nI_leI (b := 0) (by omega) (by omega)).mp h.2
      rw [show q = 0 by omega]; rfl
    · intro h
      rcases h with ⟨-, h⟩ | ⟨h, -⟩
      · rw [h]; exact ⟨by decide, by decide⟩
      · exact absurd e h
  · obtain ⟨⟨e1, -⟩, ⟨w, w98, e2⟩, -⟩ := h.2.2.2.1 (s - 1) (by omega)
    rw [if_neg e, if_neg e, show 2 * s - 2 = 2 * (s - 1) by omega, e1, e2, nI_1]
    have k1 : nI (w + 1) ≤ nI q ↔ w + 1 ≤ q := nI_leI (by omega) (by omega)
    have k2 : nI q ≤ nI w ↔ q ≤ w := nI_leI (by omega) (by omega)
    rw [k1, k2]
    constructor
    · intro h; exact .inr ⟨e, by omega, h.2⟩
    · intro h
      rcases h with ⟨h, -⟩ | ⟨-, h1, h2⟩
      · exact absurd h e
      · exact ⟨by omega, h2⟩
theorem it_v (N : Nat) (hN : 5000 ≤ N) {L p e C c s : Nat} {T xl nums vo dr fr ah pl sp se rc rk rs rr : Nat → Int32} {v0 e0 : Int32} (hL : L ≤ 200) (hx : ∀ j, j < L → xl j = la L T j) (hp : p < L) (hS : SEMI L T (p + 1) e) (hR : RD C c s vo dr fr ah pl sp se rc rk rs rr) (ht : xl p = 118) : IT L T e (f4_readItem N (nI p) (nI e) xl nums (nI C) vo dr fr (nI c) ah (nI s) pl sp se) (f6_readsItem N 118 (nI (p + 1)) (nI L) T (nI C) rc (nI c) rk (nI s) rs rr v0 e0) := by
  obtain ⟨Bc, nums', C1', vo', dr', fr', x1, x2, x3⟩ := cl_v N hN (nums := nums) (vo := vo) (dr := dr) (fr := fr) (ah := ah) (pl := pl) (sp := sp) (se := se) (co := nI c) (st := nI s) hL hx hp hS hR.1.1 ht
  obtain ⟨B, C2', rc', v, q, y1, y2, y3⟩ := ref_v N hN (rc := rc) (v0 := v0) (e0 := e0) (T := T) hL (show p + 1 < 300 by omega) hR.1.1
  have el := ex_le (L := L) (T := T) (a := p + 1)
  rw [x1, f6_readsItem, if_neg (show ¬ (118 : Int32) = 99 by decide), if_neg (show ¬ (118 : Int32) = 104 by decide), if_neg (show ¬ (118 : Int32) = 111 by decide), if_neg (show ¬ (118 : Int32) = 115 by decide), if_pos rfl, y1, Option.bind_some, if_pos (bi_isb B)]
  by_cases hB : Bc = true
  · obtain ⟨c6, ⟨c1, c2, c3, c4, c5, c7, c8, c9⟩, r1, r2, r3⟩ := x2.mp hB
    have hB2 : B = true := y2.mpr ⟨c6, gB_iff.mpr ⟨c1, r1⟩, c3, gB_iff.mpr ⟨c4, r2⟩, c7, gB_iff.mpr ⟨c8, r3⟩⟩
    obtain ⟨q1, q2, q3⟩ := y3 hB2
    obtain ⟨p1, p2, p3, p4⟩ := x3 hB
    refine .inl ⟨C + 1, c, s, nums', vo', dr', fr', ah, pl, sp, se, rc', rk, rs, rr, v, ?_, ?_, ?_⟩
    · rw [hB, p1]; rfl
    · rw [hB2, q1, q2, show e3 L T (p + 1) = e from c9]; rfl
    · rw [p2, p3, p4, q3]; exact RD_v hR c6 r1 r2 r3
  · refine .inr ⟨⟨_, by rw [(Bool.not_eq_true Bc).mp hB]; rfl⟩, ?_⟩
    by_cases hB2 : B = true
    · obtain ⟨q1, -, -⟩ := y3 hB2
      obtain ⟨c6, g1, g2, g3, g4, g5⟩ := y2.mp hB2
      rw [gB_iff] at g1 g3 g5
      refine .inr ⟨_, _, _, _, _, _, _, _, e3 L T (p + 1), by rw [hB2, q1]; rfl, by omega, fun z => hB (x2.mpr ⟨c6, C3_of hS g1.1 g2 g3.1 g4 g5.1 z, g1.2, g3.2, g5.2⟩)⟩
    · exact .inl ⟨_, by rw [(Bool.not_eq_true B).mp hB2]; rfl⟩
theorem it_c (N : Nat) (hN : 5000 ≤ N) {L p e C c s : Nat} {T xl nums vo dr fr ah pl sp se rc rk rs rr : Nat → Int32} {v0 e0 : Int32} (hL : L ≤ 200) (hx : ∀ j, j < L → xl j = la L T j) (hp : p < L) (hS : SEMI L T (p + 1) e) (hR : RD C c s vo dr fr ah pl sp se rc rk rs rr) (ht : xl p = 99) : IT L T e (f4_readItem N (nI p) (nI e) xl nums (nI C) vo dr fr (nI c) ah (nI s) pl sp se) (f6_readsItem N 99 (nI (p + 1)) (nI L) T (nI C) rc (nI c) rk (nI s) rs rr v0 e0) := by
  obtain ⟨Bc, nums', c1', ah', x1, x2, x3⟩ := cl_c N hN (nums := nums) (vo := vo) (dr := dr) (fr := fr) (ah := ah) (pl := pl) (sp := sp) (se := se) (ca := nI C) (st := nI s) hL hx hp hS hR.1.2.1 ht
  obtain ⟨B, c2', rk', v, q, y1, y2, y3⟩ := ref_c N hN (rk := rk) (v0 := v0) (e0 := e0) (T := T) hL (show p + 1 < 300 by omega) hR.1.2.1
  have nl := nd_le (L := L) (T := T) (p := p + 1)
  obtain ⟨x, x100, ex⟩ := nv_nat (L := L) (T := T) (p := p + 1)
  rw [x1, f6_readsItem, if_pos rfl, y1, Option.bind_some, if_pos (bi_isb B)]
  by_cases hB : Bc = true
  · obtain ⟨c6, ⟨c1, c2⟩, r1⟩ := x2.mp hB
    have hx49 : x < 4 ∨ x = 9 := by
      rw [ex] at r1
      exact r1.elim (fun w => .inl ((nI_ltI (b := 4) (by omega) (by omega)).mp w)) (fun w => .inr ((nI_eq (b := 9) (by omega) (by omega)).mp w))
    have hB2 : B = true := y2.mpr ⟨c6, gB_iff.mpr ⟨c1, by rw [ex]; exact ⟨nI_le (a := 0) (by omega) (by omega), nI_le (b := 9) (by omega) (by omega)⟩⟩, r1⟩
    obtain ⟨q1, q2, q3⟩ := y3 hB2
    obtain ⟨p1, p2⟩ := x3 hB
    refine .inl ⟨C, c + 1, s, nums', vo, dr, fr, ah', pl, sp, se, rc, rk', rs, rr, v, ?_, ?_, ?_⟩
    · rw [hB, p1]; rfl
    · rw [hB2, q1, q2, c2]; rfl
    · rw [p2, q3, ex]; exact RD_c hR c6 hx49
  · refine .inr ⟨⟨_, by rw [(Bool.not_eq_true Bc).mp hB]; rfl⟩, ?_⟩
    by_cases hB2 : B = true
    · obtain ⟨q1, -, -⟩ := y3 hB2
      obtain ⟨c6, g1, g2⟩ := y2.mp hB2
      rw [gB_iff] at g1
      refine .inr ⟨_, _, _, _, _, _, _, _, p + 1 + nd L T (p + 1), by rw [hB2, q1]; rfl, by omega, fun z => hB (x2.mpr ⟨c6, C1_of hS g1.1 z, g2⟩)⟩
    · exact .inl ⟨_, by rw [(Bool.not_eq_true B).mp hB2]; rfl⟩
theorem it_s (N : Nat) (hN : 5000 ≤ N) {L p e C c s : Nat} {T xl nums vo dr fr ah pl sp se rc rk rs rr : Nat → Int32} {v0 e0 : Int32} (hL : L ≤ 200) (hx : ∀ j, j < L → xl j = la L T j) (hp : p < L) (hS : SEMI L T (p + 1) e) (hR : RD C c s vo dr fr ah pl sp se rc rk rs rr) (ht : xl p = 115) : IT L T e (f4_readItem N (nI p) (nI e) xl nums (nI C) vo dr fr (nI c) ah (nI s) pl sp se) (f6_readsItem N 115 (nI (p + 1)) (nI L) T (nI C) rc (nI c) rk (nI s) rs rr v0 e0) := by
  obtain ⟨Bc, nums', s1', pl', sp', x1, x2, x3⟩ := cl_s N hN (nums := nums) (vo := vo) (dr := dr) (fr := fr) (ah := ah) (pl := pl) (sp := sp) (se := se) (ca := nI C) (co := nI c) hL hx hp hS hR.1.2.2 ht
  obtain ⟨B, s2', rs', v, q, y1, y2, y3⟩ := ref_s N hN (rs := rs) (v0 := v0) (e0 := e0) (T := T) hL (show p + 1 < 300 by omega) hR.1.2.2
  have el := ex_le (L := L) (T := T) (a := p + 1)
  have hn : ∃ q : Nat, q < 100 ∧ nv L T (p + 1) = nI q := nv_nat
  rw [x1, f6_readsItem, if_neg (show ¬ (115 : Int32) = 99 by decide), if_neg (show ¬ (115 : Int32) = 104 by decide), if_neg (show ¬ (115 : Int32) = 111 by decide), if_pos rfl, y1, Option.bind_some, if_pos (bi_isb B)]
  by_cases hB : Bc = true
  · obtain ⟨c6, ⟨c1, c2, c3, c4, c5⟩, r2, r1⟩ := x2.mp hB
    have hB2 : B = true := y2.mpr ⟨c6, gB_iff.mpr ⟨c1, (inS_iff hR hn).mpr r1⟩, c3, gB_iff.mpr ⟨c4, r2⟩⟩
    obtain ⟨q1, q2, q3⟩ := y3 hB2
    obtain ⟨p1, p2, p3⟩ := x3 hB
    refine .inl ⟨C, c, s + 1, nums', vo, dr, fr, ah, pl', sp', se, rc, rk, rs', rr, v, ?_, ?_, ?_⟩
    · rw [hB, p1]; rfl
    · rw [hB2, q1, q2, show e2 L T (p + 1) = e from c5]; rfl
    · rw [p2, p3, q3]; exact RD_s hR c6 hn r1 r2
  · refine .inr ⟨⟨_, by rw [(Bool.not_eq_true Bc).mp hB]; rfl⟩, ?_⟩
    by_cases hB2 : B = true
    · obtain ⟨q1, -, -⟩ := y3 hB2
      obtain ⟨c6, g1, g2, g3⟩ := y2.mp hB2
      rw [gB_iff] at g1 g3
      refine .inr ⟨_, _, _, _, _, _, _, _, e2 L T (p + 1), by rw [hB2, q1]; rfl, by omega, fun z => hB (x2.mpr ⟨c6, C2_of hS g1.1 g2 g3.1 z, g3.2, (inS_iff hR hn).mp g1.2⟩)⟩
    · exact .inl ⟨_, by rw [(Bool.not_eq_true B).mp hB2]; rfl⟩
theorem it_r (N : Nat) (hN : 5000 ≤ N) {L p e C c s : Nat} {T xl nums vo dr fr ah pl sp se rc rk rs rr : Nat → Int32} {v0 e0 : Int32} (hL : L ≤ 200) (hx : ∀ j, j < L → xl j = la L T j) (hp : p < L) (hS : SEMI L T (p + 1) e) (hR : RD C c s vo dr fr ah pl sp se rc rk rs rr) {f : Nat} {k : Int32} (hk : (f = 0 ∧ k = 111) ∨ (f = 3 ∧ k = 104)) (ht : xl p = k) : IT L T e (f4_readItem N (nI p) (nI e) xl nums (nI C) vo dr fr (nI c) ah (nI s) pl sp se) (f6_readsItem N k (nI (p + 1)) (nI L) T (nI C) rc (nI c) rk (nI s) rs rr v0 e0) := by
  have hf3 : f ≤ 3 := by rcases hk with q | q <;> omega
  obtain ⟨Bc, nums', se', x1, x2, x3⟩ := cl_r N hN (f := f) (nums := nums) (vo := vo) (dr := dr) (fr := fr) (ah := ah) (pl := pl) (sp := sp) (se := se) (ca := nI C) (co := nI c) (st := nI s) hL hx hp hS (hk.elim (fun q => .inl ⟨q.1, ht.trans q.2⟩) (fun q => .inr ⟨q.1, ht.trans q.2⟩))
  obtain ⟨B, rr', v, q, y1, y2, y3⟩ := ref_r N hN (rr := rr) (v0 := v0) (e0 := e0) (T := T) hL (show p + 1 < 300 by omega) hf3
  have el := ex_le (L := L) (T := T) (a := p + 1)
  have red : f6_readsItem N k (nI (p + 1)) (nI L) T (nI C) rc (nI c) rk (nI s) rs rr v0 e0 = some (bi B, nI C, rc, nI c, rk, nI s, rs, rr', v, q) := by
    rcases hk with ⟨rfl, rfl⟩ | ⟨rfl, rfl⟩
    · rw [f6_readsItem, if_neg (show ¬ (111 : Int32) = 99 by decide), if_neg (show ¬ (111 : Int32) = 104 by decide), if_pos rfl, show f6_readsRules N (nI (p + 1)) 0 (nI L) T rr v0 e0 = _ from y1, Option.bind_some, if_pos (bi_isb B)]
    · rw [f6_readsItem, if_neg (show ¬ (104 : Int32) = 99 by decide), if_pos rfl, show f6_readsRules N (nI (p + 1)) 3 (nI L) T rr v0 e0 = _ from y1, Option.bind_some, if_pos (bi_isb B)]
  rw [x1, red]
  by_cases hB : Bc = true
  · obtain ⟨⟨c1, c2, c3, c4, c5, c7, c8, c9⟩, r1, r2, r3⟩ := x2.mp hB
    have hB2 : B = true := y2.mpr ⟨gB_iff.mpr ⟨c1, r1⟩, c3, gB_iff.mpr ⟨c4, r2⟩, c7, gB_iff.mpr ⟨c8, r3⟩⟩
    obtain ⟨q1, q3⟩ := y3 hB2
    have p1 := x3 hB
    refine .inl ⟨C, c, s, nums', vo, dr, fr, ah, pl, sp, se', rc, rk, rs, rr', v, ?_, ?_, ?_⟩
    · rw [hB]; rfl
    · rw [hB2, q1, show e3 L T (p + 1) = e from c9]; rfl
    · obtain ⟨h1, h2, h3, h4, h5, h6⟩ := hR
      refine ⟨h1, h2, h3, h4, h5, fun j hj => ?_⟩
      rw [p1 j hj, q3]
      have vb : ∀ {i : Nat} {x : Int32}, inT f i x → ∃ y : Nat, setLo (f + i) ≤ y ∧ y ≤ setHi (f + i) ∧ x = nI y := fun {i x} hh => rng (by have := setB (f + i); omega) (by have := setB (f + i); omega) hh
      by_cases j0 : j = f
      · rw [if_pos j0, j0, up_n (by omega), up_n (by omega), up_s]; exact ⟨rfl, vb r1⟩
      · rw [if_neg j0]
        by_cases j1 : j = f + 1
        · rw [if_pos j1, j1, up_n (by omega), up_s]; exact ⟨rfl, vb r2⟩
        · rw [if_neg j1]
          by_cases j2 : j = f + 2
          · rw [if_pos j2, j2, up_s]; exact ⟨rfl, vb r3⟩
          · rw [if_neg j2, up_n j2, up_n j1, up_n j0]; exact h6 j hj
  · refine .inr ⟨⟨_, by rw [(Bool.not_eq_true Bc).mp hB]; rfl⟩, ?_⟩
    by_cases hB2 : B = true
    · obtain ⟨q1, -⟩ := y3 hB2
      obtain ⟨g1, g2, g3, g4, g5⟩ := y2.mp hB2
      rw [gB_iff] at g1 g3 g5
      refine .inr ⟨_, _, _, _, _, _, _, _, e3 L T (p + 1), by rw [hB2, q1]; rfl, by omega, fun z => hB (x2.mpr ⟨C3_of hS g1.1 g2 g3.1 g4 g5.1 z, g1.2, g3.2, g5.2⟩)⟩
    · exact .inl ⟨_, by rw [(Bool.not_eq_true B).mp hB2]; rfl⟩
