/-! tried, even -/
def MK (cav stg : Nat) (vol frz drags tv tf now pl tp sp st : Nat → Int32) : Prop := (1 ≤ cav ∧ cav ≤ 6) ∧ (1 ≤ stg ∧ stg ≤ 4) ∧ (∀ k, k + 1 < stg → pl k ≤ pl (k + 1)) ∧ (∀ k, k < stg → tp k = pl k ∧ now (1145 + k) = sp k) ∧ (∀ c, c < cav → tv c = vol c ∧ now (1139 + c) = drags c ∧ tf c = frz c) ∧ (∀ j, j < 6 → now (1149 + j) = st j) ∧ (∃ s2 : Nat, st 2 = nI s2 ∧ s2 ≤ 40 ∧ 1 ≤ s2) ∧ ∃ h4 : Nat, st 4 = nI h4 ∧ h4 ≤ 20
theorem MK_of {cav cor stg : Nat} {p v : tO} {tc tco ts : Int32} {tv tf te tp now : Nat → Int32} {H : Nat → tO} {m : Nat} (hP : RP cav cor stg p tc tv tf tco te ts tp) (hS : RS cav cor stg v H now m) : MK cav stg (p.2 0) (p.2 2) (v.2 0) tv tf now (p.2 4) tp (v.2 1) (v.2 2) := by
  obtain ⟨⟨p1, p2, -, -⟩, -, ⟨p3, p4, -, -⟩, hc, -, ⟨-, hp⟩, hm⟩ := hP
  obtain ⟨-, -, -, -, -, -, -, hd, hsp, hse, -, -⟩ := hS
  refine ⟨⟨p1, p2⟩, ⟨p3, p4⟩, hm, fun k hk => ⟨(hp k hk).1, (hsp k hk).1⟩, fun c h => ⟨(hc c h).1, (hd c h).1, (hc c h).2.1⟩, fun j hj => (hse j hj).1, ?_, ?_⟩
  · obtain ⟨-, s, s1, s2, s3⟩ := hse 2 (by omega)
    exact ⟨s, s3, s2, s1⟩
  · obtain ⟨-, s, s1, s2, s3⟩ := hse 4 (by omega)
    exact ⟨s, s3, s2⟩
theorem make_MK (N : Nat) (hN : 5000 ≤ N) {cav stg : Nat} {vol frz drags tv tf now pl tp sp st : Nat → Int32} (h : MK cav stg vol frz drags tv tf now pl tp sp st) (l : Int32) (has first full pr one : Nat → Int32) : ∃ (ha fi fu pr' one' : Nat → Int32) (pc ft ti wh sc : Int32), f2_make N l has first full pr (nI cav) vol frz (nI stg) pl drags sp st = some (ha, fi, fu, pr', pc, ft, ti, st 5, wh) ∧ f6_tries N l (nI cav) tv tf (nI stg) tp now one = some (one', sc) ∧ RH cav (mkH ha fi fu pr' pc ft ti (st 5) wh) one' ∧ ¬ one' 4 < 0 := by
  obtain ⟨⟨a1, a2⟩, ⟨b1, b2⟩, hm, HS, H, HT, ⟨s2, e2, e20, e21⟩, h4, e4, e40⟩ := h
  exact make_eq N hN a2 a1 b1 b2 hm HS H HT e2 e20 e21 e4 e40 has first full pr one
theorem eq_tried (N : Nat) (hN : 5000 ≤ N) (l1 l2 : Int32) {cav stg : Nat} {vol frz drags tv tf now pl tp sp st : Nat → Int32} (hM : MK cav stg vol frz drags tv tf now pl tp sp st) (has first full pr one : Nat → Int32) (b0 b1 b2 b3 b4 sc : Int32) : ∃ r q o, f5_tried N l1 l2 (nI cav) vol frz (nI stg) pl drags sp st has first full pr b0 b1 b2 b3 b4 = some (r, q) ∧ f6_tried N l1 l2 (nI cav) tv tf (nI stg) tp now one sc = some (r, o) := by
  rw [f5_tried, f6_tried, isIn_eq, isIn_eq, Option.bind_some]
  by_cases hx : -8 ≤ l1 ∧ l1 ≤ 8
  · rw [if_neg (i_nlt.mpr hx.1), if_neg (i_nlt.mpr hx.2), if_neg (bi_1 (decide_eq_true hx)), Option.bind_some]
    by_cases hy : 0 ≤ l2 ∧ l2 ≤ 6
    · rw [if_neg (i_nlt.mpr hy.1), if_pos hy.2, if_neg (bi_1 (decide_eq_true hy))]
      obtain ⟨ha, fi, fu, pr', one', pc, ft, ti, wh, sc', m1, m2, m3, -⟩ := make_MK N hN hM l1 has first full pr one
      obtain ⟨j, -, j6, rfl⟩ := rng (lo := 0) (hi := 6) (by decide) (by decide) hy
      obtain ⟨r, r1, r2⟩ := told_eq N hN (p := 0) (nn := 84) (j := j) (by decide) (by decide) (RH_cg hM.1.2 (fun k _ => congrArg one' (Nat.zero_add k)) m3) (by omega)
      rw [m1, m2, Option.bind_some, Option.bind_some]
      have e1 : f2_told N (nI j) fu pr' pc ft ti (st 5) wh = some r := r1
      have e2 : f6_told N 0 (nI j) 84 one' = some r := r2
      show ∃ r q o, (f2_told N (nI j) fu pr' pc ft ti (st 5) wh).bind _ = _ ∧ (f6_told N 0 (nI j) 84 one').bind _ = _
      rw [e1, e2]
      exact ⟨_, _, _, rfl, rfl⟩
    · rw [if_pos (bi_0 (fun q => hy (of_decide_eq_true q)))]
      by_cases h1 : l2 < 0
      · rw [if_pos h1]; exact ⟨_, _, _, rfl, rfl⟩
      · rw [if_neg h1, if_neg (fun h9 => hy ⟨i_nlt.mp h1, h9⟩)]; exact ⟨_, _, _, rfl, rfl⟩
  · rw [if_pos (bi_0 (fun q => hx (of_decide_eq_true q)))]
    by_cases h1 : l1 < -8
    · rw [if_pos h1]; exact ⟨_, _, _, rfl, rfl⟩
    · rw [if_neg h1, if_pos (i_nle.mp (fun h9 => hx ⟨i_nlt.mp h1, h9⟩))]; exact ⟨_, _, _, rfl, rfl⟩
/-- the balance at each change of the speeds -/
theorem bal_fun (N : Nat) (hN : 5000 ≤ N) {cav stg : Nat} {vol frz drags tv tf now pl tp sp st : Nat → Int32} (hM : MK cav stg vol frz drags tv tf now pl tp sp st) : ∃ B : Int32 → Int32, (∀ l, ¬ B l < 0) ∧ (∀ (l : Int32) (has first full pr : Nat → Int32), ∃ (ha fi fu pr' : Nat → Int32) (pc ft ti co wh : Int32), f5_balanceWith N l (nI cav) vol frz (nI stg) pl drags sp st has first full pr = some (B l, ha, fi, fu, pr', pc, ft, ti, co, wh)) ∧ ∀ (l : Int32) (one : Nat → Int32), ∃ (one' : Nat → Int32) (sc : Int32), f6_tries N l (nI cav) tv tf (nI stg) tp now one = some (one', sc) ∧ one' 4 = B l := by
  have key : ∀ l : Int32, ∃ b : Int32, ¬ b < 0 ∧ (∀ (has first full pr : Nat → Int32), ∃ (ha fi fu pr' : Nat → Int32) (pc ft ti co wh : Int32), f5_balanceWith N l (nI cav) vol frz (nI stg) pl drags sp st has first full pr = some (b, ha, fi, fu, pr', pc, ft, ti, co, wh)) ∧ ∀ (one : Nat → Int32), ∃ (one' : Nat → Int32) (sc : Int32), f6_tries N l (nI cav) tv tf (nI stg) tp now one = some (one', sc) ∧ one' 4 = b := by
    intro l
    obtain ⟨ha, fi, fu, pr', one', pc, ft, ti, wh, sc', m1, m2, m3, m4⟩ := make_MK N hN hM l (fun _ => 0) (fun _ => 0) (fun _ => 0) (fun _ => 0) (fun _ => 0)
    refine ⟨one' 4, m4, fun has first full pr => ?_, fun one => ?_⟩
    · obtain ⟨ha2, fi2, fu2, pr2, one2, pc2, ft2, ti2, wh2, sc2, n1, n2, n3, -⟩ := make_MK N hN hM l has first full pr (fun _ => 0)
      rw [m2] at n2
      have e : one' = one2 := (Prod.mk.inj (Option.some.inj n2)).1
      have hb : f2_balance N fu2 = some (one' 4) := by rw [e]; exact n3.2.2.2.2.2.1 N (by omega)
      refine ⟨ha2, fi2, fu2, pr2, pc2, ft2, ti2, st 5, wh2, ?_⟩
      rw [f5_balanceWith, n1, Option.bind_some]
      show (f2_balance N fu2).bind _ = _
      rw [hb]; rfl
    · obtain ⟨ha2, fi2, fu2, pr2, one2, pc2, ft2, ti2, wh2, sc2, n1, n2, n3, -⟩ := make_MK N hN hM l (fun _ => 0) (fun _ => 0) (fun _ => 0) (fun _ => 0) one
      rw [m1] at n1
      have e : fu = fu2 := (Prod.mk.inj (Prod.mk.inj (Prod.mk.inj (Option.some.inj n1)).2).2).1
      refine ⟨one2, sc2, n2, ?_⟩
      have b1 : f2_balance N fu = some (one' 4) := m3.2.2.2.2.2.1 N (by omega)
      have b2 : f2_balance N fu2 = some (one2 4) := n3.2.2.2.2.2.1 N (by omega)
      rw [← e, b1] at b2
      exact (Option.some.inj b2).symm
  refine ⟨fun l => Classical.choose (key l), fun l => (Classical.choose_spec (key l)).1, fun l => (Classical.choose_spec (key l)).2.1, fun l => (Classical.choose_spec (key l)).2.2⟩
theorem far_mul : ∀ far, far < 9 → (-1 : Int32) * nI far = - nI far ∧ (1 : Int32) * nI far = nI far := by decide +kernel
theorem even28 (N : Nat) {cav stg : Nat} {tv tf now tp : Nat → Int32} {B : Int32 → Int32} (hr : ∀ (l : Int32) (one : Nat → Int32), ∃ (one' : Nat → Int32) (sc : Int32), f6_tries N l (nI cav) tv tf (nI stg) tp now one = some (one', sc) ∧ one' 4 = B l) (K : Int32 → Int32 → Int32 → Int32 → Int32 → (Nat → Int32) → (Nat → Int32) → Int32 → (Nat → Int32) → (Nat → Int32) → (Nat → Int32) → Int32 → Option (Int32 × (Nat → Int32) × Int32)) {l1 best least f s sc : Int32} {one : Nat → Int32} (n : Nat) (hs : ¬ 2 ≤ s) : ∃ (one' : Nat → Int32) (sc' : Int32), f6_even_28 K N (n + 1) l1 best least f s (nI cav) tv tf (nI stg) tp now one sc = f6_even_28 K N n l1 (if ¬ least < 0 ∧ least ≤ B (s * f) then best else s * f) (if ¬ least < 0 ∧ least ≤ B (s * f) then least else B (s * f)) f (s + 2) (nI cav) tv tf (nI stg) tp now one' sc' := by
  obtain ⟨one', sc', h1, h2⟩ := hr (s * f) one
  refine ⟨one', sc', ?_⟩
  have o : ok 4 84 = true := by decide
  have c : Int32.toNatClampNeg 4 = 4 := rfl
  rw [f6_even_28, if_neg hs, h1, Option.bind_some, f6_even_57, if_pos o, if_pos o, c]
  show (if least < 0 then f6_even_28 K N n l1 (s * f) (one' 4) f (s + 2) (nI cav) tv tf (nI stg) tp now one' sc' else if least ≤ one' 4 then f6_even_28 K N n l1 best least f (s + 2) (nI cav) tv tf (nI stg) tp now one' sc' else f6_even_28 K N n l1 (s * f) (one' 4) f (s + 2) (nI cav) tv tf (nI stg) tp now one' sc') = _
  rw [h2]
  by_cases z : least < 0
  · rw [if_pos z, if_neg (fun q => q.1 z), if_neg (fun q => q.1 z)]
  · rw [if_neg z]
    by_cases y : least ≤ B (s * f)
    · rw [if_pos y, if_pos ⟨z, y⟩, if_pos ⟨z, y⟩]
    · rw [if_neg y, if_neg (fun q => y q.2), if_neg (fun q => y q.2)]
theorem even_lp (N : Nat) (hN : 5000 ≤ N) {cav stg : Nat} {vol frz drags tv tf now pl tp sp st : Nat → Int32} {B : Int32 → Int32} (hb : ∀ l, ¬ B l < 0) (hc : ∀ (l : Int32) (has first full pr : Nat → Int32), ∃ (ha fi fu pr' : Nat → Int32) (pc ft ti co wh : Int32), f5_balanceWith N l (nI cav) vol frz (nI stg) pl drags sp st has first full pr = some (B l, ha, fi, fu, pr', pc, ft, ti, co, wh)) (hr : ∀ (l : Int32) (one : Nat → Int32), ∃ (one' : Nat → Int32) (sc : Int32), f6_tries N l (nI cav) tv tf (nI stg) tp now one = some (one', sc) ∧ one' 4 = B l) (l1 : Int32) : ∀ (m n n' far : Nat) (best least : Int32) (has first full pr one : Nat → Int32) (b0 b1 b2 b3 b4 sc : Int32), far + m = 9 → m < n → m < n' → ¬ least < 0 → ∃ r q o, f5_even_20 N n l1 best least (nI far) (nI cav) vol frz (nI stg) pl drags sp st has first full pr b0 b1 b2 b3 b4 = some (r, q) ∧ f6_even_18 N n' l1 best least (nI far) (nI cav) tv tf (nI stg) tp now one sc = some (r, o) := by
  intro m
  induction m with
  | zero =>
    intro n n' far best least has first full pr one b0 b1 b2 b3 b4 sc hk hn hn' hl
    obtain ⟨n, rfl⟩ : ∃ q, n = q + 1 := ⟨n - 1, by omega⟩
    obtain ⟨n', rfl⟩ : ∃ q, n' = q + 1 := ⟨n' - 1, by omega⟩
    have g : (8 : Int32) < nI far := nI_lt (a := 8) (by omega) (by omega)
    rw [f5_even_20, f6_even_18, if_pos g, if_pos g]
    by_cases z : l1 = 0
    · rw [if_pos z, if_pos z]; exact ⟨_, _, _, rfl, rfl⟩
    · rw [if_neg z, if_neg z]; exact ⟨_, _, _, rfl, rfl⟩
  | succ m ih =>
    intro n n' far best least has first full pr one b0 b1 b2 b3 b4 sc hk hn hn' hl
    obtain ⟨n, rfl⟩ : ∃ q, n = q + 1 := ⟨n - 1, by omega⟩
    obtain ⟨n', rfl⟩ : ∃ q, n' = q + 1 := ⟨n' - 1, by omega⟩
    have g : ¬ (8 : Int32) < nI far := nI_nlt (a := 8) (by omega) (by omega)
    obtain ⟨N2, rfl⟩ : ∃ q, N = q + 3 := ⟨N - 3, by omega⟩
    obtain ⟨e1, e2⟩ := far_mul far (by omega)
    obtain ⟨one1, sc1, q1⟩ := even28 (N2 + 3) hr (fun a0 a1 a2 a3 a4 a5 a6 a7 a8 a9 a10 a11 => f6_even_18 (N2 + 3) n' a0 a1 a2 a3 a4 a5 a6 a7 a8 a9 a10 a11) (l1 := l1) (best := best) (least := least) (f := nI far) (s := -1) (sc := sc) (one := one) (N2 + 2) (by decide)
    obtain ⟨one2, sc2, q2⟩ := even28 (N2 + 3) hr (fun a0 a1 a2 a3 a4 a5 a6 a7 a8 a9 a10 a11 => f6_even_18 (N2 + 3) n' a0 a1 a2 a3 a4 a5 a6 a7 a8 a9 a10 a11) (l1 := l1) (best := (if ¬ least < 0 ∧ least ≤ B (-1 * nI far) then best else -1 * nI far)) (least := (if ¬ least < 0 ∧ least ≤ B (-1 * nI far) then least else B (-1 * nI far))) (f := nI far) (s := -1 + 2) (sc := sc1) (one := one1) (N2 + 1) (by decide)
    rw [f6_even_18, if_neg g]
    have e3 : (-1 + 2 : Int32) = 1 := by decide
    rw [q1, q2, e3, f6_even_28, if_pos (show (2 : Int32) ≤ 1 + 2 by decide), e1, e2, nI_1]
    obtain ⟨ha, fi, fu, pr', pc, ft, ti, co, wh, k1⟩ := hc (- nI far) has first full pr
    obtain ⟨ha', fi', fu', pr'', pc', ft', ti', co', wh', k2⟩ := hc (nI far) ha fi fu pr'
    rw [f5_even_20, if_neg g, k1, Option.bind_some, f5_even_49, f5_even_49]
    show ∃ r q o, (if least ≤ B (- nI far) then (f5_balanceWith (N2 + 3) (nI far) (nI cav) vol frz (nI stg) pl drags sp st ha fi fu pr').bind _ else (f5_balanceWith (N2 + 3) (nI far) (nI cav) vol frz (nI stg) pl drags sp st ha fi fu pr').bind _) = _ ∧ _
    rw [k2, Option.bind_some, Option.bind_some, nI_1]
    by_cases z : least ≤ B (- nI far)
    · rw [if_pos z, if_pos (show ¬ least < 0 ∧ least ≤ B (- nI far) from ⟨hl, z⟩), if_pos (show ¬ least < 0 ∧ least ≤ B (- nI far) from ⟨hl, z⟩)]
      by_cases y : least ≤ B (nI far)
      · rw [if_pos y, if_pos (show ¬ least < 0 ∧ least ≤ B (nI far) from ⟨hl, y⟩), if_pos (show ¬ least < 0 ∧ least ≤ B (nI far) from ⟨hl, y⟩)]
        exact ih n n' (far + 1) _ _ _ _ _ _ _ _ _ _ _ _ _ (by omega) (by omega) (by omega) hl
      · rw [if_neg y, if_neg (show ¬ (¬ least < 0 ∧ least ≤ B (nI far)) from fun q => y q.2), if_neg (show ¬ (¬ least < 0 ∧ least ≤ B (nI far)) from fun q => y q.2)]
        exact ih n n' (far + 1) _ _ _ _ _ _ _ _ _ _ _ _ _ (by omega) (by omega) (by omega) (hb _)
    · have hl2 : ¬ B (- nI far) < 0 := hb _
      rw [if_neg z, if_neg (show ¬ (¬ least < 0 ∧ least ≤ B (- nI far)) from fun q => z q.2), if_neg (show ¬ (¬ least < 0 ∧ least ≤ B (- nI far)) from fun q => z q.2)]
      by_cases y : B (- nI far) ≤ B (nI far)
      · rw [if_pos y, if_pos (show ¬ B (- nI far) < 0 ∧ B (- nI far) ≤ B (nI far) from ⟨hl2, y⟩), if_pos (show ¬ B (- nI far) < 0 ∧ B (- nI far) ≤ B (nI far) from ⟨hl2, y⟩)]
        exact ih n n' (far + 1) _ _ _ _ _ _ _ _ _ _ _ _ _ (by omega) (by omega) (by omega) hl2
      · rw [if_neg y, if_neg (show ¬ (¬ B (- nI far) < 0 ∧ B (- nI far) ≤ B (nI far)) from fun q => y q.2), if_neg (show ¬ (¬ B (- nI far) < 0 ∧ B (- nI far) ≤ B (nI far)) from fun q => y q.2)]
        exact ih n n' (far + 1) _ _ _ _ _ _ _ _ _ _ _ _ _ (by omega) (by omega) (by omega) (hb _)
theorem eq_even (N : Nat) (hN : 5000 ≤ N) (l1 : Int32) {cav stg : Nat} {vol frz drags tv tf now pl tp sp st : Nat → Int32} (hM : MK cav stg vol frz drags tv tf now pl tp sp st) (has first full pr one : Nat → Int32) (b0 b1 b2 b3 b4 sc : Int32) : ∃ r q o, f5_even N l1 (nI cav) vol frz (nI stg) pl drags sp st has first full pr b0 b1 b2 b3 b4 = some (r, q) ∧ f6_even N l1 (nI cav) tv tf (nI stg) tp now one sc = some (r, o) := by
  obtain ⟨B, hb, hc, hr⟩ := bal_fun N hN hM
  rw [f5_even, f6_even, c_isFlag, r_isFlag, Option.bind_some, Option.bind_some]
  by_cases hw : isb l1 = true
  · rw [if_neg (bi_1 hw), if_neg (bi_1 hw)]
    obtain ⟨ha, fi, fu, pr', pc, ft, ti, co, wh, k1⟩ := hc 0 has first full pr
    obtain ⟨N2, rfl⟩ : ∃ q, N = q + 3 := ⟨N - 3, by omega⟩
    obtain ⟨one1, sc1, q1⟩ := even28 (N2 + 3) hr (fun a0 a1 a2 a3 a4 a5 a6 a7 a8 a9 a10 a11 => f6_even_18 (N2 + 3) (N2 + 2) a0 a1 a2 a3 a4 a5 a6 a7 a8 a9 a10 a11) (l1 := l1) (best := 0) (least := -1) (f := 0) (s := -1) (sc := sc) (one := one) (N2 + 2) (by decide)
    rw [if_neg (show ¬ (¬ (-1 : Int32) < 0 ∧ (-1 : Int32) ≤ B (-1 * 0)) from fun q => q.1 (by decide)), if_neg (show ¬ (¬ (-1 : Int32) < 0 ∧ (-1 : Int32) ≤ B (-1 * 0)) from fun q => q.1 (by decide)), show (-1 : Int32) * 0 = 0 by decide, show (-1 + 2 : Int32) = 1 by decide] at q1
    obtain ⟨one2, sc2, q2⟩ := even28 (N2 + 3) hr (fun a0 a1 a2 a3 a4 a5 a6 a7 a8 a9 a10 a11 => f6_even_18 (N2 + 3) (N2 + 2) a0 a1 a2 a3 a4 a5 a6 a7 a8 a9 a10 a11) (l1 := l1) (best := 0) (least := B 0) (f := 0) (s := 1) (sc := sc1) (one := one1) (N2 + 1) (by decide)
    have le : B 0 ≤ B (1 * 0) := by rw [show (1 : Int32) * 0 = 0 by decide, i_le]; omega
    rw [if_pos (show ¬ B 0 < 0 ∧ B 0 ≤ B (1 * 0) from ⟨hb 0, le⟩), if_pos (show ¬ B 0 < 0 ∧ B 0 ≤ B (1 * 0) from ⟨hb 0, le⟩)] at q2
    rw [f6_even_18, if_neg (show ¬ (8 : Int32) < 0 by decide), q1, q2, f6_even_28, if_pos (show (2 : Int32) ≤ 1 + 2 by decide), k1, Option.bind_some]
    exact even_lp (N2 + 3) hN hb hc hr l1 8 (N2 + 3) (N2 + 2) 1 0 (B 0) ha fi fu pr' one2 pc ft ti co wh sc2 (by omega) (by omega) (by omega) (hb 0)
  · rw [if_pos (bi_0 hw), if_pos (bi_0 hw)]
    exact ⟨_, _, _, rfl, rfl⟩
