/-! teach -/
def shB (vol has : Nat → Int32) : Nat → Nat → Bool
  | _, 0 => false
  | k, m + 1 => if vol k ≤ has k then shB vol has (k + 1) m else true
theorem short_c (N : Nat) {cav : Nat} {vol has : Nat → Int32} (hcav : cav ≤ 6) : ∀ (m n k : Nat), k + m = cav → m < n → f2_isShort_2 N n (nI k) has (nI cav) vol = some (bi (shB vol has k m)) := by
  intro m
  induction m with
  | zero =>
    intro n k hk hn
    obtain ⟨n, rfl⟩ : ∃ q, n = q + 1 := ⟨n - 1, by omega⟩
    rw [f2_isShort_2, if_pos (nI_le (by omega) (by omega))]; rfl
  | succ m ih =>
    intro n k hk hn
    obtain ⟨n, rfl⟩ : ∃ q, n = q + 1 := ⟨n - 1, by omega⟩
    have o : ok (nI k) 6 = true := ok_nI (by omega) (by omega)
    rw [f2_isShort_2, if_neg (show ¬ nI cav ≤ nI k from nI_ge (by omega) (by omega)), if_pos o, if_pos o, cl_nI (by omega), shB]
    by_cases z : vol k ≤ has k
    · rw [if_pos z, if_pos z, nI_1]; exact ih n (k + 1) (by omega) (by omega)
    · rw [if_neg z, if_neg z]; rfl
theorem short_r (N : Nat) {cav s : Nat} {vol has tv a : Nat → Int32} (hs : s < 12) (hcav : cav ≤ 6) (hr : ∀ c, c < cav → (∃ x : Nat, x ≤ 200 ∧ has c = nI x) ∧ ∃ v : Nat, v ≤ 30 ∧ vol c = nI v) (hv : ∀ c, c < cav → tv c = vol c) (ha : ∀ c, c < cav → a (84 * s + (66 + c)) = has c) : ∀ (m n k : Nat) (b : Bool), k + m = cav → m < n → f6_isShort_4 N n (nI s) (bi b) (nI k) (nI cav) tv a = some (bi (b || shB vol has k m)) := by
  intro m
  induction m with
  | zero =>
    intro n k b hk hn
    obtain ⟨n, rfl⟩ : ∃ q, n = q + 1 := ⟨n - 1, by omega⟩
    rw [f6_isShort_4, if_pos (nI_le (by omega) (by omega)), if_pos (bi_isb b), shB, Bool.or_false]
  | succ m ih =>
    intro n k b hk hn
    obtain ⟨n, rfl⟩ : ∃ q, n = q + 1 := ⟨n - 1, by omega⟩
    rw [f6_isShort_4, if_neg (show ¬ nI cav ≤ nI k from nI_ge (by omega) (by omega)), nI_1]
    cases b with
    | true =>
      rw [if_neg (show ¬ bi true = 0 by decide), show (1 : Int32) = bi true from rfl, ih n (k + 1) true (by omega) (by omega)]; rfl
    | false =>
      obtain ⟨⟨x, hx, ex⟩, v, hv', ev⟩ := hr k (by omega)
      rw [if_pos (show bi false = 0 from rfl), shortBy_eq N hs (by omega), Option.bind_some, hv k (by omega), ha k (by omega), shB]
      have e : (vol k - has k).toInt = (v : Int) - x := by rw [ev, ex]; exact pk_sub_toInt (by omega) (by omega)
      have z0 : (0 : Int32).toInt = 0 := rfl
      by_cases z : vol k ≤ has k
      · rw [if_pos z]
        rw [ev, ex, i_le, nI_toInt (by omega), nI_toInt (by omega)] at z
        rw [if_neg (show ¬ 0 < vol k - has k by rw [i_lt, e]; omega), if_pos (show (0 : Int32) ≤ 0 by decide), show (0 : Int32) = bi false from rfl, ih n (k + 1) false (by omega) (by omega)]
      · rw [if_neg z]
        rw [ev, ex, i_le, nI_toInt (by omega), nI_toInt (by omega)] at z
        rw [if_pos (show 0 < vol k - has k by rw [i_lt, e]; omega), if_neg (show ¬ vol k - has k ≤ 0 by rw [i_le, e]; omega), show (1 : Int32) = bi true from rfl, ih n (k + 1) true (by omega) (by omega)]; rfl
theorem teach_lp (N : Nat) {s : Nat} {fb : Bool} {te so lg tk ch : Int32} {pr was : Nat → Int32} (hs : s < 12) : ∀ (m n n' k : Nat) (le gr now : Nat → Int32), k + m = 60 → m < n → m < n' → (∀ j, j < 60 → now (84 * s + (6 + j)) = pr j) → (∀ j, j < 60 → (fb = false ∨ j < k) → now (1019 + j) = le j ∧ now (1079 + j) = gr j) →
    ∃ (n2 : Nat) (le' gr' now' : Nat → Int32), f0_learn_15 N n (bi fb) (nI k) te so lg le gr pr tk = (if bi fb = 0 then f0_learn_110 N (if tk < so then tk else so) te lg le' gr' tk else f0_learn_110 N tk te lg le' gr' tk) ∧ f6_teach_44 N n' (nI s) (bi fb) (nI k) now was ch = f6_teach_44 N (n2 + 1) (nI s) (bi fb) (nI 60) now' was ch ∧ (∀ j, j < 60 → now' (1019 + j) = le' j ∧ now' (1079 + j) = gr' j) ∧ ∀ j, j < 1019 ∨ 1139 ≤ j → now' j = now j := by
  intro m
  induction m with
  | zero =>
    intro n n' k le gr now hk hn hn' hp hi
    obtain ⟨n, rfl⟩ : ∃ q, n = q + 1 := ⟨n - 1, by omega⟩
    obtain ⟨n', rfl⟩ : ∃ q, n' = q + 1 := ⟨n' - 1, by omega⟩
    have e : k = 60 := by omega
    rw [e]
    refine ⟨n', le, gr, now, ?_, rfl, fun j hj => hi j hj (.inr (by omega)), fun _ _ => rfl⟩
    rw [f0_learn_15, if_pos (show (60 : Int32) ≤ nI 60 by decide)]
  | succ m ih =>
    intro n n' k le gr now hk hn hn' hp hi
    obtain ⟨n, rfl⟩ : ∃ q, n = q + 1 := ⟨n - 1, by omega⟩
    obtain ⟨n', rfl⟩ : ∃ q, n' = q + 1 := ⟨n' - 1, by omega⟩
    have o : ok (nI k) 60 = true := ok_nI (by omega) (by omega)
    have ck : Int32.toNatClampNeg (nI k) = k := cl_nI (by omega)
    have x1 : (84 : Int32) * nI s + 6 + nI k = nI (84 * s + (6 + k)) := by
      rw [show (84 : Int32) * nI s = nI (84 * s) from pk_mul 84 s, show nI (84 * s) + (6 : Int32) = nI (84 * s + 6) from addn (84 * s) 6, addn, Nat.add_assoc]
    have x2 : (1019 : Int32) + nI k = nI (1019 + k) := addn 1019 k
    have x3 : (1079 : Int32) + nI k = nI (1079 + k) := addn 1079 k
    have o1 : ok (nI (84 * s + (6 + k))) 1155 = true := ok_nI (by omega) (by omega)
    have o2 : ok (nI (1019 + k)) 1155 = true := ok_nI (by omega) (by omega)
    have o3 : ok (nI (1079 + k)) 1155 = true := ok_nI (by omega) (by omega)
    have c1 : Int32.toNatClampNeg (nI (84 * s + (6 + k))) = 84 * s + (6 + k) := cl_nI (by omega)
    have c2 : Int32.toNatClampNeg (nI (1019 + k)) = 1019 + k := cl_nI (by omega)
    have c3 : Int32.toNatClampNeg (nI (1079 + k)) = 1079 + k := cl_nI (by omega)
    have go : ∀ x y : Int32, ∃ (n2 : Nat) (le' gr' now' : Nat → Int32), f0_learn_15 N n (bi fb) (nI (k + 1)) te so lg (upd le k x) (upd gr k y) pr tk = (if bi fb = 0 then f0_learn_110 N (if tk < so then tk else so) te lg le' gr' tk else f0_learn_110 N tk te lg le' gr' tk) ∧ f6_teach_44 N n' (nI s) (bi fb) (nI (k + 1)) (upd (upd now (1019 + k) x) (1079 + k) y) was ch = f6_teach_44 N (n2 + 1) (nI s) (bi fb) (nI 60) now' was ch ∧ (∀ j, j < 60 → now' (1019 + j) = le' j ∧ now' (1079 + j) = gr' j) ∧ ∀ j, j < 1019 ∨ 1139 ≤ j → now' j = now j := by
      intro x y
      obtain ⟨n2, le', gr', now', g1, g2, g3, g4⟩ := ih n n' (k + 1) (upd le k x) (upd gr k y) (upd (upd now (1019 + k) x) (1079 + k) y) (by omega) (by omega) (by omega) (fun j hj => by rw [up_n (by omega), up_n (by omega)]; exact hp j hj) (fun j hj hf => by
        by_cases z : j = k
        · rw [z, up_n (by omega), up_s, up_s, up_s, up_s]; exact ⟨rfl, rfl⟩
        · rw [up_n (by omega), up_n (by omega), up_n z, up_n (by omega), up_n (by omega), up_n z]
          exact hi j hj (hf.elim .inl (fun q => .inr (by omega))))
      exact ⟨n2, le', gr', now', g1, g2, g3, fun j hj => by rw [g4 j hj, up_n (by omega), up_n (by omega)]⟩
    rw [f0_learn_15, if_neg (show ¬ (60 : Int32) ≤ nI k from nI_ge (b := 60) (by omega) (by omega)), if_pos o, if_pos o, f6_teach_44, if_neg (show ¬ (60 : Int32) ≤ nI k from nI_ge (b := 60) (by omega) (by omega)), x1, x2, if_pos o1, if_pos o2, if_pos o2, c1, c2, ck, hp k (by omega), f6_teach_94]
    have L54 : ∀ x : Int32, f0_learn_54 (fun a0 a1 a2 a3 a4 a5 a6 a7 a8 => f0_learn_15 N n a0 a1 a2 a3 a4 a5 a6 a7 a8) N (bi fb) (nI k) (pr k) (nI k) x te so lg le gr pr tk = f0_learn_15 N n (bi fb) (nI (k + 1)) te so lg (upd le k x) (upd gr k (if bi fb = 0 then (if gr k < pr k then pr k else gr k) else pr k)) pr tk := by
      intro x
      rw [f0_learn_54, if_pos o, if_pos o, ck, f0_learn_80, f0_learn_80, if_pos o, if_pos o, ck, nI_1]
      by_cases z : bi fb = 0
      · rw [if_pos z, if_pos z]
      · rw [if_neg z, if_neg z]
    have T109 : ∀ x : Int32, f6_teach_109 (fun a0 a1 a2 a3 a4 a5 => f6_teach_44 N n' a0 a1 a2 a3 a4 a5) N (nI s) (bi fb) (nI k) (pr k) (nI (1019 + k)) x now was ch = f6_teach_44 N n' (nI s) (bi fb) (nI (k + 1)) (upd (upd now (1019 + k) x) (1079 + k) (if bi fb = 0 then (if pr k ≤ now (1079 + k) then now (1079 + k) else pr k) else pr k)) was ch := by
      intro x
      simp only [f6_teach_109, if_pos o2, x3, if_pos o3, c2, c3, up_n (show 1079 + k ≠ 1019 + k by omega), f6_teach_138, f6_teach_153, nI_1]
      by_cases z : bi fb = 0
      · rw [if_pos z, if_pos z]
        by_cases y : pr k ≤ now (1079 + k)
        · rw [if_pos y, if_pos y]
        · rw [if_neg y, if_neg y]
      · rw [if_neg z, if_neg z]
    rw [L54, L54, T109, T109]
    cases fb with
    | true =>
      rw [if_neg (show ¬ bi true = 0 by decide), if_neg (show ¬ bi true = 0 by decide), if_neg (show ¬ bi true = 0 by decide), if_neg (show ¬ bi true = 0 by decide)]
      exact go (pr k) (pr k)
    | false =>
      obtain ⟨q1, q2⟩ := hi k (by omega) (.inl rfl)
      have mx : (if pr k ≤ gr k then gr k else pr k) = if gr k < pr k then pr k else gr k := by
        by_cases z : gr k < pr k
        · rw [if_pos z, if_neg (i_nle.mpr z)]
        · rw [if_neg z, if_pos (i_nlt.mp z)]
      rw [if_pos (show bi false = 0 from rfl), if_pos (show bi false = 0 from rfl), if_pos (show bi false = 0 from rfl), if_pos (show bi false = 0 from rfl), q1, q2, mx]
      by_cases z : pr k < le k
      · rw [if_pos z, if_neg (i_nle.mpr z)]
        exact go _ _
      · rw [if_neg z, if_pos (i_nlt.mp z)]
        exact go _ _
theorem teach_end (N : Nat) {s T : Nat} {fb : Bool} {so lg tk ch SO LG : Int32} {now was : Nat → Int32} (n : Nat) (hs : s < 12) (h1 : now (84 * s + 1) = tk) (h15 : now 1015 = nI T) (hf : fb = true → SO = tk ∧ LG = tk) (hg : fb = false → now 1016 = so ∧ now 1017 = lg ∧ SO = (if tk < so then tk else so) ∧ LG = (if lg < tk then tk else lg)) : f6_teach_44 N (n + 1) (nI s) (bi fb) (nI 60) now was ch = some (nI (T + 1), upd (upd (upd now 1016 SO) 1017 LG) 1015 (nI (T + 1)), was, ch) := by
  have o15 : ok 1015 1155 = true := by decide
  have o16 : ok 1016 1155 = true := by decide
  have o17 : ok 1017 1155 = true := by decide
  have c15 : Int32.toNatClampNeg 1015 = 1015 := rfl
  have c16 : Int32.toNatClampNeg 1016 = 1016 := rfl
  have c17 : Int32.toNatClampNeg 1017 = 1017 := rfl
  have x1 : (84 : Int32) * nI s + 1 = nI (84 * s + 1) := by rw [show (84 : Int32) * nI s = nI (84 * s) from pk_mul 84 s, nI_1]
  have t243 : ∀ (S L : Int32), f6_teach_243 N 1017 L (upd now 1016 S) was ch = some (nI (T + 1), upd (upd (upd now 1016 S) 1017 L) 1015 (nI (T + 1)), was, ch) := by
    intro S L
    rw [f6_teach_243, if_pos o17, if_pos o15, if_pos o15, if_pos o15, c17, c15, up_s, up_n (show 1015 ≠ 1017 by decide), up_n (show 1015 ≠ 1016 by decide), h15, nI_1]
  rw [f6_teach_44, if_pos (show (60 : Int32) ≤ nI 60 by decide), x1, if_pos (ok_nI (n := 1155) (k := 84 * s + 1) (by omega) (by omega)), cl_nI (by omega), h1]
  simp only [f6_teach_195, f6_teach_207, f6_teach_231, if_pos o16, if_pos o17, c16, c17, t243, up_n (show (1017 : Nat) ≠ 1016 by decide)]
  cases fb with
  | true =>
    obtain ⟨rfl, rfl⟩ := hf rfl
    rw [if_neg (show ¬ bi true = 0 by decide), if_neg (show ¬ bi true = 0 by decide)]
  | false =>
    obtain ⟨g1, g2, rfl, rfl⟩ := hg rfl
    rw [if_pos (show bi false = 0 from rfl), if_pos (show bi false = 0 from rfl), if_pos (show bi false = 0 from rfl), g1, g2]
    by_cases z : tk < so
    · rw [if_pos z, if_neg (i_nle.mpr z)]
      by_cases y : lg < tk
      · rw [if_pos y, if_neg (i_nle.mpr y)]
      · rw [if_neg y, if_pos (i_nlt.mp y)]
    · rw [if_neg z, if_pos (i_nlt.mp z)]
      by_cases y : lg < tk
      · rw [if_pos y, if_neg (i_nle.mpr y)]
      · rw [if_neg y, if_pos (i_nlt.mp y)]
theorem RS_teach {cav cor stg : Nat} {v : tO} {H : Nat → tO} {a a2 le gr : Nat → Int32} {m T so lg : Nat} (hc : cav ≤ 6) (hs : stg ≤ 4) (hT : 1 ≤ T ∧ T ≤ 600) (hso : so ≤ 60) (hlg : lg ≤ 60) (e15 : a2 1015 = nI T) (e16 : a2 1016 = nI so) (e17 : a2 1017 = nI lg) (er : ∀ k, k < 60 → a2 (1019 + k) = le k ∧ a2 (1079 + k) = gr k) (u : ∀ k, k < 1015 ∨ k = 1018 ∨ 1139 ≤ k → a2 k = a k) (hR : RS cav cor stg v H a m) : RS cav cor stg (va_up (va_up (va_up v.1 6 (nI T)) 7 (nI so)) 8 (nI lg), va_up (va_up v.2 3 le) 4 gr) H a2 m := by
  obtain ⟨⟨m1, m2, m3, m4⟩, ⟨s1, s2⟩, ⟨y, i1, i2, i3⟩, ⟨l1, l2⟩, ⟨o1, o2⟩, ⟨w, w1, w2, w3⟩, ⟨T0, t1, t2, t3, t4, t5⟩, hd, hsp, hse, hh, hsh⟩ := hR
  refine ⟨⟨m1, m2, (u _ (by omega)).trans m3, (u _ (by omega)).trans m4⟩, ⟨(u _ (by omega)).trans s1, s2⟩, ⟨y, i1, (u _ (by omega)).trans i2, i3⟩, ⟨(u _ (by omega)).trans l1, l2⟩, ⟨(u _ (by omega)).trans o1, o2⟩, ⟨w, w1, (u _ (by omega)).trans w2, w3⟩, ⟨T, hT.2, e15, rfl, fun z => by omega, fun _ => ⟨e16, e17, ⟨so, lg, hso, hlg, rfl, rfl⟩, er⟩⟩, fun c hc' => ?_, fun k hk => ?_, fun k hk => ?_, fun hh' => ?_, fun q hq => ?_⟩
  · exact ⟨(u _ (by omega)).trans (hd c hc').1, (hd c hc').2⟩
  · exact ⟨(u _ (by omega)).trans (hsp k hk).1, (hsp k hk).2⟩
  · exact ⟨(u _ (by omega)).trans (hse k hk).1, (hse k hk).2⟩
  · exact ⟨(hh hh').1, (u _ (by omega)).trans (hh hh').2⟩
  · exact RH_cg hc (fun k hk => u _ (by omega)) (hsh q hq)
theorem eq_teach (N : Nat) (hN : 5000 ≤ N) (l1 : Int32) {cav cor stg i d K : Nat} {S H : Nat → tO} {now was vol tv : Nat → Int32} (hc : cav ≤ 6) (hs : stg ≤ 4) (hv : ∀ c, c < cav → tv c = vol c ∧ ∃ k : Nat, k ≤ 30 ∧ vol c = nI k) (h : RW cav cor stg i d S H now was) (hK : K < 600) (hB : MB d now was K) {v w g : tO} (ev : v = S i) (ew : w = S ((i + 1) % 5)) (eg : g = H (hx (v.1 4) l1)) :
    CH cav cor stg i d S H now was (f5_teach N l1 (nI i) (nI d) (nI cav) vol (v.2 0) (v.2 1) (v.2 2) (v.1 0) (v.1 1) (v.1 2) (v.1 3) (v.1 4) (v.1 5) (v.1 6) (v.1 7) (v.1 8) (v.2 3) (v.2 4) (w.2 0) (w.2 1) (w.2 2) (w.1 0) (w.1 1) (w.1 2) (w.1 3) (w.1 4) (w.1 5) (w.1 6) (w.1 7) (w.1 8) (w.2 3) (w.2 4) (g.2 0) (g.2 3) (g.1 2)) (f6_teach N l1 (nI cav) tv now was (nI d)) := by
  obtain ⟨m, hm⟩ := RW_now h
  obtain ⟨hi, hd, -⟩ := id h
  have same : ∀ r : Int32, CH cav cor stg i d S H now was (some (outS r i d w)) (some (r, now, was, nI d)) := fun r => by rw [ew]; exact CH_same h r
  have hm0 := hm
  rw [← ev] at hm
  obtain ⟨f0, f2, f3⟩ := RS_fl hm
  obtain ⟨m600, v4, a9, a8⟩ := hm.1
  have c1 : f5_isShot N l1 (v.1 4) = some (bi (ok l1 (min m 12))) := by rw [v4]; exact c_isShot N l1 m600
  rw [f5_teach, f6_teach, c1, r_isShot N l1 a8, Option.bind_some, Option.bind_some]
  by_cases hk : ok l1 (min m 12) = true
  · obtain ⟨s, hsm, rfl⟩ := ok_of hk (by omega)
    rw [if_neg (bi_1 hk), if_neg (bi_1 hk)]
    have hg : RH cav g (fun k => now (84 * s + k)) := by
      rw [eg, v4]; exact RS_shot hm hsm
    have hr : ∀ c, c < cav → (∃ x : Nat, x ≤ 200 ∧ g.2 0 c = nI x) ∧ ∃ q : Nat, q ≤ 30 ∧ vol c = nI q := fun c hc' => ⟨(hg.2.2.2.2.2.2.2.1 c hc').1, (hv c hc').2⟩
    have q1 : f2_isShort N (g.2 0) (nI cav) vol = some (bi (shB vol (g.2 0) 0 cav)) := short_c N hc cav N 0 (by omega) (by omega)
    have q2 : f6_isShort N (nI s) (nI cav) tv now = some (bi (shB vol (g.2 0) 0 cav)) := by
      have e := short_r N (s := s) (a := now) (by omega) hc hr (fun c hc' => (hv c hc').1) (fun c hc' => (hg.2.2.2.2.2.2.2.1 c hc').2.1) cav N 0 false (by omega) (by omega)
      rw [Bool.false_or] at e
      exact e
    have ks : f5_keptShot N (nI s) (v.1 4) = some () := by rw [v4]; exact keptShot_ok N m600 (by omega)
    rw [ks, q1, q2, Option.bind_some, Option.bind_some, Option.bind_some]
    cases hb : shB vol (g.2 0) 0 cav with
    | true =>
      rw [if_neg (show ¬ bi true = 0 by decide), if_neg (show ¬ bi true = 0 by decide)]
      exact same _
    | false =>
      obtain ⟨T, hT, a15, v6, T0, T1⟩ := hm.2.2.2.2.2.2.1
      have hT599 : T < 600 := by
        obtain ⟨q, T', h1, h2, h3, h4⟩ := MB_now hB
        have e : T' = T := (nI_eq (by omega) (by omega)).mp (h4.symm.trans a15)
        omega
      obtain ⟨t, t1, t60, et⟩ := hg.2.2.2.2.2.2.2.2
      have h84 : now (84 * s + 1) = nI t := hg.2.1.trans et
      rw [if_pos (show bi false = 0 from rfl), if_pos (show bi false = 0 from rfl), startC N hi f0 f2 f3, keeps_eq N hN now was hd, Option.bind_some, Option.bind_some, if_pos (show ok 1015 1155 = true by decide), show Int32.toNatClampNeg 1015 = 1015 from rfl, a15, next_eq hi, und_eq hd]
      have key : ∃ (SO LG : Nat) (le' gr' now2 : Nat → Int32), SO ≤ 60 ∧ LG ≤ 60 ∧ f0_learn N (v.1 6) (v.1 7) (v.1 8) ((cpS v w).2 3) ((cpS v w).2 4) (g.2 3) (g.1 2) = some (nI (T + 1), nI SO, nI LG, le', gr') ∧ (if nI T = 0 then f6_teach_44 N N (nI s) 1 0 now (wasP d now was) (nI (dP d)) else f6_teach_44 N N (nI s) 0 0 now (wasP d now was) (nI (dP d))) = some (nI (T + 1), now2, wasP d now was, nI (dP d)) ∧ now2 1015 = nI (T + 1) ∧ now2 1016 = nI SO ∧ now2 1017 = nI LG ∧ (∀ k, k < 60 → now2 (1019 + k) = le' k ∧ now2 (1079 + k) = gr' k) ∧ ∀ k, k < 1015 ∨ k = 1018 ∨ 1139 ≤ k → now2 k = now k := by
        rw [f0_learn, v6, et]
        by_cases z : T = 0
        · obtain ⟨n2, le', gr', now', g1, g2, g3, g4⟩ := teach_lp N (s := s) (fb := true) (te := nI T) (so := v.1 7) (lg := v.1 8) (tk := nI t) (ch := nI (dP d)) (pr := g.2 3) (was := wasP d now was) (by omega) 60 N N 0 ((cpS v w).2 3) ((cpS v w).2 4) now (by omega) (by omega) (by omega) (fun j hj => hg.2.2.2.2.2.2.1 j hj) (fun j hj q => q.elim (fun x => by cases x) (fun x => by omega))
          have g2' := g2.trans (teach_end N (T := T) (SO := nI t) (LG := nI t) (so := 0) (lg := 0) (tk := nI t) n2 (by omega) ((g4 _ (by omega)).trans h84) ((g4 _ (by omega)).trans a15) (fun _ => ⟨rfl, rfl⟩) (fun q => by cases q))
          have z0 : nI T = 0 := by rw [z]; rfl
          refine ⟨t, t, le', gr', _, t60, t60, ?_, (if_pos z0).trans g2', up_s, ?_, ?_, fun k hk => ?_, fun k hk => ?_⟩
          · rw [if_pos z0]
            refine g1.trans ?_
            rw [if_neg (show ¬ bi true = 0 by decide), f0_learn_110, T0 z, if_pos (show (0 : Int32) < nI t from nI_lt (a := 0) (by omega) (by omega)), nI_1]
          · rw [up_n (by decide), up_n (by decide), up_s]
          · rw [up_n (by decide), up_s]
          · rw [up_n (by omega), up_n (by omega), up_n (by omega), up_n (by omega), up_n (by omega), up_n (by omega)]; exact g3 k hk
          · rw [up_n (by omega), up_n (by omega), up_n (by omega)]; exact g4 k (by omega)
        · obtain ⟨b16, b17, ⟨so, lg, so60, lg60, e7, e8⟩, bl⟩ := T1 (by omega)
          have bl' : ∀ k, k < 60 → now (1019 + k) = (cpS v w).2 3 k ∧ now (1079 + k) = (cpS v w).2 4 k := fun k hk => ⟨(bl k hk).1.trans (cp_in hk).symm, (bl k hk).2.trans (cp_in hk).symm⟩
          obtain ⟨n2, le', gr', now', g1, g2, g3, g4⟩ := teach_lp N (s := s) (fb := false) (te := nI T) (so := v.1 7) (lg := v.1 8) (tk := nI t) (ch := nI (dP d)) (pr := g.2 3) (was := wasP d now was) (by omega) 60 N N 0 ((cpS v w).2 3) ((cpS v w).2 4) now (by omega) (by omega) (by omega) (fun j hj => hg.2.2.2.2.2.2.1 j hj) (fun j hj _ => bl' j hj)
          have eS : (if nI t < v.1 7 then nI t else v.1 7) = nI (if t < so then t else so) := by
            rw [e7]
            by_cases y : t < so
            · rw [if_pos y, if_pos (nI_lt y (by omega))]
            · rw [if_neg y, if_neg (nI_nlt (by omega) (by omega))]
          have eL : (if v.1 8 < nI t then nI t else v.1 8) = nI (if lg < t then t else lg) := by
            rw [e8]
            by_cases y : lg < t
            · rw [if_pos y, if_pos (nI_lt y (by omega))]
            · rw [if_neg y, if_neg (nI_nlt (by omega) (by omega))]
          have g2' := g2.trans (teach_end N (T := T) (SO := nI (if t < so then t else so)) (LG := nI (if lg < t then t else lg)) (so := v.1 7) (lg := v.1 8) (tk := nI t) n2 (by omega) ((g4 _ (by omega)).trans h84) ((g4 _ (by omega)).trans a15) (fun q => by cases q) (fun _ => ⟨(g4 _ (by omega)).trans b16, (g4 _ (by omega)).trans b17, eS.symm, eL.symm⟩))
          have z0 : ¬ nI T = 0 := nI_ne0 (by omega) (by omega)
          refine ⟨if t < so then t else so, if lg < t then t else lg, le', gr', _, by split <;> omega, by split <;> omega, ?_, (if_neg z0).trans g2', up_s, ?_, ?_, fun k hk => ?_, fun k hk => ?_⟩
          · rw [if_neg z0]
            refine g1.trans ?_
            rw [if_pos (show bi false = 0 from rfl), f0_learn_110, eS, eL, nI_1]
          · rw [up_n (by decide), up_n (by decide), up_s]
          · rw [up_n (by decide), up_s]
          · rw [up_n (by omega), up_n (by omega), up_n (by omega), up_n (by omega), up_n (by omega), up_n (by omega)]; exact g3 k hk
          · rw [up_n (by omega), up_n (by omega), up_n (by omega)]; exact g4 k (by omega)
      obtain ⟨SO, LG, le', gr', now2, so60, lg60, k1, k2, k15, k16, k17, krow, kun⟩ := key
      have k1' : f0_learn N (v.1 6) (v.1 7) (v.1 8) (va_cpy (v.2 3) (w.2 3) (Int32.toNatClampNeg 0) (Int32.toNatClampNeg 0) (Int32.toNatClampNeg 60)) (va_cpy (v.2 4) (w.2 4) (Int32.toNatClampNeg 0) (Int32.toNatClampNeg 0) (Int32.toNatClampNeg 60)) (g.2 3) (g.1 2) = _ := k1
      rw [k1', k2, Option.bind_some]
      refine CH_push (w' := mkS ((cpS v w).2 0) ((cpS v w).2 1) ((cpS v w).2 2) (v.1 0) (v.1 1) (v.1 2) (v.1 3) (v.1 4) (v.1 5) (nI (T + 1)) (nI SO) (nI LG) le' gr') hc hs h hm0 ?_ (nI (T + 1)) (fun T' e => ⟨T' + 1, by omega, by rw [k15, ← nI_1, ← nI_1, ← e, a15]⟩)
      refine RS_v hc hs (fun k hk => ?_) (fun _ _ => rfl) (fun _ _ => rfl) (fun _ _ => rfl) (fun _ _ => rfl) (fun _ _ => rfl) (RS_teach hc hs ⟨by omega, by omega⟩ so60 lg60 k15 k16 k17 krow kun (RS_cp w hc hs hm))
      rcases (show k = 0 ∨ k = 1 ∨ k = 2 ∨ k = 3 ∨ k = 4 ∨ k = 5 ∨ k = 6 ∨ k = 7 ∨ k = 8 by omega) with rfl | rfl | rfl | rfl | rfl | rfl | rfl | rfl | rfl <;> rfl
  · rw [if_pos (bi_0 hk), if_pos (bi_0 hk)]
    exact same _
