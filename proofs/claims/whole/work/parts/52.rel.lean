/-! what the class and the reference hold in common -/
/-- a State with its Band: ints 0 shut, 1 coresIn, 2 loaded, 3 hot, 4 made, 5 width, 6 teachers, 7 shortest, 8 longest; rows 0 drags, 1 speeds, 2 settings, 3 least, 4 greatest -/
def mkS (dr sp se : Nat → Int32) (sh ci lo ho ma wi te so lg : Int32) (le gr : Nat → Int32) : tO :=
  (fun k => match k with | 0 => sh | 1 => ci | 2 => lo | 3 => ho | 4 => ma | 5 => wi | 6 => te | 7 => so | _ => lg, fun k => match k with | 0 => dr | 1 => sp | 2 => se | 3 => le | _ => gr)
/-- a Shot: ints 0 place, 1 fillTicks, 2 ticks, 3 coolTicks, 4 why; rows 0 has, 1 firstAt, 2 fullAt, 3 pressures -/
def mkH (ha fi fu pr : Nat → Int32) (pl ft ti co wh : Int32) : tO :=
  (fun k => match k with | 0 => pl | 1 => ft | 2 => ti | 3 => co | _ => wh, fun k => match k with | 0 => ha | 1 => fi | 2 => fu | _ => pr)
/-- none: 0 with the class, -4 with the reference -/
def z4 (x : Int32) : Int32 := if x = 0 then -4 else x
/-- a shot, and its row -/
def RH (cav : Nat) (h : tO) (r : Nat → Int32) : Prop :=
  r 0 = h.1 1 ∧ r 1 = h.1 2 ∧ r 2 = h.1 4 ∧ r 3 = h.1 0 ∧ r 5 = h.1 2 + h.1 3 ∧ (∀ N, 100 ≤ N → f2_balance N (h.2 2) = some (r 4)) ∧ (∀ k, k < 60 → r (6 + k) = h.2 3 k) ∧
  (∀ c, c < cav → (∃ x : Nat, x ≤ 200 ∧ h.2 0 c = nI x) ∧ r (66 + c) = h.2 0 c ∧ r (72 + c) = z4 (h.2 2 c) ∧ r (78 + c) = z4 (h.2 1 c)) ∧ ∃ t : Nat, 1 ≤ t ∧ t ≤ 60 ∧ h.1 2 = nI t
def setLo (k : Nat) : Nat := if k < 3 then 1 else 0
def setHi (k : Nat) : Nat := if k = 2 then 40 else if k = 4 then 20 else 99
/-- a state, the shots, and the reference's row of 1155 -/
def RS (cav cor stg : Nat) (v : tO) (H : Nat → tO) (a : Nat → Int32) (m : Nat) : Prop :=
  (m ≤ 600 ∧ v.1 4 = nI m ∧ a 1009 = nI m ∧ a 1008 = nI (min m 12)) ∧
  (a 1010 = v.1 0 ∧ isb (v.1 0) = true) ∧ (∃ x : Nat, x < 2 ^ cor ∧ a 1011 = nI x ∧ v.1 1 = nI x) ∧ (a 1012 = v.1 2 ∧ isb (v.1 2) = true) ∧ (a 1013 = v.1 3 ∧ isb (v.1 3) = true) ∧
  (∃ w : Nat, w ≤ 20 ∧ a 1018 = nI w ∧ v.1 5 = nI w) ∧
  (∃ T : Nat, T ≤ 600 ∧ a 1015 = nI T ∧ v.1 6 = nI T ∧ (T = 0 → v.1 8 = 0) ∧ (0 < T → a 1016 = v.1 7 ∧ a 1017 = v.1 8 ∧ (∃ s l : Nat, s ≤ 60 ∧ l ≤ 60 ∧ v.1 7 = nI s ∧ v.1 8 = nI l) ∧ ∀ k, k < 60 → a (1019 + k) = v.2 3 k ∧ a (1079 + k) = v.2 4 k)) ∧
  (∀ c, c < cav → a (1139 + c) = v.2 0 c ∧ ∃ r : Nat, 1 ≤ r ∧ r ≤ 9 ∧ v.2 0 c = nI r) ∧
  (∀ k, k < stg → a (1145 + k) = v.2 1 k ∧ ∃ s : Nat, 1 ≤ s ∧ s ≤ 9 ∧ v.2 1 k = nI s) ∧
  (∀ k, k < 6 → a (1149 + k) = v.2 2 k ∧ ∃ s : Nat, setLo k ≤ s ∧ s ≤ setHi k ∧ v.2 2 k = nI s) ∧
  (v.1 3 = 1 → 1 ≤ m ∧ a 1014 = (H ((m - 1) % 16)).1 3) ∧
  (∀ j, j < min m 12 → RH cav (H ((m - min m 12 + j) % 16)) (fun k => a (84 * j + k)))
/-- the plan that is laid -/
def RP (cav cor stg : Nat) (p : tO) (t_cavities : Int32) (t_volume t_freeze : Nat → Int32) (t_cores : Int32) (t_earlier : Nat → Int32) (t_stages : Int32) (t_place : Nat → Int32) : Prop :=
  (1 ≤ cav ∧ cav ≤ 6 ∧ p.1 0 = nI cav ∧ t_cavities = nI cav) ∧ (cor ≤ 4 ∧ p.1 1 = nI cor ∧ t_cores = nI cor) ∧ (1 ≤ stg ∧ stg ≤ 4 ∧ p.1 2 = nI stg ∧ t_stages = nI stg) ∧
  (∀ c, c < cav → t_volume c = p.2 0 c ∧ t_freeze c = p.2 2 c ∧ (∃ v : Nat, 1 ≤ v ∧ v ≤ 30 ∧ p.2 0 c = nI v) ∧ ∃ k : Nat, 1 ≤ k ∧ k ≤ 9 ∧ p.2 2 c = nI k) ∧
  (∃ rk : Nat → Nat, ∀ c, c < cor → (p.2 3 c = 9 ∧ t_earlier c = -4) ∨ ∃ e : Nat, e < cor ∧ p.2 3 c = nI e ∧ t_earlier c = nI e ∧ rk e < rk c) ∧
  (p.2 4 0 = 0 ∧ ∀ k, k < stg → t_place k = p.2 4 k ∧ ∃ q : Nat, q ≤ 98 ∧ p.2 4 k = nI q) ∧ ∀ k, k + 1 < stg → p.2 4 k ≤ p.2 4 (k + 1)
/-- the stack of what was: the j-th of d, the newest (j = d) is what is now -/
def wasAt (d : Nat) (now was : Nat → Int32) (j : Nat) : Nat → Int32 := if j = d then now else fun k => was (1155 * j + k)
def RW (cav cor stg i d : Nat) (S H : Nat → tO) (now was : Nat → Int32) : Prop :=
  i < 5 ∧ d ≤ 4 ∧ ∃ ms : Nat → Nat, (∀ j, j < d → ms j ≤ ms (j + 1) ∧ ms (j + 1) ≤ ms j + 1) ∧ ∀ j, j ≤ d → RS cav cor stg (S ((i + 5 - d + j) % 5)) H (wasAt d now was j) (ms j)
