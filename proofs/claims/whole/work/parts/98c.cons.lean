/-! the constructor's world: one object at a time -/
theorem P_perm {D : va_G} {cl : List vw_C} {ws ws' : va_W} {H : Heap} (h : ws.Perm ws') (hP : va_P D cl ws H) : va_P D cl ws' H := va_P_iff.mpr (fun q hq => va_P_iff.mp hP q (h.mem_iff.mpr hq))
theorem D_perm {A : Nat → Prop} {ws ws' : va_W} (h : ws.Perm ws') (hD : va_D A ws) : va_D A ws' := by
  obtain ⟨h1, h2⟩ := va_D_iff.mp hD
  exact va_D_iff.mpr ⟨(h.pairwise_iff (fun e => fun q => e q.symm)).mp h1, fun q hq => h2 q (h.mem_iff.mpr hq)⟩
theorem cA_State {g : gG} {s : State} {cA : ClassId} (h : va_K g.1 vwCl (gT g ++ [(cA, .object "MouldShots$State")]) s) : g.2.2.1 = cA := by
  obtain ⟨a1, a2, a3, a4, a5, a6⟩ := (h.2 1 (g.2.2.1, .object "MouldShots$State") rfl).2
  obtain ⟨b1, b2, b3, b4, b5, b6⟩ := (h.2 3 (cA, .object "MouldShots$State") rfl).2
  exact Option.some.inj (a6.symm.trans b6)
theorem cA_Shot {g : gG} {s : State} {cA : ClassId} (h : va_K g.1 vwCl (gT g ++ [(cA, .object "MouldShots$Shot")]) s) : g.2.2.2.1 = cA := by
  obtain ⟨a1, a2, a3, a4, a5, a6⟩ := (h.2 2 (g.2.2.2.1, .object "MouldShots$Shot") rfl).2
  obtain ⟨b1, b2, b3, b4, b5, b6⟩ := (h.2 3 (cA, .object "MouldShots$Shot") rfl).2
  exact Option.some.inj (a6.symm.trans b6)
theorem vnd_iff : ∀ l : List Nat, va_nd l = true ↔ l.Nodup
  | [] => by simp [va_nd]
  | a :: l => by simp [va_nd, vnd_iff l]
theorem nd1 (n : Nat) : va_nd [n] = true := by simp [va_nd]
theorem at1 {α : Type} {ws : List α} {x : α} : [ws.length].map (fun i => (ws ++ [x])[i]?) = [x].map some := by simp
theorem at0 {α : Type} {ws : List α} {x : α} : (List.range ws.length).map (fun i => (ws ++ [x])[i]?) = ws.map some := by
  refine List.ext_getElem? (fun k => ?_)
  rw [List.getElem?_map, List.getElem?_map]
  by_cases h : k < ws.length
  · rw [List.getElem?_range h, List.getElem?_eq_getElem h]
    show some ((ws ++ [x])[k]?) = some (some ws[k])
    rw [List.getElem?_append_left h, List.getElem?_eq_getElem h]
  · rw [List.getElem?_eq_none (by rw [List.length_range]; omega), List.getElem?_eq_none (by omega)]; rfl
section
variable {p : Program} {l : Launch} {e : Env} {R : Room} {s : State} {m : MethodId} {args : Array Value} {below : List Frame} {meth : Method} {c : Code} {H : Heap} {locs : List Loc} {cells slots mc ms : Nat} {Q : State → Prop}
variable {pc : Nat} {ls : Array Slot} {rest st0 : List Value} {a : Array Value} {A0 : Nat → Prop} {H0 : Heap} {g : gG} {ws : va_W} {x : Nat × va_E}
/-- a constructor run on the last cell -/
theorem aft_e {S : Type} {w1 : S → va_W} (hr : va_Run p l e R s m args below meth c H locs cells slots mc ms (F0 m pc ls st0) rest (va_Qv (fun (_ : S) => True) (fun u t => va_P g.1 vwCl (w1 u) t.heap ∧ va_D (va_A [x] H.size) (w1 u)) (va_A [x] H.size) a) (va_A [x] H.size)) (hP : va_P g.1 vwCl (ws ++ [x]) H) (hD : va_D A0 (ws ++ [x])) (hS : va_S A0 H0 H locs) (hA : ∀ q, H0.size ≤ q → A0 q)
    (kk : ∀ (u : S) (H1 : Heap) (locs1 : List Loc), va_P g.1 vwCl (ws ++ w1 u) H1 → va_D A0 (ws ++ w1 u) → va_S A0 H0 H1 locs1 → W p l e R s m args below meth c H1 locs1 (cells + mc) (slots + ms) Q (F0 m (pc + 3) ls rest)) : W p l e R s m args below meth c H locs cells slots Q (F0 m pc ls st0) :=
  aft_c hr hP hD hS hA [ws.length] (List.range ws.length) at1 at0 ((vnd_iff _).mpr List.nodup_range) (fun i hi h => by
    rw [List.mem_singleton] at h
    have := List.mem_range.mp hi
    omega) kk
end
theorem pf1 {α : Type} {x : α} {R w : List α} : ((x :: R) ++ w).Perm (x :: (w ++ R)) := (List.perm_append_comm (l₁ := R) (l₂ := w)).cons x
theorem pf2 {α : Type} {x y : α} {R w : List α} : ((x :: y :: R) ++ w).Perm (x :: y :: (w ++ R)) := pf1.cons x
theorem pf3 {α : Type} {x y z : α} {R w : List α} : ((x :: y :: z :: R) ++ w).Perm (x :: y :: z :: (w ++ R)) := pf2.cons x
def acc (n : Nat) (f : Nat → va_W) : va_W := (rmap n f).flatten
theorem acc_up {k : Nat} {f f' : Nat → va_W} {w R : va_W} (h1 : ∀ j, j < k → f' j = f j) (h2 : f' k = w) : (w ++ (acc k f ++ R)).Perm (acc (k + 1) f' ++ R) := by
  have e : acc (k + 1) f' = acc k f ++ w := by
    rw [acc, rmap, List.range_succ, List.map_append, List.flatten_append, acc, rmap]
    rw [List.map_congr_left (fun j hj => h1 j (List.mem_range.mp hj))]
    show _ ++ (f' k ++ []) = _
    rw [List.append_nil, h2]
  rw [e]
  exact (List.perm_append_comm_assoc w (acc k f) R).trans (by rw [List.append_assoc])
theorem pm1 {α : Type} (A X P D S0 B0 S1 B1 S2 B2 S3 B3 S4 B4 HH T : List α) : (A ++ (HH ++ (((S0 ++ B0) ++ ((S1 ++ B1) ++ ((S2 ++ B2) ++ ((S3 ++ B3) ++ ((S4 ++ B4) ++ []))))) ++ (T ++ (D ++ (P ++ (X ++ []))))))).Perm (A ++ (X ++ (P ++ (D ++ (S0 ++ (B0 ++ ((T ++ (S1 ++ (B1 ++ (S2 ++ (B2 ++ (S3 ++ (B3 ++ (S4 ++ (B4 ++ HH))))))))) ++ []))))))) := by
  classical
  refine List.perm_iff_count.mpr (fun a => ?_)
  simp only [List.count_append, List.count_nil]
  omega
theorem pm2 {α : Type} (A X P D S0 B0 S1 B1 S2 B2 S3 B3 S4 B4 HH T : List α) : (A ++ (X ++ (P ++ (D ++ (S0 ++ (B0 ++ ((T ++ (S1 ++ (B1 ++ (S2 ++ (B2 ++ (S3 ++ (B3 ++ (S4 ++ (B4 ++ HH))))))))) ++ []))))))).Perm (A ++ (X ++ (D ++ (P ++ (T ++ ([] ++ (S0 ++ (S1 ++ (S2 ++ (S3 ++ (S4 ++ (B0 ++ (B1 ++ (B2 ++ (B3 ++ (B4 ++ HH)))))))))))))))) := by
  classical
  refine List.perm_iff_count.mpr (fun a => ?_)
  simp only [List.count_append, List.count_nil]
  omega
/-- an array of references by what lies below its length -/
theorem P_arr {D : va_G} {cl : List vw_C} {ws ws' : va_W} {H : Heap} (hP : va_P D cl ws H) (h : ∀ q ∈ ws', q ∈ ws ∨ ∃ (a n : Nat) (cA : ClassId) (f f' : Nat → Option Nat), q = (a, .inl (cA, n, .inr (.inr (.inr (.inr f'))))) ∧ (a, .inl (cA, n, .inr (.inr (.inr (.inr f))))) ∈ ws ∧ ∀ j, j < n → f' j = f j) : va_P D cl ws' H := by
  refine va_P_iff.mpr (fun q hq => ?_)
  rcases h q hq with h | ⟨a, n, cA, f, f', rfl, h, e⟩
  · exact va_P_iff.mp hP q h
  · have h1 : H[a]? = some (vp_cell cA (n, .inr (.inr (.inr (.inr f))))) := va_P_iff.mp hP _ h
    have e2 : vp_cell cA (n, .inr (.inr (.inr (.inr f')))) = vp_cell cA (n, .inr (.inr (.inr (.inr f)))) := by
      rw [vp_cell_q, vp_cell_q, arrV, arrV]
      congr 2
      funext j
      rw [e j.val j.isLt]
    show H[a]? = some (vp_cell cA (n, .inr (.inr (.inr (.inr f')))))
    rw [e2]; exact h1
theorem D_same {A : Nat → Prop} {ws ws' : va_W} (hD : va_D A ws) (h : ws'.map (·.1) = ws.map (·.1)) : va_D A ws' := va_D_ad hD h
def txU : Nat → Nat → Int32
  | 0 => fun _ => 0
  | n + 1 => upd (txU n) n (txF n)
def zS : tO := (fun j => [0, 0, 0, 0, 0, 2].getD j 0, fun _ _ => 0)
def zH : tO := (fun j => [0, 0, 0, 0, -4].getD j 0, fun _ _ => 0)
def q4 (a b c d : Nat) : Nat → Nat := fun j => [a, b, c, d].getD j 0
