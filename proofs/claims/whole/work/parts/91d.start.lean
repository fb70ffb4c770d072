set_option maxRecDepth 100000 in
set_option maxHeartbeats 16000000 in
theorem cells_13 {D : va_G} {cy : Nat → ClassId} {q0 q1 : Nat} {u0 u1 : Nat → Nat} {tx ty : Nat} {H : Heap} (hP : va_P D vwCl (wX10 cy q1 u1 ++ (wX9 cy q0 u0 ++ [])) H) : ∃ E : va_E, (wX10 cy q1 u1 ++ (wX9 cy q0 u0 ++ []))[pk0.getD 13 0]? = some (ad (G0 D cy q0 q1 u0 u1 tx ty) 13, E) ∧ va_at D vwCl (ad (G0 D cy q0 q1 u0 u1 tx ty) 13, ent (G0 D cy q0 q1 u0 u1 tx ty) (s00 13) (20, 24) 13) H := by
  refine ⟨_, rfl, ?_⟩
  have h := hP 31 _ rfl
  exact (show H[_]? = some (vp_cell _ _) from h).trans (congrArg some (arr_q (fun j hj => by
    match j, hj with
    | 0, _ => rfl
    | 1, _ => rfl
    | 2, _ => rfl
    | 3, _ => rfl
    | 4, _ => rfl
    | 5, _ => rfl
    | 6, _ => rfl
    | 7, _ => rfl
    | j + 8, hj => omega)))
set_option maxRecDepth 100000 in
set_option maxHeartbeats 16000000 in
theorem cells_16 {D : va_G} {cy : Nat → ClassId} {q0 q1 : Nat} {u0 u1 : Nat → Nat} {tx ty : Nat} {H : Heap} (hP : va_P D vwCl (wX10 cy q1 u1 ++ (wX9 cy q0 u0 ++ [])) H) : ∃ E : va_E, (wX10 cy q1 u1 ++ (wX9 cy q0 u0 ++ []))[pk0.getD 16 0]? = some (ad (G0 D cy q0 q1 u0 u1 tx ty) 16, E) ∧ va_at D vwCl (ad (G0 D cy q0 q1 u0 u1 tx ty) 16, ent (G0 D cy q0 q1 u0 u1 tx ty) (s00 16) (20, 24) 16) H := by
  refine ⟨_, rfl, ?_⟩
  have h := hP 90 _ rfl
  exact (show H[_]? = some (vp_cell _ _) from h).trans (congrArg some (arr_q (fun j hj => by
    match j, hj with
    | 0, _ => rfl
    | 1, _ => rfl
    | 2, _ => rfl
    | 3, _ => rfl
    | 4, _ => rfl
    | 5, _ => rfl
    | 6, _ => rfl
    | j + 7, hj => omega)))
theorem cells_all {D : va_G} {cy : Nat → ClassId} {q0 q1 : Nat} {u0 u1 : Nat → Nat} {tx ty : Nat} {H : Heap} (hP : va_P D vwCl (wX10 cy q1 u1 ++ (wX9 cy q0 u0 ++ [])) H) (k : Nat) (hk : k < 103) : ∃ E : va_E, (wX10 cy q1 u1 ++ (wX9 cy q0 u0 ++ []))[pk0.getD k 0]? = some (ad (G0 D cy q0 q1 u0 u1 tx ty) k, E) ∧ va_at D vwCl (ad (G0 D cy q0 q1 u0 u1 tx ty) k, ent (G0 D cy q0 q1 u0 u1 tx ty) (s00 k) (20, 24) k) H := by
  by_cases h1 : k = 13
  · subst h1
    exact cells_13 hP
  · by_cases h2 : k = 16
    · subst h2
      exact cells_16 hP
    · exact cells_0 hP k hk h1 h2
theorem wl_len (G : Gp) (σ : St) : (wl G σ).length = 103 := by simp [wl]
theorem world_0 {D : va_G} {cy : Nat → ClassId} {q0 q1 : Nat} {u0 u1 : Nat → Nat} {tx ty : Nat} {H : Heap} {A : Nat → Prop} (hP : va_P D vwCl (wX10 cy q1 u1 ++ (wX9 cy q0 u0 ++ [])) H) (hD : va_D A (wX10 cy q1 u1 ++ (wX9 cy q0 u0 ++ []))) : va_P D vwCl (wl (G0 D cy q0 q1 u0 u1 tx ty) s0) H ∧ va_D A (wl (G0 D cy q0 q1 u0 u1 tx ty) s0) := by
  refine ⟨fun k q hk => ?_, fun i j a c ha hc he => ?_, fun k q hk => ?_⟩
  · have hlt : k < 103 := by rw [← wl_len (G0 D cy q0 q1 u0 u1 tx ty) s0]; exact (List.getElem?_eq_some_iff.mp hk).1
    rw [wl_at hlt] at hk
    cases hk
    obtain ⟨E, h1, h2⟩ := cells_all (tx := tx) (ty := ty) hP k hlt
    exact h2
  · have hi : i < 103 := by rw [← wl_len (G0 D cy q0 q1 u0 u1 tx ty) s0]; exact (List.getElem?_eq_some_iff.mp ha).1
    have hj : j < 103 := by rw [← wl_len (G0 D cy q0 q1 u0 u1 tx ty) s0]; exact (List.getElem?_eq_some_iff.mp hc).1
    rw [wl_at hi] at ha
    rw [wl_at hj] at hc
    cases ha
    cases hc
    obtain ⟨E1, h1, -⟩ := cells_all (tx := tx) (ty := ty) hP i hi
    obtain ⟨E2, h2, -⟩ := cells_all (tx := tx) (ty := ty) hP j hj
    exact pk_inj i hi j hj (hD.1 _ _ _ _ h1 h2 he)
  · have hlt : k < 103 := by rw [← wl_len (G0 D cy q0 q1 u0 u1 tx ty) s0]; exact (List.getElem?_eq_some_iff.mp hk).1
    rw [wl_at hlt] at hk
    cases hk
    obtain ⟨E, h1, -⟩ := cells_all (tx := tx) (ty := ty) hP k hlt
    have h9 := hD.2 _ _ h1
    exact h9
