theorem upP (σ : St) (k j : Nat) (v : Int32) (a b : Nat) : (up σ k j v).1 a b = if a = k ∧ b = j then v else σ.1 a b := by
  rw [up1]
  by_cases h : a = k
  · subst h
    rw [if_pos rfl, upd_e]
    by_cases h2 : b = j
    · rw [if_pos h2, if_pos ⟨rfl, h2⟩]
    · rw [if_neg h2, if_neg (fun q => h2 q.2)]
  · rw [if_neg h, if_neg (fun q => h q.1)]
theorem plO (c l : Nat) : f_X9_placeOf (nI c) (nI l) = nI (8 * c + l) := by
  show nI c * nI 8 + nI l = _
  rw [pk_mul, nI_add, Nat.mul_comm]
/-- an entry is written: the log grows by one -/
theorem wd_s {σ : St} {k c l e : Nat} (he : e < 60) (h3 : σ.1 k 3 = nI e) (h0 : σ.1 (k + 1) 0 = nI c) (h1 : σ.1 (k + 1) 1 = nI l) : f_X3_writeDown σ k = some (up (up (up σ (k + 2) e (nI (8 * c + l))) (k + 3) e 0) k 3 (nI (e + 1))) := by
  unfold f_X3_writeDown
  rw [h3, if_neg (show ¬ (60 : Int32) ≤ nI e from nI_ge (a := e) (b := 60) he (by omega)), h0, h1, plO, aS_nI he (by decide), Option.bind_some, up_ne (show k ≠ k + 2 by omega), h3, vn0, aS_nI he (by decide), Option.bind_some, bT_e, up_ne (show k ≠ k + 3 by omega), up_ne (show k ≠ k + 2 by omega), h3, nI_1]
theorem begin_s (σ : St) (k c t ld g bs : Nat) : ∃ s : St, f_X3_begin σ k (nI c) (nI t) (nI ld) (nI g) (nI bs) = some s ∧ (∀ a, ¬ a = k → ¬ a = k + 1 → ¬ a = k + 2 → ¬ a = k + 3 → s.1 a = σ.1 a) ∧ s.2 = σ.2 ∧ (s.1 k 3 = nI 1 ∧ s.1 k 4 = 0 ∧ s.1 k 5 = nI c ∧ s.1 k 6 = nI t) ∧ (s.1 (k + 1) 0 = nI c ∧ s.1 (k + 1) 1 = nI 1 ∧ s.1 (k + 1) 2 = nI t ∧ s.1 (k + 1) 3 = nI ld ∧ s.1 (k + 1) 4 = nI g ∧ s.1 (k + 1) 5 = nI bs ∧ s.1 (k + 1) 6 = 0 ∧ s.1 (k + 1) 7 = 0) ∧ s.1 (k + 2) 0 = nI (8 * c + 1) ∧ s.1 (k + 3) 0 = 0 := by
  unfold f_X3_begin
  simp only [bT_e]
  obtain ⟨s, hs⟩ : ∃ s, s = up (up (up (up (up (up (up (up (up (up (up (up σ k 5 (nI c)) k 6 (nI t)) (k + 1) 0 (nI c)) (k + 1) 1 1) (k + 1) 2 (nI t)) (k + 1) 3 (nI ld)) (k + 1) 4 (nI g)) (k + 1) 5 (nI bs)) (k + 1) 6 0) (k + 1) 7 0) k 3 0) k 4 0 := ⟨_, rfl⟩
  rw [← hs]
  have hw := wd_s (σ := s) (k := k) (c := c) (l := 1) (e := 0) (by omega) (by rw [hs]; simp [upP]; rfl) (by rw [hs]; simp [upP]) (by rw [hs]; simp [upP]; rfl)
  rw [hw, Option.bind_some]
  refine ⟨_, rfl, fun a g1 g2 g3 g4 => ?_, ?_, ⟨?_, ?_, ?_, ?_⟩, ⟨?_, ?_, ?_, ?_, ?_, ?_, ?_, ?_⟩, ?_, ?_⟩
  · rw [up_ne g1, up_ne g4, up_ne g3, hs, up_ne g1, up_ne g1, up_ne g2, up_ne g2, up_ne g2, up_ne g2, up_ne g2, up_ne g2, up_ne g2, up_ne g2, up_ne g1, up_ne g1]
  · rw [hs]; rfl
  all_goals (rw [hs]; simp [upP]; try rfl)
