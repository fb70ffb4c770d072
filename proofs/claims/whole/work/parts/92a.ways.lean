/-- a Front is cleared -/
theorem clr_l (k0 N : Nat) (hN : N ≤ 4608) : ∀ (n i : Nat) (σ : St), i ≤ N → N - i < n → σ.1 k0 3 = nI N → (∀ j, j < N → ∃ q : Nat, q < 4608 ∧ σ.1 (k0 + 1) j = nI q) → (∀ q, q < 4608 → (∃ j, i ≤ j ∧ j < N ∧ σ.1 (k0 + 1) j = nI q) ∨ (σ.1 (k0 + 2) q = 0 ∧ σ.1 (k0 + 3) q = 0)) →
    ∃ s : St, f_X4_clear_2 k0 n σ (nI i) = some s ∧ (∀ a, ¬ a = k0 → ¬ a = k0 + 2 → ¬ a = k0 + 3 → s.1 a = σ.1 a) ∧ s.2 = σ.2 ∧ s.1 k0 3 = 0 ∧ ∀ q, q < 4608 → s.1 (k0 + 2) q = 0 ∧ s.1 (k0 + 3) q = 0 := by
  intro n
  induction n with
  | zero => intro i σ h1 h2; omega
  | succ n ih =>
    intro i σ h1 h2 e3 hp hz
    unfold f_X4_clear_2
    rw [e3]
    by_cases h : i = N
    · rw [if_pos (by rw [h]; exact Int32.le_refl _), bT_e]
      refine ⟨_, rfl, fun a g1 _ _ => up_ne g1, rfl, by rw [upP, if_pos ⟨rfl, rfl⟩], fun q hq => ?_⟩
      rw [up_ne (by omega), up_ne (by omega)]
      rcases hz q hq with ⟨j, g1, g2, -⟩ | g
      · omega
      · exact g
    · obtain ⟨q0, hq0, eq0⟩ := hp i (by omega)
      have e1 : (up σ (k0 + 2) q0 0).1 (k0 + 1) i = nI q0 := by rw [up_ne (by omega)]; exact eq0
      rw [if_neg (nI_ge (by omega) (by omega)), aL_nI (by omega) (by decide), Option.bind_some, eq0, aS_nI hq0 (by decide), Option.bind_some, aL_nI (by omega) (by decide), Option.bind_some, e1, aS_nI hq0 (by decide), Option.bind_some, nI_1]
      obtain ⟨s, g1, g2, g3, g4, g5⟩ := ih (i + 1) (up (up σ (k0 + 2) q0 0) (k0 + 3) q0 0) (by omega) (by omega) (by rw [up_ne (by omega), up_ne (by omega)]; exact e3) (fun j hj => by rw [up_ne (by omega), up_ne (by omega)]; exact hp j hj) (fun q hq => by
        rw [up_ne (show k0 + 1 ≠ k0 + 3 by omega), up_ne (show k0 + 1 ≠ k0 + 2 by omega), up_ne (show k0 + 2 ≠ k0 + 3 by omega), up_at, up_at, up_ne (show k0 + 3 ≠ k0 + 2 by omega), upd_e, upd_e]
        by_cases hqq : q = q0
        · rw [if_pos hqq, if_pos hqq]
          exact Or.inr ⟨rfl, rfl⟩
        · rw [if_neg hqq, if_neg hqq]
          rcases hz q hq with ⟨j, b1, b2, b3⟩ | b
          · refine Or.inl ⟨j, ?_, b2, b3⟩
            by_cases hji : j = i
            · subst hji
              rw [eq0] at b3
              exact absurd ((nI_eq (by omega) (by omega)).mp b3).symm hqq
            · omega
          · exact Or.inr b)
      exact ⟨s, g1, fun a b1 b2 b3 => by rw [g2 a b1 b2 b3, up_ne b3, up_ne b2], g3, g4, g5⟩
theorem clr_s {σ : St} {k0 : Nat} (h : FrOk (σ.1 k0) (σ.1 (k0 + 1)) (σ.1 (k0 + 2)) (σ.1 (k0 + 3))) : ∃ s : St, f_X4_clear σ k0 = some s ∧ (∀ a, ¬ a = k0 → ¬ a = k0 + 2 → ¬ a = k0 + 3 → s.1 a = σ.1 a) ∧ s.2 = σ.2 ∧ s.1 k0 3 = 0 ∧ ∀ q, q < 4608 → s.1 (k0 + 2) q = 0 ∧ s.1 (k0 + 3) q = 0 := by
  obtain ⟨N, hN, e3, hp, hz⟩ := h
  have := clr_l k0 N hN 10000 0 σ (by omega) (by omega) e3 hp (fun q hq => by
    rcases hz q hq with ⟨j, b1, b2⟩ | b
    · exact Or.inl ⟨j, by omega, b1, b2⟩
    · exact Or.inr b)
  rw [nI_0] at this
  exact this
