/-- promise 18: chaser -/
theorem ms_chaser : MS_chaser Inv := by
  intro σ hI p1 p2 p3
  have hI' := hI
  obtain ⟨⟨w, h, hw1, hw2, hh1, hh2, a1, a2, a3, a4, a5⟩, iA, iN, iF, ⟨N, hN, b1, b2, b3⟩, iP, iW, iI⟩ := hI
  unfold f_X9_chaser f_X10_chaser
  by_cases h1 : f_X5_has σ p1 p2 = 0
  · exact ⟨-2, σ, σ, by rw [if_pos h1], by rw [isCell_eq (a1.trans a3.symm) (a2.trans a4.symm), if_pos h1], hI'⟩
  by_cases h2 : f_X9_within p3 1 5 = 0
  · exact ⟨-2, σ, σ, by rw [if_neg h1, if_pos h2], by rw [isCell_eq (a1.trans a3.symm) (a2.trans a4.symm), if_neg h1, in_eq, if_pos h2], hI'⟩
  obtain ⟨x, y, hx, hy, rfl, rfl⟩ := has_in hw2 hh2 a3 a4 h1
  obtain ⟨p, hp1, hp2, rfl⟩ := wi_rng (a := 1) (b := 5) (by omega) (by omega) h2
  have hi : 24 * y + x < 576 := by omega
  simp only [if_neg h1, if_neg h2, cO, ix24, in_eq, aL_nI hi (by decide), Option.bind_some, (a5 _ hi).1, b1]
  by_cases h3 : σ.1 73 (24 * y + x) = 1
  · refine ⟨-3, σ, σ, by rw [if_pos h3], ?_, hI'⟩
    rw [isCell_eq (a1.trans a3.symm) (a2.trans a4.symm), if_neg h1, if_pos h3]
  by_cases h4 : N = 4
  · refine ⟨-4, σ, σ, by rw [if_neg h3, if_neg (by rw [h4]; decide)], ?_, hI'⟩
    rw [isCell_eq (a1.trans a3.symm) (a2.trans a4.symm), if_neg h1, if_neg h3, b2, if_pos (by rw [h4]; rfl)]
  have hN4 : N < 4 := by omega
  have hadd : f_X2_add σ (nI (24 * y + x)) (nI p) = some (up (up (up σ 29 N (nI (24 * y + x))) 30 N (nI p)) 28 3 (nI (N + 1))) := by
    unfold f_X2_add
    rw [b1, if_neg (show ¬ (4 : Int32) ≤ nI N from nI_ge (a := N) (b := 4) (by omega) (by omega)), aS_nI hN4 (by decide), Option.bind_some]
    simp only [up1, Nat.reduceEqDiff, if_false, b1]
    rw [aS_nI hN4 (by decide), Option.bind_some]
    simp only [bT_e, up1, Nat.reduceEqDiff, if_false, b1, nI_1]
  rw [if_neg h3, if_pos (show nI N < 4 from nI_lt (a := N) (b := 4) hN4 (by omega)), hadd, Option.bind_some]
  generalize hs1 : up (up (up σ 29 N (nI (24 * y + x))) 30 N (nI p)) 28 3 (nI (N + 1)) = s1
  have r1 : ∀ a, ¬ a = 28 → ¬ a = 29 → ¬ a = 30 → s1.1 a = σ.1 a := fun a g1 g2 g3 => by rw [← hs1, up_ne g1, up_ne g3, up_ne g2]
  have v1 : s1.1 28 3 - 1 = nI N := by rw [← hs1, up_at, upd_e, if_pos rfl, nI_pred]
  refine ⟨nI N, s1, up (up (up (up s1 93 N (nI x)) 94 N (nI y)) 95 N (nI p)) 72 23 (nI (N + 1)), by rw [v1], ?_, ?_⟩
  · rw [isCell_eq (τ := σ) (by rw [r1 72 (by decide) (by decide) (by decide)]; exact a1.trans a3.symm) (by rw [r1 72 (by decide) (by decide) (by decide)]; exact a2.trans a4.symm), if_neg h1, r1 73 (by decide) (by decide) (by decide), if_neg h3, r1 72 (by decide) (by decide) (by decide), b2, if_neg (show ¬ nI N = 4 from fun g => h4 ((nI_eq (a := N) (b := 4) (by omega) (by omega)).mp g)), aS_nI hN4 (by decide), Option.bind_some]
    simp only [up1, Nat.reduceEqDiff, if_false, r1 72 (by decide) (by decide) (by decide), b2, aS_nI hN4 (by decide), Option.bind_some, bT_e, nI_1, if_true, upd_e, nI_pred]
  · have hrow : ∀ a, ¬ a = 28 → ¬ a = 29 → ¬ a = 30 → ¬ a = 72 → ¬ a = 93 → ¬ a = 94 → ¬ a = 95 → (up (up (up (up s1 93 N (nI x)) 94 N (nI y)) 95 N (nI p)) 72 23 (nI (N + 1))).1 a = σ.1 a := fun a g1 g2 g3 g4 g5 g6 g7 => by rw [up_ne g4, up_ne g7, up_ne g6, up_ne g5, r1 a g1 g2 g3]
    have e2 : (up (up (up (up s1 93 N (nI x)) 94 N (nI y)) 95 N (nI p)) 72 23 (nI (N + 1))).2 = σ.2 := by rw [up2, up2, up2, up2, ← hs1, up2, up2, up2]
    have e72 : (up (up (up (up s1 93 N (nI x)) 94 N (nI y)) 95 N (nI p)) 72 23 (nI (N + 1))).1 72 = upd (σ.1 72) 23 (nI (N + 1)) := by
      simp only [up1, Nat.reduceEqDiff, if_true, if_false, r1 72 (by decide) (by decide) (by decide)]
    have e93 : (up (up (up (up s1 93 N (nI x)) 94 N (nI y)) 95 N (nI p)) 72 23 (nI (N + 1))).1 93 = upd (σ.1 93) N (nI x) := by
      simp only [up1, Nat.reduceEqDiff, if_true, if_false, r1 93 (by decide) (by decide) (by decide)]
    have e94 : (up (up (up (up s1 93 N (nI x)) 94 N (nI y)) 95 N (nI p)) 72 23 (nI (N + 1))).1 94 = upd (σ.1 94) N (nI y) := by
      simp only [up1, Nat.reduceEqDiff, if_true, if_false, r1 94 (by decide) (by decide) (by decide)]
    have e95 : (up (up (up (up s1 93 N (nI x)) 94 N (nI y)) 95 N (nI p)) 72 23 (nI (N + 1))).1 95 = upd (σ.1 95) N (nI p) := by
      simp only [up1, Nat.reduceEqDiff, if_true, if_false, r1 95 (by decide) (by decide) (by decide)]
    have e28 : (up (up (up (up s1 93 N (nI x)) 94 N (nI y)) 95 N (nI p)) 72 23 (nI (N + 1))).1 28 = upd (σ.1 28) 3 (nI (N + 1)) := by
      rw [← hs1]
      simp only [up1, Nat.reduceEqDiff, if_true, if_false]
    have e29 : (up (up (up (up s1 93 N (nI x)) 94 N (nI y)) 95 N (nI p)) 72 23 (nI (N + 1))).1 29 = upd (σ.1 29) N (nI (24 * y + x)) := by
      rw [← hs1]
      simp only [up1, Nat.reduceEqDiff, if_true, if_false]
    have e30 : (up (up (up (up s1 93 N (nI x)) 94 N (nI y)) 95 N (nI p)) 72 23 (nI (N + 1))).1 30 = upd (σ.1 30) N (nI p) := by
      rw [← hs1]
      simp only [up1, Nat.reduceEqDiff, if_true, if_false]
    generalize up (up (up (up s1 93 N (nI x)) 94 N (nI y)) 95 N (nI p)) 72 23 (nI (N + 1)) = s2 at hrow e2 e72 e93 e94 e95 e28 e29 e30
    obtain ⟨n, hn, f1, f2, f3⟩ := iP
    unfold Inv
    rw [e72, e93, e94, e95, e28, e29, e30, e2, hrow 0 (by decide) (by decide) (by decide) (by decide) (by decide) (by decide) (by decide), hrow 1 (by decide) (by decide) (by decide) (by decide) (by decide) (by decide) (by decide), hrow 2 (by decide) (by decide) (by decide) (by decide) (by decide) (by decide) (by decide), hrow 73 (by decide) (by decide) (by decide) (by decide) (by decide) (by decide) (by decide), hrow 4 (by decide) (by decide) (by decide) (by decide) (by decide) (by decide) (by decide), hrow 5 (by decide) (by decide) (by decide) (by decide) (by decide) (by decide) (by decide), hrow 6 (by decide) (by decide) (by decide) (by decide) (by decide) (by decide) (by decide), hrow 74 (by decide) (by decide) (by decide) (by decide) (by decide) (by decide) (by decide), hrow 75 (by decide) (by decide) (by decide) (by decide) (by decide) (by decide) (by decide), hrow 76 (by decide) (by decide) (by decide) (by decide) (by decide) (by decide) (by decide), hrow 8 (by decide) (by decide) (by decide) (by decide) (by decide) (by decide) (by decide), hrow 9 (by decide) (by decide) (by decide) (by decide) (by decide) (by decide) (by decide), hrow 11 (by decide) (by decide) (by decide) (by decide) (by decide) (by decide) (by decide), hrow 12 (by decide) (by decide) (by decide) (by decide) (by decide) (by decide) (by decide), hrow 77 (by decide) (by decide) (by decide) (by decide) (by decide) (by decide) (by decide), hrow 78 (by decide) (by decide) (by decide) (by decide) (by decide) (by decide) (by decide), hrow 15 (by decide) (by decide) (by decide) (by decide) (by decide) (by decide) (by decide), hrow 18 (by decide) (by decide) (by decide) (by decide) (by decide) (by decide) (by decide), hrow 96 (by decide) (by decide) (by decide) (by decide) (by decide) (by decide) (by decide)]
    refine ⟨⟨w, h, hw1, hw2, hh1, hh2, a1, a2, a3, a4, a5⟩, iA, iN, InvF_congr (fun a ha => hrow a (by omega) (by omega) (by omega) (by omega) (by omega) (by omega) (by omega)) iF, ⟨N + 1, by omega, rfl, rfl, fun c hc => ?_⟩, ⟨n, hn, f1, f2, f3⟩, InvW_congr (fun a ha => hrow a (by omega) (by omega) (by omega) (by omega) (by omega) (by omega) (by omega)) iW, InvI_congr (by rw [upd_e, if_neg (by decide)]) (by rw [upd_e, if_neg (by decide)]) (by rw [upd_e, if_neg (by decide)]) (fun f _ => by rw [hrow 79 (by decide) (by decide) (by decide) (by decide) (by decide) (by decide) (by decide)]) (fun f _ => by rw [hrow 80 (by decide) (by decide) (by decide) (by decide) (by decide) (by decide) (by decide)]) iI⟩
    simp only [upd_e]
    by_cases hcN : c = N
    · simp only [if_pos hcN]
      exact ⟨x, y, p, by omega, by omega, hp1, hp2, by rw [if_neg (by decide), a1]; exact nI_lt hx (by omega), by rw [if_neg (by decide), a2]; exact nI_lt hy (by omega), rfl, rfl, rfl, rfl, rfl, h3⟩
    · simp only [if_neg hcN]
      obtain ⟨x', y', p', g1, g2, g3, g4, g5, g6, g7, g8, g9, g10, g11, g12⟩ := b3 c (by omega)
      exact ⟨x', y', p', g1, g2, g3, g4, by rw [if_neg (by decide)]; exact g5, by rw [if_neg (by decide)]; exact g6, g7, g8, g9, g10, g11, g12⟩
