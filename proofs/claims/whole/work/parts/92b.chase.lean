/-- the reference's search begins: every cell is unreached -/
theorem chd_l (x1 x2 x3 : Int32) : ∀ (n i : Nat) (σ : St), i ≤ 576 → 576 - i < n → f_X10_chased_3 n σ x1 x2 x3 (nI i) = f_X10_chased_25 (sr σ 101 (fun j => if i ≤ j ∧ j < 576 then -1 else σ.1 101 j)) x1 x2 x3 := by
  intro n
  induction n with
  | zero => intro i σ h1 h2; omega
  | succ n ih =>
    intro i σ h1 h2
    unfold f_X10_chased_3
    by_cases h : i = 576
    · rw [if_pos (by rw [h]; exact Int32.le_refl _)]
      congr 1
      refine (sr_id σ 101 _ ?_).symm
      funext j
      rw [if_neg (by omega)]
    · rw [if_neg (show ¬ (576 : Int32) ≤ nI i from nI_ge (a := i) (b := 576) (by omega) (by omega)), aS_nI (by omega) (by decide), Option.bind_some, nI_1, ih (i + 1) _ (by omega) (by omega), up_sr, sr_sr]
      congr 2
      funext j
      simp only [sr1, if_true, upd_e]
      by_cases h3 : j = i
      · subst h3
        simp [show j < 576 by omega]
      · rw [if_neg h3]
        by_cases h4 : i + 1 ≤ j ∧ j < 576
        · rw [if_pos h4, if_pos (by omega)]
        · rw [if_neg h4, if_neg (by omega)]
/-- one step of the reference's search to a cell: dry, in the land, unreached -/
theorem rch_s {σ : St} {w h : Nat} (hw : w ≤ 24) (hh : h ≤ 24) (m0 : σ.1 72 0 = nI w) (m1 : σ.1 72 1 = nI h) (e0 : σ.1 1 0 = nI w) (e1 : σ.1 1 1 = nI h) (p q r : Int32) : (f_X5_has σ p q = 0 ∧ f_X10_reaches σ p q r = some (0, σ)) ∨ ∃ x y : Nat, x < w ∧ y < h ∧ p = nI x ∧ q = nI y ∧ f_X10_reaches σ p q r = (if σ.1 73 (24 * y + x) = 1 then some (0, σ) else if σ.1 101 (24 * y + x) = -1 then some (1, up σ 101 (24 * y + x) (r + 1)) else some (0, σ)) := by
  unfold f_X10_reaches
  rw [isCell_eq (τ := σ) (m0.trans e0.symm) (m1.trans e1.symm)]
  by_cases hc : f_X5_has σ p q = 0
  · exact Or.inl ⟨hc, by rw [if_pos hc]⟩
  · obtain ⟨x, y, hx, hy, rfl, rfl⟩ := has_in hw hh e0 e1 hc
    refine Or.inr ⟨x, y, hx, hy, rfl, rfl, ?_⟩
    have hi : 24 * y + x < 576 := by omega
    rw [if_neg hc, ix24, aL_nI hi (by decide), Option.bind_some, aL_nI hi (by decide), Option.bind_some, aS_nI hi (by decide), Option.bind_some]
