theorem Inv_winds {σ s2 : St} (hI : Inv σ) (hr : ∀ a, ¬ a = 8 → ¬ a = 9 → ¬ a = 11 → ¬ a = 12 → ¬ a = 77 → ¬ a = 78 → s2.1 a = σ.1 a) (h2 : s2.2 = σ.2) (hN : InvN (s2.1 8) (s2.1 9) (s2.1 11) (s2.1 12) (s2.1 77) (s2.1 78)) : Inv s2 := by
  obtain ⟨iL, iA, iN, iF, iC, iP, iW, iI⟩ := hI
  unfold Inv
  have e := fun (a : Nat) (h : (decide (a = 8) || decide (a = 9) || decide (a = 11) || decide (a = 12) || decide (a = 77) || decide (a = 78)) = false) => hr a (by simp at h; omega) (by simp at h; omega) (by simp at h; omega) (by simp at h; omega) (by simp at h; omega) (by simp at h; omega)
  rw [e 0 rfl, e 1 rfl, e 2 rfl, e 72 rfl, e 73 rfl, e 4 rfl, e 5 rfl, e 6 rfl, e 74 rfl, e 75 rfl, e 76 rfl, e 28 rfl, e 29 rfl, e 30 rfl, e 93 rfl, e 94 rfl, e 95 rfl, e 15 rfl, e 18 rfl, e 96 rfl, e 79 rfl, e 80 rfl, h2]
  exact ⟨iL, iA, hN, InvF_congr (fun a ha => hr a (by omega) (by omega) (by omega) (by omega) (by omega) (by omega)) iF, iC, iP, InvW_congr (fun a ha => hr a (by omega) (by omega) (by omega) (by omega) (by omega) (by omega)) iW, iI⟩
/-- promise 6: wind -/
theorem ms_wind : MS_wind Inv := by
  intro σ hI p1 p2 p3 p4 p5 p6
  unfold f_X9_wind f_X10_wind
  simp only [in_eq]
  by_cases h1 : f_X9_within p2 1 7 = 0
  · exact ⟨-2, σ, σ, by rw [if_pos h1], by rw [if_pos h1], hI⟩
  by_cases h2 : f_X9_within p3 0 23 = 0
  · exact ⟨-2, σ, σ, by rw [if_neg h1, if_pos h2], by rw [if_neg h1, if_pos h2], hI⟩
  by_cases h3 : f_X9_within p4 p3 23 = 0
  · exact ⟨-2, σ, σ, by rw [if_neg h1, if_neg h2, if_pos h3], by rw [if_neg h1, if_neg h2, if_pos h3], hI⟩
  by_cases h4 : f_X9_within p5 (-2) 2 = 0
  · exact ⟨-2, σ, σ, by rw [if_neg h1, if_neg h2, if_neg h3, if_pos h4], by rw [if_neg h1, if_neg h2, if_neg h3, if_pos h4], hI⟩
  by_cases h5 : f_X9_within p6 (-2) 2 = 0
  · exact ⟨-2, σ, σ, by rw [if_neg h1, if_neg h2, if_neg h3, if_neg h4, if_pos h5], by rw [if_neg h1, if_neg h2, if_neg h3, if_neg h4, if_pos h5], hI⟩
  simp only [if_neg h1, if_neg h2, if_neg h3, if_neg h4, if_neg h5]
  obtain ⟨l, hl1, hl, rfl⟩ := wi_rng (a := 1) (b := 7) (by omega) (by omega) h1
  obtain ⟨a, ha, rfl⟩ := wi_nI (n := 23) (by decide) h2
  obtain ⟨b, hab, hb, rfl⟩ := wi_rng (a := a) (b := 23) (by omega) (by omega) h3
  have b5 : ib p5 (-2) 2 := wi_ib h4
  have b6 : ib p6 (-2) 2 := wi_ib h5
  have iN := hI.2.2.1
  by_cases h0 : p1 = 0
  · rw [if_pos h0, w9_l 10 l b p5 p6 hl hb 10000 a σ (by omega) (by omega)]
    refine ⟨1, _, _, rfl, w10_l p1 1 l b p5 p6 (by omega) hl hb (Or.inl ⟨h0, rfl⟩) 10000 a _ (by omega) (by omega), ?_⟩
    refine Inv_winds hI (fun k g1 g2 g3 g4 g5 g6 => by rw [sr2r_1, if_neg g6, if_neg g5, sr2r_1, if_neg g4, if_neg g3]) rfl ?_
    simp only [sr2r_1, Nat.reduceEqDiff, Nat.reduceAdd, if_true, if_false]
    refine ⟨fun i hi => ?_, fun i hi => ?_⟩
    · obtain ⟨g1, g2, g3, g4⟩ := iN.1 i hi
      simp only [wr_e]
      refine ⟨by rw [if_neg (by omega)]; exact g1, by rw [if_neg (by omega)]; exact g2, ?_, ?_⟩
      · by_cases hc : 24 * l + a ≤ i ∧ i < 24 * l + b + 1
        · rw [if_pos hc, if_pos (by omega)]
        · rw [if_neg hc, if_neg (by omega), g3]
      · by_cases hc : 24 * l + a ≤ i ∧ i < 24 * l + b + 1
        · rw [if_pos hc, if_pos (by omega)]
        · rw [if_neg hc, if_neg (by omega), g4]
    · simp only [wr_e]
      by_cases hc : 192 * 1 + 24 * l + a ≤ i ∧ i < 192 * 1 + 24 * l + b + 1
      · rw [if_pos hc, if_pos hc]
        exact ⟨b5, b6⟩
      · rw [if_neg hc, if_neg hc]
        exact iN.2 i hi
  · rw [if_neg h0, w9_l 7 l b p5 p6 hl hb 10000 a σ (by omega) (by omega)]
    refine ⟨1, _, _, rfl, w10_l p1 0 l b p5 p6 (by omega) hl hb (Or.inr ⟨h0, rfl⟩) 10000 a _ (by omega) (by omega), ?_⟩
    refine Inv_winds hI (fun k g1 g2 g3 g4 g5 g6 => by rw [sr2r_1, if_neg g6, if_neg g5, sr2r_1, if_neg g2, if_neg g1]) rfl ?_
    simp only [sr2r_1, Nat.reduceEqDiff, Nat.reduceAdd, if_true, if_false]
    refine ⟨fun i hi => ?_, fun i hi => ?_⟩
    · obtain ⟨g1, g2, g3, g4⟩ := iN.1 i hi
      simp only [wr_e]
      refine ⟨?_, ?_, by rw [if_neg (by omega)]; exact g3, by rw [if_neg (by omega)]; exact g4⟩
      · by_cases hc : 24 * l + a ≤ i ∧ i < 24 * l + b + 1
        · rw [if_pos hc, if_pos (by omega)]
        · rw [if_neg hc, if_neg (by omega), g1]
      · by_cases hc : 24 * l + a ≤ i ∧ i < 24 * l + b + 1
        · rw [if_pos hc, if_pos (by omega)]
        · rw [if_neg hc, if_neg (by omega), g2]
    · simp only [wr_e]
      by_cases hc : 192 * 0 + 24 * l + a ≤ i ∧ i < 192 * 0 + 24 * l + b + 1
      · rw [if_pos hc, if_pos hc]
        exact ⟨b5, b6⟩
      · rw [if_neg hc, if_neg hc]
        exact iN.2 i hi
