theorem wi_cnt {p : Int32} {n : Nat} (hn : n < 2 ^ 30) (h : ¬ f_X9_within p 0 (nI n - 1) = 0) : ∃ j : Nat, j < n ∧ p = nI j := by
  rcases Nat.eq_zero_or_pos n with h0 | h0
  · subst h0
    rcases wi_01 p 0 (nI 0 - 1) with g | ⟨-, g1, g2⟩
    · exact absurd g h
    · exfalso
      have q1 := Int32.le_iff_toInt_le.mp (Int32.not_lt.mp g1)
      have q2 := Int32.le_iff_toInt_le.mp (Int32.not_lt.mp g2)
      have q3 : (nI 0 - 1).toInt = -1 := by decide
      have q4 : (0 : Int32).toInt = 0 := by decide
      omega
  · obtain ⟨m, rfl⟩ : ∃ m, n = m + 1 := ⟨n - 1, by omega⟩
    rw [nI_pred] at h
    obtain ⟨j, hj, rfl⟩ := wi_nI (n := m) (nI_toInt (by omega)) h
    exact ⟨j, by omega, rfl⟩
theorem rem_nI {a d : Nat} (ha : a < 2 ^ 31) (h0 : 0 < d) (hd : d < 2 ^ 31) : nI a - nI a / nI d * nI d = nI (a % d) := pk_rem ha h0 hd
theorem xOf_c {x y : Nat} (hx : x < 24) (hy : y < 24) : f_X9_xOf (nI (24 * y + x)) = nI x := by
  show nI (24 * y + x) - nI (24 * y + x) / nI 24 * nI 24 = nI x
  rw [pk_rem (by omega) (by omega) (by omega)]
  congr 1
  omega
theorem yOf_c {x y : Nat} (hx : x < 24) (hy : y < 24) : f_X9_yOf (nI (24 * y + x)) = nI y := by
  show nI (24 * y + x) / nI 24 = nI y
  rw [pk_div (by omega) (by omega) (by omega)]
  congr 1
  omega
theorem ix61 (f i : Nat) : (61 : Int32) * nI f + nI i = nI (61 * f + i) := by
  show nI 61 * nI f + nI i = _
  rw [pk_mul, nI_add]
theorem lev_p {c l : Nat} (hc : c < 576) (hl : l ≤ 7) : f_X9_levelOfPlace (nI (8 * c + l)) = nI l := by
  show nI (8 * c + l) - nI (8 * c + l) / nI 8 * nI 8 = nI l
  rw [pk_rem (by omega) (by omega) (by omega)]
  congr 1
  omega
theorem cel_p {c l : Nat} (hc : c < 576) (hl : l ≤ 7) : f_X9_cellOfPlace (nI (8 * c + l)) = nI c := by
  show nI (8 * c + l) / nI 8 = nI c
  rw [pk_div (by omega) (by omega) (by omega)]
  congr 1
  omega
/-- promise 14: entry -/
theorem ms_entry : MS_entry Inv := by
  intro σ hI p1 p2 p3
  have hI' := hI
  obtain ⟨iL, iA, iN, ⟨F, hF, e1, e2, h3⟩, iC, iP, iW, iI⟩ := hI
  unfold f_X9_entry f_X10_entry f_X9_isFlight f_X10_isFlight
  simp only [in_eq, e1, e2]
  by_cases h1 : f_X9_within p1 0 (nI F - 1) = 0
  · exact ⟨-2, by rw [if_pos h1], by rw [if_pos h1], hI'⟩
  by_cases h2 : f_X9_within p3 0 2 = 0
  · exact ⟨-2, by rw [if_neg h1, if_pos h2], by rw [if_neg h1, if_pos h2], hI'⟩
  simp only [if_neg h1, if_neg h2]
  obtain ⟨f, hf, rfl⟩ := wi_cnt (by omega) h1
  obtain ⟨w, hw, rfl⟩ := wi_nI (n := 2) (by decide) h2
  obtain ⟨x, y, lv, t, ld, g, bs, e, b, hx, hy, hlv, hb, he1, he, ht, hld1, hld, hg, hbs, ⟨m1, m2, m3, m4, m5, m6, m7, m8, m9, m10, m11⟩, ⟨c1, c2, c3, c4, c5, c6, c7, c8⟩, ⟨d1, d2, d3, d4⟩, hz, hlog⟩ := h3 f hf
  simp only [inB_nI (show f < 8 by omega) (by decide), aL_nI (show f < 8 by omega) (by decide), Option.bind_some, m9, d1]
  by_cases h4 : f_X9_within p2 0 (nI e - 1) = 0
  · exact ⟨-1, by rw [if_pos h4], by rw [if_pos h4], hI'⟩
  simp only [if_neg h4]
  obtain ⟨i, hi, rfl⟩ := wi_cnt (by omega) h4
  obtain ⟨c, l, hc, hl, q1, q2, q3, q4, q5⟩ := hlog i hi
  simp only [aL_nI (show i < 60 by omega) (by decide), ix61, aL_nI (show 61 * f + i < 488 by omega) (by decide), Option.bind_some, q1, q2, q3, q4]
  by_cases h5 : σ.1 92 (61 * f + i) = 0
  · simp only [if_pos h5, lev_p hc hl, cel_p hc hl]
    rcases (show w = 0 ∨ w = 1 ∨ w = 2 by omega) with h | h | h
    · subst h
      exact ⟨_, rfl, rfl, hI'⟩
    · subst h
      exact ⟨_, rfl, rfl, hI'⟩
    · subst h
      exact ⟨_, rfl, rfl, hI'⟩
  · simp only [if_neg h5]
    exact ⟨_, rfl, rfl, hI'⟩
/-- promise 9: about -/
theorem ms_about : MS_about Inv := by
  intro σ hI p1 p2
  have hI' := hI
  obtain ⟨iL, iA, iN, ⟨F, hF, e1, e2, h3⟩, iC, iP, iW, iI⟩ := hI
  unfold f_X9_about f_X10_about f_X9_isFlight f_X10_isFlight
  simp only [in_eq, e1, e2]
  by_cases h1 : f_X9_within p1 0 (nI F - 1) = 0
  · exact ⟨_, by rw [if_pos h1], by rw [if_pos h1], hI'⟩
  simp only [if_neg h1]
  obtain ⟨f, hf, rfl⟩ := wi_cnt (by omega) h1
  obtain ⟨x, y, lv, t, ld, g, bs, e, b, hx, hy, hlv, hb, he1, he, ht, hld1, hld, hg, hbs, ⟨m1, m2, m3, m4, m5, m6, m7, m8, m9, m10, m11⟩, ⟨c1, c2, c3, c4, c5, c6, c7, c8⟩, ⟨d1, d2, d3, d4⟩, hz, hlog⟩ := h3 f hf
  have r24 : nI t - nI t / 24 * 24 = nI (t % 24) := pk_rem (d := 24) (by omega) (by omega) (by omega)
  have hl4 : σ.1 4 lv = σ.1 74 lv := (iA.1 lv (by omega)).1
  have hl6 : σ.1 6 (t % 24) = σ.1 76 (t % 24) := (iA.2 (t % 24) (by omega)).1
  simp only [inB_nI (show f < 8 by omega) (by decide), aL_nI (show f < 8 by omega) (by decide), Option.bind_some, f_X1_liftLessWeight, f_X1_hour, m1, m2, m3, m4, m5, m6, m7, m9, c1, c2, c3, c4, c5, c6, c7, c8, d1, r24, aL_nI (show lv < 8 by omega) (by decide), aL_nI (show t % 24 < 24 by omega) (by decide), hl4, hl6, xOf_c hx hy, yOf_c hx hy]
  by_cases q0 : p2 = 0
  · exact ⟨_, by rw [if_pos q0], by rw [if_pos q0], hI'⟩
  by_cases q1 : p2 = 1
  · exact ⟨_, by rw [if_neg q0, if_pos q1], by rw [if_neg q0, if_pos q1], hI'⟩
  by_cases q2 : p2 = 2
  · exact ⟨_, by rw [if_neg q0, if_neg q1, if_pos q2], by rw [if_neg q0, if_neg q1, if_pos q2], hI'⟩
  by_cases q3 : p2 = 3
  · exact ⟨_, by rw [if_neg q0, if_neg q1, if_neg q2, if_pos q3], by rw [if_neg q0, if_neg q1, if_neg q2, if_pos q3], hI'⟩
  by_cases q4 : p2 = 4
  · exact ⟨_, by rw [if_neg q0, if_neg q1, if_neg q2, if_neg q3, if_pos q4], by rw [if_neg q0, if_neg q1, if_neg q2, if_neg q3, if_pos q4], hI'⟩
  by_cases q5 : p2 = 5
  · exact ⟨_, by rw [if_neg q0, if_neg q1, if_neg q2, if_neg q3, if_neg q4, if_pos q5], by rw [if_neg q0, if_neg q1, if_neg q2, if_neg q3, if_neg q4, if_pos q5], hI'⟩
  simp only [if_neg q0, if_neg q1, if_neg q2, if_neg q3, if_neg q4, if_neg q5]
  by_cases q6 : p2 = 6
  · by_cases hh : σ.1 87 f = 0
    · exact ⟨_, by rw [if_pos q6, if_pos hh], by rw [if_pos q6, if_pos hh], hI'⟩
    · exact ⟨_, by rw [if_pos q6, if_neg hh], by rw [if_pos q6, if_neg hh], hI'⟩
  simp only [if_neg q6]
  by_cases q7 : p2 = 7
  · exact ⟨_, by rw [if_pos q7], by rw [if_pos q7], hI'⟩
  by_cases q8 : p2 = 8
  · exact ⟨_, by rw [if_neg q7, if_pos q8], by rw [if_neg q7, if_pos q8], hI'⟩
  by_cases q9 : p2 = 9
  · exact ⟨_, by rw [if_neg q7, if_neg q8, if_pos q9], by rw [if_neg q7, if_neg q8, if_pos q9], hI'⟩
  exact ⟨_, by rw [if_neg q7, if_neg q8, if_neg q9], by rw [if_neg q7, if_neg q8, if_neg q9], hI'⟩
