theorem going_l {σ : St} {F : Nat} (hF : F ≤ 8) (e1 : σ.1 0 4 = nI F) (e2 : σ.1 72 8 = nI F) (h3 : ∀ f, f < F → FlOk σ.1 f) : ∀ (n i : Nat) (x : Int32), i ≤ F → F - i < n → ∃ r : Int32, f_X9_countGoing_4 n σ x (nI i) = some r ∧ f_X10_count_61 n σ x (nI i) = some r := by
  intro n
  induction n with
  | zero => intro i x h1 h2; omega
  | succ n ih =>
    intro i x h1 h2
    unfold f_X9_countGoing_4 f_X10_count_61
    rw [e1, e2]
    by_cases h : i = F
    · rw [if_pos (by rw [h]; exact Int32.le_refl _), if_pos (by rw [h]; exact Int32.le_refl _)]
      exact ⟨x, rfl, rfl⟩
    · obtain ⟨_, _, lv, t, ld, g, bs, e, b, hx, hy, hlv, hb, he1, he, ht, hld1, hld, hg, hbs, ⟨m1, m2, m3, m4, m5, m6, m7, m8, m9, m10, m11⟩, ⟨c1, c2, c3, c4, c5, c6, c7, c8⟩, ⟨d1, d2, d3, d4⟩, hz, hlog⟩ := h3 i (by omega)
      rw [if_neg (nI_ge (by omega) (by omega)), if_neg (nI_ge (by omega) (by omega)), inB_nI (by omega) (by decide), aL_nI (by omega) (by decide), Option.bind_some, Option.bind_some, c8, nI_1, Int32.add_zero]
      by_cases hq : σ.1 87 i = 0
      · rw [if_pos hq, if_pos hq]
        exact ih (i + 1) _ (by omega) (by omega)
      · rw [if_neg hq, if_neg hq]
        exact ih (i + 1) _ (by omega) (by omega)
theorem closed_l {σ : St} (h2 : ∀ i, i < 576 → σ.1 2 i = σ.1 73 i) : ∀ (n i : Nat) (x : Int32), i ≤ 576 → 576 - i < n → ∃ r : Int32, f_X5_countClosed_4 n σ x (nI i) = some r ∧ f_X10_count_101 n σ x (nI i) = some r := by
  intro n
  induction n with
  | zero => intro i x h1 h2; omega
  | succ n ih =>
    intro i x h1 h3
    unfold f_X5_countClosed_4 f_X10_count_101
    by_cases h : i = 576
    · rw [if_pos (by rw [h]; exact Int32.le_refl _), if_pos (by rw [h]; exact Int32.le_refl _)]
      exact ⟨x, rfl, rfl⟩
    · have hn : ¬ (576 : Int32) ≤ nI i := nI_ge (a := i) (b := 576) (by omega) (by omega)
      rw [if_neg hn, if_neg hn, aL_nI (by omega) (by decide), aL_nI (by omega) (by decide), Option.bind_some, Option.bind_some, h2 i (by omega), nI_1, Int32.add_zero]
      by_cases hq : σ.1 73 i = 2
      · rw [if_pos hq, if_pos hq]
        exact ih (i + 1) _ (by omega) (by omega)
      · rw [if_neg hq, if_neg hq]
        exact ih (i + 1) _ (by omega) (by omega)
theorem lost_in {σ : St} {f e : Nat} (hf : f < 8) (he : e ≤ 60) (m9 : σ.1 89 f = nI e) (kn : St → Int32 → Int32 → Option Int32) (z : Int32) : ∀ (n i : Nat) (x : Int32), i ≤ e → e - i < n → x = z + nI (cntL (fun i => σ.1 92 (61 * f + i)) i) → f_X10_count_147 kn n σ x (nI f) (nI i) = kn σ (z + nI (cntL (fun i => σ.1 92 (61 * f + i)) e)) (nI (f + 1)) := by
  intro n
  induction n with
  | zero => intro i x h1 h2; omega
  | succ n ih =>
    intro i x h1 h2 hx
    unfold f_X10_count_147
    rw [aL_nI (by omega) (by decide), Option.bind_some, m9]
    by_cases h : i = e
    · rw [if_pos (by rw [h]; exact Int32.le_refl _), nI_1, hx, h]
    · rw [if_neg (nI_ge (by omega) (by omega)), ix61, aL_nI (by omega) (by decide), Option.bind_some, nI_1, Int32.add_zero]
      by_cases hq : σ.1 92 (61 * f + i) = 0
      · rw [if_pos hq]
        refine ih (i + 1) _ (by omega) (by omega) ?_
        rw [hx]
        show _ = z + nI (cntL _ i + (if σ.1 92 (61 * f + i) = 0 then 0 else 1))
        rw [if_pos hq]
        rfl
      · rw [if_neg hq]
        refine ih (i + 1) _ (by omega) (by omega) ?_
        rw [hx]
        show _ = z + nI (cntL _ i + (if σ.1 92 (61 * f + i) = 0 then 0 else 1))
        rw [if_neg hq, nI_succ, Int32.add_assoc]
theorem lost_l {σ : St} {F : Nat} (hF : F ≤ 8) (e1 : σ.1 0 4 = nI F) (e2 : σ.1 72 8 = nI F) (h3 : ∀ f, f < F → FlOk σ.1 f) : ∀ (n i : Nat) (x : Int32), i ≤ F → F - i < n → ∃ r : Int32, f_X9_countLost_4 n σ x (nI i) = some r ∧ f_X10_count_136 n σ x (nI i) = some r := by
  intro n
  induction n with
  | zero => intro i x h1 h2; omega
  | succ n ih =>
    intro i x h1 h2
    unfold f_X9_countLost_4 f_X10_count_136
    rw [e1, e2]
    by_cases h : i = F
    · rw [if_pos (by rw [h]; exact Int32.le_refl _), if_pos (by rw [h]; exact Int32.le_refl _)]
      exact ⟨x, rfl, rfl⟩
    · obtain ⟨_, _, lv, t, ld, g, bs, e, b, hx, hy, hlv, hb, he1, he, ht, hld1, hld, hg, hbs, ⟨m1, m2, m3, m4, m5, m6, m7, m8, m9, m10, m11⟩, ⟨c1, c2, c3, c4, c5, c6, c7, c8⟩, ⟨d1, d2, d3, d4⟩, hz, hlog⟩ := h3 i (by omega)
      rw [if_neg (nI_ge (by omega) (by omega)), if_neg (nI_ge (by omega) (by omega)), inB_nI (by omega) (by decide), Option.bind_some, d4, nI_1]
      have hin := lost_in (σ := σ) (f := i) (e := e) (by omega) he m9 (fun σ x2 x3 => f_X10_count_136 n σ x2 x3) x 10000 0 x (by omega) (by omega) (by
        show x = x + nI 0
        rw [nI_0, Int32.add_zero])
      rw [nI_0] at hin
      rw [hin]
      exact ih (i + 1) _ (by omega) (by omega)
/-- promise 22: count -/
theorem ms_count : MS_count Inv := by
  intro σ hI p1
  have hI' := hI
  obtain ⟨⟨w, h, hw1, hw2, hh1, hh2, a1, a2, a3, a4, a5⟩, iA, iN, ⟨F, hF, e1, e2, h3⟩, ⟨N, hN, b1, b2, b3⟩, iP, iW, iI⟩ := hI
  unfold f_X9_count f_X10_count
  by_cases q0 : p1 = 0
  · exact ⟨nI w, by rw [if_pos q0, a3], by rw [if_pos q0, a1], hI'⟩
  by_cases q1 : p1 = 1
  · exact ⟨nI h, by rw [if_neg q0, if_pos q1, a4], by rw [if_neg q0, if_pos q1, a2], hI'⟩
  by_cases q2 : p1 = 2
  · exact ⟨nI F, by rw [if_neg q0, if_neg q1, if_pos q2, e1], by rw [if_neg q0, if_neg q1, if_pos q2, e2], hI'⟩
  by_cases q3 : p1 = 3
  · obtain ⟨r, g1, g2⟩ := going_l hF e1 e2 h3 10000 0 0 (by omega) (by omega)
    rw [nI_0] at g1 g2
    refine ⟨r, ?_, ?_, hI'⟩
    · rw [if_neg q0, if_neg q1, if_neg q2, if_pos q3]
      unfold f_X9_countGoing
      rw [g1, Option.bind_some]
    · rw [if_neg q0, if_neg q1, if_neg q2, if_pos q3]
      exact g2
  by_cases q4 : p1 = 4
  · exact ⟨nI N, by rw [if_neg q0, if_neg q1, if_neg q2, if_neg q3, if_pos q4, b1], by rw [if_neg q0, if_neg q1, if_neg q2, if_neg q3, if_pos q4, b2], hI'⟩
  by_cases q5 : p1 = 5
  · obtain ⟨r, g1, g2⟩ := closed_l (σ := σ) (fun i hi => (a5 i hi).1) 10000 0 0 (by omega) (by omega)
    rw [nI_0] at g1 g2
    refine ⟨r, ?_, ?_, hI'⟩
    · rw [if_neg q0, if_neg q1, if_neg q2, if_neg q3, if_neg q4, if_pos q5]
      unfold f_X5_countClosed
      rw [g1, Option.bind_some]
    · rw [if_neg q0, if_neg q1, if_neg q2, if_neg q3, if_neg q4, if_pos q5]
      exact g2
  by_cases q6 : p1 = 6
  · obtain ⟨r, g1, g2⟩ := lost_l hF e1 e2 h3 10000 0 0 (by omega) (by omega)
    rw [nI_0] at g1 g2
    refine ⟨r, ?_, ?_, hI'⟩
    · rw [if_neg q0, if_neg q1, if_neg q2, if_neg q3, if_neg q4, if_neg q5, if_pos q6]
      unfold f_X9_countLost
      rw [g1, Option.bind_some]
    · rw [if_neg q0, if_neg q1, if_neg q2, if_neg q3, if_neg q4, if_neg q5, if_pos q6]
      exact g2
  exact ⟨-2, by rw [if_neg q0, if_neg q1, if_neg q2, if_neg q3, if_neg q4, if_neg q5, if_neg q6], by rw [if_neg q0, if_neg q1, if_neg q2, if_neg q3, if_neg q4, if_neg q5, if_neg q6], hI'⟩
