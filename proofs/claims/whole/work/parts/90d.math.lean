theorem cO (x y : Nat) : f_X9_cellOf (nI x) (nI y) = nI (24 * y + x) := by
  show nI y * nI 24 + nI x = _
  rw [pk_mul, nI_add, Nat.mul_comm]
theorem ix24 (x y : Nat) : (24 : Int32) * nI y + nI x = nI (24 * y + x) := by
  show nI 24 * nI y + nI x = _
  rw [pk_mul, nI_add]
theorem isCell_eq {σ τ : St} (h0 : σ.1 72 0 = τ.1 1 0) (h1 : σ.1 72 1 = τ.1 1 1) (p q : Int32) : f_X10_isCell σ p q = f_X5_has τ p q := by
  unfold f_X10_isCell f_X5_has
  simp only [in_eq, h0, h1]
theorem has_in {σ : St} {w h : Nat} (hw : w ≤ 24) (hh : h ≤ 24) (e1 : σ.1 1 0 = nI w) (e2 : σ.1 1 1 = nI h) {p q : Int32} (hc : ¬ f_X5_has σ p q = 0) : ∃ x y : Nat, x < w ∧ y < h ∧ p = nI x ∧ q = nI y := by
  unfold f_X5_has at hc
  rw [e1, e2] at hc
  by_cases h1 : f_X9_within p 0 (nI w - 1) = 0
  · rw [if_pos h1] at hc
    exact absurd rfl hc
  · rw [if_neg h1] at hc
    by_cases h2 : f_X9_within q 0 (nI h - 1) = 0
    · rw [if_pos h2] at hc
      exact absurd rfl hc
    · obtain ⟨x, hx, rfl⟩ := wi_cnt (by omega) h1
      obtain ⟨y, hy, rfl⟩ := wi_cnt (by omega) h2
      exact ⟨x, y, hx, hy, rfl, rfl⟩
theorem stand_l {σ τ : St} {N x y : Nat} (hN : N ≤ 4) (hx : x < 24) (hy : y < 24) (e1 : σ.1 28 3 = nI N) (e2 : τ.1 72 23 = nI N) (hc : ∀ c, c < N → ∃ x' y' : Nat, x' < 24 ∧ y' < 24 ∧ τ.1 93 c = nI x' ∧ τ.1 94 c = nI y' ∧ σ.1 29 c = nI (24 * y' + x')) : ∀ (n i : Nat), i ≤ N → N - i < n → (f_X2_standOn_2 n σ (nI (24 * y + x)) (nI i) = some 0 ∧ (∀ c, i ≤ c → c < N → ¬ σ.1 29 c = nI (24 * y + x)) ∧ f_X10_cell_24 n τ (nI x) (nI y) 1 (nI i) = f_X10_cell_69 τ (nI x) (nI y) 1) ∨ (f_X2_standOn_2 n σ (nI (24 * y + x)) (nI i) = some 1 ∧ f_X10_cell_24 n τ (nI x) (nI y) 1 (nI i) = some (-3, τ)) := by
  intro n
  induction n with
  | zero => intro i h1 h2; omega
  | succ n ih =>
    intro i h1 h2
    unfold f_X2_standOn_2 f_X10_cell_24
    rw [e1, e2]
    by_cases h : i = N
    · refine Or.inl ?_
      rw [if_pos (by rw [h]; exact Int32.le_refl _), if_pos (by rw [h]; exact Int32.le_refl _)]
      exact ⟨rfl, fun c g1 g2 => absurd g2 (by omega), rfl⟩
    · obtain ⟨x', y', hx', hy', q1, q2, q3⟩ := hc i (by omega)
      rw [if_neg (nI_ge (by omega) (by omega)), if_neg (nI_ge (by omega) (by omega)), if_pos rfl, aL_nI (by omega) (by decide), aL_nI (by omega) (by decide), aL_nI (by omega) (by decide), Option.bind_some, Option.bind_some, Option.bind_some, q1, q2, q3, nI_1]
      by_cases h3 : x' = x
      · subst h3
        by_cases h4 : y' = y
        · subst h4
          refine Or.inr ?_
          rw [if_pos rfl, if_pos rfl, if_pos rfl]
          exact ⟨rfl, rfl⟩
        · rw [if_neg (fun g => by rw [nI_eq (by omega) (by omega)] at g; omega), if_pos rfl, if_neg (fun g => by rw [nI_eq (by omega) (by omega)] at g; omega)]
          rcases ih (i + 1) (by omega) (by omega) with ⟨a1, a2, a3⟩ | ⟨a1, a2⟩
          · refine Or.inl ⟨a1, fun c g1 g2 => ?_, a3⟩
            by_cases g3 : c = i
            · subst g3
              rw [q3]
              exact fun g => by rw [nI_eq (by omega) (by omega)] at g; omega
            · exact a2 c (by omega) g2
          · exact Or.inr ⟨a1, a2⟩
      · rw [if_neg (fun g => by rw [nI_eq (by omega) (by omega)] at g; omega), if_neg (fun g => by rw [nI_eq (by omega) (by omega)] at g; omega)]
        rcases ih (i + 1) (by omega) (by omega) with ⟨a1, a2, a3⟩ | ⟨a1, a2⟩
        · refine Or.inl ⟨a1, fun c g1 g2 => ?_, a3⟩
          by_cases g3 : c = i
          · subst g3
            rw [q3]
            exact fun g => by rw [nI_eq (by omega) (by omega)] at g; omega
          · exact a2 c (by omega) g2
        · exact Or.inr ⟨a1, a2⟩
theorem cell24_k {n : Nat} {τ : St} {x y k i : Int32} (hk : ¬ k = 1) : f_X10_cell_24 (n + 1) τ x y k i = f_X10_cell_69 τ x y k := by
  unfold f_X10_cell_24
  by_cases h : τ.1 72 23 ≤ i
  · rw [if_pos h]
  · rw [if_neg h, if_neg hk]
/-- promise 3: cell -/
theorem ms_cell : MS_cell Inv := by
  intro σ hI p1 p2 p3
  have hI' := hI
  obtain ⟨⟨w, h, hw1, hw2, hh1, hh2, a1, a2, a3, a4, a5⟩, iA, iN, iF, ⟨N, hN, b1, b2, b3⟩, iP, iW, iI⟩ := hI
  unfold f_X9_cell f_X10_cell
  by_cases h1 : f_X5_has σ p1 p2 = 0
  · exact ⟨-2, σ, σ, by rw [if_pos h1], by rw [isCell_eq (a1.trans a3.symm) (a2.trans a4.symm), if_pos h1], hI'⟩
  by_cases h2 : f_X9_within p3 0 2 = 0
  · exact ⟨-2, σ, σ, by rw [if_neg h1, if_pos h2], by rw [isCell_eq (a1.trans a3.symm) (a2.trans a4.symm), if_neg h1, in_eq, if_pos h2], hI'⟩
  obtain ⟨x, y, hx, hy, rfl, rfl⟩ := has_in hw2 hh2 a3 a4 h1
  obtain ⟨k, hk, rfl⟩ := wi_nI (n := 2) (by decide) h2
  have hcc : ∀ c, c < N → ∃ x' y' : Nat, x' < 24 ∧ y' < 24 ∧ σ.1 93 c = nI x' ∧ σ.1 94 c = nI y' ∧ σ.1 29 c = nI (24 * y' + x') := fun c hc => by
    obtain ⟨x', y', p, g1, g2, g3, g4, g5, g6, g7, g8, g9, g10, g11, g12⟩ := b3 c hc
    exact ⟨x', y', g1, g2, g7, g8, g10⟩
  have hi : 24 * y + x < 576 := by omega
  have s1r : ∀ a, ¬ a = 2 → (up σ 2 (24 * y + x) (nI k)).1 a = σ.1 a := fun a ha => up_ne ha
  have hcl : f_X10_isCell (up σ 2 (24 * y + x) (nI k)) (nI x) (nI y) = f_X5_has σ (nI x) (nI y) := isCell_eq (by rw [s1r 72 (by decide)]; exact a1.trans a3.symm) (by rw [s1r 72 (by decide)]; exact a2.trans a4.symm) _ _
  have c51 : f_X9_cell_51 σ (nI k) (nI (24 * y + x)) = some (σ.1 73 (24 * y + x), up σ 2 (24 * y + x) (nI k)) := by
    unfold f_X9_cell_51
    rw [aL_nI hi (by decide), aS_nI hi (by decide), (a5 _ hi).1]
    rfl
  have c69 : f_X10_cell_69 (up σ 2 (24 * y + x) (nI k)) (nI x) (nI y) (nI k) = some (σ.1 73 (24 * y + x), up (up σ 2 (24 * y + x) (nI k)) 73 (24 * y + x) (nI k)) := by
    unfold f_X10_cell_69
    rw [ix24, aL_nI hi (by decide), aS_nI hi (by decide), s1r 73 (by decide)]
    rfl
  have good : (k = 1 → ∀ c, 0 ≤ c → c < N → ¬ σ.1 29 c = nI (24 * y + x)) → Inv (up (up σ 2 (24 * y + x) (nI k)) 73 (24 * y + x) (nI k)) := by
    intro hno
    unfold Inv
    simp only [up1, up2, Nat.reduceEqDiff, if_true, if_false]
    refine ⟨⟨w, h, hw1, hw2, hh1, hh2, a1, a2, a3, a4, fun i hi2 => ?_⟩, iA, iN, InvF_up (by omega) (InvF_up (by omega) iF), ⟨N, hN, b1, b2, fun c hc => ?_⟩, iP, InvW_congr (fun a ha => by rw [up_ne (by omega), up_ne (by omega)]) iW, iI⟩
    · simp only [upd_e]
      by_cases hij : i = 24 * y + x
      · simp only [if_pos hij]
        exact ⟨trivial, k, hk, rfl⟩
      · simp only [if_neg hij]
        exact a5 i hi2
    · obtain ⟨x', y', p, g1, g2, g3, g4, g5, g6, g7, g8, g9, g10, g11, g12⟩ := b3 c hc
      refine ⟨x', y', p, g1, g2, g3, g4, g5, g6, g7, g8, g9, g10, g11, ?_⟩
      rw [upd_e]
      by_cases hij : 24 * y' + x' = 24 * y + x
      · rw [if_pos hij]
        intro h9
        have hk1 : k = 1 := (nI_eq (a := k) (b := 1) (by omega) (by omega)).mp h9
        exact hno hk1 c (by omega) hc (by rw [g10, hij])
      · rw [if_neg hij]
        exact g12
  simp only [if_neg h1, if_neg h2, cO]
  by_cases hk1 : k = 1
  · subst hk1
    rw [if_pos (show nI 1 = 1 from rfl)]
    rcases stand_l (σ := σ) (τ := σ) (N := N) (x := x) (y := y) hN (by omega) (by omega) b1 b2 hcc 10000 0 (by omega) (by omega) with ⟨q1, q2, q3⟩ | ⟨q1, q2⟩
    · have q1' : f_X2_standOn σ (nI (24 * y + x)) = some 0 := q1
      rcases stand_l (σ := σ) (τ := up σ 2 (24 * y + x) (nI 1)) (N := N) (x := x) (y := y) hN (by omega) (by omega) b1 (by rw [s1r 72 (by decide)]; exact b2) (fun c hc => by rw [s1r 93 (by decide), s1r 94 (by decide)]; exact hcc c hc) 10000 0 (by omega) (by omega) with ⟨r1, r2, r3⟩ | ⟨r1, r2⟩
      · refine ⟨σ.1 73 (24 * y + x), up σ 2 (24 * y + x) (nI 1), up (up σ 2 (24 * y + x) (nI 1)) 73 (24 * y + x) (nI 1), ?_, ?_, good (fun _ => q2)⟩
        · rw [q1', Option.bind_some, if_pos rfl, c51]
        · rw [hcl, if_neg h1, in_eq, if_neg h2]
          exact r3.trans c69
      · rw [q1] at r1
        cases r1
    · have q1' : f_X2_standOn σ (nI (24 * y + x)) = some 1 := q1
      refine ⟨-3, σ, σ, ?_, ?_, hI'⟩
      · rw [q1', Option.bind_some, if_neg (by decide)]
      · rw [isCell_eq (a1.trans a3.symm) (a2.trans a4.symm), if_neg h1, in_eq, if_neg h2]
        exact q2
  · have hk2 : ¬ nI k = 1 := fun h9 => hk1 ((nI_eq (a := k) (b := 1) (by omega) (by omega)).mp h9)
    rw [if_neg hk2]
    refine ⟨σ.1 73 (24 * y + x), up σ 2 (24 * y + x) (nI k), up (up σ 2 (24 * y + x) (nI k)) 73 (24 * y + x) (nI k), c51, ?_, good (fun h9 => absurd h9 hk1)⟩
    rw [hcl, if_neg h1, in_eq, if_neg h2]
    exact (cell24_k (n := 9999) hk2).trans c69
