/-! THE MATHEMATICS: what class and reference have in common between two calls. The reference's own rows (72 and on) are the measure. -/
def cntL (g : Nat → Int32) : Nat → Nat
  | 0 => 0
  | n + 1 => cntL g n + (if g n = 0 then 0 else 1)
def ib (x : Int32) (a b : Int) : Prop := a ≤ x.toInt ∧ x.toInt ≤ b
/-- the land -/
def InvL (r1 r2 m72 m73 : Nat → Int32) : Prop := ∃ w h : Nat, 4 ≤ w ∧ w ≤ 24 ∧ 4 ≤ h ∧ h ≤ 24 ∧ m72 0 = nI w ∧ m72 1 = nI h ∧ r1 0 = nI w ∧ r1 1 = nI h ∧ ∀ i, i < 576 → r2 i = m73 i ∧ ∃ k, k ≤ 2 ∧ m73 i = nI k
/-- the air -/
def InvA (r4 r5 r6 m74 m75 m76 : Nat → Int32) : Prop := (∀ i, i < 8 → r4 i = m74 i ∧ r5 i = m75 i ∧ (∃ k, k ≤ 50 ∧ m74 i = nI k) ∧ ∃ k, k ≤ 500 ∧ m75 i = nI k) ∧ ∀ i, i < 24 → r6 i = m76 i ∧ ib (m76 i) (-20) 20
/-- the winds -/
def InvN (r8 r9 r11 r12 m77 m78 : Nat → Int32) : Prop := (∀ i, i < 192 → r8 i = m77 i ∧ r9 i = m78 i ∧ r11 i = m77 (192 + i) ∧ r12 i = m78 (192 + i)) ∧ ∀ i, i < 384 → ib (m77 i) (-2) 2 ∧ ib (m78 i) (-2) 2
/-- one flight -/
def FlOk (ρ : Nat → Nat → Int32) (f : Nat) : Prop := ∃ x y lv t ld g bs e b : Nat, x < 24 ∧ y < 24 ∧ lv ≤ 7 ∧ b ≤ 23 ∧ 1 ≤ e ∧ e ≤ 60 ∧ t + 1 = b + e ∧ 1 ≤ ld ∧ ld ≤ 200 ∧ g ≤ 500 ∧ bs ≤ 200 ∧
  (ρ 79 f = nI x ∧ ρ 80 f = nI y ∧ ρ 81 f = nI lv ∧ ρ 82 f = nI t ∧ ρ 83 f = nI ld ∧ ρ 84 f = nI g ∧ ρ 85 f = nI bs ∧ ρ 88 f = nI b ∧ ρ 89 f = nI e ∧ bl (ρ 87 f) ∧ (ρ 87 f = 0 → 1 ≤ lv)) ∧
  (ρ (40 + 4 * f + 1) 0 = nI (24 * y + x) ∧ ρ (40 + 4 * f + 1) 1 = nI lv ∧ ρ (40 + 4 * f + 1) 2 = nI t ∧ ρ (40 + 4 * f + 1) 3 = nI ld ∧ ρ (40 + 4 * f + 1) 4 = nI g ∧ ρ (40 + 4 * f + 1) 5 = nI bs ∧ ρ (40 + 4 * f + 1) 6 = ρ 86 f ∧ ρ (40 + 4 * f + 1) 7 = ρ 87 f) ∧
  (ρ (40 + 4 * f) 3 = nI e ∧ ρ (40 + 4 * f) 5 = ρ 90 (61 * f) ∧ ρ (40 + 4 * f) 6 = nI b ∧ ρ (40 + 4 * f) 4 = nI (cntL (fun i => ρ 92 (61 * f + i)) e)) ∧
  ρ 92 (61 * f) = 0 ∧ ∀ i, i < e → ∃ c l : Nat, c < 576 ∧ l ≤ 7 ∧ ρ 90 (61 * f + i) = nI c ∧ ρ 91 (61 * f + i) = nI l ∧ ρ (40 + 4 * f + 2) i = nI (8 * c + l) ∧ ρ (40 + 4 * f + 3) i = ρ 92 (61 * f + i) ∧ bl (ρ 92 (61 * f + i))
def InvF (a b : Int32) (ρ : Nat → Nat → Int32) : Prop := ∃ F : Nat, F ≤ 8 ∧ a = nI F ∧ b = nI F ∧ ∀ f, f < F → FlOk ρ f
/-- the chasers -/
def InvC (r28 r29 r30 m72 m73 m93 m94 m95 : Nat → Int32) : Prop := ∃ N : Nat, N ≤ 4 ∧ r28 3 = nI N ∧ m72 23 = nI N ∧ ∀ c, c < N → ∃ x y p : Nat, x < 24 ∧ y < 24 ∧ 1 ≤ p ∧ p ≤ 5 ∧ nI x < m72 0 ∧ nI y < m72 1 ∧ m93 c = nI x ∧ m94 c = nI y ∧ m95 c = nI p ∧ r29 c = nI (24 * y + x) ∧ r30 c = nI p ∧ ¬ m73 (24 * y + x) = 1
/-- the plan -/
def InvP (r15 r18 m72 m96 : Nat → Int32) : Prop := ∃ n : Nat, n ≤ 6 ∧ r15 5 = nI n ∧ m72 28 = nI n ∧ ∀ i, i < n → r18 i = m96 i
/-- a front: its counts are nought but at its places -/
def FrOk (r p c b : Nat → Int32) : Prop := ∃ n : Nat, n ≤ 4608 ∧ r 3 = nI n ∧ (∀ i, i < n → ∃ q : Nat, q < 4608 ∧ p i = nI q) ∧ ∀ q, q < 4608 → (∃ i, i < n ∧ p i = nI q) ∨ (c q = 0 ∧ b q = 0)
def InvW (d : Nat × Nat) (ρ : Nat → Nat → Int32) : Prop := (d = (20, 24) ∨ d = (24, 20)) ∧ FrOk (ρ 20) (ρ 21) (ρ 22) (ρ 23) ∧ FrOk (ρ 24) (ρ 25) (ρ 26) (ρ 27)
/-- the flights are in the land -/
def InvI (m72 m79 m80 : Nat → Int32) : Prop := ∀ w h f F : Nat, m72 0 = nI w → m72 1 = nI h → m72 8 = nI F → w ≤ 24 → h ≤ 24 → F ≤ 8 → f < F → ∃ x y : Nat, x < w ∧ y < h ∧ m79 f = nI x ∧ m80 f = nI y
theorem InvI_congr {m72 m79 m80 n72 n79 n80 : Nat → Int32} (h0 : n72 0 = m72 0) (h1 : n72 1 = m72 1) (h8 : n72 8 = m72 8) (h79 : ∀ f, f < 8 → n79 f = m79 f) (h80 : ∀ f, f < 8 → n80 f = m80 f) (h : InvI m72 m79 m80) : InvI n72 n79 n80 := by
  intro w hh f F a1 a2 a3 b1 b2 b3 b4
  obtain ⟨x, y, c1, c2, c3, c4⟩ := h w hh f F (h0 ▸ a1) (h1 ▸ a2) (h8 ▸ a3) b1 b2 b3 b4
  exact ⟨x, y, c1, c2, (h79 f (by omega)).trans c3, (h80 f (by omega)).trans c4⟩
def Inv (σ : St) : Prop := InvL (σ.1 1) (σ.1 2) (σ.1 72) (σ.1 73) ∧ InvA (σ.1 4) (σ.1 5) (σ.1 6) (σ.1 74) (σ.1 75) (σ.1 76) ∧ InvN (σ.1 8) (σ.1 9) (σ.1 11) (σ.1 12) (σ.1 77) (σ.1 78) ∧ InvF (σ.1 0 4) (σ.1 72 8) σ.1 ∧ InvC (σ.1 28) (σ.1 29) (σ.1 30) (σ.1 72) (σ.1 73) (σ.1 93) (σ.1 94) (σ.1 95) ∧ InvP (σ.1 15) (σ.1 18) (σ.1 72) (σ.1 96) ∧ InvW σ.2 σ.1 ∧ InvI (σ.1 72) (σ.1 79) (σ.1 80)
/-! rows of a store -/
theorem up1 (σ : St) (k j : Nat) (v : Int32) (a : Nat) : (up σ k j v).1 a = if a = k then upd (σ.1 k) j v else σ.1 a := by
  by_cases h : a = k
  · subst h
    rw [if_pos rfl, up_at]
  · rw [if_neg h, up_ne h]
theorem up2 (σ : St) (k j : Nat) (v : Int32) : (up σ k j v).2 = σ.2 := rfl
theorem aS_nI {σ : St} {k n j : Nat} {v : Int32} (h : j < n) (hn : n < 2 ^ 31) : aS σ k n (nI j) v = some (up σ k j v) := by
  unfold aS
  rw [nI_clamp (by omega), if_pos ⟨nI_pos' (by omega), h⟩]
theorem aL_nI {σ : St} {k n j : Nat} (h : j < n) (hn : n < 2 ^ 31) : aL σ k n (nI j) = some (σ.1 k j) := by
  unfold aL
  rw [nI_clamp (by omega), if_pos ⟨nI_pos' (by omega), h⟩]
theorem inB_nI {n j : Nat} (h : j < n) (hn : n < 2 ^ 31) : inB n (nI j) = some j := by
  unfold inB
  rw [nI_clamp (by omega), if_pos ⟨nI_pos' (by omega), h⟩]
theorem in_eq (p a b : Int32) : f_X10_in p a b = f_X9_within p a b := by
  unfold f_X10_in f_X9_within
  by_cases h : p < a
  · rw [if_pos h]
  · rw [if_neg h]
theorem wi_01 (p a b : Int32) : f_X9_within p a b = 0 ∨ (f_X9_within p a b = 1 ∧ ¬ p < a ∧ ¬ b < p) := by
  unfold f_X9_within
  by_cases h1 : p < a
  · exact Or.inl (if_pos h1)
  · by_cases h2 : b < p
    · exact Or.inl (by rw [if_neg h1, if_pos h2])
    · exact Or.inr ⟨by rw [if_neg h1, if_neg h2], h1, h2⟩
theorem wi_nI {p M : Int32} {n : Nat} (hM : M.toInt = n) (h : ¬ f_X9_within p 0 M = 0) : ∃ j : Nat, j ≤ n ∧ p = nI j := by
  rcases wi_01 p 0 M with h1 | ⟨-, h1, h2⟩
  · exact absurd h1 h
  · exact nI_of2 hM h1 (Int32.not_lt.mp h2)
theorem wi_ib {p a b : Int32} (h : ¬ f_X9_within p a b = 0) : ib p a.toInt b.toInt := by
  rcases wi_01 p a b with h1 | ⟨-, h1, h2⟩
  · exact absurd h1 h
  · exact ⟨Int32.le_iff_toInt_le.mp (Int32.not_lt.mp h1), Int32.le_iff_toInt_le.mp (Int32.not_lt.mp h2)⟩
theorem InvF_congr {a b : Int32} {ρ ρ' : Nat → Nat → Int32} (h : ∀ k, (40 ≤ k ∧ k < 72) ∨ (79 ≤ k ∧ k ≤ 92) → ρ' k = ρ k) (hF : InvF a b ρ) : InvF a b ρ' := by
  obtain ⟨F, h1, h2, h3, h4⟩ := hF
  refine ⟨F, h1, h2, h3, fun f hf => ?_⟩
  have g := h4 f hf
  unfold FlOk at g ⊢
  rw [h 79 (by omega), h 80 (by omega), h 81 (by omega), h 82 (by omega), h 83 (by omega), h 84 (by omega), h 85 (by omega), h 86 (by omega), h 87 (by omega), h 88 (by omega), h 89 (by omega), h 90 (by omega), h 91 (by omega), h 92 (by omega), h (40 + 4 * f) (by omega), h (40 + 4 * f + 1) (by omega), h (40 + 4 * f + 2) (by omega), h (40 + 4 * f + 3) (by omega)]
  exact g
theorem InvF_up {a b : Int32} {σ : St} {k j : Nat} {v : Int32} (hk : ¬ ((40 ≤ k ∧ k < 72) ∨ (79 ≤ k ∧ k ≤ 92))) (h : InvF a b σ.1) : InvF a b (up σ k j v).1 := InvF_congr (fun a ha => up_ne (fun e => hk (by rw [← e]; exact ha))) h
theorem upd_e (f : Nat → Int32) (j : Nat) (v : Int32) (i : Nat) : upd f j v i = if i = j then v else f i := by
  by_cases h : i = j
  · rw [if_pos h, h, pk_us]
  · rw [if_neg h, pk_un h]
/-- promise 4: level -/
theorem ms_level : MS_level Inv := by
  intro σ hI p1 p2 p3
  unfold f_X9_level f_X10_level
  simp only [in_eq]
  by_cases h1 : f_X9_within p1 0 7 = 0
  · exact ⟨-2, σ, σ, by rw [if_pos h1], by rw [if_pos h1], hI⟩
  by_cases h2 : f_X9_within p2 0 50 = 0
  · exact ⟨-2, σ, σ, by rw [if_neg h1, if_pos h2], by rw [if_neg h1, if_pos h2], hI⟩
  by_cases h3 : f_X9_within p3 0 500 = 0
  · exact ⟨-2, σ, σ, by rw [if_neg h1, if_neg h2, if_pos h3], by rw [if_neg h1, if_neg h2, if_pos h3], hI⟩
  simp only [if_neg h1, if_neg h2, if_neg h3]
  obtain ⟨j, hj, rfl⟩ := wi_nI (n := 7) (by decide) h1
  obtain ⟨d, hd, rfl⟩ := wi_nI (n := 50) (by decide) h2
  obtain ⟨f, hf, rfl⟩ := wi_nI (n := 500) (by decide) h3
  simp only [aS_nI (show j < 8 by omega) (by decide), Option.bind_some]
  refine ⟨1, _, _, rfl, rfl, ?_⟩
  obtain ⟨iL, iA, iN, iF, iC, iP, iW, iI⟩ := hI
  unfold Inv
  simp only [up1, up2, Nat.reduceEqDiff, if_true, if_false]
  refine ⟨iL, ⟨fun i hi => ?_, iA.2⟩, iN, InvF_up (by omega) (InvF_up (by omega) (InvF_up (by omega) (InvF_up (by omega) iF))), iC, iP, ?_, iI⟩
  · simp only [upd_e]
    by_cases hij : i = j
    · simp only [if_pos hij]
      exact ⟨trivial, trivial, ⟨d, hd, rfl⟩, f, hf, rfl⟩
    · simp only [if_neg hij]
      exact iA.1 i hi
  · unfold InvW at iW ⊢
    simp only [up1, Nat.reduceEqDiff, if_false]
    exact iW
/-- promise 5: warmth -/
theorem ms_warmth : MS_warmth Inv := by
  intro σ hI p1 p2
  unfold f_X9_warmth f_X10_warmth
  simp only [in_eq]
  by_cases h1 : f_X9_within p1 0 23 = 0
  · exact ⟨-1000, σ, σ, by rw [if_pos h1], by rw [if_pos h1], hI⟩
  by_cases h2 : f_X9_within p2 (-20) 20 = 0
  · exact ⟨-1000, σ, σ, by rw [if_neg h1, if_pos h2], by rw [if_neg h1, if_pos h2], hI⟩
  simp only [if_neg h1, if_neg h2]
  obtain ⟨j, hj, rfl⟩ := wi_nI (n := 23) (by decide) h1
  have hv := wi_ib h2
  obtain ⟨iL, iA, iN, iF, iC, iP, iW, iI⟩ := hI
  have e1 := (iA.2 j (by omega)).1
  simp only [aS_nI (show j < 24 by omega) (by decide), aL_nI (show j < 24 by omega) (by decide), Option.bind_some, up1, Nat.reduceEqDiff, if_false, e1]
  refine ⟨_, _, _, rfl, rfl, ?_⟩
  unfold Inv
  simp only [up1, up2, Nat.reduceEqDiff, if_true, if_false]
  refine ⟨iL, ⟨iA.1, fun i hi => ?_⟩, iN, InvF_up (by omega) (InvF_up (by omega) iF), iC, iP, ?_, iI⟩
  · simp only [upd_e]
    by_cases hij : i = j
    · simp only [if_pos hij]
      exact ⟨trivial, hv⟩
    · simp only [if_neg hij]
      exact iA.2 i hi
  · unfold InvW at iW ⊢
    simp only [up1, Nat.reduceEqDiff, if_false]
    exact iW
/-- promise 13: order -/
theorem ms_order : MS_order Inv := by
  intro σ hI p1
  have hI' := hI
  obtain ⟨iL, iA, iN, iF, iC, ⟨n, hn, e1, e2, h3⟩, iW, iI⟩ := hI
  unfold f_X9_order f_X10_order
  simp only [in_eq, e1, e2]
  by_cases h1 : f_X9_within p1 0 (nI n - 1) = 0
  · exact ⟨-1, by rw [if_pos h1], by rw [if_pos h1], hI'⟩
  simp only [if_neg h1]
  have h0 : 0 < n := by
    rcases Nat.eq_zero_or_pos n with h | h
    · subst h
      exact absurd (by
        rcases wi_01 p1 0 (nI 0 - 1) with g | ⟨-, g1, g2⟩
        · exact g
        · have q1 := Int32.le_iff_toInt_le.mp (Int32.not_lt.mp g1)
          have q2 := Int32.le_iff_toInt_le.mp (Int32.not_lt.mp g2)
          have q3 : (nI 0 - 1).toInt = -1 := by decide
          have q4 : (0 : Int32).toInt = 0 := by decide
          omega) h1
    · exact h
  obtain ⟨m, rfl⟩ : ∃ m, n = m + 1 := ⟨n - 1, by omega⟩
  rw [nI_pred] at h1
  obtain ⟨j, hj, rfl⟩ := wi_nI (n := m) (nI_toInt (by omega)) h1
  simp only [aL_nI (show j < 6 by omega) (by decide), Option.bind_some, h3 j (by omega)]
  exact ⟨_, rfl, rfl, hI'⟩
