theorem bT_e {α β : Type} (a : α) (f : α → β) : bT a f = f a := by
  obtain ⟨q, hq, h⟩ := bT_out (rfl : bT a f = bT a f)
  subst hq
  exact h.symm
/-- a row put in whole -/
def sr (σ : St) (k : Nat) (g : Nat → Int32) : St := (fun a => if a = k then g else σ.1 a, σ.2)
theorem sr1 (σ : St) (k : Nat) (g : Nat → Int32) (a : Nat) : (sr σ k g).1 a = if a = k then g else σ.1 a := by
  unfold sr
  by_cases h : a = k
  · rw [if_pos h]
    exact if_pos h
  · rw [if_neg h]
    exact if_neg h
theorem sr2 (σ : St) (k : Nat) (g : Nat → Int32) : (sr σ k g).2 = σ.2 := rfl
theorem up_sr (σ : St) (k j : Nat) (v : Int32) : up σ k j v = sr σ k (upd (σ.1 k) j v) := by
  refine Prod.ext ?_ rfl
  funext a
  exact up1 σ k j v a
theorem sr_sr (σ : St) (k : Nat) (g g' : Nat → Int32) : sr (sr σ k g) k g' = sr σ k g' := by
  refine Prod.ext ?_ rfl
  funext a
  simp only [sr1]
  by_cases h : a = k
  · simp only [if_pos h]
  · simp only [if_neg h]
theorem sr_id (σ : St) (k : Nat) (g : Nat → Int32) (h : g = σ.1 k) : sr σ k g = σ := by
  subst h
  refine Prod.ext ?_ rfl
  funext a
  simp only [sr1]
  by_cases h : a = k
  · rw [if_pos h, h]
  · rw [if_neg h]
theorem fill_l (k N : Nat) (hN : ln k = N) (hb : N < 2 ^ 30) (v : Int32) : ∀ (n i : Nat) (σ : St), i ≤ N → N - i < n → f_J7_fill_53178_5 k n σ v (nI i) (nI N) = some (sr σ k (fun j => if i ≤ j ∧ j < N then v else σ.1 k j)) := by
  intro n
  induction n with
  | zero => intro i σ h1 h2; omega
  | succ n ih =>
    intro i σ h1 h2
    unfold f_J7_fill_53178_5
    by_cases h : i = N
    · rw [if_pos (by rw [h]; exact Int32.le_refl _)]
      congr 1
      refine (sr_id σ k _ ?_).symm
      funext j
      rw [if_neg (by omega)]
    · rw [if_neg (nI_ge (by omega) (by omega)), hN, aS_nI (by omega) (by omega), Option.bind_some, nI_1, ih (i + 1) _ (by omega) (by omega), up_sr, sr_sr]
      congr 2
      funext j
      simp only [sr1, if_true, upd_e]
      by_cases h3 : j = i
      · subst h3
        simp [show j < N by omega]
      · rw [if_neg h3]
        by_cases h4 : i + 1 ≤ j ∧ j < N
        · rw [if_pos h4, if_pos (by omega)]
        · rw [if_neg h4, if_neg (by omega)]
theorem fill_k (k N : Nat) (hN : ln k = N) (hb : N < 9000) (v : Int32) (σ : St) : f_J7_fill_53178 σ k v = some (sr σ k (fun j => if j < N then v else σ.1 k j)) := by
  unfold f_J7_fill_53178
  rw [hN]
  have h := fill_l k N hN (by omega) v 10000 0 σ (by omega) (by omega)
  rw [nI_0] at h
  simpa using h
theorem lnd_l : ∀ (n i : Nat) (σ : St), i ≤ 576 → 576 - i < n → f_X10_land_35 n σ (nI i) = f_X10_land_55 (sr σ 73 (fun j => if i ≤ j ∧ j < 576 then 0 else σ.1 73 j)) := by
  intro n
  induction n with
  | zero => intro i σ h1 h2; omega
  | succ n ih =>
    intro i σ h1 h2
    unfold f_X10_land_35
    by_cases h : i = 576
    · rw [if_pos (by rw [h]; exact Int32.le_refl _)]
      congr 1
      refine (sr_id σ 73 _ ?_).symm
      funext j
      rw [if_neg (by omega)]
    · rw [if_neg (show ¬ (576 : Int32) ≤ nI i from nI_ge (a := i) (b := 576) (by omega) (by omega)), aS_nI (by omega) (by decide), Option.bind_some, nI_1, ih (i + 1) _ (by omega) (by omega), up_sr, sr_sr]
      congr 2
      funext j
      simp only [sr1, if_true, upd_e]
      by_cases h3 : j = i
      · subst h3
        simp [show j < 576 by omega]
      · rw [if_neg h3]
        by_cases h4 : i + 1 ≤ j ∧ j < 576
        · rw [if_pos h4, if_pos (by omega)]
        · rw [if_neg h4, if_neg (by omega)]
theorem wi_rng {p : Int32} {a b : Nat} (ha : a < 2 ^ 31) (hb : b < 2 ^ 31) (h : ¬ f_X9_within p (nI a) (nI b) = 0) : ∃ j : Nat, a ≤ j ∧ j ≤ b ∧ p = nI j := by
  rcases wi_01 p (nI a) (nI b) with h1 | ⟨-, h1, h2⟩
  · exact absurd h1 h
  · have q1 := Int32.le_iff_toInt_le.mp (Int32.not_lt.mp h1)
    have q2 := Int32.le_iff_toInt_le.mp (Int32.not_lt.mp h2)
    rw [nI_toInt ha] at q1
    rw [nI_toInt hb] at q2
    obtain ⟨j, hj, rfl⟩ := nI_of (x := p) (fun hlt => by
      have q3 := Int32.lt_iff_toInt_lt.mp hlt
      have q4 : (0 : Int32).toInt = 0 := by decide
      omega)
    rw [nI_toInt hj] at q1 q2
    exact ⟨j, by omega, by omega, rfl⟩
theorem InvF_sr {a b : Int32} {σ : St} {k : Nat} {g : Nat → Int32} (hk : ¬ ((40 ≤ k ∧ k < 72) ∨ (79 ≤ k ∧ k ≤ 92))) (h : InvF a b σ.1) : InvF a b (sr σ k g).1 := InvF_congr (fun a ha => by rw [sr1, if_neg (fun e => hk (by rw [← e]; exact ha))]) h
theorem InvW_congr {d : Nat × Nat} {ρ ρ' : Nat → Nat → Int32} (h : ∀ k, 20 ≤ k ∧ k ≤ 27 → ρ' k = ρ k) (hW : InvW d ρ) : InvW d ρ' := by
  unfold InvW at hW ⊢
  rw [h 20 (by omega), h 21 (by omega), h 22 (by omega), h 23 (by omega), h 24 (by omega), h 25 (by omega), h 26 (by omega), h 27 (by omega)]
  exact hW
/-- promise 2: land -/
theorem ms_land : MS_land Inv := by
  intro σ hI p1 p2
  unfold f_X9_land f_X10_land
  simp only [in_eq]
  by_cases h1 : f_X9_within p1 4 24 = 0
  · exact ⟨-2, σ, σ, by rw [if_pos h1], by rw [if_pos h1], hI⟩
  by_cases h2 : f_X9_within p2 4 24 = 0
  · exact ⟨-2, σ, σ, by rw [if_neg h1, if_pos h2], by rw [if_neg h1, if_pos h2], hI⟩
  simp only [if_neg h1, if_neg h2]
  obtain ⟨w, hw1, hw2, rfl⟩ := wi_rng (a := 4) (b := 24) (by omega) (by omega) h1
  obtain ⟨h, hh1, hh2, rfl⟩ := wi_rng (a := 4) (b := 24) (by omega) (by omega) h2
  unfold f_X5_clear
  simp only [bT_e, fill_k 2 576 rfl (by omega), Option.bind_some]
  have hl : ∀ τ : St, f_X10_land_35 10000 τ 0 = f_X10_land_55 (sr τ 73 (fun j => if 0 ≤ j ∧ j < 576 then 0 else τ.1 73 j)) := fun τ => by
    have := lnd_l 10000 0 τ (by omega) (by omega)
    rw [nI_0] at this
    exact this
  simp only [hl, f_X10_land_55, bT_e]
  refine ⟨1, _, _, rfl, rfl, ?_⟩
  obtain ⟨iL, iA, iN, iF, iC, ⟨n, hn, e1, e2, h3⟩, iW, iI⟩ := hI
  simp only [up_sr]
  unfold Inv
  simp only [sr1, sr2, Nat.reduceEqDiff, if_true, if_false]
  refine ⟨⟨w, h, hw1, hw2, hh1, hh2, rfl, rfl, rfl, rfl, fun i hi => ?_⟩, iA, iN, ⟨0, by omega, rfl, rfl, fun f hf => absurd hf (by omega)⟩, ⟨0, by omega, rfl, rfl, fun c hc => absurd hc (by omega)⟩, ⟨n, hn, e1, e2, h3⟩, InvW_congr (fun k hk => ?_) iW, ?_⟩
  · simp [hi]
    exact ⟨0, by omega, rfl⟩
  · simp only [sr1]
    repeat rw [if_neg (by omega)]
  · intro w' h' f F q1 q2 q3 q4 q5 q6 q7
    have : F = 0 := by
      refine ((nI_eq (a := 0) (b := F) (by omega) (by omega)).mp ?_).symm
      rw [← q3]
      rfl
    omega
