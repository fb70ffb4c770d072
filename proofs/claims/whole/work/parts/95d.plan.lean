/-! the class's search -/
theorem copy_s {σ : St} {k0 k1 : Nat} (hne : ¬ k1 = k0) (hb : bl (σ.1 k1 7)) : ∃ s : St, f_X1_copyOf σ k0 k1 = some s ∧ (∀ a, ¬ a = k0 → s.1 a = σ.1 a) ∧ s.2 = σ.2 ∧ ∀ j, j < 8 → s.1 k0 j = σ.1 k1 j := by
  unfold f_X1_copyOf
  simp only [bT_e, up_ne hne]
  unfold pZ
  rw [if_pos (show σ.1 k1 7 = 0 ∨ σ.1 k1 7 = 1 from hb), Option.bind_some]
  refine ⟨_, rfl, fun a ha => ?_, rfl, fun j hj => ?_⟩
  · rw [up_ne ha, up_ne ha, up_ne ha, up_ne ha, up_ne ha, up_ne ha, up_ne ha, up_ne ha]
  · simp only [up_at, upd_e]
    have : j = 0 ∨ j = 1 ∨ j = 2 ∨ j = 3 ∨ j = 4 ∨ j = 5 ∨ j = 6 ∨ j = 7 := by omega
    rcases this with rfl | rfl | rfl | rfl | rfl | rfl | rfl | rfl <;> simp only [Nat.reduceEqDiff, if_true, if_false]
def PlS (σ σ0 : St) (n d aim : Nat) (nr : Bool) (s : Int32 × Nat) : Prop := (∀ r, ¬ r = 15 → ¬ r = 17 → ¬ r = 18 → ¬ (33 ≤ r ∧ r ≤ 39) → σ.1 r = σ0.1 r) ∧ σ.2 = σ0.2 ∧ (σ.1 15 6 = nI n ∧ σ.1 15 7 = nI d ∧ σ.1 15 8 = nI aim ∧ σ.1 15 9 = (if nr = true then 1 else 0) ∧ σ.1 15 10 = s.1) ∧ (s.1 = -1 → σ.1 15 5 = σ0.1 15 5 ∧ σ.1 18 = σ0.1 18) ∧ (¬ s.1 = -1 → σ.1 15 5 = nI n ∧ ∀ j, j < n → σ.1 18 j = nI (s.2 / 3 ^ (n - 1 - j) % 3))
def Pre (σ : St) (p pc : Nat) : Prop := ∀ j, j < p → σ.1 17 j = nI (pc / 3 ^ (p - 1 - j) % 3)
theorem PlS_fr {σ τ σ0 : St} {n d aim : Nat} {nr : Bool} {s : Int32 × Nat} (h : ∀ r, ¬ r = 17 → ¬ (33 ≤ r ∧ r ≤ 39) → τ.1 r = σ.1 r) (h2 : τ.2 = σ.2) (P : PlS σ σ0 n d aim nr s) : PlS τ σ0 n d aim nr s := by
  obtain ⟨p1, p2, p3, p4, p5⟩ := P
  unfold PlS
  rw [h 15 (by omega) (by omega), h 18 (by omega) (by omega), h2]
  exact ⟨fun r a b c e => by rw [h r b e, p1 r a b c e], p2, p3, p4, p5⟩
theorem dgA {pc m p j : Nat} (hj : j < p) : pc * 3 ^ m / 3 ^ (p + m - 1 - j) % 3 = pc / 3 ^ (p - 1 - j) % 3 := by
  rw [show p + m - 1 - j = m + (p - 1 - j) by omega, Nat.pow_add, Nat.mul_comm pc, Nat.mul_div_mul_left _ _ (p3_pos m)]
theorem dgB {pc m p j : Nat} (hj : p ≤ j) (hj2 : j < p + m) : pc * 3 ^ m / 3 ^ (p + m - 1 - j) % 3 = 0 := by
  obtain ⟨b, hb⟩ : ∃ b, m = (p + m - 1 - j) + (b + 1) := ⟨j - p, by omega⟩
  generalize p + m - 1 - j = a at hb ⊢
  rw [hb, Nat.pow_add, Nat.mul_left_comm, Nat.mul_div_cancel_left _ (p3_pos a), Nat.pow_succ, ← Nat.mul_assoc, Nat.mul_mod_left]
theorem w83_l {n p : Nat} (hn : n ≤ 6) (hp : p ≤ 6) : ∀ (m fuel j : Nat) (σ : St), m < fuel → j + m = n → σ.1 15 6 = nI n → ∃ σ' : St, f_X6_weigh_83 fuel σ (nI p) (nI j) = some σ' ∧ (∀ r, ¬ r = 18 → σ'.1 r = σ.1 r) ∧ σ'.2 = σ.2 ∧ (∀ i, j ≤ i → i < n → σ'.1 18 i = if p ≤ i then 0 else σ.1 17 i) ∧ ∀ i, i < j → σ'.1 18 i = σ.1 18 i := by
  intro m
  induction m with
  | zero =>
    intro fuel j σ hf hj h6
    obtain ⟨fuel, rfl⟩ : ∃ k, fuel = k + 1 := ⟨fuel - 1, by omega⟩
    rw [f_X6_weigh_83, h6, show j = n by omega, if_pos (Int32.le_refl _)]
    exact ⟨σ, rfl, fun _ _ => rfl, rfl, fun i h1 h2 => absurd h1 (by omega), fun _ _ => rfl⟩
  | succ m ih =>
    intro fuel j σ hf hj h6
    obtain ⟨fuel, rfl⟩ : ∃ k, fuel = k + 1 := ⟨fuel - 1, by omega⟩
    rw [f_X6_weigh_83, h6, if_neg (nI_ge (by omega) (by omega)), nI_1]
    have fin : ∀ v : Int32, v = (if p ≤ j then 0 else σ.1 17 j) → ∃ σ' : St, f_X6_weigh_83 fuel (up σ 18 j v) (nI p) (nI (j + 1)) = some σ' ∧ (∀ r, ¬ r = 18 → σ'.1 r = σ.1 r) ∧ σ'.2 = σ.2 ∧ (∀ i, j ≤ i → i < n → σ'.1 18 i = if p ≤ i then 0 else σ.1 17 i) ∧ ∀ i, i < j → σ'.1 18 i = σ.1 18 i := by
      intro v hv
      obtain ⟨σ', i1, i2, i3, i4, i5⟩ := ih fuel (j + 1) (up σ 18 j v) (by omega) (by omega) (by rw [up_ne (by decide)]; exact h6)
      refine ⟨σ', i1, fun r hr => by rw [i2 r hr, up_ne hr], i3, fun i h1 h2 => ?_, fun i h1 => ?_⟩
      · by_cases hij : i = j
        · rw [i5 i (by omega), up_at, upd_e, if_pos hij, hv, hij]
        · rw [i4 i (by omega) h2, up_ne (by decide)]
      · rw [i5 i (by omega), up_at, upd_e, if_neg (by omega)]
    by_cases hpj : p ≤ j
    · rw [if_pos (nI_le hpj (by omega)), aS_nI (by omega) (by decide), Option.bind_some]
      exact fin 0 (by rw [if_pos hpj])
    · rw [if_neg (nI_ge (by omega) (by omega)), aL_nI (by omega) (by decide), Option.bind_some, aS_nI (by omega) (by decide), Option.bind_some]
      exact fin _ (by rw [if_neg hpj])
/-- a plan is weighed -/
theorem weigh_s {σ σ0 : St} {n d aim p m pc c : Nat} {nr : Bool} {s : Int32 × Nat} (hn : n ≤ 6) (hpm : p + m = n) (hc : c < 576) (ha : aim < 576) (hcell : σ.1 (33 + p) 0 = nI c) (P : PlS σ σ0 n d aim nr s) (R : Pre σ p pc) : ∃ σ' : St, f_X6_weigh σ (nI p) = some σ' ∧ PlS σ' σ0 n d aim nr (tak nr (sqv c aim) (pc * 3 ^ m) s) ∧ ∀ r, ¬ r = 15 → ¬ r = 18 → σ'.1 r = σ.1 r := by
  obtain ⟨q, hq, eq⟩ := sqv_n hc ha
  have hv : ¬ sqv c aim = -1 := by rw [eq]; exact nI_m1 (by omega)
  have P' := P
  obtain ⟨p1, p2, ⟨k6, k7, k8, k9, k10⟩, p4, p5⟩ := P
  have take : ∃ σ' : St, f_X6_weigh_67 σ (nI p) (sqv c aim) = some σ' ∧ PlS σ' σ0 n d aim nr (sqv c aim, pc * 3 ^ m) ∧ ∀ r, ¬ r = 15 → ¬ r = 18 → σ'.1 r = σ.1 r := by
    unfold f_X6_weigh_67
    rw [bT_e, bT_e, show (up σ 15 10 (sqv c aim)).1 15 6 = nI n by rw [up_at, upd_e, if_neg (by decide)]; exact k6]
    obtain ⟨σ', i1, i2, i3, i4, -⟩ := w83_l (n := n) (p := p) hn (by omega) n 10000 0 (up (up σ 15 10 (sqv c aim)) 15 5 (nI n)) (by omega) (by omega) (by simp only [up_at, upd_e, Nat.reduceEqDiff, if_false]; exact k6)
    have f15 : σ'.1 15 = upd (upd (σ.1 15) 10 (sqv c aim)) 5 (nI n) := by rw [i2 15 (by decide), up_at, up_at]
    refine ⟨σ', i1, ⟨fun r a b e g => by rw [i2 r e, up_ne a, up_ne a, p1 r a b e g], by rw [i3]; exact p2, ?_, fun h => absurd h hv, fun _ => ⟨by rw [f15, upd_e, if_pos rfl], fun j hj => ?_⟩⟩, fun r a b => by rw [i2 r b, up_ne a, up_ne a]⟩
    · rw [f15]
      simp only [upd_e, Nat.reduceEqDiff, if_true, if_false]
      exact ⟨k6, k7, k8, k9, trivial⟩
    · dsimp only
      rw [i4 j (by omega) hj, up_ne (by decide), up_ne (by decide), ← hpm]
      by_cases hpj : p ≤ j
      · rw [if_pos hpj, dgB hpj (by omega)]
        rfl
      · rw [if_neg hpj, dgA (by omega)]
        exact R j (by omega)
  have keep : ∃ σ' : St, some σ = some σ' ∧ PlS σ' σ0 n d aim nr s ∧ ∀ r, ¬ r = 15 → ¬ r = 18 → σ'.1 r = σ.1 r := ⟨σ, rfl, P', fun _ _ _ => rfl⟩
  unfold f_X6_weigh
  rw [inB_nI (by omega) (by decide), Option.bind_some, hcell, k8, k9, k10, show f_X9_squareBetween (nI c) (nI aim) = sqv c aim from rfl]
  unfold f_X6_weigh_53 tak
  rw [k10, if_neg hv]
  by_cases h1 : s.1 = -1
  · rw [if_pos h1, if_pos h1, if_pos h1, ite_self, ite_self, ite_self]
    exact take
  · rw [if_neg h1, if_neg h1, if_neg h1, if_pos rfl, if_neg (show ¬ (1 : Int32) = 0 by decide)]
    cases nr with
    | true =>
      rw [if_pos rfl, if_pos rfl, if_neg (show ¬ (1 : Int32) = 0 by decide)]
      by_cases h2 : s.1 ≤ sqv c aim
      · rw [if_pos h2, if_pos h2]
        exact keep
      · rw [if_neg h2, if_neg h2]
        exact take
    | false =>
      rw [if_neg (show ¬ false = true by decide), if_neg (show ¬ false = true by decide), if_pos rfl]
      by_cases h2 : sqv c aim ≤ s.1
      · rw [if_pos h2, if_pos h2]
        exact keep
      · rw [if_neg h2, if_neg h2]
        exact take
theorem Pre_s {σ τ : St} {p pc o : Nat} (ho : o < 3) (R : Pre σ p pc) (h : ∀ j, j < p → τ.1 17 j = σ.1 17 j) (hp : τ.1 17 p = nI o) : Pre τ (p + 1) (3 * pc + o) := by
  intro j hj
  by_cases hjp : j = p
  · rw [hjp, hp, show p + 1 - 1 - p = 0 by omega, Nat.pow_zero, Nat.div_one]
    congr 1
    omega
  · rw [h j (by omega), R j (by omega), show p + 1 - 1 - j = (p - 1 - j) + 1 by omega, Nat.pow_succ, Nat.mul_comm _ 3, ← Nat.div_div_eq_div_mul, show (3 * pc + o) / 3 = pc by omega]
