/-- a stretch of a row put at one value -/
def wr (g : Nat → Int32) (a b : Nat) (v : Int32) : Nat → Int32 := fun j => if a ≤ j ∧ j < b then v else g j
theorem wr_e (g : Nat → Int32) (a b : Nat) (v : Int32) (j : Nat) : wr g a b v j = if a ≤ j ∧ j < b then v else g j := by
  by_cases h : a ≤ j ∧ j < b
  · rw [if_pos h]
    exact if_pos h
  · rw [if_neg h]
    exact if_neg h
theorem wr_0 (g : Nat → Int32) (a : Nat) (v : Int32) : wr g a a v = g := by
  funext j
  rw [wr_e, if_neg (by omega)]
theorem wr_s (g : Nat → Int32) {a b : Nat} (v : Int32) (h : a < b) : wr (upd g a v) (a + 1) b v = wr g a b v := by
  funext j
  rw [wr_e, wr_e, upd_e]
  by_cases h1 : j = a
  · rw [if_pos h1, if_neg (by omega), if_pos (by omega)]
  · rw [if_neg h1]
    by_cases h2 : a ≤ j ∧ j < b
    · rw [if_pos h2, if_pos (by omega)]
    · rw [if_neg h2, if_neg (by omega)]
/-- two rows put in whole -/
def sr2r (σ : St) (k k' : Nat) (g g' : Nat → Int32) : St := sr (sr σ k g) k' g'
theorem sr2r_1 {σ : St} {k k' : Nat} {g g' : Nat → Int32} (a : Nat) : (sr2r σ k k' g g').1 a = if a = k' then g' else if a = k then g else σ.1 a := by
  unfold sr2r
  rw [sr1, sr1]
theorem sr2r_id {σ : St} {k k' : Nat} : sr2r σ k k' (σ.1 k) (σ.1 k') = σ := by
  refine Prod.ext ?_ rfl
  funext a
  rw [sr2r_1]
  by_cases h : a = k'
  · rw [if_pos h, h]
  · rw [if_neg h]
    by_cases h2 : a = k
    · rw [if_pos h2, h2]
    · rw [if_neg h2]
theorem sr2r_up {σ : St} {k k' i : Nat} {v v' : Int32} {g g' : Nat → Int32} (h : k ≠ k') : sr2r (up (up σ k i v) k' i v') k k' g g' = sr2r σ k k' g g' := by
  refine Prod.ext ?_ rfl
  funext a
  rw [sr2r_1, sr2r_1]
  by_cases h1 : a = k'
  · rw [if_pos h1, if_pos h1]
  · rw [if_neg h1, if_neg h1]
    by_cases h2 : a = k
    · rw [if_pos h2, if_pos h2]
    · rw [if_neg h2, if_neg h2, up_ne h1, up_ne h2]
theorem ixw (l a : Nat) : nI l * 24 + nI a = nI (24 * l + a) := by
  show nI l * nI 24 + nI a = _
  rw [pk_mul, nI_add, Nat.mul_comm]
theorem w9_l (q l b : Nat) (dx dy : Int32) (hl : l ≤ 7) (hb : b ≤ 23) : ∀ (n a : Nat) (σ : St), a ≤ b + 1 → b + 1 - a < n → f_X9_wind_85 n σ (nI l) (nI b) dx dy q (nI a) = some (1, sr2r σ (q + 1) (q + 2) (wr (σ.1 (q + 1)) (24 * l + a) (24 * l + b + 1) dx) (wr (σ.1 (q + 2)) (24 * l + a) (24 * l + b + 1) dy)) := by
  intro n
  induction n with
  | zero => intro a σ h1 h2; omega
  | succ n ih =>
    intro a σ h1 h2
    unfold f_X9_wind_85
    by_cases h : a = b + 1
    · rw [if_pos (by rw [h]; exact nI_lt (by omega) (by omega)), h, show 24 * l + (b + 1) = 24 * l + b + 1 by omega, wr_0, wr_0, sr2r_id]
    · have hp : f_X8_put σ q (nI l) (nI a) dx dy = some (up (up σ (q + 1) (24 * l + a) dx) (q + 2) (24 * l + a) dy) := by
        unfold f_X8_put
        rw [ixw, aS_nI (by omega) (by decide), Option.bind_some, aS_nI (by omega) (by decide), Option.bind_some]
      rw [if_neg (nI_nlt (by omega) (by omega)), hp, Option.bind_some, nI_1, ih (a + 1) _ (by omega) (by omega), sr2r_up (by omega)]
      rw [up_ne (show q + 1 ≠ q + 2 by omega), up_at, up_at, up_ne (show q + 2 ≠ q + 1 by omega), show 24 * l + (a + 1) = 24 * l + a + 1 by omega, wr_s _ _ (by omega), wr_s _ _ (by omega)]
theorem ixv (k l a : Nat) : f_X10_windAt (nI k) (nI l) (nI a) = nI (192 * k + 24 * l + a) := by
  show nI 192 * nI k + nI 24 * nI l + nI a = _
  rw [pk_mul, pk_mul, nI_add, nI_add]
theorem w10_l (x1 : Int32) (k l b : Nat) (dx dy : Int32) (hk : k ≤ 1) (hl : l ≤ 7) (hb : b ≤ 23) (h0 : x1 = 0 ∧ k = 1 ∨ ¬ x1 = 0 ∧ k = 0) : ∀ (n a : Nat) (σ : St), a ≤ b + 1 → b + 1 - a < n → f_X10_wind_59 n σ x1 (nI l) (nI b) dx dy (nI a) = some (1, sr2r σ 77 78 (wr (σ.1 77) (192 * k + 24 * l + a) (192 * k + 24 * l + b + 1) dx) (wr (σ.1 78) (192 * k + 24 * l + a) (192 * k + 24 * l + b + 1) dy)) := by
  intro n
  induction n with
  | zero => intro a σ h1 h2; omega
  | succ n ih =>
    intro a σ h1 h2
    unfold f_X10_wind_59
    by_cases h : a = b + 1
    · rw [if_pos (by rw [h]; exact nI_lt (by omega) (by omega)), h, show 192 * k + 24 * l + (b + 1) = 192 * k + 24 * l + b + 1 by omega, wr_0, wr_0, sr2r_id]
    · have e2 : ∀ (τ : St), aS τ 77 384 (nI (192 * k + 24 * l + a)) dx = some (up τ 77 (192 * k + 24 * l + a) dx) := fun τ => aS_nI (by omega) (by decide)
      have e3 : ∀ (τ : St), aS τ 78 384 (nI (192 * k + 24 * l + a)) dy = some (up τ 78 (192 * k + 24 * l + a) dy) := fun τ => aS_nI (by omega) (by decide)
      rw [if_neg (nI_nlt (by omega) (by omega))]
      have key : f_X10_wind_59 n (up (up σ 77 (192 * k + 24 * l + a) dx) 78 (192 * k + 24 * l + a) dy) x1 (nI l) (nI b) dx dy (nI (a + 1)) = some (1, sr2r σ 77 78 (wr (σ.1 77) (192 * k + 24 * l + a) (192 * k + 24 * l + b + 1) dx) (wr (σ.1 78) (192 * k + 24 * l + a) (192 * k + 24 * l + b + 1) dy)) := by
        rw [ih (a + 1) _ (by omega) (by omega), sr2r_up (by omega), up_ne (show 77 ≠ 78 by omega), up_at, up_at, up_ne (show 78 ≠ 77 by omega), show 192 * k + 24 * l + (a + 1) = 192 * k + 24 * l + a + 1 by omega, wr_s _ _ (by omega), wr_s _ _ (by omega)]
      rcases h0 with ⟨h0, hk1⟩ | ⟨h0, hk1⟩
      · subst hk1
        rw [if_pos h0]
        unfold f_X10_wind_79 f_X10_wind_101
        rw [show (1 : Int32) = nI 1 from rfl, ixv, e2, Option.bind_some, if_pos h0, e3, Option.bind_some, show nI a + nI 1 = nI (a + 1) from nI_add a 1]
        exact key
      · subst hk1
        rw [if_neg h0]
        unfold f_X10_wind_79 f_X10_wind_101
        rw [show (0 : Int32) = nI 0 from rfl, ixv, e2, Option.bind_some]
        rw [if_neg (show ¬ x1 = nI 0 from h0), e3, Option.bind_some, show nI a + 1 = nI (a + 1) from nI_1 a]
        exact key
