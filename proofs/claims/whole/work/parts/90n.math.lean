theorem sq_sym (x y : Int32) : (x - y) * (x - y) = (y - x) * (y - x) := by
  have h : x - y = -(y - x) := Int32.neg_sub.symm
  rw [h, Int32.neg_mul, Int32.mul_neg, Int32.neg_neg]
theorem sq_nI {a b : Nat} (ha : a < 24) (hb : b < 24) : ∃ d : Nat, d ≤ 529 ∧ (nI a - nI b) * (nI a - nI b) = nI d := by
  rcases Nat.le_total b a with h | h
  · rw [pk_sub h, pk_mul]
    exact ⟨(a - b) * (a - b), Nat.mul_le_mul (show a - b ≤ 23 by omega) (show a - b ≤ 23 by omega), rfl⟩
  · rw [sq_sym, pk_sub h, pk_mul]
    exact ⟨(b - a) * (b - a), Nat.mul_le_mul (show b - a ≤ 23 by omega) (show b - a ≤ 23 by omega), rfl⟩
theorem xOf_n {c : Nat} (hc : c < 576) : f_X9_xOf (nI c) = nI (c % 24) := pk_rem (d := 24) (by omega) (by omega) (by omega)
theorem yOf_n {c : Nat} (hc : c < 576) : f_X9_yOf (nI c) = nI (c / 24) := pk_div (d := 24) (by omega) (by omega) (by omega)
theorem rt_9 (k0 : Nat) (σ : St) {S : Nat} (hS : S < 2 ^ 31) : ∀ (k n r : Nat), k + 1 < n → r * r ≤ S → S < (r + 2 ^ (k + 1)) * (r + 2 ^ (k + 1)) → r + 2 ^ (k + 1) ≤ 4096 → ∃ R : Nat, R ≤ 4095 ∧ R * R ≤ S ∧ S < (R + 1) * (R + 1) ∧ f_X3_flown_25 k0 n σ (nI S) (nI r) (nI (2 ^ k)) = some (nI R) := by
  intro k
  induction k with
  | zero =>
    intro n r h1 h2 h3 h4
    obtain ⟨n', rfl⟩ : ∃ n', n = n' + 1 + 1 := ⟨n - 2, by omega⟩
    unfold f_X3_flown_25
    have hd : nI (2 ^ 0) / 2 = 0 := by decide
    rw [if_neg (by decide), nI_add, pk_mul, hd]
    simp only [Nat.pow_zero]
    have hle : (r + 1) * (r + 1) ≤ 4096 * 4096 := Nat.mul_le_mul (by omega) (by omega)
    by_cases hc : S < (r + 1) * (r + 1)
    · rw [if_pos (nI_lt hc (by omega))]
      unfold f_X3_flown_25
      rw [if_pos (by decide)]
      exact ⟨r, by omega, h2, hc, rfl⟩
    · rw [if_neg (nI_nlt (by omega) (by omega))]
      unfold f_X3_flown_25
      rw [if_pos (by decide)]
      exact ⟨r + 1, by omega, by omega, h3, rfl⟩
  | succ k ih =>
    intro n r h1 h2 h3 h4
    obtain ⟨n', rfl⟩ : ∃ n', n = n' + 1 := ⟨n - 1, by omega⟩
    unfold f_X3_flown_25
    have hp : (2 : Nat) ^ (k + 1 + 1) = 2 * 2 ^ (k + 1) := by rw [Nat.pow_succ, Nat.mul_comm]
    have hp2 : (2 : Nat) ^ (k + 1) = 2 * 2 ^ k := by rw [Nat.pow_succ, Nat.mul_comm]
    have h0 : 0 < (2 : Nat) ^ (k + 1) := Nat.pow_pos (by omega)
    have hd : nI (2 ^ (k + 1)) / 2 = nI (2 ^ k) := by
      have := pk_div (a := 2 ^ (k + 1)) (d := 2) (by omega) (by omega) (by omega)
      rw [show (2 : Nat) ^ (k + 1) / 2 = 2 ^ k by omega] at this
      exact this
    have hle : (r + 2 ^ (k + 1)) * (r + 2 ^ (k + 1)) ≤ 4096 * 4096 := Nat.mul_le_mul (by omega) (by omega)
    rw [if_neg (nI_nle h0 (by omega)), nI_add, pk_mul, hd]
    by_cases hc : S < (r + 2 ^ (k + 1)) * (r + 2 ^ (k + 1))
    · rw [if_pos (nI_lt hc (by omega))]
      exact ih n' r (by omega) h2 hc (by omega)
    · rw [if_neg (nI_nlt (by omega) (by omega))]
      exact ih n' (r + 2 ^ (k + 1)) (by omega) (by omega) (by rw [show r + 2 ^ (k + 1) + 2 ^ (k + 1) = r + 2 ^ (k + 1 + 1) by omega]; exact h3) (by omega)
theorem rt_10 (σ : St) {S R : Nat} (hS : S < 2 ^ 31) (hR : R ≤ 4095) (h1 : R * R ≤ S) (h2 : S < (R + 1) * (R + 1)) : ∀ (n r : Nat), r ≤ R → R - r < n → f_X10_distanceOf_14 n σ (nI S) (nI r) = some (nI R) := by
  intro n
  induction n with
  | zero => intro r h3 h4; omega
  | succ n ih =>
    intro r h3 h4
    unfold f_X10_distanceOf_14
    rw [nI_1, pk_mul]
    have hle : (r + 1) * (r + 1) ≤ 4096 * 4096 := Nat.mul_le_mul (by omega) (by omega)
    by_cases h : r = R
    · subst h
      rw [if_pos (nI_lt h2 (by omega))]
    · have hq : (r + 1) * (r + 1) ≤ R * R := Nat.mul_le_mul (by omega) (by omega)
      rw [if_neg (nI_nlt (by omega) (by omega))]
      exact ih (r + 1) (by omega) (by omega)
/-- what a flight has flown: class and reference alike -/
theorem flown_s {σ : St} {f : Nat} (hf : f < 8) (h : FlOk σ.1 f) : ∃ R : Nat, R ≤ 4095 ∧ f_X3_flown σ (40 + 4 * f) = some (nI R) ∧ f_X10_distanceFlown σ (nI f) = some (nI R) := by
  obtain ⟨x, y, lv, t, ld, g, bs, e, b, hx, hy, hlv, hb, he1, he, ht, hld1, hld, hg, hbs, ⟨m1, m2, m3, m4, m5, m6, m7, m8, m9, m10, m11⟩, ⟨c1, c2, c3, c4, c5, c6, c7, c8⟩, ⟨d1, d2, d3, d4⟩, hz, hlog⟩ := h
  obtain ⟨c, l, hc, hl, q1, q2, q3, q4, q5⟩ := hlog 0 (by omega)
  rw [Nat.add_zero] at q1
  obtain ⟨u, hu, eu⟩ := sq_nI (a := c % 24) (b := x) (by omega) hx
  obtain ⟨v, hv, ev⟩ := sq_nI (a := c / 24) (b := y) (by omega) hy
  have hS : 10000 * (u + v) < 2 ^ 31 := by omega
  obtain ⟨R, r0, r1, r2, r3⟩ := rt_9 (40 + 4 * f) σ (S := 10000 * (u + v)) hS 11 10000 0 (by omega) (by omega) (by
    show 10000 * (u + v) < (0 + 2 ^ 12) * (0 + 2 ^ 12)
    omega) (by decide)
  have e10 : (10000 : Int32) * nI (u + v) = nI (10000 * (u + v)) := pk_mul 10000 (u + v)
  refine ⟨R, r0, ?_, ?_⟩
  · unfold f_X3_flown f_X9_squareBetween
    rw [d2, q1, c1, xOf_n hc, yOf_n hc, xOf_c hx hy, yOf_c hx hy, eu, ev, nI_add, e10]
    exact r3
  · have hr := rt_10 σ hS r0 r1 r2 10000 0 (by omega) (by omega)
    have e61 : (61 : Int32) * nI f = nI (61 * f) := pk_mul 61 f
    have x24 : nI c - nI c / 24 * 24 = nI (c % 24) := xOf_n hc
    have y24 : nI c / 24 = nI (c / 24) := yOf_n hc
    unfold f_X10_distanceFlown f_X10_distanceOf
    rw [e61]
    simp only [aL_nI hf (show 8 < 2 ^ 31 by decide), aL_nI (show 61 * f < 488 by omega) (show 488 < 2 ^ 31 by decide), Option.bind_some, m1, m2, q1]
    rw [x24, y24, sq_sym (nI x), sq_sym (nI y), eu, ev, nI_add, e10]
    rw [nI_0] at hr
    rw [hr, Option.bind_some]
/-- promise 10: distance -/
theorem ms_distance : MS_distance Inv := by
  intro σ hI p1
  have hI' := hI
  obtain ⟨iL, iA, iN, ⟨F, hF, e1, e2, h3⟩, iC, iP, iW, iI⟩ := hI
  unfold f_X9_distance f_X10_distance f_X9_isFlight f_X10_isFlight
  simp only [in_eq, e1, e2]
  by_cases h1 : f_X9_within p1 0 (nI F - 1) = 0
  · exact ⟨-2, by rw [if_pos h1], by rw [if_pos h1], hI'⟩
  obtain ⟨f, hf, rfl⟩ := wi_cnt (by omega) h1
  obtain ⟨R, r0, r1, r2⟩ := flown_s (by omega) (h3 f hf)
  refine ⟨nI R, ?_, ?_, hI'⟩
  · rw [if_neg h1, inB_nI (by omega) (by decide), Option.bind_some, r1, Option.bind_some]
  · rw [if_neg h1, r2, Option.bind_some]
