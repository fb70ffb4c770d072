theorem dg_e {σ : St} (hI : Inv σ) (kn : St → Int32 → Int64 → Int32 → Option Int64) (k33 : St → Int64 → Int32 → Option Int64) (k75 : St → Int64 → Int32 → Int32 → Option Int64) (f i : Int32) : ∀ (n w : Nat) (x : Int64), w ≤ 3 → 3 - w < n → ∃ y : Int64, f_X9_digestFlight_56 kn n σ f x i (nI w) = kn σ f y (i + 1) ∧ f_X10_digest_89 k33 k75 n σ x f i (nI w) = k75 σ y f (i + 1) := by
  intro n
  induction n with
  | zero => intro w x h1 h2; omega
  | succ n ih =>
    intro w x h1 h2
    unfold f_X9_digestFlight_56 f_X10_digest_89
    by_cases h : w = 3
    · rw [if_pos (by rw [h]; decide), if_pos (by rw [h]; decide)]
      exact ⟨x, rfl, rfl⟩
    · have g1 : ¬ (2 : Int32) < nI w := nI_nlt (a := 2) (b := w) (by omega) (by omega)
      have g2 : ¬ (3 : Int32) ≤ nI w := nI_ge (a := w) (b := 3) (by omega) (by omega)
      obtain ⟨r, q1, q2, -⟩ := ms_entry σ hI f i (nI w)
      rw [if_neg g1, if_neg g2, q1, q2, Option.bind_some, Option.bind_some, nI_1]
      exact ih (w + 1) _ (by omega) (by omega)
theorem dg_l {σ : St} (hI : Inv σ) (k33 : St → Int64 → Int32 → Option Int64) {f e : Nat} (hf : f < 8) (he : e ≤ 60) (d1 : σ.1 (40 + 4 * f) 3 = nI e) (m9 : σ.1 89 f = nI e) : ∀ (n i : Nat) (x : Int64), i ≤ e → e - i < n → ∃ y : Int64, f_X9_digestFlight_39 n σ (nI f) x (nI i) = some y ∧ f_X10_digest_75 k33 n σ x (nI f) (nI i) = k33 σ y (nI (f + 1)) := by
  intro n
  induction n with
  | zero => intro w x h1 h2; omega
  | succ n ih =>
    intro i x h1 h2
    unfold f_X9_digestFlight_39 f_X10_digest_75
    rw [inB_nI hf (by decide), Option.bind_some, aL_nI hf (by decide), Option.bind_some, d1, m9]
    by_cases h : i = e
    · rw [if_pos (by rw [h]; exact Int32.le_refl _), if_pos (by rw [h]; exact Int32.le_refl _), nI_1]
      exact ⟨x, rfl, rfl⟩
    · rw [if_neg (nI_ge (by omega) (by omega)), if_neg (nI_ge (by omega) (by omega))]
      obtain ⟨y, q1, q2⟩ := dg_e hI (fun σ x3 x4 x6 => f_X9_digestFlight_39 n σ x3 x4 x6) k33 (fun σ x1 x3 x4 => f_X10_digest_75 k33 n σ x1 x3 x4) (nI f) (nI i) 10000 0 x (by omega) (by omega)
      rw [nI_0] at q1 q2
      rw [q1, q2, nI_1]
      exact ih (i + 1) y (by omega) (by omega)
theorem dg_a {σ : St} (hI : Inv σ) (k33 : St → Int64 → Int32 → Option Int64) {f e : Nat} (hf : f < 8) (he : e ≤ 60) (d1 : σ.1 (40 + 4 * f) 3 = nI e) (m9 : σ.1 89 f = nI e) : ∀ (n w : Nat) (x : Int64), w ≤ 10 → 10 - w < n → ∃ y : Int64, f_X9_digestFlight_6 n σ (nI f) x (nI w) = some y ∧ f_X10_digest_44 k33 n σ x (nI f) (nI w) = k33 σ y (nI (f + 1)) := by
  intro n
  induction n with
  | zero => intro w x h1 h2; omega
  | succ n ih =>
    intro w x h1 h2
    unfold f_X9_digestFlight_6 f_X10_digest_44
    by_cases h : w = 10
    · rw [if_pos (by rw [h]; decide), if_pos (by rw [h]; decide)]
      obtain ⟨y, q1, q2⟩ := dg_l hI k33 hf he d1 m9 10000 0 x (by omega) (by omega)
      rw [nI_0] at q1 q2
      exact ⟨y, q1, q2⟩
    · have g1 : ¬ (9 : Int32) < nI w := nI_nlt (a := 9) (b := w) (by omega) (by omega)
      have g2 : ¬ (10 : Int32) ≤ nI w := nI_ge (a := w) (b := 10) (by omega) (by omega)
      obtain ⟨r, q1, q2, -⟩ := ms_about σ hI (nI f) (nI w)
      rw [if_neg g1, if_neg g2, q1, q2, Option.bind_some, Option.bind_some, nI_1]
      exact ih (w + 1) _ (by omega) (by omega)
theorem dg_c {σ : St} (hI : Inv σ) : ∀ {N : Nat}, N ≤ 4 → σ.1 28 3 = nI N → σ.1 72 23 = nI N → ∀ (n i : Nat) (x : Int64), i ≤ N → N - i < n → ∃ y : Int64, f_X9_digest_56 n σ x (nI i) = some y ∧ f_X10_digest_132 n σ x (nI i) = some y := by
  intro N hN e1 e2 n
  induction n with
  | zero => intro i x h1 h2; omega
  | succ n ih =>
    intro i x h1 h2
    unfold f_X9_digest_56 f_X10_digest_132
    rw [e1, e2]
    by_cases h : i = N
    · rw [if_pos (by rw [h]; exact Int32.le_refl _), if_pos (by rw [h]; exact Int32.le_refl _)]
      exact ⟨x, rfl, rfl⟩
    · obtain ⟨N', hN', c1, c2, c3⟩ := hI.2.2.2.2.1
      have hNN : N' = N := (nI_eq (by omega) (by omega)).mp (c1.symm.trans e1)
      subst hNN
      obtain ⟨x', y', p, g1, g2, g3, g4, g5, g6, g7, g8, g9, g10, g11, g12⟩ := c3 i (by omega)
      rw [if_neg (nI_ge (by omega) (by omega)), if_neg (nI_ge (by omega) (by omega)), aL_nI (by omega) (by decide), aL_nI (by omega) (by decide), aL_nI (by omega) (by decide)]
      simp only [Option.bind_some, g7, g8, g10, xOf_c g1 g2, yOf_c g1 g2, nI_1]
      exact ih (i + 1) _ (by omega) (by omega)
theorem dg_f {σ : St} (hI : Inv σ) : ∀ {F : Nat}, F ≤ 8 → σ.1 0 4 = nI F → σ.1 72 8 = nI F → (∀ f, f < F → FlOk σ.1 f) → ∀ (n i : Nat) (x : Int64), i ≤ F → F - i < n → ∃ y : Int64, f_X9_digest_33 n σ x (nI i) = some y ∧ f_X10_digest_33 n σ x (nI i) = some y := by
  intro F hF e1 e2 h3 n
  induction n with
  | zero => intro i x h1 h2; omega
  | succ n ih =>
    intro i x h1 h2
    unfold f_X9_digest_33 f_X10_digest_33
    rw [e1, e2]
    by_cases h : i = F
    · rw [if_pos (by rw [h]; exact Int32.le_refl _), if_pos (by rw [h]; exact Int32.le_refl _)]
      obtain ⟨N, hN, c1, c2, c3⟩ := hI.2.2.2.2.1
      obtain ⟨y, q1, q2⟩ := dg_c hI hN c1 c2 10000 0 x (by omega) (by omega)
      rw [nI_0] at q1 q2
      exact ⟨y, q1, q2⟩
    · obtain ⟨_, _, lv, t, ld, g, bs, e, b, hx, hy, hlv, hb, he1, he, ht, hld1, hld, hg, hbs, ⟨m1, m2, m3, m4, m5, m6, m7, m8, m9, m10, m11⟩, ⟨c1, c2, c3, c4, c5, c6, c7, c8⟩, ⟨d1, d2, d3, d4⟩, hz, hlog⟩ := h3 i (by omega)
      rw [if_neg (nI_ge (by omega) (by omega)), if_neg (nI_ge (by omega) (by omega))]
      obtain ⟨y, q1, q2⟩ := dg_a hI (fun σ x1 x3 => f_X10_digest_33 n σ x1 x3) (f := i) (e := e) (by omega) he d1 m9 10000 0 x (by omega) (by omega)
      rw [nI_0] at q1 q2
      have q1' : f_X9_digestFlight σ x (nI i) = some y := q1
      rw [q1', q2, Option.bind_some, nI_1]
      exact ih (i + 1) y (by omega) (by omega)
theorem dg_n {σ : St} (hI : Inv σ) : ∀ (n w : Nat) (x : Int64), w ≤ 7 → 7 - w < n → ∃ y : Int64, f_X9_digest_6 n σ x (nI w) = some y ∧ f_X10_digest_6 n σ x (nI w) = some y := by
  intro n
  induction n with
  | zero => intro w x h1 h2; omega
  | succ n ih =>
    intro w x h1 h2
    unfold f_X9_digest_6 f_X10_digest_6
    by_cases h : w = 7
    · rw [if_pos (by rw [h]; decide), if_pos (by rw [h]; decide)]
      obtain ⟨F, hF, e1, e2, h3⟩ := hI.2.2.2.1
      obtain ⟨y, q1, q2⟩ := dg_f hI hF e1 e2 h3 10000 0 x (by omega) (by omega)
      rw [nI_0] at q1 q2
      exact ⟨y, q1, q2⟩
    · have g1 : ¬ (6 : Int32) < nI w := nI_nlt (a := 6) (b := w) (by omega) (by omega)
      have g2 : ¬ (7 : Int32) ≤ nI w := nI_ge (a := w) (b := 7) (by omega) (by omega)
      obtain ⟨r, q1, q2, -⟩ := ms_count σ hI (nI w)
      rw [if_neg g1, if_neg g2, q1, q2, Option.bind_some, Option.bind_some, nI_1]
      exact ih (w + 1) _ (by omega) (by omega)
/-- promise 23: digest -/
theorem ms_digest : MS_digest Inv := by
  intro σ hI
  obtain ⟨y, q1, q2⟩ := dg_n hI 10000 0 163 (by omega) (by omega)
  rw [nI_0] at q1 q2
  exact ⟨y, q1, q2, hI⟩
