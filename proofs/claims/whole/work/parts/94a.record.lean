theorem flo2_s {σ τ : St} {f : Nat} (hf : f < 8) (h : FlO2 σ.1 τ.1 f) : ∃ R : Nat, R ≤ 4095 ∧ f_X3_flown σ (40 + 4 * f) = some (nI R) ∧ f_X10_distanceFlown τ (nI f) = some (nI R) := by
  obtain ⟨x, y, lv, t, ld, g, bs, e, b, hx, hy, hlv, hb, he1, he, ht, hld1, hld, hg, hbs, ⟨m1, m2, m3, m4, m5, m6, m7, m8, m9, m10, m11⟩, ⟨c1, c2, c3, c4, c5, c6, c7, c8⟩, ⟨d1, d2, d3, d4⟩, hz, hlog⟩ := h
  obtain ⟨c, l, hc, hl, q1, q2, q3, q4, q5⟩ := hlog 0 (by omega)
  rw [Nat.add_zero] at q1
  obtain ⟨u, hu, eu⟩ := sq_nI (a := c % 24) (b := x) (by omega) hx
  obtain ⟨v, hv, ev⟩ := sq_nI (a := c / 24) (b := y) (by omega) hy
  have hS : 10000 * (u + v) < 2 ^ 31 := by omega
  obtain ⟨R, r0, r1, r2, r3⟩ := rt_9 (40 + 4 * f) σ (S := 10000 * (u + v)) hS 11 10000 0 (by omega) (by omega) (by
    show 10000 * (u + v) < (0 + 2 ^ 12) * (0 + 2 ^ 12)
    omega) (by decide)
  have e10 : (10000 : Int32) * nI (u + v) = nI (10000 * (u + v)) := pk_mul 10000 (u + v)
  refine ⟨R, r0, ?_, ?_⟩
  · unfold f_X3_flown f_X9_squareBetween
    rw [d2, q1, c1, xOf_n hc, yOf_n hc, xOf_c hx hy, yOf_c hx hy, eu, ev, nI_add, e10]
    exact r3
  · have hr := rt_10 τ hS r0 r1 r2 10000 0 (by omega) (by omega)
    have e61 : (61 : Int32) * nI f = nI (61 * f) := pk_mul 61 f
    have x24 : nI c - nI c / 24 * 24 = nI (c % 24) := xOf_n hc
    have y24 : nI c / 24 = nI (c / 24) := yOf_n hc
    unfold f_X10_distanceFlown f_X10_distanceOf
    rw [e61]
    simp only [aL_nI hf (show 8 < 2 ^ 31 by decide), aL_nI (show 61 * f < 488 by omega) (show 488 < 2 ^ 31 by decide), Option.bind_some, m1, m2, q1]
    rw [x24, y24, sq_sym (nI x), sq_sym (nI y), eu, ev, nI_add, e10]
    rw [nI_0] at hr
    rw [hr, Option.bind_some]
theorem df_s {a b : Nat} (ha : a < 2 ^ 30) (hb : b < 2 ^ 30) : (nI a - nI b = 0 ↔ a = b) ∧ (nI a - nI b ≤ 0 ↔ a ≤ b) ∧ (0 ≤ nI a - nI b ↔ b ≤ a) := by
  have e := ar_sub (nI_toInt (n := a) (by omega)) (nI_toInt (n := b) (by omega)) (by omega) (by omega)
  have z0 : (0 : Int32).toInt = 0 := by decide
  refine ⟨?_, ?_, ?_⟩
  · rw [← Int32.toInt_inj, e, z0]
    omega
  · rw [Int32.le_iff_toInt_le, e, z0]
    omega
  · rw [Int32.le_iff_toInt_le, e, z0]
    omega
theorem ah_s {σ τ : St} {f1 f2 : Nat} (h1 : f1 < 8) (h2 : f2 < 8) (g1 : FlO2 σ.1 τ.1 f1) (g2 : FlO2 σ.1 τ.1 f2) : ∃ v : Int32, f_X9_isAhead σ (nI f1) (nI f2) = some v ∧ f_X10_isAhead τ (nI f1) (nI f2) = some v := by
  obtain ⟨R1, a1, a2, a3⟩ := flo2_s h1 g1
  obtain ⟨R2, b1, b2, b3⟩ := flo2_s h2 g2
  obtain ⟨e1, he1, k1, m1⟩ : ∃ e : Nat, e ≤ 60 ∧ σ.1 (40 + 4 * f1) 3 = nI e ∧ τ.1 89 f1 = nI e := by
    obtain ⟨x, y, lv, t, ld, g, bs, e, b, hx, hy, hlv, hb, he1, he, ht, hld1, hld, hg, hbs, hM, hC, ⟨k3, -⟩, -⟩ := g1
    exact ⟨e, he, k3, hM.2.2.2.2.2.2.2.2.1⟩
  obtain ⟨e2, he2, k2, m2⟩ : ∃ e : Nat, e ≤ 60 ∧ σ.1 (40 + 4 * f2) 3 = nI e ∧ τ.1 89 f2 = nI e := by
    obtain ⟨x, y, lv, t, ld, g, bs, e, b, hx, hy, hlv, hb, he1, he, ht, hld1, hld, hg, hbs, hM, hC, ⟨k3, -⟩, -⟩ := g2
    exact ⟨e, he, k3, hM.2.2.2.2.2.2.2.2.1⟩
  obtain ⟨r1, r2, r3⟩ := df_s (a := R1) (b := R2) (by omega) (by omega)
  obtain ⟨s1, s2, s3⟩ := df_s (a := e1) (b := e2) (by omega) (by omega)
  have E1 : f_X9_isAhead σ (nI f1) (nI f2) = if R1 = R2 then (if e1 = e2 then (if nI f2 ≤ nI f1 then some 0 else some 1) else (if e2 ≤ e1 then some 0 else some 1)) else (if R1 ≤ R2 then some 0 else some 1) := by
    unfold f_X9_isAhead
    rw [inB_nI h1 (by decide), Option.bind_some, a2, Option.bind_some, inB_nI h2 (by decide), Option.bind_some, b2, Option.bind_some, Option.bind_some, Option.bind_some, k1, k2]
    by_cases q1 : R1 = R2
    · rw [if_pos (r1.mpr q1), if_pos q1]
      by_cases q2 : e1 = e2
      · rw [if_pos (s1.mpr q2), if_pos q2]
      · rw [if_neg (fun g => q2 (s1.mp g)), if_neg q2]
        by_cases q3 : e2 ≤ e1
        · rw [if_pos (s3.mpr q3), if_pos q3]
        · rw [if_neg (fun g => q3 (s3.mp g)), if_neg q3]
    · rw [if_neg (fun g => q1 (r1.mp g)), if_neg q1]
      by_cases q3 : R1 ≤ R2
      · rw [if_pos (r2.mpr q3), if_pos q3]
      · rw [if_neg (fun g => q3 (r2.mp g)), if_neg q3]
  have E2 : f_X10_isAhead τ (nI f1) (nI f2) = if R1 = R2 then (if e1 = e2 then (if nI f2 ≤ nI f1 then some 0 else some 1) else (if e2 ≤ e1 then some 0 else some 1)) else (if R1 ≤ R2 then some 0 else some 1) := by
    unfold f_X10_isAhead
    rw [a3, Option.bind_some, b3, Option.bind_some, aL_nI h1 (by decide), Option.bind_some, aL_nI h2 (by decide), Option.bind_some, Option.bind_some, Option.bind_some, m1, m2]
    by_cases q1 : R1 = R2
    · rw [if_pos (by rw [q1]), if_pos q1]
      by_cases q2 : e1 = e2
      · rw [if_pos (by rw [q2]), if_pos q2]
      · rw [if_neg (fun g => q2 ((nI_eq (by omega) (by omega)).mp g)), if_neg q2]
        by_cases q3 : e2 ≤ e1
        · rw [if_pos (nI_le q3 (by omega)), if_pos q3]
        · rw [if_neg (nI_ge (by omega) (by omega)), if_neg q3]
    · rw [if_neg (fun g => q1 ((nI_eq (by omega) (by omega)).mp g)), if_neg q1]
      by_cases q3 : R1 ≤ R2
      · rw [if_pos (nI_le q3 (by omega)), if_pos q3]
      · rw [if_neg (nI_ge (by omega) (by omega)), if_neg q3]
  rw [E1, E2]
  by_cases q1 : R1 = R2
  · rw [if_pos q1]
    by_cases q2 : e1 = e2
    · rw [if_pos q2]
      by_cases q3 : nI f2 ≤ nI f1
      · rw [if_pos q3]; exact ⟨0, rfl, rfl⟩
      · rw [if_neg q3]; exact ⟨1, rfl, rfl⟩
    · rw [if_neg q2]
      by_cases q3 : e2 ≤ e1
      · rw [if_pos q3]; exact ⟨0, rfl, rfl⟩
      · rw [if_neg q3]; exact ⟨1, rfl, rfl⟩
  · rw [if_neg q1]
    by_cases q3 : R1 ≤ R2
    · rw [if_pos q3]; exact ⟨0, rfl, rfl⟩
    · rw [if_neg q3]; exact ⟨1, rfl, rfl⟩
theorem ct_l {σ τ : St} {F x : Nat} (kn : St → Int32 → Int32 → Option (Int32 × St)) (p : Int32) (hF : F ≤ 8) (e1 : σ.1 0 4 = nI F) (e2 : τ.1 72 8 = nI F) (hx : x < F) (h3 : ∀ f, f < F → FlO2 σ.1 τ.1 f) (hrk : ∀ j, j < F → σ.1 14 j = τ.1 102 j) : ∀ (n i : Nat) (c : Int32), i ≤ F → F - i < n → ∃ r : Int32, f_X9_countAheadOf_4 n σ (nI x) c (nI i) = some r ∧ f_X10_record_66 kn n τ p (nI x) c (nI i) = f_X10_record_115 kn τ p (nI x) r := by
  intro n
  induction n with
  | zero => intro i c h1 h2; omega
  | succ n ih =>
    intro i c h1 h2
    rw [f_X9_countAheadOf_4, f_X10_record_66, e1, e2]
    by_cases hi : i = F
    · exact ⟨c, by rw [if_pos (by rw [hi]; exact Int32.le_refl _)], by rw [if_pos (by rw [hi]; exact Int32.le_refl _)]⟩
    · have g : ¬ nI F ≤ nI i := nI_ge (by omega) (by omega)
      rw [if_neg g, if_neg g, aL_nI (by omega) (by decide), Option.bind_some, aL_nI (by omega) (by decide), Option.bind_some, nI_1, Int32.add_zero, hrk i (by omega)]
      obtain ⟨v, v1, v2⟩ := ah_s (σ := σ) (τ := τ) (f1 := i) (f2 := x) (by omega) (by omega) (h3 i (by omega)) (h3 x hx)
      rw [v1, v2, Option.bind_some, Option.bind_some]
      by_cases q1 : nI i = nI x
      · rw [if_pos q1, if_pos q1, ite_self]
        exact ih (i + 1) c (by omega) (by omega)
      · rw [if_neg q1, if_neg q1]
        by_cases q2 : τ.1 102 i = 0
        · rw [if_pos q2, if_pos q2]
          exact ih (i + 1) c (by omega) (by omega)
        · rw [if_neg q2, if_neg q2]
          by_cases q3 : v = 0
          · rw [if_pos q3, if_pos q3]
            exact ih (i + 1) c (by omega) (by omega)
          · rw [if_neg q3, if_neg q3]
            exact ih (i + 1) (c + 1) (by omega) (by omega)
theorem rk_l {σ τ : St} {F : Nat} (p : Int32) (hF : F ≤ 8) (e1 : σ.1 0 4 = nI F) (e2 : τ.1 72 8 = nI F) (h3 : ∀ f, f < F → FlO2 σ.1 τ.1 f) (hrk : ∀ j, j < F → σ.1 14 j = τ.1 102 j) : ∀ (n i : Nat), i ≤ F → F - i < n → ∃ r : Int32, f_X9_record_59 n σ p (nI i) = some (r, σ) ∧ f_X10_record_53 n τ p (nI i) = some (r, τ) := by
  intro n
  induction n with
  | zero => intro i h1 h2; omega
  | succ n ih =>
    intro i h1 h2
    rw [f_X9_record_59, f_X10_record_53, e1, e2]
    by_cases hi : i = F
    · exact ⟨-1, by rw [if_pos (by rw [hi]; exact Int32.le_refl _)], by rw [if_pos (by rw [hi]; exact Int32.le_refl _)]⟩
    · have g : ¬ nI F ≤ nI i := nI_ge (by omega) (by omega)
      obtain ⟨r, r1, r2⟩ := ct_l (σ := σ) (τ := τ) (x := i) (fun σ x1 x2 => f_X10_record_53 n σ x1 x2) p hF e1 e2 (by omega) h3 hrk 10000 0 0 (by omega) (by omega)
      rw [nI_0] at r1 r2
      obtain ⟨q, i1, i2⟩ := ih (i + 1) (by omega) (by omega)
      rw [if_neg g, if_neg g, aL_nI (by omega) (by decide), Option.bind_some, r2]
      unfold f_X10_record_115 f_X9_countAheadOf
      rw [aL_nI (by omega) (by decide), Option.bind_some, r1, Option.bind_some, nI_1, hrk i (by omega)]
      by_cases q1 : τ.1 102 i = 0
      · rw [if_pos q1, if_pos q1]
        exact ⟨q, i1, i2⟩
      · rw [if_neg q1, if_neg q1]
        by_cases q2 : r = p
        · rw [if_pos q2, if_pos q2]
          exact ⟨nI i, rfl, rfl⟩
        · rw [if_neg q2, if_neg q2]
          exact ⟨q, i1, i2⟩
theorem wi_in {i F : Nat} (hF : F < 2 ^ 30) (hi : i < F) : ¬ f_X9_within (nI i) 0 (nI F - 1) = 0 := by
  obtain ⟨G, rfl⟩ : ∃ G, F = G + 1 := ⟨F - 1, by omega⟩
  unfold f_X9_within
  rw [nI_pred, if_neg (nI_pos (by omega)), if_neg (nI_nlt (by omega) (by omega))]
  decide
theorem rr_l {F : Nat} (p : Int32) (hF : F ≤ 8) : ∀ (n i : Nat) (σ τ : St), i ≤ F → F - i < n → Inv σ → σ.1 72 8 = nI F → (∀ r, r = 73 ∨ (77 ≤ r ∧ r ≤ 92) → τ.1 r = σ.1 r) → τ.1 72 0 = σ.1 72 0 → τ.1 72 1 = σ.1 72 1 → τ.1 72 8 = nI F → (∀ j, j < i → σ.1 14 j = τ.1 102 j) →
    ∃ σ' τ' : St, f_X9_record_9 n σ p (nI i) = f_X9_record_59 10000 σ' p 0 ∧ f_X10_record_9 n τ p (nI i) = f_X10_record_53 10000 τ' p 0 ∧ Inv σ' ∧ (∀ r, ¬ r = 14 → ¬ (19 ≤ r ∧ r ≤ 27) → σ'.1 r = σ.1 r) ∧ (∀ r, ¬ r = 72 → ¬ (97 ≤ r ∧ r ≤ 102) → τ'.1 r = τ.1 r) ∧ (∀ j, ¬ j = 39 → ¬ j = 40 → τ'.1 72 j = τ.1 72 j) ∧ τ'.2 = τ.2 ∧ ∀ j, j < F → σ'.1 14 j = τ'.1 102 j := by
  intro n
  induction n with
  | zero => intro i σ τ h1 h2; omega
  | succ n ih =>
    intro i σ τ h1 h2 hI e2 hr0 h720 h721 h728 hrk
    have hI' := hI
    obtain ⟨iL, iA, iN, ⟨F', hF', e1, e2', h3⟩, iC, iP, iW, iI⟩ := hI
    have eF : F' = F := (nI_eq (by omega) (by omega)).mp (e2'.symm.trans e2)
    rw [eF] at e1 h3
    rw [f_X9_record_9, f_X10_record_9, e1, h728]
    by_cases hi : i = F
    · exact ⟨σ, τ, by rw [if_pos (by rw [hi]; exact Int32.le_refl _)], by rw [if_pos (by rw [hi]; exact Int32.le_refl _)], hI', fun _ _ _ => rfl, fun _ _ _ => rfl, fun _ _ _ => rfl, rfl, fun j hj => hrk j (by omega)⟩
    · have g : ¬ nI F ≤ nI i := nI_ge (by omega) (by omega)
      have hi8 : i < 8 := by omega
      obtain ⟨x, y, lv, t, ld, gg, bs, e, b, hx, hy, hlv, hb, he1, he, ht, hld1, hld, hg, hbs, hM, ⟨-, -, -, -, -, -, -, c7⟩, -⟩ := h3 i (by omega)
      rw [if_neg g, if_neg g, inB_nI hi8 (by decide), Option.bind_some, aL_nI hi8 (by decide), Option.bind_some, hr0 87 (by omega), c7, nI_1, vn0, vn1]
      by_cases q0 : σ.1 87 i = 0
      · rw [if_pos q0, if_pos q0, aS_nI hi8 (by decide), Option.bind_some, aS_nI hi8 (by decide), Option.bind_some]
        have z : ∀ r, ¬ r = 14 → (up σ 14 i 0).1 r = σ.1 r := fun r hr => up_ne hr
        have z' : ∀ r, ¬ r = 102 → (up τ 102 i 0).1 r = τ.1 r := fun r hr => up_ne hr
        have I1 : Inv (up σ 14 i 0) := Inv_j9 hI' (fun r hr _ => z r hr) (InvW_congr (fun r hr => z r (by omega)) iW)
        obtain ⟨σ', τ', i1, i2, i3, i4, i5, i6, i7, i8⟩ := ih (i + 1) (up σ 14 i 0) (up τ 102 i 0) (by omega) (by omega) I1 (by rw [z 72 (by decide)]; exact e2) (fun r hr => by rw [z r (by omega), z' r (by omega), hr0 r hr]) (by rw [z 72 (by decide), z' 72 (by decide), h720]) (by rw [z 72 (by decide), z' 72 (by decide), h721]) (by rw [z' 72 (by decide)]; exact h728) (fun j hj => by
          rw [up_at, up_at, upd_e, upd_e]
          by_cases hji : j = i
          · rw [if_pos hji, if_pos hji]
          · rw [if_neg hji, if_neg hji]
            exact hrk j (by omega))
        exact ⟨σ', τ', i1, i2, i3, fun r g1 g2 => by rw [i4 r g1 g2, z r g1], fun r g1 g2 => by rw [i5 r g1 g2, z' r (by omega)], fun j g1 g2 => by rw [i6 j g1 g2, z' 72 (by decide)], i7, i8⟩
      · rw [if_neg q0, if_neg q0]
        obtain ⟨σ1, τ1, x, y, w1, w2, hx, hy, w3, w4, w5, w6, w7, w8, w9, w10, w11⟩ := ways_s (τ0 := τ) hI' hF e2 (show i < F by omega) hr0 h720 h721
        have J : f_X9_judge σ (nI i) = some (vdt x y, σ1) := by
          unfold f_X9_judge f_X9_isFlight
          rw [e1, if_neg (wi_in (by omega) (by omega)), inB_nI hi8 (by decide), Option.bind_some, w1, Option.bind_some, vd_9 hx hy w3 w4]
        rw [J, oB2_some, vd_10 hx hy w2 w5 w6, oB2_some, aS_nI hi8 (by decide), Option.bind_some, aS_nI hi8 (by decide), Option.bind_some, aS_nI hi8 (by decide), Option.bind_some, aS_nI hi8 (by decide), Option.bind_some]
        have fin : ∀ v : Int32, ∃ σ' τ' : St, f_X9_record_9 n (up σ1 14 i v) p (nI (i + 1)) = f_X9_record_59 10000 σ' p 0 ∧ f_X10_record_9 n (up τ1 102 i v) p (nI (i + 1)) = f_X10_record_53 10000 τ' p 0 ∧ Inv σ' ∧ (∀ r, ¬ r = 14 → ¬ (19 ≤ r ∧ r ≤ 27) → σ'.1 r = σ.1 r) ∧ (∀ r, ¬ r = 72 → ¬ (97 ≤ r ∧ r ≤ 102) → τ'.1 r = τ.1 r) ∧ (∀ j, ¬ j = 39 → ¬ j = 40 → τ'.1 72 j = τ.1 72 j) ∧ τ'.2 = τ.2 ∧ ∀ j, j < F → σ'.1 14 j = τ'.1 102 j := by
          intro v
          have z : ∀ r, ¬ r = 14 → ¬ (19 ≤ r ∧ r ≤ 27) → (up σ1 14 i v).1 r = σ.1 r := fun r g1 g2 => by rw [up_ne g1, w7 r g2]
          have z' : ∀ r, ¬ r = 72 → ¬ (97 ≤ r ∧ r ≤ 102) → (up τ1 102 i v).1 r = τ.1 r := fun r g1 g2 => by rw [up_ne (by omega), w10 r g1 (by omega)]
          have z72 : ∀ j, ¬ j = 39 → ¬ j = 40 → (up τ1 102 i v).1 72 j = τ.1 72 j := fun j g1 g2 => by rw [up_ne (by decide), w11 j g1 g2]
          have I1 : Inv (up σ1 14 i v) := Inv_j9 hI' z (InvW_congr (fun r hr => up_ne (by omega)) w8)
          obtain ⟨σ', τ', i1, i2, i3, i4, i5, i6, i7, i8⟩ := ih (i + 1) (up σ1 14 i v) (up τ1 102 i v) (by omega) (by omega) I1 (by rw [z 72 (by omega) (by omega)]; exact e2) (fun r hr => by rw [z r (by omega) (by omega), z' r (by omega) (by omega), hr0 r hr]) (by rw [z 72 (by omega) (by omega), z72 0 (by omega) (by omega), h720]) (by rw [z 72 (by omega) (by omega), z72 1 (by omega) (by omega), h721]) (by rw [z72 8 (by omega) (by omega)]; exact h728) (fun j hj => by
            rw [up_at, up_at, upd_e, upd_e]
            by_cases hji : j = i
            · rw [if_pos hji, if_pos hji]
            · rw [if_neg hji, if_neg hji, w7 14 (by omega), w10 102 (by omega) (by omega)]
              exact hrk j (by omega))
          exact ⟨σ', τ', i1, i2, i3, fun r g1 g2 => by rw [i4 r g1 g2, z r g1 g2], fun r g1 g2 => by rw [i5 r g1 g2, z' r g1 g2], fun j g1 g2 => by rw [i6 j g1 g2, z72 j g1 g2], by rw [i7]; exact w9, i8⟩
        by_cases q1 : vdt x y = 0
        · rw [if_pos q1, if_pos q1]
          exact fin 1
        · rw [if_neg q1, if_neg q1]
          exact fin 0
/-- promise 21: record -/
theorem ms_record : MS_record Inv := by
  intro σ hI p1
  have hI' := hI
  obtain ⟨iL, iA, iN, ⟨F, hF, e1, e2, h3⟩, iC, iP, iW, iI⟩ := hI
  unfold f_X9_record f_X10_record
  by_cases h1 : 0 ≤ p1
  · have R := fun (τ : St) (hr0 : ∀ r, ¬ r = 14 → ¬ (19 ≤ r ∧ r ≤ 27) → τ.1 r = σ.1 r) => (show ∃ (r : Int32) (σ' τ' : St), f_X9_record_9 10000 σ p1 0 = some (r, σ') ∧ f_X10_record_9 10000 τ p1 0 = some (r, τ') ∧ Inv σ' ∧ (∀ r, ¬ r = 14 → ¬ (19 ≤ r ∧ r ≤ 27) → σ'.1 r = σ.1 r) ∧ (∀ r, ¬ r = 72 → ¬ (97 ≤ r ∧ r ≤ 102) → τ'.1 r = τ.1 r) ∧ (∀ j, ¬ j = 39 → ¬ j = 40 → τ'.1 72 j = τ.1 72 j) ∧ τ'.2 = τ.2 by
      obtain ⟨σ', τ', i1, i2, i3, i4, i5, i6, i7, i8⟩ := rr_l (F := F) p1 hF 10000 0 σ τ (by omega) (by omega) hI' e2 (fun r hr => hr0 r (by omega) (by omega)) (by rw [hr0 72 (by omega) (by omega)]) (by rw [hr0 72 (by omega) (by omega)]) (by rw [hr0 72 (by omega) (by omega)]; exact e2) (fun j hj => absurd hj (by omega))
      obtain ⟨r, r1, r2⟩ := rk_l (σ := σ') (τ := τ') (F := F) p1 hF (by rw [i4 0 (by omega) (by omega)]; exact e1) (by rw [i6 8 (by omega) (by omega), hr0 72 (by omega) (by omega)]; exact e2) (fun f hf => FlO2_l (fun d hd => i4 _ (by omega) (by omega)) (FlO2_r (fun k q1 q2 => by rw [i5 k (by omega) (by omega), hr0 k (by omega) (by omega)]) ((FlO2_self σ.1 f).mpr (h3 f hf)))) i8 10000 0 (by omega) (by omega)
      exact ⟨r, σ', τ', i1.trans r1, i2.trans r2, i3, i4, i5, i6, i7⟩)
    obtain ⟨r, s1, -, a1, -, a2, a3, -⟩ := R σ (fun _ _ _ => rfl)
    obtain ⟨r', s1', s2, b1, b2, -, -, b3, b4, b5⟩ := R s1 a3
    have e := Option.some.inj (b1.symm.trans a1)
    have er : r' = r := congrArg Prod.fst e
    refine ⟨r, s1, s2, by rw [if_pos h1]; exact a1, by rw [if_pos h1, ← er]; exact b2, Inv_j10 a2 b3 b4 b5⟩
  · exact ⟨-2, σ, σ, by rw [if_neg h1], by rw [if_neg h1], hI'⟩
