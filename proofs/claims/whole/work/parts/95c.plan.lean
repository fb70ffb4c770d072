/-! the reference: all plans -/
theorem p6_l (τ : St) (x1 x3 x4 x5 x6 : Int32) {n : Nat} (hn : n ≤ 6) : ∀ (m fuel i : Nat), m < fuel → i + m = n → f_X10_planned_6 fuel τ x1 (nI n) x3 x4 x5 x6 (nI (3 ^ i)) (nI i) = f_X10_planned_24 τ x1 (nI n) x3 x4 x5 x6 (nI (3 ^ n)) := by
  intro m
  induction m with
  | zero =>
    intro fuel i hf hi
    obtain ⟨fuel, rfl⟩ : ∃ k, fuel = k + 1 := ⟨fuel - 1, by omega⟩
    rw [f_X10_planned_6, show i = n by omega, if_pos (Int32.le_refl _)]
  | succ m ih =>
    intro fuel i hf hi
    obtain ⟨fuel, rfl⟩ : ∃ k, fuel = k + 1 := ⟨fuel - 1, by omega⟩
    have e : (3 : Int32) * nI (3 ^ i) = nI (3 ^ (i + 1)) := by
      show nI 3 * nI (3 ^ i) = _
      rw [pk_mul, Nat.pow_succ, Nat.mul_comm]
    rw [f_X10_planned_6, if_neg (nI_ge (by omega) (by omega)), e, nI_1]
    exact ih fuel (i + 1) (by omega) (by omega)
theorem dgs_l (v : Int32) : ∀ (k fuel : Nat) (τ : St) (q : Nat), k < fuel → k ≤ 6 → q < 2 ^ 20 → ∃ τ' : St, f_X10_planned_123 fuel τ v (nI q) (nI k + (-1)) = some (v, τ') ∧ (∀ a, ¬ a = 96 → τ'.1 a = τ.1 a) ∧ τ'.2 = τ.2 ∧ (∀ j, j < k → τ'.1 96 j = nI (q / 3 ^ (k - 1 - j) % 3)) ∧ ∀ j, k ≤ j → τ'.1 96 j = τ.1 96 j := by
  intro k
  induction k with
  | zero =>
    intro fuel τ q hf _ _
    obtain ⟨fuel, rfl⟩ : ∃ k, fuel = k + 1 := ⟨fuel - 1, by omega⟩
    rw [f_X10_planned_123, if_pos (show nI 0 + (-1) < 0 by decide)]
    exact ⟨τ, rfl, fun _ _ => rfl, rfl, fun j hj => absurd hj (by omega), fun _ _ => rfl⟩
  | succ k ih =>
    intro fuel τ q hf hk hq
    obtain ⟨fuel, rfl⟩ : ∃ k, fuel = k + 1 := ⟨fuel - 1, by omega⟩
    have e1 : nI q - nI q / 3 * 3 = nI (q % 3) := pk_rem (d := 3) (by omega) (by omega) (by omega)
    have e2 : nI q / 3 = nI (q / 3) := pk_div (d := 3) (by omega) (by omega) (by omega)
    rw [f_X10_planned_123, nI_mp, if_neg (nI_pos (by omega)), e1, e2, aS_nI (by omega) (by decide), Option.bind_some]
    obtain ⟨τ', i1, i2, i3, i4, i5⟩ := ih fuel (up τ 96 k (nI (q % 3))) (q / 3) (by omega) (by omega) (by omega)
    refine ⟨τ', i1, fun a ha => by rw [i2 a ha, up_ne ha], i3, fun j hj => ?_, fun j hj => ?_⟩
    · by_cases hjk : j = k
      · rw [i5 j (by omega), up_at, upd_e, if_pos hjk, hjk, show k + 1 - 1 - k = 0 by omega, Nat.pow_zero, Nat.div_one]
      · rw [i4 j (by omega), show k + 1 - 1 - j = (k - 1 - j) + 1 by omega, Nat.pow_succ, Nat.div_div_eq_div_mul, Nat.mul_comm 3]
    · rw [i5 j (by omega), up_at, upd_e, if_neg (by omega)]
theorem pln_l {σ0 : St} {w h f n d ld t0 aim x y lv g bs : Nat} {K : Nat → Int32} {far : Int32} {nr : Bool} (hfar : far = 0 ∧ nr = true ∨ far = 1 ∧ nr = false) (hw : w ≤ 24) (hh : h ≤ 24) (e0 : σ0.1 1 0 = nI w) (e1 : σ0.1 1 1 = nI h) (m0 : σ0.1 72 0 = nI w) (m1 : σ0.1 72 1 = nI h) (iA : InvA (σ0.1 4) (σ0.1 5) (σ0.1 6) (σ0.1 74) (σ0.1 75) (σ0.1 76)) (iN : InvN (σ0.1 8) (σ0.1 9) (σ0.1 11) (σ0.1 12) (σ0.1 77) (σ0.1 78)) (hK : σ0.1 73 = K) (hf : f < 8) (hn : n ≤ 6) (hd : d ≤ 50) (hld : ld ≤ 200) (ht : t0 < 200) (haim : aim < 576) (h82 : σ0.1 82 f = nI t0) (h83 : σ0.1 83 f = nI ld) (h79 : σ0.1 79 f = nI x) (h80 : σ0.1 80 f = nI y) (h81 : σ0.1 81 f = nI lv) (h84 : σ0.1 84 f = nI g) (h85 : σ0.1 85 f = nI bs) (hx : x < 24) (hy : y < 24) (hlv1 : 1 ≤ lv) (hlv : lv ≤ 7) (hg : g ≤ 500) (hbs : bs ≤ 200) :
    ∀ (l fuel c : Nat) (τ : St) (x9 : Int32) (s : Int32 × Nat), l < fuel → c + l = 3 ^ n → (¬ s.1 = -1 → x9 = nI s.2) → τ.1 72 0 = nI w → τ.1 72 1 = nI h → (∀ r, 73 ≤ r ∧ r ≤ 95 → τ.1 r = σ0.1 r) → ∃ (τ' : St) (y9 : Int32), f_X10_planned_33 fuel τ (nI f) (nI n) (nI d) (nI (aim % 24)) (nI (aim / 24)) far (nI (3 ^ n)) s.1 x9 (nI c) = f_X10_planned_105 τ' (nI n) (fdl nr (vl σ0 K d ld aim n t0 (24 * y + x, lv, g, bs)) c l s).1 y9 ∧ (¬ (fdl nr (vl σ0 K d ld aim n t0 (24 * y + x, lv, g, bs)) c l s).1 = -1 → y9 = nI (fdl nr (vl σ0 K d ld aim n t0 (24 * y + x, lv, g, bs)) c l s).2) ∧ (∀ a, ¬ a = 72 → τ'.1 a = τ.1 a) ∧ τ'.2 = τ.2 ∧ ∀ j, j < 29 ∨ 34 < j → τ'.1 72 j = τ.1 72 j := by
  have hP6 := p3_le hn
  intro l
  induction l with
  | zero =>
    intro fuel c τ x9 s hfu hc hx9 _ _ _
    obtain ⟨fuel, rfl⟩ : ∃ k, fuel = k + 1 := ⟨fuel - 1, by omega⟩
    rw [f_X10_planned_33, show c = 3 ^ n by omega, if_pos (Int32.le_refl _)]
    exact ⟨τ, x9, rfl, hx9, fun _ _ => rfl, rfl, fun _ _ => rfl⟩
  | succ l ih =>
    intro fuel c τ x9 s hfu hc hx9 n0 n1 hfr
    obtain ⟨fuel, rfl⟩ : ∃ k, fuel = k + 1 := ⟨fuel - 1, by omega⟩
    rw [f_X10_planned_33, if_neg (nI_ge (by omega) (by omega))]
    have hb : f_X10_begin τ (nI f) = some (up (up (up (up (up (up τ 72 29 (nI x)) 72 30 (nI y)) 72 31 (nI lv)) 72 32 (nI g)) 72 33 (nI bs)) 72 34 (τ.1 86 f)) := by
      rw [bg_s hf, hfr 79 (by omega), hfr 80 (by omega), hfr 81 (by omega), hfr 84 (by omega), hfr 85 (by omega), h79, h80, h81, h84, h85]
    generalize hτ1 : up (up (up (up (up (up τ 72 29 (nI x)) 72 30 (nI y)) 72 31 (nI lv)) 72 32 (nI g)) 72 33 (nI bs)) 72 34 (τ.1 86 f) = τ1 at hb
    have z1 : ∀ a, ¬ a = 72 → τ1.1 a = τ.1 a := fun a ha => by rw [← hτ1, up_ne ha, up_ne ha, up_ne ha, up_ne ha, up_ne ha, up_ne ha]
    have z2 : τ1.2 = τ.2 := by rw [← hτ1]; rfl
    have z3 : ∀ j, j < 29 ∨ 34 < j → τ1.1 72 j = τ.1 72 j := fun j hj => by
      rw [← hτ1]
      simp only [up_at, upd_e]
      rw [if_neg (by omega), if_neg (by omega), if_neg (by omega), if_neg (by omega), if_neg (by omega), if_neg (by omega)]
    have zR : RfO τ1 (24 * y + x, lv, g, bs) := by
      unfold RfO
      rw [← hτ1]
      simp only [up_at, upd_e]
      refine ⟨?_, ?_, ?_, ?_, ?_⟩
      · simp only [Nat.reduceEqDiff, if_true, if_false]; congr 1; omega
      · simp only [Nat.reduceEqDiff, if_true, if_false]; congr 1; omega
      · simp only [Nat.reduceEqDiff, if_true, if_false]
      · simp only [Nat.reduceEqDiff, if_true, if_false]
      · simp only [Nat.reduceEqDiff, if_true, if_false]
    obtain ⟨τ2, f1, f2, f3, f4⟩ := fly_l (σ0 := σ0) (K := K) (aim := aim) (code := c) hw hh e0 e1 m0 m1 iA iN hK hf hn hd hld ht haim (by omega) h82 h83 n 10000 0 τ1 (24 * y + x, lv, g, bs) (by omega) (by omega) ⟨by dsimp only; omega, hlv, hg, hbs⟩ zR (by rw [z3 0 (by omega)]; exact n0) (by rw [z3 1 (by omega)]; exact n1) (fun r hr => by rw [z1 r (by omega), hfr r hr])
    have hfl : f_X10_flown τ (nI f) (nI n) (nI d) (nI c) (nI (3 ^ n)) (nI (aim % 24)) (nI (aim / 24)) = some (vl σ0 K d ld aim n t0 (24 * y + x, lv, g, bs) c, τ2) := by
      unfold f_X10_flown
      rw [hb, Option.bind_some]
      rw [if_neg (show ¬ (24 * y + x, lv, g, bs).2.1 = 0 by dsimp only; omega)] at f1
      exact f1
    rw [hfl, oB2_some, nI_1, fdl_c]
    have go : ∀ (s' : Int32 × Nat) (x9' : Int32), (¬ s'.1 = -1 → x9' = nI s'.2) → ∃ (τ' : St) (y9 : Int32), f_X10_planned_33 fuel τ2 (nI f) (nI n) (nI d) (nI (aim % 24)) (nI (aim / 24)) far (nI (3 ^ n)) s'.1 x9' (nI (c + 1)) = f_X10_planned_105 τ' (nI n) (fdl nr (vl σ0 K d ld aim n t0 (24 * y + x, lv, g, bs)) (c + 1) l s').1 y9 ∧ (¬ (fdl nr (vl σ0 K d ld aim n t0 (24 * y + x, lv, g, bs)) (c + 1) l s').1 = -1 → y9 = nI (fdl nr (vl σ0 K d ld aim n t0 (24 * y + x, lv, g, bs)) (c + 1) l s').2) ∧ (∀ a, ¬ a = 72 → τ'.1 a = τ.1 a) ∧ τ'.2 = τ.2 ∧ ∀ j, j < 29 ∨ 34 < j → τ'.1 72 j = τ.1 72 j := by
      intro s' x9' h9
      obtain ⟨τ', y9, i1, i2, i3, i4, i5⟩ := ih fuel (c + 1) τ2 x9' s' (by omega) (by omega) h9 (by rw [f4 0 (by omega), z3 0 (by omega)]; exact n0) (by rw [f4 1 (by omega), z3 1 (by omega)]; exact n1) (fun r hr => by rw [f2 r (by omega), z1 r (by omega), hfr r hr])
      exact ⟨τ', y9, i1, i2, fun a ha => by rw [i3 a ha, f2 a ha, z1 a ha], by rw [i4, f3, z2], fun j hj => by rw [i5 j hj, f4 j hj, z3 j hj]⟩
    generalize vl σ0 K d ld aim n t0 (24 * y + x, lv, g, bs) c = v at *
    unfold f_X10_planned_91 tak
    rw [nI_1]
    by_cases v1 : v = -1
    · rw [if_pos v1, if_pos v1]
      exact go s x9 hx9
    · rw [if_neg v1, if_neg v1]
      by_cases v2 : s.1 = -1
      · rw [if_pos v2, if_pos v2]
        exact go (v, c) (nI c) (fun _ => rfl)
      · rw [if_neg v2, if_neg v2]
        rcases hfar with ⟨r1, r2⟩ | ⟨r1, r2⟩
        · rw [if_pos r1, if_pos r2]
          by_cases v3 : s.1 ≤ v
          · rw [if_pos v3, if_pos v3]
            exact go s x9 hx9
          · rw [if_neg v3, if_neg v3]
            exact go (v, c) (nI c) (fun _ => rfl)
        · rw [if_neg (show ¬ far = 0 by rw [r1]; decide), if_neg (show ¬ nr = true by rw [r2]; decide)]
          by_cases v3 : v ≤ s.1
          · rw [if_pos v3, if_pos v3]
            exact go s x9 hx9
          · rw [if_neg v3, if_neg v3]
            exact go (v, c) (nI c) (fun _ => rfl)
/-- what the reference plans -/
theorem pld_s {σ0 τ : St} {w h f n d ld t0 aim x y lv g bs : Nat} {K : Nat → Int32} {far : Int32} {nr : Bool} (hfar : far = 0 ∧ nr = true ∨ far = 1 ∧ nr = false) (hw : w ≤ 24) (hh : h ≤ 24) (e0 : σ0.1 1 0 = nI w) (e1 : σ0.1 1 1 = nI h) (m0 : σ0.1 72 0 = nI w) (m1 : σ0.1 72 1 = nI h) (iA : InvA (σ0.1 4) (σ0.1 5) (σ0.1 6) (σ0.1 74) (σ0.1 75) (σ0.1 76)) (iN : InvN (σ0.1 8) (σ0.1 9) (σ0.1 11) (σ0.1 12) (σ0.1 77) (σ0.1 78)) (hK : σ0.1 73 = K) (hf : f < 8) (hn : n ≤ 6) (hd : d ≤ 50) (hld : ld ≤ 200) (ht : t0 < 200) (haim : aim < 576) (h82 : σ0.1 82 f = nI t0) (h83 : σ0.1 83 f = nI ld) (h79 : σ0.1 79 f = nI x) (h80 : σ0.1 80 f = nI y) (h81 : σ0.1 81 f = nI lv) (h84 : σ0.1 84 f = nI g) (h85 : σ0.1 85 f = nI bs) (hx : x < 24) (hy : y < 24) (hlv1 : 1 ≤ lv) (hlv : lv ≤ 7) (hg : g ≤ 500) (hbs : bs ≤ 200) (n0 : τ.1 72 0 = nI w) (n1 : τ.1 72 1 = nI h) (hfr : ∀ r, 73 ≤ r ∧ r ≤ 95 → τ.1 r = σ0.1 r) :
    ∃ (s : Int32 × Nat) (τ' : St), s = fdl nr (vl σ0 K d ld aim n t0 (24 * y + x, lv, g, bs)) 0 (3 ^ n) (-1, 0) ∧ f_X10_planned τ (nI f) (nI n) (nI d) (nI (aim % 24)) (nI (aim / 24)) far = some (s.1, τ') ∧ (∀ a, ¬ a = 72 → ¬ a = 96 → τ'.1 a = τ.1 a) ∧ τ'.2 = τ.2 ∧ (∀ j, j < 28 ∨ 34 < j → τ'.1 72 j = τ.1 72 j) ∧ (s.1 = -1 → τ'.1 72 28 = τ.1 72 28 ∧ τ'.1 96 = τ.1 96) ∧ (¬ s.1 = -1 → τ'.1 72 28 = nI n ∧ ∀ j, j < n → τ'.1 96 j = nI (s.2 / 3 ^ (n - 1 - j) % 3)) := by
  have hP6 := p3_le hn
  have hP := p3_pos n
  obtain ⟨τ1, y9, a1, a2, a3, a4, a5⟩ := pln_l (σ0 := σ0) (K := K) (aim := aim) (nr := nr) hfar hw hh e0 e1 m0 m1 iA iN hK hf hn hd hld ht haim h82 h83 h79 h80 h81 h84 h85 hx hy hlv1 hlv hg hbs (3 ^ n) 10000 0 τ (-1) (-1, 0) (by omega) (by omega) (fun h => absurd rfl h) n0 n1 hfr
  have sb := fdl_b (nr := nr) (v := vl σ0 K d ld aim n t0 (24 * y + x, lv, g, bs)) (N := 3 ^ n) (3 ^ n) 0 (-1, 0) hP (by omega)
  generalize hs : fdl nr (vl σ0 K d ld aim n t0 (24 * y + x, lv, g, bs)) 0 (3 ^ n) (-1, 0) = s at *
  have E : f_X10_planned τ (nI f) (nI n) (nI d) (nI (aim % 24)) (nI (aim / 24)) far = f_X10_planned_105 τ1 (nI n) s.1 y9 := by
    unfold f_X10_planned
    refine (p6_l τ (nI f) (nI d) (nI (aim % 24)) (nI (aim / 24)) far hn n 10000 0 (by omega) (by omega)).trans ?_
    unfold f_X10_planned_24
    exact a1
  refine ⟨s, ?_⟩
  rw [E]
  unfold f_X10_planned_105
  by_cases hm : s.1 = -1
  · rw [if_pos hm]
    exact ⟨τ1, rfl, by rw [hm], fun a h1 _ => a3 a h1, a4, fun j hj => a5 j (by omega), fun _ => ⟨a5 28 (by omega), a3 96 (by decide)⟩, fun h => absurd hm h⟩
  · rw [if_neg hm, bT_e, a2 hm, Int32.sub_eq_add_neg]
    obtain ⟨τ2, d1, d2, d3, d4, -⟩ := dgs_l s.1 n 10000 (up τ1 72 28 (nI n)) s.2 (by omega) hn (by omega)
    refine ⟨τ2, rfl, d1, fun a h1 h2 => by rw [d2 a h2, up_ne h1, a3 a h1], by rw [d3]; exact a4, fun j hj => by rw [d2 72 (by decide), up_at, upd_e, if_neg (by omega), a5 j (by omega)], fun h => absurd h hm, fun _ => ⟨by rw [d2 72 (by decide), up_at, upd_e, if_pos rfl], d4⟩⟩
