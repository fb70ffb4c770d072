theorem fw2_l (x1 : Int32) : ∀ (n p : Nat) (τ : St), p ≤ 4608 → 4608 - p < n → ∃ τ' : St, f_X10_findWays_2 n τ x1 (nI p) = f_X10_findWays_29 τ' x1 ∧ (∀ r, ¬ r = 97 → ¬ r = 98 → τ'.1 r = τ.1 r) ∧ τ'.2 = τ.2 ∧ (∀ z, p ≤ z → z < 4608 → τ'.1 97 z = 0 ∧ τ'.1 98 z = 0) ∧ ∀ z, z < p → τ'.1 97 z = τ.1 97 z ∧ τ'.1 98 z = τ.1 98 z := by
  intro n
  induction n with
  | zero => intro p τ h1 h2; omega
  | succ n ih =>
    intro p τ h1 h2
    rw [f_X10_findWays_2]
    by_cases hp : p = 4608
    · exact ⟨τ, by rw [if_pos (show (4608 : Int32) ≤ nI p by rw [hp]; exact Int32.le_refl _)], fun _ _ _ => rfl, rfl, fun z q1 q2 => by omega, fun _ _ => ⟨rfl, rfl⟩⟩
    · have hp' : p < 4608 := by omega
      rw [if_neg (show ¬ (4608 : Int32) ≤ nI p from nI_ge (a := p) (b := 4608) (by omega) (by omega)), aS_nI hp' (by decide), Option.bind_some, aS_nI hp' (by decide), Option.bind_some, nI_1]
      obtain ⟨τ', i1, i2, i3, i4, i5⟩ := ih (p + 1) (up (up τ 97 p 0) 98 p 0) (by omega) (by omega)
      have v97 : (up (up τ 97 p 0) 98 p 0).1 97 = upd (τ.1 97) p 0 := by rw [up_ne (by decide), up_at]
      have v98 : (up (up τ 97 p 0) 98 p 0).1 98 = upd (τ.1 98) p 0 := by rw [up_at, up_ne (by decide)]
      rw [v97, v98] at i5
      refine ⟨τ', i1, fun r q1 q2 => by rw [i2 r q1 q2, up_ne q2, up_ne q1], i3, fun z q1 q2 => ?_, fun z q1 => ?_⟩
      · by_cases hz : z = p
        · have := i5 z (by omega)
          rw [upd_e, upd_e, if_pos hz, if_pos hz] at this
          exact this
        · exact i4 z (by omega) q2
      · have := i5 z (by omega)
        rw [upd_e, upd_e, if_neg (by omega), if_neg (by omega)] at this
        exact this
/-- all ways through a log: class and reference count alike -/
theorem ways_s {σ τ0 : St} {f F : Nat} (hI : Inv σ) (hF : F ≤ 8) (e2 : σ.1 72 8 = nI F) (hf : f < F) (hr0 : ∀ r, r = 73 ∨ (77 ≤ r ∧ r ≤ 92) → τ0.1 r = σ.1 r) (h720 : τ0.1 72 0 = σ.1 72 0) (h721 : τ0.1 72 1 = σ.1 72 1) :
    ∃ (σ' τ' : St) (x y : Nat), f_X7_follow σ (40 + 4 * f) = some σ' ∧ f_X10_findWays τ0 (nI f) = some τ' ∧ x ≤ 1000000 ∧ y ≤ 1000000 ∧ σ'.1 19 4 = nI x ∧ σ'.1 19 5 = nI y ∧ τ'.1 72 39 = nI x ∧ τ'.1 72 40 = nI y ∧ (∀ r, ¬ (19 ≤ r ∧ r ≤ 27) → σ'.1 r = σ.1 r) ∧ InvW σ'.2 σ'.1 ∧ τ'.2 = τ0.2 ∧ (∀ r, ¬ r = 72 → ¬ (97 ≤ r ∧ r ≤ 100) → τ'.1 r = τ0.1 r) ∧ (∀ j, ¬ j = 39 → ¬ j = 40 → τ'.1 72 j = τ0.1 72 j) := by
  obtain ⟨⟨w, h, hw1, hw2, hh1, hh2, a1, a2, a3, a4, a5⟩, iA, iN, ⟨F', hF', e1, e2', h3⟩, iC, iP, iW, iI⟩ := hI
  have eF : F' = F := (nI_eq (by omega) (by omega)).mp (e2'.symm.trans e2)
  rw [eF] at h3
  obtain ⟨x, y, lv, t, ld, g, bs, e, b, hx, hy, hlv, hb, he1, he, ht, hld1, hld, hg, hbs, hM, hC, ⟨k3, k5, k6, k4⟩, hz, hlog⟩ := h3 f hf
  obtain ⟨hr, tr, d, hd, G1, G2⟩ : ∃ hr tr : Nat, (hr = 20 ∧ tr = 24 ∨ hr = 24 ∧ tr = 20) ∧ σ.2 = (hr, tr) ∧ FrOk (σ.1 hr) (σ.1 (hr + 1)) (σ.1 (hr + 2)) (σ.1 (hr + 3)) ∧ FrOk (σ.1 tr) (σ.1 (tr + 1)) (σ.1 (tr + 2)) (σ.1 (tr + 3)) := by
    obtain ⟨w1 | w1, w2, w3⟩ := iW
    · exact ⟨20, 24, Or.inl ⟨rfl, rfl⟩, w1, w2, w3⟩
    · exact ⟨24, 20, Or.inr ⟨rfl, rfl⟩, w1, w3, w2⟩
  obtain ⟨c0, l0, hc0, hl0, g90, g91, g2, g3, -⟩ := hlog 0 (by omega)
  rw [Nat.add_zero] at g90 g91
  obtain ⟨s, c1, c2, c3, c4, c5⟩ := clr_s G1
  obtain ⟨s5, t1, t2, t3, t4⟩ := ent_s (σ := s) (k := hr) (q := 8 * c0 + l0) (a := 1) (b := 0) (K := σ.1 73) (FrV_0 c4 c5) (by omega) (by omega) (by omega) (by omega) (fun j hj => by rw [c2 2 (by omega) (by omega) (by omega)]; exact (a5 j hj).1)
  have E1 : f_X7_follow σ (40 + 4 * f) = f_X7_follow_25 (40 + 4 * f) 10000 s5 (nI 1) := by
    unfold f_X7_follow
    rw [hd]
    dsimp only
    rw [c1, Option.bind_some, show aL s (40 + 4 * f + 2) 60 0 = some (s.1 (40 + 4 * f + 2) 0) from aL_nI (j := 0) (by omega) (by decide), Option.bind_some, c2 (40 + 4 * f + 2) (by omega) (by omega) (by omega), g2, c3, hd]
    dsimp only
    rw [show f_X7_enter s hr (nI (8 * c0 + l0)) 1 0 = some s5 from t1, Option.bind_some]
    rfl
  obtain ⟨τ1, b1, b2, b3, b4, -⟩ := fw2_l (nI f) 10000 0 τ0 (by omega) (by omega)
  have hq : 8 * c0 + l0 < 4608 := by omega
  have hf61 : (61 : Int32) * nI f = nI (61 * f) := by
    show nI 61 * nI f = _
    rw [pk_mul]
  obtain ⟨τ2, E2, r1, r2, r3⟩ : ∃ τ2 : St, f_X10_findWays τ0 (nI f) = f_X10_findWays_89 10000 τ2 (nI f) (nI 1) ∧ (∀ r, ¬ (97 ≤ r ∧ r ≤ 100) → τ2.1 r = τ0.1 r) ∧ τ2.2 = τ0.2 ∧ ∀ z, z < 4608 → τ2.1 97 z = nI (0 + if z = 8 * c0 + l0 then (if σ.1 73 ((8 * c0 + l0) / 8) = 2 then 0 else 1) else 0) ∧ τ2.1 98 z = nI (0 + if z = 8 * c0 + l0 then (if σ.1 73 ((8 * c0 + l0) / 8) = 2 then 1 + 0 else 0) else 0) := by
    have u : f_X10_findWays τ0 (nI f) = f_X10_findWays_29 τ1 (nI f) := b1
    rw [u]
    unfold f_X10_findWays_29
    rw [hf61, aL_nI (by omega) (by decide), Option.bind_some, aL_nI (by omega) (by decide), Option.bind_some, b2 90 (by decide) (by decide), b2 91 (by decide) (by decide), hr0 90 (by omega), hr0 91 (by omega), g90, g91, Option.bind_some, aL_nI hc0 (by decide), Option.bind_some, b2 73 (by decide) (by decide), hr0 73 (by omega), ix8, show (8 * c0 + l0) / 8 = c0 by omega]
    by_cases h2 : σ.1 73 c0 = 2
    · rw [if_pos h2, aS_nI hq (by decide), Option.bind_some]
      refine ⟨_, rfl, fun r hr => by rw [up_ne (by omega), b2 r (by omega) (by omega)], b3, fun z hz => ?_⟩
      rw [up_ne (show ¬ 97 = 98 by decide), up_at, upd_e, (b4 z (by omega) hz).1, (b4 z (by omega) hz).2, if_pos h2, if_pos h2]
      by_cases hzq : z = 8 * c0 + l0
      · rw [if_pos hzq, if_pos hzq, if_pos hzq]; exact ⟨rfl, rfl⟩
      · rw [if_neg hzq, if_neg hzq, if_neg hzq]; exact ⟨rfl, rfl⟩
    · rw [if_neg h2, aS_nI hq (by decide), Option.bind_some]
      refine ⟨_, rfl, fun r hr => by rw [up_ne (by omega), b2 r (by omega) (by omega)], b3, fun z hz => ?_⟩
      rw [up_ne (show ¬ 98 = 97 by decide), up_at, upd_e, (b4 z (by omega) hz).1, (b4 z (by omega) hz).2, if_neg h2, if_neg h2]
      by_cases hzq : z = 8 * c0 + l0
      · rw [if_pos hzq, if_pos hzq, if_pos hzq]; exact ⟨rfl, rfl⟩
      · rw [if_neg hzq, if_neg hzq, if_neg hzq]; exact ⟨rfl, rfl⟩
  rw [E1, E2]
  refine way_l (σ0 := σ) (τ0 := τ0) (f := f) (e := e) (bb := b) (w := w) (h := h) (K := σ.1 73) (by omega) he hb hw2 hh2 a3 a4 (h720.trans a1) (h721.trans a2) iN (hr0 77 (by omega)) (hr0 78 (by omega)) (fun j hj => (a5 j hj).1) (fun j _ => by rw [hr0 73 (by omega)]) k6 (by rw [hr0 88 (by omega)]; exact hM.2.2.2.2.2.2.2.1) k3 (by rw [hr0 89 (by omega)]; exact hM.2.2.2.2.2.2.2.2.1) (fun i hi => ?_) 10000 1 s5 τ2 _ _ hr tr d (by omega) he1 (by omega) (by rw [t3, c3]; exact hd) (fun r hr' => by rw [t2 r (by omega), c2 r (by omega) (by omega) (by omega)]) t4 (fun q => ⟨?_, ?_⟩) ?_ r2 r1 r3
  · obtain ⟨c, l, q1, q2, q3, q4, q5, q6, -⟩ := hlog i hi
    rw [hr0 90 (by omega), hr0 91 (by omega), hr0 92 (by omega)]
    exact ⟨c, l, q1, q2, q3, q4, q5, q6⟩
  · split
    · split <;> omega
    · omega
  · split
    · split <;> omega
    · omega
  · have z := fun (j : Nat) (hj : j ≤ 3) => (show s5.1 (tr + j) = σ.1 (tr + j) by rw [t2 (tr + j) (by omega), c2 (tr + j) (by omega) (by omega) (by omega)])
    rw [show s5.1 tr = σ.1 tr from z 0 (by omega), z 1 (by omega), z 2 (by omega), z 3 (by omega)]
    exact G2
/-- what the counts say of a log -/
def vdt (x y : Nat) : Int32 := if x = 0 then (if y = 0 then 1 else 2) else (if y = 0 then 0 else 1)
theorem vd_9 {σ : St} {x y : Nat} (hx : x ≤ 1000000) (hy : y ≤ 1000000) (h4 : σ.1 19 4 = nI x) (h5 : σ.1 19 5 = nI y) : f_X7_verdict σ = vdt x y := by
  unfold f_X7_verdict f_X7_verdict_16 vdt
  rw [h4, h5]
  by_cases h1 : x = 0
  · rw [if_pos (show nI x ≤ 0 by rw [h1]; exact Int32.le_refl _), if_pos (show nI x = 0 by rw [h1]; rfl), if_pos h1]
    by_cases h2 : y = 0
    · rw [if_pos (show nI y ≤ 0 by rw [h2]; exact Int32.le_refl _), if_pos h2]
    · rw [if_neg (show ¬ nI y ≤ 0 from nI_nle (by omega) (by omega)), if_neg h2]
  · rw [if_neg (show ¬ nI x ≤ 0 from nI_nle (by omega) (by omega)), if_neg (show ¬ nI x = 0 from nI_ne0 (by omega) (by omega)), if_neg h1]
    by_cases h2 : y = 0
    · rw [if_pos (show nI y = 0 by rw [h2]; rfl), if_pos h2]
    · rw [if_neg (show ¬ nI y = 0 from nI_ne0 (by omega) (by omega)), if_neg (show ¬ nI y ≤ 0 from nI_nle (by omega) (by omega)), if_neg h2]
theorem vd_10 {τ τ' : St} {p : Int32} {x y : Nat} (hx : x ≤ 1000000) (hy : y ≤ 1000000) (hw : f_X10_findWays τ p = some τ') (h4 : τ'.1 72 39 = nI x) (h5 : τ'.1 72 40 = nI y) : f_X10_judged τ p = some (vdt x y, τ') := by
  unfold f_X10_judged f_X10_judged_23 vdt
  rw [hw, Option.bind_some, h4, h5]
  by_cases h1 : x = 0
  · rw [if_pos (show nI x ≤ 0 by rw [h1]; exact Int32.le_refl _), if_pos (show nI x = 0 by rw [h1]; rfl), if_pos h1]
    by_cases h2 : y = 0
    · rw [if_pos (show nI y ≤ 0 by rw [h2]; exact Int32.le_refl _), if_pos h2]
    · rw [if_neg (show ¬ nI y ≤ 0 from nI_nle (by omega) (by omega)), if_neg h2]
  · rw [if_neg (show ¬ nI x ≤ 0 from nI_nle (by omega) (by omega)), if_neg (show ¬ nI x = 0 from nI_ne0 (by omega) (by omega)), if_neg h1]
    by_cases h2 : y = 0
    · rw [if_pos (show nI y = 0 by rw [h2]; rfl), if_pos h2]
    · rw [if_neg (show ¬ nI y = 0 from nI_ne0 (by omega) (by omega)), if_neg h2]
theorem Inv_j9 {σ s1 : St} (hI : Inv σ) (hr : ∀ r, ¬ r = 14 → ¬ (19 ≤ r ∧ r ≤ 27) → s1.1 r = σ.1 r) (hW : InvW s1.2 s1.1) : Inv s1 := by
  refine Inv_fr hI (fun a ha => hr a (by omega) (by omega)) (fun j _ => by rw [hr 72 (by omega) (by omega)]) ?_ hW
  rw [hr 15 (by omega) (by omega), hr 18 (by omega) (by omega), hr 72 (by omega) (by omega), hr 96 (by omega) (by omega)]
  exact hI.2.2.2.2.2.1
theorem Inv_j10 {σ s1 : St} (hI : Inv σ) (hr : ∀ r, ¬ r = 72 → ¬ (97 ≤ r ∧ r ≤ 102) → s1.1 r = σ.1 r) (h72 : ∀ j, ¬ j = 39 → ¬ j = 40 → s1.1 72 j = σ.1 72 j) (h2 : s1.2 = σ.2) : Inv s1 := by
  refine Inv_fr hI (fun a ha => hr a (by omega) (by omega)) (fun j hj => h72 j (by omega) (by omega)) ?_ ?_
  · rw [hr 15 (by omega) (by omega), hr 18 (by omega) (by omega), hr 96 (by omega) (by omega)]
    obtain ⟨n, q1, q2, q3, q4⟩ := hI.2.2.2.2.2.1
    exact ⟨n, q1, q2, by rw [h72 28 (by omega) (by omega)]; exact q3, q4⟩
  · rw [h2]
    exact InvW_congr (fun a ha => hr a (by omega) (by omega)) hI.2.2.2.2.2.2.1
/-- both sides, the reference behind the class -/
theorem ways_2 {σ : St} {f F : Nat} (hI : Inv σ) (hF : F ≤ 8) (e2 : σ.1 72 8 = nI F) (hf : f < F) : ∃ (s1 s2 : St) (x y : Nat), f_X7_follow σ (40 + 4 * f) = some s1 ∧ f_X10_findWays s1 (nI f) = some s2 ∧ x ≤ 1000000 ∧ y ≤ 1000000 ∧ s1.1 19 4 = nI x ∧ s1.1 19 5 = nI y ∧ s2.1 72 39 = nI x ∧ s2.1 72 40 = nI y ∧ s1.1 72 8 = nI F ∧ Inv s2 := by
  obtain ⟨s1, -, -, -, p1, -, -, -, -, -, -, -, p2, p3, -⟩ := ways_s (τ0 := σ) hI hF e2 hf (fun _ _ => rfl) rfl rfl
  obtain ⟨s1', s2, x, y, q1, q2, q3, q4, q5, q6, q7, q8, -, -, q9, q10, q11⟩ := ways_s (τ0 := s1) hI hF e2 hf (fun r hr => p2 r (by omega)) (by rw [p2 72 (by omega)]) (by rw [p2 72 (by omega)])
  have e : s1' = s1 := Option.some.inj (q1.symm.trans p1)
  rw [e] at q5 q6
  exact ⟨s1, s2, x, y, p1, q2, q3, q4, q5, q6, q7, q8, by rw [p2 72 (by omega)]; exact e2, Inv_j10 (Inv_j9 hI (fun r _ hr => p2 r hr) p3) (fun r g1 g2 => q10 r g1 (by omega)) q11 q9⟩
/-- promise 16: judge -/
theorem ms_judge : MS_judge Inv := by
  intro σ hI p1
  have hI' := hI
  obtain ⟨iL, iA, iN, ⟨F, hF, e1, e2, h3⟩, iC, iP, iW, iI⟩ := hI
  unfold f_X9_judge f_X10_judge f_X9_isFlight f_X10_isFlight
  rw [e1]
  by_cases h1 : f_X9_within p1 0 (nI F - 1) = 0
  · exact ⟨-2, σ, σ, by rw [if_pos h1], by rw [e2, in_eq, if_pos h1], hI'⟩
  obtain ⟨f, hf, rfl⟩ := wi_cnt (by omega) h1
  obtain ⟨s1, s2, x, y, q1, q2, hx, hy, q3, q4, q5, q6, q7, q8⟩ := ways_2 hI' hF e2 hf
  refine ⟨vdt x y, s1, s2, ?_, ?_, q8⟩
  · rw [if_neg h1, inB_nI (by omega) (by decide), Option.bind_some, q1, Option.bind_some, vd_9 hx hy q3 q4]
  · rw [q7, in_eq, if_neg h1, vd_10 hx hy q2 q5 q6, oB2_some]
/-- promise 17: ways -/
theorem ms_ways : MS_ways Inv := by
  intro σ hI p1 p2
  have hI' := hI
  obtain ⟨iL, iA, iN, ⟨F, hF, e1, e2, h3⟩, iC, iP, iW, iI⟩ := hI
  unfold f_X9_ways f_X10_ways f_X9_isFlight f_X10_isFlight
  rw [e1]
  by_cases h1 : f_X9_within p1 0 (nI F - 1) = 0
  · exact ⟨-2, σ, σ, by rw [if_pos h1], by rw [e2, in_eq, if_pos h1], hI'⟩
  obtain ⟨f, hf, rfl⟩ := wi_cnt (by omega) h1
  obtain ⟨s1, s2, x, y, q1, q2, hx, hy, q3, q4, q5, q6, q7, q8⟩ := ways_2 hI' hF e2 hf
  have sx : min 1000000 x = x := by omega
  by_cases h2 : p2 = 0
  · refine ⟨nI (min 1000000 (x + y)), s1, s2, ?_, ?_, q8⟩
    · rw [if_neg h1, inB_nI (by omega) (by decide), Option.bind_some, q1, Option.bind_some, if_pos h2, q3, q4]
      have := sat_c (x := x) (a := y) (by omega)
      rw [sx] at this
      rw [this]
    · rw [q7, in_eq, if_neg h1, q2, Option.bind_some, if_pos h2, q5, q6]
      have := sat_r (x := x) (a := y) (by omega)
      rw [sx] at this
      rw [this]
  · exact ⟨nI y, s1, s2, by rw [if_neg h1, inB_nI (by omega) (by decide), Option.bind_some, q1, Option.bind_some, if_neg h2, q4], by rw [q7, in_eq, if_neg h1, q2, Option.bind_some, if_neg h2, q6], q8⟩
