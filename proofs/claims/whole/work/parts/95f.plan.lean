/-- a plan: class and reference alike -/
theorem plan_2 {σ : St} {f F n d aim : Nat} {p5 far : Int32} {nr : Bool} (h5 : p5 = 1 ∧ nr = true ∨ p5 = 0 ∧ nr = false) (hfar : far = 0 ∧ nr = true ∨ far = 1 ∧ nr = false) (hI : Inv σ) (hF : F ≤ 8) (e2 : σ.1 72 8 = nI F) (hf : f < F) (hn : n ≤ 6) (hd : d ≤ 50) (haim : aim < 576) (h87 : σ.1 87 f = 0) :
    ∃ (r : Int32) (s1 s2 : St), f_X6_best σ (40 + 4 * f + 1) (nI n) (nI d) (nI aim) p5 = some (r, s1) ∧ f_X10_planned s1 (nI f) (nI n) (nI d) (nI (aim % 24)) (nI (aim / 24)) far = some (r, s2) ∧ Inv s2 ∧ ∀ a, 40 ≤ a → s1.1 a = σ.1 a := by
  have hI' := hI
  obtain ⟨⟨w, h, hw1, hw2, hh1, hh2, a1, a2, a3, a4, a5⟩, iA, iN, ⟨F', hF', e1, e2', h3⟩, iC, iP, iW, iI⟩ := hI
  have eF : F' = F := (nI_eq (by omega) (by omega)).mp (e2'.symm.trans e2)
  rw [eF] at h3
  obtain ⟨x, y, lv, t, ld, g, bs, e, b, hx, hy, hlv, hb, he1, he, ht, hld1, hld, hg, hbs, ⟨m79, m80, m81, m82, m83, m84, m85, -, -, -, mlv⟩, ⟨c0, c1, c2, c3, c4, c5, c6, c7⟩, -⟩ := h3 f hf
  have hlv1 := mlv h87
  have B : BaO σ (40 + 4 * f + 1) t ld (24 * y + x, lv, g, bs) := ⟨c0, c1, c2, c3, c4, c5, by rw [c7, h87]; exact (if_neg (by dsimp only; omega)).symm⟩
  obtain ⟨s1, b1, b2⟩ := best_s (σ := σ) (K := σ.1 73) (nr := nr) (n := n) (d := d) (aim := aim) (k1 := 40 + 4 * f + 1) h5 hw2 hh2 a3 a4 a1 a2 iA iN (fun j hj => (a5 j hj).1) hn hd hld (by omega) haim (by omega) ⟨by dsimp only; omega, hlv, hg, hbs⟩ B
  obtain ⟨q1, q2, ⟨q6, q7, q8, q9, q10⟩, q4, q5⟩ := b2
  obtain ⟨s, s2, r0, r1, r2, r3, r4, r5, r6⟩ := pld_s (σ0 := σ) (τ := s1) (K := σ.1 73) (nr := nr) (n := n) (d := d) (aim := aim) hfar hw2 hh2 a3 a4 a1 a2 iA iN rfl (by omega) hn hd hld (by omega) haim m82 m83 m79 m80 m81 m84 m85 hx hy hlv1 hlv hg hbs (by rw [q1 72 (by omega) (by omega) (by omega) (by omega)]; exact a1) (by rw [q1 72 (by omega) (by omega) (by omega) (by omega)]; exact a2) (fun r hr => q1 r (by omega) (by omega) (by omega) (by omega))
  rw [← r0] at b1 q4 q5
  refine ⟨s.1, s1, s2, b1, r1, ?_, fun a ha => q1 a (by omega) (by omega) (by omega) (by omega)⟩
  refine Inv_fr hI' (fun a ha => by rw [r2 a (by omega) (by omega), q1 a (by omega) (by omega) (by omega) (by omega)]) (fun j hj => by rw [r4 j (by omega), q1 72 (by omega) (by omega) (by omega) (by omega)]) ?_ ?_
  · rw [r2 15 (by omega) (by omega), r2 18 (by omega) (by omega)]
    by_cases hm : s.1 = -1
    · obtain ⟨z1, z2⟩ := q4 hm
      obtain ⟨z3, z4⟩ := r5 hm
      obtain ⟨n', g1, g2, g3, g4⟩ := iP
      rw [z2, z4, q1 96 (by omega) (by omega) (by omega) (by omega)]
      exact ⟨n', g1, by rw [z1]; exact g2, by rw [z3, q1 72 (by omega) (by omega) (by omega) (by omega)]; exact g3, g4⟩
    · obtain ⟨z1, z2⟩ := q5 hm
      obtain ⟨z3, z4⟩ := r6 hm
      exact ⟨n, hn, z1, z3, fun i hi => by rw [z2 i hi, z4 i hi]⟩
  · rw [r3, q2]
    exact InvW_congr (fun a ha => by rw [r2 a (by omega) (by omega), q1 a (by omega) (by omega) (by omega) (by omega)]) iW
/-- promise 11: plan -/
theorem ms_plan : MS_plan Inv := by
  intro σ hI p1 p2 p3 p4 p5
  have hI' := hI
  obtain ⟨⟨w, h, hw1, hw2, hh1, hh2, a1, a2, a3, a4, a5⟩, iA, iN, ⟨F, hF, e1, e2, h3⟩, iC, iP, iW, iI⟩ := hI
  unfold f_X9_plan f_X10_plan f_X9_mayPlan f_X9_isFlight f_X10_isFlight
  rw [e1]
  by_cases h1 : f_X9_within p1 0 (nI F - 1) = 0
  · exact ⟨-2, σ, σ, by rw [if_pos h1, if_pos rfl], by rw [e2, in_eq, if_pos h1], hI'⟩
  by_cases h2 : f_X9_within p2 1 6 = 0
  · exact ⟨-2, σ, σ, by rw [if_neg h1, if_pos h2, if_pos rfl], by rw [e2, in_eq, if_neg h1, in_eq, if_pos h2], hI'⟩
  by_cases h3' : f_X9_within p3 1 50 = 0
  · exact ⟨-2, σ, σ, by rw [if_neg h1, if_neg h2, if_pos h3', if_pos rfl], by rw [e2, in_eq, if_neg h1, in_eq, if_neg h2, in_eq, if_pos h3'], hI'⟩
  by_cases h4 : f_X5_has σ p4 p5 = 0
  · exact ⟨-2, σ, σ, by rw [if_neg h1, if_neg h2, if_neg h3', if_neg (by decide), if_pos h4], by rw [e2, in_eq, if_neg h1, in_eq, if_neg h2, in_eq, if_neg h3', isCell_eq (τ := σ) (a1.trans a3.symm) (a2.trans a4.symm), if_pos h4], hI'⟩
  obtain ⟨f, hf, rfl⟩ := wi_cnt (by omega) h1
  obtain ⟨n, hn1, hn, rfl⟩ := wi_rng (a := 1) (b := 6) (by omega) (by omega) h2
  obtain ⟨d, hd1, hd, rfl⟩ := wi_rng (a := 1) (b := 50) (by omega) (by omega) h3'
  obtain ⟨x0, y0, hx0, hy0, rfl, rfl⟩ := has_in hw2 hh2 a3 a4 h4
  have c7 : σ.1 (40 + 4 * f + 1) 7 = σ.1 87 f := by
    obtain ⟨x, y, lv, t, ld, g, bs, e, b, hx, hy, hlv, hb, he1, he, ht, hld1, hld, hg, hbs, hM, ⟨-, -, -, -, -, -, -, c7⟩, -⟩ := h3 f hf
    exact c7
  by_cases h87 : σ.1 87 f = 0
  · obtain ⟨r, s1, s2, q1, q2, q3, q4⟩ := plan_2 (n := n) (d := d) (aim := 24 * y0 + x0) (p5 := 1) (far := 0) (nr := true) (Or.inl ⟨rfl, rfl⟩) (Or.inl ⟨rfl, rfl⟩) hI' hF e2 hf hn hd (by omega) h87
    rw [show (24 * y0 + x0) % 24 = x0 by omega, show (24 * y0 + x0) / 24 = y0 by omega] at q2
    refine ⟨r, s1, s2, ?_, ?_, q3⟩
    · rw [if_neg h1, if_neg h2, if_neg h3', if_neg (by decide), if_neg h4, inB_nI (by omega) (by decide), Option.bind_some, c7, if_pos h87, cO, q1, oB2_some]
    · rw [q4 72 (by omega), e2, in_eq, if_neg h1, in_eq, if_neg h2, in_eq, if_neg h3', isCell_eq (τ := σ) (by rw [q4 72 (by omega)]; exact a1.trans a3.symm) (by rw [q4 72 (by omega)]; exact a2.trans a4.symm), if_neg h4, aL_nI (by omega) (by decide), Option.bind_some, q4 87 (by omega), if_pos h87, q2, oB2_some]
  · refine ⟨-3, σ, σ, ?_, ?_, hI'⟩
    · rw [if_neg h1, if_neg h2, if_neg h3', if_neg (by decide), if_neg h4, inB_nI (by omega) (by decide), Option.bind_some, c7, if_neg h87]
    · rw [e2, in_eq, if_neg h1, in_eq, if_neg h2, in_eq, if_neg h3', isCell_eq (τ := σ) (a1.trans a3.symm) (a2.trans a4.symm), if_neg h4, aL_nI (by omega) (by decide), Option.bind_some, if_neg h87]
/-- promise 12: away -/
theorem ms_away : MS_away Inv := by
  intro σ hI p1 p2 p3
  have hI' := hI
  obtain ⟨⟨w, h, hw1, hw2, hh1, hh2, a1, a2, a3, a4, a5⟩, iA, iN, ⟨F, hF, e1, e2, h3⟩, iC, iP, iW, iI⟩ := hI
  unfold f_X9_away f_X10_away f_X9_mayPlan f_X9_isFlight f_X10_isFlight
  rw [e1]
  by_cases h1 : f_X9_within p1 0 (nI F - 1) = 0
  · exact ⟨-2, σ, σ, by rw [if_pos h1, if_pos rfl], by rw [e2, in_eq, if_pos h1], hI'⟩
  by_cases h2 : f_X9_within p2 1 6 = 0
  · exact ⟨-2, σ, σ, by rw [if_neg h1, if_pos h2, if_pos rfl], by rw [e2, in_eq, if_neg h1, in_eq, if_pos h2], hI'⟩
  by_cases h3' : f_X9_within p3 1 50 = 0
  · exact ⟨-2, σ, σ, by rw [if_neg h1, if_neg h2, if_pos h3', if_pos rfl], by rw [e2, in_eq, if_neg h1, in_eq, if_neg h2, in_eq, if_pos h3'], hI'⟩
  obtain ⟨f, hf, rfl⟩ := wi_cnt (by omega) h1
  obtain ⟨n, hn1, hn, rfl⟩ := wi_rng (a := 1) (b := 6) (by omega) (by omega) h2
  obtain ⟨d, hd1, hd, rfl⟩ := wi_rng (a := 1) (b := 50) (by omega) (by omega) h3'
  obtain ⟨c, hc, c7, k5, q90⟩ : ∃ c : Nat, c < 576 ∧ σ.1 (40 + 4 * f + 1) 7 = σ.1 87 f ∧ σ.1 (40 + 4 * f) 5 = nI c ∧ σ.1 90 (61 * f) = nI c := by
    obtain ⟨x, y, lv, t, ld, g, bs, e, b, hx, hy, hlv, hb, he1, he, ht, hld1, hld, hg, hbs, hM, ⟨-, -, -, -, -, -, -, c7⟩, ⟨-, k5, -⟩, -, hlog⟩ := h3 f hf
    obtain ⟨c, l, hc, hl, q1, -⟩ := hlog 0 (by omega)
    rw [Nat.add_zero] at q1
    exact ⟨c, hc, c7, k5.trans q1, q1⟩
  have e61 : (61 : Int32) * nI f = nI (61 * f) := pk_mul 61 f
  have x24 : nI c - nI c / 24 * 24 = nI (c % 24) := xOf_n hc
  have y24 : nI c / 24 = nI (c / 24) := yOf_n hc
  by_cases h87 : σ.1 87 f = 0
  · obtain ⟨r, s1, s2, q1, q2, q3, q4⟩ := plan_2 (n := n) (d := d) (aim := c) (p5 := 0) (far := 1) (nr := false) (Or.inr ⟨rfl, rfl⟩) (Or.inr ⟨rfl, rfl⟩) hI' hF e2 hf hn hd hc h87
    refine ⟨r, s1, s2, ?_, ?_, q3⟩
    · rw [if_neg h1, if_neg h2, if_neg h3', if_neg (by decide), inB_nI (by omega) (by decide), Option.bind_some, c7, if_pos h87, Option.bind_some, k5, q1, oB2_some]
    · rw [q4 72 (by omega), e2, in_eq, if_neg h1, in_eq, if_neg h2, in_eq, if_neg h3', aL_nI (by omega) (by decide), Option.bind_some, q4 87 (by omega), if_pos h87, e61, aL_nI (by omega) (by decide), Option.bind_some, Option.bind_some, q4 90 (by omega), q90, x24, y24, q2, oB2_some]
  · refine ⟨-3, σ, σ, ?_, ?_, hI'⟩
    · rw [if_neg h1, if_neg h2, if_neg h3', if_neg (by decide), inB_nI (by omega) (by decide), Option.bind_some, c7, if_neg h87]
    · rw [e2, in_eq, if_neg h1, in_eq, if_neg h2, in_eq, if_neg h3', aL_nI (by omega) (by decide), Option.bind_some, if_neg h87]
