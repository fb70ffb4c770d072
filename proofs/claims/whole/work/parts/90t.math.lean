/-- promise 8: go -/
theorem ms_go : MS_go Inv := by
  intro σ hI p1 p2 p3 p4
  have hI' := hI
  obtain ⟨⟨w, h, hw1, hw2, hh1, hh2, a1, a2, a3, a4, a5⟩, iA, iN, ⟨F, hF, e1, e2, h3⟩, iC, iP, iW, iI⟩ := hI
  unfold f_X9_go f_X10_go f_X9_isFlight f_X10_isFlight
  simp only [in_eq, e1]
  by_cases h1 : f_X9_within p1 0 (nI F - 1) = 0
  · exact ⟨-2, σ, σ, by rw [if_pos h1], by rw [e2, if_pos h1], hI'⟩
  by_cases h2 : f_X9_within p2 0 2 = 0
  · exact ⟨-2, σ, σ, by rw [if_neg h1, if_pos h2], by rw [e2, if_neg h1, if_pos h2], hI'⟩
  by_cases h4 : f_X9_within p3 1 50 = 0
  · exact ⟨-2, σ, σ, by rw [if_neg h1, if_neg h2, if_pos h4], by rw [e2, if_neg h1, if_neg h2, if_pos h4], hI'⟩
  by_cases h5 : f_X9_within p4 1 12 = 0
  · exact ⟨-2, σ, σ, by rw [if_neg h1, if_neg h2, if_neg h4, if_pos h5], by rw [e2, if_neg h1, if_neg h2, if_neg h4, if_pos h5], hI'⟩
  obtain ⟨f, hf, rfl⟩ := wi_cnt (by omega) h1
  obtain ⟨o, ho, rfl⟩ := wi_nI (n := 2) (by decide) h2
  obtain ⟨d, hd1, hd, rfl⟩ := wi_rng (a := 1) (b := 50) (by omega) (by omega) h4
  obtain ⟨m, hm1, hm, rfl⟩ := wi_rng (a := 1) (b := 12) (by omega) (by omega) h5
  have hfl := h3 f hf
  obtain ⟨x, y, lv, t, ld, g, bs, e, b, hx, hy, hlv, hb, he1, he, ht, hld1, hld, hg, hbs, ⟨m1, m2, m3, m4, m5, m6, m7, m8, m9, m10, m11⟩, ⟨c1, c2, c3, c4, c5, c6, c7, c8⟩, ⟨d1, d2, d3, d4⟩, hz, hlog⟩ := id hfl
  simp only [if_neg h1, if_neg h2, if_neg h4, if_neg h5, inB_nI (show f < 8 by omega) (show 8 < 2 ^ 31 by decide), Option.bind_some, c8, d1]
  by_cases hdn : ¬ σ.1 87 f = 0
  · exact ⟨-3, σ, σ, by rw [if_neg hdn], by rw [e2, if_neg h1, aL_nI (by omega) (by decide), Option.bind_some, if_neg hdn], hI'⟩
  have hdn0 : σ.1 87 f = 0 := Decidable.of_not_not hdn
  by_cases hfull : ¬ nI e + nI m ≤ 60
  · exact ⟨-4, σ, σ, by rw [if_pos hdn0, if_neg hfull], by rw [e2, if_neg h1, aL_nI (by omega) (by decide), Option.bind_some, if_pos hdn0, aL_nI (by omega) (by decide), Option.bind_some, m9, if_neg hfull], hI'⟩
  have hroom0 : nI e + nI m ≤ 60 := Decidable.of_not_not hfull
  have hroom : e + m ≤ 60 := by
    rw [nI_add] at hroom0
    exact (nI_leI (a := e + m) (b := 60) (by omega) (by omega)).mp hroom0
  obtain ⟨r, sc, s, g1, g2, g3, g4, g5, g6, g7, g8, g9, g10, g11⟩ := go_l (w := w) (h := h) (f := f) (o := o) (d := d) (m := m) hw2 hh2 (by omega) ho hd hm 10000 0 e σ σ (by omega) (by omega) (by omega) a3 a4 a1 a2 iA (fun _ _ _ => rfl) (fun i hi => ⟨(iN.1 i hi).1, (iN.1 i hi).2.1⟩) ((FlO2_self σ.1 f).mpr hfl) m9
  have sc72 : ∀ k, 72 ≤ k → sc.1 k = σ.1 k := fun k hk => g6 k (by omega)
  obtain ⟨r', sc', s', k1, k2, k3, k4, k5, k6, k7, k8, k9, k10, k11⟩ := go_l (w := w) (h := h) (f := f) (o := o) (d := d) (m := m) hw2 hh2 (by omega) ho hd hm 10000 0 e σ sc (by omega) (by omega) (by omega) a3 a4 (by rw [sc72 72 (by omega)]; exact a1) (by rw [sc72 72 (by omega)]; exact a2) iA (fun k q1 q2 => sc72 k (by omega)) (fun i hi => ⟨(iN.1 i hi).1, (iN.1 i hi).2.1⟩) (FlO2_r (fun k q1 q2 => sc72 k (by omega)) ((FlO2_self σ.1 f).mpr hfl)) (by rw [sc72 89 (by omega)]; exact m9)
  rw [g1] at k1
  cases k1
  rw [nI_0] at g1 k2
  refine ⟨r, sc, s', by rw [if_pos hdn0, if_pos hroom0]; exact g1, ?_, ?_⟩
  · rw [sc72 72 (by omega), e2, if_neg h1, aL_nI (by omega) (by decide), Option.bind_some, sc72 87 (by omega), if_pos hdn0, aL_nI (by omega) (by decide), Option.bind_some, sc72 89 (by omega), m9, if_pos hroom0]
    exact k2
  · refine Inv_go hI' (fun a q1 q2 q3 => by rw [k7 a q2 (by omega), g6 a (by omega)]) (k5.trans g4) (fun j hj => by rw [k8 j (by omega), sc72 72 (by omega)]) ?_ (fun w' h' f' F' q1 q2 q3 q4 q5 q6 q7 => by
      rw [k8 _ (by omega), sc72 72 (by omega)] at q1 q2 q3
      by_cases hff : f' = f
      · subst hff
        obtain rfl : w = w' := (nI_eq (by omega) (by omega)).mp (a1.symm.trans q1)
        obtain rfl : h = h' := (nI_eq (by omega) (by omega)).mp (a2.symm.trans q2)
        refine k11 ?_
        rw [sc72 79 (by omega), sc72 80 (by omega)]
        exact iI w h f' F q1 q2 e2 q4 q5 hF hf
      · rw [k9 79 f' (by omega) (by omega) hff, k9 80 f' (by omega) (by omega) hff, sc72 79 (by omega), sc72 80 (by omega)]
        exact iI w' h' f' F' q1 q2 q3 q4 q5 q6 q7)
    rw [k7 0 (by omega) (by omega), g6 0 (by omega), k8 8 (by omega), sc72 72 (by omega)]
    refine ⟨F, hF, e1, e2, fun f' hf' => ?_⟩
    by_cases hff : f' = f
    · subst hff
      exact (FlO2_self s'.1 f').mp (FlO2_l (fun q hq => k7 _ (by omega) (by omega)) k3)
    · exact FlOk_congr (fun k q1 q2 => by rw [k9 k f' q1 q2 hff, sc72 k (by omega)]) (fun i hi => ⟨by rw [k10 90 _ (by omega) (by omega) (by omega), sc72 90 (by omega)], by rw [k10 91 _ (by omega) (by omega) (by omega), sc72 91 (by omega)], by rw [k10 92 _ (by omega) (by omega) (by omega), sc72 92 (by omega)]⟩) (fun q hq => by rw [k7 _ (by omega) (by omega), g6 _ (by omega)]) (h3 f' hf')
