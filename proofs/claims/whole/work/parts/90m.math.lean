theorem wt_s {σ : St} {f e x y l : Nat} (hf : f < 8) (he : e < 61) (h89 : σ.1 89 f = nI e) (h79 : σ.1 79 f = nI x) (h80 : σ.1 80 f = nI y) (h81 : σ.1 81 f = nI l) : f_X10_writes σ (nI f) = some (up (up (up (up σ 90 (61 * f + e) (nI (24 * y + x))) 91 (61 * f + e) (nI l)) 92 (61 * f + e) 0) 89 f (nI (e + 1))) := by
  have hi : 61 * f + e < 488 := by omega
  unfold f_X10_writes
  simp only [aL_nI hf (show 8 < 2 ^ 31 by decide), Option.bind_some, h89, h80, h79, ix61, ix24, aS_nI hi (show 488 < 2 ^ 31 by decide), up1, Nat.reduceEqDiff, if_false, h81, vn0, nI_1, aS_nI hf (show 8 < 2 ^ 31 by decide)]
/-- promise 7: fly -/
theorem ms_fly : MS_fly Inv := by
  intro σ hI p1 p2 p3 p4 p5 p6
  have hI' := hI
  obtain ⟨⟨w, h, hw1, hw2, hh1, hh2, a1, a2, a3, a4, a5⟩, iA, iN, ⟨F, hF, e1, e2, h3⟩, iC, iP, iW, iI⟩ := hI
  unfold f_X9_fly f_X10_fly
  simp only [in_eq]
  have hce : f_X10_isCell σ p1 p2 = f_X5_has σ p1 p2 := isCell_eq (a1.trans a3.symm) (a2.trans a4.symm) p1 p2
  by_cases h1 : f_X5_has σ p1 p2 = 0
  · exact ⟨-2, σ, σ, by rw [if_pos h1], by rw [hce, if_pos h1], hI'⟩
  by_cases h2 : f_X9_within p3 0 23 = 0
  · exact ⟨-2, σ, σ, by rw [if_neg h1, if_pos h2], by rw [hce, if_neg h1, if_pos h2], hI'⟩
  by_cases h4 : f_X9_within p4 1 200 = 0
  · exact ⟨-2, σ, σ, by rw [if_neg h1, if_neg h2, if_pos h4], by rw [hce, if_neg h1, if_neg h2, if_pos h4], hI'⟩
  by_cases h5 : f_X9_within p5 0 500 = 0
  · exact ⟨-2, σ, σ, by rw [if_neg h1, if_neg h2, if_neg h4, if_pos h5], by rw [hce, if_neg h1, if_neg h2, if_neg h4, if_pos h5], hI'⟩
  by_cases h6 : f_X9_within p6 0 200 = 0
  · exact ⟨-2, σ, σ, by rw [if_neg h1, if_neg h2, if_neg h4, if_neg h5, if_pos h6], by rw [hce, if_neg h1, if_neg h2, if_neg h4, if_neg h5, if_pos h6], hI'⟩
  obtain ⟨x, y, hx, hy, rfl, rfl⟩ := has_in hw2 hh2 a3 a4 h1
  obtain ⟨t, ht, rfl⟩ := wi_nI (n := 23) (by decide) h2
  obtain ⟨ld, hld1, hld, rfl⟩ := wi_rng (a := 1) (b := 200) (by omega) (by omega) h4
  obtain ⟨g, hg, rfl⟩ := wi_nI (n := 500) (by decide) h5
  obtain ⟨bs, hbs, rfl⟩ := wi_nI (n := 200) (by decide) h6
  have hi : 24 * y + x < 576 := by omega
  simp only [if_neg h1, if_neg h2, if_neg h4, if_neg h5, if_neg h6, cO, ix24, aL_nI hi (by decide), Option.bind_some, (a5 _ hi).1, e1]
  by_cases h7 : σ.1 73 (24 * y + x) = 2
  · exact ⟨-3, σ, σ, by rw [if_pos h7], by rw [hce, if_neg h1, if_pos h7], hI'⟩
  by_cases h8 : F = 8
  · refine ⟨-4, σ, σ, by rw [if_neg h7, if_neg (by rw [h8]; decide)], ?_, hI'⟩
    rw [hce, if_neg h1, if_neg h7, e2, if_pos (by rw [h8]; rfl)]
  have hF8 : F < 8 := by omega
  obtain ⟨s, hs, r1, r2, ⟨k1, k2, k3, k4⟩, ⟨c1, c2, c3, c4, c5, c6, c7, c8⟩, l1, l2⟩ := begin_s σ (40 + 4 * F) (24 * y + x) t ld g bs
  have rr : ∀ a, ¬ ((40 ≤ a ∧ a < 72)) → s.1 a = σ.1 a := fun a ha => r1 a (by omega) (by omega) (by omega) (by omega)
  rw [if_neg h7, if_pos (show nI F < 8 from nI_lt (a := F) (b := 8) hF8 (by omega)), inB_nI hF8 (by decide), Option.bind_some, hs, Option.bind_some, bT_e]
  have hs0 : s.1 0 4 = nI F := by rw [rr 0 (by omega)]; exact e1
  rw [hs0, nI_1]
  generalize hs1 : up s 0 4 (nI (F + 1)) = s1
  have q1 : ∀ a, ¬ a = 0 → s1.1 a = s.1 a := fun a ha => by rw [← hs1, up_ne ha]
  have v0 : s1.1 0 4 = nI (F + 1) := by rw [← hs1, up_at, upd_e, if_pos rfl]
  have qq : ∀ a, ¬ a = 0 → ¬ (40 ≤ a ∧ a < 72) → s1.1 a = σ.1 a := fun a g1 g2 => by rw [q1 a g1, rr a g2]
  have m72 : s1.1 72 = σ.1 72 := qq 72 (by omega) (by omega)
  obtain ⟨τ, hτ⟩ : ∃ τ, τ = up (up (up (up (up (up (up (up (up (up (up (up s1 72 8 (nI (F + 1))) 79 F (nI x)) 80 F (nI y)) 81 F 1) 82 F (nI t)) 88 F (nI t)) 83 F (nI ld)) 84 F (nI g)) 85 F (nI bs)) 86 F 0) 87 F 0) 89 F 0 := ⟨_, rfl⟩
  have hwt := wt_s (σ := τ) (f := F) (e := 0) (x := x) (y := y) (l := 1) hF8 (by omega) (by rw [hτ]; simp [upP]; rfl) (by rw [hτ]; simp [upP]) (by rw [hτ]; simp [upP]) (by rw [hτ]; simp [upP]; rfl)
  refine ⟨nI F, s1, up (up (up (up τ 90 (61 * F + 0) (nI (24 * y + x))) 91 (61 * F + 0) (nI 1)) 92 (61 * F + 0) 0) 89 F (nI (0 + 1)), by rw [v0, nI_pred], ?_, ?_⟩
  · have hce1 : f_X10_isCell s1 (nI x) (nI y) = f_X5_has σ (nI x) (nI y) := isCell_eq (by rw [m72]; exact a1.trans a3.symm) (by rw [m72]; exact a2.trans a4.symm) _ _
    rw [hce1, if_neg h1, qq 73 (by omega) (by omega), if_neg h7, m72, e2, if_neg (show ¬ nI F = 8 from fun gq => h8 ((nI_eq (a := F) (b := 8) (by omega) (by omega)).mp gq)), bT_e, nI_1]
    simp only [aS_nI hF8 (show 8 < 2 ^ 31 by decide), Option.bind_some, vn0]
    rw [← hτ, hwt, Option.bind_some]
  · have st : ∀ a, ¬ a = 72 → ¬ (79 ≤ a ∧ a ≤ 92) → (up (up (up (up τ 90 (61 * F + 0) (nI (24 * y + x))) 91 (61 * F + 0) (nI 1)) 92 (61 * F + 0) 0) 89 F (nI (0 + 1))).1 a = s1.1 a := fun a g1 g2 => by
      rw [up_ne (by omega), up_ne (by omega), up_ne (by omega), up_ne (by omega), hτ, up_ne (by omega), up_ne (by omega), up_ne (by omega), up_ne (by omega), up_ne (by omega), up_ne (by omega), up_ne (by omega), up_ne (by omega), up_ne (by omega), up_ne (by omega), up_ne (by omega), up_ne g1]
    have s72 : ∀ j, (up (up (up (up τ 90 (61 * F + 0) (nI (24 * y + x))) 91 (61 * F + 0) (nI 1)) 92 (61 * F + 0) 0) 89 F (nI (0 + 1))).1 72 j = if j = 8 then nI (F + 1) else σ.1 72 j := fun j => by
      rw [hτ]
      simp [upP, m72]
    have sm : ∀ k f, 79 ≤ k → k ≤ 89 → ¬ f = F → (up (up (up (up τ 90 (61 * F + 0) (nI (24 * y + x))) 91 (61 * F + 0) (nI 1)) 92 (61 * F + 0) 0) 89 F (nI (0 + 1))).1 k f = σ.1 k f := fun k f g1 g2 g3 => by
      rw [hτ]
      simp only [upP, g3, and_false, if_false]
      rw [if_neg (by omega), if_neg (by omega), if_neg (by omega), if_neg (by omega), qq k (by omega) (by omega)]
    have sl : ∀ k i, 90 ≤ k → k ≤ 92 → ¬ i = 61 * F + 0 → (up (up (up (up τ 90 (61 * F + 0) (nI (24 * y + x))) 91 (61 * F + 0) (nI 1)) 92 (61 * F + 0) 0) 89 F (nI (0 + 1))).1 k i = σ.1 k i := fun k i g1 g2 g3 => by
      rw [hτ]
      simp only [upP, g3, and_false, if_false]
      repeat rw [if_neg (by omega)]
      rw [qq k (by omega) (by omega)]
    have n79 : (up (up (up (up τ 90 (61 * F + 0) (nI (24 * y + x))) 91 (61 * F + 0) (nI 1)) 92 (61 * F + 0) 0) 89 F (nI (0 + 1))).1 79 F = nI x := by rw [hτ]; simp [upP]
    have n80 : (up (up (up (up τ 90 (61 * F + 0) (nI (24 * y + x))) 91 (61 * F + 0) (nI 1)) 92 (61 * F + 0) 0) 89 F (nI (0 + 1))).1 80 F = nI y := by rw [hτ]; simp [upP]
    have n81 : (up (up (up (up τ 90 (61 * F + 0) (nI (24 * y + x))) 91 (61 * F + 0) (nI 1)) 92 (61 * F + 0) 0) 89 F (nI (0 + 1))).1 81 F = nI 1 := by rw [hτ]; simp [upP]; rfl
    have n82 : (up (up (up (up τ 90 (61 * F + 0) (nI (24 * y + x))) 91 (61 * F + 0) (nI 1)) 92 (61 * F + 0) 0) 89 F (nI (0 + 1))).1 82 F = nI t := by rw [hτ]; simp [upP]
    have n83 : (up (up (up (up τ 90 (61 * F + 0) (nI (24 * y + x))) 91 (61 * F + 0) (nI 1)) 92 (61 * F + 0) 0) 89 F (nI (0 + 1))).1 83 F = nI ld := by rw [hτ]; simp [upP]
    have n84 : (up (up (up (up τ 90 (61 * F + 0) (nI (24 * y + x))) 91 (61 * F + 0) (nI 1)) 92 (61 * F + 0) 0) 89 F (nI (0 + 1))).1 84 F = nI g := by rw [hτ]; simp [upP]
    have n85 : (up (up (up (up τ 90 (61 * F + 0) (nI (24 * y + x))) 91 (61 * F + 0) (nI 1)) 92 (61 * F + 0) 0) 89 F (nI (0 + 1))).1 85 F = nI bs := by rw [hτ]; simp [upP]
    have n86 : (up (up (up (up τ 90 (61 * F + 0) (nI (24 * y + x))) 91 (61 * F + 0) (nI 1)) 92 (61 * F + 0) 0) 89 F (nI (0 + 1))).1 86 F = 0 := by rw [hτ]; simp [upP]
    have n87 : (up (up (up (up τ 90 (61 * F + 0) (nI (24 * y + x))) 91 (61 * F + 0) (nI 1)) 92 (61 * F + 0) 0) 89 F (nI (0 + 1))).1 87 F = 0 := by rw [hτ]; simp [upP]
    have n88 : (up (up (up (up τ 90 (61 * F + 0) (nI (24 * y + x))) 91 (61 * F + 0) (nI 1)) 92 (61 * F + 0) 0) 89 F (nI (0 + 1))).1 88 F = nI t := by rw [hτ]; simp [upP]
    have n89 : (up (up (up (up τ 90 (61 * F + 0) (nI (24 * y + x))) 91 (61 * F + 0) (nI 1)) 92 (61 * F + 0) 0) 89 F (nI (0 + 1))).1 89 F = nI 1 := by simp [upP]
    have n90 : (up (up (up (up τ 90 (61 * F + 0) (nI (24 * y + x))) 91 (61 * F + 0) (nI 1)) 92 (61 * F + 0) 0) 89 F (nI (0 + 1))).1 90 (61 * F) = nI (24 * y + x) := by simp [upP]
    have n91 : (up (up (up (up τ 90 (61 * F + 0) (nI (24 * y + x))) 91 (61 * F + 0) (nI 1)) 92 (61 * F + 0) 0) 89 F (nI (0 + 1))).1 91 (61 * F) = nI 1 := by simp [upP]
    have n92 : (up (up (up (up τ 90 (61 * F + 0) (nI (24 * y + x))) 91 (61 * F + 0) (nI 1)) 92 (61 * F + 0) 0) 89 F (nI (0 + 1))).1 92 (61 * F) = 0 := by simp [upP]
    have se : (up (up (up (up τ 90 (61 * F + 0) (nI (24 * y + x))) 91 (61 * F + 0) (nI 1)) 92 (61 * F + 0) 0) 89 F (nI (0 + 1))).2 = σ.2 := by
      rw [hτ, ← hs1]
      exact r2
    generalize up (up (up (up τ 90 (61 * F + 0) (nI (24 * y + x))) 91 (61 * F + 0) (nI 1)) 92 (61 * F + 0) 0) 89 F (nI (0 + 1)) = s2 at st s72 sm sl n79 n80 n81 n82 n83 n84 n85 n86 n87 n88 n89 n90 n91 n92 se
    refine Inv_go hI' (fun a g1 g2 g3 => by rw [st a g2 (by omega), qq a g1 (by omega)]) se (fun j hj => by rw [s72, if_neg (by omega)]) ?_ (fun w' h' f F' q1 q2 q3 q4 q5 q6 q7 => by
      rw [s72, if_neg (by decide)] at q1 q2
      rw [s72, if_pos rfl] at q3
      obtain rfl : F + 1 = F' := (nI_eq (by omega) (by omega)).mp q3
      by_cases hff : f = F
      · subst hff
        exact ⟨x, y, by rw [← (nI_eq (by omega) (by omega)).mp (a1.symm.trans q1)]; exact hx, by rw [← (nI_eq (by omega) (by omega)).mp (a2.symm.trans q2)]; exact hy, n79, n80⟩
      · rw [sm 79 f (by omega) (by omega) hff, sm 80 f (by omega) (by omega) hff]
        exact iI w' h' f F q1 q2 e2 q4 q5 (by omega) (by omega))
    rw [st 0 (by omega) (by omega), v0, s72, if_pos rfl]
    refine ⟨F + 1, by omega, rfl, rfl, fun f hf => ?_⟩
    by_cases hff : f = F
    · subst hff
      have w0 : s2.1 (40 + 4 * f) = s.1 (40 + 4 * f) := (st _ (by omega) (by omega)).trans (q1 _ (by omega))
      have w1 : s2.1 (40 + 4 * f + 1) = s.1 (40 + 4 * f + 1) := (st _ (by omega) (by omega)).trans (q1 _ (by omega))
      have w2 : s2.1 (40 + 4 * f + 2) = s.1 (40 + 4 * f + 2) := (st _ (by omega) (by omega)).trans (q1 _ (by omega))
      have w3 : s2.1 (40 + 4 * f + 3) = s.1 (40 + 4 * f + 3) := (st _ (by omega) (by omega)).trans (q1 _ (by omega))
      refine ⟨x, y, 1, t, ld, g, bs, 1, t, by omega, by omega, by omega, ht, by omega, by omega, rfl, hld1, hld, hg, hbs, ⟨n79, n80, n81, n82, n83, n84, n85, n88, n89, Or.inl n87, fun _ => by omega⟩, ?_, ?_, n92, fun i hi2 => ?_⟩
      · rw [w1, n86, n87]
        exact ⟨c1, c2, c3, c4, c5, c6, c7, c8⟩
      · rw [w0, n90]
        refine ⟨k1, k3, k4, k2.trans ?_⟩
        show (0 : Int32) = nI (0 + (if s2.1 92 (61 * f + 0) = 0 then 0 else 1))
        rw [Nat.add_zero, n92, if_pos rfl]
        rfl
      · obtain rfl : i = 0 := by omega
        rw [Nat.add_zero, w2, w3, n90, n91, n92]
        exact ⟨24 * y + x, 1, hi, by omega, rfl, rfl, l1, l2, Or.inl rfl⟩
    · refine FlOk_congr (fun k g1 g2 => sm k f g1 g2 hff) (fun i hi2 => ⟨sl 90 _ (by omega) (by omega) (by omega), sl 91 _ (by omega) (by omega) (by omega), sl 92 _ (by omega) (by omega) (by omega)⟩) (fun d hd => by rw [st _ (by omega) (by omega), q1 _ (by omega), r1 _ (by omega) (by omega) (by omega) (by omega)]) (h3 f (by omega))
