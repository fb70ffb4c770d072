theorem Inv_go {σ s2 : St} (hI : Inv σ) (hr : ∀ a, ¬ a = 0 → ¬ a = 72 → ¬ ((40 ≤ a ∧ a < 72) ∨ (79 ≤ a ∧ a ≤ 92)) → s2.1 a = σ.1 a) (h2 : s2.2 = σ.2) (h72 : ∀ j, j = 0 ∨ j = 1 ∨ j = 23 ∨ j = 28 → s2.1 72 j = σ.1 72 j) (hF : InvF (s2.1 0 4) (s2.1 72 8) s2.1) (hi : InvI (s2.1 72) (s2.1 79) (s2.1 80)) : Inv s2 := by
  obtain ⟨⟨w, h, hw1, hw2, hh1, hh2, a1, a2, a3, a4, a5⟩, iA, iN, iF, ⟨N, hN, b1, b2, b3⟩, ⟨n, hn, f1, f2, f3⟩, iW, iI⟩ := hI
  have e := fun (a : Nat) (h : (decide (a = 0) || decide (a = 72) || (decide (40 ≤ a) && decide (a < 72)) || (decide (79 ≤ a) && decide (a ≤ 92))) = false) => hr a (by simp at h; omega) (by simp at h; omega) (by simp at h; omega)
  unfold Inv
  rw [e 1 rfl, e 2 rfl, e 73 rfl, e 4 rfl, e 5 rfl, e 6 rfl, e 74 rfl, e 75 rfl, e 76 rfl, e 8 rfl, e 9 rfl, e 11 rfl, e 12 rfl, e 77 rfl, e 78 rfl, e 28 rfl, e 29 rfl, e 30 rfl, e 93 rfl, e 94 rfl, e 95 rfl, e 15 rfl, e 18 rfl, e 96 rfl, h2]
  refine ⟨⟨w, h, hw1, hw2, hh1, hh2, by rw [h72 0 (by omega)]; exact a1, by rw [h72 1 (by omega)]; exact a2, a3, a4, a5⟩, iA, iN, hF, ⟨N, hN, b1, by rw [h72 23 (by omega)]; exact b2, fun c hc => ?_⟩, ⟨n, hn, f1, by rw [h72 28 (by omega)]; exact f2, f3⟩, InvW_congr (fun a ha => hr a (by omega) (by omega) (by omega)) iW, hi⟩
  rw [h72 0 (by omega), h72 1 (by omega)]
  exact b3 c hc
theorem FlOk_congr {ρ ρ' : Nat → Nat → Int32} {f : Nat} (h1 : ∀ k, 79 ≤ k → k ≤ 89 → ρ' k f = ρ k f) (h2 : ∀ i, i < 60 → ρ' 90 (61 * f + i) = ρ 90 (61 * f + i) ∧ ρ' 91 (61 * f + i) = ρ 91 (61 * f + i) ∧ ρ' 92 (61 * f + i) = ρ 92 (61 * f + i)) (h3 : ∀ d, d < 4 → ρ' (40 + 4 * f + d) = ρ (40 + 4 * f + d)) (g : FlOk ρ f) : FlOk ρ' f := by
  obtain ⟨x, y, lv, t, ld, g, bs, e, b, hx, hy, hlv, hb, he1, he, ht, hld1, hld, hg, hbs, hM, hC, ⟨d1, d2, d3, d4⟩, hz, hlog⟩ := g
  have r0 := h3 0 (by omega)
  have r1 := h3 1 (by omega)
  have r2 := h3 2 (by omega)
  have r3 := h3 3 (by omega)
  have q0 := h2 0 (by omega)
  simp only [Nat.add_zero] at r0 q0
  refine ⟨x, y, lv, t, ld, g, bs, e, b, hx, hy, hlv, hb, he1, he, ht, hld1, hld, hg, hbs, ?_, ?_, ⟨?_, ?_, ?_, ?_⟩, ?_, fun i hi => ?_⟩
  · rw [h1 79 (by omega) (by omega), h1 80 (by omega) (by omega), h1 81 (by omega) (by omega), h1 82 (by omega) (by omega), h1 83 (by omega) (by omega), h1 84 (by omega) (by omega), h1 85 (by omega) (by omega), h1 88 (by omega) (by omega), h1 89 (by omega) (by omega), h1 87 (by omega) (by omega)]
    exact hM
  · rw [r1, h1 86 (by omega) (by omega), h1 87 (by omega) (by omega)]
    exact hC
  · rw [r0]; exact d1
  · rw [r0, q0.1]; exact d2
  · rw [r0]; exact d3
  · rw [r0, cntL_eq (g := fun i => ρ 92 (61 * f + i)) (fun j hj => (h2 j (by omega)).2.2)]; exact d4
  · rw [q0.2.2]; exact hz
  · obtain ⟨p1, p2, p3⟩ := h2 i (by omega)
    rw [p1, p2, p3, r2, r3]
    exact hlog i hi
theorem oB2_some {α β γ : Type} (x : α) (y : β) (f : α → β → Option γ) : oB2 (some (x, y)) f = f x y := by
  unfold oB2
  rw [Option.bind_some]
/-- promise 15: lose -/
theorem ms_lose : MS_lose Inv := by
  intro σ hI p1 p2 p3
  have hI' := hI
  obtain ⟨iL, iA, iN, ⟨F, hF, e1, e2, h3⟩, iC, iP, iW, iI⟩ := hI
  unfold f_X9_lose f_X10_lose f_X9_isFlight f_X10_isFlight
  simp only [in_eq, e1]
  by_cases h1 : f_X9_within p1 0 (nI F - 1) = 0
  · exact ⟨-2, σ, σ, by rw [if_pos h1], by rw [e2, if_pos h1], hI'⟩
  by_cases h2 : p2 < 1
  · exact ⟨-2, σ, σ, by rw [if_neg h1, if_pos h2], by rw [e2, if_neg h1, if_pos h2], hI'⟩
  by_cases h5 : ¬ p2 ≤ p3
  · exact ⟨-2, σ, σ, by rw [if_neg h1, if_neg h2, if_neg h5], by rw [e2, if_neg h1, if_neg h2, if_neg h5], hI'⟩
  have h4 : p2 ≤ p3 := Decidable.of_not_not h5
  obtain ⟨f, hf, rfl⟩ := wi_cnt (by omega) h1
  have q1 := Int32.le_iff_toInt_le.mp (Int32.not_lt.mp h2)
  have q2 : (1 : Int32).toInt = 1 := by decide
  have q3 : (0 : Int32).toInt = 0 := by decide
  have q4 := Int32.le_iff_toInt_le.mp h4
  obtain ⟨a, ha, rfl⟩ := nI_of (x := p2) (fun hlt => by have := Int32.lt_iff_toInt_lt.mp hlt; omega)
  obtain ⟨t, ht, rfl⟩ := nI_of (x := p3) (fun hlt => by have := Int32.lt_iff_toInt_lt.mp hlt; omega)
  rw [nI_toInt ha] at q1 q4
  rw [nI_toInt ht] at q4
  have hfl := h3 f hf
  obtain ⟨x, y, lv, tt, ld, g, bs, e, b, hx, hy, hlv, hb, he1, he, htt, hld1, hld, hg, hbs, hM, hC, ⟨d1, d2, d3, d4⟩, hz, hlog⟩ := hfl
  have m9 : σ.1 89 f = nI e := hM.2.2.2.2.2.2.2.2.1
  obtain ⟨m, hm⟩ : ∃ m, m = min t (e - 1) + 1 := ⟨_, rfl⟩
  have hm60 : m ≤ 60 := by omega
  have hlast : (if (σ.1 (40 + 4 * f) 3) - 1 < nI t then (σ.1 (40 + 4 * f) 3) - 1 else nI t) = nI (m - 1) := by
    obtain ⟨e', rfl⟩ : ∃ e', e = e' + 1 := ⟨e - 1, by omega⟩
    rw [d1, nI_pred]
    by_cases hh : e' < t
    · rw [if_pos (nI_lt hh (by omega))]
      congr 1
      omega
    · rw [if_neg (nI_nlt (by omega) (by omega))]
      congr 1
      omega
  have hfor : f_X3_forget σ (40 + 4 * f) (nI a) (nI t) = some (0 + nI (zs (σ.1 (40 + 4 * f + 3)) a (m - a)), up (sr σ (40 + 4 * f + 3) (wr (σ.1 (40 + 4 * f + 3)) a m 1)) (40 + 4 * f) 4 (σ.1 (40 + 4 * f) 4 + (0 + nI (zs (σ.1 (40 + 4 * f + 3)) a (m - a))))) := by
    unfold f_X3_forget
    rw [hlast, fg_l (40 + 4 * f) m (by omega) hm60 10000 a σ 0 ha (by omega) (fun j g1 g2 => by
      obtain ⟨c, l, k1, k2, k3, k4, k5, k6, k7⟩ := hlog j (by omega)
      rw [k6]
      exact k7)]
    unfold f_X3_forget_51
    rw [bT_e, sr1, if_neg (by omega)]
  have hzs : zs (σ.1 (40 + 4 * f + 3)) a (m - a) = zs (fun j => σ.1 92 (61 * f + j)) a (m - a) := zs_eq (fun j g1 g2 => by
    obtain ⟨c, l, k1, k2, k3, k4, k5, k6, k7⟩ := hlog j (by omega)
    exact k6)
  obtain ⟨z, hz0⟩ : ∃ z, z = zs (fun j => σ.1 92 (61 * f + j)) a (m - a) := ⟨_, rfl⟩
  rw [hzs, ← hz0] at hfor
  generalize hs1 : up (sr σ (40 + 4 * f + 3) (wr (σ.1 (40 + 4 * f + 3)) a m 1)) (40 + 4 * f) 4 (σ.1 (40 + 4 * f) 4 + (0 + nI z)) = s1 at hfor
  have r1 : ∀ k, ¬ k = 40 + 4 * f → ¬ k = 40 + 4 * f + 3 → s1.1 k = σ.1 k := fun k g1 g2 => by rw [← hs1, up_ne g1, sr1, if_neg g2]
  have r72 : s1.1 72 = σ.1 72 := r1 72 (by omega) (by omega)
  have r92 : s1.1 92 = σ.1 92 := r1 92 (by omega) (by omega)
  have hl := ls_l f e t m (by omega) he1 he ht hm 10000 a s1 0 ha (by omega) (by rw [r1 89 (by omega) (by omega)]; exact m9)
  rw [r92, ← hz0] at hl
  refine ⟨0 + nI z, s1, sr s1 92 (wr (σ.1 92) (61 * f + a) (61 * f + m) 1), ?_, ?_, ?_⟩
  · rw [if_neg h1, if_neg h2, if_pos h4, inB_nI (by omega) (by decide), Option.bind_some, hfor, oB2_some]
  · rw [r72, e2, if_neg h1, if_neg h2, if_pos h4]
    exact hl
  · have rr : ∀ k, ¬ k = 40 + 4 * f → ¬ k = 40 + 4 * f + 3 → ¬ k = 92 → (sr s1 92 (wr (σ.1 92) (61 * f + a) (61 * f + m) 1)).1 k = σ.1 k := fun k g1 g2 g3 => by rw [sr1, if_neg g3, r1 k g1 g2]
    have rk : (sr s1 92 (wr (σ.1 92) (61 * f + a) (61 * f + m) 1)).1 (40 + 4 * f) = upd (σ.1 (40 + 4 * f)) 4 (σ.1 (40 + 4 * f) 4 + (0 + nI z)) := by
      rw [sr1, if_neg (by omega), ← hs1, up_at, sr1, if_neg (by omega)]
    have rl : (sr s1 92 (wr (σ.1 92) (61 * f + a) (61 * f + m) 1)).1 (40 + 4 * f + 3) = wr (σ.1 (40 + 4 * f + 3)) a m 1 := by
      rw [sr1, if_neg (by omega), ← hs1, up_ne (by omega), sr1, if_pos rfl]
    have r9 : (sr s1 92 (wr (σ.1 92) (61 * f + a) (61 * f + m) 1)).1 92 = wr (σ.1 92) (61 * f + a) (61 * f + m) 1 := by rw [sr1, if_pos rfl]
    have re : (sr s1 92 (wr (σ.1 92) (61 * f + a) (61 * f + m) 1)).2 = σ.2 := by rw [← hs1]; rfl
    generalize sr s1 92 (wr (σ.1 92) (61 * f + a) (61 * f + m) 1) = s2 at rr rk rl r9 re
    refine Inv_go hI' (fun k g1 g2 g3 => rr k (by omega) (by omega) (by omega)) re (fun j _ => by rw [rr 72 (by omega) (by omega) (by omega)]) ?_ (by rw [rr 72 (by omega) (by omega) (by omega), rr 79 (by omega) (by omega) (by omega), rr 80 (by omega) (by omega) (by omega)]; exact iI)
    rw [rr 0 (by omega) (by omega) (by omega), rr 72 (by omega) (by omega) (by omega)]
    refine ⟨F, hF, e1, e2, fun f' hf' => ?_⟩
    by_cases hff : f' = f
    · subst hff
      refine ⟨x, y, lv, tt, ld, g, bs, e, b, hx, hy, hlv, hb, he1, he, htt, hld1, hld, hg, hbs, ?_, ?_, ⟨?_, ?_, ?_, ?_⟩, ?_, fun i hi => ?_⟩
      · rw [rr 79 (by omega) (by omega) (by omega), rr 80 (by omega) (by omega) (by omega), rr 81 (by omega) (by omega) (by omega), rr 82 (by omega) (by omega) (by omega), rr 83 (by omega) (by omega) (by omega), rr 84 (by omega) (by omega) (by omega), rr 85 (by omega) (by omega) (by omega), rr 88 (by omega) (by omega) (by omega), rr 89 (by omega) (by omega) (by omega), rr 87 (by omega) (by omega) (by omega)]
        exact hM
      · rw [rr (40 + 4 * f' + 1) (by omega) (by omega) (by omega), rr 86 (by omega) (by omega) (by omega), rr 87 (by omega) (by omega) (by omega)]
        exact hC
      · rw [rk, upd_e, if_neg (by omega)]; exact d1
      · rw [rk, upd_e, if_neg (by omega), rr 90 (by omega) (by omega) (by omega)]; exact d2
      · rw [rk, upd_e, if_neg (by omega)]; exact d3
      · rw [rk, upd_e, if_pos rfl, d4, r9, Int32.zero_add, nI_add]
        congr 1
        have hc := cntL_wr (fun i => σ.1 92 (61 * f' + i)) a m e
        rw [show min m e - a = m - a by omega, ← hz0] at hc
        rw [← hc]
        refine (cntL_eq (fun j hj => ?_)).symm
        rw [wr_e]
        by_cases hj2 : a ≤ j ∧ j < m
        · rw [if_pos hj2, if_pos (by omega)]
        · rw [if_neg hj2, if_neg (by omega)]
      · rw [r9, wr_e, if_neg (by omega)]; exact hz
      · obtain ⟨c, l, k1, k2, k3, k4, k5, k6, k7⟩ := hlog i hi
        refine ⟨c, l, k1, k2, by rw [rr 90 (by omega) (by omega) (by omega)]; exact k3, by rw [rr 91 (by omega) (by omega) (by omega)]; exact k4, by rw [rr (40 + 4 * f' + 2) (by omega) (by omega) (by omega)]; exact k5, ?_, ?_⟩
        · rw [rl, r9, wr_e, wr_e]
          by_cases hj2 : a ≤ i ∧ i < m
          · rw [if_pos hj2, if_pos (by omega)]
          · rw [if_neg hj2, if_neg (by omega)]; exact k6
        · rw [r9, wr_e]
          by_cases hj2 : 61 * f' + a ≤ 61 * f' + i ∧ 61 * f' + i < 61 * f' + m
          · rw [if_pos hj2]; exact Or.inr rfl
          · rw [if_neg hj2]; exact k7
    · refine FlOk_congr (fun k g1 g2 => by rw [rr k (by omega) (by omega) (by omega)]) (fun i hi => ⟨by rw [rr 90 (by omega) (by omega) (by omega)], by rw [rr 91 (by omega) (by omega) (by omega)], by rw [r9, wr_e, if_neg (by omega)]⟩) (fun d hd => rr _ (by omega) (by omega) (by omega)) (h3 f' hf')
