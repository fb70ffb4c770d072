theorem tk_s {s : St} {c b p : Nat} (hc : c < 4) (hb : b < 576) (hp1 : 1 ≤ p) (hp : p ≤ 5) (h29 : s.1 29 c = nI b) (h30 : s.1 30 c = nI p) : f_X2_ticksOf s (nI c) = some (if s.1 31 b = -1 then -1 else (s.1 31 b + nI p - 1) / nI p) := by
  unfold f_X2_ticksOf
  rw [aL_nI hc (by decide), Option.bind_some, h29, aL_nI hb (by decide), Option.bind_some, aL_nI hc (by decide), Option.bind_some, h30]
  by_cases q : s.1 31 b = -1
  · rw [if_pos q, if_pos q]
  · rw [if_neg q, if_neg q, if_pos (show (1 : Int32) ≤ nI p from nI_le (a := 1) (b := p) hp1 (by omega))]
    unfold nz
    rw [if_neg (nI_ne0 (by omega) (by omega)), Option.bind_some]
/-- promise 19: chase -/
theorem ms_chase : MS_chase Inv := by
  intro σ hI p1 p2 p3
  have hI' := hI
  obtain ⟨⟨w, h, hw1, hw2, hh1, hh2, a1, a2, a3, a4, a5⟩, iA, iN, iF, ⟨N, hN, b1, b2, b3⟩, iP, iW, iI⟩ := hI
  unfold f_X9_chase f_X10_chase
  rw [b1]
  by_cases h1 : f_X9_within p1 0 (nI N - 1) = 0
  · exact ⟨-2, σ, σ, by rw [if_pos h1], by rw [b2, in_eq, if_pos h1], hI'⟩
  by_cases h2 : f_X5_has σ p2 p3 = 0
  · exact ⟨-2, σ, σ, by rw [if_neg h1, if_pos h2], by rw [b2, in_eq, if_neg h1, isCell_eq (τ := σ) (a1.trans a3.symm) (a2.trans a4.symm), if_pos h2], hI'⟩
  obtain ⟨c, hc, rfl⟩ := wi_cnt (by omega) h1
  obtain ⟨x0, y0, hx0, hy0, rfl, rfl⟩ := has_in hw2 hh2 a3 a4 h2
  obtain ⟨x, y, p, hx, hy, hp1, hp, lx, ly, k1, k2, k3, k4, k5, k6⟩ := b3 c hc
  rw [a1] at lx
  rw [a2] at ly
  have hx' : x < w := (nI_ltI (by omega) (by omega)).mp lx
  have hy' : y < h := (nI_ltI (by omega) (by omega)).mp ly
  obtain ⟨s, s1, s2, s3, s4⟩ := mea_s (K := σ.1 73) (a := 24 * y0 + x0) (by omega) hw2 (by omega) hh2 a3 a4 (fun j hj => (a5 j hj).1) (by omega) (by omega) (by omega)
  have e := fun (a : Nat) (h : (decide (a = 31) || decide (a = 32)) = false) => s2 a (by simp at h; omega) (by simp at h; omega)
  obtain ⟨R, t1, t2⟩ := cha_s (σ := s) (w := w) (h := h) (c := c) (x := x) (y := y) (p := p) (x0 := x0) (y0 := y0) (by omega) hw2 (by omega) hh2 (by rw [e 72 rfl]; exact a1) (by rw [e 72 rfl]; exact a2) (by rw [e 1 rfl]; exact a3) (by rw [e 1 rfl]; exact a4) (by omega) hx' hy' hp1 hp (by rw [e 73 rfl]; exact k6) (by rw [e 93 rfl]; exact k1) (by rw [e 94 rfl]; exact k2) (by rw [e 95 rfl]; exact k3) hx0 hy0
  rw [e 73 rfl] at t2
  have s5 := s4 (24 * y + x) R (by omega) t2
  refine ⟨if R (24 * y0 + x0) = -1 then -1 else (R (24 * y0 + x0) + nI p - 1) / nI p, s, sr s 101 R, ?_, ?_, ?_⟩
  · rw [if_neg h1, if_neg h2, cO, s1, Option.bind_some, tk_s (b := 24 * y + x) (p := p) (by omega) (by omega) hp1 hp (by rw [e 29 rfl]; exact k4) (by rw [e 30 rfl]; exact k5), s5, Option.bind_some]
  · rw [e 72 rfl, b2, in_eq, if_neg h1, isCell_eq (τ := σ) (by rw [e 72 rfl]; exact a1.trans a3.symm) (by rw [e 72 rfl]; exact a2.trans a4.symm), if_neg h2, t1, oB2_some]
  · have f : ∀ a, ¬ a = 31 → ¬ a = 32 → ¬ a = 101 → (sr s 101 R).1 a = σ.1 a := fun a q1 q2 q3 => by rw [sr1, if_neg q3, s2 a q1 q2]
    refine Inv_fr hI' (fun a ha => f a (by omega) (by omega) (by omega)) (fun j _ => by rw [f 72 (by decide) (by decide) (by decide)]) ?_ ?_
    · rw [f 15 (by decide) (by decide) (by decide), f 18 (by decide) (by decide) (by decide), f 72 (by decide) (by decide) (by decide), f 96 (by decide) (by decide) (by decide)]
      exact iP
    · rw [sr2, s3]
      exact InvW_congr (fun a ha => f a (by omega) (by omega) (by omega)) iW
theorem fi_l {σ s : St} {w h N f x0 y0 : Nat} (hw1 : 1 ≤ w) (hw2 : w ≤ 24) (hh1 : 1 ≤ h) (hh2 : h ≤ 24) (hN : N ≤ 4) (hf : f < 8) (hx0 : x0 < w) (hy0 : y0 < h) (a1 : σ.1 72 0 = nI w) (a2 : σ.1 72 1 = nI h) (a3 : σ.1 1 0 = nI w) (a4 : σ.1 1 1 = nI h) (b1 : σ.1 28 3 = nI N) (b2 : σ.1 72 23 = nI N) (c79 : σ.1 79 f = nI x0) (c80 : σ.1 80 f = nI y0)
    (b3 : ∀ c, c < N → ∃ x y p : Nat, x < w ∧ y < h ∧ 1 ≤ p ∧ p ≤ 5 ∧ σ.1 93 c = nI x ∧ σ.1 94 c = nI y ∧ σ.1 95 c = nI p ∧ σ.1 29 c = nI (24 * y + x) ∧ σ.1 30 c = nI p ∧ ¬ σ.1 73 (24 * y + x) = 1) (s2 : ∀ a, ¬ a = 31 → ¬ a = 32 → s.1 a = σ.1 a) (s4 : ∀ (b : Nat) (R : Nat → Int32), b < 576 → LabF w h (σ.1 73) b R → s.1 31 b = R (24 * y0 + x0)) :
    ∀ (n i : Nat) (τ : St) (x1 x2 : Int32), i ≤ N → N - i < n → (∀ a, ¬ a = 31 → ¬ a = 32 → ¬ a = 101 → τ.1 a = σ.1 a) → ∃ (r : Int32) (R : Nat → Int32), f_X2_soonest_6 n s x1 x2 (nI i) = some r ∧ f_X10_first_18 n τ (nI f) x1 x2 (nI i) = some (r, sr τ 101 R) := by
  have e := fun (a : Nat) (h : (decide (a = 31) || decide (a = 32)) = false) => s2 a (by simp at h; omega) (by simp at h; omega)
  intro n
  induction n with
  | zero => intro i τ x1 x2 h1 h2; omega
  | succ n ih =>
    intro i τ x1 x2 h1 h2 t0
    have d := fun (a : Nat) (h : (decide (a = 31) || decide (a = 32) || decide (a = 101)) = false) => t0 a (by simp at h; omega) (by simp at h; omega) (by simp at h; omega)
    rw [f_X2_soonest_6, f_X10_first_18, e 28 rfl, d 72 rfl, b1, b2]
    by_cases hi : i = N
    · exact ⟨x1, τ.1 101, by rw [hi, if_pos (Int32.le_refl _)], by rw [hi, if_pos (Int32.le_refl _), sr_id τ 101 _ rfl]⟩
    · obtain ⟨x, y, p, hx, hy, hp1, hp, k1, k2, k3, k4, k5, k6⟩ := b3 i (by omega)
      obtain ⟨R, t1, t2⟩ := cha_s (σ := τ) (w := w) (h := h) (c := i) (x := x) (y := y) (p := p) (x0 := x0) (y0 := y0) (by omega) hw2 (by omega) hh2 (by rw [d 72 rfl]; exact a1) (by rw [d 72 rfl]; exact a2) (by rw [d 1 rfl]; exact a3) (by rw [d 1 rfl]; exact a4) (by omega) hx hy hp1 hp (by rw [d 73 rfl]; exact k6) (by rw [d 93 rfl]; exact k1) (by rw [d 94 rfl]; exact k2) (by rw [d 95 rfl]; exact k3) hx0 hy0
      rw [d 73 rfl] at t2
      have s5 := s4 (24 * y + x) R (by omega) t2
      have g : ¬ nI N ≤ nI i := nI_ge (by omega) (by omega)
      rw [if_neg g, if_neg g, tk_s (b := 24 * y + x) (p := p) (by omega) (by omega) hp1 hp (by rw [e 29 rfl]; exact k4) (by rw [e 30 rfl]; exact k5), s5, Option.bind_some, aL_nI hf (by decide), Option.bind_some, aL_nI hf (by decide), Option.bind_some, d 79 rfl, d 80 rfl, c79, c80, t1, oB2_some]
      generalize (if R (24 * y0 + x0) = -1 then -1 else (R (24 * y0 + x0) + nI p - 1) / nI p) = v
      unfold f_X2_soonest_38 f_X10_first_64
      have t0' : ∀ a, ¬ a = 31 → ¬ a = 32 → ¬ a = 101 → (sr τ 101 R).1 a = σ.1 a := fun a q1 q2 q3 => by rw [sr1, if_neg q3, t0 a q1 q2 q3]
      have I := fun y1 y2 => ih (i + 1) (sr τ 101 R) y1 y2 (by omega) (by omega) t0'
      simp only [sr_sr] at I
      rw [nI_1]
      by_cases z1 : v = -1
      · rw [if_pos z1, if_pos z1]; exact I x1 x2
      · rw [if_neg z1, if_neg z1]
        by_cases z2 : x1 = -1
        · rw [if_pos z2, if_pos z2]; exact I (nI i) v
        · rw [if_neg z2, if_neg z2]
          by_cases z3 : x2 ≤ v
          · rw [if_pos z3, if_pos z3]; exact I x1 x2
          · rw [if_neg z3, if_neg z3]; exact I (nI i) v
/-- promise 20: first -/
theorem ms_first : MS_first Inv := by
  intro σ hI p1
  have hI' := hI
  obtain ⟨⟨w, h, hw1, hw2, hh1, hh2, a1, a2, a3, a4, a5⟩, iA, iN, ⟨F, hF, e1, e2, h3⟩, ⟨N, hN, b1, b2, b3⟩, iP, iW, iI⟩ := hI
  unfold f_X9_first f_X10_first f_X9_isFlight f_X10_isFlight
  rw [e1]
  by_cases h1 : f_X9_within p1 0 (nI F - 1) = 0
  · exact ⟨-2, σ, σ, by rw [if_pos h1], by rw [e2, in_eq, if_pos h1], hI'⟩
  obtain ⟨f, hf, rfl⟩ := wi_cnt (by omega) h1
  obtain ⟨x, y, lv, t, ld, g, bs, e, b, hx, hy, hlv, hb, he1, he, ht, hld1, hld, hg, hbs, ⟨c79, c80, -⟩, ⟨d0, -⟩, -⟩ := h3 f hf
  obtain ⟨x', y', hx', hy', g1, g2⟩ := iI w h f F a1 a2 e2 hw2 hh2 hF hf
  have ex : x = x' := (nI_eq (by omega) (by omega)).mp (c79.symm.trans g1)
  have ey : y = y' := (nI_eq (by omega) (by omega)).mp (c80.symm.trans g2)
  subst ex
  subst ey
  obtain ⟨s, s1, s2, s3, s4⟩ := mea_s (K := σ.1 73) (a := 24 * y + x) (by omega) hw2 (by omega) hh2 a3 a4 (fun j hj => (a5 j hj).1) (by omega) (by omega) (by omega)
  have ee := fun (a : Nat) (h : (decide (a = 31) || decide (a = 32)) = false) => s2 a (by simp at h; omega) (by simp at h; omega)
  obtain ⟨r, R, r1, r2⟩ := fi_l (σ := σ) (s := s) (by omega) hw2 (by omega) hh2 hN (f := f) (by omega) hx' hy' a1 a2 a3 a4 b1 b2 c79 c80 (fun c hc => by
    obtain ⟨x, y, p, hx, hy, hp1, hp, lx, ly, k⟩ := b3 c hc
    rw [a1] at lx
    rw [a2] at ly
    exact ⟨x, y, p, (nI_ltI (by omega) (by omega)).mp lx, (nI_ltI (by omega) (by omega)).mp ly, hp1, hp, k⟩) s2 s4 10000 0 s (-1) (-1) (by omega) (by omega) (fun a q1 q2 q3 => s2 a q1 q2)
  refine ⟨r, s, sr s 101 R, ?_, ?_, ?_⟩
  · rw [if_neg h1, inB_nI (by omega) (by decide), Option.bind_some, d0, s1, Option.bind_some]
    rw [show f_X2_soonest s = some r from r1, Option.bind_some]
  · rw [ee 72 rfl, e2, in_eq, if_neg h1]
    exact r2
  · have f : ∀ a, ¬ a = 31 → ¬ a = 32 → ¬ a = 101 → (sr s 101 R).1 a = σ.1 a := fun a q1 q2 q3 => by rw [sr1, if_neg q3, s2 a q1 q2]
    refine Inv_fr hI' (fun a ha => f a (by omega) (by omega) (by omega)) (fun j _ => by rw [f 72 (by decide) (by decide) (by decide)]) ?_ ?_
    · rw [f 15 (by decide) (by decide) (by decide), f 18 (by decide) (by decide) (by decide), f 72 (by decide) (by decide) (by decide), f 96 (by decide) (by decide) (by decide)]
      exact iP
    · rw [sr2, s3]
      exact InvW_congr (fun a ha => f a (by omega) (by omega) (by omega)) iW
