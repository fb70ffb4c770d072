theorem vnz (p : Prop) (d : Decidable p) : vp_nar .boolean (@ite Int32 p d 1 0) = @ite Int32 p d 1 0 := by
  by_cases h : p
  · rw [if_pos h]; exact vn1
  · rw [if_neg h]; exact vn0
theorem bg_s {τ : St} {f : Nat} (hf : f < 8) : f_X10_begin τ (nI f) = some (up (up (up (up (up (up τ 72 29 (τ.1 79 f)) 72 30 (τ.1 80 f)) 72 31 (τ.1 81 f)) 72 32 (τ.1 84 f)) 72 33 (τ.1 85 f)) 72 34 (τ.1 86 f)) := by
  unfold f_X10_begin
  simp only [aL_nI hf (show 8 < 2 ^ 31 by decide), Option.bind_some, bT_e, up1, Nat.reduceEqDiff, if_false]
/-- one round of the reference's loop in go, while the flight isn't down -/
theorem go10_s {σ τ : St} {w h f o d x y lv t ld g bs e lv' fu : Nat} (hf : f < 8) (hw : w ≤ 24) (hh : h ≤ 24) (e0 : σ.1 1 0 = nI w) (e1 : σ.1 1 1 = nI h) (m0 : τ.1 72 0 = nI w) (m1 : τ.1 72 1 = nI h) (ho : o ≤ 2) (hd : d ≤ 50) (hx : x < 24) (hy : y < 24) (hlv1 : 1 ≤ lv) (hlv : lv ≤ 7) (hg : g ≤ 500) (hbs : bs ≤ 200) (he : e < 60)
    (c0 : τ.1 79 f = nI x) (c1 : τ.1 80 f = nI y) (c2 : τ.1 81 f = nI lv) (c3 : τ.1 82 f = nI t) (ht : t < 1000) (c4 : τ.1 83 f = nI ld) (c5 : τ.1 84 f = nI g) (c6 : τ.1 85 f = nI bs) (c7 : τ.1 87 f = 0) (c9 : τ.1 89 f = nI e) (hl' : tV (tA τ.1 o d lv t g) (tH o d ld bs) lv = lv') (hfu : τ.1 75 lv' = nI fu) (hfu5 : fu ≤ 500) :
    ∃ (s : St) (x' y' : Nat), (∀ (n : Nat) (N i : Int32), ¬ N ≤ i → f_X10_go_73 (n + 1) τ (nI f) (nI o) (nI d) N i = f_X10_go_73 n s (nI f) (nI o) (nI d) N (i + 1)) ∧ x' < 24 ∧ y' < 24 ∧ (if lv' = 0 then nI (24 * y + x) else f_X5_movedFrom σ (nI (24 * y + x)) (τ.1 77 (192 * 0 + 24 * lv' + t % 24)) (τ.1 78 (192 * 0 + 24 * lv' + t % 24))) = nI (24 * y' + x') ∧ s.2 = τ.2 ∧ (∀ a, ¬ a = 72 → ¬ (79 ≤ a ∧ a ≤ 92) → s.1 a = τ.1 a) ∧ (∀ j, j < 29 ∨ 34 < j → s.1 72 j = τ.1 72 j) ∧ (∀ a f', 79 ≤ a → a ≤ 89 → ¬ f' = f → s.1 a f' = τ.1 a f') ∧ (∀ a i, 90 ≤ a → a ≤ 92 → ¬ i = 61 * f + e → s.1 a i = τ.1 a i) ∧
      s.1 79 f = nI x' ∧ s.1 80 f = nI y' ∧ s.1 81 f = nI lv' ∧ s.1 82 f = nI (t + 1) ∧ s.1 83 f = nI ld ∧ s.1 84 f = nI (min (tG o d g) fu) ∧ s.1 85 f = nI (tB o d bs) ∧ s.1 86 f = (if tG o d g ≤ fu then τ.1 86 f else τ.1 86 f + (nI (tG o d g) - nI fu)) ∧ s.1 87 f = (if lv' = 0 then 1 else 0) ∧ s.1 88 f = τ.1 88 f ∧ s.1 89 f = nI (e + 1) ∧ s.1 90 (61 * f + e) = nI (24 * y' + x') ∧ s.1 91 (61 * f + e) = nI lv' ∧ s.1 92 (61 * f + e) = 0 := by
  obtain ⟨s4, hs4⟩ : ∃ s, s = up (up (up (up (up (up τ 72 29 (τ.1 79 f)) 72 30 (τ.1 80 f)) 72 31 (τ.1 81 f)) 72 32 (τ.1 84 f)) 72 33 (τ.1 85 f)) 72 34 (τ.1 86 f) := ⟨_, rfl⟩
  have r4 : ∀ a, ¬ a = 72 → s4.1 a = τ.1 a := fun a ha => by rw [hs4, up_ne ha, up_ne ha, up_ne ha, up_ne ha, up_ne ha, up_ne ha]
  have j4 : ∀ j, j < 29 ∨ 34 < j → s4.1 72 j = τ.1 72 j := fun j hj => by
    rw [hs4]
    simp only [upP]
    repeat rw [if_neg (by omega)]
  have z4 : s4.2 = τ.2 := by rw [hs4]; rfl
  obtain ⟨s7, x', y', q1, q2, q3, q4, hx', hy', k29, k30, k31, k32, k33, k34, qm⟩ := tick_s (σ := σ) (τ := s4) (w := w) (h := h) (kk := 0) (o := o) (d := d) (x := x) (y := y) (lv := lv) (t := t) (ld := ld) (g := g) (bs := bs) (lv' := lv') (fu := fu) hw hh e0 e1 (by rw [j4 0 (by omega)]; exact m0) (by rw [j4 1 (by omega)]; exact m1) (by omega) ho hd hx hy hlv1 hlv hg hbs (by rw [hs4]; simp [upP, c0]) (by rw [hs4]; simp [upP, c1]) (by rw [hs4]; simp [upP, c2]) (by rw [hs4]; simp [upP, c5]) (by rw [hs4]; simp [upP, c6]) (by unfold tA at hl' ⊢; rw [r4 74 (by omega), r4 76 (by omega)]; exact hl') (by rw [r4 75 (by omega)]; exact hfu) hfu5
  rw [r4 77 (by omega), r4 78 (by omega)] at qm
  have k34' : s7.1 72 34 = (if tG o d g ≤ fu then τ.1 86 f else τ.1 86 f + (nI (tG o d g) - nI fu)) := by rw [k34, show s4.1 72 34 = τ.1 86 f by rw [hs4]; simp [upP]]
  have r7 : ∀ a, ¬ a = 72 → s7.1 a = τ.1 a := fun a ha => by rw [q2 a ha, r4 a ha]
  have r24 : nI t - nI t / 24 * 24 = nI (t % 24) := pk_rem (d := 24) (by omega) (by omega) (by omega)
  obtain ⟨s13, hs13⟩ : ∃ s, s = up (up (up (up (up (up s7 79 f (nI x')) 80 f (nI y')) 81 f (nI lv')) 84 f (nI (min (tG o d g) fu))) 85 f (nI (tB o d bs))) 86 f (if tG o d g ≤ fu then τ.1 86 f else τ.1 86 f + (nI (tG o d g) - nI fu)) := ⟨_, rfl⟩
  obtain ⟨s3, hs3⟩ : ∃ s, s = up (up s13 87 f (if lv' = 0 then 1 else 0)) 82 f (nI (t + 1)) := ⟨_, rfl⟩
  have hwt := wt_s (σ := s3) (f := f) (e := e) (x := x') (y := y') (l := lv') hf (by omega) (by rw [hs3, hs13]; simp [upP, r7, c9]) (by rw [hs3, hs13]; simp [upP]) (by rw [hs3, hs13]; simp [upP]) (by rw [hs3, hs13]; simp [upP])
  obtain ⟨s, hs⟩ : ∃ s, s = up (up (up (up s3 90 (61 * f + e) (nI (24 * y' + x'))) 91 (61 * f + e) (nI lv')) 92 (61 * f + e) 0) 89 f (nI (e + 1)) := ⟨_, rfl⟩
  refine ⟨s, x', y', fun n N i hNi => ?_, hx', hy', qm, ?_, ?_, ?_, ?_, ?_, ?_, ?_, ?_, ?_, ?_, ?_, ?_, ?_, ?_, ?_, ?_, ?_, ?_, ?_⟩
  · have h193 : ∀ (y0 : Int32), y0 = (if lv' = 0 then 1 else 0) → f_X10_go_193 (fun σ x1 x2 x3 x4 x5 => f_X10_go_73 n σ x1 x2 x3 x4 x5) s13 (nI f) (nI o) (nI d) N i y0 (nI f) = f_X10_go_73 n s (nI f) (nI o) (nI d) N (i + 1) := by
      intro y0 hy0
      unfold f_X10_go_193
      rw [hy0, vnz, aS_nI hf (by decide), Option.bind_some, aL_nI hf (by decide), Option.bind_some, up_ne (show (82 : Nat) ≠ 87 by omega), show s13.1 82 f = nI t by rw [hs13]; simp [upP, r7, c3], nI_1, aS_nI hf (by decide), Option.bind_some, ← hs3, hwt, Option.bind_some, ← hs]
    obtain ⟨Rr, hRr⟩ : ∃ r, r = f_X10_go_73 n s (nI f) (nI o) (nI d) N (i + 1) := ⟨_, rfl⟩
    rw [← hRr] at h193 ⊢
    unfold f_X10_go_73
    rw [if_neg hNi, aL_nI hf (by decide), Option.bind_some, c7, if_pos rfl, bg_s hf, ← hs4, Option.bind_some, aL_nI hf (by decide), Option.bind_some, aL_nI hf (by decide), Option.bind_some, r4 82 (by omega), r4 83 (by omega), c3, c4, r24, show (0 : Int32) = nI 0 from rfl, q1, Option.bind_some]
    simp only [aS_nI hf (show 8 < 2 ^ 31 by decide), Option.bind_some, up1, Nat.reduceEqDiff, if_false, k29, k30, k31, k32, k33, k34']
    rw [← hs13]
    by_cases hz : lv' = 0
    · rw [if_pos (by rw [hz])]
      exact h193 1 (by rw [if_pos hz])
    · rw [if_neg (show ¬ nI lv' = nI 0 from nI_ne0 (by omega) (by have := tV_le (a := tA τ.1 o d lv t g) (h := tH o d ld bs) hlv; omega))]
      exact h193 0 (by rw [if_neg hz])
  · rw [hs, hs3, hs13]; exact q3.trans z4
  · intro a g1 g2
    rw [hs, hs3, hs13]
    repeat rw [up_ne (by omega)]
    exact r7 a g1
  · intro j hj
    rw [hs, hs3, hs13]
    simp only [upP]
    repeat rw [if_neg (by omega)]
    rw [q4 j hj, j4 j hj]
  · intro a f' g1 g2 g3
    rw [hs, hs3, hs13]
    simp only [upP, g3, and_false, if_false]
    repeat rw [if_neg (by omega)]
    rw [r7 a (by omega)]
  · intro a i g1 g2 g3
    rw [hs, hs3, hs13]
    simp only [upP, g3, and_false, if_false]
    repeat rw [if_neg (by omega)]
    rw [r7 a (by omega)]
  all_goals (rw [hs]; try rw [hs3, hs13])
  all_goals (simp [upP, r7, c4])
