/-- led by a wind: class and reference alike -/
theorem led_s {σ τ : St} {w h x y kk l a : Nat} (hw : w ≤ 24) (hh : h ≤ 24) (e0 : σ.1 1 0 = nI w) (e1 : σ.1 1 1 = nI h) (m0 : τ.1 72 0 = nI w) (m1 : τ.1 72 1 = nI h) (hx : x < 24) (hy : y < 24) (hk : kk ≤ 1) (hl : l ≤ 7) (ha : a < 24) : ∃ x' y' : Nat, x' < 24 ∧ y' < 24 ∧ f_X10_led τ (nI kk) (nI l) (nI a) (nI x) (nI y) = some (nI (24 * y' + x')) ∧ f_X5_movedFrom σ (nI (24 * y + x)) (τ.1 77 (192 * kk + 24 * l + a)) (τ.1 78 (192 * kk + 24 * l + a)) = nI (24 * y' + x') := by
  have hi : 192 * kk + 24 * l + a < 384 := by omega
  unfold f_X10_led f_X5_movedFrom
  rw [ixv, xOf_c hx hy, yOf_c hx hy]
  simp only [aL_nI hi (show 384 < 2 ^ 31 by decide), Option.bind_some]
  generalize τ.1 77 (192 * kk + 24 * l + a) = v1
  generalize τ.1 78 (192 * kk + 24 * l + a) = v2
  rw [isCell_eq (τ := σ) (m0.trans e0.symm) (m1.trans e1.symm)]
  by_cases hc : f_X5_has σ (nI x + v1) (nI y + v2) = 0
  · rw [if_pos hc, if_pos hc, ix24]
    exact ⟨x, y, hx, hy, rfl, rfl⟩
  · obtain ⟨x', y', hx', hy', ex, ey⟩ := has_in hw hh e0 e1 hc
    rw [if_neg hc, if_neg hc, ey, Int32.add_assoc, ex, ix24, cO]
    exact ⟨x', y', by omega, by omega, rfl, rfl⟩
theorem less_10 {σ : St} {j x d : Nat} (hx : x < 2 ^ 30) (hd : d < 2 ^ 30) (hj : σ.1 72 j = nI x) (F : St → Option St) : (if nI x ≤ nI d then bT (up σ 72 j 0) F else bT (up σ 72 j (nI x - nI d)) F) = F (up σ 72 j (nI (x - d))) := by
  by_cases h : x ≤ d
  · rw [if_pos (nI_le h (by omega)), bT_e, show x - d = 0 by omega, nI_0]
  · rw [if_neg (nI_ge (by omega) (by omega)), bT_e, pk_sub (by omega)]
theorem tick_1 {τ : St} {o d g bs : Nat} {k hr ld : Int32} (ho : o ≤ 2) (hd : d ≤ 50) (hg : g ≤ 500) (hbs : bs ≤ 200) (c5 : τ.1 72 32 = nI g) (c6 : τ.1 72 33 = nI bs) : f_X10_tick τ k hr ld (nI o) (nI d) = f_X10_tick_63 (up (up τ 72 32 (nI (tG o d g))) 72 33 (nI (tB o d bs))) k hr ld := by
  unfold f_X10_tick tB tG
  rw [c5, c6]
  rcases (show o = 0 ∨ o = 1 ∨ o = 2 by omega) with h | h | h
  · subst h
    rw [if_neg (by decide), if_neg (by decide), if_neg (by decide), if_neg (by decide), up_same c5, up_same c6]
  · subst h
    rw [if_pos (by decide), less_10 (by omega) (by omega) c6 (fun s => f_X10_tick_63 s k hr ld), if_neg (by decide), if_pos rfl, up_same c5]
  · subst h
    rw [if_neg (by decide), if_pos (by decide), less_10 (by omega) (by omega) c5 (fun s => f_X10_tick_63 s k hr ld), if_pos rfl, if_neg (by decide), up_same (σ := up τ 72 32 _) (by rw [upP, if_neg (by omega)]; exact c6)]
theorem tick_2 {τ : St} {lv hr : Nat} {k ld : Int32} (hlv1 : 1 ≤ lv) (hlv : lv ≤ 7) (hhr : hr < 24) (c2 : τ.1 72 31 = nI lv) : f_X10_tick_63 τ k (nI hr) ld = f_X10_tick_148 (up τ 72 31 (nI (tV (τ.1 72 32 * (τ.1 74 lv + τ.1 76 hr)) (10 * (ld + τ.1 72 33)) lv))) k (nI hr) := by
  unfold f_X10_tick_63 tV
  rw [c2, aL_nI (by omega) (by decide), Option.bind_some, aL_nI hhr (by decide), Option.bind_some]
  by_cases h1 : τ.1 72 32 * (τ.1 74 lv + τ.1 76 hr) ≤ 10 * (ld + τ.1 72 33)
  · rw [if_pos h1, if_pos h1]
    by_cases h2 : 10 * (ld + τ.1 72 33) ≤ τ.1 72 32 * (τ.1 74 lv + τ.1 76 hr)
    · rw [if_pos h2, if_pos h2, up_same c2]
    · rw [if_neg h2, if_neg h2, bT_e, show nI lv - 1 = nI (lv - 1) from pk_sub (a := lv) (b := 1) hlv1]
  · rw [if_neg h1, if_neg h1]
    by_cases h3 : lv = 7
    · subst h3
      rw [if_pos (by decide), bT_e]
      rfl
    · rw [if_neg (show ¬ (7 : Int32) ≤ nI lv from nI_ge (a := lv) (b := 7) (by omega) (by omega)), bT_e, nI_1, show min (lv + 1) 7 = lv + 1 by omega]
theorem tick_3 {τ : St} {lv g fu : Nat} {k hr : Int32} (hlv : lv ≤ 7) (hg : g ≤ 500) (hfu5 : fu ≤ 500) (c2 : τ.1 72 31 = nI lv) (c5 : τ.1 72 32 = nI g) (hfu : τ.1 75 lv = nI fu) : f_X10_tick_148 τ k hr = f_X10_tick_200 (up (up τ 72 34 (if g ≤ fu then τ.1 72 34 else τ.1 72 34 + (nI g - nI fu))) 72 32 (nI (min g fu))) k hr := by
  unfold f_X10_tick_148
  rw [c2, aL_nI (by omega) (by decide), Option.bind_some, c5, hfu]
  by_cases h : g ≤ fu
  · rw [if_pos (nI_le h (by omega)), if_pos h, up_same rfl, show min g fu = g by omega, up_same c5]
  · rw [if_neg (nI_ge (by omega) (by omega)), Option.bind_some, bT_e, if_neg h, show min g fu = fu by omega, upP, if_neg (by omega), c2, aL_nI (by omega) (by decide), Option.bind_some, up_ne (by decide), hfu, bT_e]
/-- the reference's tick -/
theorem tick_s {σ τ : St} {w h kk o d x y lv t ld g bs lv' fu : Nat} (hw : w ≤ 24) (hh : h ≤ 24) (e0 : σ.1 1 0 = nI w) (e1 : σ.1 1 1 = nI h) (m0 : τ.1 72 0 = nI w) (m1 : τ.1 72 1 = nI h) (hk : kk ≤ 1) (ho : o ≤ 2) (hd : d ≤ 50) (hx : x < 24) (hy : y < 24) (hlv1 : 1 ≤ lv) (hlv : lv ≤ 7) (hg : g ≤ 500) (hbs : bs ≤ 200)
    (c0 : τ.1 72 29 = nI x) (c1 : τ.1 72 30 = nI y) (c2 : τ.1 72 31 = nI lv) (c5 : τ.1 72 32 = nI g) (c6 : τ.1 72 33 = nI bs) (hl' : tV (tA τ.1 o d lv t g) (tH o d ld bs) lv = lv') (hfu : τ.1 75 lv' = nI fu) (hfu5 : fu ≤ 500) :
    ∃ (s : St) (x' y' : Nat), f_X10_tick τ (nI kk) (nI (t % 24)) (nI ld) (nI o) (nI d) = some s ∧ (∀ a, ¬ a = 72 → s.1 a = τ.1 a) ∧ s.2 = τ.2 ∧ (∀ j, j < 29 ∨ 34 < j → s.1 72 j = τ.1 72 j) ∧ x' < 24 ∧ y' < 24 ∧ s.1 72 29 = nI x' ∧ s.1 72 30 = nI y' ∧ s.1 72 31 = nI lv' ∧ s.1 72 32 = nI (min (tG o d g) fu) ∧ s.1 72 33 = nI (tB o d bs) ∧ s.1 72 34 = (if tG o d g ≤ fu then τ.1 72 34 else τ.1 72 34 + (nI (tG o d g) - nI fu)) ∧ (if lv' = 0 then nI (24 * y + x) else f_X5_movedFrom σ (nI (24 * y + x)) (τ.1 77 (192 * kk + 24 * lv' + t % 24)) (τ.1 78 (192 * kk + 24 * lv' + t % 24))) = nI (24 * y' + x') := by
  have hl7 : lv' ≤ 7 := by rw [← hl']; exact tV_le hlv
  have hG := Nat.le_trans (tG_le o d g) hg
  rw [tick_1 ho hd hg hbs c5 c6]
  generalize hs1 : up (up τ 72 32 (nI (tG o d g))) 72 33 (nI (tB o d bs)) = s1
  have r1 : ∀ a, ¬ a = 72 → s1.1 a = τ.1 a := fun a ha => by rw [← hs1, up_ne ha, up_ne ha]
  have j1 : ∀ j, ¬ j = 32 → ¬ j = 33 → s1.1 72 j = τ.1 72 j := fun j g1 g2 => by rw [← hs1, upP, if_neg (by omega), upP, if_neg (by omega)]
  have n32 : s1.1 72 32 = nI (tG o d g) := by rw [← hs1]; simp [upP]
  have n33 : s1.1 72 33 = nI (tB o d bs) := by rw [← hs1]; simp [upP]
  have hl2 : tV (s1.1 72 32 * (s1.1 74 lv + s1.1 76 (t % 24))) (10 * (nI ld + s1.1 72 33)) lv = lv' := by
    rw [n32, n33, r1 74 (by omega), r1 76 (by omega)]
    exact hl'
  rw [tick_2 hlv1 hlv (show t % 24 < 24 by omega) (by rw [j1 31 (by omega) (by omega)]; exact c2), hl2]
  generalize hs2 : up s1 72 31 (nI lv') = s2
  have r2 : ∀ a, ¬ a = 72 → s2.1 a = τ.1 a := fun a ha => by rw [← hs2, up_ne ha, r1 a ha]
  have j2 : ∀ j, ¬ j = 31 → s2.1 72 j = s1.1 72 j := fun j g1 => by rw [← hs2, upP, if_neg (by omega)]
  have n31 : s2.1 72 31 = nI lv' := by rw [← hs2]; simp [upP]
  rw [tick_3 hl7 hG hfu5 n31 (by rw [j2 32 (by omega)]; exact n32) (by rw [r2 75 (by omega)]; exact hfu), j2 34 (by omega), j1 34 (by omega) (by omega)]
  generalize hs3 : up (up s2 72 34 (if tG o d g ≤ fu then τ.1 72 34 else τ.1 72 34 + (nI (tG o d g) - nI fu))) 72 32 (nI (min (tG o d g) fu)) = s3
  have r3 : ∀ a, ¬ a = 72 → s3.1 a = τ.1 a := fun a ha => by rw [← hs3, up_ne ha, up_ne ha, r2 a ha]
  have j3 : ∀ j, ¬ j = 34 → ¬ j = 32 → s3.1 72 j = s2.1 72 j := fun j g1 g2 => by rw [← hs3, upP, if_neg (by omega), upP, if_neg (by omega)]
  have k32 : s3.1 72 32 = nI (min (tG o d g) fu) := by rw [← hs3]; simp [upP]
  have k34 : s3.1 72 34 = (if tG o d g ≤ fu then τ.1 72 34 else τ.1 72 34 + (nI (tG o d g) - nI fu)) := by rw [← hs3]; simp [upP]
  have k31 : s3.1 72 31 = nI lv' := by rw [j3 31 (by omega) (by omega)]; exact n31
  have k33 : s3.1 72 33 = nI (tB o d bs) := by rw [j3 33 (by omega) (by omega), j2 33 (by omega)]; exact n33
  have kall : ∀ j, ¬ j = 31 → ¬ j = 32 → ¬ j = 33 → ¬ j = 34 → s3.1 72 j = τ.1 72 j := fun j g1 g2 g3 g4 => by rw [j3 j g4 g2, j2 j g1, j1 j g2 g3]
  have ez : s3.2 = τ.2 := by rw [← hs3, ← hs2, ← hs1]; rfl
  unfold f_X10_tick_200
  rw [k31]
  by_cases hz : lv' = 0
  · rw [if_pos (by rw [hz]; decide), if_pos hz]
    exact ⟨s3, x, y, rfl, r3, ez, fun j hj => kall j (by omega) (by omega) (by omega) (by omega), hx, hy, by rw [kall 29 (by omega) (by omega) (by omega) (by omega)]; exact c0, by rw [kall 30 (by omega) (by omega) (by omega) (by omega)]; exact c1, k31, k32, k33, k34, rfl⟩
  · obtain ⟨x', y', hx', hy', q1, q2⟩ := led_s (σ := σ) (τ := s3) (kk := kk) (l := lv') (a := t % 24) hw hh e0 e1 (by rw [kall 0 (by omega) (by omega) (by omega) (by omega)]; exact m0) (by rw [kall 1 (by omega) (by omega) (by omega) (by omega)]; exact m1) hx hy hk hl7 (by omega)
    rw [r3 77 (by omega), r3 78 (by omega)] at q2
    have x24 : nI (24 * y' + x') - nI (24 * y' + x') / 24 * 24 = nI x' := xOf_c hx' hy'
    have y24 : nI (24 * y' + x') / 24 = nI y' := yOf_c hx' hy'
    rw [if_neg (nI_nle (by omega) (by omega)), kall 29 (by omega) (by omega) (by omega) (by omega), c0, kall 30 (by omega) (by omega) (by omega) (by omega), c1, q1, Option.bind_some, bT_e, bT_e, x24, y24, if_neg hz]
    refine ⟨_, x', y', rfl, fun a ha => by rw [up_ne ha, up_ne ha, r3 a ha], ez, fun j hj => by rw [upP, if_neg (by omega), upP, if_neg (by omega)]; exact kall j (by omega) (by omega) (by omega) (by omega), hx', hy', ?_, ?_, ?_, ?_, ?_, ?_, q2⟩
    · simp [upP]
    · simp [upP]
    · simp [upP, k31]
    · simp [upP, k32]
    · simp [upP, k33]
    · simp [upP, k34]
