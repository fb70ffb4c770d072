def tA (ρ : Nat → Nat → Int32) (o d lv t g : Nat) : Int32 := nI (tG o d g) * (ρ 74 lv + ρ 76 (t % 24))
def tH (o d ld bs : Nat) : Int32 := 10 * (nI ld + nI (tB o d bs))
theorem tV_le {a h : Int32} {lv : Nat} (hlv : lv ≤ 7) : tV a h lv ≤ 7 := by
  unfold tV
  by_cases h1 : a ≤ h
  · rw [if_pos h1]
    by_cases h2 : h ≤ a
    · rw [if_pos h2]; exact hlv
    · rw [if_neg h2]; omega
  · rw [if_neg h1]; omega
theorem tG_le (o d g : Nat) : tG o d g ≤ g := by
  unfold tG
  by_cases h : o = 2
  · rw [if_pos h]; omega
  · rw [if_neg h]; omega
theorem tB_le (o d g : Nat) : tB o d g ≤ g := by
  unfold tB
  by_cases h : o = 1
  · rw [if_pos h]; omega
  · rw [if_neg h]; omega
theorem moved_eq {σ τ : St} (h : τ.1 1 = σ.1 1) (c x y : Int32) : f_X5_movedFrom τ c x y = f_X5_movedFrom σ c x y := by
  unfold f_X5_movedFrom f_X5_has
  rw [h]
/-- the class's tick -/
theorem pass_s {σ : St} {B q o d c lv t ld g bs lv' fu : Nat} (hA : InvA (σ.1 4) (σ.1 5) (σ.1 6) (σ.1 74) (σ.1 75) (σ.1 76)) (hq : q = 7 ∨ q = 10) (hB : 33 ≤ B) (hB2 : B < 72) (ho : o ≤ 2) (hd : d ≤ 50) (hlv : lv ≤ 7) (ht : t < 1000) (hld : ld ≤ 200) (hg : g ≤ 500) (hbs : bs ≤ 200)
    (c1 : σ.1 B 0 = nI c) (c2 : σ.1 B 1 = nI lv) (c3 : σ.1 B 2 = nI t) (c4 : σ.1 B 3 = nI ld) (c5 : σ.1 B 4 = nI g) (c6 : σ.1 B 5 = nI bs) (hl' : tV (tA σ.1 o d lv t g) (tH o d ld bs) lv = lv') (hfu : σ.1 75 lv' = nI fu) (hfu5 : fu ≤ 500) :
    ∃ s : St, f_X1_pass σ B (nI o) (nI d) q = some s ∧ (∀ a, ¬ a = B → s.1 a = σ.1 a) ∧ s.2 = σ.2 ∧ s.1 B 0 = (if lv' = 0 then nI c else f_X5_movedFrom σ (nI c) (σ.1 (q + 1) (24 * lv' + t % 24)) (σ.1 (q + 2) (24 * lv' + t % 24))) ∧ s.1 B 1 = nI lv' ∧ s.1 B 2 = nI (t + 1) ∧ s.1 B 3 = nI ld ∧ s.1 B 4 = nI (min (tG o d g) fu) ∧ s.1 B 5 = nI (tB o d bs) ∧ s.1 B 6 = (if tG o d g ≤ fu then σ.1 B 6 else σ.1 B 6 + (nI (tG o d g) - nI fu)) ∧ s.1 B 7 = (if lv' = 0 then 1 else σ.1 B 7) := by
  have hl7 : lv' ≤ 7 := by rw [← hl']; exact tV_le hlv
  have hG := Nat.le_trans (tG_le o d g) hg
  have hBs := Nat.le_trans (tB_le o d bs) hbs
  obtain ⟨a1, -, ⟨dk, hdk, a3⟩, -⟩ := hA.1 lv (by omega)
  obtain ⟨b1, b2⟩ := hA.2 (t % 24) (by omega)
  have f1 := (hA.1 lv' (by omega)).2.1
  unfold f_X1_pass
  rw [bT_e, spend_s ho hd hg hbs c5 c6]
  generalize hs1 : up (up σ B 4 (nI (tG o d g))) B 5 (nI (tB o d bs)) = s1
  have r1 : ∀ a, ¬ a = B → s1.1 a = σ.1 a := fun a ha => by rw [← hs1, up_ne ha, up_ne ha]
  have e1 : s1.2 = σ.2 := by rw [← hs1]; rfl
  have n0 : s1.1 B 0 = nI c := by rw [← hs1]; simp [upP, c1]
  have n1 : s1.1 B 1 = nI lv := by rw [← hs1]; simp [upP, c2]
  have n2 : s1.1 B 2 = nI t := by rw [← hs1]; simp [upP, c3]
  have n3 : s1.1 B 3 = nI ld := by rw [← hs1]; simp [upP, c4]
  have n4 : s1.1 B 4 = nI (tG o d g) := by rw [← hs1]; simp [upP]
  have n5 : s1.1 B 5 = nI (tB o d bs) := by rw [← hs1]; simp [upP]
  have n6 : s1.1 B 6 = σ.1 B 6 := by rw [← hs1]; simp [upP]
  have n7 : s1.1 B 7 = σ.1 B 7 := by rw [← hs1]; simp [upP]
  have r24 : nI t - nI t / 24 * 24 = nI (t % 24) := pk_rem (d := 24) (by omega) (by omega) (by omega)
  have hlift : f_X1_liftLessWeight s1 B = some (tA σ.1 o d lv t g - tH o d ld bs) := by
    unfold f_X1_liftLessWeight f_X1_hour tA tH
    rw [n1, n2, n3, n4, n5, r24, aL_nI (by omega) (by decide), Option.bind_some, aL_nI (by omega) (by decide), Option.bind_some, r1 4 (by omega), r1 6 (by omega), a1, b1]
  have hcmp := lift_cmp (g := tG o d g) (dk := dk) (ld := ld) (bs := tB o d bs) (w := σ.1 76 (t % 24)) hG hdk b2 hld hBs
  rw [← a3] at hcmp
  rw [hlift, Option.bind_some, bT_e, climb_s (v := tA σ.1 o d lv t g - tH o d ld bs) (a := tA σ.1 o d lv t g) (h := tH o d ld bs) hlv n1 hcmp.1 hcmp.2, hl']
  generalize hs3 : up s1 B 1 (nI lv') = s3
  have r3 : ∀ a, ¬ a = B → s3.1 a = σ.1 a := fun a ha => by rw [← hs3, up_ne ha, r1 a ha]
  have k1 : s3.1 B 1 = nI lv' := by rw [← hs3]; simp [upP]
  have k4 : s3.1 B 4 = nI (tG o d g) := by rw [← hs3]; simp [upP, n4]
  have k6 : s3.1 B 6 = σ.1 B 6 := by rw [← hs3]; simp [upP, n6]
  rw [k1, aL_nI (by omega) (by decide), Option.bind_some, r3 5 (by omega), f1, hfu, bT_e, vent_s hG hfu5 k4, k6]
  generalize hs5 : up (up s3 B 6 (if tG o d g ≤ fu then σ.1 B 6 else σ.1 B 6 + (nI (tG o d g) - nI fu))) B 4 (nI (min (tG o d g) fu)) = s5
  have r5 : ∀ a, ¬ a = B → s5.1 a = σ.1 a := fun a ha => by rw [← hs5, up_ne ha, up_ne ha, r3 a ha]
  have e5 : s5.2 = σ.2 := by rw [← hs5, ← hs3]; exact e1
  have m0 : s5.1 B 0 = nI c := by rw [← hs5, ← hs3]; simp [upP, n0]
  have m1 : s5.1 B 1 = nI lv' := by rw [← hs5]; simp [upP, k1]
  have m2 : s5.1 B 2 = nI t := by rw [← hs5, ← hs3]; simp [upP, n2]
  have m3 : s5.1 B 3 = nI ld := by rw [← hs5, ← hs3]; simp [upP, n3]
  have m4 : s5.1 B 4 = nI (min (tG o d g) fu) := by rw [← hs5]; simp [upP]
  have m5 : s5.1 B 5 = nI (tB o d bs) := by rw [← hs5, ← hs3]; simp [upP, n5]
  have m6 : s5.1 B 6 = (if tG o d g ≤ fu then σ.1 B 6 else σ.1 B 6 + (nI (tG o d g) - nI fu)) := by rw [← hs5]; simp [upP]
  have m7 : s5.1 B 7 = σ.1 B 7 := by rw [← hs5, ← hs3]; simp [upP, n7]
  rw [m1]
  by_cases hz : lv' = 0
  · rw [if_pos (by rw [hz]; rfl), bT_e]
    unfold f_X1_pass_66
    rw [bT_e]
    refine ⟨_, rfl, fun a ha => by rw [up_ne ha, up_ne ha, r5 a ha], e5, ?_, ?_, ?_, ?_, ?_, ?_, ?_, ?_⟩
    · rw [if_pos hz]; simp [upP, m0]
    · simp [upP, m1]
    · simp [upP, m2, nI_1]
    · simp [upP, m3]
    · simp [upP, m4]
    · simp [upP, m5]
    · simp [upP, m6]
    · rw [if_pos hz]; simp [upP]
  · have hzn : ¬ nI lv' = 0 := nI_ne0 (by omega) (by omega)
    have hlead : f_X8_leadFrom s5 q (s5.1 B 0) (nI lv') (f_X1_hour s5 B) = some (f_X5_movedFrom σ (nI c) (σ.1 (q + 1) (24 * lv' + t % 24)) (σ.1 (q + 2) (24 * lv' + t % 24))) := by
      unfold f_X8_leadFrom f_X1_hour
      rw [m0, m2, r24, ixw, aL_nI (by omega) (by decide), Option.bind_some, aL_nI (by omega) (by decide), Option.bind_some, r5 (q + 1) (by omega), r5 (q + 2) (by omega), moved_eq (r5 1 (by omega))]
    rw [if_neg hzn, hlead, Option.bind_some, bT_e]
    unfold f_X1_pass_66
    rw [bT_e]
    refine ⟨_, rfl, fun a ha => by rw [up_ne ha, up_ne ha, r5 a ha], e5, ?_, ?_, ?_, ?_, ?_, ?_, ?_, ?_⟩
    · rw [if_neg hz]; simp [upP]
    · simp [upP, m1]
    · simp [upP, m2, nI_1]
    · simp [upP, m3]
    · simp [upP, m4]
    · simp [upP, m5]
    · simp [upP, m6]
    · rw [if_neg hz]; simp [upP, m7]
