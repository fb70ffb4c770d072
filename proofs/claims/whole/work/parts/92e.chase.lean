theorem it_n (w h : Nat) (K S : Nat → Int32) (c : Nat) (v : Int32) : ∀ n m, it w h K S c v n m = S m ∨ it w h K S c v n m = v := by
  intro n
  induction n with
  | zero => exact fun m => Or.inl rfl
  | succ n ih =>
    intro m
    have e : it w h K S c v (n + 1) = stp K (it w h K S c v n) (tgt w h n c) v := rfl
    rw [e]
    unfold stp
    by_cases h1 : K (tgt w h n c) = 1
    · rw [if_pos h1]; exact ih m
    · rw [if_neg h1]
      by_cases h2 : it w h K S c v n (tgt w h n c) = -1
      · rw [if_pos h2, upd_e]
        by_cases h3 : m = tgt w h n c
        · rw [if_pos h3]; exact Or.inr rfl
        · rw [if_neg h3]; exact ih m
      · rw [if_neg h2]; exact ih m
/-- one cell of the reference's search that lies at the level -/
theorem c64_s {w h : Nat} {K : Nat → Int32} {src : Nat} (hw1 : 1 ≤ w) (hw : w ≤ 24) (hh1 : 1 ≤ h) (hh : h ≤ 24) (kn : St → Int32 → Int32 → Int32 → Int32 → Int32 → Option (Int32 × St)) (x1 x2 x3 x4 : Int32) {σ : St} {k c : Nat} (hk : k < 2 ^ 20) (hc : c < 576) (m0 : σ.1 72 0 = nI w) (m1 : σ.1 72 1 = nI h) (e0 : σ.1 1 0 = nI w) (e1 : σ.1 1 1 = nI h) (hK : σ.1 73 = K) (L : Lb w h K src (σ.1 101) (k + 1)) (hS : σ.1 101 c = nI k) (h4 : x4 = 0 ∨ x4 = 1) :
    ∃ x4' : Int32, (∀ n, f_X10_chased_64 kn (n + 1) σ x1 x2 x3 x4 (nI k) (nI c) = f_X10_chased_64 kn n (sr σ 101 (it w h K (σ.1 101) c (nI (k + 1)) 4)) x1 x2 x3 x4' (nI k) (nI (c + 1))) ∧ (x4' = 0 ∧ x4 = 0 ∧ it w h K (σ.1 101) c (nI (k + 1)) 4 = σ.1 101 ∨ x4' = 1 ∧ (x4 = 1 ∨ unr (it w h K (σ.1 101) c (nI (k + 1)) 4) 576 < unr (σ.1 101) 576)) ∧ unr (it w h K (σ.1 101) c (nI (k + 1)) 4) 576 ≤ unr (σ.1 101) 576 := by
  obtain ⟨-, g3, g4, -⟩ := stp_s (s := 0) hw hh hk hc L hS
  have I := it_s hw hh hk hc L hS
  have R := fun (s : Nat) (hs : s < 4) => rc_s (s := s) hw1 hw hh1 hh m0 m1 e0 e1 hK hk g3 g4 hs (I s).2.2.2
  have D := fun (s : Nat) => it_k (s := s) hw hh hk hc (I s).1 (I s).2.2.2
  generalize hS0 : σ.1 101 = S at *
  have E : ∀ s, stp K (it w h K S c (nI (k + 1)) s) (tgt w h s c) (nI (k + 1)) = it w h K S c (nI (k + 1)) (s + 1) := fun s => rfl
  have r0 := R 0 (by omega)
  have r1 := R 1 (by omega)
  have r2 := R 2 (by omega)
  have r3 := R 3 (by omega)
  have d0 := D 0
  have d1 := D 1
  have d2 := D 2
  have d3 := D 3
  simp only [E, Nat.reduceAdd] at r0 r1 r2 r3 d0 d1 d2 d3
  have z0 : it w h K S c (nI (k + 1)) 0 = S := rfl
  rw [z0] at r0 d0
  rw [sr_id σ 101 S hS0.symm] at r0
  rw [show nI (c % 24) + vX 0 = nI (c % 24) + 1 from rfl, show nI (c / 24) + vY 0 = nI (c / 24) from Int32.add_zero _] at r0
  rw [show nI (c % 24) + vX 1 = nI (c % 24) - 1 from (Int32.sub_eq_add_neg _ _).symm, show nI (c / 24) + vY 1 = nI (c / 24) from Int32.add_zero _] at r1
  rw [show nI (c % 24) + vX 2 = nI (c % 24) from Int32.add_zero _, show nI (c / 24) + vY 2 = nI (c / 24) + 1 from rfl] at r2
  rw [show nI (c % 24) + vX 3 = nI (c % 24) from Int32.add_zero _, show nI (c / 24) + vY 3 = nI (c / 24) - 1 from (Int32.sub_eq_add_neg _ _).symm] at r3
  have ex : nI c - nI c / 24 * 24 = nI (c % 24) := pk_rem (d := 24) (by omega) (by omega) (by omega)
  have ey : nI c / 24 = nI (c / 24) := pk_div (d := 24) (by omega) (by omega) (by omega)
  have U : ∀ n x4, f_X10_chased_64 kn (n + 1) σ x1 x2 x3 x4 (nI k) (nI c) = if x4 = 0 then (if flg K S (tgt w h 0 c) = 0 then (if flg K (it w h K S c (nI (k + 1)) 1) (tgt w h 1 c) = 0 then (if flg K (it w h K S c (nI (k + 1)) 2) (tgt w h 2 c) = 0 then (if flg K (it w h K S c (nI (k + 1)) 3) (tgt w h 3 c) = 0 then f_X10_chased_64 kn n (sr σ 101 (it w h K S c (nI (k + 1)) 4)) x1 x2 x3 0 (nI k) (nI (c + 1)) else f_X10_chased_64 kn n (sr σ 101 (it w h K S c (nI (k + 1)) 4)) x1 x2 x3 1 (nI k) (nI (c + 1))) else f_X10_chased_64 kn n (sr σ 101 (it w h K S c (nI (k + 1)) 4)) x1 x2 x3 1 (nI k) (nI (c + 1))) else f_X10_chased_64 kn n (sr σ 101 (it w h K S c (nI (k + 1)) 4)) x1 x2 x3 1 (nI k) (nI (c + 1))) else f_X10_chased_64 kn n (sr σ 101 (it w h K S c (nI (k + 1)) 4)) x1 x2 x3 1 (nI k) (nI (c + 1))) else f_X10_chased_64 kn n (sr σ 101 (it w h K S c (nI (k + 1)) 4)) x1 x2 x3 1 (nI k) (nI (c + 1)) := by
    intro n x4
    rw [f_X10_chased_64, if_neg (show ¬ (576 : Int32) ≤ nI c from nI_ge (a := c) (b := 576) (by omega) (by omega)), aL_nI hc (by decide), Option.bind_some, hS0, if_pos hS, ex, ey, r0, oB2_some, r1, oB2_some, r2, oB2_some, r3, oB2_some, nI_1]
  have u0 : unr (it w h K S c (nI (k + 1)) 1) 576 ≤ unr S 576 := by
    rcases d0 with ⟨-, q⟩ | ⟨-, -, -, -, q⟩
    · rw [q]; exact Nat.le_refl _
    · omega
  have u1 : unr (it w h K S c (nI (k + 1)) 2) 576 ≤ unr (it w h K S c (nI (k + 1)) 1) 576 := by
    rcases d1 with ⟨-, q⟩ | ⟨-, -, -, -, q⟩
    · rw [q]; exact Nat.le_refl _
    · omega
  have u2 : unr (it w h K S c (nI (k + 1)) 3) 576 ≤ unr (it w h K S c (nI (k + 1)) 2) 576 := by
    rcases d2 with ⟨-, q⟩ | ⟨-, -, -, -, q⟩
    · rw [q]; exact Nat.le_refl _
    · omega
  have u3 : unr (it w h K S c (nI (k + 1)) 4) 576 ≤ unr (it w h K S c (nI (k + 1)) 3) 576 := by
    rcases d3 with ⟨-, q⟩ | ⟨-, -, -, -, q⟩
    · rw [q]; exact Nat.le_refl _
    · omega
  rcases h4 with rfl | rfl
  · rcases d0 with ⟨f0, q0⟩ | ⟨-, -, f0, -, q0⟩
    · rcases d1 with ⟨f1, q1⟩ | ⟨-, -, f1, -, q1⟩
      · rcases d2 with ⟨f2, q2⟩ | ⟨-, -, f2, -, q2⟩
        · rcases d3 with ⟨f3, q3⟩ | ⟨-, -, f3, -, q3⟩
          · exact ⟨0, fun n => by rw [U, if_pos rfl, if_pos f0, if_pos f1, if_pos f2, if_pos f3], Or.inl ⟨rfl, rfl, by rw [q3, q2, q1, q0]⟩, by omega⟩
          · exact ⟨1, fun n => by rw [U, if_pos rfl, if_pos f0, if_pos f1, if_pos f2, if_neg (by rw [f3]; decide)], Or.inr ⟨rfl, Or.inr (by omega)⟩, by omega⟩
        · exact ⟨1, fun n => by rw [U, if_pos rfl, if_pos f0, if_pos f1, if_neg (by rw [f2]; decide)], Or.inr ⟨rfl, Or.inr (by omega)⟩, by omega⟩
      · exact ⟨1, fun n => by rw [U, if_pos rfl, if_pos f0, if_neg (by rw [f1]; decide)], Or.inr ⟨rfl, Or.inr (by omega)⟩, by omega⟩
    · exact ⟨1, fun n => by rw [U, if_pos rfl, if_neg (by rw [f0]; decide)], Or.inr ⟨rfl, Or.inr (by omega)⟩, by omega⟩
  · exact ⟨1, fun n => by rw [U, if_neg (by decide)], Or.inr ⟨rfl, Or.inl rfl⟩, by omega⟩
/-- one level of the reference's search -/
theorem c64_l {w h : Nat} {K : Nat → Int32} {src : Nat} (hw1 : 1 ≤ w) (hw : w ≤ 24) (hh1 : 1 ≤ h) (hh : h ≤ 24) (kn : St → Int32 → Int32 → Int32 → Int32 → Int32 → Option (Int32 × St)) (x1 x2 x3 : Int32) {k : Nat} (hk : k < 2 ^ 20) (S0 : Nat → Int32) : ∀ (n c : Nat) (σ : St) (x4 : Int32), c ≤ 576 → 576 - c < n → σ.1 72 0 = nI w → σ.1 72 1 = nI h → σ.1 1 0 = nI w → σ.1 1 1 = nI h → σ.1 73 = K → Lb w h K src (σ.1 101) (k + 1) → (∀ c' d, c' < 576 → d < k → σ.1 101 c' = nI d → Cl w h K (σ.1 101) c' d) → (∀ c', c' < c → σ.1 101 c' = nI k → Cl w h K (σ.1 101) c' k) → (x4 = 0 ∧ σ.1 101 = S0 ∨ x4 = 1 ∧ unr (σ.1 101) 576 < unr S0 576) →
    ∃ (R : Nat → Int32) (x4' : Int32), f_X10_chased_64 kn n σ x1 x2 x3 x4 (nI k) (nI c) = kn (sr σ 101 R) x1 x2 x3 x4' (nI (k + 1)) ∧ Lb w h K src R (k + 1) ∧ (∀ c' d, c' < 576 → d < k + 1 → R c' = nI d → Cl w h K R c' d) ∧ (x4' = 0 ∧ R = S0 ∨ x4' = 1 ∧ unr R 576 < unr S0 576) := by
  intro n
  induction n with
  | zero => intro c σ x4 h1 h2; omega
  | succ n ih =>
    intro c σ x4 h1 h2 m0 m1 e0 e1 hK L C1 C2 h4
    by_cases hc : c = 576
    · subst hc
      refine ⟨σ.1 101, x4, ?_, L, fun c' d g1 g2 g3 => ?_, h4⟩
      · rw [f_X10_chased_64, if_pos (show (576 : Int32) ≤ nI 576 from Int32.le_refl _), sr_id σ 101 _ rfl, nI_1]
      · by_cases hd : d = k
        · subst hd
          exact C2 c' g1 g3
        · exact C1 c' d g1 (by omega) g3
    · have hc5 : c < 576 := by omega
      by_cases hS : σ.1 101 c = nI k
      · obtain ⟨x4', U, q, qu⟩ := c64_s hw1 hw hh1 hh kn x1 x2 x3 x4 hk hc5 m0 m1 e0 e1 hK L hS (by rcases h4 with g | g; exact Or.inl g.1; exact Or.inr g.1)
        have I := it_s hw hh hk hc5 L hS 4
        have hcl := it_c hw hh hk hc5 L hS
        have hn := it_n w h K (σ.1 101) c (nI (k + 1)) 4
        rw [U n]
        generalize it w h K (σ.1 101) c (nI (k + 1)) 4 = T at q qu I hcl hn ⊢
        have t1 : (sr σ 101 T).1 101 = T := by rw [sr1, if_pos rfl]
        have new : ∀ c' d, c' < 576 → d ≤ k → T c' = nI d → σ.1 101 c' = nI d := by
          intro c' d g1 g2 g3
          rcases hn c' with z | z
          · exact z.symm.trans g3
          · have := (nI_eq (by omega) (by omega)).mp (g3.symm.trans z)
            omega
        obtain ⟨R, y4, i1, i2, i3, i4⟩ := ih (c + 1) (sr σ 101 T) x4' (by omega) (by omega) m0 m1 e0 e1 hK (by rw [t1]; exact I.1) (by rw [t1]; exact fun c' d g1 g2 g3 => Cl_mono (by omega) I.2.1 (C1 c' d g1 g2 (new c' d g1 (by omega) g3))) (by
            rw [t1]
            intro c' g1 g2
            by_cases hcc : c' = c
            · rw [hcc]; exact hcl
            · exact Cl_mono (by omega) I.2.1 (C2 c' (by omega) (new c' k (by omega) (by omega) g2))) (by
            rw [t1]
            rcases q with ⟨q1, q2, q3⟩ | ⟨q1, q2⟩
            · rcases h4 with ⟨g1, g2⟩ | ⟨g1, g2⟩
              · exact Or.inl ⟨q1, q3.trans g2⟩
              · rw [g1] at q2
                exact absurd q2 (by decide)
            · refine Or.inr ⟨q1, ?_⟩
              rcases h4 with ⟨g1, g2⟩ | ⟨g1, g2⟩
              · rcases q2 with q2 | q2
                · rw [g1] at q2
                  exact absurd q2 (by decide)
                · rw [← g2]; exact q2
              · omega)
        refine ⟨R, y4, ?_, i2, i3, i4⟩
        rw [i1, sr_sr]
      · obtain ⟨R, y4, i1, i2, i3, i4⟩ := ih (c + 1) σ x4 (by omega) (by omega) m0 m1 e0 e1 hK L C1 (fun c' g1 g2 => by
            by_cases hcc : c' = c
            · rw [hcc] at g2
              exact absurd g2 hS
            · exact C2 c' (by omega) g2) h4
        refine ⟨R, y4, ?_, i2, i3, i4⟩
        rw [f_X10_chased_64, if_neg (show ¬ (576 : Int32) ≤ nI c from nI_ge (a := c) (b := 576) (by omega) (by omega)), aL_nI hc5 (by decide), Option.bind_some, if_neg hS, nI_1, i1]
/-- all levels -/
theorem c53_l {w h : Nat} {K : Nat → Int32} {src : Nat} (hw1 : 1 ≤ w) (hw : w ≤ 24) (hh1 : 1 ≤ h) (hh : h ≤ 24) (x1 x2 x3 : Int32) : ∀ (n k : Nat) (σ : St) (x4 : Int32), 1 ≤ n → σ.1 72 0 = nI w → σ.1 72 1 = nI h → σ.1 1 0 = nI w → σ.1 1 1 = nI h → σ.1 73 = K → (x4 = 0 ∧ LabF w h K src (σ.1 101) ∨ x4 = 1 ∧ Lb w h K src (σ.1 101) k ∧ (∀ c' d, c' < 576 → d < k → σ.1 101 c' = nI d → Cl w h K (σ.1 101) c' d) ∧ k + unr (σ.1 101) 576 ≤ 575 ∧ unr (σ.1 101) 576 + 1 < n) →
    ∃ R : Nat → Int32, f_X10_chased_53 n σ x1 x2 x3 x4 (nI k) = f_X10_chased_208 (sr σ 101 R) x1 x2 x3 ∧ LabF w h K src R := by
  intro n
  induction n with
  | zero => intro k σ x4 h1; omega
  | succ n ih =>
    intro k σ x4 _ m0 m1 e0 e1 hK h4
    rcases h4 with ⟨rfl, h4⟩ | ⟨rfl, L, C, u1, u2⟩
    · exact ⟨σ.1 101, by rw [f_X10_chased_53, if_pos rfl, sr_id σ 101 _ rfl], h4⟩
    · obtain ⟨R, y4, i1, i2, i3, i4⟩ := c64_l hw1 hw hh1 hh (fun σ x1 x2 x3 x4 x5 => f_X10_chased_53 n σ x1 x2 x3 x4 x5) x1 x2 x3 (k := k) (by omega) (σ.1 101) 10000 0 σ 0 (by omega) (by omega) m0 m1 e0 e1 hK (Lb_mono (by omega) L) C (fun c' h => absurd h (by omega)) (Or.inl ⟨rfl, rfl⟩)
      have t1 : (sr σ 101 R).1 101 = R := by rw [sr1, if_pos rfl]
      have step : f_X10_chased_53 (n + 1) σ x1 x2 x3 1 (nI k) = f_X10_chased_53 n (sr σ 101 R) x1 x2 x3 y4 (nI (k + 1)) := by
        rw [f_X10_chased_53, if_neg (by decide)]
        exact i1
      rw [step]
      obtain ⟨R2, j1, j2⟩ := ih (k + 1) (sr σ 101 R) y4 (by omega) m0 m1 e0 e1 hK (by
        rw [t1]
        rcases i4 with ⟨q1, q2⟩ | ⟨q1, q2⟩
        · refine Or.inl ⟨q1, ?_, fun c hc => ?_, fun c n' d hc hd g A => ?_⟩
          · exact i2.1
          · rcases i2.2 c hc with g | ⟨d, g1, g2⟩
            · exact Or.inl g
            · exact Or.inr ⟨d, by omega, g2⟩
          · rcases L.2 c hc with g' | ⟨d', g1, g2, -⟩
            · rw [← q2, g] at g'
              exact absurd g' (nI_m1 (by omega))
            · rw [← q2, g] at g2
              have := (nI_eq (by omega) (by omega)).mp g2
              exact i3 c d hc (by omega) g n' A
        · exact Or.inr ⟨q1, i2, i3, by omega, by omega⟩)
      exact ⟨R2, by rw [j1, sr_sr], j2⟩
