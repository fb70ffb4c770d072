/-- the reference's search, whole -/
theorem cha_s {σ : St} {w h c x y p x0 y0 : Nat} (hw1 : 1 ≤ w) (hw : w ≤ 24) (hh1 : 1 ≤ h) (hh : h ≤ 24) (m0 : σ.1 72 0 = nI w) (m1 : σ.1 72 1 = nI h) (e0 : σ.1 1 0 = nI w) (e1 : σ.1 1 1 = nI h) (hc : c < 4) (hx : x < w) (hy : y < h) (hp1 : 1 ≤ p) (hp : p ≤ 5) (hK : ¬ σ.1 73 (24 * y + x) = 1) (c93 : σ.1 93 c = nI x) (c94 : σ.1 94 c = nI y) (c95 : σ.1 95 c = nI p) (hx0 : x0 < w) (hy0 : y0 < h) :
    ∃ R : Nat → Int32, f_X10_chased σ (nI c) (nI x0) (nI y0) = some (if R (24 * y0 + x0) = -1 then -1 else (R (24 * y0 + x0) + nI p - 1) / nI p, sr σ 101 R) ∧ LabF w h (σ.1 73) (24 * y + x) R := by
  have hi : 24 * y + x < 576 := by omega
  have ha : 24 * y0 + x0 < 576 := by omega
  have a1 : f_X10_chased σ (nI c) (nI x0) (nI y0) = f_X10_chased_25 (sr σ 101 (fun j => if 0 ≤ j ∧ j < 576 then -1 else σ.1 101 j)) (nI c) (nI x0) (nI y0) := chd_l (nI c) (nI x0) (nI y0) 10000 0 σ (by omega) (by omega)
  rw [a1]
  unfold f_X10_chased_25
  rw [aL_nI hc (by decide), Option.bind_some, aL_nI hc (by decide), Option.bind_some]
  rw [show (sr σ 101 (fun j => if 0 ≤ j ∧ j < 576 then -1 else σ.1 101 j)).1 94 c = nI y from c94, show (sr σ 101 (fun j => if 0 ≤ j ∧ j < 576 then -1 else σ.1 101 j)).1 93 c = nI x from c93, ix24, aS_nI hi (by decide), Option.bind_some, up_sr, sr_sr]
  rw [show (sr σ 101 (fun j => if 0 ≤ j ∧ j < 576 then -1 else σ.1 101 j)).1 101 = (fun j => if 0 ≤ j ∧ j < 576 then -1 else σ.1 101 j) by rw [sr1, if_pos rfl]]
  have u0 : unr (fun j => if 0 ≤ j ∧ j < 576 then -1 else σ.1 101 j) 576 = 576 := unr_all 576 (fun j hj => if_pos ⟨by omega, hj⟩)
  have u1 := unr_u (S := fun j => if 0 ≤ j ∧ j < 576 then -1 else σ.1 101 j) (j := 24 * y + x) (v := 0) (if_pos ⟨by omega, hi⟩) (by decide) 576 hi
  have L : Lb w h (σ.1 73) (24 * y + x) (upd (fun j => if 0 ≤ j ∧ j < 576 then -1 else σ.1 101 j) (24 * y + x) 0) 0 := by
    refine ⟨by rw [upd_e, if_pos rfl]; rfl, fun c' hc' => ?_⟩
    rw [upd_e]
    by_cases q : c' = 24 * y + x
    · rw [if_pos q]
      exact Or.inr ⟨0, by omega, rfl, by omega, by omega, by rw [q]; exact hK, q.symm⟩
    · rw [if_neg q, if_pos ⟨by omega, hc'⟩]
      exact Or.inl rfl
  generalize upd (fun j => if 0 ≤ j ∧ j < 576 then -1 else σ.1 101 j) (24 * y + x) 0 = S at u1 L ⊢
  have t1 : (sr σ 101 S).1 101 = S := by rw [sr1, if_pos rfl]
  obtain ⟨R, j1, j2⟩ := c53_l (K := σ.1 73) (src := 24 * y + x) hw1 hw hh1 hh (nI c) (nI x0) (nI y0) 10000 0 (sr σ 101 S) 1 (by omega) m0 m1 e0 e1 rfl (by
    rw [t1]
    exact Or.inr ⟨rfl, L, fun c' d _ h => absurd h (by omega), by omega, by omega⟩)
  rw [sr_sr] at j1
  have t2 : (sr σ 101 R).1 101 = R := by rw [sr1, if_pos rfl]
  have t3 : (sr σ 101 R).1 95 c = nI p := c95
  refine ⟨R, ?_, j2⟩
  refine Eq.trans j1 ?_
  unfold f_X10_chased_208
  rw [ix24, aL_nI ha (by decide), Option.bind_some, t2, aL_nI hc (by decide), Option.bind_some, Option.bind_some, t3]
  by_cases q : R (24 * y0 + x0) = -1
  · rw [if_pos q, if_pos q]
  · rw [if_neg q, if_neg q]
    unfold nz
    rw [if_neg (nI_ne0 (by omega) (by omega)), Option.bind_some]
/-! the class's search -/
theorem so_l {w h : Nat} {K : Nat → Int32} {src : Nat} {S : Nat → Int32} {k c : Nat} (hw1 : 1 ≤ w) (hw : w ≤ 24) (hh1 : 1 ≤ h) (hh : h ≤ 24) (hk : k < 2 ^ 20) (hc : c < 576) (L : Lb w h K src S (k + 1)) (hS : S c = nI k) : ∀ (n s N : Nat) (σ : St), s ≤ 4 → 4 - s < n → σ.1 1 0 = nI w → σ.1 1 1 = nI h → (∀ i, i < 576 → σ.1 2 i = K i) → σ.1 31 = it w h K S c (nI (k + 1)) s → N + unr (σ.1 31) 576 = 576 →
    ∃ (N' : Nat) (τ : St), f_X2_stepOn_5 n σ (nI c) (nI N) (nI s) = some (nI N', τ) ∧ (∀ a, ¬ a = 31 → ¬ a = 32 → τ.1 a = σ.1 a) ∧ τ.2 = σ.2 ∧ τ.1 31 = it w h K S c (nI (k + 1)) 4 ∧ N ≤ N' ∧ N' + unr (τ.1 31) 576 = 576 ∧ (∀ j, j < N → τ.1 32 j = σ.1 32 j) ∧ (∀ j, N ≤ j → j < N' → ∃ q, q < 576 ∧ τ.1 32 j = nI q ∧ τ.1 31 q = nI (k + 1)) ∧ (∀ m, m < 576 → σ.1 31 m = -1 → ¬ τ.1 31 m = -1 → ∃ j, N ≤ j ∧ j < N' ∧ τ.1 32 j = nI m) ∧ (∀ m, ¬ σ.1 31 m = -1 → τ.1 31 m = σ.1 31 m) := by
  obtain ⟨-, g3, g4, -⟩ := stp_s (s := 0) hw hh hk hc L hS
  intro n
  induction n with
  | zero => intro s N σ h1 h2; omega
  | succ n ih =>
    intro s N σ h1 h2 e0 e1 hK h31 hN
    rw [f_X2_stepOn_5]
    by_cases hs : s = 4
    · subst hs
      refine ⟨N, σ, by rw [if_pos (show (4 : Int32) ≤ nI 4 from Int32.le_refl _)], fun _ _ _ => rfl, rfl, h31, Nat.le_refl _, hN, fun _ _ => rfl, fun j h h' => absurd h' (by omega), fun m _ h h' => absurd h h', fun _ _ => rfl⟩
    · have hs4 : s < 4 := by omega
      obtain ⟨i1, i2, i3, i4⟩ := it_s hw hh hk hc L hS s
      have D := it_k (s := s) hw hh hk hc i1 i4
      obtain ⟨ht, -⟩ := stp_s (s := s) hw hh hk hc i1 i4
      have E : stp K (it w h K S c (nI (k + 1)) s) (tgt w h s c) (nI (k + 1)) = it w h K S c (nI (k + 1)) (s + 1) := rfl
      rw [E] at D
      rw [if_neg (show ¬ (4 : Int32) ≤ nI s from nI_ge (a := s) (b := 4) (by omega) (by omega)), (sd_v hs4).1, Option.bind_some, (sd_v hs4).2, Option.bind_some, mv_s hw1 hw hh1 hh e0 e1 hc g3 g4 hs4]
      generalize tgt w h s c = t at D ht ⊢
      rw [aL_nI ht (by decide), Option.bind_some, aL_nI ht (by decide), Option.bind_some, aL_nI hc (by decide), Option.bind_some, hK t ht, nI_1]
      rw [← h31] at D i4
      by_cases hm : flg K (σ.1 31) t = 0
      · rcases D with ⟨-, D⟩ | ⟨-, -, D, -⟩
        · obtain ⟨N', τ, r1, r2⟩ := ih (s + 1) N σ (by omega) (by omega) e0 e1 hK D.symm hN
          refine ⟨N', τ, ?_, r2⟩
          unfold flg at hm
          by_cases z1 : σ.1 31 t = -1
          · rw [if_pos z1]
            by_cases z2 : K t = 1
            · rw [if_pos z2, r1]
            · rw [if_neg z2, if_pos z1] at hm
              exact absurd hm (by decide)
          · rw [if_neg z1, r1]
        · rw [hm] at D
          exact absurd D (by decide)
      · rcases D with ⟨D, -⟩ | ⟨d1, d2, -, d4, d5⟩
        · exact absurd D hm
        · rw [d4] at d5
          have hN5 : N < 576 := by omega
          rw [if_pos d2, if_neg d1, if_neg (show ¬ (576 : Int32) ≤ nI N from nI_ge (a := N) (b := 576) (by omega) (by omega)), i4, nI_1, aS_nI ht (by decide), Option.bind_some, aS_nI hN5 (by decide), Option.bind_some, nI_1]
          have v31 : (up (up σ 31 t (nI (k + 1))) 32 N (nI t)).1 31 = upd (σ.1 31) t (nI (k + 1)) := by
            rw [up_ne (by decide), up_at]
          have v32 : (up (up σ 31 t (nI (k + 1))) 32 N (nI t)).1 32 = upd (σ.1 32) N (nI t) := by
            rw [up_at, up_ne (by decide)]
          have vr : ∀ a, ¬ a = 31 → ¬ a = 32 → (up (up σ 31 t (nI (k + 1))) 32 N (nI t)).1 a = σ.1 a := fun a q1 q2 => by rw [up_ne q2, up_ne q1]
          obtain ⟨N', τ, r1, r2, r3, r4, r5, r6, r7, r8, r9, r10⟩ := ih (s + 1) (N + 1) (up (up σ 31 t (nI (k + 1))) 32 N (nI t)) (by omega) (by omega) (by rw [vr 1 (by decide) (by decide)]; exact e0) (by rw [vr 1 (by decide) (by decide)]; exact e1) (by rw [vr 2 (by decide) (by decide)]; exact hK) (by rw [v31]; exact d4.symm) (by rw [v31]; omega)
          rw [v31] at r9 r10
          rw [v32] at r7
          have hn : τ.1 31 t = nI (k + 1) := by
            rw [r10 t (by rw [upd_e, if_pos rfl]; exact nI_m1 (by omega)), upd_e, if_pos rfl]
          have hq : τ.1 32 N = nI t := by rw [r7 N (by omega), upd_e, if_pos rfl]
          refine ⟨N', τ, r1, fun a q1 q2 => by rw [r2 a q1 q2, vr a q1 q2], by rw [r3]; rfl, r4, by omega, r6, fun j hj => by rw [r7 j (by omega), upd_e, if_neg (by omega)], fun j hj hj' => ?_, fun m hm' z1 z2 => ?_, fun m z1 => ?_⟩
          · by_cases hjN : j = N
            · rw [hjN]; exact ⟨t, ht, hq, hn⟩
            · exact r8 j (by omega) hj'
          · by_cases hmt : m = t
            · rw [hmt]; exact ⟨N, by omega, by omega, hq⟩
            · obtain ⟨j, y1, y2, y3⟩ := r9 m hm' (by rw [upd_e, if_neg hmt]; exact z1) z2
              exact ⟨j, by omega, y2, y3⟩
          · by_cases hmt : m = t
            · rw [hmt] at z1
              exact absurd d2 z1
            · rw [r10 m (by rw [upd_e, if_neg hmt]; exact z1), upd_e, if_neg hmt]
/-- the queue -/
theorem mf_l {w h : Nat} {K : Nat → Int32} {src : Nat} (hw1 : 1 ≤ w) (hw : w ≤ 24) (hh1 : 1 ≤ h) (hh : h ≤ 24) : ∀ (n i N : Nat) (σ : St) (Q D : Nat → Nat), 576 - i < n → i ≤ N → σ.1 1 0 = nI w → σ.1 1 1 = nI h → (∀ j, j < 576 → σ.1 2 j = K j) → Lb w h K src (σ.1 31) 600 → N + unr (σ.1 31) 576 = 576 → (∀ j, j < N → Q j < 576 ∧ D j ≤ j ∧ σ.1 32 j = nI (Q j) ∧ σ.1 31 (Q j) = nI (D j) ∧ (i < N → D j ≤ D i + 1)) → (∀ j j', j ≤ j' → j' < N → D j ≤ D j') → (∀ j, j < i → Cl w h K (σ.1 31) (Q j) (D j)) → (∀ c, c < 576 → ¬ σ.1 31 c = -1 → ∃ j, j < N ∧ Q j = c) →
    ∃ τ : St, f_X2_measureFrom_40 n σ (nI N) (nI i) = some τ ∧ (∀ a, ¬ a = 31 → ¬ a = 32 → τ.1 a = σ.1 a) ∧ τ.2 = σ.2 ∧ LabF w h K src (τ.1 31) := by
  intro n
  induction n with
  | zero => intro i N σ Q D h1; omega
  | succ n ih =>
    intro i N σ Q D h1 h2 e0 e1 hK L hN q1 q2 q3 q4
    rw [f_X2_measureFrom_40]
    have hN5 : N ≤ 576 := by omega
    by_cases hiN : i = N
    · subst hiN
      refine ⟨σ, by rw [if_pos (Int32.le_refl _)], fun _ _ _ => rfl, rfl, L.1, fun c hc => ?_, fun c n' d hc hd g A => ?_⟩
      · rcases L.2 c hc with g | ⟨d, g1, g2⟩
        · exact Or.inl g
        · exact Or.inr ⟨d, by omega, g2⟩
      · obtain ⟨j, hj, rfl⟩ := q4 c hc (by rw [g]; exact nI_m1 (by omega))
        obtain ⟨-, z1, -, z2, -⟩ := q1 j hj
        have : d = D j := (nI_eq (by omega) (by omega)).mp (g.symm.trans z2)
        rw [this]
        exact q3 j hj n' A
    · have hi : i < N := by omega
      obtain ⟨z1, z2, z3, z4, -⟩ := q1 i hi
      have L1 : Lb w h K src (σ.1 31) (D i + 1) := by
        refine ⟨L.1, fun c hc => ?_⟩
        rcases L.2 c hc with g | ⟨d, g1, g2, g3⟩
        · exact Or.inl g
        · obtain ⟨j, hj, rfl⟩ := q4 c hc (by rw [g2]; exact nI_m1 (by omega))
          obtain ⟨-, y1, -, y2, y3⟩ := q1 j hj
          have : d = D j := (nI_eq (by omega) (by omega)).mp (g2.symm.trans y2)
          exact Or.inr ⟨d, by rw [this]; exact y3 hi, g2, g3⟩
      obtain ⟨N', τ, r1, r2, r3, r4, r5, r6, r7, r8, r9, r10⟩ := so_l hw1 hw hh1 hh (by omega) z1 L1 z4 10000 0 N σ (by omega) (by omega) e0 e1 hK rfl hN
      have hcl := it_c hw hh (by omega) z1 L1 z4
      have hLb := (it_s hw hh (by omega) z1 L1 z4 4).1
      rw [← r4] at hcl hLb
      have r1' : f_X2_stepOn σ (nI (Q i)) (nI N) = some (nI N', τ) := r1
      rw [if_neg (show ¬ nI N ≤ nI i from nI_ge hi (by omega)), if_neg (show ¬ (576 : Int32) ≤ nI i from nI_ge (a := i) (b := 576) (by omega) (by omega)), aL_nI (by omega) (by decide), Option.bind_some, z3, r1', oB2_some, nI_1]
      have keep : ∀ j, j < N → τ.1 31 (Q j) = nI (D j) := by
        intro j hj
        obtain ⟨-, y1, -, y2, -⟩ := q1 j hj
        rw [r10 _ (by rw [y2]; exact nI_m1 (by omega))]
        exact y2
      obtain ⟨ρ, s1, s2, s3, s4⟩ := ih (i + 1) N' τ (fun j => if j < N then Q j else (τ.1 32 j).toNatClampNeg) (fun j => if j < N then D j else D i + 1) (by omega) (by omega) (by rw [r2 1 (by decide) (by decide)]; exact e0) (by rw [r2 1 (by decide) (by decide)]; exact e1) (by rw [r2 2 (by decide) (by decide)]; exact hK) (Lb_mono (by omega) hLb) r6 (by
          intro j hj
          have hlast : i + 1 < N' → D j ≤ D i + 1 → (if j < N then D j else D i + 1) ≤ (if i + 1 < N then D (i + 1) else D i + 1) + 1 := by
            intro _ g
            have g2 : i + 1 < N → D i ≤ D (i + 1) := fun g => q2 i (i + 1) (by omega) g
            split <;> split <;> omega
          by_cases hjN : j < N
          · obtain ⟨y0, y1, y2, y3, y4⟩ := q1 j hjN
            simp only [if_pos hjN]
            refine ⟨y0, y1, by rw [r7 j hjN]; exact y2, keep j hjN, fun g => ?_⟩
            have := hlast g (y4 hi)
            rw [if_pos hjN] at this
            exact this
          · obtain ⟨q, y1, y2, y3⟩ := r8 j (by omega) hj
            simp only [if_neg hjN]
            rw [y2, nI_clamp (by omega)]
            refine ⟨y1, by omega, rfl, y3, fun g => ?_⟩
            have g2 : i + 1 < N → D i ≤ D (i + 1) := fun g => q2 i (i + 1) (by omega) g
            split <;> omega) (by
          intro j j' hj hj'
          by_cases b1 : j < N
          · by_cases b2 : j' < N
            · simp only [if_pos b1, if_pos b2]
              exact q2 j j' hj b2
            · simp only [if_pos b1, if_neg b2]
              exact (q1 j b1).2.2.2.2 hi
          · simp only [if_neg b1, if_neg (show ¬ j' < N by omega)]
            exact Nat.le_refl _) (by
          intro j hj
          simp only [if_pos (show j < N by omega)]
          by_cases hji : j = i
          · rw [hji]; exact hcl
          · have := q1 j (by omega)
            exact Cl_mono (by omega) r10 (q3 j (by omega))) (by
          intro c hc hm
          by_cases z : σ.1 31 c = -1
          · obtain ⟨j, y1, y2, y3⟩ := r9 c hc z hm
            exact ⟨j, y2, by simp only [if_neg (show ¬ j < N by omega)]; rw [y3, nI_clamp (by omega)]⟩
          · obtain ⟨j, y1, y2⟩ := q4 c hc z
            exact ⟨j, by omega, by simp only [if_pos y1]; exact y2⟩)
      exact ⟨ρ, s1, fun a y1 y2 => by rw [s2 a y1 y2, r2 a y1 y2], by rw [s3, r3], s4⟩
/-- how far every cell is from the aim: what the reference finds the other way round -/
theorem mea_s {σ : St} {w h a : Nat} {K : Nat → Int32} (hw1 : 1 ≤ w) (hw : w ≤ 24) (hh1 : 1 ≤ h) (hh : h ≤ 24) (e0 : σ.1 1 0 = nI w) (e1 : σ.1 1 1 = nI h) (hK : ∀ j, j < 576 → σ.1 2 j = K j) (ha : a < 576) (a1 : a % 24 < w) (a2 : a / 24 < h) : ∃ s : St, f_X2_measureFrom σ (nI a) = some s ∧ (∀ r, ¬ r = 31 → ¬ r = 32 → s.1 r = σ.1 r) ∧ s.2 = σ.2 ∧ ∀ (b : Nat) (R : Nat → Int32), b < 576 → LabF w h K b R → s.1 31 b = R a := by
  unfold f_X2_measureFrom
  rw [fill_k 31 576 rfl (by decide), Option.bind_some, aL_nI ha (by decide), Option.bind_some]
  rw [show (sr σ 31 (fun j => if j < 576 then -1 else σ.1 31 j)).1 2 a = K a from hK a ha]
  by_cases hw' : K a = 1
  · rw [if_pos hw']
    refine ⟨_, rfl, fun r h1 h2 => by rw [sr1, if_neg h1], rfl, fun b R hb LR => ?_⟩
    rw [sr1, if_pos rfl, if_pos hb]
    rcases LR.2.1 a ha with g | ⟨d, -, -, -, -, g, -⟩
    · exact g.symm
    · exact absurd hw' g
  · rw [if_neg hw', aS_nI ha (by decide), Option.bind_some]
    rw [show aS (up (sr σ 31 (fun j => if j < 576 then -1 else σ.1 31 j)) 31 a 0) 32 576 0 (nI a) = some (up (up (sr σ 31 (fun j => if j < 576 then -1 else σ.1 31 j)) 31 a 0) 32 0 (nI a)) from aS_nI (j := 0) (by omega) (by decide), Option.bind_some]
    have v31 : (up (up (sr σ 31 (fun j => if j < 576 then -1 else σ.1 31 j)) 31 a 0) 32 0 (nI a)).1 31 = upd (fun j => if j < 576 then -1 else σ.1 31 j) a 0 := by
      rw [up_ne (by decide), up_at, sr1, if_pos rfl]
    have v32 : (up (up (sr σ 31 (fun j => if j < 576 then -1 else σ.1 31 j)) 31 a 0) 32 0 (nI a)).1 32 0 = nI a := by
      rw [up_at, upd_e, if_pos rfl]
    have vr : ∀ r, ¬ r = 31 → ¬ r = 32 → (up (up (sr σ 31 (fun j => if j < 576 then -1 else σ.1 31 j)) 31 a 0) 32 0 (nI a)).1 r = σ.1 r := fun r q1 q2 => by rw [up_ne q2, up_ne q1, sr1, if_neg q1]
    have u0 : unr (fun j => if j < 576 then -1 else σ.1 31 j) 576 = 576 := unr_all 576 (fun j hj => if_pos hj)
    have u1 := unr_u (S := fun j => if j < 576 then -1 else σ.1 31 j) (j := a) (v := 0) (if_pos ha) (by decide) 576 ha
    have L : Lb w h K a (upd (fun j => if j < 576 then -1 else σ.1 31 j) a 0) 600 := by
      refine ⟨by rw [upd_e, if_pos rfl]; rfl, fun c' hc' => ?_⟩
      rw [upd_e]
      by_cases q : c' = a
      · rw [if_pos q]
        exact Or.inr ⟨0, by omega, rfl, by omega, by omega, by rw [q]; exact hw', q.symm⟩
      · rw [if_neg q, if_pos hc']
        exact Or.inl rfl
    have v2 : (up (up (sr σ 31 (fun j => if j < 576 then -1 else σ.1 31 j)) 31 a 0) 32 0 (nI a)).2 = σ.2 := rfl
    generalize up (up (sr σ 31 (fun j => if j < 576 then -1 else σ.1 31 j)) 31 a 0) 32 0 (nI a) = ρ at v31 v32 vr v2 ⊢
    obtain ⟨τ, r1, r2, r3, r4⟩ := mf_l (K := K) (src := a) hw1 hw hh1 hh 10000 0 1 ρ (fun _ => a) (fun _ => 0) (by omega) (by omega) (by rw [vr 1 (by decide) (by decide)]; exact e0) (by rw [vr 1 (by decide) (by decide)]; exact e1) (by rw [vr 2 (by decide) (by decide)]; exact hK) (by rw [v31]; exact L) (by rw [v31]; omega) (fun j hj => ⟨ha, by omega, by rw [show j = 0 by omega]; exact v32, by rw [v31, upd_e, if_pos rfl]; rfl, fun _ => by omega⟩) (fun _ _ _ _ => Nat.le_refl _) (fun j hj => absurd hj (by omega)) (fun c hc hm => ⟨0, by omega, by
      by_cases q : c = a
      · exact q.symm
      · rw [v31, upd_e, if_neg q, if_pos hc] at hm
        exact absurd rfl hm⟩)
    refine ⟨τ, r1, fun r q1 q2 => by rw [r2 r q1 q2, vr r q1 q2], by rw [r3, v2], fun b R hb LR => ?_⟩
    exact Lab_two hh ha hb r4 LR
