/-- FlOk with the class's rows out of a, the reference's out of b -/
def FlO2 (a ρ : Nat → Nat → Int32) (f : Nat) : Prop := ∃ x y lv t ld g bs e b : Nat, x < 24 ∧ y < 24 ∧ lv ≤ 7 ∧ b ≤ 23 ∧ 1 ≤ e ∧ e ≤ 60 ∧ t + 1 = b + e ∧ 1 ≤ ld ∧ ld ≤ 200 ∧ g ≤ 500 ∧ bs ≤ 200 ∧
  (ρ 79 f = nI x ∧ ρ 80 f = nI y ∧ ρ 81 f = nI lv ∧ ρ 82 f = nI t ∧ ρ 83 f = nI ld ∧ ρ 84 f = nI g ∧ ρ 85 f = nI bs ∧ ρ 88 f = nI b ∧ ρ 89 f = nI e ∧ bl (ρ 87 f) ∧ (ρ 87 f = 0 → 1 ≤ lv)) ∧
  (a (40 + 4 * f + 1) 0 = nI (24 * y + x) ∧ a (40 + 4 * f + 1) 1 = nI lv ∧ a (40 + 4 * f + 1) 2 = nI t ∧ a (40 + 4 * f + 1) 3 = nI ld ∧ a (40 + 4 * f + 1) 4 = nI g ∧ a (40 + 4 * f + 1) 5 = nI bs ∧ a (40 + 4 * f + 1) 6 = ρ 86 f ∧ a (40 + 4 * f + 1) 7 = ρ 87 f) ∧
  (a (40 + 4 * f) 3 = nI e ∧ a (40 + 4 * f) 5 = ρ 90 (61 * f) ∧ a (40 + 4 * f) 6 = nI b ∧ a (40 + 4 * f) 4 = nI (cntL (fun i => ρ 92 (61 * f + i)) e)) ∧
  ρ 92 (61 * f) = 0 ∧ ∀ i, i < e → ∃ c l : Nat, c < 576 ∧ l ≤ 7 ∧ ρ 90 (61 * f + i) = nI c ∧ ρ 91 (61 * f + i) = nI l ∧ a (40 + 4 * f + 2) i = nI (8 * c + l) ∧ a (40 + 4 * f + 3) i = ρ 92 (61 * f + i) ∧ bl (ρ 92 (61 * f + i))
theorem FlO2_self (ρ : Nat → Nat → Int32) (f : Nat) : FlO2 ρ ρ f ↔ FlOk ρ f := Iff.rfl
theorem FlO2_l {a a' ρ : Nat → Nat → Int32} {f : Nat} (h : ∀ d, d < 4 → a' (40 + 4 * f + d) = a (40 + 4 * f + d)) (g : FlO2 a ρ f) : FlO2 a' ρ f := by
  have r0 := h 0 (by omega)
  have r1 := h 1 (by omega)
  have r2 := h 2 (by omega)
  have r3 := h 3 (by omega)
  simp only [Nat.add_zero] at r0
  unfold FlO2 at g ⊢
  rw [r0, r1, r2, r3]
  exact g
theorem FlO2_r {a ρ ρ' : Nat → Nat → Int32} {f : Nat} (h : ∀ k, 79 ≤ k → k ≤ 92 → ρ' k = ρ k) (g : FlO2 a ρ f) : FlO2 a ρ' f := by
  unfold FlO2 at g ⊢
  rw [h 79 (by omega) (by omega), h 80 (by omega) (by omega), h 81 (by omega) (by omega), h 82 (by omega) (by omega), h 83 (by omega) (by omega), h 84 (by omega) (by omega), h 85 (by omega) (by omega), h 86 (by omega) (by omega), h 87 (by omega) (by omega), h 88 (by omega) (by omega), h 89 (by omega) (by omega), h 90 (by omega) (by omega), h 91 (by omega) (by omega), h 92 (by omega) (by omega)]
  exact g
theorem moved_in {σ : St} {w h x y x' y' l : Nat} {v1 v2 : Int32} (hw : w ≤ 24) (hh : h ≤ 24) (e0 : σ.1 1 0 = nI w) (e1 : σ.1 1 1 = nI h) (hx : x < w) (hy : y < h) (hx' : x' < 24) (hy' : y' < 24) (q : (if l = 0 then nI (24 * y + x) else f_X5_movedFrom σ (nI (24 * y + x)) v1 v2) = nI (24 * y' + x')) : x' < w ∧ y' < h := by
  have key : nI (24 * y + x) = nI (24 * y' + x') → x' < w ∧ y' < h := fun g => by
    have := (nI_eq (by omega) (by omega)).mp g
    have h1 : x' = x := by omega
    have h2 : y' = y := by omega
    exact ⟨by omega, by omega⟩
  by_cases hl : l = 0
  · rw [if_pos hl] at q
    exact key q
  · rw [if_neg hl] at q
    unfold f_X5_movedFrom at q
    by_cases hc : f_X5_has σ (f_X9_xOf (nI (24 * y + x)) + v1) (f_X9_yOf (nI (24 * y + x)) + v2) = 0
    · rw [if_pos hc] at q
      exact key q
    · obtain ⟨x2, y2, hx2, hy2, ex, ey⟩ := has_in hw hh e0 e1 hc
      rw [if_neg hc, ex, ey, cO] at q
      have := (nI_eq (by omega) (by omega)).mp q
      exact ⟨by omega, by omega⟩
theorem go_l {w h f o d m : Nat} (hw : w ≤ 24) (hh : h ≤ 24) (hf : f < 8) (ho : o ≤ 2) (hd : d ≤ 50) (hm : m ≤ 12) : ∀ (n i e : Nat) (σ τ : St), i ≤ m → m - i < n → e + (m - i) ≤ 60 → σ.1 1 0 = nI w → σ.1 1 1 = nI h → τ.1 72 0 = nI w → τ.1 72 1 = nI h → InvA (σ.1 4) (σ.1 5) (σ.1 6) (σ.1 74) (σ.1 75) (σ.1 76) → (∀ k, 73 ≤ k → k ≤ 78 → τ.1 k = σ.1 k) → (∀ i, i < 192 → σ.1 8 i = σ.1 77 i ∧ σ.1 9 i = σ.1 78 i) → FlO2 σ.1 τ.1 f → τ.1 89 f = nI e →
    ∃ (r : Int32) (sc s : St), f_X9_go_85 n σ (nI o) (nI d) (nI m) (40 + 4 * f) (nI i) = some (r, sc) ∧ f_X10_go_73 n τ (nI f) (nI o) (nI d) (nI m) (nI i) = some (r, s) ∧ FlO2 sc.1 s.1 f ∧ sc.2 = σ.2 ∧ s.2 = τ.2 ∧ (∀ a, ¬ (40 + 4 * f ≤ a ∧ a ≤ 40 + 4 * f + 3) → sc.1 a = σ.1 a) ∧ (∀ a, ¬ a = 72 → ¬ (79 ≤ a ∧ a ≤ 92) → s.1 a = τ.1 a) ∧ (∀ j, j < 29 ∨ 34 < j → s.1 72 j = τ.1 72 j) ∧ (∀ a f', 79 ≤ a → a ≤ 89 → ¬ f' = f → s.1 a f' = τ.1 a f') ∧ (∀ a i, 90 ≤ a → a ≤ 92 → ¬ (61 * f ≤ i ∧ i < 61 * f + 60) → s.1 a i = τ.1 a i) ∧ ((∃ x y : Nat, x < w ∧ y < h ∧ τ.1 79 f = nI x ∧ τ.1 80 f = nI y) → ∃ x y : Nat, x < w ∧ y < h ∧ s.1 79 f = nI x ∧ s.1 80 f = nI y) := by
  intro n
  induction n with
  | zero => intro i e σ τ h1 h2; omega
  | succ n ih =>
    intro i e σ τ h1 h2 h3 L0 L1 M0 M1 hA hT hN hfl h89
    by_cases hi : i = m
    · refine ⟨nI i, σ, τ, ?_, ?_, hfl, rfl, rfl, fun _ _ => rfl, fun _ _ _ => rfl, fun _ _ => rfl, fun _ _ _ _ _ => rfl, fun _ _ _ _ _ => rfl, fun q => q⟩
      · unfold f_X9_go_85
        rw [if_pos (by rw [hi]; exact Int32.le_refl _)]
      · unfold f_X10_go_73
        rw [if_pos (by rw [hi]; exact Int32.le_refl _)]
    · have hni : ¬ nI m ≤ nI i := nI_ge (by omega) (by omega)
      obtain ⟨x, y, lv, t, ld, g, bs, e', b, hx, hy, hlv, hb, he1, he, ht, hld1, hld, hg, hbs, ⟨m1, m2, m3, m4, m5, m6, m7, m8, m9, m10, m11⟩, ⟨c1, c2, c3, c4, c5, c6, c7, c8⟩, ⟨d1, d2, d3, d4⟩, hz, hlog⟩ := id hfl
      have hee : e' = e := (nI_eq (by omega) (by omega)).mp (m9.symm.trans h89)
      subst hee
      by_cases hdn : τ.1 87 f = 0
      · obtain ⟨lv', hl'⟩ : ∃ l, tV (tA σ.1 o d lv t g) (tH o d ld bs) lv = l := ⟨_, rfl⟩
        have hl7 : lv' ≤ 7 := by rw [← hl']; exact tV_le hlv
        obtain ⟨-, -, -, fu, hfu5, hfu⟩ := hA.1 lv' (by omega)
        obtain ⟨s', p1, p2, p3, p4, p5, p6, p7, p8, p9, p10, p11⟩ := pass_s (σ := σ) (B := 40 + 4 * f + 1) (q := 7) hA (Or.inl rfl) (by omega) (by omega) ho hd hlv (by omega) hld hg hbs c1 c2 c3 c4 c5 c6 hl' hfu hfu5
        obtain ⟨s, x', y', q1, hx', hy', qm, q2, q3, q4, q5, q6, k79, k80, k81, k82, k83, k84, k85, k86, k87, k88, k89, k90, k91, k92⟩ := go10_s (σ := σ) (τ := τ) (lv' := lv') (fu := fu) hf hw hh L0 L1 M0 M1 ho hd hx hy (m11 hdn) hlv hg hbs (e := e') (by omega) m1 m2 m3 m4 (by omega) m5 m6 m7 hdn m9 (by unfold tA at hl' ⊢; rw [hT 74 (by omega) (by omega), hT 76 (by omega) (by omega)]; exact hl') (by rw [hT 75 (by omega) (by omega)]; exact hfu) hfu5
        have hcell : s'.1 (40 + 4 * f + 1) 0 = nI (24 * y' + x') := by
          rw [p4, ← qm, hT 77 (by omega) (by omega), hT 78 (by omega) (by omega), show 192 * 0 + 24 * lv' + t % 24 = 24 * lv' + t % 24 by omega, (hN (24 * lv' + t % 24) (by omega)).1, (hN (24 * lv' + t % 24) (by omega)).2]
        have hwd := wd_s (σ := s') (k := 40 + 4 * f) (c := 24 * y' + x') (l := lv') (e := e') (by omega) (by rw [p2 _ (by omega)]; exact d1) hcell p5
        generalize hsc : up (up (up s' (40 + 4 * f + 2) e' (nI (8 * (24 * y' + x') + lv'))) (40 + 4 * f + 3) e' 0) (40 + 4 * f) 3 (nI (e' + 1)) = sc at hwd
        have rc : ∀ a, ¬ (40 + 4 * f ≤ a ∧ a ≤ 40 + 4 * f + 3) → sc.1 a = σ.1 a := fun a ha => by rw [← hsc, up_ne (by omega), up_ne (by omega), up_ne (by omega), p2 a (by omega)]
        have rb : sc.1 (40 + 4 * f + 1) = s'.1 (40 + 4 * f + 1) := by rw [← hsc, up_ne (by omega), up_ne (by omega), up_ne (by omega)]
        have r0 : sc.1 (40 + 4 * f) = upd (σ.1 (40 + 4 * f)) 3 (nI (e' + 1)) := by rw [← hsc, up_at, up_ne (by omega), up_ne (by omega), p2 _ (by omega)]
        have r2 : sc.1 (40 + 4 * f + 2) = upd (σ.1 (40 + 4 * f + 2)) e' (nI (8 * (24 * y' + x') + lv')) := by rw [← hsc, up_ne (by omega), up_ne (by omega), up_at, p2 _ (by omega)]
        have r3 : sc.1 (40 + 4 * f + 3) = upd (σ.1 (40 + 4 * f + 3)) e' 0 := by rw [← hsc, up_ne (by omega), up_at, up_ne (by omega), p2 _ (by omega)]
        have z0 : sc.2 = σ.2 := by rw [← hsc]; exact p3
        have hnew : FlO2 sc.1 s.1 f := by
          refine ⟨x', y', lv', t + 1, ld, min (tG o d g) fu, tB o d bs, e' + 1, b, hx', hy', hl7, hb, by omega, by omega, by omega, hld1, hld, by omega, Nat.le_trans (tB_le o d bs) hbs, ⟨k79, k80, k81, k82, k83, k84, k85, k88.trans m8, k89, ?_, ?_⟩, ?_, ⟨?_, ?_, ?_, ?_⟩, ?_, fun j hj => ?_⟩
          · rw [k87]
            by_cases hzz : lv' = 0
            · rw [if_pos hzz]; exact Or.inr rfl
            · rw [if_neg hzz]; exact Or.inl rfl
          · rw [k87]
            by_cases hzz : lv' = 0
            · rw [if_pos hzz]; exact fun q => absurd q (by decide)
            · exact fun _ => by omega
          · rw [rb, k86, k87, ← c7]
            refine ⟨hcell, p5, p6, p7, p8, p9, p10, ?_⟩
            rw [p11, c8, hdn]
          · rw [r0, upd_e, if_pos rfl]
          · rw [r0, upd_e, if_neg (by omega), q6 90 _ (by omega) (by omega) (by omega)]; exact d2
          · rw [r0, upd_e, if_neg (by omega)]; exact d3
          · rw [r0, upd_e, if_neg (by omega), d4]
            show _ = nI (cntL (fun i => s.1 92 (61 * f + i)) e' + (if s.1 92 (61 * f + e') = 0 then 0 else 1))
            rw [k92, if_pos rfl, Nat.add_zero, cntL_eq (g := fun i => τ.1 92 (61 * f + i)) (fun j hj => q6 92 _ (by omega) (by omega) (by omega))]
          · rw [q6 92 _ (by omega) (by omega) (by omega)]; exact hz
          · by_cases hje : j = e'
            · subst hje
              rw [k90, k91, k92, r2, r3, upd_e, if_pos rfl, upd_e, if_pos rfl]
              exact ⟨24 * y' + x', lv', by omega, hl7, rfl, rfl, rfl, rfl, Or.inl rfl⟩
            · rw [q6 90 _ (by omega) (by omega) (by omega), q6 91 _ (by omega) (by omega) (by omega), q6 92 _ (by omega) (by omega) (by omega), r2, r3, upd_e, if_neg hje, upd_e, if_neg hje]
              exact hlog j (by omega)
        obtain ⟨r, sc2, s2, g1, g2, g3, g4, g5, g6, g7, g8, g9, g10, g11⟩ := ih (i + 1) (e' + 1) sc s (by omega) (by omega) (by omega) (by rw [rc 1 (by omega)]; exact L0) (by rw [rc 1 (by omega)]; exact L1) (by rw [q4 0 (by omega)]; exact M0) (by rw [q4 1 (by omega)]; exact M1) (by rw [rc 4 (by omega), rc 5 (by omega), rc 6 (by omega), rc 74 (by omega), rc 75 (by omega), rc 76 (by omega)]; exact hA) (fun k a1 a2 => by rw [q3 k (by omega) (by omega), rc k (by omega), hT k a1 a2]) (fun j hj => by rw [rc 8 (by omega), rc 9 (by omega), rc 77 (by omega), rc 78 (by omega)]; exact hN j hj) hnew k89
        refine ⟨r, sc2, s2, ?_, ?_, g3, g4.trans z0, g5.trans q2, fun a ha => (g6 a ha).trans (rc a ha), fun a a1 a2 => (g7 a a1 a2).trans (q3 a a1 a2), fun j hj => (g8 j hj).trans (q4 j hj), fun a f' a1 a2 a3 => (g9 a f' a1 a2 a3).trans (q5 a f' a1 a2 a3), fun a j a1 a2 a3 => (g10 a j a1 a2 a3).trans (q6 a j a1 a2 (by omega)), fun ⟨xx, yy, z1, z2, z3, z4⟩ => g11 ⟨x', y', ?_, ?_, k79, k80⟩⟩
        · unfold f_X9_go_85
          rw [if_neg hni, c8, if_pos hdn, p1, Option.bind_some, hwd, Option.bind_some, nI_1]
          exact g1
        · rw [q1 n (nI m) (nI i) hni, nI_1]
          exact g2
        · obtain rfl : x = xx := (nI_eq (by omega) (by omega)).mp (m1.symm.trans z3)
          obtain rfl : y = yy := (nI_eq (by omega) (by omega)).mp (m2.symm.trans z4)
          exact (moved_in hw hh L0 L1 z1 z2 hx' hy' qm).1
        · obtain rfl : x = xx := (nI_eq (by omega) (by omega)).mp (m1.symm.trans z3)
          obtain rfl : y = yy := (nI_eq (by omega) (by omega)).mp (m2.symm.trans z4)
          exact (moved_in hw hh L0 L1 z1 z2 hx' hy' qm).2
      · refine ⟨nI i, σ, τ, ?_, ?_, hfl, rfl, rfl, fun _ _ => rfl, fun _ _ _ => rfl, fun _ _ => rfl, fun _ _ _ _ _ => rfl, fun _ _ _ _ _ => rfl, fun q => q⟩
        · unfold f_X9_go_85
          rw [if_neg hni, c8, if_neg hdn]
        · unfold f_X10_go_73
          rw [if_neg hni, aL_nI hf (by decide), Option.bind_some, if_neg hdn]
