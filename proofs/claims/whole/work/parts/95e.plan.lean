/-- the class goes through the plans behind a prefix of orders -/
theorem tf_l {σ0 : St} {w h n d ld t0 aim : Nat} {K : Nat → Int32} {nr : Bool} (hw : w ≤ 24) (hh : h ≤ 24) (e0 : σ0.1 1 0 = nI w) (e1 : σ0.1 1 1 = nI h) (m0 : σ0.1 72 0 = nI w) (m1 : σ0.1 72 1 = nI h) (iA : InvA (σ0.1 4) (σ0.1 5) (σ0.1 6) (σ0.1 74) (σ0.1 75) (σ0.1 76)) (iN : InvN (σ0.1 8) (σ0.1 9) (σ0.1 11) (σ0.1 12) (σ0.1 77) (σ0.1 78)) (hK : ∀ j, j < 576 → σ0.1 2 j = K j) (hn : n ≤ 6) (hd : d ≤ 50) (hld : ld ≤ 200) (ht : t0 < 200) (haim : aim < 576) :
    ∀ (m fu p pc : Nat) (σ : St) (S : Nat × Nat × Nat × Nat) (s : Int32 × Nat), m < fu → p + m = n → SOk S → BaO σ (33 + p) (t0 + p) ld S → PlS σ σ0 n d aim nr s → Pre σ p pc → ∃ σ' : St, f_X6_tryFrom fu σ (nI p) = some σ' ∧ PlS σ' σ0 n d aim nr (fdl nr (vl σ0 K d ld aim m (t0 + p) S) (pc * 3 ^ m) (3 ^ m) s) ∧ (∀ B, 33 ≤ B → B ≤ 33 + p → σ'.1 B = σ.1 B) ∧ ∀ j, j < p → σ'.1 17 j = σ.1 17 j := by
  intro m
  induction m with
  | zero =>
    intro fu p pc σ S s hfu hpm hS hB P R
    obtain ⟨fu, rfl⟩ : ∃ k, fu = k + 1 := ⟨fu - 1, by omega⟩
    obtain ⟨σ', w1, w2, w3⟩ := weigh_s (m := 0) (c := S.1) hn hpm hS.1 haim hB.1 P R
    rw [f_X6_tryFrom, P.2.2.1.1, if_pos (by rw [show p = n by omega]; exact Int32.le_refl _), w1, Option.bind_some]
    exact ⟨σ', rfl, w2, fun B h1 h2 => w3 B (by omega) (by omega), fun j _ => by rw [w3 17 (by omega) (by omega)]⟩
  | succ m ih =>
    intro fu p pc σ S s hfu hpm hS hB P R
    obtain ⟨fu, rfl⟩ : ∃ k, fu = k + 1 := ⟨fu - 1, by omega⟩
    have h7 := hB.2.2.2.2.2.2
    rw [f_X6_tryFrom, P.2.2.1.1, if_neg (nI_ge (by omega) (by omega)), if_neg (show ¬ (6 : Int32) ≤ nI p from nI_ge (a := p) (b := 6) (by omega) (by omega)), inB_nI (by omega) (by decide), Option.bind_some, h7]
    by_cases hl : S.2.1 = 0
    · obtain ⟨σ', w1, w2, w3⟩ := weigh_s (m := m + 1) (c := S.1) hn hpm hS.1 haim hB.1 P R
      rw [if_pos hl, if_neg (show ¬ (1 : Int32) = 0 by decide), w1, Option.bind_some]
      refine ⟨σ', rfl, ?_, fun B h1 h2 => w3 B (by omega) (by omega), fun j _ => by rw [w3 17 (by omega) (by omega)]⟩
      have hP := p3_pos (m + 1)
      have v := vl_d (σ := σ0) (K := K) (d := d) (ld := ld) (aim := aim) hl (m + 1) (t0 + p) pc
      obtain ⟨l, hl'⟩ : ∃ l, 3 ^ (m + 1) = l + 1 := ⟨3 ^ (m + 1) - 1, by omega⟩
      have v0 : vl σ0 K d ld aim (m + 1) (t0 + p) S (pc * 3 ^ (m + 1)) = sqv S.1 aim := by
        have := v 0 hP
        rw [if_pos rfl] at this
        exact this
      have E : fdl nr (vl σ0 K d ld aim (m + 1) (t0 + p) S) (pc * 3 ^ (m + 1)) (3 ^ (m + 1)) s = tak nr (sqv S.1 aim) (pc * 3 ^ (m + 1)) s := by
        rw [hl'] at v v0 ⊢
        rw [fdl_c, v0, fdl_no l]
        intro j h1 h2
        have := v (j - pc * (l + 1)) (by omega)
        rw [show pc * (l + 1) + (j - pc * (l + 1)) = j by omega, if_neg (by omega)] at this
        exact this
      rw [E]
      exact w2
    · rw [if_neg hl, if_pos rfl, nI_1, inB_nI (by omega) (by decide), Option.bind_some]
      have hP := p3_pos m
      -- the three orders
      have loop : ∀ (k fuel o : Nat) (σ : St) (s : Int32 × Nat), k < fuel → o + k = 3 → BaO σ (33 + p) (t0 + p) ld S → PlS σ σ0 n d aim nr s → Pre σ p pc → ∃ σ' : St, f_X6_tryFrom_43 (f_X6_tryFrom fu) fuel σ (nI p) (33 + (p + 1)) (nI o) = some σ' ∧ PlS σ' σ0 n d aim nr (fdl nr (vl σ0 K d ld aim (m + 1) (t0 + p) S) ((3 * pc + o) * 3 ^ m) (k * 3 ^ m) s) ∧ (∀ B, 33 ≤ B → B ≤ 33 + p → σ'.1 B = σ.1 B) ∧ ∀ j, j < p → σ'.1 17 j = σ.1 17 j := by
        intro k
        induction k with
        | zero =>
          intro fuel o σ s hf ho hB P R
          obtain ⟨fuel, rfl⟩ : ∃ k, fuel = k + 1 := ⟨fuel - 1, by omega⟩
          rw [f_X6_tryFrom_43, show o = 3 by omega, if_pos (show (3 : Int32) ≤ nI 3 from Int32.le_refl _), Nat.zero_mul]
          exact ⟨σ, rfl, P, fun _ _ _ => rfl, fun _ _ => rfl⟩
        | succ k ihk =>
          intro fuel o σ s hf ho hB P R
          obtain ⟨fuel, rfl⟩ : ∃ k, fuel = k + 1 := ⟨fuel - 1, by omega⟩
          have hb7 : bl (σ.1 (33 + p) 7) := by
            rw [hB.2.2.2.2.2.2]
            exact Or.inl (if_neg hl)
          obtain ⟨s4, c1, c2, c3, c4⟩ := copy_s (σ := σ) (k0 := 33 + (p + 1)) (k1 := 33 + p) (by omega) hb7
          have P4 : PlS s4 σ0 n d aim nr s := PlS_fr (fun r _ g => c2 r (by omega)) c3 P
          have B4 : BaO s4 (33 + (p + 1)) (t0 + p) ld S := by
            unfold BaO
            rw [c4 0 (by omega), c4 1 (by omega), c4 2 (by omega), c4 3 (by omega), c4 4 (by omega), c4 5 (by omega), c4 7 (by omega)]
            exact hB
          obtain ⟨s5, t1, t2, t3, t4⟩ := tk_9 (σ := s4) (σ0 := σ0) (B := 33 + (p + 1)) (d := d) (ld := ld) (t := t0 + p) (o := o) (S := S) hw hh e0 e1 m0 m1 iA iN (fun r hr => P4.1 r (by omega) (by omega) (by omega) (by omega)) (by omega) (by omega) (by omega) hd hld (by omega) hS (by omega) B4
          obtain ⟨k1, -⟩ := tk_ok (d := d) (ld := ld) (t := t0 + p) (o := o) hw hh e0 e1 m0 m1 iA iN hS
          have P5 : PlS s5 σ0 n d aim nr s := PlS_fr (fun r _ g => t2 r (by omega)) t3 P4
          rw [f_X6_tryFrom_43, if_neg (show ¬ (3 : Int32) ≤ nI o from nI_ge (a := o) (b := 3) (by omega) (by omega)), inB_nI (by omega) (by decide), Option.bind_some, c1, Option.bind_some, P4.2.2.1.2.1, t1, Option.bind_some, nI_1, nI_1]
          -- what the codes of this order are worth
          have val : ∀ j, (3 * pc + o) * 3 ^ m ≤ j → j < (3 * pc + o) * 3 ^ m + 3 ^ m → vl σ0 K d ld aim (m + 1) (t0 + p) S j = if K (tk σ0 d ld (t0 + p) o S).1 = 2 then -1 else if (tk σ0 d ld (t0 + p) o S).2.1 = 0 ∧ K (tk σ0 d ld (t0 + p) o S).1 = 1 then -1 else vl σ0 K d ld aim m (t0 + p + 1) (tk σ0 d ld (t0 + p) o S) j := by
            intro j h1 h2
            have e : j / 3 ^ m % 3 = o := by
              have := dgt (P := 3 ^ m) (pc := pc) (o := o) (j := j - (3 * pc + o) * 3 ^ m) (by omega) (by omega)
              rw [show (3 * pc + o) * 3 ^ m + (j - (3 * pc + o) * 3 ^ m) = j by omega] at this
              exact this
            rw [vl, if_neg hl, e]
          have split : ∀ s', fdl nr (vl σ0 K d ld aim (m + 1) (t0 + p) S) ((3 * pc + o) * 3 ^ m) (3 ^ m) s = s' → fdl nr (vl σ0 K d ld aim (m + 1) (t0 + p) S) ((3 * pc + o) * 3 ^ m) ((k + 1) * 3 ^ m) s = fdl nr (vl σ0 K d ld aim (m + 1) (t0 + p) S) ((3 * pc + (o + 1)) * 3 ^ m) (k * 3 ^ m) s' := by
            intro s' hs'
            rw [show (k + 1) * 3 ^ m = 3 ^ m + k * 3 ^ m by rw [Nat.add_one_mul, Nat.add_comm], fdl_add, hs', show (3 * pc + (o + 1)) * 3 ^ m = (3 * pc + o) * 3 ^ m + 3 ^ m by rw [← Nat.add_assoc, Nat.add_one_mul]]
          have hB5 : ∀ B, 33 ≤ B → B ≤ 33 + p → s5.1 B = σ.1 B := fun B h1 h2 => by rw [t2 B (by omega), c2 B (by omega)]
          have h175 : s5.1 17 = σ.1 17 := by rw [t2 17 (by omega), c2 17 (by omega)]
          generalize hS' : tk σ0 d ld (t0 + p) o S = S' at *
          have hcell := t4.1
          have hflag := t4.2.2.2.2.2.2
          have skip : (∀ j, (3 * pc + o) * 3 ^ m ≤ j → j < (3 * pc + o) * 3 ^ m + 3 ^ m → vl σ0 K d ld aim (m + 1) (t0 + p) S j = -1) → ∃ σ' : St, f_X6_tryFrom_43 (f_X6_tryFrom fu) fuel s5 (nI p) (33 + (p + 1)) (nI (o + 1)) = some σ' ∧ PlS σ' σ0 n d aim nr (fdl nr (vl σ0 K d ld aim (m + 1) (t0 + p) S) ((3 * pc + o) * 3 ^ m) ((k + 1) * 3 ^ m) s) ∧ (∀ B, 33 ≤ B → B ≤ 33 + p → σ'.1 B = σ.1 B) ∧ ∀ j, j < p → σ'.1 17 j = σ.1 17 j := by
            intro hno
            rw [split s (fdl_no _ _ _ hno)]
            obtain ⟨σ', i1, i2, i3, i4⟩ := ihk fuel (o + 1) s5 s (by omega) (by omega) (by unfold BaO; rw [hB5 (33 + p) (by omega) (by omega)]; exact hB) P5 (by unfold Pre; rw [h175]; exact R)
            exact ⟨σ', i1, i2, fun B h1 h2 => by rw [i3 B h1 h2, hB5 B h1 h2], fun j hj => by rw [i4 j hj, h175]⟩
          have go : (∀ j, (3 * pc + o) * 3 ^ m ≤ j → j < (3 * pc + o) * 3 ^ m + 3 ^ m → vl σ0 K d ld aim (m + 1) (t0 + p) S j = vl σ0 K d ld aim m (t0 + p + 1) S' j) → ∃ σ' : St, (Option.bind (aS s5 17 6 (nI p) (nI o)) fun s9 => Option.bind (f_X6_tryFrom fu s9 (nI (p + 1))) fun s10 => f_X6_tryFrom_43 (f_X6_tryFrom fu) fuel s10 (nI p) (33 + (p + 1)) (nI (o + 1))) = some σ' ∧ PlS σ' σ0 n d aim nr (fdl nr (vl σ0 K d ld aim (m + 1) (t0 + p) S) ((3 * pc + o) * 3 ^ m) ((k + 1) * 3 ^ m) s) ∧ (∀ B, 33 ≤ B → B ≤ 33 + p → σ'.1 B = σ.1 B) ∧ ∀ j, j < p → σ'.1 17 j = σ.1 17 j := by
            intro hyes
            rw [aS_nI (by omega) (by decide), Option.bind_some]
            obtain ⟨σ6, j1, j2, j3, j4⟩ := ih fu (p + 1) (3 * pc + o) (up s5 17 p (nI o)) S' s (by omega) (by omega) k1 (by unfold BaO; rw [up_ne (by omega)]; exact t4) (PlS_fr (fun r g _ => up_ne g) rfl P5) (Pre_s (σ := σ) (by omega) R (fun j hj => by rw [up_at, upd_e, if_neg (by omega), h175]) (by rw [up_at, upd_e, if_pos rfl]))
            rw [j1, Option.bind_some]
            have h6B : ∀ B, 33 ≤ B → B ≤ 33 + p → σ6.1 B = σ.1 B := fun B h1 h2 => by rw [j3 B h1 (by omega), up_ne (by omega), hB5 B h1 h2]
            have h617 : ∀ j, j < p → σ6.1 17 j = σ.1 17 j := fun j hj => by rw [j4 j (by omega), up_at, upd_e, if_neg (by omega), h175]
            rw [split _ (fdl_eq _ _ _ hyes)]
            obtain ⟨σ', i1, i2, i3, i4⟩ := ihk fuel (o + 1) σ6 _ (by omega) (by omega) (by unfold BaO; rw [h6B (33 + p) (by omega) (by omega)]; exact hB) j2 (fun j hj => by rw [h617 j hj]; exact R j hj)
            exact ⟨σ', i1, i2, fun B h1 h2 => by rw [i3 B h1 h2, h6B B h1 h2], fun j hj => by rw [i4 j hj, h617 j hj]⟩
          have hk2 : s5.1 2 S'.1 = K S'.1 := by rw [P5.1 2 (by omega) (by omega) (by omega) (by omega)]; exact hK _ k1.1
          unfold f_X6_mayBe
          rw [hcell, aL_nI k1.1 (by decide), Option.bind_some, hk2, hflag]
          by_cases q2 : K S'.1 = 2
          · rw [if_pos q2, Option.bind_some, if_pos rfl]
            exact skip (fun j h1 h2 => by rw [val j h1 h2, if_pos q2])
          · rw [if_neg q2]
            by_cases ql : S'.2.1 = 0
            · rw [if_pos ql, if_neg (show ¬ (1 : Int32) = 0 by decide)]
              by_cases q1 : K S'.1 = 1
              · rw [if_pos q1, Option.bind_some, if_pos rfl]
                exact skip (fun j h1 h2 => by rw [val j h1 h2, if_neg q2, if_pos ⟨ql, q1⟩])
              · rw [if_neg q1, Option.bind_some, if_neg (show ¬ (1 : Int32) = 0 by decide)]
                exact go (fun j h1 h2 => by rw [val j h1 h2, if_neg q2, if_neg (fun g => q1 g.2)])
            · rw [if_neg ql, if_pos rfl, Option.bind_some, if_neg (show ¬ (1 : Int32) = 0 by decide)]
              exact go (fun j h1 h2 => by rw [val j h1 h2, if_neg q2, if_neg (fun g => ql g.1)])
      obtain ⟨σ', i1, i2, i3, i4⟩ := loop 3 10000 0 σ s (by omega) (by omega) hB P R
      refine ⟨σ', i1, ?_, i3, i4⟩
      rw [Nat.add_zero] at i2
      rw [Nat.pow_succ, Nat.mul_comm (3 ^ m) 3, ← Nat.mul_assoc, Nat.mul_comm pc 3]
      exact i2
/-- what the class plans -/
theorem best_s {σ : St} {w h k1 n d ld t0 aim : Nat} {K : Nat → Int32} {p5 : Int32} {nr : Bool} {S : Nat × Nat × Nat × Nat} (h5 : p5 = 1 ∧ nr = true ∨ p5 = 0 ∧ nr = false) (hw : w ≤ 24) (hh : h ≤ 24) (e0 : σ.1 1 0 = nI w) (e1 : σ.1 1 1 = nI h) (m0 : σ.1 72 0 = nI w) (m1 : σ.1 72 1 = nI h) (iA : InvA (σ.1 4) (σ.1 5) (σ.1 6) (σ.1 74) (σ.1 75) (σ.1 76)) (iN : InvN (σ.1 8) (σ.1 9) (σ.1 11) (σ.1 12) (σ.1 77) (σ.1 78)) (hK : ∀ j, j < 576 → σ.1 2 j = K j) (hn : n ≤ 6) (hd : d ≤ 50) (hld : ld ≤ 200) (ht : t0 < 200) (haim : aim < 576) (hk1 : 40 ≤ k1) (hS : SOk S) (hB : BaO σ k1 t0 ld S) :
    ∃ s9 : St, f_X6_best σ k1 (nI n) (nI d) (nI aim) p5 = some ((fdl nr (vl σ K d ld aim n t0 S) 0 (3 ^ n) (-1, 0)).1, s9) ∧ PlS s9 σ n d aim nr (fdl nr (vl σ K d ld aim n t0 S) 0 (3 ^ n) (-1, 0)) := by
  unfold f_X6_best pZ
  have hb5 : p5 = 0 ∨ p5 = 1 := by
    rcases h5 with ⟨g, -⟩ | ⟨g, -⟩
    · exact Or.inr g
    · exact Or.inl g
  rw [bT_e, bT_e, bT_e, if_pos hb5, Option.bind_some, bT_e, show inB 7 0 = some 0 from inB_nI (j := 0) (by omega) (by decide), Option.bind_some]
  generalize hs5 : up (up (up (up (up σ 15 6 (nI n)) 15 7 (nI d)) 15 8 (nI aim)) 15 9 p5) 15 10 (-1) = s5
  have z : ∀ r, ¬ r = 15 → s5.1 r = σ.1 r := fun r hr => by rw [← hs5, up_ne hr, up_ne hr, up_ne hr, up_ne hr, up_ne hr]
  have z2 : s5.2 = σ.2 := by rw [← hs5]; rfl
  have hb7 : bl (s5.1 k1 7) := by
    rw [z k1 (by omega), hB.2.2.2.2.2.2]
    by_cases hl : S.2.1 = 0
    · exact Or.inr (if_pos hl)
    · exact Or.inl (if_neg hl)
  obtain ⟨s8, c1, c2, c3, c4⟩ := copy_s (σ := s5) (k0 := 33 + 0) (k1 := k1) (by omega) hb7
  rw [c1, Option.bind_some]
  have P8 : PlS s8 σ n d aim nr (-1, 0) := by
    refine ⟨fun r a b c e => by rw [c2 r (by omega), z r a], by rw [c3, z2], ?_, fun _ => ⟨?_, by rw [c2 18 (by omega), z 18 (by omega)]⟩, fun h => absurd rfl h⟩
    · rw [c2 15 (by omega), ← hs5]
      simp only [up_at, upd_e, Nat.reduceEqDiff, if_true, if_false]
      refine ⟨trivial, trivial, trivial, ?_, trivial⟩
      rcases h5 with ⟨g1, g2⟩ | ⟨g1, g2⟩
      · rw [g1, g2]; rfl
      · rw [g1, g2]; rfl
    · rw [c2 15 (by omega), ← hs5]
      simp only [up_at, upd_e, Nat.reduceEqDiff, if_true, if_false]
  have B8 : BaO s8 (33 + 0) (t0 + 0) ld S := by
    unfold BaO
    rw [c4 0 (by omega), c4 1 (by omega), c4 2 (by omega), c4 3 (by omega), c4 4 (by omega), c4 5 (by omega), c4 7 (by omega), z k1 (by omega)]
    exact hB
  obtain ⟨s9, t1, t2, -, -⟩ := tf_l (σ0 := σ) (K := K) (nr := nr) hw hh e0 e1 m0 m1 iA iN hK hn hd hld ht haim n 8 0 0 s8 S (-1, 0) (by omega) (by omega) hS B8 P8 (fun j hj => absurd hj (by omega))
  rw [Nat.zero_mul, Nat.add_zero] at t2
  rw [show f_X6_tryFrom 8 s8 0 = some s9 from t1, Option.bind_some, t2.2.2.1.2.2.2.2]
  exact ⟨s9, rfl, t2⟩
