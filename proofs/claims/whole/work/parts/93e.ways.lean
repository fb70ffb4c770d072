theorem su_l {σ0 : St} {hr tr N : Nat} {A B Pl : Nat → Nat} (d : hr = 20 ∧ tr = 24 ∨ hr = 24 ∧ tr = 20) (hN : N ≤ 4608) (hN3 : σ0.1 hr 3 = nI N) (hPl : ∀ j, j < N → Pl j < 4608 ∧ σ0.1 (hr + 1) j = nI (Pl j)) (hA : ∀ q, q < 4608 → σ0.1 (hr + 2) q = nI (A q) ∧ σ0.1 (hr + 3) q = nI (B q) ∧ A q ≤ 1000000 ∧ B q ≤ 1000000) :
    ∀ (n j : Nat) (σ : St) (x y : Nat), j ≤ N → N - j < n → σ.2 = (hr, tr) → (∀ r, ¬ r = 19 → σ.1 r = σ0.1 r) → σ.1 19 4 = nI (min 1000000 x) → σ.1 19 5 = nI (min 1000000 y) → ∃ τ : St, f_X7_sumUp_12 n σ (nI j) = some τ ∧ (∀ r, ¬ r = 19 → τ.1 r = σ0.1 r) ∧ τ.2 = (hr, tr) ∧ τ.1 19 4 = nI (min 1000000 (x + ss (fun j => A (Pl j)) j (N - j))) ∧ τ.1 19 5 = nI (min 1000000 (y + ss (fun j => B (Pl j)) j (N - j))) := by
  intro n
  induction n with
  | zero => intro j σ x y h1 h2; omega
  | succ n ih =>
    intro j σ x y h1 h2 hd hfr v4 v5
    rw [f_X7_sumUp_12, hd]
    dsimp only
    rw [hfr hr (by omega), hN3]
    by_cases hj : j = N
    · rw [if_pos (by rw [hj]; exact Int32.le_refl _)]
      refine ⟨σ, rfl, hfr, hd, ?_, ?_⟩
      · rw [hj, Nat.sub_self]; exact v4
      · rw [hj, Nat.sub_self]; exact v5
    · obtain ⟨p1, p2⟩ := hPl j (by omega)
      obtain ⟨a1, a2, a3, a4⟩ := hA _ p1
      rw [if_neg (nI_ge (by omega) (by omega)), aL_nI (by omega) (by decide), Option.bind_some, hfr (hr + 1) (by omega), p2, aL_nI p1 (by decide), Option.bind_some, hfr (hr + 2) (by omega), a1, v4, sat_c (by omega), bT_e, up2, hd]
      dsimp only
      rw [aL_nI (by omega) (by decide), Option.bind_some, up_ne (show ¬ hr + 1 = 19 by omega), hfr (hr + 1) (by omega), p2, aL_nI p1 (by decide), Option.bind_some, up_ne (show ¬ hr + 3 = 19 by omega), hfr (hr + 3) (by omega), a2, up_at, upd_e, if_neg (show ¬ 5 = 4 by decide), v5, sat_c (by omega), bT_e, nI_1]
      obtain ⟨τ, i1, i2, i3, i4, i5⟩ := ih (j + 1) (up (up σ 19 4 (nI (min 1000000 (x + A (Pl j))))) 19 5 (nI (min 1000000 (y + B (Pl j))))) (x + A (Pl j)) (y + B (Pl j)) (by omega) (by omega) hd (fun r hr' => by rw [up_ne hr', up_ne hr', hfr r hr']) (by rw [up_at, upd_e, if_neg (by decide), up_at, upd_e, if_pos rfl]) (by rw [up_at, upd_e, if_pos rfl])
      refine ⟨τ, i1, i2, i3, ?_, ?_⟩
      · rw [i4, show N - j = (N - (j + 1)) + 1 by omega, ss_c, Nat.add_assoc]
      · rw [i5, show N - j = (N - (j + 1)) + 1 by omega, ss_c, Nat.add_assoc]
theorem fw_l {τ0 : St} {A B : Nat → Nat} (hA : ∀ q, q < 4608 → τ0.1 97 q = nI (A q) ∧ τ0.1 98 q = nI (B q) ∧ A q ≤ 1000000 ∧ B q ≤ 1000000) :
    ∀ (n p : Nat) (τ : St) (x y : Nat), p ≤ 4608 → 4608 - p < n → τ.2 = τ0.2 → (∀ r, ¬ r = 72 → τ.1 r = τ0.1 r) → (∀ j, ¬ j = 39 → ¬ j = 40 → τ.1 72 j = τ0.1 72 j) → τ.1 72 39 = nI (min 1000000 x) → τ.1 72 40 = nI (min 1000000 y) → ∃ τ' : St, f_X10_findWays_136 n τ (nI p) = some τ' ∧ τ'.2 = τ0.2 ∧ (∀ r, ¬ r = 72 → τ'.1 r = τ0.1 r) ∧ (∀ j, ¬ j = 39 → ¬ j = 40 → τ'.1 72 j = τ0.1 72 j) ∧ τ'.1 72 39 = nI (min 1000000 (x + ss A p (4608 - p))) ∧ τ'.1 72 40 = nI (min 1000000 (y + ss B p (4608 - p))) := by
  intro n
  induction n with
  | zero => intro p τ x y h1 h2; omega
  | succ n ih =>
    intro p τ x y h1 h2 hd hfr h72 v4 v5
    rw [f_X10_findWays_136]
    by_cases hp : p = 4608
    · rw [if_pos (show (4608 : Int32) ≤ nI p by rw [hp]; exact Int32.le_refl _)]
      refine ⟨τ, rfl, hd, hfr, h72, ?_, ?_⟩
      · rw [hp]; exact v4
      · rw [hp]; exact v5
    · have hp' : p < 4608 := by omega
      obtain ⟨a1, a2, a3, a4⟩ := hA p hp'
      rw [if_neg (show ¬ (4608 : Int32) ≤ nI p from nI_ge (a := p) (b := 4608) (by omega) (by omega)), aL_nI hp' (by decide), Option.bind_some, hfr 97 (by decide), a1, v4, sat_r (by omega), bT_e, aL_nI hp' (by decide), Option.bind_some, up_ne (show ¬ 98 = 72 by decide), hfr 98 (by decide), a2, up_at, upd_e, if_neg (show ¬ 40 = 39 by decide), v5, sat_r (by omega), bT_e, nI_1]
      obtain ⟨τ', i1, i2, i3, i3', i4, i5⟩ := ih (p + 1) (up (up τ 72 39 (nI (min 1000000 (x + A p)))) 72 40 (nI (min 1000000 (y + B p)))) (x + A p) (y + B p) (by omega) (by omega) hd (fun r hr' => by rw [up_ne hr', up_ne hr', hfr r hr']) (fun j q1 q2 => by rw [up_at, upd_e, if_neg q2, up_at, upd_e, if_neg q1, h72 j q1 q2]) (by rw [up_at, upd_e, if_neg (by decide), up_at, upd_e, if_pos rfl]) (by rw [up_at, upd_e, if_pos rfl])
      refine ⟨τ', i1, i2, i3, i3', ?_, ?_⟩
      · rw [i4, show 4608 - p = (4608 - (p + 1)) + 1 by omega, ss_c, Nat.add_assoc]
      · rw [i5, show 4608 - p = (4608 - (p + 1)) + 1 by omega, ss_c, Nat.add_assoc]
/-- entry by entry: class and reference alike -/
theorem way_l {σ0 τ0 : St} {f e bb w h : Nat} {K : Nat → Int32} (hf : f < 8) (he : e ≤ 60) (hbb : bb ≤ 23) (hw : w ≤ 24) (hh : h ≤ 24) (e0 : σ0.1 1 0 = nI w) (e1 : σ0.1 1 1 = nI h) (m0 : τ0.1 72 0 = nI w) (m1 : τ0.1 72 1 = nI h) (iN : InvN (σ0.1 8) (σ0.1 9) (σ0.1 11) (σ0.1 12) (σ0.1 77) (σ0.1 78)) (t7 : τ0.1 77 = σ0.1 77) (t8 : τ0.1 78 = σ0.1 78) (hK : ∀ j, j < 576 → σ0.1 2 j = K j) (hK' : ∀ j, j < 576 → τ0.1 73 j = K j) (h6 : σ0.1 (40 + 4 * f) 6 = nI bb) (h88 : τ0.1 88 f = nI bb) (hk3 : σ0.1 (40 + 4 * f) 3 = nI e) (h89 : τ0.1 89 f = nI e)
    (hlog : ∀ i, i < e → ∃ c l : Nat, c < 576 ∧ l ≤ 7 ∧ τ0.1 90 (61 * f + i) = nI c ∧ τ0.1 91 (61 * f + i) = nI l ∧ σ0.1 (40 + 4 * f + 2) i = nI (8 * c + l) ∧ σ0.1 (40 + 4 * f + 3) i = τ0.1 92 (61 * f + i)) :
    ∀ (n i : Nat) (σ τ : St) (A B : Nat → Nat) (hr tr : Nat), (hr = 20 ∧ tr = 24 ∨ hr = 24 ∧ tr = 20) → 1 ≤ i → i ≤ e → e - i < n → σ.2 = (hr, tr) → (∀ r, ¬ (20 ≤ r ∧ r ≤ 27) → σ.1 r = σ0.1 r) → FrV σ hr A B → (∀ q, A q ≤ 1000000 ∧ B q ≤ 1000000) → FrOk (σ.1 tr) (σ.1 (tr + 1)) (σ.1 (tr + 2)) (σ.1 (tr + 3)) → τ.2 = τ0.2 → (∀ r, ¬ (97 ≤ r ∧ r ≤ 100) → τ.1 r = τ0.1 r) → (∀ q, q < 4608 → τ.1 97 q = nI (A q) ∧ τ.1 98 q = nI (B q)) →
    ∃ (σ' τ' : St) (x y : Nat), f_X7_follow_25 (40 + 4 * f) n σ (nI i) = some σ' ∧ f_X10_findWays_89 n τ (nI f) (nI i) = some τ' ∧ x ≤ 1000000 ∧ y ≤ 1000000 ∧ σ'.1 19 4 = nI x ∧ σ'.1 19 5 = nI y ∧ τ'.1 72 39 = nI x ∧ τ'.1 72 40 = nI y ∧ (∀ r, ¬ (19 ≤ r ∧ r ≤ 27) → σ'.1 r = σ0.1 r) ∧ InvW σ'.2 σ'.1 ∧ τ'.2 = τ0.2 ∧ (∀ r, ¬ r = 72 → ¬ (97 ≤ r ∧ r ≤ 100) → τ'.1 r = τ0.1 r) ∧ (∀ j, ¬ j = 39 → ¬ j = 40 → τ'.1 72 j = τ0.1 72 j) := by
  intro n
  induction n with
  | zero => intro i σ τ A B hr tr _ _ h1 h2; omega
  | succ n ih =>
    intro i σ τ A B hr tr d hi1 hie hn hd hfr F hAM G hd' hfr' hAB
    rw [f_X7_follow_25, f_X10_findWays_89, aL_nI hf (by decide), Option.bind_some, aL_nI hf (by decide), Option.bind_some, hfr (40 + 4 * f) (by omega), hk3, hfr' 89 (by omega), h89, hfr' 88 (by omega), h88]
    by_cases hi : i = e
    · rw [if_pos (by rw [hi]; exact Int32.le_refl _), if_pos (by rw [hi]; exact Int32.le_refl _)]
      obtain ⟨N, Pl, f1, f2, f3, f4, f5, f6⟩ := F
      have vals : ∀ q, q < 4608 → σ.1 (hr + 2) q = nI (A q) ∧ σ.1 (hr + 3) q = nI (B q) ∧ A q ≤ 1000000 ∧ B q ≤ 1000000 := fun q hq => by
        obtain ⟨z1, z2⟩ := hAM q
        obtain ⟨g1, g2⟩ := f6 q hq
        rw [show min 1000000 (A q) = A q by omega] at g1
        rw [show min 1000000 (B q) = B q by omega] at g2
        exact ⟨g1, g2, z1, z2⟩
      obtain ⟨σ', s1, s2, s3, s4, s5⟩ := su_l (σ0 := σ) (A := A) (B := B) (Pl := Pl) d (by omega) f1 (fun j hj => ⟨(f3 j hj).1, (f3 j hj).2.1⟩) vals 10000 0 (up (up σ 19 4 0) 19 5 0) 0 0 (by omega) (by omega) hd (fun r hr' => by rw [up_ne hr', up_ne hr']) (by rw [up_at, upd_e, if_neg (by decide), up_at, upd_e, if_pos rfl]; rfl) (by rw [up_at, upd_e, if_pos rfl]; rfl)
      obtain ⟨τ', t1, t2, t3, t4, t5, t6⟩ := fw_l (τ0 := τ) (A := A) (B := B) (fun q hq => ⟨(hAB q hq).1, (hAB q hq).2, (hAM q).1, (hAM q).2⟩) 10000 0 (up (up τ 72 39 0) 72 40 0) 0 0 (by omega) (by omega) rfl (fun r hr' => by rw [up_ne hr', up_ne hr']) (fun j q1 q2 => by rw [up_at, upd_e, if_neg q2, up_at, upd_e, if_neg q1]) (by rw [up_at, upd_e, if_neg (by decide), up_at, upd_e, if_pos rfl]; rfl) (by rw [up_at, upd_e, if_pos rfl]; rfl)
      have pA : ss (fun j => A (Pl j)) 0 N = ss A 0 4608 := ss_p N 0 A (fun j _ hj => (f3 j (by omega)).1) (fun j j' _ q1 _ q2 e => f4 j j' (by omega) (by omega) e) (fun p hp hg => by
        obtain ⟨j, g1, g2⟩ := f5 p hp (by omega)
        exact ⟨j, by omega, by omega, g2⟩)
      have pB : ss (fun j => B (Pl j)) 0 N = ss B 0 4608 := ss_p N 0 B (fun j _ hj => (f3 j (by omega)).1) (fun j j' _ q1 _ q2 e => f4 j j' (by omega) (by omega) e) (fun p hp hg => by
        obtain ⟨j, g1, g2⟩ := f5 p hp (by omega)
        exact ⟨j, by omega, by omega, g2⟩)
      rw [Nat.zero_add, Nat.sub_zero, pA] at s4
      rw [Nat.zero_add, Nat.sub_zero, pB] at s5
      rw [Nat.zero_add, Nat.sub_zero] at t5 t6
      refine ⟨σ', τ', min 1000000 (ss A 0 4608), min 1000000 (ss B 0 4608), ?_, ?_, Nat.min_le_left _ _, Nat.min_le_left _ _, s4, s5, t5, t6, fun r hr' => by rw [s2 r (by omega), hfr r (by omega)], ?_, by rw [t2, hd'], fun r q1 q2 => by rw [t3 r q1, hfr' r q2], fun j q1 q2 => by rw [t4 j q1 q2, hfr' 72 (by omega)]⟩
      · unfold f_X7_sumUp
        rw [bT_e, bT_e]
        rw [show f_X7_sumUp_12 10000 (up (up σ 19 4 0) 19 5 0) 0 = some σ' from s1, Option.bind_some]
      · unfold f_X10_findWays_124
        rw [bT_e, bT_e]
        exact t1
      · rw [s3]
        refine InvW_congr (fun r hr' => s2 r (by omega)) ?_
        have G1 := FrV_ok ⟨N, Pl, f1, f2, f3, f4, f5, f6⟩
        rcases d with ⟨rfl, rfl⟩ | ⟨rfl, rfl⟩
        · exact ⟨Or.inl rfl, G1, G⟩
        · exact ⟨Or.inr rfl, G, G1⟩
    · rw [if_neg (nI_ge (by omega) (by omega)), if_neg (nI_ge (by omega) (by omega)), hour_s hbb (by omega) hi1]
      obtain ⟨c, l, hc, hl, g1, g2, g3, g4⟩ := hlog i (by omega)
      have ha : (bb + i - 1) % 24 < 24 := Nat.mod_lt _ (by decide)
      have R := fun (σ' τ' : St) (c l : Nat) (s1 : σ'.1 1 = σ0.1 1) (s8 : σ'.1 8 = σ0.1 8) (s9 : σ'.1 9 = σ0.1 9) (q2 : τ'.1 72 = τ0.1 72) (q7 : τ'.1 77 = τ0.1 77) (q8 : τ'.1 78 = τ0.1 78) (hc : c < 576) (h1 : 1 ≤ l) (h7 : l ≤ 7) => tc_s (σ := σ0) (σ' := σ') (τ := τ') (c := c) (l := l) (a := (bb + i - 1) % 24) hw hh e0 e1 iN s1 s8 s9 (by rw [q2]; exact m0) (by rw [q2]; exact m1) (q7.trans t7) (q8.trans t8) hc h1 h7 ha
      obtain ⟨σ1, c1, c2, c3, c4, c5⟩ := foll_s (σ := σ) (k2 := 40 + 4 * f) (i := i) (bb := bb) (pl := 8 * c + l) (lo := τ0.1 92 (61 * f + i)) (K := K) (A := A) (B := B) (T := tcl σ0 ((bb + i - 1) % 24)) (fun σ x2 => f_X7_follow_25 (40 + 4 * f) n σ x2) d (by omega) hi1 (by omega) hbb (by rw [hfr _ (by omega)]; exact h6) (by rw [hfr 2 (by omega)]; exact hK) (by rw [hfr _ (by omega)]; exact g4) (by rw [hfr _ (by omega)]; exact g3) (by omega) hAM (by
        rw [hfr 1 (by omega), hfr 8 (by omega), hfr 9 (by omega)]
        intro c σ' l q0 q1 q2 q3 q4 q5
        obtain ⟨z1, z2, -⟩ := R σ' τ0 c l q1 q2 q3 rfl rfl rfl q0 q4 q5
        exact ⟨z1, z2⟩) (fun c => rfl) hd F G
      obtain ⟨τ1, b1, b2, b3, b4⟩ := goOn_s (τ := τ) (f := f) (i := i) (hh := (bb + i - 1) % 24) (pc := c) (pv := l) (lo := τ0.1 92 (61 * f + i)) (K := K) (A := A) (B := B) (T := tcl σ0 ((bb + i - 1) % 24)) hf (by omega) (by rw [hfr' 73 (by omega)]; exact hK') (by rw [hfr' 92 (by omega)]) (by rw [hfr' 90 (by omega)]; exact g1) (by rw [hfr' 91 (by omega)]; exact g2) hc hl (fun q hq => ⟨(hAB q hq).1, (hAB q hq).2, (hAM q).1, (hAM q).2⟩) (by
        rw [hfr' 72 (by omega), hfr' 77 (by omega), hfr' 78 (by omega)]
        intro c τ' l q0 q1 q2 q3 q4 q5
        obtain ⟨z1, -, z3⟩ := R σ0 τ' c l rfl rfl rfl q1 q2 q3 q0 q4 q5
        exact ⟨z1, z3⟩) (fun c => rfl)
      rw [c1, b1, Option.bind_some, nI_1]
      exact ih (i + 1) σ1 τ1 _ _ tr hr (by omega) (by omega) (by omega) (by omega) c2 (fun r hr' => by rw [c3 r hr', hfr r hr']) c4 (fun q => ⟨Nat.min_le_left _ _, Nat.min_le_left _ _⟩) c5 (by rw [b3, hd']) (fun r hr' => by rw [b2 r hr', hfr' r hr']) b4
