theorem g36_l {τ0 : St} {f i hh pc pv : Nat} {lo : Int32} {K : Nat → Int32} {A B : Nat → Nat} {T : Nat → Nat → Nat} (hf : f < 8) (hi : i < 60) (hK : ∀ j, j < 576 → τ0.1 73 j = K j) (h92 : τ0.1 92 (61 * f + i) = lo) (h90 : τ0.1 90 (61 * f + i) = nI pc) (h91 : τ0.1 91 (61 * f + i) = nI pv) (hpc : pc < 576) (hpv : pv ≤ 7) (hA : ∀ q, q < 4608 → τ0.1 97 q = nI (A q) ∧ τ0.1 98 q = nI (B q) ∧ A q ≤ 1000000 ∧ B q ≤ 1000000)
    (hT : ∀ (c : Nat) (τ' : St) (l : Nat), c < 576 → τ'.1 72 = τ0.1 72 → τ'.1 77 = τ0.1 77 → τ'.1 78 = τ0.1 78 → 1 ≤ l → l ≤ 7 → T c l < 576 ∧ f_X10_led τ' 0 (nI l) (nI hh) (nI (c % 24)) (nI (c / 24)) = some (nI (T c l))) (hT0 : ∀ c, T c 0 = c) :
    ∀ (n p : Nat) (τ : St) (X Y : Nat → Nat), p ≤ 4608 → 4608 - p < n → (∀ r, ¬ r = 99 → ¬ r = 100 → τ.1 r = τ0.1 r) → τ.2 = τ0.2 → Sat2 τ X Y → ∃ τ' : St, f_X10_goOn_36 n τ (nI f) (nI i) (nI hh) (nI p) = f_X10_goOn_345 10000 τ' 0 ∧ (∀ r, ¬ r = 99 → ¬ r = 100 → τ'.1 r = τ0.1 r) ∧ τ'.2 = τ0.2 ∧ Sat2 τ' (fun z => X z + ss (fun p => cA K (T (p / 8)) lo (8 * pc + pv) p (A p) z) p (4608 - p)) (fun z => Y z + ss (fun p => cB K (T (p / 8)) lo (8 * pc + pv) p (A p) (B p) z) p (4608 - p)) := by
  intro n
  induction n with
  | zero => intro p τ X Y h1 h2; omega
  | succ n ih =>
    intro p τ X Y h1 h2 hfr h2' S
    rw [f_X10_goOn_36]
    by_cases hp : p = 4608
    · refine ⟨τ, by rw [if_pos (show (4608 : Int32) ≤ nI p by rw [hp]; exact Int32.le_refl _)], hfr, h2', ?_⟩
      rw [hp]
      exact S
    · have hp' : p < 4608 := by omega
      obtain ⟨a1, a2, a3, a4⟩ := hA p hp'
      have e1 : nI p - nI p / 8 * 8 = nI (p % 8) := pk_rem (d := 8) (by omega) (by omega) (by omega)
      have e2 : nI p / 8 = nI (p / 8) := pk_div (d := 8) (by omega) (by omega) (by omega)
      rw [if_neg (show ¬ (4608 : Int32) ≤ nI p from nI_ge (a := p) (b := 4608) (by omega) (by omega)), e1, nI_1]
      have skip : (∀ z, cA K (T (p / 8)) lo (8 * pc + pv) p (A p) z = 0 ∧ cB K (T (p / 8)) lo (8 * pc + pv) p (A p) (B p) z = 0) → ∃ τ' : St, f_X10_goOn_36 n τ (nI f) (nI i) (nI hh) (nI (p + 1)) = f_X10_goOn_345 10000 τ' 0 ∧ (∀ r, ¬ r = 99 → ¬ r = 100 → τ'.1 r = τ0.1 r) ∧ τ'.2 = τ0.2 ∧ Sat2 τ' (fun z => X z + ss (fun p => cA K (T (p / 8)) lo (8 * pc + pv) p (A p) z) p (4608 - p)) (fun z => Y z + ss (fun p => cB K (T (p / 8)) lo (8 * pc + pv) p (A p) (B p) z) p (4608 - p)) := by
        intro hz
        obtain ⟨τ', i1, i2, i3, i4⟩ := ih (p + 1) τ X Y (by omega) (by omega) hfr h2' S
        refine ⟨τ', i1, i2, i3, Sat2_e (fun z => ?_) (fun z => ?_) i4⟩
        · rw [show 4608 - p = (4608 - (p + 1)) + 1 by omega, ss_c, (hz z).1, Nat.zero_add]
        · rw [show 4608 - p = (4608 - (p + 1)) + 1 by omega, ss_c, (hz z).2, Nat.zero_add]
      by_cases h0 : p % 8 = 0
      · rw [if_pos (by rw [h0]; exact Int32.le_refl _)]
        exact skip (fun z => by unfold cA cB; rw [if_pos h0, if_pos h0]; exact ⟨rfl, rfl⟩)
      · have el : nI (p % 8) - 1 = nI (p % 8 - 1) := by
          have := nI_pred (p % 8 - 1)
          rw [Nat.sub_add_cancel (by omega)] at this
          exact this
        have go : ∃ τ' : St, f_X10_goOn_76 (fun σ x1 x2 x3 x4 => f_X10_goOn_36 n σ x1 x2 x3 x4) τ (nI f) (nI i) (nI hh) (nI p) (nI (p % 8)) = f_X10_goOn_345 10000 τ' 0 ∧ (∀ r, ¬ r = 99 → ¬ r = 100 → τ'.1 r = τ0.1 r) ∧ τ'.2 = τ0.2 ∧ Sat2 τ' (fun z => X z + ss (fun p => cA K (T (p / 8)) lo (8 * pc + pv) p (A p) z) p (4608 - p)) (fun z => Y z + ss (fun p => cB K (T (p / 8)) lo (8 * pc + pv) p (A p) (B p) z) p (4608 - p)) := by
          unfold f_X10_goOn_76
          rw [e2, el]
          obtain ⟨τ1, t1, t2, t3, t4⟩ := g89_l (τ0 := τ0) (K := K) (lo := lo) (tc := T (p / 8)) (fun σ x1 x2 x3 x4 => f_X10_goOn_36 n σ x1 x2 x3 x4) hf hi hp' a3 a4 hK h92 h90 h91 hpc hpv a1 a2 (fun τ' l q1 q2 q3 q4 q5 => hT (p / 8) τ' l (by omega) q1 q2 q3 q4 q5) (hT0 _) 10000 (min (p % 8 + 1) 7 + 2 - p % 8) (p % 8 - 1) τ X Y (by omega) (by omega) hfr h2' S
          rw [t1]
          obtain ⟨τ', i1, i2, i3, i4⟩ := ih (p + 1) τ1 _ _ (by omega) (by omega) t2 t3 t4
          refine ⟨τ', i1, i2, i3, Sat2_e (fun z => ?_) (fun z => ?_) i4⟩
          · rw [show 4608 - p = (4608 - (p + 1)) + 1 by omega, ss_c, Nat.add_assoc]
            unfold cA
            rw [if_neg h0]
          · rw [show 4608 - p = (4608 - (p + 1)) + 1 by omega, ss_c, Nat.add_assoc]
            unfold cB
            rw [if_neg h0]
        rw [if_neg (nI_nle (by omega) (by omega)), aL_nI hp' (by decide), Option.bind_some, aL_nI hp' (by decide), Option.bind_some, hfr 97 (by decide) (by decide), hfr 98 (by decide) (by decide), a1, a2]
        by_cases hAp : A p = 0
        · rw [if_neg (show ¬ (0 : Int32) < nI (A p) by rw [hAp]; decide)]
          by_cases hBp : B p = 0
          · rw [if_pos (by rw [hBp]; exact Int32.le_refl _)]
            exact skip (fun z => by rw [hAp, hBp]; exact ⟨cA_0, cB_0⟩)
          · rw [if_neg (nI_nle (by omega) (by omega))]
            exact go
        · rw [if_pos (show (0 : Int32) < nI (A p) from nI_lt (a := 0) (by omega) (by omega))]
          exact go
theorem g345_l : ∀ (n p : Nat) (τ : St), p ≤ 4608 → 4608 - p < n → ∃ τ' : St, f_X10_goOn_345 n τ (nI p) = some τ' ∧ (∀ r, ¬ r = 97 → ¬ r = 98 → τ'.1 r = τ.1 r) ∧ τ'.2 = τ.2 ∧ (∀ z, p ≤ z → z < 4608 → τ'.1 97 z = τ.1 99 z ∧ τ'.1 98 z = τ.1 100 z) ∧ ∀ z, z < p → τ'.1 97 z = τ.1 97 z ∧ τ'.1 98 z = τ.1 98 z := by
  intro n
  induction n with
  | zero => intro p τ h1 h2; omega
  | succ n ih =>
    intro p τ h1 h2
    rw [f_X10_goOn_345]
    by_cases hp : p = 4608
    · exact ⟨τ, by rw [if_pos (show (4608 : Int32) ≤ nI p by rw [hp]; exact Int32.le_refl _)], fun _ _ _ => rfl, rfl, fun z q1 q2 => by omega, fun _ _ => ⟨rfl, rfl⟩⟩
    · have hp' : p < 4608 := by omega
      rw [if_neg (show ¬ (4608 : Int32) ≤ nI p from nI_ge (a := p) (b := 4608) (by omega) (by omega)), aL_nI hp' (by decide), Option.bind_some, aS_nI hp' (by decide), Option.bind_some, aL_nI hp' (by decide), Option.bind_some, aS_nI hp' (by decide), Option.bind_some, up_ne (show ¬ 100 = 97 by decide), nI_1]
      obtain ⟨τ', i1, i2, i3, i4, i5⟩ := ih (p + 1) (up (up τ 97 p (τ.1 99 p)) 98 p (τ.1 100 p)) (by omega) (by omega)
      have v97 : (up (up τ 97 p (τ.1 99 p)) 98 p (τ.1 100 p)).1 97 = upd (τ.1 97) p (τ.1 99 p) := by rw [up_ne (by decide), up_at]
      have v98 : (up (up τ 97 p (τ.1 99 p)) 98 p (τ.1 100 p)).1 98 = upd (τ.1 98) p (τ.1 100 p) := by rw [up_at, up_ne (by decide)]
      have v99 : (up (up τ 97 p (τ.1 99 p)) 98 p (τ.1 100 p)).1 99 = τ.1 99 := by rw [up_ne (by decide), up_ne (by decide)]
      have v100 : (up (up τ 97 p (τ.1 99 p)) 98 p (τ.1 100 p)).1 100 = τ.1 100 := by rw [up_ne (by decide), up_ne (by decide)]
      rw [v99, v100] at i4
      rw [v97, v98] at i5
      refine ⟨τ', i1, fun r q1 q2 => by rw [i2 r q1 q2, up_ne q2, up_ne q1], i3, fun z q1 q2 => ?_, fun z q1 => ?_⟩
      · by_cases hz : z = p
        · have := i5 z (by omega)
          rw [upd_e, upd_e, if_pos hz, if_pos hz] at this
          rw [hz] at this ⊢
          exact this
        · exact i4 z (by omega) q2
      · have := i5 z (by omega)
        rw [upd_e, upd_e, if_neg (by omega), if_neg (by omega)] at this
        exact this
theorem g3_l (x1 x2 x3 : Int32) : ∀ (n p : Nat) (τ : St), p ≤ 4608 → 4608 - p < n → ∃ τ' : St, f_X10_goOn_3 n τ x1 x2 x3 (nI p) = f_X10_goOn_36 10000 τ' x1 x2 x3 0 ∧ (∀ r, ¬ r = 99 → ¬ r = 100 → τ'.1 r = τ.1 r) ∧ τ'.2 = τ.2 ∧ (∀ z, p ≤ z → z < 4608 → τ'.1 99 z = 0 ∧ τ'.1 100 z = 0) ∧ ∀ z, z < p → τ'.1 99 z = τ.1 99 z ∧ τ'.1 100 z = τ.1 100 z := by
  intro n
  induction n with
  | zero => intro p τ h1 h2; omega
  | succ n ih =>
    intro p τ h1 h2
    rw [f_X10_goOn_3]
    by_cases hp : p = 4608
    · exact ⟨τ, by rw [if_pos (show (4608 : Int32) ≤ nI p by rw [hp]; exact Int32.le_refl _)], fun _ _ _ => rfl, rfl, fun z q1 q2 => by omega, fun _ _ => ⟨rfl, rfl⟩⟩
    · have hp' : p < 4608 := by omega
      rw [if_neg (show ¬ (4608 : Int32) ≤ nI p from nI_ge (a := p) (b := 4608) (by omega) (by omega)), aS_nI hp' (by decide), Option.bind_some, aS_nI hp' (by decide), Option.bind_some, nI_1]
      obtain ⟨τ', i1, i2, i3, i4, i5⟩ := ih (p + 1) (up (up τ 99 p 0) 100 p 0) (by omega) (by omega)
      have v99 : (up (up τ 99 p 0) 100 p 0).1 99 = upd (τ.1 99) p 0 := by rw [up_ne (by decide), up_at]
      have v100 : (up (up τ 99 p 0) 100 p 0).1 100 = upd (τ.1 100) p 0 := by rw [up_at, up_ne (by decide)]
      rw [v99, v100] at i5
      refine ⟨τ', i1, fun r q1 q2 => by rw [i2 r q1 q2, up_ne q2, up_ne q1], i3, fun z q1 q2 => ?_, fun z q1 => ?_⟩
      · by_cases hz : z = p
        · have := i5 z (by omega)
          rw [upd_e, upd_e, if_pos hz, if_pos hz] at this
          exact this
        · exact i4 z (by omega) q2
      · have := i5 z (by omega)
        rw [upd_e, upd_e, if_neg (by omega), if_neg (by omega)] at this
        exact this
/-- the counts of the next entry -/
def nA (K : Nat → Int32) (T : Nat → Nat → Nat) (lo : Int32) (pl : Nat) (A : Nat → Nat) (z : Nat) : Nat := min 1000000 (ss (fun p => cA K (T (p / 8)) lo pl p (A p) z) 0 4608)
def nB (K : Nat → Int32) (T : Nat → Nat → Nat) (lo : Int32) (pl : Nat) (A B : Nat → Nat) (z : Nat) : Nat := min 1000000 (ss (fun p => cB K (T (p / 8)) lo pl p (A p) (B p) z) 0 4608)
theorem goOn_s {τ : St} {f i hh pc pv : Nat} {lo : Int32} {K : Nat → Int32} {A B : Nat → Nat} {T : Nat → Nat → Nat} (hf : f < 8) (hi : i < 60) (hK : ∀ j, j < 576 → τ.1 73 j = K j) (h92 : τ.1 92 (61 * f + i) = lo) (h90 : τ.1 90 (61 * f + i) = nI pc) (h91 : τ.1 91 (61 * f + i) = nI pv) (hpc : pc < 576) (hpv : pv ≤ 7) (hA : ∀ q, q < 4608 → τ.1 97 q = nI (A q) ∧ τ.1 98 q = nI (B q) ∧ A q ≤ 1000000 ∧ B q ≤ 1000000)
    (hT : ∀ (c : Nat) (τ' : St) (l : Nat), c < 576 → τ'.1 72 = τ.1 72 → τ'.1 77 = τ.1 77 → τ'.1 78 = τ.1 78 → 1 ≤ l → l ≤ 7 → T c l < 576 ∧ f_X10_led τ' 0 (nI l) (nI hh) (nI (c % 24)) (nI (c / 24)) = some (nI (T c l))) (hT0 : ∀ c, T c 0 = c) :
    ∃ τ' : St, f_X10_goOn τ (nI f) (nI i) (nI hh) = some τ' ∧ (∀ r, ¬ (97 ≤ r ∧ r ≤ 100) → τ'.1 r = τ.1 r) ∧ τ'.2 = τ.2 ∧ ∀ q, q < 4608 → τ'.1 97 q = nI (nA K T lo (8 * pc + pv) A q) ∧ τ'.1 98 q = nI (nB K T lo (8 * pc + pv) A B q) := by
  obtain ⟨τ1, a1, a2, a3, a4, -⟩ := g3_l (nI f) (nI i) (nI hh) 10000 0 τ (by omega) (by omega)
  have b := fun (a : Nat) (h : (decide (a = 99) || decide (a = 100)) = false) => a2 a (by simp at h; omega) (by simp at h; omega)
  obtain ⟨τ2, b1, b2, b3, b4⟩ := g36_l (τ0 := τ1) (f := f) (i := i) (hh := hh) (lo := lo) (K := K) (A := A) (B := B) (T := T) hf hi (by rw [b 73 rfl]; exact hK) (by rw [b 92 rfl]; exact h92) (by rw [b 90 rfl]; exact h90) (by rw [b 91 rfl]; exact h91) hpc hpv (by rw [b 97 rfl, b 98 rfl]; exact hA) (by rw [b 72 rfl, b 77 rfl, b 78 rfl]; exact hT) hT0 10000 0 τ1 (fun _ => 0) (fun _ => 0) (by omega) (by omega) (fun _ _ _ => rfl) rfl (fun z hz => a4 z (by omega) hz)
  obtain ⟨τ3, c1, c2, c3, c4, -⟩ := g345_l 10000 0 τ2 (by omega) (by omega)
  refine ⟨τ3, ?_, fun r hr => by rw [c2 r (by omega) (by omega), b2 r (by omega) (by omega), a2 r (by omega) (by omega)], by rw [c3, b3, a3], fun q hq => ?_⟩
  · unfold f_X10_goOn
    exact a1.trans (b1.trans c1)
  · obtain ⟨d1, d2⟩ := c4 q (by omega) hq
    obtain ⟨d3, d4⟩ := b4 q hq
    rw [d1, d2, d3, d4]
    dsimp only
    rw [Nat.zero_add, Nat.zero_add, Nat.sub_zero]
    exact ⟨rfl, rfl⟩
/-- the class's next entry -/
theorem foll_s {σ : St} {k2 hr tr i pl bb : Nat} {lo : Int32} {K : Nat → Int32} {A B : Nat → Nat} {T : Nat → Nat → Nat} (kn : St → Int32 → Option St) (d : hr = 20 ∧ tr = 24 ∨ hr = 24 ∧ tr = 20) (hk2 : 40 ≤ k2) (hi1 : 1 ≤ i) (hi : i < 60) (hbb : bb ≤ 23) (h6 : σ.1 k2 6 = nI bb) (hK : ∀ j, j < 576 → σ.1 2 j = K j) (h3 : σ.1 (k2 + 3) i = lo) (h2 : σ.1 (k2 + 2) i = nI pl) (hpl : pl < 4608) (hAM : ∀ q, A q ≤ 1000000 ∧ B q ≤ 1000000)
    (hT : ∀ (c : Nat) (σ' : St) (l : Nat), c < 576 → σ'.1 1 = σ.1 1 → σ'.1 8 = σ.1 8 → σ'.1 9 = σ.1 9 → 1 ≤ l → l ≤ 7 → T c l < 576 ∧ f_X8_leadFrom σ' 7 (nI c) (nI l) (nI ((bb + i - 1) % 24)) = some (nI (T c l))) (hT0 : ∀ c, T c 0 = c) (hd : σ.2 = (hr, tr)) (F : FrV σ hr A B) (G : FrOk (σ.1 tr) (σ.1 (tr + 1)) (σ.1 (tr + 2)) (σ.1 (tr + 3))) :
    ∃ τ : St, (Option.bind (f_X4_clear σ σ.2.2) fun s4 => f_X7_follow_42 k2 kn 10000 s4 (nI i) 0) = kn τ (nI (i + 1)) ∧ τ.2 = (tr, hr) ∧ (∀ r, ¬ (20 ≤ r ∧ r ≤ 27) → τ.1 r = σ.1 r) ∧ FrV τ tr (nA K T lo pl A) (nB K T lo pl A B) ∧ FrOk (τ.1 hr) (τ.1 (hr + 1)) (τ.1 (hr + 2)) (τ.1 (hr + 3)) := by
  rw [hd]
  dsimp only
  obtain ⟨s, c1, c2, c3, c4, c5⟩ := clr_s G
  rw [c1, Option.bind_some]
  have F' : FrV s hr A B := FrV_congr (fun r q1 q2 => c2 r (by omega) (by omega) (by omega)) F
  obtain ⟨N, Pl, f1, f2, f3, f4, f5, f6⟩ := F'
  obtain ⟨τ, t1, t2, t3, t4⟩ := fo_l (σ0 := s) (k2 := k2) (hr := hr) (tr := tr) (i := i) (pl := pl) (bb := bb) (N := N) (lo := lo) (K := K) (A := A) (B := B) (Pl := Pl) (T := T) kn d hk2 hi1 hi hbb (by rw [c2 k2 (by omega) (by omega) (by omega)]; exact h6) (by rw [c2 2 (by omega) (by omega) (by omega)]; exact hK) (by rw [c2 (k2 + 3) (by omega) (by omega) (by omega)]; exact h3) (by rw [c2 (k2 + 2) (by omega) (by omega) (by omega)]; exact h2) hpl (by omega) f1 f3 (fun q hq => by
    obtain ⟨m1, m2⟩ := hAM q
    obtain ⟨g1, g2⟩ := f6 q hq
    rw [show min 1000000 (A q) = A q by omega] at g1
    rw [show min 1000000 (B q) = B q by omega] at g2
    exact ⟨g1, g2, m1, m2⟩) (by rw [c2 1 (by omega) (by omega) (by omega), c2 8 (by omega) (by omega) (by omega), c2 9 (by omega) (by omega) (by omega)]; exact hT) hT0 10000 0 s (fun _ => 0) (fun _ => 0) (by omega) (by omega) (by rw [c3]; exact hd) (fun _ _ => rfl) (FrV_0 c4 c5)
  refine ⟨τ, t1, t2, fun r hr' => by rw [t3 r (by omega), c2 r (by omega) (by omega) (by omega)], ?_, ?_⟩
  · refine FrV_sat (FrV_e (fun z => ?_) (fun z => ?_) t4)
    · rw [Nat.zero_add, Nat.sub_zero]
      refine (ss_p N 0 (fun p => cA K (T (p / 8)) lo pl p (A p) z) (fun j _ hj => (f3 j (by omega)).1) (fun j j' _ q1 _ q2 e => f4 j j' (by omega) (by omega) e) (fun p hp hg => ?_)).symm
      by_cases hz : 0 < A p + B p
      · obtain ⟨j, g1, g2⟩ := f5 p hp hz
        exact ⟨j, by omega, by omega, g2⟩
      · rw [show A p = 0 by omega, cA_0] at hg
        exact absurd rfl hg
    · rw [Nat.zero_add, Nat.sub_zero]
      refine (ss_p N 0 (fun p => cB K (T (p / 8)) lo pl p (A p) (B p) z) (fun j _ hj => (f3 j (by omega)).1) (fun j j' _ q1 _ q2 e => f4 j j' (by omega) (by omega) e) (fun p hp hg => ?_)).symm
      by_cases hz : 0 < A p + B p
      · obtain ⟨j, g1, g2⟩ := f5 p hp hz
        exact ⟨j, by omega, by omega, g2⟩
      · rw [show A p = 0 by omega, show B p = 0 by omega, cB_0] at hg
        exact absurd rfl hg
  · rw [t3 hr (by omega), t3 (hr + 1) (by omega), t3 (hr + 2) (by omega), t3 (hr + 3) (by omega)]
    exact FrV_ok ⟨N, Pl, f1, f2, f3, f4, f5, f6⟩
