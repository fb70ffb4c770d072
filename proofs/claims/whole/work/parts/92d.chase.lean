/-- what a call must leave alone, to keep the invariant -/
theorem Inv_fr {σ s2 : St} (hI : Inv σ) (hr : ∀ a, a ≤ 2 ∨ (4 ≤ a ∧ a ≤ 12) ∨ (28 ≤ a ∧ a ≤ 30) ∨ (40 ≤ a ∧ a < 72) ∨ (73 ≤ a ∧ a ≤ 95) → s2.1 a = σ.1 a) (h72 : ∀ j, j = 0 ∨ j = 1 ∨ j = 8 ∨ j = 23 → s2.1 72 j = σ.1 72 j) (hP : InvP (s2.1 15) (s2.1 18) (s2.1 72) (s2.1 96)) (hW : InvW s2.2 s2.1) : Inv s2 := by
  obtain ⟨⟨w, h, hw1, hw2, hh1, hh2, a1, a2, a3, a4, a5⟩, iA, iN, iF, ⟨N, hN, b1, b2, b3⟩, iP, iW, iI⟩ := hI
  have e := fun (a : Nat) (h : (decide (a ≤ 2) || (decide (4 ≤ a) && decide (a ≤ 12)) || (decide (28 ≤ a) && decide (a ≤ 30)) || (decide (40 ≤ a) && decide (a < 72)) || (decide (73 ≤ a) && decide (a ≤ 95))) = true) => hr a (by simp at h; omega)
  unfold Inv
  rw [e 0 rfl, e 1 rfl, e 2 rfl, e 73 rfl, e 4 rfl, e 5 rfl, e 6 rfl, e 74 rfl, e 75 rfl, e 76 rfl, e 8 rfl, e 9 rfl, e 11 rfl, e 12 rfl, e 77 rfl, e 78 rfl, e 28 rfl, e 29 rfl, e 30 rfl, e 93 rfl, e 94 rfl, e 95 rfl]
  refine ⟨⟨w, h, hw1, hw2, hh1, hh2, by rw [h72 0 (by omega)]; exact a1, by rw [h72 1 (by omega)]; exact a2, a3, a4, a5⟩, iA, iN, by rw [h72 8 (by omega)]; exact InvF_congr (fun a ha => hr a (by omega)) iF, ⟨N, hN, b1, by rw [h72 23 (by omega)]; exact b2, fun c hc => ?_⟩, hP, hW, InvI_congr (h72 0 (by omega)) (h72 1 (by omega)) (h72 8 (by omega)) (fun f _ => by rw [e 79 rfl]) (fun f _ => by rw [e 80 rfl]) iI⟩
  rw [h72 0 (by omega), h72 1 (by omega)]
  exact b3 c hc
/-! the four sides -/
def vX (s : Nat) : Int32 := if s = 0 then 1 else if s = 1 then -1 else 0
def vY (s : Nat) : Int32 := if s = 2 then 1 else if s = 3 then -1 else 0
theorem sd_v {s : Nat} (hs : s < 4) : sdx (nI s) = some (vX s) ∧ sdy (nI s) = some (vY s) := by
  have : s = 0 ∨ s = 1 ∨ s = 2 ∨ s = 3 := by omega
  rcases this with rfl | rfl | rfl | rfl <;> exact ⟨by decide, by decide⟩
theorem nI_mp (n : Nat) : nI (n + 1) + (-1) = nI n := by
  have h := nI_pred n
  rw [Int32.sub_eq_add_neg] at h
  exact h
theorem hs_nI {σ : St} {w h x y : Nat} (hw1 : 1 ≤ w) (hw : w ≤ 24) (hh1 : 1 ≤ h) (hh : h ≤ 24) (e0 : σ.1 1 0 = nI w) (e1 : σ.1 1 1 = nI h) (hx : x < 2 ^ 20) (hy : y < 2 ^ 20) : f_X5_has σ (nI x) (nI y) = if x < w ∧ y < h then 1 else 0 := by
  obtain ⟨w, rfl⟩ : ∃ v, w = v + 1 := ⟨w - 1, by omega⟩
  obtain ⟨h, rfl⟩ : ∃ v, h = v + 1 := ⟨h - 1, by omega⟩
  unfold f_X5_has f_X9_within
  rw [e0, e1, nI_pred, nI_pred, if_neg (nI_pos (n := x) (by omega)), if_neg (nI_pos (n := y) (by omega))]
  by_cases h1 : x < w + 1
  · rw [if_neg (show ¬ nI w < nI x from nI_nlt (by omega) (by omega)), if_neg (show ¬ (1 : Int32) = 0 by decide)]
    by_cases h2 : y < h + 1
    · rw [if_neg (show ¬ nI h < nI y from nI_nlt (by omega) (by omega)), if_neg (show ¬ (1 : Int32) = 0 by decide), if_pos ⟨h1, h2⟩]
    · rw [if_pos (show nI h < nI y from nI_lt (by omega) (by omega)), if_pos rfl, if_neg (fun q => h2 q.2)]
  · rw [if_pos (show nI w < nI x from nI_lt (by omega) (by omega)), if_pos rfl, if_neg (fun q => h1 q.1)]
theorem hs_x (σ : St) (q : Int32) : f_X5_has σ (-1) q = 0 := by
  unfold f_X5_has
  rw [if_pos]
  unfold f_X9_within
  rw [if_pos (by decide)]
theorem hs_y (σ : St) (p : Int32) : f_X5_has σ p (-1) = 0 := by
  unfold f_X5_has
  by_cases h : f_X9_within p 0 (σ.1 1 0 - 1) = 0
  · rw [if_pos h]
  · rw [if_neg h, if_pos]
    unfold f_X9_within
    rw [if_pos (by decide)]
/-- where a side leads, as both programs ask it -/
theorem gd_s {σ : St} {w h c s : Nat} (hw1 : 1 ≤ w) (hw : w ≤ 24) (hh1 : 1 ≤ h) (hh : h ≤ 24) (e0 : σ.1 1 0 = nI w) (e1 : σ.1 1 1 = nI h) (g1 : c % 24 < w) (g2 : c / 24 < h) (hs : s < 4) : (f_X5_has σ (nI (c % 24) + vX s) (nI (c / 24) + vY s) = 0 ∧ tgt w h s c = c) ∨ ∃ x y : Nat, x < w ∧ y < h ∧ nI (c % 24) + vX s = nI x ∧ nI (c / 24) + vY s = nI y ∧ tgt w h s c = 24 * y + x ∧ ¬ f_X5_has σ (nI (c % 24) + vX s) (nI (c / 24) + vY s) = 0 := by
  have : s = 0 ∨ s = 1 ∨ s = 2 ∨ s = 3 := by omega
  rcases this with rfl | rfl | rfl | rfl
  · have v1 : nI (c % 24) + vX 0 = nI (c % 24 + 1) := nI_1 _
    have v2 : nI (c / 24) + vY 0 = nI (c / 24) := Int32.add_zero _
    rw [v1, v2, hs_nI hw1 hw hh1 hh e0 e1 (by omega) (by omega), show tgt w h 0 c = (if c % 24 + 1 < w then c + 1 else c) from rfl]
    by_cases q : c % 24 + 1 < w
    · rw [if_pos q]
      exact Or.inr ⟨c % 24 + 1, c / 24, q, g2, rfl, rfl, by omega, by rw [if_pos ⟨q, g2⟩]; decide⟩
    · rw [if_neg q, if_neg (fun z => q z.1)]
      exact Or.inl ⟨rfl, rfl⟩
  · have v2 : nI (c / 24) + vY 1 = nI (c / 24) := Int32.add_zero _
    rw [v2, show tgt w h 1 c = (if 1 ≤ c % 24 then c - 1 else c) from rfl]
    by_cases q : 1 ≤ c % 24
    · have v1 : nI (c % 24) + vX 1 = nI (c % 24 - 1) := by
        have := nI_mp (c % 24 - 1)
        rw [Nat.sub_add_cancel q] at this
        exact this
      rw [v1, hs_nI hw1 hw hh1 hh e0 e1 (by omega) (by omega), if_pos q, if_pos ⟨by omega, g2⟩]
      exact Or.inr ⟨c % 24 - 1, c / 24, by omega, g2, rfl, rfl, by omega, by decide⟩
    · have v1 : nI (c % 24) + vX 1 = -1 := by
        rw [show c % 24 = 0 by omega]
        decide
      rw [v1, hs_x, if_neg q]
      exact Or.inl ⟨rfl, rfl⟩
  · have v1 : nI (c % 24) + vX 2 = nI (c % 24) := Int32.add_zero _
    have v2 : nI (c / 24) + vY 2 = nI (c / 24 + 1) := nI_1 _
    rw [v1, v2, hs_nI hw1 hw hh1 hh e0 e1 (by omega) (by omega), show tgt w h 2 c = (if c / 24 + 1 < h then c + 24 else c) from rfl]
    by_cases q : c / 24 + 1 < h
    · rw [if_pos q]
      exact Or.inr ⟨c % 24, c / 24 + 1, g1, q, rfl, rfl, by omega, by rw [if_pos ⟨g1, q⟩]; decide⟩
    · rw [if_neg q, if_neg (fun z => q z.2)]
      exact Or.inl ⟨rfl, rfl⟩
  · have v1 : nI (c % 24) + vX 3 = nI (c % 24) := Int32.add_zero _
    rw [v1, show tgt w h 3 c = (if 24 ≤ c then c - 24 else c) from rfl]
    by_cases q : 24 ≤ c
    · have v2 : nI (c / 24) + vY 3 = nI (c / 24 - 1) := by
        have := nI_mp (c / 24 - 1)
        rw [Nat.sub_add_cancel (by omega)] at this
        exact this
      rw [v2, hs_nI hw1 hw hh1 hh e0 e1 (by omega) (by omega), if_pos q, if_pos ⟨g1, by omega⟩]
      exact Or.inr ⟨c % 24, c / 24 - 1, g1, by omega, rfl, rfl, by omega, by decide⟩
    · have v2 : nI (c / 24) + vY 3 = -1 := by
        rw [show c / 24 = 0 by omega]
        decide
      rw [v2, hs_y, if_neg q]
      exact Or.inl ⟨rfl, rfl⟩
theorem mv_s {σ : St} {w h c s : Nat} (hw1 : 1 ≤ w) (hw : w ≤ 24) (hh1 : 1 ≤ h) (hh : h ≤ 24) (e0 : σ.1 1 0 = nI w) (e1 : σ.1 1 1 = nI h) (hc : c < 576) (g1 : c % 24 < w) (g2 : c / 24 < h) (hs : s < 4) : f_X5_movedFrom σ (nI c) (vX s) (vY s) = nI (tgt w h s c) := by
  unfold f_X5_movedFrom
  rw [xOf_n hc, yOf_n hc]
  rcases gd_s hw1 hw hh1 hh e0 e1 g1 g2 hs with ⟨q1, q2⟩ | ⟨x, y, hx, hy, q1, q2, q3, q4⟩
  · rw [if_pos q1, q2]
  · rw [if_neg q4, q1, q2, cO, q3]
/-! one cell's steps -/
def flg (K S : Nat → Int32) (t : Nat) : Int32 := if K t = 1 then 0 else if S t = -1 then 1 else 0
def it (w h : Nat) (K S : Nat → Int32) (c : Nat) (v : Int32) : Nat → Nat → Int32
  | 0 => S
  | n + 1 => stp K (it w h K S c v n) (tgt w h n c) v
theorem it_k {w h : Nat} {K : Nat → Int32} {src : Nat} {T : Nat → Int32} {k c s : Nat} (hw : w ≤ 24) (hh : h ≤ 24) (hk : k < 2 ^ 20) (hc : c < 576) (L : Lb w h K src T (k + 1)) (hS : T c = nI k) : flg K T (tgt w h s c) = 0 ∧ stp K T (tgt w h s c) (nI (k + 1)) = T ∨ (¬ K (tgt w h s c) = 1 ∧ T (tgt w h s c) = -1 ∧ flg K T (tgt w h s c) = 1 ∧ stp K T (tgt w h s c) (nI (k + 1)) = upd T (tgt w h s c) (nI (k + 1)) ∧ unr (stp K T (tgt w h s c) (nI (k + 1))) 576 + 1 = unr T 576) := by
  obtain ⟨ht, -, -, q, -⟩ := stp_s (s := s) hw hh hk hc L hS
  generalize tgt w h s c = t at ht q ⊢
  rcases q with ⟨q1, q2⟩ | ⟨q1, q2, q3⟩
  · refine Or.inl ⟨?_, q2⟩
    unfold flg
    by_cases h1 : K t = 1
    · rw [if_pos h1]
    · rw [if_neg h1, if_neg (q1.resolve_left h1)]
  · refine Or.inr ⟨q1, q2, by unfold flg; rw [if_neg q1, if_pos q2], q3, ?_⟩
    rw [q3]
    exact unr_u q2 (nI_m1 (by omega)) 576 ht
theorem it_s {w h : Nat} {K : Nat → Int32} {src : Nat} {S : Nat → Int32} {k c : Nat} (hw : w ≤ 24) (hh : h ≤ 24) (hk : k < 2 ^ 20) (hc : c < 576) (L : Lb w h K src S (k + 1)) (hS : S c = nI k) : ∀ n, Lb w h K src (it w h K S c (nI (k + 1)) n) (k + 1) ∧ (∀ m, ¬ S m = -1 → it w h K S c (nI (k + 1)) n m = S m) ∧ (∀ s, s < n → ¬ K (tgt w h s c) = 1 → ∃ d, d ≤ k + 1 ∧ it w h K S c (nI (k + 1)) n (tgt w h s c) = nI d) ∧ it w h K S c (nI (k + 1)) n c = nI k := by
  intro n
  induction n with
  | zero => exact ⟨L, fun _ _ => rfl, fun s hs => absurd hs (by omega), hS⟩
  | succ n ih =>
    obtain ⟨i1, i2, i3, i4⟩ := ih
    obtain ⟨-, -, -, -, q2, q3, q4⟩ := stp_s (s := n) hw hh hk hc i1 i4
    have e : it w h K S c (nI (k + 1)) (n + 1) = stp K (it w h K S c (nI (k + 1)) n) (tgt w h n c) (nI (k + 1)) := rfl
    rw [e]
    refine ⟨q2, fun m hm => ?_, fun s hs hK => ?_, ?_⟩
    · rw [q3 m (by rw [i2 m hm]; exact hm), i2 m hm]
    · by_cases hsn : s = n
      · subst hsn
        exact q4 hK
      · obtain ⟨d, g1, g2⟩ := i3 s (by omega) hK
        exact ⟨d, g1, by rw [q3 _ (by rw [g2]; exact nI_m1 (by omega))]; exact g2⟩
    · rw [q3 c (by rw [i4]; exact nI_m1 (by omega)), i4]
theorem it_c {w h : Nat} {K : Nat → Int32} {src : Nat} {S : Nat → Int32} {k c : Nat} (hw : w ≤ 24) (hh : h ≤ 24) (hk : k < 2 ^ 20) (hc : c < 576) (L : Lb w h K src S (k + 1)) (hS : S c = nI k) : Cl w h K (it w h K S c (nI (k + 1)) 4) c k := by
  intro n A
  obtain ⟨s, hs, rfl⟩ := tgt_of A
  exact (it_s hw hh hk hc L hS 4).2.2.1 s hs A.2.2.2.2.2.1
/-- one side, in the reference -/
theorem rc_s {σ : St} {w h k c s : Nat} {K T : Nat → Int32} (hw1 : 1 ≤ w) (hw : w ≤ 24) (hh1 : 1 ≤ h) (hh : h ≤ 24) (m0 : σ.1 72 0 = nI w) (m1 : σ.1 72 1 = nI h) (e0 : σ.1 1 0 = nI w) (e1 : σ.1 1 1 = nI h) (hK : σ.1 73 = K) (hk : k < 2 ^ 20) (g1 : c % 24 < w) (g2 : c / 24 < h) (hs : s < 4) (hT : T c = nI k) : f_X10_reaches (sr σ 101 T) (nI (c % 24) + vX s) (nI (c / 24) + vY s) (nI k) = some (flg K T (tgt w h s c), sr σ 101 (stp K T (tgt w h s c) (nI (k + 1)))) := by
  have E0 : (sr σ 101 T).1 1 0 = nI w := e0
  have E1 : (sr σ 101 T).1 1 1 = nI h := e1
  have M0 : (sr σ 101 T).1 72 0 = nI w := m0
  have M1 : (sr σ 101 T).1 72 1 = nI h := m1
  rcases gd_s hw1 hw hh1 hh E0 E1 g1 g2 hs with ⟨q1, q2⟩ | ⟨x, y, hx, hy, q1, q2, q3, q4⟩
  · rcases rch_s hw hh M0 M1 E0 E1 (nI (c % 24) + vX s) (nI (c / 24) + vY s) (nI k) with ⟨-, r⟩ | ⟨x, y, hx, hy, p1, p2, -⟩
    · rw [r, q2]
      unfold flg stp
      have hm : ¬ T c = -1 := by rw [hT]; exact nI_m1 (by omega)
      rw [if_neg hm, if_neg hm]
      by_cases h1 : K c = 1
      · rw [if_pos h1, if_pos h1]
      · rw [if_neg h1, if_neg h1]
    · exfalso
      rw [p1, p2, hs_nI hw1 hw hh1 hh E0 E1 (by omega) (by omega), if_pos ⟨hx, hy⟩] at q1
      exact absurd q1 (by decide)
  · rcases rch_s hw hh M0 M1 E0 E1 (nI (c % 24) + vX s) (nI (c / 24) + vY s) (nI k) with ⟨r, -⟩ | ⟨x', y', hx', hy', p1, p2, r⟩
    · exact absurd r q4
    · have ex : x = x' := (nI_eq (by omega) (by omega)).mp (q1.symm.trans p1)
      have ey : y = y' := (nI_eq (by omega) (by omega)).mp (q2.symm.trans p2)
      subst ex
      subst ey
      rw [r, q3, nI_1]
      have k1 : (sr σ 101 T).1 73 = K := hK
      have k2 : (sr σ 101 T).1 101 = T := by rw [sr1, if_pos rfl]
      rw [k1, k2]
      unfold flg stp
      by_cases h1 : K (24 * y + x) = 1
      · rw [if_pos h1, if_pos h1, if_pos h1]
      · rw [if_neg h1, if_neg h1, if_neg h1]
        by_cases h2 : T (24 * y + x) = -1
        · rw [if_pos h2, if_pos h2, if_pos h2, up_sr, sr_sr, k2]
        · rw [if_neg h2, if_neg h2, if_neg h2]
