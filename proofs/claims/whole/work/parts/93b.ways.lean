/-! one way on: what a place gives to the next entry -/
def eA (K : Nat → Int32) (lo : Int32) (pl q a z : Nat) : Nat := if lo = 0 ∧ ¬ pl = q then 0 else if z = q then (if K (q / 8) = 2 then 0 else a) else 0
def eB (K : Nat → Int32) (lo : Int32) (pl q a b z : Nat) : Nat := if lo = 0 ∧ ¬ pl = q then 0 else if z = q then (if K (q / 8) = 2 then a + b else b) else 0
def tcl (σ : St) (hh c l : Nat) : Nat := if l = 0 then c else (f_X5_movedFrom σ (nI c) (σ.1 8 (24 * l + hh)) (σ.1 9 (24 * l + hh))).toNatClampNeg
def cA (K : Nat → Int32) (tc : Nat → Nat) (lo : Int32) (pl p a z : Nat) : Nat := if p % 8 = 0 then 0 else ss (fun l => eA K lo pl (8 * tc l + l) a z) (p % 8 - 1) (min (p % 8 + 1) 7 + 2 - p % 8)
def cB (K : Nat → Int32) (tc : Nat → Nat) (lo : Int32) (pl p a b z : Nat) : Nat := if p % 8 = 0 then 0 else ss (fun l => eB K lo pl (8 * tc l + l) a b z) (p % 8 - 1) (min (p % 8 + 1) 7 + 2 - p % 8)
theorem cA_0 {K : Nat → Int32} {tc : Nat → Nat} {lo : Int32} {pl p z : Nat} : cA K tc lo pl p 0 z = 0 := by
  unfold cA
  by_cases h : p % 8 = 0
  · rw [if_pos h]
  · rw [if_neg h]
    refine ss_0 _ _ (fun j _ _ => ?_)
    unfold eA
    rw [ite_self, ite_self, ite_self]
theorem cB_0 {K : Nat → Int32} {tc : Nat → Nat} {lo : Int32} {pl p z : Nat} : cB K tc lo pl p 0 0 z = 0 := by
  unfold cB
  by_cases h : p % 8 = 0
  · rw [if_pos h]
  · rw [if_neg h]
    refine ss_0 _ _ (fun j _ _ => ?_)
    unfold eB
    rw [ite_self, ite_self, ite_self]
theorem FrV_e {σ : St} {k : Nat} {A B A' B' : Nat → Nat} (hA : ∀ z, A' z = A z) (hB : ∀ z, B' z = B z) (F : FrV σ k A B) : FrV σ k A' B' := by
  rw [show A' = A from funext hA, show B' = B from funext hB]
  exact F
theorem tc_s {σ σ' τ : St} {w h c l a : Nat} (hw : w ≤ 24) (hh : h ≤ 24) (e0 : σ.1 1 0 = nI w) (e1 : σ.1 1 1 = nI h) (iN : InvN (σ.1 8) (σ.1 9) (σ.1 11) (σ.1 12) (σ.1 77) (σ.1 78)) (s1 : σ'.1 1 = σ.1 1) (s8 : σ'.1 8 = σ.1 8) (s9 : σ'.1 9 = σ.1 9) (m0 : τ.1 72 0 = nI w) (m1 : τ.1 72 1 = nI h) (t7 : τ.1 77 = σ.1 77) (t8 : τ.1 78 = σ.1 78) (hc : c < 576) (hl1 : 1 ≤ l) (hl : l ≤ 7) (ha : a < 24) : tcl σ a c l < 576 ∧ f_X8_leadFrom σ' 7 (nI c) (nI l) (nI a) = some (nI (tcl σ a c l)) ∧ f_X10_led τ 0 (nI l) (nI a) (nI (c % 24)) (nI (c / 24)) = some (nI (tcl σ a c l)) := by
  obtain ⟨x', y', hx, hy, q1, q2⟩ := led_s (σ := σ) (τ := τ) (x := c % 24) (y := c / 24) (kk := 0) (l := l) (a := a) hw hh e0 e1 m0 m1 (by omega) (by omega) (by omega) hl ha
  rw [show 24 * (c / 24) + c % 24 = c by omega, show 192 * 0 + 24 * l + a = 24 * l + a by omega, t7, t8] at q2
  have n := iN.1 (24 * l + a) (by omega)
  rw [← n.1, ← n.2.1] at q2
  have e : tcl σ a c l = 24 * y' + x' := by
    unfold tcl
    rw [if_neg (by omega), q2, nI_clamp (by omega)]
  rw [e]
  refine ⟨by omega, ?_, q1⟩
  unfold f_X8_leadFrom
  rw [ixw, aL_nI (by omega) (by decide), Option.bind_some, aL_nI (by omega) (by decide), Option.bind_some]
  rw [show σ'.1 (7 + 1) = σ.1 8 from s8, show σ'.1 (7 + 2) = σ.1 9 from s9, moved_eq s1, q2]
/-- the class goes on from one place -/
theorem sp_l {σ0 : St} {k2 hr tr i pl hh top p a b : Nat} {lo : Int32} {K : Nat → Int32} {tc : Nat → Nat} (d : hr = 20 ∧ tr = 24 ∨ hr = 24 ∧ tr = 20) (hk2 : 40 ≤ k2) (hi : i < 60) (hp : p < 4608) (ht : top ≤ 7) (ha : a ≤ 1000000) (hb : b ≤ 1000000) (hab : 0 < a + b) (hK : ∀ j, j < 576 → σ0.1 2 j = K j) (h3 : σ0.1 (k2 + 3) i = lo) (h2 : σ0.1 (k2 + 2) i = nI pl) (hpl : pl < 4608) (hA : σ0.1 (hr + 2) p = nI a) (hB : σ0.1 (hr + 3) p = nI b)
    (hT : ∀ (σ' : St) (l : Nat), σ'.1 1 = σ0.1 1 → σ'.1 8 = σ0.1 8 → σ'.1 9 = σ0.1 9 → 1 ≤ l → l ≤ 7 → tc l < 576 ∧ f_X8_leadFrom σ' 7 (nI (p / 8)) (nI l) (nI hh) = some (nI (tc l))) (hT0 : tc 0 = p / 8) :
    ∀ (n m l : Nat) (σ : St) (X Y : Nat → Nat), m < n → l + m = top + 1 → σ.2 = (hr, tr) → (∀ r, ¬ (tr ≤ r ∧ r ≤ tr + 3) → σ.1 r = σ0.1 r) → FrV σ tr X Y → ∃ τ : St, f_X7_spread_48 k2 n σ (nI p) (nI i) (nI (p / 8)) (nI hh) (nI top) (nI l) = some τ ∧ τ.2 = (hr, tr) ∧ (∀ r, ¬ (tr ≤ r ∧ r ≤ tr + 3) → τ.1 r = σ0.1 r) ∧ FrV τ tr (fun z => X z + ss (fun l => eA K lo pl (8 * tc l + l) a z) l m) (fun z => Y z + ss (fun l => eB K lo pl (8 * tc l + l) a b z) l m) := by
  intro n
  induction n with
  | zero => intro m l σ X Y h; omega
  | succ n ih =>
    intro m l σ X Y hm hl hd hfr F
    rw [f_X7_spread_48]
    cases m with
    | zero =>
      rw [if_pos (show nI top < nI l from nI_lt (by omega) (by omega))]
      exact ⟨σ, rfl, hd, hfr, F⟩
    | succ m =>
      rw [if_neg (show ¬ nI top < nI l from nI_nlt (by omega) (by omega))]
      have htl : tc l < 576 := by
        by_cases h0 : l = 0
        · rw [h0, hT0]; omega
        · exact (hT σ0 l rfl rfl rfl (by omega) (by omega)).1
      have g109 : (¬ (lo = 0 ∧ ¬ pl = 8 * tc l + l)) → ∃ τ : St, f_X7_spread_109 k2 (fun σ x1 x3 x5 x6 x7 x8 => f_X7_spread_48 k2 n σ x1 x3 x5 x6 x7 x8) σ (nI p) (nI i) (nI (p / 8)) (nI hh) (nI top) (nI l) (nI (8 * tc l + l)) = some τ ∧ τ.2 = (hr, tr) ∧ (∀ r, ¬ (tr ≤ r ∧ r ≤ tr + 3) → τ.1 r = σ0.1 r) ∧ FrV τ tr (fun z => X z + ss (fun l => eA K lo pl (8 * tc l + l) a z) l (m + 1)) (fun z => Y z + ss (fun l => eB K lo pl (8 * tc l + l) a b z) l (m + 1)) := by
        intro hok
        unfold f_X7_spread_109
        rw [hd]
        dsimp only
        rw [aL_nI hp (by decide), Option.bind_some, aL_nI hp (by decide), Option.bind_some, hfr (hr + 2) (by omega), hfr (hr + 3) (by omega), hA, hB]
        obtain ⟨τ1, t1, t2, t3, t4⟩ := ent_s (q := 8 * tc l + l) (K := K) F (by omega) ha hb hab (fun j hj => by rw [hfr 2 (by omega)]; exact hK j hj)
        rw [t1, Option.bind_some, nI_1]
        obtain ⟨τ, i1, i2, i3, i4⟩ := ih m (l + 1) τ1 _ _ (by omega) (by omega) (by rw [t3]; exact hd) (fun r hr' => by rw [t2 r hr', hfr r hr']) t4
        refine ⟨τ, i1, i2, i3, FrV_e (fun z => ?_) (fun z => ?_) i4⟩
        · rw [ss_c, ← Nat.add_assoc]
          congr 2
          unfold eA
          rw [if_neg hok]
        · rw [ss_c, ← Nat.add_assoc]
          congr 2
          unfold eB
          rw [if_neg hok]
      have key : ∃ τ : St, f_X7_spread_82 k2 (fun σ x1 x3 x5 x6 x7 x8 => f_X7_spread_48 k2 n σ x1 x3 x5 x6 x7 x8) σ (nI p) (nI i) (nI (p / 8)) (nI hh) (nI top) (nI l) (nI (tc l)) = some τ ∧ τ.2 = (hr, tr) ∧ (∀ r, ¬ (tr ≤ r ∧ r ≤ tr + 3) → τ.1 r = σ0.1 r) ∧ FrV τ tr (fun z => X z + ss (fun l => eA K lo pl (8 * tc l + l) a z) l (m + 1)) (fun z => Y z + ss (fun l => eB K lo pl (8 * tc l + l) a b z) l (m + 1)) := by
        unfold f_X7_spread_82
        rw [aL_nI hi (by decide), Option.bind_some, hfr (k2 + 3) (by omega), h3, aL_nI hi (by decide), Option.bind_some, hfr (k2 + 2) (by omega), h2, plO]
        by_cases hlo : lo = 0
        · rw [if_pos hlo]
          by_cases hq : pl = 8 * tc l + l
          · rw [if_pos (by rw [hq])]
            exact g109 (fun g => g.2 hq)
          · rw [if_neg (fun g => hq ((nI_eq (by omega) (by omega)).mp g)), nI_1]
            obtain ⟨τ, i1, i2, i3, i4⟩ := ih m (l + 1) σ X Y (by omega) (by omega) hd hfr F
            refine ⟨τ, i1, i2, i3, FrV_e (fun z => ?_) (fun z => ?_) i4⟩
            · rw [ss_c]
              congr 1
              unfold eA
              rw [if_pos ⟨hlo, hq⟩, Nat.zero_add]
            · rw [ss_c]
              congr 1
              unfold eB
              rw [if_pos ⟨hlo, hq⟩, Nat.zero_add]
        · rw [if_neg hlo]
          exact g109 (fun g => hlo g.1)
      by_cases h0 : l = 0
      · rw [if_pos (by rw [h0]; rfl)]
        have e : tc l = p / 8 := by rw [h0, hT0]
        rw [e] at key
        exact key
      · rw [if_neg (nI_ne0 (by omega) (by omega)), (hT σ l (hfr 1 (by omega)) (hfr 8 (by omega)) (hfr 9 (by omega)) (by omega) (by omega)).2, Option.bind_some]
        exact key
theorem hour_s {b i : Nat} (hb : b ≤ 23) (hi : i < 60) (hi1 : 1 ≤ i) : nI b + nI i - 1 - (nI b + nI i - 1) / 24 * 24 = nI ((b + i - 1) % 24) := by
  have e : nI b + nI i - 1 = nI (b + i - 1) := by
    rw [nI_add]
    have := nI_pred (b + i - 1)
    rw [Nat.sub_add_cancel (by omega)] at this
    exact this
  rw [e]
  exact pk_rem (d := 24) (by omega) (by omega) (by omega)
theorem spr_s {σ σ0 : St} {k2 hr tr i pl p a b bb : Nat} {lo : Int32} {K : Nat → Int32} {tc : Nat → Nat} {X Y : Nat → Nat} (d : hr = 20 ∧ tr = 24 ∨ hr = 24 ∧ tr = 20) (hk2 : 40 ≤ k2) (hi1 : 1 ≤ i) (hi : i < 60) (hp : p < 4608) (ha : a ≤ 1000000) (hb : b ≤ 1000000) (hab : 0 < a + b) (hbb : bb ≤ 23) (h6 : σ0.1 k2 6 = nI bb) (hK : ∀ j, j < 576 → σ0.1 2 j = K j) (h3 : σ0.1 (k2 + 3) i = lo) (h2 : σ0.1 (k2 + 2) i = nI pl) (hpl : pl < 4608) (hA : σ0.1 (hr + 2) p = nI a) (hB : σ0.1 (hr + 3) p = nI b)
    (hT : ∀ (σ' : St) (l : Nat), σ'.1 1 = σ0.1 1 → σ'.1 8 = σ0.1 8 → σ'.1 9 = σ0.1 9 → 1 ≤ l → l ≤ 7 → tc l < 576 ∧ f_X8_leadFrom σ' 7 (nI (p / 8)) (nI l) (nI ((bb + i - 1) % 24)) = some (nI (tc l))) (hT0 : tc 0 = p / 8) (hd : σ.2 = (hr, tr)) (hfr : ∀ r, ¬ (tr ≤ r ∧ r ≤ tr + 3) → σ.1 r = σ0.1 r) (F : FrV σ tr X Y) : ∃ τ : St, f_X7_spread σ (nI p) k2 (nI i) = some τ ∧ τ.2 = (hr, tr) ∧ (∀ r, ¬ (tr ≤ r ∧ r ≤ tr + 3) → τ.1 r = σ0.1 r) ∧ FrV τ tr (fun z => X z + cA K tc lo pl p a z) (fun z => Y z + cB K tc lo pl p a b z) := by
  unfold f_X7_spread
  have e1 : f_X9_levelOfPlace (nI p) = nI (p % 8) := pk_rem (d := 8) (by omega) (by omega) (by omega)
  have e2 : f_X9_cellOfPlace (nI p) = nI (p / 8) := pk_div (d := 8) (by omega) (by omega) (by omega)
  rw [e1, e2, hfr k2 (by omega), h6, hour_s hbb hi hi1]
  unfold cA cB
  by_cases h0 : p % 8 = 0
  · rw [if_pos (by rw [h0]; rfl)]
    exact ⟨σ, rfl, hd, hfr, FrV_e (fun z => by rw [if_pos h0, Nat.add_zero]) (fun z => by rw [if_pos h0, Nat.add_zero]) F⟩
  · rw [if_neg (nI_ne0 (by omega) (by omega)), nI_1]
    have et : (if (7 : Int32) < nI (p % 8 + 1) then 7 else nI (p % 8 + 1)) = nI (min (p % 8 + 1) 7) := by
      by_cases h7 : 7 < p % 8 + 1
      · rw [if_pos (show (7 : Int32) < nI (p % 8 + 1) from nI_lt (a := 7) h7 (by omega)), show min (p % 8 + 1) 7 = 7 by omega]
        rfl
      · rw [if_neg (show ¬ (7 : Int32) < nI (p % 8 + 1) from nI_nlt (a := 7) (by omega) (by omega)), show min (p % 8 + 1) 7 = p % 8 + 1 by omega]
    have el : nI (p % 8) - 1 = nI (p % 8 - 1) := by
      have := nI_pred (p % 8 - 1)
      rw [Nat.sub_add_cancel (by omega)] at this
      exact this
    rw [et, el]
    obtain ⟨τ, t1, t2, t3, t4⟩ := sp_l (σ0 := σ0) (K := K) (tc := tc) (lo := lo) (top := min (p % 8 + 1) 7) d hk2 hi hp (by omega) ha hb hab hK h3 h2 hpl hA hB hT hT0 10000 (min (p % 8 + 1) 7 + 2 - p % 8) (p % 8 - 1) σ X Y (by omega) (by omega) hd hfr F
    exact ⟨τ, t1, t2, t3, FrV_e (fun z => by rw [if_neg h0]) (fun z => by rw [if_neg h0]) t4⟩
