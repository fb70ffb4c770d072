/-- the class goes on from all places of a Front, and turns the two about -/
theorem fo_l {σ0 : St} {k2 hr tr i pl bb N : Nat} {lo : Int32} {K : Nat → Int32} {A B Pl : Nat → Nat} {T : Nat → Nat → Nat} (kn : St → Int32 → Option St) (d : hr = 20 ∧ tr = 24 ∨ hr = 24 ∧ tr = 20) (hk2 : 40 ≤ k2) (hi1 : 1 ≤ i) (hi : i < 60) (hbb : bb ≤ 23) (h6 : σ0.1 k2 6 = nI bb) (hK : ∀ j, j < 576 → σ0.1 2 j = K j) (h3 : σ0.1 (k2 + 3) i = lo) (h2 : σ0.1 (k2 + 2) i = nI pl) (hpl : pl < 4608) (hN : N ≤ 4608) (hN3 : σ0.1 hr 3 = nI N) (hPl : ∀ j, j < N → Pl j < 4608 ∧ σ0.1 (hr + 1) j = nI (Pl j) ∧ 0 < A (Pl j) + B (Pl j)) (hA : ∀ q, q < 4608 → σ0.1 (hr + 2) q = nI (A q) ∧ σ0.1 (hr + 3) q = nI (B q) ∧ A q ≤ 1000000 ∧ B q ≤ 1000000)
    (hT : ∀ (c : Nat) (σ' : St) (l : Nat), c < 576 → σ'.1 1 = σ0.1 1 → σ'.1 8 = σ0.1 8 → σ'.1 9 = σ0.1 9 → 1 ≤ l → l ≤ 7 → T c l < 576 ∧ f_X8_leadFrom σ' 7 (nI c) (nI l) (nI ((bb + i - 1) % 24)) = some (nI (T c l))) (hT0 : ∀ c, T c 0 = c) :
    ∀ (n j : Nat) (σ : St) (X Y : Nat → Nat), j ≤ N → N - j < n → σ.2 = (hr, tr) → (∀ r, ¬ (tr ≤ r ∧ r ≤ tr + 3) → σ.1 r = σ0.1 r) → FrV σ tr X Y → ∃ τ : St, f_X7_follow_42 k2 kn n σ (nI i) (nI j) = kn τ (nI (i + 1)) ∧ τ.2 = (tr, hr) ∧ (∀ r, ¬ (tr ≤ r ∧ r ≤ tr + 3) → τ.1 r = σ0.1 r) ∧ FrV τ tr (fun z => X z + ss (fun j => cA K (T (Pl j / 8)) lo pl (Pl j) (A (Pl j)) z) j (N - j)) (fun z => Y z + ss (fun j => cB K (T (Pl j / 8)) lo pl (Pl j) (A (Pl j)) (B (Pl j)) z) j (N - j)) := by
  intro n
  induction n with
  | zero => intro j σ X Y h1 h2; omega
  | succ n ih =>
    intro j σ X Y h1 h2' hd hfr F
    rw [f_X7_follow_42, hd]
    dsimp only
    rw [hfr hr (by omega), hN3]
    by_cases hj : j = N
    · rw [if_pos (by rw [hj]; exact Int32.le_refl _)]
      unfold f_X7_follow_74
      rw [bT_e, bT_e, hd, nI_1]
      refine ⟨(σ.1, (tr, hr)), rfl, rfl, hfr, ?_⟩
      rw [hj, Nat.sub_self]
      exact F
    · obtain ⟨p1, p2, p3⟩ := hPl j (by omega)
      obtain ⟨a1, a2, a3, a4⟩ := hA _ p1
      rw [if_neg (nI_ge (by omega) (by omega)), aL_nI (by omega) (by decide), Option.bind_some, hfr (hr + 1) (by omega), p2]
      obtain ⟨τ1, t1, t2, t3, t4⟩ := spr_s (σ := σ) (σ0 := σ0) (K := K) (lo := lo) (tc := T (Pl j / 8)) d hk2 hi1 hi p1 a3 a4 p3 hbb h6 hK h3 h2 hpl a1 a2 (fun σ' l q1 q2 q3 q4 q5 => hT (Pl j / 8) σ' l (by omega) q1 q2 q3 q4 q5) (hT0 _) hd hfr F
      rw [t1, Option.bind_some, nI_1]
      obtain ⟨τ, i1, i2, i3, i4⟩ := ih (j + 1) τ1 _ _ (by omega) (by omega) t2 t3 t4
      refine ⟨τ, i1, i2, i3, FrV_e (fun z => ?_) (fun z => ?_) i4⟩
      · rw [show N - j = (N - (j + 1)) + 1 by omega, ss_c, Nat.add_assoc]
      · rw [show N - j = (N - (j + 1)) + 1 by omega, ss_c, Nat.add_assoc]
/-! the reference -/
def Sat2 (τ : St) (X Y : Nat → Nat) : Prop := ∀ z, z < 4608 → τ.1 99 z = nI (min 1000000 (X z)) ∧ τ.1 100 z = nI (min 1000000 (Y z))
theorem Sat2_e {τ : St} {A B A' B' : Nat → Nat} (hA : ∀ z, A' z = A z) (hB : ∀ z, B' z = B z) (F : Sat2 τ A B) : Sat2 τ A' B' := by
  rw [show A' = A from funext hA, show B' = B from funext hB]
  exact F
theorem ix8 (c l : Nat) : (8 : Int32) * nI c + nI l = nI (8 * c + l) := by
  show nI 8 * nI c + nI l = _
  rw [pk_mul, nI_add]
/-- the reference counts a place -/
theorem g186_s {τ : St} {p a b c l : Nat} {X Y : Nat → Nat} (kn36 : St → Int32 → Int32 → Int32 → Int32 → Option St) (kn89 : St → Int32 → Int32 → Int32 → Int32 → Int32 → Int32 → Int32 → Option St) (x1 x2 x3 x5 x6 : Int32) (hp : p < 4608) (ha : a ≤ 1000000) (hb : b ≤ 1000000) (hc : c < 576) (hl : l ≤ 7) (hA : τ.1 97 p = nI a) (hB : τ.1 98 p = nI b) (S : Sat2 τ X Y) :
    ∃ τ' : St, f_X10_goOn_186 kn36 kn89 τ x1 x2 x3 (nI p) x5 x6 (nI l) (nI c) 1 = kn89 τ' x1 x2 x3 (nI p) x5 x6 (nI (l + 1)) ∧ (∀ r, ¬ r = 99 → ¬ r = 100 → τ'.1 r = τ.1 r) ∧ τ'.2 = τ.2 ∧ Sat2 τ' (fun z => X z + if z = 8 * c + l then (if τ.1 73 c = 2 then 0 else a) else 0) (fun z => Y z + if z = 8 * c + l then (if τ.1 73 c = 2 then a + b else b) else 0) := by
  have hq : 8 * c + l < 4608 := by omega
  unfold f_X10_goOn_186
  rw [if_neg (by decide), aL_nI hc (by decide), Option.bind_some]
  by_cases h2 : τ.1 73 c = 2
  · have e1 : f_X10_sum (nI a) (nI b) = nI (min 1000000 (a + b)) := by
      have := sat_r (x := a) (a := b) (by omega)
      rw [show min 1000000 a = a by omega] at this
      exact this
    rw [if_pos h2, ix8, aL_nI hq (by decide), Option.bind_some, aL_nI hp (by decide), Option.bind_some, aL_nI hp (by decide), Option.bind_some, hA, hB, e1, (S _ hq).2, sat_r (by omega), aS_nI hq (by decide), Option.bind_some, nI_1]
    refine ⟨_, rfl, fun r _ h => up_ne h, rfl, fun z hz => ?_⟩
    dsimp only
    rw [up_ne (show ¬ 99 = 100 by decide), up_at, upd_e]
    by_cases hzq : z = 8 * c + l
    · rw [if_pos hzq, if_pos hzq, if_pos hzq, if_pos h2, if_pos h2, hzq]
      exact ⟨(S _ hq).1, by congr 1; omega⟩
    · rw [if_neg hzq, if_neg hzq, if_neg hzq]
      exact S z hz
  · rw [if_neg h2]
    unfold f_X10_goOn_253
    rw [if_neg (by decide), ix8, aL_nI hq (by decide), Option.bind_some, aL_nI hp (by decide), Option.bind_some, hA, (S _ hq).1, sat_r (by omega), aS_nI hq (by decide), Option.bind_some, aL_nI hq (by decide), Option.bind_some, aL_nI hp (by decide), Option.bind_some, up_ne (show ¬ 100 = 99 by decide), up_ne (show ¬ 98 = 99 by decide), hB, (S _ hq).2, sat_r (by omega), aS_nI hq (by decide), Option.bind_some, nI_1]
    refine ⟨_, rfl, fun r h h' => by rw [up_ne h', up_ne h], rfl, fun z hz => ?_⟩
    dsimp only
    rw [up_ne (show ¬ 99 = 100 by decide), up_at, up_at, up_ne (show ¬ 100 = 99 by decide), upd_e, upd_e]
    by_cases hzq : z = 8 * c + l
    · rw [if_pos hzq, if_pos hzq, if_pos hzq, if_pos hzq, if_neg h2, if_neg h2, hzq]
      exact ⟨rfl, rfl⟩
    · rw [if_neg hzq, if_neg hzq, if_neg hzq, if_neg hzq]
      exact S z hz
theorem g89_l {τ0 : St} {f i hh p a b pc pv : Nat} {lo : Int32} {K : Nat → Int32} {tc : Nat → Nat} (kn : St → Int32 → Int32 → Int32 → Int32 → Option St) (hf : f < 8) (hi : i < 60) (hp : p < 4608) (ha : a ≤ 1000000) (hb : b ≤ 1000000) (hK : ∀ j, j < 576 → τ0.1 73 j = K j) (h92 : τ0.1 92 (61 * f + i) = lo) (h90 : τ0.1 90 (61 * f + i) = nI pc) (h91 : τ0.1 91 (61 * f + i) = nI pv) (hpc : pc < 576) (hpv : pv ≤ 7) (hA : τ0.1 97 p = nI a) (hB : τ0.1 98 p = nI b)
    (hT : ∀ (τ' : St) (l : Nat), τ'.1 72 = τ0.1 72 → τ'.1 77 = τ0.1 77 → τ'.1 78 = τ0.1 78 → 1 ≤ l → l ≤ 7 → tc l < 576 ∧ f_X10_led τ' 0 (nI l) (nI hh) (nI (p / 8 % 24)) (nI (p / 8 / 24)) = some (nI (tc l))) (hT0 : tc 0 = p / 8) :
    ∀ (n m l : Nat) (τ : St) (X Y : Nat → Nat), m < n → l + m = min (p % 8 + 1) 7 + 1 → (∀ r, ¬ r = 99 → ¬ r = 100 → τ.1 r = τ0.1 r) → τ.2 = τ0.2 → Sat2 τ X Y → ∃ τ' : St, f_X10_goOn_89 kn n τ (nI f) (nI i) (nI hh) (nI p) (nI (p % 8)) (nI (p / 8)) (nI l) = kn τ' (nI f) (nI i) (nI hh) (nI (p + 1)) ∧ (∀ r, ¬ r = 99 → ¬ r = 100 → τ'.1 r = τ0.1 r) ∧ τ'.2 = τ0.2 ∧ Sat2 τ' (fun z => X z + ss (fun l => eA K lo (8 * pc + pv) (8 * tc l + l) a z) l m) (fun z => Y z + ss (fun l => eB K lo (8 * pc + pv) (8 * tc l + l) a b z) l m) := by
  intro n
  induction n with
  | zero => intro m l τ X Y h; omega
  | succ n ih =>
    intro m l τ X Y hm hl hfr h2' S
    rw [f_X10_goOn_89, nI_1, nI_1]
    cases m with
    | zero =>
      refine ⟨τ, ?_, hfr, h2', S⟩
      by_cases h1 : p % 8 + 1 < l
      · rw [if_pos (nI_lt h1 (by omega))]
      · rw [if_neg (nI_nlt (by omega) (by omega)), if_pos (show (8 : Int32) ≤ nI l from nI_le (a := 8) (by omega) (by omega))]
    | succ m =>
      rw [if_neg (nI_nlt (a := p % 8 + 1) (b := l) (by omega) (by omega)), if_neg (show ¬ (8 : Int32) ≤ nI l from nI_ge (a := l) (b := 8) (by omega) (by omega))]
      have htl : tc l < 576 := by
        by_cases h0 : l = 0
        · rw [h0, hT0]; omega
        · exact (hT τ0 l rfl rfl rfl (by omega) (by omega)).1
      have hfi : 61 * f + i < 488 := by omega
      have yes : (¬ (lo = 0 ∧ ¬ 8 * pc + pv = 8 * tc l + l)) → ∃ τ' : St, f_X10_goOn_186 kn (fun σ x1 x2 x3 x4 x5 x6 x7 => f_X10_goOn_89 kn n σ x1 x2 x3 x4 x5 x6 x7) τ (nI f) (nI i) (nI hh) (nI p) (nI (p % 8)) (nI (p / 8)) (nI l) (nI (tc l)) 1 = kn τ' (nI f) (nI i) (nI hh) (nI (p + 1)) ∧ (∀ r, ¬ r = 99 → ¬ r = 100 → τ'.1 r = τ0.1 r) ∧ τ'.2 = τ0.2 ∧ Sat2 τ' (fun z => X z + ss (fun l => eA K lo (8 * pc + pv) (8 * tc l + l) a z) l (m + 1)) (fun z => Y z + ss (fun l => eB K lo (8 * pc + pv) (8 * tc l + l) a b z) l (m + 1)) := by
        intro hok
        obtain ⟨τ1, t1, t2, t3, t4⟩ := g186_s (X := X) (Y := Y) kn (fun σ x1 x2 x3 x4 x5 x6 x7 => f_X10_goOn_89 kn n σ x1 x2 x3 x4 x5 x6 x7) (nI f) (nI i) (nI hh) (nI (p % 8)) (nI (p / 8)) (τ := τ) (c := tc l) (l := l) hp ha hb htl (by omega) (by rw [hfr 97 (by decide) (by decide)]; exact hA) (by rw [hfr 98 (by decide) (by decide)]; exact hB) S
        rw [t1]
        obtain ⟨τ2, i1, i2, i3, i4⟩ := ih m (l + 1) τ1 _ _ (by omega) (by omega) (fun r q1 q2 => by rw [t2 r q1 q2, hfr r q1 q2]) (by rw [t3, h2']) t4
        have ek : τ.1 73 (tc l) = K ((8 * tc l + l) / 8) := by
          rw [hfr 73 (by decide) (by decide), hK _ htl, show (8 * tc l + l) / 8 = tc l by omega]
        refine ⟨τ2, i1, i2, i3, Sat2_e (fun z => ?_) (fun z => ?_) i4⟩
        · rw [ss_c, ← Nat.add_assoc, ek]
          congr 2
          unfold eA
          rw [if_neg hok]
        · rw [ss_c, ← Nat.add_assoc, ek]
          congr 2
          unfold eB
          rw [if_neg hok]
      have no : (lo = 0 ∧ ¬ 8 * pc + pv = 8 * tc l + l) → ∃ τ' : St, f_X10_goOn_186 kn (fun σ x1 x2 x3 x4 x5 x6 x7 => f_X10_goOn_89 kn n σ x1 x2 x3 x4 x5 x6 x7) τ (nI f) (nI i) (nI hh) (nI p) (nI (p % 8)) (nI (p / 8)) (nI l) (nI (tc l)) 0 = kn τ' (nI f) (nI i) (nI hh) (nI (p + 1)) ∧ (∀ r, ¬ r = 99 → ¬ r = 100 → τ'.1 r = τ0.1 r) ∧ τ'.2 = τ0.2 ∧ Sat2 τ' (fun z => X z + ss (fun l => eA K lo (8 * pc + pv) (8 * tc l + l) a z) l (m + 1)) (fun z => Y z + ss (fun l => eB K lo (8 * pc + pv) (8 * tc l + l) a b z) l (m + 1)) := by
        intro hno
        unfold f_X10_goOn_186 f_X10_goOn_253
        rw [if_pos rfl, if_pos rfl, nI_1]
        obtain ⟨τ2, i1, i2, i3, i4⟩ := ih m (l + 1) τ X Y (by omega) (by omega) hfr h2' S
        refine ⟨τ2, i1, i2, i3, Sat2_e (fun z => ?_) (fun z => ?_) i4⟩
        · rw [ss_c]
          congr 1
          unfold eA
          rw [if_pos hno, Nat.zero_add]
        · rw [ss_c]
          congr 1
          unfold eB
          rw [if_pos hno, Nat.zero_add]
      have key : ∃ τ' : St, f_X10_goOn_133 kn (fun σ x1 x2 x3 x4 x5 x6 x7 => f_X10_goOn_89 kn n σ x1 x2 x3 x4 x5 x6 x7) τ (nI f) (nI i) (nI hh) (nI p) (nI (p % 8)) (nI (p / 8)) (nI l) (nI (tc l)) = kn τ' (nI f) (nI i) (nI hh) (nI (p + 1)) ∧ (∀ r, ¬ r = 99 → ¬ r = 100 → τ'.1 r = τ0.1 r) ∧ τ'.2 = τ0.2 ∧ Sat2 τ' (fun z => X z + ss (fun l => eA K lo (8 * pc + pv) (8 * tc l + l) a z) l (m + 1)) (fun z => Y z + ss (fun l => eB K lo (8 * pc + pv) (8 * tc l + l) a b z) l (m + 1)) := by
        unfold f_X10_goOn_133
        rw [ix61, aL_nI hfi (by decide), Option.bind_some, aL_nI hfi (by decide), Option.bind_some, aL_nI hfi (by decide), Option.bind_some, hfr 92 (by decide) (by decide), hfr 90 (by decide) (by decide), hfr 91 (by decide) (by decide), h92, h90, h91]
        by_cases hlo : lo = 0
        · rw [if_pos hlo]
          by_cases q1 : pc = tc l
          · rw [if_pos (by rw [q1])]
            by_cases q2 : pv = l
            · rw [if_pos (by rw [q2])]
              exact yes (fun g => g.2 (by rw [q1, q2]))
            · rw [if_neg (fun g => q2 ((nI_eq (by omega) (by omega)).mp g))]
              exact no ⟨hlo, by omega⟩
          · rw [if_neg (fun g => q1 ((nI_eq (by omega) (by omega)).mp g))]
            exact no ⟨hlo, by omega⟩
        · rw [if_neg hlo]
          exact yes (fun g => hlo g.1)
      by_cases h0 : l = 0
      · rw [if_pos (by rw [h0]; rfl)]
        have e : tc l = p / 8 := by rw [h0, hT0]
        rw [e] at key
        exact key
      · have ex : nI (p / 8) - nI (p / 8) / 24 * 24 = nI (p / 8 % 24) := pk_rem (d := 24) (by omega) (by omega) (by omega)
        have ey : nI (p / 8) / 24 = nI (p / 8 / 24) := pk_div (d := 24) (by omega) (by omega) (by omega)
        rw [if_neg (nI_ne0 (by omega) (by omega)), ex, ey, (hT τ l (hfr 72 (by decide) (by decide)) (hfr 77 (by decide) (by decide)) (hfr 78 (by decide) (by decide)) (by omega) (by omega)).2, Option.bind_some]
        exact key
