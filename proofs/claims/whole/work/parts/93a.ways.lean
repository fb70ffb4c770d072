/-! sums -/
def ss (f : Nat → Nat) : Nat → Nat → Nat
  | _, 0 => 0
  | l, n + 1 => f l + ss f (l + 1) n
theorem ss_c (f : Nat → Nat) (l n : Nat) : ss f l (n + 1) = f l + ss f (l + 1) n := rfl
theorem ss_eq {f g : Nat → Nat} : ∀ n l, (∀ j, l ≤ j → j < l + n → f j = g j) → ss f l n = ss g l n := by
  intro n
  induction n with
  | zero => intro l _; rfl
  | succ n ih =>
    intro l h
    rw [ss_c, ss_c, h l (by omega) (by omega), ih (l + 1) (fun j h1 h2 => h j (by omega) (by omega))]
theorem ss_0 {f : Nat → Nat} : ∀ n l, (∀ j, l ≤ j → j < l + n → f j = 0) → ss f l n = 0 := by
  intro n
  induction n with
  | zero => intro l _; rfl
  | succ n ih =>
    intro l h
    rw [ss_c, h l (by omega) (by omega), ih (l + 1) (fun j h1 h2 => h j (by omega) (by omega))]
theorem ss_u {f g : Nat → Nat} {q : Nat} (hg : ∀ j, ¬ j = q → g j = f j) (hq : g q = 0) : ∀ n l, l ≤ q → q < l + n → ss f l n = f q + ss g l n := by
  intro n
  induction n with
  | zero => intro l h1 h2; omega
  | succ n ih =>
    intro l h1 h2
    rw [ss_c, ss_c]
    by_cases h : l = q
    · subst h
      rw [hq, ss_eq n (l + 1) (fun j h3 _ => (hg j (by omega)).symm)]
      omega
    · rw [hg l h, ih (l + 1) (by omega) (by omega)]
      omega
/-- a sum does not ask for the order -/
theorem ss_p {N : Nat} {Pl : Nat → Nat} : ∀ (n i : Nat) (g : Nat → Nat), (∀ j, i ≤ j → j < i + n → Pl j < N) → (∀ j j', i ≤ j → j < i + n → i ≤ j' → j' < i + n → Pl j = Pl j' → j = j') → (∀ p, p < N → ¬ g p = 0 → ∃ j, i ≤ j ∧ j < i + n ∧ Pl j = p) → ss (fun j => g (Pl j)) i n = ss g 0 N := by
  intro n
  induction n with
  | zero =>
    intro i g h1 h2 h3
    refine (ss_0 N 0 (fun p _ hp => ?_)).symm
    by_cases hg : g p = 0
    · exact hg
    · obtain ⟨j, g1, g2, -⟩ := h3 p (by omega) hg
      omega
  | succ n ih =>
    intro i g h1 h2 h3
    have I := ih (i + 1) (fun p => if p = Pl i then 0 else g p) (fun j a b => h1 j (by omega) (by omega)) (fun j j' a b c d e => h2 j j' (by omega) (by omega) (by omega) (by omega) e) (fun p hp hg => by
      by_cases hpi : p = Pl i
      · rw [if_pos hpi] at hg
        exact absurd rfl hg
      · rw [if_neg hpi] at hg
        obtain ⟨j, g1, g2, g3⟩ := h3 p hp hg
        refine ⟨j, ?_, by omega, g3⟩
        have : ¬ j = i := fun e => hpi (by rw [← g3, e])
        omega)
    rw [ss_u (f := g) (g := fun p => if p = Pl i then 0 else g p) (q := Pl i) (fun j hj => if_neg hj) (if_pos rfl) N 0 (by omega) (by have := h1 i (by omega) (by omega); omega), ← I, ss_c]
    congr 1
    refine ss_eq n (i + 1) (fun j g1 g2 => ?_)
    exact (if_neg (fun e => by have := h2 j i (by omega) (by omega) (by omega) (by omega) e; omega)).symm
/-! counts up to a million -/
theorem sat_c {x a : Nat} (ha : a ≤ 2000000) : (if nI (min 1000000 x) + nI a < 1000000 then nI (min 1000000 x) + nI a else 1000000) = nI (min 1000000 (x + a)) := by
  rw [nI_add]
  by_cases h : min 1000000 x + a < 1000000
  · rw [if_pos (show nI (min 1000000 x + a) < 1000000 from nI_lt (a := min 1000000 x + a) (b := 1000000) h (by omega))]
    congr 1
    omega
  · rw [if_neg (show ¬ nI (min 1000000 x + a) < 1000000 from nI_nlt (a := min 1000000 x + a) (b := 1000000) (by omega) (by omega))]
    rw [show min 1000000 (x + a) = 1000000 by omega]
    rfl
theorem sat_r {x a : Nat} (ha : a ≤ 2000000) : f_X10_sum (nI (min 1000000 x)) (nI a) = nI (min 1000000 (x + a)) := by
  unfold f_X10_sum
  rw [nI_add]
  by_cases h : min 1000000 x + a ≤ 1000000
  · rw [if_pos (show nI (min 1000000 x + a) ≤ 1000000 from nI_le (a := min 1000000 x + a) (b := 1000000) h (by omega))]
    congr 1
    omega
  · rw [if_neg (show ¬ nI (min 1000000 x + a) ≤ 1000000 from nI_ge (b := min 1000000 x + a) (a := 1000000) (by omega) (by omega))]
    rw [show min 1000000 (x + a) = 1000000 by omega]
    rfl
theorem sat_0 {x : Nat} : nI (min 1000000 x) = 0 ↔ x = 0 := by
  have h : nI (min 1000000 x) = nI 0 ↔ min 1000000 x = 0 := nI_eq (by omega) (by omega)
  rw [nI_0] at h
  rw [h]
  omega
/-! a Front, by its counts -/
def zf (A B : Nat → Nat) : Nat → Int32 := fun q => if A q + B q = 0 then -1 else 0
def FrV (σ : St) (k : Nat) (A B : Nat → Nat) : Prop := ∃ (n : Nat) (Pl : Nat → Nat), σ.1 k 3 = nI n ∧ n + unr (zf A B) 4608 = 4608 ∧ (∀ i, i < n → Pl i < 4608 ∧ σ.1 (k + 1) i = nI (Pl i) ∧ 0 < A (Pl i) + B (Pl i)) ∧ (∀ i j, i < n → j < n → Pl i = Pl j → i = j) ∧ (∀ q, q < 4608 → 0 < A q + B q → ∃ i, i < n ∧ Pl i = q) ∧ ∀ q, q < 4608 → σ.1 (k + 2) q = nI (min 1000000 (A q)) ∧ σ.1 (k + 3) q = nI (min 1000000 (B q))
theorem FrV_ok {σ : St} {k : Nat} {A B : Nat → Nat} (F : FrV σ k A B) : FrOk (σ.1 k) (σ.1 (k + 1)) (σ.1 (k + 2)) (σ.1 (k + 3)) := by
  obtain ⟨n, Pl, f1, f2, f3, f4, f5, f6⟩ := F
  refine ⟨n, by omega, f1, fun i hi => ⟨Pl i, (f3 i hi).1, (f3 i hi).2.1⟩, fun q hq => ?_⟩
  by_cases h : 0 < A q + B q
  · obtain ⟨i, h1, h2⟩ := f5 q hq h
    exact Or.inl ⟨i, h1, by rw [(f3 i h1).2.1, h2]⟩
  · refine Or.inr ⟨?_, ?_⟩
    · rw [(f6 q hq).1]; exact sat_0.mpr (by omega)
    · rw [(f6 q hq).2]; exact sat_0.mpr (by omega)
theorem FrV_sat {σ : St} {k : Nat} {A B : Nat → Nat} (F : FrV σ k A B) : FrV σ k (fun z => min 1000000 (A z)) (fun z => min 1000000 (B z)) := by
  obtain ⟨n, Pl, f1, f2, f3, f4, f5, f6⟩ := F
  have e : zf (fun z => min 1000000 (A z)) (fun z => min 1000000 (B z)) = zf A B := by
    funext q
    simp only [zf]
    by_cases h : A q + B q = 0
    · rw [if_pos h, if_pos (by omega)]
    · rw [if_neg h, if_neg (by omega)]
  refine ⟨n, Pl, f1, by rw [e]; exact f2, fun i hi => ⟨(f3 i hi).1, (f3 i hi).2.1, ?_⟩, f4, fun q hq h => f5 q hq (by dsimp only at h; omega), fun q hq => ?_⟩
  · have := (f3 i hi).2.2
    dsimp only
    omega
  · rw [(f6 q hq).1, (f6 q hq).2]
    dsimp only
    exact ⟨by congr 1; omega, by congr 1; omega⟩
theorem FrV_0 {σ : St} {k : Nat} (h3 : σ.1 k 3 = 0) (h : ∀ q, q < 4608 → σ.1 (k + 2) q = 0 ∧ σ.1 (k + 3) q = 0) : FrV σ k (fun _ => 0) (fun _ => 0) := by
  refine ⟨0, fun _ => 0, h3, ?_, fun i hi => absurd hi (by omega), fun i j hi => absurd hi (by omega), fun q _ h => absurd h (by dsimp only; omega), fun q hq => h q hq⟩
  rw [unr_all (S := zf (fun _ => 0) (fun _ => 0)) 4608 (fun j _ => if_pos rfl)]
theorem FrV_congr {σ τ : St} {k : Nat} {A B : Nat → Nat} (h : ∀ r, k ≤ r → r ≤ k + 3 → τ.1 r = σ.1 r) (F : FrV σ k A B) : FrV τ k A B := by
  unfold FrV
  rw [h k (by omega) (by omega), h (k + 1) (by omega) (by omega), h (k + 2) (by omega) (by omega), h (k + 3) (by omega) (by omega)]
  exact F
/-- a place is counted -/
theorem add_s {σ : St} {k q a b : Nat} {X Y : Nat → Nat} (F : FrV σ k X Y) (hq : q < 4608) (ha : a ≤ 2000000) (hb : b ≤ 2000000) (hp : 0 < a + b) : ∃ τ : St, f_X4_add σ k (nI q) (nI a) (nI b) = some τ ∧ (∀ r, ¬ (k ≤ r ∧ r ≤ k + 3) → τ.1 r = σ.1 r) ∧ τ.2 = σ.2 ∧ FrV τ k (fun z => X z + if z = q then a else 0) (fun z => Y z + if z = q then b else 0) := by
  obtain ⟨n, Pl, f1, f2, f3, f4, f5, f6⟩ := F
  have g48 : ∀ ρ : St, ρ.1 (k + 2) = σ.1 (k + 2) → ρ.1 (k + 3) = σ.1 (k + 3) → f_X4_add_48 k ρ (nI q) (nI a) (nI b) = some (up (up ρ (k + 2) q (nI (min 1000000 (X q + a)))) (k + 3) q (nI (min 1000000 (Y q + b)))) := by
    intro ρ r1 r2
    unfold f_X4_add_48
    rw [aL_nI hq (by decide), Option.bind_some, r1, (f6 q hq).1, sat_c ha, aS_nI hq (by decide), Option.bind_some, aL_nI hq (by decide), Option.bind_some, up_ne (by omega), r2, (f6 q hq).2, sat_c hb, aS_nI hq (by decide), Option.bind_some]
  have val : ∀ ρ : St, ρ.1 (k + 2) = σ.1 (k + 2) → ρ.1 (k + 3) = σ.1 (k + 3) → ∀ z, z < 4608 → (up (up ρ (k + 2) q (nI (min 1000000 (X q + a)))) (k + 3) q (nI (min 1000000 (Y q + b)))).1 (k + 2) z = nI (min 1000000 (X z + if z = q then a else 0)) ∧ (up (up ρ (k + 2) q (nI (min 1000000 (X q + a)))) (k + 3) q (nI (min 1000000 (Y q + b)))).1 (k + 3) z = nI (min 1000000 (Y z + if z = q then b else 0)) := by
    intro ρ r1 r2 z hz
    rw [up_ne (show ¬ k + 2 = k + 3 by omega), up_at, up_at, up_ne (show ¬ k + 3 = k + 2 by omega), r1, r2, upd_e, upd_e]
    by_cases h : z = q
    · rw [if_pos h, if_pos h, if_pos h, if_pos h, h]
      exact ⟨rfl, rfl⟩
    · rw [if_neg h, if_neg h, if_neg h, if_neg h]
      exact f6 z hz
  unfold f_X4_add
  rw [aL_nI hq (by decide), Option.bind_some, aL_nI hq (by decide), Option.bind_some, (f6 q hq).1, (f6 q hq).2]
  by_cases hz : X q + Y q = 0
  · have hzq : zf X Y q = -1 := if_pos hz
    have u := unr_u (S := zf X Y) (j := q) (v := 0) hzq (by decide) 4608 hq
    have hn : n < 4608 := by omega
    have e : zf (fun z => X z + if z = q then a else 0) (fun z => Y z + if z = q then b else 0) = upd (zf X Y) q 0 := by
      funext z
      rw [upd_e]
      show (if (X z + if z = q then a else 0) + (Y z + if z = q then b else 0) = 0 then (-1 : Int32) else 0) = if z = q then 0 else (if X z + Y z = 0 then (-1 : Int32) else 0)
      by_cases h : z = q
      · rw [if_pos h, if_pos h, if_pos h, if_neg (by omega)]
      · rw [if_neg h, if_neg h, if_neg h, Nat.add_zero, Nat.add_zero]
    rw [if_pos (sat_0.mpr (by omega)), if_pos (sat_0.mpr (by omega)), f1, if_neg (show ¬ (4608 : Int32) ≤ nI n from nI_ge (a := n) (b := 4608) hn (by omega)), aS_nI hn (by decide), Option.bind_some, bT_e, up_ne (show ¬ k = k + 1 by omega), f1, nI_1]
    have r1 : (up (up σ (k + 1) n (nI q)) k 3 (nI (n + 1))).1 (k + 2) = σ.1 (k + 2) := by rw [up_ne (by omega), up_ne (by omega)]
    have r2 : (up (up σ (k + 1) n (nI q)) k 3 (nI (n + 1))).1 (k + 3) = σ.1 (k + 3) := by rw [up_ne (by omega), up_ne (by omega)]
    rw [g48 _ r1 r2]
    refine ⟨_, rfl, fun r hr => ?_, rfl, n + 1, fun i => if i = n then q else Pl i, ?_, ?_, fun i hi => ?_, fun i j hi hj => ?_, fun z hz' h => ?_, val _ r1 r2⟩
    · rw [up_ne (by omega), up_ne (by omega), up_ne (by omega), up_ne (by omega)]
    · rw [up_ne (by omega), up_ne (by omega), up_at, upd_e, if_pos rfl]
    · rw [e]; omega
    · rw [up_ne (show ¬ k + 1 = k + 3 by omega), up_ne (show ¬ k + 1 = k + 2 by omega), up_ne (show ¬ k + 1 = k by omega), up_at, upd_e]
      by_cases h : i = n
      · simp only [if_pos h, if_true]
        exact ⟨hq, trivial, by omega⟩
      · simp only [if_neg h]
        obtain ⟨g1, g2, g3⟩ := f3 i (by omega)
        exact ⟨g1, g2, by omega⟩
    · by_cases h1 : i = n
      · by_cases h2 : j = n
        · exact fun _ => by omega
        · simp only [if_pos h1, if_neg h2]
          intro e2
          have := (f3 j (by omega)).2.2
          rw [← e2] at this
          omega
      · by_cases h2 : j = n
        · simp only [if_neg h1, if_pos h2]
          intro e2
          have := (f3 i (by omega)).2.2
          rw [e2] at this
          omega
        · simp only [if_neg h1, if_neg h2]
          exact f4 i j (by omega) (by omega)
    · by_cases h1 : z = q
      · exact ⟨n, by omega, by dsimp only; rw [if_pos rfl]; exact h1.symm⟩
      · dsimp only at h
        rw [if_neg h1, if_neg h1] at h
        obtain ⟨i, g1, g2⟩ := f5 z hz' (by omega)
        exact ⟨i, by omega, by simp only [if_neg (show ¬ i = n by omega)]; exact g2⟩
  · have e : zf (fun z => X z + if z = q then a else 0) (fun z => Y z + if z = q then b else 0) = zf X Y := by
      funext z
      show (if (X z + if z = q then a else 0) + (Y z + if z = q then b else 0) = 0 then (-1 : Int32) else 0) = (if X z + Y z = 0 then (-1 : Int32) else 0)
      by_cases h : z = q
      · rw [if_pos h, if_pos h, if_neg (by omega), h, if_neg hz]
      · rw [if_neg h, if_neg h, Nat.add_zero, Nat.add_zero]
    have go : ∃ τ : St, f_X4_add_48 k σ (nI q) (nI a) (nI b) = some τ ∧ (∀ r, ¬ (k ≤ r ∧ r ≤ k + 3) → τ.1 r = σ.1 r) ∧ τ.2 = σ.2 ∧ FrV τ k (fun z => X z + if z = q then a else 0) (fun z => Y z + if z = q then b else 0) := by
      rw [g48 σ rfl rfl]
      refine ⟨_, rfl, fun r hr => ?_, rfl, n, Pl, ?_, ?_, fun i hi => ?_, f4, fun z hz' h => ?_, val _ rfl rfl⟩
      · rw [up_ne (by omega), up_ne (by omega)]
      · rw [up_ne (by omega), up_ne (by omega)]; exact f1
      · rw [e]; exact f2
      · rw [up_ne (show ¬ k + 1 = k + 3 by omega), up_ne (show ¬ k + 1 = k + 2 by omega)]
        obtain ⟨g1, g2, g3⟩ := f3 i hi
        exact ⟨g1, g2, by dsimp only; omega⟩
      · by_cases h1 : z = q
        · exact f5 z hz' (by rw [h1]; omega)
        · dsimp only at h
          rw [if_neg h1, if_neg h1] at h
          exact f5 z hz' (by omega)
    by_cases h1 : X q = 0
    · rw [if_pos (sat_0.mpr h1), if_neg (fun g => hz (by have := sat_0.mp g; omega))]
      exact go
    · rw [if_neg (fun g => h1 (sat_0.mp g))]
      exact go
theorem ent_s {σ : St} {k q a b : Nat} {X Y : Nat → Nat} {K : Nat → Int32} (F : FrV σ k X Y) (hq : q < 4608) (ha : a ≤ 1000000) (hb : b ≤ 1000000) (hp : 0 < a + b) (hK : ∀ j, j < 576 → σ.1 2 j = K j) : ∃ τ : St, f_X7_enter σ k (nI q) (nI a) (nI b) = some τ ∧ (∀ r, ¬ (k ≤ r ∧ r ≤ k + 3) → τ.1 r = σ.1 r) ∧ τ.2 = σ.2 ∧ FrV τ k (fun z => X z + if z = q then (if K (q / 8) = 2 then 0 else a) else 0) (fun z => Y z + if z = q then (if K (q / 8) = 2 then a + b else b) else 0) := by
  unfold f_X7_enter
  have e : f_X9_cellOfPlace (nI q) = nI (q / 8) := pk_div (d := 8) (by omega) (by omega) (by omega)
  rw [e, aL_nI (by omega) (by decide), Option.bind_some, hK _ (by omega)]
  by_cases h : K (q / 8) = 2
  · obtain ⟨τ, t1, t2⟩ := add_s (a := 0) (b := a + b) F hq (by omega) (by omega) (by omega)
    simp only [if_pos h]
    refine ⟨τ, ?_, t2⟩
    rw [nI_add, show f_X4_add σ k (nI q) 0 (nI (a + b)) = some τ from t1, Option.bind_some]
  · obtain ⟨τ, t1, t2⟩ := add_s (a := a) (b := b) F hq (by omega) (by omega) hp
    simp only [if_neg h]
    exact ⟨τ, by rw [t1, Option.bind_some], t2⟩
