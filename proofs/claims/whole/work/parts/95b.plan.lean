/-! the best of the plans, in the order of their codes -/
def sqv (c a : Nat) : Int32 := f_X9_squareBetween (nI c) (nI a)
theorem sqv_n {c a : Nat} (hc : c < 576) (ha : a < 576) : ∃ q : Nat, q ≤ 1058 ∧ sqv c a = nI q := by
  obtain ⟨u, hu, eu⟩ := sq_nI (a := c % 24) (b := a % 24) (by omega) (by omega)
  obtain ⟨v, hv, ev⟩ := sq_nI (a := c / 24) (b := a / 24) (by omega) (by omega)
  refine ⟨u + v, by omega, ?_⟩
  unfold sqv f_X9_squareBetween
  rw [xOf_n hc, yOf_n hc, xOf_n ha, yOf_n ha, eu, ev, nI_add]
def vl (σ : St) (K : Nat → Int32) (d ld aim : Nat) : Nat → Nat → (Nat × Nat × Nat × Nat) → Nat → Int32
  | 0, _, S, _ => sqv S.1 aim
  | m + 1, t, S, code => if S.2.1 = 0 then (if code / 3 ^ m % 3 = 0 then vl σ K d ld aim m (t + 1) S code else -1) else (if K (tk σ d ld t (code / 3 ^ m % 3) S).1 = 2 then -1 else if (tk σ d ld t (code / 3 ^ m % 3) S).2.1 = 0 ∧ K (tk σ d ld t (code / 3 ^ m % 3) S).1 = 1 then -1 else vl σ K d ld aim m (t + 1) (tk σ d ld t (code / 3 ^ m % 3) S) code)
def tak (nr : Bool) (v : Int32) (c : Nat) (s : Int32 × Nat) : Int32 × Nat := if v = -1 then s else if s.1 = -1 then (v, c) else if nr = true then (if s.1 ≤ v then s else (v, c)) else (if v ≤ s.1 then s else (v, c))
def fdl (nr : Bool) (v : Nat → Int32) : Nat → Nat → Int32 × Nat → Int32 × Nat
  | _, 0, s => s
  | c, l + 1, s => fdl nr v (c + 1) l (tak nr (v c) c s)
theorem fdl_c (nr : Bool) (v : Nat → Int32) (c l : Nat) (s : Int32 × Nat) : fdl nr v c (l + 1) s = fdl nr v (c + 1) l (tak nr (v c) c s) := rfl
theorem fdl_add {nr : Bool} {v : Nat → Int32} {b : Nat} : ∀ a c s, fdl nr v c (a + b) s = fdl nr v (c + a) b (fdl nr v c a s) := by
  intro a
  induction a with
  | zero => intro c s; rw [Nat.zero_add]; rfl
  | succ a ih =>
    intro c s
    rw [show a + 1 + b = (a + b) + 1 by omega, fdl_c, fdl_c, ih, show c + 1 + a = c + (a + 1) by omega]
theorem fdl_eq {nr : Bool} {v v' : Nat → Int32} : ∀ l c s, (∀ j, c ≤ j → j < c + l → v j = v' j) → fdl nr v c l s = fdl nr v' c l s := by
  intro l
  induction l with
  | zero => intro c s _; rfl
  | succ l ih =>
    intro c s h
    rw [fdl_c, fdl_c, h c (by omega) (by omega), ih (c + 1) _ (fun j h1 h2 => h j (by omega) (by omega))]
theorem fdl_no {nr : Bool} {v : Nat → Int32} : ∀ l c s, (∀ j, c ≤ j → j < c + l → v j = -1) → fdl nr v c l s = s := by
  intro l
  induction l with
  | zero => intro c s _; rfl
  | succ l ih =>
    intro c s h
    rw [fdl_c, ih (c + 1) _ (fun j h1 h2 => h j (by omega) (by omega))]
    unfold tak
    rw [if_pos (h c (by omega) (by omega))]
theorem tak_b {nr : Bool} {v : Int32} {c N : Nat} {s : Int32 × Nat} (hs : s.2 < N) (hc : c < N) : (tak nr v c s).2 < N := by
  unfold tak
  split
  · exact hs
  · split
    · exact hc
    · split
      · split
        · exact hs
        · exact hc
      · split
        · exact hs
        · exact hc
theorem fdl_b {nr : Bool} {v : Nat → Int32} {N : Nat} : ∀ l c s, s.2 < N → c + l ≤ N → (fdl nr v c l s).2 < N := by
  intro l
  induction l with
  | zero => intro c s h _; exact h
  | succ l ih =>
    intro c s h1 h2
    rw [fdl_c]
    exact ih (c + 1) _ (tak_b h1 (by omega)) (by omega)
theorem dgt {P pc o j : Nat} (ho : o < 3) (hj : j < P) : ((3 * pc + o) * P + j) / P % 3 = o := by
  rw [Nat.mul_comm, Nat.mul_add_div (by omega), Nat.div_eq_of_lt hj]
  omega
theorem p3_pos (m : Nat) : 0 < 3 ^ m := Nat.pow_pos (by decide)
theorem p3_le {m : Nat} (h : m ≤ 6) : 3 ^ m ≤ 729 := Nat.pow_le_pow_right (n := 3) (by decide) h
/-- behind the landing only the orders 0 stand -/
theorem vl_d {σ : St} {K : Nat → Int32} {d ld aim : Nat} {S : Nat × Nat × Nat × Nat} (hS : S.2.1 = 0) : ∀ m t pc j, j < 3 ^ m → vl σ K d ld aim m t S (pc * 3 ^ m + j) = if j = 0 then sqv S.1 aim else -1 := by
  intro m
  induction m with
  | zero =>
    intro t pc j hj
    rw [if_pos (by rw [Nat.pow_zero] at hj; omega)]
    rfl
  | succ m ih =>
    intro t pc j hj
    have hP := p3_pos m
    rw [vl, if_pos hS]
    rw [Nat.pow_succ] at hj ⊢
    generalize hPe : 3 ^ m = P at *
    have e1 : (pc * (P * 3) + j) / P = 3 * pc + j / P := by
      rw [show pc * (P * 3) = P * (3 * pc) by rw [Nat.mul_comm P 3, ← Nat.mul_assoc, Nat.mul_comm pc 3, Nat.mul_comm]]
      exact Nat.mul_add_div hP (3 * pc) j
    rw [e1]
    by_cases hq : j < P
    · rw [Nat.div_eq_of_lt hq, if_pos (by omega)]
      have := ih (t + 1) (3 * pc) j hq
      rw [show 3 * pc * P + j = pc * (P * 3) + j by rw [Nat.mul_comm P 3, ← Nat.mul_assoc, Nat.mul_comm 3 pc]] at this
      exact this
    · have h1 : 0 < j / P := Nat.div_pos (by omega) hP
      have h3 : j / P < 3 := (Nat.div_lt_iff_lt_mul hP).mpr (by rw [Nat.mul_comm]; exact hj)
      rw [if_neg (by omega), if_neg (by omega)]
/-! the reference: one plan flown -/
theorem fly_l {σ0 : St} {w h f n d ld t0 aim code : Nat} {K : Nat → Int32} (hw : w ≤ 24) (hh : h ≤ 24) (e0 : σ0.1 1 0 = nI w) (e1 : σ0.1 1 1 = nI h) (m0 : σ0.1 72 0 = nI w) (m1 : σ0.1 72 1 = nI h) (iA : InvA (σ0.1 4) (σ0.1 5) (σ0.1 6) (σ0.1 74) (σ0.1 75) (σ0.1 76)) (iN : InvN (σ0.1 8) (σ0.1 9) (σ0.1 11) (σ0.1 12) (σ0.1 77) (σ0.1 78)) (hK : σ0.1 73 = K) (hf : f < 8) (hn : n ≤ 6) (hd : d ≤ 50) (hld : ld ≤ 200) (ht : t0 < 200) (haim : aim < 576) (hcode : code < 2 ^ 20) (h82 : σ0.1 82 f = nI t0) (h83 : σ0.1 83 f = nI ld) :
    ∀ (m fuel i : Nat) (τ : St) (S : Nat × Nat × Nat × Nat), m < fuel → i + m = n → SOk S → RfO τ S → τ.1 72 0 = nI w → τ.1 72 1 = nI h → (∀ r, 73 ≤ r ∧ r ≤ 95 → τ.1 r = σ0.1 r) → ∃ τ' : St, f_X10_flown_15 fuel τ (nI f) (nI n) (nI d) (nI code) (nI (aim % 24)) (nI (aim / 24)) (nI (3 ^ m)) (if S.2.1 = 0 then 1 else 0) (nI i) = some (vl σ0 K d ld aim m (t0 + i) S code, τ') ∧ (∀ a, ¬ a = 72 → τ'.1 a = τ.1 a) ∧ τ'.2 = τ.2 ∧ ∀ j, j < 29 ∨ 34 < j → τ'.1 72 j = τ.1 72 j := by
  intro m
  induction m with
  | zero =>
    intro fuel i τ S hfu hi hS hR n0 n1 hfr
    obtain ⟨fuel, rfl⟩ : ∃ k, fuel = k + 1 := ⟨fuel - 1, by omega⟩
    obtain ⟨r0, r1, -⟩ := hR
    have hc := hS.1
    rw [f_X10_flown_15, if_pos (by rw [show i = n by omega]; exact Int32.le_refl _)]
    unfold f_X10_flown_132
    refine ⟨τ, ?_, fun _ _ => rfl, rfl, fun _ _ => rfl⟩
    rw [r0, r1]
    show _ = some (sqv S.1 aim, τ)
    unfold sqv f_X9_squareBetween
    rw [xOf_n hc, yOf_n hc, xOf_n haim, yOf_n haim]
  | succ m ih =>
    intro fuel i τ S hfu hi hS hR n0 n1 hfr
    obtain ⟨fuel, rfl⟩ : ∃ k, fuel = k + 1 := ⟨fuel - 1, by omega⟩
    have hP := p3_pos m
    have hP6 := p3_le (m := m) (by omega)
    have e8 : nI (3 ^ (m + 1)) / 3 = nI (3 ^ m) := by
      have := pk_div (a := 3 ^ (m + 1)) (d := 3) (by rw [Nat.pow_succ]; omega) (by omega) (by omega)
      rw [Nat.pow_succ, Nat.mul_div_cancel _ (by decide)] at this
      rw [Nat.pow_succ]
      exact this
    have ed : nI code / nI (3 ^ m) - nI code / nI (3 ^ m) / 3 * 3 = nI (code / 3 ^ m % 3) := by
      rw [pk_div (by omega) hP (by omega)]
      exact pk_rem (d := 3) (by have := Nat.div_le_self code (3 ^ m); omega) (by omega) (by omega)
    have nzP : nz (nI (3 ^ m)) = some (nI (3 ^ m)) := by
      unfold nz
      rw [if_neg (nI_ne0 hP (by omega))]
    rw [f_X10_flown_15, if_neg (nI_ge (by omega) (by omega)), e8, nzP, Option.bind_some, ed, vl]
    have ho : code / 3 ^ m % 3 < 3 := Nat.mod_lt _ (by decide)
    generalize code / 3 ^ m % 3 = o at *
    by_cases hl : S.2.1 = 0
    · rw [if_pos hl, if_pos hl, if_neg (show ¬ (1 : Int32) = 0 by decide)]
      by_cases h0 : o = 0
      · rw [if_pos (show nI o = 0 by rw [h0]; rfl), if_pos h0, nI_1]
        have := ih fuel (i + 1) τ S (by omega) (by omega) hS hR n0 n1 hfr
        rw [if_pos hl] at this
        exact this
      · rw [if_neg (show ¬ nI o = 0 from nI_ne0 (by omega) (by omega)), if_neg h0]
        exact ⟨τ, rfl, fun _ _ => rfl, rfl, fun _ _ => rfl⟩
    · have er : nI t0 + nI i - (nI t0 + nI i) / 24 * 24 = nI ((t0 + i) % 24) := by
        rw [nI_add]
        exact pk_rem (d := 24) (by omega) (by omega) (by omega)
      obtain ⟨s, p1, p2, p3, p4, p5⟩ := tk_10 (τ := τ) (σ0 := σ0) (t := t0 + i) (ld := ld) (o := o) hw hh e0 e1 m0 m1 iA iN hfr n0 n1 (by omega) hd hS (by omega) hR
      obtain ⟨k1, -⟩ := tk_ok (d := d) (ld := ld) (t := t0 + i) (o := o) hw hh e0 e1 m0 m1 iA iN hS
      rw [if_neg hl, if_neg hl, if_pos rfl, aL_nI hf (by decide), Option.bind_some, aL_nI hf (by decide), Option.bind_some, hfr 82 (by omega), hfr 83 (by omega), h82, h83, er, p1, Option.bind_some]
      generalize tk σ0 d ld (t0 + i) o S = S' at *
      have p5' := p5
      obtain ⟨q0, q1, q2, -⟩ := p5
      have hc := k1.1
      have hs72 : s.1 73 = K := by rw [p2 73 (by decide), hfr 73 (by omega), hK]
      have J : ∃ τ' : St, f_X10_flown_15 fuel s (nI f) (nI n) (nI d) (nI code) (nI (aim % 24)) (nI (aim / 24)) (nI (3 ^ m)) (if S'.2.1 = 0 then 1 else 0) (nI (i + 1)) = some (vl σ0 K d ld aim m (t0 + i + 1) S' code, τ') ∧ (∀ a, ¬ a = 72 → τ'.1 a = τ.1 a) ∧ τ'.2 = τ.2 ∧ ∀ j, j < 29 ∨ 34 < j → τ'.1 72 j = τ.1 72 j := by
        obtain ⟨τ', j1, j2, j3, j4⟩ := ih fuel (i + 1) s S' (by omega) (by omega) k1 p5' (by rw [p4 0 (by omega)]; exact n0) (by rw [p4 1 (by omega)]; exact n1) (fun r hr => by rw [p2 r (by omega), hfr r hr])
        exact ⟨τ', j1, fun a ha => by rw [j2 a ha, p2 a ha], by rw [j3, p3], fun j hj => by rw [j4 j hj, p4 j hj]⟩
      unfold f_X10_flown_86
      rw [q0, q1, q2, ix24, show 24 * (S'.1 / 24) + S'.1 % 24 = S'.1 by omega, aL_nI hc (by decide), Option.bind_some, Option.bind_some, hs72, nI_1]
      have stop : ∃ τ' : St, (some (-1, s) : Option (Int32 × St)) = some (-1, τ') ∧ (∀ a, ¬ a = 72 → τ'.1 a = τ.1 a) ∧ τ'.2 = τ.2 ∧ ∀ j, j < 29 ∨ 34 < j → τ'.1 72 j = τ.1 72 j := ⟨s, rfl, p2, p3, p4⟩
      by_cases h2 : K S'.1 = 2
      · rw [if_pos h2, if_pos h2, if_pos h2, ite_self]
        exact stop
      · rw [if_neg h2, if_neg h2, if_neg h2]
        by_cases hl' : S'.2.1 = 0
        · rw [if_pos hl'] at J
          rw [if_pos (show nI S'.2.1 = 0 by rw [hl']; rfl), if_neg (show ¬ (1 : Int32) = 0 by decide)]
          by_cases h1 : K S'.1 = 1
          · rw [if_pos h1, if_pos ⟨hl', h1⟩]
            exact stop
          · rw [if_neg h1, if_neg (fun g => h1 g.2)]
            exact J
        · rw [if_neg hl'] at J
          rw [if_neg (show ¬ nI S'.2.1 = 0 from nI_ne0 (by omega) (by have := k1.2.1; omega)), if_pos rfl, if_neg (fun g => hl' g.1)]
          exact J
