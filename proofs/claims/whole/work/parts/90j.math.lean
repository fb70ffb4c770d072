/-- how many of n places from i on hold 0 -/
def zs (g : Nat → Int32) (i : Nat) : Nat → Nat
  | 0 => 0
  | n + 1 => zs g i n + (if g (i + n) = 0 then 1 else 0)
theorem zs_c (g : Nat → Int32) (i n : Nat) : zs g i (n + 1) = (if g i = 0 then 1 else 0) + zs g (i + 1) n := by
  induction n with
  | zero => simp [zs]
  | succ n ih =>
    show zs g i (n + 1) + (if g (i + (n + 1)) = 0 then 1 else 0) = (if g i = 0 then 1 else 0) + (zs g (i + 1) n + (if g (i + 1 + n) = 0 then 1 else 0))
    rw [ih, show i + (n + 1) = i + 1 + n by omega]
    omega
theorem zs_eq {g g' : Nat → Int32} {i n : Nat} (h : ∀ j, i ≤ j → j < i + n → g' j = g j) : zs g' i n = zs g i n := by
  induction n with
  | zero => rfl
  | succ n ih =>
    show zs g' i n + (if g' (i + n) = 0 then 1 else 0) = zs g i n + (if g (i + n) = 0 then 1 else 0)
    rw [ih (fun j h1 h2 => h j h1 (by omega)), h (i + n) (by omega) (by omega)]
theorem cntL_eq {g g' : Nat → Int32} {e : Nat} (h : ∀ j, j < e → g' j = g j) : cntL g' e = cntL g e := by
  induction e with
  | zero => rfl
  | succ e ih =>
    show cntL g' e + (if g' e = 0 then 0 else 1) = cntL g e + (if g e = 0 then 0 else 1)
    rw [ih (fun j hj => h j (by omega)), h e (by omega)]
theorem cntL_wr (g : Nat → Int32) (a m : Nat) : ∀ e, cntL (fun i => if a ≤ i ∧ i < m then 1 else g i) e = cntL g e + zs g a (min m e - a) := by
  intro e
  induction e with
  | zero =>
    rw [show min m 0 - a = 0 by omega]
    rfl
  | succ e ih =>
    show cntL (fun i => if a ≤ i ∧ i < m then 1 else g i) e + (if (if a ≤ e ∧ e < m then (1 : Int32) else g e) = 0 then 0 else 1) = cntL g e + (if g e = 0 then 0 else 1) + zs g a (min m (e + 1) - a)
    rw [ih]
    by_cases h : a ≤ e ∧ e < m
    · rw [if_pos h, if_neg (by decide), show min m (e + 1) - a = (min m e - a) + 1 by omega]
      show _ = _ + (zs g a (min m e - a) + (if g (a + (min m e - a)) = 0 then 1 else 0))
      rw [show a + (min m e - a) = e by omega]
      by_cases h2 : g e = 0
      · rw [if_pos h2, if_pos h2]
        omega
      · rw [if_neg h2, if_neg h2]
        omega
    · rw [if_neg h, show min m (e + 1) - a = min m e - a by omega]
      omega
theorem wr_k {g : Nat → Int32} {a b : Nat} {v : Int32} (h : g a = v) : wr g (a + 1) b v = wr g a b v := by
  funext j
  rw [wr_e, wr_e]
  by_cases h1 : j = a
  · subst h1
    rw [if_neg (by omega), h]
    by_cases h2 : j ≤ j ∧ j < b
    · rw [if_pos h2]
    · rw [if_neg h2]
  · by_cases h2 : a ≤ j ∧ j < b
    · rw [if_pos h2, if_pos (by omega)]
    · rw [if_neg h2, if_neg (by omega)]
theorem wr_no {g : Nat → Int32} {a b : Nat} {v : Int32} (h : b ≤ a) : wr g a b v = g := by
  funext j
  rw [wr_e, if_neg (by omega)]
theorem vn0 : vp_nar .boolean 0 = 0 := by decide
theorem vn1 : vp_nar .boolean 1 = 1 := by decide
theorem add1z (c : Int32) (z : Nat) : c + 1 + nI z = c + nI (1 + z) := by
  rw [Nat.add_comm 1 z, nI_succ, Int32.add_assoc, Int32.add_comm 1 (nI z)]
theorem fg_l (k m : Nat) (hm1 : 1 ≤ m) (hm : m ≤ 60) : ∀ (n i : Nat) (σ : St) (c : Int32), i < 2 ^ 31 → m - i < n → (∀ j, i ≤ j → j < m → bl (σ.1 (k + 3) j)) → f_X3_forget_17 k n σ c (nI (m - 1)) (nI i) = f_X3_forget_51 k (sr σ (k + 3) (wr (σ.1 (k + 3)) i m 1)) (c + nI (zs (σ.1 (k + 3)) i (m - i))) := by
  intro n
  induction n with
  | zero => intro i σ c h1 h2; omega
  | succ n ih =>
    intro i σ c h1 h2 hbl
    unfold f_X3_forget_17
    by_cases h : m ≤ i
    · rw [if_pos (nI_lt (by omega) (by omega)), wr_no h, sr_id σ _ _ rfl, show m - i = 0 by omega]
      show _ = f_X3_forget_51 k σ (c + nI 0)
      rw [nI_0, Int32.add_zero]
    · rw [if_neg (nI_nlt (by omega) (by omega)), aL_nI (by omega) (by decide), Option.bind_some, nI_1]
      obtain ⟨d, hd⟩ : ∃ d, m - i = d + 1 := ⟨m - i - 1, by omega⟩
      rw [hd, zs_c]
      by_cases hq : σ.1 (k + 3) i = 0
      · rw [if_pos hq, aS_nI (by omega) (by decide), Option.bind_some, vn1, if_pos hq, ih (i + 1) _ _ (by omega) (by omega) (fun j g1 g2 => by rw [up_at, upd_e, if_neg (by omega)]; exact hbl j (by omega) g2), up_at, up_sr, sr_sr, wr_s _ _ (by omega), show m - (i + 1) = d by omega, zs_eq (g := σ.1 (k + 3)) (fun j g1 g2 => by rw [upd_e, if_neg (by omega)]), add1z]
      · rw [if_neg hq, if_neg hq, ih (i + 1) _ _ (by omega) (by omega) (fun j g1 g2 => hbl j (by omega) g2), wr_k (by rcases hbl i (by omega) (by omega) with g | g; exact absurd g hq; exact g), show m - (i + 1) = d by omega, Nat.zero_add]
theorem ls_l (f e t m : Nat) (hf : f < 8) (he1 : 1 ≤ e) (he : e ≤ 60) (ht : t < 2 ^ 31) (hm : m = min t (e - 1) + 1) : ∀ (n i : Nat) (σ : St) (c : Int32), i < 2 ^ 31 → m - i < n → σ.1 89 f = nI e → f_X10_lose_27 n σ (nI f) (nI t) c (nI i) = some (c + nI (zs (fun j => σ.1 92 (61 * f + j)) i (m - i)), sr σ 92 (wr (σ.1 92) (61 * f + i) (61 * f + m) 1)) := by
  intro n
  induction n with
  | zero => intro i σ c h1 h2; omega
  | succ n ih =>
    intro i σ c h1 h2 m9
    unfold f_X10_lose_27
    by_cases h : m ≤ i
    · have hres : some (c, σ) = some (c + nI (zs (fun j => σ.1 92 (61 * f + j)) i (m - i)), sr σ 92 (wr (σ.1 92) (61 * f + i) (61 * f + m) 1)) := by
        rw [wr_no (by omega), sr_id σ _ _ rfl, show m - i = 0 by omega]
        show _ = some (c + nI 0, σ)
        rw [nI_0, Int32.add_zero]
      by_cases h3 : t < i
      · rw [if_pos (nI_lt h3 (by omega))]
        exact hres
      · rw [if_neg (nI_nlt (by omega) (by omega)), aL_nI hf (by decide), Option.bind_some, m9, if_pos (nI_le (by omega) (by omega))]
        exact hres
    · rw [if_neg (nI_nlt (by omega) (by omega)), aL_nI hf (by decide), Option.bind_some, m9, if_neg (nI_ge (by omega) (by omega)), ix61, aL_nI (by omega) (by decide), Option.bind_some]
      obtain ⟨d, hd⟩ : ∃ d, m - i = d + 1 := ⟨m - i - 1, by omega⟩
      have key : ∀ c' : Int32, f_X10_lose_27 n (up σ 92 (61 * f + i) 1) (nI f) (nI t) c' (nI (i + 1)) = some (c' + nI (zs (fun j => σ.1 92 (61 * f + j)) (i + 1) d), sr σ 92 (wr (σ.1 92) (61 * f + i) (61 * f + m) 1)) := by
        intro c'
        rw [ih (i + 1) _ c' (by omega) (by omega) (by rw [up_ne (by omega)]; exact m9), up_at, up_sr, sr_sr, show 61 * f + (i + 1) = 61 * f + i + 1 by omega, wr_s _ _ (by omega), show m - (i + 1) = d by omega, zs_eq (g := fun j => σ.1 92 (61 * f + j)) (fun j g1 g2 => by rw [upd_e, if_neg (by omega)])]
      rw [hd, zs_c]
      unfold f_X10_lose_66
      by_cases hq : σ.1 92 (61 * f + i) = 0
      · rw [if_pos hq, ix61, aS_nI (by omega) (by decide), Option.bind_some, vn1, nI_1]
        refine (key _).trans ?_
        rw [if_pos hq, add1z]
      · rw [if_neg hq, ix61, aS_nI (by omega) (by decide), Option.bind_some, vn1, nI_1]
        refine (key _).trans ?_
        rw [if_neg hq, Nat.zero_add, Int32.add_zero]
