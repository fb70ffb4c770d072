/-! steps by land: both searches are tied to the walks -/
theorem nI_m1 {n : Nat} (h : n < 2 ^ 31) : ¬ nI n = -1 := by
  intro e
  have h1 := nI_toInt h
  rw [e] at h1
  have h2 : (-1 : Int32).toInt = -1 := by decide
  omega
def AJ (w h : Nat) (K : Nat → Int32) (c n : Nat) : Prop := c % 24 < w ∧ n % 24 < w ∧ c / 24 < h ∧ n / 24 < h ∧ ¬ K c = 1 ∧ ¬ K n = 1 ∧ ((c / 24 = n / 24 ∧ (n = c + 1 ∨ c = n + 1)) ∨ n = c + 24 ∨ c = n + 24)
theorem AJ_sym {w h : Nat} {K : Nat → Int32} {c n : Nat} (A : AJ w h K c n) : AJ w h K n c := by
  obtain ⟨a1, a2, a3, a4, a5, a6, a7⟩ := A
  exact ⟨a2, a1, a4, a3, a6, a5, by omega⟩
def Wk (w h : Nat) (K : Nat → Int32) (a : Nat) : Nat → Nat → Prop
  | 0, b => a = b
  | d + 1, b => ∃ c, Wk w h K a d c ∧ AJ w h K c b
theorem Wk_cons {w h : Nat} {K : Nat → Int32} {a c : Nat} (A : AJ w h K a c) : ∀ d b, Wk w h K c d b → Wk w h K a (d + 1) b := by
  intro d
  induction d with
  | zero =>
    intro b hb
    have hb : c = b := hb
    exact ⟨a, rfl, hb ▸ A⟩
  | succ d ih =>
    intro b ⟨e, he, A'⟩
    exact ⟨e, ih e he, A'⟩
theorem Wk_sym {w h : Nat} {K : Nat → Int32} {a : Nat} : ∀ d b, Wk w h K a d b → Wk w h K b d a := by
  intro d
  induction d with
  | zero => intro b hb; exact Eq.symm hb
  | succ d ih =>
    intro b ⟨c, h1, A⟩
    exact Wk_cons (AJ_sym A) d a (ih c h1)
/-- a finished search -/
def LabF (w h : Nat) (K : Nat → Int32) (src : Nat) (S : Nat → Int32) : Prop := S src = nI 0 ∧ (∀ c, c < 576 → S c = -1 ∨ ∃ d, d < 2 ^ 20 ∧ S c = nI d ∧ c % 24 < w ∧ c / 24 < h ∧ ¬ K c = 1 ∧ Wk w h K src d c) ∧ ∀ c n d, c < 576 → d < 2 ^ 20 → S c = nI d → AJ w h K c n → ∃ d', d' ≤ d + 1 ∧ S n = nI d'
theorem Lab_le {w h : Nat} {K : Nat → Int32} {src : Nat} {S : Nat → Int32} (hs : src < 576) (hh : h ≤ 24) (L : LabF w h K src S) : ∀ d c, d < 2 ^ 20 → Wk w h K src d c → c < 576 ∧ ∃ d', d' ≤ d ∧ S c = nI d' := by
  intro d
  induction d with
  | zero =>
    intro c _ hc
    have hc : src = c := hc
    subst hc
    exact ⟨hs, 0, by omega, L.1⟩
  | succ d ih =>
    intro c hd ⟨e, he, A⟩
    obtain ⟨g1, d', g2, g3⟩ := ih e (by omega) he
    obtain ⟨d2, g4, g5⟩ := L.2.2 e c d' g1 (by omega) g3 A
    have := A.2.2.2.1
    exact ⟨by omega, d2, by omega, g5⟩
theorem Lab_two {w h : Nat} {K : Nat → Int32} {a b : Nat} {S R : Nat → Int32} (hh : h ≤ 24) (ha : a < 576) (hb : b < 576) (LS : LabF w h K a S) (LR : LabF w h K b R) : S b = R a := by
  rcases LS.2.1 b hb with g1 | ⟨d, g1, g2, -, -, -, g3⟩
  · rcases LR.2.1 a ha with k1 | ⟨d, k1, k2, -, -, -, k3⟩
    · rw [g1, k1]
    · obtain ⟨-, d', q1, q2⟩ := Lab_le ha hh LS d b k1 (Wk_sym d a k3)
      exact absurd (q2.symm.trans g1) (nI_m1 (by omega))
  · obtain ⟨-, d', q1, q2⟩ := Lab_le hb hh LR d a g1 (Wk_sym d b g3)
    rcases LR.2.1 a ha with k1 | ⟨d2, k1, k2, -, -, -, k3⟩
    · exact absurd (q2.symm.trans k1) (nI_m1 (by omega))
    · obtain ⟨-, d3, q3, q4⟩ := Lab_le ha hh LS d2 b k1 (Wk_sym d2 a k3)
      have e1 := (nI_eq (by omega) (by omega)).mp (g2.symm.trans q4)
      have e2 := (nI_eq (by omega) (by omega)).mp (k2.symm.trans q2)
      rw [g2, k2]
      congr 1
      omega
/-- how many cells are unreached -/
def unr (S : Nat → Int32) : Nat → Nat
  | 0 => 0
  | n + 1 => unr S n + (if S n = -1 then 1 else 0)
theorem unr_o {S : Nat → Int32} {j : Nat} {v : Int32} : ∀ n, n ≤ j → unr (upd S j v) n = unr S n := by
  intro n
  induction n with
  | zero => intro _; rfl
  | succ n ih =>
    intro hn
    unfold unr
    rw [ih (by omega), upd_e, if_neg (show ¬ n = j by omega)]
theorem unr_u {S : Nat → Int32} {j : Nat} {v : Int32} (hS : S j = -1) (hv : ¬ v = -1) : ∀ n, j < n → unr (upd S j v) n + 1 = unr S n := by
  intro n
  induction n with
  | zero => intro h; omega
  | succ n ih =>
    intro hn
    unfold unr
    by_cases hj : j = n
    · subst hj
      rw [unr_o j (by omega), upd_e, if_pos rfl, if_neg hv, if_pos hS]
    · rw [upd_e, if_neg (show ¬ n = j by omega)]
      have := ih (by omega)
      omega
theorem unr_le (S : Nat → Int32) : ∀ n, unr S n ≤ n := by
  intro n
  induction n with
  | zero => exact Nat.le_refl 0
  | succ n ih =>
    unfold unr
    by_cases h : S n = -1
    · rw [if_pos h]; omega
    · rw [if_neg h]; omega
theorem unr_all {S : Nat → Int32} : ∀ n, (∀ j, j < n → S j = -1) → unr S n = n := by
  intro n
  induction n with
  | zero => intro _; rfl
  | succ n ih =>
    intro h
    unfold unr
    rw [ih (fun j hj => h j (by omega)), if_pos (h n (by omega))]
/-- where a side leads: beyond the land, the cell itself -/
def tgt (w h s c : Nat) : Nat := if s = 0 then (if c % 24 + 1 < w then c + 1 else c) else if s = 1 then (if 1 ≤ c % 24 then c - 1 else c) else if s = 2 then (if c / 24 + 1 < h then c + 24 else c) else (if 24 ≤ c then c - 24 else c)
theorem tgt_in {w h s c : Nat} (hw : w ≤ 24) (h1 : c % 24 < w) (h2 : c / 24 < h) : tgt w h s c % 24 < w ∧ tgt w h s c / 24 < h ∧ (tgt w h s c = c ∨ ((c / 24 = tgt w h s c / 24 ∧ (tgt w h s c = c + 1 ∨ c = tgt w h s c + 1)) ∨ tgt w h s c = c + 24 ∨ c = tgt w h s c + 24)) := by
  unfold tgt
  split
  · split <;> omega
  · split
    · split <;> omega
    · split
      · split <;> omega
      · split <;> omega
theorem tgt_of {w h c n : Nat} {K : Nat → Int32} (A : AJ w h K c n) : ∃ s, s < 4 ∧ tgt w h s c = n := by
  obtain ⟨a1, a2, a3, a4, -, -, a7⟩ := A
  rcases a7 with ⟨g, k | k⟩ | k | k
  · exact ⟨0, by omega, by unfold tgt; rw [if_pos rfl, if_pos (by omega), k]⟩
  · exact ⟨1, by omega, by unfold tgt; rw [if_neg (by omega), if_pos rfl, if_pos (by omega)]; omega⟩
  · exact ⟨2, by omega, by unfold tgt; rw [if_neg (by omega), if_neg (by omega), if_pos rfl, if_pos (by omega)]; omega⟩
  · exact ⟨3, by omega, by unfold tgt; rw [if_neg (by omega), if_neg (by omega), if_neg (by omega), if_pos (by omega)]; omega⟩
/-- a cell is reached, if dry and unreached -/
def stp (K S : Nat → Int32) (n : Nat) (v : Int32) : Nat → Int32 := if K n = 1 then S else if S n = -1 then upd S n v else S
def Lb (w h : Nat) (K : Nat → Int32) (src : Nat) (S : Nat → Int32) (k : Nat) : Prop := S src = nI 0 ∧ ∀ c, c < 576 → S c = -1 ∨ ∃ d, d ≤ k ∧ S c = nI d ∧ c % 24 < w ∧ c / 24 < h ∧ ¬ K c = 1 ∧ Wk w h K src d c
def Cl (w h : Nat) (K S : Nat → Int32) (c d : Nat) : Prop := ∀ n, AJ w h K c n → ∃ d', d' ≤ d + 1 ∧ S n = nI d'
theorem Cl_mono {w h : Nat} {K S S' : Nat → Int32} {c d : Nat} (hd : d < 2 ^ 20) (hS : ∀ m, ¬ S m = -1 → S' m = S m) (C : Cl w h K S c d) : Cl w h K S' c d := by
  intro n A
  obtain ⟨d', h1, h2⟩ := C n A
  exact ⟨d', h1, by rw [hS n (by rw [h2]; exact nI_m1 (by omega))]; exact h2⟩
theorem Lb_mono {w h : Nat} {K : Nat → Int32} {src : Nat} {S : Nat → Int32} {k k' : Nat} (hk : k ≤ k') (L : Lb w h K src S k) : Lb w h K src S k' := by
  refine ⟨L.1, fun c hc => ?_⟩
  rcases L.2 c hc with g | ⟨d, g1, g2⟩
  · exact Or.inl g
  · exact Or.inr ⟨d, by omega, g2⟩
theorem stp_s {w h : Nat} {K : Nat → Int32} {src : Nat} {S : Nat → Int32} {k c s : Nat} (hw : w ≤ 24) (hh : h ≤ 24) (hk : k < 2 ^ 20) (hc : c < 576) (L : Lb w h K src S (k + 1)) (hS : S c = nI k) :
    tgt w h s c < 576 ∧ c % 24 < w ∧ c / 24 < h ∧ ((K (tgt w h s c) = 1 ∨ ¬ S (tgt w h s c) = -1) ∧ stp K S (tgt w h s c) (nI (k + 1)) = S ∨ (¬ K (tgt w h s c) = 1 ∧ S (tgt w h s c) = -1 ∧ stp K S (tgt w h s c) (nI (k + 1)) = upd S (tgt w h s c) (nI (k + 1)))) ∧ Lb w h K src (stp K S (tgt w h s c) (nI (k + 1))) (k + 1) ∧ (∀ m, ¬ S m = -1 → stp K S (tgt w h s c) (nI (k + 1)) m = S m) ∧ (¬ K (tgt w h s c) = 1 → ∃ d, d ≤ k + 1 ∧ stp K S (tgt w h s c) (nI (k + 1)) (tgt w h s c) = nI d) := by
  rcases L.2 c hc with g | ⟨d, g1, g2, g3, g4, g5, g6⟩
  · exact absurd (hS.symm.trans g) (nI_m1 (by omega))
  obtain rfl : k = d := (nI_eq (by omega) (by omega)).mp (hS.symm.trans g2)
  obtain ⟨t1, t2, t3⟩ := tgt_in (s := s) hw g3 g4
  generalize tgt w h s c = t at t1 t2 t3 ⊢
  have ht : t < 576 := by omega
  refine ⟨ht, g3, g4, ?_⟩
  unfold stp
  by_cases h1 : K t = 1
  · simp only [if_pos h1]
    exact ⟨Or.inl ⟨Or.inl h1, by trivial⟩, L, fun _ _ => by trivial, fun q => absurd h1 q⟩
  simp only [if_neg h1]
  by_cases h2 : S t = -1
  · simp only [if_pos h2]
    have htc : ¬ t = c := fun q => nI_m1 (n := k) (by omega) (by rw [← hS, ← q]; exact h2)
    refine ⟨Or.inr ⟨h1, h2, by trivial⟩, ⟨?_, fun m hm => ?_⟩, fun m hm => ?_, fun _ => ⟨k + 1, by omega, by rw [upd_e, if_pos rfl]⟩⟩
    · rw [upd_e, if_neg (fun q => nI_m1 (n := 0) (by omega) (by rw [← L.1, q]; exact h2))]
      exact L.1
    · rw [upd_e]
      by_cases hmt : m = t
      · subst hmt
        rw [if_pos rfl]
        exact Or.inr ⟨k + 1, by omega, rfl, t1, t2, h1, c, g6, g3, t1, g4, t2, g5, h1, t3.resolve_left htc⟩
      · rw [if_neg hmt]
        exact L.2 m hm
    · rw [upd_e, if_neg (fun q => hm (by rw [q]; exact h2))]
  · simp only [if_neg h2]
    refine ⟨Or.inl ⟨Or.inr h2, by trivial⟩, L, fun _ _ => by trivial, fun _ => ?_⟩
    rcases L.2 t ht with q | ⟨d, q1, q2, -⟩
    · exact absurd q h2
    · exact ⟨d, q1, q2⟩
