/-! worlds with a tail that isn't looked at -/
theorem va_D_iff {A : Nat → Prop} {ws : va_W} : va_D A ws ↔ (ws.map (fun q => q.1)).Nodup ∧ ∀ q ∈ ws, A q.1 := by
  constructor
  · intro h
    refine ⟨?_, fun q hq => ?_⟩
    · unfold List.Nodup
      rw [List.pairwise_iff_getElem]
      intro i j hi hj hij he
      rw [List.length_map] at hi hj
      rw [List.getElem_map, List.getElem_map] at he
      have := h.1 i j ws[i] ws[j] (List.getElem?_eq_getElem hi) (List.getElem?_eq_getElem hj) he
      omega
    · obtain ⟨k, hk⟩ := List.getElem?_of_mem hq
      exact h.2 k q hk
  · intro h
    refine ⟨fun i j x y hx hy he => ?_, fun k q hk => h.2 q (List.mem_of_getElem? hk)⟩
    have h1 := h.1
    unfold List.Nodup at h1
    rw [List.pairwise_iff_getElem] at h1
    obtain ⟨hi, rfl⟩ := List.getElem?_eq_some_iff.mp hx
    obtain ⟨hj, rfl⟩ := List.getElem?_eq_some_iff.mp hy
    rcases Nat.lt_trichotomy i j with h2 | h2 | h2
    · exact absurd (by rw [List.getElem_map, List.getElem_map]; exact he) (h1 i j (by rw [List.length_map]; exact hi) (by rw [List.length_map]; exact hj) h2)
    · exact h2
    · exact absurd (by rw [List.getElem_map, List.getElem_map]; exact he.symm) (h1 j i (by rw [List.length_map]; exact hj) (by rw [List.length_map]; exact hi) h2)
theorem va_D.perm {A : Nat → Prop} {w1 w2 : va_W} (h : va_D A w1) (hp : w1.Perm w2) : va_D A w2 := by
  rw [va_D_iff] at h ⊢
  exact ⟨(hp.map (fun q => q.1)).nodup_iff.mp h.1, fun q hq => h.2 q (hp.mem_iff.mpr hq)⟩
theorem va_P.perm {D : va_G} {cl : List vw_C} {H : Heap} {w1 w2 : va_W} (h : va_P D cl w1 H) (hp : w1.Perm w2) : va_P D cl w2 H := by
  intro k q hk
  obtain ⟨i, hi⟩ := List.getElem?_of_mem (hp.mem_iff.mpr (List.mem_of_getElem? hk))
  exact h i q hi
theorem va_mv {E T w : va_W} : ((E ++ T) ++ w).Perm (E ++ (w ++ T)) := by
  rw [List.append_assoc]
  exact List.Perm.append_left E List.perm_append_comm
theorem va_nw {E T : va_W} {x : Nat × va_E} : ((E ++ T) ++ [x]).Perm ((x :: E) ++ T) := List.perm_append_singleton x (E ++ T)
theorem join1 {A : Nat → Prop} {D : va_G} {cl : List vw_C} {x : Nat × va_E} {wr w1 : va_W} {H H1 : Heap} (hP : va_P D cl (x :: wr) H) (hD : va_D A (x :: wr)) (hk : ∀ q : Nat, q < H.size → ¬ va_A [x] H.size q → H1[q]? = H[q]?) (hF : ∀ q, va_A [x] H.size q → A q) (hP1 : va_P D cl w1 H1) (hD1 : va_D (va_A [x] H.size) w1) : va_P D cl (wr ++ w1) H1 ∧ va_D A (wr ++ w1) := by
  have apart : ∀ (k : Nat) (q : Nat × va_E), wr[k]? = some q → q.1 < H.size ∧ ¬ va_A [x] H.size q.1 := by
    intro k q hq
    have h2 : (x :: wr)[k + 1]? = some q := hq
    have hl := (hP (k + 1) q h2).lt
    refine ⟨hl, fun h => ?_⟩
    rcases h with ⟨k2, e, h⟩ | h
    · have hz : k2 < 1 := (List.getElem?_eq_some_iff.mp h).1
      rw [show k2 = 0 by omega] at h
      have h3 : (x :: wr)[0]? = some (q.1, e) := h
      have := hD.1 (k + 1) 0 q (q.1, e) h2 h3 rfl
      omega
    · omega
  have hDr : va_D A wr := ⟨fun i j a b ha hb hab => by
    have := hD.1 (i + 1) (j + 1) a b ha hb hab
    omega, fun k q hq => hD.2 (k + 1) q hq⟩
  refine ⟨va_P.app (fun k q hq => ?_) hP1, va_D.app hDr (hD1.weaken (fun k q _ h => hF q.1 h)) (fun i j a b ha hb hab => ?_)⟩
  · obtain ⟨g1, g2⟩ := apart k q hq
    exact (hP (k + 1) q hq).kept (hk q.1 g1 g2)
  · exact (apart i a ha).2 (by rw [hab]; exact hD1.2 j b hb)
section RO
variable {p : Program} {l : Launch} {e : Env} {R : Room} {s : State} {m : MethodId} {args : Array Value} {below : List Frame} {meth : Method} {c : Code} {H : Heap} {locs : List Loc} {cells slots : Nat} {Q : State → Prop}
variable {cc : ByteArray} {nL pc : Nat} {ls : Array Slot} {rest st0 : List Value} {Ts : List Cond} {own : String} {D : va_G} {cy : Nat → ClassId} {A : Nat → Prop} {E T : va_W} {x : Nat × va_E} {w1 : (Nat → Nat) → va_W} {mc ms : Nat}
variable {d n index maxL : Nat} {y : MethodName} {wsy : List Cond} {bytes : ByteArray} {As : List Value} {b : Addr} {host : String} {a : Array Value}
theorem Cn.pre1 {U : State} {av : List Value} (hC : Cn D cy s) (hP : va_P D vwCl ((x :: E) ++ T) H) (hU : U.heap = H) (hW : s.WarmedH U.vm) : va_Pc av (Pn D cy H.size [x]) av.toArray U := by
  refine ⟨rfl, by rw [hU], ?_, hC.go hW, ?_⟩
  · rw [hU]
    intro k q hk
    have hz : k < 1 := (List.getElem?_eq_some_iff.mp hk).1
    rw [show k = 0 by omega] at hk
    exact hP 0 q hk
  · refine ⟨fun i j p q hp hq _ => ?_, fun _ _ _ => trivial⟩
    have h1 : i < 1 := (List.getElem?_eq_some_iff.mp hp).1
    have h2 : j < 1 := (List.getElem?_eq_some_iff.mp hq).1
    omega
theorem r_orunI (S : CallFix p m c cc nL s args Ts own) (hC : Cn D cy s) (hM : Kn l y wsy d mc ms D cy H.size [x] w1 (.ref b :: As)) (cw : CallB R s args own index y bytes maxL none wsy (rmn d mc ms) mc ms n ∧ y.name = "<init>" ∧ (Cond.instanceMethod y).before args s = true) (hP : va_P D vwCl ((x :: E) ++ T) H) (hn : As.length = n) (hsz : ls.size = nL) (hst : st0 = As.reverse ++ .ref b :: rest) (hrm : (rest.map fun v => v.category).sum ≤ 8) (hf : cells + mc ≤ R.cells ∧ slots + ms ≤ R.slots) (hdg : decode cc pc = .ok (.invokespecial index, 3)) :
    va_Run p l e R s m args below meth c H locs cells slots mc ms (F0 m pc ls st0) rest (va_Qv (fun _ : Nat → Nat => True) (Bn D (va_A [x] H.size) w1) (va_A [x] H.size) (Value.ref b :: As).toArray) (va_A [x] H.size) :=
  va_runI S hM cw ⟨Pn_blind D cy _ _ _, fun U hU hW => hC.pre1 hP hU hW⟩ rfl hn hsz hst (lv_room hrm) hdg hf
theorem r_orunN (S : CallFix p m c cc nL s args Ts own) (hC : Cn D cy s) (hM : Kn l y wsy d mc ms D cy H.size [x] w1 (.ref b :: As)) (cw : va_CN R s args own index y host bytes maxL none wsy (rmn d mc ms) mc ms n) (hyn : y.name = "<init>") (hin : (Cond.instanceMethod y).before args s = true) (hP : va_P D vwCl ((x :: E) ++ T) H) (hn : As.length = n) (hsz : ls.size = nL) (hst : st0 = As.reverse ++ .ref b :: rest) (hrm : (rest.map fun v => v.category).sum ≤ 8) (hf : cells + mc ≤ R.cells ∧ slots + ms ≤ R.slots) (hdg : decode cc pc = .ok (.invokespecial index, 3)) :
    va_Run p l e R s m args below meth c H locs cells slots mc ms (F0 m pc ls st0) rest (va_Qv (fun _ : Nat → Nat => True) (Bn D (va_A [x] H.size) w1) (va_A [x] H.size) (Value.ref b :: As).toArray) (va_A [x] H.size) :=
  va_runIN S hM ⟨cw, hyn, hin⟩ ⟨Pn_blind D cy _ _ _, fun U hU hW => hC.pre1 hP hU hW⟩ rfl hn hsz hst (lv_room hrm) hdg hf
theorem r_ocall (run : va_Run p l e R s m args below meth c H locs cells slots mc ms (F0 m pc ls st0) rest (va_Qv (fun _ : Nat → Nat => True) (Bn D (va_A [x] H.size) w1) (va_A [x] H.size) a) (va_A [x] H.size)) (hP : va_P D vwCl ((x :: E) ++ T) H) (hD : va_D A ((x :: E) ++ T)) (hS : va_S A s.heap H locs) (hA : ∀ q : Nat, s.heap.size ≤ q → A q)
    (kk : ∀ (u : Nat → Nat) (H1 : Heap) (locs1 : List Loc), va_P D vwCl (E ++ (w1 u ++ T)) H1 → va_D A (E ++ (w1 u ++ T)) → va_S A s.heap H1 locs1 → W p l e R s m args below meth c H1 locs1 (cells + mc) (slots + ms) Q (F0 m (pc + 3) ls rest)) : W p l e R s m args below meth c H locs cells slots Q (F0 m pc ls st0) := by
  have hFc : ∀ q, va_A [x] H.size q → A q := va_free (ws := (x :: E) ++ T) hD hS hA [0] rfl
  refine va_callv run hS (fun q _ h => hFc q h) hFc (fun u t H1 locs1 ht hvm hw hB hz hk hS1 => ?_)
  obtain ⟨hP1, hD1⟩ := hB
  rw [ht] at hP1
  obtain ⟨hP2, hD2⟩ := join1 (x := x) (wr := E ++ T) hP hD hk hFc hP1 hD1
  exact kk u H1 locs1 (hP2.perm va_mv) (hD2.perm va_mv) hS1
end RO
