/-! PICTURES: a heap's part as a partial function from addresses to cells; the walk's goal with heap, locations and slots hidden. -/
abbrev Pic : Type := Nat → Option va_E
def hp_L (h : Pic) (n : Nat) : va_W := (List.range n).filterMap (fun q => (h q).map (fun e => (q, e)))
def hp_P (D : va_G) (cl : List vw_C) (A : Nat → Prop) (h : Pic) (H : Heap) : Prop := ∀ (q : Nat) (e : va_E), h q = some e → A q ∧ va_at D cl (q, e) H
def hp_up (h : Pic) (a : Nat) (e : va_E) : Pic := fun q => if q = a then some e else h q
/-- which cells a method may change: its picture's, and those that it makes -/
def hp_A (h : Pic) (sz : Nat) : Nat → Prop := fun q => (∃ e, h q = some e) ∨ sz ≤ q
theorem hp_up_s {h : Pic} {a : Nat} {e : va_E} : hp_up h a e a = some e := if_pos rfl
theorem hp_up_n {h : Pic} {a q : Nat} {e : va_E} (hq : q ≠ a) : hp_up h a e q = h q := if_neg hq
theorem hp_up_g {h : Pic} {a q : Nat} {e x : va_E} (hx : h q = some x) (hq : q ≠ a) : hp_up h a e q = some x := (if_neg hq).trans hx
theorem hp_L_mem {h : Pic} {n : Nat} {q : Nat × va_E} (hq : q ∈ hp_L h n) : q.1 < n ∧ h q.1 = some q.2 := by
  obtain ⟨x, hx, he⟩ := List.mem_filterMap.mp hq
  cases hhx : h x with
  | none =>
    rw [hhx] at he
    cases he
  | some e =>
    rw [hhx] at he
    have he' : some (x, e) = some q := he
    cases he'
    exact ⟨List.mem_range.mp hx, hhx⟩
theorem hp_L_at {h : Pic} {n a : Nat} {e : va_E} (ha : h a = some e) (hn : a < n) : ∃ k : Nat, (hp_L h n)[k]? = some (a, e) :=
  List.getElem?_of_mem (List.mem_filterMap.mpr ⟨a, List.mem_range.mpr hn, by rw [ha]; rfl⟩)
theorem hp_L_succ (h : Pic) (n : Nat) : hp_L h (n + 1) = hp_L h n ++ (match h n with | none => [] | some e => [(n, e)]) := by
  unfold hp_L
  rw [List.range_succ, List.filterMap_append]
  congr 1
  cases hn : h n with
  | none => simp [hn]
  | some e => simp [hn]
theorem hp_L_inj (h : Pic) : ∀ (n i j : Nat) (p q : Nat × va_E), (hp_L h n)[i]? = some p → (hp_L h n)[j]? = some q → p.1 = q.1 → i = j
  | 0, i, j, p, q, hi, _, _ => by simp [hp_L] at hi
  | n + 1, i, j, p, q, hi, hj, hpq => by
    rw [hp_L_succ] at hi hj
    have key : ∀ (k : Nat) (r : Nat × va_E), (hp_L h n ++ (match h n with | none => [] | some e => [(n, e)]))[k]? = some r → ((hp_L h n)[k]? = some r ∧ r.1 < n) ∨ (k = (hp_L h n).length ∧ r.1 = n) := by
      intro k r hk
      by_cases hl : k < (hp_L h n).length
      · rw [List.getElem?_append_left hl] at hk
        exact Or.inl ⟨hk, (hp_L_mem (List.mem_of_getElem? hk)).1⟩
      · rw [List.getElem?_append_right (by omega)] at hk
        cases hn : h n with
        | none => rw [hn] at hk; simp at hk
        | some e =>
          rw [hn] at hk
          have hz : k - (hp_L h n).length < 1 := (List.getElem?_eq_some_iff.mp hk).1
          rw [show k - (hp_L h n).length = 0 by omega] at hk
          have hk' : some (n, e) = some r := hk
          cases hk'
          exact Or.inr ⟨by omega, rfl⟩
    rcases key i p hi with ⟨a1, b1⟩ | ⟨a1, b1⟩ <;> rcases key j q hj with ⟨a2, b2⟩ | ⟨a2, b2⟩
    · exact hp_L_inj h n i j p q a1 a2 hpq
    · omega
    · omega
    · omega
section HP0
variable {D : va_G} {cl : List vw_C} {A B : Nat → Prop} {h : Pic} {H H1 : Heap} {a : Nat} {e e0 : va_E}
theorem hp_P.lt (hP : hp_P D cl A h H) (ha : h a = some e) : a < H.size := (hP a e ha).2.lt
theorem hp_P.L (hP : hp_P D cl A h H) : va_P D cl (hp_L h H.size) H := fun k q hk => (hP q.1 q.2 (hp_L_mem (List.mem_of_getElem? hk)).2).2
theorem hp_P.LD (hP : hp_P D cl A h H) (n : Nat) : va_D A (hp_L h n) := ⟨fun i j p q hi hj hpq => hp_L_inj h n i j p q hi hj hpq, fun k q hk => (hP q.1 q.2 (hp_L_mem (List.mem_of_getElem? hk)).2).1⟩
theorem hp_P.ix (hP : hp_P D cl A h H) (ha : h a = some e) : ∃ k : Nat, (hp_L h H.size)[k]? = some (a, e) := hp_L_at ha (hP.lt ha)
theorem hp_P.wk (hP : hp_P D cl A h H) (hAB : ∀ q, A q → B q) : hp_P D cl B h H := fun q e hq => ⟨hAB q (hP q e hq).1, (hP q e hq).2⟩
theorem hp_P.kept (hP : hp_P D cl A h H) (hq : ∀ q e, h q = some e → H1[q]? = H[q]?) : hp_P D cl A h H1 := fun q e hh => ⟨(hP q e hh).1, (hP q e hh).2.kept (hq q e hh)⟩
/-- a cell of the list is set: the picture is -/
theorem hp_P.set {k : Nat} (hP : hp_P D cl A h H) (hk : (hp_L h H.size)[k]? = some (a, e0)) (h1 : va_P D cl ((hp_L h H.size).set k (a, e)) H1) (hd : va_D A ((hp_L h H.size).set k (a, e))) : hp_P D cl A (hp_up h a e) H1 := by
  have hl := (List.getElem?_eq_some_iff.mp hk).1
  have hs : ((hp_L h H.size).set k (a, e))[k]? = some (a, e) := List.getElem?_set_self hl
  intro q x hx
  by_cases hq : q = a
  · subst hq
    rw [hp_up_s] at hx
    cases hx
    exact ⟨hd.2 k _ hs, h1 k _ hs⟩
  · rw [hp_up_n hq] at hx
    obtain ⟨j, hj⟩ := hP.ix hx
    have hjk : k ≠ j := fun z => by
      subst z
      rw [hk] at hj
      cases hj
      exact hq rfl
    have hj' : ((hp_L h H.size).set k (a, e))[j]? = some (q, x) := by rw [List.getElem?_set_ne hjk]; exact hj
    exact ⟨hd.2 j _ hj', h1 j _ hj'⟩
/-- a cell comes -/
theorem hp_P.push {n : Nat} (hP : hp_P D cl A h H) (hn : n = H.size) (h1 : va_P D cl (hp_L h n ++ [(a, e)]) H1) (hd : va_D A (hp_L h n ++ [(a, e)])) : hp_P D cl A (hp_up h a e) H1 ∧ h a = none := by
  subst hn
  have hs : (hp_L h H.size ++ [(a, e)])[(hp_L h H.size).length]? = some (a, e) := by simp
  have hfresh : h a = none := by
    cases hh : h a with
    | none => rfl
    | some x =>
      obtain ⟨j, hj⟩ := hP.ix hh
      have hjl := (List.getElem?_eq_some_iff.mp hj).1
      have hj' : (hp_L h H.size ++ [(a, e)])[j]? = some (a, x) := by rw [List.getElem?_append_left hjl]; exact hj
      have := hd.1 j _ _ _ hj' hs rfl
      omega
  refine ⟨fun q x hx => ?_, hfresh⟩
  by_cases hq : q = a
  · subst hq
    rw [hp_up_s] at hx
    cases hx
    exact ⟨hd.2 _ _ hs, h1 _ _ hs⟩
  · rw [hp_up_n hq] at hx
    obtain ⟨j, hj⟩ := hP.ix hx
    have hjl := (List.getElem?_eq_some_iff.mp hj).1
    have hj' : (hp_L h H.size ++ [(a, e)])[j]? = some (q, x) := by rw [List.getElem?_append_left hjl]; exact hj
    exact ⟨hd.2 j _ hj', h1 j _ hj'⟩
theorem hp_P.self (hP : hp_P D cl A h H) (sz : Nat) : hp_P D cl (hp_A h sz) h H := fun q x hx => ⟨Or.inl ⟨x, hx⟩, (hP q x hx).2⟩
end HP0
