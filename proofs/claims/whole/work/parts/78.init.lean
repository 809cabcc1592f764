/-! THE CONSTRUCTORS -/
def ups (h0 : Pic) : List (Nat × va_E) → Pic
  | [] => h0
  | x :: L => hp_up (ups h0 L) x.1 x.2
def FR (h0 : Pic) (r : Nat) : List (Nat × va_E) → Prop
  | [] => True
  | x :: L => FR h0 r L ∧ ups h0 L x.1 = none ∧ x.1 ≠ r
theorem FR.get {h0 : Pic} {r : Nat} : ∀ {L : List (Nat × va_E)} {i : Nat} {x : Nat × va_E}, FR h0 r L → L[i]? = some x → ups h0 L x.1 = some x.2 ∧ x.1 ≠ r
  | [], i, x, _, h => by simp at h
  | y :: L, 0, x, hF, h => by
    have e : y = x := by simpa using h
    subst e
    exact ⟨hp_up_s, hF.2.2⟩
  | y :: L, i + 1, x, hF, h => by
    have h' : L[i]? = some x := by simpa using h
    have g := FR.get hF.1 h'
    refine ⟨?_, g.2⟩
    show hp_up (ups h0 L) y.1 y.2 x.1 = some x.2
    have h9 : ups h0 L y.1 = none := hF.2.1
    rw [hp_up_n (fun z => by rw [← z, g.1] at h9; cases h9)]
    exact g.1
theorem FR.inj {h0 : Pic} {r : Nat} : ∀ {L : List (Nat × va_E)} {i j : Nat} {x y : Nat × va_E}, FR h0 r L → L[i]? = some x → L[j]? = some y → x.1 = y.1 → i = j
  | [], i, j, x, y, _, h, _, _ => by simp at h
  | w :: L, 0, 0, x, y, _, _, _, _ => rfl
  | w :: L, 0, j + 1, x, y, hF, h1, h2, e => by
    have e1 : w = x := by simpa using h1
    have h' : L[j]? = some y := by simpa using h2
    have g := FR.get hF.1 h'
    have h9 : ups h0 L w.1 = none := hF.2.1
    have g1 := g.1
    rw [← e, ← e1, h9] at g1
    cases g1
  | w :: L, i + 1, 0, x, y, hF, h1, h2, e => by
    have e1 : w = y := by simpa using h2
    have h' : L[i]? = some x := by simpa using h1
    have g := FR.get hF.1 h'
    have h9 : ups h0 L w.1 = none := hF.2.1
    have g1 := g.1
    rw [e, ← e1, h9] at g1
    cases g1
  | w :: L, i + 1, j + 1, x, y, hF, h1, h2, e => by
    have h1' : L[i]? = some x := by simpa using h1
    have h2' : L[j]? = some y := by simpa using h2
    rw [FR.inj hF.1 h1' h2' e]
theorem up_cm {h : Pic} {r q : Nat} {x y : va_E} (hq : q ≠ r) : hp_up (hp_up h r x) q y = hp_up (hp_up h q y) r x := funext fun z => by
  by_cases h1 : z = q
  · rw [h1, hp_up_s, hp_up_n hq, hp_up_s]
  · rw [hp_up_n h1]
    by_cases h2 : z = r
    · rw [h2, hp_up_s, hp_up_s]
    · rw [hp_up_n h2, hp_up_n h2, hp_up_n h1]
def ND : List Nat → Prop
  | [] => True
  | q :: L => (∀ x ∈ L, x ≠ q) ∧ ND L
theorem ND.inj : ∀ {L : List Nat} {i j x : Nat}, ND L → L[i]? = some x → L[j]? = some x → i = j
  | [], i, j, x, _, h, _ => by simp at h
  | w :: L, 0, 0, x, _, _, _ => rfl
  | w :: L, 0, j + 1, x, hD, h1, h2 => by
    have e1 : w = x := by simpa using h1
    have h' : L[j]? = some x := by simpa using h2
    exact absurd e1.symm (hD.1 x (List.mem_of_getElem? h'))
  | w :: L, i + 1, 0, x, hD, h1, h2 => by
    have e1 : w = x := by simpa using h2
    have h' : L[i]? = some x := by simpa using h1
    exact absurd e1.symm (hD.1 x (List.mem_of_getElem? h'))
  | w :: L, i + 1, j + 1, x, hD, h1, h2 => by
    have h1' : L[i]? = some x := by simpa using h1
    have h2' : L[j]? = some x := by simpa using h2
    rw [ND.inj hD.2 h1' h2']
theorem ND.ne {L : List Nat} {x y : Nat} (D : ND L) (i j : Nat) (h1 : L[i]? = some x) (h2 : L[j]? = some y) (h : i ≠ j) : x ≠ y := fun z => h (D.inj h1 (by rw [z]; exact h2))
def DM (h : Pic) (L : List Nat) : Prop := (∀ x ∈ L, ∃ e, h x = some e) ∧ ND L
theorem DM.up {h : Pic} {L : List Nat} {a : Nat} {e : va_E} (D : DM h L) : DM (hp_up h a e) L := ⟨fun x hx => by
  by_cases z : x = a
  · exact ⟨e, by rw [z, hp_up_s]⟩
  · rw [hp_up_n z]; exact D.1 x hx, D.2⟩
theorem DM.new {h : Pic} {L : List Nat} {q : Nat} {e : va_E} (D : DM h L) (hq : h q = none) : DM (hp_up h q e) (q :: L) := ⟨fun x hx => by
  rcases List.mem_cons.mp hx with z | z
  · exact ⟨e, by rw [z, hp_up_s]⟩
  · exact D.up.1 x z, (show (∀ x ∈ L, x ≠ q) ∧ ND L from ⟨fun x hx z => (by obtain ⟨e9, h9⟩ := D.1 x hx; rw [z, hq] at h9; cases h9), D.2⟩)⟩
def rf_ix (k : Nat) : Nat := match k with
  | 2 => 23
  | 3 => 22
  | 5 => 21
  | 6 => 20
  | 7 => 19
  | 8 => 18
  | 10 => 17
  | 11 => 16
  | 12 => 15
  | 13 => 14
  | 14 => 13
  | 15 => 12
  | 16 => 11
  | 17 => 10
  | 18 => 9
  | 19 => 8
  | 20 => 7
  | 21 => 6
  | 23 => 5
  | 24 => 4
  | 25 => 3
  | 28 => 2
  | 29 => 1
  | 30 => 0
  | _ => 0
theorem rf_ix_inj : ∀ j ∈ [2, 3, 5, 6, 7, 8, 10, 11, 12, 13, 14, 15, 16, 17, 18, 19, 20, 21, 23, 24, 25, 28, 29, 30], ∀ k ∈ [2, 3, 5, 6, 7, 8, 10, 11, 12, 13, 14, 15, 16, 17, 18, 19, 20, 21, 23, 24, 25, 28, 29, 30], rf_ix j = rf_ix k → j = k := by decide
abbrev rm_Rf_init : Room := { frames := 1, cells := 24, slots := 34810, locals := 20 }
set_option maxHeartbeats 4000000 in
set_option maxRecDepth 100000 in
theorem k_Rf_init (l : Launch) (Γ : Gam) (r : Nat) : kN l Γ y_Rf_init w_Rf_init rm_Rf_init [.ref r] (hp_up (fun _ => none) r (.inr (7, [.int 0, .int 0, .null, .null, .int 0, .null, .null, .null, .null, .int 0, .null, .null, .null, .null, .null, .null, .null, .null, .null, .null, .null, .null, .int 0, .null, .null, .null, .int 0, .int 0, .null, .null, .null]))) (fun q u => q = none ∧ ∃ aa, rf_at Γ r aa m_0 u) 24 34810 := by
  refine hg_entryN (own := "ModelMergeModel") (cc := b_Rf_init) (maxL := 1) (ret := none) (lv0 := [(0, .ref r)]) (by decide) rfl rfl (Nat.le_of_ble_eq_true rfl) rfl ?_
  intro p e s m args below meth c A C hnm hr
  have F0_ : FR (fun _ => none) r [] := trivial
  refine hg_eq (show hp_up (fun _ => none) r (.inr (7, [.int 0, .int 0, .null, .null, .int 0, .null, .null, .null, .null, .int 0, .null, .null, .null, .null, .null, .null, .null, .null, .null, .null, .null, .null, .int 0, .null, .null, .null, .int 0, .int 0, .null, .null, .null])) = hp_up (ups (fun _ => none) []) r (.inr (7, [.int 0, .int 0, .null, .null, .int 0, .null, .null, .null, .null, .int 0, .null, .null, .null, .null, .null, .null, .null, .null, .null, .null, .null, .null, .int 0, .null, .null, .null, .int 0, .int 0, .null, .null, .null])) from rfl) ?_
  refine hg_aload_n C 0 d_Rf_init_0 rfl rfl ?_
  refine o_Rf_1 C (Nat.le_of_ble_eq_true rfl) (Nat.le_of_ble_eq_true rfl) d_Rf_init_1 ?_
  refine hg_aload_n C 0 d_Rf_init_4 rfl rfl ?_
  refine hg_bipush (v := 60) C d_Rf_init_5 (by decide) ?_
  refine hg_newa (atype := .int) (ty := .int) (a0 := (60, .inl (fun _ => 0))) C 0 (kc kw49) rfl (fun _ z => FieldType.noConfusion z) rfl (fun _ => rfl) (by decide) rfl (by decide) (Nat.le_of_ble_eq_true rfl) (Nat.le_of_ble_eq_true rfl) d_Rf_init_7 (fun q1 hq_q1 => ?_)
  obtain ⟨n_q1, f_q1⟩ := hp_up_none hq_q1
  obtain ⟨L2, eL2⟩ : ∃ z, z = (q1, (.inl ((Γ.2.1 0), 60, .inl (fun _ => 0)) : va_E)) :: [] := ⟨_, rfl⟩
  have FL2 : FR (fun _ => none) r L2 := by rw [eL2]; exact ⟨F0_, f_q1, n_q1⟩
  refine hg_eq (show hp_up (hp_up (ups (fun _ => none) []) r (.inr (7, [.int 0, .int 0, .null, .null, .int 0, .null, .null, .null, .null, .int 0, .null, .null, .null, .null, .null, .null, .null, .null, .null, .null, .null, .null, .int 0, .null, .null, .null, .int 0, .int 0, .null, .null, .null]))) q1 (.inl ((Γ.2.1 0), 60, .inl (fun _ => 0))) = hp_up (ups (fun _ => none) L2) r (.inr (7, [.int 0, .int 0, .null, .null, .int 0, .null, .null, .null, .null, .int 0, .null, .null, .null, .null, .null, .null, .null, .null, .null, .null, .null, .null, .int 0, .null, .null, .null, .int 0, .int 0, .null, .null, .null])) by rw [eL2]; exact up_cm n_q1) ?_
  refine p_Rf_7 (fs' := [.int 0, .int 0, .ref q1, .null, .int 0, .null, .null, .null, .null, .int 0, .null, .null, .null, .null, .null, .null, .null, .null, .null, .null, .null, .null, .int 0, .null, .null, .null, .int 0, .int 0, .null, .null, .null]) C hnm hp_up_s rfl rfl (Nat.le_of_ble_eq_true rfl) rfl d_Rf_init_9 ?_
  refine hg_eq hp_up_up ?_
  refine hg_aload_n C 0 d_Rf_init_12 rfl rfl ?_
  refine hg_bipush (v := 60) C d_Rf_init_13 (by decide) ?_
  refine hg_newa (atype := .int) (ty := .int) (a0 := (60, .inl (fun _ => 0))) C 0 (kc kw49) rfl (fun _ z => FieldType.noConfusion z) rfl (fun _ => rfl) (by decide) rfl (by decide) (Nat.le_of_ble_eq_true rfl) (Nat.le_of_ble_eq_true rfl) d_Rf_init_15 (fun q3 hq_q3 => ?_)
  obtain ⟨n_q3, f_q3⟩ := hp_up_none hq_q3
  obtain ⟨L4, eL4⟩ : ∃ z, z = (q3, (.inl ((Γ.2.1 0), 60, .inl (fun _ => 0)) : va_E)) :: L2 := ⟨_, rfl⟩
  have FL4 : FR (fun _ => none) r L4 := by rw [eL4]; exact ⟨FL2, f_q3, n_q3⟩
  refine hg_eq (show hp_up (hp_up (ups (fun _ => none) L2) r (.inr (7, [.int 0, .int 0, .ref q1, .null, .int 0, .null, .null, .null, .null, .int 0, .null, .null, .null, .null, .null, .null, .null, .null, .null, .null, .null, .null, .int 0, .null, .null, .null, .int 0, .int 0, .null, .null, .null]))) q3 (.inl ((Γ.2.1 0), 60, .inl (fun _ => 0))) = hp_up (ups (fun _ => none) L4) r (.inr (7, [.int 0, .int 0, .ref q1, .null, .int 0, .null, .null, .null, .null, .int 0, .null, .null, .null, .null, .null, .null, .null, .null, .null, .null, .null, .null, .int 0, .null, .null, .null, .int 0, .int 0, .null, .null, .null])) by rw [eL4]; exact up_cm n_q3) ?_
  refine p_Rf_13 (fs' := [.int 0, .int 0, .ref q1, .ref q3, .int 0, .null, .null, .null, .null, .int 0, .null, .null, .null, .null, .null, .null, .null, .null, .null, .null, .null, .null, .int 0, .null, .null, .null, .int 0, .int 0, .null, .null, .null]) C hnm hp_up_s rfl rfl (Nat.le_of_ble_eq_true rfl) rfl d_Rf_init_17 ?_
  refine hg_eq hp_up_up ?_
  refine hg_aload_n C 0 d_Rf_init_20 rfl rfl ?_
  refine hg_iconst (v := 1) C d_Rf_init_21 (by decide) ?_
  refine p_Rf_16 (fs' := [.int 0, .int 0, .ref q1, .ref q3, .int 1, .null, .null, .null, .null, .int 0, .null, .null, .null, .null, .null, .null, .null, .null, .null, .null, .null, .null, .int 0, .null, .null, .null, .int 0, .int 0, .null, .null, .null]) C hp_up_s rfl rfl (Nat.le_of_ble_eq_true rfl) rfl d_Rf_init_22 ?_
  refine hg_eq hp_up_up ?_
  refine hg_aload_n C 0 d_Rf_init_25 rfl rfl ?_
  refine hg_sipush (v := 2400) C d_Rf_init_26 (by decide) ?_
  refine hg_newa (atype := .boolean) (ty := .boolean) (a0 := (2400, .inl (fun _ => 0))) C 2 (kc kw745) rfl (fun _ z => FieldType.noConfusion z) rfl (fun _ => rfl) (by decide) rfl (by decide) (Nat.le_of_ble_eq_true rfl) (Nat.le_of_ble_eq_true rfl) d_Rf_init_29 (fun q5 hq_q5 => ?_)
  obtain ⟨n_q5, f_q5⟩ := hp_up_none hq_q5
  obtain ⟨L6, eL6⟩ : ∃ z, z = (q5, (.inl ((Γ.2.1 2), 2400, .inl (fun _ => 0)) : va_E)) :: L4 := ⟨_, rfl⟩
  have FL6 : FR (fun _ => none) r L6 := by rw [eL6]; exact ⟨FL4, f_q5, n_q5⟩
  refine hg_eq (show hp_up (hp_up (ups (fun _ => none) L4) r (.inr (7, [.int 0, .int 0, .ref q1, .ref q3, .int 1, .null, .null, .null, .null, .int 0, .null, .null, .null, .null, .null, .null, .null, .null, .null, .null, .null, .null, .int 0, .null, .null, .null, .int 0, .int 0, .null, .null, .null]))) q5 (.inl ((Γ.2.1 2), 2400, .inl (fun _ => 0))) = hp_up (ups (fun _ => none) L6) r (.inr (7, [.int 0, .int 0, .ref q1, .ref q3, .int 1, .null, .null, .null, .null, .int 0, .null, .null, .null, .null, .null, .null, .null, .null, .null, .null, .null, .null, .int 0, .null, .null, .null, .int 0, .int 0, .null, .null, .null])) by rw [eL6]; exact up_cm n_q5) ?_
  refine p_Rf_20 (fs' := [.int 0, .int 0, .ref q1, .ref q3, .int 1, .ref q5, .null, .null, .null, .int 0, .null, .null, .null, .null, .null, .null, .null, .null, .null, .null, .null, .null, .int 0, .null, .null, .null, .int 0, .int 0, .null, .null, .null]) C hnm hp_up_s rfl rfl (Nat.le_of_ble_eq_true rfl) rfl d_Rf_init_31 ?_
  refine hg_eq hp_up_up ?_
  refine hg_aload_n C 0 d_Rf_init_34 rfl rfl ?_
  refine hg_sipush (v := 12000) C d_Rf_init_35 (by decide) ?_
  refine hg_newa (atype := .int) (ty := .int) (a0 := (12000, .inl (fun _ => 0))) C 0 (kc kw49) rfl (fun _ z => FieldType.noConfusion z) rfl (fun _ => rfl) (by decide) rfl (by decide) (Nat.le_of_ble_eq_true rfl) (Nat.le_of_ble_eq_true rfl) d_Rf_init_38 (fun q7 hq_q7 => ?_)
  obtain ⟨n_q7, f_q7⟩ := hp_up_none hq_q7
  obtain ⟨L8, eL8⟩ : ∃ z, z = (q7, (.inl ((Γ.2.1 0), 12000, .inl (fun _ => 0)) : va_E)) :: L6 := ⟨_, rfl⟩
  have FL8 : FR (fun _ => none) r L8 := by rw [eL8]; exact ⟨FL6, f_q7, n_q7⟩
  refine hg_eq (show hp_up (hp_up (ups (fun _ => none) L6) r (.inr (7, [.int 0, .int 0, .ref q1, .ref q3, .int 1, .ref q5, .null, .null, .null, .int 0, .null, .null, .null, .null, .null, .null, .null, .null, .null, .null, .null, .null, .int 0, .null, .null, .null, .int 0, .int 0, .null, .null, .null]))) q7 (.inl ((Γ.2.1 0), 12000, .inl (fun _ => 0))) = hp_up (ups (fun _ => none) L8) r (.inr (7, [.int 0, .int 0, .ref q1, .ref q3, .int 1, .ref q5, .null, .null, .null, .int 0, .null, .null, .null, .null, .null, .null, .null, .null, .null, .null, .null, .null, .int 0, .null, .null, .null, .int 0, .int 0, .null, .null, .null])) by rw [eL8]; exact up_cm n_q7) ?_
  refine p_Rf_24 (fs' := [.int 0, .int 0, .ref q1, .ref q3, .int 1, .ref q5, .ref q7, .null, .null, .int 0, .null, .null, .null, .null, .null, .null, .null, .null, .null, .null, .null, .null, .int 0, .null, .null, .null, .int 0, .int 0, .null, .null, .null]) C hnm hp_up_s rfl rfl (Nat.le_of_ble_eq_true rfl) rfl d_Rf_init_40 ?_
  refine hg_eq hp_up_up ?_
  refine hg_aload_n C 0 d_Rf_init_43 rfl rfl ?_
  refine hg_sipush (v := 12000) C d_Rf_init_44 (by decide) ?_
  refine hg_newa (atype := .int) (ty := .int) (a0 := (12000, .inl (fun _ => 0))) C 0 (kc kw49) rfl (fun _ z => FieldType.noConfusion z) rfl (fun _ => rfl) (by decide) rfl (by decide) (Nat.le_of_ble_eq_true rfl) (Nat.le_of_ble_eq_true rfl) d_Rf_init_47 (fun q9 hq_q9 => ?_)
  obtain ⟨n_q9, f_q9⟩ := hp_up_none hq_q9
  obtain ⟨L10, eL10⟩ : ∃ z, z = (q9, (.inl ((Γ.2.1 0), 12000, .inl (fun _ => 0)) : va_E)) :: L8 := ⟨_, rfl⟩
  have FL10 : FR (fun _ => none) r L10 := by rw [eL10]; exact ⟨FL8, f_q9, n_q9⟩
  refine hg_eq (show hp_up (hp_up (ups (fun _ => none) L8) r (.inr (7, [.int 0, .int 0, .ref q1, .ref q3, .int 1, .ref q5, .ref q7, .null, .null, .int 0, .null, .null, .null, .null, .null, .null, .null, .null, .null, .null, .null, .null, .int 0, .null, .null, .null, .int 0, .int 0, .null, .null, .null]))) q9 (.inl ((Γ.2.1 0), 12000, .inl (fun _ => 0))) = hp_up (ups (fun _ => none) L10) r (.inr (7, [.int 0, .int 0, .ref q1, .ref q3, .int 1, .ref q5, .ref q7, .null, .null, .int 0, .null, .null, .null, .null, .null, .null, .null, .null, .null, .null, .null, .null, .int 0, .null, .null, .null, .int 0, .int 0, .null, .null, .null])) by rw [eL10]; exact up_cm n_q9) ?_
  refine p_Rf_27 (fs' := [.int 0, .int 0, .ref q1, .ref q3, .int 1, .ref q5, .ref q7, .ref q9, .null, .int 0, .null, .null, .null, .null, .null, .null, .null, .null, .null, .null, .null, .null, .int 0, .null, .null, .null, .int 0, .int 0, .null, .null, .null]) C hnm hp_up_s rfl rfl (Nat.le_of_ble_eq_true rfl) rfl d_Rf_init_49 ?_
  refine hg_eq hp_up_up ?_
  refine hg_aload_n C 0 d_Rf_init_52 rfl rfl ?_
  refine hg_bipush (v := 40) C d_Rf_init_53 (by decide) ?_
  refine hg_newa (atype := .int) (ty := .int) (a0 := (40, .inl (fun _ => 0))) C 0 (kc kw49) rfl (fun _ z => FieldType.noConfusion z) rfl (fun _ => rfl) (by decide) rfl (by decide) (Nat.le_of_ble_eq_true rfl) (Nat.le_of_ble_eq_true rfl) d_Rf_init_55 (fun q11 hq_q11 => ?_)
  obtain ⟨n_q11, f_q11⟩ := hp_up_none hq_q11
  obtain ⟨L12, eL12⟩ : ∃ z, z = (q11, (.inl ((Γ.2.1 0), 40, .inl (fun _ => 0)) : va_E)) :: L10 := ⟨_, rfl⟩
  have FL12 : FR (fun _ => none) r L12 := by rw [eL12]; exact ⟨FL10, f_q11, n_q11⟩
  refine hg_eq (show hp_up (hp_up (ups (fun _ => none) L10) r (.inr (7, [.int 0, .int 0, .ref q1, .ref q3, .int 1, .ref q5, .ref q7, .ref q9, .null, .int 0, .null, .null, .null, .null, .null, .null, .null, .null, .null, .null, .null, .null, .int 0, .null, .null, .null, .int 0, .int 0, .null, .null, .null]))) q11 (.inl ((Γ.2.1 0), 40, .inl (fun _ => 0))) = hp_up (ups (fun _ => none) L12) r (.inr (7, [.int 0, .int 0, .ref q1, .ref q3, .int 1, .ref q5, .ref q7, .ref q9, .null, .int 0, .null, .null, .null, .null, .null, .null, .null, .null, .null, .null, .null, .null, .int 0, .null, .null, .null, .int 0, .int 0, .null, .null, .null])) by rw [eL12]; exact up_cm n_q11) ?_
  refine p_Rf_30 (fs' := [.int 0, .int 0, .ref q1, .ref q3, .int 1, .ref q5, .ref q7, .ref q9, .ref q11, .int 0, .null, .null, .null, .null, .null, .null, .null, .null, .null, .null, .null, .null, .int 0, .null, .null, .null, .int 0, .int 0, .null, .null, .null]) C hnm hp_up_s rfl rfl (Nat.le_of_ble_eq_true rfl) rfl d_Rf_init_57 ?_
  refine hg_eq hp_up_up ?_
  refine hg_aload_n C 0 d_Rf_init_60 rfl rfl ?_
  refine hg_bipush (v := 20) C d_Rf_init_61 (by decide) ?_
  refine hg_newa (atype := .int) (ty := .int) (a0 := (20, .inl (fun _ => 0))) C 0 (kc kw49) rfl (fun _ z => FieldType.noConfusion z) rfl (fun _ => rfl) (by decide) rfl (by decide) (Nat.le_of_ble_eq_true rfl) (Nat.le_of_ble_eq_true rfl) d_Rf_init_63 (fun q13 hq_q13 => ?_)
  obtain ⟨n_q13, f_q13⟩ := hp_up_none hq_q13
  obtain ⟨L14, eL14⟩ : ∃ z, z = (q13, (.inl ((Γ.2.1 0), 20, .inl (fun _ => 0)) : va_E)) :: L12 := ⟨_, rfl⟩
  have FL14 : FR (fun _ => none) r L14 := by rw [eL14]; exact ⟨FL12, f_q13, n_q13⟩
  refine hg_eq (show hp_up (hp_up (ups (fun _ => none) L12) r (.inr (7, [.int 0, .int 0, .ref q1, .ref q3, .int 1, .ref q5, .ref q7, .ref q9, .ref q11, .int 0, .null, .null, .null, .null, .null, .null, .null, .null, .null, .null, .null, .null, .int 0, .null, .null, .null, .int 0, .int 0, .null, .null, .null]))) q13 (.inl ((Γ.2.1 0), 20, .inl (fun _ => 0))) = hp_up (ups (fun _ => none) L14) r (.inr (7, [.int 0, .int 0, .ref q1, .ref q3, .int 1, .ref q5, .ref q7, .ref q9, .ref q11, .int 0, .null, .null, .null, .null, .null, .null, .null, .null, .null, .null, .null, .null, .int 0, .null, .null, .null, .int 0, .int 0, .null, .null, .null])) by rw [eL14]; exact up_cm n_q13) ?_
  refine p_Rf_33 (fs' := [.int 0, .int 0, .ref q1, .ref q3, .int 1, .ref q5, .ref q7, .ref q9, .ref q11, .int 0, .ref q13, .null, .null, .null, .null, .null, .null, .null, .null, .null, .null, .null, .int 0, .null, .null, .null, .int 0, .int 0, .null, .null, .null]) C hnm hp_up_s rfl rfl (Nat.le_of_ble_eq_true rfl) rfl d_Rf_init_65 ?_
  refine hg_eq hp_up_up ?_
  refine hg_aload_n C 0 d_Rf_init_68 rfl rfl ?_
  refine hg_bipush (v := 20) C d_Rf_init_69 (by decide) ?_
  refine hg_newa (atype := .int) (ty := .int) (a0 := (20, .inl (fun _ => 0))) C 0 (kc kw49) rfl (fun _ z => FieldType.noConfusion z) rfl (fun _ => rfl) (by decide) rfl (by decide) (Nat.le_of_ble_eq_true rfl) (Nat.le_of_ble_eq_true rfl) d_Rf_init_71 (fun q15 hq_q15 => ?_)
  obtain ⟨n_q15, f_q15⟩ := hp_up_none hq_q15
  obtain ⟨L16, eL16⟩ : ∃ z, z = (q15, (.inl ((Γ.2.1 0), 20, .inl (fun _ => 0)) : va_E)) :: L14 := ⟨_, rfl⟩
  have FL16 : FR (fun _ => none) r L16 := by rw [eL16]; exact ⟨FL14, f_q15, n_q15⟩
  refine hg_eq (show hp_up (hp_up (ups (fun _ => none) L14) r (.inr (7, [.int 0, .int 0, .ref q1, .ref q3, .int 1, .ref q5, .ref q7, .ref q9, .ref q11, .int 0, .ref q13, .null, .null, .null, .null, .null, .null, .null, .null, .null, .null, .null, .int 0, .null, .null, .null, .int 0, .int 0, .null, .null, .null]))) q15 (.inl ((Γ.2.1 0), 20, .inl (fun _ => 0))) = hp_up (ups (fun _ => none) L16) r (.inr (7, [.int 0, .int 0, .ref q1, .ref q3, .int 1, .ref q5, .ref q7, .ref q9, .ref q11, .int 0, .ref q13, .null, .null, .null, .null, .null, .null, .null, .null, .null, .null, .null, .int 0, .null, .null, .null, .int 0, .int 0, .null, .null, .null])) by rw [eL16]; exact up_cm n_q15) ?_
  refine p_Rf_36 (fs' := [.int 0, .int 0, .ref q1, .ref q3, .int 1, .ref q5, .ref q7, .ref q9, .ref q11, .int 0, .ref q13, .ref q15, .null, .null, .null, .null, .null, .null, .null, .null, .null, .null, .int 0, .null, .null, .null, .int 0, .int 0, .null, .null, .null]) C hnm hp_up_s rfl rfl (Nat.le_of_ble_eq_true rfl) rfl d_Rf_init_73 ?_
  refine hg_eq hp_up_up ?_
  refine hg_aload_n C 0 d_Rf_init_76 rfl rfl ?_
  refine hg_bipush (v := 20) C d_Rf_init_77 (by decide) ?_
  refine hg_newa (atype := .int) (ty := .int) (a0 := (20, .inl (fun _ => 0))) C 0 (kc kw49) rfl (fun _ z => FieldType.noConfusion z) rfl (fun _ => rfl) (by decide) rfl (by decide) (Nat.le_of_ble_eq_true rfl) (Nat.le_of_ble_eq_true rfl) d_Rf_init_79 (fun q17 hq_q17 => ?_)
  obtain ⟨n_q17, f_q17⟩ := hp_up_none hq_q17
  obtain ⟨L18, eL18⟩ : ∃ z, z = (q17, (.inl ((Γ.2.1 0), 20, .inl (fun _ => 0)) : va_E)) :: L16 := ⟨_, rfl⟩
  have FL18 : FR (fun _ => none) r L18 := by rw [eL18]; exact ⟨FL16, f_q17, n_q17⟩
  refine hg_eq (show hp_up (hp_up (ups (fun _ => none) L16) r (.inr (7, [.int 0, .int 0, .ref q1, .ref q3, .int 1, .ref q5, .ref q7, .ref q9, .ref q11, .int 0, .ref q13, .ref q15, .null, .null, .null, .null, .null, .null, .null, .null, .null, .null, .int 0, .null, .null, .null, .int 0, .int 0, .null, .null, .null]))) q17 (.inl ((Γ.2.1 0), 20, .inl (fun _ => 0))) = hp_up (ups (fun _ => none) L18) r (.inr (7, [.int 0, .int 0, .ref q1, .ref q3, .int 1, .ref q5, .ref q7, .ref q9, .ref q11, .int 0, .ref q13, .ref q15, .null, .null, .null, .null, .null, .null, .null, .null, .null, .null, .int 0, .null, .null, .null, .int 0, .int 0, .null, .null, .null])) by rw [eL18]; exact up_cm n_q17) ?_
  refine p_Rf_39 (fs' := [.int 0, .int 0, .ref q1, .ref q3, .int 1, .ref q5, .ref q7, .ref q9, .ref q11, .int 0, .ref q13, .ref q15, .ref q17, .null, .null, .null, .null, .null, .null, .null, .null, .null, .int 0, .null, .null, .null, .int 0, .int 0, .null, .null, .null]) C hnm hp_up_s rfl rfl (Nat.le_of_ble_eq_true rfl) rfl d_Rf_init_81 ?_
  refine hg_eq hp_up_up ?_
  refine hg_aload_n C 0 d_Rf_init_84 rfl rfl ?_
  refine hg_bipush (v := 20) C d_Rf_init_85 (by decide) ?_
  refine hg_newa (atype := .int) (ty := .int) (a0 := (20, .inl (fun _ => 0))) C 0 (kc kw49) rfl (fun _ z => FieldType.noConfusion z) rfl (fun _ => rfl) (by decide) rfl (by decide) (Nat.le_of_ble_eq_true rfl) (Nat.le_of_ble_eq_true rfl) d_Rf_init_87 (fun q19 hq_q19 => ?_)
  obtain ⟨n_q19, f_q19⟩ := hp_up_none hq_q19
  obtain ⟨L20, eL20⟩ : ∃ z, z = (q19, (.inl ((Γ.2.1 0), 20, .inl (fun _ => 0)) : va_E)) :: L18 := ⟨_, rfl⟩
  have FL20 : FR (fun _ => none) r L20 := by rw [eL20]; exact ⟨FL18, f_q19, n_q19⟩
  refine hg_eq (show hp_up (hp_up (ups (fun _ => none) L18) r (.inr (7, [.int 0, .int 0, .ref q1, .ref q3, .int 1, .ref q5, .ref q7, .ref q9, .ref q11, .int 0, .ref q13, .ref q15, .ref q17, .null, .null, .null, .null, .null, .null, .null, .null, .null, .int 0, .null, .null, .null, .int 0, .int 0, .null, .null, .null]))) q19 (.inl ((Γ.2.1 0), 20, .inl (fun _ => 0))) = hp_up (ups (fun _ => none) L20) r (.inr (7, [.int 0, .int 0, .ref q1, .ref q3, .int 1, .ref q5, .ref q7, .ref q9, .ref q11, .int 0, .ref q13, .ref q15, .ref q17, .null, .null, .null, .null, .null, .null, .null, .null, .null, .int 0, .null, .null, .null, .int 0, .int 0, .null, .null, .null])) by rw [eL20]; exact up_cm n_q19) ?_
  refine p_Rf_42 (fs' := [.int 0, .int 0, .ref q1, .ref q3, .int 1, .ref q5, .ref q7, .ref q9, .ref q11, .int 0, .ref q13, .ref q15, .ref q17, .ref q19, .null, .null, .null, .null, .null, .null, .null, .null, .int 0, .null, .null, .null, .int 0, .int 0, .null, .null, .null]) C hnm hp_up_s rfl rfl (Nat.le_of_ble_eq_true rfl) rfl d_Rf_init_89 ?_
  refine hg_eq hp_up_up ?_
  refine hg_aload_n C 0 d_Rf_init_92 rfl rfl ?_
  refine hg_bipush (v := 20) C d_Rf_init_93 (by decide) ?_
  refine hg_newa (atype := .int) (ty := .int) (a0 := (20, .inl (fun _ => 0))) C 0 (kc kw49) rfl (fun _ z => FieldType.noConfusion z) rfl (fun _ => rfl) (by decide) rfl (by decide) (Nat.le_of_ble_eq_true rfl) (Nat.le_of_ble_eq_true rfl) d_Rf_init_95 (fun q21 hq_q21 => ?_)
  obtain ⟨n_q21, f_q21⟩ := hp_up_none hq_q21
  obtain ⟨L22, eL22⟩ : ∃ z, z = (q21, (.inl ((Γ.2.1 0), 20, .inl (fun _ => 0)) : va_E)) :: L20 := ⟨_, rfl⟩
  have FL22 : FR (fun _ => none) r L22 := by rw [eL22]; exact ⟨FL20, f_q21, n_q21⟩
  refine hg_eq (show hp_up (hp_up (ups (fun _ => none) L20) r (.inr (7, [.int 0, .int 0, .ref q1, .ref q3, .int 1, .ref q5, .ref q7, .ref q9, .ref q11, .int 0, .ref q13, .ref q15, .ref q17, .ref q19, .null, .null, .null, .null, .null, .null, .null, .null, .int 0, .null, .null, .null, .int 0, .int 0, .null, .null, .null]))) q21 (.inl ((Γ.2.1 0), 20, .inl (fun _ => 0))) = hp_up (ups (fun _ => none) L22) r (.inr (7, [.int 0, .int 0, .ref q1, .ref q3, .int 1, .ref q5, .ref q7, .ref q9, .ref q11, .int 0, .ref q13, .ref q15, .ref q17, .ref q19, .null, .null, .null, .null, .null, .null, .null, .null, .int 0, .null, .null, .null, .int 0, .int 0, .null, .null, .null])) by rw [eL22]; exact up_cm n_q21) ?_
  refine p_Rf_45 (fs' := [.int 0, .int 0, .ref q1, .ref q3, .int 1, .ref q5, .ref q7, .ref q9, .ref q11, .int 0, .ref q13, .ref q15, .ref q17, .ref q19, .ref q21, .null, .null, .null, .null, .null, .null, .null, .int 0, .null, .null, .null, .int 0, .int 0, .null, .null, .null]) C hnm hp_up_s rfl rfl (Nat.le_of_ble_eq_true rfl) rfl d_Rf_init_97 ?_
  refine hg_eq hp_up_up ?_
  refine hg_aload_n C 0 d_Rf_init_100 rfl rfl ?_
  refine hg_bipush (v := 20) C d_Rf_init_101 (by decide) ?_
  refine hg_newa (atype := .int) (ty := .int) (a0 := (20, .inl (fun _ => 0))) C 0 (kc kw49) rfl (fun _ z => FieldType.noConfusion z) rfl (fun _ => rfl) (by decide) rfl (by decide) (Nat.le_of_ble_eq_true rfl) (Nat.le_of_ble_eq_true rfl) d_Rf_init_103 (fun q23 hq_q23 => ?_)
  obtain ⟨n_q23, f_q23⟩ := hp_up_none hq_q23
  obtain ⟨L24, eL24⟩ : ∃ z, z = (q23, (.inl ((Γ.2.1 0), 20, .inl (fun _ => 0)) : va_E)) :: L22 := ⟨_, rfl⟩
  have FL24 : FR (fun _ => none) r L24 := by rw [eL24]; exact ⟨FL22, f_q23, n_q23⟩
  refine hg_eq (show hp_up (hp_up (ups (fun _ => none) L22) r (.inr (7, [.int 0, .int 0, .ref q1, .ref q3, .int 1, .ref q5, .ref q7, .ref q9, .ref q11, .int 0, .ref q13, .ref q15, .ref q17, .ref q19, .ref q21, .null, .null, .null, .null, .null, .null, .null, .int 0, .null, .null, .null, .int 0, .int 0, .null, .null, .null]))) q23 (.inl ((Γ.2.1 0), 20, .inl (fun _ => 0))) = hp_up (ups (fun _ => none) L24) r (.inr (7, [.int 0, .int 0, .ref q1, .ref q3, .int 1, .ref q5, .ref q7, .ref q9, .ref q11, .int 0, .ref q13, .ref q15, .ref q17, .ref q19, .ref q21, .null, .null, .null, .null, .null, .null, .null, .int 0, .null, .null, .null, .int 0, .int 0, .null, .null, .null])) by rw [eL24]; exact up_cm n_q23) ?_
  refine p_Rf_48 (fs' := [.int 0, .int 0, .ref q1, .ref q3, .int 1, .ref q5, .ref q7, .ref q9, .ref q11, .int 0, .ref q13, .ref q15, .ref q17, .ref q19, .ref q21, .ref q23, .null, .null, .null, .null, .null, .null, .int 0, .null, .null, .null, .int 0, .int 0, .null, .null, .null]) C hnm hp_up_s rfl rfl (Nat.le_of_ble_eq_true rfl) rfl d_Rf_init_105 ?_
  refine hg_eq hp_up_up ?_
  refine hg_aload_n C 0 d_Rf_init_108 rfl rfl ?_
  refine hg_sipush (v := 1200) C d_Rf_init_109 (by decide) ?_
  refine hg_newa (atype := .int) (ty := .int) (a0 := (1200, .inl (fun _ => 0))) C 0 (kc kw49) rfl (fun _ z => FieldType.noConfusion z) rfl (fun _ => rfl) (by decide) rfl (by decide) (Nat.le_of_ble_eq_true rfl) (Nat.le_of_ble_eq_true rfl) d_Rf_init_112 (fun q25 hq_q25 => ?_)
  obtain ⟨n_q25, f_q25⟩ := hp_up_none hq_q25
  obtain ⟨L26, eL26⟩ : ∃ z, z = (q25, (.inl ((Γ.2.1 0), 1200, .inl (fun _ => 0)) : va_E)) :: L24 := ⟨_, rfl⟩
  have FL26 : FR (fun _ => none) r L26 := by rw [eL26]; exact ⟨FL24, f_q25, n_q25⟩
  refine hg_eq (show hp_up (hp_up (ups (fun _ => none) L24) r (.inr (7, [.int 0, .int 0, .ref q1, .ref q3, .int 1, .ref q5, .ref q7, .ref q9, .ref q11, .int 0, .ref q13, .ref q15, .ref q17, .ref q19, .ref q21, .ref q23, .null, .null, .null, .null, .null, .null, .int 0, .null, .null, .null, .int 0, .int 0, .null, .null, .null]))) q25 (.inl ((Γ.2.1 0), 1200, .inl (fun _ => 0))) = hp_up (ups (fun _ => none) L26) r (.inr (7, [.int 0, .int 0, .ref q1, .ref q3, .int 1, .ref q5, .ref q7, .ref q9, .ref q11, .int 0, .ref q13, .ref q15, .ref q17, .ref q19, .ref q21, .ref q23, .null, .null, .null, .null, .null, .null, .int 0, .null, .null, .null, .int 0, .int 0, .null, .null, .null])) by rw [eL26]; exact up_cm n_q25) ?_
  refine p_Rf_51 (fs' := [.int 0, .int 0, .ref q1, .ref q3, .int 1, .ref q5, .ref q7, .ref q9, .ref q11, .int 0, .ref q13, .ref q15, .ref q17, .ref q19, .ref q21, .ref q23, .ref q25, .null, .null, .null, .null, .null, .int 0, .null, .null, .null, .int 0, .int 0, .null, .null, .null]) C hnm hp_up_s rfl rfl (Nat.le_of_ble_eq_true rfl) rfl d_Rf_init_114 ?_
  refine hg_eq hp_up_up ?_
  refine hg_aload_n C 0 d_Rf_init_117 rfl rfl ?_
  refine hg_sipush (v := 1200) C d_Rf_init_118 (by decide) ?_
  refine hg_newa (atype := .int) (ty := .int) (a0 := (1200, .inl (fun _ => 0))) C 0 (kc kw49) rfl (fun _ z => FieldType.noConfusion z) rfl (fun _ => rfl) (by decide) rfl (by decide) (Nat.le_of_ble_eq_true rfl) (Nat.le_of_ble_eq_true rfl) d_Rf_init_121 (fun q27 hq_q27 => ?_)
  obtain ⟨n_q27, f_q27⟩ := hp_up_none hq_q27
  obtain ⟨L28, eL28⟩ : ∃ z, z = (q27, (.inl ((Γ.2.1 0), 1200, .inl (fun _ => 0)) : va_E)) :: L26 := ⟨_, rfl⟩
  have FL28 : FR (fun _ => none) r L28 := by rw [eL28]; exact ⟨FL26, f_q27, n_q27⟩
  refine hg_eq (show hp_up (hp_up (ups (fun _ => none) L26) r (.inr (7, [.int 0, .int 0, .ref q1, .ref q3, .int 1, .ref q5, .ref q7, .ref q9, .ref q11, .int 0, .ref q13, .ref q15, .ref q17, .ref q19, .ref q21, .ref q23, .ref q25, .null, .null, .null, .null, .null, .int 0, .null, .null, .null, .int 0, .int 0, .null, .null, .null]))) q27 (.inl ((Γ.2.1 0), 1200, .inl (fun _ => 0))) = hp_up (ups (fun _ => none) L28) r (.inr (7, [.int 0, .int 0, .ref q1, .ref q3, .int 1, .ref q5, .ref q7, .ref q9, .ref q11, .int 0, .ref q13, .ref q15, .ref q17, .ref q19, .ref q21, .ref q23, .ref q25, .null, .null, .null, .null, .null, .int 0, .null, .null, .null, .int 0, .int 0, .null, .null, .null])) by rw [eL28]; exact up_cm n_q27) ?_
  refine p_Rf_54 (fs' := [.int 0, .int 0, .ref q1, .ref q3, .int 1, .ref q5, .ref q7, .ref q9, .ref q11, .int 0, .ref q13, .ref q15, .ref q17, .ref q19, .ref q21, .ref q23, .ref q25, .ref q27, .null, .null, .null, .null, .int 0, .null, .null, .null, .int 0, .int 0, .null, .null, .null]) C hnm hp_up_s rfl rfl (Nat.le_of_ble_eq_true rfl) rfl d_Rf_init_123 ?_
  refine hg_eq hp_up_up ?_
  refine hg_aload_n C 0 d_Rf_init_126 rfl rfl ?_
  refine hg_sipush (v := 1200) C d_Rf_init_127 (by decide) ?_
  refine hg_newa (atype := .int) (ty := .int) (a0 := (1200, .inl (fun _ => 0))) C 0 (kc kw49) rfl (fun _ z => FieldType.noConfusion z) rfl (fun _ => rfl) (by decide) rfl (by decide) (Nat.le_of_ble_eq_true rfl) (Nat.le_of_ble_eq_true rfl) d_Rf_init_130 (fun q29 hq_q29 => ?_)
  obtain ⟨n_q29, f_q29⟩ := hp_up_none hq_q29
  obtain ⟨L30, eL30⟩ : ∃ z, z = (q29, (.inl ((Γ.2.1 0), 1200, .inl (fun _ => 0)) : va_E)) :: L28 := ⟨_, rfl⟩
  have FL30 : FR (fun _ => none) r L30 := by rw [eL30]; exact ⟨FL28, f_q29, n_q29⟩
  refine hg_eq (show hp_up (hp_up (ups (fun _ => none) L28) r (.inr (7, [.int 0, .int 0, .ref q1, .ref q3, .int 1, .ref q5, .ref q7, .ref q9, .ref q11, .int 0, .ref q13, .ref q15, .ref q17, .ref q19, .ref q21, .ref q23, .ref q25, .ref q27, .null, .null, .null, .null, .int 0, .null, .null, .null, .int 0, .int 0, .null, .null, .null]))) q29 (.inl ((Γ.2.1 0), 1200, .inl (fun _ => 0))) = hp_up (ups (fun _ => none) L30) r (.inr (7, [.int 0, .int 0, .ref q1, .ref q3, .int 1, .ref q5, .ref q7, .ref q9, .ref q11, .int 0, .ref q13, .ref q15, .ref q17, .ref q19, .ref q21, .ref q23, .ref q25, .ref q27, .null, .null, .null, .null, .int 0, .null, .null, .null, .int 0, .int 0, .null, .null, .null])) by rw [eL30]; exact up_cm n_q29) ?_
  refine p_Rf_57 (fs' := [.int 0, .int 0, .ref q1, .ref q3, .int 1, .ref q5, .ref q7, .ref q9, .ref q11, .int 0, .ref q13, .ref q15, .ref q17, .ref q19, .ref q21, .ref q23, .ref q25, .ref q27, .ref q29, .null, .null, .null, .int 0, .null, .null, .null, .int 0, .int 0, .null, .null, .null]) C hnm hp_up_s rfl rfl (Nat.le_of_ble_eq_true rfl) rfl d_Rf_init_132 ?_
  refine hg_eq hp_up_up ?_
  refine hg_aload_n C 0 d_Rf_init_135 rfl rfl ?_
  refine hg_sipush (v := 1200) C d_Rf_init_136 (by decide) ?_
  refine hg_newa (atype := .int) (ty := .int) (a0 := (1200, .inl (fun _ => 0))) C 0 (kc kw49) rfl (fun _ z => FieldType.noConfusion z) rfl (fun _ => rfl) (by decide) rfl (by decide) (Nat.le_of_ble_eq_true rfl) (Nat.le_of_ble_eq_true rfl) d_Rf_init_139 (fun q31 hq_q31 => ?_)
  obtain ⟨n_q31, f_q31⟩ := hp_up_none hq_q31
  obtain ⟨L32, eL32⟩ : ∃ z, z = (q31, (.inl ((Γ.2.1 0), 1200, .inl (fun _ => 0)) : va_E)) :: L30 := ⟨_, rfl⟩
  have FL32 : FR (fun _ => none) r L32 := by rw [eL32]; exact ⟨FL30, f_q31, n_q31⟩
  refine hg_eq (show hp_up (hp_up (ups (fun _ => none) L30) r (.inr (7, [.int 0, .int 0, .ref q1, .ref q3, .int 1, .ref q5, .ref q7, .ref q9, .ref q11, .int 0, .ref q13, .ref q15, .ref q17, .ref q19, .ref q21, .ref q23, .ref q25, .ref q27, .ref q29, .null, .null, .null, .int 0, .null, .null, .null, .int 0, .int 0, .null, .null, .null]))) q31 (.inl ((Γ.2.1 0), 1200, .inl (fun _ => 0))) = hp_up (ups (fun _ => none) L32) r (.inr (7, [.int 0, .int 0, .ref q1, .ref q3, .int 1, .ref q5, .ref q7, .ref q9, .ref q11, .int 0, .ref q13, .ref q15, .ref q17, .ref q19, .ref q21, .ref q23, .ref q25, .ref q27, .ref q29, .null, .null, .null, .int 0, .null, .null, .null, .int 0, .int 0, .null, .null, .null])) by rw [eL32]; exact up_cm n_q31) ?_
  refine p_Rf_60 (fs' := [.int 0, .int 0, .ref q1, .ref q3, .int 1, .ref q5, .ref q7, .ref q9, .ref q11, .int 0, .ref q13, .ref q15, .ref q17, .ref q19, .ref q21, .ref q23, .ref q25, .ref q27, .ref q29, .ref q31, .null, .null, .int 0, .null, .null, .null, .int 0, .int 0, .null, .null, .null]) C hnm hp_up_s rfl rfl (Nat.le_of_ble_eq_true rfl) rfl d_Rf_init_141 ?_
  refine hg_eq hp_up_up ?_
  refine hg_aload_n C 0 d_Rf_init_144 rfl rfl ?_
  refine hg_sipush (v := 1200) C d_Rf_init_145 (by decide) ?_
  refine hg_newa (atype := .int) (ty := .int) (a0 := (1200, .inl (fun _ => 0))) C 0 (kc kw49) rfl (fun _ z => FieldType.noConfusion z) rfl (fun _ => rfl) (by decide) rfl (by decide) (Nat.le_of_ble_eq_true rfl) (Nat.le_of_ble_eq_true rfl) d_Rf_init_148 (fun q33 hq_q33 => ?_)
  obtain ⟨n_q33, f_q33⟩ := hp_up_none hq_q33
  obtain ⟨L34, eL34⟩ : ∃ z, z = (q33, (.inl ((Γ.2.1 0), 1200, .inl (fun _ => 0)) : va_E)) :: L32 := ⟨_, rfl⟩
  have FL34 : FR (fun _ => none) r L34 := by rw [eL34]; exact ⟨FL32, f_q33, n_q33⟩
  refine hg_eq (show hp_up (hp_up (ups (fun _ => none) L32) r (.inr (7, [.int 0, .int 0, .ref q1, .ref q3, .int 1, .ref q5, .ref q7, .ref q9, .ref q11, .int 0, .ref q13, .ref q15, .ref q17, .ref q19, .ref q21, .ref q23, .ref q25, .ref q27, .ref q29, .ref q31, .null, .null, .int 0, .null, .null, .null, .int 0, .int 0, .null, .null, .null]))) q33 (.inl ((Γ.2.1 0), 1200, .inl (fun _ => 0))) = hp_up (ups (fun _ => none) L34) r (.inr (7, [.int 0, .int 0, .ref q1, .ref q3, .int 1, .ref q5, .ref q7, .ref q9, .ref q11, .int 0, .ref q13, .ref q15, .ref q17, .ref q19, .ref q21, .ref q23, .ref q25, .ref q27, .ref q29, .ref q31, .null, .null, .int 0, .null, .null, .null, .int 0, .int 0, .null, .null, .null])) by rw [eL34]; exact up_cm n_q33) ?_
  refine p_Rf_63 (fs' := [.int 0, .int 0, .ref q1, .ref q3, .int 1, .ref q5, .ref q7, .ref q9, .ref q11, .int 0, .ref q13, .ref q15, .ref q17, .ref q19, .ref q21, .ref q23, .ref q25, .ref q27, .ref q29, .ref q31, .ref q33, .null, .int 0, .null, .null, .null, .int 0, .int 0, .null, .null, .null]) C hnm hp_up_s rfl rfl (Nat.le_of_ble_eq_true rfl) rfl d_Rf_init_150 ?_
  refine hg_eq hp_up_up ?_
  refine hg_aload_n C 0 d_Rf_init_153 rfl rfl ?_
  refine hg_sipush (v := 1200) C d_Rf_init_154 (by decide) ?_
  refine hg_newa (atype := .int) (ty := .int) (a0 := (1200, .inl (fun _ => 0))) C 0 (kc kw49) rfl (fun _ z => FieldType.noConfusion z) rfl (fun _ => rfl) (by decide) rfl (by decide) (Nat.le_of_ble_eq_true rfl) (Nat.le_of_ble_eq_true rfl) d_Rf_init_157 (fun q35 hq_q35 => ?_)
  obtain ⟨n_q35, f_q35⟩ := hp_up_none hq_q35
  obtain ⟨L36, eL36⟩ : ∃ z, z = (q35, (.inl ((Γ.2.1 0), 1200, .inl (fun _ => 0)) : va_E)) :: L34 := ⟨_, rfl⟩
  have FL36 : FR (fun _ => none) r L36 := by rw [eL36]; exact ⟨FL34, f_q35, n_q35⟩
  refine hg_eq (show hp_up (hp_up (ups (fun _ => none) L34) r (.inr (7, [.int 0, .int 0, .ref q1, .ref q3, .int 1, .ref q5, .ref q7, .ref q9, .ref q11, .int 0, .ref q13, .ref q15, .ref q17, .ref q19, .ref q21, .ref q23, .ref q25, .ref q27, .ref q29, .ref q31, .ref q33, .null, .int 0, .null, .null, .null, .int 0, .int 0, .null, .null, .null]))) q35 (.inl ((Γ.2.1 0), 1200, .inl (fun _ => 0))) = hp_up (ups (fun _ => none) L36) r (.inr (7, [.int 0, .int 0, .ref q1, .ref q3, .int 1, .ref q5, .ref q7, .ref q9, .ref q11, .int 0, .ref q13, .ref q15, .ref q17, .ref q19, .ref q21, .ref q23, .ref q25, .ref q27, .ref q29, .ref q31, .ref q33, .null, .int 0, .null, .null, .null, .int 0, .int 0, .null, .null, .null])) by rw [eL36]; exact up_cm n_q35) ?_
  refine p_Rf_66 (fs' := [.int 0, .int 0, .ref q1, .ref q3, .int 1, .ref q5, .ref q7, .ref q9, .ref q11, .int 0, .ref q13, .ref q15, .ref q17, .ref q19, .ref q21, .ref q23, .ref q25, .ref q27, .ref q29, .ref q31, .ref q33, .ref q35, .int 0, .null, .null, .null, .int 0, .int 0, .null, .null, .null]) C hnm hp_up_s rfl rfl (Nat.le_of_ble_eq_true rfl) rfl d_Rf_init_159 ?_
  refine hg_eq hp_up_up ?_
  refine hg_aload_n C 0 d_Rf_init_162 rfl rfl ?_
  refine hg_bipush (v := 10) C d_Rf_init_163 (by decide) ?_
  refine hg_newa (atype := .int) (ty := .int) (a0 := (10, .inl (fun _ => 0))) C 0 (kc kw49) rfl (fun _ z => FieldType.noConfusion z) rfl (fun _ => rfl) (by decide) rfl (by decide) (Nat.le_of_ble_eq_true rfl) (Nat.le_of_ble_eq_true rfl) d_Rf_init_165 (fun q37 hq_q37 => ?_)
  obtain ⟨n_q37, f_q37⟩ := hp_up_none hq_q37
  obtain ⟨L38, eL38⟩ : ∃ z, z = (q37, (.inl ((Γ.2.1 0), 10, .inl (fun _ => 0)) : va_E)) :: L36 := ⟨_, rfl⟩
  have FL38 : FR (fun _ => none) r L38 := by rw [eL38]; exact ⟨FL36, f_q37, n_q37⟩
  refine hg_eq (show hp_up (hp_up (ups (fun _ => none) L36) r (.inr (7, [.int 0, .int 0, .ref q1, .ref q3, .int 1, .ref q5, .ref q7, .ref q9, .ref q11, .int 0, .ref q13, .ref q15, .ref q17, .ref q19, .ref q21, .ref q23, .ref q25, .ref q27, .ref q29, .ref q31, .ref q33, .ref q35, .int 0, .null, .null, .null, .int 0, .int 0, .null, .null, .null]))) q37 (.inl ((Γ.2.1 0), 10, .inl (fun _ => 0))) = hp_up (ups (fun _ => none) L38) r (.inr (7, [.int 0, .int 0, .ref q1, .ref q3, .int 1, .ref q5, .ref q7, .ref q9, .ref q11, .int 0, .ref q13, .ref q15, .ref q17, .ref q19, .ref q21, .ref q23, .ref q25, .ref q27, .ref q29, .ref q31, .ref q33, .ref q35, .int 0, .null, .null, .null, .int 0, .int 0, .null, .null, .null])) by rw [eL38]; exact up_cm n_q37) ?_
  refine p_Rf_69 (fs' := [.int 0, .int 0, .ref q1, .ref q3, .int 1, .ref q5, .ref q7, .ref q9, .ref q11, .int 0, .ref q13, .ref q15, .ref q17, .ref q19, .ref q21, .ref q23, .ref q25, .ref q27, .ref q29, .ref q31, .ref q33, .ref q35, .int 0, .ref q37, .null, .null, .int 0, .int 0, .null, .null, .null]) C hnm hp_up_s rfl rfl (Nat.le_of_ble_eq_true rfl) rfl d_Rf_init_167 ?_
  refine hg_eq hp_up_up ?_
  refine hg_aload_n C 0 d_Rf_init_170 rfl rfl ?_
  refine hg_bipush (v := 10) C d_Rf_init_171 (by decide) ?_
  refine hg_newa (atype := .int) (ty := .int) (a0 := (10, .inl (fun _ => 0))) C 0 (kc kw49) rfl (fun _ z => FieldType.noConfusion z) rfl (fun _ => rfl) (by decide) rfl (by decide) (Nat.le_of_ble_eq_true rfl) (Nat.le_of_ble_eq_true rfl) d_Rf_init_173 (fun q39 hq_q39 => ?_)
  obtain ⟨n_q39, f_q39⟩ := hp_up_none hq_q39
  obtain ⟨L40, eL40⟩ : ∃ z, z = (q39, (.inl ((Γ.2.1 0), 10, .inl (fun _ => 0)) : va_E)) :: L38 := ⟨_, rfl⟩
  have FL40 : FR (fun _ => none) r L40 := by rw [eL40]; exact ⟨FL38, f_q39, n_q39⟩
  refine hg_eq (show hp_up (hp_up (ups (fun _ => none) L38) r (.inr (7, [.int 0, .int 0, .ref q1, .ref q3, .int 1, .ref q5, .ref q7, .ref q9, .ref q11, .int 0, .ref q13, .ref q15, .ref q17, .ref q19, .ref q21, .ref q23, .ref q25, .ref q27, .ref q29, .ref q31, .ref q33, .ref q35, .int 0, .ref q37, .null, .null, .int 0, .int 0, .null, .null, .null]))) q39 (.inl ((Γ.2.1 0), 10, .inl (fun _ => 0))) = hp_up (ups (fun _ => none) L40) r (.inr (7, [.int 0, .int 0, .ref q1, .ref q3, .int 1, .ref q5, .ref q7, .ref q9, .ref q11, .int 0, .ref q13, .ref q15, .ref q17, .ref q19, .ref q21, .ref q23, .ref q25, .ref q27, .ref q29, .ref q31, .ref q33, .ref q35, .int 0, .ref q37, .null, .null, .int 0, .int 0, .null, .null, .null])) by rw [eL40]; exact up_cm n_q39) ?_
  refine p_Rf_72 (fs' := [.int 0, .int 0, .ref q1, .ref q3, .int 1, .ref q5, .ref q7, .ref q9, .ref q11, .int 0, .ref q13, .ref q15, .ref q17, .ref q19, .ref q21, .ref q23, .ref q25, .ref q27, .ref q29, .ref q31, .ref q33, .ref q35, .int 0, .ref q37, .ref q39, .null, .int 0, .int 0, .null, .null, .null]) C hnm hp_up_s rfl rfl (Nat.le_of_ble_eq_true rfl) rfl d_Rf_init_175 ?_
  refine hg_eq hp_up_up ?_
  refine hg_aload_n C 0 d_Rf_init_178 rfl rfl ?_
  refine hg_bipush (v := 10) C d_Rf_init_179 (by decide) ?_
  refine hg_newa (atype := .int) (ty := .int) (a0 := (10, .inl (fun _ => 0))) C 0 (kc kw49) rfl (fun _ z => FieldType.noConfusion z) rfl (fun _ => rfl) (by decide) rfl (by decide) (Nat.le_of_ble_eq_true rfl) (Nat.le_of_ble_eq_true rfl) d_Rf_init_181 (fun q41 hq_q41 => ?_)
  obtain ⟨n_q41, f_q41⟩ := hp_up_none hq_q41
  obtain ⟨L42, eL42⟩ : ∃ z, z = (q41, (.inl ((Γ.2.1 0), 10, .inl (fun _ => 0)) : va_E)) :: L40 := ⟨_, rfl⟩
  have FL42 : FR (fun _ => none) r L42 := by rw [eL42]; exact ⟨FL40, f_q41, n_q41⟩
  refine hg_eq (show hp_up (hp_up (ups (fun _ => none) L40) r (.inr (7, [.int 0, .int 0, .ref q1, .ref q3, .int 1, .ref q5, .ref q7, .ref q9, .ref q11, .int 0, .ref q13, .ref q15, .ref q17, .ref q19, .ref q21, .ref q23, .ref q25, .ref q27, .ref q29, .ref q31, .ref q33, .ref q35, .int 0, .ref q37, .ref q39, .null, .int 0, .int 0, .null, .null, .null]))) q41 (.inl ((Γ.2.1 0), 10, .inl (fun _ => 0))) = hp_up (ups (fun _ => none) L42) r (.inr (7, [.int 0, .int 0, .ref q1, .ref q3, .int 1, .ref q5, .ref q7, .ref q9, .ref q11, .int 0, .ref q13, .ref q15, .ref q17, .ref q19, .ref q21, .ref q23, .ref q25, .ref q27, .ref q29, .ref q31, .ref q33, .ref q35, .int 0, .ref q37, .ref q39, .null, .int 0, .int 0, .null, .null, .null])) by rw [eL42]; exact up_cm n_q41) ?_
  refine p_Rf_75 (fs' := [.int 0, .int 0, .ref q1, .ref q3, .int 1, .ref q5, .ref q7, .ref q9, .ref q11, .int 0, .ref q13, .ref q15, .ref q17, .ref q19, .ref q21, .ref q23, .ref q25, .ref q27, .ref q29, .ref q31, .ref q33, .ref q35, .int 0, .ref q37, .ref q39, .ref q41, .int 0, .int 0, .null, .null, .null]) C hnm hp_up_s rfl rfl (Nat.le_of_ble_eq_true rfl) rfl d_Rf_init_183 ?_
  refine hg_eq hp_up_up ?_
  refine hg_aload_n C 0 d_Rf_init_186 rfl rfl ?_
  refine hg_iconst (v := (-1)) C d_Rf_init_187 (by decide) ?_
  refine p_Rf_78 (fs' := [.int 0, .int 0, .ref q1, .ref q3, .int 1, .ref q5, .ref q7, .ref q9, .ref q11, .int 0, .ref q13, .ref q15, .ref q17, .ref q19, .ref q21, .ref q23, .ref q25, .ref q27, .ref q29, .ref q31, .ref q33, .ref q35, .int 0, .ref q37, .ref q39, .ref q41, .int (-1), .int 0, .null, .null, .null]) C hp_up_s rfl rfl (Nat.le_of_ble_eq_true rfl) rfl d_Rf_init_188 ?_
  refine hg_eq hp_up_up ?_
  refine hg_aload_n C 0 d_Rf_init_191 rfl rfl ?_
  refine hg_sipush (v := 300) C d_Rf_init_192 (by decide) ?_
  refine hg_newa (atype := .int) (ty := .int) (a0 := (300, .inl (fun _ => 0))) C 0 (kc kw49) rfl (fun _ z => FieldType.noConfusion z) rfl (fun _ => rfl) (by decide) rfl (by decide) (Nat.le_of_ble_eq_true rfl) (Nat.le_of_ble_eq_true rfl) d_Rf_init_195 (fun q43 hq_q43 => ?_)
  obtain ⟨n_q43, f_q43⟩ := hp_up_none hq_q43
  obtain ⟨L44, eL44⟩ : ∃ z, z = (q43, (.inl ((Γ.2.1 0), 300, .inl (fun _ => 0)) : va_E)) :: L42 := ⟨_, rfl⟩
  have FL44 : FR (fun _ => none) r L44 := by rw [eL44]; exact ⟨FL42, f_q43, n_q43⟩
  refine hg_eq (show hp_up (hp_up (ups (fun _ => none) L42) r (.inr (7, [.int 0, .int 0, .ref q1, .ref q3, .int 1, .ref q5, .ref q7, .ref q9, .ref q11, .int 0, .ref q13, .ref q15, .ref q17, .ref q19, .ref q21, .ref q23, .ref q25, .ref q27, .ref q29, .ref q31, .ref q33, .ref q35, .int 0, .ref q37, .ref q39, .ref q41, .int (-1), .int 0, .null, .null, .null]))) q43 (.inl ((Γ.2.1 0), 300, .inl (fun _ => 0))) = hp_up (ups (fun _ => none) L44) r (.inr (7, [.int 0, .int 0, .ref q1, .ref q3, .int 1, .ref q5, .ref q7, .ref q9, .ref q11, .int 0, .ref q13, .ref q15, .ref q17, .ref q19, .ref q21, .ref q23, .ref q25, .ref q27, .ref q29, .ref q31, .ref q33, .ref q35, .int 0, .ref q37, .ref q39, .ref q41, .int (-1), .int 0, .null, .null, .null])) by rw [eL44]; exact up_cm n_q43) ?_
  refine p_Rf_81 (fs' := [.int 0, .int 0, .ref q1, .ref q3, .int 1, .ref q5, .ref q7, .ref q9, .ref q11, .int 0, .ref q13, .ref q15, .ref q17, .ref q19, .ref q21, .ref q23, .ref q25, .ref q27, .ref q29, .ref q31, .ref q33, .ref q35, .int 0, .ref q37, .ref q39, .ref q41, .int (-1), .int 0, .ref q43, .null, .null]) C hnm hp_up_s rfl rfl (Nat.le_of_ble_eq_true rfl) rfl d_Rf_init_197 ?_
  refine hg_eq hp_up_up ?_
  refine hg_aload_n C 0 d_Rf_init_200 rfl rfl ?_
  refine hg_sipush (v := 300) C d_Rf_init_201 (by decide) ?_
  refine hg_newa (atype := .int) (ty := .int) (a0 := (300, .inl (fun _ => 0))) C 0 (kc kw49) rfl (fun _ z => FieldType.noConfusion z) rfl (fun _ => rfl) (by decide) rfl (by decide) (Nat.le_of_ble_eq_true rfl) (Nat.le_of_ble_eq_true rfl) d_Rf_init_204 (fun q45 hq_q45 => ?_)
  obtain ⟨n_q45, f_q45⟩ := hp_up_none hq_q45
  obtain ⟨L46, eL46⟩ : ∃ z, z = (q45, (.inl ((Γ.2.1 0), 300, .inl (fun _ => 0)) : va_E)) :: L44 := ⟨_, rfl⟩
  have FL46 : FR (fun _ => none) r L46 := by rw [eL46]; exact ⟨FL44, f_q45, n_q45⟩
  refine hg_eq (show hp_up (hp_up (ups (fun _ => none) L44) r (.inr (7, [.int 0, .int 0, .ref q1, .ref q3, .int 1, .ref q5, .ref q7, .ref q9, .ref q11, .int 0, .ref q13, .ref q15, .ref q17, .ref q19, .ref q21, .ref q23, .ref q25, .ref q27, .ref q29, .ref q31, .ref q33, .ref q35, .int 0, .ref q37, .ref q39, .ref q41, .int (-1), .int 0, .ref q43, .null, .null]))) q45 (.inl ((Γ.2.1 0), 300, .inl (fun _ => 0))) = hp_up (ups (fun _ => none) L46) r (.inr (7, [.int 0, .int 0, .ref q1, .ref q3, .int 1, .ref q5, .ref q7, .ref q9, .ref q11, .int 0, .ref q13, .ref q15, .ref q17, .ref q19, .ref q21, .ref q23, .ref q25, .ref q27, .ref q29, .ref q31, .ref q33, .ref q35, .int 0, .ref q37, .ref q39, .ref q41, .int (-1), .int 0, .ref q43, .null, .null])) by rw [eL46]; exact up_cm n_q45) ?_
  refine p_Rf_84 (fs' := [.int 0, .int 0, .ref q1, .ref q3, .int 1, .ref q5, .ref q7, .ref q9, .ref q11, .int 0, .ref q13, .ref q15, .ref q17, .ref q19, .ref q21, .ref q23, .ref q25, .ref q27, .ref q29, .ref q31, .ref q33, .ref q35, .int 0, .ref q37, .ref q39, .ref q41, .int (-1), .int 0, .ref q43, .ref q45, .null]) C hnm hp_up_s rfl rfl (Nat.le_of_ble_eq_true rfl) rfl d_Rf_init_206 ?_
  refine hg_eq hp_up_up ?_
  refine hg_aload_n C 0 d_Rf_init_209 rfl rfl ?_
  refine hg_sipush (v := 300) C d_Rf_init_210 (by decide) ?_
  refine hg_newa (atype := .int) (ty := .int) (a0 := (300, .inl (fun _ => 0))) C 0 (kc kw49) rfl (fun _ z => FieldType.noConfusion z) rfl (fun _ => rfl) (by decide) rfl (by decide) (Nat.le_of_ble_eq_true rfl) (Nat.le_of_ble_eq_true rfl) d_Rf_init_213 (fun q47 hq_q47 => ?_)
  obtain ⟨n_q47, f_q47⟩ := hp_up_none hq_q47
  obtain ⟨L48, eL48⟩ : ∃ z, z = (q47, (.inl ((Γ.2.1 0), 300, .inl (fun _ => 0)) : va_E)) :: L46 := ⟨_, rfl⟩
  have FL48 : FR (fun _ => none) r L48 := by rw [eL48]; exact ⟨FL46, f_q47, n_q47⟩
  refine hg_eq (show hp_up (hp_up (ups (fun _ => none) L46) r (.inr (7, [.int 0, .int 0, .ref q1, .ref q3, .int 1, .ref q5, .ref q7, .ref q9, .ref q11, .int 0, .ref q13, .ref q15, .ref q17, .ref q19, .ref q21, .ref q23, .ref q25, .ref q27, .ref q29, .ref q31, .ref q33, .ref q35, .int 0, .ref q37, .ref q39, .ref q41, .int (-1), .int 0, .ref q43, .ref q45, .null]))) q47 (.inl ((Γ.2.1 0), 300, .inl (fun _ => 0))) = hp_up (ups (fun _ => none) L48) r (.inr (7, [.int 0, .int 0, .ref q1, .ref q3, .int 1, .ref q5, .ref q7, .ref q9, .ref q11, .int 0, .ref q13, .ref q15, .ref q17, .ref q19, .ref q21, .ref q23, .ref q25, .ref q27, .ref q29, .ref q31, .ref q33, .ref q35, .int 0, .ref q37, .ref q39, .ref q41, .int (-1), .int 0, .ref q43, .ref q45, .null])) by rw [eL48]; exact up_cm n_q47) ?_
  refine p_Rf_87 (fs' := [.int 0, .int 0, .ref q1, .ref q3, .int 1, .ref q5, .ref q7, .ref q9, .ref q11, .int 0, .ref q13, .ref q15, .ref q17, .ref q19, .ref q21, .ref q23, .ref q25, .ref q27, .ref q29, .ref q31, .ref q33, .ref q35, .int 0, .ref q37, .ref q39, .ref q41, .int (-1), .int 0, .ref q43, .ref q45, .ref q47]) C hnm hp_up_s rfl rfl (Nat.le_of_ble_eq_true rfl) rfl d_Rf_init_215 ?_
  refine hg_eq hp_up_up ?_
  obtain ⟨aa, ea⟩ : ∃ z : Nat → Nat, z = fun k => match k with
    | 2 => q1
    | 3 => q3
    | 5 => q5
    | 6 => q7
    | 7 => q9
    | 8 => q11
    | 10 => q13
    | 11 => q15
    | 12 => q17
    | 13 => q19
    | 14 => q21
    | 15 => q23
    | 16 => q25
    | 17 => q27
    | 18 => q29
    | 19 => q31
    | 20 => q33
    | 21 => q35
    | 23 => q37
    | 24 => q39
    | 25 => q41
    | 28 => q43
    | 29 => q45
    | 30 => q47
    | _ => 0 := ⟨_, rfl⟩
  have fL : L48 = [(q47, (.inl (Γ.2.1 (rf_cls 30), rf_len 30, .inl (m_0 30)) : va_E)), (q45, (.inl (Γ.2.1 (rf_cls 29), rf_len 29, .inl (m_0 29)) : va_E)), (q43, (.inl (Γ.2.1 (rf_cls 28), rf_len 28, .inl (m_0 28)) : va_E)), (q41, (.inl (Γ.2.1 (rf_cls 25), rf_len 25, .inl (m_0 25)) : va_E)), (q39, (.inl (Γ.2.1 (rf_cls 24), rf_len 24, .inl (m_0 24)) : va_E)), (q37, (.inl (Γ.2.1 (rf_cls 23), rf_len 23, .inl (m_0 23)) : va_E)), (q35, (.inl (Γ.2.1 (rf_cls 21), rf_len 21, .inl (m_0 21)) : va_E)), (q33, (.inl (Γ.2.1 (rf_cls 20), rf_len 20, .inl (m_0 20)) : va_E)), (q31, (.inl (Γ.2.1 (rf_cls 19), rf_len 19, .inl (m_0 19)) : va_E)), (q29, (.inl (Γ.2.1 (rf_cls 18), rf_len 18, .inl (m_0 18)) : va_E)), (q27, (.inl (Γ.2.1 (rf_cls 17), rf_len 17, .inl (m_0 17)) : va_E)), (q25, (.inl (Γ.2.1 (rf_cls 16), rf_len 16, .inl (m_0 16)) : va_E)), (q23, (.inl (Γ.2.1 (rf_cls 15), rf_len 15, .inl (m_0 15)) : va_E)), (q21, (.inl (Γ.2.1 (rf_cls 14), rf_len 14, .inl (m_0 14)) : va_E)), (q19, (.inl (Γ.2.1 (rf_cls 13), rf_len 13, .inl (m_0 13)) : va_E)), (q17, (.inl (Γ.2.1 (rf_cls 12), rf_len 12, .inl (m_0 12)) : va_E)), (q15, (.inl (Γ.2.1 (rf_cls 11), rf_len 11, .inl (m_0 11)) : va_E)), (q13, (.inl (Γ.2.1 (rf_cls 10), rf_len 10, .inl (m_0 10)) : va_E)), (q11, (.inl (Γ.2.1 (rf_cls 8), rf_len 8, .inl (m_0 8)) : va_E)), (q9, (.inl (Γ.2.1 (rf_cls 7), rf_len 7, .inl (m_0 7)) : va_E)), (q7, (.inl (Γ.2.1 (rf_cls 6), rf_len 6, .inl (m_0 6)) : va_E)), (q5, (.inl (Γ.2.1 (rf_cls 5), rf_len 5, .inl (m_0 5)) : va_E)), (q3, (.inl (Γ.2.1 (rf_cls 3), rf_len 3, .inl (m_0 3)) : va_E)), (q1, (.inl (Γ.2.1 (rf_cls 2), rf_len 2, .inl (m_0 2)) : va_E))] := by
    rw [eL48, eL46, eL44, eL42, eL40, eL38, eL36, eL34, eL32, eL30, eL28, eL26, eL24, eL22, eL20, eL18, eL16, eL14, eL12, eL10, eL8, eL6, eL4, eL2] <;> rfl
  have gt : ∀ k, rf_arr k = true → L48[rf_ix k]? = some (aa k, (.inl (Γ.2.1 (rf_cls k), rf_len k, .inl (m_0 k)) : va_E)) := fun k hk => by
    have hk := of_decide_eq_true hk
    simp only [List.mem_cons, List.not_mem_nil, or_false] at hk
    rw [fL, ea]
    rcases hk with rfl | rfl | rfl | rfl | rfl | rfl | rfl | rfl | rfl | rfl | rfl | rfl | rfl | rfl | rfl | rfl | rfl | rfl | rfl | rfl | rfl | rfl | rfl | rfl <;> rfl
  have gx : ∀ k, rf_arr k = true → k ∈ [2, 3, 5, 6, 7, 8, 10, 11, 12, 13, 14, 15, 16, 17, 18, 19, 20, 21, 23, 24, 25, 28, 29, 30] := fun k hk => of_decide_eq_true hk
  exact hg_vretN C hr d_Rf_init_218 (Nat.le_of_ble_eq_true rfl) (Nat.le_of_ble_eq_true rfl) (⟨rfl, aa, by rw [hp_up_s]; rw [ea]; rfl, fun k hk => by have g := FR.get FL48 (gt k hk); rw [hp_up_n g.2]; exact g.1, fun j k hj hk z => rf_ix_inj j (gx j hj) k (gx k hk) (FR.inj FL48 (gt j hj) (gt k hk) z)⟩)
theorem cr_start {Γ : Gam} {u : Pic} {ad : Nat → Nat → Nat} {a b1 b2 b3 b4 b5 b6 b7 b8 b9 v st cb og : Nat} {L : List Nat} (a0_ : ∀ i, ad 0 i = a) (a1_ : ∀ i, ad 1 i = b1) (a2_ : ∀ i, ad 2 i = b2) (a3_ : ∀ i, ad 3 i = b3) (a4_ : ∀ i, ad 4 i = b4) (a5_ : ∀ i, ad 5 i = b5) (a6_ : ∀ i, ad 6 i = b6) (a7_ : ∀ i, ad 7 i = b7) (a8_ : ∀ i, ad 8 i = b8) (a9_ : ∀ i, ad 9 i = b9) (a14_ : ∀ i, ad 14 i = v) (a15_ : ∀ i, ad 15 i = st) (a16_ : ∀ i, ad 16 i = cb) (a17_ : ∀ i, ad 17 i = og) (k0_ : u a = some (.inr (6, [.ref b1, .ref b2, .int 0, .ref b3, .int 0, .ref b4, .int 1, .ref v, .ref b5, .int 0, .ref b6, .null]))) (k1_ : u b1 = some (.inl (Γ.2.1 0, 60, .inl (fun _ => 0)))) (k2_ : u b2 = some (.inl (Γ.2.1 0, 60, .inl (fun _ => 0)))) (k3_ : u b3 = some (.inl (Γ.2.1 3, 20, .inr (.inr (.inr (.inr (fun _ => none))))))) (k4_ : u b4 = some (.inl (Γ.2.1 4, 40, .inr (.inr (.inr (.inr (va_up (fun _ => none) (0 : Int32).toNatClampNeg (some v)))))))) (k5_ : u b5 = some (.inl (Γ.2.1 5, 10, .inr (.inr (.inr (.inr (fun _ => none))))))) (k6_ : u b6 = some (.inr (0, [.ref b7, .ref b8, .ref b9, .int 0]))) (k7_ : u b7 = some (.inl (Γ.2.1 0, 300, .inl (fun _ => 0)))) (k8_ : u b8 = some (.inl (Γ.2.1 0, 300, .inl (fun _ => 0)))) (k9_ : u b9 = some (.inl (Γ.2.1 0, 300, .inl (fun _ => 0)))) (k14_ : u v = some (.inr (5, [.int 0, .int (-1), .ref st, .ref og]))) (k15_ : u st = some (.inr (4, [.ref cb]))) (k16_ : u cb = some (.inl (Γ.2.1 0, 360, .inl (fun _ => 0)))) (k17_ : u og = some (.inl (Γ.2.1 0, 300, .inl (fun _ => 0)))) (D : ND L) (ix : Nat → Nat) (hix : ∀ j ∈ [0, 1, 2, 3, 4, 5, 6, 7, 8, 9, 14, 15, 16, 17], ∀ k ∈ [0, 1, 2, 3, 4, 5, 6, 7, 8, 9, 14, 15, 16, 17], ix j = ix k → j = k) (hL : L[ix 0]? = some a ∧ L[ix 1]? = some b1 ∧ L[ix 2]? = some b2 ∧ L[ix 3]? = some b3 ∧ L[ix 4]? = some b4 ∧ L[ix 5]? = some b5 ∧ L[ix 6]? = some b6 ∧ L[ix 7]? = some b7 ∧ L[ix 8]? = some b8 ∧ L[ix 9]? = some b9 ∧ L[ix 14]? = some v ∧ L[ix 15]? = some st ∧ L[ix 16]? = some cb ∧ L[ix 17]? = some og) : cr_at Γ ad m_0 u := by
  have hS : nS m_0 = 0 := by decide
  have hV : nV m_0 = 1 := by decide
  have hR : nR m_0 = 0 := by decide
  have ep : cr_pen ad m_0 = .null := if_pos (by decide)
  have ro : ∀ k i, liv m_0 k i → i = 0 ∧ k ∈ [0, 1, 2, 3, 4, 5, 6, 7, 8, 9, 14, 15, 16, 17] := fun k i h => by
    rcases h with ⟨h1, h2⟩ | ⟨h1, h2, h3⟩ | ⟨rfl, s, j, h1, -⟩ | ⟨h1, h2, h3⟩ | ⟨rfl, h1⟩
    · refine ⟨h2, ?_⟩
      rcases (show k = 0 ∨ k = 1 ∨ k = 2 ∨ k = 3 ∨ k = 4 ∨ k = 5 ∨ k = 6 ∨ k = 7 ∨ k = 8 ∨ k = 9 by omega) with rfl | rfl | rfl | rfl | rfl | rfl | rfl | rfl | rfl | rfl <;> decide
    · omega
    · omega
    · refine ⟨by omega, ?_⟩
      rcases (show k = 14 ∨ k = 15 ∨ k = 16 ∨ k = 17 by omega) with rfl | rfl | rfl | rfl <;> decide
    · omega
  have gt : ∀ k, k ∈ [0, 1, 2, 3, 4, 5, 6, 7, 8, 9, 14, 15, 16, 17] → L[ix k]? = some (ad k 0) := fun k hk => by
    obtain ⟨l0, l1, l2, l3, l4, l5, l6, l7, l8, l9, l14, l15, l16, l17⟩ := hL
    simp only [List.mem_cons, List.not_mem_nil, or_false] at hk
    rcases hk with rfl | rfl | rfl | rfl | rfl | rfl | rfl | rfl | rfl | rfl | rfl | rfl | rfl | rfl
    · rw [l0, a0_]
    · rw [l1, a1_]
    · rw [l2, a2_]
    · rw [l3, a3_]
    · rw [l4, a4_]
    · rw [l5, a5_]
    · rw [l6, a6_]
    · rw [l7, a7_]
    · rw [l8, a8_]
    · rw [l9, a9_]
    · rw [l14, a14_]
    · rw [l15, a15_]
    · rw [l16, a16_]
    · rw [l17, a17_]
  refine ⟨liv_all (le9 ?_ ?_ ?_ ?_ ?_ ?_ ?_ ?_ ?_ ?_) (fun s hs => absurd hs (by omega)) (fun s j hs => absurd hs (by omega)) (fun w hw => ?_) (fun r hr => absurd hr (by omega)), fun k i k' i' h1 h2 z => ?_⟩
  · rw [a0_, k0_, cc, a1_, a2_, a3_, a4_, a14_, a5_, a6_, ep]
    rfl
  · rw [a1_, k1_]; rfl
  · rw [a2_, k2_]; rfl
  · rw [a3_, k3_, cc, hS]
    exact congrArg (fun z => (some (.inl (Γ.2.1 3, 20, .inr (.inr (.inr (.inr z))))) : Option va_E)) (funext fun j => (if_neg (by omega)).symm)
  · rw [a4_, k4_, cc, hV]
    refine congrArg (fun z => (some (.inl (Γ.2.1 4, 40, .inr (.inr (.inr (.inr z))))) : Option va_E)) (funext fun j => ?_)
    by_cases hj : j = 0
    · rw [hj, if_pos (by omega), a14_]; exact va_up_self _ _ _
    · rw [if_neg (by omega)]; exact va_up_ne _ _ hj
  · rw [a5_, k5_, cc, hR]
    exact congrArg (fun z => (some (.inl (Γ.2.1 5, 10, .inr (.inr (.inr (.inr z))))) : Option va_E)) (funext fun j => (if_neg (by omega)).symm)
  · rw [a6_, k6_, cc, a7_, a8_, a9_]; rfl
  · rw [a7_, k7_]; rfl
  · rw [a8_, k8_]; rfl
  · rw [a9_, k9_]; rfl
  · have hw0 : w = 0 := by omega
    subst hw0
    refine ⟨?_, ?_, ?_, ?_⟩
    · rw [a14_, k14_, cc, a15_, a17_]; rfl
    · rw [a15_, k15_, cc, a16_]
    · rw [a16_, k16_, cc]
      refine congrArg (fun z => (some (.inl (Γ.2.1 0, 360, .inl z)) : Option va_E)) (funext fun j => ?_)
      unfold vc
      by_cases h3 : j < 360
      · rw [if_pos h3]
        by_cases h6 : j % 6 = 0
        · rw [if_pos h6]; rfl
        · rw [if_neg h6]; rfl
      · rw [if_neg h3]
    · rw [a17_, k17_]; rfl
  · obtain ⟨e1, m1⟩ := ro k i h1
    obtain ⟨e2, m2⟩ := ro k' i' h2
    subst e1
    subst e2
    refine ⟨hix k m1 k' m2 (ND.inj D (gt k m1) ?_), rfl⟩
    rw [z]
    exact gt k' m2
abbrev rm_MM_init : Room := { frames := 2, cells := 13, slots := 1759, locals := 43 }
set_option maxHeartbeats 4000000 in
set_option maxRecDepth 100000 in
theorem k_MM_init (l : Launch) (Γ : Gam) (h : Pic) (a : Nat) (ha : h a = some (.inr (6, [.null, .null, .int 0, .null, .int 0, .null, .int 0, .null, .null, .int 0, .null, .null]))) : kN l Γ y_MM_init w_MM_init rm_MM_init [.ref a] h (fun q u => q = none ∧ ∃ ad : Nat → Nat → Nat, ad 0 0 = a ∧ cr_at Γ ad m_0 u) 13 1759 := by
  refine hg_entryN (own := "ModelMerge") (cc := b_MM_init) (maxL := 1) (ret := none) (lv0 := [(0, .ref a)]) (by decide) rfl rfl (Nat.le_of_ble_eq_true rfl) rfl ?_
  intro p e s m args below meth c A C hnm hr
  have D0_ : DM h [a] := ⟨fun x hx => by have e9 := List.mem_singleton.mp hx; rw [e9]; exact ⟨_, ha⟩, (show (∀ x ∈ ([] : List Nat), x ≠ a) ∧ ND [] from ⟨fun x hx => absurd hx List.not_mem_nil, trivial⟩)⟩
  refine hg_aload_n C 0 d_MM_init_0 rfl rfl ?_
  refine o_MM_3 C (Nat.le_of_ble_eq_true rfl) (Nat.le_of_ble_eq_true rfl) d_MM_init_1 ?_
  refine hg_aload_n C 0 d_MM_init_4 rfl rfl ?_
  refine hg_bipush (v := 60) C d_MM_init_5 (by decide) ?_
  refine hg_newa (atype := .int) (ty := .int) (a0 := (60, .inl (fun _ => 0))) C 0 (kc kw49) rfl (fun _ z => FieldType.noConfusion z) rfl (fun _ => rfl) (by decide) rfl (by decide) (Nat.le_of_ble_eq_true rfl) (Nat.le_of_ble_eq_true rfl) d_MM_init_7 (fun q1 hq_q1 => ?_)
  obtain ⟨h2, eh2⟩ : ∃ z, z = hp_up h q1 (.inl ((Γ.2.1 0), 60, .inl (fun _ => 0))) := ⟨_, rfl⟩
  refine hg_eq eh2.symm ?_
  have k3 : h2 a = some (.inr (6, [.null, .null, .int 0, .null, .int 0, .null, .int 0, .null, .null, .int 0, .null, .null])) := by rw [eh2]; exact hp_up_g ha (fun z => by rw [z, hq_q1] at ha; cases ha)
  have k4 : h2 q1 = some (.inl ((Γ.2.1 0), 60, .inl (fun _ => 0))) := by rw [eh2]; exact hp_up_s
  have Dh2 : DM h2 [q1, a] := by rw [eh2]; exact DM.new D0_ hq_q1
  refine p_MM_9 (fs' := [.ref q1, .null, .int 0, .null, .int 0, .null, .int 0, .null, .null, .int 0, .null, .null]) C hnm k3 rfl rfl (Nat.le_of_ble_eq_true rfl) rfl d_MM_init_9 ?_
  obtain ⟨h5, eh5⟩ : ∃ z, z = hp_up h2 a (.inr (6, [.ref q1, .null, .int 0, .null, .int 0, .null, .int 0, .null, .null, .int 0, .null, .null])) := ⟨_, rfl⟩
  refine hg_eq eh5.symm ?_
  have k6 : h5 q1 = some (.inl ((Γ.2.1 0), 60, .inl (fun _ => 0))) := by rw [eh5]; exact hp_up_g k4 (ND.ne Dh2.2 0 1 rfl rfl (by decide))
  have k7 : h5 a = some (.inr (6, [.ref q1, .null, .int 0, .null, .int 0, .null, .int 0, .null, .null, .int 0, .null, .null])) := by rw [eh5]; exact hp_up_s
  have Dh5 : DM h5 [q1, a] := by rw [eh5]; exact DM.up Dh2
  refine hg_aload_n C 0 d_MM_init_12 rfl rfl ?_
  refine hg_bipush (v := 60) C d_MM_init_13 (by decide) ?_
  refine hg_newa (atype := .int) (ty := .int) (a0 := (60, .inl (fun _ => 0))) C 0 (kc kw49) rfl (fun _ z => FieldType.noConfusion z) rfl (fun _ => rfl) (by decide) rfl (by decide) (Nat.le_of_ble_eq_true rfl) (Nat.le_of_ble_eq_true rfl) d_MM_init_15 (fun q8 hq_q8 => ?_)
  obtain ⟨h9, eh9⟩ : ∃ z, z = hp_up h5 q8 (.inl ((Γ.2.1 0), 60, .inl (fun _ => 0))) := ⟨_, rfl⟩
  refine hg_eq eh9.symm ?_
  have k10 : h9 q1 = some (.inl ((Γ.2.1 0), 60, .inl (fun _ => 0))) := by rw [eh9]; exact hp_up_g k6 (fun z => by rw [z, hq_q8] at k6; cases k6)
  have k11 : h9 a = some (.inr (6, [.ref q1, .null, .int 0, .null, .int 0, .null, .int 0, .null, .null, .int 0, .null, .null])) := by rw [eh9]; exact hp_up_g k7 (fun z => by rw [z, hq_q8] at k7; cases k7)
  have k12 : h9 q8 = some (.inl ((Γ.2.1 0), 60, .inl (fun _ => 0))) := by rw [eh9]; exact hp_up_s
  have Dh9 : DM h9 [q8, q1, a] := by rw [eh9]; exact DM.new Dh5 hq_q8
  refine p_MM_13 (fs' := [.ref q1, .ref q8, .int 0, .null, .int 0, .null, .int 0, .null, .null, .int 0, .null, .null]) C hnm k11 rfl rfl (Nat.le_of_ble_eq_true rfl) rfl d_MM_init_17 ?_
  obtain ⟨h13, eh13⟩ : ∃ z, z = hp_up h9 a (.inr (6, [.ref q1, .ref q8, .int 0, .null, .int 0, .null, .int 0, .null, .null, .int 0, .null, .null])) := ⟨_, rfl⟩
  refine hg_eq eh13.symm ?_
  have k14 : h13 q1 = some (.inl ((Γ.2.1 0), 60, .inl (fun _ => 0))) := by rw [eh13]; exact hp_up_g k10 (ND.ne Dh9.2 1 2 rfl rfl (by decide))
  have k15 : h13 q8 = some (.inl ((Γ.2.1 0), 60, .inl (fun _ => 0))) := by rw [eh13]; exact hp_up_g k12 (ND.ne Dh9.2 0 2 rfl rfl (by decide))
  have k16 : h13 a = some (.inr (6, [.ref q1, .ref q8, .int 0, .null, .int 0, .null, .int 0, .null, .null, .int 0, .null, .null])) := by rw [eh13]; exact hp_up_s
  have Dh13 : DM h13 [q8, q1, a] := by rw [eh13]; exact DM.up Dh9
  refine hg_aload_n C 0 d_MM_init_20 rfl rfl ?_
  refine hg_iconst (v := 0) C d_MM_init_21 (by decide) ?_
  refine p_MM_16 (fs' := [.ref q1, .ref q8, .int 0, .null, .int 0, .null, .int 0, .null, .null, .int 0, .null, .null]) C k16 rfl rfl (Nat.le_of_ble_eq_true rfl) rfl d_MM_init_22 ?_
  obtain ⟨h17, eh17⟩ : ∃ z, z = hp_up h13 a (.inr (6, [.ref q1, .ref q8, .int 0, .null, .int 0, .null, .int 0, .null, .null, .int 0, .null, .null])) := ⟨_, rfl⟩
  refine hg_eq eh17.symm ?_
  have k18 : h17 q1 = some (.inl ((Γ.2.1 0), 60, .inl (fun _ => 0))) := by rw [eh17]; exact hp_up_g k14 (ND.ne Dh13.2 1 2 rfl rfl (by decide))
  have k19 : h17 q8 = some (.inl ((Γ.2.1 0), 60, .inl (fun _ => 0))) := by rw [eh17]; exact hp_up_g k15 (ND.ne Dh13.2 0 2 rfl rfl (by decide))
  have k20 : h17 a = some (.inr (6, [.ref q1, .ref q8, .int 0, .null, .int 0, .null, .int 0, .null, .null, .int 0, .null, .null])) := by rw [eh17]; exact hp_up_s
  have Dh17 : DM h17 [q8, q1, a] := by rw [eh17]; exact DM.up Dh13
  refine hg_aload_n C 0 d_MM_init_25 rfl rfl ?_
  refine hg_bipush (v := 20) C d_MM_init_26 (by decide) ?_
  refine hg_newq C 3 (kc kw23) (by decide +kernel) rfl (by decide) rfl (by decide) (Nat.le_of_ble_eq_true rfl) (Nat.le_of_ble_eq_true rfl) d_MM_init_28 (fun q21 hq_q21 => ?_)
  obtain ⟨h22, eh22⟩ : ∃ z, z = hp_up h17 q21 (.inl ((Γ.2.1 3), 20, .inr (.inr (.inr (.inr (fun _ => none)))))) := ⟨_, rfl⟩
  refine hg_eq eh22.symm ?_
  have k23 : h22 q1 = some (.inl ((Γ.2.1 0), 60, .inl (fun _ => 0))) := by rw [eh22]; exact hp_up_g k18 (fun z => by rw [z, hq_q21] at k18; cases k18)
  have k24 : h22 q8 = some (.inl ((Γ.2.1 0), 60, .inl (fun _ => 0))) := by rw [eh22]; exact hp_up_g k19 (fun z => by rw [z, hq_q21] at k19; cases k19)
  have k25 : h22 a = some (.inr (6, [.ref q1, .ref q8, .int 0, .null, .int 0, .null, .int 0, .null, .null, .int 0, .null, .null])) := by rw [eh22]; exact hp_up_g k20 (fun z => by rw [z, hq_q21] at k20; cases k20)
  have k26 : h22 q21 = some (.inl ((Γ.2.1 3), 20, .inr (.inr (.inr (.inr (fun _ => none)))))) := by rw [eh22]; exact hp_up_s
  have Dh22 : DM h22 [q21, q8, q1, a] := by rw [eh22]; exact DM.new Dh17 hq_q21
  refine p_MM_22 (fs' := [.ref q1, .ref q8, .int 0, .ref q21, .int 0, .null, .int 0, .null, .null, .int 0, .null, .null]) C hnm k25 rfl rfl (Nat.le_of_ble_eq_true rfl) rfl d_MM_init_31 ?_
  obtain ⟨h27, eh27⟩ : ∃ z, z = hp_up h22 a (.inr (6, [.ref q1, .ref q8, .int 0, .ref q21, .int 0, .null, .int 0, .null, .null, .int 0, .null, .null])) := ⟨_, rfl⟩
  refine hg_eq eh27.symm ?_
  have k28 : h27 q1 = some (.inl ((Γ.2.1 0), 60, .inl (fun _ => 0))) := by rw [eh27]; exact hp_up_g k23 (ND.ne Dh22.2 2 3 rfl rfl (by decide))
  have k29 : h27 q8 = some (.inl ((Γ.2.1 0), 60, .inl (fun _ => 0))) := by rw [eh27]; exact hp_up_g k24 (ND.ne Dh22.2 1 3 rfl rfl (by decide))
  have k30 : h27 q21 = some (.inl ((Γ.2.1 3), 20, .inr (.inr (.inr (.inr (fun _ => none)))))) := by rw [eh27]; exact hp_up_g k26 (ND.ne Dh22.2 0 3 rfl rfl (by decide))
  have k31 : h27 a = some (.inr (6, [.ref q1, .ref q8, .int 0, .ref q21, .int 0, .null, .int 0, .null, .null, .int 0, .null, .null])) := by rw [eh27]; exact hp_up_s
  have Dh27 : DM h27 [q21, q8, q1, a] := by rw [eh27]; exact DM.up Dh22
  refine hg_aload_n C 0 d_MM_init_34 rfl rfl ?_
  refine hg_iconst (v := 0) C d_MM_init_35 (by decide) ?_
  refine p_MM_26 (fs' := [.ref q1, .ref q8, .int 0, .ref q21, .int 0, .null, .int 0, .null, .null, .int 0, .null, .null]) C k31 rfl rfl (Nat.le_of_ble_eq_true rfl) rfl d_MM_init_36 ?_
  obtain ⟨h32, eh32⟩ : ∃ z, z = hp_up h27 a (.inr (6, [.ref q1, .ref q8, .int 0, .ref q21, .int 0, .null, .int 0, .null, .null, .int 0, .null, .null])) := ⟨_, rfl⟩
  refine hg_eq eh32.symm ?_
  have k33 : h32 q1 = some (.inl ((Γ.2.1 0), 60, .inl (fun _ => 0))) := by rw [eh32]; exact hp_up_g k28 (ND.ne Dh27.2 2 3 rfl rfl (by decide))
  have k34 : h32 q8 = some (.inl ((Γ.2.1 0), 60, .inl (fun _ => 0))) := by rw [eh32]; exact hp_up_g k29 (ND.ne Dh27.2 1 3 rfl rfl (by decide))
  have k35 : h32 q21 = some (.inl ((Γ.2.1 3), 20, .inr (.inr (.inr (.inr (fun _ => none)))))) := by rw [eh32]; exact hp_up_g k30 (ND.ne Dh27.2 0 3 rfl rfl (by decide))
  have k36 : h32 a = some (.inr (6, [.ref q1, .ref q8, .int 0, .ref q21, .int 0, .null, .int 0, .null, .null, .int 0, .null, .null])) := by rw [eh32]; exact hp_up_s
  have Dh32 : DM h32 [q21, q8, q1, a] := by rw [eh32]; exact DM.up Dh27
  refine hg_aload_n C 0 d_MM_init_39 rfl rfl ?_
  refine hg_bipush (v := 40) C d_MM_init_40 (by decide) ?_
  refine hg_newq C 4 (kc kw25) (by decide +kernel) rfl (by decide) rfl (by decide) (Nat.le_of_ble_eq_true rfl) (Nat.le_of_ble_eq_true rfl) d_MM_init_42 (fun q37 hq_q37 => ?_)
  obtain ⟨h38, eh38⟩ : ∃ z, z = hp_up h32 q37 (.inl ((Γ.2.1 4), 40, .inr (.inr (.inr (.inr (fun _ => none)))))) := ⟨_, rfl⟩
  refine hg_eq eh38.symm ?_
  have k39 : h38 q1 = some (.inl ((Γ.2.1 0), 60, .inl (fun _ => 0))) := by rw [eh38]; exact hp_up_g k33 (fun z => by rw [z, hq_q37] at k33; cases k33)
  have k40 : h38 q8 = some (.inl ((Γ.2.1 0), 60, .inl (fun _ => 0))) := by rw [eh38]; exact hp_up_g k34 (fun z => by rw [z, hq_q37] at k34; cases k34)
  have k41 : h38 q21 = some (.inl ((Γ.2.1 3), 20, .inr (.inr (.inr (.inr (fun _ => none)))))) := by rw [eh38]; exact hp_up_g k35 (fun z => by rw [z, hq_q37] at k35; cases k35)
  have k42 : h38 a = some (.inr (6, [.ref q1, .ref q8, .int 0, .ref q21, .int 0, .null, .int 0, .null, .null, .int 0, .null, .null])) := by rw [eh38]; exact hp_up_g k36 (fun z => by rw [z, hq_q37] at k36; cases k36)
  have k43 : h38 q37 = some (.inl ((Γ.2.1 4), 40, .inr (.inr (.inr (.inr (fun _ => none)))))) := by rw [eh38]; exact hp_up_s
  have Dh38 : DM h38 [q37, q21, q8, q1, a] := by rw [eh38]; exact DM.new Dh32 hq_q37
  refine p_MM_31 (fs' := [.ref q1, .ref q8, .int 0, .ref q21, .int 0, .ref q37, .int 0, .null, .null, .int 0, .null, .null]) C hnm k42 rfl rfl (Nat.le_of_ble_eq_true rfl) rfl d_MM_init_45 ?_
  obtain ⟨h44, eh44⟩ : ∃ z, z = hp_up h38 a (.inr (6, [.ref q1, .ref q8, .int 0, .ref q21, .int 0, .ref q37, .int 0, .null, .null, .int 0, .null, .null])) := ⟨_, rfl⟩
  refine hg_eq eh44.symm ?_
  have k45 : h44 q1 = some (.inl ((Γ.2.1 0), 60, .inl (fun _ => 0))) := by rw [eh44]; exact hp_up_g k39 (ND.ne Dh38.2 3 4 rfl rfl (by decide))
  have k46 : h44 q8 = some (.inl ((Γ.2.1 0), 60, .inl (fun _ => 0))) := by rw [eh44]; exact hp_up_g k40 (ND.ne Dh38.2 2 4 rfl rfl (by decide))
  have k47 : h44 q21 = some (.inl ((Γ.2.1 3), 20, .inr (.inr (.inr (.inr (fun _ => none)))))) := by rw [eh44]; exact hp_up_g k41 (ND.ne Dh38.2 1 4 rfl rfl (by decide))
  have k48 : h44 q37 = some (.inl ((Γ.2.1 4), 40, .inr (.inr (.inr (.inr (fun _ => none)))))) := by rw [eh44]; exact hp_up_g k43 (ND.ne Dh38.2 0 4 rfl rfl (by decide))
  have k49 : h44 a = some (.inr (6, [.ref q1, .ref q8, .int 0, .ref q21, .int 0, .ref q37, .int 0, .null, .null, .int 0, .null, .null])) := by rw [eh44]; exact hp_up_s
  have Dh44 : DM h44 [q37, q21, q8, q1, a] := by rw [eh44]; exact DM.up Dh38
  refine hg_aload_n C 0 d_MM_init_48 rfl rfl ?_
  refine hg_iconst (v := 0) C d_MM_init_49 (by decide) ?_
  refine p_MM_35 (fs' := [.ref q1, .ref q8, .int 0, .ref q21, .int 0, .ref q37, .int 0, .null, .null, .int 0, .null, .null]) C k49 rfl rfl (Nat.le_of_ble_eq_true rfl) rfl d_MM_init_50 ?_
  obtain ⟨h50, eh50⟩ : ∃ z, z = hp_up h44 a (.inr (6, [.ref q1, .ref q8, .int 0, .ref q21, .int 0, .ref q37, .int 0, .null, .null, .int 0, .null, .null])) := ⟨_, rfl⟩
  refine hg_eq eh50.symm ?_
  have k51 : h50 q1 = some (.inl ((Γ.2.1 0), 60, .inl (fun _ => 0))) := by rw [eh50]; exact hp_up_g k45 (ND.ne Dh44.2 3 4 rfl rfl (by decide))
  have k52 : h50 q8 = some (.inl ((Γ.2.1 0), 60, .inl (fun _ => 0))) := by rw [eh50]; exact hp_up_g k46 (ND.ne Dh44.2 2 4 rfl rfl (by decide))
  have k53 : h50 q21 = some (.inl ((Γ.2.1 3), 20, .inr (.inr (.inr (.inr (fun _ => none)))))) := by rw [eh50]; exact hp_up_g k47 (ND.ne Dh44.2 1 4 rfl rfl (by decide))
  have k54 : h50 q37 = some (.inl ((Γ.2.1 4), 40, .inr (.inr (.inr (.inr (fun _ => none)))))) := by rw [eh50]; exact hp_up_g k48 (ND.ne Dh44.2 0 4 rfl rfl (by decide))
  have k55 : h50 a = some (.inr (6, [.ref q1, .ref q8, .int 0, .ref q21, .int 0, .ref q37, .int 0, .null, .null, .int 0, .null, .null])) := by rw [eh50]; exact hp_up_s
  have Dh50 : DM h50 [q37, q21, q8, q1, a] := by rw [eh50]; exact DM.up Dh44
  refine hg_aload_n C 0 d_MM_init_53 rfl rfl ?_
  refine hg_bipush (v := 10) C d_MM_init_54 (by decide) ?_
  refine hg_newq C 5 (kc kw27) (by decide +kernel) rfl (by decide) rfl (by decide) (Nat.le_of_ble_eq_true rfl) (Nat.le_of_ble_eq_true rfl) d_MM_init_56 (fun q56 hq_q56 => ?_)
  obtain ⟨h57, eh57⟩ : ∃ z, z = hp_up h50 q56 (.inl ((Γ.2.1 5), 10, .inr (.inr (.inr (.inr (fun _ => none)))))) := ⟨_, rfl⟩
  refine hg_eq eh57.symm ?_
  have k58 : h57 q1 = some (.inl ((Γ.2.1 0), 60, .inl (fun _ => 0))) := by rw [eh57]; exact hp_up_g k51 (fun z => by rw [z, hq_q56] at k51; cases k51)
  have k59 : h57 q8 = some (.inl ((Γ.2.1 0), 60, .inl (fun _ => 0))) := by rw [eh57]; exact hp_up_g k52 (fun z => by rw [z, hq_q56] at k52; cases k52)
  have k60 : h57 q21 = some (.inl ((Γ.2.1 3), 20, .inr (.inr (.inr (.inr (fun _ => none)))))) := by rw [eh57]; exact hp_up_g k53 (fun z => by rw [z, hq_q56] at k53; cases k53)
  have k61 : h57 q37 = some (.inl ((Γ.2.1 4), 40, .inr (.inr (.inr (.inr (fun _ => none)))))) := by rw [eh57]; exact hp_up_g k54 (fun z => by rw [z, hq_q56] at k54; cases k54)
  have k62 : h57 a = some (.inr (6, [.ref q1, .ref q8, .int 0, .ref q21, .int 0, .ref q37, .int 0, .null, .null, .int 0, .null, .null])) := by rw [eh57]; exact hp_up_g k55 (fun z => by rw [z, hq_q56] at k55; cases k55)
  have k63 : h57 q56 = some (.inl ((Γ.2.1 5), 10, .inr (.inr (.inr (.inr (fun _ => none)))))) := by rw [eh57]; exact hp_up_s
  have Dh57 : DM h57 [q56, q37, q21, q8, q1, a] := by rw [eh57]; exact DM.new Dh50 hq_q56
  refine p_MM_40 (fs' := [.ref q1, .ref q8, .int 0, .ref q21, .int 0, .ref q37, .int 0, .null, .ref q56, .int 0, .null, .null]) C hnm k62 rfl rfl (Nat.le_of_ble_eq_true rfl) rfl d_MM_init_59 ?_
  obtain ⟨h64, eh64⟩ : ∃ z, z = hp_up h57 a (.inr (6, [.ref q1, .ref q8, .int 0, .ref q21, .int 0, .ref q37, .int 0, .null, .ref q56, .int 0, .null, .null])) := ⟨_, rfl⟩
  refine hg_eq eh64.symm ?_
  have k65 : h64 q1 = some (.inl ((Γ.2.1 0), 60, .inl (fun _ => 0))) := by rw [eh64]; exact hp_up_g k58 (ND.ne Dh57.2 4 5 rfl rfl (by decide))
  have k66 : h64 q8 = some (.inl ((Γ.2.1 0), 60, .inl (fun _ => 0))) := by rw [eh64]; exact hp_up_g k59 (ND.ne Dh57.2 3 5 rfl rfl (by decide))
  have k67 : h64 q21 = some (.inl ((Γ.2.1 3), 20, .inr (.inr (.inr (.inr (fun _ => none)))))) := by rw [eh64]; exact hp_up_g k60 (ND.ne Dh57.2 2 5 rfl rfl (by decide))
  have k68 : h64 q37 = some (.inl ((Γ.2.1 4), 40, .inr (.inr (.inr (.inr (fun _ => none)))))) := by rw [eh64]; exact hp_up_g k61 (ND.ne Dh57.2 1 5 rfl rfl (by decide))
  have k69 : h64 q56 = some (.inl ((Γ.2.1 5), 10, .inr (.inr (.inr (.inr (fun _ => none)))))) := by rw [eh64]; exact hp_up_g k63 (ND.ne Dh57.2 0 5 rfl rfl (by decide))
  have k70 : h64 a = some (.inr (6, [.ref q1, .ref q8, .int 0, .ref q21, .int 0, .ref q37, .int 0, .null, .ref q56, .int 0, .null, .null])) := by rw [eh64]; exact hp_up_s
  have Dh64 : DM h64 [q56, q37, q21, q8, q1, a] := by rw [eh64]; exact DM.up Dh57
  refine hg_aload_n C 0 d_MM_init_62 rfl rfl ?_
  refine hg_iconst (v := 0) C d_MM_init_63 (by decide) ?_
  refine p_MM_44 (fs' := [.ref q1, .ref q8, .int 0, .ref q21, .int 0, .ref q37, .int 0, .null, .ref q56, .int 0, .null, .null]) C k70 rfl rfl (Nat.le_of_ble_eq_true rfl) rfl d_MM_init_64 ?_
  obtain ⟨h71, eh71⟩ : ∃ z, z = hp_up h64 a (.inr (6, [.ref q1, .ref q8, .int 0, .ref q21, .int 0, .ref q37, .int 0, .null, .ref q56, .int 0, .null, .null])) := ⟨_, rfl⟩
  refine hg_eq eh71.symm ?_
  have k72 : h71 q1 = some (.inl ((Γ.2.1 0), 60, .inl (fun _ => 0))) := by rw [eh71]; exact hp_up_g k65 (ND.ne Dh64.2 4 5 rfl rfl (by decide))
  have k73 : h71 q8 = some (.inl ((Γ.2.1 0), 60, .inl (fun _ => 0))) := by rw [eh71]; exact hp_up_g k66 (ND.ne Dh64.2 3 5 rfl rfl (by decide))
  have k74 : h71 q21 = some (.inl ((Γ.2.1 3), 20, .inr (.inr (.inr (.inr (fun _ => none)))))) := by rw [eh71]; exact hp_up_g k67 (ND.ne Dh64.2 2 5 rfl rfl (by decide))
  have k75 : h71 q37 = some (.inl ((Γ.2.1 4), 40, .inr (.inr (.inr (.inr (fun _ => none)))))) := by rw [eh71]; exact hp_up_g k68 (ND.ne Dh64.2 1 5 rfl rfl (by decide))
  have k76 : h71 q56 = some (.inl ((Γ.2.1 5), 10, .inr (.inr (.inr (.inr (fun _ => none)))))) := by rw [eh71]; exact hp_up_g k69 (ND.ne Dh64.2 0 5 rfl rfl (by decide))
  have k77 : h71 a = some (.inr (6, [.ref q1, .ref q8, .int 0, .ref q21, .int 0, .ref q37, .int 0, .null, .ref q56, .int 0, .null, .null])) := by rw [eh71]; exact hp_up_s
  have Dh71 : DM h71 [q56, q37, q21, q8, q1, a] := by rw [eh71]; exact DM.up Dh64
  refine hg_aload_n C 0 d_MM_init_67 rfl rfl ?_
  refine n_MM_47 C (Nat.le_of_ble_eq_true rfl) (Nat.le_of_ble_eq_true rfl) d_MM_init_68 (fun q78 hq_q78 => ?_)
  obtain ⟨h79, eh79⟩ : ∃ z, z = hp_up h71 q78 (.inr (0, [.null, .null, .null, .int 0])) := ⟨_, rfl⟩
  refine hg_eq eh79.symm ?_
  have k80 : h79 q1 = some (.inl ((Γ.2.1 0), 60, .inl (fun _ => 0))) := by rw [eh79]; exact hp_up_g k72 (fun z => by rw [z, hq_q78] at k72; cases k72)
  have k81 : h79 q8 = some (.inl ((Γ.2.1 0), 60, .inl (fun _ => 0))) := by rw [eh79]; exact hp_up_g k73 (fun z => by rw [z, hq_q78] at k73; cases k73)
  have k82 : h79 q21 = some (.inl ((Γ.2.1 3), 20, .inr (.inr (.inr (.inr (fun _ => none)))))) := by rw [eh79]; exact hp_up_g k74 (fun z => by rw [z, hq_q78] at k74; cases k74)
  have k83 : h79 q37 = some (.inl ((Γ.2.1 4), 40, .inr (.inr (.inr (.inr (fun _ => none)))))) := by rw [eh79]; exact hp_up_g k75 (fun z => by rw [z, hq_q78] at k75; cases k75)
  have k84 : h79 q56 = some (.inl ((Γ.2.1 5), 10, .inr (.inr (.inr (.inr (fun _ => none)))))) := by rw [eh79]; exact hp_up_g k76 (fun z => by rw [z, hq_q78] at k76; cases k76)
  have k85 : h79 a = some (.inr (6, [.ref q1, .ref q8, .int 0, .ref q21, .int 0, .ref q37, .int 0, .null, .ref q56, .int 0, .null, .null])) := by rw [eh79]; exact hp_up_g k77 (fun z => by rw [z, hq_q78] at k77; cases k77)
  have k86 : h79 q78 = some (.inr (0, [.null, .null, .null, .int 0])) := by rw [eh79]; exact hp_up_s
  have Dh79 : DM h79 [q78, q56, q37, q21, q8, q1, a] := by rw [eh79]; exact DM.new Dh71 hq_q78
  refine hg_dup C d_MM_init_71 rfl ?_
  refine hg_INz (host := "ModelMerge") C (k_Cf_init l Γ _ q78 k86) kcode_Cf_init (by decide +kernel) kw2 kw32 rfl rfl rfl (by decide +kernel) ⟨Nat.le_of_ble_eq_true rfl, Nat.le_of_ble_eq_true rfl⟩ rfl rfl (Nat.le_of_ble_eq_true rfl) d_MM_init_72 ⟨Nat.le_of_ble_eq_true rfl, Nat.le_of_ble_eq_true rfl⟩ (fun uc hu => ?_)
  obtain ⟨qx7, qx8, qx9, hq_qx7, nq8, nq9, n78, n79, n89, uca, uc7, uc8, uc9, ucz⟩ := hu
  obtain ⟨hx7, ehx7⟩ : ∃ z, z = hp_up h79 qx7 (.inl ((Γ.2.1 0), 300, .inl (fun _ => 0))) := ⟨_, rfl⟩
  obtain ⟨hx8, ehx8⟩ : ∃ z, z = hp_up hx7 qx8 (.inl ((Γ.2.1 0), 300, .inl (fun _ => 0))) := ⟨_, rfl⟩
  obtain ⟨hx9, ehx9⟩ : ∃ z, z = hp_up hx8 qx9 (.inl ((Γ.2.1 0), 300, .inl (fun _ => 0))) := ⟨_, rfl⟩
  have euc : uc = hp_up hx9 q78 (.inr (0, [.ref qx7, .ref qx8, .ref qx9, .int 0])) := by rw [ehx9, ehx8, ehx7]; exact fr4 uc7 uc8 uc9 uca (fun z a b c d => ucz z d a b c)
  have hq_qx8 : hx7 qx8 = none := by rw [ehx7, hp_up_n (Ne.symm n78)]; exact nq8
  have hq_qx9 : hx8 qx9 = none := by rw [ehx8, hp_up_n (Ne.symm n89), ehx7, hp_up_n (Ne.symm n79)]; exact nq9
  have k87 : hx7 q1 = some (.inl ((Γ.2.1 0), 60, .inl (fun _ => 0))) := by rw [ehx7]; exact hp_up_g k80 (fun z => by rw [z, hq_qx7] at k80; cases k80)
  have k88 : hx7 q8 = some (.inl ((Γ.2.1 0), 60, .inl (fun _ => 0))) := by rw [ehx7]; exact hp_up_g k81 (fun z => by rw [z, hq_qx7] at k81; cases k81)
  have k89 : hx7 q21 = some (.inl ((Γ.2.1 3), 20, .inr (.inr (.inr (.inr (fun _ => none)))))) := by rw [ehx7]; exact hp_up_g k82 (fun z => by rw [z, hq_qx7] at k82; cases k82)
  have k90 : hx7 q37 = some (.inl ((Γ.2.1 4), 40, .inr (.inr (.inr (.inr (fun _ => none)))))) := by rw [ehx7]; exact hp_up_g k83 (fun z => by rw [z, hq_qx7] at k83; cases k83)
  have k91 : hx7 q56 = some (.inl ((Γ.2.1 5), 10, .inr (.inr (.inr (.inr (fun _ => none)))))) := by rw [ehx7]; exact hp_up_g k84 (fun z => by rw [z, hq_qx7] at k84; cases k84)
  have k92 : hx7 a = some (.inr (6, [.ref q1, .ref q8, .int 0, .ref q21, .int 0, .ref q37, .int 0, .null, .ref q56, .int 0, .null, .null])) := by rw [ehx7]; exact hp_up_g k85 (fun z => by rw [z, hq_qx7] at k85; cases k85)
  have k93 : hx7 q78 = some (.inr (0, [.null, .null, .null, .int 0])) := by rw [ehx7]; exact hp_up_g k86 (fun z => by rw [z, hq_qx7] at k86; cases k86)
  have k94 : hx7 qx7 = some (.inl ((Γ.2.1 0), 300, .inl (fun _ => 0))) := by rw [ehx7]; exact hp_up_s
  have Dhx7 : DM hx7 [qx7, q78, q56, q37, q21, q8, q1, a] := by rw [ehx7]; exact DM.new Dh79 hq_qx7
  have k95 : hx8 q1 = some (.inl ((Γ.2.1 0), 60, .inl (fun _ => 0))) := by rw [ehx8]; exact hp_up_g k87 (fun z => by rw [z, hq_qx8] at k87; cases k87)
  have k96 : hx8 q8 = some (.inl ((Γ.2.1 0), 60, .inl (fun _ => 0))) := by rw [ehx8]; exact hp_up_g k88 (fun z => by rw [z, hq_qx8] at k88; cases k88)
  have k97 : hx8 q21 = some (.inl ((Γ.2.1 3), 20, .inr (.inr (.inr (.inr (fun _ => none)))))) := by rw [ehx8]; exact hp_up_g k89 (fun z => by rw [z, hq_qx8] at k89; cases k89)
  have k98 : hx8 q37 = some (.inl ((Γ.2.1 4), 40, .inr (.inr (.inr (.inr (fun _ => none)))))) := by rw [ehx8]; exact hp_up_g k90 (fun z => by rw [z, hq_qx8] at k90; cases k90)
  have k99 : hx8 q56 = some (.inl ((Γ.2.1 5), 10, .inr (.inr (.inr (.inr (fun _ => none)))))) := by rw [ehx8]; exact hp_up_g k91 (fun z => by rw [z, hq_qx8] at k91; cases k91)
  have k100 : hx8 a = some (.inr (6, [.ref q1, .ref q8, .int 0, .ref q21, .int 0, .ref q37, .int 0, .null, .ref q56, .int 0, .null, .null])) := by rw [ehx8]; exact hp_up_g k92 (fun z => by rw [z, hq_qx8] at k92; cases k92)
  have k101 : hx8 q78 = some (.inr (0, [.null, .null, .null, .int 0])) := by rw [ehx8]; exact hp_up_g k93 (fun z => by rw [z, hq_qx8] at k93; cases k93)
  have k102 : hx8 qx7 = some (.inl ((Γ.2.1 0), 300, .inl (fun _ => 0))) := by rw [ehx8]; exact hp_up_g k94 (fun z => by rw [z, hq_qx8] at k94; cases k94)
  have k103 : hx8 qx8 = some (.inl ((Γ.2.1 0), 300, .inl (fun _ => 0))) := by rw [ehx8]; exact hp_up_s
  have Dhx8 : DM hx8 [qx8, qx7, q78, q56, q37, q21, q8, q1, a] := by rw [ehx8]; exact DM.new Dhx7 hq_qx8
  have k104 : hx9 q1 = some (.inl ((Γ.2.1 0), 60, .inl (fun _ => 0))) := by rw [ehx9]; exact hp_up_g k95 (fun z => by rw [z, hq_qx9] at k95; cases k95)
  have k105 : hx9 q8 = some (.inl ((Γ.2.1 0), 60, .inl (fun _ => 0))) := by rw [ehx9]; exact hp_up_g k96 (fun z => by rw [z, hq_qx9] at k96; cases k96)
  have k106 : hx9 q21 = some (.inl ((Γ.2.1 3), 20, .inr (.inr (.inr (.inr (fun _ => none)))))) := by rw [ehx9]; exact hp_up_g k97 (fun z => by rw [z, hq_qx9] at k97; cases k97)
  have k107 : hx9 q37 = some (.inl ((Γ.2.1 4), 40, .inr (.inr (.inr (.inr (fun _ => none)))))) := by rw [ehx9]; exact hp_up_g k98 (fun z => by rw [z, hq_qx9] at k98; cases k98)
  have k108 : hx9 q56 = some (.inl ((Γ.2.1 5), 10, .inr (.inr (.inr (.inr (fun _ => none)))))) := by rw [ehx9]; exact hp_up_g k99 (fun z => by rw [z, hq_qx9] at k99; cases k99)
  have k109 : hx9 a = some (.inr (6, [.ref q1, .ref q8, .int 0, .ref q21, .int 0, .ref q37, .int 0, .null, .ref q56, .int 0, .null, .null])) := by rw [ehx9]; exact hp_up_g k100 (fun z => by rw [z, hq_qx9] at k100; cases k100)
  have k110 : hx9 q78 = some (.inr (0, [.null, .null, .null, .int 0])) := by rw [ehx9]; exact hp_up_g k101 (fun z => by rw [z, hq_qx9] at k101; cases k101)
  have k111 : hx9 qx7 = some (.inl ((Γ.2.1 0), 300, .inl (fun _ => 0))) := by rw [ehx9]; exact hp_up_g k102 (fun z => by rw [z, hq_qx9] at k102; cases k102)
  have k112 : hx9 qx8 = some (.inl ((Γ.2.1 0), 300, .inl (fun _ => 0))) := by rw [ehx9]; exact hp_up_g k103 (fun z => by rw [z, hq_qx9] at k103; cases k103)
  have k113 : hx9 qx9 = some (.inl ((Γ.2.1 0), 300, .inl (fun _ => 0))) := by rw [ehx9]; exact hp_up_s
  have Dhx9 : DM hx9 [qx9, qx8, qx7, q78, q56, q37, q21, q8, q1, a] := by rw [ehx9]; exact DM.new Dhx8 hq_qx9
  have k114 : uc q1 = some (.inl ((Γ.2.1 0), 60, .inl (fun _ => 0))) := by rw [euc]; exact hp_up_g k104 (ND.ne Dhx9.2 8 3 rfl rfl (by decide))
  have k115 : uc q8 = some (.inl ((Γ.2.1 0), 60, .inl (fun _ => 0))) := by rw [euc]; exact hp_up_g k105 (ND.ne Dhx9.2 7 3 rfl rfl (by decide))
  have k116 : uc q21 = some (.inl ((Γ.2.1 3), 20, .inr (.inr (.inr (.inr (fun _ => none)))))) := by rw [euc]; exact hp_up_g k106 (ND.ne Dhx9.2 6 3 rfl rfl (by decide))
  have k117 : uc q37 = some (.inl ((Γ.2.1 4), 40, .inr (.inr (.inr (.inr (fun _ => none)))))) := by rw [euc]; exact hp_up_g k107 (ND.ne Dhx9.2 5 3 rfl rfl (by decide))
  have k118 : uc q56 = some (.inl ((Γ.2.1 5), 10, .inr (.inr (.inr (.inr (fun _ => none)))))) := by rw [euc]; exact hp_up_g k108 (ND.ne Dhx9.2 4 3 rfl rfl (by decide))
  have k119 : uc a = some (.inr (6, [.ref q1, .ref q8, .int 0, .ref q21, .int 0, .ref q37, .int 0, .null, .ref q56, .int 0, .null, .null])) := by rw [euc]; exact hp_up_g k109 (ND.ne Dhx9.2 9 3 rfl rfl (by decide))
  have k120 : uc qx7 = some (.inl ((Γ.2.1 0), 300, .inl (fun _ => 0))) := by rw [euc]; exact hp_up_g k111 (ND.ne Dhx9.2 2 3 rfl rfl (by decide))
  have k121 : uc qx8 = some (.inl ((Γ.2.1 0), 300, .inl (fun _ => 0))) := by rw [euc]; exact hp_up_g k112 (ND.ne Dhx9.2 1 3 rfl rfl (by decide))
  have k122 : uc qx9 = some (.inl ((Γ.2.1 0), 300, .inl (fun _ => 0))) := by rw [euc]; exact hp_up_g k113 (ND.ne Dhx9.2 0 3 rfl rfl (by decide))
  have k123 : uc q78 = some (.inr (0, [.ref qx7, .ref qx8, .ref qx9, .int 0])) := by rw [euc]; exact hp_up_s
  have Duc : DM uc [qx9, qx8, qx7, q78, q56, q37, q21, q8, q1, a] := by rw [euc]; exact DM.up Dhx9
  refine p_MM_50 (fs' := [.ref q1, .ref q8, .int 0, .ref q21, .int 0, .ref q37, .int 0, .null, .ref q56, .int 0, .ref q78, .null]) C hnm k119 rfl rfl (Nat.le_of_ble_eq_true rfl) rfl d_MM_init_75 ?_
  obtain ⟨h124, eh124⟩ : ∃ z, z = hp_up uc a (.inr (6, [.ref q1, .ref q8, .int 0, .ref q21, .int 0, .ref q37, .int 0, .null, .ref q56, .int 0, .ref q78, .null])) := ⟨_, rfl⟩
  refine hg_eq eh124.symm ?_
  have k125 : h124 q1 = some (.inl ((Γ.2.1 0), 60, .inl (fun _ => 0))) := by rw [eh124]; exact hp_up_g k114 (ND.ne Duc.2 8 9 rfl rfl (by decide))
  have k126 : h124 q8 = some (.inl ((Γ.2.1 0), 60, .inl (fun _ => 0))) := by rw [eh124]; exact hp_up_g k115 (ND.ne Duc.2 7 9 rfl rfl (by decide))
  have k127 : h124 q21 = some (.inl ((Γ.2.1 3), 20, .inr (.inr (.inr (.inr (fun _ => none)))))) := by rw [eh124]; exact hp_up_g k116 (ND.ne Duc.2 6 9 rfl rfl (by decide))
  have k128 : h124 q37 = some (.inl ((Γ.2.1 4), 40, .inr (.inr (.inr (.inr (fun _ => none)))))) := by rw [eh124]; exact hp_up_g k117 (ND.ne Duc.2 5 9 rfl rfl (by decide))
  have k129 : h124 q56 = some (.inl ((Γ.2.1 5), 10, .inr (.inr (.inr (.inr (fun _ => none)))))) := by rw [eh124]; exact hp_up_g k118 (ND.ne Duc.2 4 9 rfl rfl (by decide))
  have k130 : h124 qx7 = some (.inl ((Γ.2.1 0), 300, .inl (fun _ => 0))) := by rw [eh124]; exact hp_up_g k120 (ND.ne Duc.2 2 9 rfl rfl (by decide))
  have k131 : h124 qx8 = some (.inl ((Γ.2.1 0), 300, .inl (fun _ => 0))) := by rw [eh124]; exact hp_up_g k121 (ND.ne Duc.2 1 9 rfl rfl (by decide))
  have k132 : h124 qx9 = some (.inl ((Γ.2.1 0), 300, .inl (fun _ => 0))) := by rw [eh124]; exact hp_up_g k122 (ND.ne Duc.2 0 9 rfl rfl (by decide))
  have k133 : h124 q78 = some (.inr (0, [.ref qx7, .ref qx8, .ref qx9, .int 0])) := by rw [eh124]; exact hp_up_g k123 (ND.ne Duc.2 3 9 rfl rfl (by decide))
  have k134 : h124 a = some (.inr (6, [.ref q1, .ref q8, .int 0, .ref q21, .int 0, .ref q37, .int 0, .null, .ref q56, .int 0, .ref q78, .null])) := by rw [eh124]; exact hp_up_s
  have Dh124 : DM h124 [qx9, qx8, qx7, q78, q56, q37, q21, q8, q1, a] := by rw [eh124]; exact DM.up Duc
  refine hg_aload_n C 0 d_MM_init_78 rfl rfl ?_
  refine hg_null C d_MM_init_79 ?_
  refine p_MM_54 (fs' := [.ref q1, .ref q8, .int 0, .ref q21, .int 0, .ref q37, .int 0, .null, .ref q56, .int 0, .ref q78, .null]) C k134 rfl rfl (Nat.le_of_ble_eq_true rfl) rfl d_MM_init_80 ?_
  obtain ⟨h135, eh135⟩ : ∃ z, z = hp_up h124 a (.inr (6, [.ref q1, .ref q8, .int 0, .ref q21, .int 0, .ref q37, .int 0, .null, .ref q56, .int 0, .ref q78, .null])) := ⟨_, rfl⟩
  refine hg_eq eh135.symm ?_
  have k136 : h135 q1 = some (.inl ((Γ.2.1 0), 60, .inl (fun _ => 0))) := by rw [eh135]; exact hp_up_g k125 (ND.ne Dh124.2 8 9 rfl rfl (by decide))
  have k137 : h135 q8 = some (.inl ((Γ.2.1 0), 60, .inl (fun _ => 0))) := by rw [eh135]; exact hp_up_g k126 (ND.ne Dh124.2 7 9 rfl rfl (by decide))
  have k138 : h135 q21 = some (.inl ((Γ.2.1 3), 20, .inr (.inr (.inr (.inr (fun _ => none)))))) := by rw [eh135]; exact hp_up_g k127 (ND.ne Dh124.2 6 9 rfl rfl (by decide))
  have k139 : h135 q37 = some (.inl ((Γ.2.1 4), 40, .inr (.inr (.inr (.inr (fun _ => none)))))) := by rw [eh135]; exact hp_up_g k128 (ND.ne Dh124.2 5 9 rfl rfl (by decide))
  have k140 : h135 q56 = some (.inl ((Γ.2.1 5), 10, .inr (.inr (.inr (.inr (fun _ => none)))))) := by rw [eh135]; exact hp_up_g k129 (ND.ne Dh124.2 4 9 rfl rfl (by decide))
  have k141 : h135 qx7 = some (.inl ((Γ.2.1 0), 300, .inl (fun _ => 0))) := by rw [eh135]; exact hp_up_g k130 (ND.ne Dh124.2 2 9 rfl rfl (by decide))
  have k142 : h135 qx8 = some (.inl ((Γ.2.1 0), 300, .inl (fun _ => 0))) := by rw [eh135]; exact hp_up_g k131 (ND.ne Dh124.2 1 9 rfl rfl (by decide))
  have k143 : h135 qx9 = some (.inl ((Γ.2.1 0), 300, .inl (fun _ => 0))) := by rw [eh135]; exact hp_up_g k132 (ND.ne Dh124.2 0 9 rfl rfl (by decide))
  have k144 : h135 q78 = some (.inr (0, [.ref qx7, .ref qx8, .ref qx9, .int 0])) := by rw [eh135]; exact hp_up_g k133 (ND.ne Dh124.2 3 9 rfl rfl (by decide))
  have k145 : h135 a = some (.inr (6, [.ref q1, .ref q8, .int 0, .ref q21, .int 0, .ref q37, .int 0, .null, .ref q56, .int 0, .ref q78, .null])) := by rw [eh135]; exact hp_up_s
  have Dh135 : DM h135 [qx9, qx8, qx7, q78, q56, q37, q21, q8, q1, a] := by rw [eh135]; exact DM.up Dh124
  refine hg_aload_n C 0 d_MM_init_83 rfl rfl ?_
  refine n_MM_29 C (Nat.le_of_ble_eq_true rfl) (Nat.le_of_ble_eq_true rfl) d_MM_init_84 (fun q146 hq_q146 => ?_)
  obtain ⟨h147, eh147⟩ : ∃ z, z = hp_up h135 q146 (.inr (5, [.int 0, .int 0, .null, .null])) := ⟨_, rfl⟩
  refine hg_eq eh147.symm ?_
  have k148 : h147 q1 = some (.inl ((Γ.2.1 0), 60, .inl (fun _ => 0))) := by rw [eh147]; exact hp_up_g k136 (fun z => by rw [z, hq_q146] at k136; cases k136)
  have k149 : h147 q8 = some (.inl ((Γ.2.1 0), 60, .inl (fun _ => 0))) := by rw [eh147]; exact hp_up_g k137 (fun z => by rw [z, hq_q146] at k137; cases k137)
  have k150 : h147 q21 = some (.inl ((Γ.2.1 3), 20, .inr (.inr (.inr (.inr (fun _ => none)))))) := by rw [eh147]; exact hp_up_g k138 (fun z => by rw [z, hq_q146] at k138; cases k138)
  have k151 : h147 q37 = some (.inl ((Γ.2.1 4), 40, .inr (.inr (.inr (.inr (fun _ => none)))))) := by rw [eh147]; exact hp_up_g k139 (fun z => by rw [z, hq_q146] at k139; cases k139)
  have k152 : h147 q56 = some (.inl ((Γ.2.1 5), 10, .inr (.inr (.inr (.inr (fun _ => none)))))) := by rw [eh147]; exact hp_up_g k140 (fun z => by rw [z, hq_q146] at k140; cases k140)
  have k153 : h147 qx7 = some (.inl ((Γ.2.1 0), 300, .inl (fun _ => 0))) := by rw [eh147]; exact hp_up_g k141 (fun z => by rw [z, hq_q146] at k141; cases k141)
  have k154 : h147 qx8 = some (.inl ((Γ.2.1 0), 300, .inl (fun _ => 0))) := by rw [eh147]; exact hp_up_g k142 (fun z => by rw [z, hq_q146] at k142; cases k142)
  have k155 : h147 qx9 = some (.inl ((Γ.2.1 0), 300, .inl (fun _ => 0))) := by rw [eh147]; exact hp_up_g k143 (fun z => by rw [z, hq_q146] at k143; cases k143)
  have k156 : h147 q78 = some (.inr (0, [.ref qx7, .ref qx8, .ref qx9, .int 0])) := by rw [eh147]; exact hp_up_g k144 (fun z => by rw [z, hq_q146] at k144; cases k144)
  have k157 : h147 a = some (.inr (6, [.ref q1, .ref q8, .int 0, .ref q21, .int 0, .ref q37, .int 0, .null, .ref q56, .int 0, .ref q78, .null])) := by rw [eh147]; exact hp_up_g k145 (fun z => by rw [z, hq_q146] at k145; cases k145)
  have k158 : h147 q146 = some (.inr (5, [.int 0, .int 0, .null, .null])) := by rw [eh147]; exact hp_up_s
  have Dh147 : DM h147 [q146, qx9, qx8, qx7, q78, q56, q37, q21, q8, q1, a] := by rw [eh147]; exact DM.new Dh135 hq_q146
  refine hg_dup C d_MM_init_87 rfl ?_
  refine hg_iconst (v := 0) C d_MM_init_88 (by decide) ?_
  refine hg_iconst (v := (-1)) C d_MM_init_89 (by decide) ?_
  refine n_MM_58 C (Nat.le_of_ble_eq_true rfl) (Nat.le_of_ble_eq_true rfl) d_MM_init_90 (fun q159 hq_q159 => ?_)
  obtain ⟨h160, eh160⟩ : ∃ z, z = hp_up h147 q159 (.inr (4, [.null])) := ⟨_, rfl⟩
  refine hg_eq eh160.symm ?_
  have k161 : h160 q1 = some (.inl ((Γ.2.1 0), 60, .inl (fun _ => 0))) := by rw [eh160]; exact hp_up_g k148 (fun z => by rw [z, hq_q159] at k148; cases k148)
  have k162 : h160 q8 = some (.inl ((Γ.2.1 0), 60, .inl (fun _ => 0))) := by rw [eh160]; exact hp_up_g k149 (fun z => by rw [z, hq_q159] at k149; cases k149)
  have k163 : h160 q21 = some (.inl ((Γ.2.1 3), 20, .inr (.inr (.inr (.inr (fun _ => none)))))) := by rw [eh160]; exact hp_up_g k150 (fun z => by rw [z, hq_q159] at k150; cases k150)
  have k164 : h160 q37 = some (.inl ((Γ.2.1 4), 40, .inr (.inr (.inr (.inr (fun _ => none)))))) := by rw [eh160]; exact hp_up_g k151 (fun z => by rw [z, hq_q159] at k151; cases k151)
  have k165 : h160 q56 = some (.inl ((Γ.2.1 5), 10, .inr (.inr (.inr (.inr (fun _ => none)))))) := by rw [eh160]; exact hp_up_g k152 (fun z => by rw [z, hq_q159] at k152; cases k152)
  have k166 : h160 qx7 = some (.inl ((Γ.2.1 0), 300, .inl (fun _ => 0))) := by rw [eh160]; exact hp_up_g k153 (fun z => by rw [z, hq_q159] at k153; cases k153)
  have k167 : h160 qx8 = some (.inl ((Γ.2.1 0), 300, .inl (fun _ => 0))) := by rw [eh160]; exact hp_up_g k154 (fun z => by rw [z, hq_q159] at k154; cases k154)
  have k168 : h160 qx9 = some (.inl ((Γ.2.1 0), 300, .inl (fun _ => 0))) := by rw [eh160]; exact hp_up_g k155 (fun z => by rw [z, hq_q159] at k155; cases k155)
  have k169 : h160 q78 = some (.inr (0, [.ref qx7, .ref qx8, .ref qx9, .int 0])) := by rw [eh160]; exact hp_up_g k156 (fun z => by rw [z, hq_q159] at k156; cases k156)
  have k170 : h160 a = some (.inr (6, [.ref q1, .ref q8, .int 0, .ref q21, .int 0, .ref q37, .int 0, .null, .ref q56, .int 0, .ref q78, .null])) := by rw [eh160]; exact hp_up_g k157 (fun z => by rw [z, hq_q159] at k157; cases k157)
  have k171 : h160 q146 = some (.inr (5, [.int 0, .int 0, .null, .null])) := by rw [eh160]; exact hp_up_g k158 (fun z => by rw [z, hq_q159] at k158; cases k158)
  have k172 : h160 q159 = some (.inr (4, [.null])) := by rw [eh160]; exact hp_up_s
  have Dh160 : DM h160 [q159, q146, qx9, qx8, qx7, q78, q56, q37, q21, q8, q1, a] := by rw [eh160]; exact DM.new Dh147 hq_q159
  refine hg_dup C d_MM_init_93 rfl ?_
  refine hg_INz (host := "ModelMerge") C (k_St_init l Γ _ q159 k172) kcode_St_init (by decide +kernel) kw4 kw54 rfl rfl rfl (by decide +kernel) ⟨Nat.le_of_ble_eq_true rfl, Nat.le_of_ble_eq_true rfl⟩ rfl rfl (Nat.le_of_ble_eq_true rfl) d_MM_init_94 ⟨Nat.le_of_ble_eq_true rfl, Nat.le_of_ble_eq_true rfl⟩ (fun h173 hu_h173 => ?_)
  obtain ⟨q175, hq_q175, eh173⟩ := hu_h173
  obtain ⟨h174, eh174⟩ : ∃ z, z = hp_up h160 q175 (.inl ((Γ.2.1 0), 360, .inl (fun _ => 0))) := ⟨_, rfl⟩
  rw [← eh174] at eh173
  have k176 : h174 q1 = some (.inl ((Γ.2.1 0), 60, .inl (fun _ => 0))) := by rw [eh174]; exact hp_up_g k161 (fun z => by rw [z, hq_q175] at k161; cases k161)
  have k177 : h174 q8 = some (.inl ((Γ.2.1 0), 60, .inl (fun _ => 0))) := by rw [eh174]; exact hp_up_g k162 (fun z => by rw [z, hq_q175] at k162; cases k162)
  have k178 : h174 q21 = some (.inl ((Γ.2.1 3), 20, .inr (.inr (.inr (.inr (fun _ => none)))))) := by rw [eh174]; exact hp_up_g k163 (fun z => by rw [z, hq_q175] at k163; cases k163)
  have k179 : h174 q37 = some (.inl ((Γ.2.1 4), 40, .inr (.inr (.inr (.inr (fun _ => none)))))) := by rw [eh174]; exact hp_up_g k164 (fun z => by rw [z, hq_q175] at k164; cases k164)
  have k180 : h174 q56 = some (.inl ((Γ.2.1 5), 10, .inr (.inr (.inr (.inr (fun _ => none)))))) := by rw [eh174]; exact hp_up_g k165 (fun z => by rw [z, hq_q175] at k165; cases k165)
  have k181 : h174 qx7 = some (.inl ((Γ.2.1 0), 300, .inl (fun _ => 0))) := by rw [eh174]; exact hp_up_g k166 (fun z => by rw [z, hq_q175] at k166; cases k166)
  have k182 : h174 qx8 = some (.inl ((Γ.2.1 0), 300, .inl (fun _ => 0))) := by rw [eh174]; exact hp_up_g k167 (fun z => by rw [z, hq_q175] at k167; cases k167)
  have k183 : h174 qx9 = some (.inl ((Γ.2.1 0), 300, .inl (fun _ => 0))) := by rw [eh174]; exact hp_up_g k168 (fun z => by rw [z, hq_q175] at k168; cases k168)
  have k184 : h174 q78 = some (.inr (0, [.ref qx7, .ref qx8, .ref qx9, .int 0])) := by rw [eh174]; exact hp_up_g k169 (fun z => by rw [z, hq_q175] at k169; cases k169)
  have k185 : h174 a = some (.inr (6, [.ref q1, .ref q8, .int 0, .ref q21, .int 0, .ref q37, .int 0, .null, .ref q56, .int 0, .ref q78, .null])) := by rw [eh174]; exact hp_up_g k170 (fun z => by rw [z, hq_q175] at k170; cases k170)
  have k186 : h174 q146 = some (.inr (5, [.int 0, .int 0, .null, .null])) := by rw [eh174]; exact hp_up_g k171 (fun z => by rw [z, hq_q175] at k171; cases k171)
  have k187 : h174 q159 = some (.inr (4, [.null])) := by rw [eh174]; exact hp_up_g k172 (fun z => by rw [z, hq_q175] at k172; cases k172)
  have k188 : h174 q175 = some (.inl ((Γ.2.1 0), 360, .inl (fun _ => 0))) := by rw [eh174]; exact hp_up_s
  have Dh174 : DM h174 [q175, q159, q146, qx9, qx8, qx7, q78, q56, q37, q21, q8, q1, a] := by rw [eh174]; exact DM.new Dh160 hq_q175
  have k189 : h173 q1 = some (.inl ((Γ.2.1 0), 60, .inl (fun _ => 0))) := by rw [eh173]; exact hp_up_g k176 (ND.ne Dh174.2 11 1 rfl rfl (by decide))
  have k190 : h173 q8 = some (.inl ((Γ.2.1 0), 60, .inl (fun _ => 0))) := by rw [eh173]; exact hp_up_g k177 (ND.ne Dh174.2 10 1 rfl rfl (by decide))
  have k191 : h173 q21 = some (.inl ((Γ.2.1 3), 20, .inr (.inr (.inr (.inr (fun _ => none)))))) := by rw [eh173]; exact hp_up_g k178 (ND.ne Dh174.2 9 1 rfl rfl (by decide))
  have k192 : h173 q37 = some (.inl ((Γ.2.1 4), 40, .inr (.inr (.inr (.inr (fun _ => none)))))) := by rw [eh173]; exact hp_up_g k179 (ND.ne Dh174.2 8 1 rfl rfl (by decide))
  have k193 : h173 q56 = some (.inl ((Γ.2.1 5), 10, .inr (.inr (.inr (.inr (fun _ => none)))))) := by rw [eh173]; exact hp_up_g k180 (ND.ne Dh174.2 7 1 rfl rfl (by decide))
  have k194 : h173 qx7 = some (.inl ((Γ.2.1 0), 300, .inl (fun _ => 0))) := by rw [eh173]; exact hp_up_g k181 (ND.ne Dh174.2 5 1 rfl rfl (by decide))
  have k195 : h173 qx8 = some (.inl ((Γ.2.1 0), 300, .inl (fun _ => 0))) := by rw [eh173]; exact hp_up_g k182 (ND.ne Dh174.2 4 1 rfl rfl (by decide))
  have k196 : h173 qx9 = some (.inl ((Γ.2.1 0), 300, .inl (fun _ => 0))) := by rw [eh173]; exact hp_up_g k183 (ND.ne Dh174.2 3 1 rfl rfl (by decide))
  have k197 : h173 q78 = some (.inr (0, [.ref qx7, .ref qx8, .ref qx9, .int 0])) := by rw [eh173]; exact hp_up_g k184 (ND.ne Dh174.2 6 1 rfl rfl (by decide))
  have k198 : h173 a = some (.inr (6, [.ref q1, .ref q8, .int 0, .ref q21, .int 0, .ref q37, .int 0, .null, .ref q56, .int 0, .ref q78, .null])) := by rw [eh173]; exact hp_up_g k185 (ND.ne Dh174.2 12 1 rfl rfl (by decide))
  have k199 : h173 q146 = some (.inr (5, [.int 0, .int 0, .null, .null])) := by rw [eh173]; exact hp_up_g k186 (ND.ne Dh174.2 2 1 rfl rfl (by decide))
  have k200 : h173 q175 = some (.inl ((Γ.2.1 0), 360, .inl (fun _ => 0))) := by rw [eh173]; exact hp_up_g k188 (ND.ne Dh174.2 0 1 rfl rfl (by decide))
  have k201 : h173 q159 = some (.inr (4, [.ref q175])) := by rw [eh173]; exact hp_up_s
  have Dh173 : DM h173 [q175, q159, q146, qx9, qx8, qx7, q78, q56, q37, q21, q8, q1, a] := by rw [eh173]; exact DM.up Dh174
  refine hg_Iz C (k_Ve_init l Γ _ q146 q159 0 (-1) k199) (cw_MM_61 C.2.2.2.2.1 rfl rfl ⟨Nat.le_of_ble_eq_true rfl, Nat.le_of_ble_eq_true rfl⟩) rfl rfl (Nat.le_of_ble_eq_true rfl) d_MM_init_97 ⟨Nat.le_of_ble_eq_true rfl, Nat.le_of_ble_eq_true rfl⟩ (fun uw hu => ?_)
  obtain ⟨qo, nqo, w1, w2, w3⟩ := hu
  obtain ⟨hB, ehB⟩ : ∃ z, z = hp_up h173 q146 (.inr (5, [.int 0, .int (-1), .ref q159, .ref qo])) := ⟨_, rfl⟩
  have euw : uw = hp_up hB qo (.inl ((Γ.2.1 0), 300, .inl (fun _ => 0))) := by rw [ehB]; exact fr2 w1 w2 w3
  have hq_qo : hB qo = none := by rw [ehB, hp_up_n (fun z => by rw [z, k199] at nqo; cases nqo)]; exact nqo
  have k202 : hB q1 = some (.inl ((Γ.2.1 0), 60, .inl (fun _ => 0))) := by rw [ehB]; exact hp_up_g k189 (ND.ne Dh173.2 11 2 rfl rfl (by decide))
  have k203 : hB q8 = some (.inl ((Γ.2.1 0), 60, .inl (fun _ => 0))) := by rw [ehB]; exact hp_up_g k190 (ND.ne Dh173.2 10 2 rfl rfl (by decide))
  have k204 : hB q21 = some (.inl ((Γ.2.1 3), 20, .inr (.inr (.inr (.inr (fun _ => none)))))) := by rw [ehB]; exact hp_up_g k191 (ND.ne Dh173.2 9 2 rfl rfl (by decide))
  have k205 : hB q37 = some (.inl ((Γ.2.1 4), 40, .inr (.inr (.inr (.inr (fun _ => none)))))) := by rw [ehB]; exact hp_up_g k192 (ND.ne Dh173.2 8 2 rfl rfl (by decide))
  have k206 : hB q56 = some (.inl ((Γ.2.1 5), 10, .inr (.inr (.inr (.inr (fun _ => none)))))) := by rw [ehB]; exact hp_up_g k193 (ND.ne Dh173.2 7 2 rfl rfl (by decide))
  have k207 : hB qx7 = some (.inl ((Γ.2.1 0), 300, .inl (fun _ => 0))) := by rw [ehB]; exact hp_up_g k194 (ND.ne Dh173.2 5 2 rfl rfl (by decide))
  have k208 : hB qx8 = some (.inl ((Γ.2.1 0), 300, .inl (fun _ => 0))) := by rw [ehB]; exact hp_up_g k195 (ND.ne Dh173.2 4 2 rfl rfl (by decide))
  have k209 : hB qx9 = some (.inl ((Γ.2.1 0), 300, .inl (fun _ => 0))) := by rw [ehB]; exact hp_up_g k196 (ND.ne Dh173.2 3 2 rfl rfl (by decide))
  have k210 : hB q78 = some (.inr (0, [.ref qx7, .ref qx8, .ref qx9, .int 0])) := by rw [ehB]; exact hp_up_g k197 (ND.ne Dh173.2 6 2 rfl rfl (by decide))
  have k211 : hB a = some (.inr (6, [.ref q1, .ref q8, .int 0, .ref q21, .int 0, .ref q37, .int 0, .null, .ref q56, .int 0, .ref q78, .null])) := by rw [ehB]; exact hp_up_g k198 (ND.ne Dh173.2 12 2 rfl rfl (by decide))
  have k212 : hB q175 = some (.inl ((Γ.2.1 0), 360, .inl (fun _ => 0))) := by rw [ehB]; exact hp_up_g k200 (ND.ne Dh173.2 0 2 rfl rfl (by decide))
  have k213 : hB q159 = some (.inr (4, [.ref q175])) := by rw [ehB]; exact hp_up_g k201 (ND.ne Dh173.2 1 2 rfl rfl (by decide))
  have k214 : hB q146 = some (.inr (5, [.int 0, .int (-1), .ref q159, .ref qo])) := by rw [ehB]; exact hp_up_s
  have DhB : DM hB [q175, q159, q146, qx9, qx8, qx7, q78, q56, q37, q21, q8, q1, a] := by rw [ehB]; exact DM.up Dh173
  have k215 : uw q1 = some (.inl ((Γ.2.1 0), 60, .inl (fun _ => 0))) := by rw [euw]; exact hp_up_g k202 (fun z => by rw [z, hq_qo] at k202; cases k202)
  have k216 : uw q8 = some (.inl ((Γ.2.1 0), 60, .inl (fun _ => 0))) := by rw [euw]; exact hp_up_g k203 (fun z => by rw [z, hq_qo] at k203; cases k203)
  have k217 : uw q21 = some (.inl ((Γ.2.1 3), 20, .inr (.inr (.inr (.inr (fun _ => none)))))) := by rw [euw]; exact hp_up_g k204 (fun z => by rw [z, hq_qo] at k204; cases k204)
  have k218 : uw q37 = some (.inl ((Γ.2.1 4), 40, .inr (.inr (.inr (.inr (fun _ => none)))))) := by rw [euw]; exact hp_up_g k205 (fun z => by rw [z, hq_qo] at k205; cases k205)
  have k219 : uw q56 = some (.inl ((Γ.2.1 5), 10, .inr (.inr (.inr (.inr (fun _ => none)))))) := by rw [euw]; exact hp_up_g k206 (fun z => by rw [z, hq_qo] at k206; cases k206)
  have k220 : uw qx7 = some (.inl ((Γ.2.1 0), 300, .inl (fun _ => 0))) := by rw [euw]; exact hp_up_g k207 (fun z => by rw [z, hq_qo] at k207; cases k207)
  have k221 : uw qx8 = some (.inl ((Γ.2.1 0), 300, .inl (fun _ => 0))) := by rw [euw]; exact hp_up_g k208 (fun z => by rw [z, hq_qo] at k208; cases k208)
  have k222 : uw qx9 = some (.inl ((Γ.2.1 0), 300, .inl (fun _ => 0))) := by rw [euw]; exact hp_up_g k209 (fun z => by rw [z, hq_qo] at k209; cases k209)
  have k223 : uw q78 = some (.inr (0, [.ref qx7, .ref qx8, .ref qx9, .int 0])) := by rw [euw]; exact hp_up_g k210 (fun z => by rw [z, hq_qo] at k210; cases k210)
  have k224 : uw a = some (.inr (6, [.ref q1, .ref q8, .int 0, .ref q21, .int 0, .ref q37, .int 0, .null, .ref q56, .int 0, .ref q78, .null])) := by rw [euw]; exact hp_up_g k211 (fun z => by rw [z, hq_qo] at k211; cases k211)
  have k225 : uw q175 = some (.inl ((Γ.2.1 0), 360, .inl (fun _ => 0))) := by rw [euw]; exact hp_up_g k212 (fun z => by rw [z, hq_qo] at k212; cases k212)
  have k226 : uw q159 = some (.inr (4, [.ref q175])) := by rw [euw]; exact hp_up_g k213 (fun z => by rw [z, hq_qo] at k213; cases k213)
  have k227 : uw q146 = some (.inr (5, [.int 0, .int (-1), .ref q159, .ref qo])) := by rw [euw]; exact hp_up_g k214 (fun z => by rw [z, hq_qo] at k214; cases k214)
  have k228 : uw qo = some (.inl ((Γ.2.1 0), 300, .inl (fun _ => 0))) := by rw [euw]; exact hp_up_s
  have Duw : DM uw [qo, q175, q159, q146, qx9, qx8, qx7, q78, q56, q37, q21, q8, q1, a] := by rw [euw]; exact DM.new DhB hq_qo
  refine p_MM_64 (fs' := [.ref q1, .ref q8, .int 0, .ref q21, .int 0, .ref q37, .int 0, .ref q146, .ref q56, .int 0, .ref q78, .null]) C k224 rfl rfl (Nat.le_of_ble_eq_true rfl) rfl d_MM_init_100 ?_
  obtain ⟨h229, eh229⟩ : ∃ z, z = hp_up uw a (.inr (6, [.ref q1, .ref q8, .int 0, .ref q21, .int 0, .ref q37, .int 0, .ref q146, .ref q56, .int 0, .ref q78, .null])) := ⟨_, rfl⟩
  refine hg_eq eh229.symm ?_
  have k230 : h229 q1 = some (.inl ((Γ.2.1 0), 60, .inl (fun _ => 0))) := by rw [eh229]; exact hp_up_g k215 (ND.ne Duw.2 12 13 rfl rfl (by decide))
  have k231 : h229 q8 = some (.inl ((Γ.2.1 0), 60, .inl (fun _ => 0))) := by rw [eh229]; exact hp_up_g k216 (ND.ne Duw.2 11 13 rfl rfl (by decide))
  have k232 : h229 q21 = some (.inl ((Γ.2.1 3), 20, .inr (.inr (.inr (.inr (fun _ => none)))))) := by rw [eh229]; exact hp_up_g k217 (ND.ne Duw.2 10 13 rfl rfl (by decide))
  have k233 : h229 q37 = some (.inl ((Γ.2.1 4), 40, .inr (.inr (.inr (.inr (fun _ => none)))))) := by rw [eh229]; exact hp_up_g k218 (ND.ne Duw.2 9 13 rfl rfl (by decide))
  have k234 : h229 q56 = some (.inl ((Γ.2.1 5), 10, .inr (.inr (.inr (.inr (fun _ => none)))))) := by rw [eh229]; exact hp_up_g k219 (ND.ne Duw.2 8 13 rfl rfl (by decide))
  have k235 : h229 qx7 = some (.inl ((Γ.2.1 0), 300, .inl (fun _ => 0))) := by rw [eh229]; exact hp_up_g k220 (ND.ne Duw.2 6 13 rfl rfl (by decide))
  have k236 : h229 qx8 = some (.inl ((Γ.2.1 0), 300, .inl (fun _ => 0))) := by rw [eh229]; exact hp_up_g k221 (ND.ne Duw.2 5 13 rfl rfl (by decide))
  have k237 : h229 qx9 = some (.inl ((Γ.2.1 0), 300, .inl (fun _ => 0))) := by rw [eh229]; exact hp_up_g k222 (ND.ne Duw.2 4 13 rfl rfl (by decide))
  have k238 : h229 q78 = some (.inr (0, [.ref qx7, .ref qx8, .ref qx9, .int 0])) := by rw [eh229]; exact hp_up_g k223 (ND.ne Duw.2 7 13 rfl rfl (by decide))
  have k239 : h229 q175 = some (.inl ((Γ.2.1 0), 360, .inl (fun _ => 0))) := by rw [eh229]; exact hp_up_g k225 (ND.ne Duw.2 1 13 rfl rfl (by decide))
  have k240 : h229 q159 = some (.inr (4, [.ref q175])) := by rw [eh229]; exact hp_up_g k226 (ND.ne Duw.2 2 13 rfl rfl (by decide))
  have k241 : h229 q146 = some (.inr (5, [.int 0, .int (-1), .ref q159, .ref qo])) := by rw [eh229]; exact hp_up_g k227 (ND.ne Duw.2 3 13 rfl rfl (by decide))
  have k242 : h229 qo = some (.inl ((Γ.2.1 0), 300, .inl (fun _ => 0))) := by rw [eh229]; exact hp_up_g k228 (ND.ne Duw.2 0 13 rfl rfl (by decide))
  have k243 : h229 a = some (.inr (6, [.ref q1, .ref q8, .int 0, .ref q21, .int 0, .ref q37, .int 0, .ref q146, .ref q56, .int 0, .ref q78, .null])) := by rw [eh229]; exact hp_up_s
  have Dh229 : DM h229 [qo, q175, q159, q146, qx9, qx8, qx7, q78, q56, q37, q21, q8, q1, a] := by rw [eh229]; exact DM.up Duw
  refine hg_aload_n C 0 d_MM_init_103 rfl rfl ?_
  refine f_MM_31 C k243 rfl d_MM_init_104 ?_
  refine hg_iconst (v := 0) C d_MM_init_107 (by decide) ?_
  refine hg_aload_n C 0 d_MM_init_108 rfl rfl ?_
  refine f_MM_64 C k243 rfl d_MM_init_109 ?_
  refine hg_aast C 4 5 k233 rfl k241 rfl (show vp_in (nI 0) 40 from vp_in_nI (by omega) (by omega)) d_MM_init_112 ?_
  obtain ⟨h244, eh244⟩ : ∃ z, z = hp_up h229 q37 (.inl ((Γ.2.1 4), 40, .inr (.inr (.inr (.inr (va_up (fun _ => none) ((0 : Int32).toNatClampNeg) (some q146))))))) := ⟨_, rfl⟩
  refine hg_eq eh244.symm ?_
  have k245 : h244 q1 = some (.inl ((Γ.2.1 0), 60, .inl (fun _ => 0))) := by rw [eh244]; exact hp_up_g k230 (ND.ne Dh229.2 12 9 rfl rfl (by decide))
  have k246 : h244 q8 = some (.inl ((Γ.2.1 0), 60, .inl (fun _ => 0))) := by rw [eh244]; exact hp_up_g k231 (ND.ne Dh229.2 11 9 rfl rfl (by decide))
  have k247 : h244 q21 = some (.inl ((Γ.2.1 3), 20, .inr (.inr (.inr (.inr (fun _ => none)))))) := by rw [eh244]; exact hp_up_g k232 (ND.ne Dh229.2 10 9 rfl rfl (by decide))
  have k248 : h244 q56 = some (.inl ((Γ.2.1 5), 10, .inr (.inr (.inr (.inr (fun _ => none)))))) := by rw [eh244]; exact hp_up_g k234 (ND.ne Dh229.2 8 9 rfl rfl (by decide))
  have k249 : h244 qx7 = some (.inl ((Γ.2.1 0), 300, .inl (fun _ => 0))) := by rw [eh244]; exact hp_up_g k235 (ND.ne Dh229.2 6 9 rfl rfl (by decide))
  have k250 : h244 qx8 = some (.inl ((Γ.2.1 0), 300, .inl (fun _ => 0))) := by rw [eh244]; exact hp_up_g k236 (ND.ne Dh229.2 5 9 rfl rfl (by decide))
  have k251 : h244 qx9 = some (.inl ((Γ.2.1 0), 300, .inl (fun _ => 0))) := by rw [eh244]; exact hp_up_g k237 (ND.ne Dh229.2 4 9 rfl rfl (by decide))
  have k252 : h244 q78 = some (.inr (0, [.ref qx7, .ref qx8, .ref qx9, .int 0])) := by rw [eh244]; exact hp_up_g k238 (ND.ne Dh229.2 7 9 rfl rfl (by decide))
  have k253 : h244 q175 = some (.inl ((Γ.2.1 0), 360, .inl (fun _ => 0))) := by rw [eh244]; exact hp_up_g k239 (ND.ne Dh229.2 1 9 rfl rfl (by decide))
  have k254 : h244 q159 = some (.inr (4, [.ref q175])) := by rw [eh244]; exact hp_up_g k240 (ND.ne Dh229.2 2 9 rfl rfl (by decide))
  have k255 : h244 q146 = some (.inr (5, [.int 0, .int (-1), .ref q159, .ref qo])) := by rw [eh244]; exact hp_up_g k241 (ND.ne Dh229.2 3 9 rfl rfl (by decide))
  have k256 : h244 qo = some (.inl ((Γ.2.1 0), 300, .inl (fun _ => 0))) := by rw [eh244]; exact hp_up_g k242 (ND.ne Dh229.2 0 9 rfl rfl (by decide))
  have k257 : h244 a = some (.inr (6, [.ref q1, .ref q8, .int 0, .ref q21, .int 0, .ref q37, .int 0, .ref q146, .ref q56, .int 0, .ref q78, .null])) := by rw [eh244]; exact hp_up_g k243 (ND.ne Dh229.2 13 9 rfl rfl (by decide))
  have k258 : h244 q37 = some (.inl ((Γ.2.1 4), 40, .inr (.inr (.inr (.inr (va_up (fun _ => none) ((0 : Int32).toNatClampNeg) (some q146))))))) := by rw [eh244]; exact hp_up_s
  have Dh244 : DM h244 [qo, q175, q159, q146, qx9, qx8, qx7, q78, q56, q37, q21, q8, q1, a] := by rw [eh244]; exact DM.up Dh229
  refine hg_aload_n C 0 d_MM_init_113 rfl rfl ?_
  refine hg_iconst (v := 1) C d_MM_init_114 (by decide) ?_
  refine p_MM_35 (fs' := [.ref q1, .ref q8, .int 0, .ref q21, .int 0, .ref q37, .int 1, .ref q146, .ref q56, .int 0, .ref q78, .null]) C k257 rfl rfl (Nat.le_of_ble_eq_true rfl) rfl d_MM_init_115 ?_
  obtain ⟨h259, eh259⟩ : ∃ z, z = hp_up h244 a (.inr (6, [.ref q1, .ref q8, .int 0, .ref q21, .int 0, .ref q37, .int 1, .ref q146, .ref q56, .int 0, .ref q78, .null])) := ⟨_, rfl⟩
  refine hg_eq eh259.symm ?_
  have k260 : h259 q1 = some (.inl ((Γ.2.1 0), 60, .inl (fun _ => 0))) := by rw [eh259]; exact hp_up_g k245 (ND.ne Dh244.2 12 13 rfl rfl (by decide))
  have k261 : h259 q8 = some (.inl ((Γ.2.1 0), 60, .inl (fun _ => 0))) := by rw [eh259]; exact hp_up_g k246 (ND.ne Dh244.2 11 13 rfl rfl (by decide))
  have k262 : h259 q21 = some (.inl ((Γ.2.1 3), 20, .inr (.inr (.inr (.inr (fun _ => none)))))) := by rw [eh259]; exact hp_up_g k247 (ND.ne Dh244.2 10 13 rfl rfl (by decide))
  have k263 : h259 q56 = some (.inl ((Γ.2.1 5), 10, .inr (.inr (.inr (.inr (fun _ => none)))))) := by rw [eh259]; exact hp_up_g k248 (ND.ne Dh244.2 8 13 rfl rfl (by decide))
  have k264 : h259 qx7 = some (.inl ((Γ.2.1 0), 300, .inl (fun _ => 0))) := by rw [eh259]; exact hp_up_g k249 (ND.ne Dh244.2 6 13 rfl rfl (by decide))
  have k265 : h259 qx8 = some (.inl ((Γ.2.1 0), 300, .inl (fun _ => 0))) := by rw [eh259]; exact hp_up_g k250 (ND.ne Dh244.2 5 13 rfl rfl (by decide))
  have k266 : h259 qx9 = some (.inl ((Γ.2.1 0), 300, .inl (fun _ => 0))) := by rw [eh259]; exact hp_up_g k251 (ND.ne Dh244.2 4 13 rfl rfl (by decide))
  have k267 : h259 q78 = some (.inr (0, [.ref qx7, .ref qx8, .ref qx9, .int 0])) := by rw [eh259]; exact hp_up_g k252 (ND.ne Dh244.2 7 13 rfl rfl (by decide))
  have k268 : h259 q175 = some (.inl ((Γ.2.1 0), 360, .inl (fun _ => 0))) := by rw [eh259]; exact hp_up_g k253 (ND.ne Dh244.2 1 13 rfl rfl (by decide))
  have k269 : h259 q159 = some (.inr (4, [.ref q175])) := by rw [eh259]; exact hp_up_g k254 (ND.ne Dh244.2 2 13 rfl rfl (by decide))
  have k270 : h259 q146 = some (.inr (5, [.int 0, .int (-1), .ref q159, .ref qo])) := by rw [eh259]; exact hp_up_g k255 (ND.ne Dh244.2 3 13 rfl rfl (by decide))
  have k271 : h259 qo = some (.inl ((Γ.2.1 0), 300, .inl (fun _ => 0))) := by rw [eh259]; exact hp_up_g k256 (ND.ne Dh244.2 0 13 rfl rfl (by decide))
  have k272 : h259 q37 = some (.inl ((Γ.2.1 4), 40, .inr (.inr (.inr (.inr (va_up (fun _ => none) ((0 : Int32).toNatClampNeg) (some q146))))))) := by rw [eh259]; exact hp_up_g k258 (ND.ne Dh244.2 9 13 rfl rfl (by decide))
  have k273 : h259 a = some (.inr (6, [.ref q1, .ref q8, .int 0, .ref q21, .int 0, .ref q37, .int 1, .ref q146, .ref q56, .int 0, .ref q78, .null])) := by rw [eh259]; exact hp_up_s
  have Dh259 : DM h259 [qo, q175, q159, q146, qx9, qx8, qx7, q78, q56, q37, q21, q8, q1, a] := by rw [eh259]; exact DM.up Dh244
  obtain ⟨ad, ea⟩ : ∃ z : Nat → Nat → Nat, z = fun k _ => match k with
    | 0 => a
    | 1 => q1
    | 2 => q8
    | 3 => q21
    | 4 => q37
    | 5 => q56
    | 6 => q78
    | 7 => qx7
    | 8 => qx8
    | 9 => qx9
    | 14 => q146
    | 15 => q159
    | 16 => q175
    | 17 => qo
    | _ => 0 := ⟨_, rfl⟩
  have aE : (∀ i, ad 0 i = a) ∧ (∀ i, ad 1 i = q1) ∧ (∀ i, ad 2 i = q8) ∧ (∀ i, ad 3 i = q21) ∧ (∀ i, ad 4 i = q37) ∧ (∀ i, ad 5 i = q56) ∧ (∀ i, ad 6 i = q78) ∧ (∀ i, ad 7 i = qx7) ∧ (∀ i, ad 8 i = qx8) ∧ (∀ i, ad 9 i = qx9) ∧ (∀ i, ad 14 i = q146) ∧ (∀ i, ad 15 i = q159) ∧ (∀ i, ad 16 i = q175) ∧ (∀ i, ad 17 i = qo) := by rw [ea]; exact ⟨fun _ => rfl, fun _ => rfl, fun _ => rfl, fun _ => rfl, fun _ => rfl, fun _ => rfl, fun _ => rfl, fun _ => rfl, fun _ => rfl, fun _ => rfl, fun _ => rfl, fun _ => rfl, fun _ => rfl, fun _ => rfl⟩
  obtain ⟨a0_, a1_, a2_, a3_, a4_, a5_, a6_, a7_, a8_, a9_, a14_, a15_, a16_, a17_⟩ := aE
  clear ea
  exact hg_vretN C hr d_MM_init_118 (Nat.le_of_ble_eq_true rfl) (Nat.le_of_ble_eq_true rfl) (⟨rfl, ad, a0_ 0, cr_start a0_ a1_ a2_ a3_ a4_ a5_ a6_ a7_ a8_ a9_ a14_ a15_ a16_ a17_ k273 k260 k261 k262 k272 k263 k267 k264 k265 k266 k270 k269 k268 k271 Dh259.2 (fun k => match k with | 0 => 13 | 1 => 12 | 2 => 11 | 3 => 10 | 4 => 9 | 5 => 8 | 6 => 7 | 7 => 6 | 8 => 5 | 9 => 4 | 14 => 3 | 15 => 2 | 16 => 1 | 17 => 0 | _ => 0) (by decide) ⟨rfl, rfl, rfl, rfl, rfl, rfl, rfl, rfl, rfl, rfl, rfl, rfl, rfl, rfl⟩⟩)
