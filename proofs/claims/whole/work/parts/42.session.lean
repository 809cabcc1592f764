/-! a private constructor of a nest mate; what lies apart -/
theorem hp_up_none {h : Pic} {a q : Nat} {e : va_E} (hq : hp_up h a e q = none) : q ≠ a ∧ h q = none := by
  by_cases z : q = a
  · rw [z, hp_up_s] at hq
    cases hq
  · rw [hp_up_n z] at hq
    exact ⟨z, hq⟩
section HNI
variable {p : Program} {l : Launch} {e : Env} {R : Room} {s : State} {m : MethodId} {args : Array Value} {below : List Frame} {meth : Method} {c : Code} {cc : ByteArray} {nL : Nat} {own : String} {c0 : Cond} {D : va_G} {cl : List vw_C} {tys : List (ClassId × FieldType)} {sts : List (String × Nat × String × Nat)} {aos : List Cond} {A : Nat → Prop} {Q : State → Prop} {cells slots pc : Nat} {lv : List (Nat × Value)} {st sf : List Value} {h : Pic}
variable {y : MethodName} {bytes : ByteArray} {maxL mc ms n index : Nat} {rm : Room} {As : List Value} {b : Nat} {host : String}
theorem hg_INz {post : Pic → Prop} (C : hp_C p s m args meth c cc nL own (c0 :: kw_all) D cl tys sts aos A) (hM : hp_N l y (Cond.code y bytes maxL none :: kw_all) rm D cl tys sts aos (.ref b :: As) h (fun r u => r = none ∧ post u) mc ms) (hcode : Cond.code y bytes maxL none ∈ kw_all) (hnest : Cond.methodLinkNest own index y host ∈ aos) (hini : Cond.initialized y.cls ∈ kw_all) (hinst : Cond.instanceMethod y ∈ kw_all) (hy1 : y.name = "<init>") (hrc : rm.cells = mc) (hrs : rm.slots = ms)
    (hdd : y.cls ≠ "java/lang/invoke/MethodHandle" ∧ y.cls ≠ "java/lang/invoke/VarHandle" ∧ (parseMethodDescriptor y.desc).map (fun d => d.parameters.length) = some n) (hR : rm.frames + 1 ≤ R.frames ∧ 8 + (maxL + 11) + rm.locals ≤ R.locals)
    (hn : As.length = n) (hsf : sf = As.reverse ++ .ref b :: st) (hst : (st.map fun v => v.category).sum ≤ 8) (hd : decode cc pc = .ok (.invokespecial index, 3)) (hf : cells + mc ≤ R.cells ∧ slots + ms ≤ R.slots)
    (kk : ∀ (u : Pic), post u → hp_G p l e R s m args below meth c D cl A nL Q (cells + mc) (slots + ms) (pc + 3) lv st u) : hp_G p l e R s m args below meth c D cl A nL Q cells slots pc lv sf h :=
  hg_callY (av := .ref b :: As) C (fun H locs ls hP hS hl => va_runIN (host := host) ⟨C.1, C.2.1, C.2.2.1, C.2.2.2.1, C.2.2.2.2.1⟩ (hM H.size) ⟨va_cnB n C.2.2.2.2.1 (kw_ws hcode) rfl hrc hrs (C.2.2.2.2.2.2.1.2.2.2.2.1 _ hnest).2 (C.2.2.2.2.1 _ (kc hini)) hdd hR, hy1, C.2.2.2.2.1 _ (kc hinst)⟩ ⟨hp_blind, hp_pre C hP hS _⟩ rfl hn hl.1 hsf (lv_room hst) hd hf)
    (fun r u hq => by obtain ⟨rfl, hq⟩ := hq; exact kk u hq)
end HNI
abbrev rm_Cf_init : Room := { frames := 1, cells := 3, slots := 900, locals := 20 }
set_option maxHeartbeats 4000000 in
set_option maxRecDepth 100000 in
theorem k_Cf_init (l : Launch) (Γ : Gam) (h : Pic) (a : Nat) (ha : h a = some (.inr (0, [.null, .null, .null, .int 0]))) : kN l Γ y_Cf_init w_Cf_init rm_Cf_init [.ref a] h (fun r u => r = none ∧ ∃ q1 q2 q3 : Nat, h q1 = none ∧ h q2 = none ∧ h q3 = none ∧ q1 ≠ q2 ∧ q1 ≠ q3 ∧ q2 ≠ q3 ∧ u a = some (.inr (0, [.ref q1, .ref q2, .ref q3, .int 0])) ∧ u q1 = some (.inl (Γ.2.1 0, 300, .inl (fun _ => 0))) ∧ u q2 = some (.inl (Γ.2.1 0, 300, .inl (fun _ => 0))) ∧ u q3 = some (.inl (Γ.2.1 0, 300, .inl (fun _ => 0))) ∧ ∀ z, z ≠ a → z ≠ q1 → z ≠ q2 → z ≠ q3 → u z = h z) 3 900 := by
  refine hg_entryN (own := "ModelMerge$Conflicts") (cc := b_Cf_init) (maxL := 1) (ret := none) (lv0 := [(0, .ref a)]) (by decide) rfl rfl (Nat.le_of_ble_eq_true rfl) rfl ?_
  intro p e s m args below meth c A C hnm hr
  refine hg_aload_n C 0 d_Cf_init_0 rfl rfl ?_
  refine o_Cf_3 C (Nat.le_of_ble_eq_true rfl) (Nat.le_of_ble_eq_true rfl) d_Cf_init_1 ?_
  refine hg_aload_n C 0 d_Cf_init_4 rfl rfl ?_
  refine hg_sipush (v := 300) C d_Cf_init_5 (by decide) ?_
  refine hg_newa (atype := .int) (ty := .int) (a0 := (300, .inl (fun _ => 0))) C 0 (kc kw49) rfl (fun _ z => FieldType.noConfusion z) rfl (fun _ => rfl) (by decide) rfl (by decide) (Nat.le_of_ble_eq_true rfl) (Nat.le_of_ble_eq_true rfl) d_Cf_init_8 (fun q1 hq_q1 => ?_)
  obtain ⟨h2, eh2⟩ : ∃ z, z = hp_up h q1 (.inl ((Γ.2.1 0), 300, .inl (fun _ => 0))) := ⟨_, rfl⟩
  refine hg_eq eh2.symm ?_
  have k3 : h2 a = some (.inr (0, [.null, .null, .null, .int 0])) := by rw [eh2]; exact hp_up_g ha (fun z => by rw [z, hq_q1] at ha; cases ha)
  have k4 : h2 q1 = some (.inl ((Γ.2.1 0), 300, .inl (fun _ => 0))) := by rw [eh2]; exact hp_up_s
  refine p_Cf_11 (fs' := [.ref q1, .null, .null, .int 0]) C hnm k3 rfl rfl (Nat.le_of_ble_eq_true rfl) rfl d_Cf_init_10 ?_
  obtain ⟨h5, eh5⟩ : ∃ z, z = hp_up h2 a (.inr (0, [.ref q1, .null, .null, .int 0])) := ⟨_, rfl⟩
  refine hg_eq eh5.symm ?_
  have k6 : h5 q1 = some (.inl ((Γ.2.1 0), 300, .inl (fun _ => 0))) := by rw [eh5]; exact hp_up_g k4 (fun z => by rw [z, k3] at k4; cases k4)
  have k7 : h5 a = some (.inr (0, [.ref q1, .null, .null, .int 0])) := by rw [eh5]; exact hp_up_s
  refine hg_aload_n C 0 d_Cf_init_13 rfl rfl ?_
  refine hg_sipush (v := 300) C d_Cf_init_14 (by decide) ?_
  refine hg_newa (atype := .int) (ty := .int) (a0 := (300, .inl (fun _ => 0))) C 0 (kc kw49) rfl (fun _ z => FieldType.noConfusion z) rfl (fun _ => rfl) (by decide) rfl (by decide) (Nat.le_of_ble_eq_true rfl) (Nat.le_of_ble_eq_true rfl) d_Cf_init_17 (fun q8 hq_q8 => ?_)
  obtain ⟨h9, eh9⟩ : ∃ z, z = hp_up h5 q8 (.inl ((Γ.2.1 0), 300, .inl (fun _ => 0))) := ⟨_, rfl⟩
  refine hg_eq eh9.symm ?_
  have k10 : h9 q1 = some (.inl ((Γ.2.1 0), 300, .inl (fun _ => 0))) := by rw [eh9]; exact hp_up_g k6 (fun z => by rw [z, hq_q8] at k6; cases k6)
  have k11 : h9 a = some (.inr (0, [.ref q1, .null, .null, .int 0])) := by rw [eh9]; exact hp_up_g k7 (fun z => by rw [z, hq_q8] at k7; cases k7)
  have k12 : h9 q8 = some (.inl ((Γ.2.1 0), 300, .inl (fun _ => 0))) := by rw [eh9]; exact hp_up_s
  refine p_Cf_15 (fs' := [.ref q1, .ref q8, .null, .int 0]) C hnm k11 rfl rfl (Nat.le_of_ble_eq_true rfl) rfl d_Cf_init_19 ?_
  obtain ⟨h13, eh13⟩ : ∃ z, z = hp_up h9 a (.inr (0, [.ref q1, .ref q8, .null, .int 0])) := ⟨_, rfl⟩
  refine hg_eq eh13.symm ?_
  have k14 : h13 q1 = some (.inl ((Γ.2.1 0), 300, .inl (fun _ => 0))) := by rw [eh13]; exact hp_up_g k10 (fun z => by rw [z, k11] at k10; cases k10)
  have k15 : h13 q8 = some (.inl ((Γ.2.1 0), 300, .inl (fun _ => 0))) := by rw [eh13]; exact hp_up_g k12 (fun z => by rw [z, k11] at k12; cases k12)
  have k16 : h13 a = some (.inr (0, [.ref q1, .ref q8, .null, .int 0])) := by rw [eh13]; exact hp_up_s
  refine hg_aload_n C 0 d_Cf_init_22 rfl rfl ?_
  refine hg_sipush (v := 300) C d_Cf_init_23 (by decide) ?_
  refine hg_newa (atype := .int) (ty := .int) (a0 := (300, .inl (fun _ => 0))) C 0 (kc kw49) rfl (fun _ z => FieldType.noConfusion z) rfl (fun _ => rfl) (by decide) rfl (by decide) (Nat.le_of_ble_eq_true rfl) (Nat.le_of_ble_eq_true rfl) d_Cf_init_26 (fun q17 hq_q17 => ?_)
  obtain ⟨h18, eh18⟩ : ∃ z, z = hp_up h13 q17 (.inl ((Γ.2.1 0), 300, .inl (fun _ => 0))) := ⟨_, rfl⟩
  refine hg_eq eh18.symm ?_
  have k19 : h18 q1 = some (.inl ((Γ.2.1 0), 300, .inl (fun _ => 0))) := by rw [eh18]; exact hp_up_g k14 (fun z => by rw [z, hq_q17] at k14; cases k14)
  have k20 : h18 q8 = some (.inl ((Γ.2.1 0), 300, .inl (fun _ => 0))) := by rw [eh18]; exact hp_up_g k15 (fun z => by rw [z, hq_q17] at k15; cases k15)
  have k21 : h18 a = some (.inr (0, [.ref q1, .ref q8, .null, .int 0])) := by rw [eh18]; exact hp_up_g k16 (fun z => by rw [z, hq_q17] at k16; cases k16)
  have k22 : h18 q17 = some (.inl ((Γ.2.1 0), 300, .inl (fun _ => 0))) := by rw [eh18]; exact hp_up_s
  refine p_Cf_18 (fs' := [.ref q1, .ref q8, .ref q17, .int 0]) C hnm k21 rfl rfl (Nat.le_of_ble_eq_true rfl) rfl d_Cf_init_28 ?_
  obtain ⟨h23, eh23⟩ : ∃ z, z = hp_up h18 a (.inr (0, [.ref q1, .ref q8, .ref q17, .int 0])) := ⟨_, rfl⟩
  refine hg_eq eh23.symm ?_
  have k24 : h23 q1 = some (.inl ((Γ.2.1 0), 300, .inl (fun _ => 0))) := by rw [eh23]; exact hp_up_g k19 (fun z => by rw [z, k21] at k19; cases k19)
  have k25 : h23 q8 = some (.inl ((Γ.2.1 0), 300, .inl (fun _ => 0))) := by rw [eh23]; exact hp_up_g k20 (fun z => by rw [z, k21] at k20; cases k20)
  have k26 : h23 q17 = some (.inl ((Γ.2.1 0), 300, .inl (fun _ => 0))) := by rw [eh23]; exact hp_up_g k22 (fun z => by rw [z, k21] at k22; cases k22)
  have k27 : h23 a = some (.inr (0, [.ref q1, .ref q8, .ref q17, .int 0])) := by rw [eh23]; exact hp_up_s
  refine hg_aload_n C 0 d_Cf_init_31 rfl rfl ?_
  refine hg_iconst (v := 0) C d_Cf_init_32 (by decide) ?_
  refine p_Cf_21 (fs' := [.ref q1, .ref q8, .ref q17, .int 0]) C k27 rfl rfl (Nat.le_of_ble_eq_true rfl) rfl d_Cf_init_33 ?_
  obtain ⟨h28, eh28⟩ : ∃ z, z = hp_up h23 a (.inr (0, [.ref q1, .ref q8, .ref q17, .int 0])) := ⟨_, rfl⟩
  refine hg_eq eh28.symm ?_
  have k29 : h28 q1 = some (.inl ((Γ.2.1 0), 300, .inl (fun _ => 0))) := by rw [eh28]; exact hp_up_g k24 (fun z => by rw [z, k27] at k24; cases k24)
  have k30 : h28 q8 = some (.inl ((Γ.2.1 0), 300, .inl (fun _ => 0))) := by rw [eh28]; exact hp_up_g k25 (fun z => by rw [z, k27] at k25; cases k25)
  have k31 : h28 q17 = some (.inl ((Γ.2.1 0), 300, .inl (fun _ => 0))) := by rw [eh28]; exact hp_up_g k26 (fun z => by rw [z, k27] at k26; cases k26)
  have k32 : h28 a = some (.inr (0, [.ref q1, .ref q8, .ref q17, .int 0])) := by rw [eh28]; exact hp_up_s
  have fr_q1 := hq_q1
  have fr_q8 := hq_q8
  rw [eh5] at fr_q8
  obtain ⟨ne_q8_1, fr_q8⟩ := hp_up_none fr_q8
  rw [eh2] at fr_q8
  obtain ⟨ne_q8_0, fr_q8⟩ := hp_up_none fr_q8
  have fr_q17 := hq_q17
  rw [eh13] at fr_q17
  obtain ⟨ne_q17_3, fr_q17⟩ := hp_up_none fr_q17
  rw [eh9] at fr_q17
  obtain ⟨ne_q17_2, fr_q17⟩ := hp_up_none fr_q17
  rw [eh5] at fr_q17
  obtain ⟨ne_q17_1, fr_q17⟩ := hp_up_none fr_q17
  rw [eh2] at fr_q17
  obtain ⟨ne_q17_0, fr_q17⟩ := hp_up_none fr_q17
  exact hg_vretN C hr d_Cf_init_36 (Nat.le_of_ble_eq_true rfl) (Nat.le_of_ble_eq_true rfl) (⟨rfl, q1, q8, q17, fr_q1, fr_q8, fr_q17, ne_q8_0.symm, ne_q17_0.symm, ne_q17_2.symm, k32, k29, k30, k31, fun z z0 z1 z2 z3 => by rw [eh28, hp_up_n z0, eh23, hp_up_n z0, eh18, hp_up_n z3, eh13, hp_up_n z0, eh9, hp_up_n z2, eh5, hp_up_n z0, eh2, hp_up_n z1]⟩)
abbrev rm_Ve_init : Room := { frames := 1, cells := 1, slots := 300, locals := 20 }
set_option maxHeartbeats 4000000 in
set_option maxRecDepth 100000 in
theorem k_Ve_init (l : Launch) (Γ : Gam) (h : Pic) (a b : Nat) (n k : Int32) (ha : h a = some (.inr (5, [.int 0, .int 0, .null, .null]))) : kN l Γ y_Ve_init w_Ve_init rm_Ve_init [.ref a, .int n, .int k, .ref b] h (fun r u => r = none ∧ ∃ q : Nat, h q = none ∧ u a = some (.inr (5, [.int n, .int k, .ref b, .ref q])) ∧ u q = some (.inl (Γ.2.1 0, 300, .inl (fun _ => 0))) ∧ ∀ z, z ≠ a → z ≠ q → u z = h z) 1 300 := by
  refine hg_entryN (own := "ModelMerge$Version") (cc := b_Ve_init) (maxL := 4) (ret := none) (lv0 := [(0, .ref a), (1, .int n), (2, .int k), (3, .ref b)]) (by decide) rfl rfl (Nat.le_of_ble_eq_true rfl) rfl ?_
  intro p e s m args below meth c A C hnm hr
  refine hg_aload_n C 0 d_Ve_init_0 rfl rfl ?_
  refine o_Ve_3 C (Nat.le_of_ble_eq_true rfl) (Nat.le_of_ble_eq_true rfl) d_Ve_init_1 ?_
  refine hg_aload_n C 0 d_Ve_init_4 rfl rfl ?_
  refine hg_sipush (v := 300) C d_Ve_init_5 (by decide) ?_
  refine hg_newa (atype := .int) (ty := .int) (a0 := (300, .inl (fun _ => 0))) C 0 (kc kw49) rfl (fun _ z => FieldType.noConfusion z) rfl (fun _ => rfl) (by decide) rfl (by decide) (Nat.le_of_ble_eq_true rfl) (Nat.le_of_ble_eq_true rfl) d_Ve_init_8 (fun q1 hq_q1 => ?_)
  obtain ⟨h2, eh2⟩ : ∃ z, z = hp_up h q1 (.inl ((Γ.2.1 0), 300, .inl (fun _ => 0))) := ⟨_, rfl⟩
  refine hg_eq eh2.symm ?_
  have k3 : h2 a = some (.inr (5, [.int 0, .int 0, .null, .null])) := by rw [eh2]; exact hp_up_g ha (fun z => by rw [z, hq_q1] at ha; cases ha)
  have k4 : h2 q1 = some (.inl ((Γ.2.1 0), 300, .inl (fun _ => 0))) := by rw [eh2]; exact hp_up_s
  refine p_Ve_9 (fs' := [.int 0, .int 0, .null, .ref q1]) C hnm k3 rfl rfl (Nat.le_of_ble_eq_true rfl) rfl d_Ve_init_10 ?_
  obtain ⟨h5, eh5⟩ : ∃ z, z = hp_up h2 a (.inr (5, [.int 0, .int 0, .null, .ref q1])) := ⟨_, rfl⟩
  refine hg_eq eh5.symm ?_
  have k6 : h5 q1 = some (.inl ((Γ.2.1 0), 300, .inl (fun _ => 0))) := by rw [eh5]; exact hp_up_g k4 (fun z => by rw [z, k3] at k4; cases k4)
  have k7 : h5 a = some (.inr (5, [.int 0, .int 0, .null, .ref q1])) := by rw [eh5]; exact hp_up_s
  refine hg_aload_n C 0 d_Ve_init_13 rfl rfl ?_
  refine hg_iload_n C 1 d_Ve_init_14 rfl rfl ?_
  refine p_Ve_15 (fs' := [.int n, .int 0, .null, .ref q1]) C hnm k7 rfl rfl (Nat.le_of_ble_eq_true rfl) rfl d_Ve_init_15 ?_
  obtain ⟨h8, eh8⟩ : ∃ z, z = hp_up h5 a (.inr (5, [.int n, .int 0, .null, .ref q1])) := ⟨_, rfl⟩
  refine hg_eq eh8.symm ?_
  have k9 : h8 q1 = some (.inl ((Γ.2.1 0), 300, .inl (fun _ => 0))) := by rw [eh8]; exact hp_up_g k6 (fun z => by rw [z, k7] at k6; cases k6)
  have k10 : h8 a = some (.inr (5, [.int n, .int 0, .null, .ref q1])) := by rw [eh8]; exact hp_up_s
  refine hg_aload_n C 0 d_Ve_init_18 rfl rfl ?_
  refine hg_iload_n C 2 d_Ve_init_19 rfl rfl ?_
  refine p_Ve_19 (fs' := [.int n, .int k, .null, .ref q1]) C hnm k10 rfl rfl (Nat.le_of_ble_eq_true rfl) rfl d_Ve_init_20 ?_
  obtain ⟨h11, eh11⟩ : ∃ z, z = hp_up h8 a (.inr (5, [.int n, .int k, .null, .ref q1])) := ⟨_, rfl⟩
  refine hg_eq eh11.symm ?_
  have k12 : h11 q1 = some (.inl ((Γ.2.1 0), 300, .inl (fun _ => 0))) := by rw [eh11]; exact hp_up_g k9 (fun z => by rw [z, k10] at k9; cases k9)
  have k13 : h11 a = some (.inr (5, [.int n, .int k, .null, .ref q1])) := by rw [eh11]; exact hp_up_s
  refine hg_aload_n C 0 d_Ve_init_23 rfl rfl ?_
  refine hg_aload_n C 3 d_Ve_init_24 rfl rfl ?_
  refine p_Ve_22 (fs' := [.int n, .int k, .ref b, .ref q1]) C hnm k13 rfl rfl (Nat.le_of_ble_eq_true rfl) rfl d_Ve_init_25 ?_
  obtain ⟨h14, eh14⟩ : ∃ z, z = hp_up h11 a (.inr (5, [.int n, .int k, .ref b, .ref q1])) := ⟨_, rfl⟩
  refine hg_eq eh14.symm ?_
  have k15 : h14 q1 = some (.inl ((Γ.2.1 0), 300, .inl (fun _ => 0))) := by rw [eh14]; exact hp_up_g k12 (fun z => by rw [z, k13] at k12; cases k12)
  have k16 : h14 a = some (.inr (5, [.int n, .int k, .ref b, .ref q1])) := by rw [eh14]; exact hp_up_s
  have fr_q1 := hq_q1
  exact hg_vretN C hr d_Ve_init_28 (Nat.le_of_ble_eq_true rfl) (Nat.le_of_ble_eq_true rfl) (⟨rfl, q1, fr_q1, k16, k15, fun z z0 z1 => by rw [eh14, hp_up_n z0, eh11, hp_up_n z0, eh8, hp_up_n z0, eh5, hp_up_n z0, eh2, hp_up_n z1]⟩)
abbrev rm_Se_isFull : Room := { frames := 0, cells := 0, slots := 0, locals := 0 }
set_option maxHeartbeats 4000000 in
set_option maxRecDepth 100000 in
theorem k_Se_isFull (l : Launch) (Γ : Gam) (h : Pic) (a : Nat) (v0 v1 v2 v3 v4 v6 v7 : Value) (k : Int32) (ha : h a = some (.inr (3, [v0, v1, v2, v3, v4, .int k, v6, v7]))) : kN l Γ y_Se_isFull w_Se_isFull rm_Se_isFull [.ref a] h (pb h (¬ k < 60)) 0 0 := by
  refine hg_entryN (own := "ModelMerge$Session") (cc := b_Se_isFull) (maxL := 1) (ret := (some .boolean)) (lv0 := [(0, .ref a)]) (by decide) rfl rfl (Nat.le_of_ble_eq_true rfl) rfl ?_
  intro p e s m args below meth c A C hnm hr
  refine hg_aload_n C 0 d_Se_isFull_0 rfl rfl ?_
  refine f_Se_27 C ha rfl d_Se_isFull_1 ?_
  refine hg_bipush (v := 60) C d_Se_isFull_4 (by decide) ?_
  refine hg_icmp_lt C 13 d_Se_isFull_6 (by decide) (fun c6 => ?_) (fun c6 => ?_)
  · refine hg_iconst (v := 0) C d_Se_isFull_13 (by decide) ?_
    exact hg_iretN C hr rfl d_Se_isFull_14 (Nat.le_of_ble_eq_true rfl) (Nat.le_of_ble_eq_true rfl) (Or.inr ⟨rfl, rfl, fun z => z c6⟩)
  · refine hg_iconst (v := 1) C d_Se_isFull_9 (by decide) ?_
    refine hg_goto C 14 d_Se_isFull_10 (by decide) ?_
    exact hg_iretN C hr rfl d_Se_isFull_14 (Nat.le_of_ble_eq_true rfl) (Nat.le_of_ble_eq_true rfl) (Or.inl ⟨rfl, rfl, c6⟩)
abbrev rm_Se_stepForward : Room := { frames := 2, cells := 0, slots := 0, locals := 44 }
set_option maxHeartbeats 4000000 in
set_option maxRecDepth 100000 in
theorem k_Se_stepForward0 (l : Launch) (Γ : Gam) (h : Pic) (a st sm : Nat) (v0 v1 v2 v5 v6 v7 : Value) (sn wt wf wo wn : Int32) (w1 : Value) (ha : h a = some (.inr (3, [v0, v1, v2, .ref st, .ref sm, v5, v6, v7]))) (hm : h sm = some (.inr (1, [.int sn, w1, .int wt, .int wf, .int wo, .int wn, .null]))) : kN l Γ y_Se_stepForward w_Se_stepForward rm_Se_stepForward [.ref a] h (pv (.int (-1)) h True) 0 0 := by
  refine hg_entryN (own := "ModelMerge$Session") (cc := b_Se_stepForward) (maxL := 2) (ret := (some .int)) (lv0 := [(0, .ref a)]) (by decide) rfl rfl (Nat.le_of_ble_eq_true rfl) rfl ?_
  intro p e s m args below meth c A C hnm hr
  refine hg_aload_n C 0 d_Se_stepForward_0 rfl rfl ?_
  refine f_Se_23 C ha rfl d_Se_stepForward_1 ?_
  refine f_Se_58 C hm rfl d_Se_stepForward_4 ?_
  refine hg_astore_nN (lv' := [(1, .null), (0, .ref a)]) C d_Se_stepForward_7 rfl (by decide) rfl ?_
  refine hg_aload_nN C 0 d_Se_stepForward_8 rfl rfl ?_
  refine hg_ifnonnullN C d_Se_stepForward_9 ?_
  refine hg_iconst (v := (-1)) C d_Se_stepForward_12 (by decide) ?_
  exact hg_iretN C hr rfl d_Se_stepForward_13 (Nat.le_of_ble_eq_true rfl) (Nat.le_of_ble_eq_true rfl) (⟨rfl, rfl, trivial⟩)
set_option maxHeartbeats 4000000 in
set_option maxRecDepth 100000 in
theorem k_Se_stepForward (l : Launch) (Γ : Gam) (h : Pic) (a st b sm : Nat) (F : Nat → Int32) (v0 v1 v2 v5 v6 v7 : Value) (ha : h a = some (.inr (3, [v0, v1, v2, .ref st, .ref sm, v5, v6, v7]))) (hst : h st = some (.inr (4, [.ref b]))) (hb : h b = some (.inl (Γ.2.1 0, 360, .inl F))) (q : Nat) (sn wt wf wo wn qn qt qf qo qv : Int32) (w1 x1 x6 : Value) (hm : h sm = some (.inr (1, [.int sn, w1, .int wt, .int wf, .int wo, .int wn, .ref q]))) (hq : h q = some (.inr (1, [.int qn, x1, .int qt, .int qf, .int qo, .int qv, x6]))) : kN l Γ y_Se_stepForward w_Se_stepForward rm_Se_stepForward [.ref a] h (fun r u => r = some (.int qn) ∧ u = hp_up (hp_up h b (.inl (Γ.2.1 0, 360, .inl (s_put F qt qf qv)))) a (.inr (3, [v0, v1, v2, .ref st, .ref q, v5, v6, v7]))) 0 0 := by
  refine hg_entryN (own := "ModelMerge$Session") (cc := b_Se_stepForward) (maxL := 2) (ret := (some .int)) (lv0 := [(0, .ref a)]) (by decide) rfl rfl (Nat.le_of_ble_eq_true rfl) rfl ?_
  intro p e s m args below meth c A C hnm hr
  refine hg_aload_n C 0 d_Se_stepForward_0 rfl rfl ?_
  refine f_Se_23 C ha rfl d_Se_stepForward_1 ?_
  refine f_Se_58 C hm rfl d_Se_stepForward_4 ?_
  refine hg_astore_n (lv' := [(1, .ref q), (0, .ref a)]) C d_Se_stepForward_7 rfl (by decide) rfl ?_
  refine hg_aload_n C 0 d_Se_stepForward_8 rfl rfl ?_
  refine hg_ifnonnull C 14 d_Se_stepForward_9 (by decide) ?_
  refine hg_aload_n C 1 d_Se_stepForward_14 rfl rfl ?_
  refine f_Se_12 C ha rfl d_Se_stepForward_15 ?_
  refine hg_aload_n C 0 d_Se_stepForward_18 rfl rfl ?_
  refine f_Se_65 C hq rfl d_Se_stepForward_19 ?_
  refine hg_aload_n C 0 d_Se_stepForward_22 rfl rfl ?_
  refine f_Se_68 C hq rfl d_Se_stepForward_23 ?_
  refine hg_aload_n C 0 d_Se_stepForward_26 rfl rfl ?_
  refine f_Se_71 C hq rfl d_Se_stepForward_27 ?_
  refine hg_VNz (q := ("ModelMerge$State", T_St, 1)) C (k_St_put l Γ _ st b F hst hb qt qf qv) (cw_Se_74 C.2.2.2.2.1 rfl rfl ⟨Nat.le_of_ble_eq_true rfl, Nat.le_of_ble_eq_true rfl⟩) hst rfl rfl rfl (Nat.le_of_ble_eq_true rfl) d_Se_stepForward_30 ⟨Nat.le_of_ble_eq_true rfl, Nat.le_of_ble_eq_true rfl⟩ (fun h1 eh1 => ?_)
  have k2 : h1 a = some (.inr (3, [v0, v1, v2, .ref st, .ref sm, v5, v6, v7])) := by rw [eh1]; exact hp_up_g ha (fun z => by rw [z, hb] at ha; cases ha)
  have k3 : h1 st = some (.inr (4, [.ref b])) := by rw [eh1]; exact hp_up_g hst (fun z => by rw [z, hb] at hst; cases hst)
  have k4 : h1 sm = some (.inr (1, [.int sn, w1, .int wt, .int wf, .int wo, .int wn, .ref q])) := by rw [eh1]; exact hp_up_g hm (fun z => by rw [z, hb] at hm; cases hm)
  have k5 : h1 q = some (.inr (1, [.int qn, x1, .int qt, .int qf, .int qo, .int qv, x6])) := by rw [eh1]; exact hp_up_g hq (fun z => by rw [z, hb] at hq; cases hq)
  have k6 : h1 b = some (.inl ((Γ.2.1 0), 360, .inl (s_put F qt qf qv))) := by rw [eh1]; exact hp_up_s
  refine hg_aload_n C 1 d_Se_stepForward_33 rfl rfl ?_
  refine hg_aload_n C 0 d_Se_stepForward_34 rfl rfl ?_
  refine p_Se_23 (fs' := [v0, v1, v2, .ref st, .ref q, v5, v6, v7]) C k2 rfl rfl (Nat.le_of_ble_eq_true rfl) rfl d_Se_stepForward_35 ?_
  obtain ⟨h7, eh7⟩ : ∃ z, z = hp_up h1 a (.inr (3, [v0, v1, v2, .ref st, .ref q, v5, v6, v7])) := ⟨_, rfl⟩
  refine hg_eq eh7.symm ?_
  have k8 : h7 st = some (.inr (4, [.ref b])) := by rw [eh7]; exact hp_up_g k3 (fun z => by rw [z, k2] at k3; cases k3)
  have k9 : h7 sm = some (.inr (1, [.int sn, w1, .int wt, .int wf, .int wo, .int wn, .ref q])) := by rw [eh7]; exact hp_up_g k4 (fun z => by rw [z, k2] at k4; cases k4)
  have k10 : h7 q = some (.inr (1, [.int qn, x1, .int qt, .int qf, .int qo, .int qv, x6])) := by rw [eh7]; exact hp_up_g k5 (fun z => by rw [z, k2] at k5; cases k5)
  have k11 : h7 b = some (.inl ((Γ.2.1 0), 360, .inl (s_put F qt qf qv))) := by rw [eh7]; exact hp_up_g k6 (fun z => by rw [z, k2] at k6; cases k6)
  have k12 : h7 a = some (.inr (3, [v0, v1, v2, .ref st, .ref q, v5, v6, v7])) := by rw [eh7]; exact hp_up_s
  refine hg_aload_n C 0 d_Se_stepForward_38 rfl rfl ?_
  refine f_Se_78 C k10 rfl d_Se_stepForward_39 ?_
  exact hg_iretN C hr rfl d_Se_stepForward_42 (Nat.le_of_ble_eq_true rfl) (Nat.le_of_ble_eq_true rfl) (⟨rfl, by rw [eh7, eh1]⟩)
abbrev rm_Se_stepBack : Room := { frames := 2, cells := 0, slots := 0, locals := 44 }
set_option maxHeartbeats 4000000 in
set_option maxRecDepth 100000 in
theorem k_Se_stepBack0 (l : Launch) (Γ : Gam) (h : Pic) (a st sm : Nat) (v0 v1 v2 v5 v6 v7 : Value) (sn wt wf wo wn : Int32) (w6 : Value) (ha : h a = some (.inr (3, [v0, v1, v2, .ref st, .ref sm, v5, v6, v7]))) (hm : h sm = some (.inr (1, [.int sn, .null, .int wt, .int wf, .int wo, .int wn, w6]))) : kN l Γ y_Se_stepBack w_Se_stepBack rm_Se_stepBack [.ref a] h (pv (.int (-1)) h True) 0 0 := by
  refine hg_entryN (own := "ModelMerge$Session") (cc := b_Se_stepBack) (maxL := 3) (ret := (some .int)) (lv0 := [(0, .ref a)]) (by decide) rfl rfl (Nat.le_of_ble_eq_true rfl) rfl ?_
  intro p e s m args below meth c A C hnm hr
  refine hg_aload_n C 0 d_Se_stepBack_0 rfl rfl ?_
  refine f_Se_23 C ha rfl d_Se_stepBack_1 ?_
  refine hg_astore_n (lv' := [(1, .ref sm), (0, .ref a)]) C d_Se_stepBack_4 rfl (by decide) rfl ?_
  refine hg_aload_n C 0 d_Se_stepBack_5 rfl rfl ?_
  refine f_Se_79 C hm rfl d_Se_stepBack_6 ?_
  refine hg_astore_nN (lv' := [(2, .null), (1, .ref sm), (0, .ref a)]) C d_Se_stepBack_9 rfl (by decide) rfl ?_
  refine hg_aload_nN C 0 d_Se_stepBack_10 rfl rfl ?_
  refine hg_ifnonnullN C d_Se_stepBack_11 ?_
  refine hg_iconst (v := (-1)) C d_Se_stepBack_14 (by decide) ?_
  exact hg_iretN C hr rfl d_Se_stepBack_15 (Nat.le_of_ble_eq_true rfl) (Nat.le_of_ble_eq_true rfl) (⟨rfl, rfl, trivial⟩)
set_option maxHeartbeats 4000000 in
set_option maxRecDepth 100000 in
theorem k_Se_stepBack (l : Launch) (Γ : Gam) (h : Pic) (a st b sm : Nat) (F : Nat → Int32) (v0 v1 v2 v5 v6 v7 : Value) (ha : h a = some (.inr (3, [v0, v1, v2, .ref st, .ref sm, v5, v6, v7]))) (hst : h st = some (.inr (4, [.ref b]))) (hb : h b = some (.inl (Γ.2.1 0, 360, .inl F))) (q : Nat) (sn wt wf wo wn qn : Int32) (w6 x1 x2 x3 x4 x5 x6 : Value) (hm : h sm = some (.inr (1, [.int sn, .ref q, .int wt, .int wf, .int wo, .int wn, w6]))) (hq : h q = some (.inr (1, [.int qn, x1, x2, x3, x4, x5, x6]))) : kN l Γ y_Se_stepBack w_Se_stepBack rm_Se_stepBack [.ref a] h (fun r u => r = some (.int qn) ∧ u = hp_up (hp_up h b (.inl (Γ.2.1 0, 360, .inl (s_put F wt wf wo)))) a (.inr (3, [v0, v1, v2, .ref st, .ref q, v5, v6, v7]))) 0 0 := by
  refine hg_entryN (own := "ModelMerge$Session") (cc := b_Se_stepBack) (maxL := 3) (ret := (some .int)) (lv0 := [(0, .ref a)]) (by decide) rfl rfl (Nat.le_of_ble_eq_true rfl) rfl ?_
  intro p e s m args below meth c A C hnm hr
  refine hg_aload_n C 0 d_Se_stepBack_0 rfl rfl ?_
  refine f_Se_23 C ha rfl d_Se_stepBack_1 ?_
  refine hg_astore_n (lv' := [(1, .ref sm), (0, .ref a)]) C d_Se_stepBack_4 rfl (by decide) rfl ?_
  refine hg_aload_n C 0 d_Se_stepBack_5 rfl rfl ?_
  refine f_Se_79 C hm rfl d_Se_stepBack_6 ?_
  refine hg_astore_n (lv' := [(2, .ref q), (1, .ref sm), (0, .ref a)]) C d_Se_stepBack_9 rfl (by decide) rfl ?_
  refine hg_aload_n C 0 d_Se_stepBack_10 rfl rfl ?_
  refine hg_ifnonnull C 16 d_Se_stepBack_11 (by decide) ?_
  refine hg_aload_n C 2 d_Se_stepBack_16 rfl rfl ?_
  refine f_Se_12 C ha rfl d_Se_stepBack_17 ?_
  refine hg_aload_n C 1 d_Se_stepBack_20 rfl rfl ?_
  refine f_Se_65 C hm rfl d_Se_stepBack_21 ?_
  refine hg_aload_n C 1 d_Se_stepBack_24 rfl rfl ?_
  refine f_Se_68 C hm rfl d_Se_stepBack_25 ?_
  refine hg_aload_n C 1 d_Se_stepBack_28 rfl rfl ?_
  refine f_Se_82 C hm rfl d_Se_stepBack_29 ?_
  refine hg_VNz (q := ("ModelMerge$State", T_St, 1)) C (k_St_put l Γ _ st b F hst hb wt wf wo) (cw_Se_74 C.2.2.2.2.1 rfl rfl ⟨Nat.le_of_ble_eq_true rfl, Nat.le_of_ble_eq_true rfl⟩) hst rfl rfl rfl (Nat.le_of_ble_eq_true rfl) d_Se_stepBack_32 ⟨Nat.le_of_ble_eq_true rfl, Nat.le_of_ble_eq_true rfl⟩ (fun h1 eh1 => ?_)
  have k2 : h1 a = some (.inr (3, [v0, v1, v2, .ref st, .ref sm, v5, v6, v7])) := by rw [eh1]; exact hp_up_g ha (fun z => by rw [z, hb] at ha; cases ha)
  have k3 : h1 st = some (.inr (4, [.ref b])) := by rw [eh1]; exact hp_up_g hst (fun z => by rw [z, hb] at hst; cases hst)
  have k4 : h1 sm = some (.inr (1, [.int sn, .ref q, .int wt, .int wf, .int wo, .int wn, w6])) := by rw [eh1]; exact hp_up_g hm (fun z => by rw [z, hb] at hm; cases hm)
  have k5 : h1 q = some (.inr (1, [.int qn, x1, x2, x3, x4, x5, x6])) := by rw [eh1]; exact hp_up_g hq (fun z => by rw [z, hb] at hq; cases hq)
  have k6 : h1 b = some (.inl ((Γ.2.1 0), 360, .inl (s_put F wt wf wo))) := by rw [eh1]; exact hp_up_s
  refine hg_aload_n C 2 d_Se_stepBack_35 rfl rfl ?_
  refine hg_aload_n C 0 d_Se_stepBack_36 rfl rfl ?_
  refine p_Se_23 (fs' := [v0, v1, v2, .ref st, .ref q, v5, v6, v7]) C k2 rfl rfl (Nat.le_of_ble_eq_true rfl) rfl d_Se_stepBack_37 ?_
  obtain ⟨h7, eh7⟩ : ∃ z, z = hp_up h1 a (.inr (3, [v0, v1, v2, .ref st, .ref q, v5, v6, v7])) := ⟨_, rfl⟩
  refine hg_eq eh7.symm ?_
  have k8 : h7 st = some (.inr (4, [.ref b])) := by rw [eh7]; exact hp_up_g k3 (fun z => by rw [z, k2] at k3; cases k3)
  have k9 : h7 sm = some (.inr (1, [.int sn, .ref q, .int wt, .int wf, .int wo, .int wn, w6])) := by rw [eh7]; exact hp_up_g k4 (fun z => by rw [z, k2] at k4; cases k4)
  have k10 : h7 q = some (.inr (1, [.int qn, x1, x2, x3, x4, x5, x6])) := by rw [eh7]; exact hp_up_g k5 (fun z => by rw [z, k2] at k5; cases k5)
  have k11 : h7 b = some (.inl ((Γ.2.1 0), 360, .inl (s_put F wt wf wo))) := by rw [eh7]; exact hp_up_g k6 (fun z => by rw [z, k2] at k6; cases k6)
  have k12 : h7 a = some (.inr (3, [v0, v1, v2, .ref st, .ref q, v5, v6, v7])) := by rw [eh7]; exact hp_up_s
  refine hg_aload_n C 0 d_Se_stepBack_40 rfl rfl ?_
  refine f_Se_78 C k10 rfl d_Se_stepBack_41 ?_
  exact hg_iretN C hr rfl d_Se_stepBack_44 (Nat.le_of_ble_eq_true rfl) (Nat.le_of_ble_eq_true rfl) (⟨rfl, by rw [eh7, eh1]⟩)
section HVU
variable {p : Program} {l : Launch} {e : Env} {R : Room} {s : State} {m : MethodId} {args : Array Value} {below : List Frame} {meth : Method} {c : Code} {cc : ByteArray} {nL : Nat} {own : String} {ws : List Cond} {D : va_G} {cl : List vw_C} {tys : List (ClassId × FieldType)} {sts : List (String × Nat × String × Nat)} {aos : List Cond} {A : Nat → Prop} {Q : State → Prop} {cells slots pc : Nat} {lv : List (Nat × Value)} {st sf : List Value} {h : Pic}
variable {y : MethodName} {bytes : ByteArray} {maxL mc ms n index : Nat} {ret : Option FieldType} {wy : List Cond} {rm : Room} {As : List Value} {b : Nat} {x : Value} {ci : Nat} {fs : List Value} {q : vw_C}
theorem hg_VNu {post : Pic → Prop} (C : hp_C p s m args meth c cc nL own ws D cl tys sts aos A) (hM : hp_N l y wy rm D cl tys sts aos (.ref b :: As) h (fun r u => r = some x ∧ post u) mc ms) (cw : CallW R s args own q.1 index y bytes maxL ret wy rm mc ms n) (hb : h b = some (.inr (ci, fs))) (hc : cl[ci]? = some q) (hn : As.length = n) (hsf : sf = As.reverse ++ .ref b :: st) (hst : (st.map fun v => v.category).sum ≤ 8) (hd : decode cc pc = .ok (.invokevirtual index, 3)) (hf : cells + mc ≤ R.cells ∧ slots + ms ≤ R.slots)
    (kk : ∀ (u : Pic), post u → hp_G p l e R s m args below meth c D cl A nL Q (cells + mc) (slots + ms) (pc + 3) lv (x :: st) u) : hp_G p l e R s m args below meth c D cl A nL Q cells slots pc lv sf h :=
  hg_VN C hM cw hb hc hn hsf hst hd hf (fun r u hq => by obtain ⟨rfl, hq⟩ := hq; exact kk u hq)
end HVU
abbrev rm_Se_change : Room := { frames := 3, cells := 1, slots := 7, locals := 65 }
set_option maxHeartbeats 4000000 in
set_option maxRecDepth 100000 in
theorem k_Se_change (l : Launch) (Γ : Gam) (h : Pic) (a st b sm : Nat) (F : Nat → Int32) (v0 v1 v2 v6 v7 w1 w6 : Value) (k sn wt wf wo wn : Int32) (ha : h a = some (.inr (3, [v0, v1, v2, .ref st, .ref sm, .int k, v6, v7]))) (hst : h st = some (.inr (4, [.ref b]))) (hb : h b = some (.inl (Γ.2.1 0, 360, .inl F))) (hm : h sm = some (.inr (1, [.int sn, w1, .int wt, .int wf, .int wo, .int wn, w6]))) (t f v : Int32) : kN l Γ y_Se_change w_Se_change rm_Se_change [.ref a, .int t, .int f, .int v] h (fun r u => r = some (.int k) ∧ ∃ q : Nat, h q = none ∧ u a = some (.inr (3, [v0, v1, v2, .ref st, .ref q, .int (k + 1), v6, v7])) ∧ u sm = some (.inr (1, [.int sn, w1, .int wt, .int wf, .int wo, .int wn, .ref q])) ∧ u q = some (.inr (1, [.int k, .ref sm, .int t, .int f, .int (s_val F t f), .int v, .null])) ∧ u b = some (.inl (Γ.2.1 0, 360, .inl (s_put F t f v))) ∧ ∀ z, z ≠ a → z ≠ sm → z ≠ q → z ≠ b → u z = h z) 1 7 := by
  refine hg_entryN (own := "ModelMerge$Session") (cc := b_Se_change) (maxL := 6) (ret := (some .int)) (lv0 := [(0, .ref a), (1, .int t), (2, .int f), (3, .int v)]) (by decide) rfl rfl (Nat.le_of_ble_eq_true rfl) rfl ?_
  intro p e s m args below meth c A C hnm hr
  refine hg_aload_n C 0 d_Se_change_0 rfl rfl ?_
  refine f_Se_12 C ha rfl d_Se_change_1 ?_
  refine hg_iload_n C 1 d_Se_change_4 rfl rfl ?_
  refine hg_iload_n C 2 d_Se_change_5 rfl rfl ?_
  refine hg_VNv (q := ("ModelMerge$State", T_St, 1)) C (k_St_value l Γ _ st b F hst hb t f) (cw_Se_54 C.2.2.2.2.1 rfl rfl ⟨Nat.le_of_ble_eq_true rfl, Nat.le_of_ble_eq_true rfl⟩) hst rfl rfl rfl (Nat.le_of_ble_eq_true rfl) d_Se_change_6 ⟨Nat.le_of_ble_eq_true rfl, Nat.le_of_ble_eq_true rfl⟩ (fun _ => ?_)
  refine hg_istore (lv' := [(4, .int (s_val F t f)), (0, .ref a), (1, .int t), (2, .int f), (3, .int v)]) C d_Se_change_9 (by decide) rfl ?_
  refine n_Se_18 C (Nat.le_of_ble_eq_true rfl) (Nat.le_of_ble_eq_true rfl) d_Se_change_11 (fun q1 hq_q1 => ?_)
  obtain ⟨h2, eh2⟩ : ∃ z, z = hp_up h q1 (.inr (1, [.int 0, .null, .int 0, .int 0, .int 0, .int 0, .null])) := ⟨_, rfl⟩
  refine hg_eq eh2.symm ?_
  have k3 : h2 a = some (.inr (3, [v0, v1, v2, .ref st, .ref sm, .int k, v6, v7])) := by rw [eh2]; exact hp_up_g ha (fun z => by rw [z, hq_q1] at ha; cases ha)
  have k4 : h2 st = some (.inr (4, [.ref b])) := by rw [eh2]; exact hp_up_g hst (fun z => by rw [z, hq_q1] at hst; cases hst)
  have k5 : h2 b = some (.inl ((Γ.2.1 0), 360, .inl F)) := by rw [eh2]; exact hp_up_g hb (fun z => by rw [z, hq_q1] at hb; cases hb)
  have k6 : h2 sm = some (.inr (1, [.int sn, w1, .int wt, .int wf, .int wo, .int wn, w6])) := by rw [eh2]; exact hp_up_g hm (fun z => by rw [z, hq_q1] at hm; cases hm)
  have k7 : h2 q1 = some (.inr (1, [.int 0, .null, .int 0, .int 0, .int 0, .int 0, .null])) := by rw [eh2]; exact hp_up_s
  refine hg_dup C d_Se_change_14 rfl ?_
  refine hg_aload_n C 1 d_Se_change_15 rfl rfl ?_
  refine f_Se_27 C k3 rfl d_Se_change_16 ?_
  refine hg_aload_n C 1 d_Se_change_19 rfl rfl ?_
  refine f_Se_23 C k3 rfl d_Se_change_20 ?_
  refine hg_iload_n C 2 d_Se_change_23 rfl rfl ?_
  refine hg_iload_n C 3 d_Se_change_24 rfl rfl ?_
  refine hg_iload C 0 d_Se_change_25 rfl ?_
  refine hg_iload_n C 4 d_Se_change_27 rfl rfl ?_
  refine hg_Iz C (k_Mo_init l Γ _ q1 sm k t f (s_val F t f) v k7) (cw_Se_20 C.2.2.2.2.1 rfl rfl ⟨Nat.le_of_ble_eq_true rfl, Nat.le_of_ble_eq_true rfl⟩) rfl rfl (Nat.le_of_ble_eq_true rfl) d_Se_change_28 ⟨Nat.le_of_ble_eq_true rfl, Nat.le_of_ble_eq_true rfl⟩ (fun h8 eh8 => ?_)
  have k9 : h8 a = some (.inr (3, [v0, v1, v2, .ref st, .ref sm, .int k, v6, v7])) := by rw [eh8]; exact hp_up_g k3 (fun z => by rw [z, k7] at k3; cases k3)
  have k10 : h8 st = some (.inr (4, [.ref b])) := by rw [eh8]; exact hp_up_g k4 (fun z => by rw [z, k7] at k4; cases k4)
  have k11 : h8 b = some (.inl ((Γ.2.1 0), 360, .inl F)) := by rw [eh8]; exact hp_up_g k5 (fun z => by rw [z, k7] at k5; cases k5)
  have k12 : h8 sm = some (.inr (1, [.int sn, w1, .int wt, .int wf, .int wo, .int wn, w6])) := by rw [eh8]; exact hp_up_g k6 (fun z => by rw [← z, hm] at hq_q1; cases hq_q1)
  have k13 : h8 q1 = some (.inr (1, [.int k, .ref sm, .int t, .int f, .int (s_val F t f), .int v, .null])) := by rw [eh8]; exact hp_up_s
  refine hg_astore (lv' := [(5, .ref q1), (4, .int (s_val F t f)), (0, .ref a), (1, .int t), (2, .int f), (3, .int v)]) C d_Se_change_31 (by decide) rfl ?_
  refine hg_aload_n C 2 d_Se_change_33 rfl rfl ?_
  refine f_Se_23 C k9 rfl d_Se_change_34 ?_
  refine hg_aload C 0 d_Se_change_37 rfl ?_
  refine p_Se_58 (fs' := [.int sn, w1, .int wt, .int wf, .int wo, .int wn, .ref q1]) C k12 rfl rfl (Nat.le_of_ble_eq_true rfl) rfl d_Se_change_39 ?_
  obtain ⟨h14, eh14⟩ : ∃ z, z = hp_up h8 sm (.inr (1, [.int sn, w1, .int wt, .int wf, .int wo, .int wn, .ref q1])) := ⟨_, rfl⟩
  refine hg_eq eh14.symm ?_
  have k15 : h14 a = some (.inr (3, [v0, v1, v2, .ref st, .ref sm, .int k, v6, v7])) := by rw [eh14]; exact hp_up_g k9 (fun z => by rw [z, k12] at k9; cases k9)
  have k16 : h14 st = some (.inr (4, [.ref b])) := by rw [eh14]; exact hp_up_g k10 (fun z => by rw [z, k12] at k10; cases k10)
  have k17 : h14 b = some (.inl ((Γ.2.1 0), 360, .inl F)) := by rw [eh14]; exact hp_up_g k11 (fun z => by rw [z, k12] at k11; cases k11)
  have k18 : h14 q1 = some (.inr (1, [.int k, .ref sm, .int t, .int f, .int (s_val F t f), .int v, .null])) := by rw [eh14]; exact hp_up_g k13 (fun z => by rw [z, hm] at hq_q1; cases hq_q1)
  have k19 : h14 sm = some (.inr (1, [.int sn, w1, .int wt, .int wf, .int wo, .int wn, .ref q1])) := by rw [eh14]; exact hp_up_s
  refine hg_aload_n C 2 d_Se_change_42 rfl rfl ?_
  refine hg_dup C d_Se_change_43 rfl ?_
  refine f_Se_27 C k15 rfl d_Se_change_44 ?_
  refine hg_iconst (v := 1) C d_Se_change_47 (by decide) ?_
  refine hg_iadd C d_Se_change_48 ?_
  refine p_Se_27 (fs' := [v0, v1, v2, .ref st, .ref sm, .int (k + 1), v6, v7]) C k15 rfl rfl (Nat.le_of_ble_eq_true rfl) rfl d_Se_change_49 ?_
  obtain ⟨h20, eh20⟩ : ∃ z, z = hp_up h14 a (.inr (3, [v0, v1, v2, .ref st, .ref sm, .int (k + 1), v6, v7])) := ⟨_, rfl⟩
  refine hg_eq eh20.symm ?_
  have k21 : h20 st = some (.inr (4, [.ref b])) := by rw [eh20]; exact hp_up_g k16 (fun z => by rw [z, k15] at k16; cases k16)
  have k22 : h20 b = some (.inl ((Γ.2.1 0), 360, .inl F)) := by rw [eh20]; exact hp_up_g k17 (fun z => by rw [z, k15] at k17; cases k17)
  have k23 : h20 q1 = some (.inr (1, [.int k, .ref sm, .int t, .int f, .int (s_val F t f), .int v, .null])) := by rw [eh20]; exact hp_up_g k18 (fun z => by rw [z, k15] at k18; cases k18)
  have k24 : h20 sm = some (.inr (1, [.int sn, w1, .int wt, .int wf, .int wo, .int wn, .ref q1])) := by rw [eh20]; exact hp_up_g k19 (fun z => by rw [z, k15] at k19; cases k19)
  have k25 : h20 a = some (.inr (3, [v0, v1, v2, .ref st, .ref sm, .int (k + 1), v6, v7])) := by rw [eh20]; exact hp_up_s
  refine hg_aload_n C 2 d_Se_change_52 rfl rfl ?_
  refine hg_VNu (q := ("ModelMerge$Session", T_Se, 8)) C (k_Se_stepForward l Γ _ a st b sm F v0 v1 v2 (.int (k + 1)) v6 v7 k25 k21 k22 q1 sn wt wf wo wn k t f (s_val F t f) v w1 (.ref sm) .null k24 k23) (cw_Se_61 C.2.2.2.2.1 rfl rfl ⟨Nat.le_of_ble_eq_true rfl, Nat.le_of_ble_eq_true rfl⟩) k25 rfl rfl rfl (Nat.le_of_ble_eq_true rfl) d_Se_change_53 ⟨Nat.le_of_ble_eq_true rfl, Nat.le_of_ble_eq_true rfl⟩ (fun h26 eh26 => ?_)
  obtain ⟨h27, eh27⟩ : ∃ z, z = hp_up h20 b (.inl ((Γ.2.1 0), 360, .inl (s_put F t f v))) := ⟨_, rfl⟩
  rw [← eh27] at eh26
  have k28 : h27 st = some (.inr (4, [.ref b])) := by rw [eh27]; exact hp_up_g k21 (fun z => by rw [z, k22] at k21; cases k21)
  have k29 : h27 q1 = some (.inr (1, [.int k, .ref sm, .int t, .int f, .int (s_val F t f), .int v, .null])) := by rw [eh27]; exact hp_up_g k23 (fun z => by rw [z, k22] at k23; cases k23)
  have k30 : h27 sm = some (.inr (1, [.int sn, w1, .int wt, .int wf, .int wo, .int wn, .ref q1])) := by rw [eh27]; exact hp_up_g k24 (fun z => by rw [z, k22] at k24; cases k24)
  have k31 : h27 a = some (.inr (3, [v0, v1, v2, .ref st, .ref sm, .int (k + 1), v6, v7])) := by rw [eh27]; exact hp_up_g k25 (fun z => by rw [z, k22] at k25; cases k25)
  have k32 : h27 b = some (.inl ((Γ.2.1 0), 360, .inl (s_put F t f v))) := by rw [eh27]; exact hp_up_s
  have k33 : h26 st = some (.inr (4, [.ref b])) := by rw [eh26]; exact hp_up_g k28 (fun z => by rw [z, k31] at k28; cases k28)
  have k34 : h26 q1 = some (.inr (1, [.int k, .ref sm, .int t, .int f, .int (s_val F t f), .int v, .null])) := by rw [eh26]; exact hp_up_g k29 (fun z => by rw [z, k31] at k29; cases k29)
  have k35 : h26 sm = some (.inr (1, [.int sn, w1, .int wt, .int wf, .int wo, .int wn, .ref q1])) := by rw [eh26]; exact hp_up_g k30 (fun z => by rw [z, k31] at k30; cases k30)
  have k36 : h26 b = some (.inl ((Γ.2.1 0), 360, .inl (s_put F t f v))) := by rw [eh26]; exact hp_up_g k32 (fun z => by rw [z, k31] at k32; cases k32)
  have k37 : h26 a = some (.inr (3, [v0, v1, v2, .ref st, .ref q1, .int (k + 1), v6, v7])) := by rw [eh26]; exact hp_up_s
  have fr_q1 := hq_q1
  exact hg_iretN C hr rfl d_Se_change_56 (Nat.le_of_ble_eq_true rfl) (Nat.le_of_ble_eq_true rfl) (⟨rfl, q1, fr_q1, k37, k35, k34, k36, fun z z0 z1 z2 z3 => by rw [eh26, hp_up_n z0, eh27, hp_up_n z3, eh20, hp_up_n z0, eh14, hp_up_n z1, eh8, hp_up_n z2, eh2, hp_up_n z2]⟩)
abbrev rm_Se_init : Room := { frames := 2, cells := 3, slots := 368, locals := 121 }
set_option maxHeartbeats 4000000 in
set_option maxRecDepth 100000 in
theorem k_Se_init (l : Launch) (Γ : Gam) (h : Pic) (a bv vs vb : Nat) (G : Nat → Int32) (x0 x1 x3 : Value) (n k : Int32) (ha : h a = some (.inr (3, [.int 0, .int 0, .null, .null, .null, .int 0, .int 0, .int 0]))) (hv : h bv = some (.inr (5, [x0, x1, .ref vs, x3]))) (hvs : h vs = some (.inr (4, [.ref vb]))) (hvb : h vb = some (.inl (Γ.2.1 0, 360, .inl G))) : kN l Γ y_Se_init w_Se_init rm_Se_init [.ref a, .int n, .int k, .ref bv] h (fun r u => r = none ∧ ∃ qs qb qm : Nat, h qs = none ∧ h qb = none ∧ h qm = none ∧ u a = some (.inr (3, [.int n, .int k, .ref bv, .ref qs, .ref qm, .int 1, .int 0, .int (-1)])) ∧ u qs = some (.inr (4, [.ref qb])) ∧ u qb = some (.inl (Γ.2.1 0, 360, .inl (va_cpy G (fun _ => 0) 0 0 360))) ∧ u qm = some (.inr (1, [.int 0, .null, .int (-1), .int (-1), .int 0, .int 0, .null])) ∧ ∀ z, z ≠ a → z ≠ qs → z ≠ qb → z ≠ qm → u z = h z) 3 368 := by
  refine hg_entryN (own := "ModelMerge$Session") (cc := b_Se_init) (maxL := 4) (ret := none) (lv0 := [(0, .ref a), (1, .int n), (2, .int k), (3, .ref bv)]) (by decide) rfl rfl (Nat.le_of_ble_eq_true rfl) rfl ?_
  intro p e s m args below meth c A C hnm hr
  refine hg_aload_n C 0 d_Se_init_0 rfl rfl ?_
  refine o_Se_3 C (Nat.le_of_ble_eq_true rfl) (Nat.le_of_ble_eq_true rfl) d_Se_init_1 ?_
  refine hg_aload_n C 0 d_Se_init_4 rfl rfl ?_
  refine n_Se_9 C (Nat.le_of_ble_eq_true rfl) (Nat.le_of_ble_eq_true rfl) d_Se_init_5 (fun q1 hq_q1 => ?_)
  obtain ⟨h2, eh2⟩ : ∃ z, z = hp_up h q1 (.inr (4, [.null])) := ⟨_, rfl⟩
  refine hg_eq eh2.symm ?_
  have k3 : h2 a = some (.inr (3, [.int 0, .int 0, .null, .null, .null, .int 0, .int 0, .int 0])) := by rw [eh2]; exact hp_up_g ha (fun z => by rw [z, hq_q1] at ha; cases ha)
  have k4 : h2 bv = some (.inr (5, [x0, x1, .ref vs, x3])) := by rw [eh2]; exact hp_up_g hv (fun z => by rw [z, hq_q1] at hv; cases hv)
  have k5 : h2 vs = some (.inr (4, [.ref vb])) := by rw [eh2]; exact hp_up_g hvs (fun z => by rw [z, hq_q1] at hvs; cases hvs)
  have k6 : h2 vb = some (.inl ((Γ.2.1 0), 360, .inl G)) := by rw [eh2]; exact hp_up_g hvb (fun z => by rw [z, hq_q1] at hvb; cases hvb)
  have k7 : h2 q1 = some (.inr (4, [.null])) := by rw [eh2]; exact hp_up_s
  have fr_q1 := hq_q1
  refine hg_dup C d_Se_init_8 rfl ?_
  refine hg_INz (host := "ModelMerge") C (k_St_init l Γ _ q1 k7) kcode_St_init (by decide +kernel) kw4 kw54 rfl rfl rfl (by decide +kernel) ⟨Nat.le_of_ble_eq_true rfl, Nat.le_of_ble_eq_true rfl⟩ rfl rfl (Nat.le_of_ble_eq_true rfl) d_Se_init_9 ⟨Nat.le_of_ble_eq_true rfl, Nat.le_of_ble_eq_true rfl⟩ (fun h8 hu_h8 => ?_)
  obtain ⟨q10, hq_q10, eh8⟩ := hu_h8
  obtain ⟨h9, eh9⟩ : ∃ z, z = hp_up h2 q10 (.inl ((Γ.2.1 0), 360, .inl (fun _ => 0))) := ⟨_, rfl⟩
  rw [← eh9] at eh8
  have k11 : h9 a = some (.inr (3, [.int 0, .int 0, .null, .null, .null, .int 0, .int 0, .int 0])) := by rw [eh9]; exact hp_up_g k3 (fun z => by rw [z, hq_q10] at k3; cases k3)
  have k12 : h9 bv = some (.inr (5, [x0, x1, .ref vs, x3])) := by rw [eh9]; exact hp_up_g k4 (fun z => by rw [z, hq_q10] at k4; cases k4)
  have k13 : h9 vs = some (.inr (4, [.ref vb])) := by rw [eh9]; exact hp_up_g k5 (fun z => by rw [z, hq_q10] at k5; cases k5)
  have k14 : h9 vb = some (.inl ((Γ.2.1 0), 360, .inl G)) := by rw [eh9]; exact hp_up_g k6 (fun z => by rw [z, hq_q10] at k6; cases k6)
  have k15 : h9 q1 = some (.inr (4, [.null])) := by rw [eh9]; exact hp_up_g k7 (fun z => by rw [z, hq_q10] at k7; cases k7)
  have k16 : h9 q10 = some (.inl ((Γ.2.1 0), 360, .inl (fun _ => 0))) := by rw [eh9]; exact hp_up_s
  have k17 : h8 a = some (.inr (3, [.int 0, .int 0, .null, .null, .null, .int 0, .int 0, .int 0])) := by rw [eh8]; exact hp_up_g k11 (fun z => by rw [z, k15] at k11; cases k11)
  have k18 : h8 bv = some (.inr (5, [x0, x1, .ref vs, x3])) := by rw [eh8]; exact hp_up_g k12 (fun z => by rw [z, k15] at k12; cases k12)
  have k19 : h8 vs = some (.inr (4, [.ref vb])) := by rw [eh8]; exact hp_up_g k13 (fun z => by rw [← z, hvs] at fr_q1; cases fr_q1)
  have k20 : h8 vb = some (.inl ((Γ.2.1 0), 360, .inl G)) := by rw [eh8]; exact hp_up_g k14 (fun z => by rw [z, k15] at k14; cases k14)
  have k21 : h8 q10 = some (.inl ((Γ.2.1 0), 360, .inl (fun _ => 0))) := by rw [eh8]; exact hp_up_g k16 (fun z => by rw [z, k15] at k16; cases k16)
  have k22 : h8 q1 = some (.inr (4, [.ref q10])) := by rw [eh8]; exact hp_up_s
  have fr_q10 := hq_q10
  rw [eh2] at fr_q10
  obtain ⟨ne_q10_0, fr_q10⟩ := hp_up_none fr_q10
  refine p_Se_12 (fs' := [.int 0, .int 0, .null, .ref q1, .null, .int 0, .int 0, .int 0]) C hnm k17 rfl rfl (Nat.le_of_ble_eq_true rfl) rfl d_Se_init_12 ?_
  obtain ⟨h23, eh23⟩ : ∃ z, z = hp_up h8 a (.inr (3, [.int 0, .int 0, .null, .ref q1, .null, .int 0, .int 0, .int 0])) := ⟨_, rfl⟩
  refine hg_eq eh23.symm ?_
  have k24 : h23 bv = some (.inr (5, [x0, x1, .ref vs, x3])) := by rw [eh23]; exact hp_up_g k18 (fun z => by rw [z, k17] at k18; cases k18)
  have k25 : h23 vs = some (.inr (4, [.ref vb])) := by rw [eh23]; exact hp_up_g k19 (fun z => by rw [z, k17] at k19; cases k19)
  have k26 : h23 vb = some (.inl ((Γ.2.1 0), 360, .inl G)) := by rw [eh23]; exact hp_up_g k20 (fun z => by rw [z, k17] at k20; cases k20)
  have k27 : h23 q10 = some (.inl ((Γ.2.1 0), 360, .inl (fun _ => 0))) := by rw [eh23]; exact hp_up_g k21 (fun z => by rw [z, k17] at k21; cases k21)
  have k28 : h23 q1 = some (.inr (4, [.ref q10])) := by rw [eh23]; exact hp_up_g k22 (fun z => by rw [z, k17] at k22; cases k22)
  have k29 : h23 a = some (.inr (3, [.int 0, .int 0, .null, .ref q1, .null, .int 0, .int 0, .int 0])) := by rw [eh23]; exact hp_up_s
  refine hg_aload_n C 0 d_Se_init_15 rfl rfl ?_
  refine n_Se_18 C (Nat.le_of_ble_eq_true rfl) (Nat.le_of_ble_eq_true rfl) d_Se_init_16 (fun q30 hq_q30 => ?_)
  obtain ⟨h31, eh31⟩ : ∃ z, z = hp_up h23 q30 (.inr (1, [.int 0, .null, .int 0, .int 0, .int 0, .int 0, .null])) := ⟨_, rfl⟩
  refine hg_eq eh31.symm ?_
  have k32 : h31 bv = some (.inr (5, [x0, x1, .ref vs, x3])) := by rw [eh31]; exact hp_up_g k24 (fun z => by rw [z, hq_q30] at k24; cases k24)
  have k33 : h31 vs = some (.inr (4, [.ref vb])) := by rw [eh31]; exact hp_up_g k25 (fun z => by rw [z, hq_q30] at k25; cases k25)
  have k34 : h31 vb = some (.inl ((Γ.2.1 0), 360, .inl G)) := by rw [eh31]; exact hp_up_g k26 (fun z => by rw [z, hq_q30] at k26; cases k26)
  have k35 : h31 q10 = some (.inl ((Γ.2.1 0), 360, .inl (fun _ => 0))) := by rw [eh31]; exact hp_up_g k27 (fun z => by rw [z, hq_q30] at k27; cases k27)
  have k36 : h31 q1 = some (.inr (4, [.ref q10])) := by rw [eh31]; exact hp_up_g k28 (fun z => by rw [z, hq_q30] at k28; cases k28)
  have k37 : h31 a = some (.inr (3, [.int 0, .int 0, .null, .ref q1, .null, .int 0, .int 0, .int 0])) := by rw [eh31]; exact hp_up_g k29 (fun z => by rw [z, hq_q30] at k29; cases k29)
  have k38 : h31 q30 = some (.inr (1, [.int 0, .null, .int 0, .int 0, .int 0, .int 0, .null])) := by rw [eh31]; exact hp_up_s
  have fr_q30 := hq_q30
  rw [eh23] at fr_q30
  obtain ⟨ne_q30_3, fr_q30⟩ := hp_up_none fr_q30
  rw [eh8] at fr_q30
  obtain ⟨ne_q30_2, fr_q30⟩ := hp_up_none fr_q30
  rw [eh9] at fr_q30
  obtain ⟨ne_q30_1, fr_q30⟩ := hp_up_none fr_q30
  rw [eh2] at fr_q30
  obtain ⟨ne_q30_0, fr_q30⟩ := hp_up_none fr_q30
  refine hg_dup C d_Se_init_19 rfl ?_
  refine hg_iconst (v := 0) C d_Se_init_20 (by decide) ?_
  refine hg_null C d_Se_init_21 ?_
  refine hg_iconst (v := (-1)) C d_Se_init_22 (by decide) ?_
  refine hg_iconst (v := (-1)) C d_Se_init_23 (by decide) ?_
  refine hg_iconst (v := 0) C d_Se_init_24 (by decide) ?_
  refine hg_iconst (v := 0) C d_Se_init_25 (by decide) ?_
  refine hg_Iz C (k_Mo_init0 l Γ _ q30 0 (-1) (-1) 0 0 k38) (cw_Se_20 C.2.2.2.2.1 rfl rfl ⟨Nat.le_of_ble_eq_true rfl, Nat.le_of_ble_eq_true rfl⟩) rfl rfl (Nat.le_of_ble_eq_true rfl) d_Se_init_26 ⟨Nat.le_of_ble_eq_true rfl, Nat.le_of_ble_eq_true rfl⟩ (fun h39 eh39 => ?_)
  have k40 : h39 bv = some (.inr (5, [x0, x1, .ref vs, x3])) := by rw [eh39]; exact hp_up_g k32 (fun z => by rw [z, k38] at k32; cases k32)
  have k41 : h39 vs = some (.inr (4, [.ref vb])) := by rw [eh39]; exact hp_up_g k33 (fun z => by rw [z, k38] at k33; cases k33)
  have k42 : h39 vb = some (.inl ((Γ.2.1 0), 360, .inl G)) := by rw [eh39]; exact hp_up_g k34 (fun z => by rw [z, k38] at k34; cases k34)
  have k43 : h39 q10 = some (.inl ((Γ.2.1 0), 360, .inl (fun _ => 0))) := by rw [eh39]; exact hp_up_g k35 (fun z => by rw [z, k38] at k35; cases k35)
  have k44 : h39 q1 = some (.inr (4, [.ref q10])) := by rw [eh39]; exact hp_up_g k36 (fun z => by rw [z, k38] at k36; cases k36)
  have k45 : h39 a = some (.inr (3, [.int 0, .int 0, .null, .ref q1, .null, .int 0, .int 0, .int 0])) := by rw [eh39]; exact hp_up_g k37 (fun z => by rw [z, k38] at k37; cases k37)
  have k46 : h39 q30 = some (.inr (1, [.int 0, .null, .int (-1), .int (-1), .int 0, .int 0, .null])) := by rw [eh39]; exact hp_up_s
  refine p_Se_23 (fs' := [.int 0, .int 0, .null, .ref q1, .ref q30, .int 0, .int 0, .int 0]) C k45 rfl rfl (Nat.le_of_ble_eq_true rfl) rfl d_Se_init_29 ?_
  obtain ⟨h47, eh47⟩ : ∃ z, z = hp_up h39 a (.inr (3, [.int 0, .int 0, .null, .ref q1, .ref q30, .int 0, .int 0, .int 0])) := ⟨_, rfl⟩
  refine hg_eq eh47.symm ?_
  have k48 : h47 bv = some (.inr (5, [x0, x1, .ref vs, x3])) := by rw [eh47]; exact hp_up_g k40 (fun z => by rw [z, k45] at k40; cases k40)
  have k49 : h47 vs = some (.inr (4, [.ref vb])) := by rw [eh47]; exact hp_up_g k41 (fun z => by rw [z, k45] at k41; cases k41)
  have k50 : h47 vb = some (.inl ((Γ.2.1 0), 360, .inl G)) := by rw [eh47]; exact hp_up_g k42 (fun z => by rw [z, k45] at k42; cases k42)
  have k51 : h47 q10 = some (.inl ((Γ.2.1 0), 360, .inl (fun _ => 0))) := by rw [eh47]; exact hp_up_g k43 (fun z => by rw [z, k45] at k43; cases k43)
  have k52 : h47 q1 = some (.inr (4, [.ref q10])) := by rw [eh47]; exact hp_up_g k44 (fun z => by rw [z, k45] at k44; cases k44)
  have k53 : h47 q30 = some (.inr (1, [.int 0, .null, .int (-1), .int (-1), .int 0, .int 0, .null])) := by rw [eh47]; exact hp_up_g k46 (fun z => by rw [z, k45] at k46; cases k46)
  have k54 : h47 a = some (.inr (3, [.int 0, .int 0, .null, .ref q1, .ref q30, .int 0, .int 0, .int 0])) := by rw [eh47]; exact hp_up_s
  refine hg_aload_n C 0 d_Se_init_32 rfl rfl ?_
  refine hg_iconst (v := 1) C d_Se_init_33 (by decide) ?_
  refine p_Se_27 (fs' := [.int 0, .int 0, .null, .ref q1, .ref q30, .int 1, .int 0, .int 0]) C k54 rfl rfl (Nat.le_of_ble_eq_true rfl) rfl d_Se_init_34 ?_
  obtain ⟨h55, eh55⟩ : ∃ z, z = hp_up h47 a (.inr (3, [.int 0, .int 0, .null, .ref q1, .ref q30, .int 1, .int 0, .int 0])) := ⟨_, rfl⟩
  refine hg_eq eh55.symm ?_
  have k56 : h55 bv = some (.inr (5, [x0, x1, .ref vs, x3])) := by rw [eh55]; exact hp_up_g k48 (fun z => by rw [z, k54] at k48; cases k48)
  have k57 : h55 vs = some (.inr (4, [.ref vb])) := by rw [eh55]; exact hp_up_g k49 (fun z => by rw [z, k54] at k49; cases k49)
  have k58 : h55 vb = some (.inl ((Γ.2.1 0), 360, .inl G)) := by rw [eh55]; exact hp_up_g k50 (fun z => by rw [z, k54] at k50; cases k50)
  have k59 : h55 q10 = some (.inl ((Γ.2.1 0), 360, .inl (fun _ => 0))) := by rw [eh55]; exact hp_up_g k51 (fun z => by rw [z, k54] at k51; cases k51)
  have k60 : h55 q1 = some (.inr (4, [.ref q10])) := by rw [eh55]; exact hp_up_g k52 (fun z => by rw [z, k54] at k52; cases k52)
  have k61 : h55 q30 = some (.inr (1, [.int 0, .null, .int (-1), .int (-1), .int 0, .int 0, .null])) := by rw [eh55]; exact hp_up_g k53 (fun z => by rw [z, k54] at k53; cases k53)
  have k62 : h55 a = some (.inr (3, [.int 0, .int 0, .null, .ref q1, .ref q30, .int 1, .int 0, .int 0])) := by rw [eh55]; exact hp_up_s
  refine hg_aload_n C 0 d_Se_init_37 rfl rfl ?_
  refine hg_iconst (v := 0) C d_Se_init_38 (by decide) ?_
  refine p_Se_31 (fs' := [.int 0, .int 0, .null, .ref q1, .ref q30, .int 1, .int 0, .int 0]) C k62 rfl rfl (Nat.le_of_ble_eq_true rfl) rfl d_Se_init_39 ?_
  obtain ⟨h63, eh63⟩ : ∃ z, z = hp_up h55 a (.inr (3, [.int 0, .int 0, .null, .ref q1, .ref q30, .int 1, .int 0, .int 0])) := ⟨_, rfl⟩
  refine hg_eq eh63.symm ?_
  have k64 : h63 bv = some (.inr (5, [x0, x1, .ref vs, x3])) := by rw [eh63]; exact hp_up_g k56 (fun z => by rw [z, k62] at k56; cases k56)
  have k65 : h63 vs = some (.inr (4, [.ref vb])) := by rw [eh63]; exact hp_up_g k57 (fun z => by rw [z, k62] at k57; cases k57)
  have k66 : h63 vb = some (.inl ((Γ.2.1 0), 360, .inl G)) := by rw [eh63]; exact hp_up_g k58 (fun z => by rw [z, k62] at k58; cases k58)
  have k67 : h63 q10 = some (.inl ((Γ.2.1 0), 360, .inl (fun _ => 0))) := by rw [eh63]; exact hp_up_g k59 (fun z => by rw [z, k62] at k59; cases k59)
  have k68 : h63 q1 = some (.inr (4, [.ref q10])) := by rw [eh63]; exact hp_up_g k60 (fun z => by rw [z, k62] at k60; cases k60)
  have k69 : h63 q30 = some (.inr (1, [.int 0, .null, .int (-1), .int (-1), .int 0, .int 0, .null])) := by rw [eh63]; exact hp_up_g k61 (fun z => by rw [z, k62] at k61; cases k61)
  have k70 : h63 a = some (.inr (3, [.int 0, .int 0, .null, .ref q1, .ref q30, .int 1, .int 0, .int 0])) := by rw [eh63]; exact hp_up_s
  refine hg_aload_n C 0 d_Se_init_42 rfl rfl ?_
  refine hg_iconst (v := (-1)) C d_Se_init_43 (by decide) ?_
  refine p_Se_34 (fs' := [.int 0, .int 0, .null, .ref q1, .ref q30, .int 1, .int 0, .int (-1)]) C k70 rfl rfl (Nat.le_of_ble_eq_true rfl) rfl d_Se_init_44 ?_
  obtain ⟨h71, eh71⟩ : ∃ z, z = hp_up h63 a (.inr (3, [.int 0, .int 0, .null, .ref q1, .ref q30, .int 1, .int 0, .int (-1)])) := ⟨_, rfl⟩
  refine hg_eq eh71.symm ?_
  have k72 : h71 bv = some (.inr (5, [x0, x1, .ref vs, x3])) := by rw [eh71]; exact hp_up_g k64 (fun z => by rw [z, k70] at k64; cases k64)
  have k73 : h71 vs = some (.inr (4, [.ref vb])) := by rw [eh71]; exact hp_up_g k65 (fun z => by rw [z, k70] at k65; cases k65)
  have k74 : h71 vb = some (.inl ((Γ.2.1 0), 360, .inl G)) := by rw [eh71]; exact hp_up_g k66 (fun z => by rw [z, k70] at k66; cases k66)
  have k75 : h71 q10 = some (.inl ((Γ.2.1 0), 360, .inl (fun _ => 0))) := by rw [eh71]; exact hp_up_g k67 (fun z => by rw [z, k70] at k67; cases k67)
  have k76 : h71 q1 = some (.inr (4, [.ref q10])) := by rw [eh71]; exact hp_up_g k68 (fun z => by rw [z, k70] at k68; cases k68)
  have k77 : h71 q30 = some (.inr (1, [.int 0, .null, .int (-1), .int (-1), .int 0, .int 0, .null])) := by rw [eh71]; exact hp_up_g k69 (fun z => by rw [z, k70] at k69; cases k69)
  have k78 : h71 a = some (.inr (3, [.int 0, .int 0, .null, .ref q1, .ref q30, .int 1, .int 0, .int (-1)])) := by rw [eh71]; exact hp_up_s
  refine hg_aload_n C 0 d_Se_init_47 rfl rfl ?_
  refine hg_iload_n C 1 d_Se_init_48 rfl rfl ?_
  refine p_Se_37 (fs' := [.int n, .int 0, .null, .ref q1, .ref q30, .int 1, .int 0, .int (-1)]) C hnm k78 rfl rfl (Nat.le_of_ble_eq_true rfl) rfl d_Se_init_49 ?_
  obtain ⟨h79, eh79⟩ : ∃ z, z = hp_up h71 a (.inr (3, [.int n, .int 0, .null, .ref q1, .ref q30, .int 1, .int 0, .int (-1)])) := ⟨_, rfl⟩
  refine hg_eq eh79.symm ?_
  have k80 : h79 bv = some (.inr (5, [x0, x1, .ref vs, x3])) := by rw [eh79]; exact hp_up_g k72 (fun z => by rw [z, k78] at k72; cases k72)
  have k81 : h79 vs = some (.inr (4, [.ref vb])) := by rw [eh79]; exact hp_up_g k73 (fun z => by rw [z, k78] at k73; cases k73)
  have k82 : h79 vb = some (.inl ((Γ.2.1 0), 360, .inl G)) := by rw [eh79]; exact hp_up_g k74 (fun z => by rw [z, k78] at k74; cases k74)
  have k83 : h79 q10 = some (.inl ((Γ.2.1 0), 360, .inl (fun _ => 0))) := by rw [eh79]; exact hp_up_g k75 (fun z => by rw [z, k78] at k75; cases k75)
  have k84 : h79 q1 = some (.inr (4, [.ref q10])) := by rw [eh79]; exact hp_up_g k76 (fun z => by rw [z, k78] at k76; cases k76)
  have k85 : h79 q30 = some (.inr (1, [.int 0, .null, .int (-1), .int (-1), .int 0, .int 0, .null])) := by rw [eh79]; exact hp_up_g k77 (fun z => by rw [z, k78] at k77; cases k77)
  have k86 : h79 a = some (.inr (3, [.int n, .int 0, .null, .ref q1, .ref q30, .int 1, .int 0, .int (-1)])) := by rw [eh79]; exact hp_up_s
  refine hg_aload_n C 0 d_Se_init_52 rfl rfl ?_
  refine hg_iload_n C 2 d_Se_init_53 rfl rfl ?_
  refine p_Se_40 (fs' := [.int n, .int k, .null, .ref q1, .ref q30, .int 1, .int 0, .int (-1)]) C hnm k86 rfl rfl (Nat.le_of_ble_eq_true rfl) rfl d_Se_init_54 ?_
  obtain ⟨h87, eh87⟩ : ∃ z, z = hp_up h79 a (.inr (3, [.int n, .int k, .null, .ref q1, .ref q30, .int 1, .int 0, .int (-1)])) := ⟨_, rfl⟩
  refine hg_eq eh87.symm ?_
  have k88 : h87 bv = some (.inr (5, [x0, x1, .ref vs, x3])) := by rw [eh87]; exact hp_up_g k80 (fun z => by rw [z, k86] at k80; cases k80)
  have k89 : h87 vs = some (.inr (4, [.ref vb])) := by rw [eh87]; exact hp_up_g k81 (fun z => by rw [z, k86] at k81; cases k81)
  have k90 : h87 vb = some (.inl ((Γ.2.1 0), 360, .inl G)) := by rw [eh87]; exact hp_up_g k82 (fun z => by rw [z, k86] at k82; cases k82)
  have k91 : h87 q10 = some (.inl ((Γ.2.1 0), 360, .inl (fun _ => 0))) := by rw [eh87]; exact hp_up_g k83 (fun z => by rw [z, k86] at k83; cases k83)
  have k92 : h87 q1 = some (.inr (4, [.ref q10])) := by rw [eh87]; exact hp_up_g k84 (fun z => by rw [z, k86] at k84; cases k84)
  have k93 : h87 q30 = some (.inr (1, [.int 0, .null, .int (-1), .int (-1), .int 0, .int 0, .null])) := by rw [eh87]; exact hp_up_g k85 (fun z => by rw [z, k86] at k85; cases k85)
  have k94 : h87 a = some (.inr (3, [.int n, .int k, .null, .ref q1, .ref q30, .int 1, .int 0, .int (-1)])) := by rw [eh87]; exact hp_up_s
  refine hg_aload_n C 0 d_Se_init_57 rfl rfl ?_
  refine hg_aload_n C 3 d_Se_init_58 rfl rfl ?_
  refine p_Se_43 (fs' := [.int n, .int k, .ref bv, .ref q1, .ref q30, .int 1, .int 0, .int (-1)]) C hnm k94 rfl rfl (Nat.le_of_ble_eq_true rfl) rfl d_Se_init_59 ?_
  obtain ⟨h95, eh95⟩ : ∃ z, z = hp_up h87 a (.inr (3, [.int n, .int k, .ref bv, .ref q1, .ref q30, .int 1, .int 0, .int (-1)])) := ⟨_, rfl⟩
  refine hg_eq eh95.symm ?_
  have k96 : h95 bv = some (.inr (5, [x0, x1, .ref vs, x3])) := by rw [eh95]; exact hp_up_g k88 (fun z => by rw [z, k94] at k88; cases k88)
  have k97 : h95 vs = some (.inr (4, [.ref vb])) := by rw [eh95]; exact hp_up_g k89 (fun z => by rw [z, k94] at k89; cases k89)
  have k98 : h95 vb = some (.inl ((Γ.2.1 0), 360, .inl G)) := by rw [eh95]; exact hp_up_g k90 (fun z => by rw [z, k94] at k90; cases k90)
  have k99 : h95 q10 = some (.inl ((Γ.2.1 0), 360, .inl (fun _ => 0))) := by rw [eh95]; exact hp_up_g k91 (fun z => by rw [z, k94] at k91; cases k91)
  have k100 : h95 q1 = some (.inr (4, [.ref q10])) := by rw [eh95]; exact hp_up_g k92 (fun z => by rw [z, k94] at k92; cases k92)
  have k101 : h95 q30 = some (.inr (1, [.int 0, .null, .int (-1), .int (-1), .int 0, .int 0, .null])) := by rw [eh95]; exact hp_up_g k93 (fun z => by rw [z, k94] at k93; cases k93)
  have k102 : h95 a = some (.inr (3, [.int n, .int k, .ref bv, .ref q1, .ref q30, .int 1, .int 0, .int (-1)])) := by rw [eh95]; exact hp_up_s
  refine hg_aload_n C 0 d_Se_init_62 rfl rfl ?_
  refine f_Se_12 C k102 rfl d_Se_init_63 ?_
  refine hg_aload_n C 3 d_Se_init_66 rfl rfl ?_
  refine f_Se_47 C k96 rfl d_Se_init_67 ?_
  refine hg_VNz (q := ("ModelMerge$State", T_St, 1)) C (k_St_copyAll l Γ _ q1 q10 vs vb (fun _ => 0) G k100 k99 k97 k98 (fun z => by rw [← z, hvb] at fr_q10; cases fr_q10)) (cw_Se_50 C.2.2.2.2.1 rfl rfl ⟨Nat.le_of_ble_eq_true rfl, Nat.le_of_ble_eq_true rfl⟩) k100 rfl rfl rfl (Nat.le_of_ble_eq_true rfl) d_Se_init_70 ⟨Nat.le_of_ble_eq_true rfl, Nat.le_of_ble_eq_true rfl⟩ (fun h103 eh103 => ?_)
  have k104 : h103 bv = some (.inr (5, [x0, x1, .ref vs, x3])) := by rw [eh103]; exact hp_up_g k96 (fun z => by rw [z, k99] at k96; cases k96)
  have k105 : h103 vs = some (.inr (4, [.ref vb])) := by rw [eh103]; exact hp_up_g k97 (fun z => by rw [z, k99] at k97; cases k97)
  have k106 : h103 vb = some (.inl ((Γ.2.1 0), 360, .inl G)) := by rw [eh103]; exact hp_up_g k98 (fun z => by rw [← z, hvb] at fr_q10; cases fr_q10)
  have k107 : h103 q1 = some (.inr (4, [.ref q10])) := by rw [eh103]; exact hp_up_g k100 (fun z => by rw [z, k99] at k100; cases k100)
  have k108 : h103 q30 = some (.inr (1, [.int 0, .null, .int (-1), .int (-1), .int 0, .int 0, .null])) := by rw [eh103]; exact hp_up_g k101 (fun z => by rw [z, k99] at k101; cases k101)
  have k109 : h103 a = some (.inr (3, [.int n, .int k, .ref bv, .ref q1, .ref q30, .int 1, .int 0, .int (-1)])) := by rw [eh103]; exact hp_up_g k102 (fun z => by rw [z, k99] at k102; cases k102)
  have k110 : h103 q10 = some (.inl ((Γ.2.1 0), 360, .inl (va_cpy G (fun _ => 0) 0 0 360))) := by rw [eh103]; exact hp_up_s
  exact hg_vretN C hr d_Se_init_73 (Nat.le_of_ble_eq_true rfl) (Nat.le_of_ble_eq_true rfl) (⟨rfl, q1, q10, q30, fr_q1, fr_q10, fr_q30, k109, k107, k110, k108, fun z z0 z1 z2 z3 => by rw [eh103, hp_up_n z2, eh95, hp_up_n z0, eh87, hp_up_n z0, eh79, hp_up_n z0, eh71, hp_up_n z0, eh63, hp_up_n z0, eh55, hp_up_n z0, eh47, hp_up_n z0, eh39, hp_up_n z3, eh31, hp_up_n z3, eh23, hp_up_n z0, eh8, hp_up_n z1, eh9, hp_up_n z2, eh2, hp_up_n z1]⟩)
