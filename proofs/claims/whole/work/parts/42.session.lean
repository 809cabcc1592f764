/-! a private constructor of a nest mate; what lies apart -/
theorem hp_up_none {h : Pic} {a q : Nat} {e : va_E} (hq : hp_up h a e q = none) : q ≠ a ∧ h q = none := by
  by_cases z : q = a
  · rw [z, hp_up_s] at hq
    cases hq
  · rw [hp_up_n z] at hq
    exact ⟨z, hq⟩
section HNI
variable {p : Program} {l : Launch} {e : Env} {R : Room} {s : State} {m : MethodId} {args : Array Value} {below : List Frame} {meth : Method} {c : Code} {cc : ByteArray} {nL : Nat} {own : String} {c0 : Cond} {D : va_G} {cl : List vw_C} {tys : List (ClassId × FieldType)} {sts : List (String × Nat × String × Nat)} {aos : List Cond} {A : Nat → Prop} {Q : State → Prop} {cells slots pc : Nat} {lv : List (Nat × Value)} {st sf : List Value} {h : Pic}
variable {y : MethodName} {bytes : ByteArray} {maxL mc ms n index : Nat} {rm : Room} {As : List Value} {b : Nat} {host : String}
theorem hg_INz {post : Pic → Prop} (C : hp_C p s m args meth c cc nL own (c0 :: kw_all) D cl tys sts aos A) (hM : hp_N l y (Cond.code y bytes maxL none :: kw_all) rm D cl tys sts aos (.ref b :: As) h (fun r u => r = none ∧ post u) mc ms) (hcode : Cond.code y bytes maxL none ∈ kw_all) (hnest : Cond.methodLinkNest own index y host ∈ aos) (hini : Cond.initialized y.cls ∈ kw_all) (hinst : Cond.instanceMethod y ∈ kw_all) (hy1 : y.name = "<init>") (hrc : rm.cells = mc) (hrs : rm.slots = ms)
    (hdd : y.cls ≠ "java/lang/invoke/MethodHandle" ∧ y.cls ≠ "java/lang/invoke/VarHandle" ∧ (parseMethodDescriptor y.desc).map (fun d => d.parameters.length) = some n) (hR : rm.frames + 1 ≤ R.frames ∧ 8 + (maxL + 11) + rm.locals ≤ R.locals)
    (hn : As.length = n) (hsf : sf = As.reverse ++ .ref b :: st) (hst : (st.map fun v => v.category).sum ≤ 8) (hd : decode cc pc = .ok (.invokespecial index, 3)) (hf : cells + mc ≤ R.cells ∧ slots + ms ≤ R.slots)
    (kk : ∀ (u : Pic), post u → hp_G p l e R s m args below meth c D cl A nL Q (cells + mc) (slots + ms) (pc + 3) lv st u) : hp_G p l e R s m args below meth c D cl A nL Q cells slots pc lv sf h :=
  hg_callY (av := .ref b :: As) C (fun H locs ls hP hS hl => va_runIN (host := host) ⟨C.1, C.2.1, C.2.2.1, C.2.2.2.1, C.2.2.2.2.1⟩ (hM H.size) ⟨va_cnB n C.2.2.2.2.1 (kw_ws hcode) rfl hrc hrs (C.2.2.2.2.2.2.1.2.2.2.2.1 _ hnest).2 (C.2.2.2.2.1 _ (kc hini)) hdd hR, hy1, C.2.2.2.2.1 _ (kc hinst)⟩ ⟨hp_blind, hp_pre C hP hS _⟩ rfl hn hl.1 hsf (lv_room hst) hd hf)
    (fun r u hq => by obtain ⟨rfl, hq⟩ := hq; exact kk u hq)
end HNI
abbrev rm_Cf_init : Room := { frames := 1, cells := 3, slots := 900, locals := 20 }
set_option maxHeartbeats 4000000 in
set_option maxRecDepth 100000 in
theorem k_Cf_init (l : Launch) (Γ : Gam) (h : Pic) (a : Nat) (ha : h a = some (.inr (0, [.null, .null, .null, .int 0]))) : kN l Γ y_Cf_init w_Cf_init rm_Cf_init [.ref a] h (fun r u => r = none ∧ ∃ q1 q2 q3 : Nat, h q1 = none ∧ h q2 = none ∧ h q3 = none ∧ q1 ≠ q2 ∧ q1 ≠ q3 ∧ q2 ≠ q3 ∧ u a = some (.inr (0, [.ref q1, .ref q2, .ref q3, .int 0])) ∧ u q1 = some (.inl (Γ.2.1 0, 300, .inl (fun _ => 0))) ∧ u q2 = some (.inl (Γ.2.1 0, 300, .inl (fun _ => 0))) ∧ u q3 = some (.inl (Γ.2.1 0, 300, .inl (fun _ => 0))) ∧ ∀ z, z ≠ a → z ≠ q1 → z ≠ q2 → z ≠ q3 → u z = h z) 3 900 := by
  refine hg_entryN (own := "ModelMerge$Conflicts") (cc := b_Cf_init) (maxL := 1) (ret := none) (lv0 := [(0, .ref a)]) (by decide) rfl rfl (Nat.le_of_ble_eq_true rfl) rfl ?_
  intro p e s m args below meth c A C hnm hr
  refine hg_aload_n C 0 d_Cf_init_0 rfl rfl ?_
  refine o_Cf_3 C (Nat.le_of_ble_eq_true rfl) (Nat.le_of_ble_eq_true rfl) d_Cf_init_1 ?_
  refine hg_aload_n C 0 d_Cf_init_4 rfl rfl ?_
  refine hg_sipush (v := 300) C d_Cf_init_5 (by decide) ?_
  refine hg_newa (atype := .int) (ty := .int) (a0 := (300, .inl (fun _ => 0))) C 0 (kc kw49) rfl (fun _ z => FieldType.noConfusion z) rfl (fun _ => rfl) (by decide) rfl (by decide) (Nat.le_of_ble_eq_true rfl) (Nat.le_of_ble_eq_true rfl) d_Cf_init_8 (fun q1 hq_q1 => ?_)
  obtain ⟨h2, eh2⟩ : ∃ z, z = hp_up h q1 (.inl ((Γ.2.1 0), 300, .inl (fun _ => 0))) := ⟨_, rfl⟩
  refine hg_eq eh2.symm ?_
  have k3 : h2 a = some (.inr (0, [.null, .null, .null, .int 0])) := by rw [eh2]; exact hp_up_g ha (fun z => by rw [z, hq_q1] at ha; cases ha)
  have k4 : h2 q1 = some (.inl ((Γ.2.1 0), 300, .inl (fun _ => 0))) := by rw [eh2]; exact hp_up_s
  refine p_Cf_11 (fs' := [.ref q1, .null, .null, .int 0]) C hnm k3 rfl rfl (Nat.le_of_ble_eq_true rfl) rfl d_Cf_init_10 ?_
  obtain ⟨h5, eh5⟩ : ∃ z, z = hp_up h2 a (.inr (0, [.ref q1, .null, .null, .int 0])) := ⟨_, rfl⟩
  refine hg_eq eh5.symm ?_
  have k6 : h5 q1 = some (.inl ((Γ.2.1 0), 300, .inl (fun _ => 0))) := by rw [eh5]; exact hp_up_g k4 (fun z => by rw [z, k3] at k4; cases k4)
  have k7 : h5 a = some (.inr (0, [.ref q1, .null, .null, .int 0])) := by rw [eh5]; exact hp_up_s
  refine hg_aload_n C 0 d_Cf_init_13 rfl rfl ?_
  refine hg_sipush (v := 300) C d_Cf_init_14 (by decide) ?_
  refine hg_newa (atype := .int) (ty := .int) (a0 := (300, .inl (fun _ => 0))) C 0 (kc kw49) rfl (fun _ z => FieldType.noConfusion z) rfl (fun _ => rfl) (by decide) rfl (by decide) (Nat.le_of_ble_eq_true rfl) (Nat.le_of_ble_eq_true rfl) d_Cf_init_17 (fun q8 hq_q8 => ?_)
  obtain ⟨h9, eh9⟩ : ∃ z, z = hp_up h5 q8 (.inl ((Γ.2.1 0), 300, .inl (fun _ => 0))) := ⟨_, rfl⟩
  refine hg_eq eh9.symm ?_
  have k10 : h9 q1 = some (.inl ((Γ.2.1 0), 300, .inl (fun _ => 0))) := by rw [eh9]; exact hp_up_g k6 (fun z => by rw [z, hq_q8] at k6; cases k6)
  have k11 : h9 a = some (.inr (0, [.ref q1, .null, .null, .int 0])) := by rw [eh9]; exact hp_up_g k7 (fun z => by rw [z, hq_q8] at k7; cases k7)
  have k12 : h9 q8 = some (.inl ((Γ.2.1 0), 300, .inl (fun _ => 0))) := by rw [eh9]; exact hp_up_s
  refine p_Cf_15 (fs' := [.ref q1, .ref q8, .null, .int 0]) C hnm k11 rfl rfl (Nat.le_of_ble_eq_true rfl) rfl d_Cf_init_19 ?_
  obtain ⟨h13, eh13⟩ : ∃ z, z = hp_up h9 a (.inr (0, [.ref q1, .ref q8, .null, .int 0])) := ⟨_, rfl⟩
  refine hg_eq eh13.symm ?_
  have k14 : h13 q1 = some (.inl ((Γ.2.1 0), 300, .inl (fun _ => 0))) := by rw [eh13]; exact hp_up_g k10 (fun z => by rw [z, k11] at k10; cases k10)
  have k15 : h13 q8 = some (.inl ((Γ.2.1 0), 300, .inl (fun _ => 0))) := by rw [eh13]; exact hp_up_g k12 (fun z => by rw [z, k11] at k12; cases k12)
  have k16 : h13 a = some (.inr (0, [.ref q1, .ref q8, .null, .int 0])) := by rw [eh13]; exact hp_up_s
  refine hg_aload_n C 0 d_Cf_init_22 rfl rfl ?_
  refine hg_sipush (v := 300) C d_Cf_init_23 (by decide) ?_
  refine hg_newa (atype := .int) (ty := .int) (a0 := (300, .inl (fun _ => 0))) C 0 (kc kw49) rfl (fun _ z => FieldType.noConfusion z) rfl (fun _ => rfl) (by decide) rfl (by decide) (Nat.le_of_ble_eq_true rfl) (Nat.le_of_ble_eq_true rfl) d_Cf_init_26 (fun q17 hq_q17 => ?_)
  obtain ⟨h18, eh18⟩ : ∃ z, z = hp_up h13 q17 (.inl ((Γ.2.1 0), 300, .inl (fun _ => 0))) := ⟨_, rfl⟩
  refine hg_eq eh18.symm ?_
  have k19 : h18 q1 = some (.inl ((Γ.2.1 0), 300, .inl (fun _ => 0))) := by rw [eh18]; exact hp_up_g k14 (fun z => by rw [z, hq_q17] at k14; cases k14)
  have k20 : h18 q8 = some (.inl ((Γ.2.1 0), 300, .inl (fun _ => 0))) := by rw [eh18]; exact hp_up_g k15 (fun z => by rw [z, hq_q17] at k15; cases k15)
  have k21 : h18 a = some (.inr (0, [.ref q1, .ref q8, .null, .int 0])) := by rw [eh18]; exact hp_up_g k16 (fun z => by rw [z, hq_q17] at k16; cases k16)
  have k22 : h18 q17 = some (.inl ((Γ.2.1 0), 300, .inl (fun _ => 0))) := by rw [eh18]; exact hp_up_s
  refine p_Cf_18 (fs' := [.ref q1, .ref q8, .ref q17, .int 0]) C hnm k21 rfl rfl (Nat.le_of_ble_eq_true rfl) rfl d_Cf_init_28 ?_
  obtain ⟨h23, eh23⟩ : ∃ z, z = hp_up h18 a (.inr (0, [.ref q1, .ref q8, .ref q17, .int 0])) := ⟨_, rfl⟩
  refine hg_eq eh23.symm ?_
  have k24 : h23 q1 = some (.inl ((Γ.2.1 0), 300, .inl (fun _ => 0))) := by rw [eh23]; exact hp_up_g k19 (fun z => by rw [z, k21] at k19; cases k19)
  have k25 : h23 q8 = some (.inl ((Γ.2.1 0), 300, .inl (fun _ => 0))) := by rw [eh23]; exact hp_up_g k20 (fun z => by rw [z, k21] at k20; cases k20)
  have k26 : h23 q17 = some (.inl ((Γ.2.1 0), 300, .inl (fun _ => 0))) := by rw [eh23]; exact hp_up_g k22 (fun z => by rw [z, k21] at k22; cases k22)
  have k27 : h23 a = some (.inr (0, [.ref q1, .ref q8, .ref q17, .int 0])) := by rw [eh23]; exact hp_up_s
  refine hg_aload_n C 0 d_Cf_init_31 rfl rfl ?_
  refine hg_iconst (v := 0) C d_Cf_init_32 (by decide) ?_
  refine p_Cf_21 (fs' := [.ref q1, .ref q8, .ref q17, .int 0]) C k27 rfl rfl (Nat.le_of_ble_eq_true rfl) rfl d_Cf_init_33 ?_
  obtain ⟨h28, eh28⟩ : ∃ z, z = hp_up h23 a (.inr (0, [.ref q1, .ref q8, .ref q17, .int 0])) := ⟨_, rfl⟩
  refine hg_eq eh28.symm ?_
  have k29 : h28 q1 = some (.inl ((Γ.2.1 0), 300, .inl (fun _ => 0))) := by rw [eh28]; exact hp_up_g k24 (fun z => by rw [z, k27] at k24; cases k24)
  have k30 : h28 q8 = some (.inl ((Γ.2.1 0), 300, .inl (fun _ => 0))) := by rw [eh28]; exact hp_up_g k25 (fun z => by rw [z, k27] at k25; cases k25)
  have k31 : h28 q17 = some (.inl ((Γ.2.1 0), 300, .inl (fun _ => 0))) := by rw [eh28]; exact hp_up_g k26 (fun z => by rw [z, k27] at k26; cases k26)
  have k32 : h28 a = some (.inr (0, [.ref q1, .ref q8, .ref q17, .int 0])) := by rw [eh28]; exact hp_up_s
  have fr_q1 := hq_q1
  have fr_q8 := hq_q8
  rw [eh5] at fr_q8
  obtain ⟨ne_q8_1, fr_q8⟩ := hp_up_none fr_q8
  rw [eh2] at fr_q8
  obtain ⟨ne_q8_0, fr_q8⟩ := hp_up_none fr_q8
  have fr_q17 := hq_q17
  rw [eh13] at fr_q17
  obtain ⟨ne_q17_3, fr_q17⟩ := hp_up_none fr_q17
  rw [eh9] at fr_q17
  obtain ⟨ne_q17_2, fr_q17⟩ := hp_up_none fr_q17
  rw [eh5] at fr_q17
  obtain ⟨ne_q17_1, fr_q17⟩ := hp_up_none fr_q17
  rw [eh2] at fr_q17
  obtain ⟨ne_q17_0, fr_q17⟩ := hp_up_none fr_q17
  exact hg_vretN C hr d_Cf_init_36 (Nat.le_of_ble_eq_true rfl) (Nat.le_of_ble_eq_true rfl) (⟨rfl, q1, q8, q17, fr_q1, fr_q8, fr_q17, ne_q8_0.symm, ne_q17_0.symm, ne_q17_2.symm, k32, k29, k30, k31, fun z z0 z1 z2 z3 => by rw [eh28, hp_up_n z0, eh23, hp_up_n z0, eh18, hp_up_n z3, eh13, hp_up_n z0, eh9, hp_up_n z2, eh5, hp_up_n z0, eh2, hp_up_n z1]⟩)
abbrev rm_Ve_init : Room := { frames := 1, cells := 1, slots := 300, locals := 20 }
set_option maxHeartbeats 4000000 in
set_option maxRecDepth 100000 in
theorem k_Ve_init (l : Launch) (Γ : Gam) (h : Pic) (a b : Nat) (n k : Int32) (ha : h a = some (.inr (5, [.int 0, .int 0, .null, .null]))) : kN l Γ y_Ve_init w_Ve_init rm_Ve_init [.ref a, .int n, .int k, .ref b] h (fun r u => r = none ∧ ∃ q : Nat, h q = none ∧ u a = some (.inr (5, [.int n, .int k, .ref b, .ref q])) ∧ u q = some (.inl (Γ.2.1 0, 300, .inl (fun _ => 0))) ∧ ∀ z, z ≠ a → z ≠ q → u z = h z) 1 300 := by
  refine hg_entryN (own := "ModelMerge$Version") (cc := b_Ve_init) (maxL := 4) (ret := none) (lv0 := [(0, .ref a), (1, .int n), (2, .int k), (3, .ref b)]) (by decide) rfl rfl (Nat.le_of_ble_eq_true rfl) rfl ?_
  intro p e s m args below meth c A C hnm hr
  refine hg_aload_n C 0 d_Ve_init_0 rfl rfl ?_
  refine o_Ve_3 C (Nat.le_of_ble_eq_true rfl) (Nat.le_of_ble_eq_true rfl) d_Ve_init_1 ?_
  refine hg_aload_n C 0 d_Ve_init_4 rfl rfl ?_
  refine hg_sipush (v := 300) C d_Ve_init_5 (by decide) ?_
  refine hg_newa (atype := .int) (ty := .int) (a0 := (300, .inl (fun _ => 0))) C 0 (kc kw49) rfl (fun _ z => FieldType.noConfusion z) rfl (fun _ => rfl) (by decide) rfl (by decide) (Nat.le_of_ble_eq_true rfl) (Nat.le_of_ble_eq_true rfl) d_Ve_init_8 (fun q1 hq_q1 => ?_)
  obtain ⟨h2, eh2⟩ : ∃ z, z = hp_up h q1 (.inl ((Γ.2.1 0), 300, .inl (fun _ => 0))) := ⟨_, rfl⟩
  refine hg_eq eh2.symm ?_
  have k3 : h2 a = some (.inr (5, [.int 0, .int 0, .null, .null])) := by rw [eh2]; exact hp_up_g ha (fun z => by rw [z, hq_q1] at ha; cases ha)
  have k4 : h2 q1 = some (.inl ((Γ.2.1 0), 300, .inl (fun _ => 0))) := by rw [eh2]; exact hp_up_s
  refine p_Ve_9 (fs' := [.int 0, .int 0, .null, .ref q1]) C hnm k3 rfl rfl (Nat.le_of_ble_eq_true rfl) rfl d_Ve_init_10 ?_
  obtain ⟨h5, eh5⟩ : ∃ z, z = hp_up h2 a (.inr (5, [.int 0, .int 0, .null, .ref q1])) := ⟨_, rfl⟩
  refine hg_eq eh5.symm ?_
  have k6 : h5 q1 = some (.inl ((Γ.2.1 0), 300, .inl (fun _ => 0))) := by rw [eh5]; exact hp_up_g k4 (fun z => by rw [z, k3] at k4; cases k4)
  have k7 : h5 a = some (.inr (5, [.int 0, .int 0, .null, .ref q1])) := by rw [eh5]; exact hp_up_s
  refine hg_aload_n C 0 d_Ve_init_13 rfl rfl ?_
  refine hg_iload_n C 1 d_Ve_init_14 rfl rfl ?_
  refine p_Ve_15 (fs' := [.int n, .int 0, .null, .ref q1]) C hnm k7 rfl rfl (Nat.le_of_ble_eq_true rfl) rfl d_Ve_init_15 ?_
  obtain ⟨h8, eh8⟩ : ∃ z, z = hp_up h5 a (.inr (5, [.int n, .int 0, .null, .ref q1])) := ⟨_, rfl⟩
  refine hg_eq eh8.symm ?_
  have k9 : h8 q1 = some (.inl ((Γ.2.1 0), 300, .inl (fun _ => 0))) := by rw [eh8]; exact hp_up_g k6 (fun z => by rw [z, k7] at k6; cases k6)
  have k10 : h8 a = some (.inr (5, [.int n, .int 0, .null, .ref q1])) := by rw [eh8]; exact hp_up_s
  refine hg_aload_n C 0 d_Ve_init_18 rfl rfl ?_
  refine hg_iload_n C 2 d_Ve_init_19 rfl rfl ?_
  refine p_Ve_19 (fs' := [.int n, .int k, .null, .ref q1]) C hnm k10 rfl rfl (Nat.le_of_ble_eq_true rfl) rfl d_Ve_init_20 ?_
  obtain ⟨h11, eh11⟩ : ∃ z, z = hp_up h8 a (.inr (5, [.int n, .int k, .null, .ref q1])) := ⟨_, rfl⟩
  refine hg_eq eh11.symm ?_
  have k12 : h11 q1 = some (.inl ((Γ.2.1 0), 300, .inl (fun _ => 0))) := by rw [eh11]; exact hp_up_g k9 (fun z => by rw [z, k10] at k9; cases k9)
  have k13 : h11 a = some (.inr (5, [.int n, .int k, .null, .ref q1])) := by rw [eh11]; exact hp_up_s
  refine hg_aload_n C 0 d_Ve_init_23 rfl rfl ?_
  refine hg_aload_n C 3 d_Ve_init_24 rfl rfl ?_
  refine p_Ve_22 (fs' := [.int n, .int k, .ref b, .ref q1]) C hnm k13 rfl rfl (Nat.le_of_ble_eq_true rfl) rfl d_Ve_init_25 ?_
  obtain ⟨h14, eh14⟩ : ∃ z, z = hp_up h11 a (.inr (5, [.int n, .int k, .ref b, .ref q1])) := ⟨_, rfl⟩
  refine hg_eq eh14.symm ?_
  have k15 : h14 q1 = some (.inl ((Γ.2.1 0), 300, .inl (fun _ => 0))) := by rw [eh14]; exact hp_up_g k12 (fun z => by rw [z, k13] at k12; cases k12)
  have k16 : h14 a = some (.inr (5, [.int n, .int k, .ref b, .ref q1])) := by rw [eh14]; exact hp_up_s
  have fr_q1 := hq_q1
  exact hg_vretN C hr d_Ve_init_28 (Nat.le_of_ble_eq_true rfl) (Nat.le_of_ble_eq_true rfl) (⟨rfl, q1, fr_q1, k16, k15, fun z z0 z1 => by rw [eh14, hp_up_n z0, eh11, hp_up_n z0, eh8, hp_up_n z0, eh5, hp_up_n z0, eh2, hp_up_n z1]⟩)
abbrev rm_Se_isFull : Room := { frames := 0, cells := 0, slots := 0, locals := 0 }
set_option maxHeartbeats 4000000 in
set_option maxRecDepth 100000 in
theorem k_Se_isFull (l : Launch) (Γ : Gam) (h : Pic) (a : Nat) (v0 v1 v2 v3 v4 v6 v7 : Value) (k : Int32) (ha : h a = some (.inr (3, [v0, v1, v2, v3, v4, .int k, v6, v7]))) : kN l Γ y_Se_isFull w_Se_isFull rm_Se_isFull [.ref a] h (pb h (¬ k < 60)) 0 0 := by
  refine hg_entryN (own := "ModelMerge$Session") (cc := b_Se_isFull) (maxL := 1) (ret := (some .boolean)) (lv0 := [(0, .ref a)]) (by decide) rfl rfl (Nat.le_of_ble_eq_true rfl) rfl ?_
  intro p e s m args below meth c A C hnm hr
  refine hg_aload_n C 0 d_Se_isFull_0 rfl rfl ?_
  refine f_Se_27 C ha rfl d_Se_isFull_1 ?_
  refine hg_bipush (v := 60) C d_Se_isFull_4 (by decide) ?_
  refine hg_icmp_lt C 13 d_Se_isFull_6 (by decide) (fun c6 => ?_) (fun c6 => ?_)
  · refine hg_iconst (v := 0) C d_Se_isFull_13 (by decide) ?_
    exact hg_iretN C hr rfl d_Se_isFull_14 (Nat.le_of_ble_eq_true rfl) (Nat.le_of_ble_eq_true rfl) (Or.inr ⟨rfl, rfl, fun z => z c6⟩)
  · refine hg_iconst (v := 1) C d_Se_isFull_9 (by decide) ?_
    refine hg_goto C 14 d_Se_isFull_10 (by decide) ?_
    exact hg_iretN C hr rfl d_Se_isFull_14 (Nat.le_of_ble_eq_true rfl) (Nat.le_of_ble_eq_true rfl) (Or.inl ⟨rfl, rfl, c6⟩)
abbrev rm_Se_stepForward : Room := { frames := 2, cells := 0, slots := 0, locals := 44 }
set_option maxHeartbeats 4000000 in
set_option maxRecDepth 100000 in
theorem k_Se_stepForward0 (l : Launch) (Γ : Gam) (h : Pic) (a st sm : Nat) (v0 v1 v2 v5 v6 v7 : Value) (sn wt wf wo wn : Int32) (w1 : Value) (ha : h a = some (.inr (3, [v0, v1, v2, .ref st, .ref sm, v5, v6, v7]))) (hm : h sm = some (.inr (1, [.int sn, w1, .int wt, .int wf, .int wo, .int wn, .null]))) : kN l Γ y_Se_stepForward w_Se_stepForward rm_Se_stepForward [.ref a] h (pv (.int (-1)) h True) 0 0 := by
  refine hg_entryN (own := "ModelMerge$Session") (cc := b_Se_stepForward) (maxL := 2) (ret := (some .int)) (lv0 := [(0, .ref a)]) (by decide) rfl rfl (Nat.le_of_ble_eq_true rfl) rfl ?_
  intro p e s m args below meth c A C hnm hr
  refine hg_aload_n C 0 d_Se_stepForward_0 rfl rfl ?_
  refine f_Se_23 C ha rfl d_Se_stepForward_1 ?_
  refine f_Se_58 C hm rfl d_Se_stepForward_4 ?_
  refine hg_astore_nN (lv' := [(1, .null), (0, .ref a)]) C d_Se_stepForward_7 rfl (by decide) rfl ?_
  refine hg_aload_nN C 0 d_Se_stepForward_8 rfl rfl ?_
  refine hg_ifnonnullN C d_Se_stepForward_9 ?_
  refine hg_iconst (v := (-1)) C d_Se_stepForward_12 (by decide) ?_
  exact hg_iretN C hr rfl d_Se_stepForward_13 (Nat.le_of_ble_eq_true rfl) (Nat.le_of_ble_eq_true rfl) (⟨rfl, rfl, trivial⟩)
set_option maxHeartbeats 4000000 in
set_option maxRecDepth 100000 in
theorem k_Se_stepForward (l : Launch) (Γ : Gam) (h : Pic) (a st b sm : Nat) (F : Nat → Int32) (v0 v1 v2 v5 v6 v7 : Value) (ha : h a = some (.inr (3, [v0, v1, v2, .ref st, .ref sm, v5, v6, v7]))) (hst : h st = some (.inr (4, [.ref b]))) (hb : h b = some (.inl (Γ.2.1 0, 360, .inl F))) (q : Nat) (sn wt wf wo wn qn qt qf qo qv : Int32) (w1 x1 x6 : Value) (hm : h sm = some (.inr (1, [.int sn, w1, .int wt, .int wf, .int wo, .int wn, .ref q]))) (hq : h q = some (.inr (1, [.int qn, x1, .int qt, .int qf, .int qo, .int qv, x6]))) : kN l Γ y_Se_stepForward w_Se_stepForward rm_Se_stepForward [.ref a] h (fun r u => r = some (.int qn) ∧ u = hp_up (hp_up h b (.inl (Γ.2.1 0, 360, .inl (s_put F qt qf qv)))) a (.inr (3, [v0, v1, v2, .ref st, .ref q, v5, v6, v7]))) 0 0 := by
  refine hg_entryN (own := "ModelMerge$Session") (cc := b_Se_stepForward) (maxL := 2) (ret := (some .int)) (lv0 := [(0, .ref a)]) (by decide) rfl rfl (Nat.le_of_ble_eq_true rfl) rfl ?_
  intro p e s m args below meth c A C hnm hr
  refine hg_aload_n C 0 d_Se_stepForward_0 rfl rfl ?_
  refine f_Se_23 C ha rfl d_Se_stepForward_1 ?_
  refine f_Se_58 C hm rfl d_Se_stepForward_4 ?_
  refine hg_astore_n (lv' := [(1, .ref q), (0, .ref a)]) C d_Se_stepForward_7 rfl (by decide) rfl ?_
  refine hg_aload_n C 0 d_Se_stepForward_8 rfl rfl ?_
  refine hg_ifnonnull C 14 d_Se_stepForward_9 (by decide) ?_
  refine hg_aload_n C 1 d_Se_stepForward_14 rfl rfl ?_
  refine f_Se_12 C ha rfl d_Se_stepForward_15 ?_
  refine hg_aload_n C 0 d_Se_stepForward_18 rfl rfl ?_
  refine f_Se_65 C hq rfl d_Se_stepForward_19 ?_
  refine hg_aload_n C 0 d_Se_stepForward_22 rfl rfl ?_
  refine f_Se_68 C hq rfl d_Se_stepForward_23 ?_
  refine hg_aload_n C 0 d_Se_stepForward_26 rfl rfl ?_
  refine f_Se_71 C hq rfl d_Se_stepForward_27 ?_
  refine hg_VNz (q := ("ModelMerge$State", T_St, 1)) C (k_St_put l Γ _ st b F hst hb qt qf qv) (cw_Se_74 C.2.2.2.2.1 rfl rfl ⟨Nat.le_of_ble_eq_true rfl, Nat.le_of_ble_eq_true rfl⟩) hst rfl rfl rfl (Nat.le_of_ble_eq_true rfl) d_Se_stepForward_30 ⟨Nat.le_of_ble_eq_true rfl, Nat.le_of_ble_eq_true rfl⟩ (fun h1 eh1 => ?_)
  have k2 : h1 a = some (.inr (3, [v0, v1, v2, .ref st, .ref sm, v5, v6, v7])) := by rw [eh1]; exact hp_up_g ha (fun z => by rw [z, hb] at ha; cases ha)
  have k3 : h1 st = some (.inr (4, [.ref b])) := by rw [eh1]; exact hp_up_g hst (fun z => by rw [z, hb] at hst; cases hst)
  have k4 : h1 sm = some (.inr (1, [.int sn, w1, .int wt, .int wf, .int wo, .int wn, .ref q])) := by rw [eh1]; exact hp_up_g hm (fun z => by rw [z, hb] at hm; cases hm)
  have k5 : h1 q = some (.inr (1, [.int qn, x1, .int qt, .int qf, .int qo, .int qv, x6])) := by rw [eh1]; exact hp_up_g hq (fun z => by rw [z, hb] at hq; cases hq)
  have k6 : h1 b = some (.inl ((Γ.2.1 0), 360, .inl (s_put F qt qf qv))) := by rw [eh1]; exact hp_up_s
  refine hg_aload_n C 1 d_Se_stepForward_33 rfl rfl ?_
  refine hg_aload_n C 0 d_Se_stepForward_34 rfl rfl ?_
  refine p_Se_23 (fs' := [v0, v1, v2, .ref st, .ref q, v5, v6, v7]) C k2 rfl rfl (Nat.le_of_ble_eq_true rfl) rfl d_Se_stepForward_35 ?_
  obtain ⟨h7, eh7⟩ : ∃ z, z = hp_up h1 a (.inr (3, [v0, v1, v2, .ref st, .ref q, v5, v6, v7])) := ⟨_, rfl⟩
  refine hg_eq eh7.symm ?_
  have k8 : h7 st = some (.inr (4, [.ref b])) := by rw [eh7]; exact hp_up_g k3 (fun z => by rw [z, k2] at k3; cases k3)
  have k9 : h7 sm = some (.inr (1, [.int sn, w1, .int wt, .int wf, .int wo, .int wn, .ref q])) := by rw [eh7]; exact hp_up_g k4 (fun z => by rw [z, k2] at k4; cases k4)
  have k10 : h7 q = some (.inr (1, [.int qn, x1, .int qt, .int qf, .int qo, .int qv, x6])) := by rw [eh7]; exact hp_up_g k5 (fun z => by rw [z, k2] at k5; cases k5)
  have k11 : h7 b = some (.inl ((Γ.2.1 0), 360, .inl (s_put F qt qf qv))) := by rw [eh7]; exact hp_up_g k6 (fun z => by rw [z, k2] at k6; cases k6)
  have k12 : h7 a = some (.inr (3, [v0, v1, v2, .ref st, .ref q, v5, v6, v7])) := by rw [eh7]; exact hp_up_s
  refine hg_aload_n C 0 d_Se_stepForward_38 rfl rfl ?_
  refine f_Se_78 C k10 rfl d_Se_stepForward_39 ?_
  exact hg_iretN C hr rfl d_Se_stepForward_42 (Nat.le_of_ble_eq_true rfl) (Nat.le_of_ble_eq_true rfl) (⟨rfl, by rw [eh7, eh1]⟩)
abbrev rm_Se_stepBack : Room := { frames := 2, cells := 0, slots := 0, locals := 44 }
set_option maxHeartbeats 4000000 in
set_option maxRecDepth 100000 in
theorem k_Se_stepBack0 (l : Launch) (Γ : Gam) (h : Pic) (a st sm : Nat) (v0 v1 v2 v5 v6 v7 : Value) (sn wt wf wo wn : Int32) (w6 : Value) (ha : h a = some (.inr (3, [v0, v1, v2, .ref st, .ref sm, v5, v6, v7]))) (hm : h sm = some (.inr (1, [.int sn, .null, .int wt, .int wf, .int wo, .int wn, w6]))) : kN l Γ y_Se_stepBack w_Se_stepBack rm_Se_stepBack [.ref a] h (pv (.int (-1)) h True) 0 0 := by
  refine hg_entryN (own := "ModelMerge$Session") (cc := b_Se_stepBack) (maxL := 3) (ret := (some .int)) (lv0 := [(0, .ref a)]) (by decide) rfl rfl (Nat.le_of_ble_eq_true rfl) rfl ?_
  intro p e s m args below meth c A C hnm hr
  refine hg_aload_n C 0 d_Se_stepBack_0 rfl rfl ?_
  refine f_Se_23 C ha rfl d_Se_stepBack_1 ?_
  refine hg_astore_n (lv' := [(1, .ref sm), (0, .ref a)]) C d_Se_stepBack_4 rfl (by decide) rfl ?_
  refine hg_aload_n C 0 d_Se_stepBack_5 rfl rfl ?_
  refine f_Se_79 C hm rfl d_Se_stepBack_6 ?_
  refine hg_astore_nN (lv' := [(2, .null), (1, .ref sm), (0, .ref a)]) C d_Se_stepBack_9 rfl (by decide) rfl ?_
  refine hg_aload_nN C 0 d_Se_stepBack_10 rfl rfl ?_
  refine hg_ifnonnullN C d_Se_stepBack_11 ?_
  refine hg_iconst (v := (-1)) C d_Se_stepBack_14 (by decide) ?_
  exact hg_iretN C hr rfl d_Se_stepBack_15 (Nat.le_of_ble_eq_true rfl) (Nat.le_of_ble_eq_true rfl) (⟨rfl, rfl, trivial⟩)
set_option maxHeartbeats 4000000 in
set_option maxRecDepth 100000 in
theorem k_Se_stepBack (l : Launch) (Γ : Gam) (h : Pic) (a st b sm : Nat) (F : Nat → Int32) (v0 v1 v2 v5 v6 v7 : Value) (ha : h a = some (.inr (3, [v0, v1, v2, .ref st, .ref sm, v5, v6, v7]))) (hst : h st = some (.inr (4, [.ref b]))) (hb : h b = some (.inl (Γ.2.1 0, 360, .inl F))) (q : Nat) (sn wt wf wo wn qn : Int32) (w6 x1 x2 x3 x4 x5 x6 : Value) (hm : h sm = some (.inr (1, [.int sn, .ref q, .int wt, .int wf, .int wo, .int wn, w6]))) (hq : h q = some (.inr (1, [.int qn, x1, x2, x3, x4, x5, x6]))) : kN l Γ y_Se_stepBack w_Se_stepBack rm_Se_stepBack [.ref a] h (fun r u => r = some (.int qn) ∧ u = hp_up (hp_up h b (.inl (Γ.2.1 0, 360, .inl (s_put F wt wf wo)))) a (.inr (3, [v0, v1, v2, .ref st, .ref q, v5, v6, v7]))) 0 0 := by
  refine hg_entryN (own := "ModelMerge$Session") (cc := b_Se_stepBack) (maxL := 3) (ret := (some .int)) (lv0 := [(0, .ref a)]) (by decide) rfl rfl (Nat.le_of_ble_eq_true rfl) rfl ?_
  intro p e s m args below meth c A C hnm hr
  refine hg_aload_n C 0 d_Se_stepBack_0 rfl rfl ?_
  refine f_Se_23 C ha rfl d_Se_stepBack_1 ?_
  refine hg_astore_n (lv' := [(1, .ref sm), (0, .ref a)]) C d_Se_stepBack_4 rfl (by decide) rfl ?_
  refine hg_aload_n C 0 d_Se_stepBack_5 rfl rfl ?_
  refine f_Se_79 C hm rfl d_Se_stepBack_6 ?_
  refine hg_astore_n (lv' := [(2, .ref q), (1, .ref sm), (0, .ref a)]) C d_Se_stepBack_9 rfl (by decide) rfl ?_
  refine hg_aload_n C 0 d_Se_stepBack_10 rfl rfl ?_
  refine hg_ifnonnull C 16 d_Se_stepBack_11 (by decide) ?_
  refine hg_aload_n C 2 d_Se_stepBack_16 rfl rfl ?_
  refine f_Se_12 C ha rfl d_Se_stepBack_17 ?_
  refine hg_aload_n C 1 d_Se_stepBack_20 rfl rfl ?_
  refine f_Se_65 C hm rfl d_Se_stepBack_21 ?_
  refine hg_aload_n C 1 d_Se_stepBack_24 rfl rfl ?_
  refine f_Se_68 C hm rfl d_Se_stepBack_25 ?_
  refine hg_aload_n C 1 d_Se_stepBack_28 rfl rfl ?_
  refine f_Se_82 C hm rfl d_Se_stepBack_29 ?_
  refine hg_VNz (q := ("ModelMerge$State", T_St, 1)) C (k_St_put l Γ _ st b F hst hb wt wf wo) (cw_Se_74 C.2.2.2.2.1 rfl rfl ⟨Nat.le_of_ble_eq_true rfl, Nat.le_of_ble_eq_true rfl⟩) hst rfl rfl rfl (Nat.le_of_ble_eq_true rfl) d_Se_stepBack_32 ⟨Nat.le_of_ble_eq_true rfl, Nat.le_of_ble_eq_true rfl⟩ (fun h1 eh1 => ?_)
  have k2 : h1 a = some (.inr (3, [v0, v1, v2, .ref st, .ref sm, v5, v6, v7])) := by rw [eh1]; exact hp_up_g ha (fun z => by rw [z, hb] at ha; cases ha)
  have k3 : h1 st = some (.inr (4, [.ref b])) := by rw [eh1]; exact hp_up_g hst (fun z => by rw [z, hb] at hst; cases hst)
  have k4 : h1 sm = some (.inr (1, [.int sn, .ref q, .int wt, .int wf, .int wo, .int wn, w6])) := by rw [eh1]; exact hp_up_g hm (fun z => by rw [z, hb] at hm; cases hm)
  have k5 : h1 q = some (.inr (1, [.int qn, x1, x2, x3, x4, x5, x6])) := by rw [eh1]; exact hp_up_g hq (fun z => by rw [z, hb] at hq; cases hq)
  have k6 : h1 b = some (.inl ((Γ.2.1 0), 360, .inl (s_put F wt wf wo))) := by rw [eh1]; exact hp_up_s
  refine hg_aload_n C 2 d_Se_stepBack_35 rfl rfl ?_
  refine hg_aload_n C 0 d_Se_stepBack_36 rfl rfl ?_
  refine p_Se_23 (fs' := [v0, v1, v2, .ref st, .ref q, v5, v6, v7]) C k2 rfl rfl (Nat.le_of_ble_eq_true rfl) rfl d_Se_stepBack_37 ?_
  obtain ⟨h7, eh7⟩ : ∃ z, z = hp_up h1 a (.inr (3, [v0, v1, v2, .ref st, .ref q, v5, v6, v7])) := ⟨_, rfl⟩
  refine hg_eq eh7.symm ?_
  have k8 : h7 st = some (.inr (4, [.ref b])) := by rw [eh7]; exact hp_up_g k3 (fun z => by rw [z, k2] at k3; cases k3)
  have k9 : h7 sm = some (.inr (1, [.int sn, .ref q, .int wt, .int wf, .int wo, .int wn, w6])) := by rw [eh7]; exact hp_up_g k4 (fun z => by rw [z, k2] at k4; cases k4)
  have k10 : h7 q = some (.inr (1, [.int qn, x1, x2, x3, x4, x5, x6])) := by rw [eh7]; exact hp_up_g k5 (fun z => by rw [z, k2] at k5; cases k5)
  have k11 : h7 b = some (.inl ((Γ.2.1 0), 360, .inl (s_put F wt wf wo))) := by rw [eh7]; exact hp_up_g k6 (fun z => by rw [z, k2] at k6; cases k6)
  have k12 : h7 a = some (.inr (3, [v0, v1, v2, .ref st, .ref q, v5, v6, v7])) := by rw [eh7]; exact hp_up_s
  refine hg_aload_n C 0 d_Se_stepBack_40 rfl rfl ?_
  refine f_Se_78 C k10 rfl d_Se_stepBack_41 ?_
  exact hg_iretN C hr rfl d_Se_stepBack_44 (Nat.le_of_ble_eq_true rfl) (Nat.le_of_ble_eq_true rfl) (⟨rfl, by rw [eh7, eh1]⟩)
