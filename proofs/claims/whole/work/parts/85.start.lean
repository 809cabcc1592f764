theorem nk_of {w : Cond} {B : Array Value} {s : State} (h : hp_nk w = true) (hz : w.before B s = true) : va_Nw w s := by
  cases w with
  | castable a b => exact va_Nw.of rfl hz
  | declares x => exact va_Nw.of rfl hz
  | arrayOver t =>
    cases t with
    | object n => exact va_AO.of hz
    | _ => cases h
  | methodLinkNest a b c d => exact va_Nw.of rfl hz
  | _ => cases h
theorem mrg_all {a : Nat} {z : va_E} (u : Pic) : mrg u (hp_up (fun _ => none) a z) (hp_up (fun _ => none) a z) = u := funext fun q => by
  cases hu : u q with
  | some x => rw [mrg_u hu]
  | none =>
    by_cases e : q = a
    · unfold mrg
      rw [hu, e, hp_up_s]
    · rw [mrg_n hu (hp_up_n e), hp_up_n e]
set_option maxHeartbeats 8000000 in
set_option maxRecDepth 100000 in
/-- what the machine knows at the law's entry -/
theorem law_E {p : Program} {s : State} {m : MethodId} {meth : Method} {c : Code} {b L : Nat} {xs : Nat → Int32} (C0 : lw_At p s m meth c b L xs) : ∃ Γ : Gam, hp_C p s m #[Value.ref b] meth c b_La_law 7 "ModelMergeLaw" w_law Γ.1 kcl (ktys Γ.2.1) (ksts Γ.2.2) knws (fun q => s.heap.size ≤ q) := by
  obtain ⟨hx, hb, hr, hml, hown, hts, hX, hbl, hlocks, hgv⟩ := C0
  have hk : ∀ w ∈ kw_all, w.before #[Value.ref b] s = true := fun w hw => hts w (List.mem_filter.mp hw).1
  have hg := flat_of_before _ hgv
  obtain ⟨c0, i0, hKn0⟩ := u_known (C := "ModelMerge$Conflicts") (T := T_Cf) (N := 4) (n := 4) hk i_Cf (hts (.instantiable "ModelMerge$Conflicts" 4) (by decide +kernel))
  obtain ⟨c1, i1, hKn1⟩ := u_known (C := "ModelMerge$Moment") (T := T_Mo) (N := 7) (n := 7) hk i_Mo (hts (.instantiable "ModelMerge$Moment" 7) (by decide +kernel))
  obtain ⟨c2, i2, hKn2⟩ := u_known (C := "ModelMerge$Rule") (T := T_Ru) (N := 3) (n := 3) hk i_Ru (hts (.instantiable "ModelMerge$Rule" 3) (by decide +kernel))
  obtain ⟨c3, i3, hKn3⟩ := u_known (C := "ModelMerge$Session") (T := T_Se) (N := 8) (n := 8) hk i_Se (hts (.instantiable "ModelMerge$Session" 8) (by decide +kernel))
  obtain ⟨c4, i4, hKn4⟩ := u_known (C := "ModelMerge$State") (T := T_St) (N := 1) (n := 1) hk i_St (hts (.instantiable "ModelMerge$State" 1) (by decide +kernel))
  obtain ⟨c5, i5, hKn5⟩ := u_known (C := "ModelMerge$Version") (T := T_Ve) (N := 4) (n := 4) hk i_Ve (hts (.instantiable "ModelMerge$Version" 4) (by decide +kernel))
  obtain ⟨c6, i6, hKn6⟩ := u_known (C := "ModelMerge") (T := T_MM) (N := 12) (n := 12) hk i_MM (hts (.instantiable "ModelMerge" 12) (by decide +kernel))
  obtain ⟨c7, i7, hKn7⟩ := u_known (C := "ModelMergeModel") (T := T_Rf) (N := 31) (n := 31) hk i_Rf (hts (.instantiable "ModelMergeModel" 31) (by decide +kernel))
  obtain ⟨a0, k0, o0, x0, y0, z0⟩ := Cond.arrayClass_spec (hts (.arrayClass .int) (by decide +kernel))
  have ha0 : ArrOfT s a0 .int ∧ va_RA s a0 .int := ⟨fun N z => ⟨(fun q hq => by cases hq), k0, y0, o0, z0⟩, x0⟩
  obtain ⟨a1, k1, o1, x1, y1, z1⟩ := Cond.arrayClass_spec (hts (.arrayClass .long) (by decide +kernel))
  have ha1 : ArrOfT s a1 .long ∧ va_RA s a1 .long := ⟨fun N z => ⟨(fun q hq => by cases hq), k1, y1, o1, z1⟩, x1⟩
  obtain ⟨a2, k2, o2, x2, y2, z2⟩ := Cond.arrayClass_spec (hts (.arrayClass .boolean) (by decide +kernel))
  have ha2 : ArrOfT s a2 .boolean ∧ va_RA s a2 .boolean := ⟨fun N z => ⟨(fun q hq => by cases hq), k2, y2, o2, z2⟩, x2⟩
  obtain ⟨o3, a3, k3, x3, -, y3, z3, w3⟩ := Cond.arrayOver_spec (hts (.arrayOver (.object "ModelMerge$Session")) (by decide +kernel))
  have ha3 : ArrOfT s a3 (.object "ModelMerge$Session") ∧ va_RA s a3 (.object "ModelMerge$Session") := ⟨fun N z => ⟨(fun q hq => by cases hq), k3, y3, o3, z3⟩, k3, o3, y3, z3, x3, w3⟩
  obtain ⟨o4, a4, k4, x4, -, y4, z4, w4⟩ := Cond.arrayOver_spec (hts (.arrayOver (.object "ModelMerge$Version")) (by decide +kernel))
  have ha4 : ArrOfT s a4 (.object "ModelMerge$Version") ∧ va_RA s a4 (.object "ModelMerge$Version") := ⟨fun N z => ⟨(fun q hq => by cases hq), k4, y4, o4, z4⟩, k4, o4, y4, z4, x4, w4⟩
  obtain ⟨o5, a5, k5, x5, -, y5, z5, w5⟩ := Cond.arrayOver_spec (hts (.arrayOver (.object "ModelMerge$Rule")) (by decide +kernel))
  have ha5 : ArrOfT s a5 (.object "ModelMerge$Rule") ∧ va_RA s a5 (.object "ModelMerge$Rule") := ⟨fun N z => ⟨(fun q hq => by cases hq), k5, y5, o5, z5⟩, k5, o5, y5, z5, x5, w5⟩
  obtain ⟨-, -, -, s0, -, -, -, -, -, e0⟩ := Cond.stringRef_spec hKn6.2.1 (hts (.stringRef "ModelMerge" 231 "a number is out of its bounds") (by decide +kernel))
  have r0 : vk_R "ModelMerge" 231 "a number is out of its bounds" s0 s := vk_R.of (hts (.stringRef "ModelMerge" 231 "a number is out of its bounds") (by decide +kernel)) e0
  obtain ⟨-, -, -, s1, -, -, -, -, -, e1⟩ := Cond.stringRef_spec hKn6.2.1 (hts (.stringRef "ModelMerge" 252 "there is no such version") (by decide +kernel))
  have r1 : vk_R "ModelMerge" 252 "there is no such version" s1 s := vk_R.of (hts (.stringRef "ModelMerge" 252 "there is no such version") (by decide +kernel)) e1
  obtain ⟨-, -, -, s2, -, -, -, -, -, e2⟩ := Cond.stringRef_spec hKn6.2.1 (hts (.stringRef "ModelMerge" 78 "there are 20 sessions") (by decide +kernel))
  have r2 : vk_R "ModelMerge" 78 "there are 20 sessions" s2 s := vk_R.of (hts (.stringRef "ModelMerge" 78 "there are 20 sessions") (by decide +kernel)) e2
  obtain ⟨-, -, -, s3, -, -, -, -, -, e3⟩ := Cond.stringRef_spec hKn6.2.1 (hts (.stringRef "ModelMerge" 250 "there is no such session") (by decide +kernel))
  have r3 : vk_R "ModelMerge" 250 "there is no such session" s3 s := vk_R.of (hts (.stringRef "ModelMerge" 250 "there is no such session") (by decide +kernel)) e3
  obtain ⟨-, -, -, s4, -, -, -, -, -, e4⟩ := Cond.stringRef_spec hKn6.2.1 (hts (.stringRef "ModelMerge" 248 "the session is not open") (by decide +kernel))
  have r4 : vk_R "ModelMerge" 248 "the session is not open" s4 s := vk_R.of (hts (.stringRef "ModelMerge" 248 "the session is not open") (by decide +kernel)) e4
  obtain ⟨-, -, -, s5, -, -, -, -, -, e5⟩ := Cond.stringRef_spec hKn6.2.1 (hts (.stringRef "ModelMerge" 241 "there is no such thing") (by decide +kernel))
  have r5 : vk_R "ModelMerge" 241 "there is no such thing" s5 s := vk_R.of (hts (.stringRef "ModelMerge" 241 "there is no such thing") (by decide +kernel)) e5
  obtain ⟨-, -, -, s6, -, -, -, -, -, e6⟩ := Cond.stringRef_spec hKn6.2.1 (hts (.stringRef "ModelMerge" 121 "there are 10 rules") (by decide +kernel))
  have r6 : vk_R "ModelMerge" 121 "there are 10 rules" s6 s := vk_R.of (hts (.stringRef "ModelMerge" 121 "there are 10 rules") (by decide +kernel)) e6
  obtain ⟨-, -, -, s7, -, -, -, -, -, e7⟩ := Cond.stringRef_spec hKn6.2.1 (hts (.stringRef "ModelMerge" 233 "k is below 0") (by decide +kernel))
  have r7 : vk_R "ModelMerge" 233 "k is below 0" s7 s := vk_R.of (hts (.stringRef "ModelMerge" 233 "k is below 0") (by decide +kernel)) e7
  obtain ⟨-, -, -, s8, -, -, -, -, -, e8⟩ := Cond.stringRef_spec hKn6.2.1 (hts (.stringRef "ModelMerge" 168 "no session is pending") (by decide +kernel))
  have r8 : vk_R "ModelMerge" 168 "no session is pending" s8 s := vk_R.of (hts (.stringRef "ModelMerge" 168 "no session is pending") (by decide +kernel)) e8
  obtain ⟨-, -, -, s9, -, -, -, -, -, e9⟩ := Cond.stringRef_spec hKn6.2.1 (hts (.stringRef "ModelMerge" 235 "a side is 0 or 1") (by decide +kernel))
  have r9 : vk_R "ModelMerge" 235 "a side is 0 or 1" s9 s := vk_R.of (hts (.stringRef "ModelMerge" 235 "a side is 0 or 1") (by decide +kernel)) e9
  obtain ⟨-, -, -, s10, -, -, -, -, -, e10⟩ := Cond.stringRef_spec hKn6.2.1 (hts (.stringRef "ModelMerge" 246 "the thing is not there") (by decide +kernel))
  have r10 : vk_R "ModelMerge" 246 "the thing is not there" s10 s := vk_R.of (hts (.stringRef "ModelMerge" 246 "the thing is not there") (by decide +kernel)) e10
  obtain ⟨-, -, -, s11, -, -, -, -, -, e11⟩ := Cond.stringRef_spec hKn6.2.1 (hts (.stringRef "ModelMerge" 185 "what is 0, 1 or 2") (by decide +kernel))
  have r11 : vk_R "ModelMerge" 185 "what is 0, 1 or 2" s11 s := vk_R.of (hts (.stringRef "ModelMerge" 185 "what is 0, 1 or 2") (by decide +kernel)) e11
  obtain ⟨-, -, -, s12, -, -, -, -, -, e12⟩ := Cond.stringRef_spec hKn6.2.1 (hts (.stringRef "ModelMerge" 211 "what is 0 to 5") (by decide +kernel))
  have r12 : vk_R "ModelMerge" 211 "what is 0 to 5" s12 s := vk_R.of (hts (.stringRef "ModelMerge" 211 "what is 0 to 5") (by decide +kernel)) e12
  obtain ⟨-, -, -, s13, -, -, -, -, -, e13⟩ := Cond.stringRef_spec hKn6.2.1 (hts (.stringRef "ModelMerge" 216 "no session made version 0") (by decide +kernel))
  have r13 : vk_R "ModelMerge" 216 "no session made version 0" s13 s := vk_R.of (hts (.stringRef "ModelMerge" 216 "no session made version 0") (by decide +kernel)) e13
  obtain ⟨-, -, -, s14, -, -, -, -, -, e14⟩ := Cond.stringRef_spec hKn6.2.1 (hts (.stringRef "ModelMerge" 218 "what is 0 to 3") (by decide +kernel))
  have r14 : vk_R "ModelMerge" 218 "what is 0 to 3" s14 s := vk_R.of (hts (.stringRef "ModelMerge" 218 "what is 0 to 3") (by decide +kernel)) e14
  refine ⟨(((fun k => match k with | 0 => c0 | 1 => c1 | 2 => c2 | 3 => c3 | 4 => c4 | 5 => c5 | 6 => c6 | _ => c7), (fun k => match k with | 0 => i0 | 1 => i1 | 2 => i2 | 3 => i3 | 4 => i4 | 5 => i5 | 6 => i6 | _ => i7)), (fun k => match k with | 0 => a0 | 1 => a1 | 2 => a2 | 3 => a3 | 4 => a4 | _ => a5), (fun k => match k with | 0 => s0 | 1 => s1 | 2 => s2 | 3 => s3 | 4 => s4 | 5 => s5 | 6 => s6 | 7 => s7 | 8 => s8 | 9 => s9 | 10 => s10 | 11 => s11 | 12 => s12 | 13 => s13 | _ => s14)), hx, hb, hml, hown, fun w hw => ?_, hlocks, ⟨⟨fun k q hq => ?_, fun k q hq => ?_⟩, vx_Zqof (hts _ (by decide +kernel)) (hts _ (by decide +kernel)) (hg _ (by decide +kernel)) (fun a h9 => Nat.not_le.mpr h9), vx_Zqof (hts _ (by decide +kernel)) (hts _ (by decide +kernel)) (hg _ (by decide +kernel)) (fun a h9 => Nat.not_le.mpr h9), ?_, fun w hw => ?_, va_Nc.of (hg _ (by decide +kernel))⟩, fun q hq => hq⟩
  · rcases List.mem_cons.mp hw with z | z
    · rw [z]; exact hk _ kw0
    · exact hk w z
  · match k, hq with
    | 0, hq => cases hq; exact hKn0
    | 1, hq => cases hq; exact hKn1
    | 2, hq => cases hq; exact hKn2
    | 3, hq => cases hq; exact hKn3
    | 4, hq => cases hq; exact hKn4
    | 5, hq => cases hq; exact hKn5
    | 6, hq => cases hq; exact hKn6
    | 7, hq => cases hq; exact hKn7
    | k + 8, hq => simp [kcl] at hq
  · match k, hq with
    | 0, hq => cases hq; exact ha0
    | 1, hq => cases hq; exact ha1
    | 2, hq => cases hq; exact ha2
    | 3, hq => cases hq; exact ha3
    | 4, hq => cases hq; exact ha4
    | 5, hq => cases hq; exact ha5
    | k + 6, hq => simp [ktys] at hq
  · refine List.forall_mem_cons.mpr ⟨r0, List.forall_mem_cons.mpr ⟨r1, List.forall_mem_cons.mpr ⟨r2, List.forall_mem_cons.mpr ⟨r3, List.forall_mem_cons.mpr ⟨r4, List.forall_mem_cons.mpr ⟨r5, List.forall_mem_cons.mpr ⟨r6, List.forall_mem_cons.mpr ⟨r7, List.forall_mem_cons.mpr ⟨r8, List.forall_mem_cons.mpr ⟨r9, List.forall_mem_cons.mpr ⟨r10, List.forall_mem_cons.mpr ⟨r11, List.forall_mem_cons.mpr ⟨r12, List.forall_mem_cons.mpr ⟨r13, List.forall_mem_cons.mpr ⟨r14, (fun q hq => by cases hq)⟩⟩⟩⟩⟩⟩⟩⟩⟩⟩⟩⟩⟩⟩⟩
  · have kn : ∀ w ∈ knws, w ∈ lw_tbl ∧ hp_nk w = true := by decide +kernel
    exact ⟨(kn w hw).2, nk_of (kn w hw).2 (hts w (kn w hw).1)⟩
theorem sub_1 {h : Pic} {a : Nat} {z : va_E} (hz : h a = some z) : ∀ q x, hp_up (fun _ => none) a z q = some x → h q = some x := fun q x hx => by
  by_cases e : q = a
  · rw [e, hp_up_s] at hx
    rw [e, hz]
    exact hx
  · rw [hp_up_n e] at hx
    cases hx
set_option maxHeartbeats 8000000 in
set_option maxRecDepth 100000 in
/-- THE LAW, from its entry -/
theorem whole_start {p : Program} {e : Env} {s : State} {m : MethodId} {below : List Frame} {meth : Method} {c : Code} (l : Launch) (hl9 : l.stackTraces = false) {b L : Nat} {xs : Nat → Int32} (hL : L ≤ 2560) (C0 : lw_At p s m meth c b L xs) : W p l e room_1 s m #[Value.ref b] below meth c s.heap [] 0 0 (lw_Z below #[Value.ref b] s) (entryFrame m ([Value.ref b] : List Value).toArray 7) := by
  obtain ⟨Γ, C⟩ := law_E C0
  obtain ⟨-, -, hr, -, -, -, hX0, hbl, -, -⟩ := C0
  have hbA : ¬ s.heap.size ≤ b := Nat.not_le.mpr hbl
  have hl := lv_entry ([.ref b]) (n := 7) (Nat.le_of_ble_eq_true rfl)
  rw [lg_entry_eq]
  have hl : lv_has _ 7 [(0, .ref b)] := hl
  have G : hp_G p l e room_1 s m #[Value.ref b] below meth c Γ.1 kcl (fun q => s.heap.size ≤ q) 7 (lw_Z below #[Value.ref b] s) 0 0 0 [(0, .ref b)] [] (fun _ => none) := by
    refine n_La_8 C (Nat.le_of_ble_eq_true rfl) (Nat.le_of_ble_eq_true rfl) d_La_law_0 (fun x hx => ?_)
    refine hg_dup C d_La_law_3 rfl ?_
    refine hg_INF (h1 := hp_up (fun _ => none) x (.inr (6, [.null, .null, .int 0, .null, .int 0, .null, .int 0, .null, .null, .int 0, .null, .null]))) C (fun q y hy => hy) (k_MM_init l Γ _ x hp_up_s) (cw_La_84 C.2.2.2.2.1 rfl rfl ⟨Nat.le_of_ble_eq_true rfl, Nat.le_of_ble_eq_true rfl⟩) rfl rfl (Nat.le_of_ble_eq_true rfl) d_La_law_4 ⟨Nat.le_of_ble_eq_true rfl, Nat.le_of_ble_eq_true rfl⟩ (fun r9 u hq _ => ?_)
    obtain ⟨rfl, ad, ha0, hcr⟩ := hq
    refine hg_eq (mrg_all u) ?_
    refine hg_astore_n (lv' := [(1, .ref x), (0, .ref b)]) C d_La_law_7 rfl (by decide) rfl ?_
    refine n_La_85 C (Nat.le_of_ble_eq_true rfl) (Nat.le_of_ble_eq_true rfl) d_La_law_8 (fun r hrq => ?_)
    refine hg_dup C d_La_law_11 rfl ?_
    refine hg_INF (h1 := hp_up (fun _ => none) r (.inr (7, [.int 0, .int 0, .null, .null, .int 0, .null, .null, .null, .null, .int 0, .null, .null, .null, .null, .null, .null, .null, .null, .null, .null, .null, .null, .int 0, .null, .null, .null, .int 0, .int 0, .null, .null, .null]))) C (sub_1 hp_up_s) (k_Rf_init l Γ r) (cw_La_87 C.2.2.2.2.1 rfl rfl ⟨Nat.le_of_ble_eq_true rfl, Nat.le_of_ble_eq_true rfl⟩) rfl rfl (Nat.le_of_ble_eq_true rfl) d_La_law_12 ⟨Nat.le_of_ble_eq_true rfl, Nat.le_of_ble_eq_true rfl⟩ (fun r9 v hq hd => ?_)
    obtain ⟨rfl, aa, hrf⟩ := hq
    obtain ⟨h2, eh2⟩ : ∃ z, z = mrg v (hp_up u r (.inr (7, [.int 0, .int 0, .null, .null, .int 0, .null, .null, .null, .null, .int 0, .null, .null, .null, .null, .null, .null, .null, .null, .null, .null, .null, .null, .int 0, .null, .null, .null, .int 0, .int 0, .null, .null, .null]))) (hp_up (fun _ => none) r (.inr (7, [.int 0, .int 0, .null, .null, .int 0, .null, .null, .null, .null, .int 0, .null, .null, .null, .null, .null, .null, .null, .null, .null, .null, .null, .null, .int 0, .null, .null, .null, .int 0, .int 0, .null, .null, .null]))) := ⟨_, rfl⟩
    refine hg_eq eh2.symm ?_
    have s1 : ∀ q y, u q = some y → h2 q = some y := fun q y hy => by
      have e9 : q ≠ r := fun z => by rw [z, hrq] at hy; cases hy
      rw [eh2]
      exact mrg_h hd (by rw [hp_up_n e9]; exact hy) (by rw [hp_up_n e9])
    have s2 : ∀ q y, v q = some y → h2 q = some y := fun q y hy => by rw [eh2]; exact mrg_u hy
    have s3 : ∀ q y, u q = some y → v q = none := fun q y hy => by
      have e9 : q ≠ r := fun z => by rw [z, hrq] at hy; cases hy
      cases hv : v q with
      | none => rfl
      | some w =>
        have z := hd q w hv (by rw [hp_up_n e9])
        rw [hp_up_n e9, hy] at z
        cases z
    refine hg_astore_n (lv' := [(2, .ref r), (1, .ref x), (0, .ref b)]) C d_La_law_15 rfl (by decide) rfl ?_
    refine hg_iconst (v := 1) C d_La_law_16 (by decide) ?_
    refine hg_newa (atype := .long) (ty := .long) (a0 := (1, .inr (.inl (fun _ => 0)))) C 1 (kc kw901) rfl (fun _ z => FieldType.noConfusion z) rfl (fun _ => rfl) (by decide) rfl (by decide) (Nat.le_of_ble_eq_true rfl) (Nat.le_of_ble_eq_true rfl) d_La_law_17 (fun ao hao => ?_)
    refine hg_astore_n (lv' := [(3, .ref ao), (2, .ref r), (1, .ref x), (0, .ref b)]) C d_La_law_19 rfl (by decide) rfl ?_
    refine hg_iconst (v := 0) C d_La_law_20 (by decide) ?_
    refine hg_istore (lv' := [(4, .int (nI (5 * 0))), (3, .ref ao), (2, .ref r), (1, .ref x), (0, .ref b)]) C d_La_law_21 (by decide) rfl ?_
    have nx : u ao = none := by
      cases z : u ao with
      | none => rfl
      | some w => rw [s1 ao w z] at hao; cases hao
    have nv : v ao = none := by
      cases z : v ao with
      | none => rfl
      | some w => rw [s2 ao w z] at hao; cases hao
    have hLA : LA Γ x r ao m_0 (hp_up h2 ao (OUTC Γ (fun _ => 0))) := ⟨ad, aa, u, v, fun _ => 0, ha0, hcr, hrf, fun q y hy => by rw [hp_up_n (fun z => by rw [z, nx] at hy; cases hy)]; exact s1 q y hy, fun q y hy => by rw [hp_up_n (fun z => by rw [z, nv] at hy; cases hy)]; exact s2 q y hy, s3, nx, nv, hp_up_s⟩
    refine hg_lv (ks := [0, 4, 3, 2, 1]) (lv' := [(4, .int (nI (5 * 0))), (0, .ref b), (1, .ref x), (2, .ref r), (3, .ref ao)]) rfl ?_
    exact hg_widen (Nat.le_of_ble_eq_true rfl) (Nat.le_of_ble_eq_true rfl) (lp_La l hl9 Γ C hX0 hbl hbA hL hr 513 0 m_0 _ iv_start hLA (by omega) (by omega))
  exact G s.heap [] _ (fun q x hx => by cases hx) va_S.rf hl
