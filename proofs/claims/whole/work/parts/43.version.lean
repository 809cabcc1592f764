/-! Version: its methods -/
def o_ok (t f : Int32) : Prop := ¬ t < 0 ∧ ¬ (60 : Int32) ≤ t ∧ ¬ f < 0 ∧ ¬ (5 : Int32) ≤ f
noncomputable def v_org (O : Nat → Int32) (n t f : Int32) : Int32 := @ite _ (o_ok t f) (Classical.propDecidable _) (O (t * 5 + f).toNatClampNeg) n
theorem o_ok_nat {t f : Int32} (h : o_ok t f) : ∃ a b : Nat, a < 60 ∧ b < 5 ∧ t = nI a ∧ f = nI b ∧ t * 5 + f = nI (a * 5 + b) := by
  obtain ⟨h1, h2, h3, h4⟩ := h
  obtain ⟨a, ha, rfl⟩ := nI_of h1
  obtain ⟨b, hb, rfl⟩ := nI_of h3
  have ha' : a < 60 := Nat.not_le.mp (fun z => h2 ((nI_leI (a := 60) (by omega) ha).mpr z))
  have hb' : b < 5 := Nat.not_le.mp (fun z => h4 ((nI_leI (a := 5) (by omega) hb).mpr z))
  exact ⟨a, b, ha', hb', rfl, rfl, by rw [show (5 : Int32) = nI 5 from rfl, pk_mul, nI_add]⟩
theorem o_ok_in {t f : Int32} (h : o_ok t f) : vp_in (t * 5 + f) 300 := by
  obtain ⟨a, b, ha, hb, -, -, e⟩ := o_ok_nat h
  rw [e]
  exact vp_in_nI (by omega) (by omega)
theorem o_ok_of {a b : Nat} (ha : a < 60) (hb : b < 5) : o_ok (nI a) (nI b) := ⟨nI_pos (by omega), nI_ge (b := 60) ha (by omega), nI_pos (by omega), nI_ge (b := 5) hb (by omega)⟩
theorem v_org_nat {O : Nat → Int32} {n : Int32} {a b : Nat} (ha : a < 60) (hb : b < 5) : v_org O n (nI a) (nI b) = O (a * 5 + b) := by
  rw [v_org, if_pos (o_ok_of ha hb), show (5 : Int32) = nI 5 from rfl, pk_mul, nI_add, nI_clamp (by omega)]
abbrev rm_Ve_origin : Room := { frames := 0, cells := 0, slots := 0, locals := 0 }
set_option maxHeartbeats 4000000 in
set_option maxRecDepth 100000 in
theorem k_Ve_origin (l : Launch) (Γ : Gam) (h : Pic) (a st qo : Nat) (v1 : Value) (n : Int32) (O : Nat → Int32) (ha : h a = some (.inr (5, [.int n, v1, .ref st, .ref qo]))) (ho : h qo = some (.inl (Γ.2.1 0, 300, .inl O))) (t f : Int32) : kN l Γ y_Ve_origin w_Ve_origin rm_Ve_origin [.ref a, .int t, .int f] h (pv (.int (v_org O n t f)) h True) 0 0 := by
  refine hg_entryN (own := "ModelMerge$Version") (cc := b_Ve_origin) (maxL := 4) (ret := (some .int)) (lv0 := [(0, .ref a), (1, .int t), (2, .int f)]) (by decide) rfl rfl (Nat.le_of_ble_eq_true rfl) rfl ?_
  intro p e s m args below meth c A C hnm hr
  refine hg_iload_n C 1 d_Ve_origin_0 rfl rfl ?_
  refine hg_if_lt C 23 d_Ve_origin_1 (by decide) (fun c1 => ?_) (fun c1 => ?_)
  · refine hg_iconst (v := 0) C d_Ve_origin_23 (by decide) ?_
    refine hg_istore_n (lv' := [(3, .int 0), (0, .ref a), (1, .int t), (2, .int f)]) C d_Ve_origin_24 rfl (by decide) rfl ?_
    refine hg_iload_n C 0 d_Ve_origin_25 rfl rfl ?_
    refine hg_if_eq C 42 d_Ve_origin_26 (by decide) (fun _ => ?_) (fun z => absurd (by decide) z)
    refine hg_aload_n C 1 d_Ve_origin_42 rfl rfl ?_
    refine f_Ve_15 C ha rfl d_Ve_origin_43 ?_
    exact hg_iretN C hr rfl d_Ve_origin_46 (Nat.le_of_ble_eq_true rfl) (Nat.le_of_ble_eq_true rfl) (⟨by rw [v_org, if_neg (fun z => z.1 c1)], rfl, trivial⟩)
  · refine hg_iload_n C 1 d_Ve_origin_4 rfl rfl ?_
    refine hg_bipush (v := 60) C d_Ve_origin_5 (by decide) ?_
    refine hg_icmp_ge C 23 d_Ve_origin_7 (by decide) (fun c7 => ?_) (fun c7 => ?_)
    · refine hg_iconst (v := 0) C d_Ve_origin_23 (by decide) ?_
      refine hg_istore_n (lv' := [(3, .int 0), (0, .ref a), (1, .int t), (2, .int f)]) C d_Ve_origin_24 rfl (by decide) rfl ?_
      refine hg_iload_n C 0 d_Ve_origin_25 rfl rfl ?_
      refine hg_if_eq C 42 d_Ve_origin_26 (by decide) (fun _ => ?_) (fun z => absurd (by decide) z)
      refine hg_aload_n C 1 d_Ve_origin_42 rfl rfl ?_
      refine f_Ve_15 C ha rfl d_Ve_origin_43 ?_
      exact hg_iretN C hr rfl d_Ve_origin_46 (Nat.le_of_ble_eq_true rfl) (Nat.le_of_ble_eq_true rfl) (⟨by rw [v_org, if_neg (fun z => z.2.1 c7)], rfl, trivial⟩)
    · refine hg_iload_n C 2 d_Ve_origin_10 rfl rfl ?_
      refine hg_if_lt C 23 d_Ve_origin_11 (by decide) (fun c11 => ?_) (fun c11 => ?_)
      · refine hg_iconst (v := 0) C d_Ve_origin_23 (by decide) ?_
        refine hg_istore_n (lv' := [(3, .int 0), (0, .ref a), (1, .int t), (2, .int f)]) C d_Ve_origin_24 rfl (by decide) rfl ?_
        refine hg_iload_n C 0 d_Ve_origin_25 rfl rfl ?_
        refine hg_if_eq C 42 d_Ve_origin_26 (by decide) (fun _ => ?_) (fun z => absurd (by decide) z)
        refine hg_aload_n C 1 d_Ve_origin_42 rfl rfl ?_
        refine f_Ve_15 C ha rfl d_Ve_origin_43 ?_
        exact hg_iretN C hr rfl d_Ve_origin_46 (Nat.le_of_ble_eq_true rfl) (Nat.le_of_ble_eq_true rfl) (⟨by rw [v_org, if_neg (fun z => z.2.2.1 c11)], rfl, trivial⟩)
      · refine hg_iload_n C 2 d_Ve_origin_14 rfl rfl ?_
        refine hg_iconst (v := 5) C d_Ve_origin_15 (by decide) ?_
        refine hg_icmp_ge C 23 d_Ve_origin_16 (by decide) (fun c16 => ?_) (fun c16 => ?_)
        · refine hg_iconst (v := 0) C d_Ve_origin_23 (by decide) ?_
          refine hg_istore_n (lv' := [(3, .int 0), (0, .ref a), (1, .int t), (2, .int f)]) C d_Ve_origin_24 rfl (by decide) rfl ?_
          refine hg_iload_n C 0 d_Ve_origin_25 rfl rfl ?_
          refine hg_if_eq C 42 d_Ve_origin_26 (by decide) (fun _ => ?_) (fun z => absurd (by decide) z)
          refine hg_aload_n C 1 d_Ve_origin_42 rfl rfl ?_
          refine f_Ve_15 C ha rfl d_Ve_origin_43 ?_
          exact hg_iretN C hr rfl d_Ve_origin_46 (Nat.le_of_ble_eq_true rfl) (Nat.le_of_ble_eq_true rfl) (⟨by rw [v_org, if_neg (fun z => z.2.2.2 c16)], rfl, trivial⟩)
        · refine hg_iconst (v := 1) C d_Ve_origin_19 (by decide) ?_
          refine hg_goto C 24 d_Ve_origin_20 (by decide) ?_
          refine hg_istore_n (lv' := [(3, .int 1), (0, .ref a), (1, .int t), (2, .int f)]) C d_Ve_origin_24 rfl (by decide) rfl ?_
          refine hg_iload_n C 0 d_Ve_origin_25 rfl rfl ?_
          refine hg_if_eq C 42 d_Ve_origin_26 (by decide) (fun z => absurd z (by decide)) (fun _ => ?_)
          refine hg_aload_n C 1 d_Ve_origin_29 rfl rfl ?_
          refine f_Ve_9 C ha rfl d_Ve_origin_30 ?_
          refine hg_iload_n C 2 d_Ve_origin_33 rfl rfl ?_
          refine hg_iconst (v := 5) C d_Ve_origin_34 (by decide) ?_
          refine hg_imul C d_Ve_origin_35 ?_
          refine hg_iload_n C 3 d_Ve_origin_36 rfl rfl ?_
          refine hg_iadd C d_Ve_origin_37 ?_
          refine hg_iald C 0 ho rfl (o_ok_in ⟨c1, c7, c11, c16⟩) d_Ve_origin_38 ?_
          refine hg_goto C 46 d_Ve_origin_39 (by decide) ?_
          exact hg_iretN C hr rfl d_Ve_origin_46 (Nat.le_of_ble_eq_true rfl) (Nat.le_of_ble_eq_true rfl) (⟨by rw [v_org, if_pos ⟨c1, c7, c11, c16⟩], rfl, trivial⟩)
/-- how many of the first k fields came in this version -/
noncomputable def v_new (F O : Nat → Int32) (n t : Int32) : Nat → Nat
  | 0 => 0
  | k + 1 => @ite _ (s_has F t ∧ v_org O n t (nI k) = n) (Classical.propDecidable _) (v_new F O n t k + 1) (v_new F O n t k)
abbrev rm_Ve_countNewFields : Room := { frames := 3, cells := 0, slots := 0, locals := 64 }
set_option maxHeartbeats 4000000 in
set_option maxRecDepth 100000 in
theorem lp_Ve_new (l : Launch) (Γ : Gam) {p : Program} {e : Env} {s : State} {m : MethodId} {args : Array Value} {below : List Frame} {meth : Method} {c : Code} {A : Nat → Prop} (C : hp_C p s m args meth c b_Ve_countNewFields 4 "ModelMerge$Version" w_Ve_countNewFields Γ.1 kcl (ktys Γ.2.1) (ksts Γ.2.2) knws A) {h : Pic} {a st b qo : Nat} {v1 : Value} {n t : Int32} {F O : Nat → Int32} (ha : h a = some (.inr (5, [.int n, v1, .ref st, .ref qo]))) (hst : h st = some (.inr (4, [.ref b]))) (hb : h b = some (.inl (Γ.2.1 0, 360, .inl F))) (ho : h qo = some (.inl (Γ.2.1 0, 300, .inl O))) (hr : meth.sig.returnType = some .int)  :
    ∀ (n9 : Nat) (k : Nat), (k ≤ 5) → (5 + 1 ≤ k + n9) → hp_G p l e rm_Ve_countNewFields s m args below meth c Γ.1 kcl A 4 (hp_NQ below Γ.1 kcl A (pv (.int (nI (v_new F O n t 5))) h True) args s 0 0) 0 0 4 [(3, .int (nI k)), (2, .int (nI (v_new F O n t k))), (1, .int t), (0, .ref a)] [] h := by
  intro n9
  induction n9 with
  | zero =>
    intro k hk hm
    exact absurd hm (by omega)
  | succ n9 ih =>
    intro k hk hm
    refine hg_iload_n C 0 d_Ve_countNewFields_4 rfl rfl ?_
    refine hg_iconst (v := 5) C d_Ve_countNewFields_5 (by decide) ?_
    refine hg_icmp_ge C 42 d_Ve_countNewFields_6 (by decide) (fun c6 => ?_) (fun c6 => ?_)
    · refine hg_iload_n C 1 d_Ve_countNewFields_42 rfl rfl ?_
      exact hg_iretN C hr rfl d_Ve_countNewFields_43 (Nat.le_of_ble_eq_true rfl) (Nat.le_of_ble_eq_true rfl) (⟨by rw [show k = 5 from Nat.le_antisymm hk ((nI_leI (a := 5) (by omega) (by omega)).mp c6)], rfl, trivial⟩)
    · have hlt : k < 5 := Nat.not_le.mp (fun z => c6 ((nI_leI (a := 5) (by omega) (by omega)).mpr z))
      refine hg_aload_n C 3 d_Ve_countNewFields_9 rfl rfl ?_
      refine f_Ve_22 C ha rfl d_Ve_countNewFields_10 ?_
      refine hg_iload_n C 2 d_Ve_countNewFields_13 rfl rfl ?_
      refine hg_VNb (q := ("ModelMerge$State", T_St, 1)) C (k_St_has l Γ _ st b F hst hb t) (cw_Ve_26 C.2.2.2.2.1 rfl rfl ⟨Nat.le_of_ble_eq_true rfl, Nat.le_of_ble_eq_true rfl⟩) hst rfl rfl rfl (Nat.le_of_ble_eq_true rfl) d_Ve_countNewFields_14 ⟨Nat.le_of_ble_eq_true rfl, Nat.le_of_ble_eq_true rfl⟩ (fun z1 => ?_) (fun z1 => ?_)
      · refine hg_if_eq C 36 d_Ve_countNewFields_17 (by decide) (fun z => absurd z (by decide)) (fun _ => ?_)
        refine hg_aload_n C 3 d_Ve_countNewFields_20 rfl rfl ?_
        refine hg_iload_n C 2 d_Ve_countNewFields_21 rfl rfl ?_
        refine hg_iload_n C 0 d_Ve_countNewFields_22 rfl rfl ?_
        refine hg_VNv (q := ("ModelMerge$Version", T_Ve, 4)) C (k_Ve_origin l Γ _ a st qo v1 n O ha ho t (nI k)) (cw_Ve_36 C.2.2.2.2.1 rfl rfl ⟨Nat.le_of_ble_eq_true rfl, Nat.le_of_ble_eq_true rfl⟩) ha rfl rfl rfl (Nat.le_of_ble_eq_true rfl) d_Ve_countNewFields_23 ⟨Nat.le_of_ble_eq_true rfl, Nat.le_of_ble_eq_true rfl⟩ (fun _ => ?_)
        refine hg_aload_n C 3 d_Ve_countNewFields_26 rfl rfl ?_
        refine f_Ve_15 C ha rfl d_Ve_countNewFields_27 ?_
        refine hg_icmp_ne C 36 d_Ve_countNewFields_30 (by decide) (fun c30 => ?_) (fun c30 => ?_)
        · refine hg_iinc (v := nI (k + 1)) (lv' := [(3, .int (nI (k + 1))), (2, .int (nI (v_new F O n t k))), (1, .int t), (0, .ref a)]) C 0 d_Ve_countNewFields_36 rfl (nI_1 k) (by decide) rfl ?_
          refine hg_goto C 4 d_Ve_countNewFields_39 (by decide) ?_
          have ih1 := ih (k + 1) (by omega) (by omega)
          rw [show v_new F O n t (k + 1) = v_new F O n t k from if_neg (fun z => c30 z.2)] at ih1
          exact hg_lv (ks := [0, 1, 2, 3]) rfl ih1
        · refine hg_iinc (v := nI (v_new F O n t k + 1)) (lv' := [(2, .int (nI (v_new F O n t k + 1))), (3, .int (nI k)), (1, .int t), (0, .ref a)]) C 1 d_Ve_countNewFields_33 rfl (nI_1 _) (by decide) rfl ?_
          refine hg_iinc (v := nI (k + 1)) (lv' := [(3, .int (nI (k + 1))), (2, .int (nI (v_new F O n t k + 1))), (1, .int t), (0, .ref a)]) C 1 d_Ve_countNewFields_36 rfl (nI_1 k) (by decide) rfl ?_
          refine hg_goto C 4 d_Ve_countNewFields_39 (by decide) ?_
          have ih1 := ih (k + 1) (by omega) (by omega)
          rw [show v_new F O n t (k + 1) = v_new F O n t k + 1 from if_pos ⟨z1, c30⟩] at ih1
          exact hg_lv (ks := [0, 1, 2, 3]) rfl ih1
      · refine hg_if_eq C 36 d_Ve_countNewFields_17 (by decide) (fun _ => ?_) (fun z => absurd (by decide) z)
        refine hg_iinc (v := nI (k + 1)) (lv' := [(3, .int (nI (k + 1))), (2, .int (nI (v_new F O n t k))), (1, .int t), (0, .ref a)]) C 0 d_Ve_countNewFields_36 rfl (nI_1 k) (by decide) rfl ?_
        refine hg_goto C 4 d_Ve_countNewFields_39 (by decide) ?_
        have ih1 := ih (k + 1) (by omega) (by omega)
        rw [show v_new F O n t (k + 1) = v_new F O n t k from if_neg (fun z => z1 z.1)] at ih1
        exact hg_lv (ks := [0, 1, 2, 3]) rfl ih1
set_option maxHeartbeats 4000000 in
set_option maxRecDepth 100000 in
theorem k_Ve_countNewFields (l : Launch) (Γ : Gam) (h : Pic) (a st b qo : Nat) (v1 : Value) (n t : Int32) (F O : Nat → Int32) (ha : h a = some (.inr (5, [.int n, v1, .ref st, .ref qo]))) (hst : h st = some (.inr (4, [.ref b]))) (hb : h b = some (.inl (Γ.2.1 0, 360, .inl F))) (ho : h qo = some (.inl (Γ.2.1 0, 300, .inl O))) : kN l Γ y_Ve_countNewFields w_Ve_countNewFields rm_Ve_countNewFields [.ref a, .int t] h (pv (.int (nI (v_new F O n t 5))) h True) 0 0 := by
  refine hg_entryN (own := "ModelMerge$Version") (cc := b_Ve_countNewFields) (maxL := 4) (ret := (some .int)) (lv0 := [(0, .ref a), (1, .int t)]) (by decide) rfl rfl (Nat.le_of_ble_eq_true rfl) rfl ?_
  intro p e s m args below meth c A C hnm hr
  refine hg_iconst (v := 0) C d_Ve_countNewFields_0 (by decide) ?_
  refine hg_istore_n (lv' := [(2, .int 0), (0, .ref a), (1, .int t)]) C d_Ve_countNewFields_1 rfl (by decide) rfl ?_
  refine hg_iconst (v := 0) C d_Ve_countNewFields_2 (by decide) ?_
  refine hg_istore_n (lv' := [(3, .int 0), (2, .int 0), (0, .ref a), (1, .int t)]) C d_Ve_countNewFields_3 rfl (by decide) rfl ?_
  exact hg_lv (ks := [0, 1, 3, 2]) rfl (lp_Ve_new l Γ C ha hst hb ho hr 6 0 (Nat.zero_le _) (by omega))
/-- where the value at place i came, by the version before -/
noncomputable def v_tr1 (FB FT OB : Nat → Int32) (nb n : Int32) (i : Nat) : Int32 := @ite _ (s_has FB (nI (i / 5)) ∧ s_val FB (nI (i / 5)) (nI (i % 5)) = s_val FT (nI (i / 5)) (nI (i % 5))) (Classical.propDecidable _) (v_org OB nb (nI (i / 5)) (nI (i % 5))) n
noncomputable def v_tr (FB FT OB O0 : Nat → Int32) (nb n : Int32) (k : Nat) : Nat → Int32 := fun i => if i < k then v_tr1 FB FT OB nb n i else O0 i
theorem v_tr_succ {FB FT OB O0 : Nat → Int32} {nb n : Int32} {t f : Nat} {v : Int32} (ht : t < 60) (hf : f < 5) (hv : v = v_tr1 FB FT OB nb n (t * 5 + f)) : upd (v_tr FB FT OB O0 nb n (t * 5 + f)) (nI t * 5 + nI f).toNatClampNeg v = v_tr FB FT OB O0 nb n (t * 5 + (f + 1)) := by
  rw [show (5 : Int32) = nI 5 from rfl, pk_mul, nI_add, nI_clamp (by omega)]
  funext i
  by_cases hi : i = t * 5 + f
  · subst hi
    rw [pk_us, v_tr, if_pos (by omega), hv]
  · rw [pk_un hi, v_tr, v_tr]
    by_cases h2 : i < t * 5 + f
    · rw [if_pos h2, if_pos (by omega)]
    · rw [if_neg h2, if_neg (by omega)]
theorem v_tr1_at {FB FT OB : Nat → Int32} {nb n : Int32} {t f : Nat} (hf : f < 5) : v_tr1 FB FT OB nb n (t * 5 + f) = @ite _ (s_has FB (nI t) ∧ s_val FB (nI t) (nI f) = s_val FT (nI t) (nI f)) (Classical.propDecidable _) (v_org OB nb (nI t) (nI f)) n := by
  have e1 : (t * 5 + f) / 5 = t := by omega
  have e2 : (t * 5 + f) % 5 = f := by omega
  rw [v_tr1, e1, e2]
abbrev rm_Ve_traceOrigins : Room := { frames := 3, cells := 0, slots := 0, locals := 64 }
set_option maxHeartbeats 4000000 in
set_option maxRecDepth 100000 in
theorem lp_Ve_tr1 (l : Launch) (Γ : Gam) {p : Program} {e : Env} {s : State} {m : MethodId} {args : Array Value} {below : List Frame} {meth : Method} {c : Code} {A : Nat → Prop} {Q : State → Prop} (C : hp_C p s m args meth c b_Ve_traceOrigins 6 "ModelMerge$Version" w_Ve_traceOrigins Γ.1 kcl (ktys Γ.2.1) (ksts Γ.2.2) knws A) {h : Pic} {a st b qo a0 st0 b0 qo0 : Nat} {v1 w1 : Value} {n nb : Int32} {FT FB OB O0 : Nat → Int32} (ha : h a = some (.inr (5, [.int n, v1, .ref st, .ref qo]))) (hst : h st = some (.inr (4, [.ref b]))) (hb : h b = some (.inl (Γ.2.1 0, 360, .inl FT))) (ho : h qo = some (.inl (Γ.2.1 0, 300, .inl O0))) (ha0 : h a0 = some (.inr (5, [.int nb, w1, .ref st0, .ref qo0]))) (hst0 : h st0 = some (.inr (4, [.ref b0]))) (hb0 : h b0 = some (.inl (Γ.2.1 0, 360, .inl FB))) (ho0 : h qo0 = some (.inl (Γ.2.1 0, 300, .inl OB))) (n1 : b ≠ qo) (n2 : b0 ≠ qo) (n3 : qo0 ≠ qo) {t : Nat} (ht : t < 60) {hv : Int32} (hh : ¬ hv = 0 ↔ s_has FB (nI t)) (kx : hp_G p l e rm_Ve_traceOrigins s m args below meth c Γ.1 kcl A 6 Q 0 0 96 [(2, .int (nI t)), (0, .ref a), (1, .ref a0)] [] (hp_up h qo (.inl (Γ.2.1 0, 300, .inl (v_tr FB FT OB O0 nb n (t * 5 + 5)))))) :
    ∀ (n9 : Nat) (f : Nat), (f ≤ 5) → (5 + 1 ≤ f + n9) → hp_G p l e rm_Ve_traceOrigins s m args below meth c Γ.1 kcl A 6 Q 0 0 20 [(4, .int (nI f)), (3, .int hv), (2, .int (nI t)), (0, .ref a), (1, .ref a0)] [] (hp_up h qo (.inl (Γ.2.1 0, 300, .inl (v_tr FB FT OB O0 nb n (t * 5 + f))))) := by
  intro n9
  induction n9 with
  | zero =>
    intro f hf hm
    exact absurd hm (by omega)
  | succ n9 ih =>
    intro f hf hm
    obtain ⟨h1, eh1⟩ : ∃ z, z = hp_up h qo (.inl ((Γ.2.1 0), 300, .inl (v_tr FB FT OB O0 nb n (t * 5 + f)))) := ⟨_, rfl⟩
    refine hg_eq eh1.symm ?_
    have k2 : h1 a = some (.inr (5, [.int n, v1, .ref st, .ref qo])) := by rw [eh1]; exact hp_up_g ha (fun z => by rw [z, ho] at ha; cases ha)
    have k3 : h1 st = some (.inr (4, [.ref b])) := by rw [eh1]; exact hp_up_g hst (fun z => by rw [z, ho] at hst; cases hst)
    have k4 : h1 b = some (.inl ((Γ.2.1 0), 360, .inl FT)) := by rw [eh1]; exact hp_up_g hb n1
    have k5 : h1 a0 = some (.inr (5, [.int nb, w1, .ref st0, .ref qo0])) := by rw [eh1]; exact hp_up_g ha0 (fun z => by rw [z, ho] at ha0; cases ha0)
    have k6 : h1 st0 = some (.inr (4, [.ref b0])) := by rw [eh1]; exact hp_up_g hst0 (fun z => by rw [z, ho] at hst0; cases hst0)
    have k7 : h1 b0 = some (.inl ((Γ.2.1 0), 360, .inl FB)) := by rw [eh1]; exact hp_up_g hb0 n2
    have k8 : h1 qo0 = some (.inl ((Γ.2.1 0), 300, .inl OB)) := by rw [eh1]; exact hp_up_g ho0 n3
    have k9 : h1 qo = some (.inl ((Γ.2.1 0), 300, .inl (v_tr FB FT OB O0 nb n (t * 5 + f)))) := by rw [eh1]; exact hp_up_s
    refine hg_iload C 0 d_Ve_traceOrigins_20 rfl ?_
    refine hg_iconst (v := 5) C d_Ve_traceOrigins_22 (by decide) ?_
    refine hg_icmp_ge C 96 d_Ve_traceOrigins_23 (by decide) (fun c23 => ?_) (fun c23 => ?_)
    · have hf5 : f = 5 := Nat.le_antisymm hf ((nI_leI (a := 5) (by omega) (by omega)).mp c23)
      subst hf5
      exact hg_eq eh1 (hg_lv (ks := [2, 3, 4]) rfl kx)
    · have hf5 : f < 5 := Nat.not_le.mp (fun z => c23 ((nI_leI (a := 5) (by omega) (by omega)).mpr z))
      refine hg_iload_n C 1 d_Ve_traceOrigins_26 rfl rfl ?_
      refine hg_if_eq C 57 d_Ve_traceOrigins_27 (by decide) (fun c27 => ?_) (fun c27 => ?_)
      · refine hg_iconst (v := 0) C d_Ve_traceOrigins_57 (by decide) ?_
        refine hg_istore (lv' := [(5, .int 0), (4, .int (nI f)), (3, .int hv), (2, .int (nI t)), (0, .ref a), (1, .ref a0)]) C d_Ve_traceOrigins_58 (by decide) rfl ?_
        refine hg_aload_n C 4 d_Ve_traceOrigins_60 rfl rfl ?_
        refine f_Ve_9 C k2 rfl d_Ve_traceOrigins_61 ?_
        refine hg_iload_n C 3 d_Ve_traceOrigins_64 rfl rfl ?_
        refine hg_iconst (v := 5) C d_Ve_traceOrigins_65 (by decide) ?_
        refine hg_imul C d_Ve_traceOrigins_66 ?_
        refine hg_iload C 1 d_Ve_traceOrigins_67 rfl ?_
        refine hg_iadd C d_Ve_traceOrigins_69 ?_
        refine hg_iload C 0 d_Ve_traceOrigins_70 rfl ?_
        refine hg_if_eq C 85 d_Ve_traceOrigins_72 (by decide) (fun _ => ?_) (fun z => absurd (by decide) z)
        refine hg_aload_n C 4 d_Ve_traceOrigins_85 rfl rfl ?_
        refine f_Ve_15 C k2 rfl d_Ve_traceOrigins_86 ?_
        refine hg_iast C 0 k9 rfl (o_ok_in (o_ok_of ht hf5)) d_Ve_traceOrigins_89 ?_
        obtain ⟨h10, eh10⟩ : ∃ z, z = hp_up h1 qo (.inl ((Γ.2.1 0), 300, .inl (upd (v_tr FB FT OB O0 nb n (t * 5 + f)) (((nI t * 5) + nI f).toNatClampNeg) n))) := ⟨_, rfl⟩
        refine hg_eq eh10.symm ?_
        have k11 : h10 a = some (.inr (5, [.int n, v1, .ref st, .ref qo])) := by rw [eh10]; exact hp_up_g k2 (fun z => by rw [z, k9] at k2; cases k2)
        have k12 : h10 st = some (.inr (4, [.ref b])) := by rw [eh10]; exact hp_up_g k3 (fun z => by rw [z, k9] at k3; cases k3)
        have k13 : h10 b = some (.inl ((Γ.2.1 0), 360, .inl FT)) := by rw [eh10]; exact hp_up_g k4 n1
        have k14 : h10 a0 = some (.inr (5, [.int nb, w1, .ref st0, .ref qo0])) := by rw [eh10]; exact hp_up_g k5 (fun z => by rw [z, k9] at k5; cases k5)
        have k15 : h10 st0 = some (.inr (4, [.ref b0])) := by rw [eh10]; exact hp_up_g k6 (fun z => by rw [z, k9] at k6; cases k6)
        have k16 : h10 b0 = some (.inl ((Γ.2.1 0), 360, .inl FB)) := by rw [eh10]; exact hp_up_g k7 n2
        have k17 : h10 qo0 = some (.inl ((Γ.2.1 0), 300, .inl OB)) := by rw [eh10]; exact hp_up_g k8 n3
        have k18 : h10 qo = some (.inl ((Γ.2.1 0), 300, .inl (upd (v_tr FB FT OB O0 nb n (t * 5 + f)) (((nI t * 5) + nI f).toNatClampNeg) n))) := by rw [eh10]; exact hp_up_s
        refine hg_iinc (v := nI (f + 1)) (lv' := [(4, .int (nI (f + 1))), (5, .int 0), (3, .int hv), (2, .int (nI t)), (0, .ref a), (1, .ref a0)]) C 1 d_Ve_traceOrigins_90 rfl (nI_1 f) (by decide) rfl ?_
        refine hg_goto C 20 d_Ve_traceOrigins_93 (by decide) ?_
        refine hg_eq (show h10 = hp_up h qo (.inl (Γ.2.1 0, 300, .inl (v_tr FB FT OB O0 nb n (t * 5 + (f + 1))))) by rw [eh10, eh1, hp_up_up, v_tr_succ ht hf5 (by rw [v_tr1_at hf5, if_neg (fun z => (hh.mpr z.1) c27)])]) ?_
        exact hg_lv (ks := [0, 2, 3, 4, 5]) rfl (ih (f + 1) (by omega) (by omega))
      · refine hg_aload_n C 4 d_Ve_traceOrigins_30 rfl rfl ?_
        refine f_Ve_22 C k5 rfl d_Ve_traceOrigins_31 ?_
        refine hg_iload_n C 2 d_Ve_traceOrigins_34 rfl rfl ?_
        refine hg_iload C 0 d_Ve_traceOrigins_35 rfl ?_
        refine hg_VNv (q := ("ModelMerge$State", T_St, 1)) C (k_St_value l Γ _ st0 b0 FB k6 k7 (nI t) (nI f)) (cw_Ve_32 C.2.2.2.2.1 rfl rfl ⟨Nat.le_of_ble_eq_true rfl, Nat.le_of_ble_eq_true rfl⟩) k6 rfl rfl rfl (Nat.le_of_ble_eq_true rfl) d_Ve_traceOrigins_37 ⟨Nat.le_of_ble_eq_true rfl, Nat.le_of_ble_eq_true rfl⟩ (fun _ => ?_)
        refine hg_aload_n C 3 d_Ve_traceOrigins_40 rfl rfl ?_
        refine f_Ve_22 C k2 rfl d_Ve_traceOrigins_41 ?_
        refine hg_iload_n C 2 d_Ve_traceOrigins_44 rfl rfl ?_
        refine hg_iload C 0 d_Ve_traceOrigins_45 rfl ?_
        refine hg_VNv (q := ("ModelMerge$State", T_St, 1)) C (k_St_value l Γ _ st b FT k3 k4 (nI t) (nI f)) (cw_Ve_32 C.2.2.2.2.1 rfl rfl ⟨Nat.le_of_ble_eq_true rfl, Nat.le_of_ble_eq_true rfl⟩) k3 rfl rfl rfl (Nat.le_of_ble_eq_true rfl) d_Ve_traceOrigins_47 ⟨Nat.le_of_ble_eq_true rfl, Nat.le_of_ble_eq_true rfl⟩ (fun _ => ?_)
        refine hg_icmp_ne C 57 d_Ve_traceOrigins_50 (by decide) (fun c50 => ?_) (fun c50 => ?_)
        · refine hg_iconst (v := 0) C d_Ve_traceOrigins_57 (by decide) ?_
          refine hg_istore (lv' := [(5, .int 0), (4, .int (nI f)), (3, .int hv), (2, .int (nI t)), (0, .ref a), (1, .ref a0)]) C d_Ve_traceOrigins_58 (by decide) rfl ?_
          refine hg_aload_n C 4 d_Ve_traceOrigins_60 rfl rfl ?_
          refine f_Ve_9 C k2 rfl d_Ve_traceOrigins_61 ?_
          refine hg_iload_n C 3 d_Ve_traceOrigins_64 rfl rfl ?_
          refine hg_iconst (v := 5) C d_Ve_traceOrigins_65 (by decide) ?_
          refine hg_imul C d_Ve_traceOrigins_66 ?_
          refine hg_iload C 1 d_Ve_traceOrigins_67 rfl ?_
          refine hg_iadd C d_Ve_traceOrigins_69 ?_
          refine hg_iload C 0 d_Ve_traceOrigins_70 rfl ?_
          refine hg_if_eq C 85 d_Ve_traceOrigins_72 (by decide) (fun _ => ?_) (fun z => absurd (by decide) z)
          refine hg_aload_n C 4 d_Ve_traceOrigins_85 rfl rfl ?_
          refine f_Ve_15 C k2 rfl d_Ve_traceOrigins_86 ?_
          refine hg_iast C 0 k9 rfl (o_ok_in (o_ok_of ht hf5)) d_Ve_traceOrigins_89 ?_
          obtain ⟨h19, eh19⟩ : ∃ z, z = hp_up h1 qo (.inl ((Γ.2.1 0), 300, .inl (upd (v_tr FB FT OB O0 nb n (t * 5 + f)) (((nI t * 5) + nI f).toNatClampNeg) n))) := ⟨_, rfl⟩
          refine hg_eq eh19.symm ?_
          have k20 : h19 a = some (.inr (5, [.int n, v1, .ref st, .ref qo])) := by rw [eh19]; exact hp_up_g k2 (fun z => by rw [z, k9] at k2; cases k2)
          have k21 : h19 st = some (.inr (4, [.ref b])) := by rw [eh19]; exact hp_up_g k3 (fun z => by rw [z, k9] at k3; cases k3)
          have k22 : h19 b = some (.inl ((Γ.2.1 0), 360, .inl FT)) := by rw [eh19]; exact hp_up_g k4 n1
          have k23 : h19 a0 = some (.inr (5, [.int nb, w1, .ref st0, .ref qo0])) := by rw [eh19]; exact hp_up_g k5 (fun z => by rw [z, k9] at k5; cases k5)
          have k24 : h19 st0 = some (.inr (4, [.ref b0])) := by rw [eh19]; exact hp_up_g k6 (fun z => by rw [z, k9] at k6; cases k6)
          have k25 : h19 b0 = some (.inl ((Γ.2.1 0), 360, .inl FB)) := by rw [eh19]; exact hp_up_g k7 n2
          have k26 : h19 qo0 = some (.inl ((Γ.2.1 0), 300, .inl OB)) := by rw [eh19]; exact hp_up_g k8 n3
          have k27 : h19 qo = some (.inl ((Γ.2.1 0), 300, .inl (upd (v_tr FB FT OB O0 nb n (t * 5 + f)) (((nI t * 5) + nI f).toNatClampNeg) n))) := by rw [eh19]; exact hp_up_s
          refine hg_iinc (v := nI (f + 1)) (lv' := [(4, .int (nI (f + 1))), (5, .int 0), (3, .int hv), (2, .int (nI t)), (0, .ref a), (1, .ref a0)]) C 1 d_Ve_traceOrigins_90 rfl (nI_1 f) (by decide) rfl ?_
          refine hg_goto C 20 d_Ve_traceOrigins_93 (by decide) ?_
          refine hg_eq (show h19 = hp_up h qo (.inl (Γ.2.1 0, 300, .inl (v_tr FB FT OB O0 nb n (t * 5 + (f + 1))))) by rw [eh19, eh1, hp_up_up, v_tr_succ ht hf5 (by rw [v_tr1_at hf5, if_neg (fun z => c50 z.2)])]) ?_
          exact hg_lv (ks := [0, 2, 3, 4, 5]) rfl (ih (f + 1) (by omega) (by omega))
        · refine hg_iconst (v := 1) C d_Ve_traceOrigins_53 (by decide) ?_
          refine hg_goto C 58 d_Ve_traceOrigins_54 (by decide) ?_
          refine hg_istore (lv' := [(5, .int 1), (4, .int (nI f)), (3, .int hv), (2, .int (nI t)), (0, .ref a), (1, .ref a0)]) C d_Ve_traceOrigins_58 (by decide) rfl ?_
          refine hg_aload_n C 4 d_Ve_traceOrigins_60 rfl rfl ?_
          refine f_Ve_9 C k2 rfl d_Ve_traceOrigins_61 ?_
          refine hg_iload_n C 3 d_Ve_traceOrigins_64 rfl rfl ?_
          refine hg_iconst (v := 5) C d_Ve_traceOrigins_65 (by decide) ?_
          refine hg_imul C d_Ve_traceOrigins_66 ?_
          refine hg_iload C 1 d_Ve_traceOrigins_67 rfl ?_
          refine hg_iadd C d_Ve_traceOrigins_69 ?_
          refine hg_iload C 0 d_Ve_traceOrigins_70 rfl ?_
          refine hg_if_eq C 85 d_Ve_traceOrigins_72 (by decide) (fun z => absurd z (by decide)) (fun _ => ?_)
          refine hg_aload_n C 5 d_Ve_traceOrigins_75 rfl rfl ?_
          refine hg_iload_n C 3 d_Ve_traceOrigins_76 rfl rfl ?_
          refine hg_iload C 1 d_Ve_traceOrigins_77 rfl ?_
          refine hg_VNv (q := ("ModelMerge$Version", T_Ve, 4)) C (k_Ve_origin l Γ _ a0 st0 qo0 w1 nb OB k5 k8 (nI t) (nI f)) (cw_Ve_36 C.2.2.2.2.1 rfl rfl ⟨Nat.le_of_ble_eq_true rfl, Nat.le_of_ble_eq_true rfl⟩) k5 rfl rfl rfl (Nat.le_of_ble_eq_true rfl) d_Ve_traceOrigins_79 ⟨Nat.le_of_ble_eq_true rfl, Nat.le_of_ble_eq_true rfl⟩ (fun _ => ?_)
          refine hg_goto C 89 d_Ve_traceOrigins_82 (by decide) ?_
          refine hg_iast C 0 k9 rfl (o_ok_in (o_ok_of ht hf5)) d_Ve_traceOrigins_89 ?_
          obtain ⟨h28, eh28⟩ : ∃ z, z = hp_up h1 qo (.inl ((Γ.2.1 0), 300, .inl (upd (v_tr FB FT OB O0 nb n (t * 5 + f)) (((nI t * 5) + nI f).toNatClampNeg) (v_org OB nb (nI t) (nI f))))) := ⟨_, rfl⟩
          refine hg_eq eh28.symm ?_
          have k29 : h28 a = some (.inr (5, [.int n, v1, .ref st, .ref qo])) := by rw [eh28]; exact hp_up_g k2 (fun z => by rw [z, k9] at k2; cases k2)
          have k30 : h28 st = some (.inr (4, [.ref b])) := by rw [eh28]; exact hp_up_g k3 (fun z => by rw [z, k9] at k3; cases k3)
          have k31 : h28 b = some (.inl ((Γ.2.1 0), 360, .inl FT)) := by rw [eh28]; exact hp_up_g k4 n1
          have k32 : h28 a0 = some (.inr (5, [.int nb, w1, .ref st0, .ref qo0])) := by rw [eh28]; exact hp_up_g k5 (fun z => by rw [z, k9] at k5; cases k5)
          have k33 : h28 st0 = some (.inr (4, [.ref b0])) := by rw [eh28]; exact hp_up_g k6 (fun z => by rw [z, k9] at k6; cases k6)
          have k34 : h28 b0 = some (.inl ((Γ.2.1 0), 360, .inl FB)) := by rw [eh28]; exact hp_up_g k7 n2
          have k35 : h28 qo0 = some (.inl ((Γ.2.1 0), 300, .inl OB)) := by rw [eh28]; exact hp_up_g k8 n3
          have k36 : h28 qo = some (.inl ((Γ.2.1 0), 300, .inl (upd (v_tr FB FT OB O0 nb n (t * 5 + f)) (((nI t * 5) + nI f).toNatClampNeg) (v_org OB nb (nI t) (nI f))))) := by rw [eh28]; exact hp_up_s
          refine hg_iinc (v := nI (f + 1)) (lv' := [(4, .int (nI (f + 1))), (5, .int 1), (3, .int hv), (2, .int (nI t)), (0, .ref a), (1, .ref a0)]) C 1 d_Ve_traceOrigins_90 rfl (nI_1 f) (by decide) rfl ?_
          refine hg_goto C 20 d_Ve_traceOrigins_93 (by decide) ?_
          refine hg_eq (show h28 = hp_up h qo (.inl (Γ.2.1 0, 300, .inl (v_tr FB FT OB O0 nb n (t * 5 + (f + 1))))) by rw [eh28, eh1, hp_up_up, v_tr_succ ht hf5 (by rw [v_tr1_at hf5, if_pos ⟨hh.mp c27, c50⟩])]) ?_
          exact hg_lv (ks := [0, 2, 3, 4, 5]) rfl (ih (f + 1) (by omega) (by omega))
set_option maxHeartbeats 4000000 in
set_option maxRecDepth 100000 in
theorem lp_Ve_tr (l : Launch) (Γ : Gam) {p : Program} {e : Env} {s : State} {m : MethodId} {args : Array Value} {below : List Frame} {meth : Method} {c : Code} {A : Nat → Prop} (C : hp_C p s m args meth c b_Ve_traceOrigins 6 "ModelMerge$Version" w_Ve_traceOrigins Γ.1 kcl (ktys Γ.2.1) (ksts Γ.2.2) knws A) {h : Pic} {a st b qo a0 st0 b0 qo0 : Nat} {v1 w1 : Value} {n nb : Int32} {FT FB OB O0 : Nat → Int32} (ha : h a = some (.inr (5, [.int n, v1, .ref st, .ref qo]))) (hst : h st = some (.inr (4, [.ref b]))) (hb : h b = some (.inl (Γ.2.1 0, 360, .inl FT))) (ho : h qo = some (.inl (Γ.2.1 0, 300, .inl O0))) (ha0 : h a0 = some (.inr (5, [.int nb, w1, .ref st0, .ref qo0]))) (hst0 : h st0 = some (.inr (4, [.ref b0]))) (hb0 : h b0 = some (.inl (Γ.2.1 0, 360, .inl FB))) (ho0 : h qo0 = some (.inl (Γ.2.1 0, 300, .inl OB))) (n1 : b ≠ qo) (n2 : b0 ≠ qo) (n3 : qo0 ≠ qo) (hr : meth.sig.returnType = none)  :
    ∀ (n9 : Nat) (t : Nat), (t ≤ 60) → (60 + 1 ≤ t + n9) → hp_G p l e rm_Ve_traceOrigins s m args below meth c Γ.1 kcl A 6 (hp_NQ below Γ.1 kcl A (fun r u => r = none ∧ u = hp_up h qo (.inl (Γ.2.1 0, 300, .inl (v_tr FB FT OB O0 nb n (60 * 5))))) args s 0 0) 0 0 2 [(2, .int (nI t)), (0, .ref a), (1, .ref a0)] [] (hp_up h qo (.inl (Γ.2.1 0, 300, .inl (v_tr FB FT OB O0 nb n (t * 5))))) := by
  intro n9
  induction n9 with
  | zero =>
    intro t ht0 hm
    exact absurd hm (by omega)
  | succ n9 ih =>
    intro t ht0 hm
    obtain ⟨h1, eh1⟩ : ∃ z, z = hp_up h qo (.inl ((Γ.2.1 0), 300, .inl (v_tr FB FT OB O0 nb n (t * 5)))) := ⟨_, rfl⟩
    refine hg_eq eh1.symm ?_
    have k2 : h1 a = some (.inr (5, [.int n, v1, .ref st, .ref qo])) := by rw [eh1]; exact hp_up_g ha (fun z => by rw [z, ho] at ha; cases ha)
    have k3 : h1 st = some (.inr (4, [.ref b])) := by rw [eh1]; exact hp_up_g hst (fun z => by rw [z, ho] at hst; cases hst)
    have k4 : h1 b = some (.inl ((Γ.2.1 0), 360, .inl FT)) := by rw [eh1]; exact hp_up_g hb n1
    have k5 : h1 a0 = some (.inr (5, [.int nb, w1, .ref st0, .ref qo0])) := by rw [eh1]; exact hp_up_g ha0 (fun z => by rw [z, ho] at ha0; cases ha0)
    have k6 : h1 st0 = some (.inr (4, [.ref b0])) := by rw [eh1]; exact hp_up_g hst0 (fun z => by rw [z, ho] at hst0; cases hst0)
    have k7 : h1 b0 = some (.inl ((Γ.2.1 0), 360, .inl FB)) := by rw [eh1]; exact hp_up_g hb0 n2
    have k8 : h1 qo0 = some (.inl ((Γ.2.1 0), 300, .inl OB)) := by rw [eh1]; exact hp_up_g ho0 n3
    have k9 : h1 qo = some (.inl ((Γ.2.1 0), 300, .inl (v_tr FB FT OB O0 nb n (t * 5)))) := by rw [eh1]; exact hp_up_s
    refine hg_iload_n C 0 d_Ve_traceOrigins_2 rfl rfl ?_
    refine hg_bipush (v := 60) C d_Ve_traceOrigins_3 (by decide) ?_
    refine hg_icmp_ge C 102 d_Ve_traceOrigins_5 (by decide) (fun c5 => ?_) (fun c5 => ?_)
    · exact hg_vretN C hr d_Ve_traceOrigins_102 (Nat.le_of_ble_eq_true rfl) (Nat.le_of_ble_eq_true rfl) (⟨rfl, by rw [eh1, show t = 60 from Nat.le_antisymm ht0 ((nI_leI (a := 60) (by omega) (by omega)).mp c5)]⟩)
    · have ht : t < 60 := Nat.not_le.mp (fun z => c5 ((nI_leI (a := 60) (by omega) (by omega)).mpr z))
      refine hg_aload_n C 2 d_Ve_traceOrigins_8 rfl rfl ?_
      refine f_Ve_22 C k5 rfl d_Ve_traceOrigins_9 ?_
      refine hg_iload_n C 0 d_Ve_traceOrigins_12 rfl rfl ?_
      refine hg_VNb (q := ("ModelMerge$State", T_St, 1)) C (k_St_has l Γ _ st0 b0 FB k6 k7 (nI t)) (cw_Ve_26 C.2.2.2.2.1 rfl rfl ⟨Nat.le_of_ble_eq_true rfl, Nat.le_of_ble_eq_true rfl⟩) k6 rfl rfl rfl (Nat.le_of_ble_eq_true rfl) d_Ve_traceOrigins_13 ⟨Nat.le_of_ble_eq_true rfl, Nat.le_of_ble_eq_true rfl⟩ (fun z10 => ?_) (fun z10 => ?_)
      · refine hg_istore_n (lv' := [(3, .int 1), (2, .int (nI t)), (0, .ref a), (1, .ref a0)]) C d_Ve_traceOrigins_16 rfl (by decide) rfl ?_
        refine hg_iconst (v := 0) C d_Ve_traceOrigins_17 (by decide) ?_
        refine hg_istore (lv' := [(4, .int 0), (3, .int 1), (2, .int (nI t)), (0, .ref a), (1, .ref a0)]) C d_Ve_traceOrigins_18 (by decide) rfl ?_
        refine hg_eq eh1 ?_
        refine hg_lv (ks := [0, 1, 2, 3, 4]) rfl (lp_Ve_tr1 l Γ C ha hst hb ho ha0 hst0 hb0 ho0 n1 n2 n3 ht (hv := 1) ⟨fun _ => z10, fun _ => by decide⟩ ?_ 6 0 (by omega) (by omega))
        refine hg_iinc (v := nI (t + 1)) (lv' := [(2, .int (nI (t + 1))), (0, .ref a), (1, .ref a0)]) C 0 d_Ve_traceOrigins_96 rfl (nI_1 t) (by decide) rfl ?_
        refine hg_goto C 2 d_Ve_traceOrigins_99 (by decide) ?_
        exact hg_eq (by rw [show t * 5 + 5 = (t + 1) * 5 by omega]) (ih (t + 1) (by omega) (by omega))
      · refine hg_istore_n (lv' := [(3, .int 0), (2, .int (nI t)), (0, .ref a), (1, .ref a0)]) C d_Ve_traceOrigins_16 rfl (by decide) rfl ?_
        refine hg_iconst (v := 0) C d_Ve_traceOrigins_17 (by decide) ?_
        refine hg_istore (lv' := [(4, .int 0), (3, .int 0), (2, .int (nI t)), (0, .ref a), (1, .ref a0)]) C d_Ve_traceOrigins_18 (by decide) rfl ?_
        refine hg_eq eh1 ?_
        refine hg_lv (ks := [0, 1, 2, 3, 4]) rfl (lp_Ve_tr1 l Γ C ha hst hb ho ha0 hst0 hb0 ho0 n1 n2 n3 ht (hv := 0) ⟨fun z => absurd rfl z, fun z => absurd z z10⟩ ?_ 6 0 (by omega) (by omega))
        refine hg_iinc (v := nI (t + 1)) (lv' := [(2, .int (nI (t + 1))), (0, .ref a), (1, .ref a0)]) C 0 d_Ve_traceOrigins_96 rfl (nI_1 t) (by decide) rfl ?_
        refine hg_goto C 2 d_Ve_traceOrigins_99 (by decide) ?_
        exact hg_eq (by rw [show t * 5 + 5 = (t + 1) * 5 by omega]) (ih (t + 1) (by omega) (by omega))
set_option maxHeartbeats 4000000 in
set_option maxRecDepth 100000 in
theorem k_Ve_traceOrigins (l : Launch) (Γ : Gam) (h : Pic) (a st b qo a0 st0 b0 qo0 : Nat) (v1 w1 : Value) (n nb : Int32) (FT FB OB O0 : Nat → Int32) (ha : h a = some (.inr (5, [.int n, v1, .ref st, .ref qo]))) (hst : h st = some (.inr (4, [.ref b]))) (hb : h b = some (.inl (Γ.2.1 0, 360, .inl FT))) (ho : h qo = some (.inl (Γ.2.1 0, 300, .inl O0))) (ha0 : h a0 = some (.inr (5, [.int nb, w1, .ref st0, .ref qo0]))) (hst0 : h st0 = some (.inr (4, [.ref b0]))) (hb0 : h b0 = some (.inl (Γ.2.1 0, 360, .inl FB))) (ho0 : h qo0 = some (.inl (Γ.2.1 0, 300, .inl OB))) (n1 : b ≠ qo) (n2 : b0 ≠ qo) (n3 : qo0 ≠ qo) : kN l Γ y_Ve_traceOrigins w_Ve_traceOrigins rm_Ve_traceOrigins [.ref a, .ref a0] h (fun r u => r = none ∧ u = hp_up h qo (.inl (Γ.2.1 0, 300, .inl (v_tr FB FT OB O0 nb n (60 * 5))))) 0 0 := by
  refine hg_entryN (own := "ModelMerge$Version") (cc := b_Ve_traceOrigins) (maxL := 6) (ret := none) (lv0 := [(0, .ref a), (1, .ref a0)]) (by decide) rfl rfl (Nat.le_of_ble_eq_true rfl) rfl ?_
  intro p e s m args below meth c A C hnm hr
  refine hg_iconst (v := 0) C d_Ve_traceOrigins_0 (by decide) ?_
  refine hg_istore_n (lv' := [(2, .int 0), (0, .ref a), (1, .ref a0)]) C d_Ve_traceOrigins_1 rfl (by decide) rfl ?_
  refine hg_eq (show h = hp_up h qo (.inl (Γ.2.1 0, 300, .inl (v_tr FB FT OB O0 nb n (0 * 5)))) from (hp_up_self (by rw [show v_tr FB FT OB O0 nb n (0 * 5) = O0 from funext (fun i => if_neg (Nat.not_lt_zero i))]; exact ho)).symm) ?_
  exact lp_Ve_tr l Γ C ha hst hb ho ha0 hst0 hb0 ho0 n1 n2 n3 hr 61 0 (Nat.zero_le _) (by omega)
