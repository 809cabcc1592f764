/-! State: its methods -/
def s_ok (t f : Int32) : Prop := ¬ t < 0 ∧ ¬ (60 : Int32) ≤ t ∧ ¬ f < (-1) ∧ ¬ (5 : Int32) ≤ f
noncomputable def s_val (F : Nat → Int32) (t f : Int32) : Int32 := @ite _ (s_ok t f) (Classical.propDecidable _) (F (t * 6 + f - (-1)).toNatClampNeg) 0
noncomputable def s_put (F : Nat → Int32) (t f v : Int32) : Nat → Int32 := @ite _ (s_ok t f) (Classical.propDecidable _) (upd F (t * 6 + f - (-1)).toNatClampNeg v) F
theorem s_val_pos {F : Nat → Int32} {t f : Int32} (h : s_ok t f) : s_val F t f = F (t * 6 + f - (-1)).toNatClampNeg := if_pos h
theorem s_val_neg {F : Nat → Int32} {t f : Int32} (h : ¬ s_ok t f) : s_val F t f = 0 := if_neg h
theorem s_put_pos {F : Nat → Int32} {t f v : Int32} (h : s_ok t f) : s_put F t f v = upd F (t * 6 + f - (-1)).toNatClampNeg v := if_pos h
theorem s_put_neg {F : Nat → Int32} {t f v : Int32} (h : ¬ s_ok t f) : s_put F t f v = F := if_neg h
theorem s_ok_nat {t f : Int32} (h : s_ok t f) : ∃ a b : Nat, a < 60 ∧ b < 6 ∧ t = nI a ∧ f - (-1) = nI b ∧ t * 6 + f - (-1) = nI (a * 6 + b) := by
  obtain ⟨h1, h2, h3, h4⟩ := h
  have t0 : ¬ t.toInt < 0 := fun z => h1 (Int32.lt_iff_toInt_lt.mpr (by simpa using z))
  have t1 : t.toInt < 60 := by
    have := fun z => h2 (Int32.le_iff_toInt_le.mpr z)
    simp at this; omega
  have f0 : ¬ f.toInt < -1 := fun z => h3 (Int32.lt_iff_toInt_lt.mpr (by simpa using z))
  have f1 : f.toInt < 5 := by
    have := fun z => h4 (Int32.le_iff_toInt_le.mpr z)
    simp at this; omega
  obtain ⟨a, ha, rfl⟩ := nI_of h1
  have ha' : a < 60 := by rw [nI_toInt ha] at t1; omega
  obtain ⟨b, hb⟩ : ∃ b : Nat, f.toInt + 1 = (b : Int) := ⟨(f.toInt + 1).toNat, by omega⟩
  have hfb : f - (-1) = nI b := by
    apply Int32.toInt_inj.mp
    rw [Int32.toInt_sub, nI_toInt (by omega)]
    have : ((-1 : Int32)).toInt = -1 := by decide
    rw [this]
    rw [Int.bmod_eq_of_le (by omega) (by omega)]
    omega
  refine ⟨a, b, ha', by omega, rfl, hfb, ?_⟩
  have e : nI a * 6 + f - (-1) = nI a * 6 + (f - (-1)) := by
    rw [Int32.sub_eq_add_neg, Int32.sub_eq_add_neg, Int32.add_assoc]
  rw [e, hfb, show (6 : Int32) = nI 6 from rfl, pk_mul, nI_add]
theorem s_ok_in {t f : Int32} (h : s_ok t f) : vp_in (t * 6 + f - (-1)) 360 := by
  obtain ⟨a, b, ha, hb, -, -, e⟩ := s_ok_nat h
  rw [e]
  exact vp_in_nI (by omega) (by omega)
abbrev rm_St_isCell : Room := { frames := 0, cells := 0, slots := 0, locals := 0 }
set_option maxHeartbeats 4000000 in
set_option maxRecDepth 100000 in
theorem k_St_isCell (l : Launch) (Γ : Gam) (h : Pic) (t f : Int32) : kN l Γ y_St_isCell w_St_isCell rm_St_isCell [.int t, .int f] h (pb h (s_ok t f)) 0 0 := by
  refine hg_entryN (own := "ModelMerge$State") (cc := b_St_isCell) (maxL := 2) (ret := (some .boolean)) (lv0 := [(0, .int t), (1, .int f)]) (by decide) rfl rfl (Nat.le_of_ble_eq_true rfl) rfl ?_
  intro p e s m args below meth c A C hnm hr
  refine hg_iload_n C 0 d_St_isCell_0 rfl rfl ?_
  refine hg_if_lt C 24 d_St_isCell_1 (by decide) (fun c1 => ?_) (fun c1 => ?_)
  · refine hg_iconst (v := 0) C d_St_isCell_24 (by decide) ?_
    exact hg_iretN C hr rfl d_St_isCell_25 (Nat.le_of_ble_eq_true rfl) (Nat.le_of_ble_eq_true rfl) (Or.inr ⟨rfl, rfl, fun z => z.1 c1⟩)
  · refine hg_iload_n C 0 d_St_isCell_4 rfl rfl ?_
    refine hg_bipush (v := 60) C d_St_isCell_5 (by decide) ?_
    refine hg_icmp_ge C 24 d_St_isCell_7 (by decide) (fun c7 => ?_) (fun c7 => ?_)
    · refine hg_iconst (v := 0) C d_St_isCell_24 (by decide) ?_
      exact hg_iretN C hr rfl d_St_isCell_25 (Nat.le_of_ble_eq_true rfl) (Nat.le_of_ble_eq_true rfl) (Or.inr ⟨rfl, rfl, fun z => z.2.1 c7⟩)
    · refine hg_iload_n C 1 d_St_isCell_10 rfl rfl ?_
      refine hg_iconst (v := (-1)) C d_St_isCell_11 (by decide) ?_
      refine hg_icmp_lt C 24 d_St_isCell_12 (by decide) (fun c12 => ?_) (fun c12 => ?_)
      · refine hg_iconst (v := 0) C d_St_isCell_24 (by decide) ?_
        exact hg_iretN C hr rfl d_St_isCell_25 (Nat.le_of_ble_eq_true rfl) (Nat.le_of_ble_eq_true rfl) (Or.inr ⟨rfl, rfl, fun z => z.2.2.1 c12⟩)
      · refine hg_iload_n C 1 d_St_isCell_15 rfl rfl ?_
        refine hg_iconst (v := 5) C d_St_isCell_16 (by decide) ?_
        refine hg_icmp_ge C 24 d_St_isCell_17 (by decide) (fun c17 => ?_) (fun c17 => ?_)
        · refine hg_iconst (v := 0) C d_St_isCell_24 (by decide) ?_
          exact hg_iretN C hr rfl d_St_isCell_25 (Nat.le_of_ble_eq_true rfl) (Nat.le_of_ble_eq_true rfl) (Or.inr ⟨rfl, rfl, fun z => z.2.2.2 c17⟩)
        · refine hg_iconst (v := 1) C d_St_isCell_20 (by decide) ?_
          refine hg_goto C 25 d_St_isCell_21 (by decide) ?_
          exact hg_iretN C hr rfl d_St_isCell_25 (Nat.le_of_ble_eq_true rfl) (Nat.le_of_ble_eq_true rfl) (Or.inl ⟨rfl, rfl, ⟨c1, c7, c12, c17⟩⟩)
abbrev rm_St_cellOf : Room := { frames := 0, cells := 0, slots := 0, locals := 0 }
set_option maxHeartbeats 4000000 in
set_option maxRecDepth 100000 in
theorem k_St_cellOf (l : Launch) (Γ : Gam) (h : Pic) (t f : Int32) : kN l Γ y_St_cellOf w_St_cellOf rm_St_cellOf [.int t, .int f] h (pv (.int (t * 6 + f - (-1))) h True) 0 0 := by
  refine hg_entryN (own := "ModelMerge$State") (cc := b_St_cellOf) (maxL := 2) (ret := (some .int)) (lv0 := [(0, .int t), (1, .int f)]) (by decide) rfl rfl (Nat.le_of_ble_eq_true rfl) rfl ?_
  intro p e s m args below meth c A C hnm hr
  refine hg_iload_n C 0 d_St_cellOf_0 rfl rfl ?_
  refine hg_bipush (v := 6) C d_St_cellOf_1 (by decide) ?_
  refine hg_imul C d_St_cellOf_3 ?_
  refine hg_iload_n C 1 d_St_cellOf_4 rfl rfl ?_
  refine hg_iadd C d_St_cellOf_5 ?_
  refine hg_iconst (v := (-1)) C d_St_cellOf_6 (by decide) ?_
  refine hg_isub C d_St_cellOf_7 ?_
  exact hg_iretN C hr rfl d_St_cellOf_8 (Nat.le_of_ble_eq_true rfl) (Nat.le_of_ble_eq_true rfl) (⟨rfl, rfl, trivial⟩)
abbrev rm_St_value : Room := { frames := 1, cells := 0, slots := 0, locals := 21 }
set_option maxHeartbeats 4000000 in
set_option maxRecDepth 100000 in
theorem k_St_value (l : Launch) (Γ : Gam) (h : Pic) (a b : Nat) (F : Nat → Int32) (ha : h a = some (.inr (4, [.ref b]))) (hb : h b = some (.inl (Γ.2.1 0, 360, .inl F))) (t f : Int32) : kN l Γ y_St_value w_St_value rm_St_value [.ref a, .int t, .int f] h (pv (.int (s_val F t f)) h True) 0 0 := by
  refine hg_entryN (own := "ModelMerge$State") (cc := b_St_value) (maxL := 3) (ret := (some .int)) (lv0 := [(0, .ref a), (1, .int t), (2, .int f)]) (by decide) rfl rfl (Nat.le_of_ble_eq_true rfl) rfl ?_
  intro p e s m args below meth c A C hnm hr
  refine hg_iload_n C 1 d_St_value_0 rfl rfl ?_
  refine hg_iload_n C 2 d_St_value_1 rfl rfl ?_
  refine hg_SNb C (k_St_isCell l Γ _ t f) (cw_St_19 C.2.2.2.2.1 rfl rfl ⟨Nat.le_of_ble_eq_true rfl, Nat.le_of_ble_eq_true rfl⟩) rfl rfl (Nat.le_of_ble_eq_true rfl) d_St_value_2 ⟨Nat.le_of_ble_eq_true rfl, Nat.le_of_ble_eq_true rfl⟩ (fun z2 => ?_) (fun z2 => ?_)
  · refine hg_if_eq C 21 d_St_value_5 (by decide) (fun z => absurd z (by decide)) (fun _ => ?_)
    refine hg_aload_n C 0 d_St_value_8 rfl rfl ?_
    refine f_St_9 C ha rfl d_St_value_9 ?_
    refine hg_iload_n C 1 d_St_value_12 rfl rfl ?_
    refine hg_iload_n C 2 d_St_value_13 rfl rfl ?_
    refine hg_SNv C (k_St_cellOf l Γ _ t f) (cw_St_23 C.2.2.2.2.1 rfl rfl ⟨Nat.le_of_ble_eq_true rfl, Nat.le_of_ble_eq_true rfl⟩) rfl rfl (Nat.le_of_ble_eq_true rfl) d_St_value_14 ⟨Nat.le_of_ble_eq_true rfl, Nat.le_of_ble_eq_true rfl⟩ (fun _ => ?_)
    refine hg_iald C 0 hb rfl (s_ok_in z2) d_St_value_17 ?_
    refine hg_goto C 22 d_St_value_18 (by decide) ?_
    exact hg_iretN C hr rfl d_St_value_22 (Nat.le_of_ble_eq_true rfl) (Nat.le_of_ble_eq_true rfl) (⟨by rw [s_val_pos z2], rfl, trivial⟩)
  · refine hg_if_eq C 21 d_St_value_5 (by decide) (fun _ => ?_) (fun z => absurd (by decide) z)
    refine hg_iconst (v := 0) C d_St_value_21 (by decide) ?_
    exact hg_iretN C hr rfl d_St_value_22 (Nat.le_of_ble_eq_true rfl) (Nat.le_of_ble_eq_true rfl) (⟨by rw [s_val_neg z2], rfl, trivial⟩)
def s_has (F : Nat → Int32) (t : Int32) : Prop := s_val F t (-1) = 1
abbrev rm_St_has : Room := { frames := 2, cells := 0, slots := 0, locals := 43 }
set_option maxHeartbeats 4000000 in
set_option maxRecDepth 100000 in
theorem k_St_has (l : Launch) (Γ : Gam) (h : Pic) (a b : Nat) (F : Nat → Int32) (ha : h a = some (.inr (4, [.ref b]))) (hb : h b = some (.inl (Γ.2.1 0, 360, .inl F))) (t : Int32) : kN l Γ y_St_has w_St_has rm_St_has [.ref a, .int t] h (pb h (s_has F t)) 0 0 := by
  refine hg_entryN (own := "ModelMerge$State") (cc := b_St_has) (maxL := 2) (ret := (some .boolean)) (lv0 := [(0, .ref a), (1, .int t)]) (by decide) rfl rfl (Nat.le_of_ble_eq_true rfl) rfl ?_
  intro p e s m args below meth c A C hnm hr
  refine hg_aload_n C 0 d_St_has_0 rfl rfl ?_
  refine hg_iload_n C 1 d_St_has_1 rfl rfl ?_
  refine hg_iconst (v := (-1)) C d_St_has_2 (by decide) ?_
  refine hg_VNv (q := ("ModelMerge$State", T_St, 1)) C (k_St_value l Γ _ a b F ha hb t (-1)) (cw_St_15 C.2.2.2.2.1 rfl rfl ⟨Nat.le_of_ble_eq_true rfl, Nat.le_of_ble_eq_true rfl⟩) ha rfl rfl rfl (Nat.le_of_ble_eq_true rfl) d_St_has_3 ⟨Nat.le_of_ble_eq_true rfl, Nat.le_of_ble_eq_true rfl⟩ (fun _ => ?_)
  refine hg_iconst (v := 1) C d_St_has_6 (by decide) ?_
  refine hg_icmp_ne C 14 d_St_has_7 (by decide) (fun c7 => ?_) (fun c7 => ?_)
  · refine hg_iconst (v := 0) C d_St_has_14 (by decide) ?_
    exact hg_iretN C hr rfl d_St_has_15 (Nat.le_of_ble_eq_true rfl) (Nat.le_of_ble_eq_true rfl) (Or.inr ⟨rfl, rfl, c7⟩)
  · refine hg_iconst (v := 1) C d_St_has_10 (by decide) ?_
    refine hg_goto C 15 d_St_has_11 (by decide) ?_
    exact hg_iretN C hr rfl d_St_has_15 (Nat.le_of_ble_eq_true rfl) (Nat.le_of_ble_eq_true rfl) (Or.inl ⟨rfl, rfl, c7⟩)
theorem hp_up_up {h : Pic} {a : Nat} {e e' : va_E} : hp_up (hp_up h a e) a e' = hp_up h a e' := by
  funext q
  unfold hp_up
  by_cases hq : q = a
  · rw [if_pos hq, if_pos hq]
  · rw [if_neg hq, if_neg hq, if_neg hq]
theorem hp_up_self {h : Pic} {a : Nat} {e : va_E} (ha : h a = some e) : hp_up h a e = h := by
  funext q
  unfold hp_up
  by_cases hq : q = a
  · rw [if_pos hq, hq, ha]
  · rw [if_neg hq]
/-- the six cells of a thing -/
noncomputable def s_c6 (F : Nat → Int32) (t : Int32) (w : Int32 → Int32) : Nat → Int32 := s_put (s_put (s_put (s_put (s_put (s_put F t (-1) (w (-1))) t 0 (w 0)) t 1 (w 1)) t 2 (w 2)) t 3 (w 3)) t 4 (w 4)
noncomputable def s_cpy (F G : Nat → Int32) (t : Int32) : Nat → Int32 := @ite _ (s_has G t) (Classical.propDecidable _) (s_c6 F t (fun f => s_val G t f)) (s_c6 F t (fun _ => 0))
abbrev rm_St_put : Room := { frames := 1, cells := 0, slots := 0, locals := 21 }
set_option maxHeartbeats 4000000 in
set_option maxRecDepth 100000 in
theorem k_St_put (l : Launch) (Γ : Gam) (h : Pic) (a b : Nat) (F : Nat → Int32) (ha : h a = some (.inr (4, [.ref b]))) (hb : h b = some (.inl (Γ.2.1 0, 360, .inl F))) (t f v : Int32) : kN l Γ y_St_put w_St_put rm_St_put [.ref a, .int t, .int f, .int v] h (fun r u => r = none ∧ u = hp_up h b (.inl (Γ.2.1 0, 360, .inl (s_put F t f v)))) 0 0 := by
  refine hg_entryN (own := "ModelMerge$State") (cc := b_St_put) (maxL := 4) (ret := none) (lv0 := [(0, .ref a), (1, .int t), (2, .int f), (3, .int v)]) (by decide) rfl rfl (Nat.le_of_ble_eq_true rfl) rfl ?_
  intro p e s m args below meth c A C hnm hr
  refine hg_iload_n C 1 d_St_put_0 rfl rfl ?_
  refine hg_iload_n C 2 d_St_put_1 rfl rfl ?_
  refine hg_SNb C (k_St_isCell l Γ _ t f) (cw_St_19 C.2.2.2.2.1 rfl rfl ⟨Nat.le_of_ble_eq_true rfl, Nat.le_of_ble_eq_true rfl⟩) rfl rfl (Nat.le_of_ble_eq_true rfl) d_St_put_2 ⟨Nat.le_of_ble_eq_true rfl, Nat.le_of_ble_eq_true rfl⟩ (fun z2 => ?_) (fun z2 => ?_)
  · refine hg_if_eq C 19 d_St_put_5 (by decide) (fun z => absurd z (by decide)) (fun _ => ?_)
    refine hg_aload_n C 0 d_St_put_8 rfl rfl ?_
    refine f_St_9 C ha rfl d_St_put_9 ?_
    refine hg_iload_n C 1 d_St_put_12 rfl rfl ?_
    refine hg_iload_n C 2 d_St_put_13 rfl rfl ?_
    refine hg_SNv C (k_St_cellOf l Γ _ t f) (cw_St_23 C.2.2.2.2.1 rfl rfl ⟨Nat.le_of_ble_eq_true rfl, Nat.le_of_ble_eq_true rfl⟩) rfl rfl (Nat.le_of_ble_eq_true rfl) d_St_put_14 ⟨Nat.le_of_ble_eq_true rfl, Nat.le_of_ble_eq_true rfl⟩ (fun _ => ?_)
    refine hg_iload_n C 3 d_St_put_17 rfl rfl ?_
    refine hg_iast C 0 hb rfl (s_ok_in z2) d_St_put_18 ?_
    obtain ⟨h1, eh1⟩ : ∃ z, z = hp_up h b (.inl ((Γ.2.1 0), 360, .inl (upd F ((t * 6 + f - (-1)).toNatClampNeg) v))) := ⟨_, rfl⟩
    refine hg_eq eh1.symm ?_
    have k2 : h1 a = some (.inr (4, [.ref b])) := by rw [eh1]; exact hp_up_g ha (fun z => by rw [z, hb] at ha; cases ha)
    have k3 : h1 b = some (.inl ((Γ.2.1 0), 360, .inl (upd F ((t * 6 + f - (-1)).toNatClampNeg) v))) := by rw [eh1]; exact hp_up_s
    exact hg_vretN C hr d_St_put_19 (Nat.le_of_ble_eq_true rfl) (Nat.le_of_ble_eq_true rfl) (⟨rfl, by rw [s_put_pos z2]; exact eh1⟩)
  · refine hg_if_eq C 19 d_St_put_5 (by decide) (fun _ => ?_) (fun z => absurd (by decide) z)
    exact hg_vretN C hr d_St_put_19 (Nat.le_of_ble_eq_true rfl) (Nat.le_of_ble_eq_true rfl) (⟨rfl, by rw [s_put_neg z2]; exact (hp_up_self hb).symm⟩)
abbrev rm_St_copyThing : Room := { frames := 3, cells := 0, slots := 0, locals := 64 }
set_option maxHeartbeats 4000000 in
set_option maxRecDepth 100000 in
theorem k_St_copyThing (l : Launch) (Γ : Gam) (h : Pic) (a b a2 b2 : Nat) (F G : Nat → Int32) (ha : h a = some (.inr (4, [.ref b]))) (hb : h b = some (.inl (Γ.2.1 0, 360, .inl F))) (ha2 : h a2 = some (.inr (4, [.ref b2]))) (hb2 : h b2 = some (.inl (Γ.2.1 0, 360, .inl G))) (hbb : b2 ≠ b) (t : Int32) : kN l Γ y_St_copyThing w_St_copyThing rm_St_copyThing [.ref a, .ref a2, .int t] h (fun r u => r = none ∧ u = hp_up h b (.inl (Γ.2.1 0, 360, .inl (s_cpy F G t)))) 0 0 := by
  refine hg_entryN (own := "ModelMerge$State") (cc := b_St_copyThing) (maxL := 5) (ret := none) (lv0 := [(0, .ref a), (1, .ref a2), (2, .int t)]) (by decide) rfl rfl (Nat.le_of_ble_eq_true rfl) rfl ?_
  intro p e s m args below meth c A C hnm hr
  refine hg_aload_n C 1 d_St_copyThing_0 rfl rfl ?_
  refine hg_iload_n C 2 d_St_copyThing_1 rfl rfl ?_
  refine hg_VNb (q := ("ModelMerge$State", T_St, 1)) C (k_St_has l Γ _ a2 b2 G ha2 hb2 t) (cw_St_26 C.2.2.2.2.1 rfl rfl ⟨Nat.le_of_ble_eq_true rfl, Nat.le_of_ble_eq_true rfl⟩) ha2 rfl rfl rfl (Nat.le_of_ble_eq_true rfl) d_St_copyThing_2 ⟨Nat.le_of_ble_eq_true rfl, Nat.le_of_ble_eq_true rfl⟩ (fun z1 => ?_) (fun z1 => ?_)
  · refine hg_istore_n (lv' := [(3, .int 1), (0, .ref a), (1, .ref a2), (2, .int t)]) C d_St_copyThing_5 rfl (by decide) rfl ?_
    refine hg_iconst (v := (-1)) C d_St_copyThing_6 (by decide) ?_
    refine hg_istore (lv' := [(4, .int (-1)), (3, .int 1), (0, .ref a), (1, .ref a2), (2, .int t)]) C d_St_copyThing_7 (by decide) rfl ?_
    refine hg_iload C 0 d_St_copyThing_9 rfl ?_
    refine hg_iconst (v := 5) C d_St_copyThing_11 (by decide) ?_
    refine hg_icmp_ge C 43 d_St_copyThing_12 (by decide) (fun z => absurd z (by decide)) (fun _ => ?_)
    refine hg_aload_n C 2 d_St_copyThing_15 rfl rfl ?_
    refine hg_iload_n C 4 d_St_copyThing_16 rfl rfl ?_
    refine hg_iload C 0 d_St_copyThing_17 rfl ?_
    refine hg_iload_n C 1 d_St_copyThing_19 rfl rfl ?_
    refine hg_if_eq C 33 d_St_copyThing_20 (by decide) (fun z => absurd z (by decide)) (fun _ => ?_)
    refine hg_aload_n C 3 d_St_copyThing_23 rfl rfl ?_
    refine hg_iload_n C 4 d_St_copyThing_24 rfl rfl ?_
    refine hg_iload C 0 d_St_copyThing_25 rfl ?_
    refine hg_VNv (q := ("ModelMerge$State", T_St, 1)) C (k_St_value l Γ _ a2 b2 G ha2 hb2 t (-1)) (cw_St_15 C.2.2.2.2.1 rfl rfl ⟨Nat.le_of_ble_eq_true rfl, Nat.le_of_ble_eq_true rfl⟩) ha2 rfl rfl rfl (Nat.le_of_ble_eq_true rfl) d_St_copyThing_27 ⟨Nat.le_of_ble_eq_true rfl, Nat.le_of_ble_eq_true rfl⟩ (fun _ => ?_)
    refine hg_goto C 34 d_St_copyThing_30 (by decide) ?_
    refine hg_VNz (q := ("ModelMerge$State", T_St, 1)) C (k_St_put l Γ _ a b F ha hb t (-1) (s_val G t (-1))) (cw_St_30 C.2.2.2.2.1 rfl rfl ⟨Nat.le_of_ble_eq_true rfl, Nat.le_of_ble_eq_true rfl⟩) ha rfl rfl rfl (Nat.le_of_ble_eq_true rfl) d_St_copyThing_34 ⟨Nat.le_of_ble_eq_true rfl, Nat.le_of_ble_eq_true rfl⟩ (fun h2 eh2 => ?_)
    obtain ⟨F3, eF3⟩ : ∃ z, z = s_put F t (-1) (s_val G t (-1)) := ⟨_, rfl⟩
    rw [← eF3] at eh2
    have k4 : h2 a = some (.inr (4, [.ref b])) := by rw [eh2]; exact hp_up_g ha (fun z => by rw [z, hb] at ha; cases ha)
    have k5 : h2 a2 = some (.inr (4, [.ref b2])) := by rw [eh2]; exact hp_up_g ha2 (fun z => by rw [z, hb] at ha2; cases ha2)
    have k6 : h2 b2 = some (.inl ((Γ.2.1 0), 360, .inl G)) := by rw [eh2]; exact hp_up_g hb2 hbb
    have k7 : h2 b = some (.inl ((Γ.2.1 0), 360, .inl F3)) := by rw [eh2]; exact hp_up_s
    refine hg_iinc (v := 0) (lv' := [(4, .int 0), (3, .int 1), (0, .ref a), (1, .ref a2), (2, .int t)]) C 0 d_St_copyThing_37 rfl (by decide) (by decide) rfl ?_
    refine hg_goto C 9 d_St_copyThing_40 (by decide) ?_
    refine hg_iload C 0 d_St_copyThing_9 rfl ?_
    refine hg_iconst (v := 5) C d_St_copyThing_11 (by decide) ?_
    refine hg_icmp_ge C 43 d_St_copyThing_12 (by decide) (fun z => absurd z (by decide)) (fun _ => ?_)
    refine hg_aload_n C 2 d_St_copyThing_15 rfl rfl ?_
    refine hg_iload_n C 4 d_St_copyThing_16 rfl rfl ?_
    refine hg_iload C 0 d_St_copyThing_17 rfl ?_
    refine hg_iload_n C 1 d_St_copyThing_19 rfl rfl ?_
    refine hg_if_eq C 33 d_St_copyThing_20 (by decide) (fun z => absurd z (by decide)) (fun _ => ?_)
    refine hg_aload_n C 3 d_St_copyThing_23 rfl rfl ?_
    refine hg_iload_n C 4 d_St_copyThing_24 rfl rfl ?_
    refine hg_iload C 0 d_St_copyThing_25 rfl ?_
    refine hg_VNv (q := ("ModelMerge$State", T_St, 1)) C (k_St_value l Γ _ a2 b2 G k5 k6 t 0) (cw_St_15 C.2.2.2.2.1 rfl rfl ⟨Nat.le_of_ble_eq_true rfl, Nat.le_of_ble_eq_true rfl⟩) k5 rfl rfl rfl (Nat.le_of_ble_eq_true rfl) d_St_copyThing_27 ⟨Nat.le_of_ble_eq_true rfl, Nat.le_of_ble_eq_true rfl⟩ (fun _ => ?_)
    refine hg_goto C 34 d_St_copyThing_30 (by decide) ?_
    refine hg_VNz (q := ("ModelMerge$State", T_St, 1)) C (k_St_put l Γ _ a b F3 k4 k7 t 0 (s_val G t 0)) (cw_St_30 C.2.2.2.2.1 rfl rfl ⟨Nat.le_of_ble_eq_true rfl, Nat.le_of_ble_eq_true rfl⟩) k4 rfl rfl rfl (Nat.le_of_ble_eq_true rfl) d_St_copyThing_34 ⟨Nat.le_of_ble_eq_true rfl, Nat.le_of_ble_eq_true rfl⟩ (fun h8 eh8 => ?_)
    obtain ⟨F9, eF9⟩ : ∃ z, z = s_put F3 t 0 (s_val G t 0) := ⟨_, rfl⟩
    rw [← eF9] at eh8
    have k10 : h8 a = some (.inr (4, [.ref b])) := by rw [eh8]; exact hp_up_g k4 (fun z => by rw [z, k7] at k4; cases k4)
    have k11 : h8 a2 = some (.inr (4, [.ref b2])) := by rw [eh8]; exact hp_up_g k5 (fun z => by rw [z, k7] at k5; cases k5)
    have k12 : h8 b2 = some (.inl ((Γ.2.1 0), 360, .inl G)) := by rw [eh8]; exact hp_up_g k6 hbb
    have k13 : h8 b = some (.inl ((Γ.2.1 0), 360, .inl F9)) := by rw [eh8]; exact hp_up_s
    refine hg_iinc (v := 1) (lv' := [(4, .int 1), (3, .int 1), (0, .ref a), (1, .ref a2), (2, .int t)]) C 0 d_St_copyThing_37 rfl (by decide) (by decide) rfl ?_
    refine hg_goto C 9 d_St_copyThing_40 (by decide) ?_
    refine hg_iload C 0 d_St_copyThing_9 rfl ?_
    refine hg_iconst (v := 5) C d_St_copyThing_11 (by decide) ?_
    refine hg_icmp_ge C 43 d_St_copyThing_12 (by decide) (fun z => absurd z (by decide)) (fun _ => ?_)
    refine hg_aload_n C 2 d_St_copyThing_15 rfl rfl ?_
    refine hg_iload_n C 4 d_St_copyThing_16 rfl rfl ?_
    refine hg_iload C 0 d_St_copyThing_17 rfl ?_
    refine hg_iload_n C 1 d_St_copyThing_19 rfl rfl ?_
    refine hg_if_eq C 33 d_St_copyThing_20 (by decide) (fun z => absurd z (by decide)) (fun _ => ?_)
    refine hg_aload_n C 3 d_St_copyThing_23 rfl rfl ?_
    refine hg_iload_n C 4 d_St_copyThing_24 rfl rfl ?_
    refine hg_iload C 0 d_St_copyThing_25 rfl ?_
    refine hg_VNv (q := ("ModelMerge$State", T_St, 1)) C (k_St_value l Γ _ a2 b2 G k11 k12 t 1) (cw_St_15 C.2.2.2.2.1 rfl rfl ⟨Nat.le_of_ble_eq_true rfl, Nat.le_of_ble_eq_true rfl⟩) k11 rfl rfl rfl (Nat.le_of_ble_eq_true rfl) d_St_copyThing_27 ⟨Nat.le_of_ble_eq_true rfl, Nat.le_of_ble_eq_true rfl⟩ (fun _ => ?_)
    refine hg_goto C 34 d_St_copyThing_30 (by decide) ?_
    refine hg_VNz (q := ("ModelMerge$State", T_St, 1)) C (k_St_put l Γ _ a b F9 k10 k13 t 1 (s_val G t 1)) (cw_St_30 C.2.2.2.2.1 rfl rfl ⟨Nat.le_of_ble_eq_true rfl, Nat.le_of_ble_eq_true rfl⟩) k10 rfl rfl rfl (Nat.le_of_ble_eq_true rfl) d_St_copyThing_34 ⟨Nat.le_of_ble_eq_true rfl, Nat.le_of_ble_eq_true rfl⟩ (fun h14 eh14 => ?_)
    obtain ⟨F15, eF15⟩ : ∃ z, z = s_put F9 t 1 (s_val G t 1) := ⟨_, rfl⟩
    rw [← eF15] at eh14
    have k16 : h14 a = some (.inr (4, [.ref b])) := by rw [eh14]; exact hp_up_g k10 (fun z => by rw [z, k13] at k10; cases k10)
    have k17 : h14 a2 = some (.inr (4, [.ref b2])) := by rw [eh14]; exact hp_up_g k11 (fun z => by rw [z, k13] at k11; cases k11)
    have k18 : h14 b2 = some (.inl ((Γ.2.1 0), 360, .inl G)) := by rw [eh14]; exact hp_up_g k12 hbb
    have k19 : h14 b = some (.inl ((Γ.2.1 0), 360, .inl F15)) := by rw [eh14]; exact hp_up_s
    refine hg_iinc (v := 2) (lv' := [(4, .int 2), (3, .int 1), (0, .ref a), (1, .ref a2), (2, .int t)]) C 0 d_St_copyThing_37 rfl (by decide) (by decide) rfl ?_
    refine hg_goto C 9 d_St_copyThing_40 (by decide) ?_
    refine hg_iload C 0 d_St_copyThing_9 rfl ?_
    refine hg_iconst (v := 5) C d_St_copyThing_11 (by decide) ?_
    refine hg_icmp_ge C 43 d_St_copyThing_12 (by decide) (fun z => absurd z (by decide)) (fun _ => ?_)
    refine hg_aload_n C 2 d_St_copyThing_15 rfl rfl ?_
    refine hg_iload_n C 4 d_St_copyThing_16 rfl rfl ?_
    refine hg_iload C 0 d_St_copyThing_17 rfl ?_
    refine hg_iload_n C 1 d_St_copyThing_19 rfl rfl ?_
    refine hg_if_eq C 33 d_St_copyThing_20 (by decide) (fun z => absurd z (by decide)) (fun _ => ?_)
    refine hg_aload_n C 3 d_St_copyThing_23 rfl rfl ?_
    refine hg_iload_n C 4 d_St_copyThing_24 rfl rfl ?_
    refine hg_iload C 0 d_St_copyThing_25 rfl ?_
    refine hg_VNv (q := ("ModelMerge$State", T_St, 1)) C (k_St_value l Γ _ a2 b2 G k17 k18 t 2) (cw_St_15 C.2.2.2.2.1 rfl rfl ⟨Nat.le_of_ble_eq_true rfl, Nat.le_of_ble_eq_true rfl⟩) k17 rfl rfl rfl (Nat.le_of_ble_eq_true rfl) d_St_copyThing_27 ⟨Nat.le_of_ble_eq_true rfl, Nat.le_of_ble_eq_true rfl⟩ (fun _ => ?_)
    refine hg_goto C 34 d_St_copyThing_30 (by decide) ?_
    refine hg_VNz (q := ("ModelMerge$State", T_St, 1)) C (k_St_put l Γ _ a b F15 k16 k19 t 2 (s_val G t 2)) (cw_St_30 C.2.2.2.2.1 rfl rfl ⟨Nat.le_of_ble_eq_true rfl, Nat.le_of_ble_eq_true rfl⟩) k16 rfl rfl rfl (Nat.le_of_ble_eq_true rfl) d_St_copyThing_34 ⟨Nat.le_of_ble_eq_true rfl, Nat.le_of_ble_eq_true rfl⟩ (fun h20 eh20 => ?_)
    obtain ⟨F21, eF21⟩ : ∃ z, z = s_put F15 t 2 (s_val G t 2) := ⟨_, rfl⟩
    rw [← eF21] at eh20
    have k22 : h20 a = some (.inr (4, [.ref b])) := by rw [eh20]; exact hp_up_g k16 (fun z => by rw [z, k19] at k16; cases k16)
    have k23 : h20 a2 = some (.inr (4, [.ref b2])) := by rw [eh20]; exact hp_up_g k17 (fun z => by rw [z, k19] at k17; cases k17)
    have k24 : h20 b2 = some (.inl ((Γ.2.1 0), 360, .inl G)) := by rw [eh20]; exact hp_up_g k18 hbb
    have k25 : h20 b = some (.inl ((Γ.2.1 0), 360, .inl F21)) := by rw [eh20]; exact hp_up_s
    refine hg_iinc (v := 3) (lv' := [(4, .int 3), (3, .int 1), (0, .ref a), (1, .ref a2), (2, .int t)]) C 0 d_St_copyThing_37 rfl (by decide) (by decide) rfl ?_
    refine hg_goto C 9 d_St_copyThing_40 (by decide) ?_
    refine hg_iload C 0 d_St_copyThing_9 rfl ?_
    refine hg_iconst (v := 5) C d_St_copyThing_11 (by decide) ?_
    refine hg_icmp_ge C 43 d_St_copyThing_12 (by decide) (fun z => absurd z (by decide)) (fun _ => ?_)
    refine hg_aload_n C 2 d_St_copyThing_15 rfl rfl ?_
    refine hg_iload_n C 4 d_St_copyThing_16 rfl rfl ?_
    refine hg_iload C 0 d_St_copyThing_17 rfl ?_
    refine hg_iload_n C 1 d_St_copyThing_19 rfl rfl ?_
    refine hg_if_eq C 33 d_St_copyThing_20 (by decide) (fun z => absurd z (by decide)) (fun _ => ?_)
    refine hg_aload_n C 3 d_St_copyThing_23 rfl rfl ?_
    refine hg_iload_n C 4 d_St_copyThing_24 rfl rfl ?_
    refine hg_iload C 0 d_St_copyThing_25 rfl ?_
    refine hg_VNv (q := ("ModelMerge$State", T_St, 1)) C (k_St_value l Γ _ a2 b2 G k23 k24 t 3) (cw_St_15 C.2.2.2.2.1 rfl rfl ⟨Nat.le_of_ble_eq_true rfl, Nat.le_of_ble_eq_true rfl⟩) k23 rfl rfl rfl (Nat.le_of_ble_eq_true rfl) d_St_copyThing_27 ⟨Nat.le_of_ble_eq_true rfl, Nat.le_of_ble_eq_true rfl⟩ (fun _ => ?_)
    refine hg_goto C 34 d_St_copyThing_30 (by decide) ?_
    refine hg_VNz (q := ("ModelMerge$State", T_St, 1)) C (k_St_put l Γ _ a b F21 k22 k25 t 3 (s_val G t 3)) (cw_St_30 C.2.2.2.2.1 rfl rfl ⟨Nat.le_of_ble_eq_true rfl, Nat.le_of_ble_eq_true rfl⟩) k22 rfl rfl rfl (Nat.le_of_ble_eq_true rfl) d_St_copyThing_34 ⟨Nat.le_of_ble_eq_true rfl, Nat.le_of_ble_eq_true rfl⟩ (fun h26 eh26 => ?_)
    obtain ⟨F27, eF27⟩ : ∃ z, z = s_put F21 t 3 (s_val G t 3) := ⟨_, rfl⟩
    rw [← eF27] at eh26
    have k28 : h26 a = some (.inr (4, [.ref b])) := by rw [eh26]; exact hp_up_g k22 (fun z => by rw [z, k25] at k22; cases k22)
    have k29 : h26 a2 = some (.inr (4, [.ref b2])) := by rw [eh26]; exact hp_up_g k23 (fun z => by rw [z, k25] at k23; cases k23)
    have k30 : h26 b2 = some (.inl ((Γ.2.1 0), 360, .inl G)) := by rw [eh26]; exact hp_up_g k24 hbb
    have k31 : h26 b = some (.inl ((Γ.2.1 0), 360, .inl F27)) := by rw [eh26]; exact hp_up_s
    refine hg_iinc (v := 4) (lv' := [(4, .int 4), (3, .int 1), (0, .ref a), (1, .ref a2), (2, .int t)]) C 0 d_St_copyThing_37 rfl (by decide) (by decide) rfl ?_
    refine hg_goto C 9 d_St_copyThing_40 (by decide) ?_
    refine hg_iload C 0 d_St_copyThing_9 rfl ?_
    refine hg_iconst (v := 5) C d_St_copyThing_11 (by decide) ?_
    refine hg_icmp_ge C 43 d_St_copyThing_12 (by decide) (fun z => absurd z (by decide)) (fun _ => ?_)
    refine hg_aload_n C 2 d_St_copyThing_15 rfl rfl ?_
    refine hg_iload_n C 4 d_St_copyThing_16 rfl rfl ?_
    refine hg_iload C 0 d_St_copyThing_17 rfl ?_
    refine hg_iload_n C 1 d_St_copyThing_19 rfl rfl ?_
    refine hg_if_eq C 33 d_St_copyThing_20 (by decide) (fun z => absurd z (by decide)) (fun _ => ?_)
    refine hg_aload_n C 3 d_St_copyThing_23 rfl rfl ?_
    refine hg_iload_n C 4 d_St_copyThing_24 rfl rfl ?_
    refine hg_iload C 0 d_St_copyThing_25 rfl ?_
    refine hg_VNv (q := ("ModelMerge$State", T_St, 1)) C (k_St_value l Γ _ a2 b2 G k29 k30 t 4) (cw_St_15 C.2.2.2.2.1 rfl rfl ⟨Nat.le_of_ble_eq_true rfl, Nat.le_of_ble_eq_true rfl⟩) k29 rfl rfl rfl (Nat.le_of_ble_eq_true rfl) d_St_copyThing_27 ⟨Nat.le_of_ble_eq_true rfl, Nat.le_of_ble_eq_true rfl⟩ (fun _ => ?_)
    refine hg_goto C 34 d_St_copyThing_30 (by decide) ?_
    refine hg_VNz (q := ("ModelMerge$State", T_St, 1)) C (k_St_put l Γ _ a b F27 k28 k31 t 4 (s_val G t 4)) (cw_St_30 C.2.2.2.2.1 rfl rfl ⟨Nat.le_of_ble_eq_true rfl, Nat.le_of_ble_eq_true rfl⟩) k28 rfl rfl rfl (Nat.le_of_ble_eq_true rfl) d_St_copyThing_34 ⟨Nat.le_of_ble_eq_true rfl, Nat.le_of_ble_eq_true rfl⟩ (fun h32 eh32 => ?_)
    obtain ⟨F33, eF33⟩ : ∃ z, z = s_put F27 t 4 (s_val G t 4) := ⟨_, rfl⟩
    rw [← eF33] at eh32
    have k34 : h32 a = some (.inr (4, [.ref b])) := by rw [eh32]; exact hp_up_g k28 (fun z => by rw [z, k31] at k28; cases k28)
    have k35 : h32 a2 = some (.inr (4, [.ref b2])) := by rw [eh32]; exact hp_up_g k29 (fun z => by rw [z, k31] at k29; cases k29)
    have k36 : h32 b2 = some (.inl ((Γ.2.1 0), 360, .inl G)) := by rw [eh32]; exact hp_up_g k30 hbb
    have k37 : h32 b = some (.inl ((Γ.2.1 0), 360, .inl F33)) := by rw [eh32]; exact hp_up_s
    refine hg_iinc (v := 5) (lv' := [(4, .int 5), (3, .int 1), (0, .ref a), (1, .ref a2), (2, .int t)]) C 0 d_St_copyThing_37 rfl (by decide) (by decide) rfl ?_
    refine hg_goto C 9 d_St_copyThing_40 (by decide) ?_
    refine hg_iload C 0 d_St_copyThing_9 rfl ?_
    refine hg_iconst (v := 5) C d_St_copyThing_11 (by decide) ?_
    refine hg_icmp_ge C 43 d_St_copyThing_12 (by decide) (fun _ => ?_) (fun z => absurd (by decide) z)
    exact hg_vretN C hr d_St_copyThing_43 (Nat.le_of_ble_eq_true rfl) (Nat.le_of_ble_eq_true rfl) (⟨rfl, by rw [s_cpy, if_pos z1, eh32, eh26, eh20, eh14, eh8, eh2]; simp only [hp_up_up]; rw [s_c6, eF33, eF27, eF21, eF15, eF9, eF3]⟩)
  · refine hg_istore_n (lv' := [(3, .int 0), (0, .ref a), (1, .ref a2), (2, .int t)]) C d_St_copyThing_5 rfl (by decide) rfl ?_
    refine hg_iconst (v := (-1)) C d_St_copyThing_6 (by decide) ?_
    refine hg_istore (lv' := [(4, .int (-1)), (3, .int 0), (0, .ref a), (1, .ref a2), (2, .int t)]) C d_St_copyThing_7 (by decide) rfl ?_
    refine hg_iload C 0 d_St_copyThing_9 rfl ?_
    refine hg_iconst (v := 5) C d_St_copyThing_11 (by decide) ?_
    refine hg_icmp_ge C 43 d_St_copyThing_12 (by decide) (fun z => absurd z (by decide)) (fun _ => ?_)
    refine hg_aload_n C 2 d_St_copyThing_15 rfl rfl ?_
    refine hg_iload_n C 4 d_St_copyThing_16 rfl rfl ?_
    refine hg_iload C 0 d_St_copyThing_17 rfl ?_
    refine hg_iload_n C 1 d_St_copyThing_19 rfl rfl ?_
    refine hg_if_eq C 33 d_St_copyThing_20 (by decide) (fun _ => ?_) (fun z => absurd (by decide) z)
    refine hg_iconst (v := 0) C d_St_copyThing_33 (by decide) ?_
    refine hg_VNz (q := ("ModelMerge$State", T_St, 1)) C (k_St_put l Γ _ a b F ha hb t (-1) 0) (cw_St_30 C.2.2.2.2.1 rfl rfl ⟨Nat.le_of_ble_eq_true rfl, Nat.le_of_ble_eq_true rfl⟩) ha rfl rfl rfl (Nat.le_of_ble_eq_true rfl) d_St_copyThing_34 ⟨Nat.le_of_ble_eq_true rfl, Nat.le_of_ble_eq_true rfl⟩ (fun h38 eh38 => ?_)
    obtain ⟨F39, eF39⟩ : ∃ z, z = s_put F t (-1) 0 := ⟨_, rfl⟩
    rw [← eF39] at eh38
    have k40 : h38 a = some (.inr (4, [.ref b])) := by rw [eh38]; exact hp_up_g ha (fun z => by rw [z, hb] at ha; cases ha)
    have k41 : h38 a2 = some (.inr (4, [.ref b2])) := by rw [eh38]; exact hp_up_g ha2 (fun z => by rw [z, hb] at ha2; cases ha2)
    have k42 : h38 b2 = some (.inl ((Γ.2.1 0), 360, .inl G)) := by rw [eh38]; exact hp_up_g hb2 hbb
    have k43 : h38 b = some (.inl ((Γ.2.1 0), 360, .inl F39)) := by rw [eh38]; exact hp_up_s
    refine hg_iinc (v := 0) (lv' := [(4, .int 0), (3, .int 0), (0, .ref a), (1, .ref a2), (2, .int t)]) C 0 d_St_copyThing_37 rfl (by decide) (by decide) rfl ?_
    refine hg_goto C 9 d_St_copyThing_40 (by decide) ?_
    refine hg_iload C 0 d_St_copyThing_9 rfl ?_
    refine hg_iconst (v := 5) C d_St_copyThing_11 (by decide) ?_
    refine hg_icmp_ge C 43 d_St_copyThing_12 (by decide) (fun z => absurd z (by decide)) (fun _ => ?_)
    refine hg_aload_n C 2 d_St_copyThing_15 rfl rfl ?_
    refine hg_iload_n C 4 d_St_copyThing_16 rfl rfl ?_
    refine hg_iload C 0 d_St_copyThing_17 rfl ?_
    refine hg_iload_n C 1 d_St_copyThing_19 rfl rfl ?_
    refine hg_if_eq C 33 d_St_copyThing_20 (by decide) (fun _ => ?_) (fun z => absurd (by decide) z)
    refine hg_iconst (v := 0) C d_St_copyThing_33 (by decide) ?_
    refine hg_VNz (q := ("ModelMerge$State", T_St, 1)) C (k_St_put l Γ _ a b F39 k40 k43 t 0 0) (cw_St_30 C.2.2.2.2.1 rfl rfl ⟨Nat.le_of_ble_eq_true rfl, Nat.le_of_ble_eq_true rfl⟩) k40 rfl rfl rfl (Nat.le_of_ble_eq_true rfl) d_St_copyThing_34 ⟨Nat.le_of_ble_eq_true rfl, Nat.le_of_ble_eq_true rfl⟩ (fun h44 eh44 => ?_)
    obtain ⟨F45, eF45⟩ : ∃ z, z = s_put F39 t 0 0 := ⟨_, rfl⟩
    rw [← eF45] at eh44
    have k46 : h44 a = some (.inr (4, [.ref b])) := by rw [eh44]; exact hp_up_g k40 (fun z => by rw [z, k43] at k40; cases k40)
    have k47 : h44 a2 = some (.inr (4, [.ref b2])) := by rw [eh44]; exact hp_up_g k41 (fun z => by rw [z, k43] at k41; cases k41)
    have k48 : h44 b2 = some (.inl ((Γ.2.1 0), 360, .inl G)) := by rw [eh44]; exact hp_up_g k42 hbb
    have k49 : h44 b = some (.inl ((Γ.2.1 0), 360, .inl F45)) := by rw [eh44]; exact hp_up_s
    refine hg_iinc (v := 1) (lv' := [(4, .int 1), (3, .int 0), (0, .ref a), (1, .ref a2), (2, .int t)]) C 0 d_St_copyThing_37 rfl (by decide) (by decide) rfl ?_
    refine hg_goto C 9 d_St_copyThing_40 (by decide) ?_
    refine hg_iload C 0 d_St_copyThing_9 rfl ?_
    refine hg_iconst (v := 5) C d_St_copyThing_11 (by decide) ?_
    refine hg_icmp_ge C 43 d_St_copyThing_12 (by decide) (fun z => absurd z (by decide)) (fun _ => ?_)
    refine hg_aload_n C 2 d_St_copyThing_15 rfl rfl ?_
    refine hg_iload_n C 4 d_St_copyThing_16 rfl rfl ?_
    refine hg_iload C 0 d_St_copyThing_17 rfl ?_
    refine hg_iload_n C 1 d_St_copyThing_19 rfl rfl ?_
    refine hg_if_eq C 33 d_St_copyThing_20 (by decide) (fun _ => ?_) (fun z => absurd (by decide) z)
    refine hg_iconst (v := 0) C d_St_copyThing_33 (by decide) ?_
    refine hg_VNz (q := ("ModelMerge$State", T_St, 1)) C (k_St_put l Γ _ a b F45 k46 k49 t 1 0) (cw_St_30 C.2.2.2.2.1 rfl rfl ⟨Nat.le_of_ble_eq_true rfl, Nat.le_of_ble_eq_true rfl⟩) k46 rfl rfl rfl (Nat.le_of_ble_eq_true rfl) d_St_copyThing_34 ⟨Nat.le_of_ble_eq_true rfl, Nat.le_of_ble_eq_true rfl⟩ (fun h50 eh50 => ?_)
    obtain ⟨F51, eF51⟩ : ∃ z, z = s_put F45 t 1 0 := ⟨_, rfl⟩
    rw [← eF51] at eh50
    have k52 : h50 a = some (.inr (4, [.ref b])) := by rw [eh50]; exact hp_up_g k46 (fun z => by rw [z, k49] at k46; cases k46)
    have k53 : h50 a2 = some (.inr (4, [.ref b2])) := by rw [eh50]; exact hp_up_g k47 (fun z => by rw [z, k49] at k47; cases k47)
    have k54 : h50 b2 = some (.inl ((Γ.2.1 0), 360, .inl G)) := by rw [eh50]; exact hp_up_g k48 hbb
    have k55 : h50 b = some (.inl ((Γ.2.1 0), 360, .inl F51)) := by rw [eh50]; exact hp_up_s
    refine hg_iinc (v := 2) (lv' := [(4, .int 2), (3, .int 0), (0, .ref a), (1, .ref a2), (2, .int t)]) C 0 d_St_copyThing_37 rfl (by decide) (by decide) rfl ?_
    refine hg_goto C 9 d_St_copyThing_40 (by decide) ?_
    refine hg_iload C 0 d_St_copyThing_9 rfl ?_
    refine hg_iconst (v := 5) C d_St_copyThing_11 (by decide) ?_
    refine hg_icmp_ge C 43 d_St_copyThing_12 (by decide) (fun z => absurd z (by decide)) (fun _ => ?_)
    refine hg_aload_n C 2 d_St_copyThing_15 rfl rfl ?_
    refine hg_iload_n C 4 d_St_copyThing_16 rfl rfl ?_
    refine hg_iload C 0 d_St_copyThing_17 rfl ?_
    refine hg_iload_n C 1 d_St_copyThing_19 rfl rfl ?_
    refine hg_if_eq C 33 d_St_copyThing_20 (by decide) (fun _ => ?_) (fun z => absurd (by decide) z)
    refine hg_iconst (v := 0) C d_St_copyThing_33 (by decide) ?_
    refine hg_VNz (q := ("ModelMerge$State", T_St, 1)) C (k_St_put l Γ _ a b F51 k52 k55 t 2 0) (cw_St_30 C.2.2.2.2.1 rfl rfl ⟨Nat.le_of_ble_eq_true rfl, Nat.le_of_ble_eq_true rfl⟩) k52 rfl rfl rfl (Nat.le_of_ble_eq_true rfl) d_St_copyThing_34 ⟨Nat.le_of_ble_eq_true rfl, Nat.le_of_ble_eq_true rfl⟩ (fun h56 eh56 => ?_)
    obtain ⟨F57, eF57⟩ : ∃ z, z = s_put F51 t 2 0 := ⟨_, rfl⟩
    rw [← eF57] at eh56
    have k58 : h56 a = some (.inr (4, [.ref b])) := by rw [eh56]; exact hp_up_g k52 (fun z => by rw [z, k55] at k52; cases k52)
    have k59 : h56 a2 = some (.inr (4, [.ref b2])) := by rw [eh56]; exact hp_up_g k53 (fun z => by rw [z, k55] at k53; cases k53)
    have k60 : h56 b2 = some (.inl ((Γ.2.1 0), 360, .inl G)) := by rw [eh56]; exact hp_up_g k54 hbb
    have k61 : h56 b = some (.inl ((Γ.2.1 0), 360, .inl F57)) := by rw [eh56]; exact hp_up_s
    refine hg_iinc (v := 3) (lv' := [(4, .int 3), (3, .int 0), (0, .ref a), (1, .ref a2), (2, .int t)]) C 0 d_St_copyThing_37 rfl (by decide) (by decide) rfl ?_
    refine hg_goto C 9 d_St_copyThing_40 (by decide) ?_
    refine hg_iload C 0 d_St_copyThing_9 rfl ?_
    refine hg_iconst (v := 5) C d_St_copyThing_11 (by decide) ?_
    refine hg_icmp_ge C 43 d_St_copyThing_12 (by decide) (fun z => absurd z (by decide)) (fun _ => ?_)
    refine hg_aload_n C 2 d_St_copyThing_15 rfl rfl ?_
    refine hg_iload_n C 4 d_St_copyThing_16 rfl rfl ?_
    refine hg_iload C 0 d_St_copyThing_17 rfl ?_
    refine hg_iload_n C 1 d_St_copyThing_19 rfl rfl ?_
    refine hg_if_eq C 33 d_St_copyThing_20 (by decide) (fun _ => ?_) (fun z => absurd (by decide) z)
    refine hg_iconst (v := 0) C d_St_copyThing_33 (by decide) ?_
    refine hg_VNz (q := ("ModelMerge$State", T_St, 1)) C (k_St_put l Γ _ a b F57 k58 k61 t 3 0) (cw_St_30 C.2.2.2.2.1 rfl rfl ⟨Nat.le_of_ble_eq_true rfl, Nat.le_of_ble_eq_true rfl⟩) k58 rfl rfl rfl (Nat.le_of_ble_eq_true rfl) d_St_copyThing_34 ⟨Nat.le_of_ble_eq_true rfl, Nat.le_of_ble_eq_true rfl⟩ (fun h62 eh62 => ?_)
    obtain ⟨F63, eF63⟩ : ∃ z, z = s_put F57 t 3 0 := ⟨_, rfl⟩
    rw [← eF63] at eh62
    have k64 : h62 a = some (.inr (4, [.ref b])) := by rw [eh62]; exact hp_up_g k58 (fun z => by rw [z, k61] at k58; cases k58)
    have k65 : h62 a2 = some (.inr (4, [.ref b2])) := by rw [eh62]; exact hp_up_g k59 (fun z => by rw [z, k61] at k59; cases k59)
    have k66 : h62 b2 = some (.inl ((Γ.2.1 0), 360, .inl G)) := by rw [eh62]; exact hp_up_g k60 hbb
    have k67 : h62 b = some (.inl ((Γ.2.1 0), 360, .inl F63)) := by rw [eh62]; exact hp_up_s
    refine hg_iinc (v := 4) (lv' := [(4, .int 4), (3, .int 0), (0, .ref a), (1, .ref a2), (2, .int t)]) C 0 d_St_copyThing_37 rfl (by decide) (by decide) rfl ?_
    refine hg_goto C 9 d_St_copyThing_40 (by decide) ?_
    refine hg_iload C 0 d_St_copyThing_9 rfl ?_
    refine hg_iconst (v := 5) C d_St_copyThing_11 (by decide) ?_
    refine hg_icmp_ge C 43 d_St_copyThing_12 (by decide) (fun z => absurd z (by decide)) (fun _ => ?_)
    refine hg_aload_n C 2 d_St_copyThing_15 rfl rfl ?_
    refine hg_iload_n C 4 d_St_copyThing_16 rfl rfl ?_
    refine hg_iload C 0 d_St_copyThing_17 rfl ?_
    refine hg_iload_n C 1 d_St_copyThing_19 rfl rfl ?_
    refine hg_if_eq C 33 d_St_copyThing_20 (by decide) (fun _ => ?_) (fun z => absurd (by decide) z)
    refine hg_iconst (v := 0) C d_St_copyThing_33 (by decide) ?_
    refine hg_VNz (q := ("ModelMerge$State", T_St, 1)) C (k_St_put l Γ _ a b F63 k64 k67 t 4 0) (cw_St_30 C.2.2.2.2.1 rfl rfl ⟨Nat.le_of_ble_eq_true rfl, Nat.le_of_ble_eq_true rfl⟩) k64 rfl rfl rfl (Nat.le_of_ble_eq_true rfl) d_St_copyThing_34 ⟨Nat.le_of_ble_eq_true rfl, Nat.le_of_ble_eq_true rfl⟩ (fun h68 eh68 => ?_)
    obtain ⟨F69, eF69⟩ : ∃ z, z = s_put F63 t 4 0 := ⟨_, rfl⟩
    rw [← eF69] at eh68
    have k70 : h68 a = some (.inr (4, [.ref b])) := by rw [eh68]; exact hp_up_g k64 (fun z => by rw [z, k67] at k64; cases k64)
    have k71 : h68 a2 = some (.inr (4, [.ref b2])) := by rw [eh68]; exact hp_up_g k65 (fun z => by rw [z, k67] at k65; cases k65)
    have k72 : h68 b2 = some (.inl ((Γ.2.1 0), 360, .inl G)) := by rw [eh68]; exact hp_up_g k66 hbb
    have k73 : h68 b = some (.inl ((Γ.2.1 0), 360, .inl F69)) := by rw [eh68]; exact hp_up_s
    refine hg_iinc (v := 5) (lv' := [(4, .int 5), (3, .int 0), (0, .ref a), (1, .ref a2), (2, .int t)]) C 0 d_St_copyThing_37 rfl (by decide) (by decide) rfl ?_
    refine hg_goto C 9 d_St_copyThing_40 (by decide) ?_
    refine hg_iload C 0 d_St_copyThing_9 rfl ?_
    refine hg_iconst (v := 5) C d_St_copyThing_11 (by decide) ?_
    refine hg_icmp_ge C 43 d_St_copyThing_12 (by decide) (fun _ => ?_) (fun z => absurd (by decide) z)
    exact hg_vretN C hr d_St_copyThing_43 (Nat.le_of_ble_eq_true rfl) (Nat.le_of_ble_eq_true rfl) (⟨rfl, by rw [s_cpy, if_neg z1, eh68, eh62, eh56, eh50, eh44, eh38]; simp only [hp_up_up]; rw [s_c6, eF69, eF63, eF57, eF51, eF45, eF39]⟩)
abbrev rm_St_copyAll : Room := { frames := 1, cells := 0, slots := 0, locals := 100 }
set_option maxHeartbeats 4000000 in
set_option maxRecDepth 100000 in
theorem k_St_copyAll (l : Launch) (Γ : Gam) (h : Pic) (a b a2 b2 : Nat) (F G : Nat → Int32) (ha : h a = some (.inr (4, [.ref b]))) (hb : h b = some (.inl (Γ.2.1 0, 360, .inl F))) (ha2 : h a2 = some (.inr (4, [.ref b2]))) (hb2 : h b2 = some (.inl (Γ.2.1 0, 360, .inl G))) (hbb : b2 ≠ b) : kN l Γ y_St_copyAll w_St_copyAll rm_St_copyAll [.ref a, .ref a2] h (fun r u => r = none ∧ u = hp_up h b (.inl (Γ.2.1 0, 360, .inl (va_cpy G F 0 0 360)))) 0 0 := by
  refine hg_entryN (own := "ModelMerge$State") (cc := b_St_copyAll) (maxL := 2) (ret := none) (lv0 := [(0, .ref a), (1, .ref a2)]) (by decide) rfl rfl (Nat.le_of_ble_eq_true rfl) rfl ?_
  intro p e s m args below meth c A C hnm hr
  refine hg_aload_n C 1 d_St_copyAll_0 rfl rfl ?_
  refine f_St_9 C ha2 rfl d_St_copyAll_1 ?_
  refine hg_iconst (v := 0) C d_St_copyAll_4 (by decide) ?_
  refine hg_aload_n C 0 d_St_copyAll_5 rfl rfl ?_
  refine f_St_9 C ha rfl d_St_copyAll_6 ?_
  refine hg_iconst (v := 0) C d_St_copyAll_9 (by decide) ?_
  refine hg_sipush (v := 360) C d_St_copyAll_10 (by decide) ?_
  refine hg_copyi C 0 (kc kw266) (kc kw268) (kc kw267) (kc kw13) hb2 hb rfl (by decide) (by decide) (by decide) (by decide) (by decide) (Nat.le_of_ble_eq_true rfl) (Nat.le_of_ble_eq_true rfl) d_St_copyAll_13 ?_
  obtain ⟨h1, eh1⟩ : ∃ z, z = hp_up h b (.inl ((Γ.2.1 0), 360, .inl (va_cpy G F (0 : Int32).toNatClampNeg (0 : Int32).toNatClampNeg (360 : Int32).toNatClampNeg))) := ⟨_, rfl⟩
  refine hg_eq eh1.symm ?_
  have k2 : h1 a = some (.inr (4, [.ref b])) := by rw [eh1]; exact hp_up_g ha (fun z => by rw [z, hb] at ha; cases ha)
  have k3 : h1 a2 = some (.inr (4, [.ref b2])) := by rw [eh1]; exact hp_up_g ha2 (fun z => by rw [z, hb] at ha2; cases ha2)
  have k4 : h1 b2 = some (.inl ((Γ.2.1 0), 360, .inl G)) := by rw [eh1]; exact hp_up_g hb2 hbb
  have k5 : h1 b = some (.inl ((Γ.2.1 0), 360, .inl (va_cpy G F (0 : Int32).toNatClampNeg (0 : Int32).toNatClampNeg (360 : Int32).toNatClampNeg))) := by rw [eh1]; exact hp_up_s
  exact hg_vretN C hr d_St_copyAll_16 (Nat.le_of_ble_eq_true rfl) (Nat.le_of_ble_eq_true rfl) (⟨rfl, eh1⟩)
abbrev rm_St_init : Room := { frames := 1, cells := 1, slots := 360, locals := 20 }
set_option maxHeartbeats 4000000 in
set_option maxRecDepth 100000 in
theorem k_St_init (l : Launch) (Γ : Gam) (h : Pic) (a : Nat) (ha : h a = some (.inr (4, [.null]))) : kN l Γ y_St_init w_St_init rm_St_init [.ref a] h (fun r u => r = none ∧ ∃ b, h b = none ∧ u = hp_up (hp_up h b (.inl (Γ.2.1 0, 360, .inl (fun _ => 0)))) a (.inr (4, [.ref b]))) 1 360 := by
  refine hg_entryN (own := "ModelMerge$State") (cc := b_St_init) (maxL := 1) (ret := none) (lv0 := [(0, .ref a)]) (by decide) rfl rfl (Nat.le_of_ble_eq_true rfl) rfl ?_
  intro p e s m args below meth c A C hnm hr
  refine hg_aload_n C 0 d_St_init_0 rfl rfl ?_
  refine o_St_3 C (Nat.le_of_ble_eq_true rfl) (Nat.le_of_ble_eq_true rfl) d_St_init_1 ?_
  refine hg_aload_n C 0 d_St_init_4 rfl rfl ?_
  refine hg_sipush (v := 360) C d_St_init_5 (by decide) ?_
  refine hg_newa (atype := .int) (ty := .int) (a0 := (360, .inl (fun _ => 0))) C 0 (kc kw49) rfl (fun _ z => FieldType.noConfusion z) rfl (fun _ => rfl) (by decide) rfl (by decide) (Nat.le_of_ble_eq_true rfl) (Nat.le_of_ble_eq_true rfl) d_St_init_8 (fun q1 hq_q1 => ?_)
  obtain ⟨h2, eh2⟩ : ∃ z, z = hp_up h q1 (.inl ((Γ.2.1 0), 360, .inl (fun _ => 0))) := ⟨_, rfl⟩
  refine hg_eq eh2.symm ?_
  have k3 : h2 a = some (.inr (4, [.null])) := by rw [eh2]; exact hp_up_g ha (fun z => by rw [z, hq_q1] at ha; cases ha)
  have k4 : h2 q1 = some (.inl ((Γ.2.1 0), 360, .inl (fun _ => 0))) := by rw [eh2]; exact hp_up_s
  refine p_St_9 (fs' := [.ref q1]) C hnm k3 rfl rfl (Nat.le_of_ble_eq_true rfl) rfl d_St_init_10 ?_
  obtain ⟨h5, eh5⟩ : ∃ z, z = hp_up h2 a (.inr (4, [.ref q1])) := ⟨_, rfl⟩
  refine hg_eq eh5.symm ?_
  have k6 : h5 q1 = some (.inl ((Γ.2.1 0), 360, .inl (fun _ => 0))) := by rw [eh5]; exact hp_up_g k4 (fun z => by rw [z, k3] at k4; cases k4)
  have k7 : h5 a = some (.inr (4, [.ref q1])) := by rw [eh5]; exact hp_up_s
  exact hg_vretN C hr d_St_init_13 (Nat.le_of_ble_eq_true rfl) (Nat.le_of_ble_eq_true rfl) (⟨rfl, q1, hq_q1, by rw [eh5, eh2]⟩)
