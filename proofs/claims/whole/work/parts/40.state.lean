/-! State: its methods -/
def s_ok (t f : Int32) : Prop := ¬ t < 0 ∧ ¬ (60 : Int32) ≤ t ∧ ¬ f < (-1) ∧ ¬ (5 : Int32) ≤ f
noncomputable def s_val (F : Nat → Int32) (t f : Int32) : Int32 := @ite _ (s_ok t f) (Classical.propDecidable _) (F (t * 6 + f - (-1)).toNatClampNeg) 0
noncomputable def s_put (F : Nat → Int32) (t f v : Int32) : Nat → Int32 := @ite _ (s_ok t f) (Classical.propDecidable _) (upd F (t * 6 + f - (-1)).toNatClampNeg v) F
theorem s_val_pos {F : Nat → Int32} {t f : Int32} (h : s_ok t f) : s_val F t f = F (t * 6 + f - (-1)).toNatClampNeg := if_pos h
theorem s_val_neg {F : Nat → Int32} {t f : Int32} (h : ¬ s_ok t f) : s_val F t f = 0 := if_neg h
theorem s_put_pos {F : Nat → Int32} {t f v : Int32} (h : s_ok t f) : s_put F t f v = upd F (t * 6 + f - (-1)).toNatClampNeg v := if_pos h
theorem s_put_neg {F : Nat → Int32} {t f v : Int32} (h : ¬ s_ok t f) : s_put F t f v = F := if_neg h
theorem s_ok_nat {t f : Int32} (h : s_ok t f) : ∃ a b : Nat, a < 60 ∧ b < 6 ∧ t = nI a ∧ f - (-1) = nI b ∧ t * 6 + f - (-1) = nI (a * 6 + b) := by
  obtain ⟨h1, h2, h3, h4⟩ := h
  have t0 : ¬ t.toInt < 0 := fun z => h1 (Int32.lt_iff_toInt_lt.mpr (by simpa using z))
  have t1 : t.toInt < 60 := by
    have := fun z => h2 (Int32.le_iff_toInt_le.mpr z)
    simp at this; omega
  have f0 : ¬ f.toInt < -1 := fun z => h3 (Int32.lt_iff_toInt_lt.mpr (by simpa using z))
  have f1 : f.toInt < 5 := by
    have := fun z => h4 (Int32.le_iff_toInt_le.mpr z)
    simp at this; omega
  obtain ⟨a, ha, rfl⟩ := nI_of h1
  have ha' : a < 60 := by rw [nI_toInt ha] at t1; omega
  obtain ⟨b, hb⟩ : ∃ b : Nat, f.toInt + 1 = (b : Int) := ⟨(f.toInt + 1).toNat, by omega⟩
  have hfb : f - (-1) = nI b := by
    apply Int32.toInt_inj.mp
    rw [Int32.toInt_sub, nI_toInt (by omega)]
    have : ((-1 : Int32)).toInt = -1 := by decide
    rw [this]
    rw [Int.bmod_eq_of_le (by omega) (by omega)]
    omega
  refine ⟨a, b, ha', by omega, rfl, hfb, ?_⟩
  have e : nI a * 6 + f - (-1) = nI a * 6 + (f - (-1)) := by
    rw [Int32.sub_eq_add_neg, Int32.sub_eq_add_neg, Int32.add_assoc]
  rw [e, hfb, show (6 : Int32) = nI 6 from rfl, pk_mul, nI_add]
theorem s_ok_in {t f : Int32} (h : s_ok t f) : vp_in (t * 6 + f - (-1)) 360 := by
  obtain ⟨a, b, ha, hb, -, -, e⟩ := s_ok_nat h
  rw [e]
  exact vp_in_nI (by omega) (by omega)
abbrev rm_St_isCell : Room := { frames := 0, cells := 0, slots := 0, locals := 0 }
set_option maxHeartbeats 4000000 in
set_option maxRecDepth 100000 in
theorem k_St_isCell (l : Launch) (Γ : Gam) (h : Pic) (t f : Int32) : kN l Γ y_St_isCell w_St_isCell rm_St_isCell [.int t, .int f] h (pb h (s_ok t f)) 0 0 := by
  refine hg_entryN (own := "ModelMerge$State") (cc := b_St_isCell) (maxL := 2) (ret := (some .boolean)) (lv0 := [(0, .int t), (1, .int f)]) (by decide) rfl rfl (Nat.le_of_ble_eq_true rfl) rfl ?_
  intro p e s m args below meth c A C hnm hr
  refine hg_iload_n C 0 d_St_isCell_0 rfl rfl ?_
  refine hg_if_lt C 24 d_St_isCell_1 (by decide) (fun c1 => ?_) (fun c1 => ?_)
  · refine hg_iconst (v := 0) C d_St_isCell_24 (by decide) ?_
    exact hg_iretN C hr rfl d_St_isCell_25 (Nat.le_of_ble_eq_true rfl) (Nat.le_of_ble_eq_true rfl) (Or.inr ⟨rfl, rfl, fun z => z.1 c1⟩)
  · refine hg_iload_n C 0 d_St_isCell_4 rfl rfl ?_
    refine hg_bipush (v := 60) C d_St_isCell_5 (by decide) ?_
    refine hg_icmp_ge C 24 d_St_isCell_7 (by decide) (fun c7 => ?_) (fun c7 => ?_)
    · refine hg_iconst (v := 0) C d_St_isCell_24 (by decide) ?_
      exact hg_iretN C hr rfl d_St_isCell_25 (Nat.le_of_ble_eq_true rfl) (Nat.le_of_ble_eq_true rfl) (Or.inr ⟨rfl, rfl, fun z => z.2.1 c7⟩)
    · refine hg_iload_n C 1 d_St_isCell_10 rfl rfl ?_
      refine hg_iconst (v := (-1)) C d_St_isCell_11 (by decide) ?_
      refine hg_icmp_lt C 24 d_St_isCell_12 (by decide) (fun c12 => ?_) (fun c12 => ?_)
      · refine hg_iconst (v := 0) C d_St_isCell_24 (by decide) ?_
        exact hg_iretN C hr rfl d_St_isCell_25 (Nat.le_of_ble_eq_true rfl) (Nat.le_of_ble_eq_true rfl) (Or.inr ⟨rfl, rfl, fun z => z.2.2.1 c12⟩)
      · refine hg_iload_n C 1 d_St_isCell_15 rfl rfl ?_
        refine hg_iconst (v := 5) C d_St_isCell_16 (by decide) ?_
        refine hg_icmp_ge C 24 d_St_isCell_17 (by decide) (fun c17 => ?_) (fun c17 => ?_)
        · refine hg_iconst (v := 0) C d_St_isCell_24 (by decide) ?_
          exact hg_iretN C hr rfl d_St_isCell_25 (Nat.le_of_ble_eq_true rfl) (Nat.le_of_ble_eq_true rfl) (Or.inr ⟨rfl, rfl, fun z => z.2.2.2 c17⟩)
        · refine hg_iconst (v := 1) C d_St_isCell_20 (by decide) ?_
          refine hg_goto C 25 d_St_isCell_21 (by decide) ?_
          exact hg_iretN C hr rfl d_St_isCell_25 (Nat.le_of_ble_eq_true rfl) (Nat.le_of_ble_eq_true rfl) (Or.inl ⟨rfl, rfl, ⟨c1, c7, c12, c17⟩⟩)
abbrev rm_St_cellOf : Room := { frames := 0, cells := 0, slots := 0, locals := 0 }
set_option maxHeartbeats 4000000 in
set_option maxRecDepth 100000 in
theorem k_St_cellOf (l : Launch) (Γ : Gam) (h : Pic) (t f : Int32) : kN l Γ y_St_cellOf w_St_cellOf rm_St_cellOf [.int t, .int f] h (pv (.int (t * 6 + f - (-1))) h True) 0 0 := by
  refine hg_entryN (own := "ModelMerge$State") (cc := b_St_cellOf) (maxL := 2) (ret := (some .int)) (lv0 := [(0, .int t), (1, .int f)]) (by decide) rfl rfl (Nat.le_of_ble_eq_true rfl) rfl ?_
  intro p e s m args below meth c A C hnm hr
  refine hg_iload_n C 0 d_St_cellOf_0 rfl rfl ?_
  refine hg_bipush (v := 6) C d_St_cellOf_1 (by decide) ?_
  refine hg_imul C d_St_cellOf_3 ?_
  refine hg_iload_n C 1 d_St_cellOf_4 rfl rfl ?_
  refine hg_iadd C d_St_cellOf_5 ?_
  refine hg_iconst (v := (-1)) C d_St_cellOf_6 (by decide) ?_
  refine hg_isub C d_St_cellOf_7 ?_
  exact hg_iretN C hr rfl d_St_cellOf_8 (Nat.le_of_ble_eq_true rfl) (Nat.le_of_ble_eq_true rfl) (⟨rfl, rfl, trivial⟩)
abbrev rm_St_value : Room := { frames := 1, cells := 0, slots := 0, locals := 21 }
set_option maxHeartbeats 4000000 in
set_option maxRecDepth 100000 in
theorem k_St_value (l : Launch) (Γ : Gam) (h : Pic) (a b : Nat) (F : Nat → Int32) (ha : h a = some (.inr (4, [.ref b]))) (hb : h b = some (.inl (Γ.2.1 0, 360, .inl F))) (t f : Int32) : kN l Γ y_St_value w_St_value rm_St_value [.ref a, .int t, .int f] h (pv (.int (s_val F t f)) h True) 0 0 := by
  refine hg_entryN (own := "ModelMerge$State") (cc := b_St_value) (maxL := 3) (ret := (some .int)) (lv0 := [(0, .ref a), (1, .int t), (2, .int f)]) (by decide) rfl rfl (Nat.le_of_ble_eq_true rfl) rfl ?_
  intro p e s m args below meth c A C hnm hr
  refine hg_iload_n C 1 d_St_value_0 rfl rfl ?_
  refine hg_iload_n C 2 d_St_value_1 rfl rfl ?_
  refine hg_SNb C (k_St_isCell l Γ _ t f) (cw_St_19 C.2.2.2.2.1 rfl rfl ⟨Nat.le_of_ble_eq_true rfl, Nat.le_of_ble_eq_true rfl⟩) rfl rfl (Nat.le_of_ble_eq_true rfl) d_St_value_2 ⟨Nat.le_of_ble_eq_true rfl, Nat.le_of_ble_eq_true rfl⟩ (fun z2 => ?_) (fun z2 => ?_)
  · refine hg_if_eq C 21 d_St_value_5 (by decide) (fun z => absurd z (by decide)) (fun _ => ?_)
    refine hg_aload_n C 0 d_St_value_8 rfl rfl ?_
    refine f_St_9 C ha rfl d_St_value_9 ?_
    refine hg_iload_n C 1 d_St_value_12 rfl rfl ?_
    refine hg_iload_n C 2 d_St_value_13 rfl rfl ?_
    refine hg_SNv C (k_St_cellOf l Γ _ t f) (cw_St_23 C.2.2.2.2.1 rfl rfl ⟨Nat.le_of_ble_eq_true rfl, Nat.le_of_ble_eq_true rfl⟩) rfl rfl (Nat.le_of_ble_eq_true rfl) d_St_value_14 ⟨Nat.le_of_ble_eq_true rfl, Nat.le_of_ble_eq_true rfl⟩ (fun _ => ?_)
    refine hg_iald C 0 hb rfl (s_ok_in z2) d_St_value_17 ?_
    refine hg_goto C 22 d_St_value_18 (by decide) ?_
    exact hg_iretN C hr rfl d_St_value_22 (Nat.le_of_ble_eq_true rfl) (Nat.le_of_ble_eq_true rfl) (⟨by rw [s_val_pos z2], rfl, trivial⟩)
  · refine hg_if_eq C 21 d_St_value_5 (by decide) (fun _ => ?_) (fun z => absurd (by decide) z)
    refine hg_iconst (v := 0) C d_St_value_21 (by decide) ?_
    exact hg_iretN C hr rfl d_St_value_22 (Nat.le_of_ble_eq_true rfl) (Nat.le_of_ble_eq_true rfl) (⟨by rw [s_val_neg z2], rfl, trivial⟩)
def s_has (F : Nat → Int32) (t : Int32) : Prop := s_val F t (-1) = 1
abbrev rm_St_has : Room := { frames := 2, cells := 0, slots := 0, locals := 43 }
set_option maxHeartbeats 4000000 in
set_option maxRecDepth 100000 in
theorem k_St_has (l : Launch) (Γ : Gam) (h : Pic) (a b : Nat) (F : Nat → Int32) (ha : h a = some (.inr (4, [.ref b]))) (hb : h b = some (.inl (Γ.2.1 0, 360, .inl F))) (t : Int32) : kN l Γ y_St_has w_St_has rm_St_has [.ref a, .int t] h (pb h (s_has F t)) 0 0 := by
  refine hg_entryN (own := "ModelMerge$State") (cc := b_St_has) (maxL := 2) (ret := (some .boolean)) (lv0 := [(0, .ref a), (1, .int t)]) (by decide) rfl rfl (Nat.le_of_ble_eq_true rfl) rfl ?_
  intro p e s m args below meth c A C hnm hr
  refine hg_aload_n C 0 d_St_has_0 rfl rfl ?_
  refine hg_iload_n C 1 d_St_has_1 rfl rfl ?_
  refine hg_iconst (v := (-1)) C d_St_has_2 (by decide) ?_
  refine hg_VNv C (k_St_value l Γ _ a b F ha hb t (-1)) (cw_St_15 C.2.2.2.2.1 rfl rfl ⟨Nat.le_of_ble_eq_true rfl, Nat.le_of_ble_eq_true rfl⟩) ha rfl rfl rfl (Nat.le_of_ble_eq_true rfl) d_St_has_3 ⟨Nat.le_of_ble_eq_true rfl, Nat.le_of_ble_eq_true rfl⟩ (fun _ => ?_)
  refine hg_iconst (v := 1) C d_St_has_6 (by decide) ?_
  refine hg_icmp_ne C 14 d_St_has_7 (by decide) (fun c7 => ?_) (fun c7 => ?_)
  · refine hg_iconst (v := 0) C d_St_has_14 (by decide) ?_
    exact hg_iretN C hr rfl d_St_has_15 (Nat.le_of_ble_eq_true rfl) (Nat.le_of_ble_eq_true rfl) (Or.inr ⟨rfl, rfl, c7⟩)
  · refine hg_iconst (v := 1) C d_St_has_10 (by decide) ?_
    refine hg_goto C 15 d_St_has_11 (by decide) ?_
    exact hg_iretN C hr rfl d_St_has_15 (Nat.le_of_ble_eq_true rfl) (Nat.le_of_ble_eq_true rfl) (Or.inl ⟨rfl, rfl, c7⟩)
theorem hp_up_up {h : Pic} {a : Nat} {e e' : va_E} : hp_up (hp_up h a e) a e' = hp_up h a e' := by
  funext q
  unfold hp_up
  by_cases hq : q = a
  · rw [if_pos hq, if_pos hq]
  · rw [if_neg hq, if_neg hq, if_neg hq]
theorem hp_up_self {h : Pic} {a : Nat} {e : va_E} (ha : h a = some e) : hp_up h a e = h := by
  funext q
  unfold hp_up
  by_cases hq : q = a
  · rw [if_pos hq, hq, ha]
  · rw [if_neg hq]
/-- the six cells of a thing -/
noncomputable def s_c6 (F : Nat → Int32) (t : Int32) (w : Int32 → Int32) : Nat → Int32 := s_put (s_put (s_put (s_put (s_put (s_put F t (-1) (w (-1))) t 0 (w 0)) t 1 (w 1)) t 2 (w 2)) t 3 (w 3)) t 4 (w 4)
noncomputable def s_cpy (F G : Nat → Int32) (t : Int32) : Nat → Int32 := @ite _ (s_has G t) (Classical.propDecidable _) (s_c6 F t (fun f => s_val G t f)) (s_c6 F t (fun _ => 0))
abbrev rm_St_put : Room := { frames := 1, cells := 0, slots := 0, locals := 21 }
set_option maxHeartbeats 4000000 in
set_option maxRecDepth 100000 in
theorem k_St_put (l : Launch) (Γ : Gam) (h : Pic) (a b : Nat) (F : Nat → Int32) (ha : h a = some (.inr (4, [.ref b]))) (hb : h b = some (.inl (Γ.2.1 0, 360, .inl F))) (t f v : Int32) : kN l Γ y_St_put w_St_put rm_St_put [.ref a, .int t, .int f, .int v] h (fun r u => r = none ∧ u = hp_up h b (.inl (Γ.2.1 0, 360, .inl (s_put F t f v)))) 0 0 := by
  refine hg_entryN (own := "ModelMerge$State") (cc := b_St_put) (maxL := 4) (ret := none) (lv0 := [(0, .ref a), (1, .int t), (2, .int f), (3, .int v)]) (by decide) rfl rfl (Nat.le_of_ble_eq_true rfl) rfl ?_
  intro p e s m args below meth c A C hnm hr
  refine hg_iload_n C 1 d_St_put_0 rfl rfl ?_
  refine hg_iload_n C 2 d_St_put_1 rfl rfl ?_
  refine hg_SNb C (k_St_isCell l Γ _ t f) (cw_St_19 C.2.2.2.2.1 rfl rfl ⟨Nat.le_of_ble_eq_true rfl, Nat.le_of_ble_eq_true rfl⟩) rfl rfl (Nat.le_of_ble_eq_true rfl) d_St_put_2 ⟨Nat.le_of_ble_eq_true rfl, Nat.le_of_ble_eq_true rfl⟩ (fun z2 => ?_) (fun z2 => ?_)
  · refine hg_if_eq C 19 d_St_put_5 (by decide) (fun z => absurd z (by decide)) (fun _ => ?_)
    refine hg_aload_n C 0 d_St_put_8 rfl rfl ?_
    refine f_St_9 C ha rfl d_St_put_9 ?_
    refine hg_iload_n C 1 d_St_put_12 rfl rfl ?_
    refine hg_iload_n C 2 d_St_put_13 rfl rfl ?_
    refine hg_SNv C (k_St_cellOf l Γ _ t f) (cw_St_23 C.2.2.2.2.1 rfl rfl ⟨Nat.le_of_ble_eq_true rfl, Nat.le_of_ble_eq_true rfl⟩) rfl rfl (Nat.le_of_ble_eq_true rfl) d_St_put_14 ⟨Nat.le_of_ble_eq_true rfl, Nat.le_of_ble_eq_true rfl⟩ (fun _ => ?_)
    refine hg_iload_n C 3 d_St_put_17 rfl rfl ?_
    refine hg_iast C 0 hb rfl (s_ok_in z2) d_St_put_18 ?_
    obtain ⟨h1, eh1⟩ : ∃ z, z = hp_up h b (.inl ((Γ.2.1 0), 360, .inl (upd F ((t * 6 + f - (-1)).toNatClampNeg) v))) := ⟨_, rfl⟩
    rw [← eh1]
    have k2 : h1 a = some (.inr (4, [.ref b])) := by rw [eh1]; exact hp_up_g ha (fun z => by rw [z, hb] at ha; cases ha)
    have k3 : h1 b = some (.inl ((Γ.2.1 0), 360, .inl (upd F ((t * 6 + f - (-1)).toNatClampNeg) v))) := by rw [eh1]; exact hp_up_s
    exact hg_vretN C hr d_St_put_19 (Nat.le_of_ble_eq_true rfl) (Nat.le_of_ble_eq_true rfl) (⟨rfl, by rw [s_put_pos z2]; exact eh1⟩)
  · refine hg_if_eq C 19 d_St_put_5 (by decide) (fun _ => ?_) (fun z => absurd (by decide) z)
    exact hg_vretN C hr d_St_put_19 (Nat.le_of_ble_eq_true rfl) (Nat.le_of_ble_eq_true rfl) (⟨rfl, by rw [s_put_neg z2]; exact (hp_up_self hb).symm⟩)
abbrev rm_St_copyThing : Room := { frames := 3, cells := 0, slots := 0, locals := 64 }
set_option maxHeartbeats 4000000 in
set_option maxRecDepth 100000 in
theorem k_St_copyThing (l : Launch) (Γ : Gam) (h : Pic) (a b a2 b2 : Nat) (F G : Nat → Int32) (ha : h a = some (.inr (4, [.ref b]))) (hb : h b = some (.inl (Γ.2.1 0, 360, .inl F))) (ha2 : h a2 = some (.inr (4, [.ref b2]))) (hb2 : h b2 = some (.inl (Γ.2.1 0, 360, .inl G))) (hbb : b2 ≠ b) (t : Int32) : kN l Γ y_St_copyThing w_St_copyThing rm_St_copyThing [.ref a, .ref a2, .int t] h (fun r u => r = none ∧ u = hp_up h b (.inl (Γ.2.1 0, 360, .inl (s_cpy F G t)))) 0 0 := by
  refine hg_entryN (own := "ModelMerge$State") (cc := b_St_copyThing) (maxL := 5) (ret := none) (lv0 := [(0, .ref a), (1, .ref a2), (2, .int t)]) (by decide) rfl rfl (Nat.le_of_ble_eq_true rfl) rfl ?_
  intro p e s m args below meth c A C hnm hr
  refine hg_aload_n C 1 d_St_copyThing_0 rfl rfl ?_
  refine hg_iload_n C 2 d_St_copyThing_1 rfl rfl ?_
  refine hg_VNb C (k_St_has l Γ _ a2 b2 G ha2 hb2 t) (cw_St_26 C.2.2.2.2.1 rfl rfl ⟨Nat.le_of_ble_eq_true rfl, Nat.le_of_ble_eq_true rfl⟩) ha2 rfl rfl rfl (Nat.le_of_ble_eq_true rfl) d_St_copyThing_2 ⟨Nat.le_of_ble_eq_true rfl, Nat.le_of_ble_eq_true rfl⟩ (fun z1 => ?_) (fun z1 => ?_)
  · refine hg_istore_n (lv' := [(3, .int 1), (0, .ref a), (1, .ref a2), (2, .int t)]) C d_St_copyThing_5 rfl (by decide) rfl ?_
    refine hg_iconst (v := (-1)) C d_St_copyThing_6 (by decide) ?_
    refine hg_istore (lv' := [(4, .int (-1)), (3, .int 1), (0, .ref a), (1, .ref a2), (2, .int t)]) C d_St_copyThing_7 (by decide) rfl ?_
    refine hg_iload C 0 d_St_copyThing_9 rfl ?_
    refine hg_iconst (v := 5) C d_St_copyThing_11 (by decide) ?_
    refine hg_icmp_ge C 43 d_St_copyThing_12 (by decide) (fun z => absurd z (by decide)) (fun _ => ?_)
    refine hg_aload_n C 2 d_St_copyThing_15 rfl rfl ?_
    refine hg_iload_n C 4 d_St_copyThing_16 rfl rfl ?_
    refine hg_iload C 0 d_St_copyThing_17 rfl ?_
    refine hg_iload_n C 1 d_St_copyThing_19 rfl rfl ?_
    refine hg_if_eq C 33 d_St_copyThing_20 (by decide) (fun z => absurd z (by decide)) (fun _ => ?_)
    refine hg_aload_n C 3 d_St_copyThing_23 rfl rfl ?_
    refine hg_iload_n C 4 d_St_copyThing_24 rfl rfl ?_
    refine hg_iload C 0 d_St_copyThing_25 rfl ?_
    refine hg_VNv C (k_St_value l Γ _ a2 b2 G ha2 hb2 t (-1)) (cw_St_15 C.2.2.2.2.1 rfl rfl ⟨Nat.le_of_ble_eq_true rfl, Nat.le_of_ble_eq_true rfl⟩) ha2 rfl rfl rfl (Nat.le_of_ble_eq_true rfl) d_St_copyThing_27 ⟨Nat.le_of_ble_eq_true rfl, Nat.le_of_ble_eq_true rfl⟩ (fun _ => ?_)
    refine hg_goto C 34 d_St_copyThing_30 (by decide) ?_
    refine hg_VNz C (k_St_put l Γ _ a b F ha hb t (-1) (s_val G t (-1))) (cw_St_30 C.2.2.2.2.1 rfl rfl ⟨Nat.le_of_ble_eq_true rfl, Nat.le_of_ble_eq_true rfl⟩) ha rfl rfl rfl (Nat.le_of_ble_eq_true rfl) d_St_copyThing_34 ⟨Nat.le_of_ble_eq_true rfl, Nat.le_of_ble_eq_true rfl⟩ (fun h2 eh2 => ?_)
    have k3 : h2 a = some (.inr (4, [.ref b])) := by rw [eh2]; exact hp_up_g ha (fun z => by rw [z, hb] at ha; cases ha)
    have k4 : h2 a2 = some (.inr (4, [.ref b2])) := by rw [eh2]; exact hp_up_g ha2 (fun z => by rw [z, hb] at ha2; cases ha2)
    have k5 : h2 b2 = some (.inl ((Γ.2.1 0), 360, .inl G)) := by rw [eh2]; exact hp_up_g hb2 hbb
    have k6 : h2 b = some (.inl ((Γ.2.1 0), 360, .inl (s_put F t (-1) (s_val G t (-1))))) := by rw [eh2]; exact hp_up_s
    refine hg_iinc (v := 0) (lv' := [(4, .int 0), (3, .int 1), (0, .ref a), (1, .ref a2), (2, .int t)]) C 0 d_St_copyThing_37 rfl (by decide) (by decide) rfl ?_
    refine hg_goto C 9 d_St_copyThing_40 (by decide) ?_
    refine hg_iload C 0 d_St_copyThing_9 rfl ?_
    refine hg_iconst (v := 5) C d_St_copyThing_11 (by decide) ?_
    refine hg_icmp_ge C 43 d_St_copyThing_12 (by decide) (fun z => absurd z (by decide)) (fun _ => ?_)
    refine hg_aload_n C 2 d_St_copyThing_15 rfl rfl ?_
    refine hg_iload_n C 4 d_St_copyThing_16 rfl rfl ?_
    refine hg_iload C 0 d_St_copyThing_17 rfl ?_
    refine hg_iload_n C 1 d_St_copyThing_19 rfl rfl ?_
    refine hg_if_eq C 33 d_St_copyThing_20 (by decide) (fun z => absurd z (by decide)) (fun _ => ?_)
    refine hg_aload_n C 3 d_St_copyThing_23 rfl rfl ?_
    refine hg_iload_n C 4 d_St_copyThing_24 rfl rfl ?_
    refine hg_iload C 0 d_St_copyThing_25 rfl ?_
    refine hg_VNv C (k_St_value l Γ _ a2 b2 G k4 k5 t 0) (cw_St_15 C.2.2.2.2.1 rfl rfl ⟨Nat.le_of_ble_eq_true rfl, Nat.le_of_ble_eq_true rfl⟩) k4 rfl rfl rfl (Nat.le_of_ble_eq_true rfl) d_St_copyThing_27 ⟨Nat.le_of_ble_eq_true rfl, Nat.le_of_ble_eq_true rfl⟩ (fun _ => ?_)
    refine hg_goto C 34 d_St_copyThing_30 (by decide) ?_
    refine hg_VNz C (k_St_put l Γ _ a b (s_put F t (-1) (s_val G t (-1))) k3 k6 t 0 (s_val G t 0)) (cw_St_30 C.2.2.2.2.1 rfl rfl ⟨Nat.le_of_ble_eq_true rfl, Nat.le_of_ble_eq_true rfl⟩) k3 rfl rfl rfl (Nat.le_of_ble_eq_true rfl) d_St_copyThing_34 ⟨Nat.le_of_ble_eq_true rfl, Nat.le_of_ble_eq_true rfl⟩ (fun h7 eh7 => ?_)
    have k8 : h7 a = some (.inr (4, [.ref b])) := by rw [eh7]; exact hp_up_g k3 (fun z => by rw [z, k6] at k3; cases k3)
    have k9 : h7 a2 = some (.inr (4, [.ref b2])) := by rw [eh7]; exact hp_up_g k4 (fun z => by rw [z, k6] at k4; cases k4)
    have k10 : h7 b2 = some (.inl ((Γ.2.1 0), 360, .inl G)) := by rw [eh7]; exact hp_up_g k5 hbb
    have k11 : h7 b = some (.inl ((Γ.2.1 0), 360, .inl (s_put (s_put F t (-1) (s_val G t (-1))) t 0 (s_val G t 0)))) := by rw [eh7]; exact hp_up_s
    refine hg_iinc (v := 1) (lv' := [(4, .int 1), (3, .int 1), (0, .ref a), (1, .ref a2), (2, .int t)]) C 0 d_St_copyThing_37 rfl (by decide) (by decide) rfl ?_
    refine hg_goto C 9 d_St_copyThing_40 (by decide) ?_
    refine hg_iload C 0 d_St_copyThing_9 rfl ?_
    refine hg_iconst (v := 5) C d_St_copyThing_11 (by decide) ?_
    refine hg_icmp_ge C 43 d_St_copyThing_12 (by decide) (fun z => absurd z (by decide)) (fun _ => ?_)
    refine hg_aload_n C 2 d_St_copyThing_15 rfl rfl ?_
    refine hg_iload_n C 4 d_St_copyThing_16 rfl rfl ?_
    refine hg_iload C 0 d_St_copyThing_17 rfl ?_
    refine hg_iload_n C 1 d_St_copyThing_19 rfl rfl ?_
    refine hg_if_eq C 33 d_St_copyThing_20 (by decide) (fun z => absurd z (by decide)) (fun _ => ?_)
    refine hg_aload_n C 3 d_St_copyThing_23 rfl rfl ?_
    refine hg_iload_n C 4 d_St_copyThing_24 rfl rfl ?_
    refine hg_iload C 0 d_St_copyThing_25 rfl ?_
    refine hg_VNv C (k_St_value l Γ _ a2 b2 G k9 k10 t 1) (cw_St_15 C.2.2.2.2.1 rfl rfl ⟨Nat.le_of_ble_eq_true rfl, Nat.le_of_ble_eq_true rfl⟩) k9 rfl rfl rfl (Nat.le_of_ble_eq_true rfl) d_St_copyThing_27 ⟨Nat.le_of_ble_eq_true rfl, Nat.le_of_ble_eq_true rfl⟩ (fun _ => ?_)
    refine hg_goto C 34 d_St_copyThing_30 (by decide) ?_
    refine hg_VNz C (k_St_put l Γ _ a b (s_put (s_put F t (-1) (s_val G t (-1))) t 0 (s_val G t 0)) k8 k11 t 1 (s_val G t 1)) (cw_St_30 C.2.2.2.2.1 rfl rfl ⟨Nat.le_of_ble_eq_true rfl, Nat.le_of_ble_eq_true rfl⟩) k8 rfl rfl rfl (Nat.le_of_ble_eq_true rfl) d_St_copyThing_34 ⟨Nat.le_of_ble_eq_true rfl, Nat.le_of_ble_eq_true rfl⟩ (fun h12 eh12 => ?_)
    have k13 : h12 a = some (.inr (4, [.ref b])) := by rw [eh12]; exact hp_up_g k8 (fun z => by rw [z, k11] at k8; cases k8)
    have k14 : h12 a2 = some (.inr (4, [.ref b2])) := by rw [eh12]; exact hp_up_g k9 (fun z => by rw [z, k11] at k9; cases k9)
    have k15 : h12 b2 = some (.inl ((Γ.2.1 0), 360, .inl G)) := by rw [eh12]; exact hp_up_g k10 hbb
    have k16 : h12 b = some (.inl ((Γ.2.1 0), 360, .inl (s_put (s_put (s_put F t (-1) (s_val G t (-1))) t 0 (s_val G t 0)) t 1 (s_val G t 1)))) := by rw [eh12]; exact hp_up_s
    refine hg_iinc (v := 2) (lv' := [(4, .int 2), (3, .int 1), (0, .ref a), (1, .ref a2), (2, .int t)]) C 0 d_St_copyThing_37 rfl (by decide) (by decide) rfl ?_
    refine hg_goto C 9 d_St_copyThing_40 (by decide) ?_
    refine hg_iload C 0 d_St_copyThing_9 rfl ?_
    refine hg_iconst (v := 5) C d_St_copyThing_11 (by decide) ?_
    refine hg_icmp_ge C 43 d_St_copyThing_12 (by decide) (fun z => absurd z (by decide)) (fun _ => ?_)
    refine hg_aload_n C 2 d_St_copyThing_15 rfl rfl ?_
    refine hg_iload_n C 4 d_St_copyThing_16 rfl rfl ?_
    refine hg_iload C 0 d_St_copyThing_17 rfl ?_
    refine hg_iload_n C 1 d_St_copyThing_19 rfl rfl ?_
    refine hg_if_eq C 33 d_St_copyThing_20 (by decide) (fun z => absurd z (by decide)) (fun _ => ?_)
    refine hg_aload_n C 3 d_St_copyThing_23 rfl rfl ?_
    refine hg_iload_n C 4 d_St_copyThing_24 rfl rfl ?_
    refine hg_iload C 0 d_St_copyThing_25 rfl ?_
    refine hg_VNv C (k_St_value l Γ _ a2 b2 G k14 k15 t 2) (cw_St_15 C.2.2.2.2.1 rfl rfl ⟨Nat.le_of_ble_eq_true rfl, Nat.le_of_ble_eq_true rfl⟩) k14 rfl rfl rfl (Nat.le_of_ble_eq_true rfl) d_St_copyThing_27 ⟨Nat.le_of_ble_eq_true rfl, Nat.le_of_ble_eq_true rfl⟩ (fun _ => ?_)
    refine hg_goto C 34 d_St_copyThing_30 (by decide) ?_
    refine hg_VNz C (k_St_put l Γ _ a b (s_put (s_put (s_put F t (-1) (s_val G t (-1))) t 0 (s_val G t 0)) t 1 (s_val G t 1)) k13 k16 t 2 (s_val G t 2)) (cw_St_30 C.2.2.2.2.1 rfl rfl ⟨Nat.le_of_ble_eq_true rfl, Nat.le_of_ble_eq_true rfl⟩) k13 rfl rfl rfl (Nat.le_of_ble_eq_true rfl) d_St_copyThing_34 ⟨Nat.le_of_ble_eq_true rfl, Nat.le_of_ble_eq_true rfl⟩ (fun h17 eh17 => ?_)
    have k18 : h17 a = some (.inr (4, [.ref b])) := by rw [eh17]; exact hp_up_g k13 (fun z => by rw [z, k16] at k13; cases k13)
    have k19 : h17 a2 = some (.inr (4, [.ref b2])) := by rw [eh17]; exact hp_up_g k14 (fun z => by rw [z, k16] at k14; cases k14)
    have k20 : h17 b2 = some (.inl ((Γ.2.1 0), 360, .inl G)) := by rw [eh17]; exact hp_up_g k15 hbb
    have k21 : h17 b = some (.inl ((Γ.2.1 0), 360, .inl (s_put (s_put (s_put (s_put F t (-1) (s_val G t (-1))) t 0 (s_val G t 0)) t 1 (s_val G t 1)) t 2 (s_val G t 2)))) := by rw [eh17]; exact hp_up_s
    refine hg_iinc (v := 3) (lv' := [(4, .int 3), (3, .int 1), (0, .ref a), (1, .ref a2), (2, .int t)]) C 0 d_St_copyThing_37 rfl (by decide) (by decide) rfl ?_
    refine hg_goto C 9 d_St_copyThing_40 (by decide) ?_
    refine hg_iload C 0 d_St_copyThing_9 rfl ?_
    refine hg_iconst (v := 5) C d_St_copyThing_11 (by decide) ?_
    refine hg_icmp_ge C 43 d_St_copyThing_12 (by decide) (fun z => absurd z (by decide)) (fun _ => ?_)
    refine hg_aload_n C 2 d_St_copyThing_15 rfl rfl ?_
    refine hg_iload_n C 4 d_St_copyThing_16 rfl rfl ?_
    refine hg_iload C 0 d_St_copyThing_17 rfl ?_
    refine hg_iload_n C 1 d_St_copyThing_19 rfl rfl ?_
    refine hg_if_eq C 33 d_St_copyThing_20 (by decide) (fun z => absurd z (by decide)) (fun _ => ?_)
    refine hg_aload_n C 3 d_St_copyThing_23 rfl rfl ?_
    refine hg_iload_n C 4 d_St_copyThing_24 rfl rfl ?_
    refine hg_iload C 0 d_St_copyThing_25 rfl ?_
    refine hg_VNv C (k_St_value l Γ _ a2 b2 G k19 k20 t 3) (cw_St_15 C.2.2.2.2.1 rfl rfl ⟨Nat.le_of_ble_eq_true rfl, Nat.le_of_ble_eq_true rfl⟩) k19 rfl rfl rfl (Nat.le_of_ble_eq_true rfl) d_St_copyThing_27 ⟨Nat.le_of_ble_eq_true rfl, Nat.le_of_ble_eq_true rfl⟩ (fun _ => ?_)
    refine hg_goto C 34 d_St_copyThing_30 (by decide) ?_
    refine hg_VNz C (k_St_put l Γ _ a b (s_put (s_put (s_put (s_put F t (-1) (s_val G t (-1))) t 0 (s_val G t 0)) t 1 (s_val G t 1)) t 2 (s_val G t 2)) k18 k21 t 3 (s_val G t 3)) (cw_St_30 C.2.2.2.2.1 rfl rfl ⟨Nat.le_of_ble_eq_true rfl, Nat.le_of_ble_eq_true rfl⟩) k18 rfl rfl rfl (Nat.le_of_ble_eq_true rfl) d_St_copyThing_34 ⟨Nat.le_of_ble_eq_true rfl, Nat.le_of_ble_eq_true rfl⟩ (fun h22 eh22 => ?_)
    have k23 : h22 a = some (.inr (4, [.ref b])) := by rw [eh22]; exact hp_up_g k18 (fun z => by rw [z, k21] at k18; cases k18)
    have k24 : h22 a2 = some (.inr (4, [.ref b2])) := by rw [eh22]; exact hp_up_g k19 (fun z => by rw [z, k21] at k19; cases k19)
    have k25 : h22 b2 = some (.inl ((Γ.2.1 0), 360, .inl G)) := by rw [eh22]; exact hp_up_g k20 hbb
    have k26 : h22 b = some (.inl ((Γ.2.1 0), 360, .inl (s_put (s_put (s_put (s_put (s_put F t (-1) (s_val G t (-1))) t 0 (s_val G t 0)) t 1 (s_val G t 1)) t 2 (s_val G t 2)) t 3 (s_val G t 3)))) := by rw [eh22]; exact hp_up_s
    refine hg_iinc (v := 4) (lv' := [(4, .int 4), (3, .int 1), (0, .ref a), (1, .ref a2), (2, .int t)]) C 0 d_St_copyThing_37 rfl (by decide) (by decide) rfl ?_
    refine hg_goto C 9 d_St_copyThing_40 (by decide) ?_
    refine hg_iload C 0 d_St_copyThing_9 rfl ?_
    refine hg_iconst (v := 5) C d_St_copyThing_11 (by decide) ?_
    refine hg_icmp_ge C 43 d_St_copyThing_12 (by decide) (fun z => absurd z (by decide)) (fun _ => ?_)
    refine hg_aload_n C 2 d_St_copyThing_15 rfl rfl ?_
    refine hg_iload_n C 4 d_St_copyThing_16 rfl rfl ?_
    refine hg_iload C 0 d_St_copyThing_17 rfl ?_
    refine hg_iload_n C 1 d_St_copyThing_19 rfl rfl ?_
    refine hg_if_eq C 33 d_St_copyThing_20 (by decide) (fun z => absurd z (by decide)) (fun _ => ?_)
    refine hg_aload_n C 3 d_St_copyThing_23 rfl rfl ?_
    refine hg_iload_n C 4 d_St_copyThing_24 rfl rfl ?_
    refine hg_iload C 0 d_St_copyThing_25 rfl ?_
    refine hg_VNv C (k_St_value l Γ _ a2 b2 G k24 k25 t 4) (cw_St_15 C.2.2.2.2.1 rfl rfl ⟨Nat.le_of_ble_eq_true rfl, Nat.le_of_ble_eq_true rfl⟩) k24 rfl rfl rfl (Nat.le_of_ble_eq_true rfl) d_St_copyThing_27 ⟨Nat.le_of_ble_eq_true rfl, Nat.le_of_ble_eq_true rfl⟩ (fun _ => ?_)
    refine hg_goto C 34 d_St_copyThing_30 (by decide) ?_
    refine hg_VNz C (k_St_put l Γ _ a b (s_put (s_put (s_put (s_put (s_put F t (-1) (s_val G t (-1))) t 0 (s_val G t 0)) t 1 (s_val G t 1)) t 2 (s_val G t 2)) t 3 (s_val G t 3)) k23 k26 t 4 (s_val G t 4)) (cw_St_30 C.2.2.2.2.1 rfl rfl ⟨Nat.le_of_ble_eq_true rfl, Nat.le_of_ble_eq_true rfl⟩) k23 rfl rfl rfl (Nat.le_of_ble_eq_true rfl) d_St_copyThing_34 ⟨Nat.le_of_ble_eq_true rfl, Nat.le_of_ble_eq_true rfl⟩ (fun h27 eh27 => ?_)
    have k28 : h27 a = some (.inr (4, [.ref b])) := by rw [eh27]; exact hp_up_g k23 (fun z => by rw [z, k26] at k23; cases k23)
    have k29 : h27 a2 = some (.inr (4, [.ref b2])) := by rw [eh27]; exact hp_up_g k24 (fun z => by rw [z, k26] at k24; cases k24)
    have k30 : h27 b2 = some (.inl ((Γ.2.1 0), 360, .inl G)) := by rw [eh27]; exact hp_up_g k25 hbb
    have k31 : h27 b = some (.inl ((Γ.2.1 0), 360, .inl (s_put (s_put (s_put (s_put (s_put (s_put F t (-1) (s_val G t (-1))) t 0 (s_val G t 0)) t 1 (s_val G t 1)) t 2 (s_val G t 2)) t 3 (s_val G t 3)) t 4 (s_val G t 4)))) := by rw [eh27]; exact hp_up_s
    refine hg_iinc (v := 5) (lv' := [(4, .int 5), (3, .int 1), (0, .ref a), (1, .ref a2), (2, .int t)]) C 0 d_St_copyThing_37 rfl (by decide) (by decide) rfl ?_
    refine hg_goto C 9 d_St_copyThing_40 (by decide) ?_
    refine hg_iload C 0 d_St_copyThing_9 rfl ?_
    refine hg_iconst (v := 5) C d_St_copyThing_11 (by decide) ?_
    refine hg_icmp_ge C 43 d_St_copyThing_12 (by decide) (fun _ => ?_) (fun z => absurd (by decide) z)
    exact hg_vretN C hr d_St_copyThing_43 (Nat.le_of_ble_eq_true rfl) (Nat.le_of_ble_eq_true rfl) (⟨rfl, by rw [s_cpy, if_pos z1]; rw [eh27, eh22, eh17, eh12, eh7, eh2]; simp only [hp_up_up]; rfl⟩)
  · refine hg_istore_n (lv' := [(3, .int 0), (0, .ref a), (1, .ref a2), (2, .int t)]) C d_St_copyThing_5 rfl (by decide) rfl ?_
    refine hg_iconst (v := (-1)) C d_St_copyThing_6 (by decide) ?_
    refine hg_istore (lv' := [(4, .int (-1)), (3, .int 0), (0, .ref a), (1, .ref a2), (2, .int t)]) C d_St_copyThing_7 (by decide) rfl ?_
    refine hg_iload C 0 d_St_copyThing_9 rfl ?_
    refine hg_iconst (v := 5) C d_St_copyThing_11 (by decide) ?_
    refine hg_icmp_ge C 43 d_St_copyThing_12 (by decide) (fun z => absurd z (by decide)) (fun _ => ?_)
    refine hg_aload_n C 2 d_St_copyThing_15 rfl rfl ?_
    refine hg_iload_n C 4 d_St_copyThing_16 rfl rfl ?_
    refine hg_iload C 0 d_St_copyThing_17 rfl ?_
    refine hg_iload_n C 1 d_St_copyThing_19 rfl rfl ?_
    refine hg_if_eq C 33 d_St_copyThing_20 (by decide) (fun _ => ?_) (fun z => absurd (by decide) z)
    refine hg_iconst (v := 0) C d_St_copyThing_33 (by decide) ?_
    refine hg_VNz C (k_St_put l Γ _ a b F ha hb t (-1) 0) (cw_St_30 C.2.2.2.2.1 rfl rfl ⟨Nat.le_of_ble_eq_true rfl, Nat.le_of_ble_eq_true rfl⟩) ha rfl rfl rfl (Nat.le_of_ble_eq_true rfl) d_St_copyThing_34 ⟨Nat.le_of_ble_eq_true rfl, Nat.le_of_ble_eq_true rfl⟩ (fun h32 eh32 => ?_)
    have k33 : h32 a = some (.inr (4, [.ref b])) := by rw [eh32]; exact hp_up_g ha (fun z => by rw [z, hb] at ha; cases ha)
    have k34 : h32 a2 = some (.inr (4, [.ref b2])) := by rw [eh32]; exact hp_up_g ha2 (fun z => by rw [z, hb] at ha2; cases ha2)
    have k35 : h32 b2 = some (.inl ((Γ.2.1 0), 360, .inl G)) := by rw [eh32]; exact hp_up_g hb2 hbb
    have k36 : h32 b = some (.inl ((Γ.2.1 0), 360, .inl (s_put F t (-1) 0))) := by rw [eh32]; exact hp_up_s
    refine hg_iinc (v := 0) (lv' := [(4, .int 0), (3, .int 0), (0, .ref a), (1, .ref a2), (2, .int t)]) C 0 d_St_copyThing_37 rfl (by decide) (by decide) rfl ?_
    refine hg_goto C 9 d_St_copyThing_40 (by decide) ?_
    refine hg_iload C 0 d_St_copyThing_9 rfl ?_
    refine hg_iconst (v := 5) C d_St_copyThing_11 (by decide) ?_
    refine hg_icmp_ge C 43 d_St_copyThing_12 (by decide) (fun z => absurd z (by decide)) (fun _ => ?_)
    refine hg_aload_n C 2 d_St_copyThing_15 rfl rfl ?_
    refine hg_iload_n C 4 d_St_copyThing_16 rfl rfl ?_
    refine hg_iload C 0 d_St_copyThing_17 rfl ?_
    refine hg_iload_n C 1 d_St_copyThing_19 rfl rfl ?_
    refine hg_if_eq C 33 d_St_copyThing_20 (by decide) (fun _ => ?_) (fun z => absurd (by decide) z)
    refine hg_iconst (v := 0) C d_St_copyThing_33 (by decide) ?_
    refine hg_VNz C (k_St_put l Γ _ a b (s_put F t (-1) 0) k33 k36 t 0 0) (cw_St_30 C.2.2.2.2.1 rfl rfl ⟨Nat.le_of_ble_eq_true rfl, Nat.le_of_ble_eq_true rfl⟩) k33 rfl rfl rfl (Nat.le_of_ble_eq_true rfl) d_St_copyThing_34 ⟨Nat.le_of_ble_eq_true rfl, Nat.le_of_ble_eq_true rfl⟩ (fun h37 eh37 => ?_)
    have k38 : h37 a = some (.inr (4, [.ref b])) := by rw [eh37]; exact hp_up_g k33 (fun z => by rw [z, k36] at k33; cases k33)
    have k39 : h37 a2 = some (.inr (4, [.ref b2])) := by rw [eh37]; exact hp_up_g k34 (fun z => by rw [z, k36] at k34; cases k34)
    have k40 : h37 b2 = some (.inl ((Γ.2.1 0), 360, .inl G)) := by rw [eh37]; exact hp_up_g k35 hbb
    have k41 : h37 b = some (.inl ((Γ.2.1 0), 360, .inl (s_put (s_put F t (-1) 0) t 0 0))) := by rw [eh37]; exact hp_up_s
    refine hg_iinc (v := 1) (lv' := [(4, .int 1), (3, .int 0), (0, .ref a), (1, .ref a2), (2, .int t)]) C 0 d_St_copyThing_37 rfl (by decide) (by decide) rfl ?_
    refine hg_goto C 9 d_St_copyThing_40 (by decide) ?_
    refine hg_iload C 0 d_St_copyThing_9 rfl ?_
    refine hg_iconst (v := 5) C d_St_copyThing_11 (by decide) ?_
    refine hg_icmp_ge C 43 d_St_copyThing_12 (by decide) (fun z => absurd z (by decide)) (fun _ => ?_)
    refine hg_aload_n C 2 d_St_copyThing_15 rfl rfl ?_
    refine hg_iload_n C 4 d_St_copyThing_16 rfl rfl ?_
    refine hg_iload C 0 d_St_copyThing_17 rfl ?_
    refine hg_iload_n C 1 d_St_copyThing_19 rfl rfl ?_
    refine hg_if_eq C 33 d_St_copyThing_20 (by decide) (fun _ => ?_) (fun z => absurd (by decide) z)
    refine hg_iconst (v := 0) C d_St_copyThing_33 (by decide) ?_
    refine hg_VNz C (k_St_put l Γ _ a b (s_put (s_put F t (-1) 0) t 0 0) k38 k41 t 1 0) (cw_St_30 C.2.2.2.2.1 rfl rfl ⟨Nat.le_of_ble_eq_true rfl, Nat.le_of_ble_eq_true rfl⟩) k38 rfl rfl rfl (Nat.le_of_ble_eq_true rfl) d_St_copyThing_34 ⟨Nat.le_of_ble_eq_true rfl, Nat.le_of_ble_eq_true rfl⟩ (fun h42 eh42 => ?_)
    have k43 : h42 a = some (.inr (4, [.ref b])) := by rw [eh42]; exact hp_up_g k38 (fun z => by rw [z, k41] at k38; cases k38)
    have k44 : h42 a2 = some (.inr (4, [.ref b2])) := by rw [eh42]; exact hp_up_g k39 (fun z => by rw [z, k41] at k39; cases k39)
    have k45 : h42 b2 = some (.inl ((Γ.2.1 0), 360, .inl G)) := by rw [eh42]; exact hp_up_g k40 hbb
    have k46 : h42 b = some (.inl ((Γ.2.1 0), 360, .inl (s_put (s_put (s_put F t (-1) 0) t 0 0) t 1 0))) := by rw [eh42]; exact hp_up_s
    refine hg_iinc (v := 2) (lv' := [(4, .int 2), (3, .int 0), (0, .ref a), (1, .ref a2), (2, .int t)]) C 0 d_St_copyThing_37 rfl (by decide) (by decide) rfl ?_
    refine hg_goto C 9 d_St_copyThing_40 (by decide) ?_
    refine hg_iload C 0 d_St_copyThing_9 rfl ?_
    refine hg_iconst (v := 5) C d_St_copyThing_11 (by decide) ?_
    refine hg_icmp_ge C 43 d_St_copyThing_12 (by decide) (fun z => absurd z (by decide)) (fun _ => ?_)
    refine hg_aload_n C 2 d_St_copyThing_15 rfl rfl ?_
    refine hg_iload_n C 4 d_St_copyThing_16 rfl rfl ?_
    refine hg_iload C 0 d_St_copyThing_17 rfl ?_
    refine hg_iload_n C 1 d_St_copyThing_19 rfl rfl ?_
    refine hg_if_eq C 33 d_St_copyThing_20 (by decide) (fun _ => ?_) (fun z => absurd (by decide) z)
    refine hg_iconst (v := 0) C d_St_copyThing_33 (by decide) ?_
    refine hg_VNz C (k_St_put l Γ _ a b (s_put (s_put (s_put F t (-1) 0) t 0 0) t 1 0) k43 k46 t 2 0) (cw_St_30 C.2.2.2.2.1 rfl rfl ⟨Nat.le_of_ble_eq_true rfl, Nat.le_of_ble_eq_true rfl⟩) k43 rfl rfl rfl (Nat.le_of_ble_eq_true rfl) d_St_copyThing_34 ⟨Nat.le_of_ble_eq_true rfl, Nat.le_of_ble_eq_true rfl⟩ (fun h47 eh47 => ?_)
    have k48 : h47 a = some (.inr (4, [.ref b])) := by rw [eh47]; exact hp_up_g k43 (fun z => by rw [z, k46] at k43; cases k43)
    have k49 : h47 a2 = some (.inr (4, [.ref b2])) := by rw [eh47]; exact hp_up_g k44 (fun z => by rw [z, k46] at k44; cases k44)
    have k50 : h47 b2 = some (.inl ((Γ.2.1 0), 360, .inl G)) := by rw [eh47]; exact hp_up_g k45 hbb
    have k51 : h47 b = some (.inl ((Γ.2.1 0), 360, .inl (s_put (s_put (s_put (s_put F t (-1) 0) t 0 0) t 1 0) t 2 0))) := by rw [eh47]; exact hp_up_s
    refine hg_iinc (v := 3) (lv' := [(4, .int 3), (3, .int 0), (0, .ref a), (1, .ref a2), (2, .int t)]) C 0 d_St_copyThing_37 rfl (by decide) (by decide) rfl ?_
    refine hg_goto C 9 d_St_copyThing_40 (by decide) ?_
    refine hg_iload C 0 d_St_copyThing_9 rfl ?_
    refine hg_iconst (v := 5) C d_St_copyThing_11 (by decide) ?_
    refine hg_icmp_ge C 43 d_St_copyThing_12 (by decide) (fun z => absurd z (by decide)) (fun _ => ?_)
    refine hg_aload_n C 2 d_St_copyThing_15 rfl rfl ?_
    refine hg_iload_n C 4 d_St_copyThing_16 rfl rfl ?_
    refine hg_iload C 0 d_St_copyThing_17 rfl ?_
    refine hg_iload_n C 1 d_St_copyThing_19 rfl rfl ?_
    refine hg_if_eq C 33 d_St_copyThing_20 (by decide) (fun _ => ?_) (fun z => absurd (by decide) z)
    refine hg_iconst (v := 0) C d_St_copyThing_33 (by decide) ?_
    refine hg_VNz C (k_St_put l Γ _ a b (s_put (s_put (s_put (s_put F t (-1) 0) t 0 0) t 1 0) t 2 0) k48 k51 t 3 0) (cw_St_30 C.2.2.2.2.1 rfl rfl ⟨Nat.le_of_ble_eq_true rfl, Nat.le_of_ble_eq_true rfl⟩) k48 rfl rfl rfl (Nat.le_of_ble_eq_true rfl) d_St_copyThing_34 ⟨Nat.le_of_ble_eq_true rfl, Nat.le_of_ble_eq_true rfl⟩ (fun h52 eh52 => ?_)
    have k53 : h52 a = some (.inr (4, [.ref b])) := by rw [eh52]; exact hp_up_g k48 (fun z => by rw [z, k51] at k48; cases k48)
    have k54 : h52 a2 = some (.inr (4, [.ref b2])) := by rw [eh52]; exact hp_up_g k49 (fun z => by rw [z, k51] at k49; cases k49)
    have k55 : h52 b2 = some (.inl ((Γ.2.1 0), 360, .inl G)) := by rw [eh52]; exact hp_up_g k50 hbb
    have k56 : h52 b = some (.inl ((Γ.2.1 0), 360, .inl (s_put (s_put (s_put (s_put (s_put F t (-1) 0) t 0 0) t 1 0) t 2 0) t 3 0))) := by rw [eh52]; exact hp_up_s
    refine hg_iinc (v := 4) (lv' := [(4, .int 4), (3, .int 0), (0, .ref a), (1, .ref a2), (2, .int t)]) C 0 d_St_copyThing_37 rfl (by decide) (by decide) rfl ?_
    refine hg_goto C 9 d_St_copyThing_40 (by decide) ?_
    refine hg_iload C 0 d_St_copyThing_9 rfl ?_
    refine hg_iconst (v := 5) C d_St_copyThing_11 (by decide) ?_
    refine hg_icmp_ge C 43 d_St_copyThing_12 (by decide) (fun z => absurd z (by decide)) (fun _ => ?_)
    refine hg_aload_n C 2 d_St_copyThing_15 rfl rfl ?_
    refine hg_iload_n C 4 d_St_copyThing_16 rfl rfl ?_
    refine hg_iload C 0 d_St_copyThing_17 rfl ?_
    refine hg_iload_n C 1 d_St_copyThing_19 rfl rfl ?_
    refine hg_if_eq C 33 d_St_copyThing_20 (by decide) (fun _ => ?_) (fun z => absurd (by decide) z)
    refine hg_iconst (v := 0) C d_St_copyThing_33 (by decide) ?_
    refine hg_VNz C (k_St_put l Γ _ a b (s_put (s_put (s_put (s_put (s_put F t (-1) 0) t 0 0) t 1 0) t 2 0) t 3 0) k53 k56 t 4 0) (cw_St_30 C.2.2.2.2.1 rfl rfl ⟨Nat.le_of_ble_eq_true rfl, Nat.le_of_ble_eq_true rfl⟩) k53 rfl rfl rfl (Nat.le_of_ble_eq_true rfl) d_St_copyThing_34 ⟨Nat.le_of_ble_eq_true rfl, Nat.le_of_ble_eq_true rfl⟩ (fun h57 eh57 => ?_)
    have k58 : h57 a = some (.inr (4, [.ref b])) := by rw [eh57]; exact hp_up_g k53 (fun z => by rw [z, k56] at k53; cases k53)
    have k59 : h57 a2 = some (.inr (4, [.ref b2])) := by rw [eh57]; exact hp_up_g k54 (fun z => by rw [z, k56] at k54; cases k54)
    have k60 : h57 b2 = some (.inl ((Γ.2.1 0), 360, .inl G)) := by rw [eh57]; exact hp_up_g k55 hbb
    have k61 : h57 b = some (.inl ((Γ.2.1 0), 360, .inl (s_put (s_put (s_put (s_put (s_put (s_put F t (-1) 0) t 0 0) t 1 0) t 2 0) t 3 0) t 4 0))) := by rw [eh57]; exact hp_up_s
    refine hg_iinc (v := 5) (lv' := [(4, .int 5), (3, .int 0), (0, .ref a), (1, .ref a2), (2, .int t)]) C 0 d_St_copyThing_37 rfl (by decide) (by decide) rfl ?_
    refine hg_goto C 9 d_St_copyThing_40 (by decide) ?_
    refine hg_iload C 0 d_St_copyThing_9 rfl ?_
    refine hg_iconst (v := 5) C d_St_copyThing_11 (by decide) ?_
    refine hg_icmp_ge C 43 d_St_copyThing_12 (by decide) (fun _ => ?_) (fun z => absurd (by decide) z)
    exact hg_vretN C hr d_St_copyThing_43 (Nat.le_of_ble_eq_true rfl) (Nat.le_of_ble_eq_true rfl) (⟨rfl, by rw [s_cpy, if_neg z1]; rw [eh57, eh52, eh47, eh42, eh37, eh32]; simp only [hp_up_up]; rfl⟩)
abbrev rm_St_copyAll : Room := { frames := 1, cells := 0, slots := 0, locals := 100 }
set_option maxHeartbeats 4000000 in
set_option maxRecDepth 100000 in
theorem k_St_copyAll (l : Launch) (Γ : Gam) (h : Pic) (a b a2 b2 : Nat) (F G : Nat → Int32) (ha : h a = some (.inr (4, [.ref b]))) (hb : h b = some (.inl (Γ.2.1 0, 360, .inl F))) (ha2 : h a2 = some (.inr (4, [.ref b2]))) (hb2 : h b2 = some (.inl (Γ.2.1 0, 360, .inl G))) (hbb : b2 ≠ b) : kN l Γ y_St_copyAll w_St_copyAll rm_St_copyAll [.ref a, .ref a2] h (fun r u => r = none ∧ u = hp_up h b (.inl (Γ.2.1 0, 360, .inl (va_cpy G F 0 0 360)))) 0 0 := by
  refine hg_entryN (own := "ModelMerge$State") (cc := b_St_copyAll) (maxL := 2) (ret := none) (lv0 := [(0, .ref a), (1, .ref a2)]) (by decide) rfl rfl (Nat.le_of_ble_eq_true rfl) rfl ?_
  intro p e s m args below meth c A C hnm hr
  refine hg_aload_n C 1 d_St_copyAll_0 rfl rfl ?_
  refine f_St_9 C ha2 rfl d_St_copyAll_1 ?_
  refine hg_iconst (v := 0) C d_St_copyAll_4 (by decide) ?_
  refine hg_aload_n C 0 d_St_copyAll_5 rfl rfl ?_
  refine f_St_9 C ha rfl d_St_copyAll_6 ?_
  refine hg_iconst (v := 0) C d_St_copyAll_9 (by decide) ?_
  refine hg_sipush (v := 360) C d_St_copyAll_10 (by decide) ?_
  refine hg_copyi C 0 (kc kw266) (kc kw268) (kc kw267) (kc kw13) hb2 hb rfl (by decide) (by decide) (by decide) (by decide) (by decide) (Nat.le_of_ble_eq_true rfl) (Nat.le_of_ble_eq_true rfl) d_St_copyAll_13 ?_
  obtain ⟨h1, eh1⟩ : ∃ z, z = hp_up h b (.inl ((Γ.2.1 0), 360, .inl (va_cpy G F (0 : Int32).toNatClampNeg (0 : Int32).toNatClampNeg (360 : Int32).toNatClampNeg))) := ⟨_, rfl⟩
  rw [← eh1]
  have k2 : h1 a = some (.inr (4, [.ref b])) := by rw [eh1]; exact hp_up_g ha (fun z => by rw [z, hb] at ha; cases ha)
  have k3 : h1 a2 = some (.inr (4, [.ref b2])) := by rw [eh1]; exact hp_up_g ha2 (fun z => by rw [z, hb] at ha2; cases ha2)
  have k4 : h1 b2 = some (.inl ((Γ.2.1 0), 360, .inl G)) := by rw [eh1]; exact hp_up_g hb2 hbb
  have k5 : h1 b = some (.inl ((Γ.2.1 0), 360, .inl (va_cpy G F (0 : Int32).toNatClampNeg (0 : Int32).toNatClampNeg (360 : Int32).toNatClampNeg))) := by rw [eh1]; exact hp_up_s
  exact hg_vretN C hr d_St_copyAll_16 (Nat.le_of_ble_eq_true rfl) (Nat.le_of_ble_eq_true rfl) (⟨rfl, eh1⟩)
abbrev rm_St_init : Room := { frames := 1, cells := 1, slots := 360, locals := 20 }
set_option maxHeartbeats 4000000 in
set_option maxRecDepth 100000 in
theorem k_St_init (l : Launch) (Γ : Gam) (h : Pic) (a : Nat) (ha : h a = some (.inr (4, [.null]))) : kN l Γ y_St_init w_St_init rm_St_init [.ref a] h (fun r u => r = none ∧ ∃ b, h b = none ∧ u = hp_up (hp_up h b (.inl (Γ.2.1 0, 360, .inl (fun _ => 0)))) a (.inr (4, [.ref b]))) 1 360 := by
  refine hg_entryN (own := "ModelMerge$State") (cc := b_St_init) (maxL := 1) (ret := none) (lv0 := [(0, .ref a)]) (by decide) rfl rfl (Nat.le_of_ble_eq_true rfl) rfl ?_
  intro p e s m args below meth c A C hnm hr
  refine hg_aload_n C 0 d_St_init_0 rfl rfl ?_
  refine o_St_3 C (Nat.le_of_ble_eq_true rfl) (Nat.le_of_ble_eq_true rfl) d_St_init_1 ?_
  refine hg_aload_n C 0 d_St_init_4 rfl rfl ?_
  refine hg_sipush (v := 360) C d_St_init_5 (by decide) ?_
  refine hg_newa (atype := .int) (ty := .int) (a0 := (360, .inl (fun _ => 0))) C 0 (kc kw49) rfl (fun _ z => FieldType.noConfusion z) rfl (fun _ => rfl) (by decide) rfl (by decide) (Nat.le_of_ble_eq_true rfl) (Nat.le_of_ble_eq_true rfl) d_St_init_8 (fun q1 hq_q1 => ?_)
  obtain ⟨h2, eh2⟩ : ∃ z, z = hp_up h q1 (.inl ((Γ.2.1 0), 360, .inl (fun _ => 0))) := ⟨_, rfl⟩
  rw [← eh2]
  have k3 : h2 a = some (.inr (4, [.null])) := by rw [eh2]; exact hp_up_g ha (fun z => by rw [z, hq_q1] at ha; cases ha)
  have k4 : h2 q1 = some (.inl ((Γ.2.1 0), 360, .inl (fun _ => 0))) := by rw [eh2]; exact hp_up_s
  refine p_St_9 (fs' := [.ref q1]) C hnm k3 rfl rfl (Nat.le_of_ble_eq_true rfl) rfl d_St_init_10 ?_
  obtain ⟨h5, eh5⟩ : ∃ z, z = hp_up h2 a (.inr (4, [.ref q1])) := ⟨_, rfl⟩
  rw [← eh5]
  have k6 : h5 q1 = some (.inl ((Γ.2.1 0), 360, .inl (fun _ => 0))) := by rw [eh5]; exact hp_up_g k4 (fun z => by rw [z, k3] at k4; cases k4)
  have k7 : h5 a = some (.inr (4, [.ref q1])) := by rw [eh5]; exact hp_up_s
  exact hg_vretN C hr d_St_init_13 (Nat.le_of_ble_eq_true rfl) (Nat.le_of_ble_eq_true rfl) (⟨rfl, q1, hq_q1, by rw [eh5, eh2]⟩)
