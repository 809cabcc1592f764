/-! Conflicts, Moment, Rule: their methods -/
def c_kn (z k : Int32) : Prop := ¬ k < 0 ∧ ¬ z ≤ k ∧ ¬ (300 : Int32) ≤ k
noncomputable def c_get (T : Nat → Int32) (z k : Int32) : Int32 := @ite _ (c_kn z k) (Classical.propDecidable _) (T k.toNatClampNeg) (-1)
theorem c_kn_in {z k : Int32} (h : c_kn z k) : vp_in k 300 := by
  obtain ⟨h1, -, h3⟩ := h
  obtain ⟨j, hj, rfl⟩ := nI_of h1
  refine vp_in_nI ?_ (by omega)
  exact Nat.not_le.mp (fun z => h3 ((nI_leI (a := 300) (by omega) hj).mpr z))
theorem c_kn_nat {j n : Nat} (h : j < n) (hn : n ≤ 300) : c_kn (nI n) (nI j) := ⟨nI_pos (by omega), nI_ge h (by omega), nI_ge (b := 300) (by omega) (by omega)⟩
theorem c_get_nat {T : Nat → Int32} {j n : Nat} (h : j < n) (hn : n ≤ 300) : c_get T (nI n) (nI j) = T j := by
  rw [c_get, if_pos (c_kn_nat h hn), nI_clamp (by omega)]
/-- how many of the first k are -1 -/
def c_un (S : Nat → Int32) : Nat → Nat
  | 0 => 0
  | k + 1 => if S k = -1 then c_un S k + 1 else c_un S k
theorem c_un_le (S : Nat → Int32) : ∀ k, c_un S k ≤ k
  | 0 => Nat.le_refl 0
  | k + 1 => by
    have := c_un_le S k
    unfold c_un
    split <;> omega
abbrev rm_Cf_isKnown : Room := { frames := 0, cells := 0, slots := 0, locals := 0 }
set_option maxHeartbeats 4000000 in
set_option maxRecDepth 100000 in
theorem k_Cf_isKnown (l : Launch) (Γ : Gam) (h : Pic) (a ct cf cs : Nat) (z : Int32) (ha : h a = some (.inr (0, [.ref ct, .ref cf, .ref cs, .int z]))) (k : Int32) : kN l Γ y_Cf_isKnown w_Cf_isKnown rm_Cf_isKnown [.ref a, .int k] h (pb h (c_kn z k)) 0 0 := by
  refine hg_entryN (own := "ModelMerge$Conflicts") (cc := b_Cf_isKnown) (maxL := 2) (ret := (some .boolean)) (lv0 := [(0, .ref a), (1, .int k)]) (by decide) rfl rfl (Nat.le_of_ble_eq_true rfl) rfl ?_
  intro p e s m args below meth c A C hnm hr
  refine hg_iload_n C 1 d_Cf_isKnown_0 rfl rfl ?_
  refine hg_if_lt C 23 d_Cf_isKnown_1 (by decide) (fun c1 => ?_) (fun c1 => ?_)
  · refine hg_iconst (v := 0) C d_Cf_isKnown_23 (by decide) ?_
    exact hg_iretN C hr rfl d_Cf_isKnown_24 (Nat.le_of_ble_eq_true rfl) (Nat.le_of_ble_eq_true rfl) (Or.inr ⟨rfl, rfl, fun z => z.1 c1⟩)
  · refine hg_iload_n C 1 d_Cf_isKnown_4 rfl rfl ?_
    refine hg_aload_n C 0 d_Cf_isKnown_5 rfl rfl ?_
    refine f_Cf_21 C ha rfl d_Cf_isKnown_6 ?_
    refine hg_icmp_ge C 23 d_Cf_isKnown_9 (by decide) (fun c9 => ?_) (fun c9 => ?_)
    · refine hg_iconst (v := 0) C d_Cf_isKnown_23 (by decide) ?_
      exact hg_iretN C hr rfl d_Cf_isKnown_24 (Nat.le_of_ble_eq_true rfl) (Nat.le_of_ble_eq_true rfl) (Or.inr ⟨rfl, rfl, fun z => z.2.1 c9⟩)
    · refine hg_iload_n C 1 d_Cf_isKnown_12 rfl rfl ?_
      refine hg_sipush (v := 300) C d_Cf_isKnown_13 (by decide) ?_
      refine hg_icmp_ge C 23 d_Cf_isKnown_16 (by decide) (fun c16 => ?_) (fun c16 => ?_)
      · refine hg_iconst (v := 0) C d_Cf_isKnown_23 (by decide) ?_
        exact hg_iretN C hr rfl d_Cf_isKnown_24 (Nat.le_of_ble_eq_true rfl) (Nat.le_of_ble_eq_true rfl) (Or.inr ⟨rfl, rfl, fun z => z.2.2 c16⟩)
      · refine hg_iconst (v := 1) C d_Cf_isKnown_19 (by decide) ?_
        refine hg_goto C 24 d_Cf_isKnown_20 (by decide) ?_
        exact hg_iretN C hr rfl d_Cf_isKnown_24 (Nat.le_of_ble_eq_true rfl) (Nat.le_of_ble_eq_true rfl) (Or.inl ⟨rfl, rfl, ⟨c1, c9, c16⟩⟩)
abbrev rm_Cf_thingOf : Room := { frames := 1, cells := 0, slots := 0, locals := 21 }
set_option maxHeartbeats 4000000 in
set_option maxRecDepth 100000 in
theorem k_Cf_thingOf (l : Launch) (Γ : Gam) (h : Pic) (a ct cf cs : Nat) (T : Nat → Int32) (z : Int32) (ha : h a = some (.inr (0, [.ref ct, .ref cf, .ref cs, .int z]))) (ht : h ct = some (.inl (Γ.2.1 0, 300, .inl T))) (k : Int32) : kN l Γ y_Cf_thingOf w_Cf_thingOf rm_Cf_thingOf [.ref a, .int k] h (pv (.int (c_get T z k)) h True) 0 0 := by
  refine hg_entryN (own := "ModelMerge$Conflicts") (cc := b_Cf_thingOf) (maxL := 2) (ret := (some .int)) (lv0 := [(0, .ref a), (1, .int k)]) (by decide) rfl rfl (Nat.le_of_ble_eq_true rfl) rfl ?_
  intro p e s m args below meth c A C hnm hr
  refine hg_aload_n C 0 d_Cf_thingOf_0 rfl rfl ?_
  refine hg_iload_n C 1 d_Cf_thingOf_1 rfl rfl ?_
  refine hg_VNb (q := ("ModelMerge$Conflicts", T_Cf, 4)) C (k_Cf_isKnown l Γ _ a ct cf cs z ha k) (cw_Cf_25 C.2.2.2.2.1 rfl rfl ⟨Nat.le_of_ble_eq_true rfl, Nat.le_of_ble_eq_true rfl⟩) ha rfl rfl rfl (Nat.le_of_ble_eq_true rfl) d_Cf_thingOf_2 ⟨Nat.le_of_ble_eq_true rfl, Nat.le_of_ble_eq_true rfl⟩ (fun z1 => ?_) (fun z1 => ?_)
  · refine hg_if_eq C 17 d_Cf_thingOf_5 (by decide) (fun z => absurd z (by decide)) (fun _ => ?_)
    refine hg_aload_n C 0 d_Cf_thingOf_8 rfl rfl ?_
    refine f_Cf_11 C ha rfl d_Cf_thingOf_9 ?_
    refine hg_iload_n C 1 d_Cf_thingOf_12 rfl rfl ?_
    refine hg_iald C 0 ht rfl (c_kn_in z1) d_Cf_thingOf_13 ?_
    refine hg_goto C 18 d_Cf_thingOf_14 (by decide) ?_
    exact hg_iretN C hr rfl d_Cf_thingOf_18 (Nat.le_of_ble_eq_true rfl) (Nat.le_of_ble_eq_true rfl) (⟨by rw [c_get, if_pos z1], rfl, trivial⟩)
  · refine hg_if_eq C 17 d_Cf_thingOf_5 (by decide) (fun _ => ?_) (fun z => absurd (by decide) z)
    refine hg_iconst (v := (-1)) C d_Cf_thingOf_17 (by decide) ?_
    exact hg_iretN C hr rfl d_Cf_thingOf_18 (Nat.le_of_ble_eq_true rfl) (Nat.le_of_ble_eq_true rfl) (⟨by rw [c_get, if_neg z1], rfl, trivial⟩)
abbrev rm_Cf_fieldOf : Room := { frames := 1, cells := 0, slots := 0, locals := 21 }
set_option maxHeartbeats 4000000 in
set_option maxRecDepth 100000 in
theorem k_Cf_fieldOf (l : Launch) (Γ : Gam) (h : Pic) (a ct cf cs : Nat) (F : Nat → Int32) (z : Int32) (ha : h a = some (.inr (0, [.ref ct, .ref cf, .ref cs, .int z]))) (hf : h cf = some (.inl (Γ.2.1 0, 300, .inl F))) (k : Int32) : kN l Γ y_Cf_fieldOf w_Cf_fieldOf rm_Cf_fieldOf [.ref a, .int k] h (pv (.int (c_get F z k)) h True) 0 0 := by
  refine hg_entryN (own := "ModelMerge$Conflicts") (cc := b_Cf_fieldOf) (maxL := 2) (ret := (some .int)) (lv0 := [(0, .ref a), (1, .int k)]) (by decide) rfl rfl (Nat.le_of_ble_eq_true rfl) rfl ?_
  intro p e s m args below meth c A C hnm hr
  refine hg_aload_n C 0 d_Cf_fieldOf_0 rfl rfl ?_
  refine hg_iload_n C 1 d_Cf_fieldOf_1 rfl rfl ?_
  refine hg_VNb (q := ("ModelMerge$Conflicts", T_Cf, 4)) C (k_Cf_isKnown l Γ _ a ct cf cs z ha k) (cw_Cf_25 C.2.2.2.2.1 rfl rfl ⟨Nat.le_of_ble_eq_true rfl, Nat.le_of_ble_eq_true rfl⟩) ha rfl rfl rfl (Nat.le_of_ble_eq_true rfl) d_Cf_fieldOf_2 ⟨Nat.le_of_ble_eq_true rfl, Nat.le_of_ble_eq_true rfl⟩ (fun z1 => ?_) (fun z1 => ?_)
  · refine hg_if_eq C 17 d_Cf_fieldOf_5 (by decide) (fun z => absurd z (by decide)) (fun _ => ?_)
    refine hg_aload_n C 0 d_Cf_fieldOf_8 rfl rfl ?_
    refine f_Cf_15 C ha rfl d_Cf_fieldOf_9 ?_
    refine hg_iload_n C 1 d_Cf_fieldOf_12 rfl rfl ?_
    refine hg_iald C 0 hf rfl (c_kn_in z1) d_Cf_fieldOf_13 ?_
    refine hg_goto C 18 d_Cf_fieldOf_14 (by decide) ?_
    exact hg_iretN C hr rfl d_Cf_fieldOf_18 (Nat.le_of_ble_eq_true rfl) (Nat.le_of_ble_eq_true rfl) (⟨by rw [c_get, if_pos z1], rfl, trivial⟩)
  · refine hg_if_eq C 17 d_Cf_fieldOf_5 (by decide) (fun _ => ?_) (fun z => absurd (by decide) z)
    refine hg_iconst (v := (-1)) C d_Cf_fieldOf_17 (by decide) ?_
    exact hg_iretN C hr rfl d_Cf_fieldOf_18 (Nat.le_of_ble_eq_true rfl) (Nat.le_of_ble_eq_true rfl) (⟨by rw [c_get, if_neg z1], rfl, trivial⟩)
abbrev rm_Cf_sideOf : Room := { frames := 1, cells := 0, slots := 0, locals := 21 }
set_option maxHeartbeats 4000000 in
set_option maxRecDepth 100000 in
theorem k_Cf_sideOf (l : Launch) (Γ : Gam) (h : Pic) (a ct cf cs : Nat) (S : Nat → Int32) (z : Int32) (ha : h a = some (.inr (0, [.ref ct, .ref cf, .ref cs, .int z]))) (hs : h cs = some (.inl (Γ.2.1 0, 300, .inl S))) (k : Int32) : kN l Γ y_Cf_sideOf w_Cf_sideOf rm_Cf_sideOf [.ref a, .int k] h (pv (.int (c_get S z k)) h True) 0 0 := by
  refine hg_entryN (own := "ModelMerge$Conflicts") (cc := b_Cf_sideOf) (maxL := 2) (ret := (some .int)) (lv0 := [(0, .ref a), (1, .int k)]) (by decide) rfl rfl (Nat.le_of_ble_eq_true rfl) rfl ?_
  intro p e s m args below meth c A C hnm hr
  refine hg_aload_n C 0 d_Cf_sideOf_0 rfl rfl ?_
  refine hg_iload_n C 1 d_Cf_sideOf_1 rfl rfl ?_
  refine hg_VNb (q := ("ModelMerge$Conflicts", T_Cf, 4)) C (k_Cf_isKnown l Γ _ a ct cf cs z ha k) (cw_Cf_25 C.2.2.2.2.1 rfl rfl ⟨Nat.le_of_ble_eq_true rfl, Nat.le_of_ble_eq_true rfl⟩) ha rfl rfl rfl (Nat.le_of_ble_eq_true rfl) d_Cf_sideOf_2 ⟨Nat.le_of_ble_eq_true rfl, Nat.le_of_ble_eq_true rfl⟩ (fun z1 => ?_) (fun z1 => ?_)
  · refine hg_if_eq C 17 d_Cf_sideOf_5 (by decide) (fun z => absurd z (by decide)) (fun _ => ?_)
    refine hg_aload_n C 0 d_Cf_sideOf_8 rfl rfl ?_
    refine f_Cf_18 C ha rfl d_Cf_sideOf_9 ?_
    refine hg_iload_n C 1 d_Cf_sideOf_12 rfl rfl ?_
    refine hg_iald C 0 hs rfl (c_kn_in z1) d_Cf_sideOf_13 ?_
    refine hg_goto C 18 d_Cf_sideOf_14 (by decide) ?_
    exact hg_iretN C hr rfl d_Cf_sideOf_18 (Nat.le_of_ble_eq_true rfl) (Nat.le_of_ble_eq_true rfl) (⟨by rw [c_get, if_pos z1], rfl, trivial⟩)
  · refine hg_if_eq C 17 d_Cf_sideOf_5 (by decide) (fun _ => ?_) (fun z => absurd (by decide) z)
    refine hg_iconst (v := (-1)) C d_Cf_sideOf_17 (by decide) ?_
    exact hg_iretN C hr rfl d_Cf_sideOf_18 (Nat.le_of_ble_eq_true rfl) (Nat.le_of_ble_eq_true rfl) (⟨by rw [c_get, if_neg z1], rfl, trivial⟩)
abbrev rm_Cf_clear : Room := { frames := 0, cells := 0, slots := 0, locals := 0 }
set_option maxHeartbeats 4000000 in
set_option maxRecDepth 100000 in
theorem k_Cf_clear (l : Launch) (Γ : Gam) (h : Pic) (a ct cf cs : Nat) (z : Int32) (ha : h a = some (.inr (0, [.ref ct, .ref cf, .ref cs, .int z]))) : kN l Γ y_Cf_clear w_Cf_clear rm_Cf_clear [.ref a] h (fun r u => r = none ∧ u = hp_up h a (.inr (0, [.ref ct, .ref cf, .ref cs, .int 0]))) 0 0 := by
  refine hg_entryN (own := "ModelMerge$Conflicts") (cc := b_Cf_clear) (maxL := 1) (ret := none) (lv0 := [(0, .ref a)]) (by decide) rfl rfl (Nat.le_of_ble_eq_true rfl) rfl ?_
  intro p e s m args below meth c A C hnm hr
  refine hg_aload_n C 0 d_Cf_clear_0 rfl rfl ?_
  refine hg_iconst (v := 0) C d_Cf_clear_1 (by decide) ?_
  refine p_Cf_21 (fs' := [.ref ct, .ref cf, .ref cs, .int 0]) C ha rfl rfl (Nat.le_of_ble_eq_true rfl) rfl d_Cf_clear_2 ?_
  obtain ⟨h1, eh1⟩ : ∃ z, z = hp_up h a (.inr (0, [.ref ct, .ref cf, .ref cs, .int 0])) := ⟨_, rfl⟩
  refine hg_eq eh1.symm ?_
  have k2 : h1 a = some (.inr (0, [.ref ct, .ref cf, .ref cs, .int 0])) := by rw [eh1]; exact hp_up_s
  exact hg_vretN C hr d_Cf_clear_5 (Nat.le_of_ble_eq_true rfl) (Nat.le_of_ble_eq_true rfl) (⟨rfl, eh1⟩)
abbrev rm_Cf_add : Room := { frames := 0, cells := 0, slots := 0, locals := 0 }
set_option maxHeartbeats 4000000 in
set_option maxRecDepth 100000 in
theorem k_Cf_add (l : Launch) (Γ : Gam) (h : Pic) (a ct cf cs : Nat) (T F S : Nat → Int32) (n : Nat) (hn : n < 300) (n1 : ct ≠ cf) (n2 : ct ≠ cs) (n3 : cf ≠ cs) (ha : h a = some (.inr (0, [.ref ct, .ref cf, .ref cs, .int (nI n)]))) (ht : h ct = some (.inl (Γ.2.1 0, 300, .inl T))) (hf : h cf = some (.inl (Γ.2.1 0, 300, .inl F))) (hs : h cs = some (.inl (Γ.2.1 0, 300, .inl S))) (t f : Int32) : kN l Γ y_Cf_add w_Cf_add rm_Cf_add [.ref a, .int t, .int f] h (fun r u => r = none ∧ u = hp_up (hp_up (hp_up (hp_up h ct (.inl (Γ.2.1 0, 300, .inl (upd T n t)))) cf (.inl (Γ.2.1 0, 300, .inl (upd F n f)))) cs (.inl (Γ.2.1 0, 300, .inl (upd S n (-1))))) a (.inr (0, [.ref ct, .ref cf, .ref cs, .int (nI (n + 1))]))) 0 0 := by
  refine hg_entryN (own := "ModelMerge$Conflicts") (cc := b_Cf_add) (maxL := 3) (ret := none) (lv0 := [(0, .ref a), (1, .int t), (2, .int f)]) (by decide) rfl rfl (Nat.le_of_ble_eq_true rfl) rfl ?_
  intro p e s m args below meth c A C hnm hr
  refine hg_aload_n C 0 d_Cf_add_0 rfl rfl ?_
  refine f_Cf_21 C ha rfl d_Cf_add_1 ?_
  refine hg_sipush (v := 300) C d_Cf_add_4 (by decide) ?_
  refine hg_icmp_ge C 50 d_Cf_add_7 (by decide) (fun z => absurd z (nI_ge (b := 300) hn (by omega))) (fun _ => ?_)
  refine hg_aload_n C 0 d_Cf_add_10 rfl rfl ?_
  refine f_Cf_11 C ha rfl d_Cf_add_11 ?_
  refine hg_aload_n C 0 d_Cf_add_14 rfl rfl ?_
  refine f_Cf_21 C ha rfl d_Cf_add_15 ?_
  refine hg_iload_n C 1 d_Cf_add_18 rfl rfl ?_
  refine hg_iast C 0 ht rfl (vp_in_nI hn (by omega)) d_Cf_add_19 ?_
  obtain ⟨h1, eh1⟩ : ∃ z, z = hp_up h ct (.inl ((Γ.2.1 0), 300, .inl (upd T ((nI n).toNatClampNeg) t))) := ⟨_, rfl⟩
  refine hg_eq eh1.symm ?_
  have k2 : h1 a = some (.inr (0, [.ref ct, .ref cf, .ref cs, .int (nI n)])) := by rw [eh1]; exact hp_up_g ha (fun z => by rw [z, ht] at ha; cases ha)
  have k3 : h1 cf = some (.inl ((Γ.2.1 0), 300, .inl F)) := by rw [eh1]; exact hp_up_g hf n1.symm
  have k4 : h1 cs = some (.inl ((Γ.2.1 0), 300, .inl S)) := by rw [eh1]; exact hp_up_g hs n2.symm
  have k5 : h1 ct = some (.inl ((Γ.2.1 0), 300, .inl (upd T ((nI n).toNatClampNeg) t))) := by rw [eh1]; exact hp_up_s
  refine hg_aload_n C 0 d_Cf_add_20 rfl rfl ?_
  refine f_Cf_15 C k2 rfl d_Cf_add_21 ?_
  refine hg_aload_n C 0 d_Cf_add_24 rfl rfl ?_
  refine f_Cf_21 C k2 rfl d_Cf_add_25 ?_
  refine hg_iload_n C 2 d_Cf_add_28 rfl rfl ?_
  refine hg_iast C 0 k3 rfl (vp_in_nI hn (by omega)) d_Cf_add_29 ?_
  obtain ⟨h6, eh6⟩ : ∃ z, z = hp_up h1 cf (.inl ((Γ.2.1 0), 300, .inl (upd F ((nI n).toNatClampNeg) f))) := ⟨_, rfl⟩
  refine hg_eq eh6.symm ?_
  have k7 : h6 a = some (.inr (0, [.ref ct, .ref cf, .ref cs, .int (nI n)])) := by rw [eh6]; exact hp_up_g k2 (fun z => by rw [z, k3] at k2; cases k2)
  have k8 : h6 cs = some (.inl ((Γ.2.1 0), 300, .inl S)) := by rw [eh6]; exact hp_up_g k4 n3.symm
  have k9 : h6 ct = some (.inl ((Γ.2.1 0), 300, .inl (upd T ((nI n).toNatClampNeg) t))) := by rw [eh6]; exact hp_up_g k5 n1
  have k10 : h6 cf = some (.inl ((Γ.2.1 0), 300, .inl (upd F ((nI n).toNatClampNeg) f))) := by rw [eh6]; exact hp_up_s
  refine hg_aload_n C 0 d_Cf_add_30 rfl rfl ?_
  refine f_Cf_18 C k7 rfl d_Cf_add_31 ?_
  refine hg_aload_n C 0 d_Cf_add_34 rfl rfl ?_
  refine f_Cf_21 C k7 rfl d_Cf_add_35 ?_
  refine hg_iconst (v := (-1)) C d_Cf_add_38 (by decide) ?_
  refine hg_iast C 0 k8 rfl (vp_in_nI hn (by omega)) d_Cf_add_39 ?_
  obtain ⟨h11, eh11⟩ : ∃ z, z = hp_up h6 cs (.inl ((Γ.2.1 0), 300, .inl (upd S ((nI n).toNatClampNeg) (-1)))) := ⟨_, rfl⟩
  refine hg_eq eh11.symm ?_
  have k12 : h11 a = some (.inr (0, [.ref ct, .ref cf, .ref cs, .int (nI n)])) := by rw [eh11]; exact hp_up_g k7 (fun z => by rw [z, k8] at k7; cases k7)
  have k13 : h11 ct = some (.inl ((Γ.2.1 0), 300, .inl (upd T ((nI n).toNatClampNeg) t))) := by rw [eh11]; exact hp_up_g k9 n2
  have k14 : h11 cf = some (.inl ((Γ.2.1 0), 300, .inl (upd F ((nI n).toNatClampNeg) f))) := by rw [eh11]; exact hp_up_g k10 n3
  have k15 : h11 cs = some (.inl ((Γ.2.1 0), 300, .inl (upd S ((nI n).toNatClampNeg) (-1)))) := by rw [eh11]; exact hp_up_s
  refine hg_aload_n C 0 d_Cf_add_40 rfl rfl ?_
  refine hg_dup C d_Cf_add_41 rfl ?_
  refine f_Cf_21 C k12 rfl d_Cf_add_42 ?_
  refine hg_iconst (v := 1) C d_Cf_add_45 (by decide) ?_
  refine hg_iadd C d_Cf_add_46 ?_
  refine p_Cf_21 (fs' := [.ref ct, .ref cf, .ref cs, .int (nI n + 1)]) C k12 rfl rfl (Nat.le_of_ble_eq_true rfl) rfl d_Cf_add_47 ?_
  obtain ⟨h16, eh16⟩ : ∃ z, z = hp_up h11 a (.inr (0, [.ref ct, .ref cf, .ref cs, .int (nI n + 1)])) := ⟨_, rfl⟩
  refine hg_eq eh16.symm ?_
  have k17 : h16 ct = some (.inl ((Γ.2.1 0), 300, .inl (upd T ((nI n).toNatClampNeg) t))) := by rw [eh16]; exact hp_up_g k13 (fun z => by rw [z, k12] at k13; cases k13)
  have k18 : h16 cf = some (.inl ((Γ.2.1 0), 300, .inl (upd F ((nI n).toNatClampNeg) f))) := by rw [eh16]; exact hp_up_g k14 (fun z => by rw [z, k12] at k14; cases k14)
  have k19 : h16 cs = some (.inl ((Γ.2.1 0), 300, .inl (upd S ((nI n).toNatClampNeg) (-1)))) := by rw [eh16]; exact hp_up_g k15 (fun z => by rw [z, k12] at k15; cases k15)
  have k20 : h16 a = some (.inr (0, [.ref ct, .ref cf, .ref cs, .int (nI n + 1)])) := by rw [eh16]; exact hp_up_s
  exact hg_vretN C hr d_Cf_add_50 (Nat.le_of_ble_eq_true rfl) (Nat.le_of_ble_eq_true rfl) (⟨rfl, by rw [eh16, eh11, eh6, eh1, nI_clamp (by omega), nI_1]⟩)
abbrev rm_Cf_choose : Room := { frames := 1, cells := 0, slots := 0, locals := 21 }
set_option maxHeartbeats 4000000 in
set_option maxRecDepth 100000 in
theorem k_Cf_choose (l : Launch) (Γ : Gam) (h : Pic) (a ct cf cs : Nat) (T F S : Nat → Int32) (n j : Nat) (hj : j < n) (hn : n ≤ 300) (ha : h a = some (.inr (0, [.ref ct, .ref cf, .ref cs, .int (nI n)]))) (ht : h ct = some (.inl (Γ.2.1 0, 300, .inl T))) (hf : h cf = some (.inl (Γ.2.1 0, 300, .inl F))) (hs : h cs = some (.inl (Γ.2.1 0, 300, .inl S))) (v : Int32) : kN l Γ y_Cf_choose w_Cf_choose rm_Cf_choose [.ref a, .int (nI j), .int v] h (fun r u => r = none ∧ u = hp_up h cs (.inl (Γ.2.1 0, 300, .inl (upd S j v)))) 0 0 := by
  refine hg_entryN (own := "ModelMerge$Conflicts") (cc := b_Cf_choose) (maxL := 3) (ret := none) (lv0 := [(0, .ref a), (1, .int (nI j)), (2, .int v)]) (by decide) rfl rfl (Nat.le_of_ble_eq_true rfl) rfl ?_
  intro p e s m args below meth c A C hnm hr
  refine hg_aload_n C 0 d_Cf_choose_0 rfl rfl ?_
  refine hg_iload_n C 1 d_Cf_choose_1 rfl rfl ?_
  refine hg_VNb (q := ("ModelMerge$Conflicts", T_Cf, 4)) C (k_Cf_isKnown l Γ _ a ct cf cs (nI n) ha (nI j)) (cw_Cf_25 C.2.2.2.2.1 rfl rfl ⟨Nat.le_of_ble_eq_true rfl, Nat.le_of_ble_eq_true rfl⟩) ha rfl rfl rfl (Nat.le_of_ble_eq_true rfl) d_Cf_choose_2 ⟨Nat.le_of_ble_eq_true rfl, Nat.le_of_ble_eq_true rfl⟩ (fun z1 => ?_) (fun z1 => ?_)
  · refine hg_if_eq C 15 d_Cf_choose_5 (by decide) (fun z => absurd z (by decide)) (fun _ => ?_)
    refine hg_aload_n C 0 d_Cf_choose_8 rfl rfl ?_
    refine f_Cf_18 C ha rfl d_Cf_choose_9 ?_
    refine hg_iload_n C 1 d_Cf_choose_12 rfl rfl ?_
    refine hg_iload_n C 2 d_Cf_choose_13 rfl rfl ?_
    refine hg_iast C 0 hs rfl (c_kn_in z1) d_Cf_choose_14 ?_
    obtain ⟨h2, eh2⟩ : ∃ z, z = hp_up h cs (.inl ((Γ.2.1 0), 300, .inl (upd S ((nI j).toNatClampNeg) v))) := ⟨_, rfl⟩
    refine hg_eq eh2.symm ?_
    have k3 : h2 a = some (.inr (0, [.ref ct, .ref cf, .ref cs, .int (nI n)])) := by rw [eh2]; exact hp_up_g ha (fun z => by rw [z, hs] at ha; cases ha)
    have k4 : h2 cs = some (.inl ((Γ.2.1 0), 300, .inl (upd S ((nI j).toNatClampNeg) v))) := by rw [eh2]; exact hp_up_s
    exact hg_vretN C hr d_Cf_choose_15 (Nat.le_of_ble_eq_true rfl) (Nat.le_of_ble_eq_true rfl) (⟨rfl, by rw [eh2, nI_clamp (by omega)]⟩)
  · refine hg_if_eq C 15 d_Cf_choose_5 (by decide) (fun _ => ?_) (fun z => absurd (by decide) z)
    exact hg_vretN C hr d_Cf_choose_15 (Nat.le_of_ble_eq_true rfl) (Nat.le_of_ble_eq_true rfl) (absurd (c_kn_nat hj hn) z1)
abbrev rm_Cf_countUnsettled : Room := { frames := 2, cells := 0, slots := 0, locals := 42 }
theorem c_un_pos {S : Nat → Int32} {k : Nat} (h : S k = -1) : c_un S (k + 1) = c_un S k + 1 := if_pos h
theorem c_un_neg {S : Nat → Int32} {k : Nat} (h : ¬ S k = -1) : c_un S (k + 1) = c_un S k := if_neg h
set_option maxHeartbeats 4000000 in
set_option maxRecDepth 100000 in
theorem lp_Cf_count (l : Launch) (Γ : Gam) {p : Program} {e : Env} {s : State} {m : MethodId} {args : Array Value} {below : List Frame} {meth : Method} {c : Code} {A : Nat → Prop} (C : hp_C p s m args meth c b_Cf_countUnsettled 3 "ModelMerge$Conflicts" w_Cf_countUnsettled Γ.1 kcl (ktys Γ.2.1) (ksts Γ.2.2) knws A) {h : Pic} {a ct cf cs N : Nat} {S : Nat → Int32} (hn : N ≤ 300) (ha : h a = some (.inr (0, [.ref ct, .ref cf, .ref cs, .int (nI N)]))) (hs : h cs = some (.inl (Γ.2.1 0, 300, .inl S))) (hr : meth.sig.returnType = some .int)  :
    ∀ (n : Nat) (k : Nat), (k ≤ N) → (N + 1 ≤ k + n) → hp_G p l e rm_Cf_countUnsettled s m args below meth c Γ.1 kcl A 3 (hp_NQ below Γ.1 kcl A (pv (.int (nI (c_un S N))) h True) args s 0 0) 0 0 4 [(2, .int (nI k)), (1, .int (nI (c_un S k))), (0, .ref a)] [] h := by
  intro n
  induction n with
  | zero =>
    intro k hk hm
    exact absurd hm (by omega)
  | succ n ih =>
    intro k hk hm
    refine hg_iload_n C 0 d_Cf_countUnsettled_4 rfl rfl ?_
    refine hg_aload_n C 2 d_Cf_countUnsettled_5 rfl rfl ?_
    refine f_Cf_21 C ha rfl d_Cf_countUnsettled_6 ?_
    refine hg_icmp_ge C 30 d_Cf_countUnsettled_9 (by decide) (fun c9 => ?_) (fun c9 => ?_)
    · refine hg_iload_n C 1 d_Cf_countUnsettled_30 rfl rfl ?_
      exact hg_iretN C hr rfl d_Cf_countUnsettled_31 (Nat.le_of_ble_eq_true rfl) (Nat.le_of_ble_eq_true rfl) (⟨by rw [show k = N from Nat.le_antisymm hk ((nI_leI (by omega) (by omega)).mp c9)], rfl, trivial⟩)
    · have hlt : k < N := Nat.not_le.mp (fun z => c9 (nI_le z (by omega)))
      refine hg_aload_n C 2 d_Cf_countUnsettled_12 rfl rfl ?_
      refine hg_iload_n C 0 d_Cf_countUnsettled_13 rfl rfl ?_
      refine hg_VNv (q := ("ModelMerge$Conflicts", T_Cf, 4)) C (k_Cf_sideOf l Γ _ a ct cf cs S (nI N) ha hs (nI k)) (cw_Cf_29 C.2.2.2.2.1 rfl rfl ⟨Nat.le_of_ble_eq_true rfl, Nat.le_of_ble_eq_true rfl⟩) ha rfl rfl rfl (Nat.le_of_ble_eq_true rfl) d_Cf_countUnsettled_14 ⟨Nat.le_of_ble_eq_true rfl, Nat.le_of_ble_eq_true rfl⟩ (fun _ => ?_)
      refine hg_iconst (v := (-1)) C d_Cf_countUnsettled_17 (by decide) ?_
      refine hg_icmp_ne C 24 d_Cf_countUnsettled_18 (by decide) (fun c18 => ?_) (fun c18 => ?_)
      · refine hg_iinc (v := nI (k + 1)) (lv' := [(2, .int (nI (k + 1))), (1, .int (nI (c_un S k))), (0, .ref a)]) C 0 d_Cf_countUnsettled_24 rfl (nI_1 k) (by decide) rfl ?_
        refine hg_goto C 4 d_Cf_countUnsettled_27 (by decide) ?_
        have ih1 := ih (k + 1) (by omega) (by omega)
        rw [c_un_neg (c_get_nat (T := S) hlt hn ▸ c18)] at ih1
        exact hg_lv (ks := [0, 1, 2]) rfl ih1
      · refine hg_iinc (v := nI (c_un S k + 1)) (lv' := [(1, .int (nI (c_un S k + 1))), (2, .int (nI k)), (0, .ref a)]) C 1 d_Cf_countUnsettled_21 rfl (nI_1 (c_un S k)) (by decide) rfl ?_
        refine hg_iinc (v := nI (k + 1)) (lv' := [(2, .int (nI (k + 1))), (1, .int (nI (c_un S k + 1))), (0, .ref a)]) C 1 d_Cf_countUnsettled_24 rfl (nI_1 k) (by decide) rfl ?_
        refine hg_goto C 4 d_Cf_countUnsettled_27 (by decide) ?_
        have ih1 := ih (k + 1) (by omega) (by omega)
        rw [c_un_pos (c_get_nat (T := S) hlt hn ▸ c18)] at ih1
        exact hg_lv (ks := [0, 1, 2]) rfl ih1
set_option maxHeartbeats 4000000 in
set_option maxRecDepth 100000 in
theorem k_Cf_countUnsettled (l : Launch) (Γ : Gam) (h : Pic) (a ct cf cs N : Nat) (S : Nat → Int32) (hn : N ≤ 300) (ha : h a = some (.inr (0, [.ref ct, .ref cf, .ref cs, .int (nI N)]))) (hs : h cs = some (.inl (Γ.2.1 0, 300, .inl S))) : kN l Γ y_Cf_countUnsettled w_Cf_countUnsettled rm_Cf_countUnsettled [.ref a] h (pv (.int (nI (c_un S N))) h True) 0 0 := by
  refine hg_entryN (own := "ModelMerge$Conflicts") (cc := b_Cf_countUnsettled) (maxL := 3) (ret := (some .int)) (lv0 := [(0, .ref a)]) (by decide) rfl rfl (Nat.le_of_ble_eq_true rfl) rfl ?_
  intro p e s m args below meth c A C hnm hr
  refine hg_iconst (v := 0) C d_Cf_countUnsettled_0 (by decide) ?_
  refine hg_istore_n (lv' := [(1, .int 0), (0, .ref a)]) C d_Cf_countUnsettled_1 rfl (by decide) rfl ?_
  refine hg_iconst (v := 0) C d_Cf_countUnsettled_2 (by decide) ?_
  refine hg_istore_n (lv' := [(2, .int 0), (1, .int 0), (0, .ref a)]) C d_Cf_countUnsettled_3 rfl (by decide) rfl ?_
  exact lp_Cf_count l Γ C hn ha hs hr (N + 1) 0 (Nat.zero_le _) (by omega)
abbrev rm_Ru_init : Room := { frames := 1, cells := 0, slots := 0, locals := 20 }
set_option maxHeartbeats 4000000 in
set_option maxRecDepth 100000 in
theorem k_Ru_init (l : Launch) (Γ : Gam) (h : Pic) (a : Nat) (k f g : Int32) (ha : h a = some (.inr (2, [.int 0, .int 0, .int 0]))) : kN l Γ y_Ru_init w_Ru_init rm_Ru_init [.ref a, .int k, .int f, .int g] h (fun r u => r = none ∧ u = hp_up h a (.inr (2, [.int k, .int f, .int g]))) 0 0 := by
  refine hg_entryN (own := "ModelMerge$Rule") (cc := b_Ru_init) (maxL := 4) (ret := none) (lv0 := [(0, .ref a), (1, .int k), (2, .int f), (3, .int g)]) (by decide) rfl rfl (Nat.le_of_ble_eq_true rfl) rfl ?_
  intro p e s m args below meth c A C hnm hr
  refine hg_aload_n C 0 d_Ru_init_0 rfl rfl ?_
  refine o_Ru_1 C (Nat.le_of_ble_eq_true rfl) (Nat.le_of_ble_eq_true rfl) d_Ru_init_1 ?_
  refine hg_aload_n C 0 d_Ru_init_4 rfl rfl ?_
  refine hg_iload_n C 1 d_Ru_init_5 rfl rfl ?_
  refine p_Ru_7 (fs' := [.int k, .int 0, .int 0]) C hnm ha rfl rfl (Nat.le_of_ble_eq_true rfl) rfl d_Ru_init_6 ?_
  obtain ⟨h1, eh1⟩ : ∃ z, z = hp_up h a (.inr (2, [.int k, .int 0, .int 0])) := ⟨_, rfl⟩
  refine hg_eq eh1.symm ?_
  have k2 : h1 a = some (.inr (2, [.int k, .int 0, .int 0])) := by rw [eh1]; exact hp_up_s
  refine hg_aload_n C 0 d_Ru_init_9 rfl rfl ?_
  refine hg_iload_n C 2 d_Ru_init_10 rfl rfl ?_
  refine p_Ru_13 (fs' := [.int k, .int f, .int 0]) C hnm k2 rfl rfl (Nat.le_of_ble_eq_true rfl) rfl d_Ru_init_11 ?_
  obtain ⟨h3, eh3⟩ : ∃ z, z = hp_up h1 a (.inr (2, [.int k, .int f, .int 0])) := ⟨_, rfl⟩
  refine hg_eq eh3.symm ?_
  have k4 : h3 a = some (.inr (2, [.int k, .int f, .int 0])) := by rw [eh3]; exact hp_up_s
  refine hg_aload_n C 0 d_Ru_init_14 rfl rfl ?_
  refine hg_iload_n C 3 d_Ru_init_15 rfl rfl ?_
  refine p_Ru_16 (fs' := [.int k, .int f, .int g]) C hnm k4 rfl rfl (Nat.le_of_ble_eq_true rfl) rfl d_Ru_init_16 ?_
  obtain ⟨h5, eh5⟩ : ∃ z, z = hp_up h3 a (.inr (2, [.int k, .int f, .int g])) := ⟨_, rfl⟩
  refine hg_eq eh5.symm ?_
  have k6 : h5 a = some (.inr (2, [.int k, .int f, .int g])) := by rw [eh5]; exact hp_up_s
  exact hg_vretN C hr d_Ru_init_19 (Nat.le_of_ble_eq_true rfl) (Nat.le_of_ble_eq_true rfl) (⟨rfl, by simp only [eh5, eh3, eh1, hp_up_up]⟩)
abbrev rm_Mo_init : Room := { frames := 1, cells := 0, slots := 0, locals := 20 }
set_option maxHeartbeats 4000000 in
set_option maxRecDepth 100000 in
theorem k_Mo_init (l : Launch) (Γ : Gam) (h : Pic) (a b : Nat) (n t f v w : Int32) (ha : h a = some (.inr (1, [.int 0, .null, .int 0, .int 0, .int 0, .int 0, .null]))) : kN l Γ y_Mo_init w_Mo_init rm_Mo_init [.ref a, .int n, .ref b, .int t, .int f, .int v, .int w] h (fun r u => r = none ∧ u = hp_up h a (.inr (1, [.int n, .ref b, .int t, .int f, .int v, .int w, .null]))) 0 0 := by
  refine hg_entryN (own := "ModelMerge$Moment") (cc := b_Mo_init) (maxL := 7) (ret := none) (lv0 := [(0, .ref a), (1, .int n), (2, .ref b), (3, .int t), (4, .int f), (5, .int v), (6, .int w)]) (by decide) rfl rfl (Nat.le_of_ble_eq_true rfl) rfl ?_
  intro p e s m args below meth c A C hnm hr
  refine hg_aload_n C 0 d_Mo_init_0 rfl rfl ?_
  refine o_Mo_1 C (Nat.le_of_ble_eq_true rfl) (Nat.le_of_ble_eq_true rfl) d_Mo_init_1 ?_
  refine hg_aload_n C 0 d_Mo_init_4 rfl rfl ?_
  refine hg_null C d_Mo_init_5 ?_
  refine p_Mo_7 (fs' := [.int 0, .null, .int 0, .int 0, .int 0, .int 0, .null]) C ha rfl rfl (Nat.le_of_ble_eq_true rfl) rfl d_Mo_init_6 ?_
  obtain ⟨h1, eh1⟩ : ∃ z, z = hp_up h a (.inr (1, [.int 0, .null, .int 0, .int 0, .int 0, .int 0, .null])) := ⟨_, rfl⟩
  refine hg_eq eh1.symm ?_
  have k2 : h1 a = some (.inr (1, [.int 0, .null, .int 0, .int 0, .int 0, .int 0, .null])) := by rw [eh1]; exact hp_up_s
  refine hg_aload_n C 0 d_Mo_init_9 rfl rfl ?_
  refine hg_iload_n C 1 d_Mo_init_10 rfl rfl ?_
  refine p_Mo_13 (fs' := [.int n, .null, .int 0, .int 0, .int 0, .int 0, .null]) C hnm k2 rfl rfl (Nat.le_of_ble_eq_true rfl) rfl d_Mo_init_11 ?_
  obtain ⟨h3, eh3⟩ : ∃ z, z = hp_up h1 a (.inr (1, [.int n, .null, .int 0, .int 0, .int 0, .int 0, .null])) := ⟨_, rfl⟩
  refine hg_eq eh3.symm ?_
  have k4 : h3 a = some (.inr (1, [.int n, .null, .int 0, .int 0, .int 0, .int 0, .null])) := by rw [eh3]; exact hp_up_s
  refine hg_aload_n C 0 d_Mo_init_14 rfl rfl ?_
  refine hg_aload_n C 2 d_Mo_init_15 rfl rfl ?_
  refine p_Mo_17 (fs' := [.int n, .ref b, .int 0, .int 0, .int 0, .int 0, .null]) C hnm k4 rfl rfl (Nat.le_of_ble_eq_true rfl) rfl d_Mo_init_16 ?_
  obtain ⟨h5, eh5⟩ : ∃ z, z = hp_up h3 a (.inr (1, [.int n, .ref b, .int 0, .int 0, .int 0, .int 0, .null])) := ⟨_, rfl⟩
  refine hg_eq eh5.symm ?_
  have k6 : h5 a = some (.inr (1, [.int n, .ref b, .int 0, .int 0, .int 0, .int 0, .null])) := by rw [eh5]; exact hp_up_s
  refine hg_aload_n C 0 d_Mo_init_19 rfl rfl ?_
  refine hg_iload_n C 3 d_Mo_init_20 rfl rfl ?_
  refine p_Mo_20 (fs' := [.int n, .ref b, .int t, .int 0, .int 0, .int 0, .null]) C hnm k6 rfl rfl (Nat.le_of_ble_eq_true rfl) rfl d_Mo_init_21 ?_
  obtain ⟨h7, eh7⟩ : ∃ z, z = hp_up h5 a (.inr (1, [.int n, .ref b, .int t, .int 0, .int 0, .int 0, .null])) := ⟨_, rfl⟩
  refine hg_eq eh7.symm ?_
  have k8 : h7 a = some (.inr (1, [.int n, .ref b, .int t, .int 0, .int 0, .int 0, .null])) := by rw [eh7]; exact hp_up_s
  refine hg_aload_n C 0 d_Mo_init_24 rfl rfl ?_
  refine hg_iload C 4 d_Mo_init_25 rfl ?_
  refine p_Mo_23 (fs' := [.int n, .ref b, .int t, .int f, .int 0, .int 0, .null]) C hnm k8 rfl rfl (Nat.le_of_ble_eq_true rfl) rfl d_Mo_init_27 ?_
  obtain ⟨h9, eh9⟩ : ∃ z, z = hp_up h7 a (.inr (1, [.int n, .ref b, .int t, .int f, .int 0, .int 0, .null])) := ⟨_, rfl⟩
  refine hg_eq eh9.symm ?_
  have k10 : h9 a = some (.inr (1, [.int n, .ref b, .int t, .int f, .int 0, .int 0, .null])) := by rw [eh9]; exact hp_up_s
  refine hg_aload_n C 0 d_Mo_init_30 rfl rfl ?_
  refine hg_iload C 5 d_Mo_init_31 rfl ?_
  refine p_Mo_26 (fs' := [.int n, .ref b, .int t, .int f, .int v, .int 0, .null]) C hnm k10 rfl rfl (Nat.le_of_ble_eq_true rfl) rfl d_Mo_init_33 ?_
  obtain ⟨h11, eh11⟩ : ∃ z, z = hp_up h9 a (.inr (1, [.int n, .ref b, .int t, .int f, .int v, .int 0, .null])) := ⟨_, rfl⟩
  refine hg_eq eh11.symm ?_
  have k12 : h11 a = some (.inr (1, [.int n, .ref b, .int t, .int f, .int v, .int 0, .null])) := by rw [eh11]; exact hp_up_s
  refine hg_aload_n C 0 d_Mo_init_36 rfl rfl ?_
  refine hg_iload C 6 d_Mo_init_37 rfl ?_
  refine p_Mo_29 (fs' := [.int n, .ref b, .int t, .int f, .int v, .int w, .null]) C hnm k12 rfl rfl (Nat.le_of_ble_eq_true rfl) rfl d_Mo_init_39 ?_
  obtain ⟨h13, eh13⟩ : ∃ z, z = hp_up h11 a (.inr (1, [.int n, .ref b, .int t, .int f, .int v, .int w, .null])) := ⟨_, rfl⟩
  refine hg_eq eh13.symm ?_
  have k14 : h13 a = some (.inr (1, [.int n, .ref b, .int t, .int f, .int v, .int w, .null])) := by rw [eh13]; exact hp_up_s
  exact hg_vretN C hr d_Mo_init_42 (Nat.le_of_ble_eq_true rfl) (Nat.le_of_ble_eq_true rfl) (⟨rfl, by simp only [eh13, eh11, eh9, eh7, eh5, eh3, eh1, hp_up_up]⟩)
set_option maxHeartbeats 4000000 in
set_option maxRecDepth 100000 in
theorem k_Mo_init0 (l : Launch) (Γ : Gam) (h : Pic) (a : Nat) (n t f v w : Int32) (ha : h a = some (.inr (1, [.int 0, .null, .int 0, .int 0, .int 0, .int 0, .null]))) : kN l Γ y_Mo_init w_Mo_init rm_Mo_init [.ref a, .int n, .null, .int t, .int f, .int v, .int w] h (fun r u => r = none ∧ u = hp_up h a (.inr (1, [.int n, .null, .int t, .int f, .int v, .int w, .null]))) 0 0 := by
  refine hg_entryN (own := "ModelMerge$Moment") (cc := b_Mo_init) (maxL := 7) (ret := none) (lv0 := [(0, .ref a), (1, .int n), (2, .null), (3, .int t), (4, .int f), (5, .int v), (6, .int w)]) (by decide) rfl rfl (Nat.le_of_ble_eq_true rfl) rfl ?_
  intro p e s m args below meth c A C hnm hr
  refine hg_aload_n C 0 d_Mo_init_0 rfl rfl ?_
  refine o_Mo_1 C (Nat.le_of_ble_eq_true rfl) (Nat.le_of_ble_eq_true rfl) d_Mo_init_1 ?_
  refine hg_aload_n C 0 d_Mo_init_4 rfl rfl ?_
  refine hg_null C d_Mo_init_5 ?_
  refine p_Mo_7 (fs' := [.int 0, .null, .int 0, .int 0, .int 0, .int 0, .null]) C ha rfl rfl (Nat.le_of_ble_eq_true rfl) rfl d_Mo_init_6 ?_
  obtain ⟨h1, eh1⟩ : ∃ z, z = hp_up h a (.inr (1, [.int 0, .null, .int 0, .int 0, .int 0, .int 0, .null])) := ⟨_, rfl⟩
  refine hg_eq eh1.symm ?_
  have k2 : h1 a = some (.inr (1, [.int 0, .null, .int 0, .int 0, .int 0, .int 0, .null])) := by rw [eh1]; exact hp_up_s
  refine hg_aload_n C 0 d_Mo_init_9 rfl rfl ?_
  refine hg_iload_n C 1 d_Mo_init_10 rfl rfl ?_
  refine p_Mo_13 (fs' := [.int n, .null, .int 0, .int 0, .int 0, .int 0, .null]) C hnm k2 rfl rfl (Nat.le_of_ble_eq_true rfl) rfl d_Mo_init_11 ?_
  obtain ⟨h3, eh3⟩ : ∃ z, z = hp_up h1 a (.inr (1, [.int n, .null, .int 0, .int 0, .int 0, .int 0, .null])) := ⟨_, rfl⟩
  refine hg_eq eh3.symm ?_
  have k4 : h3 a = some (.inr (1, [.int n, .null, .int 0, .int 0, .int 0, .int 0, .null])) := by rw [eh3]; exact hp_up_s
  refine hg_aload_n C 0 d_Mo_init_14 rfl rfl ?_
  refine hg_aload_nN C 2 d_Mo_init_15 rfl rfl ?_
  refine p_Mo_17 (fs' := [.int n, .null, .int 0, .int 0, .int 0, .int 0, .null]) C hnm k4 rfl rfl (Nat.le_of_ble_eq_true rfl) rfl d_Mo_init_16 ?_
  obtain ⟨h5, eh5⟩ : ∃ z, z = hp_up h3 a (.inr (1, [.int n, .null, .int 0, .int 0, .int 0, .int 0, .null])) := ⟨_, rfl⟩
  refine hg_eq eh5.symm ?_
  have k6 : h5 a = some (.inr (1, [.int n, .null, .int 0, .int 0, .int 0, .int 0, .null])) := by rw [eh5]; exact hp_up_s
  refine hg_aload_n C 0 d_Mo_init_19 rfl rfl ?_
  refine hg_iload_n C 3 d_Mo_init_20 rfl rfl ?_
  refine p_Mo_20 (fs' := [.int n, .null, .int t, .int 0, .int 0, .int 0, .null]) C hnm k6 rfl rfl (Nat.le_of_ble_eq_true rfl) rfl d_Mo_init_21 ?_
  obtain ⟨h7, eh7⟩ : ∃ z, z = hp_up h5 a (.inr (1, [.int n, .null, .int t, .int 0, .int 0, .int 0, .null])) := ⟨_, rfl⟩
  refine hg_eq eh7.symm ?_
  have k8 : h7 a = some (.inr (1, [.int n, .null, .int t, .int 0, .int 0, .int 0, .null])) := by rw [eh7]; exact hp_up_s
  refine hg_aload_n C 0 d_Mo_init_24 rfl rfl ?_
  refine hg_iload C 4 d_Mo_init_25 rfl ?_
  refine p_Mo_23 (fs' := [.int n, .null, .int t, .int f, .int 0, .int 0, .null]) C hnm k8 rfl rfl (Nat.le_of_ble_eq_true rfl) rfl d_Mo_init_27 ?_
  obtain ⟨h9, eh9⟩ : ∃ z, z = hp_up h7 a (.inr (1, [.int n, .null, .int t, .int f, .int 0, .int 0, .null])) := ⟨_, rfl⟩
  refine hg_eq eh9.symm ?_
  have k10 : h9 a = some (.inr (1, [.int n, .null, .int t, .int f, .int 0, .int 0, .null])) := by rw [eh9]; exact hp_up_s
  refine hg_aload_n C 0 d_Mo_init_30 rfl rfl ?_
  refine hg_iload C 5 d_Mo_init_31 rfl ?_
  refine p_Mo_26 (fs' := [.int n, .null, .int t, .int f, .int v, .int 0, .null]) C hnm k10 rfl rfl (Nat.le_of_ble_eq_true rfl) rfl d_Mo_init_33 ?_
  obtain ⟨h11, eh11⟩ : ∃ z, z = hp_up h9 a (.inr (1, [.int n, .null, .int t, .int f, .int v, .int 0, .null])) := ⟨_, rfl⟩
  refine hg_eq eh11.symm ?_
  have k12 : h11 a = some (.inr (1, [.int n, .null, .int t, .int f, .int v, .int 0, .null])) := by rw [eh11]; exact hp_up_s
  refine hg_aload_n C 0 d_Mo_init_36 rfl rfl ?_
  refine hg_iload C 6 d_Mo_init_37 rfl ?_
  refine p_Mo_29 (fs' := [.int n, .null, .int t, .int f, .int v, .int w, .null]) C hnm k12 rfl rfl (Nat.le_of_ble_eq_true rfl) rfl d_Mo_init_39 ?_
  obtain ⟨h13, eh13⟩ : ∃ z, z = hp_up h11 a (.inr (1, [.int n, .null, .int t, .int f, .int v, .int w, .null])) := ⟨_, rfl⟩
  refine hg_eq eh13.symm ?_
  have k14 : h13 a = some (.inr (1, [.int n, .null, .int t, .int f, .int v, .int w, .null])) := by rw [eh13]; exact hp_up_s
  exact hg_vretN C hr d_Mo_init_42 (Nat.le_of_ble_eq_true rfl) (Nat.le_of_ble_eq_true rfl) (⟨rfl, by simp only [eh13, eh11, eh9, eh7, eh5, eh3, eh1, hp_up_up]⟩)
