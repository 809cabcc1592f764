/-! THE CLASS: its private questions -/
abbrev rm_MM_isThing : Room := { frames := 0, cells := 0, slots := 0, locals := 0 }
set_option maxHeartbeats 4000000 in
set_option maxRecDepth 100000 in
theorem k_MM_isThing (l : Launch) (Γ : Gam) (h : Pic) (ad : Nat → Nat → Nat) (M : Mem) (hC : cr_at Γ ad M h) (hI : Inv0 M) (t : Int32) : kN l Γ y_MM_isThing w_MM_isThing rm_MM_isThing [.ref (ad 0 0), .int t] h (pb h (inr t (nI (nT M)))) 0 0 := by
  refine hg_entryN (own := "ModelMerge") (cc := b_MM_isThing) (maxL := 2) (ret := (some .boolean)) (lv0 := [(0, .ref (ad 0 0)), (1, .int t)]) (by decide) rfl rfl (Nat.le_of_ble_eq_true rfl) rfl ?_
  intro p e s m args below meth c A C hnm hr
  have kx := hC.1 0 0 (liv0 (by omega))
  have k1 := hC.1 1 0 (liv0 (by omega))
  have k2 := hC.1 2 0 (liv0 (by omega))
  have k3 := hC.1 3 0 (liv0 (by omega))
  have k4 := hC.1 4 0 (liv0 (by omega))
  have k5 := hC.1 5 0 (liv0 (by omega))
  have k6 := hC.1 6 0 (liv0 (by omega))
  have k7 := hC.1 7 0 (liv0 (by omega))
  have k8 := hC.1 8 0 (liv0 (by omega))
  have k9 := hC.1 9 0 (liv0 (by omega))
  obtain ⟨⟨⟨eT, hT⟩, ⟨eV, hV1, hV⟩, ⟨eS, hS⟩, ⟨eR, hRR⟩, ⟨eC, hCn⟩⟩, hI2, hI3, hI4, hI5, hI6, hI7, hI8, -, hI10, hI11⟩ := id hI
  refine hg_iload_n C 1 d_MM_isThing_0 rfl rfl ?_
  refine hg_if_lt C 22 d_MM_isThing_1 (by decide) (fun c1 => ?_) (fun c1 => ?_)
  · refine hg_iconst (v := 0) C d_MM_isThing_22 (by decide) ?_
    exact hg_iretN C hr rfl d_MM_isThing_23 (Nat.le_of_ble_eq_true rfl) (Nat.le_of_ble_eq_true rfl) (Or.inr ⟨rfl, rfl, fun z => z.1 c1⟩)
  · refine hg_iload_n C 1 d_MM_isThing_4 rfl rfl ?_
    refine hg_aload_n C 0 d_MM_isThing_5 rfl rfl ?_
    refine f_MM_16 C kx rfl d_MM_isThing_6 ?_
    refine hg_ti eT ?_
    refine hg_icmp_ge C 22 d_MM_isThing_9 (by decide) (fun c9 => ?_) (fun c9 => ?_)
    · refine hg_iconst (v := 0) C d_MM_isThing_22 (by decide) ?_
      exact hg_iretN C hr rfl d_MM_isThing_23 (Nat.le_of_ble_eq_true rfl) (Nat.le_of_ble_eq_true rfl) (Or.inr ⟨rfl, rfl, fun z => z.2 c9⟩)
    · refine hg_iload_n C 1 d_MM_isThing_12 rfl rfl ?_
      refine hg_bipush (v := 60) C d_MM_isThing_13 (by decide) ?_
      refine hg_icmp_ge C 22 d_MM_isThing_15 (by decide) (fun c15 => ?_) (fun c15 => ?_)
      · refine hg_iconst (v := 0) C d_MM_isThing_22 (by decide) ?_
        exact hg_iretN C hr rfl d_MM_isThing_23 (Nat.le_of_ble_eq_true rfl) (Nat.le_of_ble_eq_true rfl) (absurd c15 (by obtain ⟨j, hj, ej⟩ := inr_nat (n := nT M) ⟨c1, c9⟩ (by omega); rw [ej]; exact nI_ge (b := 60) (by omega) (by omega)))
      · refine hg_iconst (v := 1) C d_MM_isThing_18 (by decide) ?_
        refine hg_goto C 23 d_MM_isThing_19 (by decide) ?_
        exact hg_iretN C hr rfl d_MM_isThing_23 (Nat.le_of_ble_eq_true rfl) (Nat.le_of_ble_eq_true rfl) (Or.inl ⟨rfl, rfl, c1, c9⟩)
noncomputable def k_of (M : Mem) (k : Nat) (t : Int32) : Int32 := @ite _ (inr t (nI (nT M))) (Classical.propDecidable _) (M k t.toNatClampNeg) (-1)
abbrev rm_MM_kindOf : Room := { frames := 1, cells := 0, slots := 0, locals := 21 }
set_option maxHeartbeats 4000000 in
set_option maxRecDepth 100000 in
theorem k_MM_kindOf (l : Launch) (Γ : Gam) (h : Pic) (ad : Nat → Nat → Nat) (M : Mem) (hC : cr_at Γ ad M h) (hI : Inv0 M) (t : Int32) : kN l Γ y_MM_kindOf w_MM_kindOf rm_MM_kindOf [.ref (ad 0 0), .int t] h (pv (.int (k_of M 2 t)) h True) 0 0 := by
  refine hg_entryN (own := "ModelMerge") (cc := b_MM_kindOf) (maxL := 2) (ret := (some .int)) (lv0 := [(0, .ref (ad 0 0)), (1, .int t)]) (by decide) rfl rfl (Nat.le_of_ble_eq_true rfl) rfl ?_
  intro p e s m args below meth c A C hnm hr
  have kx := hC.1 0 0 (liv0 (by omega))
  have k1 := hC.1 1 0 (liv0 (by omega))
  have k2 := hC.1 2 0 (liv0 (by omega))
  have k3 := hC.1 3 0 (liv0 (by omega))
  have k4 := hC.1 4 0 (liv0 (by omega))
  have k5 := hC.1 5 0 (liv0 (by omega))
  have k6 := hC.1 6 0 (liv0 (by omega))
  have k7 := hC.1 7 0 (liv0 (by omega))
  have k8 := hC.1 8 0 (liv0 (by omega))
  have k9 := hC.1 9 0 (liv0 (by omega))
  obtain ⟨⟨⟨eT, hT⟩, ⟨eV, hV1, hV⟩, ⟨eS, hS⟩, ⟨eR, hRR⟩, ⟨eC, hCn⟩⟩, hI2, hI3, hI4, hI5, hI6, hI7, hI8, -, hI10, hI11⟩ := id hI
  refine hg_aload_n C 0 d_MM_kindOf_0 rfl rfl ?_
  refine hg_iload_n C 1 d_MM_kindOf_1 rfl rfl ?_
  refine hg_VNb (q := ("ModelMerge", T_MM, 12)) C (k_MM_isThing l Γ _ ad M hC hI t) (cw_MM_237 C.2.2.2.2.1 rfl rfl ⟨Nat.le_of_ble_eq_true rfl, Nat.le_of_ble_eq_true rfl⟩) kx rfl rfl rfl (Nat.le_of_ble_eq_true rfl) d_MM_kindOf_2 ⟨Nat.le_of_ble_eq_true rfl, Nat.le_of_ble_eq_true rfl⟩ (fun z1 => ?_) (fun z1 => ?_)
  · refine hg_if_eq C 17 d_MM_kindOf_5 (by decide) (fun z => absurd z (by decide)) (fun _ => ?_)
    refine hg_aload_n C 0 d_MM_kindOf_8 rfl rfl ?_
    refine f_MM_9 C kx rfl d_MM_kindOf_9 ?_
    refine hg_iload_n C 1 d_MM_kindOf_12 rfl rfl ?_
    refine hg_iald C 0 k1 rfl (by obtain ⟨j, hj, ej⟩ := inr_nat z1 (by omega); rw [ej]; exact vp_in_nI (by omega) (by omega)) d_MM_kindOf_13 ?_
    refine hg_goto C 18 d_MM_kindOf_14 (by decide) ?_
    exact hg_iretN C hr rfl d_MM_kindOf_18 (Nat.le_of_ble_eq_true rfl) (Nat.le_of_ble_eq_true rfl) (⟨by rw [k_of, if_pos z1], rfl, trivial⟩)
  · refine hg_if_eq C 17 d_MM_kindOf_5 (by decide) (fun _ => ?_) (fun z => absurd (by decide) z)
    refine hg_iconst (v := (-1)) C d_MM_kindOf_17 (by decide) ?_
    exact hg_iretN C hr rfl d_MM_kindOf_18 (Nat.le_of_ble_eq_true rfl) (Nat.le_of_ble_eq_true rfl) (⟨by rw [k_of, if_neg z1], rfl, trivial⟩)
abbrev rm_MM_lockerOf : Room := { frames := 1, cells := 0, slots := 0, locals := 21 }
set_option maxHeartbeats 4000000 in
set_option maxRecDepth 100000 in
theorem k_MM_lockerOf (l : Launch) (Γ : Gam) (h : Pic) (ad : Nat → Nat → Nat) (M : Mem) (hC : cr_at Γ ad M h) (hI : Inv0 M) (t : Int32) : kN l Γ y_MM_lockerOf w_MM_lockerOf rm_MM_lockerOf [.ref (ad 0 0), .int t] h (pv (.int (k_of M 3 t)) h True) 0 0 := by
  refine hg_entryN (own := "ModelMerge") (cc := b_MM_lockerOf) (maxL := 2) (ret := (some .int)) (lv0 := [(0, .ref (ad 0 0)), (1, .int t)]) (by decide) rfl rfl (Nat.le_of_ble_eq_true rfl) rfl ?_
  intro p e s m args below meth c A C hnm hr
  have kx := hC.1 0 0 (liv0 (by omega))
  have k1 := hC.1 1 0 (liv0 (by omega))
  have k2 := hC.1 2 0 (liv0 (by omega))
  have k3 := hC.1 3 0 (liv0 (by omega))
  have k4 := hC.1 4 0 (liv0 (by omega))
  have k5 := hC.1 5 0 (liv0 (by omega))
  have k6 := hC.1 6 0 (liv0 (by omega))
  have k7 := hC.1 7 0 (liv0 (by omega))
  have k8 := hC.1 8 0 (liv0 (by omega))
  have k9 := hC.1 9 0 (liv0 (by omega))
  obtain ⟨⟨⟨eT, hT⟩, ⟨eV, hV1, hV⟩, ⟨eS, hS⟩, ⟨eR, hRR⟩, ⟨eC, hCn⟩⟩, hI2, hI3, hI4, hI5, hI6, hI7, hI8, -, hI10, hI11⟩ := id hI
  refine hg_aload_n C 0 d_MM_lockerOf_0 rfl rfl ?_
  refine hg_iload_n C 1 d_MM_lockerOf_1 rfl rfl ?_
  refine hg_VNb (q := ("ModelMerge", T_MM, 12)) C (k_MM_isThing l Γ _ ad M hC hI t) (cw_MM_237 C.2.2.2.2.1 rfl rfl ⟨Nat.le_of_ble_eq_true rfl, Nat.le_of_ble_eq_true rfl⟩) kx rfl rfl rfl (Nat.le_of_ble_eq_true rfl) d_MM_lockerOf_2 ⟨Nat.le_of_ble_eq_true rfl, Nat.le_of_ble_eq_true rfl⟩ (fun z1 => ?_) (fun z1 => ?_)
  · refine hg_if_eq C 17 d_MM_lockerOf_5 (by decide) (fun z => absurd z (by decide)) (fun _ => ?_)
    refine hg_aload_n C 0 d_MM_lockerOf_8 rfl rfl ?_
    refine f_MM_13 C kx rfl d_MM_lockerOf_9 ?_
    refine hg_iload_n C 1 d_MM_lockerOf_12 rfl rfl ?_
    refine hg_iald C 0 k2 rfl (by obtain ⟨j, hj, ej⟩ := inr_nat z1 (by omega); rw [ej]; exact vp_in_nI (by omega) (by omega)) d_MM_lockerOf_13 ?_
    refine hg_goto C 18 d_MM_lockerOf_14 (by decide) ?_
    exact hg_iretN C hr rfl d_MM_lockerOf_18 (Nat.le_of_ble_eq_true rfl) (Nat.le_of_ble_eq_true rfl) (⟨by rw [k_of, if_pos z1], rfl, trivial⟩)
  · refine hg_if_eq C 17 d_MM_lockerOf_5 (by decide) (fun _ => ?_) (fun z => absurd (by decide) z)
    refine hg_iconst (v := (-1)) C d_MM_lockerOf_17 (by decide) ?_
    exact hg_iretN C hr rfl d_MM_lockerOf_18 (Nat.le_of_ble_eq_true rfl) (Nat.le_of_ble_eq_true rfl) (⟨by rw [k_of, if_neg z1], rfl, trivial⟩)
abbrev rm_MM_checkThing : Room := { frames := 6, cells := 1, slots := 6, locals := 90 }
set_option maxHeartbeats 4000000 in
set_option maxRecDepth 100000 in
theorem k_MM_checkThing (l : Launch) (hl9 : l.stackTraces = false) (Γ : Gam) (h : Pic) (ad : Nat → Nat → Nat) (M : Mem) (hC : cr_at Γ ad M h) (hI : Inv0 M) (t : Int32) : kM l Γ y_MM_checkThing w_MM_checkThing rm_MM_checkThing [.ref (ad 0 0), .int t] h (pn h (inr t (nI (nT M)))) (pe IAE h (¬ inr t (nI (nT M)))) 1 6 := by
  refine hg_entry (own := "ModelMerge") (cc := b_MM_checkThing) (maxL := 2) (ret := none) (lv0 := [(0, .ref (ad 0 0)), (1, .int t)]) (by decide) rfl rfl (Nat.le_of_ble_eq_true rfl) rfl ?_
  intro p e s m args below meth c A C hne hr
  have kx := hC.1 0 0 (liv0 (by omega))
  have k1 := hC.1 1 0 (liv0 (by omega))
  have k2 := hC.1 2 0 (liv0 (by omega))
  have k3 := hC.1 3 0 (liv0 (by omega))
  have k4 := hC.1 4 0 (liv0 (by omega))
  have k5 := hC.1 5 0 (liv0 (by omega))
  have k6 := hC.1 6 0 (liv0 (by omega))
  have k7 := hC.1 7 0 (liv0 (by omega))
  have k8 := hC.1 8 0 (liv0 (by omega))
  have k9 := hC.1 9 0 (liv0 (by omega))
  obtain ⟨⟨⟨eT, hT⟩, ⟨eV, hV1, hV⟩, ⟨eS, hS⟩, ⟨eR, hRR⟩, ⟨eC, hCn⟩⟩, hI2, hI3, hI4, hI5, hI6, hI7, hI8, -, hI10, hI11⟩ := id hI
  refine hg_aload_n C 0 d_MM_checkThing_0 rfl rfl ?_
  refine hg_iload_n C 1 d_MM_checkThing_1 rfl rfl ?_
  refine hg_VNb (q := ("ModelMerge", T_MM, 12)) C (k_MM_isThing l Γ _ ad M hC hI t) (cw_MM_237 C.2.2.2.2.1 rfl rfl ⟨Nat.le_of_ble_eq_true rfl, Nat.le_of_ble_eq_true rfl⟩) kx rfl rfl rfl (Nat.le_of_ble_eq_true rfl) d_MM_checkThing_2 ⟨Nat.le_of_ble_eq_true rfl, Nat.le_of_ble_eq_true rfl⟩ (fun z1 => ?_) (fun z1 => ?_)
  · refine hg_if_ne C 18 d_MM_checkThing_5 (by decide) (fun _ => ?_) (fun z => absurd z (by decide))
    exact hg_vret C hr d_MM_checkThing_18 (Nat.le_of_ble_eq_true rfl) (Nat.le_of_ble_eq_true rfl) (⟨rfl, rfl, z1⟩)
  · refine hg_if_ne C 18 d_MM_checkThing_5 (by decide) (fun z => absurd rfl z) (fun _ => ?_)
    exact th_IAE (is := 241) (text := "there is no such thing") (sa := Γ.2.2 5) C hne hl9 (List.mem_of_getElem? (i := 5) rfl) d_MM_checkThing_8 d_MM_checkThing_11 d_MM_checkThing_12 d_MM_checkThing_14 d_MM_checkThing_17 (Nat.le_of_ble_eq_true rfl) (Nat.le_of_ble_eq_true rfl) (Nat.le_of_ble_eq_true rfl) (Nat.le_of_ble_eq_true rfl) (Nat.le_of_ble_eq_true rfl) (Nat.le_of_ble_eq_true rfl) (⟨rfl, rfl, z1⟩)
abbrev rm_MM_sessionOf : Room := { frames := 6, cells := 1, slots := 6, locals := 90 }
set_option maxHeartbeats 4000000 in
set_option maxRecDepth 100000 in
theorem k_MM_sessionOf (l : Launch) (hl9 : l.stackTraces = false) (Γ : Gam) (h : Pic) (ad : Nat → Nat → Nat) (M : Mem) (hC : cr_at Γ ad M h) (hI : Inv0 M) (x : Int32) : kM l Γ y_MM_sessionOf w_MM_sessionOf rm_MM_sessionOf [.ref (ad 0 0), .int x] h (pv (.ref (ad 10 x.toNatClampNeg)) h (inr x (nI (nS M)))) (pe IAE h (¬ inr x (nI (nS M)))) 1 6 := by
  refine hg_entry (own := "ModelMerge") (cc := b_MM_sessionOf) (maxL := 3) (ret := (some (.object "ModelMerge$Session"))) (lv0 := [(0, .ref (ad 0 0)), (1, .int x)]) (by decide) rfl rfl (Nat.le_of_ble_eq_true rfl) rfl ?_
  intro p e s m args below meth c A C hne hr
  have kx := hC.1 0 0 (liv0 (by omega))
  have k1 := hC.1 1 0 (liv0 (by omega))
  have k2 := hC.1 2 0 (liv0 (by omega))
  have k3 := hC.1 3 0 (liv0 (by omega))
  have k4 := hC.1 4 0 (liv0 (by omega))
  have k5 := hC.1 5 0 (liv0 (by omega))
  have k6 := hC.1 6 0 (liv0 (by omega))
  have k7 := hC.1 7 0 (liv0 (by omega))
  have k8 := hC.1 8 0 (liv0 (by omega))
  have k9 := hC.1 9 0 (liv0 (by omega))
  obtain ⟨⟨⟨eT, hT⟩, ⟨eV, hV1, hV⟩, ⟨eS, hS⟩, ⟨eR, hRR⟩, ⟨eC, hCn⟩⟩, hI2, hI3, hI4, hI5, hI6, hI7, hI8, -, hI10, hI11⟩ := id hI
  refine hg_iload_n C 1 d_MM_sessionOf_0 rfl rfl ?_
  refine hg_if_lt C 19 d_MM_sessionOf_1 (by decide) (fun c1 => ?_) (fun c1 => ?_)
  · refine hg_null C d_MM_sessionOf_19 ?_
    refine hg_astore_nN (lv' := [(2, .null), (0, .ref (ad 0 0)), (1, .int x)]) C d_MM_sessionOf_20 rfl (by decide) rfl ?_
    refine hg_aload_nN C 0 d_MM_sessionOf_21 rfl rfl ?_
    refine hg_ifnonnullN C d_MM_sessionOf_22 ?_
    exact th_IAE (is := 250) (text := "there is no such session") (sa := Γ.2.2 3) C hne hl9 (List.mem_of_getElem? (i := 3) rfl) d_MM_sessionOf_25 d_MM_sessionOf_28 d_MM_sessionOf_29 d_MM_sessionOf_31 d_MM_sessionOf_34 (Nat.le_of_ble_eq_true rfl) (Nat.le_of_ble_eq_true rfl) (Nat.le_of_ble_eq_true rfl) (Nat.le_of_ble_eq_true rfl) (Nat.le_of_ble_eq_true rfl) (Nat.le_of_ble_eq_true rfl) (⟨rfl, rfl, fun z => z.1 c1⟩)
  · refine hg_iload_n C 1 d_MM_sessionOf_4 rfl rfl ?_
    refine hg_bipush (v := 20) C d_MM_sessionOf_5 (by decide) ?_
    refine hg_icmp_ge C 19 d_MM_sessionOf_7 (by decide) (fun c7 => ?_) (fun c7 => ?_)
    · refine hg_null C d_MM_sessionOf_19 ?_
      refine hg_astore_nN (lv' := [(2, .null), (0, .ref (ad 0 0)), (1, .int x)]) C d_MM_sessionOf_20 rfl (by decide) rfl ?_
      refine hg_aload_nN C 0 d_MM_sessionOf_21 rfl rfl ?_
      refine hg_ifnonnullN C d_MM_sessionOf_22 ?_
      exact th_IAE (is := 250) (text := "there is no such session") (sa := Γ.2.2 3) C hne hl9 (List.mem_of_getElem? (i := 3) rfl) d_MM_sessionOf_25 d_MM_sessionOf_28 d_MM_sessionOf_29 d_MM_sessionOf_31 d_MM_sessionOf_34 (Nat.le_of_ble_eq_true rfl) (Nat.le_of_ble_eq_true rfl) (Nat.le_of_ble_eq_true rfl) (Nat.le_of_ble_eq_true rfl) (Nat.le_of_ble_eq_true rfl) (Nat.le_of_ble_eq_true rfl) (⟨rfl, rfl, fun z => by obtain ⟨j, hj, ej⟩ := inr_nat (n := nS M) z (by omega); rw [ej] at c7; exact nI_ge (b := 20) (by omega) (by omega) c7⟩)
    · refine hg_aload_n C 0 d_MM_sessionOf_10 rfl rfl ?_
      refine f_MM_22 C kx rfl d_MM_sessionOf_11 ?_
      refine hg_iload_n C 1 d_MM_sessionOf_14 rfl rfl ?_
      refine hg_aald C 3 k3 rfl (by obtain ⟨j, h9, rfl⟩ := nI_of c1; exact vp_in_nI (Nat.not_le.mp (fun z => c7 ((nI_leI (a := 20) (by omega) h9).mpr z))) (by omega)) d_MM_sessionOf_15 ?_
      by_cases hj : x.toNatClampNeg < nS M
      · refine hg_rs (a := ad 10 x.toNatClampNeg) (if_pos hj) ?_
        refine hg_goto C 20 d_MM_sessionOf_16 (by decide) ?_
        refine hg_astore_n (lv' := [(2, .ref (ad 10 x.toNatClampNeg)), (0, .ref (ad 0 0)), (1, .int x)]) C d_MM_sessionOf_20 rfl (by decide) rfl ?_
        refine hg_aload_n C 0 d_MM_sessionOf_21 rfl rfl ?_
        refine hg_ifnonnull C 35 d_MM_sessionOf_22 (by decide) ?_
        refine hg_aload_n C 0 d_MM_sessionOf_35 rfl rfl ?_
        exact hg_aret C hr (Or.inr ⟨_, rfl⟩) d_MM_sessionOf_36 (Nat.le_of_ble_eq_true rfl) (Nat.le_of_ble_eq_true rfl) (⟨rfl, rfl, by obtain ⟨j, h9, rfl⟩ := nI_of c1; rw [nI_clamp h9] at hj; exact inr_of hj (by omega)⟩)
      · refine hg_rn (if_neg hj) ?_
        refine hg_goto C 20 d_MM_sessionOf_16 (by decide) ?_
        refine hg_astore_nN (lv' := [(2, .null), (0, .ref (ad 0 0)), (1, .int x)]) C d_MM_sessionOf_20 rfl (by decide) rfl ?_
        refine hg_aload_nN C 0 d_MM_sessionOf_21 rfl rfl ?_
        refine hg_ifnonnullN C d_MM_sessionOf_22 ?_
        exact th_IAE (is := 250) (text := "there is no such session") (sa := Γ.2.2 3) C hne hl9 (List.mem_of_getElem? (i := 3) rfl) d_MM_sessionOf_25 d_MM_sessionOf_28 d_MM_sessionOf_29 d_MM_sessionOf_31 d_MM_sessionOf_34 (Nat.le_of_ble_eq_true rfl) (Nat.le_of_ble_eq_true rfl) (Nat.le_of_ble_eq_true rfl) (Nat.le_of_ble_eq_true rfl) (Nat.le_of_ble_eq_true rfl) (Nat.le_of_ble_eq_true rfl) (⟨rfl, rfl, fun z => by obtain ⟨j, h9, ej⟩ := inr_nat (n := nS M) z (by omega); rw [ej, nI_clamp (by omega)] at hj; exact hj h9⟩)
abbrev rm_MM_versionOf : Room := { frames := 6, cells := 1, slots := 6, locals := 90 }
set_option maxHeartbeats 4000000 in
set_option maxRecDepth 100000 in
theorem k_MM_versionOf (l : Launch) (hl9 : l.stackTraces = false) (Γ : Gam) (h : Pic) (ad : Nat → Nat → Nat) (M : Mem) (hC : cr_at Γ ad M h) (hI : Inv0 M) (x : Int32) : kM l Γ y_MM_versionOf w_MM_versionOf rm_MM_versionOf [.ref (ad 0 0), .int x] h (pv (.ref (ad 14 x.toNatClampNeg)) h (inr x (nI (nV M)))) (pe IAE h (¬ inr x (nI (nV M)))) 1 6 := by
  refine hg_entry (own := "ModelMerge") (cc := b_MM_versionOf) (maxL := 3) (ret := (some (.object "ModelMerge$Version"))) (lv0 := [(0, .ref (ad 0 0)), (1, .int x)]) (by decide) rfl rfl (Nat.le_of_ble_eq_true rfl) rfl ?_
  intro p e s m args below meth c A C hne hr
  have kx := hC.1 0 0 (liv0 (by omega))
  have k1 := hC.1 1 0 (liv0 (by omega))
  have k2 := hC.1 2 0 (liv0 (by omega))
  have k3 := hC.1 3 0 (liv0 (by omega))
  have k4 := hC.1 4 0 (liv0 (by omega))
  have k5 := hC.1 5 0 (liv0 (by omega))
  have k6 := hC.1 6 0 (liv0 (by omega))
  have k7 := hC.1 7 0 (liv0 (by omega))
  have k8 := hC.1 8 0 (liv0 (by omega))
  have k9 := hC.1 9 0 (liv0 (by omega))
  obtain ⟨⟨⟨eT, hT⟩, ⟨eV, hV1, hV⟩, ⟨eS, hS⟩, ⟨eR, hRR⟩, ⟨eC, hCn⟩⟩, hI2, hI3, hI4, hI5, hI6, hI7, hI8, -, hI10, hI11⟩ := id hI
  refine hg_iload_n C 1 d_MM_versionOf_0 rfl rfl ?_
  refine hg_if_lt C 19 d_MM_versionOf_1 (by decide) (fun c1 => ?_) (fun c1 => ?_)
  · refine hg_null C d_MM_versionOf_19 ?_
    refine hg_astore_nN (lv' := [(2, .null), (0, .ref (ad 0 0)), (1, .int x)]) C d_MM_versionOf_20 rfl (by decide) rfl ?_
    refine hg_aload_nN C 0 d_MM_versionOf_21 rfl rfl ?_
    refine hg_ifnonnullN C d_MM_versionOf_22 ?_
    exact th_IAE (is := 252) (text := "there is no such version") (sa := Γ.2.2 1) C hne hl9 (List.mem_of_getElem? (i := 1) rfl) d_MM_versionOf_25 d_MM_versionOf_28 d_MM_versionOf_29 d_MM_versionOf_31 d_MM_versionOf_34 (Nat.le_of_ble_eq_true rfl) (Nat.le_of_ble_eq_true rfl) (Nat.le_of_ble_eq_true rfl) (Nat.le_of_ble_eq_true rfl) (Nat.le_of_ble_eq_true rfl) (Nat.le_of_ble_eq_true rfl) (⟨rfl, rfl, fun z => z.1 c1⟩)
  · refine hg_iload_n C 1 d_MM_versionOf_4 rfl rfl ?_
    refine hg_bipush (v := 40) C d_MM_versionOf_5 (by decide) ?_
    refine hg_icmp_ge C 19 d_MM_versionOf_7 (by decide) (fun c7 => ?_) (fun c7 => ?_)
    · refine hg_null C d_MM_versionOf_19 ?_
      refine hg_astore_nN (lv' := [(2, .null), (0, .ref (ad 0 0)), (1, .int x)]) C d_MM_versionOf_20 rfl (by decide) rfl ?_
      refine hg_aload_nN C 0 d_MM_versionOf_21 rfl rfl ?_
      refine hg_ifnonnullN C d_MM_versionOf_22 ?_
      exact th_IAE (is := 252) (text := "there is no such version") (sa := Γ.2.2 1) C hne hl9 (List.mem_of_getElem? (i := 1) rfl) d_MM_versionOf_25 d_MM_versionOf_28 d_MM_versionOf_29 d_MM_versionOf_31 d_MM_versionOf_34 (Nat.le_of_ble_eq_true rfl) (Nat.le_of_ble_eq_true rfl) (Nat.le_of_ble_eq_true rfl) (Nat.le_of_ble_eq_true rfl) (Nat.le_of_ble_eq_true rfl) (Nat.le_of_ble_eq_true rfl) (⟨rfl, rfl, fun z => by obtain ⟨j, hj, ej⟩ := inr_nat (n := nV M) z (by omega); rw [ej] at c7; exact nI_ge (b := 40) (by omega) (by omega) c7⟩)
    · refine hg_aload_n C 0 d_MM_versionOf_10 rfl rfl ?_
      refine f_MM_31 C kx rfl d_MM_versionOf_11 ?_
      refine hg_iload_n C 1 d_MM_versionOf_14 rfl rfl ?_
      refine hg_aald C 4 k4 rfl (by obtain ⟨j, h9, rfl⟩ := nI_of c1; exact vp_in_nI (Nat.not_le.mp (fun z => c7 ((nI_leI (a := 40) (by omega) h9).mpr z))) (by omega)) d_MM_versionOf_15 ?_
      by_cases hj : x.toNatClampNeg < nV M
      · refine hg_rs (a := ad 14 x.toNatClampNeg) (if_pos hj) ?_
        refine hg_goto C 20 d_MM_versionOf_16 (by decide) ?_
        refine hg_astore_n (lv' := [(2, .ref (ad 14 x.toNatClampNeg)), (0, .ref (ad 0 0)), (1, .int x)]) C d_MM_versionOf_20 rfl (by decide) rfl ?_
        refine hg_aload_n C 0 d_MM_versionOf_21 rfl rfl ?_
        refine hg_ifnonnull C 35 d_MM_versionOf_22 (by decide) ?_
        refine hg_aload_n C 0 d_MM_versionOf_35 rfl rfl ?_
        exact hg_aret C hr (Or.inr ⟨_, rfl⟩) d_MM_versionOf_36 (Nat.le_of_ble_eq_true rfl) (Nat.le_of_ble_eq_true rfl) (⟨rfl, rfl, by obtain ⟨j, h9, rfl⟩ := nI_of c1; rw [nI_clamp h9] at hj; exact inr_of hj (by omega)⟩)
      · refine hg_rn (if_neg hj) ?_
        refine hg_goto C 20 d_MM_versionOf_16 (by decide) ?_
        refine hg_astore_nN (lv' := [(2, .null), (0, .ref (ad 0 0)), (1, .int x)]) C d_MM_versionOf_20 rfl (by decide) rfl ?_
        refine hg_aload_nN C 0 d_MM_versionOf_21 rfl rfl ?_
        refine hg_ifnonnullN C d_MM_versionOf_22 ?_
        exact th_IAE (is := 252) (text := "there is no such version") (sa := Γ.2.2 1) C hne hl9 (List.mem_of_getElem? (i := 1) rfl) d_MM_versionOf_25 d_MM_versionOf_28 d_MM_versionOf_29 d_MM_versionOf_31 d_MM_versionOf_34 (Nat.le_of_ble_eq_true rfl) (Nat.le_of_ble_eq_true rfl) (Nat.le_of_ble_eq_true rfl) (Nat.le_of_ble_eq_true rfl) (Nat.le_of_ble_eq_true rfl) (Nat.le_of_ble_eq_true rfl) (⟨rfl, rfl, fun z => by obtain ⟨j, h9, ej⟩ := inr_nat (n := nV M) z (by omega); rw [ej, nI_clamp (by omega)] at hj; exact hj h9⟩)
abbrev rm_MM_checkOpen : Room := { frames := 6, cells := 1, slots := 6, locals := 90 }
set_option maxHeartbeats 4000000 in
set_option maxRecDepth 100000 in
theorem k_MM_checkOpen (l : Launch) (hl9 : l.stackTraces = false) (Γ : Gam) (h : Pic) (a : Nat) (v0 v1 v2 v3 v4 v5 v7 : Value) (z : Int32) (ha : h a = some (.inr (3, [v0, v1, v2, v3, v4, v5, .int z, v7]))) : kM l Γ y_MM_checkOpen w_MM_checkOpen rm_MM_checkOpen [.ref a] h (pn h (z = 0)) (pe ISE h (¬ z = 0)) 1 6 := by
  refine hg_entry (own := "ModelMerge") (cc := b_MM_checkOpen) (maxL := 1) (ret := none) (lv0 := [(0, .ref a)]) (by decide) rfl rfl (Nat.le_of_ble_eq_true rfl) rfl ?_
  intro p e s m args below meth c A C hne hr
  refine hg_aload_n C 0 d_MM_checkOpen_0 rfl rfl ?_
  refine f_MM_135 C ha rfl d_MM_checkOpen_1 ?_
  refine hg_if_eq C 17 d_MM_checkOpen_4 (by decide) (fun c4 => ?_) (fun c4 => ?_)
  · exact hg_vret C hr d_MM_checkOpen_17 (Nat.le_of_ble_eq_true rfl) (Nat.le_of_ble_eq_true rfl) (⟨rfl, rfl, c4⟩)
  · exact th_ISE (is := 248) (text := "the session is not open") (sa := Γ.2.2 4) C hne hl9 (List.mem_of_getElem? (i := 4) rfl) d_MM_checkOpen_7 d_MM_checkOpen_10 d_MM_checkOpen_11 d_MM_checkOpen_13 d_MM_checkOpen_16 (Nat.le_of_ble_eq_true rfl) (Nat.le_of_ble_eq_true rfl) (Nat.le_of_ble_eq_true rfl) (Nat.le_of_ble_eq_true rfl) (Nat.le_of_ble_eq_true rfl) (Nat.le_of_ble_eq_true rfl) (⟨rfl, rfl, c4⟩)
abbrev rm_MM_checkField : Room := { frames := 7, cells := 3, slots := 18, locals := 111 }
set_option maxHeartbeats 4000000 in
set_option maxRecDepth 100000 in
theorem k_MM_checkField (l : Launch) (hl9 : l.stackTraces = false) (Γ : Gam) (h : Pic) (ad : Nat → Nat → Nat) (M : Mem) (hC : cr_at Γ ad M h) (hI : Inv0 M) (a b : Nat) (F : Nat → Int32) (ha : h a = some (.inr (4, [.ref b]))) (hb : h b = some (.inl (Γ.2.1 0, 360, .inl F))) (t f : Int32) : kM l Γ y_MM_checkField w_MM_checkField rm_MM_checkField [.ref (ad 0 0), .ref a, .int t, .int f] h (pn h (inr t (nI (nT M)) ∧ inr f 5 ∧ s_has F t)) (pe IAE h (¬ (inr t (nI (nT M)) ∧ inr f 5 ∧ s_has F t))) 3 18 := by
  refine hg_entry (own := "ModelMerge") (cc := b_MM_checkField) (maxL := 4) (ret := none) (lv0 := [(0, .ref (ad 0 0)), (1, .ref a), (2, .int t), (3, .int f)]) (by decide) rfl rfl (Nat.le_of_ble_eq_true rfl) rfl ?_
  intro p e s m args below meth c A C hne hr
  have kx := hC.1 0 0 (liv0 (by omega))
  have k1 := hC.1 1 0 (liv0 (by omega))
  have k2 := hC.1 2 0 (liv0 (by omega))
  have k3 := hC.1 3 0 (liv0 (by omega))
  have k4 := hC.1 4 0 (liv0 (by omega))
  have k5 := hC.1 5 0 (liv0 (by omega))
  have k6 := hC.1 6 0 (liv0 (by omega))
  have k7 := hC.1 7 0 (liv0 (by omega))
  have k8 := hC.1 8 0 (liv0 (by omega))
  have k9 := hC.1 9 0 (liv0 (by omega))
  obtain ⟨⟨⟨eT, hT⟩, ⟨eV, hV1, hV⟩, ⟨eS, hS⟩, ⟨eR, hRR⟩, ⟨eC, hCn⟩⟩, hI2, hI3, hI4, hI5, hI6, hI7, hI8, -, hI10, hI11⟩ := id hI
  refine hg_aload_n C 0 d_MM_checkField_0 rfl rfl ?_
  refine hg_iload_n C 2 d_MM_checkField_1 rfl rfl ?_
  refine hg_Vn (q := ("ModelMerge", T_MM, 12)) C (k_MM_checkThing l hl9 Γ _ ad M hC hI t) (cw_MM_113 C.2.2.2.2.1 rfl rfl ⟨Nat.le_of_ble_eq_true rfl, Nat.le_of_ble_eq_true rfl⟩) kx rfl rfl rfl (Nat.le_of_ble_eq_true rfl) d_MM_checkField_2 ⟨Nat.le_of_ble_eq_true rfl, Nat.le_of_ble_eq_true rfl⟩ (fun ct2 => ?_) (fun ct2 => hg_out C hne (Nat.le_of_ble_eq_true rfl) (Nat.le_of_ble_eq_true rfl) (⟨rfl, rfl, fun z => ct2 (z.1)⟩))
  refine hg_iload_n C 3 d_MM_checkField_5 rfl rfl ?_
  refine hg_iconst (v := 5) C d_MM_checkField_6 (by decide) ?_
  refine hg_Sn C (k_MM_checkBelow l hl9 Γ _ f 5) (cw_MM_68 C.2.2.2.2.1 rfl rfl ⟨Nat.le_of_ble_eq_true rfl, Nat.le_of_ble_eq_true rfl⟩) rfl rfl (Nat.le_of_ble_eq_true rfl) d_MM_checkField_7 ⟨Nat.le_of_ble_eq_true rfl, Nat.le_of_ble_eq_true rfl⟩ (fun cb7 => ?_) (fun cb7 => hg_out C hne (Nat.le_of_ble_eq_true rfl) (Nat.le_of_ble_eq_true rfl) (⟨rfl, rfl, fun z => cb7 (z.2.1)⟩))
  refine hg_aload_n C 1 d_MM_checkField_10 rfl rfl ?_
  refine hg_iload_n C 2 d_MM_checkField_11 rfl rfl ?_
  refine hg_VNb (q := ("ModelMerge$State", T_St, 1)) C (k_St_has l Γ _ a b F ha hb t) (cw_MM_243 C.2.2.2.2.1 rfl rfl ⟨Nat.le_of_ble_eq_true rfl, Nat.le_of_ble_eq_true rfl⟩) ha rfl rfl rfl (Nat.le_of_ble_eq_true rfl) d_MM_checkField_12 ⟨Nat.le_of_ble_eq_true rfl, Nat.le_of_ble_eq_true rfl⟩ (fun z1 => ?_) (fun z1 => ?_)
  · refine hg_if_ne C 28 d_MM_checkField_15 (by decide) (fun _ => ?_) (fun z => absurd z (by decide))
    exact hg_vret C hr d_MM_checkField_28 (Nat.le_of_ble_eq_true rfl) (Nat.le_of_ble_eq_true rfl) (⟨rfl, rfl, ct2, cb7, z1⟩)
  · refine hg_if_ne C 28 d_MM_checkField_15 (by decide) (fun z => absurd rfl z) (fun _ => ?_)
    exact th_IAE (is := 246) (text := "the thing is not there") (sa := Γ.2.2 10) C hne hl9 (List.mem_of_getElem? (i := 10) rfl) d_MM_checkField_18 d_MM_checkField_21 d_MM_checkField_22 d_MM_checkField_24 d_MM_checkField_27 (Nat.le_of_ble_eq_true rfl) (Nat.le_of_ble_eq_true rfl) (Nat.le_of_ble_eq_true rfl) (Nat.le_of_ble_eq_true rfl) (Nat.le_of_ble_eq_true rfl) (Nat.le_of_ble_eq_true rfl) (⟨rfl, rfl, fun z => z1 z.2.2⟩)
