/-! THE REFERENCE, third part: what is told -/
noncomputable def f_told (M : Mem) (s : Nat) (w : Int32) : Int32 := if w = 0 then M 14 s else if w = 1 then M 10 s else if w = 2 then M 11 s else if w = 3 then M 12 s else if w = 4 then M 13 s else M 15 s
noncomputable def sp_told (M : Mem) (s w : Int32) : Int32 × Int32 × Mem := gd (inr s (nI (nS M)) ∧ inr w 6) True M (f_told (mset M 0 0 0) s.toNatClampNeg w, mset M 0 0 0)
noncomputable def sp_author (M : Mem) (v : Int32) : Int32 × Int32 × Mem := gd (¬ v ≤ 0 ∧ ¬ nI (nV M) ≤ v) True M (M 8 v.toNatClampNeg, mset M 0 0 0)
noncomputable def sp_count (M : Mem) (w : Int32) : Int32 × Int32 × Mem := gd (inr w 4) True M (if w = 0 then nI (nV M) else if w = 1 then nI (nT M) else if w = 2 then nI (nS M) else nI (nR M), mset M 0 0 0)
noncomputable def sp_giveUp (M : Mem) : Int32 × Int32 × Mem := gd (¬ M 26 0 < 0) True M (M 26 0, mset (mset (mset M 0 0 0) 14 (M 26 0).toNatClampNeg 0) 26 0 (-1))
noncomputable def sp_here (M : Mem) (s t : Int32) : Int32 × Int32 × Mem := gd (inr s (nI (nS M)) ∧ inr t (nI (nT M))) True M (@ite _ (stv (mset M 0 0 0) s.toNatClampNeg (sd M s.toNatClampNeg) t.toNatClampNeg 0 = 0) (Classical.propDecidable _) 0 1, mset M 0 0 0)
noncomputable def sp_now (M : Mem) (s t f : Int32) : Int32 × Int32 × Mem := gd (inr s (nI (nS M)) ∧ inr t (nI (nT M)) ∧ inr f 5 ∧ ¬ stv M s.toNatClampNeg (sd M s.toNatClampNeg) t.toNatClampNeg 0 = 0) True M (stv (mset M 0 0 0) s.toNatClampNeg (sd M s.toNatClampNeg) t.toNatClampNeg (f.toNatClampNeg + 1), mset M 0 0 0)
/-- a thing is there in a version -/
def i_th (M : Mem) (v t : Int32) : Prop := inr v (nI (nV M)) ∧ inr t (nI (nT M)) ∧ ¬ M 5 (60 * v.toNatClampNeg + t.toNatClampNeg) = 0
noncomputable def sp_at (M : Mem) (v t f : Int32) : Int32 × Int32 × Mem := gd (i_th M v t ∧ inr f 5) True M (M 6 (5 * (60 * v.toNatClampNeg + t.toNatClampNeg) + f.toNatClampNeg), mset M 0 0 0)
noncomputable def sp_since (M : Mem) (v t f : Int32) : Int32 × Int32 × Mem := gd (i_th M v t ∧ inr f 5) True M (M 7 (5 * (60 * v.toNatClampNeg + t.toNatClampNeg) + f.toNatClampNeg), mset M 0 0 0)
abbrev rm_Rf_told : Room := { frames := 1, cells := 0, slots := 0, locals := 22 }
set_option maxHeartbeats 4000000 in
set_option maxRecDepth 100000 in
theorem k_Rf_told (l : Launch) (Γ : Gam) (h : Pic) (r : Nat) (aa : Nat → Nat) (M : Mem) (hR : rf_at Γ r aa M h) (hI : Inv0 M) (s0 w0 : Int32) : kN l Γ y_Rf_told w_Rf_told rm_Rf_told [.ref r, .int s0, .int w0] h (fun q u => q = some (.int (sp_told M s0 w0).2.1) ∧ rf_at Γ r aa (sp_told M s0 w0).2.2 u) 0 0 := by
  refine hg_entryN (own := "ModelMergeModel") (cc := b_Rf_told) (maxL := 3) (ret := (some .int)) (lv0 := [(0, .ref r), (1, .int s0), (2, .int w0)]) (by decide) rfl rfl (Nat.le_of_ble_eq_true rfl) rfl ?_
  intro p9 e9 s9 m9 args below meth c9 A C hnm hr
  obtain ⟨⟨⟨eT, hT⟩, ⟨eV, hV1, hV⟩, ⟨eS, hS⟩, ⟨eR, hRR⟩, ⟨eC, hC⟩⟩, hI2, -⟩ := id hI
  refine hg_aload_n C 0 d_Rf_told_0 rfl rfl ?_
  refine hg_iload_n C 1 d_Rf_told_1 rfl rfl ?_
  refine hg_aload_n C 0 d_Rf_told_2 rfl rfl ?_
  refine f_Rf_105 C hR.1 rfl d_Rf_told_3 ?_
  refine hg_ti eS ?_
  refine hg_SNb C (k_Rf_isIn l Γ _ s0 (nI (nS M))) (cw_Rf_101 C.2.2.2.2.1 rfl rfl ⟨Nat.le_of_ble_eq_true rfl, Nat.le_of_ble_eq_true rfl⟩) rfl rfl (Nat.le_of_ble_eq_true rfl) d_Rf_told_6 ⟨Nat.le_of_ble_eq_true rfl, Nat.le_of_ble_eq_true rfl⟩ (fun z1 => ?_) (fun z1 => ?_)
  · obtain ⟨s, hs, rfl⟩ := inr_nat (n := nS M) (id z1) (by omega)
    refine hg_if_eq C 25 d_Rf_told_9 (by decide) (fun z => absurd z (by decide)) (fun _ => ?_)
    refine hg_iload_n C 2 d_Rf_told_12 rfl rfl ?_
    refine hg_bipush (v := 6) C d_Rf_told_13 (by decide) ?_
    refine hg_SNb C (k_Rf_isIn l Γ _ w0 6) (cw_Rf_101 C.2.2.2.2.1 rfl rfl ⟨Nat.le_of_ble_eq_true rfl, Nat.le_of_ble_eq_true rfl⟩) rfl rfl (Nat.le_of_ble_eq_true rfl) d_Rf_told_15 ⟨Nat.le_of_ble_eq_true rfl, Nat.le_of_ble_eq_true rfl⟩ (fun z2 => ?_) (fun z2 => ?_)
    · refine hg_if_eq C 25 d_Rf_told_18 (by decide) (fun z => absurd z (by decide)) (fun _ => ?_)
      refine hg_iconst (v := 1) C d_Rf_told_21 (by decide) ?_
      refine hg_goto C 26 d_Rf_told_22 (by decide) ?_
      refine hg_iconst (v := 1) C d_Rf_told_26 (by decide) ?_
      refine hg_VNu (q := ("ModelMergeModel", T_Rf, 31)) C (k_Rf_goes0 l Γ _ r aa M hR) (cw_Rf_108 C.2.2.2.2.1 rfl rfl ⟨Nat.le_of_ble_eq_true rfl, Nat.le_of_ble_eq_true rfl⟩) hR.1 rfl rfl rfl (Nat.le_of_ble_eq_true rfl) d_Rf_told_27 ⟨Nat.le_of_ble_eq_true rfl, Nat.le_of_ble_eq_true rfl⟩ (fun h3 R4 => ?_)
      obtain ⟨N, eN⟩ : ∃ z, z = mset M 0 0 0 := ⟨_, rfl⟩
      rw [← eN] at R4
      have hN : Inv0 N := by rw [eN]; exact Inv0_code 0 hI
      have qS : nS N = nS M := by rw [eN]; rfl
      have qT : nT N = nT M := by rw [eN]; rfl
      have qV : nV N = nV M := by rw [eN]; rfl
      have qR : nR N = nR M := by rw [eN]; rfl
      have qC : nC N = nC M := by rw [eN]; rfl
      obtain ⟨⟨⟨fT, gT⟩, ⟨fV, gV1, gV⟩, ⟨fS, gS⟩, ⟨fR, gR⟩, ⟨fC, gC⟩⟩, hN2, -⟩ := id hN
      rw [← qS] at hs
      refine hg_if_ne C 35 d_Rf_told_30 (by decide) (fun _ => ?_) (fun z => absurd z (by decide))
      refine hg_iload_n C 2 d_Rf_told_35 rfl rfl ?_
      refine hg_if_ne C 48 d_Rf_told_36 (by decide) (fun c36 => ?_) (fun c36 => ?_)
      · refine hg_iload_n C 2 d_Rf_told_48 rfl rfl ?_
        refine hg_iconst (v := 1) C d_Rf_told_49 (by decide) ?_
        refine hg_icmp_ne C 62 d_Rf_told_50 (by decide) (fun c50 => ?_) (fun c50 => ?_)
        · refine hg_iload_n C 2 d_Rf_told_62 rfl rfl ?_
          refine hg_iconst (v := 2) C d_Rf_told_63 (by decide) ?_
          refine hg_icmp_ne C 76 d_Rf_told_64 (by decide) (fun c64 => ?_) (fun c64 => ?_)
          · refine hg_iload_n C 2 d_Rf_told_76 rfl rfl ?_
            refine hg_iconst (v := 3) C d_Rf_told_77 (by decide) ?_
            refine hg_icmp_ne C 90 d_Rf_told_78 (by decide) (fun c78 => ?_) (fun c78 => ?_)
            · refine hg_iload_n C 2 d_Rf_told_90 rfl rfl ?_
              refine hg_iconst (v := 4) C d_Rf_told_91 (by decide) ?_
              refine hg_icmp_ne C 104 d_Rf_told_92 (by decide) (fun c92 => ?_) (fun c92 => ?_)
              · refine hg_aload_n C 0 d_Rf_told_104 rfl rfl ?_
                refine f_Rf_48 C R4.1 rfl d_Rf_told_105 ?_
                refine hg_iload_n C 1 d_Rf_told_108 rfl rfl ?_
                have b109 : s < 20 := (by omega)
                refine hg_iald C 0 (R4.2.1 15 rfl) rfl (vp_in_nI (N := 20) b109 (by omega)) d_Rf_told_109 ?_
                refine hg_ti (congrArg (N 15) (nI_clamp (n := s) (by omega))) ?_
                exact hg_iretN C hr rfl d_Rf_told_110 (Nat.le_of_ble_eq_true rfl) (Nat.le_of_ble_eq_true rfl) (⟨by rw [sp_told, gd0 ⟨z1, z2⟩ trivial, ← eN, nI_clamp (n := s) (by omega), f_told, if_neg c36, if_neg c50, if_neg c64, if_neg c78, if_neg c92], by rw [sp_told, gd0 ⟨z1, z2⟩ trivial, ← eN]; exact R4⟩)
              · refine hg_aload_n C 0 d_Rf_told_95 rfl rfl ?_
                refine f_Rf_42 C R4.1 rfl d_Rf_told_96 ?_
                refine hg_iload_n C 1 d_Rf_told_99 rfl rfl ?_
                have b100 : s < 20 := (by omega)
                refine hg_iald C 0 (R4.2.1 13 rfl) rfl (vp_in_nI (N := 20) b100 (by omega)) d_Rf_told_100 ?_
                refine hg_ti (congrArg (N 13) (nI_clamp (n := s) (by omega))) ?_
                refine hg_goto C 110 d_Rf_told_101 (by decide) ?_
                exact hg_iretN C hr rfl d_Rf_told_110 (Nat.le_of_ble_eq_true rfl) (Nat.le_of_ble_eq_true rfl) (⟨by rw [sp_told, gd0 ⟨z1, z2⟩ trivial, ← eN, nI_clamp (n := s) (by omega), f_told, if_neg c36, if_neg c50, if_neg c64, if_neg c78, if_pos c92], by rw [sp_told, gd0 ⟨z1, z2⟩ trivial, ← eN]; exact R4⟩)
            · refine hg_aload_n C 0 d_Rf_told_81 rfl rfl ?_
              refine f_Rf_39 C R4.1 rfl d_Rf_told_82 ?_
              refine hg_iload_n C 1 d_Rf_told_85 rfl rfl ?_
              have b86 : s < 20 := (by omega)
              refine hg_iald C 0 (R4.2.1 12 rfl) rfl (vp_in_nI (N := 20) b86 (by omega)) d_Rf_told_86 ?_
              refine hg_ti (congrArg (N 12) (nI_clamp (n := s) (by omega))) ?_
              refine hg_goto C 110 d_Rf_told_87 (by decide) ?_
              exact hg_iretN C hr rfl d_Rf_told_110 (Nat.le_of_ble_eq_true rfl) (Nat.le_of_ble_eq_true rfl) (⟨by rw [sp_told, gd0 ⟨z1, z2⟩ trivial, ← eN, nI_clamp (n := s) (by omega), f_told, if_neg c36, if_neg c50, if_neg c64, if_pos c78], by rw [sp_told, gd0 ⟨z1, z2⟩ trivial, ← eN]; exact R4⟩)
          · refine hg_aload_n C 0 d_Rf_told_67 rfl rfl ?_
            refine f_Rf_36 C R4.1 rfl d_Rf_told_68 ?_
            refine hg_iload_n C 1 d_Rf_told_71 rfl rfl ?_
            have b72 : s < 20 := (by omega)
            refine hg_iald C 0 (R4.2.1 11 rfl) rfl (vp_in_nI (N := 20) b72 (by omega)) d_Rf_told_72 ?_
            refine hg_ti (congrArg (N 11) (nI_clamp (n := s) (by omega))) ?_
            refine hg_goto C 110 d_Rf_told_73 (by decide) ?_
            exact hg_iretN C hr rfl d_Rf_told_110 (Nat.le_of_ble_eq_true rfl) (Nat.le_of_ble_eq_true rfl) (⟨by rw [sp_told, gd0 ⟨z1, z2⟩ trivial, ← eN, nI_clamp (n := s) (by omega), f_told, if_neg c36, if_neg c50, if_pos c64], by rw [sp_told, gd0 ⟨z1, z2⟩ trivial, ← eN]; exact R4⟩)
        · refine hg_aload_n C 0 d_Rf_told_53 rfl rfl ?_
          refine f_Rf_33 C R4.1 rfl d_Rf_told_54 ?_
          refine hg_iload_n C 1 d_Rf_told_57 rfl rfl ?_
          have b58 : s < 20 := (by omega)
          refine hg_iald C 0 (R4.2.1 10 rfl) rfl (vp_in_nI (N := 20) b58 (by omega)) d_Rf_told_58 ?_
          refine hg_ti (congrArg (N 10) (nI_clamp (n := s) (by omega))) ?_
          refine hg_goto C 110 d_Rf_told_59 (by decide) ?_
          exact hg_iretN C hr rfl d_Rf_told_110 (Nat.le_of_ble_eq_true rfl) (Nat.le_of_ble_eq_true rfl) (⟨by rw [sp_told, gd0 ⟨z1, z2⟩ trivial, ← eN, nI_clamp (n := s) (by omega), f_told, if_neg c36, if_pos c50], by rw [sp_told, gd0 ⟨z1, z2⟩ trivial, ← eN]; exact R4⟩)
      · refine hg_aload_n C 0 d_Rf_told_39 rfl rfl ?_
        refine f_Rf_45 C R4.1 rfl d_Rf_told_40 ?_
        refine hg_iload_n C 1 d_Rf_told_43 rfl rfl ?_
        have b44 : s < 20 := (by omega)
        refine hg_iald C 0 (R4.2.1 14 rfl) rfl (vp_in_nI (N := 20) b44 (by omega)) d_Rf_told_44 ?_
        refine hg_ti (congrArg (N 14) (nI_clamp (n := s) (by omega))) ?_
        refine hg_goto C 110 d_Rf_told_45 (by decide) ?_
        exact hg_iretN C hr rfl d_Rf_told_110 (Nat.le_of_ble_eq_true rfl) (Nat.le_of_ble_eq_true rfl) (⟨by rw [sp_told, gd0 ⟨z1, z2⟩ trivial, ← eN, nI_clamp (n := s) (by omega), f_told, if_pos c36], by rw [sp_told, gd0 ⟨z1, z2⟩ trivial, ← eN]; exact R4⟩)
    · refine hg_if_eq C 25 d_Rf_told_18 (by decide) (fun _ => ?_) (fun z => absurd (by decide) z)
      refine hg_iconst (v := 0) C d_Rf_told_25 (by decide) ?_
      refine hg_iconst (v := 1) C d_Rf_told_26 (by decide) ?_
      refine hg_VNu (q := ("ModelMergeModel", T_Rf, 31)) C (k_Rf_goes1 l Γ _ r aa M hR 1) (cw_Rf_108 C.2.2.2.2.1 rfl rfl ⟨Nat.le_of_ble_eq_true rfl, Nat.le_of_ble_eq_true rfl⟩) hR.1 rfl rfl rfl (Nat.le_of_ble_eq_true rfl) d_Rf_told_27 ⟨Nat.le_of_ble_eq_true rfl, Nat.le_of_ble_eq_true rfl⟩ (fun h5 R6 => ?_)
      refine hg_if_ne C 35 d_Rf_told_30 (by decide) (fun z => absurd rfl z) (fun _ => ?_)
      refine hg_iconst (v := 0) C d_Rf_told_33 (by decide) ?_
      exact hg_iretN C hr rfl d_Rf_told_34 (Nat.le_of_ble_eq_true rfl) (Nat.le_of_ble_eq_true rfl) (⟨by rw [sp_told, gd1 (fun z => z2 (z.2))], by rw [sp_told, gd1 (fun z => z2 (z.2))]; exact R6⟩)
  · refine hg_if_eq C 25 d_Rf_told_9 (by decide) (fun _ => ?_) (fun z => absurd (by decide) z)
    refine hg_iconst (v := 0) C d_Rf_told_25 (by decide) ?_
    refine hg_iconst (v := 1) C d_Rf_told_26 (by decide) ?_
    refine hg_VNu (q := ("ModelMergeModel", T_Rf, 31)) C (k_Rf_goes1 l Γ _ r aa M hR 1) (cw_Rf_108 C.2.2.2.2.1 rfl rfl ⟨Nat.le_of_ble_eq_true rfl, Nat.le_of_ble_eq_true rfl⟩) hR.1 rfl rfl rfl (Nat.le_of_ble_eq_true rfl) d_Rf_told_27 ⟨Nat.le_of_ble_eq_true rfl, Nat.le_of_ble_eq_true rfl⟩ (fun h7 R8 => ?_)
    refine hg_if_ne C 35 d_Rf_told_30 (by decide) (fun z => absurd rfl z) (fun _ => ?_)
    refine hg_iconst (v := 0) C d_Rf_told_33 (by decide) ?_
    exact hg_iretN C hr rfl d_Rf_told_34 (Nat.le_of_ble_eq_true rfl) (Nat.le_of_ble_eq_true rfl) (⟨by rw [sp_told, gd1 (fun z => z1 (z.1))], by rw [sp_told, gd1 (fun z => z1 (z.1))]; exact R8⟩)
abbrev rm_Rf_author : Room := { frames := 1, cells := 0, slots := 0, locals := 22 }
set_option maxHeartbeats 4000000 in
set_option maxRecDepth 100000 in
theorem k_Rf_author (l : Launch) (Γ : Gam) (h : Pic) (r : Nat) (aa : Nat → Nat) (M : Mem) (hR : rf_at Γ r aa M h) (hI : Inv0 M) (v0 : Int32) : kN l Γ y_Rf_author w_Rf_author rm_Rf_author [.ref r, .int v0] h (fun q u => q = some (.int (sp_author M v0).2.1) ∧ rf_at Γ r aa (sp_author M v0).2.2 u) 0 0 := by
  refine hg_entryN (own := "ModelMergeModel") (cc := b_Rf_author) (maxL := 2) (ret := (some .int)) (lv0 := [(0, .ref r), (1, .int v0)]) (by decide) rfl rfl (Nat.le_of_ble_eq_true rfl) rfl ?_
  intro p9 e9 s9 m9 args below meth c9 A C hnm hr
  obtain ⟨⟨⟨eT, hT⟩, ⟨eV, hV1, hV⟩, ⟨eS, hS⟩, ⟨eR, hRR⟩, ⟨eC, hC⟩⟩, hI2, -⟩ := id hI
  refine hg_aload_n C 0 d_Rf_author_0 rfl rfl ?_
  refine hg_iload_n C 1 d_Rf_author_1 rfl rfl ?_
  refine hg_if_le C 17 d_Rf_author_2 (by decide) (fun c2 => ?_) (fun c2 => ?_)
  · refine hg_iconst (v := 0) C d_Rf_author_17 (by decide) ?_
    refine hg_iconst (v := 1) C d_Rf_author_18 (by decide) ?_
    refine hg_VNu (q := ("ModelMergeModel", T_Rf, 31)) C (k_Rf_goes1 l Γ _ r aa M hR 1) (cw_Rf_108 C.2.2.2.2.1 rfl rfl ⟨Nat.le_of_ble_eq_true rfl, Nat.le_of_ble_eq_true rfl⟩) hR.1 rfl rfl rfl (Nat.le_of_ble_eq_true rfl) d_Rf_author_19 ⟨Nat.le_of_ble_eq_true rfl, Nat.le_of_ble_eq_true rfl⟩ (fun h1 R2 => ?_)
    refine hg_if_eq C 34 d_Rf_author_22 (by decide) (fun _ => ?_) (fun z => absurd (by decide) z)
    refine hg_iconst (v := 0) C d_Rf_author_34 (by decide) ?_
    exact hg_iretN C hr rfl d_Rf_author_35 (Nat.le_of_ble_eq_true rfl) (Nat.le_of_ble_eq_true rfl) (⟨by rw [sp_author, gd1 (fun z => z.1 c2)], by rw [sp_author, gd1 (fun z => z.1 c2)]; exact R2⟩)
  · refine hg_iload_n C 1 d_Rf_author_5 rfl rfl ?_
    refine hg_aload_n C 0 d_Rf_author_6 rfl rfl ?_
    refine f_Rf_16 C hR.1 rfl d_Rf_author_7 ?_
    refine hg_ti eV ?_
    refine hg_icmp_ge C 17 d_Rf_author_10 (by decide) (fun c10 => ?_) (fun c10 => ?_)
    · refine hg_iconst (v := 0) C d_Rf_author_17 (by decide) ?_
      refine hg_iconst (v := 1) C d_Rf_author_18 (by decide) ?_
      refine hg_VNu (q := ("ModelMergeModel", T_Rf, 31)) C (k_Rf_goes1 l Γ _ r aa M hR 1) (cw_Rf_108 C.2.2.2.2.1 rfl rfl ⟨Nat.le_of_ble_eq_true rfl, Nat.le_of_ble_eq_true rfl⟩) hR.1 rfl rfl rfl (Nat.le_of_ble_eq_true rfl) d_Rf_author_19 ⟨Nat.le_of_ble_eq_true rfl, Nat.le_of_ble_eq_true rfl⟩ (fun h3 R4 => ?_)
      refine hg_if_eq C 34 d_Rf_author_22 (by decide) (fun _ => ?_) (fun z => absurd (by decide) z)
      refine hg_iconst (v := 0) C d_Rf_author_34 (by decide) ?_
      exact hg_iretN C hr rfl d_Rf_author_35 (Nat.le_of_ble_eq_true rfl) (Nat.le_of_ble_eq_true rfl) (⟨by rw [sp_author, gd1 (fun z => z.2 c10)], by rw [sp_author, gd1 (fun z => z.2 c10)]; exact R4⟩)
    · obtain ⟨v, hv, rfl⟩ := inr_nat (n := nV M) ⟨fun z => c2 (Int32.le_of_lt z), c10⟩ (by omega)
      refine hg_iconst (v := 1) C d_Rf_author_13 (by decide) ?_
      refine hg_goto C 18 d_Rf_author_14 (by decide) ?_
      refine hg_iconst (v := 1) C d_Rf_author_18 (by decide) ?_
      refine hg_VNu (q := ("ModelMergeModel", T_Rf, 31)) C (k_Rf_goes0 l Γ _ r aa M hR) (cw_Rf_108 C.2.2.2.2.1 rfl rfl ⟨Nat.le_of_ble_eq_true rfl, Nat.le_of_ble_eq_true rfl⟩) hR.1 rfl rfl rfl (Nat.le_of_ble_eq_true rfl) d_Rf_author_19 ⟨Nat.le_of_ble_eq_true rfl, Nat.le_of_ble_eq_true rfl⟩ (fun h5 R6 => ?_)
      obtain ⟨N, eN⟩ : ∃ z, z = mset M 0 0 0 := ⟨_, rfl⟩
      rw [← eN] at R6
      have hN : Inv0 N := by rw [eN]; exact Inv0_code 0 hI
      have qS : nS N = nS M := by rw [eN]; rfl
      have qT : nT N = nT M := by rw [eN]; rfl
      have qV : nV N = nV M := by rw [eN]; rfl
      have qR : nR N = nR M := by rw [eN]; rfl
      have qC : nC N = nC M := by rw [eN]; rfl
      obtain ⟨⟨⟨fT, gT⟩, ⟨fV, gV1, gV⟩, ⟨fS, gS⟩, ⟨fR, gR⟩, ⟨fC, gC⟩⟩, hN2, -⟩ := id hN
      refine hg_if_eq C 34 d_Rf_author_22 (by decide) (fun z => absurd z (by decide)) (fun _ => ?_)
      refine hg_aload_n C 0 d_Rf_author_25 rfl rfl ?_
      refine f_Rf_30 C R6.1 rfl d_Rf_author_26 ?_
      refine hg_iload_n C 1 d_Rf_author_29 rfl rfl ?_
      have b30 : v < 40 := (by omega)
      refine hg_iald C 0 (R6.2.1 8 rfl) rfl (vp_in_nI (N := 40) b30 (by omega)) d_Rf_author_30 ?_
      refine hg_ti (congrArg (N 8) (nI_clamp (n := v) (by omega))) ?_
      refine hg_goto C 35 d_Rf_author_31 (by decide) ?_
      exact hg_iretN C hr rfl d_Rf_author_35 (Nat.le_of_ble_eq_true rfl) (Nat.le_of_ble_eq_true rfl) (⟨by rw [sp_author, gd0 ⟨c2, c10⟩ trivial, nI_clamp (n := v) (by omega), eN]; rfl, by rw [sp_author, gd0 ⟨c2, c10⟩ trivial, ← eN]; exact R6⟩)
abbrev rm_Rf_count : Room := { frames := 1, cells := 0, slots := 0, locals := 22 }
set_option maxHeartbeats 4000000 in
set_option maxRecDepth 100000 in
theorem k_Rf_count (l : Launch) (Γ : Gam) (h : Pic) (r : Nat) (aa : Nat → Nat) (M : Mem) (hR : rf_at Γ r aa M h) (hI : Inv0 M) (w0 : Int32) : kN l Γ y_Rf_count w_Rf_count rm_Rf_count [.ref r, .int w0] h (fun q u => q = some (.int (sp_count M w0).2.1) ∧ rf_at Γ r aa (sp_count M w0).2.2 u) 0 0 := by
  refine hg_entryN (own := "ModelMergeModel") (cc := b_Rf_count) (maxL := 2) (ret := (some .int)) (lv0 := [(0, .ref r), (1, .int w0)]) (by decide) rfl rfl (Nat.le_of_ble_eq_true rfl) rfl ?_
  intro p9 e9 s9 m9 args below meth c9 A C hnm hr
  obtain ⟨⟨⟨eT, hT⟩, ⟨eV, hV1, hV⟩, ⟨eS, hS⟩, ⟨eR, hRR⟩, ⟨eC, hC⟩⟩, hI2, -⟩ := id hI
  refine hg_aload_n C 0 d_Rf_count_0 rfl rfl ?_
  refine hg_iload_n C 1 d_Rf_count_1 rfl rfl ?_
  refine hg_iconst (v := 4) C d_Rf_count_2 (by decide) ?_
  refine hg_SNb C (k_Rf_isIn l Γ _ w0 4) (cw_Rf_101 C.2.2.2.2.1 rfl rfl ⟨Nat.le_of_ble_eq_true rfl, Nat.le_of_ble_eq_true rfl⟩) rfl rfl (Nat.le_of_ble_eq_true rfl) d_Rf_count_3 ⟨Nat.le_of_ble_eq_true rfl, Nat.le_of_ble_eq_true rfl⟩ (fun z1 => ?_) (fun z1 => ?_)
  · refine hg_iconst (v := 1) C d_Rf_count_6 (by decide) ?_
    refine hg_VNu (q := ("ModelMergeModel", T_Rf, 31)) C (k_Rf_goes0 l Γ _ r aa M hR) (cw_Rf_108 C.2.2.2.2.1 rfl rfl ⟨Nat.le_of_ble_eq_true rfl, Nat.le_of_ble_eq_true rfl⟩) hR.1 rfl rfl rfl (Nat.le_of_ble_eq_true rfl) d_Rf_count_7 ⟨Nat.le_of_ble_eq_true rfl, Nat.le_of_ble_eq_true rfl⟩ (fun h2 R3 => ?_)
    obtain ⟨N, eN⟩ : ∃ z, z = mset M 0 0 0 := ⟨_, rfl⟩
    rw [← eN] at R3
    have hN : Inv0 N := by rw [eN]; exact Inv0_code 0 hI
    have qS : nS N = nS M := by rw [eN]; rfl
    have qT : nT N = nT M := by rw [eN]; rfl
    have qV : nV N = nV M := by rw [eN]; rfl
    have qR : nR N = nR M := by rw [eN]; rfl
    have qC : nC N = nC M := by rw [eN]; rfl
    obtain ⟨⟨⟨fT, gT⟩, ⟨fV, gV1, gV⟩, ⟨fS, gS⟩, ⟨fR, gR⟩, ⟨fC, gC⟩⟩, hN2, -⟩ := id hN
    refine hg_if_ne C 15 d_Rf_count_10 (by decide) (fun _ => ?_) (fun z => absurd z (by decide))
    refine hg_iload_n C 1 d_Rf_count_15 rfl rfl ?_
    refine hg_if_ne C 26 d_Rf_count_16 (by decide) (fun c16 => ?_) (fun c16 => ?_)
    · refine hg_iload_n C 1 d_Rf_count_26 rfl rfl ?_
      refine hg_iconst (v := 1) C d_Rf_count_27 (by decide) ?_
      refine hg_icmp_ne C 38 d_Rf_count_28 (by decide) (fun c28 => ?_) (fun c28 => ?_)
      · refine hg_iload_n C 1 d_Rf_count_38 rfl rfl ?_
        refine hg_iconst (v := 2) C d_Rf_count_39 (by decide) ?_
        refine hg_icmp_ne C 50 d_Rf_count_40 (by decide) (fun c40 => ?_) (fun c40 => ?_)
        · refine hg_aload_n C 0 d_Rf_count_50 rfl rfl ?_
          refine f_Rf_130 C R3.1 rfl d_Rf_count_51 ?_
          refine hg_ti fR ?_
          exact hg_iretN C hr rfl d_Rf_count_54 (Nat.le_of_ble_eq_true rfl) (Nat.le_of_ble_eq_true rfl) (⟨by rw [sp_count, gd0 z1 trivial, if_neg c16, if_neg c28, if_neg c40, qR], by rw [sp_count, gd0 z1 trivial, ← eN]; exact R3⟩)
        · refine hg_aload_n C 0 d_Rf_count_43 rfl rfl ?_
          refine f_Rf_105 C R3.1 rfl d_Rf_count_44 ?_
          refine hg_ti fS ?_
          refine hg_goto C 54 d_Rf_count_47 (by decide) ?_
          exact hg_iretN C hr rfl d_Rf_count_54 (Nat.le_of_ble_eq_true rfl) (Nat.le_of_ble_eq_true rfl) (⟨by rw [sp_count, gd0 z1 trivial, if_neg c16, if_neg c28, if_pos c40, qS], by rw [sp_count, gd0 z1 trivial, ← eN]; exact R3⟩)
      · refine hg_aload_n C 0 d_Rf_count_31 rfl rfl ?_
        refine f_Rf_116 C R3.1 rfl d_Rf_count_32 ?_
        refine hg_ti fT ?_
        refine hg_goto C 54 d_Rf_count_35 (by decide) ?_
        exact hg_iretN C hr rfl d_Rf_count_54 (Nat.le_of_ble_eq_true rfl) (Nat.le_of_ble_eq_true rfl) (⟨by rw [sp_count, gd0 z1 trivial, if_neg c16, if_pos c28, qT], by rw [sp_count, gd0 z1 trivial, ← eN]; exact R3⟩)
    · refine hg_aload_n C 0 d_Rf_count_19 rfl rfl ?_
      refine f_Rf_16 C R3.1 rfl d_Rf_count_20 ?_
      refine hg_ti fV ?_
      refine hg_goto C 54 d_Rf_count_23 (by decide) ?_
      exact hg_iretN C hr rfl d_Rf_count_54 (Nat.le_of_ble_eq_true rfl) (Nat.le_of_ble_eq_true rfl) (⟨by rw [sp_count, gd0 z1 trivial, if_pos c16, qV], by rw [sp_count, gd0 z1 trivial, ← eN]; exact R3⟩)
  · refine hg_iconst (v := 1) C d_Rf_count_6 (by decide) ?_
    refine hg_VNu (q := ("ModelMergeModel", T_Rf, 31)) C (k_Rf_goes1 l Γ _ r aa M hR 1) (cw_Rf_108 C.2.2.2.2.1 rfl rfl ⟨Nat.le_of_ble_eq_true rfl, Nat.le_of_ble_eq_true rfl⟩) hR.1 rfl rfl rfl (Nat.le_of_ble_eq_true rfl) d_Rf_count_7 ⟨Nat.le_of_ble_eq_true rfl, Nat.le_of_ble_eq_true rfl⟩ (fun h4 R5 => ?_)
    refine hg_if_ne C 15 d_Rf_count_10 (by decide) (fun z => absurd rfl z) (fun _ => ?_)
    refine hg_iconst (v := 0) C d_Rf_count_13 (by decide) ?_
    exact hg_iretN C hr rfl d_Rf_count_14 (Nat.le_of_ble_eq_true rfl) (Nat.le_of_ble_eq_true rfl) (⟨by rw [sp_count, gd1 (fun z => z1 (z))], by rw [sp_count, gd1 (fun z => z1 (z))]; exact R5⟩)
abbrev rm_Rf_giveUp : Room := { frames := 0, cells := 0, slots := 0, locals := 0 }
set_option maxHeartbeats 4000000 in
set_option maxRecDepth 100000 in
theorem k_Rf_giveUp (l : Launch) (Γ : Gam) (h : Pic) (r : Nat) (aa : Nat → Nat) (M : Mem) (hR : rf_at Γ r aa M h) (hI : Inv0 M) : kN l Γ y_Rf_giveUp w_Rf_giveUp rm_Rf_giveUp [.ref r] h (fun q u => q = some (.int (sp_giveUp M).2.1) ∧ rf_at Γ r aa (sp_giveUp M).2.2 u) 0 0 := by
  refine hg_entryN (own := "ModelMergeModel") (cc := b_Rf_giveUp) (maxL := 2) (ret := (some .int)) (lv0 := [(0, .ref r)]) (by decide) rfl rfl (Nat.le_of_ble_eq_true rfl) rfl ?_
  intro p9 e9 s9 m9 args below meth c9 A C hnm hr
  obtain ⟨⟨⟨eT, hT⟩, ⟨eV, hV1, hV⟩, ⟨eS, hS⟩, ⟨eR, hRR⟩, ⟨eC, hC⟩⟩, hI2, -, -, -, hI6, -⟩ := id hI
  refine hg_aload_n C 0 d_Rf_giveUp_0 rfl rfl ?_
  refine hg_aload_n C 0 d_Rf_giveUp_1 rfl rfl ?_
  refine f_Rf_78 C hR.1 rfl d_Rf_giveUp_2 ?_
  refine hg_if_ge C 12 d_Rf_giveUp_5 (by decide) (fun c5 => ?_) (fun c5 => ?_)
  · refine hg_iconst (v := 0) C d_Rf_giveUp_12 (by decide) ?_
    refine p_Rf_90 (fs' := rf_fs aa (mset M 0 0 0)) C hR.1 rfl rfl (Nat.le_of_ble_eq_true rfl) rfl d_Rf_giveUp_13 ?_
    obtain ⟨h1, eh1⟩ : ∃ z, z = hp_up h r (.inr (7, rf_fs aa (mset M 0 0 0))) := ⟨_, rfl⟩
    refine hg_eq eh1.symm ?_
    have R3 : rf_at Γ r aa (mset M 0 0 0) h1 := by rw [eh1]; exact rf_set hR 0 0 rfl
    obtain ⟨M2, eM2⟩ : ∃ z, z = mset M 0 0 0 := ⟨_, rfl⟩
    rw [← eM2] at R3
    refine hg_aload_n C 0 d_Rf_giveUp_16 rfl rfl ?_
    refine f_Rf_90 C R3.1 rfl d_Rf_giveUp_17 ?_
    refine hg_ti (show M2 0 0 = 0 by rw [eM2, mset_s, pk_us]) ?_
    refine hg_if_le C 25 d_Rf_giveUp_20 (by decide) (fun _ => ?_) (fun z => absurd (by decide) z)
    refine hg_aload_n C 0 d_Rf_giveUp_25 rfl rfl ?_
    obtain ⟨s, hs, e26, -, -⟩ : ∃ s, s < nS M ∧ M 26 0 = nI s ∧ M 14 s = 1 ∧ nV M < 40 := by
      rcases hI6 with z | z
      · rw [z] at c5; exact absurd c5 (by decide)
      · exact z
    refine f_Rf_78 C R3.1 rfl d_Rf_giveUp_26 ?_
    refine hg_ti (show M2 26 0 = M 26 0 by rw [eM2, mset_n (by decide)]) ?_
    refine hg_ti e26 ?_
    refine hg_istore_n (lv' := [(1, .int (nI s)), (0, .ref r)]) C d_Rf_giveUp_29 rfl (by decide) rfl ?_
    refine hg_aload_n C 1 d_Rf_giveUp_30 rfl rfl ?_
    refine f_Rf_45 C R3.1 rfl d_Rf_giveUp_31 ?_
    refine hg_iload_n C 0 d_Rf_giveUp_34 rfl rfl ?_
    refine hg_iconst (v := 0) C d_Rf_giveUp_35 (by decide) ?_
    have b36 : s < 20 := (by omega)
    refine hg_iast C 0 (R3.2.1 14 rfl) rfl (vp_in_nI (N := 20) b36 (by omega)) d_Rf_giveUp_36 ?_
    obtain ⟨h4, eh4⟩ : ∃ z, z = hp_up h1 (aa 14) (.inl (Γ.2.1 0, 20, .inl (upd (M2 14) (nI s : Int32).toNatClampNeg 0))) := ⟨_, rfl⟩
    refine hg_eq eh4.symm ?_
    have R6 : rf_at Γ r aa (mset M2 14 s 0) h4 := by rw [eh4]; rw [nI_clamp (n := s) (by omega)]; exact rf_put R3 14 s 0 rfl
    obtain ⟨M5, eM5⟩ : ∃ z, z = mset M2 14 s 0 := ⟨_, rfl⟩
    rw [← eM5] at R6
    refine hg_aload_n C 1 d_Rf_giveUp_37 rfl rfl ?_
    refine hg_iconst (v := (-1)) C d_Rf_giveUp_38 (by decide) ?_
    refine p_Rf_78 (fs' := rf_fs aa (mset M5 26 0 (-1))) C R6.1 rfl rfl (Nat.le_of_ble_eq_true rfl) rfl d_Rf_giveUp_39 ?_
    obtain ⟨h7, eh7⟩ : ∃ z, z = hp_up h4 r (.inr (7, rf_fs aa (mset M5 26 0 (-1)))) := ⟨_, rfl⟩
    refine hg_eq eh7.symm ?_
    have R9 : rf_at Γ r aa (mset M5 26 0 (-1)) h7 := by rw [eh7]; exact rf_set R6 26 (-1) rfl
    obtain ⟨M8, eM8⟩ : ∃ z, z = mset M5 26 0 (-1) := ⟨_, rfl⟩
    rw [← eM8] at R9
    refine hg_iload_n C 0 d_Rf_giveUp_42 rfl rfl ?_
    exact hg_iretN C hr rfl d_Rf_giveUp_43 (Nat.le_of_ble_eq_true rfl) (Nat.le_of_ble_eq_true rfl) (⟨by rw [sp_giveUp, gd0 (Int32.not_lt.mpr c5) trivial, e26], by rw [sp_giveUp, gd0 (Int32.not_lt.mpr c5) trivial, e26, nI_clamp (by omega)]; rw [eM8, eM5, eM2] at R9; exact R9⟩)
  · refine hg_iconst (v := 1) C d_Rf_giveUp_8 (by decide) ?_
    refine hg_goto C 13 d_Rf_giveUp_9 (by decide) ?_
    refine p_Rf_90 (fs' := rf_fs aa (mset M 0 0 1)) C hR.1 rfl rfl (Nat.le_of_ble_eq_true rfl) rfl d_Rf_giveUp_13 ?_
    obtain ⟨h10, eh10⟩ : ∃ z, z = hp_up h r (.inr (7, rf_fs aa (mset M 0 0 1))) := ⟨_, rfl⟩
    refine hg_eq eh10.symm ?_
    have R12 : rf_at Γ r aa (mset M 0 0 1) h10 := by rw [eh10]; exact rf_set hR 0 1 rfl
    obtain ⟨M11, eM11⟩ : ∃ z, z = mset M 0 0 1 := ⟨_, rfl⟩
    rw [← eM11] at R12
    refine hg_aload_n C 0 d_Rf_giveUp_16 rfl rfl ?_
    refine f_Rf_90 C R12.1 rfl d_Rf_giveUp_17 ?_
    refine hg_ti (show M11 0 0 = 1 by rw [eM11, mset_s, pk_us]) ?_
    refine hg_if_le C 25 d_Rf_giveUp_20 (by decide) (fun z => absurd z (by decide)) (fun _ => ?_)
    refine hg_iconst (v := 0) C d_Rf_giveUp_23 (by decide) ?_
    exact hg_iretN C hr rfl d_Rf_giveUp_24 (Nat.le_of_ble_eq_true rfl) (Nat.le_of_ble_eq_true rfl) (⟨by rw [sp_giveUp, gd1 (fun z => z (Int32.not_le.mp c5))], by rw [sp_giveUp, gd1 (fun z => z (Int32.not_le.mp c5))]; rw [eM11] at R12; exact R12⟩)
abbrev rm_Rf_here2 : Room := { frames := 2, cells := 0, slots := 0, locals := 47 }
set_option maxHeartbeats 4000000 in
set_option maxRecDepth 100000 in
theorem k_Rf_here2 (l : Launch) (Γ : Gam) (h : Pic) (r : Nat) (aa : Nat → Nat) (M : Mem) (hR : rf_at Γ r aa M h) (hI : Inv0 M) (s0 t0 : Int32) : kN l Γ y_Rf_here2 w_Rf_here2 rm_Rf_here2 [.ref r, .int s0, .int t0] h (fun q u => q = some (.int (sp_here M s0 t0).2.1) ∧ rf_at Γ r aa (sp_here M s0 t0).2.2 u) 0 0 := by
  refine hg_entryN (own := "ModelMergeModel") (cc := b_Rf_here2) (maxL := 3) (ret := (some .int)) (lv0 := [(0, .ref r), (1, .int s0), (2, .int t0)]) (by decide) rfl rfl (Nat.le_of_ble_eq_true rfl) rfl ?_
  intro p9 e9 s9 m9 args below meth c9 A C hnm hr
  obtain ⟨⟨⟨eT, hT⟩, ⟨eV, hV1, hV⟩, ⟨eS, hS⟩, ⟨eR, hRR⟩, ⟨eC, hC⟩⟩, hI2, -⟩ := id hI
  refine hg_aload_n C 0 d_Rf_here2_0 rfl rfl ?_
  refine hg_iload_n C 1 d_Rf_here2_1 rfl rfl ?_
  refine hg_aload_n C 0 d_Rf_here2_2 rfl rfl ?_
  refine f_Rf_105 C hR.1 rfl d_Rf_here2_3 ?_
  refine hg_ti eS ?_
  refine hg_SNb C (k_Rf_isIn l Γ _ s0 (nI (nS M))) (cw_Rf_101 C.2.2.2.2.1 rfl rfl ⟨Nat.le_of_ble_eq_true rfl, Nat.le_of_ble_eq_true rfl⟩) rfl rfl (Nat.le_of_ble_eq_true rfl) d_Rf_here2_6 ⟨Nat.le_of_ble_eq_true rfl, Nat.le_of_ble_eq_true rfl⟩ (fun z1 => ?_) (fun z1 => ?_)
  · obtain ⟨s, hs, rfl⟩ := inr_nat (n := nS M) (id z1) (by omega)
    refine hg_if_eq C 27 d_Rf_here2_9 (by decide) (fun z => absurd z (by decide)) (fun _ => ?_)
    refine hg_iload_n C 2 d_Rf_here2_12 rfl rfl ?_
    refine hg_aload_n C 0 d_Rf_here2_13 rfl rfl ?_
    refine f_Rf_116 C hR.1 rfl d_Rf_here2_14 ?_
    refine hg_ti eT ?_
    refine hg_SNb C (k_Rf_isIn l Γ _ t0 (nI (nT M))) (cw_Rf_101 C.2.2.2.2.1 rfl rfl ⟨Nat.le_of_ble_eq_true rfl, Nat.le_of_ble_eq_true rfl⟩) rfl rfl (Nat.le_of_ble_eq_true rfl) d_Rf_here2_17 ⟨Nat.le_of_ble_eq_true rfl, Nat.le_of_ble_eq_true rfl⟩ (fun z2 => ?_) (fun z2 => ?_)
    · obtain ⟨t, ht, rfl⟩ := inr_nat (n := nT M) (id z2) (by omega)
      refine hg_if_eq C 27 d_Rf_here2_20 (by decide) (fun z => absurd z (by decide)) (fun _ => ?_)
      refine hg_iconst (v := 1) C d_Rf_here2_23 (by decide) ?_
      refine hg_goto C 28 d_Rf_here2_24 (by decide) ?_
      refine hg_iconst (v := 1) C d_Rf_here2_28 (by decide) ?_
      refine hg_VNu (q := ("ModelMergeModel", T_Rf, 31)) C (k_Rf_goes0 l Γ _ r aa M hR) (cw_Rf_108 C.2.2.2.2.1 rfl rfl ⟨Nat.le_of_ble_eq_true rfl, Nat.le_of_ble_eq_true rfl⟩) hR.1 rfl rfl rfl (Nat.le_of_ble_eq_true rfl) d_Rf_here2_29 ⟨Nat.le_of_ble_eq_true rfl, Nat.le_of_ble_eq_true rfl⟩ (fun h3 R4 => ?_)
      obtain ⟨N, eN⟩ : ∃ z, z = mset M 0 0 0 := ⟨_, rfl⟩
      rw [← eN] at R4
      have hN : Inv0 N := by rw [eN]; exact Inv0_code 0 hI
      have qS : nS N = nS M := by rw [eN]; rfl
      have qT : nT N = nT M := by rw [eN]; rfl
      have qV : nV N = nV M := by rw [eN]; rfl
      have qR : nR N = nR M := by rw [eN]; rfl
      have qC : nC N = nC M := by rw [eN]; rfl
      obtain ⟨⟨⟨fT, gT⟩, ⟨fV, gV1, gV⟩, ⟨fS, gS⟩, ⟨fR, gR⟩, ⟨fC, gC⟩⟩, hN2, -⟩ := id hN
      rw [← qS] at hs
      refine hg_if_eq C 48 d_Rf_here2_32 (by decide) (fun z => absurd z (by decide)) (fun _ => ?_)
      refine hg_aload_n C 0 d_Rf_here2_35 rfl rfl ?_
      refine hg_iload_n C 1 d_Rf_here2_36 rfl rfl ?_
      refine hg_iload_n C 2 d_Rf_here2_37 rfl rfl ?_
      refine hg_VNv (q := ("ModelMergeModel", T_Rf, 31)) C (k_Rf_isHere l Γ _ r aa N R4 hN s t (by omega) (by omega)) (cw_Rf_123 C.2.2.2.2.1 rfl rfl ⟨Nat.le_of_ble_eq_true rfl, Nat.le_of_ble_eq_true rfl⟩) R4.1 rfl rfl rfl (Nat.le_of_ble_eq_true rfl) d_Rf_here2_38 ⟨Nat.le_of_ble_eq_true rfl, Nat.le_of_ble_eq_true rfl⟩ (fun _ => ?_)
      refine hg_if_eq C 48 d_Rf_here2_41 (by decide) (fun c41 => ?_) (fun c41 => ?_)
      · refine hg_iconst (v := 0) C d_Rf_here2_48 (by decide) ?_
        exact hg_iretN C hr rfl d_Rf_here2_49 (Nat.le_of_ble_eq_true rfl) (Nat.le_of_ble_eq_true rfl) (⟨by rw [sp_here, gd0 ⟨z1, z2⟩ trivial, ← eN, nI_clamp (n := s) (by omega), nI_clamp (n := t) (by omega), show sd M s = sd N s by rw [eN]; rfl, if_pos c41], by rw [sp_here, gd0 ⟨z1, z2⟩ trivial, ← eN]; exact R4⟩)
      · refine hg_iconst (v := 1) C d_Rf_here2_44 (by decide) ?_
        refine hg_goto C 49 d_Rf_here2_45 (by decide) ?_
        exact hg_iretN C hr rfl d_Rf_here2_49 (Nat.le_of_ble_eq_true rfl) (Nat.le_of_ble_eq_true rfl) (⟨by rw [sp_here, gd0 ⟨z1, z2⟩ trivial, ← eN, nI_clamp (n := s) (by omega), nI_clamp (n := t) (by omega), show sd M s = sd N s by rw [eN]; rfl, if_neg c41], by rw [sp_here, gd0 ⟨z1, z2⟩ trivial, ← eN]; exact R4⟩)
    · refine hg_if_eq C 27 d_Rf_here2_20 (by decide) (fun _ => ?_) (fun z => absurd (by decide) z)
      refine hg_iconst (v := 0) C d_Rf_here2_27 (by decide) ?_
      refine hg_iconst (v := 1) C d_Rf_here2_28 (by decide) ?_
      refine hg_VNu (q := ("ModelMergeModel", T_Rf, 31)) C (k_Rf_goes1 l Γ _ r aa M hR 1) (cw_Rf_108 C.2.2.2.2.1 rfl rfl ⟨Nat.le_of_ble_eq_true rfl, Nat.le_of_ble_eq_true rfl⟩) hR.1 rfl rfl rfl (Nat.le_of_ble_eq_true rfl) d_Rf_here2_29 ⟨Nat.le_of_ble_eq_true rfl, Nat.le_of_ble_eq_true rfl⟩ (fun h5 R6 => ?_)
      refine hg_if_eq C 48 d_Rf_here2_32 (by decide) (fun _ => ?_) (fun z => absurd (by decide) z)
      refine hg_iconst (v := 0) C d_Rf_here2_48 (by decide) ?_
      exact hg_iretN C hr rfl d_Rf_here2_49 (Nat.le_of_ble_eq_true rfl) (Nat.le_of_ble_eq_true rfl) (⟨by rw [sp_here, gd1 (fun z => z2 (z.2))], by rw [sp_here, gd1 (fun z => z2 (z.2))]; exact R6⟩)
  · refine hg_if_eq C 27 d_Rf_here2_9 (by decide) (fun _ => ?_) (fun z => absurd (by decide) z)
    refine hg_iconst (v := 0) C d_Rf_here2_27 (by decide) ?_
    refine hg_iconst (v := 1) C d_Rf_here2_28 (by decide) ?_
    refine hg_VNu (q := ("ModelMergeModel", T_Rf, 31)) C (k_Rf_goes1 l Γ _ r aa M hR 1) (cw_Rf_108 C.2.2.2.2.1 rfl rfl ⟨Nat.le_of_ble_eq_true rfl, Nat.le_of_ble_eq_true rfl⟩) hR.1 rfl rfl rfl (Nat.le_of_ble_eq_true rfl) d_Rf_here2_29 ⟨Nat.le_of_ble_eq_true rfl, Nat.le_of_ble_eq_true rfl⟩ (fun h7 R8 => ?_)
    refine hg_if_eq C 48 d_Rf_here2_32 (by decide) (fun _ => ?_) (fun z => absurd (by decide) z)
    refine hg_iconst (v := 0) C d_Rf_here2_48 (by decide) ?_
    exact hg_iretN C hr rfl d_Rf_here2_49 (Nat.le_of_ble_eq_true rfl) (Nat.le_of_ble_eq_true rfl) (⟨by rw [sp_here, gd1 (fun z => z1 (z.1))], by rw [sp_here, gd1 (fun z => z1 (z.1))]; exact R8⟩)
abbrev rm_Rf_now : Room := { frames := 2, cells := 0, slots := 0, locals := 49 }
set_option maxHeartbeats 4000000 in
set_option maxRecDepth 100000 in
theorem k_Rf_now (l : Launch) (Γ : Gam) (h : Pic) (r : Nat) (aa : Nat → Nat) (M : Mem) (hR : rf_at Γ r aa M h) (hI : Inv0 M) (hZ : I_zer M) (s0 t0 f0 : Int32) : kN l Γ y_Rf_now w_Rf_now rm_Rf_now [.ref r, .int s0, .int t0, .int f0] h (fun q u => q = some (.int (sp_now M s0 t0 f0).2.1) ∧ rf_at Γ r aa (sp_now M s0 t0 f0).2.2 u) 0 0 := by
  refine hg_entryN (own := "ModelMergeModel") (cc := b_Rf_now) (maxL := 5) (ret := (some .int)) (lv0 := [(0, .ref r), (1, .int s0), (2, .int t0), (3, .int f0)]) (by decide) rfl rfl (Nat.le_of_ble_eq_true rfl) rfl ?_
  intro p9 e9 s9 m9 args below meth c9 A C hnm hr
  obtain ⟨⟨⟨eT, hT⟩, ⟨eV, hV1, hV⟩, ⟨eS, hS⟩, ⟨eR, hRR⟩, ⟨eC, hC⟩⟩, hI2, -⟩ := id hI
  refine hg_iload_n C 1 d_Rf_now_0 rfl rfl ?_
  refine hg_aload_n C 0 d_Rf_now_1 rfl rfl ?_
  refine f_Rf_105 C hR.1 rfl d_Rf_now_2 ?_
  refine hg_ti eS ?_
  refine hg_SNb C (k_Rf_isIn l Γ _ s0 (nI (nS M))) (cw_Rf_101 C.2.2.2.2.1 rfl rfl ⟨Nat.le_of_ble_eq_true rfl, Nat.le_of_ble_eq_true rfl⟩) rfl rfl (Nat.le_of_ble_eq_true rfl) d_Rf_now_5 ⟨Nat.le_of_ble_eq_true rfl, Nat.le_of_ble_eq_true rfl⟩ (fun z1 => ?_) (fun z1 => ?_)
  · obtain ⟨s, hs, rfl⟩ := inr_nat (n := nS M) (id z1) (by omega)
    refine hg_if_eq C 34 d_Rf_now_8 (by decide) (fun z => absurd z (by decide)) (fun _ => ?_)
    refine hg_iload_n C 2 d_Rf_now_11 rfl rfl ?_
    refine hg_aload_n C 0 d_Rf_now_12 rfl rfl ?_
    refine f_Rf_116 C hR.1 rfl d_Rf_now_13 ?_
    refine hg_ti eT ?_
    refine hg_SNb C (k_Rf_isIn l Γ _ t0 (nI (nT M))) (cw_Rf_101 C.2.2.2.2.1 rfl rfl ⟨Nat.le_of_ble_eq_true rfl, Nat.le_of_ble_eq_true rfl⟩) rfl rfl (Nat.le_of_ble_eq_true rfl) d_Rf_now_16 ⟨Nat.le_of_ble_eq_true rfl, Nat.le_of_ble_eq_true rfl⟩ (fun z2 => ?_) (fun z2 => ?_)
    · obtain ⟨t, ht, rfl⟩ := inr_nat (n := nT M) (id z2) (by omega)
      refine hg_if_eq C 34 d_Rf_now_19 (by decide) (fun z => absurd z (by decide)) (fun _ => ?_)
      refine hg_iload_n C 3 d_Rf_now_22 rfl rfl ?_
      refine hg_iconst (v := 5) C d_Rf_now_23 (by decide) ?_
      refine hg_SNb C (k_Rf_isIn l Γ _ f0 5) (cw_Rf_101 C.2.2.2.2.1 rfl rfl ⟨Nat.le_of_ble_eq_true rfl, Nat.le_of_ble_eq_true rfl⟩) rfl rfl (Nat.le_of_ble_eq_true rfl) d_Rf_now_24 ⟨Nat.le_of_ble_eq_true rfl, Nat.le_of_ble_eq_true rfl⟩ (fun z3 => ?_) (fun z3 => ?_)
      · obtain ⟨f, hf, rfl⟩ := inr_nat (n := 5) (id z3) (by omega)
        refine hg_if_eq C 34 d_Rf_now_27 (by decide) (fun z => absurd z (by decide)) (fun _ => ?_)
        refine hg_iconst (v := 1) C d_Rf_now_30 (by decide) ?_
        refine hg_goto C 35 d_Rf_now_31 (by decide) ?_
        refine hg_istore (lv' := [(4, .int 1), (0, .ref r), (1, .int (nI s)), (2, .int (nI t)), (3, .int (nI f))]) C d_Rf_now_35 (by decide) rfl ?_
        refine hg_aload_n C 1 d_Rf_now_37 rfl rfl ?_
        refine hg_iload C 0 d_Rf_now_38 rfl ?_
        refine hg_if_eq C 56 d_Rf_now_40 (by decide) (fun z => absurd z (by decide)) (fun _ => ?_)
        refine hg_aload_n C 1 d_Rf_now_43 rfl rfl ?_
        refine hg_iload_n C 2 d_Rf_now_44 rfl rfl ?_
        refine hg_iload_n C 3 d_Rf_now_45 rfl rfl ?_
        refine hg_VNv (q := ("ModelMergeModel", T_Rf, 31)) C (k_Rf_isHere l Γ _ r aa M hR hI s t (by omega) (by omega)) (cw_Rf_123 C.2.2.2.2.1 rfl rfl ⟨Nat.le_of_ble_eq_true rfl, Nat.le_of_ble_eq_true rfl⟩) hR.1 rfl rfl rfl (Nat.le_of_ble_eq_true rfl) d_Rf_now_46 ⟨Nat.le_of_ble_eq_true rfl, Nat.le_of_ble_eq_true rfl⟩ (fun _ => ?_)
        refine hg_if_eq C 56 d_Rf_now_49 (by decide) (fun c49 => ?_) (fun c49 => ?_)
        · refine hg_iconst (v := 0) C d_Rf_now_56 (by decide) ?_
          refine hg_iconst (v := 1) C d_Rf_now_57 (by decide) ?_
          refine hg_VNu (q := ("ModelMergeModel", T_Rf, 31)) C (k_Rf_goes1 l Γ _ r aa M hR 1) (cw_Rf_108 C.2.2.2.2.1 rfl rfl ⟨Nat.le_of_ble_eq_true rfl, Nat.le_of_ble_eq_true rfl⟩) hR.1 rfl rfl rfl (Nat.le_of_ble_eq_true rfl) d_Rf_now_58 ⟨Nat.le_of_ble_eq_true rfl, Nat.le_of_ble_eq_true rfl⟩ (fun h4 R5 => ?_)
          refine hg_if_eq C 74 d_Rf_now_61 (by decide) (fun _ => ?_) (fun z => absurd (by decide) z)
          refine hg_iconst (v := 0) C d_Rf_now_74 (by decide) ?_
          exact hg_iretN C hr rfl d_Rf_now_75 (Nat.le_of_ble_eq_true rfl) (Nat.le_of_ble_eq_true rfl) (⟨by rw [sp_now, gd1 (fun z => z.2.2.2 (by rw [nI_clamp (n := s) (by omega), nI_clamp (n := t) (by omega)]; exact c49))], by rw [sp_now, gd1 (fun z => z.2.2.2 (by rw [nI_clamp (n := s) (by omega), nI_clamp (n := t) (by omega)]; exact c49))]; exact R5⟩)
        · refine hg_iconst (v := 1) C d_Rf_now_52 (by decide) ?_
          refine hg_goto C 57 d_Rf_now_53 (by decide) ?_
          refine hg_iconst (v := 1) C d_Rf_now_57 (by decide) ?_
          refine hg_VNu (q := ("ModelMergeModel", T_Rf, 31)) C (k_Rf_goes0 l Γ _ r aa M hR) (cw_Rf_108 C.2.2.2.2.1 rfl rfl ⟨Nat.le_of_ble_eq_true rfl, Nat.le_of_ble_eq_true rfl⟩) hR.1 rfl rfl rfl (Nat.le_of_ble_eq_true rfl) d_Rf_now_58 ⟨Nat.le_of_ble_eq_true rfl, Nat.le_of_ble_eq_true rfl⟩ (fun h6 R7 => ?_)
          obtain ⟨N, eN⟩ : ∃ z, z = mset M 0 0 0 := ⟨_, rfl⟩
          rw [← eN] at R7
          have hN : Inv0 N := by rw [eN]; exact Inv0_code 0 hI
          have qS : nS N = nS M := by rw [eN]; rfl
          have qT : nT N = nT M := by rw [eN]; rfl
          have qV : nV N = nV M := by rw [eN]; rfl
          have qR : nR N = nR M := by rw [eN]; rfl
          have qC : nC N = nC M := by rw [eN]; rfl
          obtain ⟨⟨⟨fT, gT⟩, ⟨fV, gV1, gV⟩, ⟨fS, gS⟩, ⟨fR, gR⟩, ⟨fC, gC⟩⟩, hN2, -⟩ := id hN
          rw [← qS] at hs
          refine hg_if_eq C 74 d_Rf_now_61 (by decide) (fun z => absurd z (by decide)) (fun _ => ?_)
          refine hg_aload_n C 1 d_Rf_now_64 rfl rfl ?_
          refine hg_iload_n C 2 d_Rf_now_65 rfl rfl ?_
          refine hg_iload_n C 3 d_Rf_now_66 rfl rfl ?_
          refine hg_iload_n C 4 d_Rf_now_67 rfl rfl ?_
          refine hg_VNv (q := ("ModelMergeModel", T_Rf, 31)) C (k_Rf_here1 l Γ _ r aa N R7 hN s t (by omega) (by omega) f (by omega) (by rw [eN]; exact I_zer_code 0 hZ)) (cw_Rf_137 C.2.2.2.2.1 rfl rfl ⟨Nat.le_of_ble_eq_true rfl, Nat.le_of_ble_eq_true rfl⟩) R7.1 rfl rfl rfl (Nat.le_of_ble_eq_true rfl) d_Rf_now_68 ⟨Nat.le_of_ble_eq_true rfl, Nat.le_of_ble_eq_true rfl⟩ (fun _ => ?_)
          refine hg_goto C 75 d_Rf_now_71 (by decide) ?_
          exact hg_iretN C hr rfl d_Rf_now_75 (Nat.le_of_ble_eq_true rfl) (Nat.le_of_ble_eq_true rfl) (⟨by rw [sp_now, gd0 ⟨z1, z2, z3, by rw [nI_clamp (n := s) (by omega), nI_clamp (n := t) (by omega)]; exact c49⟩ trivial, ← eN, nI_clamp (n := s) (by omega), nI_clamp (n := t) (by omega), nI_clamp (n := f) (by omega), show sd M s = sd N s by rw [eN]; rfl], by rw [sp_now, gd0 ⟨z1, z2, z3, by rw [nI_clamp (n := s) (by omega), nI_clamp (n := t) (by omega)]; exact c49⟩ trivial, ← eN]; exact R7⟩)
      · refine hg_if_eq C 34 d_Rf_now_27 (by decide) (fun _ => ?_) (fun z => absurd (by decide) z)
        refine hg_iconst (v := 0) C d_Rf_now_34 (by decide) ?_
        refine hg_istore (lv' := [(4, .int 0), (0, .ref r), (1, .int (nI s)), (2, .int (nI t)), (3, .int f0)]) C d_Rf_now_35 (by decide) rfl ?_
        refine hg_aload_n C 1 d_Rf_now_37 rfl rfl ?_
        refine hg_iload C 0 d_Rf_now_38 rfl ?_
        refine hg_if_eq C 56 d_Rf_now_40 (by decide) (fun _ => ?_) (fun z => absurd (by decide) z)
        refine hg_iconst (v := 0) C d_Rf_now_56 (by decide) ?_
        refine hg_iconst (v := 1) C d_Rf_now_57 (by decide) ?_
        refine hg_VNu (q := ("ModelMergeModel", T_Rf, 31)) C (k_Rf_goes1 l Γ _ r aa M hR 1) (cw_Rf_108 C.2.2.2.2.1 rfl rfl ⟨Nat.le_of_ble_eq_true rfl, Nat.le_of_ble_eq_true rfl⟩) hR.1 rfl rfl rfl (Nat.le_of_ble_eq_true rfl) d_Rf_now_58 ⟨Nat.le_of_ble_eq_true rfl, Nat.le_of_ble_eq_true rfl⟩ (fun h8 R9 => ?_)
        refine hg_if_eq C 74 d_Rf_now_61 (by decide) (fun _ => ?_) (fun z => absurd (by decide) z)
        refine hg_iconst (v := 0) C d_Rf_now_74 (by decide) ?_
        exact hg_iretN C hr rfl d_Rf_now_75 (Nat.le_of_ble_eq_true rfl) (Nat.le_of_ble_eq_true rfl) (⟨by rw [sp_now, gd1 (fun z => z3 (z.2.2.1))], by rw [sp_now, gd1 (fun z => z3 (z.2.2.1))]; exact R9⟩)
    · refine hg_if_eq C 34 d_Rf_now_19 (by decide) (fun _ => ?_) (fun z => absurd (by decide) z)
      refine hg_iconst (v := 0) C d_Rf_now_34 (by decide) ?_
      refine hg_istore (lv' := [(4, .int 0), (0, .ref r), (1, .int (nI s)), (2, .int t0), (3, .int f0)]) C d_Rf_now_35 (by decide) rfl ?_
      refine hg_aload_n C 1 d_Rf_now_37 rfl rfl ?_
      refine hg_iload C 0 d_Rf_now_38 rfl ?_
      refine hg_if_eq C 56 d_Rf_now_40 (by decide) (fun _ => ?_) (fun z => absurd (by decide) z)
      refine hg_iconst (v := 0) C d_Rf_now_56 (by decide) ?_
      refine hg_iconst (v := 1) C d_Rf_now_57 (by decide) ?_
      refine hg_VNu (q := ("ModelMergeModel", T_Rf, 31)) C (k_Rf_goes1 l Γ _ r aa M hR 1) (cw_Rf_108 C.2.2.2.2.1 rfl rfl ⟨Nat.le_of_ble_eq_true rfl, Nat.le_of_ble_eq_true rfl⟩) hR.1 rfl rfl rfl (Nat.le_of_ble_eq_true rfl) d_Rf_now_58 ⟨Nat.le_of_ble_eq_true rfl, Nat.le_of_ble_eq_true rfl⟩ (fun h10 R11 => ?_)
      refine hg_if_eq C 74 d_Rf_now_61 (by decide) (fun _ => ?_) (fun z => absurd (by decide) z)
      refine hg_iconst (v := 0) C d_Rf_now_74 (by decide) ?_
      exact hg_iretN C hr rfl d_Rf_now_75 (Nat.le_of_ble_eq_true rfl) (Nat.le_of_ble_eq_true rfl) (⟨by rw [sp_now, gd1 (fun z => z2 (z.2.1))], by rw [sp_now, gd1 (fun z => z2 (z.2.1))]; exact R11⟩)
  · refine hg_if_eq C 34 d_Rf_now_8 (by decide) (fun _ => ?_) (fun z => absurd (by decide) z)
    refine hg_iconst (v := 0) C d_Rf_now_34 (by decide) ?_
    refine hg_istore (lv' := [(4, .int 0), (0, .ref r), (1, .int s0), (2, .int t0), (3, .int f0)]) C d_Rf_now_35 (by decide) rfl ?_
    refine hg_aload_n C 1 d_Rf_now_37 rfl rfl ?_
    refine hg_iload C 0 d_Rf_now_38 rfl ?_
    refine hg_if_eq C 56 d_Rf_now_40 (by decide) (fun _ => ?_) (fun z => absurd (by decide) z)
    refine hg_iconst (v := 0) C d_Rf_now_56 (by decide) ?_
    refine hg_iconst (v := 1) C d_Rf_now_57 (by decide) ?_
    refine hg_VNu (q := ("ModelMergeModel", T_Rf, 31)) C (k_Rf_goes1 l Γ _ r aa M hR 1) (cw_Rf_108 C.2.2.2.2.1 rfl rfl ⟨Nat.le_of_ble_eq_true rfl, Nat.le_of_ble_eq_true rfl⟩) hR.1 rfl rfl rfl (Nat.le_of_ble_eq_true rfl) d_Rf_now_58 ⟨Nat.le_of_ble_eq_true rfl, Nat.le_of_ble_eq_true rfl⟩ (fun h12 R13 => ?_)
    refine hg_if_eq C 74 d_Rf_now_61 (by decide) (fun _ => ?_) (fun z => absurd (by decide) z)
    refine hg_iconst (v := 0) C d_Rf_now_74 (by decide) ?_
    exact hg_iretN C hr rfl d_Rf_now_75 (Nat.le_of_ble_eq_true rfl) (Nat.le_of_ble_eq_true rfl) (⟨by rw [sp_now, gd1 (fun z => z1 (z.1))], by rw [sp_now, gd1 (fun z => z1 (z.1))]; exact R13⟩)
abbrev rm_Rf_isThere : Room := { frames := 1, cells := 0, slots := 0, locals := 21 }
set_option maxHeartbeats 4000000 in
set_option maxRecDepth 100000 in
theorem k_Rf_isThere (l : Launch) (Γ : Gam) (h : Pic) (r : Nat) (aa : Nat → Nat) (M : Mem) (hR : rf_at Γ r aa M h) (hI : Inv0 M) (v0 t0 : Int32) : kN l Γ y_Rf_isThere w_Rf_isThere rm_Rf_isThere [.ref r, .int v0, .int t0] h (pb h (i_th M v0 t0)) 0 0 := by
  refine hg_entryN (own := "ModelMergeModel") (cc := b_Rf_isThere) (maxL := 3) (ret := (some .boolean)) (lv0 := [(0, .ref r), (1, .int v0), (2, .int t0)]) (by decide) rfl rfl (Nat.le_of_ble_eq_true rfl) rfl ?_
  intro p9 e9 s9 m9 args below meth c9 A C hnm hr
  obtain ⟨⟨⟨eT, hT⟩, ⟨eV, hV1, hV⟩, ⟨eS, hS⟩, ⟨eR, hRR⟩, ⟨eC, hC⟩⟩, hI2, -⟩ := id hI
  refine hg_iload_n C 1 d_Rf_isThere_0 rfl rfl ?_
  refine hg_aload_n C 0 d_Rf_isThere_1 rfl rfl ?_
  refine f_Rf_16 C hR.1 rfl d_Rf_isThere_2 ?_
  refine hg_ti eV ?_
  refine hg_SNb C (k_Rf_isIn l Γ _ v0 (nI (nV M))) (cw_Rf_101 C.2.2.2.2.1 rfl rfl ⟨Nat.le_of_ble_eq_true rfl, Nat.le_of_ble_eq_true rfl⟩) rfl rfl (Nat.le_of_ble_eq_true rfl) d_Rf_isThere_5 ⟨Nat.le_of_ble_eq_true rfl, Nat.le_of_ble_eq_true rfl⟩ (fun z1 => ?_) (fun z1 => ?_)
  · obtain ⟨v, hv, rfl⟩ := inr_nat (n := nV M) (id z1) (by omega)
    refine hg_if_eq C 40 d_Rf_isThere_8 (by decide) (fun z => absurd z (by decide)) (fun _ => ?_)
    refine hg_iload_n C 2 d_Rf_isThere_11 rfl rfl ?_
    refine hg_aload_n C 0 d_Rf_isThere_12 rfl rfl ?_
    refine f_Rf_116 C hR.1 rfl d_Rf_isThere_13 ?_
    refine hg_ti eT ?_
    refine hg_SNb C (k_Rf_isIn l Γ _ t0 (nI (nT M))) (cw_Rf_101 C.2.2.2.2.1 rfl rfl ⟨Nat.le_of_ble_eq_true rfl, Nat.le_of_ble_eq_true rfl⟩) rfl rfl (Nat.le_of_ble_eq_true rfl) d_Rf_isThere_16 ⟨Nat.le_of_ble_eq_true rfl, Nat.le_of_ble_eq_true rfl⟩ (fun z2 => ?_) (fun z2 => ?_)
    · obtain ⟨t, ht, rfl⟩ := inr_nat (n := nT M) (id z2) (by omega)
      refine hg_if_eq C 40 d_Rf_isThere_19 (by decide) (fun z => absurd z (by decide)) (fun _ => ?_)
      refine hg_aload_n C 0 d_Rf_isThere_22 rfl rfl ?_
      refine f_Rf_20 C hR.1 rfl d_Rf_isThere_23 ?_
      refine hg_bipush (v := 60) C d_Rf_isThere_26 (by decide) ?_
      refine hg_iload_n C 1 d_Rf_isThere_28 rfl rfl ?_
      refine hg_imul C d_Rf_isThere_29 ?_
      refine hg_ti (show ((60 : Int32) : Int32) * nI v = nI (60 * v) from pk_mul 60 v) ?_
      refine hg_iload_n C 2 d_Rf_isThere_30 rfl rfl ?_
      refine hg_iadd C d_Rf_isThere_31 ?_
      refine hg_ti (show (nI (60 * v) : Int32) + nI t = nI (60 * v + t) from nI_add (60 * v) t) ?_
      have b32 : 60 * v + t < 2400 := (by omega)
      refine hg_zald C 2 (hR.2.1 5 rfl) rfl (vp_in_nI (N := 2400) b32 (by omega)) d_Rf_isThere_32 ?_
      refine hg_ti (congrArg (M 5) (nI_clamp (n := 60 * v + t) (by omega))) ?_
      refine hg_if_eq C 40 d_Rf_isThere_33 (by decide) (fun c33 => ?_) (fun c33 => ?_)
      · refine hg_iconst (v := 0) C d_Rf_isThere_40 (by decide) ?_
        exact hg_iretN C hr rfl d_Rf_isThere_41 (Nat.le_of_ble_eq_true rfl) (Nat.le_of_ble_eq_true rfl) (Or.inr ⟨rfl, rfl, fun z => z.2.2 (by rw [nI_clamp (n := v) (by omega), nI_clamp (n := t) (by omega)]; exact c33)⟩)
      · refine hg_iconst (v := 1) C d_Rf_isThere_36 (by decide) ?_
        refine hg_goto C 41 d_Rf_isThere_37 (by decide) ?_
        exact hg_iretN C hr rfl d_Rf_isThere_41 (Nat.le_of_ble_eq_true rfl) (Nat.le_of_ble_eq_true rfl) (Or.inl ⟨rfl, rfl, z1, z2, by rw [nI_clamp (n := v) (by omega), nI_clamp (n := t) (by omega)]; exact c33⟩)
    · refine hg_if_eq C 40 d_Rf_isThere_19 (by decide) (fun _ => ?_) (fun z => absurd (by decide) z)
      refine hg_iconst (v := 0) C d_Rf_isThere_40 (by decide) ?_
      exact hg_iretN C hr rfl d_Rf_isThere_41 (Nat.le_of_ble_eq_true rfl) (Nat.le_of_ble_eq_true rfl) (Or.inr ⟨rfl, rfl, fun z => z2 (z.2.1)⟩)
  · refine hg_if_eq C 40 d_Rf_isThere_8 (by decide) (fun _ => ?_) (fun z => absurd (by decide) z)
    refine hg_iconst (v := 0) C d_Rf_isThere_40 (by decide) ?_
    exact hg_iretN C hr rfl d_Rf_isThere_41 (Nat.le_of_ble_eq_true rfl) (Nat.le_of_ble_eq_true rfl) (Or.inr ⟨rfl, rfl, fun z => z1 (z.1)⟩)
abbrev rm_Rf_at : Room := { frames := 2, cells := 0, slots := 0, locals := 43 }
set_option maxHeartbeats 4000000 in
set_option maxRecDepth 100000 in
theorem k_Rf_at (l : Launch) (Γ : Gam) (h : Pic) (r : Nat) (aa : Nat → Nat) (M : Mem) (hR : rf_at Γ r aa M h) (hI : Inv0 M) (v0 t0 f0 : Int32) : kN l Γ y_Rf_at w_Rf_at rm_Rf_at [.ref r, .int v0, .int t0, .int f0] h (fun q u => q = some (.int (sp_at M v0 t0 f0).2.1) ∧ rf_at Γ r aa (sp_at M v0 t0 f0).2.2 u) 0 0 := by
  refine hg_entryN (own := "ModelMergeModel") (cc := b_Rf_at) (maxL := 4) (ret := (some .int)) (lv0 := [(0, .ref r), (1, .int v0), (2, .int t0), (3, .int f0)]) (by decide) rfl rfl (Nat.le_of_ble_eq_true rfl) rfl ?_
  intro p9 e9 s9 m9 args below meth c9 A C hnm hr
  obtain ⟨⟨⟨eT, hT⟩, ⟨eV, hV1, hV⟩, ⟨eS, hS⟩, ⟨eR, hRR⟩, ⟨eC, hC⟩⟩, hI2, -⟩ := id hI
  refine hg_aload_n C 0 d_Rf_at_0 rfl rfl ?_
  refine hg_aload_n C 0 d_Rf_at_1 rfl rfl ?_
  refine hg_iload_n C 1 d_Rf_at_2 rfl rfl ?_
  refine hg_iload_n C 2 d_Rf_at_3 rfl rfl ?_
  refine hg_VNb (q := ("ModelMergeModel", T_Rf, 31)) C (k_Rf_isThere l Γ _ r aa M hR hI v0 t0) (cw_Rf_162 C.2.2.2.2.1 rfl rfl ⟨Nat.le_of_ble_eq_true rfl, Nat.le_of_ble_eq_true rfl⟩) hR.1 rfl rfl rfl (Nat.le_of_ble_eq_true rfl) d_Rf_at_4 ⟨Nat.le_of_ble_eq_true rfl, Nat.le_of_ble_eq_true rfl⟩ (fun z1 => ?_) (fun z1 => ?_)
  · obtain ⟨v, hv, rfl⟩ := inr_nat (n := nV M) (z1).1 (by omega)
    obtain ⟨t, ht, rfl⟩ := inr_nat (n := nT M) (z1).2.1 (by omega)
    refine hg_if_eq C 22 d_Rf_at_7 (by decide) (fun z => absurd z (by decide)) (fun _ => ?_)
    refine hg_iload_n C 3 d_Rf_at_10 rfl rfl ?_
    refine hg_iconst (v := 5) C d_Rf_at_11 (by decide) ?_
    refine hg_SNb C (k_Rf_isIn l Γ _ f0 5) (cw_Rf_101 C.2.2.2.2.1 rfl rfl ⟨Nat.le_of_ble_eq_true rfl, Nat.le_of_ble_eq_true rfl⟩) rfl rfl (Nat.le_of_ble_eq_true rfl) d_Rf_at_12 ⟨Nat.le_of_ble_eq_true rfl, Nat.le_of_ble_eq_true rfl⟩ (fun z2 => ?_) (fun z2 => ?_)
    · obtain ⟨f, hf, rfl⟩ := inr_nat (n := 5) (id z2) (by omega)
      refine hg_if_eq C 22 d_Rf_at_15 (by decide) (fun z => absurd z (by decide)) (fun _ => ?_)
      refine hg_iconst (v := 1) C d_Rf_at_18 (by decide) ?_
      refine hg_goto C 23 d_Rf_at_19 (by decide) ?_
      refine hg_iconst (v := 1) C d_Rf_at_23 (by decide) ?_
      refine hg_VNu (q := ("ModelMergeModel", T_Rf, 31)) C (k_Rf_goes0 l Γ _ r aa M hR) (cw_Rf_108 C.2.2.2.2.1 rfl rfl ⟨Nat.le_of_ble_eq_true rfl, Nat.le_of_ble_eq_true rfl⟩) hR.1 rfl rfl rfl (Nat.le_of_ble_eq_true rfl) d_Rf_at_24 ⟨Nat.le_of_ble_eq_true rfl, Nat.le_of_ble_eq_true rfl⟩ (fun h3 R4 => ?_)
      obtain ⟨N, eN⟩ : ∃ z, z = mset M 0 0 0 := ⟨_, rfl⟩
      rw [← eN] at R4
      have hN : Inv0 N := by rw [eN]; exact Inv0_code 0 hI
      have qS : nS N = nS M := by rw [eN]; rfl
      have qT : nT N = nT M := by rw [eN]; rfl
      have qV : nV N = nV M := by rw [eN]; rfl
      have qR : nR N = nR M := by rw [eN]; rfl
      have qC : nC N = nC M := by rw [eN]; rfl
      obtain ⟨⟨⟨fT, gT⟩, ⟨fV, gV1, gV⟩, ⟨fS, gS⟩, ⟨fR, gR⟩, ⟨fC, gC⟩⟩, hN2, -⟩ := id hN
      refine hg_if_eq C 48 d_Rf_at_27 (by decide) (fun z => absurd z (by decide)) (fun _ => ?_)
      refine hg_aload_n C 0 d_Rf_at_30 rfl rfl ?_
      refine f_Rf_24 C R4.1 rfl d_Rf_at_31 ?_
      refine hg_iconst (v := 5) C d_Rf_at_34 (by decide) ?_
      refine hg_bipush (v := 60) C d_Rf_at_35 (by decide) ?_
      refine hg_iload_n C 1 d_Rf_at_37 rfl rfl ?_
      refine hg_imul C d_Rf_at_38 ?_
      refine hg_ti (show ((60 : Int32) : Int32) * nI v = nI (60 * v) from pk_mul 60 v) ?_
      refine hg_iload_n C 2 d_Rf_at_39 rfl rfl ?_
      refine hg_iadd C d_Rf_at_40 ?_
      refine hg_ti (show (nI (60 * v) : Int32) + nI t = nI (60 * v + t) from nI_add (60 * v) t) ?_
      refine hg_imul C d_Rf_at_41 ?_
      refine hg_ti (show ((5 : Int32) : Int32) * nI (60 * v + t) = nI (5 * (60 * v + t)) from pk_mul 5 (60 * v + t)) ?_
      refine hg_iload_n C 3 d_Rf_at_42 rfl rfl ?_
      refine hg_iadd C d_Rf_at_43 ?_
      refine hg_ti (show (nI (5 * (60 * v + t)) : Int32) + nI f = nI (5 * (60 * v + t) + f) from nI_add (5 * (60 * v + t)) f) ?_
      have b44 : 5 * (60 * v + t) + f < 12000 := (by omega)
      refine hg_iald C 0 (R4.2.1 6 rfl) rfl (vp_in_nI (N := 12000) b44 (by omega)) d_Rf_at_44 ?_
      refine hg_ti (congrArg (N 6) (nI_clamp (n := 5 * (60 * v + t) + f) (by omega))) ?_
      refine hg_goto C 49 d_Rf_at_45 (by decide) ?_
      exact hg_iretN C hr rfl d_Rf_at_49 (Nat.le_of_ble_eq_true rfl) (Nat.le_of_ble_eq_true rfl) (⟨by rw [sp_at, gd0 ⟨z1, z2⟩ trivial, nI_clamp (n := v) (by omega), nI_clamp (n := t) (by omega), nI_clamp (n := f) (by omega), eN]; rfl, by rw [sp_at, gd0 ⟨z1, z2⟩ trivial, ← eN]; exact R4⟩)
    · refine hg_if_eq C 22 d_Rf_at_15 (by decide) (fun _ => ?_) (fun z => absurd (by decide) z)
      refine hg_iconst (v := 0) C d_Rf_at_22 (by decide) ?_
      refine hg_iconst (v := 1) C d_Rf_at_23 (by decide) ?_
      refine hg_VNu (q := ("ModelMergeModel", T_Rf, 31)) C (k_Rf_goes1 l Γ _ r aa M hR 1) (cw_Rf_108 C.2.2.2.2.1 rfl rfl ⟨Nat.le_of_ble_eq_true rfl, Nat.le_of_ble_eq_true rfl⟩) hR.1 rfl rfl rfl (Nat.le_of_ble_eq_true rfl) d_Rf_at_24 ⟨Nat.le_of_ble_eq_true rfl, Nat.le_of_ble_eq_true rfl⟩ (fun h5 R6 => ?_)
      refine hg_if_eq C 48 d_Rf_at_27 (by decide) (fun _ => ?_) (fun z => absurd (by decide) z)
      refine hg_iconst (v := 0) C d_Rf_at_48 (by decide) ?_
      exact hg_iretN C hr rfl d_Rf_at_49 (Nat.le_of_ble_eq_true rfl) (Nat.le_of_ble_eq_true rfl) (⟨by rw [sp_at, gd1 (fun z => z2 z.2)], by rw [sp_at, gd1 (fun z => z2 z.2)]; exact R6⟩)
  · refine hg_if_eq C 22 d_Rf_at_7 (by decide) (fun _ => ?_) (fun z => absurd (by decide) z)
    refine hg_iconst (v := 0) C d_Rf_at_22 (by decide) ?_
    refine hg_iconst (v := 1) C d_Rf_at_23 (by decide) ?_
    refine hg_VNu (q := ("ModelMergeModel", T_Rf, 31)) C (k_Rf_goes1 l Γ _ r aa M hR 1) (cw_Rf_108 C.2.2.2.2.1 rfl rfl ⟨Nat.le_of_ble_eq_true rfl, Nat.le_of_ble_eq_true rfl⟩) hR.1 rfl rfl rfl (Nat.le_of_ble_eq_true rfl) d_Rf_at_24 ⟨Nat.le_of_ble_eq_true rfl, Nat.le_of_ble_eq_true rfl⟩ (fun h7 R8 => ?_)
    refine hg_if_eq C 48 d_Rf_at_27 (by decide) (fun _ => ?_) (fun z => absurd (by decide) z)
    refine hg_iconst (v := 0) C d_Rf_at_48 (by decide) ?_
    exact hg_iretN C hr rfl d_Rf_at_49 (Nat.le_of_ble_eq_true rfl) (Nat.le_of_ble_eq_true rfl) (⟨by rw [sp_at, gd1 (fun z => z1 z.1)], by rw [sp_at, gd1 (fun z => z1 z.1)]; exact R8⟩)
abbrev rm_Rf_since : Room := { frames := 2, cells := 0, slots := 0, locals := 43 }
set_option maxHeartbeats 4000000 in
set_option maxRecDepth 100000 in
theorem k_Rf_since (l : Launch) (Γ : Gam) (h : Pic) (r : Nat) (aa : Nat → Nat) (M : Mem) (hR : rf_at Γ r aa M h) (hI : Inv0 M) (v0 t0 f0 : Int32) : kN l Γ y_Rf_since w_Rf_since rm_Rf_since [.ref r, .int v0, .int t0, .int f0] h (fun q u => q = some (.int (sp_since M v0 t0 f0).2.1) ∧ rf_at Γ r aa (sp_since M v0 t0 f0).2.2 u) 0 0 := by
  refine hg_entryN (own := "ModelMergeModel") (cc := b_Rf_since) (maxL := 4) (ret := (some .int)) (lv0 := [(0, .ref r), (1, .int v0), (2, .int t0), (3, .int f0)]) (by decide) rfl rfl (Nat.le_of_ble_eq_true rfl) rfl ?_
  intro p9 e9 s9 m9 args below meth c9 A C hnm hr
  obtain ⟨⟨⟨eT, hT⟩, ⟨eV, hV1, hV⟩, ⟨eS, hS⟩, ⟨eR, hRR⟩, ⟨eC, hC⟩⟩, hI2, -⟩ := id hI
  refine hg_aload_n C 0 d_Rf_since_0 rfl rfl ?_
  refine hg_aload_n C 0 d_Rf_since_1 rfl rfl ?_
  refine hg_iload_n C 1 d_Rf_since_2 rfl rfl ?_
  refine hg_iload_n C 2 d_Rf_since_3 rfl rfl ?_
  refine hg_VNb (q := ("ModelMergeModel", T_Rf, 31)) C (k_Rf_isThere l Γ _ r aa M hR hI v0 t0) (cw_Rf_162 C.2.2.2.2.1 rfl rfl ⟨Nat.le_of_ble_eq_true rfl, Nat.le_of_ble_eq_true rfl⟩) hR.1 rfl rfl rfl (Nat.le_of_ble_eq_true rfl) d_Rf_since_4 ⟨Nat.le_of_ble_eq_true rfl, Nat.le_of_ble_eq_true rfl⟩ (fun z1 => ?_) (fun z1 => ?_)
  · obtain ⟨v, hv, rfl⟩ := inr_nat (n := nV M) (z1).1 (by omega)
    obtain ⟨t, ht, rfl⟩ := inr_nat (n := nT M) (z1).2.1 (by omega)
    refine hg_if_eq C 22 d_Rf_since_7 (by decide) (fun z => absurd z (by decide)) (fun _ => ?_)
    refine hg_iload_n C 3 d_Rf_since_10 rfl rfl ?_
    refine hg_iconst (v := 5) C d_Rf_since_11 (by decide) ?_
    refine hg_SNb C (k_Rf_isIn l Γ _ f0 5) (cw_Rf_101 C.2.2.2.2.1 rfl rfl ⟨Nat.le_of_ble_eq_true rfl, Nat.le_of_ble_eq_true rfl⟩) rfl rfl (Nat.le_of_ble_eq_true rfl) d_Rf_since_12 ⟨Nat.le_of_ble_eq_true rfl, Nat.le_of_ble_eq_true rfl⟩ (fun z2 => ?_) (fun z2 => ?_)
    · obtain ⟨f, hf, rfl⟩ := inr_nat (n := 5) (id z2) (by omega)
      refine hg_if_eq C 22 d_Rf_since_15 (by decide) (fun z => absurd z (by decide)) (fun _ => ?_)
      refine hg_iconst (v := 1) C d_Rf_since_18 (by decide) ?_
      refine hg_goto C 23 d_Rf_since_19 (by decide) ?_
      refine hg_iconst (v := 1) C d_Rf_since_23 (by decide) ?_
      refine hg_VNu (q := ("ModelMergeModel", T_Rf, 31)) C (k_Rf_goes0 l Γ _ r aa M hR) (cw_Rf_108 C.2.2.2.2.1 rfl rfl ⟨Nat.le_of_ble_eq_true rfl, Nat.le_of_ble_eq_true rfl⟩) hR.1 rfl rfl rfl (Nat.le_of_ble_eq_true rfl) d_Rf_since_24 ⟨Nat.le_of_ble_eq_true rfl, Nat.le_of_ble_eq_true rfl⟩ (fun h3 R4 => ?_)
      obtain ⟨N, eN⟩ : ∃ z, z = mset M 0 0 0 := ⟨_, rfl⟩
      rw [← eN] at R4
      have hN : Inv0 N := by rw [eN]; exact Inv0_code 0 hI
      have qS : nS N = nS M := by rw [eN]; rfl
      have qT : nT N = nT M := by rw [eN]; rfl
      have qV : nV N = nV M := by rw [eN]; rfl
      have qR : nR N = nR M := by rw [eN]; rfl
      have qC : nC N = nC M := by rw [eN]; rfl
      obtain ⟨⟨⟨fT, gT⟩, ⟨fV, gV1, gV⟩, ⟨fS, gS⟩, ⟨fR, gR⟩, ⟨fC, gC⟩⟩, hN2, -⟩ := id hN
      refine hg_if_eq C 48 d_Rf_since_27 (by decide) (fun z => absurd z (by decide)) (fun _ => ?_)
      refine hg_aload_n C 0 d_Rf_since_30 rfl rfl ?_
      refine f_Rf_27 C R4.1 rfl d_Rf_since_31 ?_
      refine hg_iconst (v := 5) C d_Rf_since_34 (by decide) ?_
      refine hg_bipush (v := 60) C d_Rf_since_35 (by decide) ?_
      refine hg_iload_n C 1 d_Rf_since_37 rfl rfl ?_
      refine hg_imul C d_Rf_since_38 ?_
      refine hg_ti (show ((60 : Int32) : Int32) * nI v = nI (60 * v) from pk_mul 60 v) ?_
      refine hg_iload_n C 2 d_Rf_since_39 rfl rfl ?_
      refine hg_iadd C d_Rf_since_40 ?_
      refine hg_ti (show (nI (60 * v) : Int32) + nI t = nI (60 * v + t) from nI_add (60 * v) t) ?_
      refine hg_imul C d_Rf_since_41 ?_
      refine hg_ti (show ((5 : Int32) : Int32) * nI (60 * v + t) = nI (5 * (60 * v + t)) from pk_mul 5 (60 * v + t)) ?_
      refine hg_iload_n C 3 d_Rf_since_42 rfl rfl ?_
      refine hg_iadd C d_Rf_since_43 ?_
      refine hg_ti (show (nI (5 * (60 * v + t)) : Int32) + nI f = nI (5 * (60 * v + t) + f) from nI_add (5 * (60 * v + t)) f) ?_
      have b44 : 5 * (60 * v + t) + f < 12000 := (by omega)
      refine hg_iald C 0 (R4.2.1 7 rfl) rfl (vp_in_nI (N := 12000) b44 (by omega)) d_Rf_since_44 ?_
      refine hg_ti (congrArg (N 7) (nI_clamp (n := 5 * (60 * v + t) + f) (by omega))) ?_
      refine hg_goto C 49 d_Rf_since_45 (by decide) ?_
      exact hg_iretN C hr rfl d_Rf_since_49 (Nat.le_of_ble_eq_true rfl) (Nat.le_of_ble_eq_true rfl) (⟨by rw [sp_since, gd0 ⟨z1, z2⟩ trivial, nI_clamp (n := v) (by omega), nI_clamp (n := t) (by omega), nI_clamp (n := f) (by omega), eN]; rfl, by rw [sp_since, gd0 ⟨z1, z2⟩ trivial, ← eN]; exact R4⟩)
    · refine hg_if_eq C 22 d_Rf_since_15 (by decide) (fun _ => ?_) (fun z => absurd (by decide) z)
      refine hg_iconst (v := 0) C d_Rf_since_22 (by decide) ?_
      refine hg_iconst (v := 1) C d_Rf_since_23 (by decide) ?_
      refine hg_VNu (q := ("ModelMergeModel", T_Rf, 31)) C (k_Rf_goes1 l Γ _ r aa M hR 1) (cw_Rf_108 C.2.2.2.2.1 rfl rfl ⟨Nat.le_of_ble_eq_true rfl, Nat.le_of_ble_eq_true rfl⟩) hR.1 rfl rfl rfl (Nat.le_of_ble_eq_true rfl) d_Rf_since_24 ⟨Nat.le_of_ble_eq_true rfl, Nat.le_of_ble_eq_true rfl⟩ (fun h5 R6 => ?_)
      refine hg_if_eq C 48 d_Rf_since_27 (by decide) (fun _ => ?_) (fun z => absurd (by decide) z)
      refine hg_iconst (v := 0) C d_Rf_since_48 (by decide) ?_
      exact hg_iretN C hr rfl d_Rf_since_49 (Nat.le_of_ble_eq_true rfl) (Nat.le_of_ble_eq_true rfl) (⟨by rw [sp_since, gd1 (fun z => z2 z.2)], by rw [sp_since, gd1 (fun z => z2 z.2)]; exact R6⟩)
  · refine hg_if_eq C 22 d_Rf_since_7 (by decide) (fun _ => ?_) (fun z => absurd (by decide) z)
    refine hg_iconst (v := 0) C d_Rf_since_22 (by decide) ?_
    refine hg_iconst (v := 1) C d_Rf_since_23 (by decide) ?_
    refine hg_VNu (q := ("ModelMergeModel", T_Rf, 31)) C (k_Rf_goes1 l Γ _ r aa M hR 1) (cw_Rf_108 C.2.2.2.2.1 rfl rfl ⟨Nat.le_of_ble_eq_true rfl, Nat.le_of_ble_eq_true rfl⟩) hR.1 rfl rfl rfl (Nat.le_of_ble_eq_true rfl) d_Rf_since_24 ⟨Nat.le_of_ble_eq_true rfl, Nat.le_of_ble_eq_true rfl⟩ (fun h7 R8 => ?_)
    refine hg_if_eq C 48 d_Rf_since_27 (by decide) (fun _ => ?_) (fun z => absurd (by decide) z)
    refine hg_iconst (v := 0) C d_Rf_since_48 (by decide) ?_
    exact hg_iretN C hr rfl d_Rf_since_49 (Nat.le_of_ble_eq_true rfl) (Nat.le_of_ble_eq_true rfl) (⟨by rw [sp_since, gd1 (fun z => z1 z.1)], by rw [sp_since, gd1 (fun z => z1 z.1)]; exact R8⟩)
