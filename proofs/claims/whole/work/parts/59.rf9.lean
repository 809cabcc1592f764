/-! THE REFERENCE, ninth part: join, settle -/
theorem m_find_ok {N K : Mem} {s t : Nat} (hN : Inv0 N) (h : agr K N) (hK : Inv0 K) (hs : s < nS N) (ht : t < nT N) (hc : nC K + 5 ≤ 300) : agr (m_find N s t K) N ∧ Inv0 (m_find N s t K) ∧ nC (m_find N s t K) ≤ nC K + 5 := by
  obtain ⟨a1, a2, a3⟩ := m_fl_ok (s := s) hN h hK ht 5 (by omega) (by omega)
  unfold m_find
  split
  · exact ⟨h, hK, by omega⟩
  · split
    · rename_i hb hw
      have hno : h_m N t = 0 ∨ h_t N s t = 0 := by
        have b1 : h_m N t = 0 ∨ h_m N t = 1 := by
          rcases hN.2.2.2.2.2.2.2.1 (nV N - 1) (by have := hN.1.2.1.2.1; omega) t (by have := hN.1.1.2; omega) with y | y
          · exact Or.inr y.1
          · exact Or.inl y.1
        have b2 : h_t N s t = 0 ∨ h_t N s t = 1 := stv_bool hN hs (hN.2.1 s hs).2.1.2 (by have := hN.1.1.2; omega)
        rcases b1 with y | y
        · exact Or.inl y
        · rcases b2 with x | x
          · exact Or.inr x
          · exact absurd (y.trans x.symm) hw.1
      rw [m_fl_none hno]
      exact ⟨m_add_agr h, m_add_inv hN h hK (by omega) ht (Or.inl rfl), by rw [m_add_C (by omega)]; omega⟩
    · exact ⟨a1, a2, a3⟩
noncomputable def m_fd (N : Mem) (s : Nat) : Nat → Mem
  | 0 => mset N 27 0 0
  | t + 1 => m_find N s t (m_fd N s t)
theorem m_fd_ok {N : Mem} {s : Nat} (hN : Inv0 N) (hs : s < nS N) : ∀ t, t ≤ nT N → agr (m_fd N s t) N ∧ Inv0 (m_fd N s t) ∧ nC (m_fd N s t) ≤ 5 * t
  | 0, _ => by
    have hA : agr (mset N 27 0 0) N := ⟨fun j h1 h2 => mset_n (by omega), fun i _ => by rw [mset_n (by decide)], fun i _ => by rw [mset_n (by decide)], fun i _ => by rw [mset_n (by decide)]⟩
    have e0 : nC (mset N 27 0 0) = 0 := by unfold nC; rw [mset_s, pk_us]; rfl
    refine ⟨hA, hA.inv hN ⟨?_, ?_⟩ ?_, ?_⟩
    · rw [e0, mset_s, pk_us]; rfl
    · rw [e0]; omega
    · intro k hk; rw [e0] at hk; omega
    · show nC (mset N 27 0 0) ≤ _; rw [e0]; omega
  | t + 1, h => by
    obtain ⟨a1, a2, a3⟩ := m_fd_ok hN hs t (by omega)
    have := hN.1.1.2
    obtain ⟨b1, b2, b3⟩ := m_find_ok (s := s) (t := t) hN a1 a2 hs (by omega) (by omega)
    exact ⟨b1, b2, by show nC (m_find N s t (m_fd N s t)) ≤ _; omega⟩
noncomputable def f_join (N : Mem) (s : Nat) : Int32 × Mem := if ¬ N 26 0 < 0 then (-5, N) else if nV N = 40 then (-4, N) else if nC (m_fd N s (nT N)) = 0 then (0, m_fin (m_fd N s (nT N)) s) else (nI (nC (m_fd N s (nT N))), mset (mset (m_fd N s (nT N)) 14 s 1) 26 0 (nI s))
noncomputable def sp_join (M : Mem) (s : Int32) : Int32 × Int32 × Mem := gd (inr s (nI (nS M))) (M 14 s.toNatClampNeg = 0) M (f_join (mset M 0 0 0) s.toNatClampNeg)
abbrev rm_Rf_join : Room := { frames := 5, cells := 0, slots := 0, locals := 127 }
set_option maxHeartbeats 4000000 in
set_option maxRecDepth 100000 in
theorem lp_Rf_join (l : Launch) (Γ : Gam) {p : Program} {e : Env} {s9 : State} {m : MethodId} {args : Array Value} {below : List Frame} {meth : Method} {c : Code} {A : Nat → Prop} (C : hp_C p s9 m args meth c b_Rf_join 3 "ModelMergeModel" w_Rf_join Γ.1 kcl (ktys Γ.2.1) (ksts Γ.2.2) knws A) {r : Nat} {aa : Nat → Nat} {N : Mem} (hN : Inv0 N) (hZ : I_zer N) (h40 : ¬ nV N = 40) (hp : N 26 0 < 0) {s : Nat} (hs : s < nS N) (hr : meth.sig.returnType = some .int)  :
    ∀ (n9 : Nat) (t : Nat) (h : Pic), (t ≤ nT N) → (nT N + 1 ≤ t + n9) → (rf_at Γ r aa (m_fd N s t) h) → hp_G p l e rm_Rf_join s9 m args below meth c Γ.1 kcl A 3 (hp_NQ below Γ.1 kcl A (fun q u => q = some (.int (f_join N s).1) ∧ rf_at Γ r aa (f_join N s).2 u) args s9 0 0) 0 0 60 [(2, .int (nI t)), (1, .int (nI s)), (0, .ref r)] [] h := by
  intro n9
  induction n9 with
  | zero =>
    intro t h ht hm hR
    exact absurd hm (by omega)
  | succ n9 ih =>
    intro t h ht hm hR
    obtain ⟨hA, hK, hCn⟩ := m_fd_ok (s := s) hN hs t ht
    obtain ⟨K, eK⟩ : ∃ z, z = m_fd N s t := ⟨_, rfl⟩
    rw [← eK] at hA hK hCn hR
    have hZK := hA.zer hN hZ
    have qS := hA.S
    have qT := hA.T
    have qV := hA.V
    obtain ⟨⟨⟨fT, gT⟩, ⟨fV, gV1, gV⟩, ⟨fS, gS⟩, ⟨fR, gR⟩, ⟨fC, gC⟩⟩, hN2, -⟩ := id hN
    obtain ⟨-, -, -, -, eC, -⟩ := hK.1
    refine hg_iload_n C 0 d_Rf_join_60 rfl rfl ?_
    refine hg_aload_n C 2 d_Rf_join_61 rfl rfl ?_
    refine f_Rf_116 C hR.1 rfl d_Rf_join_62 ?_
    refine hg_ti (show K 1 0 = N 1 0 from congrFun (hA.1 1 (by decide) (by decide)) 0) ?_
    refine hg_ti fT ?_
    refine hg_icmp_ge C 80 d_Rf_join_65 (by decide) (fun c65 => ?_) (fun c65 => ?_)
    · have c65n : nT N ≤ t := (nI_leI (a := (nT N)) (b := t) (by omega) (by omega)).mp c65
      refine hg_aload_n C 2 d_Rf_join_80 rfl rfl ?_
      refine f_Rf_141 C hR.1 rfl d_Rf_join_81 ?_
      refine hg_ti eC ?_
      refine hg_if_ne C 94 d_Rf_join_84 (by decide) (fun c84 => ?_) (fun c84 => ?_)
      · have c84n : ¬ nC K = 0 := fun z => c84 (congrArg nI z)
        refine hg_aload_n C 2 d_Rf_join_94 rfl rfl ?_
        refine f_Rf_45 C hR.1 rfl d_Rf_join_95 ?_
        refine hg_iload_n C 1 d_Rf_join_98 rfl rfl ?_
        refine hg_iconst (v := 1) C d_Rf_join_99 (by decide) ?_
        have b100 : s < 20 := (by omega)
        refine hg_iast C 0 (hR.2.1 14 rfl) rfl (vp_in_nI (N := 20) b100 (by omega)) d_Rf_join_100 ?_
        obtain ⟨h1, eh1⟩ : ∃ z, z = hp_up h (aa 14) (.inl (Γ.2.1 0, 20, .inl (upd (K 14) (nI s : Int32).toNatClampNeg 1))) := ⟨_, rfl⟩
        refine hg_eq eh1.symm ?_
        have R3 : rf_at Γ r aa (mset K 14 s 1) h1 := by rw [eh1]; rw [nI_clamp (n := s) (by omega)]; exact rf_put hR 14 s 1 rfl
        obtain ⟨M2, eM2⟩ : ∃ z, z = mset K 14 s 1 := ⟨_, rfl⟩
        rw [← eM2] at R3
        refine hg_aload_n C 2 d_Rf_join_101 rfl rfl ?_
        refine hg_iload_n C 1 d_Rf_join_102 rfl rfl ?_
        refine p_Rf_78 (fs' := rf_fs aa (mset M2 26 0 (nI s))) C R3.1 rfl rfl (Nat.le_of_ble_eq_true rfl) rfl d_Rf_join_103 ?_
        obtain ⟨h4, eh4⟩ : ∃ z, z = hp_up h1 r (.inr (7, rf_fs aa (mset M2 26 0 (nI s)))) := ⟨_, rfl⟩
        refine hg_eq eh4.symm ?_
        have R6 : rf_at Γ r aa (mset M2 26 0 (nI s)) h4 := by rw [eh4]; exact rf_set R3 26 (nI s) rfl
        obtain ⟨M5, eM5⟩ : ∃ z, z = mset M2 26 0 (nI s) := ⟨_, rfl⟩
        rw [← eM5] at R6
        refine hg_aload_n C 2 d_Rf_join_106 rfl rfl ?_
        refine f_Rf_141 C R6.1 rfl d_Rf_join_107 ?_
        refine hg_ti (show M5 27 0 = K 27 0 by rw [eM5, mset_n (by decide), eM2, mset_n (by decide)]) ?_
        refine hg_ti eC ?_
        exact hg_iretN C hr rfl d_Rf_join_110 (Nat.le_of_ble_eq_true rfl) (Nat.le_of_ble_eq_true rfl) (⟨by rw [f_join, if_neg (fun z => z hp), if_neg h40, show nT N = t by omega, ← eK, if_neg c84n], by rw [f_join, if_neg (fun z => z hp), if_neg h40, show nT N = t by omega, ← eK, if_neg c84n]; rw [eM5, eM2] at R6; exact R6⟩)
      · have c84n : nC K = 0 := (nI_eq (a := (nC K)) (b := 0) (by omega) (by omega)).mp c84
        refine hg_aload_n C 2 d_Rf_join_87 rfl rfl ?_
        refine hg_iload_n C 1 d_Rf_join_88 rfl rfl ?_
        refine hg_VNz (q := ("ModelMergeModel", T_Rf, 31)) C (k_Rf_finish l Γ _ r aa K hR hK hZK (by omega) s (by omega)) (cw_Rf_158 C.2.2.2.2.1 rfl rfl ⟨Nat.le_of_ble_eq_true rfl, Nat.le_of_ble_eq_true rfl⟩) hR.1 rfl rfl rfl (Nat.le_of_ble_eq_true rfl) d_Rf_join_89 ⟨Nat.le_of_ble_eq_true rfl, Nat.le_of_ble_eq_true rfl⟩ (fun h7 R8 => ?_)
        refine hg_iconst (v := 0) C d_Rf_join_92 (by decide) ?_
        exact hg_iretN C hr rfl d_Rf_join_93 (Nat.le_of_ble_eq_true rfl) (Nat.le_of_ble_eq_true rfl) (⟨by rw [f_join, if_neg (fun z => z hp), if_neg h40, show nT N = t by omega, ← eK, if_pos c84n], by rw [f_join, if_neg (fun z => z hp), if_neg h40, show nT N = t by omega, ← eK, if_pos c84n]; exact R8⟩)
    · have c65n : ¬ nT N ≤ t := fun z => c65 (nI_le (a := (nT N)) (b := t) z (by omega))
      refine hg_aload_n C 2 d_Rf_join_68 rfl rfl ?_
      refine hg_iload_n C 1 d_Rf_join_69 rfl rfl ?_
      refine hg_iload_n C 0 d_Rf_join_70 rfl rfl ?_
      refine hg_VNz (q := ("ModelMergeModel", T_Rf, 31)) C (k_Rf_find l Γ _ r aa K hR hK N hN hZ hA s t hs (by omega) (by omega)) (cw_Rf_155 C.2.2.2.2.1 rfl rfl ⟨Nat.le_of_ble_eq_true rfl, Nat.le_of_ble_eq_true rfl⟩) hR.1 rfl rfl rfl (Nat.le_of_ble_eq_true rfl) d_Rf_join_71 ⟨Nat.le_of_ble_eq_true rfl, Nat.le_of_ble_eq_true rfl⟩ (fun h9 R10 => ?_)
      refine hg_iinc (v := nI (t + 1)) (lv' := [(2, .int (nI (t + 1))), (1, .int (nI s)), (0, .ref r)]) C 0 d_Rf_join_74 rfl (nI_1 t) (by decide) rfl ?_
      refine hg_goto C 60 d_Rf_join_77 (by decide) ?_
      refine hg_lv (ks := [0, 1, 2]) rfl (ih (t + 1) _ (by omega) (by omega) ?_)
      rw [m_fd, ← eK]
      exact R10
set_option maxHeartbeats 4000000 in
set_option maxRecDepth 100000 in
theorem k_Rf_join (l : Launch) (Γ : Gam) (h : Pic) (r : Nat) (aa : Nat → Nat) (M : Mem) (hR : rf_at Γ r aa M h) (hI : Inv0 M) (hZ : I_zer M) (s0 : Int32) : kN l Γ y_Rf_join w_Rf_join rm_Rf_join [.ref r, .int s0] h (fun q u => q = some (.int (sp_join M s0).2.1) ∧ rf_at Γ r aa (sp_join M s0).2.2 u) 0 0 := by
  refine hg_entryN (own := "ModelMergeModel") (cc := b_Rf_join) (maxL := 3) (ret := (some .int)) (lv0 := [(0, .ref r), (1, .int s0)]) (by decide) rfl rfl (Nat.le_of_ble_eq_true rfl) rfl ?_
  intro p9 e9 s9 m9 args below meth c9 A C hnm hr
  obtain ⟨⟨⟨eT, hT⟩, ⟨eV, hV1, hV⟩, ⟨eS, hS⟩, ⟨eR, hRR⟩, ⟨eC, hC⟩⟩, hI2, -⟩ := id hI
  refine hg_aload_n C 0 d_Rf_join_0 rfl rfl ?_
  refine hg_iload_n C 1 d_Rf_join_1 rfl rfl ?_
  refine hg_aload_n C 0 d_Rf_join_2 rfl rfl ?_
  refine f_Rf_105 C hR.1 rfl d_Rf_join_3 ?_
  refine hg_ti eS ?_
  refine hg_SNb C (k_Rf_isIn l Γ _ s0 (nI (nS M))) (cw_Rf_101 C.2.2.2.2.1 rfl rfl ⟨Nat.le_of_ble_eq_true rfl, Nat.le_of_ble_eq_true rfl⟩) rfl rfl (Nat.le_of_ble_eq_true rfl) d_Rf_join_6 ⟨Nat.le_of_ble_eq_true rfl, Nat.le_of_ble_eq_true rfl⟩ (fun z1 => ?_) (fun z1 => ?_)
  · obtain ⟨s, hs, rfl⟩ := inr_nat (n := nS M) (id z1) (by omega)
    refine hg_aload_n C 0 d_Rf_join_9 rfl rfl ?_
    refine hg_iload_n C 1 d_Rf_join_10 rfl rfl ?_
    refine hg_VNb (q := ("ModelMergeModel", T_Rf, 31)) C (k_Rf_isOpen l Γ _ r aa M hR hI (nI s)) (cw_Rf_112 C.2.2.2.2.1 rfl rfl ⟨Nat.le_of_ble_eq_true rfl, Nat.le_of_ble_eq_true rfl⟩) hR.1 rfl rfl rfl (Nat.le_of_ble_eq_true rfl) d_Rf_join_11 ⟨Nat.le_of_ble_eq_true rfl, Nat.le_of_ble_eq_true rfl⟩ (fun z2 => ?_) (fun z2 => ?_)
    · refine hg_VNu (q := ("ModelMergeModel", T_Rf, 31)) C (k_Rf_goes0 l Γ _ r aa M hR) (cw_Rf_108 C.2.2.2.2.1 rfl rfl ⟨Nat.le_of_ble_eq_true rfl, Nat.le_of_ble_eq_true rfl⟩) hR.1 rfl rfl rfl (Nat.le_of_ble_eq_true rfl) d_Rf_join_14 ⟨Nat.le_of_ble_eq_true rfl, Nat.le_of_ble_eq_true rfl⟩ (fun h3 R4 => ?_)
      obtain ⟨N, eN⟩ : ∃ z, z = mset M 0 0 0 := ⟨_, rfl⟩
      rw [← eN] at R4
      have hN : Inv0 N := by rw [eN]; exact Inv0_code 0 hI
      have qS : nS N = nS M := by rw [eN]; rfl
      have qT : nT N = nT M := by rw [eN]; rfl
      have qV : nV N = nV M := by rw [eN]; rfl
      have qR : nR N = nR M := by rw [eN]; rfl
      have qC : nC N = nC M := by rw [eN]; rfl
      obtain ⟨⟨⟨fT, gT⟩, ⟨fV, gV1, gV⟩, ⟨fS, gS⟩, ⟨fR, gR⟩, ⟨fC, gC⟩⟩, hN2, -⟩ := id hN
      rw [← qS] at hs
      obtain ⟨⟨f11, gb⟩, ⟨f12, gsd⟩, ⟨f13, gnm⟩, glf⟩ := hN2 s hs
      refine hg_if_ne C 22 d_Rf_join_17 (by decide) (fun _ => ?_) (fun z => absurd z (by decide))
      refine hg_aload_n C 0 d_Rf_join_22 rfl rfl ?_
      refine f_Rf_78 C R4.1 rfl d_Rf_join_23 ?_
      refine hg_if_ge C 38 d_Rf_join_26 (by decide) (fun c26 => ?_) (fun c26 => ?_)
      · refine hg_aload_n C 0 d_Rf_join_38 rfl rfl ?_
        refine f_Rf_78 C R4.1 rfl d_Rf_join_39 ?_
        refine hg_if_lt C 50 d_Rf_join_42 (by decide) (fun z => absurd z (Int32.not_lt.mpr c26)) (fun _ => ?_)
        refine hg_bipush (v := (-5)) C d_Rf_join_45 (by decide) ?_
        refine hg_goto C 52 d_Rf_join_47 (by decide) ?_
        exact hg_iretN C hr rfl d_Rf_join_52 (Nat.le_of_ble_eq_true rfl) (Nat.le_of_ble_eq_true rfl) (⟨by rw [sp_join, gd0 z1 (by have z9 := (z2).2; exact z9), ← eN, nI_clamp (n := s) (by omega), f_join, if_pos (Int32.not_lt.mpr c26)], by rw [sp_join, gd0 z1 (by have z9 := (z2).2; exact z9), ← eN, nI_clamp (n := s) (by omega), f_join, if_pos (Int32.not_lt.mpr c26)]; exact R4⟩)
      · refine hg_aload_n C 0 d_Rf_join_29 rfl rfl ?_
        refine f_Rf_16 C R4.1 rfl d_Rf_join_30 ?_
        refine hg_ti fV ?_
        refine hg_bipush (v := 40) C d_Rf_join_33 (by decide) ?_
        refine hg_icmp_ne C 53 d_Rf_join_35 (by decide) (fun c35 => ?_) (fun c35 => ?_)
        · have c35n : ¬ nV N = 40 := fun z => c35 (congrArg nI z)
          refine hg_aload_n C 0 d_Rf_join_53 rfl rfl ?_
          refine hg_iconst (v := 0) C d_Rf_join_54 (by decide) ?_
          refine p_Rf_141 (fs' := rf_fs aa (mset N 27 0 0)) C R4.1 rfl rfl (Nat.le_of_ble_eq_true rfl) rfl d_Rf_join_55 ?_
          obtain ⟨h5, eh5⟩ : ∃ z, z = hp_up h3 r (.inr (7, rf_fs aa (mset N 27 0 0))) := ⟨_, rfl⟩
          refine hg_eq eh5.symm ?_
          have R7 : rf_at Γ r aa (mset N 27 0 0) h5 := by rw [eh5]; exact rf_set R4 27 0 rfl
          obtain ⟨M6, eM6⟩ : ∃ z, z = mset N 27 0 0 := ⟨_, rfl⟩
          rw [← eM6] at R7
          refine hg_iconst (v := 0) C d_Rf_join_58 (by decide) ?_
          refine hg_istore_n (lv' := [(2, .int 0), (0, .ref r), (1, .int (nI s))]) C d_Rf_join_59 rfl (by decide) rfl ?_
          rw [sp_join, gd0 z1 (z2).2, ← eN, nI_clamp (n := s) (by omega)]
          rw [eM6] at R7
          exact hg_lv (ks := [0, 2, 1]) rfl (lp_Rf_join l Γ C hN (by rw [eN]; exact I_zer_code 0 hZ) c35n (Int32.not_le.mp c26) hs hr (nT N + 1) 0 _ (by omega) (by omega) R7)
        · have c35n : nV N = 40 := (nI_eq (a := (nV N)) (b := 40) (by omega) (by omega)).mp c35
          refine hg_aload_n C 0 d_Rf_join_38 rfl rfl ?_
          refine f_Rf_78 C R4.1 rfl d_Rf_join_39 ?_
          refine hg_if_lt C 50 d_Rf_join_42 (by decide) (fun _ => ?_) (fun z => absurd (Int32.not_le.mp c26) z)
          refine hg_bipush (v := (-4)) C d_Rf_join_50 (by decide) ?_
          exact hg_iretN C hr rfl d_Rf_join_52 (Nat.le_of_ble_eq_true rfl) (Nat.le_of_ble_eq_true rfl) (⟨by rw [sp_join, gd0 z1 (by have z9 := (z2).2; exact z9), ← eN, nI_clamp (n := s) (by omega), f_join, if_neg (fun z => z (Int32.not_le.mp c26)), if_pos c35n], by rw [sp_join, gd0 z1 (by have z9 := (z2).2; exact z9), ← eN, nI_clamp (n := s) (by omega), f_join, if_neg (fun z => z (Int32.not_le.mp c26)), if_pos c35n]; exact R4⟩)
    · refine hg_VNu (q := ("ModelMergeModel", T_Rf, 31)) C (k_Rf_goes2 l Γ _ r aa M hR) (cw_Rf_108 C.2.2.2.2.1 rfl rfl ⟨Nat.le_of_ble_eq_true rfl, Nat.le_of_ble_eq_true rfl⟩) hR.1 rfl rfl rfl (Nat.le_of_ble_eq_true rfl) d_Rf_join_14 ⟨Nat.le_of_ble_eq_true rfl, Nat.le_of_ble_eq_true rfl⟩ (fun h8 R9 => ?_)
      refine hg_if_ne C 22 d_Rf_join_17 (by decide) (fun z => absurd rfl z) (fun _ => ?_)
      refine hg_iconst (v := 0) C d_Rf_join_20 (by decide) ?_
      exact hg_iretN C hr rfl d_Rf_join_21 (Nat.le_of_ble_eq_true rfl) (Nat.le_of_ble_eq_true rfl) (⟨by rw [sp_join, gd2 z1 (fun z9 => z2 ⟨eS ▸ z1, z9⟩)], by rw [sp_join, gd2 z1 (fun z9 => z2 ⟨eS ▸ z1, z9⟩)]; exact R9⟩)
  · refine hg_aload_n C 0 d_Rf_join_9 rfl rfl ?_
    refine hg_iload_n C 1 d_Rf_join_10 rfl rfl ?_
    refine hg_VNb (q := ("ModelMergeModel", T_Rf, 31)) C (k_Rf_isOpen l Γ _ r aa M hR hI s0) (cw_Rf_112 C.2.2.2.2.1 rfl rfl ⟨Nat.le_of_ble_eq_true rfl, Nat.le_of_ble_eq_true rfl⟩) hR.1 rfl rfl rfl (Nat.le_of_ble_eq_true rfl) d_Rf_join_11 ⟨Nat.le_of_ble_eq_true rfl, Nat.le_of_ble_eq_true rfl⟩ (fun z10 => ?_) (fun z10 => ?_)
    · refine hg_VNu (q := ("ModelMergeModel", T_Rf, 31)) C (k_Rf_goes1 l Γ _ r aa M hR 1) (cw_Rf_108 C.2.2.2.2.1 rfl rfl ⟨Nat.le_of_ble_eq_true rfl, Nat.le_of_ble_eq_true rfl⟩) hR.1 rfl rfl rfl (Nat.le_of_ble_eq_true rfl) d_Rf_join_14 ⟨Nat.le_of_ble_eq_true rfl, Nat.le_of_ble_eq_true rfl⟩ (fun h11 R12 => ?_)
      refine hg_if_ne C 22 d_Rf_join_17 (by decide) (fun z => absurd rfl z) (fun _ => ?_)
      refine hg_iconst (v := 0) C d_Rf_join_20 (by decide) ?_
      exact hg_iretN C hr rfl d_Rf_join_21 (Nat.le_of_ble_eq_true rfl) (Nat.le_of_ble_eq_true rfl) (⟨by rw [sp_join, gd1 (fun z => z1 (z))], by rw [sp_join, gd1 (fun z => z1 (z))]; exact R12⟩)
    · refine hg_VNu (q := ("ModelMergeModel", T_Rf, 31)) C (k_Rf_goes1 l Γ _ r aa M hR 0) (cw_Rf_108 C.2.2.2.2.1 rfl rfl ⟨Nat.le_of_ble_eq_true rfl, Nat.le_of_ble_eq_true rfl⟩) hR.1 rfl rfl rfl (Nat.le_of_ble_eq_true rfl) d_Rf_join_14 ⟨Nat.le_of_ble_eq_true rfl, Nat.le_of_ble_eq_true rfl⟩ (fun h13 R14 => ?_)
      refine hg_if_ne C 22 d_Rf_join_17 (by decide) (fun z => absurd rfl z) (fun _ => ?_)
      refine hg_iconst (v := 0) C d_Rf_join_20 (by decide) ?_
      exact hg_iretN C hr rfl d_Rf_join_21 (Nat.le_of_ble_eq_true rfl) (Nat.le_of_ble_eq_true rfl) (⟨by rw [sp_join, gd1 (fun z => z1 (z))], by rw [sp_join, gd1 (fun z => z1 (z))]; exact R14⟩)
/-- how many of the first n are below 0 -/
def c_ls (S : Nat → Int32) : Nat → Nat
  | 0 => 0
  | k + 1 => if S k < 0 then c_ls S k + 1 else c_ls S k
theorem c_ls_le (S : Nat → Int32) : ∀ k, c_ls S k ≤ k
  | 0 => Nat.le_refl 0
  | k + 1 => by
    have := c_ls_le S k
    unfold c_ls
    split <;> omega
noncomputable def f_settle (N : Mem) (k : Nat) (v : Int32) : Int32 × Mem := (nI (c_ls (upd (N 30) k v) (nC N)), if c_ls (upd (N 30) k v) (nC N) = 0 then m_fin (mset N 30 k v) (N 26 0).toNatClampNeg else mset N 30 k v)
noncomputable def sp_settle (M : Mem) (k v : Int32) : Int32 × Int32 × Mem := gd (b_con M k ∧ inr v 2) (¬ M 26 0 < 0) M (f_settle (mset M 0 0 0) k.toNatClampNeg v)
theorem settle_agr {N : Mem} {k : Nat} {v : Int32} : agr (mset N 30 k v) N := ⟨fun j h1 h2 => mset_n (by omega), fun i _ => by rw [mset_n (by decide)], fun i _ => by rw [mset_n (by decide)], fun i _ => by rw [mset_n (by decide)]⟩
theorem settle_inv {N : Mem} {k : Nat} {v : Int32} (hN : Inv0 N) (hv : v = 0 ∨ v = 1) : Inv0 (mset N 30 k v) := by
  have e0 : nC (mset N 30 k v) = nC N := by unfold nC; rw [mset_n (by decide)]
  refine settle_agr.inv hN ⟨?_, ?_⟩ ?_
  · rw [e0, mset_n (by decide)]; exact hN.1.2.2.2.2.1
  · rw [e0]; exact hN.1.2.2.2.2.2
  · intro j hj
    rw [e0] at hj
    rw [settle_agr.T, mset_n (by decide), mset_n (by decide), mset_s]
    obtain ⟨h1, h2, h3⟩ := hN.2.2.2.2.2.2.1 j hj
    refine ⟨h1, h2, ?_⟩
    by_cases z : j = k
    · rw [z, pk_us]; exact Or.inr hv
    · rw [pk_un z]; exact h3
abbrev rm_Rf_settle : Room := { frames := 5, cells := 0, slots := 0, locals := 127 }
set_option maxHeartbeats 4000000 in
set_option maxRecDepth 100000 in
theorem lp_Rf_settle (l : Launch) (Γ : Gam) {p : Program} {e : Env} {s9 : State} {m : MethodId} {args : Array Value} {below : List Frame} {meth : Method} {c : Code} {A : Nat → Prop} (C : hp_C p s9 m args meth c b_Rf_settle 5 "ModelMergeModel" w_Rf_settle Γ.1 kcl (ktys Γ.2.1) (ksts Γ.2.2) knws A) {h : Pic} {r : Nat} {aa : Nat → Nat} {N K : Mem} {k : Nat} {v : Int32} {s : Nat} (hK : Inv0 K) (hZK : I_zer K) (eK : K = mset N 30 k v) (e30 : K 30 = upd (N 30) k v) (qC : nC K = nC N) (e26 : N 26 0 = nI s) (e26K : K 26 0 = nI s) (qS : nS K = nS N) (qV : nV K = nV N) (hs : s < nS N) (h20 : nS N ≤ 20) (h40 : nV N < 40) (hC : nC K ≤ 300) (eC : K 27 0 = nI (nC K)) (hR : rf_at Γ r aa K h) (hr : meth.sig.returnType = some .int)  :
    ∀ (n9 : Nat) (i : Nat), (i ≤ nC K) → (nC K + 1 ≤ i + n9) → hp_G p l e rm_Rf_settle s9 m args below meth c Γ.1 kcl A 5 (hp_NQ below Γ.1 kcl A (fun q u => q = some (.int (f_settle N k v).1) ∧ rf_at Γ r aa (f_settle N k v).2 u) args s9 0 0) 0 0 65 [(4, .int (nI i)), (3, .int (nI (c_ls (K 30) i))), (1, .int (nI k)), (2, .int v), (0, .ref r)] [] h := by
  intro n9
  induction n9 with
  | zero =>
    intro i hi hm
    exact absurd hm (by omega)
  | succ n9 ih =>
    intro i hi hm
    have hcl := c_ls_le (K 30) i
    refine hg_iload C 0 d_Rf_settle_65 rfl ?_
    refine hg_aload_n C 4 d_Rf_settle_67 rfl rfl ?_
    refine f_Rf_141 C hR.1 rfl d_Rf_settle_68 ?_
    refine hg_ti eC ?_
    refine hg_icmp_ge C 98 d_Rf_settle_71 (by decide) (fun c71 => ?_) (fun c71 => ?_)
    · have c71n : nC K ≤ i := (nI_leI (a := (nC K)) (b := i) (by omega) (by omega)).mp c71
      refine hg_iload_n C 1 d_Rf_settle_98 rfl rfl ?_
      refine hg_if_ne C 110 d_Rf_settle_99 (by decide) (fun c99 => ?_) (fun c99 => ?_)
      · have c99n : ¬ c_ls (K 30) i = 0 := fun z => c99 (congrArg nI z)
        refine hg_iload_n C 1 d_Rf_settle_110 rfl rfl ?_
        exact hg_iretN C hr rfl d_Rf_settle_111 (Nat.le_of_ble_eq_true rfl) (Nat.le_of_ble_eq_true rfl) (⟨by rw [f_settle, ← e30, ← qC, show nC K = i by omega], by rw [f_settle, ← e30, ← qC, show nC K = i by omega, if_neg c99n, ← eK]; exact hR⟩)
      · have c99n : c_ls (K 30) i = 0 := (nI_eq (a := (c_ls (K 30) i)) (b := 0) (by omega) (by omega)).mp c99
        refine hg_aload_n C 4 d_Rf_settle_102 rfl rfl ?_
        refine hg_aload_n C 4 d_Rf_settle_103 rfl rfl ?_
        refine f_Rf_78 C hR.1 rfl d_Rf_settle_104 ?_
        refine hg_ti e26K ?_
        refine hg_VNz (q := ("ModelMergeModel", T_Rf, 31)) C (k_Rf_finish l Γ _ r aa K hR hK hZK (by omega) s (by omega)) (cw_Rf_158 C.2.2.2.2.1 rfl rfl ⟨Nat.le_of_ble_eq_true rfl, Nat.le_of_ble_eq_true rfl⟩) hR.1 rfl rfl rfl (Nat.le_of_ble_eq_true rfl) d_Rf_settle_107 ⟨Nat.le_of_ble_eq_true rfl, Nat.le_of_ble_eq_true rfl⟩ (fun h1 R2 => ?_)
        refine hg_iload_n C 1 d_Rf_settle_110 rfl rfl ?_
        exact hg_iretN C hr rfl d_Rf_settle_111 (Nat.le_of_ble_eq_true rfl) (Nat.le_of_ble_eq_true rfl) (⟨by rw [f_settle, ← e30, ← qC, show nC K = i by omega], by rw [f_settle, ← e30, ← qC, show nC K = i by omega, if_pos c99n, ← eK, e26, nI_clamp (by omega)]; exact R2⟩)
    · have c71n : ¬ nC K ≤ i := fun z => c71 (nI_le (a := (nC K)) (b := i) z (by omega))
      refine hg_iload_n C 1 d_Rf_settle_74 rfl rfl ?_
      refine hg_aload_n C 4 d_Rf_settle_75 rfl rfl ?_
      refine f_Rf_87 C hR.1 rfl d_Rf_settle_76 ?_
      refine hg_iload C 0 d_Rf_settle_79 rfl ?_
      have b81 : i < 300 := (by omega)
      refine hg_iald C 0 (hR.2.1 30 rfl) rfl (vp_in_nI (N := 300) b81 (by omega)) d_Rf_settle_81 ?_
      refine hg_ti (congrArg (K 30) (nI_clamp (n := i) (by omega))) ?_
      refine hg_if_ge C 89 d_Rf_settle_82 (by decide) (fun c82 => ?_) (fun c82 => ?_)
      · refine hg_iconst (v := 0) C d_Rf_settle_89 (by decide) ?_
        refine hg_iadd C d_Rf_settle_90 ?_
        refine hg_ti (show (nI (c_ls (K 30) i) : Int32) + (0 : Int32) = nI (c_ls (K 30) i + 0) from nI_add (c_ls (K 30) i) 0) ?_
        refine hg_ti (show (nI (c_ls (K 30) i + 0)) = nI (c_ls (K 30) i) from rfl) ?_
        refine hg_istore_n (lv' := [(3, .int (nI (c_ls (K 30) i))), (4, .int (nI i)), (1, .int (nI k)), (2, .int v), (0, .ref r)]) C d_Rf_settle_91 rfl (by decide) rfl ?_
        refine hg_iinc (v := nI (i + 1)) (lv' := [(4, .int (nI (i + 1))), (3, .int (nI (c_ls (K 30) i))), (1, .int (nI k)), (2, .int v), (0, .ref r)]) C 1 d_Rf_settle_92 rfl (nI_1 i) (by decide) rfl ?_
        refine hg_goto C 65 d_Rf_settle_95 (by decide) ?_
        have ih1 := ih (i + 1) (by omega) (by omega)
        rw [show c_ls (K 30) (i + 1) = c_ls (K 30) i from if_neg (Int32.not_lt.mpr c82)] at ih1
        exact hg_lv (ks := [0, 1, 2, 3, 4]) rfl ih1
      · refine hg_iconst (v := 1) C d_Rf_settle_85 (by decide) ?_
        refine hg_goto C 90 d_Rf_settle_86 (by decide) ?_
        refine hg_iadd C d_Rf_settle_90 ?_
        refine hg_ti (show (nI (c_ls (K 30) i) : Int32) + (1 : Int32) = nI (c_ls (K 30) i + 1) from nI_add (c_ls (K 30) i) 1) ?_
        refine hg_istore_n (lv' := [(3, .int (nI (c_ls (K 30) i + 1))), (4, .int (nI i)), (1, .int (nI k)), (2, .int v), (0, .ref r)]) C d_Rf_settle_91 rfl (by decide) rfl ?_
        refine hg_iinc (v := nI (i + 1)) (lv' := [(4, .int (nI (i + 1))), (3, .int (nI (c_ls (K 30) i + 1))), (1, .int (nI k)), (2, .int v), (0, .ref r)]) C 1 d_Rf_settle_92 rfl (nI_1 i) (by decide) rfl ?_
        refine hg_goto C 65 d_Rf_settle_95 (by decide) ?_
        have ih1 := ih (i + 1) (by omega) (by omega)
        rw [show c_ls (K 30) (i + 1) = c_ls (K 30) i + 1 from if_pos (Int32.not_le.mp c82)] at ih1
        exact hg_lv (ks := [0, 1, 2, 3, 4]) rfl ih1
set_option maxHeartbeats 4000000 in
set_option maxRecDepth 100000 in
theorem k_Rf_settle (l : Launch) (Γ : Gam) (h : Pic) (r : Nat) (aa : Nat → Nat) (M : Mem) (hR : rf_at Γ r aa M h) (hI : Inv0 M) (hZ : I_zer M) (k0 v0 : Int32) : kN l Γ y_Rf_settle w_Rf_settle rm_Rf_settle [.ref r, .int k0, .int v0] h (fun q u => q = some (.int (sp_settle M k0 v0).2.1) ∧ rf_at Γ r aa (sp_settle M k0 v0).2.2 u) 0 0 := by
  refine hg_entryN (own := "ModelMergeModel") (cc := b_Rf_settle) (maxL := 5) (ret := (some .int)) (lv0 := [(0, .ref r), (1, .int k0), (2, .int v0)]) (by decide) rfl rfl (Nat.le_of_ble_eq_true rfl) rfl ?_
  intro p9 e9 s9 m9 args below meth c9 A C hnm hr
  obtain ⟨⟨⟨eT, hT⟩, ⟨eV, hV1, hV⟩, ⟨eS, hS⟩, ⟨eR, hRR⟩, ⟨eC, hC⟩⟩, hI2, -⟩ := id hI
  refine hg_aload_n C 0 d_Rf_settle_0 rfl rfl ?_
  refine hg_iload_n C 1 d_Rf_settle_1 rfl rfl ?_
  refine hg_if_lt C 32 d_Rf_settle_2 (by decide) (fun c2 => ?_) (fun c2 => ?_)
  · refine hg_iconst (v := 0) C d_Rf_settle_32 (by decide) ?_
    refine hg_aload_n C 0 d_Rf_settle_33 rfl rfl ?_
    refine f_Rf_78 C hR.1 rfl d_Rf_settle_34 ?_
    refine hg_if_lt C 44 d_Rf_settle_37 (by decide) (fun c37 => ?_) (fun c37 => ?_)
    · refine hg_iconst (v := 0) C d_Rf_settle_44 (by decide) ?_
      refine hg_VNu (q := ("ModelMergeModel", T_Rf, 31)) C (k_Rf_goes1 l Γ _ r aa M hR 0) (cw_Rf_108 C.2.2.2.2.1 rfl rfl ⟨Nat.le_of_ble_eq_true rfl, Nat.le_of_ble_eq_true rfl⟩) hR.1 rfl rfl rfl (Nat.le_of_ble_eq_true rfl) d_Rf_settle_45 ⟨Nat.le_of_ble_eq_true rfl, Nat.le_of_ble_eq_true rfl⟩ (fun h1 R2 => ?_)
      refine hg_if_ne C 53 d_Rf_settle_48 (by decide) (fun z => absurd rfl z) (fun _ => ?_)
      refine hg_iconst (v := 0) C d_Rf_settle_51 (by decide) ?_
      exact hg_iretN C hr rfl d_Rf_settle_52 (Nat.le_of_ble_eq_true rfl) (Nat.le_of_ble_eq_true rfl) (⟨by rw [sp_settle, gd1 (fun z => z.1.1 c2)], by rw [sp_settle, gd1 (fun z => z.1.1 c2)]; exact R2⟩)
    · refine hg_iconst (v := 1) C d_Rf_settle_40 (by decide) ?_
      refine hg_goto C 45 d_Rf_settle_41 (by decide) ?_
      refine hg_VNu (q := ("ModelMergeModel", T_Rf, 31)) C (k_Rf_goes1 l Γ _ r aa M hR 1) (cw_Rf_108 C.2.2.2.2.1 rfl rfl ⟨Nat.le_of_ble_eq_true rfl, Nat.le_of_ble_eq_true rfl⟩) hR.1 rfl rfl rfl (Nat.le_of_ble_eq_true rfl) d_Rf_settle_45 ⟨Nat.le_of_ble_eq_true rfl, Nat.le_of_ble_eq_true rfl⟩ (fun h3 R4 => ?_)
      refine hg_if_ne C 53 d_Rf_settle_48 (by decide) (fun z => absurd rfl z) (fun _ => ?_)
      refine hg_iconst (v := 0) C d_Rf_settle_51 (by decide) ?_
      exact hg_iretN C hr rfl d_Rf_settle_52 (Nat.le_of_ble_eq_true rfl) (Nat.le_of_ble_eq_true rfl) (⟨by rw [sp_settle, gd1 (fun z => z.1.1 c2)], by rw [sp_settle, gd1 (fun z => z.1.1 c2)]; exact R4⟩)
  · refine hg_aload_n C 0 d_Rf_settle_5 rfl rfl ?_
    refine f_Rf_78 C hR.1 rfl d_Rf_settle_6 ?_
    refine hg_if_lt C 20 d_Rf_settle_9 (by decide) (fun c9 => ?_) (fun c9 => ?_)
    · refine hg_iload_n C 2 d_Rf_settle_20 rfl rfl ?_
      refine hg_iconst (v := 2) C d_Rf_settle_21 (by decide) ?_
      refine hg_SNb C (k_Rf_isIn l Γ _ v0 2) (cw_Rf_101 C.2.2.2.2.1 rfl rfl ⟨Nat.le_of_ble_eq_true rfl, Nat.le_of_ble_eq_true rfl⟩) rfl rfl (Nat.le_of_ble_eq_true rfl) d_Rf_settle_22 ⟨Nat.le_of_ble_eq_true rfl, Nat.le_of_ble_eq_true rfl⟩ (fun z5 => ?_) (fun z5 => ?_)
      · refine hg_if_eq C 32 d_Rf_settle_25 (by decide) (fun z => absurd z (by decide)) (fun _ => ?_)
        refine hg_iconst (v := 1) C d_Rf_settle_28 (by decide) ?_
        refine hg_goto C 33 d_Rf_settle_29 (by decide) ?_
        refine hg_aload_n C 0 d_Rf_settle_33 rfl rfl ?_
        refine f_Rf_78 C hR.1 rfl d_Rf_settle_34 ?_
        refine hg_if_lt C 44 d_Rf_settle_37 (by decide) (fun _ => ?_) (fun z => absurd c9 z)
        refine hg_iconst (v := 0) C d_Rf_settle_44 (by decide) ?_
        refine hg_VNu (q := ("ModelMergeModel", T_Rf, 31)) C (k_Rf_goes2 l Γ _ r aa M hR) (cw_Rf_108 C.2.2.2.2.1 rfl rfl ⟨Nat.le_of_ble_eq_true rfl, Nat.le_of_ble_eq_true rfl⟩) hR.1 rfl rfl rfl (Nat.le_of_ble_eq_true rfl) d_Rf_settle_45 ⟨Nat.le_of_ble_eq_true rfl, Nat.le_of_ble_eq_true rfl⟩ (fun h6 R7 => ?_)
        refine hg_if_ne C 53 d_Rf_settle_48 (by decide) (fun z => absurd rfl z) (fun _ => ?_)
        refine hg_iconst (v := 0) C d_Rf_settle_51 (by decide) ?_
        exact hg_iretN C hr rfl d_Rf_settle_52 (Nat.le_of_ble_eq_true rfl) (Nat.le_of_ble_eq_true rfl) (⟨by rw [sp_settle, gd2 ⟨⟨c2, Or.inl c9⟩, z5⟩ (fun z => z c9)], by rw [sp_settle, gd2 ⟨⟨c2, Or.inl c9⟩, z5⟩ (fun z => z c9)]; exact R7⟩)
      · refine hg_if_eq C 32 d_Rf_settle_25 (by decide) (fun _ => ?_) (fun z => absurd (by decide) z)
        refine hg_iconst (v := 0) C d_Rf_settle_32 (by decide) ?_
        refine hg_aload_n C 0 d_Rf_settle_33 rfl rfl ?_
        refine f_Rf_78 C hR.1 rfl d_Rf_settle_34 ?_
        refine hg_if_lt C 44 d_Rf_settle_37 (by decide) (fun _ => ?_) (fun z => absurd c9 z)
        refine hg_iconst (v := 0) C d_Rf_settle_44 (by decide) ?_
        refine hg_VNu (q := ("ModelMergeModel", T_Rf, 31)) C (k_Rf_goes1 l Γ _ r aa M hR 0) (cw_Rf_108 C.2.2.2.2.1 rfl rfl ⟨Nat.le_of_ble_eq_true rfl, Nat.le_of_ble_eq_true rfl⟩) hR.1 rfl rfl rfl (Nat.le_of_ble_eq_true rfl) d_Rf_settle_45 ⟨Nat.le_of_ble_eq_true rfl, Nat.le_of_ble_eq_true rfl⟩ (fun h8 R9 => ?_)
        refine hg_if_ne C 53 d_Rf_settle_48 (by decide) (fun z => absurd rfl z) (fun _ => ?_)
        refine hg_iconst (v := 0) C d_Rf_settle_51 (by decide) ?_
        exact hg_iretN C hr rfl d_Rf_settle_52 (Nat.le_of_ble_eq_true rfl) (Nat.le_of_ble_eq_true rfl) (⟨by rw [sp_settle, gd1 (fun z => z5 z.2)], by rw [sp_settle, gd1 (fun z => z5 z.2)]; exact R9⟩)
    · refine hg_iload_n C 1 d_Rf_settle_12 rfl rfl ?_
      refine hg_aload_n C 0 d_Rf_settle_13 rfl rfl ?_
      refine f_Rf_141 C hR.1 rfl d_Rf_settle_14 ?_
      refine hg_ti eC ?_
      refine hg_icmp_ge C 32 d_Rf_settle_17 (by decide) (fun c17 => ?_) (fun c17 => ?_)
      · refine hg_iconst (v := 0) C d_Rf_settle_32 (by decide) ?_
        refine hg_aload_n C 0 d_Rf_settle_33 rfl rfl ?_
        refine f_Rf_78 C hR.1 rfl d_Rf_settle_34 ?_
        refine hg_if_lt C 44 d_Rf_settle_37 (by decide) (fun z => absurd z c9) (fun _ => ?_)
        refine hg_iconst (v := 1) C d_Rf_settle_40 (by decide) ?_
        refine hg_goto C 45 d_Rf_settle_41 (by decide) ?_
        refine hg_VNu (q := ("ModelMergeModel", T_Rf, 31)) C (k_Rf_goes1 l Γ _ r aa M hR 1) (cw_Rf_108 C.2.2.2.2.1 rfl rfl ⟨Nat.le_of_ble_eq_true rfl, Nat.le_of_ble_eq_true rfl⟩) hR.1 rfl rfl rfl (Nat.le_of_ble_eq_true rfl) d_Rf_settle_45 ⟨Nat.le_of_ble_eq_true rfl, Nat.le_of_ble_eq_true rfl⟩ (fun h10 R11 => ?_)
        refine hg_if_ne C 53 d_Rf_settle_48 (by decide) (fun z => absurd rfl z) (fun _ => ?_)
        refine hg_iconst (v := 0) C d_Rf_settle_51 (by decide) ?_
        exact hg_iretN C hr rfl d_Rf_settle_52 (Nat.le_of_ble_eq_true rfl) (Nat.le_of_ble_eq_true rfl) (⟨by rw [sp_settle, gd1 (fun z => z.1.2.elim c9 (fun y => y c17))], by rw [sp_settle, gd1 (fun z => z.1.2.elim c9 (fun y => y c17))]; exact R11⟩)
      · refine hg_iload_n C 2 d_Rf_settle_20 rfl rfl ?_
        refine hg_iconst (v := 2) C d_Rf_settle_21 (by decide) ?_
        refine hg_SNb C (k_Rf_isIn l Γ _ v0 2) (cw_Rf_101 C.2.2.2.2.1 rfl rfl ⟨Nat.le_of_ble_eq_true rfl, Nat.le_of_ble_eq_true rfl⟩) rfl rfl (Nat.le_of_ble_eq_true rfl) d_Rf_settle_22 ⟨Nat.le_of_ble_eq_true rfl, Nat.le_of_ble_eq_true rfl⟩ (fun z12 => ?_) (fun z12 => ?_)
        · refine hg_if_eq C 32 d_Rf_settle_25 (by decide) (fun z => absurd z (by decide)) (fun _ => ?_)
          refine hg_iconst (v := 1) C d_Rf_settle_28 (by decide) ?_
          refine hg_goto C 33 d_Rf_settle_29 (by decide) ?_
          refine hg_aload_n C 0 d_Rf_settle_33 rfl rfl ?_
          refine f_Rf_78 C hR.1 rfl d_Rf_settle_34 ?_
          refine hg_if_lt C 44 d_Rf_settle_37 (by decide) (fun z => absurd z c9) (fun _ => ?_)
          refine hg_iconst (v := 1) C d_Rf_settle_40 (by decide) ?_
          refine hg_goto C 45 d_Rf_settle_41 (by decide) ?_
          refine hg_VNu (q := ("ModelMergeModel", T_Rf, 31)) C (k_Rf_goes0 l Γ _ r aa M hR) (cw_Rf_108 C.2.2.2.2.1 rfl rfl ⟨Nat.le_of_ble_eq_true rfl, Nat.le_of_ble_eq_true rfl⟩) hR.1 rfl rfl rfl (Nat.le_of_ble_eq_true rfl) d_Rf_settle_45 ⟨Nat.le_of_ble_eq_true rfl, Nat.le_of_ble_eq_true rfl⟩ (fun h13 R14 => ?_)
          obtain ⟨N, eN⟩ : ∃ z, z = mset M 0 0 0 := ⟨_, rfl⟩
          rw [← eN] at R14
          have hN : Inv0 N := by rw [eN]; exact Inv0_code 0 hI
          have qS : nS N = nS M := by rw [eN]; rfl
          have qT : nT N = nT M := by rw [eN]; rfl
          have qV : nV N = nV M := by rw [eN]; rfl
          have qR : nR N = nR M := by rw [eN]; rfl
          have qC : nC N = nC M := by rw [eN]; rfl
          obtain ⟨⟨⟨fT, gT⟩, ⟨fV, gV1, gV⟩, ⟨fS, gS⟩, ⟨fR, gR⟩, ⟨fC, gC⟩⟩, hN2, -⟩ := id hN
          obtain ⟨k, hk, rfl⟩ := inr_nat (n := nC M) ⟨c2, c17⟩ (by omega)
          obtain ⟨s, hs, e26, -, h40⟩ : ∃ s, s < nS N ∧ N 26 0 = nI s ∧ N 14 s = 1 ∧ nV N < 40 := by
            rcases hN.2.2.2.2.2.1 with z | z
            · rw [eN] at z; exact absurd (show M 26 0 < 0 by rw [show M 26 0 = -1 from z]; decide) c9
            · exact z
          refine hg_if_ne C 53 d_Rf_settle_48 (by decide) (fun _ => ?_) (fun z => absurd z (by decide))
          refine hg_aload_n C 0 d_Rf_settle_53 rfl rfl ?_
          refine f_Rf_87 C R14.1 rfl d_Rf_settle_54 ?_
          refine hg_iload_n C 1 d_Rf_settle_57 rfl rfl ?_
          refine hg_iload_n C 2 d_Rf_settle_58 rfl rfl ?_
          have b59 : k < 300 := (by omega)
          refine hg_iast C 0 (R14.2.1 30 rfl) rfl (vp_in_nI (N := 300) b59 (by omega)) d_Rf_settle_59 ?_
          obtain ⟨h15, eh15⟩ : ∃ z, z = hp_up h13 (aa 30) (.inl (Γ.2.1 0, 300, .inl (upd (N 30) (nI k : Int32).toNatClampNeg v0))) := ⟨_, rfl⟩
          refine hg_eq eh15.symm ?_
          have R17 : rf_at Γ r aa (mset N 30 k v0) h15 := by rw [eh15]; rw [nI_clamp (n := k) (by omega)]; exact rf_put R14 30 k v0 rfl
          obtain ⟨M16, eM16⟩ : ∃ z, z = mset N 30 k v0 := ⟨_, rfl⟩
          rw [← eM16] at R17
          refine hg_iconst (v := 0) C d_Rf_settle_60 (by decide) ?_
          refine hg_istore_n (lv' := [(3, .int 0), (0, .ref r), (1, .int (nI k)), (2, .int v0)]) C d_Rf_settle_61 rfl (by decide) rfl ?_
          refine hg_iconst (v := 0) C d_Rf_settle_62 (by decide) ?_
          refine hg_istore (lv' := [(4, .int 0), (3, .int 0), (0, .ref r), (1, .int (nI k)), (2, .int v0)]) C d_Rf_settle_63 (by decide) rfl ?_
          have hv2 : v0 = 0 ∨ v0 = 1 := by
            obtain ⟨j, hj, ej⟩ := inr_nat (n := 2) (id z12) (by omega)
            rcases (show j = 0 ∨ j = 1 by omega) with q | q
            · exact Or.inl (by rw [ej, q]; rfl)
            · exact Or.inr (by rw [ej, q]; rfl)
          have hK : Inv0 M16 := by rw [eM16]; exact settle_inv hN hv2
          have hA : agr M16 N := by rw [eM16]; exact settle_agr
          rw [sp_settle, gd0 ⟨⟨c2, Or.inr c17⟩, z12⟩ c9, ← eN, nI_clamp (n := k) (by omega)]
          exact hg_lv (ks := [0, 1, 3, 4, 2]) rfl (lp_Rf_settle l Γ C (N := N) (K := M16) (k := k) (v := v0) (s := s) hK (hA.zer hN (by rw [eN]; exact I_zer_code 0 hZ)) eM16 (by rw [eM16, mset_s]) (by rw [eM16]; unfold nC; rw [mset_n (by decide)]) e26 (by rw [eM16, mset_n (by decide)]; exact e26) hA.S hA.V hs gS h40 hK.1.2.2.2.2.2 hK.1.2.2.2.2.1 R17 hr (nC M16 + 1) 0 (by omega) (by omega))
        · refine hg_if_eq C 32 d_Rf_settle_25 (by decide) (fun _ => ?_) (fun z => absurd (by decide) z)
          refine hg_iconst (v := 0) C d_Rf_settle_32 (by decide) ?_
          refine hg_aload_n C 0 d_Rf_settle_33 rfl rfl ?_
          refine f_Rf_78 C hR.1 rfl d_Rf_settle_34 ?_
          refine hg_if_lt C 44 d_Rf_settle_37 (by decide) (fun z => absurd z c9) (fun _ => ?_)
          refine hg_iconst (v := 1) C d_Rf_settle_40 (by decide) ?_
          refine hg_goto C 45 d_Rf_settle_41 (by decide) ?_
          refine hg_VNu (q := ("ModelMergeModel", T_Rf, 31)) C (k_Rf_goes1 l Γ _ r aa M hR 1) (cw_Rf_108 C.2.2.2.2.1 rfl rfl ⟨Nat.le_of_ble_eq_true rfl, Nat.le_of_ble_eq_true rfl⟩) hR.1 rfl rfl rfl (Nat.le_of_ble_eq_true rfl) d_Rf_settle_45 ⟨Nat.le_of_ble_eq_true rfl, Nat.le_of_ble_eq_true rfl⟩ (fun h18 R19 => ?_)
          refine hg_if_ne C 53 d_Rf_settle_48 (by decide) (fun z => absurd rfl z) (fun _ => ?_)
          refine hg_iconst (v := 0) C d_Rf_settle_51 (by decide) ?_
          exact hg_iretN C hr rfl d_Rf_settle_52 (Nat.le_of_ble_eq_true rfl) (Nat.le_of_ble_eq_true rfl) (⟨by rw [sp_settle, gd1 (fun z => z12 z.2)], by rw [sp_settle, gd1 (fun z => z12 z.2)]; exact R19⟩)
