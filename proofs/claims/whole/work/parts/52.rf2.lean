/-! THE REFERENCE, second part: what its calls do, and that they do it -/
/-- a call's guards: 1 illegal argument, 2 illegal state, else what comes -/
noncomputable def gd (b1 b2 : Prop) (M : Mem) (x : Int32 × Mem) : Int32 × Int32 × Mem := @ite _ b1 (Classical.propDecidable _) (@ite _ b2 (Classical.propDecidable _) (0, x) (2, 0, mset M 0 0 2)) (1, 0, mset M 0 0 1)
theorem gd1 {b1 b2 : Prop} {M : Mem} {x : Int32 × Mem} (h : ¬ b1) : gd b1 b2 M x = (1, 0, mset M 0 0 1) := if_neg h
theorem gd2 {b1 b2 : Prop} {M : Mem} {x : Int32 × Mem} (h : b1) (h2 : ¬ b2) : gd b1 b2 M x = (2, 0, mset M 0 0 2) := by rw [gd, if_pos h, if_neg h2]
theorem gd0 {b1 b2 : Prop} {M : Mem} {x : Int32 × Mem} (h : b1) (h2 : b2) : gd b1 b2 M x = (0, x) := by rw [gd, if_pos h, if_pos h2]
theorem Inv0_code {M : Mem} (c : Int32) (h : Inv0 M) : Inv0 (mset M 0 0 c) := by
  have e : ∀ k, k ≠ 0 → mset M 0 0 c k = M k := fun k hk => mset_n hk
  have e1 := e 1 (by decide); have e2 := e 2 (by decide); have e3 := e 3 (by decide); have e4 := e 4 (by decide); have e5 := e 5 (by decide); have e6 := e 6 (by decide)
  have e9 := e 9 (by decide); have e11 := e 11 (by decide); have e12 := e 12 (by decide); have e13 := e 13 (by decide); have e14 := e 14 (by decide); have e16 := e 16 (by decide); have e17 := e 17 (by decide); have e18 := e 18 (by decide); have e19 := e 19 (by decide); have e20 := e 20 (by decide)
  have e22 := e 22 (by decide); have e23 := e 23 (by decide); have e24 := e 24 (by decide); have e25 := e 25 (by decide); have e26 := e 26 (by decide); have e27 := e 27 (by decide); have e28 := e 28 (by decide); have e29 := e 29 (by decide); have e30 := e 30 (by decide)
  simp only [Inv0, I_cnt, I_ses, I_def, I_mom, I_lat, I_pen, I_con, I_ver, I_new, I_thg, I_rul, nT, nV, nS, nR, nC, bs, sd, nm, bf, e1, e2, e3, e4, e5, e6, e9, e11, e12, e13, e14, e16, e17, e18, e19, e20, e22, e23, e24, e25, e26, e27, e28, e29, e30] at h ⊢
  exact h
theorem sv_code {M : Mem} (c : Int32) (s t g : Nat) : ∀ (n k : Nat), sv (mset M 0 0 c) s t g n k = sv M s t g n k
  | 0, _ => rfl
  | n + 1, k => by
    rw [sv, sv, show bf (mset M 0 0 c) (60 * s + k) = bf M (60 * s + k) from rfl, sv_code c s t g n]
    rfl
theorem stv_code {M : Mem} (c : Int32) (s k t g : Nat) : stv (mset M 0 0 c) s k t g = stv M s k t g := sv_code c s t g 60 k
theorem I_zer_code {M : Mem} (c : Int32) (h : I_zer M) : I_zer (mset M 0 0 c) := fun s hs k h1 h2 h3 t ht h4 f hf => by
  rw [stv_code]
  exact h s hs k h1 h2 h3 t ht h4 f hf
theorem inr_b {x n : Int32} (h : inr x n) : ¬ x < 0 := h.1
def m_change (M : Mem) (s sd m : Nat) (h t f v : Int32) : Mem := mset (mset (mset (mset (mset (mset (mset (mset (mset M 16 (60 * s + m) (nI sd)) 17 (60 * s + m) (-1)) 18 (60 * s + m) h) 19 (60 * s + m) t) 20 (60 * s + m) f) 21 (60 * s + m) v) 17 (60 * s + sd) (nI m)) 13 s (nI (m + 1))) 12 s (nI m)
abbrev rm_Rf_change : Room := { frames := 0, cells := 0, slots := 0, locals := 0 }
set_option maxHeartbeats 4000000 in
set_option maxRecDepth 100000 in
theorem k_Rf_change (l : Launch) (Γ : Gam) (h : Pic) (r : Nat) (aa : Nat → Nat) (M : Mem) (hR : rf_at Γ r aa M h) (s sd m : Nat) (hs : s < 20) (hd : sd < 60) (hm : m < 60) (e12 : M 12 s = nI sd) (e13 : M 13 s = nI m) (hh t f v : Int32) : kN l Γ y_Rf_change w_Rf_change rm_Rf_change [.ref r, .int (nI s), .int hh, .int t, .int f, .int v] h (fun q u => q = some (.int (nI m)) ∧ rf_at Γ r aa (m_change M s sd m hh t f v) u) 0 0 := by
  refine hg_entryN (own := "ModelMergeModel") (cc := b_Rf_change) (maxL := 8) (ret := (some .int)) (lv0 := [(0, .ref r), (1, .int (nI s)), (2, .int hh), (3, .int t), (4, .int f), (5, .int v)]) (by decide) rfl rfl (Nat.le_of_ble_eq_true rfl) rfl ?_
  intro p9 e9 s9 m9 args below meth c9 A C hnm hr
  refine hg_aload_n C 0 d_Rf_change_0 rfl rfl ?_
  refine f_Rf_42 C hR.1 rfl d_Rf_change_1 ?_
  refine hg_iload_n C 1 d_Rf_change_4 rfl rfl ?_
  have b5 : s < 20 := (by omega)
  refine hg_iald C 0 (hR.2.1 13 rfl) rfl (vp_in_nI (N := 20) b5 (by omega)) d_Rf_change_5 ?_
  refine hg_ti (congrArg (M 13) (nI_clamp (n := s) (by omega))) ?_
  refine hg_ti e13 ?_
  refine hg_istore (lv' := [(6, .int (nI m)), (0, .ref r), (1, .int (nI s)), (2, .int hh), (3, .int t), (4, .int f), (5, .int v)]) C d_Rf_change_6 (by decide) rfl ?_
  refine hg_bipush (v := 60) C d_Rf_change_8 (by decide) ?_
  refine hg_iload_n C 2 d_Rf_change_10 rfl rfl ?_
  refine hg_imul C d_Rf_change_11 ?_
  refine hg_ti (show ((60 : Int32) : Int32) * nI s = nI (60 * s) from pk_mul 60 s) ?_
  refine hg_iload C 0 d_Rf_change_12 rfl ?_
  refine hg_iadd C d_Rf_change_14 ?_
  refine hg_ti (show (nI (60 * s) : Int32) + nI m = nI (60 * s + m) from nI_add (60 * s) m) ?_
  refine hg_istore (lv' := [(7, .int (nI (60 * s + m))), (6, .int (nI m)), (0, .ref r), (1, .int (nI s)), (2, .int hh), (3, .int t), (4, .int f), (5, .int v)]) C d_Rf_change_15 (by decide) rfl ?_
  refine hg_aload_n C 2 d_Rf_change_17 rfl rfl ?_
  refine f_Rf_51 C hR.1 rfl d_Rf_change_18 ?_
  refine hg_iload C 0 d_Rf_change_21 rfl ?_
  refine hg_aload_n C 2 d_Rf_change_23 rfl rfl ?_
  refine f_Rf_39 C hR.1 rfl d_Rf_change_24 ?_
  refine hg_iload_n C 3 d_Rf_change_27 rfl rfl ?_
  have b28 : s < 20 := (by omega)
  refine hg_iald C 0 (hR.2.1 12 rfl) rfl (vp_in_nI (N := 20) b28 (by omega)) d_Rf_change_28 ?_
  refine hg_ti (congrArg (M 12) (nI_clamp (n := s) (by omega))) ?_
  refine hg_ti e12 ?_
  have b29 : 60 * s + m < 1200 := (by omega)
  refine hg_iast C 0 (hR.2.1 16 rfl) rfl (vp_in_nI (N := 1200) b29 (by omega)) d_Rf_change_29 ?_
  obtain ⟨h1, eh1⟩ : ∃ z, z = hp_up h (aa 16) (.inl (Γ.2.1 0, 1200, .inl (upd (M 16) (nI (60 * s + m) : Int32).toNatClampNeg (nI sd)))) := ⟨_, rfl⟩
  refine hg_eq eh1.symm ?_
  have R3 : rf_at Γ r aa (mset M 16 (60 * s + m) (nI sd)) h1 := by rw [eh1]; rw [nI_clamp (n := 60 * s + m) (by omega)]; exact rf_put hR 16 (60 * s + m) (nI sd) rfl
  obtain ⟨M2, eM2⟩ : ∃ z, z = mset M 16 (60 * s + m) (nI sd) := ⟨_, rfl⟩
  rw [← eM2] at R3
  refine hg_aload_n C 2 d_Rf_change_30 rfl rfl ?_
  refine f_Rf_54 C R3.1 rfl d_Rf_change_31 ?_
  refine hg_iload C 0 d_Rf_change_34 rfl ?_
  refine hg_iconst (v := (-1)) C d_Rf_change_36 (by decide) ?_
  have b37 : 60 * s + m < 1200 := (by omega)
  refine hg_iast C 0 (R3.2.1 17 rfl) rfl (vp_in_nI (N := 1200) b37 (by omega)) d_Rf_change_37 ?_
  obtain ⟨h4, eh4⟩ : ∃ z, z = hp_up h1 (aa 17) (.inl (Γ.2.1 0, 1200, .inl (upd (M2 17) (nI (60 * s + m) : Int32).toNatClampNeg (-1)))) := ⟨_, rfl⟩
  refine hg_eq eh4.symm ?_
  have R6 : rf_at Γ r aa (mset M2 17 (60 * s + m) (-1)) h4 := by rw [eh4]; rw [nI_clamp (n := 60 * s + m) (by omega)]; exact rf_put R3 17 (60 * s + m) (-1) rfl
  obtain ⟨M5, eM5⟩ : ∃ z, z = mset M2 17 (60 * s + m) (-1) := ⟨_, rfl⟩
  rw [← eM5] at R6
  refine hg_aload_n C 2 d_Rf_change_38 rfl rfl ?_
  refine f_Rf_57 C R6.1 rfl d_Rf_change_39 ?_
  refine hg_iload C 0 d_Rf_change_42 rfl ?_
  refine hg_iload_n C 4 d_Rf_change_44 rfl rfl ?_
  have b45 : 60 * s + m < 1200 := (by omega)
  refine hg_iast C 0 (R6.2.1 18 rfl) rfl (vp_in_nI (N := 1200) b45 (by omega)) d_Rf_change_45 ?_
  obtain ⟨h7, eh7⟩ : ∃ z, z = hp_up h4 (aa 18) (.inl (Γ.2.1 0, 1200, .inl (upd (M5 18) (nI (60 * s + m) : Int32).toNatClampNeg hh))) := ⟨_, rfl⟩
  refine hg_eq eh7.symm ?_
  have R9 : rf_at Γ r aa (mset M5 18 (60 * s + m) hh) h7 := by rw [eh7]; rw [nI_clamp (n := 60 * s + m) (by omega)]; exact rf_put R6 18 (60 * s + m) hh rfl
  obtain ⟨M8, eM8⟩ : ∃ z, z = mset M5 18 (60 * s + m) hh := ⟨_, rfl⟩
  rw [← eM8] at R9
  refine hg_aload_n C 2 d_Rf_change_46 rfl rfl ?_
  refine f_Rf_60 C R9.1 rfl d_Rf_change_47 ?_
  refine hg_iload C 0 d_Rf_change_50 rfl ?_
  refine hg_iload_n C 5 d_Rf_change_52 rfl rfl ?_
  have b53 : 60 * s + m < 1200 := (by omega)
  refine hg_iast C 0 (R9.2.1 19 rfl) rfl (vp_in_nI (N := 1200) b53 (by omega)) d_Rf_change_53 ?_
  obtain ⟨h10, eh10⟩ : ∃ z, z = hp_up h7 (aa 19) (.inl (Γ.2.1 0, 1200, .inl (upd (M8 19) (nI (60 * s + m) : Int32).toNatClampNeg t))) := ⟨_, rfl⟩
  refine hg_eq eh10.symm ?_
  have R12 : rf_at Γ r aa (mset M8 19 (60 * s + m) t) h10 := by rw [eh10]; rw [nI_clamp (n := 60 * s + m) (by omega)]; exact rf_put R9 19 (60 * s + m) t rfl
  obtain ⟨M11, eM11⟩ : ∃ z, z = mset M8 19 (60 * s + m) t := ⟨_, rfl⟩
  rw [← eM11] at R12
  refine hg_aload_n C 2 d_Rf_change_54 rfl rfl ?_
  refine f_Rf_63 C R12.1 rfl d_Rf_change_55 ?_
  refine hg_iload C 0 d_Rf_change_58 rfl ?_
  refine hg_iload C 6 d_Rf_change_60 rfl ?_
  have b62 : 60 * s + m < 1200 := (by omega)
  refine hg_iast C 0 (R12.2.1 20 rfl) rfl (vp_in_nI (N := 1200) b62 (by omega)) d_Rf_change_62 ?_
  obtain ⟨h13, eh13⟩ : ∃ z, z = hp_up h10 (aa 20) (.inl (Γ.2.1 0, 1200, .inl (upd (M11 20) (nI (60 * s + m) : Int32).toNatClampNeg f))) := ⟨_, rfl⟩
  refine hg_eq eh13.symm ?_
  have R15 : rf_at Γ r aa (mset M11 20 (60 * s + m) f) h13 := by rw [eh13]; rw [nI_clamp (n := 60 * s + m) (by omega)]; exact rf_put R12 20 (60 * s + m) f rfl
  obtain ⟨M14, eM14⟩ : ∃ z, z = mset M11 20 (60 * s + m) f := ⟨_, rfl⟩
  rw [← eM14] at R15
  refine hg_aload_n C 2 d_Rf_change_63 rfl rfl ?_
  refine f_Rf_66 C R15.1 rfl d_Rf_change_64 ?_
  refine hg_iload C 0 d_Rf_change_67 rfl ?_
  refine hg_iload C 7 d_Rf_change_69 rfl ?_
  have b71 : 60 * s + m < 1200 := (by omega)
  refine hg_iast C 0 (R15.2.1 21 rfl) rfl (vp_in_nI (N := 1200) b71 (by omega)) d_Rf_change_71 ?_
  obtain ⟨h16, eh16⟩ : ∃ z, z = hp_up h13 (aa 21) (.inl (Γ.2.1 0, 1200, .inl (upd (M14 21) (nI (60 * s + m) : Int32).toNatClampNeg v))) := ⟨_, rfl⟩
  refine hg_eq eh16.symm ?_
  have R18 : rf_at Γ r aa (mset M14 21 (60 * s + m) v) h16 := by rw [eh16]; rw [nI_clamp (n := 60 * s + m) (by omega)]; exact rf_put R15 21 (60 * s + m) v rfl
  obtain ⟨M17, eM17⟩ : ∃ z, z = mset M14 21 (60 * s + m) v := ⟨_, rfl⟩
  rw [← eM17] at R18
  refine hg_aload_n C 2 d_Rf_change_72 rfl rfl ?_
  refine f_Rf_54 C R18.1 rfl d_Rf_change_73 ?_
  refine hg_bipush (v := 60) C d_Rf_change_76 (by decide) ?_
  refine hg_iload_n C 3 d_Rf_change_78 rfl rfl ?_
  refine hg_imul C d_Rf_change_79 ?_
  refine hg_ti (show ((60 : Int32) : Int32) * nI s = nI (60 * s) from pk_mul 60 s) ?_
  refine hg_aload_n C 2 d_Rf_change_80 rfl rfl ?_
  refine f_Rf_39 C R18.1 rfl d_Rf_change_81 ?_
  refine hg_iload_n C 3 d_Rf_change_84 rfl rfl ?_
  have b85 : s < 20 := (by omega)
  refine hg_iald C 0 (R18.2.1 12 rfl) rfl (vp_in_nI (N := 20) b85 (by omega)) d_Rf_change_85 ?_
  refine hg_ti (congrArg (M17 12) (nI_clamp (n := s) (by omega))) ?_
  refine hg_ti (show M17 12 s = M 12 s by rw [eM17, mset_n (by decide), eM14, mset_n (by decide), eM11, mset_n (by decide), eM8, mset_n (by decide), eM5, mset_n (by decide), eM2, mset_n (by decide)]) ?_
  refine hg_ti e12 ?_
  refine hg_iadd C d_Rf_change_86 ?_
  refine hg_ti (show (nI (60 * s) : Int32) + nI sd = nI (60 * s + sd) from nI_add (60 * s) sd) ?_
  refine hg_iload C 1 d_Rf_change_87 rfl ?_
  have b89 : 60 * s + sd < 1200 := (by omega)
  refine hg_iast C 0 (R18.2.1 17 rfl) rfl (vp_in_nI (N := 1200) b89 (by omega)) d_Rf_change_89 ?_
  obtain ⟨h19, eh19⟩ : ∃ z, z = hp_up h16 (aa 17) (.inl (Γ.2.1 0, 1200, .inl (upd (M17 17) (nI (60 * s + sd) : Int32).toNatClampNeg (nI m)))) := ⟨_, rfl⟩
  refine hg_eq eh19.symm ?_
  have R21 : rf_at Γ r aa (mset M17 17 (60 * s + sd) (nI m)) h19 := by rw [eh19]; rw [nI_clamp (n := 60 * s + sd) (by omega)]; exact rf_put R18 17 (60 * s + sd) (nI m) rfl
  obtain ⟨M20, eM20⟩ : ∃ z, z = mset M17 17 (60 * s + sd) (nI m) := ⟨_, rfl⟩
  rw [← eM20] at R21
  refine hg_aload_n C 2 d_Rf_change_90 rfl rfl ?_
  refine f_Rf_42 C R21.1 rfl d_Rf_change_91 ?_
  refine hg_iload_n C 3 d_Rf_change_94 rfl rfl ?_
  refine hg_dup2 C d_Rf_change_95 rfl rfl ?_
  have b96 : s < 20 := (by omega)
  refine hg_iald C 0 (R21.2.1 13 rfl) rfl (vp_in_nI (N := 20) b96 (by omega)) d_Rf_change_96 ?_
  refine hg_ti (congrArg (M20 13) (nI_clamp (n := s) (by omega))) ?_
  refine hg_ti (show M20 13 s = M 13 s by rw [eM20, mset_n (by decide), eM17, mset_n (by decide), eM14, mset_n (by decide), eM11, mset_n (by decide), eM8, mset_n (by decide), eM5, mset_n (by decide), eM2, mset_n (by decide)]) ?_
  refine hg_ti e13 ?_
  refine hg_iconst (v := 1) C d_Rf_change_97 (by decide) ?_
  refine hg_iadd C d_Rf_change_98 ?_
  refine hg_ti (show (nI m : Int32) + (1 : Int32) = nI (m + 1) from nI_add m 1) ?_
  have b99 : s < 20 := (by omega)
  refine hg_iast C 0 (R21.2.1 13 rfl) rfl (vp_in_nI (N := 20) b99 (by omega)) d_Rf_change_99 ?_
  obtain ⟨h22, eh22⟩ : ∃ z, z = hp_up h19 (aa 13) (.inl (Γ.2.1 0, 20, .inl (upd (M20 13) (nI s : Int32).toNatClampNeg (nI (m + 1))))) := ⟨_, rfl⟩
  refine hg_eq eh22.symm ?_
  have R24 : rf_at Γ r aa (mset M20 13 s (nI (m + 1))) h22 := by rw [eh22]; rw [nI_clamp (n := s) (by omega)]; exact rf_put R21 13 s (nI (m + 1)) rfl
  obtain ⟨M23, eM23⟩ : ∃ z, z = mset M20 13 s (nI (m + 1)) := ⟨_, rfl⟩
  rw [← eM23] at R24
  refine hg_aload_n C 2 d_Rf_change_100 rfl rfl ?_
  refine f_Rf_39 C R24.1 rfl d_Rf_change_101 ?_
  refine hg_iload_n C 3 d_Rf_change_104 rfl rfl ?_
  refine hg_iload C 1 d_Rf_change_105 rfl ?_
  have b107 : s < 20 := (by omega)
  refine hg_iast C 0 (R24.2.1 12 rfl) rfl (vp_in_nI (N := 20) b107 (by omega)) d_Rf_change_107 ?_
  obtain ⟨h25, eh25⟩ : ∃ z, z = hp_up h22 (aa 12) (.inl (Γ.2.1 0, 20, .inl (upd (M23 12) (nI s : Int32).toNatClampNeg (nI m)))) := ⟨_, rfl⟩
  refine hg_eq eh25.symm ?_
  have R27 : rf_at Γ r aa (mset M23 12 s (nI m)) h25 := by rw [eh25]; rw [nI_clamp (n := s) (by omega)]; exact rf_put R24 12 s (nI m) rfl
  obtain ⟨M26, eM26⟩ : ∃ z, z = mset M23 12 s (nI m) := ⟨_, rfl⟩
  rw [← eM26] at R27
  refine hg_iload C 1 d_Rf_change_108 rfl ?_
  exact hg_iretN C hr rfl d_Rf_change_110 (Nat.le_of_ble_eq_true rfl) (Nat.le_of_ble_eq_true rfl) (⟨rfl, by rw [eM26, eM23, eM20, eM17, eM14, eM11, eM8, eM5, eM2] at R27; exact R27⟩)
def f_session (M : Mem) (p v : Int32) : Int32 × Mem := (nI (nS M), mset (mset (mset (mset (mset (mset (mset M 10 (nS M) p) 11 (nS M) v) 13 (nS M) 1) 16 (60 * nS M) (-1)) 17 (60 * nS M) (-1)) 15 (nS M) (-1)) 9 0 (nI (nS M + 1)))
noncomputable def sp_session (M : Mem) (p v : Int32) : Int32 × Int32 × Mem := gd (inr p 10 ∧ inr v (nI (nV M))) (nS M < 20) M (f_session (mset M 0 0 0) p v)
abbrev rm_Rf_session : Room := { frames := 1, cells := 0, slots := 0, locals := 22 }
set_option maxHeartbeats 4000000 in
set_option maxRecDepth 100000 in
theorem k_Rf_session (l : Launch) (Γ : Gam) (h : Pic) (r : Nat) (aa : Nat → Nat) (M : Mem) (hR : rf_at Γ r aa M h) (hI : Inv0 M) (p0 v : Int32) : kN l Γ y_Rf_session w_Rf_session rm_Rf_session [.ref r, .int p0, .int v] h (fun q u => q = some (.int (sp_session M p0 v).2.1) ∧ rf_at Γ r aa (sp_session M p0 v).2.2 u) 0 0 := by
  refine hg_entryN (own := "ModelMergeModel") (cc := b_Rf_session) (maxL := 3) (ret := (some .int)) (lv0 := [(0, .ref r), (1, .int p0), (2, .int v)]) (by decide) rfl rfl (Nat.le_of_ble_eq_true rfl) rfl ?_
  intro p9 e9 s9 m9 args below meth c9 A C hnm hr
  obtain ⟨⟨⟨eT, hT⟩, ⟨eV, hV1, hV⟩, ⟨eS, hS⟩, ⟨eR, hRR⟩, ⟨eC, hC⟩⟩, hI2, -⟩ := id hI
  refine hg_aload_n C 0 d_Rf_session_0 rfl rfl ?_
  refine hg_iload_n C 1 d_Rf_session_1 rfl rfl ?_
  refine hg_bipush (v := 10) C d_Rf_session_2 (by decide) ?_
  refine hg_SNb C (k_Rf_isIn l Γ _ p0 10) (cw_Rf_101 C.2.2.2.2.1 rfl rfl ⟨Nat.le_of_ble_eq_true rfl, Nat.le_of_ble_eq_true rfl⟩) rfl rfl (Nat.le_of_ble_eq_true rfl) d_Rf_session_4 ⟨Nat.le_of_ble_eq_true rfl, Nat.le_of_ble_eq_true rfl⟩ (fun z1 => ?_) (fun z1 => ?_)
  · obtain ⟨a, ha, rfl⟩ := inr_nat (n := 10) (id z1) (by omega)
    refine hg_if_eq C 25 d_Rf_session_7 (by decide) (fun z => absurd z (by decide)) (fun _ => ?_)
    refine hg_iload_n C 2 d_Rf_session_10 rfl rfl ?_
    refine hg_aload_n C 0 d_Rf_session_11 rfl rfl ?_
    refine f_Rf_16 C hR.1 rfl d_Rf_session_12 ?_
    refine hg_ti eV ?_
    refine hg_SNb C (k_Rf_isIn l Γ _ v (nI (nV M))) (cw_Rf_101 C.2.2.2.2.1 rfl rfl ⟨Nat.le_of_ble_eq_true rfl, Nat.le_of_ble_eq_true rfl⟩) rfl rfl (Nat.le_of_ble_eq_true rfl) d_Rf_session_15 ⟨Nat.le_of_ble_eq_true rfl, Nat.le_of_ble_eq_true rfl⟩ (fun z2 => ?_) (fun z2 => ?_)
    · obtain ⟨b, hb, rfl⟩ := inr_nat (n := nV M) (id z2) (by omega)
      refine hg_if_eq C 25 d_Rf_session_18 (by decide) (fun z => absurd z (by decide)) (fun _ => ?_)
      refine hg_iconst (v := 1) C d_Rf_session_21 (by decide) ?_
      refine hg_goto C 26 d_Rf_session_22 (by decide) ?_
      refine hg_aload_n C 0 d_Rf_session_26 rfl rfl ?_
      refine f_Rf_105 C hR.1 rfl d_Rf_session_27 ?_
      refine hg_ti eS ?_
      refine hg_bipush (v := 20) C d_Rf_session_30 (by decide) ?_
      refine hg_icmp_ge C 39 d_Rf_session_32 (by decide) (fun c32 => ?_) (fun c32 => ?_)
      · have c32n : 20 ≤ nS M := (nI_leI (a := 20) (b := (nS M)) (by omega) (by omega)).mp c32
        refine hg_iconst (v := 0) C d_Rf_session_39 (by decide) ?_
        refine hg_VNu (q := ("ModelMergeModel", T_Rf, 31)) C (k_Rf_goes2 l Γ _ r aa M hR) (cw_Rf_108 C.2.2.2.2.1 rfl rfl ⟨Nat.le_of_ble_eq_true rfl, Nat.le_of_ble_eq_true rfl⟩) hR.1 rfl rfl rfl (Nat.le_of_ble_eq_true rfl) d_Rf_session_40 ⟨Nat.le_of_ble_eq_true rfl, Nat.le_of_ble_eq_true rfl⟩ (fun h3 R4 => ?_)
        refine hg_if_ne C 48 d_Rf_session_43 (by decide) (fun z => absurd rfl z) (fun _ => ?_)
        refine hg_iconst (v := 0) C d_Rf_session_46 (by decide) ?_
        exact hg_iretN C hr rfl d_Rf_session_47 (Nat.le_of_ble_eq_true rfl) (Nat.le_of_ble_eq_true rfl) (⟨by rw [sp_session, gd2 ⟨z1, z2⟩ (by omega)], by rw [sp_session, gd2 ⟨z1, z2⟩ (by omega)]; exact R4⟩)
      · have c32n : ¬ 20 ≤ nS M := fun z => c32 (nI_le (a := 20) (b := (nS M)) z (by omega))
        refine hg_iconst (v := 1) C d_Rf_session_35 (by decide) ?_
        refine hg_goto C 40 d_Rf_session_36 (by decide) ?_
        refine hg_VNu (q := ("ModelMergeModel", T_Rf, 31)) C (k_Rf_goes0 l Γ _ r aa M hR) (cw_Rf_108 C.2.2.2.2.1 rfl rfl ⟨Nat.le_of_ble_eq_true rfl, Nat.le_of_ble_eq_true rfl⟩) hR.1 rfl rfl rfl (Nat.le_of_ble_eq_true rfl) d_Rf_session_40 ⟨Nat.le_of_ble_eq_true rfl, Nat.le_of_ble_eq_true rfl⟩ (fun h5 R6 => ?_)
        obtain ⟨N, eN⟩ : ∃ z, z = mset M 0 0 0 := ⟨_, rfl⟩
        rw [← eN] at R6
        have hN : Inv0 N := by rw [eN]; exact Inv0_code 0 hI
        have qS : nS N = nS M := by rw [eN]; rfl
        have qT : nT N = nT M := by rw [eN]; rfl
        have qV : nV N = nV M := by rw [eN]; rfl
        have qR : nR N = nR M := by rw [eN]; rfl
        have qC : nC N = nC M := by rw [eN]; rfl
        obtain ⟨⟨⟨fT, gT⟩, ⟨fV, gV1, gV⟩, ⟨fS, gS⟩, ⟨fR, gR⟩, ⟨fC, gC⟩⟩, hN2, -⟩ := id hN
        refine hg_if_ne C 48 d_Rf_session_43 (by decide) (fun _ => ?_) (fun z => absurd z (by decide))
        refine hg_aload_n C 0 d_Rf_session_48 rfl rfl ?_
        refine f_Rf_33 C R6.1 rfl d_Rf_session_49 ?_
        refine hg_aload_n C 0 d_Rf_session_52 rfl rfl ?_
        refine f_Rf_105 C R6.1 rfl d_Rf_session_53 ?_
        refine hg_ti fS ?_
        refine hg_iload_n C 1 d_Rf_session_56 rfl rfl ?_
        have b57 : nS N < 20 := (by omega)
        refine hg_iast C 0 (R6.2.1 10 rfl) rfl (vp_in_nI (N := 20) b57 (by omega)) d_Rf_session_57 ?_
        obtain ⟨h7, eh7⟩ : ∃ z, z = hp_up h5 (aa 10) (.inl (Γ.2.1 0, 20, .inl (upd (N 10) (nI (nS N) : Int32).toNatClampNeg (nI a)))) := ⟨_, rfl⟩
        refine hg_eq eh7.symm ?_
        have R9 : rf_at Γ r aa (mset N 10 (nS N) (nI a)) h7 := by rw [eh7]; rw [nI_clamp (n := nS N) (by omega)]; exact rf_put R6 10 (nS N) (nI a) rfl
        obtain ⟨M8, eM8⟩ : ∃ z, z = mset N 10 (nS N) (nI a) := ⟨_, rfl⟩
        rw [← eM8] at R9
        refine hg_aload_n C 0 d_Rf_session_58 rfl rfl ?_
        refine f_Rf_36 C R9.1 rfl d_Rf_session_59 ?_
        refine hg_aload_n C 0 d_Rf_session_62 rfl rfl ?_
        refine f_Rf_105 C R9.1 rfl d_Rf_session_63 ?_
        refine hg_ti (show M8 9 0 = N 9 0 by rw [eM8, mset_n (by decide)]) ?_
        refine hg_ti fS ?_
        refine hg_iload_n C 2 d_Rf_session_66 rfl rfl ?_
        have b67 : nS N < 20 := (by omega)
        refine hg_iast C 0 (R9.2.1 11 rfl) rfl (vp_in_nI (N := 20) b67 (by omega)) d_Rf_session_67 ?_
        obtain ⟨h10, eh10⟩ : ∃ z, z = hp_up h7 (aa 11) (.inl (Γ.2.1 0, 20, .inl (upd (M8 11) (nI (nS N) : Int32).toNatClampNeg (nI b)))) := ⟨_, rfl⟩
        refine hg_eq eh10.symm ?_
        have R12 : rf_at Γ r aa (mset M8 11 (nS N) (nI b)) h10 := by rw [eh10]; rw [nI_clamp (n := nS N) (by omega)]; exact rf_put R9 11 (nS N) (nI b) rfl
        obtain ⟨M11, eM11⟩ : ∃ z, z = mset M8 11 (nS N) (nI b) := ⟨_, rfl⟩
        rw [← eM11] at R12
        refine hg_aload_n C 0 d_Rf_session_68 rfl rfl ?_
        refine f_Rf_42 C R12.1 rfl d_Rf_session_69 ?_
        refine hg_aload_n C 0 d_Rf_session_72 rfl rfl ?_
        refine f_Rf_105 C R12.1 rfl d_Rf_session_73 ?_
        refine hg_ti (show M11 9 0 = N 9 0 by rw [eM11, mset_n (by decide), eM8, mset_n (by decide)]) ?_
        refine hg_ti fS ?_
        refine hg_iconst (v := 1) C d_Rf_session_76 (by decide) ?_
        have b77 : nS N < 20 := (by omega)
        refine hg_iast C 0 (R12.2.1 13 rfl) rfl (vp_in_nI (N := 20) b77 (by omega)) d_Rf_session_77 ?_
        obtain ⟨h13, eh13⟩ : ∃ z, z = hp_up h10 (aa 13) (.inl (Γ.2.1 0, 20, .inl (upd (M11 13) (nI (nS N) : Int32).toNatClampNeg 1))) := ⟨_, rfl⟩
        refine hg_eq eh13.symm ?_
        have R15 : rf_at Γ r aa (mset M11 13 (nS N) 1) h13 := by rw [eh13]; rw [nI_clamp (n := nS N) (by omega)]; exact rf_put R12 13 (nS N) 1 rfl
        obtain ⟨M14, eM14⟩ : ∃ z, z = mset M11 13 (nS N) 1 := ⟨_, rfl⟩
        rw [← eM14] at R15
        refine hg_aload_n C 0 d_Rf_session_78 rfl rfl ?_
        refine f_Rf_51 C R15.1 rfl d_Rf_session_79 ?_
        refine hg_bipush (v := 60) C d_Rf_session_82 (by decide) ?_
        refine hg_aload_n C 0 d_Rf_session_84 rfl rfl ?_
        refine f_Rf_105 C R15.1 rfl d_Rf_session_85 ?_
        refine hg_ti (show M14 9 0 = N 9 0 by rw [eM14, mset_n (by decide), eM11, mset_n (by decide), eM8, mset_n (by decide)]) ?_
        refine hg_ti fS ?_
        refine hg_imul C d_Rf_session_88 ?_
        refine hg_ti (show ((60 : Int32) : Int32) * nI (nS N) = nI (60 * nS N) from pk_mul 60 (nS N)) ?_
        refine hg_iconst (v := (-1)) C d_Rf_session_89 (by decide) ?_
        have b90 : 60 * nS N < 1200 := (by omega)
        refine hg_iast C 0 (R15.2.1 16 rfl) rfl (vp_in_nI (N := 1200) b90 (by omega)) d_Rf_session_90 ?_
        obtain ⟨h16, eh16⟩ : ∃ z, z = hp_up h13 (aa 16) (.inl (Γ.2.1 0, 1200, .inl (upd (M14 16) (nI (60 * nS N) : Int32).toNatClampNeg (-1)))) := ⟨_, rfl⟩
        refine hg_eq eh16.symm ?_
        have R18 : rf_at Γ r aa (mset M14 16 (60 * nS N) (-1)) h16 := by rw [eh16]; rw [nI_clamp (n := 60 * nS N) (by omega)]; exact rf_put R15 16 (60 * nS N) (-1) rfl
        obtain ⟨M17, eM17⟩ : ∃ z, z = mset M14 16 (60 * nS N) (-1) := ⟨_, rfl⟩
        rw [← eM17] at R18
        refine hg_aload_n C 0 d_Rf_session_91 rfl rfl ?_
        refine f_Rf_54 C R18.1 rfl d_Rf_session_92 ?_
        refine hg_bipush (v := 60) C d_Rf_session_95 (by decide) ?_
        refine hg_aload_n C 0 d_Rf_session_97 rfl rfl ?_
        refine f_Rf_105 C R18.1 rfl d_Rf_session_98 ?_
        refine hg_ti (show M17 9 0 = N 9 0 by rw [eM17, mset_n (by decide), eM14, mset_n (by decide), eM11, mset_n (by decide), eM8, mset_n (by decide)]) ?_
        refine hg_ti fS ?_
        refine hg_imul C d_Rf_session_101 ?_
        refine hg_ti (show ((60 : Int32) : Int32) * nI (nS N) = nI (60 * nS N) from pk_mul 60 (nS N)) ?_
        refine hg_iconst (v := (-1)) C d_Rf_session_102 (by decide) ?_
        have b103 : 60 * nS N < 1200 := (by omega)
        refine hg_iast C 0 (R18.2.1 17 rfl) rfl (vp_in_nI (N := 1200) b103 (by omega)) d_Rf_session_103 ?_
        obtain ⟨h19, eh19⟩ : ∃ z, z = hp_up h16 (aa 17) (.inl (Γ.2.1 0, 1200, .inl (upd (M17 17) (nI (60 * nS N) : Int32).toNatClampNeg (-1)))) := ⟨_, rfl⟩
        refine hg_eq eh19.symm ?_
        have R21 : rf_at Γ r aa (mset M17 17 (60 * nS N) (-1)) h19 := by rw [eh19]; rw [nI_clamp (n := 60 * nS N) (by omega)]; exact rf_put R18 17 (60 * nS N) (-1) rfl
        obtain ⟨M20, eM20⟩ : ∃ z, z = mset M17 17 (60 * nS N) (-1) := ⟨_, rfl⟩
        rw [← eM20] at R21
        refine hg_aload_n C 0 d_Rf_session_104 rfl rfl ?_
        refine f_Rf_48 C R21.1 rfl d_Rf_session_105 ?_
        refine hg_aload_n C 0 d_Rf_session_108 rfl rfl ?_
        refine f_Rf_105 C R21.1 rfl d_Rf_session_109 ?_
        refine hg_ti (show M20 9 0 = N 9 0 by rw [eM20, mset_n (by decide), eM17, mset_n (by decide), eM14, mset_n (by decide), eM11, mset_n (by decide), eM8, mset_n (by decide)]) ?_
        refine hg_ti fS ?_
        refine hg_iconst (v := (-1)) C d_Rf_session_112 (by decide) ?_
        have b113 : nS N < 20 := (by omega)
        refine hg_iast C 0 (R21.2.1 15 rfl) rfl (vp_in_nI (N := 20) b113 (by omega)) d_Rf_session_113 ?_
        obtain ⟨h22, eh22⟩ : ∃ z, z = hp_up h19 (aa 15) (.inl (Γ.2.1 0, 20, .inl (upd (M20 15) (nI (nS N) : Int32).toNatClampNeg (-1)))) := ⟨_, rfl⟩
        refine hg_eq eh22.symm ?_
        have R24 : rf_at Γ r aa (mset M20 15 (nS N) (-1)) h22 := by rw [eh22]; rw [nI_clamp (n := nS N) (by omega)]; exact rf_put R21 15 (nS N) (-1) rfl
        obtain ⟨M23, eM23⟩ : ∃ z, z = mset M20 15 (nS N) (-1) := ⟨_, rfl⟩
        rw [← eM23] at R24
        refine hg_aload_n C 0 d_Rf_session_114 rfl rfl ?_
        refine hg_dup C d_Rf_session_115 rfl ?_
        refine f_Rf_105 C R24.1 rfl d_Rf_session_116 ?_
        refine hg_ti (show M23 9 0 = N 9 0 by rw [eM23, mset_n (by decide), eM20, mset_n (by decide), eM17, mset_n (by decide), eM14, mset_n (by decide), eM11, mset_n (by decide), eM8, mset_n (by decide)]) ?_
        refine hg_ti fS ?_
        refine hg_iconst (v := 1) C d_Rf_session_119 (by decide) ?_
        refine hg_iadd C d_Rf_session_120 ?_
        refine hg_ti (show (nI (nS N) : Int32) + (1 : Int32) = nI (nS N + 1) from nI_add (nS N) 1) ?_
        refine p_Rf_105 (fs' := rf_fs aa (mset M23 9 0 (nI (nS N + 1)))) C R24.1 rfl rfl (Nat.le_of_ble_eq_true rfl) rfl d_Rf_session_121 ?_
        obtain ⟨h25, eh25⟩ : ∃ z, z = hp_up h22 r (.inr (7, rf_fs aa (mset M23 9 0 (nI (nS N + 1))))) := ⟨_, rfl⟩
        refine hg_eq eh25.symm ?_
        have R27 : rf_at Γ r aa (mset M23 9 0 (nI (nS N + 1))) h25 := by rw [eh25]; exact rf_set R24 9 (nI (nS N + 1)) rfl
        obtain ⟨M26, eM26⟩ : ∃ z, z = mset M23 9 0 (nI (nS N + 1)) := ⟨_, rfl⟩
        rw [← eM26] at R27
        refine hg_aload_n C 0 d_Rf_session_124 rfl rfl ?_
        refine f_Rf_105 C R27.1 rfl d_Rf_session_125 ?_
        refine hg_ti (show M26 9 0 = nI (nS N + 1) by rw [eM26, mset_s, pk_us]) ?_
        refine hg_iconst (v := 1) C d_Rf_session_128 (by decide) ?_
        refine hg_isub C d_Rf_session_129 ?_
        refine hg_ti (show (nI (nS N + 1) : Int32) - (1 : Int32) = nI (nS N + 1 - 1) from pk_sub (a := (nS N + 1)) (b := 1) (by omega)) ?_
        exact hg_iretN C hr rfl d_Rf_session_130 (Nat.le_of_ble_eq_true rfl) (Nat.le_of_ble_eq_true rfl) (⟨by rw [sp_session, gd0 ⟨z1, z2⟩ (by omega), f_session, ← eN, show nS N + 1 - 1 = nS N from rfl], by rw [sp_session, gd0 ⟨z1, z2⟩ (by omega), ← eN]; rw [eM26, eM23, eM20, eM17, eM14, eM11, eM8] at R27; exact R27⟩)
    · refine hg_if_eq C 25 d_Rf_session_18 (by decide) (fun _ => ?_) (fun z => absurd (by decide) z)
      refine hg_iconst (v := 0) C d_Rf_session_25 (by decide) ?_
      refine hg_aload_n C 0 d_Rf_session_26 rfl rfl ?_
      refine f_Rf_105 C hR.1 rfl d_Rf_session_27 ?_
      refine hg_ti eS ?_
      refine hg_bipush (v := 20) C d_Rf_session_30 (by decide) ?_
      refine hg_icmp_ge C 39 d_Rf_session_32 (by decide) (fun c32 => ?_) (fun c32 => ?_)
      · have c32n : 20 ≤ nS M := (nI_leI (a := 20) (b := (nS M)) (by omega) (by omega)).mp c32
        refine hg_iconst (v := 0) C d_Rf_session_39 (by decide) ?_
        refine hg_VNu (q := ("ModelMergeModel", T_Rf, 31)) C (k_Rf_goes1 l Γ _ r aa M hR 0) (cw_Rf_108 C.2.2.2.2.1 rfl rfl ⟨Nat.le_of_ble_eq_true rfl, Nat.le_of_ble_eq_true rfl⟩) hR.1 rfl rfl rfl (Nat.le_of_ble_eq_true rfl) d_Rf_session_40 ⟨Nat.le_of_ble_eq_true rfl, Nat.le_of_ble_eq_true rfl⟩ (fun h28 R29 => ?_)
        refine hg_if_ne C 48 d_Rf_session_43 (by decide) (fun z => absurd rfl z) (fun _ => ?_)
        refine hg_iconst (v := 0) C d_Rf_session_46 (by decide) ?_
        exact hg_iretN C hr rfl d_Rf_session_47 (Nat.le_of_ble_eq_true rfl) (Nat.le_of_ble_eq_true rfl) (⟨by rw [sp_session, gd1 (fun z => z2 (z.2))], by rw [sp_session, gd1 (fun z => z2 (z.2))]; exact R29⟩)
      · have c32n : ¬ 20 ≤ nS M := fun z => c32 (nI_le (a := 20) (b := (nS M)) z (by omega))
        refine hg_iconst (v := 1) C d_Rf_session_35 (by decide) ?_
        refine hg_goto C 40 d_Rf_session_36 (by decide) ?_
        refine hg_VNu (q := ("ModelMergeModel", T_Rf, 31)) C (k_Rf_goes1 l Γ _ r aa M hR 1) (cw_Rf_108 C.2.2.2.2.1 rfl rfl ⟨Nat.le_of_ble_eq_true rfl, Nat.le_of_ble_eq_true rfl⟩) hR.1 rfl rfl rfl (Nat.le_of_ble_eq_true rfl) d_Rf_session_40 ⟨Nat.le_of_ble_eq_true rfl, Nat.le_of_ble_eq_true rfl⟩ (fun h30 R31 => ?_)
        refine hg_if_ne C 48 d_Rf_session_43 (by decide) (fun z => absurd rfl z) (fun _ => ?_)
        refine hg_iconst (v := 0) C d_Rf_session_46 (by decide) ?_
        exact hg_iretN C hr rfl d_Rf_session_47 (Nat.le_of_ble_eq_true rfl) (Nat.le_of_ble_eq_true rfl) (⟨by rw [sp_session, gd1 (fun z => z2 (z.2))], by rw [sp_session, gd1 (fun z => z2 (z.2))]; exact R31⟩)
  · refine hg_if_eq C 25 d_Rf_session_7 (by decide) (fun _ => ?_) (fun z => absurd (by decide) z)
    refine hg_iconst (v := 0) C d_Rf_session_25 (by decide) ?_
    refine hg_aload_n C 0 d_Rf_session_26 rfl rfl ?_
    refine f_Rf_105 C hR.1 rfl d_Rf_session_27 ?_
    refine hg_ti eS ?_
    refine hg_bipush (v := 20) C d_Rf_session_30 (by decide) ?_
    refine hg_icmp_ge C 39 d_Rf_session_32 (by decide) (fun c32 => ?_) (fun c32 => ?_)
    · have c32n : 20 ≤ nS M := (nI_leI (a := 20) (b := (nS M)) (by omega) (by omega)).mp c32
      refine hg_iconst (v := 0) C d_Rf_session_39 (by decide) ?_
      refine hg_VNu (q := ("ModelMergeModel", T_Rf, 31)) C (k_Rf_goes1 l Γ _ r aa M hR 0) (cw_Rf_108 C.2.2.2.2.1 rfl rfl ⟨Nat.le_of_ble_eq_true rfl, Nat.le_of_ble_eq_true rfl⟩) hR.1 rfl rfl rfl (Nat.le_of_ble_eq_true rfl) d_Rf_session_40 ⟨Nat.le_of_ble_eq_true rfl, Nat.le_of_ble_eq_true rfl⟩ (fun h32 R33 => ?_)
      refine hg_if_ne C 48 d_Rf_session_43 (by decide) (fun z => absurd rfl z) (fun _ => ?_)
      refine hg_iconst (v := 0) C d_Rf_session_46 (by decide) ?_
      exact hg_iretN C hr rfl d_Rf_session_47 (Nat.le_of_ble_eq_true rfl) (Nat.le_of_ble_eq_true rfl) (⟨by rw [sp_session, gd1 (fun z => z1 (z.1))], by rw [sp_session, gd1 (fun z => z1 (z.1))]; exact R33⟩)
    · have c32n : ¬ 20 ≤ nS M := fun z => c32 (nI_le (a := 20) (b := (nS M)) z (by omega))
      refine hg_iconst (v := 1) C d_Rf_session_35 (by decide) ?_
      refine hg_goto C 40 d_Rf_session_36 (by decide) ?_
      refine hg_VNu (q := ("ModelMergeModel", T_Rf, 31)) C (k_Rf_goes1 l Γ _ r aa M hR 1) (cw_Rf_108 C.2.2.2.2.1 rfl rfl ⟨Nat.le_of_ble_eq_true rfl, Nat.le_of_ble_eq_true rfl⟩) hR.1 rfl rfl rfl (Nat.le_of_ble_eq_true rfl) d_Rf_session_40 ⟨Nat.le_of_ble_eq_true rfl, Nat.le_of_ble_eq_true rfl⟩ (fun h34 R35 => ?_)
      refine hg_if_ne C 48 d_Rf_session_43 (by decide) (fun z => absurd rfl z) (fun _ => ?_)
      refine hg_iconst (v := 0) C d_Rf_session_46 (by decide) ?_
      exact hg_iretN C hr rfl d_Rf_session_47 (Nat.le_of_ble_eq_true rfl) (Nat.le_of_ble_eq_true rfl) (⟨by rw [sp_session, gd1 (fun z => z1 (z.1))], by rw [sp_session, gd1 (fun z => z1 (z.1))]; exact R35⟩)
theorem m_change_o {M : Mem} {s sd m : Nat} {h t f v : Int32} (k : Nat) (hk : k ∉ [12, 13, 16, 17, 18, 19, 20, 21]) : m_change M s sd m h t f v k = M k := by
  simp only [List.mem_cons, List.not_mem_nil, or_false, not_or] at hk
  obtain ⟨h1, h2, h3, h4, h5, h6, h7, h8⟩ := hk
  rw [m_change, mset_n h1, mset_n h2, mset_n h4, mset_n h8, mset_n h7, mset_n h6, mset_n h5, mset_n h4, mset_n h3]
noncomputable def f_make (M : Mem) (s k : Int32) : Int32 × Mem := @ite _ (nT M = 60 ∨ nm M s.toNatClampNeg = 60) (Classical.propDecidable _) (-4, M) (nI (nT M), m_change (mset (mset (mset M 2 (nT M) k) 3 (nT M) (-1)) 1 0 (nI (nT M + 1))) s.toNatClampNeg (sd M s.toNatClampNeg) (nm M s.toNatClampNeg) 1 (nI (nT M)) 0 0)
noncomputable def sp_make (M : Mem) (s k : Int32) : Int32 × Int32 × Mem := gd (inr s (nI (nS M)) ∧ inr k 5) (M 14 s.toNatClampNeg = 0) M (f_make (mset M 0 0 0) s k)
abbrev rm_Rf_make : Room := { frames := 2, cells := 0, slots := 0, locals := 42 }
set_option maxHeartbeats 4000000 in
set_option maxRecDepth 100000 in
theorem k_Rf_make (l : Launch) (Γ : Gam) (h : Pic) (r : Nat) (aa : Nat → Nat) (M : Mem) (hR : rf_at Γ r aa M h) (hI : Inv0 M) (s0 k0 : Int32) : kN l Γ y_Rf_make w_Rf_make rm_Rf_make [.ref r, .int s0, .int k0] h (fun q u => q = some (.int (sp_make M s0 k0).2.1) ∧ rf_at Γ r aa (sp_make M s0 k0).2.2 u) 0 0 := by
  refine hg_entryN (own := "ModelMergeModel") (cc := b_Rf_make) (maxL := 4) (ret := (some .int)) (lv0 := [(0, .ref r), (1, .int s0), (2, .int k0)]) (by decide) rfl rfl (Nat.le_of_ble_eq_true rfl) rfl ?_
  intro p9 e9 s9 m9 args below meth c9 A C hnm hr
  obtain ⟨⟨⟨eT, hT⟩, ⟨eV, hV1, hV⟩, ⟨eS, hS⟩, ⟨eR, hRR⟩, ⟨eC, hC⟩⟩, hI2, -⟩ := id hI
  refine hg_aload_n C 0 d_Rf_make_0 rfl rfl ?_
  refine hg_iload_n C 1 d_Rf_make_1 rfl rfl ?_
  refine hg_aload_n C 0 d_Rf_make_2 rfl rfl ?_
  refine f_Rf_105 C hR.1 rfl d_Rf_make_3 ?_
  refine hg_ti eS ?_
  refine hg_SNb C (k_Rf_isIn l Γ _ s0 (nI (nS M))) (cw_Rf_101 C.2.2.2.2.1 rfl rfl ⟨Nat.le_of_ble_eq_true rfl, Nat.le_of_ble_eq_true rfl⟩) rfl rfl (Nat.le_of_ble_eq_true rfl) d_Rf_make_6 ⟨Nat.le_of_ble_eq_true rfl, Nat.le_of_ble_eq_true rfl⟩ (fun z1 => ?_) (fun z1 => ?_)
  · obtain ⟨s, hs, rfl⟩ := inr_nat (n := nS M) (id z1) (by omega)
    refine hg_if_eq C 24 d_Rf_make_9 (by decide) (fun z => absurd z (by decide)) (fun _ => ?_)
    refine hg_iload_n C 2 d_Rf_make_12 rfl rfl ?_
    refine hg_iconst (v := 5) C d_Rf_make_13 (by decide) ?_
    refine hg_SNb C (k_Rf_isIn l Γ _ k0 5) (cw_Rf_101 C.2.2.2.2.1 rfl rfl ⟨Nat.le_of_ble_eq_true rfl, Nat.le_of_ble_eq_true rfl⟩) rfl rfl (Nat.le_of_ble_eq_true rfl) d_Rf_make_14 ⟨Nat.le_of_ble_eq_true rfl, Nat.le_of_ble_eq_true rfl⟩ (fun z2 => ?_) (fun z2 => ?_)
    · obtain ⟨k, hk, rfl⟩ := inr_nat (n := 5) (id z2) (by omega)
      refine hg_if_eq C 24 d_Rf_make_17 (by decide) (fun z => absurd z (by decide)) (fun _ => ?_)
      refine hg_iconst (v := 1) C d_Rf_make_20 (by decide) ?_
      refine hg_goto C 25 d_Rf_make_21 (by decide) ?_
      refine hg_aload_n C 0 d_Rf_make_25 rfl rfl ?_
      refine hg_iload_n C 1 d_Rf_make_26 rfl rfl ?_
      refine hg_VNb (q := ("ModelMergeModel", T_Rf, 31)) C (k_Rf_isOpen l Γ _ r aa M hR hI (nI s)) (cw_Rf_112 C.2.2.2.2.1 rfl rfl ⟨Nat.le_of_ble_eq_true rfl, Nat.le_of_ble_eq_true rfl⟩) hR.1 rfl rfl rfl (Nat.le_of_ble_eq_true rfl) d_Rf_make_27 ⟨Nat.le_of_ble_eq_true rfl, Nat.le_of_ble_eq_true rfl⟩ (fun z3 => ?_) (fun z3 => ?_)
      · refine hg_VNu (q := ("ModelMergeModel", T_Rf, 31)) C (k_Rf_goes0 l Γ _ r aa M hR) (cw_Rf_108 C.2.2.2.2.1 rfl rfl ⟨Nat.le_of_ble_eq_true rfl, Nat.le_of_ble_eq_true rfl⟩) hR.1 rfl rfl rfl (Nat.le_of_ble_eq_true rfl) d_Rf_make_30 ⟨Nat.le_of_ble_eq_true rfl, Nat.le_of_ble_eq_true rfl⟩ (fun h4 R5 => ?_)
        obtain ⟨N, eN⟩ : ∃ z, z = mset M 0 0 0 := ⟨_, rfl⟩
        rw [← eN] at R5
        have hN : Inv0 N := by rw [eN]; exact Inv0_code 0 hI
        have qS : nS N = nS M := by rw [eN]; rfl
        have qT : nT N = nT M := by rw [eN]; rfl
        have qV : nV N = nV M := by rw [eN]; rfl
        have qR : nR N = nR M := by rw [eN]; rfl
        have qC : nC N = nC M := by rw [eN]; rfl
        obtain ⟨⟨⟨fT, gT⟩, ⟨fV, gV1, gV⟩, ⟨fS, gS⟩, ⟨fR, gR⟩, ⟨fC, gC⟩⟩, hN2, -⟩ := id hN
        rw [← qS] at hs
        obtain ⟨⟨f11, gb⟩, ⟨f12, gsd⟩, ⟨f13, gnm⟩, glf⟩ := hN2 s hs
        refine hg_if_ne C 38 d_Rf_make_33 (by decide) (fun _ => ?_) (fun z => absurd z (by decide))
        refine hg_aload_n C 0 d_Rf_make_38 rfl rfl ?_
        refine f_Rf_116 C R5.1 rfl d_Rf_make_39 ?_
        refine hg_ti fT ?_
        refine hg_bipush (v := 60) C d_Rf_make_42 (by decide) ?_
        refine hg_icmp_eq C 58 d_Rf_make_44 (by decide) (fun c44 => ?_) (fun c44 => ?_)
        · have c44n : nT N = 60 := (nI_eq (a := (nT N)) (b := 60) (by omega) (by omega)).mp c44
          refine hg_bipush (v := (-4)) C d_Rf_make_58 (by decide) ?_
          exact hg_iretN C hr rfl d_Rf_make_60 (Nat.le_of_ble_eq_true rfl) (Nat.le_of_ble_eq_true rfl) (⟨by rw [sp_make, gd0 ⟨z1, z2⟩ (by have z9 := (z3).2; exact z9), ← eN, f_make, nI_clamp (n := s) (by omega), if_pos (Or.inl c44n)], by rw [sp_make, gd0 ⟨z1, z2⟩ (by have z9 := (z3).2; exact z9), ← eN, f_make, nI_clamp (n := s) (by omega), if_pos (Or.inl c44n)]; exact R5⟩)
        · have c44n : ¬ nT N = 60 := fun z => c44 (congrArg nI z)
          refine hg_aload_n C 0 d_Rf_make_47 rfl rfl ?_
          refine f_Rf_42 C R5.1 rfl d_Rf_make_48 ?_
          refine hg_iload_n C 1 d_Rf_make_51 rfl rfl ?_
          have b52 : s < 20 := (by omega)
          refine hg_iald C 0 (R5.2.1 13 rfl) rfl (vp_in_nI (N := 20) b52 (by omega)) d_Rf_make_52 ?_
          refine hg_ti (congrArg (N 13) (nI_clamp (n := s) (by omega))) ?_
          refine hg_ti f13 ?_
          refine hg_bipush (v := 60) C d_Rf_make_53 (by decide) ?_
          refine hg_icmp_ne C 61 d_Rf_make_55 (by decide) (fun c55 => ?_) (fun c55 => ?_)
          · have c55n : ¬ nm N s = 60 := fun z => c55 (congrArg nI z)
            refine hg_aload_n C 0 d_Rf_make_61 rfl rfl ?_
            refine f_Rf_7 C R5.1 rfl d_Rf_make_62 ?_
            refine hg_aload_n C 0 d_Rf_make_65 rfl rfl ?_
            refine f_Rf_116 C R5.1 rfl d_Rf_make_66 ?_
            refine hg_ti fT ?_
            refine hg_iload_n C 2 d_Rf_make_69 rfl rfl ?_
            have b70 : nT N < 60 := (by omega)
            refine hg_iast C 0 (R5.2.1 2 rfl) rfl (vp_in_nI (N := 60) b70 (by omega)) d_Rf_make_70 ?_
            obtain ⟨h6, eh6⟩ : ∃ z, z = hp_up h4 (aa 2) (.inl (Γ.2.1 0, 60, .inl (upd (N 2) (nI (nT N) : Int32).toNatClampNeg (nI k)))) := ⟨_, rfl⟩
            refine hg_eq eh6.symm ?_
            have R8 : rf_at Γ r aa (mset N 2 (nT N) (nI k)) h6 := by rw [eh6]; rw [nI_clamp (n := nT N) (by omega)]; exact rf_put R5 2 (nT N) (nI k) rfl
            obtain ⟨M7, eM7⟩ : ∃ z, z = mset N 2 (nT N) (nI k) := ⟨_, rfl⟩
            rw [← eM7] at R8
            refine hg_aload_n C 0 d_Rf_make_71 rfl rfl ?_
            refine f_Rf_13 C R8.1 rfl d_Rf_make_72 ?_
            refine hg_aload_n C 0 d_Rf_make_75 rfl rfl ?_
            refine f_Rf_116 C R8.1 rfl d_Rf_make_76 ?_
            refine hg_ti (show M7 1 0 = N 1 0 by rw [eM7, mset_n (by decide)]) ?_
            refine hg_ti fT ?_
            refine hg_iconst (v := (-1)) C d_Rf_make_79 (by decide) ?_
            have b80 : nT N < 60 := (by omega)
            refine hg_iast C 0 (R8.2.1 3 rfl) rfl (vp_in_nI (N := 60) b80 (by omega)) d_Rf_make_80 ?_
            obtain ⟨h9, eh9⟩ : ∃ z, z = hp_up h6 (aa 3) (.inl (Γ.2.1 0, 60, .inl (upd (M7 3) (nI (nT N) : Int32).toNatClampNeg (-1)))) := ⟨_, rfl⟩
            refine hg_eq eh9.symm ?_
            have R11 : rf_at Γ r aa (mset M7 3 (nT N) (-1)) h9 := by rw [eh9]; rw [nI_clamp (n := nT N) (by omega)]; exact rf_put R8 3 (nT N) (-1) rfl
            obtain ⟨M10, eM10⟩ : ∃ z, z = mset M7 3 (nT N) (-1) := ⟨_, rfl⟩
            rw [← eM10] at R11
            refine hg_aload_n C 0 d_Rf_make_81 rfl rfl ?_
            refine hg_dup C d_Rf_make_82 rfl ?_
            refine f_Rf_116 C R11.1 rfl d_Rf_make_83 ?_
            refine hg_ti (show M10 1 0 = N 1 0 by rw [eM10, mset_n (by decide), eM7, mset_n (by decide)]) ?_
            refine hg_ti fT ?_
            refine hg_iconst (v := 1) C d_Rf_make_86 (by decide) ?_
            refine hg_iadd C d_Rf_make_87 ?_
            refine hg_ti (show (nI (nT N) : Int32) + (1 : Int32) = nI (nT N + 1) from nI_add (nT N) 1) ?_
            refine p_Rf_116 (fs' := rf_fs aa (mset M10 1 0 (nI (nT N + 1)))) C R11.1 rfl rfl (Nat.le_of_ble_eq_true rfl) rfl d_Rf_make_88 ?_
            obtain ⟨h12, eh12⟩ : ∃ z, z = hp_up h9 r (.inr (7, rf_fs aa (mset M10 1 0 (nI (nT N + 1))))) := ⟨_, rfl⟩
            refine hg_eq eh12.symm ?_
            have R14 : rf_at Γ r aa (mset M10 1 0 (nI (nT N + 1))) h12 := by rw [eh12]; exact rf_set R11 1 (nI (nT N + 1)) rfl
            obtain ⟨M13, eM13⟩ : ∃ z, z = mset M10 1 0 (nI (nT N + 1)) := ⟨_, rfl⟩
            rw [← eM13] at R14
            refine hg_aload_n C 0 d_Rf_make_91 rfl rfl ?_
            refine hg_iload_n C 1 d_Rf_make_92 rfl rfl ?_
            refine hg_iconst (v := 1) C d_Rf_make_93 (by decide) ?_
            refine hg_aload_n C 0 d_Rf_make_94 rfl rfl ?_
            refine f_Rf_116 C R14.1 rfl d_Rf_make_95 ?_
            refine hg_ti (show M13 1 0 = nI (nT N + 1) by rw [eM13, mset_s, pk_us]) ?_
            refine hg_iconst (v := 1) C d_Rf_make_98 (by decide) ?_
            refine hg_isub C d_Rf_make_99 ?_
            refine hg_ti (show (nI (nT N + 1) : Int32) - (1 : Int32) = nI (nT N + 1 - 1) from pk_sub (a := (nT N + 1)) (b := 1) (by omega)) ?_
            refine hg_iconst (v := 0) C d_Rf_make_100 (by decide) ?_
            refine hg_iconst (v := 0) C d_Rf_make_101 (by decide) ?_
            refine hg_VNu (q := ("ModelMergeModel", T_Rf, 31)) C (k_Rf_change l Γ _ r aa M13 R14 s (sd N s) (nm N s) (by omega) (by omega) (by omega) (by rw [eM13, mset_n (by decide), eM10, mset_n (by decide), eM7, mset_n (by decide)]; exact f12) (by rw [eM13, mset_n (by decide), eM10, mset_n (by decide), eM7, mset_n (by decide)]; exact f13) 1 (nI (nT N + 1 - 1)) 0 0) (cw_Rf_119 C.2.2.2.2.1 rfl rfl ⟨Nat.le_of_ble_eq_true rfl, Nat.le_of_ble_eq_true rfl⟩) R14.1 rfl rfl rfl (Nat.le_of_ble_eq_true rfl) d_Rf_make_102 ⟨Nat.le_of_ble_eq_true rfl, Nat.le_of_ble_eq_true rfl⟩ (fun h15 R16 => ?_)
            obtain ⟨M17, eM17⟩ : ∃ z, z = m_change M13 s (sd N s) (nm N s) 1 (nI (nT N + 1 - 1)) 0 0 := ⟨_, rfl⟩
            rw [← eM17] at R16
            refine hg_istore_n (lv' := [(3, .int (nI (nm N s))), (0, .ref r), (1, .int (nI s)), (2, .int (nI k))]) C d_Rf_make_105 rfl (by decide) rfl ?_
            refine hg_aload_n C 1 d_Rf_make_106 rfl rfl ?_
            refine f_Rf_116 C R16.1 rfl d_Rf_make_107 ?_
            refine hg_ti (show M17 1 0 = nI (nT N + 1) by rw [eM17, m_change_o 1 (by decide), eM13, mset_s, pk_us]) ?_
            refine hg_iconst (v := 1) C d_Rf_make_110 (by decide) ?_
            refine hg_isub C d_Rf_make_111 ?_
            refine hg_ti (show (nI (nT N + 1) : Int32) - (1 : Int32) = nI (nT N + 1 - 1) from pk_sub (a := (nT N + 1)) (b := 1) (by omega)) ?_
            exact hg_iretN C hr rfl d_Rf_make_112 (Nat.le_of_ble_eq_true rfl) (Nat.le_of_ble_eq_true rfl) (⟨by rw [sp_make, gd0 ⟨z1, z2⟩ (by have z9 := (z3).2; exact z9), ← eN, f_make, nI_clamp (n := s) (by omega), if_neg (fun z => z.elim c44n c55n)]; rfl, by rw [sp_make, gd0 ⟨z1, z2⟩ (by have z9 := (z3).2; exact z9), ← eN, f_make, nI_clamp (n := s) (by omega), if_neg (fun z => z.elim c44n c55n)]; rw [eM17, eM13, eM10, eM7, show nT N + 1 - 1 = nT N from rfl] at R16; exact R16⟩)
          · have c55n : nm N s = 60 := (nI_eq (a := (nm N s)) (b := 60) (by omega) (by omega)).mp c55
            refine hg_bipush (v := (-4)) C d_Rf_make_58 (by decide) ?_
            exact hg_iretN C hr rfl d_Rf_make_60 (Nat.le_of_ble_eq_true rfl) (Nat.le_of_ble_eq_true rfl) (⟨by rw [sp_make, gd0 ⟨z1, z2⟩ (by have z9 := (z3).2; exact z9), ← eN, f_make, nI_clamp (n := s) (by omega), if_pos (Or.inr c55n)], by rw [sp_make, gd0 ⟨z1, z2⟩ (by have z9 := (z3).2; exact z9), ← eN, f_make, nI_clamp (n := s) (by omega), if_pos (Or.inr c55n)]; exact R5⟩)
      · refine hg_VNu (q := ("ModelMergeModel", T_Rf, 31)) C (k_Rf_goes2 l Γ _ r aa M hR) (cw_Rf_108 C.2.2.2.2.1 rfl rfl ⟨Nat.le_of_ble_eq_true rfl, Nat.le_of_ble_eq_true rfl⟩) hR.1 rfl rfl rfl (Nat.le_of_ble_eq_true rfl) d_Rf_make_30 ⟨Nat.le_of_ble_eq_true rfl, Nat.le_of_ble_eq_true rfl⟩ (fun h18 R19 => ?_)
        refine hg_if_ne C 38 d_Rf_make_33 (by decide) (fun z => absurd rfl z) (fun _ => ?_)
        refine hg_iconst (v := 0) C d_Rf_make_36 (by decide) ?_
        exact hg_iretN C hr rfl d_Rf_make_37 (Nat.le_of_ble_eq_true rfl) (Nat.le_of_ble_eq_true rfl) (⟨by rw [sp_make, gd2 ⟨z1, z2⟩ (fun z9 => z3 ⟨eS ▸ z1, z9⟩)], by rw [sp_make, gd2 ⟨z1, z2⟩ (fun z9 => z3 ⟨eS ▸ z1, z9⟩)]; exact R19⟩)
    · refine hg_if_eq C 24 d_Rf_make_17 (by decide) (fun _ => ?_) (fun z => absurd (by decide) z)
      refine hg_iconst (v := 0) C d_Rf_make_24 (by decide) ?_
      refine hg_aload_n C 0 d_Rf_make_25 rfl rfl ?_
      refine hg_iload_n C 1 d_Rf_make_26 rfl rfl ?_
      refine hg_VNb (q := ("ModelMergeModel", T_Rf, 31)) C (k_Rf_isOpen l Γ _ r aa M hR hI (nI s)) (cw_Rf_112 C.2.2.2.2.1 rfl rfl ⟨Nat.le_of_ble_eq_true rfl, Nat.le_of_ble_eq_true rfl⟩) hR.1 rfl rfl rfl (Nat.le_of_ble_eq_true rfl) d_Rf_make_27 ⟨Nat.le_of_ble_eq_true rfl, Nat.le_of_ble_eq_true rfl⟩ (fun z20 => ?_) (fun z20 => ?_)
      · refine hg_VNu (q := ("ModelMergeModel", T_Rf, 31)) C (k_Rf_goes1 l Γ _ r aa M hR 1) (cw_Rf_108 C.2.2.2.2.1 rfl rfl ⟨Nat.le_of_ble_eq_true rfl, Nat.le_of_ble_eq_true rfl⟩) hR.1 rfl rfl rfl (Nat.le_of_ble_eq_true rfl) d_Rf_make_30 ⟨Nat.le_of_ble_eq_true rfl, Nat.le_of_ble_eq_true rfl⟩ (fun h21 R22 => ?_)
        refine hg_if_ne C 38 d_Rf_make_33 (by decide) (fun z => absurd rfl z) (fun _ => ?_)
        refine hg_iconst (v := 0) C d_Rf_make_36 (by decide) ?_
        exact hg_iretN C hr rfl d_Rf_make_37 (Nat.le_of_ble_eq_true rfl) (Nat.le_of_ble_eq_true rfl) (⟨by rw [sp_make, gd1 (fun z => z2 (z.2))], by rw [sp_make, gd1 (fun z => z2 (z.2))]; exact R22⟩)
      · refine hg_VNu (q := ("ModelMergeModel", T_Rf, 31)) C (k_Rf_goes1 l Γ _ r aa M hR 0) (cw_Rf_108 C.2.2.2.2.1 rfl rfl ⟨Nat.le_of_ble_eq_true rfl, Nat.le_of_ble_eq_true rfl⟩) hR.1 rfl rfl rfl (Nat.le_of_ble_eq_true rfl) d_Rf_make_30 ⟨Nat.le_of_ble_eq_true rfl, Nat.le_of_ble_eq_true rfl⟩ (fun h23 R24 => ?_)
        refine hg_if_ne C 38 d_Rf_make_33 (by decide) (fun z => absurd rfl z) (fun _ => ?_)
        refine hg_iconst (v := 0) C d_Rf_make_36 (by decide) ?_
        exact hg_iretN C hr rfl d_Rf_make_37 (Nat.le_of_ble_eq_true rfl) (Nat.le_of_ble_eq_true rfl) (⟨by rw [sp_make, gd1 (fun z => z2 (z.2))], by rw [sp_make, gd1 (fun z => z2 (z.2))]; exact R24⟩)
  · refine hg_if_eq C 24 d_Rf_make_9 (by decide) (fun _ => ?_) (fun z => absurd (by decide) z)
    refine hg_iconst (v := 0) C d_Rf_make_24 (by decide) ?_
    refine hg_aload_n C 0 d_Rf_make_25 rfl rfl ?_
    refine hg_iload_n C 1 d_Rf_make_26 rfl rfl ?_
    refine hg_VNb (q := ("ModelMergeModel", T_Rf, 31)) C (k_Rf_isOpen l Γ _ r aa M hR hI s0) (cw_Rf_112 C.2.2.2.2.1 rfl rfl ⟨Nat.le_of_ble_eq_true rfl, Nat.le_of_ble_eq_true rfl⟩) hR.1 rfl rfl rfl (Nat.le_of_ble_eq_true rfl) d_Rf_make_27 ⟨Nat.le_of_ble_eq_true rfl, Nat.le_of_ble_eq_true rfl⟩ (fun z25 => ?_) (fun z25 => ?_)
    · refine hg_VNu (q := ("ModelMergeModel", T_Rf, 31)) C (k_Rf_goes1 l Γ _ r aa M hR 1) (cw_Rf_108 C.2.2.2.2.1 rfl rfl ⟨Nat.le_of_ble_eq_true rfl, Nat.le_of_ble_eq_true rfl⟩) hR.1 rfl rfl rfl (Nat.le_of_ble_eq_true rfl) d_Rf_make_30 ⟨Nat.le_of_ble_eq_true rfl, Nat.le_of_ble_eq_true rfl⟩ (fun h26 R27 => ?_)
      refine hg_if_ne C 38 d_Rf_make_33 (by decide) (fun z => absurd rfl z) (fun _ => ?_)
      refine hg_iconst (v := 0) C d_Rf_make_36 (by decide) ?_
      exact hg_iretN C hr rfl d_Rf_make_37 (Nat.le_of_ble_eq_true rfl) (Nat.le_of_ble_eq_true rfl) (⟨by rw [sp_make, gd1 (fun z => z1 (z.1))], by rw [sp_make, gd1 (fun z => z1 (z.1))]; exact R27⟩)
    · refine hg_VNu (q := ("ModelMergeModel", T_Rf, 31)) C (k_Rf_goes1 l Γ _ r aa M hR 0) (cw_Rf_108 C.2.2.2.2.1 rfl rfl ⟨Nat.le_of_ble_eq_true rfl, Nat.le_of_ble_eq_true rfl⟩) hR.1 rfl rfl rfl (Nat.le_of_ble_eq_true rfl) d_Rf_make_30 ⟨Nat.le_of_ble_eq_true rfl, Nat.le_of_ble_eq_true rfl⟩ (fun h28 R29 => ?_)
      refine hg_if_ne C 38 d_Rf_make_33 (by decide) (fun z => absurd rfl z) (fun _ => ?_)
      refine hg_iconst (v := 0) C d_Rf_make_36 (by decide) ?_
      exact hg_iretN C hr rfl d_Rf_make_37 (Nat.le_of_ble_eq_true rfl) (Nat.le_of_ble_eq_true rfl) (⟨by rw [sp_make, gd1 (fun z => z1 (z.1))], by rw [sp_make, gd1 (fun z => z1 (z.1))]; exact R29⟩)
noncomputable def f_barred (M : Mem) (s t : Nat) : Int32 := @ite _ (stv M s (sd M s) t 0 = 0) (Classical.propDecidable _) (-3) (@ite _ (¬ M 3 t < 0 ∧ ¬ M 3 t = M 10 s) (Classical.propDecidable _) (-2) (@ite _ (nm M s = 60) (Classical.propDecidable _) (-4) 0))
abbrev rm_Rf_barred : Room := { frames := 2, cells := 0, slots := 0, locals := 47 }
set_option maxHeartbeats 4000000 in
set_option maxRecDepth 100000 in
theorem k_Rf_barred (l : Launch) (Γ : Gam) (h : Pic) (r : Nat) (aa : Nat → Nat) (M : Mem) (hR : rf_at Γ r aa M h) (hI : Inv0 M) (s t : Nat) (hs : s < nS M) (ht : t < 60) : kN l Γ y_Rf_barred w_Rf_barred rm_Rf_barred [.ref r, .int (nI s), .int (nI t)] h (pv (.int (f_barred M s t)) h True) 0 0 := by
  refine hg_entryN (own := "ModelMergeModel") (cc := b_Rf_barred) (maxL := 4) (ret := (some .int)) (lv0 := [(0, .ref r), (1, .int (nI s)), (2, .int (nI t))]) (by decide) rfl rfl (Nat.le_of_ble_eq_true rfl) rfl ?_
  intro p9 e9 s9 m9 args below meth c9 A C hnm hr
  obtain ⟨⟨⟨eT, hT⟩, ⟨eV, hV1, hV⟩, ⟨eS, hS⟩, ⟨eR, hRR⟩, ⟨eC, hC⟩⟩, hI2, -⟩ := id hI
  obtain ⟨⟨e11, hb⟩, ⟨e12, hsd⟩, ⟨e13, hnm⟩, hlf⟩ := hI2 s hs
  refine hg_aload_n C 0 d_Rf_barred_0 rfl rfl ?_
  refine hg_iload_n C 1 d_Rf_barred_1 rfl rfl ?_
  refine hg_iload_n C 2 d_Rf_barred_2 rfl rfl ?_
  refine hg_VNv (q := ("ModelMergeModel", T_Rf, 31)) C (k_Rf_isHere l Γ _ r aa M hR hI s t (by omega) (by omega)) (cw_Rf_123 C.2.2.2.2.1 rfl rfl ⟨Nat.le_of_ble_eq_true rfl, Nat.le_of_ble_eq_true rfl⟩) hR.1 rfl rfl rfl (Nat.le_of_ble_eq_true rfl) d_Rf_barred_3 ⟨Nat.le_of_ble_eq_true rfl, Nat.le_of_ble_eq_true rfl⟩ (fun _ => ?_)
  refine hg_if_ne C 12 d_Rf_barred_6 (by decide) (fun c6 => ?_) (fun c6 => ?_)
  · refine hg_aload_n C 0 d_Rf_barred_12 rfl rfl ?_
    refine f_Rf_13 C hR.1 rfl d_Rf_barred_13 ?_
    refine hg_iload_n C 2 d_Rf_barred_16 rfl rfl ?_
    have b17 : t < 60 := (by omega)
    refine hg_iald C 0 (hR.2.1 3 rfl) rfl (vp_in_nI (N := 60) b17 (by omega)) d_Rf_barred_17 ?_
    refine hg_ti (congrArg (M 3) (nI_clamp (n := t) (by omega))) ?_
    refine hg_if_lt C 40 d_Rf_barred_18 (by decide) (fun c18 => ?_) (fun c18 => ?_)
    · refine hg_iconst (v := 0) C d_Rf_barred_40 (by decide) ?_
      refine hg_istore_n (lv' := [(3, .int 0), (0, .ref r), (1, .int (nI s)), (2, .int (nI t))]) C d_Rf_barred_41 rfl (by decide) rfl ?_
      refine hg_iload_n C 0 d_Rf_barred_42 rfl rfl ?_
      refine hg_if_eq C 51 d_Rf_barred_43 (by decide) (fun _ => ?_) (fun z => absurd (by decide) z)
      refine hg_aload_n C 1 d_Rf_barred_51 rfl rfl ?_
      refine f_Rf_42 C hR.1 rfl d_Rf_barred_52 ?_
      refine hg_iload_n C 2 d_Rf_barred_55 rfl rfl ?_
      have b56 : s < 20 := (by omega)
      refine hg_iald C 0 (hR.2.1 13 rfl) rfl (vp_in_nI (N := 20) b56 (by omega)) d_Rf_barred_56 ?_
      refine hg_ti (congrArg (M 13) (nI_clamp (n := s) (by omega))) ?_
      refine hg_ti e13 ?_
      refine hg_bipush (v := 60) C d_Rf_barred_57 (by decide) ?_
      refine hg_icmp_ne C 67 d_Rf_barred_59 (by decide) (fun c59 => ?_) (fun c59 => ?_)
      · have c59n : ¬ nm M s = 60 := fun z => c59 (congrArg nI z)
        refine hg_iconst (v := 0) C d_Rf_barred_67 (by decide) ?_
        exact hg_iretN C hr rfl d_Rf_barred_68 (Nat.le_of_ble_eq_true rfl) (Nat.le_of_ble_eq_true rfl) (⟨by rw [f_barred, if_neg c6, if_neg (fun z => z.1 c18), if_neg c59n], rfl, trivial⟩)
      · have c59n : nm M s = 60 := (nI_eq (a := (nm M s)) (b := 60) (by omega) (by omega)).mp c59
        refine hg_bipush (v := (-4)) C d_Rf_barred_62 (by decide) ?_
        refine hg_goto C 68 d_Rf_barred_64 (by decide) ?_
        exact hg_iretN C hr rfl d_Rf_barred_68 (Nat.le_of_ble_eq_true rfl) (Nat.le_of_ble_eq_true rfl) (⟨by rw [f_barred, if_neg c6, if_neg (fun z => z.1 c18), if_pos c59n], rfl, trivial⟩)
    · refine hg_aload_n C 0 d_Rf_barred_21 rfl rfl ?_
      refine f_Rf_13 C hR.1 rfl d_Rf_barred_22 ?_
      refine hg_iload_n C 2 d_Rf_barred_25 rfl rfl ?_
      have b26 : t < 60 := (by omega)
      refine hg_iald C 0 (hR.2.1 3 rfl) rfl (vp_in_nI (N := 60) b26 (by omega)) d_Rf_barred_26 ?_
      refine hg_ti (congrArg (M 3) (nI_clamp (n := t) (by omega))) ?_
      refine hg_aload_n C 0 d_Rf_barred_27 rfl rfl ?_
      refine f_Rf_33 C hR.1 rfl d_Rf_barred_28 ?_
      refine hg_iload_n C 1 d_Rf_barred_31 rfl rfl ?_
      have b32 : s < 20 := (by omega)
      refine hg_iald C 0 (hR.2.1 10 rfl) rfl (vp_in_nI (N := 20) b32 (by omega)) d_Rf_barred_32 ?_
      refine hg_ti (congrArg (M 10) (nI_clamp (n := s) (by omega))) ?_
      refine hg_icmp_eq C 40 d_Rf_barred_33 (by decide) (fun c33 => ?_) (fun c33 => ?_)
      · refine hg_iconst (v := 0) C d_Rf_barred_40 (by decide) ?_
        refine hg_istore_n (lv' := [(3, .int 0), (0, .ref r), (1, .int (nI s)), (2, .int (nI t))]) C d_Rf_barred_41 rfl (by decide) rfl ?_
        refine hg_iload_n C 0 d_Rf_barred_42 rfl rfl ?_
        refine hg_if_eq C 51 d_Rf_barred_43 (by decide) (fun _ => ?_) (fun z => absurd (by decide) z)
        refine hg_aload_n C 1 d_Rf_barred_51 rfl rfl ?_
        refine f_Rf_42 C hR.1 rfl d_Rf_barred_52 ?_
        refine hg_iload_n C 2 d_Rf_barred_55 rfl rfl ?_
        have b56 : s < 20 := (by omega)
        refine hg_iald C 0 (hR.2.1 13 rfl) rfl (vp_in_nI (N := 20) b56 (by omega)) d_Rf_barred_56 ?_
        refine hg_ti (congrArg (M 13) (nI_clamp (n := s) (by omega))) ?_
        refine hg_ti e13 ?_
        refine hg_bipush (v := 60) C d_Rf_barred_57 (by decide) ?_
        refine hg_icmp_ne C 67 d_Rf_barred_59 (by decide) (fun c59 => ?_) (fun c59 => ?_)
        · have c59n : ¬ nm M s = 60 := fun z => c59 (congrArg nI z)
          refine hg_iconst (v := 0) C d_Rf_barred_67 (by decide) ?_
          exact hg_iretN C hr rfl d_Rf_barred_68 (Nat.le_of_ble_eq_true rfl) (Nat.le_of_ble_eq_true rfl) (⟨by rw [f_barred, if_neg c6, if_neg (fun z => z.2 c33), if_neg c59n], rfl, trivial⟩)
        · have c59n : nm M s = 60 := (nI_eq (a := (nm M s)) (b := 60) (by omega) (by omega)).mp c59
          refine hg_bipush (v := (-4)) C d_Rf_barred_62 (by decide) ?_
          refine hg_goto C 68 d_Rf_barred_64 (by decide) ?_
          exact hg_iretN C hr rfl d_Rf_barred_68 (Nat.le_of_ble_eq_true rfl) (Nat.le_of_ble_eq_true rfl) (⟨by rw [f_barred, if_neg c6, if_neg (fun z => z.2 c33), if_pos c59n], rfl, trivial⟩)
      · refine hg_iconst (v := 1) C d_Rf_barred_36 (by decide) ?_
        refine hg_goto C 41 d_Rf_barred_37 (by decide) ?_
        refine hg_istore_n (lv' := [(3, .int 1), (0, .ref r), (1, .int (nI s)), (2, .int (nI t))]) C d_Rf_barred_41 rfl (by decide) rfl ?_
        refine hg_iload_n C 0 d_Rf_barred_42 rfl rfl ?_
        refine hg_if_eq C 51 d_Rf_barred_43 (by decide) (fun z => absurd z (by decide)) (fun _ => ?_)
        refine hg_bipush (v := (-2)) C d_Rf_barred_46 (by decide) ?_
        refine hg_goto C 68 d_Rf_barred_48 (by decide) ?_
        exact hg_iretN C hr rfl d_Rf_barred_68 (Nat.le_of_ble_eq_true rfl) (Nat.le_of_ble_eq_true rfl) (⟨by rw [f_barred, if_neg c6, if_pos ⟨c18, c33⟩], rfl, trivial⟩)
  · refine hg_bipush (v := (-3)) C d_Rf_barred_9 (by decide) ?_
    exact hg_iretN C hr rfl d_Rf_barred_11 (Nat.le_of_ble_eq_true rfl) (Nat.le_of_ble_eq_true rfl) (⟨by rw [f_barred, if_pos c6], rfl, trivial⟩)
theorem f_barred_60 {M : Mem} {s t : Nat} (h : ¬ f_barred M s t < 0) : ¬ nm M s = 60 := fun z => by
  unfold f_barred at h
  by_cases h1 : stv M s (sd M s) t 0 = 0
  · rw [if_pos h1] at h; exact h (by decide)
  · rw [if_neg h1] at h
    by_cases h2 : ¬ M 3 t < 0 ∧ ¬ M 3 t = M 10 s
    · rw [if_pos h2] at h; exact h (by decide)
    · rw [if_neg h2, if_pos z] at h; exact h (by decide)
noncomputable def f_chg (M : Mem) (s t : Int32) (h f v : Int32) : Int32 × Mem := @ite _ (f_barred M s.toNatClampNeg t.toNatClampNeg < 0) (Classical.propDecidable _) (f_barred M s.toNatClampNeg t.toNatClampNeg, M) (nI (nm M s.toNatClampNeg), m_change M s.toNatClampNeg (sd M s.toNatClampNeg) (nm M s.toNatClampNeg) h t f v)
noncomputable def sp_set (M : Mem) (s t f v : Int32) : Int32 × Int32 × Mem := gd (inr s (nI (nS M)) ∧ inr t (nI (nT M)) ∧ inr f 5) (M 14 s.toNatClampNeg = 0) M (f_chg (mset M 0 0 0) s t 0 f v)
noncomputable def sp_drop (M : Mem) (s t : Int32) : Int32 × Int32 × Mem := gd (inr s (nI (nS M)) ∧ inr t (nI (nT M))) (M 14 s.toNatClampNeg = 0) M (f_chg (mset M 0 0 0) s t 2 0 0)
abbrev rm_Rf_set : Room := { frames := 3, cells := 0, slots := 0, locals := 70 }
set_option maxHeartbeats 4000000 in
set_option maxRecDepth 100000 in
theorem k_Rf_set (l : Launch) (Γ : Gam) (h : Pic) (r : Nat) (aa : Nat → Nat) (M : Mem) (hR : rf_at Γ r aa M h) (hI : Inv0 M) (s0 t0 f0 v : Int32) : kN l Γ y_Rf_set w_Rf_set rm_Rf_set [.ref r, .int s0, .int t0, .int f0, .int v] h (fun q u => q = some (.int (sp_set M s0 t0 f0 v).2.1) ∧ rf_at Γ r aa (sp_set M s0 t0 f0 v).2.2 u) 0 0 := by
  refine hg_entryN (own := "ModelMergeModel") (cc := b_Rf_set) (maxL := 6) (ret := (some .int)) (lv0 := [(0, .ref r), (1, .int s0), (2, .int t0), (3, .int f0), (4, .int v)]) (by decide) rfl rfl (Nat.le_of_ble_eq_true rfl) rfl ?_
  intro p9 e9 s9 m9 args below meth c9 A C hnm hr
  obtain ⟨⟨⟨eT, hT⟩, ⟨eV, hV1, hV⟩, ⟨eS, hS⟩, ⟨eR, hRR⟩, ⟨eC, hC⟩⟩, hI2, -⟩ := id hI
  refine hg_aload_n C 0 d_Rf_set_0 rfl rfl ?_
  refine hg_iload_n C 1 d_Rf_set_1 rfl rfl ?_
  refine hg_aload_n C 0 d_Rf_set_2 rfl rfl ?_
  refine f_Rf_105 C hR.1 rfl d_Rf_set_3 ?_
  refine hg_ti eS ?_
  refine hg_SNb C (k_Rf_isIn l Γ _ s0 (nI (nS M))) (cw_Rf_101 C.2.2.2.2.1 rfl rfl ⟨Nat.le_of_ble_eq_true rfl, Nat.le_of_ble_eq_true rfl⟩) rfl rfl (Nat.le_of_ble_eq_true rfl) d_Rf_set_6 ⟨Nat.le_of_ble_eq_true rfl, Nat.le_of_ble_eq_true rfl⟩ (fun z1 => ?_) (fun z1 => ?_)
  · obtain ⟨s, hs, rfl⟩ := inr_nat (n := nS M) (id z1) (by omega)
    refine hg_if_eq C 35 d_Rf_set_9 (by decide) (fun z => absurd z (by decide)) (fun _ => ?_)
    refine hg_iload_n C 2 d_Rf_set_12 rfl rfl ?_
    refine hg_aload_n C 0 d_Rf_set_13 rfl rfl ?_
    refine f_Rf_116 C hR.1 rfl d_Rf_set_14 ?_
    refine hg_ti eT ?_
    refine hg_SNb C (k_Rf_isIn l Γ _ t0 (nI (nT M))) (cw_Rf_101 C.2.2.2.2.1 rfl rfl ⟨Nat.le_of_ble_eq_true rfl, Nat.le_of_ble_eq_true rfl⟩) rfl rfl (Nat.le_of_ble_eq_true rfl) d_Rf_set_17 ⟨Nat.le_of_ble_eq_true rfl, Nat.le_of_ble_eq_true rfl⟩ (fun z2 => ?_) (fun z2 => ?_)
    · obtain ⟨t, ht, rfl⟩ := inr_nat (n := nT M) (id z2) (by omega)
      refine hg_if_eq C 35 d_Rf_set_20 (by decide) (fun z => absurd z (by decide)) (fun _ => ?_)
      refine hg_iload_n C 3 d_Rf_set_23 rfl rfl ?_
      refine hg_iconst (v := 5) C d_Rf_set_24 (by decide) ?_
      refine hg_SNb C (k_Rf_isIn l Γ _ f0 5) (cw_Rf_101 C.2.2.2.2.1 rfl rfl ⟨Nat.le_of_ble_eq_true rfl, Nat.le_of_ble_eq_true rfl⟩) rfl rfl (Nat.le_of_ble_eq_true rfl) d_Rf_set_25 ⟨Nat.le_of_ble_eq_true rfl, Nat.le_of_ble_eq_true rfl⟩ (fun z3 => ?_) (fun z3 => ?_)
      · obtain ⟨f, hf, rfl⟩ := inr_nat (n := 5) (id z3) (by omega)
        refine hg_if_eq C 35 d_Rf_set_28 (by decide) (fun z => absurd z (by decide)) (fun _ => ?_)
        refine hg_iconst (v := 1) C d_Rf_set_31 (by decide) ?_
        refine hg_goto C 36 d_Rf_set_32 (by decide) ?_
        refine hg_aload_n C 0 d_Rf_set_36 rfl rfl ?_
        refine hg_iload_n C 1 d_Rf_set_37 rfl rfl ?_
        refine hg_VNb (q := ("ModelMergeModel", T_Rf, 31)) C (k_Rf_isOpen l Γ _ r aa M hR hI (nI s)) (cw_Rf_112 C.2.2.2.2.1 rfl rfl ⟨Nat.le_of_ble_eq_true rfl, Nat.le_of_ble_eq_true rfl⟩) hR.1 rfl rfl rfl (Nat.le_of_ble_eq_true rfl) d_Rf_set_38 ⟨Nat.le_of_ble_eq_true rfl, Nat.le_of_ble_eq_true rfl⟩ (fun z4 => ?_) (fun z4 => ?_)
        · refine hg_VNu (q := ("ModelMergeModel", T_Rf, 31)) C (k_Rf_goes0 l Γ _ r aa M hR) (cw_Rf_108 C.2.2.2.2.1 rfl rfl ⟨Nat.le_of_ble_eq_true rfl, Nat.le_of_ble_eq_true rfl⟩) hR.1 rfl rfl rfl (Nat.le_of_ble_eq_true rfl) d_Rf_set_41 ⟨Nat.le_of_ble_eq_true rfl, Nat.le_of_ble_eq_true rfl⟩ (fun h5 R6 => ?_)
          obtain ⟨N, eN⟩ : ∃ z, z = mset M 0 0 0 := ⟨_, rfl⟩
          rw [← eN] at R6
          have hN : Inv0 N := by rw [eN]; exact Inv0_code 0 hI
          have qS : nS N = nS M := by rw [eN]; rfl
          have qT : nT N = nT M := by rw [eN]; rfl
          have qV : nV N = nV M := by rw [eN]; rfl
          have qR : nR N = nR M := by rw [eN]; rfl
          have qC : nC N = nC M := by rw [eN]; rfl
          obtain ⟨⟨⟨fT, gT⟩, ⟨fV, gV1, gV⟩, ⟨fS, gS⟩, ⟨fR, gR⟩, ⟨fC, gC⟩⟩, hN2, -⟩ := id hN
          rw [← qS] at hs
          obtain ⟨⟨f11, gb⟩, ⟨f12, gsd⟩, ⟨f13, gnm⟩, glf⟩ := hN2 s hs
          refine hg_if_ne C 49 d_Rf_set_44 (by decide) (fun _ => ?_) (fun z => absurd z (by decide))
          refine hg_aload_n C 0 d_Rf_set_49 rfl rfl ?_
          refine hg_iload_n C 1 d_Rf_set_50 rfl rfl ?_
          refine hg_iload_n C 2 d_Rf_set_51 rfl rfl ?_
          refine hg_VNv (q := ("ModelMergeModel", T_Rf, 31)) C (k_Rf_barred l Γ _ r aa N R6 hN s t (by omega) (by omega)) (cw_Rf_126 C.2.2.2.2.1 rfl rfl ⟨Nat.le_of_ble_eq_true rfl, Nat.le_of_ble_eq_true rfl⟩) R6.1 rfl rfl rfl (Nat.le_of_ble_eq_true rfl) d_Rf_set_52 ⟨Nat.le_of_ble_eq_true rfl, Nat.le_of_ble_eq_true rfl⟩ (fun _ => ?_)
          refine hg_istore (lv' := [(5, .int (f_barred N s t)), (0, .ref r), (1, .int (nI s)), (2, .int (nI t)), (3, .int (nI f)), (4, .int v)]) C d_Rf_set_55 (by decide) rfl ?_
          refine hg_iload C 0 d_Rf_set_57 rfl ?_
          refine hg_if_ge C 67 d_Rf_set_59 (by decide) (fun c59 => ?_) (fun c59 => ?_)
          · have h60 := f_barred_60 (Int32.not_lt.mpr c59)
            refine hg_aload_n C 1 d_Rf_set_67 rfl rfl ?_
            refine hg_iload_n C 2 d_Rf_set_68 rfl rfl ?_
            refine hg_iconst (v := 0) C d_Rf_set_69 (by decide) ?_
            refine hg_iload_n C 3 d_Rf_set_70 rfl rfl ?_
            refine hg_iload_n C 4 d_Rf_set_71 rfl rfl ?_
            refine hg_iload C 5 d_Rf_set_72 rfl ?_
            refine hg_VNu (q := ("ModelMergeModel", T_Rf, 31)) C (k_Rf_change l Γ _ r aa N R6 s (sd N s) (nm N s) (by omega) (by omega) (by omega) f12 f13 0 (nI t) (nI f) v) (cw_Rf_119 C.2.2.2.2.1 rfl rfl ⟨Nat.le_of_ble_eq_true rfl, Nat.le_of_ble_eq_true rfl⟩) R6.1 rfl rfl rfl (Nat.le_of_ble_eq_true rfl) d_Rf_set_74 ⟨Nat.le_of_ble_eq_true rfl, Nat.le_of_ble_eq_true rfl⟩ (fun h7 R8 => ?_)
            obtain ⟨M9, eM9⟩ : ∃ z, z = m_change N s (sd N s) (nm N s) 0 (nI t) (nI f) v := ⟨_, rfl⟩
            rw [← eM9] at R8
            exact hg_iretN C hr rfl d_Rf_set_77 (Nat.le_of_ble_eq_true rfl) (Nat.le_of_ble_eq_true rfl) (⟨by rw [sp_set, gd0 ⟨z1, z2, z3⟩ (by have z9 := (z4).2; exact z9), ← eN, f_chg, nI_clamp (n := s) (by omega), nI_clamp (n := t) (by omega), if_neg (Int32.not_lt.mpr c59)], by rw [sp_set, gd0 ⟨z1, z2, z3⟩ (by have z9 := (z4).2; exact z9), ← eN, f_chg, nI_clamp (n := s) (by omega), nI_clamp (n := t) (by omega), if_neg (Int32.not_lt.mpr c59)]; rw [eM9] at R8; exact R8⟩)
          · refine hg_iload C 0 d_Rf_set_62 rfl ?_
            refine hg_goto C 77 d_Rf_set_64 (by decide) ?_
            exact hg_iretN C hr rfl d_Rf_set_77 (Nat.le_of_ble_eq_true rfl) (Nat.le_of_ble_eq_true rfl) (⟨by rw [sp_set, gd0 ⟨z1, z2, z3⟩ (by have z9 := (z4).2; exact z9), ← eN, f_chg, nI_clamp (n := s) (by omega), nI_clamp (n := t) (by omega), if_pos (Int32.not_le.mp c59)], by rw [sp_set, gd0 ⟨z1, z2, z3⟩ (by have z9 := (z4).2; exact z9), ← eN, f_chg, nI_clamp (n := s) (by omega), nI_clamp (n := t) (by omega), if_pos (Int32.not_le.mp c59)]; exact R6⟩)
        · refine hg_VNu (q := ("ModelMergeModel", T_Rf, 31)) C (k_Rf_goes2 l Γ _ r aa M hR) (cw_Rf_108 C.2.2.2.2.1 rfl rfl ⟨Nat.le_of_ble_eq_true rfl, Nat.le_of_ble_eq_true rfl⟩) hR.1 rfl rfl rfl (Nat.le_of_ble_eq_true rfl) d_Rf_set_41 ⟨Nat.le_of_ble_eq_true rfl, Nat.le_of_ble_eq_true rfl⟩ (fun h10 R11 => ?_)
          refine hg_if_ne C 49 d_Rf_set_44 (by decide) (fun z => absurd rfl z) (fun _ => ?_)
          refine hg_iconst (v := 0) C d_Rf_set_47 (by decide) ?_
          exact hg_iretN C hr rfl d_Rf_set_48 (Nat.le_of_ble_eq_true rfl) (Nat.le_of_ble_eq_true rfl) (⟨by rw [sp_set, gd2 ⟨z1, z2, z3⟩ (fun z9 => z4 ⟨eS ▸ z1, z9⟩)], by rw [sp_set, gd2 ⟨z1, z2, z3⟩ (fun z9 => z4 ⟨eS ▸ z1, z9⟩)]; exact R11⟩)
      · refine hg_if_eq C 35 d_Rf_set_28 (by decide) (fun _ => ?_) (fun z => absurd (by decide) z)
        refine hg_iconst (v := 0) C d_Rf_set_35 (by decide) ?_
        refine hg_aload_n C 0 d_Rf_set_36 rfl rfl ?_
        refine hg_iload_n C 1 d_Rf_set_37 rfl rfl ?_
        refine hg_VNb (q := ("ModelMergeModel", T_Rf, 31)) C (k_Rf_isOpen l Γ _ r aa M hR hI (nI s)) (cw_Rf_112 C.2.2.2.2.1 rfl rfl ⟨Nat.le_of_ble_eq_true rfl, Nat.le_of_ble_eq_true rfl⟩) hR.1 rfl rfl rfl (Nat.le_of_ble_eq_true rfl) d_Rf_set_38 ⟨Nat.le_of_ble_eq_true rfl, Nat.le_of_ble_eq_true rfl⟩ (fun z12 => ?_) (fun z12 => ?_)
        · refine hg_VNu (q := ("ModelMergeModel", T_Rf, 31)) C (k_Rf_goes1 l Γ _ r aa M hR 1) (cw_Rf_108 C.2.2.2.2.1 rfl rfl ⟨Nat.le_of_ble_eq_true rfl, Nat.le_of_ble_eq_true rfl⟩) hR.1 rfl rfl rfl (Nat.le_of_ble_eq_true rfl) d_Rf_set_41 ⟨Nat.le_of_ble_eq_true rfl, Nat.le_of_ble_eq_true rfl⟩ (fun h13 R14 => ?_)
          refine hg_if_ne C 49 d_Rf_set_44 (by decide) (fun z => absurd rfl z) (fun _ => ?_)
          refine hg_iconst (v := 0) C d_Rf_set_47 (by decide) ?_
          exact hg_iretN C hr rfl d_Rf_set_48 (Nat.le_of_ble_eq_true rfl) (Nat.le_of_ble_eq_true rfl) (⟨by rw [sp_set, gd1 (fun z => z3 (z.2.2))], by rw [sp_set, gd1 (fun z => z3 (z.2.2))]; exact R14⟩)
        · refine hg_VNu (q := ("ModelMergeModel", T_Rf, 31)) C (k_Rf_goes1 l Γ _ r aa M hR 0) (cw_Rf_108 C.2.2.2.2.1 rfl rfl ⟨Nat.le_of_ble_eq_true rfl, Nat.le_of_ble_eq_true rfl⟩) hR.1 rfl rfl rfl (Nat.le_of_ble_eq_true rfl) d_Rf_set_41 ⟨Nat.le_of_ble_eq_true rfl, Nat.le_of_ble_eq_true rfl⟩ (fun h15 R16 => ?_)
          refine hg_if_ne C 49 d_Rf_set_44 (by decide) (fun z => absurd rfl z) (fun _ => ?_)
          refine hg_iconst (v := 0) C d_Rf_set_47 (by decide) ?_
          exact hg_iretN C hr rfl d_Rf_set_48 (Nat.le_of_ble_eq_true rfl) (Nat.le_of_ble_eq_true rfl) (⟨by rw [sp_set, gd1 (fun z => z3 (z.2.2))], by rw [sp_set, gd1 (fun z => z3 (z.2.2))]; exact R16⟩)
    · refine hg_if_eq C 35 d_Rf_set_20 (by decide) (fun _ => ?_) (fun z => absurd (by decide) z)
      refine hg_iconst (v := 0) C d_Rf_set_35 (by decide) ?_
      refine hg_aload_n C 0 d_Rf_set_36 rfl rfl ?_
      refine hg_iload_n C 1 d_Rf_set_37 rfl rfl ?_
      refine hg_VNb (q := ("ModelMergeModel", T_Rf, 31)) C (k_Rf_isOpen l Γ _ r aa M hR hI (nI s)) (cw_Rf_112 C.2.2.2.2.1 rfl rfl ⟨Nat.le_of_ble_eq_true rfl, Nat.le_of_ble_eq_true rfl⟩) hR.1 rfl rfl rfl (Nat.le_of_ble_eq_true rfl) d_Rf_set_38 ⟨Nat.le_of_ble_eq_true rfl, Nat.le_of_ble_eq_true rfl⟩ (fun z17 => ?_) (fun z17 => ?_)
      · refine hg_VNu (q := ("ModelMergeModel", T_Rf, 31)) C (k_Rf_goes1 l Γ _ r aa M hR 1) (cw_Rf_108 C.2.2.2.2.1 rfl rfl ⟨Nat.le_of_ble_eq_true rfl, Nat.le_of_ble_eq_true rfl⟩) hR.1 rfl rfl rfl (Nat.le_of_ble_eq_true rfl) d_Rf_set_41 ⟨Nat.le_of_ble_eq_true rfl, Nat.le_of_ble_eq_true rfl⟩ (fun h18 R19 => ?_)
        refine hg_if_ne C 49 d_Rf_set_44 (by decide) (fun z => absurd rfl z) (fun _ => ?_)
        refine hg_iconst (v := 0) C d_Rf_set_47 (by decide) ?_
        exact hg_iretN C hr rfl d_Rf_set_48 (Nat.le_of_ble_eq_true rfl) (Nat.le_of_ble_eq_true rfl) (⟨by rw [sp_set, gd1 (fun z => z2 (z.2.1))], by rw [sp_set, gd1 (fun z => z2 (z.2.1))]; exact R19⟩)
      · refine hg_VNu (q := ("ModelMergeModel", T_Rf, 31)) C (k_Rf_goes1 l Γ _ r aa M hR 0) (cw_Rf_108 C.2.2.2.2.1 rfl rfl ⟨Nat.le_of_ble_eq_true rfl, Nat.le_of_ble_eq_true rfl⟩) hR.1 rfl rfl rfl (Nat.le_of_ble_eq_true rfl) d_Rf_set_41 ⟨Nat.le_of_ble_eq_true rfl, Nat.le_of_ble_eq_true rfl⟩ (fun h20 R21 => ?_)
        refine hg_if_ne C 49 d_Rf_set_44 (by decide) (fun z => absurd rfl z) (fun _ => ?_)
        refine hg_iconst (v := 0) C d_Rf_set_47 (by decide) ?_
        exact hg_iretN C hr rfl d_Rf_set_48 (Nat.le_of_ble_eq_true rfl) (Nat.le_of_ble_eq_true rfl) (⟨by rw [sp_set, gd1 (fun z => z2 (z.2.1))], by rw [sp_set, gd1 (fun z => z2 (z.2.1))]; exact R21⟩)
  · refine hg_if_eq C 35 d_Rf_set_9 (by decide) (fun _ => ?_) (fun z => absurd (by decide) z)
    refine hg_iconst (v := 0) C d_Rf_set_35 (by decide) ?_
    refine hg_aload_n C 0 d_Rf_set_36 rfl rfl ?_
    refine hg_iload_n C 1 d_Rf_set_37 rfl rfl ?_
    refine hg_VNb (q := ("ModelMergeModel", T_Rf, 31)) C (k_Rf_isOpen l Γ _ r aa M hR hI s0) (cw_Rf_112 C.2.2.2.2.1 rfl rfl ⟨Nat.le_of_ble_eq_true rfl, Nat.le_of_ble_eq_true rfl⟩) hR.1 rfl rfl rfl (Nat.le_of_ble_eq_true rfl) d_Rf_set_38 ⟨Nat.le_of_ble_eq_true rfl, Nat.le_of_ble_eq_true rfl⟩ (fun z22 => ?_) (fun z22 => ?_)
    · refine hg_VNu (q := ("ModelMergeModel", T_Rf, 31)) C (k_Rf_goes1 l Γ _ r aa M hR 1) (cw_Rf_108 C.2.2.2.2.1 rfl rfl ⟨Nat.le_of_ble_eq_true rfl, Nat.le_of_ble_eq_true rfl⟩) hR.1 rfl rfl rfl (Nat.le_of_ble_eq_true rfl) d_Rf_set_41 ⟨Nat.le_of_ble_eq_true rfl, Nat.le_of_ble_eq_true rfl⟩ (fun h23 R24 => ?_)
      refine hg_if_ne C 49 d_Rf_set_44 (by decide) (fun z => absurd rfl z) (fun _ => ?_)
      refine hg_iconst (v := 0) C d_Rf_set_47 (by decide) ?_
      exact hg_iretN C hr rfl d_Rf_set_48 (Nat.le_of_ble_eq_true rfl) (Nat.le_of_ble_eq_true rfl) (⟨by rw [sp_set, gd1 (fun z => z1 (z.1))], by rw [sp_set, gd1 (fun z => z1 (z.1))]; exact R24⟩)
    · refine hg_VNu (q := ("ModelMergeModel", T_Rf, 31)) C (k_Rf_goes1 l Γ _ r aa M hR 0) (cw_Rf_108 C.2.2.2.2.1 rfl rfl ⟨Nat.le_of_ble_eq_true rfl, Nat.le_of_ble_eq_true rfl⟩) hR.1 rfl rfl rfl (Nat.le_of_ble_eq_true rfl) d_Rf_set_41 ⟨Nat.le_of_ble_eq_true rfl, Nat.le_of_ble_eq_true rfl⟩ (fun h25 R26 => ?_)
      refine hg_if_ne C 49 d_Rf_set_44 (by decide) (fun z => absurd rfl z) (fun _ => ?_)
      refine hg_iconst (v := 0) C d_Rf_set_47 (by decide) ?_
      exact hg_iretN C hr rfl d_Rf_set_48 (Nat.le_of_ble_eq_true rfl) (Nat.le_of_ble_eq_true rfl) (⟨by rw [sp_set, gd1 (fun z => z1 (z.1))], by rw [sp_set, gd1 (fun z => z1 (z.1))]; exact R26⟩)
abbrev rm_Rf_drop : Room := { frames := 3, cells := 0, slots := 0, locals := 70 }
set_option maxHeartbeats 4000000 in
set_option maxRecDepth 100000 in
theorem k_Rf_drop (l : Launch) (Γ : Gam) (h : Pic) (r : Nat) (aa : Nat → Nat) (M : Mem) (hR : rf_at Γ r aa M h) (hI : Inv0 M) (s0 t0 : Int32) : kN l Γ y_Rf_drop w_Rf_drop rm_Rf_drop [.ref r, .int s0, .int t0] h (fun q u => q = some (.int (sp_drop M s0 t0).2.1) ∧ rf_at Γ r aa (sp_drop M s0 t0).2.2 u) 0 0 := by
  refine hg_entryN (own := "ModelMergeModel") (cc := b_Rf_drop) (maxL := 4) (ret := (some .int)) (lv0 := [(0, .ref r), (1, .int s0), (2, .int t0)]) (by decide) rfl rfl (Nat.le_of_ble_eq_true rfl) rfl ?_
  intro p9 e9 s9 m9 args below meth c9 A C hnm hr
  obtain ⟨⟨⟨eT, hT⟩, ⟨eV, hV1, hV⟩, ⟨eS, hS⟩, ⟨eR, hRR⟩, ⟨eC, hC⟩⟩, hI2, -⟩ := id hI
  refine hg_aload_n C 0 d_Rf_drop_0 rfl rfl ?_
  refine hg_iload_n C 1 d_Rf_drop_1 rfl rfl ?_
  refine hg_aload_n C 0 d_Rf_drop_2 rfl rfl ?_
  refine f_Rf_105 C hR.1 rfl d_Rf_drop_3 ?_
  refine hg_ti eS ?_
  refine hg_SNb C (k_Rf_isIn l Γ _ s0 (nI (nS M))) (cw_Rf_101 C.2.2.2.2.1 rfl rfl ⟨Nat.le_of_ble_eq_true rfl, Nat.le_of_ble_eq_true rfl⟩) rfl rfl (Nat.le_of_ble_eq_true rfl) d_Rf_drop_6 ⟨Nat.le_of_ble_eq_true rfl, Nat.le_of_ble_eq_true rfl⟩ (fun z1 => ?_) (fun z1 => ?_)
  · obtain ⟨s, hs, rfl⟩ := inr_nat (n := nS M) (id z1) (by omega)
    refine hg_if_eq C 27 d_Rf_drop_9 (by decide) (fun z => absurd z (by decide)) (fun _ => ?_)
    refine hg_iload_n C 2 d_Rf_drop_12 rfl rfl ?_
    refine hg_aload_n C 0 d_Rf_drop_13 rfl rfl ?_
    refine f_Rf_116 C hR.1 rfl d_Rf_drop_14 ?_
    refine hg_ti eT ?_
    refine hg_SNb C (k_Rf_isIn l Γ _ t0 (nI (nT M))) (cw_Rf_101 C.2.2.2.2.1 rfl rfl ⟨Nat.le_of_ble_eq_true rfl, Nat.le_of_ble_eq_true rfl⟩) rfl rfl (Nat.le_of_ble_eq_true rfl) d_Rf_drop_17 ⟨Nat.le_of_ble_eq_true rfl, Nat.le_of_ble_eq_true rfl⟩ (fun z2 => ?_) (fun z2 => ?_)
    · obtain ⟨t, ht, rfl⟩ := inr_nat (n := nT M) (id z2) (by omega)
      refine hg_if_eq C 27 d_Rf_drop_20 (by decide) (fun z => absurd z (by decide)) (fun _ => ?_)
      refine hg_iconst (v := 1) C d_Rf_drop_23 (by decide) ?_
      refine hg_goto C 28 d_Rf_drop_24 (by decide) ?_
      refine hg_aload_n C 0 d_Rf_drop_28 rfl rfl ?_
      refine hg_iload_n C 1 d_Rf_drop_29 rfl rfl ?_
      refine hg_VNb (q := ("ModelMergeModel", T_Rf, 31)) C (k_Rf_isOpen l Γ _ r aa M hR hI (nI s)) (cw_Rf_112 C.2.2.2.2.1 rfl rfl ⟨Nat.le_of_ble_eq_true rfl, Nat.le_of_ble_eq_true rfl⟩) hR.1 rfl rfl rfl (Nat.le_of_ble_eq_true rfl) d_Rf_drop_30 ⟨Nat.le_of_ble_eq_true rfl, Nat.le_of_ble_eq_true rfl⟩ (fun z3 => ?_) (fun z3 => ?_)
      · refine hg_VNu (q := ("ModelMergeModel", T_Rf, 31)) C (k_Rf_goes0 l Γ _ r aa M hR) (cw_Rf_108 C.2.2.2.2.1 rfl rfl ⟨Nat.le_of_ble_eq_true rfl, Nat.le_of_ble_eq_true rfl⟩) hR.1 rfl rfl rfl (Nat.le_of_ble_eq_true rfl) d_Rf_drop_33 ⟨Nat.le_of_ble_eq_true rfl, Nat.le_of_ble_eq_true rfl⟩ (fun h4 R5 => ?_)
        obtain ⟨N, eN⟩ : ∃ z, z = mset M 0 0 0 := ⟨_, rfl⟩
        rw [← eN] at R5
        have hN : Inv0 N := by rw [eN]; exact Inv0_code 0 hI
        have qS : nS N = nS M := by rw [eN]; rfl
        have qT : nT N = nT M := by rw [eN]; rfl
        have qV : nV N = nV M := by rw [eN]; rfl
        have qR : nR N = nR M := by rw [eN]; rfl
        have qC : nC N = nC M := by rw [eN]; rfl
        obtain ⟨⟨⟨fT, gT⟩, ⟨fV, gV1, gV⟩, ⟨fS, gS⟩, ⟨fR, gR⟩, ⟨fC, gC⟩⟩, hN2, -⟩ := id hN
        rw [← qS] at hs
        obtain ⟨⟨f11, gb⟩, ⟨f12, gsd⟩, ⟨f13, gnm⟩, glf⟩ := hN2 s hs
        refine hg_if_ne C 41 d_Rf_drop_36 (by decide) (fun _ => ?_) (fun z => absurd z (by decide))
        refine hg_aload_n C 0 d_Rf_drop_41 rfl rfl ?_
        refine hg_iload_n C 1 d_Rf_drop_42 rfl rfl ?_
        refine hg_iload_n C 2 d_Rf_drop_43 rfl rfl ?_
        refine hg_VNv (q := ("ModelMergeModel", T_Rf, 31)) C (k_Rf_barred l Γ _ r aa N R5 hN s t (by omega) (by omega)) (cw_Rf_126 C.2.2.2.2.1 rfl rfl ⟨Nat.le_of_ble_eq_true rfl, Nat.le_of_ble_eq_true rfl⟩) R5.1 rfl rfl rfl (Nat.le_of_ble_eq_true rfl) d_Rf_drop_44 ⟨Nat.le_of_ble_eq_true rfl, Nat.le_of_ble_eq_true rfl⟩ (fun _ => ?_)
        refine hg_istore_n (lv' := [(3, .int (f_barred N s t)), (0, .ref r), (1, .int (nI s)), (2, .int (nI t))]) C d_Rf_drop_47 rfl (by decide) rfl ?_
        refine hg_iload_n C 0 d_Rf_drop_48 rfl rfl ?_
        refine hg_if_ge C 56 d_Rf_drop_49 (by decide) (fun c49 => ?_) (fun c49 => ?_)
        · have h60 := f_barred_60 (Int32.not_lt.mpr c49)
          refine hg_aload_n C 1 d_Rf_drop_56 rfl rfl ?_
          refine hg_iload_n C 2 d_Rf_drop_57 rfl rfl ?_
          refine hg_iconst (v := 2) C d_Rf_drop_58 (by decide) ?_
          refine hg_iload_n C 3 d_Rf_drop_59 rfl rfl ?_
          refine hg_iconst (v := 0) C d_Rf_drop_60 (by decide) ?_
          refine hg_iconst (v := 0) C d_Rf_drop_61 (by decide) ?_
          refine hg_VNu (q := ("ModelMergeModel", T_Rf, 31)) C (k_Rf_change l Γ _ r aa N R5 s (sd N s) (nm N s) (by omega) (by omega) (by omega) f12 f13 2 (nI t) 0 0) (cw_Rf_119 C.2.2.2.2.1 rfl rfl ⟨Nat.le_of_ble_eq_true rfl, Nat.le_of_ble_eq_true rfl⟩) R5.1 rfl rfl rfl (Nat.le_of_ble_eq_true rfl) d_Rf_drop_62 ⟨Nat.le_of_ble_eq_true rfl, Nat.le_of_ble_eq_true rfl⟩ (fun h6 R7 => ?_)
          obtain ⟨M8, eM8⟩ : ∃ z, z = m_change N s (sd N s) (nm N s) 2 (nI t) 0 0 := ⟨_, rfl⟩
          rw [← eM8] at R7
          exact hg_iretN C hr rfl d_Rf_drop_65 (Nat.le_of_ble_eq_true rfl) (Nat.le_of_ble_eq_true rfl) (⟨by rw [sp_drop, gd0 ⟨z1, z2⟩ (by have z9 := (z3).2; exact z9), ← eN, f_chg, nI_clamp (n := s) (by omega), nI_clamp (n := t) (by omega), if_neg (Int32.not_lt.mpr c49)], by rw [sp_drop, gd0 ⟨z1, z2⟩ (by have z9 := (z3).2; exact z9), ← eN, f_chg, nI_clamp (n := s) (by omega), nI_clamp (n := t) (by omega), if_neg (Int32.not_lt.mpr c49)]; rw [eM8] at R7; exact R7⟩)
        · refine hg_iload_n C 0 d_Rf_drop_52 rfl rfl ?_
          refine hg_goto C 65 d_Rf_drop_53 (by decide) ?_
          exact hg_iretN C hr rfl d_Rf_drop_65 (Nat.le_of_ble_eq_true rfl) (Nat.le_of_ble_eq_true rfl) (⟨by rw [sp_drop, gd0 ⟨z1, z2⟩ (by have z9 := (z3).2; exact z9), ← eN, f_chg, nI_clamp (n := s) (by omega), nI_clamp (n := t) (by omega), if_pos (Int32.not_le.mp c49)], by rw [sp_drop, gd0 ⟨z1, z2⟩ (by have z9 := (z3).2; exact z9), ← eN, f_chg, nI_clamp (n := s) (by omega), nI_clamp (n := t) (by omega), if_pos (Int32.not_le.mp c49)]; exact R5⟩)
      · refine hg_VNu (q := ("ModelMergeModel", T_Rf, 31)) C (k_Rf_goes2 l Γ _ r aa M hR) (cw_Rf_108 C.2.2.2.2.1 rfl rfl ⟨Nat.le_of_ble_eq_true rfl, Nat.le_of_ble_eq_true rfl⟩) hR.1 rfl rfl rfl (Nat.le_of_ble_eq_true rfl) d_Rf_drop_33 ⟨Nat.le_of_ble_eq_true rfl, Nat.le_of_ble_eq_true rfl⟩ (fun h9 R10 => ?_)
        refine hg_if_ne C 41 d_Rf_drop_36 (by decide) (fun z => absurd rfl z) (fun _ => ?_)
        refine hg_iconst (v := 0) C d_Rf_drop_39 (by decide) ?_
        exact hg_iretN C hr rfl d_Rf_drop_40 (Nat.le_of_ble_eq_true rfl) (Nat.le_of_ble_eq_true rfl) (⟨by rw [sp_drop, gd2 ⟨z1, z2⟩ (fun z9 => z3 ⟨eS ▸ z1, z9⟩)], by rw [sp_drop, gd2 ⟨z1, z2⟩ (fun z9 => z3 ⟨eS ▸ z1, z9⟩)]; exact R10⟩)
    · refine hg_if_eq C 27 d_Rf_drop_20 (by decide) (fun _ => ?_) (fun z => absurd (by decide) z)
      refine hg_iconst (v := 0) C d_Rf_drop_27 (by decide) ?_
      refine hg_aload_n C 0 d_Rf_drop_28 rfl rfl ?_
      refine hg_iload_n C 1 d_Rf_drop_29 rfl rfl ?_
      refine hg_VNb (q := ("ModelMergeModel", T_Rf, 31)) C (k_Rf_isOpen l Γ _ r aa M hR hI (nI s)) (cw_Rf_112 C.2.2.2.2.1 rfl rfl ⟨Nat.le_of_ble_eq_true rfl, Nat.le_of_ble_eq_true rfl⟩) hR.1 rfl rfl rfl (Nat.le_of_ble_eq_true rfl) d_Rf_drop_30 ⟨Nat.le_of_ble_eq_true rfl, Nat.le_of_ble_eq_true rfl⟩ (fun z11 => ?_) (fun z11 => ?_)
      · refine hg_VNu (q := ("ModelMergeModel", T_Rf, 31)) C (k_Rf_goes1 l Γ _ r aa M hR 1) (cw_Rf_108 C.2.2.2.2.1 rfl rfl ⟨Nat.le_of_ble_eq_true rfl, Nat.le_of_ble_eq_true rfl⟩) hR.1 rfl rfl rfl (Nat.le_of_ble_eq_true rfl) d_Rf_drop_33 ⟨Nat.le_of_ble_eq_true rfl, Nat.le_of_ble_eq_true rfl⟩ (fun h12 R13 => ?_)
        refine hg_if_ne C 41 d_Rf_drop_36 (by decide) (fun z => absurd rfl z) (fun _ => ?_)
        refine hg_iconst (v := 0) C d_Rf_drop_39 (by decide) ?_
        exact hg_iretN C hr rfl d_Rf_drop_40 (Nat.le_of_ble_eq_true rfl) (Nat.le_of_ble_eq_true rfl) (⟨by rw [sp_drop, gd1 (fun z => z2 (z.2))], by rw [sp_drop, gd1 (fun z => z2 (z.2))]; exact R13⟩)
      · refine hg_VNu (q := ("ModelMergeModel", T_Rf, 31)) C (k_Rf_goes1 l Γ _ r aa M hR 0) (cw_Rf_108 C.2.2.2.2.1 rfl rfl ⟨Nat.le_of_ble_eq_true rfl, Nat.le_of_ble_eq_true rfl⟩) hR.1 rfl rfl rfl (Nat.le_of_ble_eq_true rfl) d_Rf_drop_33 ⟨Nat.le_of_ble_eq_true rfl, Nat.le_of_ble_eq_true rfl⟩ (fun h14 R15 => ?_)
        refine hg_if_ne C 41 d_Rf_drop_36 (by decide) (fun z => absurd rfl z) (fun _ => ?_)
        refine hg_iconst (v := 0) C d_Rf_drop_39 (by decide) ?_
        exact hg_iretN C hr rfl d_Rf_drop_40 (Nat.le_of_ble_eq_true rfl) (Nat.le_of_ble_eq_true rfl) (⟨by rw [sp_drop, gd1 (fun z => z2 (z.2))], by rw [sp_drop, gd1 (fun z => z2 (z.2))]; exact R15⟩)
  · refine hg_if_eq C 27 d_Rf_drop_9 (by decide) (fun _ => ?_) (fun z => absurd (by decide) z)
    refine hg_iconst (v := 0) C d_Rf_drop_27 (by decide) ?_
    refine hg_aload_n C 0 d_Rf_drop_28 rfl rfl ?_
    refine hg_iload_n C 1 d_Rf_drop_29 rfl rfl ?_
    refine hg_VNb (q := ("ModelMergeModel", T_Rf, 31)) C (k_Rf_isOpen l Γ _ r aa M hR hI s0) (cw_Rf_112 C.2.2.2.2.1 rfl rfl ⟨Nat.le_of_ble_eq_true rfl, Nat.le_of_ble_eq_true rfl⟩) hR.1 rfl rfl rfl (Nat.le_of_ble_eq_true rfl) d_Rf_drop_30 ⟨Nat.le_of_ble_eq_true rfl, Nat.le_of_ble_eq_true rfl⟩ (fun z16 => ?_) (fun z16 => ?_)
    · refine hg_VNu (q := ("ModelMergeModel", T_Rf, 31)) C (k_Rf_goes1 l Γ _ r aa M hR 1) (cw_Rf_108 C.2.2.2.2.1 rfl rfl ⟨Nat.le_of_ble_eq_true rfl, Nat.le_of_ble_eq_true rfl⟩) hR.1 rfl rfl rfl (Nat.le_of_ble_eq_true rfl) d_Rf_drop_33 ⟨Nat.le_of_ble_eq_true rfl, Nat.le_of_ble_eq_true rfl⟩ (fun h17 R18 => ?_)
      refine hg_if_ne C 41 d_Rf_drop_36 (by decide) (fun z => absurd rfl z) (fun _ => ?_)
      refine hg_iconst (v := 0) C d_Rf_drop_39 (by decide) ?_
      exact hg_iretN C hr rfl d_Rf_drop_40 (Nat.le_of_ble_eq_true rfl) (Nat.le_of_ble_eq_true rfl) (⟨by rw [sp_drop, gd1 (fun z => z1 (z.1))], by rw [sp_drop, gd1 (fun z => z1 (z.1))]; exact R18⟩)
    · refine hg_VNu (q := ("ModelMergeModel", T_Rf, 31)) C (k_Rf_goes1 l Γ _ r aa M hR 0) (cw_Rf_108 C.2.2.2.2.1 rfl rfl ⟨Nat.le_of_ble_eq_true rfl, Nat.le_of_ble_eq_true rfl⟩) hR.1 rfl rfl rfl (Nat.le_of_ble_eq_true rfl) d_Rf_drop_33 ⟨Nat.le_of_ble_eq_true rfl, Nat.le_of_ble_eq_true rfl⟩ (fun h19 R20 => ?_)
      refine hg_if_ne C 41 d_Rf_drop_36 (by decide) (fun z => absurd rfl z) (fun _ => ?_)
      refine hg_iconst (v := 0) C d_Rf_drop_39 (by decide) ?_
      exact hg_iretN C hr rfl d_Rf_drop_40 (Nat.le_of_ble_eq_true rfl) (Nat.le_of_ble_eq_true rfl) (⟨by rw [sp_drop, gd1 (fun z => z1 (z.1))], by rw [sp_drop, gd1 (fun z => z1 (z.1))]; exact R20⟩)
noncomputable def f_go (M : Mem) (k : Nat) (s : Int32) : Int32 × Mem := (M k (60 * s.toNatClampNeg + sd M s.toNatClampNeg), mset M 12 s.toNatClampNeg (@ite _ (M k (60 * s.toNatClampNeg + sd M s.toNatClampNeg) < 0) (Classical.propDecidable _) (nI (sd M s.toNatClampNeg)) (M k (60 * s.toNatClampNeg + sd M s.toNatClampNeg))))
noncomputable def sp_undo (M : Mem) (s : Int32) : Int32 × Int32 × Mem := gd (inr s (nI (nS M))) (M 14 s.toNatClampNeg = 0) M (f_go (mset M 0 0 0) 16 s)
noncomputable def sp_redo (M : Mem) (s : Int32) : Int32 × Int32 × Mem := gd (inr s (nI (nS M))) (M 14 s.toNatClampNeg = 0) M (f_go (mset M 0 0 0) 17 s)
abbrev rm_Rf_undo : Room := { frames := 2, cells := 0, slots := 0, locals := 42 }
set_option maxHeartbeats 4000000 in
set_option maxRecDepth 100000 in
theorem k_Rf_undo (l : Launch) (Γ : Gam) (h : Pic) (r : Nat) (aa : Nat → Nat) (M : Mem) (hR : rf_at Γ r aa M h) (hI : Inv0 M) (s0 : Int32) : kN l Γ y_Rf_undo w_Rf_undo rm_Rf_undo [.ref r, .int s0] h (fun q u => q = some (.int (sp_undo M s0).2.1) ∧ rf_at Γ r aa (sp_undo M s0).2.2 u) 0 0 := by
  refine hg_entryN (own := "ModelMergeModel") (cc := b_Rf_undo) (maxL := 3) (ret := (some .int)) (lv0 := [(0, .ref r), (1, .int s0)]) (by decide) rfl rfl (Nat.le_of_ble_eq_true rfl) rfl ?_
  intro p9 e9 s9 m9 args below meth c9 A C hnm hr
  obtain ⟨⟨⟨eT, hT⟩, ⟨eV, hV1, hV⟩, ⟨eS, hS⟩, ⟨eR, hRR⟩, ⟨eC, hC⟩⟩, hI2, -⟩ := id hI
  refine hg_aload_n C 0 d_Rf_undo_0 rfl rfl ?_
  refine hg_iload_n C 1 d_Rf_undo_1 rfl rfl ?_
  refine hg_aload_n C 0 d_Rf_undo_2 rfl rfl ?_
  refine f_Rf_105 C hR.1 rfl d_Rf_undo_3 ?_
  refine hg_ti eS ?_
  refine hg_SNb C (k_Rf_isIn l Γ _ s0 (nI (nS M))) (cw_Rf_101 C.2.2.2.2.1 rfl rfl ⟨Nat.le_of_ble_eq_true rfl, Nat.le_of_ble_eq_true rfl⟩) rfl rfl (Nat.le_of_ble_eq_true rfl) d_Rf_undo_6 ⟨Nat.le_of_ble_eq_true rfl, Nat.le_of_ble_eq_true rfl⟩ (fun z1 => ?_) (fun z1 => ?_)
  · obtain ⟨s, hs, rfl⟩ := inr_nat (n := nS M) (id z1) (by omega)
    refine hg_aload_n C 0 d_Rf_undo_9 rfl rfl ?_
    refine hg_iload_n C 1 d_Rf_undo_10 rfl rfl ?_
    refine hg_VNb (q := ("ModelMergeModel", T_Rf, 31)) C (k_Rf_isOpen l Γ _ r aa M hR hI (nI s)) (cw_Rf_112 C.2.2.2.2.1 rfl rfl ⟨Nat.le_of_ble_eq_true rfl, Nat.le_of_ble_eq_true rfl⟩) hR.1 rfl rfl rfl (Nat.le_of_ble_eq_true rfl) d_Rf_undo_11 ⟨Nat.le_of_ble_eq_true rfl, Nat.le_of_ble_eq_true rfl⟩ (fun z2 => ?_) (fun z2 => ?_)
    · refine hg_VNu (q := ("ModelMergeModel", T_Rf, 31)) C (k_Rf_goes0 l Γ _ r aa M hR) (cw_Rf_108 C.2.2.2.2.1 rfl rfl ⟨Nat.le_of_ble_eq_true rfl, Nat.le_of_ble_eq_true rfl⟩) hR.1 rfl rfl rfl (Nat.le_of_ble_eq_true rfl) d_Rf_undo_14 ⟨Nat.le_of_ble_eq_true rfl, Nat.le_of_ble_eq_true rfl⟩ (fun h3 R4 => ?_)
      obtain ⟨N, eN⟩ : ∃ z, z = mset M 0 0 0 := ⟨_, rfl⟩
      rw [← eN] at R4
      have hN : Inv0 N := by rw [eN]; exact Inv0_code 0 hI
      have qS : nS N = nS M := by rw [eN]; rfl
      have qT : nT N = nT M := by rw [eN]; rfl
      have qV : nV N = nV M := by rw [eN]; rfl
      have qR : nR N = nR M := by rw [eN]; rfl
      have qC : nC N = nC M := by rw [eN]; rfl
      obtain ⟨⟨⟨fT, gT⟩, ⟨fV, gV1, gV⟩, ⟨fS, gS⟩, ⟨fR, gR⟩, ⟨fC, gC⟩⟩, hN2, -⟩ := id hN
      rw [← qS] at hs
      obtain ⟨⟨f11, gb⟩, ⟨f12, gsd⟩, ⟨f13, gnm⟩, glf⟩ := hN2 s hs
      refine hg_if_ne C 22 d_Rf_undo_17 (by decide) (fun _ => ?_) (fun z => absurd z (by decide))
      refine hg_aload_n C 0 d_Rf_undo_22 rfl rfl ?_
      refine f_Rf_51 C R4.1 rfl d_Rf_undo_23 ?_
      refine hg_bipush (v := 60) C d_Rf_undo_26 (by decide) ?_
      refine hg_iload_n C 1 d_Rf_undo_28 rfl rfl ?_
      refine hg_imul C d_Rf_undo_29 ?_
      refine hg_ti (show ((60 : Int32) : Int32) * nI s = nI (60 * s) from pk_mul 60 s) ?_
      refine hg_aload_n C 0 d_Rf_undo_30 rfl rfl ?_
      refine f_Rf_39 C R4.1 rfl d_Rf_undo_31 ?_
      refine hg_iload_n C 1 d_Rf_undo_34 rfl rfl ?_
      have b35 : s < 20 := (by omega)
      refine hg_iald C 0 (R4.2.1 12 rfl) rfl (vp_in_nI (N := 20) b35 (by omega)) d_Rf_undo_35 ?_
      refine hg_ti (congrArg (N 12) (nI_clamp (n := s) (by omega))) ?_
      refine hg_ti f12 ?_
      refine hg_iadd C d_Rf_undo_36 ?_
      refine hg_ti (show (nI (60 * s) : Int32) + nI (sd N s) = nI (60 * s + sd N s) from nI_add (60 * s) (sd N s)) ?_
      have b37 : 60 * s + sd N s < 1200 := (by omega)
      refine hg_iald C 0 (R4.2.1 16 rfl) rfl (vp_in_nI (N := 1200) b37 (by omega)) d_Rf_undo_37 ?_
      refine hg_ti (congrArg (N 16) (nI_clamp (n := 60 * s + sd N s) (by omega))) ?_
      refine hg_istore_n (lv' := [(2, .int (N 16 (60 * s + sd N s))), (0, .ref r), (1, .int (nI s))]) C d_Rf_undo_38 rfl (by decide) rfl ?_
      refine hg_aload_n C 1 d_Rf_undo_39 rfl rfl ?_
      refine f_Rf_39 C R4.1 rfl d_Rf_undo_40 ?_
      refine hg_iload_n C 2 d_Rf_undo_43 rfl rfl ?_
      refine hg_iload_n C 0 d_Rf_undo_44 rfl rfl ?_
      refine hg_if_ge C 57 d_Rf_undo_45 (by decide) (fun c45 => ?_) (fun c45 => ?_)
      · refine hg_iload_n C 0 d_Rf_undo_57 rfl rfl ?_
        have b58 : s < 20 := (by omega)
        refine hg_iast C 0 (R4.2.1 12 rfl) rfl (vp_in_nI (N := 20) b58 (by omega)) d_Rf_undo_58 ?_
        obtain ⟨h5, eh5⟩ : ∃ z, z = hp_up h3 (aa 12) (.inl (Γ.2.1 0, 20, .inl (upd (N 12) (nI s : Int32).toNatClampNeg (N 16 (60 * s + sd N s))))) := ⟨_, rfl⟩
        refine hg_eq eh5.symm ?_
        have R7 : rf_at Γ r aa (mset N 12 s (N 16 (60 * s + sd N s))) h5 := by rw [eh5]; rw [nI_clamp (n := s) (by omega)]; exact rf_put R4 12 s (N 16 (60 * s + sd N s)) rfl
        obtain ⟨M6, eM6⟩ : ∃ z, z = mset N 12 s (N 16 (60 * s + sd N s)) := ⟨_, rfl⟩
        rw [← eM6] at R7
        refine hg_iload_n C 0 d_Rf_undo_59 rfl rfl ?_
        exact hg_iretN C hr rfl d_Rf_undo_60 (Nat.le_of_ble_eq_true rfl) (Nat.le_of_ble_eq_true rfl) (⟨by rw [sp_undo, gd0 z1 (by have z9 := (z2).2; exact z9), ← eN, f_go, nI_clamp (n := s) (by omega)], by rw [sp_undo, gd0 z1 (by have z9 := (z2).2; exact z9), ← eN, f_go, nI_clamp (n := s) (by omega), if_neg (Int32.not_lt.mpr c45)]; rw [eM6] at R7; exact R7⟩)
      · refine hg_aload_n C 1 d_Rf_undo_48 rfl rfl ?_
        refine f_Rf_39 C R4.1 rfl d_Rf_undo_49 ?_
        refine hg_iload_n C 2 d_Rf_undo_52 rfl rfl ?_
        have b53 : s < 20 := (by omega)
        refine hg_iald C 0 (R4.2.1 12 rfl) rfl (vp_in_nI (N := 20) b53 (by omega)) d_Rf_undo_53 ?_
        refine hg_ti (congrArg (N 12) (nI_clamp (n := s) (by omega))) ?_
        refine hg_ti f12 ?_
        refine hg_goto C 58 d_Rf_undo_54 (by decide) ?_
        have b58 : s < 20 := (by omega)
        refine hg_iast C 0 (R4.2.1 12 rfl) rfl (vp_in_nI (N := 20) b58 (by omega)) d_Rf_undo_58 ?_
        obtain ⟨h8, eh8⟩ : ∃ z, z = hp_up h3 (aa 12) (.inl (Γ.2.1 0, 20, .inl (upd (N 12) (nI s : Int32).toNatClampNeg (nI (sd N s))))) := ⟨_, rfl⟩
        refine hg_eq eh8.symm ?_
        have R10 : rf_at Γ r aa (mset N 12 s (nI (sd N s))) h8 := by rw [eh8]; rw [nI_clamp (n := s) (by omega)]; exact rf_put R4 12 s (nI (sd N s)) rfl
        obtain ⟨M9, eM9⟩ : ∃ z, z = mset N 12 s (nI (sd N s)) := ⟨_, rfl⟩
        rw [← eM9] at R10
        refine hg_iload_n C 0 d_Rf_undo_59 rfl rfl ?_
        exact hg_iretN C hr rfl d_Rf_undo_60 (Nat.le_of_ble_eq_true rfl) (Nat.le_of_ble_eq_true rfl) (⟨by rw [sp_undo, gd0 z1 (by have z9 := (z2).2; exact z9), ← eN, f_go, nI_clamp (n := s) (by omega)], by rw [sp_undo, gd0 z1 (by have z9 := (z2).2; exact z9), ← eN, f_go, nI_clamp (n := s) (by omega), if_pos (Int32.not_le.mp c45)]; rw [eM9] at R10; exact R10⟩)
    · refine hg_VNu (q := ("ModelMergeModel", T_Rf, 31)) C (k_Rf_goes2 l Γ _ r aa M hR) (cw_Rf_108 C.2.2.2.2.1 rfl rfl ⟨Nat.le_of_ble_eq_true rfl, Nat.le_of_ble_eq_true rfl⟩) hR.1 rfl rfl rfl (Nat.le_of_ble_eq_true rfl) d_Rf_undo_14 ⟨Nat.le_of_ble_eq_true rfl, Nat.le_of_ble_eq_true rfl⟩ (fun h11 R12 => ?_)
      refine hg_if_ne C 22 d_Rf_undo_17 (by decide) (fun z => absurd rfl z) (fun _ => ?_)
      refine hg_iconst (v := 0) C d_Rf_undo_20 (by decide) ?_
      exact hg_iretN C hr rfl d_Rf_undo_21 (Nat.le_of_ble_eq_true rfl) (Nat.le_of_ble_eq_true rfl) (⟨by rw [sp_undo, gd2 z1 (fun z9 => z2 ⟨eS ▸ z1, z9⟩)], by rw [sp_undo, gd2 z1 (fun z9 => z2 ⟨eS ▸ z1, z9⟩)]; exact R12⟩)
  · refine hg_aload_n C 0 d_Rf_undo_9 rfl rfl ?_
    refine hg_iload_n C 1 d_Rf_undo_10 rfl rfl ?_
    refine hg_VNb (q := ("ModelMergeModel", T_Rf, 31)) C (k_Rf_isOpen l Γ _ r aa M hR hI s0) (cw_Rf_112 C.2.2.2.2.1 rfl rfl ⟨Nat.le_of_ble_eq_true rfl, Nat.le_of_ble_eq_true rfl⟩) hR.1 rfl rfl rfl (Nat.le_of_ble_eq_true rfl) d_Rf_undo_11 ⟨Nat.le_of_ble_eq_true rfl, Nat.le_of_ble_eq_true rfl⟩ (fun z13 => ?_) (fun z13 => ?_)
    · refine hg_VNu (q := ("ModelMergeModel", T_Rf, 31)) C (k_Rf_goes1 l Γ _ r aa M hR 1) (cw_Rf_108 C.2.2.2.2.1 rfl rfl ⟨Nat.le_of_ble_eq_true rfl, Nat.le_of_ble_eq_true rfl⟩) hR.1 rfl rfl rfl (Nat.le_of_ble_eq_true rfl) d_Rf_undo_14 ⟨Nat.le_of_ble_eq_true rfl, Nat.le_of_ble_eq_true rfl⟩ (fun h14 R15 => ?_)
      refine hg_if_ne C 22 d_Rf_undo_17 (by decide) (fun z => absurd rfl z) (fun _ => ?_)
      refine hg_iconst (v := 0) C d_Rf_undo_20 (by decide) ?_
      exact hg_iretN C hr rfl d_Rf_undo_21 (Nat.le_of_ble_eq_true rfl) (Nat.le_of_ble_eq_true rfl) (⟨by rw [sp_undo, gd1 (fun z => z1 (z))], by rw [sp_undo, gd1 (fun z => z1 (z))]; exact R15⟩)
    · refine hg_VNu (q := ("ModelMergeModel", T_Rf, 31)) C (k_Rf_goes1 l Γ _ r aa M hR 0) (cw_Rf_108 C.2.2.2.2.1 rfl rfl ⟨Nat.le_of_ble_eq_true rfl, Nat.le_of_ble_eq_true rfl⟩) hR.1 rfl rfl rfl (Nat.le_of_ble_eq_true rfl) d_Rf_undo_14 ⟨Nat.le_of_ble_eq_true rfl, Nat.le_of_ble_eq_true rfl⟩ (fun h16 R17 => ?_)
      refine hg_if_ne C 22 d_Rf_undo_17 (by decide) (fun z => absurd rfl z) (fun _ => ?_)
      refine hg_iconst (v := 0) C d_Rf_undo_20 (by decide) ?_
      exact hg_iretN C hr rfl d_Rf_undo_21 (Nat.le_of_ble_eq_true rfl) (Nat.le_of_ble_eq_true rfl) (⟨by rw [sp_undo, gd1 (fun z => z1 (z))], by rw [sp_undo, gd1 (fun z => z1 (z))]; exact R17⟩)
abbrev rm_Rf_redo : Room := { frames := 2, cells := 0, slots := 0, locals := 42 }
set_option maxHeartbeats 4000000 in
set_option maxRecDepth 100000 in
theorem k_Rf_redo (l : Launch) (Γ : Gam) (h : Pic) (r : Nat) (aa : Nat → Nat) (M : Mem) (hR : rf_at Γ r aa M h) (hI : Inv0 M) (s0 : Int32) : kN l Γ y_Rf_redo w_Rf_redo rm_Rf_redo [.ref r, .int s0] h (fun q u => q = some (.int (sp_redo M s0).2.1) ∧ rf_at Γ r aa (sp_redo M s0).2.2 u) 0 0 := by
  refine hg_entryN (own := "ModelMergeModel") (cc := b_Rf_redo) (maxL := 3) (ret := (some .int)) (lv0 := [(0, .ref r), (1, .int s0)]) (by decide) rfl rfl (Nat.le_of_ble_eq_true rfl) rfl ?_
  intro p9 e9 s9 m9 args below meth c9 A C hnm hr
  obtain ⟨⟨⟨eT, hT⟩, ⟨eV, hV1, hV⟩, ⟨eS, hS⟩, ⟨eR, hRR⟩, ⟨eC, hC⟩⟩, hI2, -⟩ := id hI
  refine hg_aload_n C 0 d_Rf_redo_0 rfl rfl ?_
  refine hg_iload_n C 1 d_Rf_redo_1 rfl rfl ?_
  refine hg_aload_n C 0 d_Rf_redo_2 rfl rfl ?_
  refine f_Rf_105 C hR.1 rfl d_Rf_redo_3 ?_
  refine hg_ti eS ?_
  refine hg_SNb C (k_Rf_isIn l Γ _ s0 (nI (nS M))) (cw_Rf_101 C.2.2.2.2.1 rfl rfl ⟨Nat.le_of_ble_eq_true rfl, Nat.le_of_ble_eq_true rfl⟩) rfl rfl (Nat.le_of_ble_eq_true rfl) d_Rf_redo_6 ⟨Nat.le_of_ble_eq_true rfl, Nat.le_of_ble_eq_true rfl⟩ (fun z1 => ?_) (fun z1 => ?_)
  · obtain ⟨s, hs, rfl⟩ := inr_nat (n := nS M) (id z1) (by omega)
    refine hg_aload_n C 0 d_Rf_redo_9 rfl rfl ?_
    refine hg_iload_n C 1 d_Rf_redo_10 rfl rfl ?_
    refine hg_VNb (q := ("ModelMergeModel", T_Rf, 31)) C (k_Rf_isOpen l Γ _ r aa M hR hI (nI s)) (cw_Rf_112 C.2.2.2.2.1 rfl rfl ⟨Nat.le_of_ble_eq_true rfl, Nat.le_of_ble_eq_true rfl⟩) hR.1 rfl rfl rfl (Nat.le_of_ble_eq_true rfl) d_Rf_redo_11 ⟨Nat.le_of_ble_eq_true rfl, Nat.le_of_ble_eq_true rfl⟩ (fun z2 => ?_) (fun z2 => ?_)
    · refine hg_VNu (q := ("ModelMergeModel", T_Rf, 31)) C (k_Rf_goes0 l Γ _ r aa M hR) (cw_Rf_108 C.2.2.2.2.1 rfl rfl ⟨Nat.le_of_ble_eq_true rfl, Nat.le_of_ble_eq_true rfl⟩) hR.1 rfl rfl rfl (Nat.le_of_ble_eq_true rfl) d_Rf_redo_14 ⟨Nat.le_of_ble_eq_true rfl, Nat.le_of_ble_eq_true rfl⟩ (fun h3 R4 => ?_)
      obtain ⟨N, eN⟩ : ∃ z, z = mset M 0 0 0 := ⟨_, rfl⟩
      rw [← eN] at R4
      have hN : Inv0 N := by rw [eN]; exact Inv0_code 0 hI
      have qS : nS N = nS M := by rw [eN]; rfl
      have qT : nT N = nT M := by rw [eN]; rfl
      have qV : nV N = nV M := by rw [eN]; rfl
      have qR : nR N = nR M := by rw [eN]; rfl
      have qC : nC N = nC M := by rw [eN]; rfl
      obtain ⟨⟨⟨fT, gT⟩, ⟨fV, gV1, gV⟩, ⟨fS, gS⟩, ⟨fR, gR⟩, ⟨fC, gC⟩⟩, hN2, -⟩ := id hN
      rw [← qS] at hs
      obtain ⟨⟨f11, gb⟩, ⟨f12, gsd⟩, ⟨f13, gnm⟩, glf⟩ := hN2 s hs
      refine hg_if_ne C 22 d_Rf_redo_17 (by decide) (fun _ => ?_) (fun z => absurd z (by decide))
      refine hg_aload_n C 0 d_Rf_redo_22 rfl rfl ?_
      refine f_Rf_54 C R4.1 rfl d_Rf_redo_23 ?_
      refine hg_bipush (v := 60) C d_Rf_redo_26 (by decide) ?_
      refine hg_iload_n C 1 d_Rf_redo_28 rfl rfl ?_
      refine hg_imul C d_Rf_redo_29 ?_
      refine hg_ti (show ((60 : Int32) : Int32) * nI s = nI (60 * s) from pk_mul 60 s) ?_
      refine hg_aload_n C 0 d_Rf_redo_30 rfl rfl ?_
      refine f_Rf_39 C R4.1 rfl d_Rf_redo_31 ?_
      refine hg_iload_n C 1 d_Rf_redo_34 rfl rfl ?_
      have b35 : s < 20 := (by omega)
      refine hg_iald C 0 (R4.2.1 12 rfl) rfl (vp_in_nI (N := 20) b35 (by omega)) d_Rf_redo_35 ?_
      refine hg_ti (congrArg (N 12) (nI_clamp (n := s) (by omega))) ?_
      refine hg_ti f12 ?_
      refine hg_iadd C d_Rf_redo_36 ?_
      refine hg_ti (show (nI (60 * s) : Int32) + nI (sd N s) = nI (60 * s + sd N s) from nI_add (60 * s) (sd N s)) ?_
      have b37 : 60 * s + sd N s < 1200 := (by omega)
      refine hg_iald C 0 (R4.2.1 17 rfl) rfl (vp_in_nI (N := 1200) b37 (by omega)) d_Rf_redo_37 ?_
      refine hg_ti (congrArg (N 17) (nI_clamp (n := 60 * s + sd N s) (by omega))) ?_
      refine hg_istore_n (lv' := [(2, .int (N 17 (60 * s + sd N s))), (0, .ref r), (1, .int (nI s))]) C d_Rf_redo_38 rfl (by decide) rfl ?_
      refine hg_aload_n C 1 d_Rf_redo_39 rfl rfl ?_
      refine f_Rf_39 C R4.1 rfl d_Rf_redo_40 ?_
      refine hg_iload_n C 2 d_Rf_redo_43 rfl rfl ?_
      refine hg_iload_n C 0 d_Rf_redo_44 rfl rfl ?_
      refine hg_if_ge C 57 d_Rf_redo_45 (by decide) (fun c45 => ?_) (fun c45 => ?_)
      · refine hg_iload_n C 0 d_Rf_redo_57 rfl rfl ?_
        have b58 : s < 20 := (by omega)
        refine hg_iast C 0 (R4.2.1 12 rfl) rfl (vp_in_nI (N := 20) b58 (by omega)) d_Rf_redo_58 ?_
        obtain ⟨h5, eh5⟩ : ∃ z, z = hp_up h3 (aa 12) (.inl (Γ.2.1 0, 20, .inl (upd (N 12) (nI s : Int32).toNatClampNeg (N 17 (60 * s + sd N s))))) := ⟨_, rfl⟩
        refine hg_eq eh5.symm ?_
        have R7 : rf_at Γ r aa (mset N 12 s (N 17 (60 * s + sd N s))) h5 := by rw [eh5]; rw [nI_clamp (n := s) (by omega)]; exact rf_put R4 12 s (N 17 (60 * s + sd N s)) rfl
        obtain ⟨M6, eM6⟩ : ∃ z, z = mset N 12 s (N 17 (60 * s + sd N s)) := ⟨_, rfl⟩
        rw [← eM6] at R7
        refine hg_iload_n C 0 d_Rf_redo_59 rfl rfl ?_
        exact hg_iretN C hr rfl d_Rf_redo_60 (Nat.le_of_ble_eq_true rfl) (Nat.le_of_ble_eq_true rfl) (⟨by rw [sp_redo, gd0 z1 (by have z9 := (z2).2; exact z9), ← eN, f_go, nI_clamp (n := s) (by omega)], by rw [sp_redo, gd0 z1 (by have z9 := (z2).2; exact z9), ← eN, f_go, nI_clamp (n := s) (by omega), if_neg (Int32.not_lt.mpr c45)]; rw [eM6] at R7; exact R7⟩)
      · refine hg_aload_n C 1 d_Rf_redo_48 rfl rfl ?_
        refine f_Rf_39 C R4.1 rfl d_Rf_redo_49 ?_
        refine hg_iload_n C 2 d_Rf_redo_52 rfl rfl ?_
        have b53 : s < 20 := (by omega)
        refine hg_iald C 0 (R4.2.1 12 rfl) rfl (vp_in_nI (N := 20) b53 (by omega)) d_Rf_redo_53 ?_
        refine hg_ti (congrArg (N 12) (nI_clamp (n := s) (by omega))) ?_
        refine hg_ti f12 ?_
        refine hg_goto C 58 d_Rf_redo_54 (by decide) ?_
        have b58 : s < 20 := (by omega)
        refine hg_iast C 0 (R4.2.1 12 rfl) rfl (vp_in_nI (N := 20) b58 (by omega)) d_Rf_redo_58 ?_
        obtain ⟨h8, eh8⟩ : ∃ z, z = hp_up h3 (aa 12) (.inl (Γ.2.1 0, 20, .inl (upd (N 12) (nI s : Int32).toNatClampNeg (nI (sd N s))))) := ⟨_, rfl⟩
        refine hg_eq eh8.symm ?_
        have R10 : rf_at Γ r aa (mset N 12 s (nI (sd N s))) h8 := by rw [eh8]; rw [nI_clamp (n := s) (by omega)]; exact rf_put R4 12 s (nI (sd N s)) rfl
        obtain ⟨M9, eM9⟩ : ∃ z, z = mset N 12 s (nI (sd N s)) := ⟨_, rfl⟩
        rw [← eM9] at R10
        refine hg_iload_n C 0 d_Rf_redo_59 rfl rfl ?_
        exact hg_iretN C hr rfl d_Rf_redo_60 (Nat.le_of_ble_eq_true rfl) (Nat.le_of_ble_eq_true rfl) (⟨by rw [sp_redo, gd0 z1 (by have z9 := (z2).2; exact z9), ← eN, f_go, nI_clamp (n := s) (by omega)], by rw [sp_redo, gd0 z1 (by have z9 := (z2).2; exact z9), ← eN, f_go, nI_clamp (n := s) (by omega), if_pos (Int32.not_le.mp c45)]; rw [eM9] at R10; exact R10⟩)
    · refine hg_VNu (q := ("ModelMergeModel", T_Rf, 31)) C (k_Rf_goes2 l Γ _ r aa M hR) (cw_Rf_108 C.2.2.2.2.1 rfl rfl ⟨Nat.le_of_ble_eq_true rfl, Nat.le_of_ble_eq_true rfl⟩) hR.1 rfl rfl rfl (Nat.le_of_ble_eq_true rfl) d_Rf_redo_14 ⟨Nat.le_of_ble_eq_true rfl, Nat.le_of_ble_eq_true rfl⟩ (fun h11 R12 => ?_)
      refine hg_if_ne C 22 d_Rf_redo_17 (by decide) (fun z => absurd rfl z) (fun _ => ?_)
      refine hg_iconst (v := 0) C d_Rf_redo_20 (by decide) ?_
      exact hg_iretN C hr rfl d_Rf_redo_21 (Nat.le_of_ble_eq_true rfl) (Nat.le_of_ble_eq_true rfl) (⟨by rw [sp_redo, gd2 z1 (fun z9 => z2 ⟨eS ▸ z1, z9⟩)], by rw [sp_redo, gd2 z1 (fun z9 => z2 ⟨eS ▸ z1, z9⟩)]; exact R12⟩)
  · refine hg_aload_n C 0 d_Rf_redo_9 rfl rfl ?_
    refine hg_iload_n C 1 d_Rf_redo_10 rfl rfl ?_
    refine hg_VNb (q := ("ModelMergeModel", T_Rf, 31)) C (k_Rf_isOpen l Γ _ r aa M hR hI s0) (cw_Rf_112 C.2.2.2.2.1 rfl rfl ⟨Nat.le_of_ble_eq_true rfl, Nat.le_of_ble_eq_true rfl⟩) hR.1 rfl rfl rfl (Nat.le_of_ble_eq_true rfl) d_Rf_redo_11 ⟨Nat.le_of_ble_eq_true rfl, Nat.le_of_ble_eq_true rfl⟩ (fun z13 => ?_) (fun z13 => ?_)
    · refine hg_VNu (q := ("ModelMergeModel", T_Rf, 31)) C (k_Rf_goes1 l Γ _ r aa M hR 1) (cw_Rf_108 C.2.2.2.2.1 rfl rfl ⟨Nat.le_of_ble_eq_true rfl, Nat.le_of_ble_eq_true rfl⟩) hR.1 rfl rfl rfl (Nat.le_of_ble_eq_true rfl) d_Rf_redo_14 ⟨Nat.le_of_ble_eq_true rfl, Nat.le_of_ble_eq_true rfl⟩ (fun h14 R15 => ?_)
      refine hg_if_ne C 22 d_Rf_redo_17 (by decide) (fun z => absurd rfl z) (fun _ => ?_)
      refine hg_iconst (v := 0) C d_Rf_redo_20 (by decide) ?_
      exact hg_iretN C hr rfl d_Rf_redo_21 (Nat.le_of_ble_eq_true rfl) (Nat.le_of_ble_eq_true rfl) (⟨by rw [sp_redo, gd1 (fun z => z1 (z))], by rw [sp_redo, gd1 (fun z => z1 (z))]; exact R15⟩)
    · refine hg_VNu (q := ("ModelMergeModel", T_Rf, 31)) C (k_Rf_goes1 l Γ _ r aa M hR 0) (cw_Rf_108 C.2.2.2.2.1 rfl rfl ⟨Nat.le_of_ble_eq_true rfl, Nat.le_of_ble_eq_true rfl⟩) hR.1 rfl rfl rfl (Nat.le_of_ble_eq_true rfl) d_Rf_redo_14 ⟨Nat.le_of_ble_eq_true rfl, Nat.le_of_ble_eq_true rfl⟩ (fun h16 R17 => ?_)
      refine hg_if_ne C 22 d_Rf_redo_17 (by decide) (fun z => absurd rfl z) (fun _ => ?_)
      refine hg_iconst (v := 0) C d_Rf_redo_20 (by decide) ?_
      exact hg_iretN C hr rfl d_Rf_redo_21 (Nat.le_of_ble_eq_true rfl) (Nat.le_of_ble_eq_true rfl) (⟨by rw [sp_redo, gd1 (fun z => z1 (z))], by rw [sp_redo, gd1 (fun z => z1 (z))]; exact R17⟩)
noncomputable def sp_lock (M : Mem) (t p : Int32) : Int32 × Int32 × Mem := gd (inr t (nI (nT M)) ∧ (p = -1 ∨ inr p 10)) True M (M 3 t.toNatClampNeg, mset (mset M 0 0 0) 3 t.toNatClampNeg p)
noncomputable def sp_rule (M : Mem) (k f g : Int32) : Int32 × Int32 × Mem := gd (inr k 5 ∧ inr f 5 ∧ inr g 5) (nR M < 10) M (nI (nR M), mset (mset (mset (mset (mset M 0 0 0) 23 (nR M) k) 24 (nR M) f) 25 (nR M) g) 22 0 (nI (nR M + 1)))
abbrev rm_Rf_lock : Room := { frames := 1, cells := 0, slots := 0, locals := 22 }
set_option maxHeartbeats 4000000 in
set_option maxRecDepth 100000 in
theorem k_Rf_lock (l : Launch) (Γ : Gam) (h : Pic) (r : Nat) (aa : Nat → Nat) (M : Mem) (hR : rf_at Γ r aa M h) (hI : Inv0 M) (t0 p0 : Int32) : kN l Γ y_Rf_lock w_Rf_lock rm_Rf_lock [.ref r, .int t0, .int p0] h (fun q u => q = some (.int (sp_lock M t0 p0).2.1) ∧ rf_at Γ r aa (sp_lock M t0 p0).2.2 u) 0 0 := by
  refine hg_entryN (own := "ModelMergeModel") (cc := b_Rf_lock) (maxL := 4) (ret := (some .int)) (lv0 := [(0, .ref r), (1, .int t0), (2, .int p0)]) (by decide) rfl rfl (Nat.le_of_ble_eq_true rfl) rfl ?_
  intro p9 e9 s9 m9 args below meth c9 A C hnm hr
  obtain ⟨⟨⟨eT, hT⟩, ⟨eV, hV1, hV⟩, ⟨eS, hS⟩, ⟨eR, hRR⟩, ⟨eC, hC⟩⟩, hI2, -⟩ := id hI
  refine hg_aload_n C 0 d_Rf_lock_0 rfl rfl ?_
  refine hg_iload_n C 1 d_Rf_lock_1 rfl rfl ?_
  refine hg_aload_n C 0 d_Rf_lock_2 rfl rfl ?_
  refine f_Rf_116 C hR.1 rfl d_Rf_lock_3 ?_
  refine hg_ti eT ?_
  refine hg_SNb C (k_Rf_isIn l Γ _ t0 (nI (nT M))) (cw_Rf_101 C.2.2.2.2.1 rfl rfl ⟨Nat.le_of_ble_eq_true rfl, Nat.le_of_ble_eq_true rfl⟩) rfl rfl (Nat.le_of_ble_eq_true rfl) d_Rf_lock_6 ⟨Nat.le_of_ble_eq_true rfl, Nat.le_of_ble_eq_true rfl⟩ (fun z1 => ?_) (fun z1 => ?_)
  · obtain ⟨t, ht, rfl⟩ := inr_nat (n := nT M) (id z1) (by omega)
    refine hg_if_eq C 30 d_Rf_lock_9 (by decide) (fun z => absurd z (by decide)) (fun _ => ?_)
    refine hg_iload_n C 2 d_Rf_lock_12 rfl rfl ?_
    refine hg_iconst (v := (-1)) C d_Rf_lock_13 (by decide) ?_
    refine hg_icmp_eq C 26 d_Rf_lock_14 (by decide) (fun c14 => ?_) (fun c14 => ?_)
    · refine hg_iconst (v := 1) C d_Rf_lock_26 (by decide) ?_
      refine hg_goto C 31 d_Rf_lock_27 (by decide) ?_
      refine hg_iconst (v := 1) C d_Rf_lock_31 (by decide) ?_
      refine hg_VNu (q := ("ModelMergeModel", T_Rf, 31)) C (k_Rf_goes0 l Γ _ r aa M hR) (cw_Rf_108 C.2.2.2.2.1 rfl rfl ⟨Nat.le_of_ble_eq_true rfl, Nat.le_of_ble_eq_true rfl⟩) hR.1 rfl rfl rfl (Nat.le_of_ble_eq_true rfl) d_Rf_lock_32 ⟨Nat.le_of_ble_eq_true rfl, Nat.le_of_ble_eq_true rfl⟩ (fun h2 R3 => ?_)
      obtain ⟨N, eN⟩ : ∃ z, z = mset M 0 0 0 := ⟨_, rfl⟩
      rw [← eN] at R3
      have hN : Inv0 N := by rw [eN]; exact Inv0_code 0 hI
      have qS : nS N = nS M := by rw [eN]; rfl
      have qT : nT N = nT M := by rw [eN]; rfl
      have qV : nV N = nV M := by rw [eN]; rfl
      have qR : nR N = nR M := by rw [eN]; rfl
      have qC : nC N = nC M := by rw [eN]; rfl
      obtain ⟨⟨⟨fT, gT⟩, ⟨fV, gV1, gV⟩, ⟨fS, gS⟩, ⟨fR, gR⟩, ⟨fC, gC⟩⟩, hN2, -⟩ := id hN
      refine hg_if_ne C 40 d_Rf_lock_35 (by decide) (fun _ => ?_) (fun z => absurd z (by decide))
      refine hg_aload_n C 0 d_Rf_lock_40 rfl rfl ?_
      refine f_Rf_13 C R3.1 rfl d_Rf_lock_41 ?_
      refine hg_iload_n C 1 d_Rf_lock_44 rfl rfl ?_
      have b45 : t < 60 := (by omega)
      refine hg_iald C 0 (R3.2.1 3 rfl) rfl (vp_in_nI (N := 60) b45 (by omega)) d_Rf_lock_45 ?_
      refine hg_ti (congrArg (N 3) (nI_clamp (n := t) (by omega))) ?_
      refine hg_istore_n (lv' := [(3, .int (N 3 t)), (0, .ref r), (1, .int (nI t)), (2, .int p0)]) C d_Rf_lock_46 rfl (by decide) rfl ?_
      refine hg_aload_n C 1 d_Rf_lock_47 rfl rfl ?_
      refine f_Rf_13 C R3.1 rfl d_Rf_lock_48 ?_
      refine hg_iload_n C 2 d_Rf_lock_51 rfl rfl ?_
      refine hg_iload_n C 3 d_Rf_lock_52 rfl rfl ?_
      have b53 : t < 60 := (by omega)
      refine hg_iast C 0 (R3.2.1 3 rfl) rfl (vp_in_nI (N := 60) b53 (by omega)) d_Rf_lock_53 ?_
      obtain ⟨h4, eh4⟩ : ∃ z, z = hp_up h2 (aa 3) (.inl (Γ.2.1 0, 60, .inl (upd (N 3) (nI t : Int32).toNatClampNeg p0))) := ⟨_, rfl⟩
      refine hg_eq eh4.symm ?_
      have R6 : rf_at Γ r aa (mset N 3 t p0) h4 := by rw [eh4]; rw [nI_clamp (n := t) (by omega)]; exact rf_put R3 3 t p0 rfl
      obtain ⟨M5, eM5⟩ : ∃ z, z = mset N 3 t p0 := ⟨_, rfl⟩
      rw [← eM5] at R6
      refine hg_iload_n C 0 d_Rf_lock_54 rfl rfl ?_
      exact hg_iretN C hr rfl d_Rf_lock_55 (Nat.le_of_ble_eq_true rfl) (Nat.le_of_ble_eq_true rfl) (⟨by rw [sp_lock, gd0 ⟨z1, Or.inl c14⟩ trivial, nI_clamp (n := t) (by omega), eN]; rfl, by rw [sp_lock, gd0 ⟨z1, Or.inl c14⟩ trivial, nI_clamp (n := t) (by omega)]; rw [eM5, eN] at R6; exact R6⟩)
    · refine hg_iload_n C 2 d_Rf_lock_17 rfl rfl ?_
      refine hg_bipush (v := 10) C d_Rf_lock_18 (by decide) ?_
      refine hg_SNb C (k_Rf_isIn l Γ _ p0 10) (cw_Rf_101 C.2.2.2.2.1 rfl rfl ⟨Nat.le_of_ble_eq_true rfl, Nat.le_of_ble_eq_true rfl⟩) rfl rfl (Nat.le_of_ble_eq_true rfl) d_Rf_lock_20 ⟨Nat.le_of_ble_eq_true rfl, Nat.le_of_ble_eq_true rfl⟩ (fun z7 => ?_) (fun z7 => ?_)
      · refine hg_if_eq C 30 d_Rf_lock_23 (by decide) (fun z => absurd z (by decide)) (fun _ => ?_)
        refine hg_iconst (v := 1) C d_Rf_lock_26 (by decide) ?_
        refine hg_goto C 31 d_Rf_lock_27 (by decide) ?_
        refine hg_iconst (v := 1) C d_Rf_lock_31 (by decide) ?_
        refine hg_VNu (q := ("ModelMergeModel", T_Rf, 31)) C (k_Rf_goes0 l Γ _ r aa M hR) (cw_Rf_108 C.2.2.2.2.1 rfl rfl ⟨Nat.le_of_ble_eq_true rfl, Nat.le_of_ble_eq_true rfl⟩) hR.1 rfl rfl rfl (Nat.le_of_ble_eq_true rfl) d_Rf_lock_32 ⟨Nat.le_of_ble_eq_true rfl, Nat.le_of_ble_eq_true rfl⟩ (fun h8 R9 => ?_)
        obtain ⟨N, eN⟩ : ∃ z, z = mset M 0 0 0 := ⟨_, rfl⟩
        rw [← eN] at R9
        have hN : Inv0 N := by rw [eN]; exact Inv0_code 0 hI
        have qS : nS N = nS M := by rw [eN]; rfl
        have qT : nT N = nT M := by rw [eN]; rfl
        have qV : nV N = nV M := by rw [eN]; rfl
        have qR : nR N = nR M := by rw [eN]; rfl
        have qC : nC N = nC M := by rw [eN]; rfl
        obtain ⟨⟨⟨fT, gT⟩, ⟨fV, gV1, gV⟩, ⟨fS, gS⟩, ⟨fR, gR⟩, ⟨fC, gC⟩⟩, hN2, -⟩ := id hN
        refine hg_if_ne C 40 d_Rf_lock_35 (by decide) (fun _ => ?_) (fun z => absurd z (by decide))
        refine hg_aload_n C 0 d_Rf_lock_40 rfl rfl ?_
        refine f_Rf_13 C R9.1 rfl d_Rf_lock_41 ?_
        refine hg_iload_n C 1 d_Rf_lock_44 rfl rfl ?_
        have b45 : t < 60 := (by omega)
        refine hg_iald C 0 (R9.2.1 3 rfl) rfl (vp_in_nI (N := 60) b45 (by omega)) d_Rf_lock_45 ?_
        refine hg_ti (congrArg (N 3) (nI_clamp (n := t) (by omega))) ?_
        refine hg_istore_n (lv' := [(3, .int (N 3 t)), (0, .ref r), (1, .int (nI t)), (2, .int p0)]) C d_Rf_lock_46 rfl (by decide) rfl ?_
        refine hg_aload_n C 1 d_Rf_lock_47 rfl rfl ?_
        refine f_Rf_13 C R9.1 rfl d_Rf_lock_48 ?_
        refine hg_iload_n C 2 d_Rf_lock_51 rfl rfl ?_
        refine hg_iload_n C 3 d_Rf_lock_52 rfl rfl ?_
        have b53 : t < 60 := (by omega)
        refine hg_iast C 0 (R9.2.1 3 rfl) rfl (vp_in_nI (N := 60) b53 (by omega)) d_Rf_lock_53 ?_
        obtain ⟨h10, eh10⟩ : ∃ z, z = hp_up h8 (aa 3) (.inl (Γ.2.1 0, 60, .inl (upd (N 3) (nI t : Int32).toNatClampNeg p0))) := ⟨_, rfl⟩
        refine hg_eq eh10.symm ?_
        have R12 : rf_at Γ r aa (mset N 3 t p0) h10 := by rw [eh10]; rw [nI_clamp (n := t) (by omega)]; exact rf_put R9 3 t p0 rfl
        obtain ⟨M11, eM11⟩ : ∃ z, z = mset N 3 t p0 := ⟨_, rfl⟩
        rw [← eM11] at R12
        refine hg_iload_n C 0 d_Rf_lock_54 rfl rfl ?_
        exact hg_iretN C hr rfl d_Rf_lock_55 (Nat.le_of_ble_eq_true rfl) (Nat.le_of_ble_eq_true rfl) (⟨by rw [sp_lock, gd0 ⟨z1, Or.inr z7⟩ trivial, nI_clamp (n := t) (by omega), eN]; rfl, by rw [sp_lock, gd0 ⟨z1, Or.inr z7⟩ trivial, nI_clamp (n := t) (by omega)]; rw [eM11, eN] at R12; exact R12⟩)
      · refine hg_if_eq C 30 d_Rf_lock_23 (by decide) (fun _ => ?_) (fun z => absurd (by decide) z)
        refine hg_iconst (v := 0) C d_Rf_lock_30 (by decide) ?_
        refine hg_iconst (v := 1) C d_Rf_lock_31 (by decide) ?_
        refine hg_VNu (q := ("ModelMergeModel", T_Rf, 31)) C (k_Rf_goes1 l Γ _ r aa M hR 1) (cw_Rf_108 C.2.2.2.2.1 rfl rfl ⟨Nat.le_of_ble_eq_true rfl, Nat.le_of_ble_eq_true rfl⟩) hR.1 rfl rfl rfl (Nat.le_of_ble_eq_true rfl) d_Rf_lock_32 ⟨Nat.le_of_ble_eq_true rfl, Nat.le_of_ble_eq_true rfl⟩ (fun h13 R14 => ?_)
        refine hg_if_ne C 40 d_Rf_lock_35 (by decide) (fun z => absurd rfl z) (fun _ => ?_)
        refine hg_iconst (v := 0) C d_Rf_lock_38 (by decide) ?_
        exact hg_iretN C hr rfl d_Rf_lock_39 (Nat.le_of_ble_eq_true rfl) (Nat.le_of_ble_eq_true rfl) (⟨by rw [sp_lock, gd1 (fun z => z.2.elim c14 z7)], by rw [sp_lock, gd1 (fun z => z.2.elim c14 z7)]; exact R14⟩)
  · refine hg_if_eq C 30 d_Rf_lock_9 (by decide) (fun _ => ?_) (fun z => absurd (by decide) z)
    refine hg_iconst (v := 0) C d_Rf_lock_30 (by decide) ?_
    refine hg_iconst (v := 1) C d_Rf_lock_31 (by decide) ?_
    refine hg_VNu (q := ("ModelMergeModel", T_Rf, 31)) C (k_Rf_goes1 l Γ _ r aa M hR 1) (cw_Rf_108 C.2.2.2.2.1 rfl rfl ⟨Nat.le_of_ble_eq_true rfl, Nat.le_of_ble_eq_true rfl⟩) hR.1 rfl rfl rfl (Nat.le_of_ble_eq_true rfl) d_Rf_lock_32 ⟨Nat.le_of_ble_eq_true rfl, Nat.le_of_ble_eq_true rfl⟩ (fun h15 R16 => ?_)
    refine hg_if_ne C 40 d_Rf_lock_35 (by decide) (fun z => absurd rfl z) (fun _ => ?_)
    refine hg_iconst (v := 0) C d_Rf_lock_38 (by decide) ?_
    exact hg_iretN C hr rfl d_Rf_lock_39 (Nat.le_of_ble_eq_true rfl) (Nat.le_of_ble_eq_true rfl) (⟨by rw [sp_lock, gd1 (fun z => z1 z.1)], by rw [sp_lock, gd1 (fun z => z1 z.1)]; exact R16⟩)
abbrev rm_Rf_rule : Room := { frames := 1, cells := 0, slots := 0, locals := 22 }
set_option maxHeartbeats 4000000 in
set_option maxRecDepth 100000 in
theorem k_Rf_rule (l : Launch) (Γ : Gam) (h : Pic) (r : Nat) (aa : Nat → Nat) (M : Mem) (hR : rf_at Γ r aa M h) (hI : Inv0 M) (k0 f0 g0 : Int32) : kN l Γ y_Rf_rule w_Rf_rule rm_Rf_rule [.ref r, .int k0, .int f0, .int g0] h (fun q u => q = some (.int (sp_rule M k0 f0 g0).2.1) ∧ rf_at Γ r aa (sp_rule M k0 f0 g0).2.2 u) 0 0 := by
  refine hg_entryN (own := "ModelMergeModel") (cc := b_Rf_rule) (maxL := 4) (ret := (some .int)) (lv0 := [(0, .ref r), (1, .int k0), (2, .int f0), (3, .int g0)]) (by decide) rfl rfl (Nat.le_of_ble_eq_true rfl) rfl ?_
  intro p9 e9 s9 m9 args below meth c9 A C hnm hr
  obtain ⟨⟨⟨eT, hT⟩, ⟨eV, hV1, hV⟩, ⟨eS, hS⟩, ⟨eR, hRR⟩, ⟨eC, hC⟩⟩, hI2, -⟩ := id hI
  refine hg_aload_n C 0 d_Rf_rule_0 rfl rfl ?_
  refine hg_iload_n C 1 d_Rf_rule_1 rfl rfl ?_
  refine hg_iconst (v := 5) C d_Rf_rule_2 (by decide) ?_
  refine hg_SNb C (k_Rf_isIn l Γ _ k0 5) (cw_Rf_101 C.2.2.2.2.1 rfl rfl ⟨Nat.le_of_ble_eq_true rfl, Nat.le_of_ble_eq_true rfl⟩) rfl rfl (Nat.le_of_ble_eq_true rfl) d_Rf_rule_3 ⟨Nat.le_of_ble_eq_true rfl, Nat.le_of_ble_eq_true rfl⟩ (fun z1 => ?_) (fun z1 => ?_)
  · refine hg_if_eq C 29 d_Rf_rule_6 (by decide) (fun z => absurd z (by decide)) (fun _ => ?_)
    refine hg_iload_n C 2 d_Rf_rule_9 rfl rfl ?_
    refine hg_iconst (v := 5) C d_Rf_rule_10 (by decide) ?_
    refine hg_SNb C (k_Rf_isIn l Γ _ f0 5) (cw_Rf_101 C.2.2.2.2.1 rfl rfl ⟨Nat.le_of_ble_eq_true rfl, Nat.le_of_ble_eq_true rfl⟩) rfl rfl (Nat.le_of_ble_eq_true rfl) d_Rf_rule_11 ⟨Nat.le_of_ble_eq_true rfl, Nat.le_of_ble_eq_true rfl⟩ (fun z2 => ?_) (fun z2 => ?_)
    · refine hg_if_eq C 29 d_Rf_rule_14 (by decide) (fun z => absurd z (by decide)) (fun _ => ?_)
      refine hg_iload_n C 3 d_Rf_rule_17 rfl rfl ?_
      refine hg_iconst (v := 5) C d_Rf_rule_18 (by decide) ?_
      refine hg_SNb C (k_Rf_isIn l Γ _ g0 5) (cw_Rf_101 C.2.2.2.2.1 rfl rfl ⟨Nat.le_of_ble_eq_true rfl, Nat.le_of_ble_eq_true rfl⟩) rfl rfl (Nat.le_of_ble_eq_true rfl) d_Rf_rule_19 ⟨Nat.le_of_ble_eq_true rfl, Nat.le_of_ble_eq_true rfl⟩ (fun z3 => ?_) (fun z3 => ?_)
      · refine hg_if_eq C 29 d_Rf_rule_22 (by decide) (fun z => absurd z (by decide)) (fun _ => ?_)
        refine hg_iconst (v := 1) C d_Rf_rule_25 (by decide) ?_
        refine hg_goto C 30 d_Rf_rule_26 (by decide) ?_
        refine hg_aload_n C 0 d_Rf_rule_30 rfl rfl ?_
        refine f_Rf_130 C hR.1 rfl d_Rf_rule_31 ?_
        refine hg_ti eR ?_
        refine hg_bipush (v := 10) C d_Rf_rule_34 (by decide) ?_
        refine hg_icmp_ge C 43 d_Rf_rule_36 (by decide) (fun c36 => ?_) (fun c36 => ?_)
        · have c36n : 10 ≤ nR M := (nI_leI (a := 10) (b := (nR M)) (by omega) (by omega)).mp c36
          refine hg_iconst (v := 0) C d_Rf_rule_43 (by decide) ?_
          refine hg_VNu (q := ("ModelMergeModel", T_Rf, 31)) C (k_Rf_goes2 l Γ _ r aa M hR) (cw_Rf_108 C.2.2.2.2.1 rfl rfl ⟨Nat.le_of_ble_eq_true rfl, Nat.le_of_ble_eq_true rfl⟩) hR.1 rfl rfl rfl (Nat.le_of_ble_eq_true rfl) d_Rf_rule_44 ⟨Nat.le_of_ble_eq_true rfl, Nat.le_of_ble_eq_true rfl⟩ (fun h4 R5 => ?_)
          refine hg_if_ne C 52 d_Rf_rule_47 (by decide) (fun z => absurd rfl z) (fun _ => ?_)
          refine hg_iconst (v := 0) C d_Rf_rule_50 (by decide) ?_
          exact hg_iretN C hr rfl d_Rf_rule_51 (Nat.le_of_ble_eq_true rfl) (Nat.le_of_ble_eq_true rfl) (⟨by rw [sp_rule, gd2 ⟨z1, z2, z3⟩ (by omega)], by rw [sp_rule, gd2 ⟨z1, z2, z3⟩ (by omega)]; exact R5⟩)
        · have c36n : ¬ 10 ≤ nR M := fun z => c36 (nI_le (a := 10) (b := (nR M)) z (by omega))
          refine hg_iconst (v := 1) C d_Rf_rule_39 (by decide) ?_
          refine hg_goto C 44 d_Rf_rule_40 (by decide) ?_
          refine hg_VNu (q := ("ModelMergeModel", T_Rf, 31)) C (k_Rf_goes0 l Γ _ r aa M hR) (cw_Rf_108 C.2.2.2.2.1 rfl rfl ⟨Nat.le_of_ble_eq_true rfl, Nat.le_of_ble_eq_true rfl⟩) hR.1 rfl rfl rfl (Nat.le_of_ble_eq_true rfl) d_Rf_rule_44 ⟨Nat.le_of_ble_eq_true rfl, Nat.le_of_ble_eq_true rfl⟩ (fun h6 R7 => ?_)
          obtain ⟨N, eN⟩ : ∃ z, z = mset M 0 0 0 := ⟨_, rfl⟩
          rw [← eN] at R7
          have hN : Inv0 N := by rw [eN]; exact Inv0_code 0 hI
          have qS : nS N = nS M := by rw [eN]; rfl
          have qT : nT N = nT M := by rw [eN]; rfl
          have qV : nV N = nV M := by rw [eN]; rfl
          have qR : nR N = nR M := by rw [eN]; rfl
          have qC : nC N = nC M := by rw [eN]; rfl
          obtain ⟨⟨⟨fT, gT⟩, ⟨fV, gV1, gV⟩, ⟨fS, gS⟩, ⟨fR, gR⟩, ⟨fC, gC⟩⟩, hN2, -⟩ := id hN
          refine hg_if_ne C 52 d_Rf_rule_47 (by decide) (fun _ => ?_) (fun z => absurd z (by decide))
          refine hg_aload_n C 0 d_Rf_rule_52 rfl rfl ?_
          refine f_Rf_69 C R7.1 rfl d_Rf_rule_53 ?_
          refine hg_aload_n C 0 d_Rf_rule_56 rfl rfl ?_
          refine f_Rf_130 C R7.1 rfl d_Rf_rule_57 ?_
          refine hg_ti fR ?_
          refine hg_iload_n C 1 d_Rf_rule_60 rfl rfl ?_
          have b61 : nR N < 10 := (by omega)
          refine hg_iast C 0 (R7.2.1 23 rfl) rfl (vp_in_nI (N := 10) b61 (by omega)) d_Rf_rule_61 ?_
          obtain ⟨h8, eh8⟩ : ∃ z, z = hp_up h6 (aa 23) (.inl (Γ.2.1 0, 10, .inl (upd (N 23) (nI (nR N) : Int32).toNatClampNeg k0))) := ⟨_, rfl⟩
          refine hg_eq eh8.symm ?_
          have R10 : rf_at Γ r aa (mset N 23 (nR N) k0) h8 := by rw [eh8]; rw [nI_clamp (n := nR N) (by omega)]; exact rf_put R7 23 (nR N) k0 rfl
          obtain ⟨M9, eM9⟩ : ∃ z, z = mset N 23 (nR N) k0 := ⟨_, rfl⟩
          rw [← eM9] at R10
          refine hg_aload_n C 0 d_Rf_rule_62 rfl rfl ?_
          refine f_Rf_72 C R10.1 rfl d_Rf_rule_63 ?_
          refine hg_aload_n C 0 d_Rf_rule_66 rfl rfl ?_
          refine f_Rf_130 C R10.1 rfl d_Rf_rule_67 ?_
          refine hg_ti (show M9 22 0 = N 22 0 by rw [eM9, mset_n (by decide)]) ?_
          refine hg_ti fR ?_
          refine hg_iload_n C 2 d_Rf_rule_70 rfl rfl ?_
          have b71 : nR N < 10 := (by omega)
          refine hg_iast C 0 (R10.2.1 24 rfl) rfl (vp_in_nI (N := 10) b71 (by omega)) d_Rf_rule_71 ?_
          obtain ⟨h11, eh11⟩ : ∃ z, z = hp_up h8 (aa 24) (.inl (Γ.2.1 0, 10, .inl (upd (M9 24) (nI (nR N) : Int32).toNatClampNeg f0))) := ⟨_, rfl⟩
          refine hg_eq eh11.symm ?_
          have R13 : rf_at Γ r aa (mset M9 24 (nR N) f0) h11 := by rw [eh11]; rw [nI_clamp (n := nR N) (by omega)]; exact rf_put R10 24 (nR N) f0 rfl
          obtain ⟨M12, eM12⟩ : ∃ z, z = mset M9 24 (nR N) f0 := ⟨_, rfl⟩
          rw [← eM12] at R13
          refine hg_aload_n C 0 d_Rf_rule_72 rfl rfl ?_
          refine f_Rf_75 C R13.1 rfl d_Rf_rule_73 ?_
          refine hg_aload_n C 0 d_Rf_rule_76 rfl rfl ?_
          refine f_Rf_130 C R13.1 rfl d_Rf_rule_77 ?_
          refine hg_ti (show M12 22 0 = N 22 0 by rw [eM12, mset_n (by decide), eM9, mset_n (by decide)]) ?_
          refine hg_ti fR ?_
          refine hg_iload_n C 3 d_Rf_rule_80 rfl rfl ?_
          have b81 : nR N < 10 := (by omega)
          refine hg_iast C 0 (R13.2.1 25 rfl) rfl (vp_in_nI (N := 10) b81 (by omega)) d_Rf_rule_81 ?_
          obtain ⟨h14, eh14⟩ : ∃ z, z = hp_up h11 (aa 25) (.inl (Γ.2.1 0, 10, .inl (upd (M12 25) (nI (nR N) : Int32).toNatClampNeg g0))) := ⟨_, rfl⟩
          refine hg_eq eh14.symm ?_
          have R16 : rf_at Γ r aa (mset M12 25 (nR N) g0) h14 := by rw [eh14]; rw [nI_clamp (n := nR N) (by omega)]; exact rf_put R13 25 (nR N) g0 rfl
          obtain ⟨M15, eM15⟩ : ∃ z, z = mset M12 25 (nR N) g0 := ⟨_, rfl⟩
          rw [← eM15] at R16
          refine hg_aload_n C 0 d_Rf_rule_82 rfl rfl ?_
          refine hg_dup C d_Rf_rule_83 rfl ?_
          refine f_Rf_130 C R16.1 rfl d_Rf_rule_84 ?_
          refine hg_ti (show M15 22 0 = N 22 0 by rw [eM15, mset_n (by decide), eM12, mset_n (by decide), eM9, mset_n (by decide)]) ?_
          refine hg_ti fR ?_
          refine hg_iconst (v := 1) C d_Rf_rule_87 (by decide) ?_
          refine hg_iadd C d_Rf_rule_88 ?_
          refine hg_ti (show (nI (nR N) : Int32) + (1 : Int32) = nI (nR N + 1) from nI_add (nR N) 1) ?_
          refine p_Rf_130 (fs' := rf_fs aa (mset M15 22 0 (nI (nR N + 1)))) C R16.1 rfl rfl (Nat.le_of_ble_eq_true rfl) rfl d_Rf_rule_89 ?_
          obtain ⟨h17, eh17⟩ : ∃ z, z = hp_up h14 r (.inr (7, rf_fs aa (mset M15 22 0 (nI (nR N + 1))))) := ⟨_, rfl⟩
          refine hg_eq eh17.symm ?_
          have R19 : rf_at Γ r aa (mset M15 22 0 (nI (nR N + 1))) h17 := by rw [eh17]; exact rf_set R16 22 (nI (nR N + 1)) rfl
          obtain ⟨M18, eM18⟩ : ∃ z, z = mset M15 22 0 (nI (nR N + 1)) := ⟨_, rfl⟩
          rw [← eM18] at R19
          refine hg_aload_n C 0 d_Rf_rule_92 rfl rfl ?_
          refine f_Rf_130 C R19.1 rfl d_Rf_rule_93 ?_
          refine hg_ti (show M18 22 0 = nI (nR N + 1) by rw [eM18, mset_s, pk_us]) ?_
          refine hg_iconst (v := 1) C d_Rf_rule_96 (by decide) ?_
          refine hg_isub C d_Rf_rule_97 ?_
          refine hg_ti (show (nI (nR N + 1) : Int32) - (1 : Int32) = nI (nR N + 1 - 1) from pk_sub (a := (nR N + 1)) (b := 1) (by omega)) ?_
          exact hg_iretN C hr rfl d_Rf_rule_98 (Nat.le_of_ble_eq_true rfl) (Nat.le_of_ble_eq_true rfl) (⟨by rw [sp_rule, gd0 ⟨z1, z2, z3⟩ (by omega), qR]; rfl, by rw [sp_rule, gd0 ⟨z1, z2, z3⟩ (by omega)]; rw [eM18, eM15, eM12, eM9, qR, eN] at R19; exact R19⟩)
      · refine hg_if_eq C 29 d_Rf_rule_22 (by decide) (fun _ => ?_) (fun z => absurd (by decide) z)
        refine hg_iconst (v := 0) C d_Rf_rule_29 (by decide) ?_
        refine hg_aload_n C 0 d_Rf_rule_30 rfl rfl ?_
        refine f_Rf_130 C hR.1 rfl d_Rf_rule_31 ?_
        refine hg_ti eR ?_
        refine hg_bipush (v := 10) C d_Rf_rule_34 (by decide) ?_
        refine hg_icmp_ge C 43 d_Rf_rule_36 (by decide) (fun c36 => ?_) (fun c36 => ?_)
        · have c36n : 10 ≤ nR M := (nI_leI (a := 10) (b := (nR M)) (by omega) (by omega)).mp c36
          refine hg_iconst (v := 0) C d_Rf_rule_43 (by decide) ?_
          refine hg_VNu (q := ("ModelMergeModel", T_Rf, 31)) C (k_Rf_goes1 l Γ _ r aa M hR 0) (cw_Rf_108 C.2.2.2.2.1 rfl rfl ⟨Nat.le_of_ble_eq_true rfl, Nat.le_of_ble_eq_true rfl⟩) hR.1 rfl rfl rfl (Nat.le_of_ble_eq_true rfl) d_Rf_rule_44 ⟨Nat.le_of_ble_eq_true rfl, Nat.le_of_ble_eq_true rfl⟩ (fun h20 R21 => ?_)
          refine hg_if_ne C 52 d_Rf_rule_47 (by decide) (fun z => absurd rfl z) (fun _ => ?_)
          refine hg_iconst (v := 0) C d_Rf_rule_50 (by decide) ?_
          exact hg_iretN C hr rfl d_Rf_rule_51 (Nat.le_of_ble_eq_true rfl) (Nat.le_of_ble_eq_true rfl) (⟨by rw [sp_rule, gd1 (fun z => z3 (z.2.2))], by rw [sp_rule, gd1 (fun z => z3 (z.2.2))]; exact R21⟩)
        · have c36n : ¬ 10 ≤ nR M := fun z => c36 (nI_le (a := 10) (b := (nR M)) z (by omega))
          refine hg_iconst (v := 1) C d_Rf_rule_39 (by decide) ?_
          refine hg_goto C 44 d_Rf_rule_40 (by decide) ?_
          refine hg_VNu (q := ("ModelMergeModel", T_Rf, 31)) C (k_Rf_goes1 l Γ _ r aa M hR 1) (cw_Rf_108 C.2.2.2.2.1 rfl rfl ⟨Nat.le_of_ble_eq_true rfl, Nat.le_of_ble_eq_true rfl⟩) hR.1 rfl rfl rfl (Nat.le_of_ble_eq_true rfl) d_Rf_rule_44 ⟨Nat.le_of_ble_eq_true rfl, Nat.le_of_ble_eq_true rfl⟩ (fun h22 R23 => ?_)
          refine hg_if_ne C 52 d_Rf_rule_47 (by decide) (fun z => absurd rfl z) (fun _ => ?_)
          refine hg_iconst (v := 0) C d_Rf_rule_50 (by decide) ?_
          exact hg_iretN C hr rfl d_Rf_rule_51 (Nat.le_of_ble_eq_true rfl) (Nat.le_of_ble_eq_true rfl) (⟨by rw [sp_rule, gd1 (fun z => z3 (z.2.2))], by rw [sp_rule, gd1 (fun z => z3 (z.2.2))]; exact R23⟩)
    · refine hg_if_eq C 29 d_Rf_rule_14 (by decide) (fun _ => ?_) (fun z => absurd (by decide) z)
      refine hg_iconst (v := 0) C d_Rf_rule_29 (by decide) ?_
      refine hg_aload_n C 0 d_Rf_rule_30 rfl rfl ?_
      refine f_Rf_130 C hR.1 rfl d_Rf_rule_31 ?_
      refine hg_ti eR ?_
      refine hg_bipush (v := 10) C d_Rf_rule_34 (by decide) ?_
      refine hg_icmp_ge C 43 d_Rf_rule_36 (by decide) (fun c36 => ?_) (fun c36 => ?_)
      · have c36n : 10 ≤ nR M := (nI_leI (a := 10) (b := (nR M)) (by omega) (by omega)).mp c36
        refine hg_iconst (v := 0) C d_Rf_rule_43 (by decide) ?_
        refine hg_VNu (q := ("ModelMergeModel", T_Rf, 31)) C (k_Rf_goes1 l Γ _ r aa M hR 0) (cw_Rf_108 C.2.2.2.2.1 rfl rfl ⟨Nat.le_of_ble_eq_true rfl, Nat.le_of_ble_eq_true rfl⟩) hR.1 rfl rfl rfl (Nat.le_of_ble_eq_true rfl) d_Rf_rule_44 ⟨Nat.le_of_ble_eq_true rfl, Nat.le_of_ble_eq_true rfl⟩ (fun h24 R25 => ?_)
        refine hg_if_ne C 52 d_Rf_rule_47 (by decide) (fun z => absurd rfl z) (fun _ => ?_)
        refine hg_iconst (v := 0) C d_Rf_rule_50 (by decide) ?_
        exact hg_iretN C hr rfl d_Rf_rule_51 (Nat.le_of_ble_eq_true rfl) (Nat.le_of_ble_eq_true rfl) (⟨by rw [sp_rule, gd1 (fun z => z2 (z.2.1))], by rw [sp_rule, gd1 (fun z => z2 (z.2.1))]; exact R25⟩)
      · have c36n : ¬ 10 ≤ nR M := fun z => c36 (nI_le (a := 10) (b := (nR M)) z (by omega))
        refine hg_iconst (v := 1) C d_Rf_rule_39 (by decide) ?_
        refine hg_goto C 44 d_Rf_rule_40 (by decide) ?_
        refine hg_VNu (q := ("ModelMergeModel", T_Rf, 31)) C (k_Rf_goes1 l Γ _ r aa M hR 1) (cw_Rf_108 C.2.2.2.2.1 rfl rfl ⟨Nat.le_of_ble_eq_true rfl, Nat.le_of_ble_eq_true rfl⟩) hR.1 rfl rfl rfl (Nat.le_of_ble_eq_true rfl) d_Rf_rule_44 ⟨Nat.le_of_ble_eq_true rfl, Nat.le_of_ble_eq_true rfl⟩ (fun h26 R27 => ?_)
        refine hg_if_ne C 52 d_Rf_rule_47 (by decide) (fun z => absurd rfl z) (fun _ => ?_)
        refine hg_iconst (v := 0) C d_Rf_rule_50 (by decide) ?_
        exact hg_iretN C hr rfl d_Rf_rule_51 (Nat.le_of_ble_eq_true rfl) (Nat.le_of_ble_eq_true rfl) (⟨by rw [sp_rule, gd1 (fun z => z2 (z.2.1))], by rw [sp_rule, gd1 (fun z => z2 (z.2.1))]; exact R27⟩)
  · refine hg_if_eq C 29 d_Rf_rule_6 (by decide) (fun _ => ?_) (fun z => absurd (by decide) z)
    refine hg_iconst (v := 0) C d_Rf_rule_29 (by decide) ?_
    refine hg_aload_n C 0 d_Rf_rule_30 rfl rfl ?_
    refine f_Rf_130 C hR.1 rfl d_Rf_rule_31 ?_
    refine hg_ti eR ?_
    refine hg_bipush (v := 10) C d_Rf_rule_34 (by decide) ?_
    refine hg_icmp_ge C 43 d_Rf_rule_36 (by decide) (fun c36 => ?_) (fun c36 => ?_)
    · have c36n : 10 ≤ nR M := (nI_leI (a := 10) (b := (nR M)) (by omega) (by omega)).mp c36
      refine hg_iconst (v := 0) C d_Rf_rule_43 (by decide) ?_
      refine hg_VNu (q := ("ModelMergeModel", T_Rf, 31)) C (k_Rf_goes1 l Γ _ r aa M hR 0) (cw_Rf_108 C.2.2.2.2.1 rfl rfl ⟨Nat.le_of_ble_eq_true rfl, Nat.le_of_ble_eq_true rfl⟩) hR.1 rfl rfl rfl (Nat.le_of_ble_eq_true rfl) d_Rf_rule_44 ⟨Nat.le_of_ble_eq_true rfl, Nat.le_of_ble_eq_true rfl⟩ (fun h28 R29 => ?_)
      refine hg_if_ne C 52 d_Rf_rule_47 (by decide) (fun z => absurd rfl z) (fun _ => ?_)
      refine hg_iconst (v := 0) C d_Rf_rule_50 (by decide) ?_
      exact hg_iretN C hr rfl d_Rf_rule_51 (Nat.le_of_ble_eq_true rfl) (Nat.le_of_ble_eq_true rfl) (⟨by rw [sp_rule, gd1 (fun z => z1 (z.1))], by rw [sp_rule, gd1 (fun z => z1 (z.1))]; exact R29⟩)
    · have c36n : ¬ 10 ≤ nR M := fun z => c36 (nI_le (a := 10) (b := (nR M)) z (by omega))
      refine hg_iconst (v := 1) C d_Rf_rule_39 (by decide) ?_
      refine hg_goto C 44 d_Rf_rule_40 (by decide) ?_
      refine hg_VNu (q := ("ModelMergeModel", T_Rf, 31)) C (k_Rf_goes1 l Γ _ r aa M hR 1) (cw_Rf_108 C.2.2.2.2.1 rfl rfl ⟨Nat.le_of_ble_eq_true rfl, Nat.le_of_ble_eq_true rfl⟩) hR.1 rfl rfl rfl (Nat.le_of_ble_eq_true rfl) d_Rf_rule_44 ⟨Nat.le_of_ble_eq_true rfl, Nat.le_of_ble_eq_true rfl⟩ (fun h30 R31 => ?_)
      refine hg_if_ne C 52 d_Rf_rule_47 (by decide) (fun z => absurd rfl z) (fun _ => ?_)
      refine hg_iconst (v := 0) C d_Rf_rule_50 (by decide) ?_
      exact hg_iretN C hr rfl d_Rf_rule_51 (Nat.le_of_ble_eq_true rfl) (Nat.le_of_ble_eq_true rfl) (⟨by rw [sp_rule, gd1 (fun z => z1 (z.1))], by rw [sp_rule, gd1 (fun z => z1 (z.1))]; exact R31⟩)
