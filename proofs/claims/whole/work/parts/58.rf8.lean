/-! THE REFERENCE, eighth part: take, merge, finish, join, settle -/
/-- K is N but for the version to come -/
def agv (K N : Mem) : Prop := agr K N ∧ ∀ j, 27 ≤ j → K j = N j
theorem agv_rf {N : Mem} : agv N N := ⟨agr_rf, fun _ _ => rfl⟩
theorem agv.C {K N : Mem} (h : agv K N) : nC K = nC N := by unfold nC; rw [h.2 27 (by omega)]
theorem agv.inv {K N : Mem} (h : agv K N) (hN : Inv0 N) : Inv0 K := by
  refine h.1.inv hN ⟨?_, ?_⟩ ?_
  · rw [h.C, h.2 27 (by omega)]; exact hN.1.2.2.2.2.1
  · rw [h.C]; exact hN.1.2.2.2.2.2
  · intro k hk
    rw [h.C] at hk
    rw [h.1.T, h.2 28 (by omega), h.2 29 (by omega), h.2 30 (by omega)]
    exact hN.2.2.2.2.2.2.1 k hk
theorem agv.sd_ {K N : Mem} (h : agv K N) (t f : Int32) : ∀ n, c_sd K t f n = c_sd N t f n
  | 0 => rfl
  | n + 1 => by
    unfold c_sd
    rw [h.2 28 (by omega), h.2 29 (by omega), h.2 30 (by omega), h.sd_ t f n]
theorem agv.set5 {K N : Mem} (h : agv K N) {i : Nat} {v : Int32} (hi : 60 * nV N ≤ i) : agv (mset K 5 i v) N :=
  ⟨⟨fun j h1 h2 => by rw [mset_n (fun z => h2 (by rw [z]; decide))]; exact h.1.1 j h1 h2, fun k hk => by rw [mset_s, pk_un (by omega)]; exact h.1.2.1 k hk, fun k hk => by rw [mset_n (by decide)]; exact h.1.2.2.1 k hk, fun k hk => by rw [mset_n (by decide)]; exact h.1.2.2.2 k hk⟩, fun j hj => by rw [mset_n (by omega)]; exact h.2 j hj⟩
theorem agv.set6 {K N : Mem} (h : agv K N) {i : Nat} {v : Int32} (hi : 300 * nV N ≤ i) : agv (mset K 6 i v) N :=
  ⟨⟨fun j h1 h2 => by rw [mset_n (fun z => h2 (by rw [z]; decide))]; exact h.1.1 j h1 h2, fun k hk => by rw [mset_n (by decide)]; exact h.1.2.1 k hk, fun k hk => by rw [mset_s, pk_un (by omega)]; exact h.1.2.2.1 k hk, fun k hk => by rw [mset_n (by decide)]; exact h.1.2.2.2 k hk⟩, fun j hj => by rw [mset_n (by omega)]; exact h.2 j hj⟩
theorem agv.set7 {K N : Mem} (h : agv K N) {i : Nat} {v : Int32} (hi : 300 * nV N ≤ i) : agv (mset K 7 i v) N :=
  ⟨⟨fun j h1 h2 => by rw [mset_n (fun z => h2 (by rw [z]; decide))]; exact h.1.1 j h1 h2, fun k hk => by rw [mset_n (by decide)]; exact h.1.2.1 k hk, fun k hk => by rw [mset_n (by decide)]; exact h.1.2.2.1 k hk, fun k hk => by rw [mset_s, pk_un (by omega)]; exact h.1.2.2.2 k hk⟩, fun j hj => by rw [mset_n (by omega)]; exact h.2 j hj⟩
def m_wr (K : Mem) (i : Nat) (x y : Nat → Int32) : Nat → Mem
  | 0 => K
  | f + 1 => mset (mset (m_wr K i x y f) 6 (5 * i + f) (x f)) 7 (5 * i + f) (y f)
theorem agv.wr {K N : Mem} (h : agv K N) {i : Nat} {x y : Nat → Int32} (hi : 60 * nV N ≤ i) : ∀ f, agv (m_wr K i x y f) N
  | 0 => h
  | f + 1 => ((h.wr hi f).set6 (by omega)).set7 (by omega)
def x_sn (N : Mem) (t f : Nat) : Int32 := N 7 (5 * (60 * (nV N - 1) + t) + f)
noncomputable def tk_x (N : Mem) (s t : Nat) (P : Prop) (f : Nat) : Int32 := @ite _ P (Classical.propDecidable _) (x_th N s t f) (x_my N t f)
noncomputable def tk_y (N : Mem) (t : Nat) (P : Prop) (f : Nat) : Int32 := @ite _ P (Classical.propDecidable _) (nI (nV N)) (x_sn N t f)
noncomputable def m_take (N : Mem) (s t : Nat) (P : Prop) (K : Mem) : Mem := m_wr (mset K 5 (60 * nV N + t) 1) (60 * nV N + t) (tk_x N s t P) (tk_y N t P) 5
def w_sd (N : Mem) (t : Nat) : Int32 := c_sd N (nI t) (-1) (nC N)
def f_sd (N : Mem) (t f : Nat) : Int32 := c_sd N (nI t) (nI f) (nC N)
/-- the field is taken from theirs -/
def j_tk (N : Mem) (s t f : Nat) : Prop := (f_sd N t f < 0 ∧ ¬ x_th N s t f = x_old N s t f) ∨ (¬ f_sd N t f < 0 ∧ f_sd N t f = 1)
noncomputable def j_x (N : Mem) (s t f : Nat) : Int32 := @ite _ (j_tk N s t f) (Classical.propDecidable _) (x_th N s t f) (x_my N t f)
noncomputable def j_y (N : Mem) (s t f : Nat) : Int32 := @ite _ (j_tk N s t f ∧ ¬ x_th N s t f = x_my N t f) (Classical.propDecidable _) (nI (nV N)) (x_sn N t f)
/-- the thing is taken as a whole from theirs (or from mine), where it isn't there in both -/
def j_wt (N : Mem) (s t : Nat) : Prop := (¬ h_b N s t = 0 ∧ w_sd N t = 1) ∨ (h_b N s t = 0 ∧ ¬ h_t N s t = 0)
def j_st (N : Mem) (s t : Nat) : Prop := (h_b N s t = 0 ∨ ¬ w_sd N t < 0) ∧ ((j_wt N s t ∧ ¬ h_t N s t = 0) ∨ (¬ j_wt N s t ∧ ¬ h_m N t = 0))
noncomputable def m_merge (N : Mem) (s t : Nat) (K : Mem) : Mem := @ite _ (¬ h_m N t = 0 ∧ ¬ h_t N s t = 0) (Classical.propDecidable _) (m_wr (mset (mset K 5 (60 * nV N + t) 0) 5 (60 * nV N + t) 1) (60 * nV N + t) (j_x N s t) (j_y N s t) 5) (@ite _ (j_st N s t) (Classical.propDecidable _) (m_take N s t (j_wt N s t) (mset K 5 (60 * nV N + t) 0)) (mset K 5 (60 * nV N + t) 0))
abbrev rm_Rf_take : Room := { frames := 2, cells := 0, slots := 0, locals := 49 }
set_option maxHeartbeats 4000000 in
set_option maxRecDepth 100000 in
theorem lp_Rf_take (l : Launch) (Γ : Gam) {p : Program} {e : Env} {s9 : State} {m : MethodId} {args : Array Value} {below : List Frame} {meth : Method} {c : Code} {A : Nat → Prop} (C : hp_C p s9 m args meth c b_Rf_take 6 "ModelMergeModel" w_Rf_take Γ.1 kcl (ktys Γ.2.1) (ksts Γ.2.2) knws A) {r : Nat} {aa : Nat → Nat} {N : Mem} (hN : Inv0 N) (hZ : I_zer N) (h40 : nV N < 40) {s t : Nat} (hs : s < nS N) (htt : t < nT N) {K0 : Mem} (hA0 : agv K0 N) {z : Int32} {Pz : Prop} (hz : flag z Pz) (hr : meth.sig.returnType = none)  :
    ∀ (n9 : Nat) (f : Nat) (h : Pic), (f ≤ 5) → (5 + 1 ≤ f + n9) → (rf_at Γ r aa (m_wr K0 (60 * nV N + t) (tk_x N s t Pz) (tk_y N t Pz) f) h) → hp_G p l e rm_Rf_take s9 m args below meth c Γ.1 kcl A 6 (hp_NQ below Γ.1 kcl A (fun q u => q = none ∧ rf_at Γ r aa (m_wr K0 (60 * nV N + t) (tk_x N s t Pz) (tk_y N t Pz) 5) u) args s9 0 0) 0 0 22 [(5, .int (nI f)), (4, .int (nI (60 * nV N + t))), (1, .int (nI s)), (2, .int (nI t)), (3, .int z), (0, .ref r)] [] h := by
  intro n9
  induction n9 with
  | zero =>
    intro f h hf hm hR
    exact absurd hm (by omega)
  | succ n9 ih =>
    intro f h hf hm hR
    have hAv := hA0.wr (i := 60 * nV N + t) (x := tk_x N s t Pz) (y := tk_y N t Pz) (by omega) f
    obtain ⟨K, eK⟩ : ∃ z, z = m_wr K0 (60 * nV N + t) (tk_x N s t Pz) (tk_y N t Pz) f := ⟨_, rfl⟩
    rw [← eK] at hR hAv
    have hA := hAv.1
    have hK := hAv.inv hN
    have hZK := hA.zer hN hZ
    have qS := hA.S
    have qT := hA.T
    have qV := hA.V
    have qC := hAv.C
    obtain ⟨⟨⟨fT, gT⟩, ⟨fV, gV1, gV⟩, ⟨fS, gS⟩, ⟨fR, gR⟩, ⟨fC, gC⟩⟩, hN2, -⟩ := id hN
    obtain ⟨⟨f11, gb⟩, ⟨f12, gsd⟩, ⟨f13, gnm⟩, glf⟩ := hN2 s hs
    refine hg_iload C 0 d_Rf_take_22 rfl ?_
    refine hg_iconst (v := 5) C d_Rf_take_24 (by decide) ?_
    refine hg_icmp_ge C 114 d_Rf_take_25 (by decide) (fun c25 => ?_) (fun c25 => ?_)
    · have c25n : 5 ≤ f := (nI_leI (a := 5) (b := f) (by omega) (by omega)).mp c25
      exact hg_vretN C hr d_Rf_take_114 (Nat.le_of_ble_eq_true rfl) (Nat.le_of_ble_eq_true rfl) (⟨rfl, by rw [show (5 : Nat) = f by omega, ← eK]; exact hR⟩)
    · have c25n : ¬ 5 ≤ f := fun z => c25 (nI_le (a := 5) (b := f) z (by omega))
      refine hg_aload_n C 5 d_Rf_take_28 rfl rfl ?_
      refine f_Rf_24 C hR.1 rfl d_Rf_take_29 ?_
      refine hg_iconst (v := 5) C d_Rf_take_32 (by decide) ?_
      refine hg_iload C 1 d_Rf_take_33 rfl ?_
      refine hg_imul C d_Rf_take_35 ?_
      refine hg_ti (show ((5 : Int32) : Int32) * nI (60 * nV N + t) = nI (5 * (60 * nV N + t)) from pk_mul 5 (60 * nV N + t)) ?_
      refine hg_iload C 0 d_Rf_take_36 rfl ?_
      refine hg_iadd C d_Rf_take_38 ?_
      refine hg_ti (show (nI (5 * (60 * nV N + t)) : Int32) + nI f = nI (5 * (60 * nV N + t) + f) from nI_add (5 * (60 * nV N + t)) f) ?_
      refine hg_iload_n C 4 d_Rf_take_39 rfl rfl ?_
      refine hg_if_eq C 54 d_Rf_take_40 (by decide) (fun c40 => ?_) (fun c40 => ?_)
      · refine hg_aload_n C 5 d_Rf_take_54 rfl rfl ?_
        refine f_Rf_24 C hR.1 rfl d_Rf_take_55 ?_
        refine hg_iconst (v := 5) C d_Rf_take_58 (by decide) ?_
        refine hg_aload_n C 5 d_Rf_take_59 rfl rfl ?_
        refine hg_iload_n C 3 d_Rf_take_60 rfl rfl ?_
        refine hg_VNv (q := ("ModelMergeModel", T_Rf, 31)) C (k_Rf_mine l Γ _ r aa K hR (hK) t (by omega)) (cw_Rf_133 C.2.2.2.2.1 rfl rfl ⟨Nat.le_of_ble_eq_true rfl, Nat.le_of_ble_eq_true rfl⟩) hR.1 rfl rfl rfl (Nat.le_of_ble_eq_true rfl) d_Rf_take_61 ⟨Nat.le_of_ble_eq_true rfl, Nat.le_of_ble_eq_true rfl⟩ (fun _ => ?_)
        refine hg_ti (show nI (60 * (nV K - 1) + t) = nI (60 * (nV N - 1) + t) by rw [hA.V]) ?_
        refine hg_imul C d_Rf_take_64 ?_
        refine hg_ti (show ((5 : Int32) : Int32) * nI (60 * (nV N - 1) + t) = nI (5 * (60 * (nV N - 1) + t)) from pk_mul 5 (60 * (nV N - 1) + t)) ?_
        refine hg_iload C 0 d_Rf_take_65 rfl ?_
        refine hg_iadd C d_Rf_take_67 ?_
        refine hg_ti (show (nI (5 * (60 * (nV N - 1) + t)) : Int32) + nI f = nI (5 * (60 * (nV N - 1) + t) + f) from nI_add (5 * (60 * (nV N - 1) + t)) f) ?_
        have b68 : 5 * (60 * (nV N - 1) + t) + f < 12000 := (by omega)
        refine hg_iald C 0 (hR.2.1 6 rfl) rfl (vp_in_nI (N := 12000) b68 (by omega)) d_Rf_take_68 ?_
        refine hg_ti (congrArg (K 6) (nI_clamp (n := 5 * (60 * (nV N - 1) + t) + f) (by omega))) ?_
        refine hg_ti (show K 6 (5 * (60 * (nV N - 1) + t) + f) = N 6 (5 * (60 * (nV N - 1) + t) + f) from hA.2.2.1 (5 * (60 * (nV N - 1) + t) + f) (by omega)) ?_
        have b69 : 5 * (60 * nV N + t) + f < 12000 := (by omega)
        refine hg_iast C 0 (hR.2.1 6 rfl) rfl (vp_in_nI (N := 12000) b69 (by omega)) d_Rf_take_69 ?_
        obtain ⟨h1, eh1⟩ : ∃ z, z = hp_up h (aa 6) (.inl (Γ.2.1 0, 12000, .inl (upd (K 6) (nI (5 * (60 * nV N + t) + f) : Int32).toNatClampNeg (N 6 (5 * (60 * (nV N - 1) + t) + f))))) := ⟨_, rfl⟩
        refine hg_eq eh1.symm ?_
        have R3 : rf_at Γ r aa (mset K 6 (5 * (60 * nV N + t) + f) (N 6 (5 * (60 * (nV N - 1) + t) + f))) h1 := by rw [eh1]; rw [nI_clamp (n := 5 * (60 * nV N + t) + f) (by omega)]; exact rf_put hR 6 (5 * (60 * nV N + t) + f) (N 6 (5 * (60 * (nV N - 1) + t) + f)) rfl
        obtain ⟨M2, eM2⟩ : ∃ z, z = mset K 6 (5 * (60 * nV N + t) + f) (N 6 (5 * (60 * (nV N - 1) + t) + f)) := ⟨_, rfl⟩
        rw [← eM2] at R3
        refine hg_aload_n C 5 d_Rf_take_70 rfl rfl ?_
        refine f_Rf_27 C R3.1 rfl d_Rf_take_71 ?_
        refine hg_iconst (v := 5) C d_Rf_take_74 (by decide) ?_
        refine hg_iload C 1 d_Rf_take_75 rfl ?_
        refine hg_imul C d_Rf_take_77 ?_
        refine hg_ti (show ((5 : Int32) : Int32) * nI (60 * nV N + t) = nI (5 * (60 * nV N + t)) from pk_mul 5 (60 * nV N + t)) ?_
        refine hg_iload C 0 d_Rf_take_78 rfl ?_
        refine hg_iadd C d_Rf_take_80 ?_
        refine hg_ti (show (nI (5 * (60 * nV N + t)) : Int32) + nI f = nI (5 * (60 * nV N + t) + f) from nI_add (5 * (60 * nV N + t)) f) ?_
        refine hg_iload_n C 4 d_Rf_take_81 rfl rfl ?_
        refine hg_if_eq C 92 d_Rf_take_82 (by decide) (fun _ => ?_) (fun z => absurd c40 z)
        refine hg_aload_n C 5 d_Rf_take_92 rfl rfl ?_
        refine f_Rf_27 C R3.1 rfl d_Rf_take_93 ?_
        refine hg_iconst (v := 5) C d_Rf_take_96 (by decide) ?_
        refine hg_aload_n C 5 d_Rf_take_97 rfl rfl ?_
        refine hg_iload_n C 3 d_Rf_take_98 rfl rfl ?_
        refine hg_VNv (q := ("ModelMergeModel", T_Rf, 31)) C (k_Rf_mine l Γ _ r aa M2 R3 (((show agv M2 N by rw [eM2]; exact agv.set6 hAv (by omega))).inv hN) t (by omega)) (cw_Rf_133 C.2.2.2.2.1 rfl rfl ⟨Nat.le_of_ble_eq_true rfl, Nat.le_of_ble_eq_true rfl⟩) R3.1 rfl rfl rfl (Nat.le_of_ble_eq_true rfl) d_Rf_take_99 ⟨Nat.le_of_ble_eq_true rfl, Nat.le_of_ble_eq_true rfl⟩ (fun _ => ?_)
        refine hg_ti (show nI (60 * (nV M2 - 1) + t) = nI (60 * (nV N - 1) + t) by rw [(show agv M2 N by rw [eM2]; exact agv.set6 hAv (by omega)).1.V]) ?_
        refine hg_imul C d_Rf_take_102 ?_
        refine hg_ti (show ((5 : Int32) : Int32) * nI (60 * (nV N - 1) + t) = nI (5 * (60 * (nV N - 1) + t)) from pk_mul 5 (60 * (nV N - 1) + t)) ?_
        refine hg_iload C 0 d_Rf_take_103 rfl ?_
        refine hg_iadd C d_Rf_take_105 ?_
        refine hg_ti (show (nI (5 * (60 * (nV N - 1) + t)) : Int32) + nI f = nI (5 * (60 * (nV N - 1) + t) + f) from nI_add (5 * (60 * (nV N - 1) + t)) f) ?_
        have b106 : 5 * (60 * (nV N - 1) + t) + f < 12000 := (by omega)
        refine hg_iald C 0 (R3.2.1 7 rfl) rfl (vp_in_nI (N := 12000) b106 (by omega)) d_Rf_take_106 ?_
        refine hg_ti (congrArg (M2 7) (nI_clamp (n := 5 * (60 * (nV N - 1) + t) + f) (by omega))) ?_
        refine hg_ti (show M2 7 (5 * (60 * (nV N - 1) + t) + f) = K 7 (5 * (60 * (nV N - 1) + t) + f) by rw [eM2, mset_n (by decide)]) ?_
        refine hg_ti (show K 7 (5 * (60 * (nV N - 1) + t) + f) = N 7 (5 * (60 * (nV N - 1) + t) + f) from hA.2.2.2 (5 * (60 * (nV N - 1) + t) + f) (by omega)) ?_
        have b107 : 5 * (60 * nV N + t) + f < 12000 := (by omega)
        refine hg_iast C 0 (R3.2.1 7 rfl) rfl (vp_in_nI (N := 12000) b107 (by omega)) d_Rf_take_107 ?_
        obtain ⟨h4, eh4⟩ : ∃ z, z = hp_up h1 (aa 7) (.inl (Γ.2.1 0, 12000, .inl (upd (M2 7) (nI (5 * (60 * nV N + t) + f) : Int32).toNatClampNeg (N 7 (5 * (60 * (nV N - 1) + t) + f))))) := ⟨_, rfl⟩
        refine hg_eq eh4.symm ?_
        have R6 : rf_at Γ r aa (mset M2 7 (5 * (60 * nV N + t) + f) (N 7 (5 * (60 * (nV N - 1) + t) + f))) h4 := by rw [eh4]; rw [nI_clamp (n := 5 * (60 * nV N + t) + f) (by omega)]; exact rf_put R3 7 (5 * (60 * nV N + t) + f) (N 7 (5 * (60 * (nV N - 1) + t) + f)) rfl
        obtain ⟨M5, eM5⟩ : ∃ z, z = mset M2 7 (5 * (60 * nV N + t) + f) (N 7 (5 * (60 * (nV N - 1) + t) + f)) := ⟨_, rfl⟩
        rw [← eM5] at R6
        refine hg_iinc (v := nI (f + 1)) (lv' := [(5, .int (nI (f + 1))), (4, .int (nI (60 * nV N + t))), (1, .int (nI s)), (2, .int (nI t)), (3, .int z), (0, .ref r)]) C 0 d_Rf_take_108 rfl (nI_1 f) (by decide) rfl ?_
        refine hg_goto C 22 d_Rf_take_111 (by decide) ?_
        refine hg_lv (ks := [0, 1, 2, 3, 4, 5]) rfl (ih (f + 1) _ (by omega) (by omega) ?_)
        rw [m_wr, show tk_x N s t Pz f = x_my N t f from if_neg (flag_0 hz c40), show tk_y N t Pz f = x_sn N t f from if_neg (flag_0 hz c40), ← eK]
        rw [eM5, eM2] at R6
        exact R6
      · refine hg_aload_n C 5 d_Rf_take_43 rfl rfl ?_
        refine hg_iload_n C 2 d_Rf_take_44 rfl rfl ?_
        refine hg_iload_n C 3 d_Rf_take_45 rfl rfl ?_
        refine hg_iload C 0 d_Rf_take_46 rfl ?_
        have qS48 := hA.S
        refine hg_VNv (q := ("ModelMergeModel", T_Rf, 31)) C (k_Rf_here1 l Γ _ r aa K hR (hK) s t (by omega) (by omega) f (by omega) ((hA).zer hN hZ)) (cw_Rf_137 C.2.2.2.2.1 rfl rfl ⟨Nat.le_of_ble_eq_true rfl, Nat.le_of_ble_eq_true rfl⟩) hR.1 rfl rfl rfl (Nat.le_of_ble_eq_true rfl) d_Rf_take_48 ⟨Nat.le_of_ble_eq_true rfl, Nat.le_of_ble_eq_true rfl⟩ (fun _ => ?_)
        refine hg_ti (hA.qhr gb (by omega) (by omega)) ?_
        refine hg_goto C 69 d_Rf_take_51 (by decide) ?_
        have b69 : 5 * (60 * nV N + t) + f < 12000 := (by omega)
        refine hg_iast C 0 (hR.2.1 6 rfl) rfl (vp_in_nI (N := 12000) b69 (by omega)) d_Rf_take_69 ?_
        obtain ⟨h7, eh7⟩ : ∃ z, z = hp_up h (aa 6) (.inl (Γ.2.1 0, 12000, .inl (upd (K 6) (nI (5 * (60 * nV N + t) + f) : Int32).toNatClampNeg (stv N s (sd N s) t (f + 1))))) := ⟨_, rfl⟩
        refine hg_eq eh7.symm ?_
        have R9 : rf_at Γ r aa (mset K 6 (5 * (60 * nV N + t) + f) (stv N s (sd N s) t (f + 1))) h7 := by rw [eh7]; rw [nI_clamp (n := 5 * (60 * nV N + t) + f) (by omega)]; exact rf_put hR 6 (5 * (60 * nV N + t) + f) (stv N s (sd N s) t (f + 1)) rfl
        obtain ⟨M8, eM8⟩ : ∃ z, z = mset K 6 (5 * (60 * nV N + t) + f) (stv N s (sd N s) t (f + 1)) := ⟨_, rfl⟩
        rw [← eM8] at R9
        refine hg_aload_n C 5 d_Rf_take_70 rfl rfl ?_
        refine f_Rf_27 C R9.1 rfl d_Rf_take_71 ?_
        refine hg_iconst (v := 5) C d_Rf_take_74 (by decide) ?_
        refine hg_iload C 1 d_Rf_take_75 rfl ?_
        refine hg_imul C d_Rf_take_77 ?_
        refine hg_ti (show ((5 : Int32) : Int32) * nI (60 * nV N + t) = nI (5 * (60 * nV N + t)) from pk_mul 5 (60 * nV N + t)) ?_
        refine hg_iload C 0 d_Rf_take_78 rfl ?_
        refine hg_iadd C d_Rf_take_80 ?_
        refine hg_ti (show (nI (5 * (60 * nV N + t)) : Int32) + nI f = nI (5 * (60 * nV N + t) + f) from nI_add (5 * (60 * nV N + t)) f) ?_
        refine hg_iload_n C 4 d_Rf_take_81 rfl rfl ?_
        refine hg_if_eq C 92 d_Rf_take_82 (by decide) (fun z => absurd z c40) (fun _ => ?_)
        refine hg_aload_n C 5 d_Rf_take_85 rfl rfl ?_
        refine f_Rf_16 C R9.1 rfl d_Rf_take_86 ?_
        refine hg_ti (show M8 4 0 = K 4 0 by rw [eM8, mset_n (by decide)]) ?_
        refine hg_ti (show K 4 0 = N 4 0 from congrFun (hA.1 4 (by decide) (by decide)) 0) ?_
        refine hg_ti fV ?_
        refine hg_goto C 107 d_Rf_take_89 (by decide) ?_
        have b107 : 5 * (60 * nV N + t) + f < 12000 := (by omega)
        refine hg_iast C 0 (R9.2.1 7 rfl) rfl (vp_in_nI (N := 12000) b107 (by omega)) d_Rf_take_107 ?_
        obtain ⟨h10, eh10⟩ : ∃ z, z = hp_up h7 (aa 7) (.inl (Γ.2.1 0, 12000, .inl (upd (M8 7) (nI (5 * (60 * nV N + t) + f) : Int32).toNatClampNeg (nI (nV N))))) := ⟨_, rfl⟩
        refine hg_eq eh10.symm ?_
        have R12 : rf_at Γ r aa (mset M8 7 (5 * (60 * nV N + t) + f) (nI (nV N))) h10 := by rw [eh10]; rw [nI_clamp (n := 5 * (60 * nV N + t) + f) (by omega)]; exact rf_put R9 7 (5 * (60 * nV N + t) + f) (nI (nV N)) rfl
        obtain ⟨M11, eM11⟩ : ∃ z, z = mset M8 7 (5 * (60 * nV N + t) + f) (nI (nV N)) := ⟨_, rfl⟩
        rw [← eM11] at R12
        refine hg_iinc (v := nI (f + 1)) (lv' := [(5, .int (nI (f + 1))), (4, .int (nI (60 * nV N + t))), (1, .int (nI s)), (2, .int (nI t)), (3, .int z), (0, .ref r)]) C 0 d_Rf_take_108 rfl (nI_1 f) (by decide) rfl ?_
        refine hg_goto C 22 d_Rf_take_111 (by decide) ?_
        refine hg_lv (ks := [0, 1, 2, 3, 4, 5]) rfl (ih (f + 1) _ (by omega) (by omega) ?_)
        rw [m_wr, show tk_x N s t Pz f = x_th N s t f from if_pos (flag_1 hz c40), show tk_y N t Pz f = nI (nV N) from if_pos (flag_1 hz c40), ← eK]
        rw [eM11, eM8] at R12
        exact R12
set_option maxHeartbeats 4000000 in
set_option maxRecDepth 100000 in
theorem k_Rf_take (l : Launch) (Γ : Gam) (h : Pic) (r : Nat) (aa : Nat → Nat) (M : Mem) (hR : rf_at Γ r aa M h) (N : Mem) (hN : Inv0 N) (hZ : I_zer N) (h40 : nV N < 40) (s t : Nat) (hs : s < nS N) (htt : t < nT N) (hAv : agv M N) (z : Int32) (Pz : Prop) (hz : flag z Pz) : kN l Γ y_Rf_take w_Rf_take rm_Rf_take [.ref r, .int (nI s), .int (nI t), .int z] h (fun q u => q = none ∧ rf_at Γ r aa (m_take N s t Pz M) u) 0 0 := by
  refine hg_entryN (own := "ModelMergeModel") (cc := b_Rf_take) (maxL := 6) (ret := none) (lv0 := [(0, .ref r), (1, .int (nI s)), (2, .int (nI t)), (3, .int z)]) (by decide) rfl rfl (Nat.le_of_ble_eq_true rfl) rfl ?_
  intro p9 e9 s9 m9 args below meth c9 A C hnm hr
  have hA := hAv.1
  have qV := hA.V
  obtain ⟨⟨⟨fT, gT⟩, ⟨fV, gV1, gV⟩, ⟨fS, gS⟩, ⟨fR, gR⟩, ⟨fC, gC⟩⟩, hN2, -⟩ := id hN
  obtain ⟨⟨f11, gb⟩, ⟨f12, gsd⟩, ⟨f13, gnm⟩, glf⟩ := hN2 s hs
  refine hg_bipush (v := 60) C d_Rf_take_0 (by decide) ?_
  refine hg_aload_n C 0 d_Rf_take_2 rfl rfl ?_
  refine f_Rf_16 C hR.1 rfl d_Rf_take_3 ?_
  refine hg_ti (show M 4 0 = N 4 0 from congrFun (hA.1 4 (by decide) (by decide)) 0) ?_
  refine hg_ti fV ?_
  refine hg_imul C d_Rf_take_6 ?_
  refine hg_ti (show ((60 : Int32) : Int32) * nI (nV N) = nI (60 * nV N) from pk_mul 60 (nV N)) ?_
  refine hg_iload_n C 2 d_Rf_take_7 rfl rfl ?_
  refine hg_iadd C d_Rf_take_8 ?_
  refine hg_ti (show (nI (60 * nV N) : Int32) + nI t = nI (60 * nV N + t) from nI_add (60 * nV N) t) ?_
  refine hg_istore (lv' := [(4, .int (nI (60 * nV N + t))), (0, .ref r), (1, .int (nI s)), (2, .int (nI t)), (3, .int z)]) C d_Rf_take_9 (by decide) rfl ?_
  refine hg_aload_n C 1 d_Rf_take_11 rfl rfl ?_
  refine f_Rf_20 C hR.1 rfl d_Rf_take_12 ?_
  refine hg_iload C 0 d_Rf_take_15 rfl ?_
  refine hg_iconst (v := 1) C d_Rf_take_17 (by decide) ?_
  have b18 : 60 * nV N + t < 2400 := (by omega)
  refine hg_zast C 2 (hR.2.1 5 rfl) rfl (vp_in_nI (N := 2400) b18 (by omega)) d_Rf_take_18 ?_
  obtain ⟨h1, eh1⟩ : ∃ z, z = hp_up h (aa 5) (.inl (Γ.2.1 2, 2400, .inl (upd (M 5) (nI (60 * nV N + t) : Int32).toNatClampNeg (vp_nar .boolean 1)))) := ⟨_, rfl⟩
  refine hg_eq eh1.symm ?_
  have R3 : rf_at Γ r aa (mset M 5 (60 * nV N + t) 1) h1 := by rw [eh1]; rw [nI_clamp (n := 60 * nV N + t) (by omega)]; rw [show vp_nar .boolean 1 = 1 from rfl]; exact rf_put hR 5 (60 * nV N + t) 1 rfl
  obtain ⟨M2, eM2⟩ : ∃ z, z = mset M 5 (60 * nV N + t) 1 := ⟨_, rfl⟩
  rw [← eM2] at R3
  refine hg_iconst (v := 0) C d_Rf_take_19 (by decide) ?_
  refine hg_istore (lv' := [(5, .int 0), (4, .int (nI (60 * nV N + t))), (0, .ref r), (1, .int (nI s)), (2, .int (nI t)), (3, .int z)]) C d_Rf_take_20 (by decide) rfl ?_
  rw [eM2] at R3
  exact hg_lv (ks := [0, 1, 3, 4, 5, 2]) rfl (lp_Rf_take l Γ C hN hZ h40 hs htt (hAv.set5 (by omega)) hz hr 6 0 _ (by omega) (by omega) R3)
