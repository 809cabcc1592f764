/-! THE REFERENCE, eighth part: take, merge, finish, join, settle -/
/-- K is N but for the version to come -/
def agv (K N : Mem) : Prop := agr K N ∧ ∀ j, 27 ≤ j → K j = N j
theorem agv_rf {N : Mem} : agv N N := ⟨agr_rf, fun _ _ => rfl⟩
theorem agv.C {K N : Mem} (h : agv K N) : nC K = nC N := by unfold nC; rw [h.2 27 (by omega)]
theorem agv.inv {K N : Mem} (h : agv K N) (hN : Inv0 N) : Inv0 K := by
  refine h.1.inv hN ⟨?_, ?_⟩ ?_
  · rw [h.C, h.2 27 (by omega)]; exact hN.1.2.2.2.2.1
  · rw [h.C]; exact hN.1.2.2.2.2.2
  · intro k hk
    rw [h.C] at hk
    rw [h.1.T, h.2 28 (by omega), h.2 29 (by omega), h.2 30 (by omega)]
    exact hN.2.2.2.2.2.2.1 k hk
theorem agv.sd_ {K N : Mem} (h : agv K N) (t f : Int32) : ∀ n, c_sd K t f n = c_sd N t f n
  | 0 => rfl
  | n + 1 => by
    unfold c_sd
    rw [h.2 28 (by omega), h.2 29 (by omega), h.2 30 (by omega), h.sd_ t f n]
theorem agv.set5 {K N : Mem} (h : agv K N) {i : Nat} {v : Int32} (hi : 60 * nV N ≤ i) : agv (mset K 5 i v) N :=
  ⟨⟨fun j h1 h2 => by rw [mset_n (fun z => h2 (by rw [z]; decide))]; exact h.1.1 j h1 h2, fun k hk => by rw [mset_s, pk_un (by omega)]; exact h.1.2.1 k hk, fun k hk => by rw [mset_n (by decide)]; exact h.1.2.2.1 k hk, fun k hk => by rw [mset_n (by decide)]; exact h.1.2.2.2 k hk⟩, fun j hj => by rw [mset_n (by omega)]; exact h.2 j hj⟩
theorem agv.set6 {K N : Mem} (h : agv K N) {i : Nat} {v : Int32} (hi : 300 * nV N ≤ i) : agv (mset K 6 i v) N :=
  ⟨⟨fun j h1 h2 => by rw [mset_n (fun z => h2 (by rw [z]; decide))]; exact h.1.1 j h1 h2, fun k hk => by rw [mset_n (by decide)]; exact h.1.2.1 k hk, fun k hk => by rw [mset_s, pk_un (by omega)]; exact h.1.2.2.1 k hk, fun k hk => by rw [mset_n (by decide)]; exact h.1.2.2.2 k hk⟩, fun j hj => by rw [mset_n (by omega)]; exact h.2 j hj⟩
theorem agv.set7 {K N : Mem} (h : agv K N) {i : Nat} {v : Int32} (hi : 300 * nV N ≤ i) : agv (mset K 7 i v) N :=
  ⟨⟨fun j h1 h2 => by rw [mset_n (fun z => h2 (by rw [z]; decide))]; exact h.1.1 j h1 h2, fun k hk => by rw [mset_n (by decide)]; exact h.1.2.1 k hk, fun k hk => by rw [mset_n (by decide)]; exact h.1.2.2.1 k hk, fun k hk => by rw [mset_s, pk_un (by omega)]; exact h.1.2.2.2 k hk⟩, fun j hj => by rw [mset_n (by omega)]; exact h.2 j hj⟩
def m_wr (K : Mem) (i : Nat) (x y : Nat → Int32) : Nat → Mem
  | 0 => K
  | f + 1 => mset (mset (m_wr K i x y f) 6 (5 * i + f) (x f)) 7 (5 * i + f) (y f)
theorem agv.wr {K N : Mem} (h : agv K N) {i : Nat} {x y : Nat → Int32} (hi : 60 * nV N ≤ i) : ∀ f, agv (m_wr K i x y f) N
  | 0 => h
  | f + 1 => ((h.wr hi f).set6 (by omega)).set7 (by omega)
def x_sn (N : Mem) (t f : Nat) : Int32 := N 7 (5 * (60 * (nV N - 1) + t) + f)
noncomputable def tk_x (N : Mem) (s t : Nat) (P : Prop) (f : Nat) : Int32 := @ite _ P (Classical.propDecidable _) (x_th N s t f) (x_my N t f)
noncomputable def tk_y (N : Mem) (t : Nat) (P : Prop) (f : Nat) : Int32 := @ite _ P (Classical.propDecidable _) (nI (nV N)) (x_sn N t f)
noncomputable def m_take (N : Mem) (s t : Nat) (P : Prop) (K : Mem) : Mem := m_wr (mset K 5 (60 * nV N + t) 1) (60 * nV N + t) (tk_x N s t P) (tk_y N t P) 5
def w_sd (N : Mem) (t : Nat) : Int32 := c_sd N (nI t) (-1) (nC N)
def f_sd (N : Mem) (t f : Nat) : Int32 := c_sd N (nI t) (nI f) (nC N)
/-- the field is taken from theirs -/
def j_tk (N : Mem) (s t f : Nat) : Prop := (f_sd N t f < 0 ∧ ¬ x_th N s t f = x_old N s t f) ∨ (¬ f_sd N t f < 0 ∧ f_sd N t f = 1)
noncomputable def j_x (N : Mem) (s t f : Nat) : Int32 := @ite _ (j_tk N s t f) (Classical.propDecidable _) (x_th N s t f) (x_my N t f)
noncomputable def j_y (N : Mem) (s t f : Nat) : Int32 := @ite _ (j_tk N s t f ∧ ¬ x_th N s t f = x_my N t f) (Classical.propDecidable _) (nI (nV N)) (x_sn N t f)
/-- the thing is taken as a whole from theirs (or from mine), where it isn't there in both -/
def j_wt (N : Mem) (s t : Nat) : Prop := (¬ h_b N s t = 0 ∧ w_sd N t = 1) ∨ (h_b N s t = 0 ∧ ¬ h_t N s t = 0)
def j_st (N : Mem) (s t : Nat) : Prop := (h_b N s t = 0 ∨ ¬ w_sd N t < 0) ∧ ((j_wt N s t ∧ ¬ h_t N s t = 0) ∨ (¬ j_wt N s t ∧ ¬ h_m N t = 0))
noncomputable def m_merge (N : Mem) (s t : Nat) (K : Mem) : Mem := @ite _ (¬ h_m N t = 0 ∧ ¬ h_t N s t = 0) (Classical.propDecidable _) (m_wr (mset (mset K 5 (60 * nV N + t) 0) 5 (60 * nV N + t) 1) (60 * nV N + t) (j_x N s t) (j_y N s t) 5) (@ite _ (j_st N s t) (Classical.propDecidable _) (m_take N s t (j_wt N s t) (mset K 5 (60 * nV N + t) 0)) (mset K 5 (60 * nV N + t) 0))
abbrev rm_Rf_take : Room := { frames := 2, cells := 0, slots := 0, locals := 49 }
set_option maxHeartbeats 4000000 in
set_option maxRecDepth 100000 in
theorem lp_Rf_take (l : Launch) (Γ : Gam) {p : Program} {e : Env} {s9 : State} {m : MethodId} {args : Array Value} {below : List Frame} {meth : Method} {c : Code} {A : Nat → Prop} (C : hp_C p s9 m args meth c b_Rf_take 6 "ModelMergeModel" w_Rf_take Γ.1 kcl (ktys Γ.2.1) (ksts Γ.2.2) knws A) {r : Nat} {aa : Nat → Nat} {N : Mem} (hN : Inv0 N) (hZ : I_zer N) (h40 : nV N < 40) {s t : Nat} (hs : s < nS N) (htt : t < nT N) {K0 : Mem} (hA0 : agv K0 N) {z : Int32} {Pz : Prop} (hz : flag z Pz) (hr : meth.sig.returnType = none)  :
    ∀ (n9 : Nat) (f : Nat) (h : Pic), (f ≤ 5) → (5 + 1 ≤ f + n9) → (rf_at Γ r aa (m_wr K0 (60 * nV N + t) (tk_x N s t Pz) (tk_y N t Pz) f) h) → hp_G p l e rm_Rf_take s9 m args below meth c Γ.1 kcl A 6 (hp_NQ below Γ.1 kcl A (fun q u => q = none ∧ rf_at Γ r aa (m_wr K0 (60 * nV N + t) (tk_x N s t Pz) (tk_y N t Pz) 5) u) args s9 0 0) 0 0 22 [(5, .int (nI f)), (4, .int (nI (60 * nV N + t))), (1, .int (nI s)), (2, .int (nI t)), (3, .int z), (0, .ref r)] [] h := by
  intro n9
  induction n9 with
  | zero =>
    intro f h hf hm hR
    exact absurd hm (by omega)
  | succ n9 ih =>
    intro f h hf hm hR
    have hAv := hA0.wr (i := 60 * nV N + t) (x := tk_x N s t Pz) (y := tk_y N t Pz) (by omega) f
    obtain ⟨K, eK⟩ : ∃ z, z = m_wr K0 (60 * nV N + t) (tk_x N s t Pz) (tk_y N t Pz) f := ⟨_, rfl⟩
    rw [← eK] at hR hAv
    have hA := hAv.1
    have hK := hAv.inv hN
    have hZK := hA.zer hN hZ
    have qS := hA.S
    have qT := hA.T
    have qV := hA.V
    have qC := hAv.C
    obtain ⟨⟨⟨fT, gT⟩, ⟨fV, gV1, gV⟩, ⟨fS, gS⟩, ⟨fR, gR⟩, ⟨fC, gC⟩⟩, hN2, -⟩ := id hN
    obtain ⟨⟨f11, gb⟩, ⟨f12, gsd⟩, ⟨f13, gnm⟩, glf⟩ := hN2 s hs
    refine hg_iload C 0 d_Rf_take_22 rfl ?_
    refine hg_iconst (v := 5) C d_Rf_take_24 (by decide) ?_
    refine hg_icmp_ge C 114 d_Rf_take_25 (by decide) (fun c25 => ?_) (fun c25 => ?_)
    · have c25n : 5 ≤ f := (nI_leI (a := 5) (b := f) (by omega) (by omega)).mp c25
      exact hg_vretN C hr d_Rf_take_114 (Nat.le_of_ble_eq_true rfl) (Nat.le_of_ble_eq_true rfl) (⟨rfl, by rw [show (5 : Nat) = f by omega, ← eK]; exact hR⟩)
    · have c25n : ¬ 5 ≤ f := fun z => c25 (nI_le (a := 5) (b := f) z (by omega))
      refine hg_aload_n C 5 d_Rf_take_28 rfl rfl ?_
      refine f_Rf_24 C hR.1 rfl d_Rf_take_29 ?_
      refine hg_iconst (v := 5) C d_Rf_take_32 (by decide) ?_
      refine hg_iload C 1 d_Rf_take_33 rfl ?_
      refine hg_imul C d_Rf_take_35 ?_
      refine hg_ti (show ((5 : Int32) : Int32) * nI (60 * nV N + t) = nI (5 * (60 * nV N + t)) from pk_mul 5 (60 * nV N + t)) ?_
      refine hg_iload C 0 d_Rf_take_36 rfl ?_
      refine hg_iadd C d_Rf_take_38 ?_
      refine hg_ti (show (nI (5 * (60 * nV N + t)) : Int32) + nI f = nI (5 * (60 * nV N + t) + f) from nI_add (5 * (60 * nV N + t)) f) ?_
      refine hg_iload_n C 4 d_Rf_take_39 rfl rfl ?_
      refine hg_if_eq C 54 d_Rf_take_40 (by decide) (fun c40 => ?_) (fun c40 => ?_)
      · refine hg_aload_n C 5 d_Rf_take_54 rfl rfl ?_
        refine f_Rf_24 C hR.1 rfl d_Rf_take_55 ?_
        refine hg_iconst (v := 5) C d_Rf_take_58 (by decide) ?_
        refine hg_aload_n C 5 d_Rf_take_59 rfl rfl ?_
        refine hg_iload_n C 3 d_Rf_take_60 rfl rfl ?_
        refine hg_VNv (q := ("ModelMergeModel", T_Rf, 31)) C (k_Rf_mine l Γ _ r aa K hR (hK) t (by omega)) (cw_Rf_133 C.2.2.2.2.1 rfl rfl ⟨Nat.le_of_ble_eq_true rfl, Nat.le_of_ble_eq_true rfl⟩) hR.1 rfl rfl rfl (Nat.le_of_ble_eq_true rfl) d_Rf_take_61 ⟨Nat.le_of_ble_eq_true rfl, Nat.le_of_ble_eq_true rfl⟩ (fun _ => ?_)
        refine hg_ti (show nI (60 * (nV K - 1) + t) = nI (60 * (nV N - 1) + t) by rw [hA.V]) ?_
        refine hg_imul C d_Rf_take_64 ?_
        refine hg_ti (show ((5 : Int32) : Int32) * nI (60 * (nV N - 1) + t) = nI (5 * (60 * (nV N - 1) + t)) from pk_mul 5 (60 * (nV N - 1) + t)) ?_
        refine hg_iload C 0 d_Rf_take_65 rfl ?_
        refine hg_iadd C d_Rf_take_67 ?_
        refine hg_ti (show (nI (5 * (60 * (nV N - 1) + t)) : Int32) + nI f = nI (5 * (60 * (nV N - 1) + t) + f) from nI_add (5 * (60 * (nV N - 1) + t)) f) ?_
        have b68 : 5 * (60 * (nV N - 1) + t) + f < 12000 := (by omega)
        refine hg_iald C 0 (hR.2.1 6 rfl) rfl (vp_in_nI (N := 12000) b68 (by omega)) d_Rf_take_68 ?_
        refine hg_ti (congrArg (K 6) (nI_clamp (n := 5 * (60 * (nV N - 1) + t) + f) (by omega))) ?_
        refine hg_ti (show K 6 (5 * (60 * (nV N - 1) + t) + f) = N 6 (5 * (60 * (nV N - 1) + t) + f) from hA.2.2.1 (5 * (60 * (nV N - 1) + t) + f) (by omega)) ?_
        have b69 : 5 * (60 * nV N + t) + f < 12000 := (by omega)
        refine hg_iast C 0 (hR.2.1 6 rfl) rfl (vp_in_nI (N := 12000) b69 (by omega)) d_Rf_take_69 ?_
        obtain ⟨h1, eh1⟩ : ∃ z, z = hp_up h (aa 6) (.inl (Γ.2.1 0, 12000, .inl (upd (K 6) (nI (5 * (60 * nV N + t) + f) : Int32).toNatClampNeg (N 6 (5 * (60 * (nV N - 1) + t) + f))))) := ⟨_, rfl⟩
        refine hg_eq eh1.symm ?_
        have R3 : rf_at Γ r aa (mset K 6 (5 * (60 * nV N + t) + f) (N 6 (5 * (60 * (nV N - 1) + t) + f))) h1 := by rw [eh1]; rw [nI_clamp (n := 5 * (60 * nV N + t) + f) (by omega)]; exact rf_put hR 6 (5 * (60 * nV N + t) + f) (N 6 (5 * (60 * (nV N - 1) + t) + f)) rfl
        obtain ⟨M2, eM2⟩ : ∃ z, z = mset K 6 (5 * (60 * nV N + t) + f) (N 6 (5 * (60 * (nV N - 1) + t) + f)) := ⟨_, rfl⟩
        rw [← eM2] at R3
        refine hg_aload_n C 5 d_Rf_take_70 rfl rfl ?_
        refine f_Rf_27 C R3.1 rfl d_Rf_take_71 ?_
        refine hg_iconst (v := 5) C d_Rf_take_74 (by decide) ?_
        refine hg_iload C 1 d_Rf_take_75 rfl ?_
        refine hg_imul C d_Rf_take_77 ?_
        refine hg_ti (show ((5 : Int32) : Int32) * nI (60 * nV N + t) = nI (5 * (60 * nV N + t)) from pk_mul 5 (60 * nV N + t)) ?_
        refine hg_iload C 0 d_Rf_take_78 rfl ?_
        refine hg_iadd C d_Rf_take_80 ?_
        refine hg_ti (show (nI (5 * (60 * nV N + t)) : Int32) + nI f = nI (5 * (60 * nV N + t) + f) from nI_add (5 * (60 * nV N + t)) f) ?_
        refine hg_iload_n C 4 d_Rf_take_81 rfl rfl ?_
        refine hg_if_eq C 92 d_Rf_take_82 (by decide) (fun _ => ?_) (fun z => absurd c40 z)
        refine hg_aload_n C 5 d_Rf_take_92 rfl rfl ?_
        refine f_Rf_27 C R3.1 rfl d_Rf_take_93 ?_
        refine hg_iconst (v := 5) C d_Rf_take_96 (by decide) ?_
        refine hg_aload_n C 5 d_Rf_take_97 rfl rfl ?_
        refine hg_iload_n C 3 d_Rf_take_98 rfl rfl ?_
        refine hg_VNv (q := ("ModelMergeModel", T_Rf, 31)) C (k_Rf_mine l Γ _ r aa M2 R3 (((show agv M2 N by rw [eM2]; exact agv.set6 hAv (by omega))).inv hN) t (by omega)) (cw_Rf_133 C.2.2.2.2.1 rfl rfl ⟨Nat.le_of_ble_eq_true rfl, Nat.le_of_ble_eq_true rfl⟩) R3.1 rfl rfl rfl (Nat.le_of_ble_eq_true rfl) d_Rf_take_99 ⟨Nat.le_of_ble_eq_true rfl, Nat.le_of_ble_eq_true rfl⟩ (fun _ => ?_)
        refine hg_ti (show nI (60 * (nV M2 - 1) + t) = nI (60 * (nV N - 1) + t) by rw [(show agv M2 N by rw [eM2]; exact agv.set6 hAv (by omega)).1.V]) ?_
        refine hg_imul C d_Rf_take_102 ?_
        refine hg_ti (show ((5 : Int32) : Int32) * nI (60 * (nV N - 1) + t) = nI (5 * (60 * (nV N - 1) + t)) from pk_mul 5 (60 * (nV N - 1) + t)) ?_
        refine hg_iload C 0 d_Rf_take_103 rfl ?_
        refine hg_iadd C d_Rf_take_105 ?_
        refine hg_ti (show (nI (5 * (60 * (nV N - 1) + t)) : Int32) + nI f = nI (5 * (60 * (nV N - 1) + t) + f) from nI_add (5 * (60 * (nV N - 1) + t)) f) ?_
        have b106 : 5 * (60 * (nV N - 1) + t) + f < 12000 := (by omega)
        refine hg_iald C 0 (R3.2.1 7 rfl) rfl (vp_in_nI (N := 12000) b106 (by omega)) d_Rf_take_106 ?_
        refine hg_ti (congrArg (M2 7) (nI_clamp (n := 5 * (60 * (nV N - 1) + t) + f) (by omega))) ?_
        refine hg_ti (show M2 7 (5 * (60 * (nV N - 1) + t) + f) = K 7 (5 * (60 * (nV N - 1) + t) + f) by rw [eM2, mset_n (by decide)]) ?_
        refine hg_ti (show K 7 (5 * (60 * (nV N - 1) + t) + f) = N 7 (5 * (60 * (nV N - 1) + t) + f) from hA.2.2.2 (5 * (60 * (nV N - 1) + t) + f) (by omega)) ?_
        have b107 : 5 * (60 * nV N + t) + f < 12000 := (by omega)
        refine hg_iast C 0 (R3.2.1 7 rfl) rfl (vp_in_nI (N := 12000) b107 (by omega)) d_Rf_take_107 ?_
        obtain ⟨h4, eh4⟩ : ∃ z, z = hp_up h1 (aa 7) (.inl (Γ.2.1 0, 12000, .inl (upd (M2 7) (nI (5 * (60 * nV N + t) + f) : Int32).toNatClampNeg (N 7 (5 * (60 * (nV N - 1) + t) + f))))) := ⟨_, rfl⟩
        refine hg_eq eh4.symm ?_
        have R6 : rf_at Γ r aa (mset M2 7 (5 * (60 * nV N + t) + f) (N 7 (5 * (60 * (nV N - 1) + t) + f))) h4 := by rw [eh4]; rw [nI_clamp (n := 5 * (60 * nV N + t) + f) (by omega)]; exact rf_put R3 7 (5 * (60 * nV N + t) + f) (N 7 (5 * (60 * (nV N - 1) + t) + f)) rfl
        obtain ⟨M5, eM5⟩ : ∃ z, z = mset M2 7 (5 * (60 * nV N + t) + f) (N 7 (5 * (60 * (nV N - 1) + t) + f)) := ⟨_, rfl⟩
        rw [← eM5] at R6
        refine hg_iinc (v := nI (f + 1)) (lv' := [(5, .int (nI (f + 1))), (4, .int (nI (60 * nV N + t))), (1, .int (nI s)), (2, .int (nI t)), (3, .int z), (0, .ref r)]) C 0 d_Rf_take_108 rfl (nI_1 f) (by decide) rfl ?_
        refine hg_goto C 22 d_Rf_take_111 (by decide) ?_
        refine hg_lv (ks := [0, 1, 2, 3, 4, 5]) rfl (ih (f + 1) _ (by omega) (by omega) ?_)
        rw [m_wr, show tk_x N s t Pz f = x_my N t f from if_neg (flag_0 hz c40), show tk_y N t Pz f = x_sn N t f from if_neg (flag_0 hz c40), ← eK]
        rw [eM5, eM2] at R6
        exact R6
      · refine hg_aload_n C 5 d_Rf_take_43 rfl rfl ?_
        refine hg_iload_n C 2 d_Rf_take_44 rfl rfl ?_
        refine hg_iload_n C 3 d_Rf_take_45 rfl rfl ?_
        refine hg_iload C 0 d_Rf_take_46 rfl ?_
        have qS48 := hA.S
        refine hg_VNv (q := ("ModelMergeModel", T_Rf, 31)) C (k_Rf_here1 l Γ _ r aa K hR (hK) s t (by omega) (by omega) f (by omega) ((hA).zer hN hZ)) (cw_Rf_137 C.2.2.2.2.1 rfl rfl ⟨Nat.le_of_ble_eq_true rfl, Nat.le_of_ble_eq_true rfl⟩) hR.1 rfl rfl rfl (Nat.le_of_ble_eq_true rfl) d_Rf_take_48 ⟨Nat.le_of_ble_eq_true rfl, Nat.le_of_ble_eq_true rfl⟩ (fun _ => ?_)
        refine hg_ti (hA.qhr gb (by omega) (by omega)) ?_
        refine hg_goto C 69 d_Rf_take_51 (by decide) ?_
        have b69 : 5 * (60 * nV N + t) + f < 12000 := (by omega)
        refine hg_iast C 0 (hR.2.1 6 rfl) rfl (vp_in_nI (N := 12000) b69 (by omega)) d_Rf_take_69 ?_
        obtain ⟨h7, eh7⟩ : ∃ z, z = hp_up h (aa 6) (.inl (Γ.2.1 0, 12000, .inl (upd (K 6) (nI (5 * (60 * nV N + t) + f) : Int32).toNatClampNeg (stv N s (sd N s) t (f + 1))))) := ⟨_, rfl⟩
        refine hg_eq eh7.symm ?_
        have R9 : rf_at Γ r aa (mset K 6 (5 * (60 * nV N + t) + f) (stv N s (sd N s) t (f + 1))) h7 := by rw [eh7]; rw [nI_clamp (n := 5 * (60 * nV N + t) + f) (by omega)]; exact rf_put hR 6 (5 * (60 * nV N + t) + f) (stv N s (sd N s) t (f + 1)) rfl
        obtain ⟨M8, eM8⟩ : ∃ z, z = mset K 6 (5 * (60 * nV N + t) + f) (stv N s (sd N s) t (f + 1)) := ⟨_, rfl⟩
        rw [← eM8] at R9
        refine hg_aload_n C 5 d_Rf_take_70 rfl rfl ?_
        refine f_Rf_27 C R9.1 rfl d_Rf_take_71 ?_
        refine hg_iconst (v := 5) C d_Rf_take_74 (by decide) ?_
        refine hg_iload C 1 d_Rf_take_75 rfl ?_
        refine hg_imul C d_Rf_take_77 ?_
        refine hg_ti (show ((5 : Int32) : Int32) * nI (60 * nV N + t) = nI (5 * (60 * nV N + t)) from pk_mul 5 (60 * nV N + t)) ?_
        refine hg_iload C 0 d_Rf_take_78 rfl ?_
        refine hg_iadd C d_Rf_take_80 ?_
        refine hg_ti (show (nI (5 * (60 * nV N + t)) : Int32) + nI f = nI (5 * (60 * nV N + t) + f) from nI_add (5 * (60 * nV N + t)) f) ?_
        refine hg_iload_n C 4 d_Rf_take_81 rfl rfl ?_
        refine hg_if_eq C 92 d_Rf_take_82 (by decide) (fun z => absurd z c40) (fun _ => ?_)
        refine hg_aload_n C 5 d_Rf_take_85 rfl rfl ?_
        refine f_Rf_16 C R9.1 rfl d_Rf_take_86 ?_
        refine hg_ti (show M8 4 0 = K 4 0 by rw [eM8, mset_n (by decide)]) ?_
        refine hg_ti (show K 4 0 = N 4 0 from congrFun (hA.1 4 (by decide) (by decide)) 0) ?_
        refine hg_ti fV ?_
        refine hg_goto C 107 d_Rf_take_89 (by decide) ?_
        have b107 : 5 * (60 * nV N + t) + f < 12000 := (by omega)
        refine hg_iast C 0 (R9.2.1 7 rfl) rfl (vp_in_nI (N := 12000) b107 (by omega)) d_Rf_take_107 ?_
        obtain ⟨h10, eh10⟩ : ∃ z, z = hp_up h7 (aa 7) (.inl (Γ.2.1 0, 12000, .inl (upd (M8 7) (nI (5 * (60 * nV N + t) + f) : Int32).toNatClampNeg (nI (nV N))))) := ⟨_, rfl⟩
        refine hg_eq eh10.symm ?_
        have R12 : rf_at Γ r aa (mset M8 7 (5 * (60 * nV N + t) + f) (nI (nV N))) h10 := by rw [eh10]; rw [nI_clamp (n := 5 * (60 * nV N + t) + f) (by omega)]; exact rf_put R9 7 (5 * (60 * nV N + t) + f) (nI (nV N)) rfl
        obtain ⟨M11, eM11⟩ : ∃ z, z = mset M8 7 (5 * (60 * nV N + t) + f) (nI (nV N)) := ⟨_, rfl⟩
        rw [← eM11] at R12
        refine hg_iinc (v := nI (f + 1)) (lv' := [(5, .int (nI (f + 1))), (4, .int (nI (60 * nV N + t))), (1, .int (nI s)), (2, .int (nI t)), (3, .int z), (0, .ref r)]) C 0 d_Rf_take_108 rfl (nI_1 f) (by decide) rfl ?_
        refine hg_goto C 22 d_Rf_take_111 (by decide) ?_
        refine hg_lv (ks := [0, 1, 2, 3, 4, 5]) rfl (ih (f + 1) _ (by omega) (by omega) ?_)
        rw [m_wr, show tk_x N s t Pz f = x_th N s t f from if_pos (flag_1 hz c40), show tk_y N t Pz f = nI (nV N) from if_pos (flag_1 hz c40), ← eK]
        rw [eM11, eM8] at R12
        exact R12
set_option maxHeartbeats 4000000 in
set_option maxRecDepth 100000 in
theorem k_Rf_take (l : Launch) (Γ : Gam) (h : Pic) (r : Nat) (aa : Nat → Nat) (M : Mem) (hR : rf_at Γ r aa M h) (N : Mem) (hN : Inv0 N) (hZ : I_zer N) (h40 : nV N < 40) (s t : Nat) (hs : s < nS N) (htt : t < nT N) (hAv : agv M N) (z : Int32) (Pz : Prop) (hz : flag z Pz) : kN l Γ y_Rf_take w_Rf_take rm_Rf_take [.ref r, .int (nI s), .int (nI t), .int z] h (fun q u => q = none ∧ rf_at Γ r aa (m_take N s t Pz M) u) 0 0 := by
  refine hg_entryN (own := "ModelMergeModel") (cc := b_Rf_take) (maxL := 6) (ret := none) (lv0 := [(0, .ref r), (1, .int (nI s)), (2, .int (nI t)), (3, .int z)]) (by decide) rfl rfl (Nat.le_of_ble_eq_true rfl) rfl ?_
  intro p9 e9 s9 m9 args below meth c9 A C hnm hr
  have hA := hAv.1
  have qV := hA.V
  obtain ⟨⟨⟨fT, gT⟩, ⟨fV, gV1, gV⟩, ⟨fS, gS⟩, ⟨fR, gR⟩, ⟨fC, gC⟩⟩, hN2, -⟩ := id hN
  obtain ⟨⟨f11, gb⟩, ⟨f12, gsd⟩, ⟨f13, gnm⟩, glf⟩ := hN2 s hs
  refine hg_bipush (v := 60) C d_Rf_take_0 (by decide) ?_
  refine hg_aload_n C 0 d_Rf_take_2 rfl rfl ?_
  refine f_Rf_16 C hR.1 rfl d_Rf_take_3 ?_
  refine hg_ti (show M 4 0 = N 4 0 from congrFun (hA.1 4 (by decide) (by decide)) 0) ?_
  refine hg_ti fV ?_
  refine hg_imul C d_Rf_take_6 ?_
  refine hg_ti (show ((60 : Int32) : Int32) * nI (nV N) = nI (60 * nV N) from pk_mul 60 (nV N)) ?_
  refine hg_iload_n C 2 d_Rf_take_7 rfl rfl ?_
  refine hg_iadd C d_Rf_take_8 ?_
  refine hg_ti (show (nI (60 * nV N) : Int32) + nI t = nI (60 * nV N + t) from nI_add (60 * nV N) t) ?_
  refine hg_istore (lv' := [(4, .int (nI (60 * nV N + t))), (0, .ref r), (1, .int (nI s)), (2, .int (nI t)), (3, .int z)]) C d_Rf_take_9 (by decide) rfl ?_
  refine hg_aload_n C 1 d_Rf_take_11 rfl rfl ?_
  refine f_Rf_20 C hR.1 rfl d_Rf_take_12 ?_
  refine hg_iload C 0 d_Rf_take_15 rfl ?_
  refine hg_iconst (v := 1) C d_Rf_take_17 (by decide) ?_
  have b18 : 60 * nV N + t < 2400 := (by omega)
  refine hg_zast C 2 (hR.2.1 5 rfl) rfl (vp_in_nI (N := 2400) b18 (by omega)) d_Rf_take_18 ?_
  obtain ⟨h1, eh1⟩ : ∃ z, z = hp_up h (aa 5) (.inl (Γ.2.1 2, 2400, .inl (upd (M 5) (nI (60 * nV N + t) : Int32).toNatClampNeg (vp_nar .boolean 1)))) := ⟨_, rfl⟩
  refine hg_eq eh1.symm ?_
  have R3 : rf_at Γ r aa (mset M 5 (60 * nV N + t) 1) h1 := by rw [eh1]; rw [nI_clamp (n := 60 * nV N + t) (by omega)]; rw [show vp_nar .boolean 1 = 1 from rfl]; exact rf_put hR 5 (60 * nV N + t) 1 rfl
  obtain ⟨M2, eM2⟩ : ∃ z, z = mset M 5 (60 * nV N + t) 1 := ⟨_, rfl⟩
  rw [← eM2] at R3
  refine hg_iconst (v := 0) C d_Rf_take_19 (by decide) ?_
  refine hg_istore (lv' := [(5, .int 0), (4, .int (nI (60 * nV N + t))), (0, .ref r), (1, .int (nI s)), (2, .int (nI t)), (3, .int z)]) C d_Rf_take_20 (by decide) rfl ?_
  rw [eM2] at R3
  exact hg_lv (ks := [0, 1, 3, 4, 5, 2]) rfl (lp_Rf_take l Γ C hN hZ h40 hs htt (hAv.set5 (by omega)) hz hr 6 0 _ (by omega) (by omega) R3)
abbrev rm_Rf_merge : Room := { frames := 3, cells := 0, slots := 0, locals := 74 }
set_option maxHeartbeats 4000000 in
set_option maxRecDepth 100000 in
theorem lp_Rf_merge (l : Launch) (Γ : Gam) {p : Program} {e : Env} {s9 : State} {m : MethodId} {args : Array Value} {below : List Frame} {meth : Method} {c : Code} {A : Nat → Prop} (C : hp_C p s9 m args meth c b_Rf_merge 12 "ModelMergeModel" w_Rf_merge Γ.1 kcl (ktys Γ.2.1) (ksts Γ.2.2) knws A) {r : Nat} {aa : Nat → Nat} {N : Mem} (hN : Inv0 N) (hZ : I_zer N) (h40 : nV N < 40) {s t : Nat} (hs : s < nS N) (htt : t < nT N) {K0 : Mem} (hA0 : agv K0 N) {zt zm : Int32} (hr : meth.sig.returnType = none)  :
    ∀ (n9 : Nat) (f : Nat) (h : Pic), (f ≤ 5) → (5 + 1 ≤ f + n9) → (rf_at Γ r aa (m_wr K0 (60 * nV N + t) (j_x N s t) (j_y N s t) f) h) → hp_G p l e rm_Rf_merge s9 m args below meth c Γ.1 kcl A 12 (hp_NQ below Γ.1 kcl A (fun q u => q = none ∧ rf_at Γ r aa (m_wr K0 (60 * nV N + t) (j_x N s t) (j_y N s t) 5) u) args s9 0 0) 0 0 160 [(7, .int (nI f)), (6, .int zt), (5, .int zm), (4, .int (nI (60 * nV N + t))), (3, .int (nI (60 * bs N s + t))), (1, .int (nI s)), (2, .int (nI t)), (0, .ref r)] [] h := by
  intro n9
  induction n9 with
  | zero =>
    intro f h hf hm hR
    exact absurd hm (by omega)
  | succ n9 ih =>
    intro f h hf hm hR
    have hAv := hA0.wr (i := 60 * nV N + t) (x := j_x N s t) (y := j_y N s t) (by omega) f
    obtain ⟨K, eK⟩ : ∃ z, z = m_wr K0 (60 * nV N + t) (j_x N s t) (j_y N s t) f := ⟨_, rfl⟩
    rw [← eK] at hR hAv
    have hA := hAv.1
    have hK := hAv.inv hN
    have hZK := hA.zer hN hZ
    have qS := hA.S
    have qT := hA.T
    have qV := hA.V
    have qC := hAv.C
    obtain ⟨⟨⟨fT, gT⟩, ⟨fV, gV1, gV⟩, ⟨fS, gS⟩, ⟨fR, gR⟩, ⟨fC, gC⟩⟩, hN2, -⟩ := id hN
    obtain ⟨⟨f11, gb⟩, ⟨f12, gsd⟩, ⟨f13, gnm⟩, glf⟩ := hN2 s hs
    refine hg_iload C 0 d_Rf_merge_160 rfl ?_
    refine hg_iconst (v := 5) C d_Rf_merge_162 (by decide) ?_
    refine hg_icmp_ge C 320 d_Rf_merge_163 (by decide) (fun c163 => ?_) (fun c163 => ?_)
    · have c163n : 5 ≤ f := (nI_leI (a := 5) (b := f) (by omega) (by omega)).mp c163
      exact hg_vretN C hr d_Rf_merge_320 (Nat.le_of_ble_eq_true rfl) (Nat.le_of_ble_eq_true rfl) (⟨rfl, by rw [show (5 : Nat) = f by omega, ← eK]; exact hR⟩)
    · have c163n : ¬ 5 ≤ f := fun z => c163 (nI_le (a := 5) (b := f) z (by omega))
      refine hg_aload_n C 7 d_Rf_merge_166 rfl rfl ?_
      refine hg_iload_n C 6 d_Rf_merge_167 rfl rfl ?_
      refine hg_iload C 0 d_Rf_merge_168 rfl ?_
      refine hg_VNv (q := ("ModelMergeModel", T_Rf, 31)) C (k_Rf_sideOf l Γ _ r aa K hR (hK) (nI t) (nI f)) (cw_Rf_144 C.2.2.2.2.1 rfl rfl ⟨Nat.le_of_ble_eq_true rfl, Nat.le_of_ble_eq_true rfl⟩) hR.1 rfl rfl rfl (Nat.le_of_ble_eq_true rfl) d_Rf_merge_170 ⟨Nat.le_of_ble_eq_true rfl, Nat.le_of_ble_eq_true rfl⟩ (fun _ => ?_)
      refine hg_ti (show c_sd K (nI t) (nI f) (nC K) = c_sd N (nI t) (nI f) (nC N) by rw [hAv.C, hAv.sd_]) ?_
      refine hg_istore (lv' := [(8, .int (c_sd N (nI t) (nI f) (nC N))), (7, .int (nI f)), (6, .int zt), (5, .int zm), (4, .int (nI (60 * nV N + t))), (3, .int (nI (60 * bs N s + t))), (1, .int (nI s)), (2, .int (nI t)), (0, .ref r)]) C d_Rf_merge_173 (by decide) rfl ?_
      refine hg_aload_n C 8 d_Rf_merge_175 rfl rfl ?_
      refine f_Rf_24 C hR.1 rfl d_Rf_merge_176 ?_
      refine hg_iconst (v := 5) C d_Rf_merge_179 (by decide) ?_
      refine hg_aload_n C 8 d_Rf_merge_180 rfl rfl ?_
      refine hg_iload_n C 7 d_Rf_merge_181 rfl rfl ?_
      refine hg_VNv (q := ("ModelMergeModel", T_Rf, 31)) C (k_Rf_mine l Γ _ r aa K hR (hK) t (by omega)) (cw_Rf_133 C.2.2.2.2.1 rfl rfl ⟨Nat.le_of_ble_eq_true rfl, Nat.le_of_ble_eq_true rfl⟩) hR.1 rfl rfl rfl (Nat.le_of_ble_eq_true rfl) d_Rf_merge_182 ⟨Nat.le_of_ble_eq_true rfl, Nat.le_of_ble_eq_true rfl⟩ (fun _ => ?_)
      refine hg_ti (show nI (60 * (nV K - 1) + t) = nI (60 * (nV N - 1) + t) by rw [hA.V]) ?_
      refine hg_imul C d_Rf_merge_185 ?_
      refine hg_ti (show ((5 : Int32) : Int32) * nI (60 * (nV N - 1) + t) = nI (5 * (60 * (nV N - 1) + t)) from pk_mul 5 (60 * (nV N - 1) + t)) ?_
      refine hg_iload C 1 d_Rf_merge_186 rfl ?_
      refine hg_iadd C d_Rf_merge_188 ?_
      refine hg_ti (show (nI (5 * (60 * (nV N - 1) + t)) : Int32) + nI f = nI (5 * (60 * (nV N - 1) + t) + f) from nI_add (5 * (60 * (nV N - 1) + t)) f) ?_
      have b189 : 5 * (60 * (nV N - 1) + t) + f < 12000 := (by omega)
      refine hg_iald C 0 (hR.2.1 6 rfl) rfl (vp_in_nI (N := 12000) b189 (by omega)) d_Rf_merge_189 ?_
      refine hg_ti (congrArg (K 6) (nI_clamp (n := 5 * (60 * (nV N - 1) + t) + f) (by omega))) ?_
      refine hg_ti (show K 6 (5 * (60 * (nV N - 1) + t) + f) = N 6 (5 * (60 * (nV N - 1) + t) + f) from hA.2.2.1 (5 * (60 * (nV N - 1) + t) + f) (by omega)) ?_
      refine hg_istore (lv' := [(9, .int (N 6 (5 * (60 * (nV N - 1) + t) + f))), (8, .int (c_sd N (nI t) (nI f) (nC N))), (7, .int (nI f)), (6, .int zt), (5, .int zm), (4, .int (nI (60 * nV N + t))), (3, .int (nI (60 * bs N s + t))), (1, .int (nI s)), (2, .int (nI t)), (0, .ref r)]) C d_Rf_merge_190 (by decide) rfl ?_
      refine hg_aload_n C 9 d_Rf_merge_192 rfl rfl ?_
      refine hg_iload_n C 7 d_Rf_merge_193 rfl rfl ?_
      refine hg_iload_n C 8 d_Rf_merge_194 rfl rfl ?_
      refine hg_iload C 2 d_Rf_merge_195 rfl ?_
      have qS197 := hA.S
      refine hg_VNv (q := ("ModelMergeModel", T_Rf, 31)) C (k_Rf_here1 l Γ _ r aa K hR (hK) s t (by omega) (by omega) f (by omega) ((hA).zer hN hZ)) (cw_Rf_137 C.2.2.2.2.1 rfl rfl ⟨Nat.le_of_ble_eq_true rfl, Nat.le_of_ble_eq_true rfl⟩) hR.1 rfl rfl rfl (Nat.le_of_ble_eq_true rfl) d_Rf_merge_197 ⟨Nat.le_of_ble_eq_true rfl, Nat.le_of_ble_eq_true rfl⟩ (fun _ => ?_)
      refine hg_ti (hA.qhr gb (by omega) (by omega)) ?_
      refine hg_istore (lv' := [(10, .int (stv N s (sd N s) t (f + 1))), (9, .int (N 6 (5 * (60 * (nV N - 1) + t) + f))), (8, .int (c_sd N (nI t) (nI f) (nC N))), (7, .int (nI f)), (6, .int zt), (5, .int zm), (4, .int (nI (60 * nV N + t))), (3, .int (nI (60 * bs N s + t))), (1, .int (nI s)), (2, .int (nI t)), (0, .ref r)]) C d_Rf_merge_200 (by decide) rfl ?_
      refine hg_iload C 2 d_Rf_merge_202 rfl ?_
      refine hg_if_ge C 231 d_Rf_merge_204 (by decide) (fun c204 => ?_) (fun c204 => ?_)
      · refine hg_iload C 2 d_Rf_merge_231 rfl ?_
        refine hg_iconst (v := 1) C d_Rf_merge_233 (by decide) ?_
        refine hg_icmp_ne C 241 d_Rf_merge_234 (by decide) (fun c234 => ?_) (fun c234 => ?_)
        · refine hg_iconst (v := 0) C d_Rf_merge_241 (by decide) ?_
          refine hg_istore (lv' := [(11, .int 0), (10, .int (stv N s (sd N s) t (f + 1))), (9, .int (N 6 (5 * (60 * (nV N - 1) + t) + f))), (8, .int (c_sd N (nI t) (nI f) (nC N))), (7, .int (nI f)), (6, .int zt), (5, .int zm), (4, .int (nI (60 * nV N + t))), (3, .int (nI (60 * bs N s + t))), (1, .int (nI s)), (2, .int (nI t)), (0, .ref r)]) C d_Rf_merge_242 (by decide) rfl ?_
          refine hg_aload_n C 11 d_Rf_merge_244 rfl rfl ?_
          refine f_Rf_24 C hR.1 rfl d_Rf_merge_245 ?_
          refine hg_iconst (v := 5) C d_Rf_merge_248 (by decide) ?_
          refine hg_iload C 7 d_Rf_merge_249 rfl ?_
          refine hg_imul C d_Rf_merge_251 ?_
          refine hg_ti (show ((5 : Int32) : Int32) * nI (60 * nV N + t) = nI (5 * (60 * nV N + t)) from pk_mul 5 (60 * nV N + t)) ?_
          refine hg_iload C 4 d_Rf_merge_252 rfl ?_
          refine hg_iadd C d_Rf_merge_254 ?_
          refine hg_ti (show (nI (5 * (60 * nV N + t)) : Int32) + nI f = nI (5 * (60 * nV N + t) + f) from nI_add (5 * (60 * nV N + t)) f) ?_
          refine hg_iload C 0 d_Rf_merge_255 rfl ?_
          refine hg_if_eq C 265 d_Rf_merge_257 (by decide) (fun _ => ?_) (fun z => absurd (by decide) z)
          refine hg_iload C 2 d_Rf_merge_265 rfl ?_
          have b267 : 5 * (60 * nV N + t) + f < 12000 := (by omega)
          refine hg_iast C 0 (hR.2.1 6 rfl) rfl (vp_in_nI (N := 12000) b267 (by omega)) d_Rf_merge_267 ?_
          obtain ⟨h1, eh1⟩ : ∃ z, z = hp_up h (aa 6) (.inl (Γ.2.1 0, 12000, .inl (upd (K 6) (nI (5 * (60 * nV N + t) + f) : Int32).toNatClampNeg (N 6 (5 * (60 * (nV N - 1) + t) + f))))) := ⟨_, rfl⟩
          refine hg_eq eh1.symm ?_
          have R3 : rf_at Γ r aa (mset K 6 (5 * (60 * nV N + t) + f) (N 6 (5 * (60 * (nV N - 1) + t) + f))) h1 := by rw [eh1]; rw [nI_clamp (n := 5 * (60 * nV N + t) + f) (by omega)]; exact rf_put hR 6 (5 * (60 * nV N + t) + f) (N 6 (5 * (60 * (nV N - 1) + t) + f)) rfl
          obtain ⟨M2, eM2⟩ : ∃ z, z = mset K 6 (5 * (60 * nV N + t) + f) (N 6 (5 * (60 * (nV N - 1) + t) + f)) := ⟨_, rfl⟩
          rw [← eM2] at R3
          refine hg_aload_n C 11 d_Rf_merge_268 rfl rfl ?_
          refine f_Rf_27 C R3.1 rfl d_Rf_merge_269 ?_
          refine hg_iconst (v := 5) C d_Rf_merge_272 (by decide) ?_
          refine hg_iload C 7 d_Rf_merge_273 rfl ?_
          refine hg_imul C d_Rf_merge_275 ?_
          refine hg_ti (show ((5 : Int32) : Int32) * nI (60 * nV N + t) = nI (5 * (60 * nV N + t)) from pk_mul 5 (60 * nV N + t)) ?_
          refine hg_iload C 4 d_Rf_merge_276 rfl ?_
          refine hg_iadd C d_Rf_merge_278 ?_
          refine hg_ti (show (nI (5 * (60 * nV N + t)) : Int32) + nI f = nI (5 * (60 * nV N + t) + f) from nI_add (5 * (60 * nV N + t)) f) ?_
          refine hg_iload C 0 d_Rf_merge_279 rfl ?_
          refine hg_if_eq C 298 d_Rf_merge_281 (by decide) (fun _ => ?_) (fun z => absurd (by decide) z)
          refine hg_aload_n C 11 d_Rf_merge_298 rfl rfl ?_
          refine f_Rf_27 C R3.1 rfl d_Rf_merge_299 ?_
          refine hg_iconst (v := 5) C d_Rf_merge_302 (by decide) ?_
          refine hg_aload_n C 11 d_Rf_merge_303 rfl rfl ?_
          refine hg_iload_n C 10 d_Rf_merge_304 rfl rfl ?_
          refine hg_VNv (q := ("ModelMergeModel", T_Rf, 31)) C (k_Rf_mine l Γ _ r aa M2 R3 (((show agv M2 N by rw [eM2]; exact agv.set6 hAv (by omega))).inv hN) t (by omega)) (cw_Rf_133 C.2.2.2.2.1 rfl rfl ⟨Nat.le_of_ble_eq_true rfl, Nat.le_of_ble_eq_true rfl⟩) R3.1 rfl rfl rfl (Nat.le_of_ble_eq_true rfl) d_Rf_merge_305 ⟨Nat.le_of_ble_eq_true rfl, Nat.le_of_ble_eq_true rfl⟩ (fun _ => ?_)
          refine hg_ti (show nI (60 * (nV M2 - 1) + t) = nI (60 * (nV N - 1) + t) by rw [(show agv M2 N by rw [eM2]; exact agv.set6 hAv (by omega)).1.V]) ?_
          refine hg_imul C d_Rf_merge_308 ?_
          refine hg_ti (show ((5 : Int32) : Int32) * nI (60 * (nV N - 1) + t) = nI (5 * (60 * (nV N - 1) + t)) from pk_mul 5 (60 * (nV N - 1) + t)) ?_
          refine hg_iload C 4 d_Rf_merge_309 rfl ?_
          refine hg_iadd C d_Rf_merge_311 ?_
          refine hg_ti (show (nI (5 * (60 * (nV N - 1) + t)) : Int32) + nI f = nI (5 * (60 * (nV N - 1) + t) + f) from nI_add (5 * (60 * (nV N - 1) + t)) f) ?_
          have b312 : 5 * (60 * (nV N - 1) + t) + f < 12000 := (by omega)
          refine hg_iald C 0 (R3.2.1 7 rfl) rfl (vp_in_nI (N := 12000) b312 (by omega)) d_Rf_merge_312 ?_
          refine hg_ti (congrArg (M2 7) (nI_clamp (n := 5 * (60 * (nV N - 1) + t) + f) (by omega))) ?_
          refine hg_ti (show M2 7 (5 * (60 * (nV N - 1) + t) + f) = K 7 (5 * (60 * (nV N - 1) + t) + f) by rw [eM2, mset_n (by decide)]) ?_
          refine hg_ti (show K 7 (5 * (60 * (nV N - 1) + t) + f) = N 7 (5 * (60 * (nV N - 1) + t) + f) from hA.2.2.2 (5 * (60 * (nV N - 1) + t) + f) (by omega)) ?_
          have b313 : 5 * (60 * nV N + t) + f < 12000 := (by omega)
          refine hg_iast C 0 (R3.2.1 7 rfl) rfl (vp_in_nI (N := 12000) b313 (by omega)) d_Rf_merge_313 ?_
          obtain ⟨h4, eh4⟩ : ∃ z, z = hp_up h1 (aa 7) (.inl (Γ.2.1 0, 12000, .inl (upd (M2 7) (nI (5 * (60 * nV N + t) + f) : Int32).toNatClampNeg (N 7 (5 * (60 * (nV N - 1) + t) + f))))) := ⟨_, rfl⟩
          refine hg_eq eh4.symm ?_
          have R6 : rf_at Γ r aa (mset M2 7 (5 * (60 * nV N + t) + f) (N 7 (5 * (60 * (nV N - 1) + t) + f))) h4 := by rw [eh4]; rw [nI_clamp (n := 5 * (60 * nV N + t) + f) (by omega)]; exact rf_put R3 7 (5 * (60 * nV N + t) + f) (N 7 (5 * (60 * (nV N - 1) + t) + f)) rfl
          obtain ⟨M5, eM5⟩ : ∃ z, z = mset M2 7 (5 * (60 * nV N + t) + f) (N 7 (5 * (60 * (nV N - 1) + t) + f)) := ⟨_, rfl⟩
          rw [← eM5] at R6
          refine hg_iinc (v := nI (f + 1)) (lv' := [(7, .int (nI (f + 1))), (11, .int 0), (10, .int (stv N s (sd N s) t (f + 1))), (9, .int (N 6 (5 * (60 * (nV N - 1) + t) + f))), (8, .int (c_sd N (nI t) (nI f) (nC N))), (6, .int zt), (5, .int zm), (4, .int (nI (60 * nV N + t))), (3, .int (nI (60 * bs N s + t))), (1, .int (nI s)), (2, .int (nI t)), (0, .ref r)]) C 4 d_Rf_merge_314 rfl (nI_1 f) (by decide) rfl ?_
          refine hg_goto C 160 d_Rf_merge_317 (by decide) ?_
          refine hg_lv (ks := [0, 5, 6, 7, 8, 9, 10, 11]) rfl (ih (f + 1) _ (by omega) (by omega) ?_)
          rw [m_wr, show j_x N s t f = x_my N t f from if_neg (fun z => z.elim (fun y => absurd c204 (Int32.not_le.mpr y.1)) (fun y => c234 y.2)), show j_y N s t f = x_sn N t f from if_neg (fun z => (fun z => z.elim (fun y => absurd c204 (Int32.not_le.mpr y.1)) (fun y => c234 y.2)) z.1), ← eK]
          rw [eM5, eM2] at R6
          exact R6
        · refine hg_iconst (v := 1) C d_Rf_merge_237 (by decide) ?_
          refine hg_goto C 242 d_Rf_merge_238 (by decide) ?_
          refine hg_istore (lv' := [(11, .int 1), (10, .int (stv N s (sd N s) t (f + 1))), (9, .int (N 6 (5 * (60 * (nV N - 1) + t) + f))), (8, .int (c_sd N (nI t) (nI f) (nC N))), (7, .int (nI f)), (6, .int zt), (5, .int zm), (4, .int (nI (60 * nV N + t))), (3, .int (nI (60 * bs N s + t))), (1, .int (nI s)), (2, .int (nI t)), (0, .ref r)]) C d_Rf_merge_242 (by decide) rfl ?_
          refine hg_aload_n C 11 d_Rf_merge_244 rfl rfl ?_
          refine f_Rf_24 C hR.1 rfl d_Rf_merge_245 ?_
          refine hg_iconst (v := 5) C d_Rf_merge_248 (by decide) ?_
          refine hg_iload C 7 d_Rf_merge_249 rfl ?_
          refine hg_imul C d_Rf_merge_251 ?_
          refine hg_ti (show ((5 : Int32) : Int32) * nI (60 * nV N + t) = nI (5 * (60 * nV N + t)) from pk_mul 5 (60 * nV N + t)) ?_
          refine hg_iload C 4 d_Rf_merge_252 rfl ?_
          refine hg_iadd C d_Rf_merge_254 ?_
          refine hg_ti (show (nI (5 * (60 * nV N + t)) : Int32) + nI f = nI (5 * (60 * nV N + t) + f) from nI_add (5 * (60 * nV N + t)) f) ?_
          refine hg_iload C 0 d_Rf_merge_255 rfl ?_
          refine hg_if_eq C 265 d_Rf_merge_257 (by decide) (fun z => absurd z (by decide)) (fun _ => ?_)
          refine hg_iload C 1 d_Rf_merge_260 rfl ?_
          refine hg_goto C 267 d_Rf_merge_262 (by decide) ?_
          have b267 : 5 * (60 * nV N + t) + f < 12000 := (by omega)
          refine hg_iast C 0 (hR.2.1 6 rfl) rfl (vp_in_nI (N := 12000) b267 (by omega)) d_Rf_merge_267 ?_
          obtain ⟨h7, eh7⟩ : ∃ z, z = hp_up h (aa 6) (.inl (Γ.2.1 0, 12000, .inl (upd (K 6) (nI (5 * (60 * nV N + t) + f) : Int32).toNatClampNeg (stv N s (sd N s) t (f + 1))))) := ⟨_, rfl⟩
          refine hg_eq eh7.symm ?_
          have R9 : rf_at Γ r aa (mset K 6 (5 * (60 * nV N + t) + f) (stv N s (sd N s) t (f + 1))) h7 := by rw [eh7]; rw [nI_clamp (n := 5 * (60 * nV N + t) + f) (by omega)]; exact rf_put hR 6 (5 * (60 * nV N + t) + f) (stv N s (sd N s) t (f + 1)) rfl
          obtain ⟨M8, eM8⟩ : ∃ z, z = mset K 6 (5 * (60 * nV N + t) + f) (stv N s (sd N s) t (f + 1)) := ⟨_, rfl⟩
          rw [← eM8] at R9
          refine hg_aload_n C 11 d_Rf_merge_268 rfl rfl ?_
          refine f_Rf_27 C R9.1 rfl d_Rf_merge_269 ?_
          refine hg_iconst (v := 5) C d_Rf_merge_272 (by decide) ?_
          refine hg_iload C 7 d_Rf_merge_273 rfl ?_
          refine hg_imul C d_Rf_merge_275 ?_
          refine hg_ti (show ((5 : Int32) : Int32) * nI (60 * nV N + t) = nI (5 * (60 * nV N + t)) from pk_mul 5 (60 * nV N + t)) ?_
          refine hg_iload C 4 d_Rf_merge_276 rfl ?_
          refine hg_iadd C d_Rf_merge_278 ?_
          refine hg_ti (show (nI (5 * (60 * nV N + t)) : Int32) + nI f = nI (5 * (60 * nV N + t) + f) from nI_add (5 * (60 * nV N + t)) f) ?_
          refine hg_iload C 0 d_Rf_merge_279 rfl ?_
          refine hg_if_eq C 298 d_Rf_merge_281 (by decide) (fun z => absurd z (by decide)) (fun _ => ?_)
          refine hg_iload C 1 d_Rf_merge_284 rfl ?_
          refine hg_iload C 2 d_Rf_merge_286 rfl ?_
          refine hg_icmp_eq C 298 d_Rf_merge_288 (by decide) (fun c288 => ?_) (fun c288 => ?_)
          · refine hg_aload_n C 11 d_Rf_merge_298 rfl rfl ?_
            refine f_Rf_27 C R9.1 rfl d_Rf_merge_299 ?_
            refine hg_iconst (v := 5) C d_Rf_merge_302 (by decide) ?_
            refine hg_aload_n C 11 d_Rf_merge_303 rfl rfl ?_
            refine hg_iload_n C 10 d_Rf_merge_304 rfl rfl ?_
            refine hg_VNv (q := ("ModelMergeModel", T_Rf, 31)) C (k_Rf_mine l Γ _ r aa M8 R9 (((show agv M8 N by rw [eM8]; exact agv.set6 hAv (by omega))).inv hN) t (by omega)) (cw_Rf_133 C.2.2.2.2.1 rfl rfl ⟨Nat.le_of_ble_eq_true rfl, Nat.le_of_ble_eq_true rfl⟩) R9.1 rfl rfl rfl (Nat.le_of_ble_eq_true rfl) d_Rf_merge_305 ⟨Nat.le_of_ble_eq_true rfl, Nat.le_of_ble_eq_true rfl⟩ (fun _ => ?_)
            refine hg_ti (show nI (60 * (nV M8 - 1) + t) = nI (60 * (nV N - 1) + t) by rw [(show agv M8 N by rw [eM8]; exact agv.set6 hAv (by omega)).1.V]) ?_
            refine hg_imul C d_Rf_merge_308 ?_
            refine hg_ti (show ((5 : Int32) : Int32) * nI (60 * (nV N - 1) + t) = nI (5 * (60 * (nV N - 1) + t)) from pk_mul 5 (60 * (nV N - 1) + t)) ?_
            refine hg_iload C 4 d_Rf_merge_309 rfl ?_
            refine hg_iadd C d_Rf_merge_311 ?_
            refine hg_ti (show (nI (5 * (60 * (nV N - 1) + t)) : Int32) + nI f = nI (5 * (60 * (nV N - 1) + t) + f) from nI_add (5 * (60 * (nV N - 1) + t)) f) ?_
            have b312 : 5 * (60 * (nV N - 1) + t) + f < 12000 := (by omega)
            refine hg_iald C 0 (R9.2.1 7 rfl) rfl (vp_in_nI (N := 12000) b312 (by omega)) d_Rf_merge_312 ?_
            refine hg_ti (congrArg (M8 7) (nI_clamp (n := 5 * (60 * (nV N - 1) + t) + f) (by omega))) ?_
            refine hg_ti (show M8 7 (5 * (60 * (nV N - 1) + t) + f) = K 7 (5 * (60 * (nV N - 1) + t) + f) by rw [eM8, mset_n (by decide)]) ?_
            refine hg_ti (show K 7 (5 * (60 * (nV N - 1) + t) + f) = N 7 (5 * (60 * (nV N - 1) + t) + f) from hA.2.2.2 (5 * (60 * (nV N - 1) + t) + f) (by omega)) ?_
            have b313 : 5 * (60 * nV N + t) + f < 12000 := (by omega)
            refine hg_iast C 0 (R9.2.1 7 rfl) rfl (vp_in_nI (N := 12000) b313 (by omega)) d_Rf_merge_313 ?_
            obtain ⟨h10, eh10⟩ : ∃ z, z = hp_up h7 (aa 7) (.inl (Γ.2.1 0, 12000, .inl (upd (M8 7) (nI (5 * (60 * nV N + t) + f) : Int32).toNatClampNeg (N 7 (5 * (60 * (nV N - 1) + t) + f))))) := ⟨_, rfl⟩
            refine hg_eq eh10.symm ?_
            have R12 : rf_at Γ r aa (mset M8 7 (5 * (60 * nV N + t) + f) (N 7 (5 * (60 * (nV N - 1) + t) + f))) h10 := by rw [eh10]; rw [nI_clamp (n := 5 * (60 * nV N + t) + f) (by omega)]; exact rf_put R9 7 (5 * (60 * nV N + t) + f) (N 7 (5 * (60 * (nV N - 1) + t) + f)) rfl
            obtain ⟨M11, eM11⟩ : ∃ z, z = mset M8 7 (5 * (60 * nV N + t) + f) (N 7 (5 * (60 * (nV N - 1) + t) + f)) := ⟨_, rfl⟩
            rw [← eM11] at R12
            refine hg_iinc (v := nI (f + 1)) (lv' := [(7, .int (nI (f + 1))), (11, .int 1), (10, .int (stv N s (sd N s) t (f + 1))), (9, .int (N 6 (5 * (60 * (nV N - 1) + t) + f))), (8, .int (c_sd N (nI t) (nI f) (nC N))), (6, .int zt), (5, .int zm), (4, .int (nI (60 * nV N + t))), (3, .int (nI (60 * bs N s + t))), (1, .int (nI s)), (2, .int (nI t)), (0, .ref r)]) C 4 d_Rf_merge_314 rfl (nI_1 f) (by decide) rfl ?_
            refine hg_goto C 160 d_Rf_merge_317 (by decide) ?_
            refine hg_lv (ks := [0, 5, 6, 7, 8, 9, 10, 11]) rfl (ih (f + 1) _ (by omega) (by omega) ?_)
            rw [m_wr, show j_x N s t f = x_th N s t f from if_pos (Or.inr ⟨Int32.not_lt.mpr c204, c234⟩), show j_y N s t f = x_sn N t f from if_neg (fun z => z.2 c288), ← eK]
            rw [eM11, eM8] at R12
            exact R12
          · refine hg_aload_n C 11 d_Rf_merge_291 rfl rfl ?_
            refine f_Rf_16 C R9.1 rfl d_Rf_merge_292 ?_
            refine hg_ti (show M8 4 0 = K 4 0 by rw [eM8, mset_n (by decide)]) ?_
            refine hg_ti (show K 4 0 = N 4 0 from congrFun (hA.1 4 (by decide) (by decide)) 0) ?_
            refine hg_ti fV ?_
            refine hg_goto C 313 d_Rf_merge_295 (by decide) ?_
            have b313 : 5 * (60 * nV N + t) + f < 12000 := (by omega)
            refine hg_iast C 0 (R9.2.1 7 rfl) rfl (vp_in_nI (N := 12000) b313 (by omega)) d_Rf_merge_313 ?_
            obtain ⟨h13, eh13⟩ : ∃ z, z = hp_up h7 (aa 7) (.inl (Γ.2.1 0, 12000, .inl (upd (M8 7) (nI (5 * (60 * nV N + t) + f) : Int32).toNatClampNeg (nI (nV N))))) := ⟨_, rfl⟩
            refine hg_eq eh13.symm ?_
            have R15 : rf_at Γ r aa (mset M8 7 (5 * (60 * nV N + t) + f) (nI (nV N))) h13 := by rw [eh13]; rw [nI_clamp (n := 5 * (60 * nV N + t) + f) (by omega)]; exact rf_put R9 7 (5 * (60 * nV N + t) + f) (nI (nV N)) rfl
            obtain ⟨M14, eM14⟩ : ∃ z, z = mset M8 7 (5 * (60 * nV N + t) + f) (nI (nV N)) := ⟨_, rfl⟩
            rw [← eM14] at R15
            refine hg_iinc (v := nI (f + 1)) (lv' := [(7, .int (nI (f + 1))), (11, .int 1), (10, .int (stv N s (sd N s) t (f + 1))), (9, .int (N 6 (5 * (60 * (nV N - 1) + t) + f))), (8, .int (c_sd N (nI t) (nI f) (nC N))), (6, .int zt), (5, .int zm), (4, .int (nI (60 * nV N + t))), (3, .int (nI (60 * bs N s + t))), (1, .int (nI s)), (2, .int (nI t)), (0, .ref r)]) C 4 d_Rf_merge_314 rfl (nI_1 f) (by decide) rfl ?_
            refine hg_goto C 160 d_Rf_merge_317 (by decide) ?_
            refine hg_lv (ks := [0, 5, 6, 7, 8, 9, 10, 11]) rfl (ih (f + 1) _ (by omega) (by omega) ?_)
            rw [m_wr, show j_x N s t f = x_th N s t f from if_pos (Or.inr ⟨Int32.not_lt.mpr c204, c234⟩), show j_y N s t f = nI (nV N) from if_pos ⟨(Or.inr ⟨Int32.not_lt.mpr c204, c234⟩), c288⟩, ← eK]
            rw [eM14, eM8] at R15
            exact R15
      · refine hg_iload C 0 d_Rf_merge_207 rfl ?_
        refine hg_aload_n C 10 d_Rf_merge_209 rfl rfl ?_
        refine f_Rf_24 C hR.1 rfl d_Rf_merge_210 ?_
        refine hg_iconst (v := 5) C d_Rf_merge_213 (by decide) ?_
        refine hg_iload_n C 7 d_Rf_merge_214 rfl rfl ?_
        refine hg_imul C d_Rf_merge_215 ?_
        refine hg_ti (show ((5 : Int32) : Int32) * nI (60 * bs N s + t) = nI (5 * (60 * bs N s + t)) from pk_mul 5 (60 * bs N s + t)) ?_
        refine hg_iload C 3 d_Rf_merge_216 rfl ?_
        refine hg_iadd C d_Rf_merge_218 ?_
        refine hg_ti (show (nI (5 * (60 * bs N s + t)) : Int32) + nI f = nI (5 * (60 * bs N s + t) + f) from nI_add (5 * (60 * bs N s + t)) f) ?_
        have b219 : 5 * (60 * bs N s + t) + f < 12000 := (by omega)
        refine hg_iald C 0 (hR.2.1 6 rfl) rfl (vp_in_nI (N := 12000) b219 (by omega)) d_Rf_merge_219 ?_
        refine hg_ti (congrArg (K 6) (nI_clamp (n := 5 * (60 * bs N s + t) + f) (by omega))) ?_
        refine hg_ti (show K 6 (5 * (60 * bs N s + t) + f) = N 6 (5 * (60 * bs N s + t) + f) from hA.2.2.1 (5 * (60 * bs N s + t) + f) (by omega)) ?_
        refine hg_icmp_eq C 227 d_Rf_merge_220 (by decide) (fun c220 => ?_) (fun c220 => ?_)
        · refine hg_iconst (v := 0) C d_Rf_merge_227 (by decide) ?_
          refine hg_goto C 242 d_Rf_merge_228 (by decide) ?_
          refine hg_istore (lv' := [(11, .int 0), (10, .int (stv N s (sd N s) t (f + 1))), (9, .int (N 6 (5 * (60 * (nV N - 1) + t) + f))), (8, .int (c_sd N (nI t) (nI f) (nC N))), (7, .int (nI f)), (6, .int zt), (5, .int zm), (4, .int (nI (60 * nV N + t))), (3, .int (nI (60 * bs N s + t))), (1, .int (nI s)), (2, .int (nI t)), (0, .ref r)]) C d_Rf_merge_242 (by decide) rfl ?_
          refine hg_aload_n C 11 d_Rf_merge_244 rfl rfl ?_
          refine f_Rf_24 C hR.1 rfl d_Rf_merge_245 ?_
          refine hg_iconst (v := 5) C d_Rf_merge_248 (by decide) ?_
          refine hg_iload C 7 d_Rf_merge_249 rfl ?_
          refine hg_imul C d_Rf_merge_251 ?_
          refine hg_ti (show ((5 : Int32) : Int32) * nI (60 * nV N + t) = nI (5 * (60 * nV N + t)) from pk_mul 5 (60 * nV N + t)) ?_
          refine hg_iload C 4 d_Rf_merge_252 rfl ?_
          refine hg_iadd C d_Rf_merge_254 ?_
          refine hg_ti (show (nI (5 * (60 * nV N + t)) : Int32) + nI f = nI (5 * (60 * nV N + t) + f) from nI_add (5 * (60 * nV N + t)) f) ?_
          refine hg_iload C 0 d_Rf_merge_255 rfl ?_
          refine hg_if_eq C 265 d_Rf_merge_257 (by decide) (fun _ => ?_) (fun z => absurd (by decide) z)
          refine hg_iload C 2 d_Rf_merge_265 rfl ?_
          have b267 : 5 * (60 * nV N + t) + f < 12000 := (by omega)
          refine hg_iast C 0 (hR.2.1 6 rfl) rfl (vp_in_nI (N := 12000) b267 (by omega)) d_Rf_merge_267 ?_
          obtain ⟨h16, eh16⟩ : ∃ z, z = hp_up h (aa 6) (.inl (Γ.2.1 0, 12000, .inl (upd (K 6) (nI (5 * (60 * nV N + t) + f) : Int32).toNatClampNeg (N 6 (5 * (60 * (nV N - 1) + t) + f))))) := ⟨_, rfl⟩
          refine hg_eq eh16.symm ?_
          have R18 : rf_at Γ r aa (mset K 6 (5 * (60 * nV N + t) + f) (N 6 (5 * (60 * (nV N - 1) + t) + f))) h16 := by rw [eh16]; rw [nI_clamp (n := 5 * (60 * nV N + t) + f) (by omega)]; exact rf_put hR 6 (5 * (60 * nV N + t) + f) (N 6 (5 * (60 * (nV N - 1) + t) + f)) rfl
          obtain ⟨M17, eM17⟩ : ∃ z, z = mset K 6 (5 * (60 * nV N + t) + f) (N 6 (5 * (60 * (nV N - 1) + t) + f)) := ⟨_, rfl⟩
          rw [← eM17] at R18
          refine hg_aload_n C 11 d_Rf_merge_268 rfl rfl ?_
          refine f_Rf_27 C R18.1 rfl d_Rf_merge_269 ?_
          refine hg_iconst (v := 5) C d_Rf_merge_272 (by decide) ?_
          refine hg_iload C 7 d_Rf_merge_273 rfl ?_
          refine hg_imul C d_Rf_merge_275 ?_
          refine hg_ti (show ((5 : Int32) : Int32) * nI (60 * nV N + t) = nI (5 * (60 * nV N + t)) from pk_mul 5 (60 * nV N + t)) ?_
          refine hg_iload C 4 d_Rf_merge_276 rfl ?_
          refine hg_iadd C d_Rf_merge_278 ?_
          refine hg_ti (show (nI (5 * (60 * nV N + t)) : Int32) + nI f = nI (5 * (60 * nV N + t) + f) from nI_add (5 * (60 * nV N + t)) f) ?_
          refine hg_iload C 0 d_Rf_merge_279 rfl ?_
          refine hg_if_eq C 298 d_Rf_merge_281 (by decide) (fun _ => ?_) (fun z => absurd (by decide) z)
          refine hg_aload_n C 11 d_Rf_merge_298 rfl rfl ?_
          refine f_Rf_27 C R18.1 rfl d_Rf_merge_299 ?_
          refine hg_iconst (v := 5) C d_Rf_merge_302 (by decide) ?_
          refine hg_aload_n C 11 d_Rf_merge_303 rfl rfl ?_
          refine hg_iload_n C 10 d_Rf_merge_304 rfl rfl ?_
          refine hg_VNv (q := ("ModelMergeModel", T_Rf, 31)) C (k_Rf_mine l Γ _ r aa M17 R18 (((show agv M17 N by rw [eM17]; exact agv.set6 hAv (by omega))).inv hN) t (by omega)) (cw_Rf_133 C.2.2.2.2.1 rfl rfl ⟨Nat.le_of_ble_eq_true rfl, Nat.le_of_ble_eq_true rfl⟩) R18.1 rfl rfl rfl (Nat.le_of_ble_eq_true rfl) d_Rf_merge_305 ⟨Nat.le_of_ble_eq_true rfl, Nat.le_of_ble_eq_true rfl⟩ (fun _ => ?_)
          refine hg_ti (show nI (60 * (nV M17 - 1) + t) = nI (60 * (nV N - 1) + t) by rw [(show agv M17 N by rw [eM17]; exact agv.set6 hAv (by omega)).1.V]) ?_
          refine hg_imul C d_Rf_merge_308 ?_
          refine hg_ti (show ((5 : Int32) : Int32) * nI (60 * (nV N - 1) + t) = nI (5 * (60 * (nV N - 1) + t)) from pk_mul 5 (60 * (nV N - 1) + t)) ?_
          refine hg_iload C 4 d_Rf_merge_309 rfl ?_
          refine hg_iadd C d_Rf_merge_311 ?_
          refine hg_ti (show (nI (5 * (60 * (nV N - 1) + t)) : Int32) + nI f = nI (5 * (60 * (nV N - 1) + t) + f) from nI_add (5 * (60 * (nV N - 1) + t)) f) ?_
          have b312 : 5 * (60 * (nV N - 1) + t) + f < 12000 := (by omega)
          refine hg_iald C 0 (R18.2.1 7 rfl) rfl (vp_in_nI (N := 12000) b312 (by omega)) d_Rf_merge_312 ?_
          refine hg_ti (congrArg (M17 7) (nI_clamp (n := 5 * (60 * (nV N - 1) + t) + f) (by omega))) ?_
          refine hg_ti (show M17 7 (5 * (60 * (nV N - 1) + t) + f) = K 7 (5 * (60 * (nV N - 1) + t) + f) by rw [eM17, mset_n (by decide)]) ?_
          refine hg_ti (show K 7 (5 * (60 * (nV N - 1) + t) + f) = N 7 (5 * (60 * (nV N - 1) + t) + f) from hA.2.2.2 (5 * (60 * (nV N - 1) + t) + f) (by omega)) ?_
          have b313 : 5 * (60 * nV N + t) + f < 12000 := (by omega)
          refine hg_iast C 0 (R18.2.1 7 rfl) rfl (vp_in_nI (N := 12000) b313 (by omega)) d_Rf_merge_313 ?_
          obtain ⟨h19, eh19⟩ : ∃ z, z = hp_up h16 (aa 7) (.inl (Γ.2.1 0, 12000, .inl (upd (M17 7) (nI (5 * (60 * nV N + t) + f) : Int32).toNatClampNeg (N 7 (5 * (60 * (nV N - 1) + t) + f))))) := ⟨_, rfl⟩
          refine hg_eq eh19.symm ?_
          have R21 : rf_at Γ r aa (mset M17 7 (5 * (60 * nV N + t) + f) (N 7 (5 * (60 * (nV N - 1) + t) + f))) h19 := by rw [eh19]; rw [nI_clamp (n := 5 * (60 * nV N + t) + f) (by omega)]; exact rf_put R18 7 (5 * (60 * nV N + t) + f) (N 7 (5 * (60 * (nV N - 1) + t) + f)) rfl
          obtain ⟨M20, eM20⟩ : ∃ z, z = mset M17 7 (5 * (60 * nV N + t) + f) (N 7 (5 * (60 * (nV N - 1) + t) + f)) := ⟨_, rfl⟩
          rw [← eM20] at R21
          refine hg_iinc (v := nI (f + 1)) (lv' := [(7, .int (nI (f + 1))), (11, .int 0), (10, .int (stv N s (sd N s) t (f + 1))), (9, .int (N 6 (5 * (60 * (nV N - 1) + t) + f))), (8, .int (c_sd N (nI t) (nI f) (nC N))), (6, .int zt), (5, .int zm), (4, .int (nI (60 * nV N + t))), (3, .int (nI (60 * bs N s + t))), (1, .int (nI s)), (2, .int (nI t)), (0, .ref r)]) C 4 d_Rf_merge_314 rfl (nI_1 f) (by decide) rfl ?_
          refine hg_goto C 160 d_Rf_merge_317 (by decide) ?_
          refine hg_lv (ks := [0, 5, 6, 7, 8, 9, 10, 11]) rfl (ih (f + 1) _ (by omega) (by omega) ?_)
          rw [m_wr, show j_x N s t f = x_my N t f from if_neg (fun z => z.elim (fun y => y.2 c220) (fun y => y.1 (Int32.not_le.mp c204))), show j_y N s t f = x_sn N t f from if_neg (fun z => (fun z => z.elim (fun y => y.2 c220) (fun y => y.1 (Int32.not_le.mp c204))) z.1), ← eK]
          rw [eM20, eM17] at R21
          exact R21
        · refine hg_iconst (v := 1) C d_Rf_merge_223 (by decide) ?_
          refine hg_goto C 242 d_Rf_merge_224 (by decide) ?_
          refine hg_istore (lv' := [(11, .int 1), (10, .int (stv N s (sd N s) t (f + 1))), (9, .int (N 6 (5 * (60 * (nV N - 1) + t) + f))), (8, .int (c_sd N (nI t) (nI f) (nC N))), (7, .int (nI f)), (6, .int zt), (5, .int zm), (4, .int (nI (60 * nV N + t))), (3, .int (nI (60 * bs N s + t))), (1, .int (nI s)), (2, .int (nI t)), (0, .ref r)]) C d_Rf_merge_242 (by decide) rfl ?_
          refine hg_aload_n C 11 d_Rf_merge_244 rfl rfl ?_
          refine f_Rf_24 C hR.1 rfl d_Rf_merge_245 ?_
          refine hg_iconst (v := 5) C d_Rf_merge_248 (by decide) ?_
          refine hg_iload C 7 d_Rf_merge_249 rfl ?_
          refine hg_imul C d_Rf_merge_251 ?_
          refine hg_ti (show ((5 : Int32) : Int32) * nI (60 * nV N + t) = nI (5 * (60 * nV N + t)) from pk_mul 5 (60 * nV N + t)) ?_
          refine hg_iload C 4 d_Rf_merge_252 rfl ?_
          refine hg_iadd C d_Rf_merge_254 ?_
          refine hg_ti (show (nI (5 * (60 * nV N + t)) : Int32) + nI f = nI (5 * (60 * nV N + t) + f) from nI_add (5 * (60 * nV N + t)) f) ?_
          refine hg_iload C 0 d_Rf_merge_255 rfl ?_
          refine hg_if_eq C 265 d_Rf_merge_257 (by decide) (fun z => absurd z (by decide)) (fun _ => ?_)
          refine hg_iload C 1 d_Rf_merge_260 rfl ?_
          refine hg_goto C 267 d_Rf_merge_262 (by decide) ?_
          have b267 : 5 * (60 * nV N + t) + f < 12000 := (by omega)
          refine hg_iast C 0 (hR.2.1 6 rfl) rfl (vp_in_nI (N := 12000) b267 (by omega)) d_Rf_merge_267 ?_
          obtain ⟨h22, eh22⟩ : ∃ z, z = hp_up h (aa 6) (.inl (Γ.2.1 0, 12000, .inl (upd (K 6) (nI (5 * (60 * nV N + t) + f) : Int32).toNatClampNeg (stv N s (sd N s) t (f + 1))))) := ⟨_, rfl⟩
          refine hg_eq eh22.symm ?_
          have R24 : rf_at Γ r aa (mset K 6 (5 * (60 * nV N + t) + f) (stv N s (sd N s) t (f + 1))) h22 := by rw [eh22]; rw [nI_clamp (n := 5 * (60 * nV N + t) + f) (by omega)]; exact rf_put hR 6 (5 * (60 * nV N + t) + f) (stv N s (sd N s) t (f + 1)) rfl
          obtain ⟨M23, eM23⟩ : ∃ z, z = mset K 6 (5 * (60 * nV N + t) + f) (stv N s (sd N s) t (f + 1)) := ⟨_, rfl⟩
          rw [← eM23] at R24
          refine hg_aload_n C 11 d_Rf_merge_268 rfl rfl ?_
          refine f_Rf_27 C R24.1 rfl d_Rf_merge_269 ?_
          refine hg_iconst (v := 5) C d_Rf_merge_272 (by decide) ?_
          refine hg_iload C 7 d_Rf_merge_273 rfl ?_
          refine hg_imul C d_Rf_merge_275 ?_
          refine hg_ti (show ((5 : Int32) : Int32) * nI (60 * nV N + t) = nI (5 * (60 * nV N + t)) from pk_mul 5 (60 * nV N + t)) ?_
          refine hg_iload C 4 d_Rf_merge_276 rfl ?_
          refine hg_iadd C d_Rf_merge_278 ?_
          refine hg_ti (show (nI (5 * (60 * nV N + t)) : Int32) + nI f = nI (5 * (60 * nV N + t) + f) from nI_add (5 * (60 * nV N + t)) f) ?_
          refine hg_iload C 0 d_Rf_merge_279 rfl ?_
          refine hg_if_eq C 298 d_Rf_merge_281 (by decide) (fun z => absurd z (by decide)) (fun _ => ?_)
          refine hg_iload C 1 d_Rf_merge_284 rfl ?_
          refine hg_iload C 2 d_Rf_merge_286 rfl ?_
          refine hg_icmp_eq C 298 d_Rf_merge_288 (by decide) (fun c288 => ?_) (fun c288 => ?_)
          · refine hg_aload_n C 11 d_Rf_merge_298 rfl rfl ?_
            refine f_Rf_27 C R24.1 rfl d_Rf_merge_299 ?_
            refine hg_iconst (v := 5) C d_Rf_merge_302 (by decide) ?_
            refine hg_aload_n C 11 d_Rf_merge_303 rfl rfl ?_
            refine hg_iload_n C 10 d_Rf_merge_304 rfl rfl ?_
            refine hg_VNv (q := ("ModelMergeModel", T_Rf, 31)) C (k_Rf_mine l Γ _ r aa M23 R24 (((show agv M23 N by rw [eM23]; exact agv.set6 hAv (by omega))).inv hN) t (by omega)) (cw_Rf_133 C.2.2.2.2.1 rfl rfl ⟨Nat.le_of_ble_eq_true rfl, Nat.le_of_ble_eq_true rfl⟩) R24.1 rfl rfl rfl (Nat.le_of_ble_eq_true rfl) d_Rf_merge_305 ⟨Nat.le_of_ble_eq_true rfl, Nat.le_of_ble_eq_true rfl⟩ (fun _ => ?_)
            refine hg_ti (show nI (60 * (nV M23 - 1) + t) = nI (60 * (nV N - 1) + t) by rw [(show agv M23 N by rw [eM23]; exact agv.set6 hAv (by omega)).1.V]) ?_
            refine hg_imul C d_Rf_merge_308 ?_
            refine hg_ti (show ((5 : Int32) : Int32) * nI (60 * (nV N - 1) + t) = nI (5 * (60 * (nV N - 1) + t)) from pk_mul 5 (60 * (nV N - 1) + t)) ?_
            refine hg_iload C 4 d_Rf_merge_309 rfl ?_
            refine hg_iadd C d_Rf_merge_311 ?_
            refine hg_ti (show (nI (5 * (60 * (nV N - 1) + t)) : Int32) + nI f = nI (5 * (60 * (nV N - 1) + t) + f) from nI_add (5 * (60 * (nV N - 1) + t)) f) ?_
            have b312 : 5 * (60 * (nV N - 1) + t) + f < 12000 := (by omega)
            refine hg_iald C 0 (R24.2.1 7 rfl) rfl (vp_in_nI (N := 12000) b312 (by omega)) d_Rf_merge_312 ?_
            refine hg_ti (congrArg (M23 7) (nI_clamp (n := 5 * (60 * (nV N - 1) + t) + f) (by omega))) ?_
            refine hg_ti (show M23 7 (5 * (60 * (nV N - 1) + t) + f) = K 7 (5 * (60 * (nV N - 1) + t) + f) by rw [eM23, mset_n (by decide)]) ?_
            refine hg_ti (show K 7 (5 * (60 * (nV N - 1) + t) + f) = N 7 (5 * (60 * (nV N - 1) + t) + f) from hA.2.2.2 (5 * (60 * (nV N - 1) + t) + f) (by omega)) ?_
            have b313 : 5 * (60 * nV N + t) + f < 12000 := (by omega)
            refine hg_iast C 0 (R24.2.1 7 rfl) rfl (vp_in_nI (N := 12000) b313 (by omega)) d_Rf_merge_313 ?_
            obtain ⟨h25, eh25⟩ : ∃ z, z = hp_up h22 (aa 7) (.inl (Γ.2.1 0, 12000, .inl (upd (M23 7) (nI (5 * (60 * nV N + t) + f) : Int32).toNatClampNeg (N 7 (5 * (60 * (nV N - 1) + t) + f))))) := ⟨_, rfl⟩
            refine hg_eq eh25.symm ?_
            have R27 : rf_at Γ r aa (mset M23 7 (5 * (60 * nV N + t) + f) (N 7 (5 * (60 * (nV N - 1) + t) + f))) h25 := by rw [eh25]; rw [nI_clamp (n := 5 * (60 * nV N + t) + f) (by omega)]; exact rf_put R24 7 (5 * (60 * nV N + t) + f) (N 7 (5 * (60 * (nV N - 1) + t) + f)) rfl
            obtain ⟨M26, eM26⟩ : ∃ z, z = mset M23 7 (5 * (60 * nV N + t) + f) (N 7 (5 * (60 * (nV N - 1) + t) + f)) := ⟨_, rfl⟩
            rw [← eM26] at R27
            refine hg_iinc (v := nI (f + 1)) (lv' := [(7, .int (nI (f + 1))), (11, .int 1), (10, .int (stv N s (sd N s) t (f + 1))), (9, .int (N 6 (5 * (60 * (nV N - 1) + t) + f))), (8, .int (c_sd N (nI t) (nI f) (nC N))), (6, .int zt), (5, .int zm), (4, .int (nI (60 * nV N + t))), (3, .int (nI (60 * bs N s + t))), (1, .int (nI s)), (2, .int (nI t)), (0, .ref r)]) C 4 d_Rf_merge_314 rfl (nI_1 f) (by decide) rfl ?_
            refine hg_goto C 160 d_Rf_merge_317 (by decide) ?_
            refine hg_lv (ks := [0, 5, 6, 7, 8, 9, 10, 11]) rfl (ih (f + 1) _ (by omega) (by omega) ?_)
            rw [m_wr, show j_x N s t f = x_th N s t f from if_pos (Or.inl ⟨Int32.not_le.mp c204, c220⟩), show j_y N s t f = x_sn N t f from if_neg (fun z => z.2 c288), ← eK]
            rw [eM26, eM23] at R27
            exact R27
          · refine hg_aload_n C 11 d_Rf_merge_291 rfl rfl ?_
            refine f_Rf_16 C R24.1 rfl d_Rf_merge_292 ?_
            refine hg_ti (show M23 4 0 = K 4 0 by rw [eM23, mset_n (by decide)]) ?_
            refine hg_ti (show K 4 0 = N 4 0 from congrFun (hA.1 4 (by decide) (by decide)) 0) ?_
            refine hg_ti fV ?_
            refine hg_goto C 313 d_Rf_merge_295 (by decide) ?_
            have b313 : 5 * (60 * nV N + t) + f < 12000 := (by omega)
            refine hg_iast C 0 (R24.2.1 7 rfl) rfl (vp_in_nI (N := 12000) b313 (by omega)) d_Rf_merge_313 ?_
            obtain ⟨h28, eh28⟩ : ∃ z, z = hp_up h22 (aa 7) (.inl (Γ.2.1 0, 12000, .inl (upd (M23 7) (nI (5 * (60 * nV N + t) + f) : Int32).toNatClampNeg (nI (nV N))))) := ⟨_, rfl⟩
            refine hg_eq eh28.symm ?_
            have R30 : rf_at Γ r aa (mset M23 7 (5 * (60 * nV N + t) + f) (nI (nV N))) h28 := by rw [eh28]; rw [nI_clamp (n := 5 * (60 * nV N + t) + f) (by omega)]; exact rf_put R24 7 (5 * (60 * nV N + t) + f) (nI (nV N)) rfl
            obtain ⟨M29, eM29⟩ : ∃ z, z = mset M23 7 (5 * (60 * nV N + t) + f) (nI (nV N)) := ⟨_, rfl⟩
            rw [← eM29] at R30
            refine hg_iinc (v := nI (f + 1)) (lv' := [(7, .int (nI (f + 1))), (11, .int 1), (10, .int (stv N s (sd N s) t (f + 1))), (9, .int (N 6 (5 * (60 * (nV N - 1) + t) + f))), (8, .int (c_sd N (nI t) (nI f) (nC N))), (6, .int zt), (5, .int zm), (4, .int (nI (60 * nV N + t))), (3, .int (nI (60 * bs N s + t))), (1, .int (nI s)), (2, .int (nI t)), (0, .ref r)]) C 4 d_Rf_merge_314 rfl (nI_1 f) (by decide) rfl ?_
            refine hg_goto C 160 d_Rf_merge_317 (by decide) ?_
            refine hg_lv (ks := [0, 5, 6, 7, 8, 9, 10, 11]) rfl (ih (f + 1) _ (by omega) (by omega) ?_)
            rw [m_wr, show j_x N s t f = x_th N s t f from if_pos (Or.inl ⟨Int32.not_le.mp c204, c220⟩), show j_y N s t f = nI (nV N) from if_pos ⟨(Or.inl ⟨Int32.not_le.mp c204, c220⟩), c288⟩, ← eK]
            rw [eM29, eM23] at R30
            exact R30
set_option maxHeartbeats 4000000 in
set_option maxRecDepth 100000 in
theorem k_Rf_merge (l : Launch) (Γ : Gam) (h : Pic) (r : Nat) (aa : Nat → Nat) (M : Mem) (hR : rf_at Γ r aa M h) (N : Mem) (hN : Inv0 N) (hZ : I_zer N) (h40 : nV N < 40) (s t : Nat) (hs : s < nS N) (htt : t < nT N) (hAv : agv M N) : kN l Γ y_Rf_merge w_Rf_merge rm_Rf_merge [.ref r, .int (nI s), .int (nI t)] h (fun q u => q = none ∧ rf_at Γ r aa (m_merge N s t M) u) 0 0 := by
  refine hg_entryN (own := "ModelMergeModel") (cc := b_Rf_merge) (maxL := 12) (ret := none) (lv0 := [(0, .ref r), (1, .int (nI s)), (2, .int (nI t))]) (by decide) rfl rfl (Nat.le_of_ble_eq_true rfl) rfl ?_
  intro p9 e9 s9 m9 args below meth c9 A C hnm hr
  have hA := hAv.1
  have hI := hAv.inv hN
  have qV := hA.V
  have qS := hA.S
  have qT := hA.T
  obtain ⟨⟨⟨fT, gT⟩, ⟨fV, gV1, gV⟩, ⟨fS, gS⟩, ⟨fR, gR⟩, ⟨fC, gC⟩⟩, hN2, -⟩ := id hN
  obtain ⟨⟨f11, gb⟩, ⟨f12, gsd⟩, ⟨f13, gnm⟩, glf⟩ := hN2 s hs
  refine hg_bipush (v := 60) C d_Rf_merge_0 (by decide) ?_
  refine hg_aload_n C 0 d_Rf_merge_2 rfl rfl ?_
  refine f_Rf_36 C hR.1 rfl d_Rf_merge_3 ?_
  refine hg_iload_n C 1 d_Rf_merge_6 rfl rfl ?_
  have b7 : s < 20 := (by omega)
  refine hg_iald C 0 (hR.2.1 11 rfl) rfl (vp_in_nI (N := 20) b7 (by omega)) d_Rf_merge_7 ?_
  refine hg_ti (congrArg (M 11) (nI_clamp (n := s) (by omega))) ?_
  refine hg_ti (show M 11 s = N 11 s from congrFun (hA.1 11 (by decide) (by decide)) s) ?_
  refine hg_ti f11 ?_
  refine hg_imul C d_Rf_merge_8 ?_
  refine hg_ti (show ((60 : Int32) : Int32) * nI (bs N s) = nI (60 * bs N s) from pk_mul 60 (bs N s)) ?_
  refine hg_iload_n C 2 d_Rf_merge_9 rfl rfl ?_
  refine hg_iadd C d_Rf_merge_10 ?_
  refine hg_ti (show (nI (60 * bs N s) : Int32) + nI t = nI (60 * bs N s + t) from nI_add (60 * bs N s) t) ?_
  refine hg_istore_n (lv' := [(3, .int (nI (60 * bs N s + t))), (0, .ref r), (1, .int (nI s)), (2, .int (nI t))]) C d_Rf_merge_11 rfl (by decide) rfl ?_
  refine hg_bipush (v := 60) C d_Rf_merge_12 (by decide) ?_
  refine hg_aload_n C 1 d_Rf_merge_14 rfl rfl ?_
  refine f_Rf_16 C hR.1 rfl d_Rf_merge_15 ?_
  refine hg_ti (show M 4 0 = N 4 0 from congrFun (hA.1 4 (by decide) (by decide)) 0) ?_
  refine hg_ti fV ?_
  refine hg_imul C d_Rf_merge_18 ?_
  refine hg_ti (show ((60 : Int32) : Int32) * nI (nV N) = nI (60 * nV N) from pk_mul 60 (nV N)) ?_
  refine hg_iload_n C 3 d_Rf_merge_19 rfl rfl ?_
  refine hg_iadd C d_Rf_merge_20 ?_
  refine hg_ti (show (nI (60 * nV N) : Int32) + nI t = nI (60 * nV N + t) from nI_add (60 * nV N) t) ?_
  refine hg_istore (lv' := [(4, .int (nI (60 * nV N + t))), (3, .int (nI (60 * bs N s + t))), (0, .ref r), (1, .int (nI s)), (2, .int (nI t))]) C d_Rf_merge_21 (by decide) rfl ?_
  refine hg_aload_n C 2 d_Rf_merge_23 rfl rfl ?_
  refine f_Rf_20 C hR.1 rfl d_Rf_merge_24 ?_
  refine hg_aload_n C 2 d_Rf_merge_27 rfl rfl ?_
  refine hg_iload_n C 4 d_Rf_merge_28 rfl rfl ?_
  refine hg_VNv (q := ("ModelMergeModel", T_Rf, 31)) C (k_Rf_mine l Γ _ r aa M hR (hI) t (by omega)) (cw_Rf_133 C.2.2.2.2.1 rfl rfl ⟨Nat.le_of_ble_eq_true rfl, Nat.le_of_ble_eq_true rfl⟩) hR.1 rfl rfl rfl (Nat.le_of_ble_eq_true rfl) d_Rf_merge_29 ⟨Nat.le_of_ble_eq_true rfl, Nat.le_of_ble_eq_true rfl⟩ (fun _ => ?_)
  refine hg_ti (show nI (60 * (nV M - 1) + t) = nI (60 * (nV N - 1) + t) by rw [hA.V]) ?_
  have b32 : 60 * (nV N - 1) + t < 2400 := (by omega)
  refine hg_zald C 2 (hR.2.1 5 rfl) rfl (vp_in_nI (N := 2400) b32 (by omega)) d_Rf_merge_32 ?_
  refine hg_ti (congrArg (M 5) (nI_clamp (n := 60 * (nV N - 1) + t) (by omega))) ?_
  refine hg_ti (show M 5 (60 * (nV N - 1) + t) = N 5 (60 * (nV N - 1) + t) from hA.2.1 (60 * (nV N - 1) + t) (by omega)) ?_
  refine hg_istore (lv' := [(5, .int (N 5 (60 * (nV N - 1) + t))), (4, .int (nI (60 * nV N + t))), (3, .int (nI (60 * bs N s + t))), (0, .ref r), (1, .int (nI s)), (2, .int (nI t))]) C d_Rf_merge_33 (by decide) rfl ?_
  refine hg_aload_n C 3 d_Rf_merge_35 rfl rfl ?_
  refine hg_iload_n C 4 d_Rf_merge_36 rfl rfl ?_
  refine hg_iload_n C 5 d_Rf_merge_37 rfl rfl ?_
  refine hg_VNv (q := ("ModelMergeModel", T_Rf, 31)) C (k_Rf_isHere l Γ _ r aa M hR (hI) s t (by omega) (by omega)) (cw_Rf_123 C.2.2.2.2.1 rfl rfl ⟨Nat.le_of_ble_eq_true rfl, Nat.le_of_ble_eq_true rfl⟩) hR.1 rfl rfl rfl (Nat.le_of_ble_eq_true rfl) d_Rf_merge_38 ⟨Nat.le_of_ble_eq_true rfl, Nat.le_of_ble_eq_true rfl⟩ (fun _ => ?_)
  refine hg_ti (hA.qhr gb (by omega) (by omega)) ?_
  refine hg_istore (lv' := [(6, .int (stv N s (sd N s) t 0)), (5, .int (N 5 (60 * (nV N - 1) + t))), (4, .int (nI (60 * nV N + t))), (3, .int (nI (60 * bs N s + t))), (0, .ref r), (1, .int (nI s)), (2, .int (nI t))]) C d_Rf_merge_41 (by decide) rfl ?_
  refine hg_aload_n C 4 d_Rf_merge_43 rfl rfl ?_
  refine f_Rf_20 C hR.1 rfl d_Rf_merge_44 ?_
  refine hg_iload C 2 d_Rf_merge_47 rfl ?_
  refine hg_iconst (v := 0) C d_Rf_merge_49 (by decide) ?_
  have b50 : 60 * nV N + t < 2400 := (by omega)
  refine hg_zast C 2 (hR.2.1 5 rfl) rfl (vp_in_nI (N := 2400) b50 (by omega)) d_Rf_merge_50 ?_
  obtain ⟨h1, eh1⟩ : ∃ z, z = hp_up h (aa 5) (.inl (Γ.2.1 2, 2400, .inl (upd (M 5) (nI (60 * nV N + t) : Int32).toNatClampNeg (vp_nar .boolean 0)))) := ⟨_, rfl⟩
  refine hg_eq eh1.symm ?_
  have R3 : rf_at Γ r aa (mset M 5 (60 * nV N + t) 0) h1 := by rw [eh1]; rw [nI_clamp (n := 60 * nV N + t) (by omega)]; rw [show vp_nar .boolean 0 = 0 from rfl]; exact rf_put hR 5 (60 * nV N + t) 0 rfl
  obtain ⟨M2, eM2⟩ : ∃ z, z = mset M 5 (60 * nV N + t) 0 := ⟨_, rfl⟩
  rw [← eM2] at R3
  refine hg_iload C 1 d_Rf_merge_51 rfl ?_
  refine hg_if_eq C 61 d_Rf_merge_53 (by decide) (fun c53 => ?_) (fun c53 => ?_)
  · refine hg_aload_n C 4 d_Rf_merge_61 rfl rfl ?_
    refine hg_iload_n C 6 d_Rf_merge_62 rfl rfl ?_
    refine hg_iconst (v := (-1)) C d_Rf_merge_63 (by decide) ?_
    refine hg_VNv (q := ("ModelMergeModel", T_Rf, 31)) C (k_Rf_sideOf l Γ _ r aa M2 R3 (((show agv M2 N by rw [eM2]; exact agv.set5 hAv (by omega))).inv hN) (nI t) (-1)) (cw_Rf_144 C.2.2.2.2.1 rfl rfl ⟨Nat.le_of_ble_eq_true rfl, Nat.le_of_ble_eq_true rfl⟩) R3.1 rfl rfl rfl (Nat.le_of_ble_eq_true rfl) d_Rf_merge_64 ⟨Nat.le_of_ble_eq_true rfl, Nat.le_of_ble_eq_true rfl⟩ (fun _ => ?_)
    refine hg_ti (show c_sd M2 (nI t) (-1) (nC M2) = c_sd N (nI t) (-1) (nC N) by rw [(show agv M2 N by rw [eM2]; exact agv.set5 hAv (by omega)).C, (show agv M2 N by rw [eM2]; exact agv.set5 hAv (by omega)).sd_]) ?_
    refine hg_istore (lv' := [(7, .int (c_sd N (nI t) (-1) (nC N))), (6, .int (stv N s (sd N s) t 0)), (5, .int (N 5 (60 * (nV N - 1) + t))), (4, .int (nI (60 * nV N + t))), (3, .int (nI (60 * bs N s + t))), (0, .ref r), (1, .int (nI s)), (2, .int (nI t))]) C d_Rf_merge_67 (by decide) rfl ?_
    refine hg_aload_n C 5 d_Rf_merge_69 rfl rfl ?_
    refine f_Rf_20 C R3.1 rfl d_Rf_merge_70 ?_
    refine hg_iload_n C 4 d_Rf_merge_73 rfl rfl ?_
    have b74 : 60 * bs N s + t < 2400 := (by omega)
    refine hg_zald C 2 (R3.2.1 5 rfl) rfl (vp_in_nI (N := 2400) b74 (by omega)) d_Rf_merge_74 ?_
    refine hg_ti (congrArg (M2 5) (nI_clamp (n := 60 * bs N s + t) (by omega))) ?_
    refine hg_ti (show M2 5 (60 * bs N s + t) = M 5 (60 * bs N s + t) by rw [eM2, mset_s, pk_un (by omega)]) ?_
    refine hg_ti (show M 5 (60 * bs N s + t) = N 5 (60 * bs N s + t) from hA.2.1 (60 * bs N s + t) (by omega)) ?_
    refine hg_if_eq C 83 d_Rf_merge_75 (by decide) (fun c75 => ?_) (fun c75 => ?_)
    · refine hg_iconst (v := 1) C d_Rf_merge_83 (by decide) ?_
      refine hg_goto C 88 d_Rf_merge_84 (by decide) ?_
      refine hg_istore (lv' := [(8, .int 1), (7, .int (c_sd N (nI t) (-1) (nC N))), (6, .int (stv N s (sd N s) t 0)), (5, .int (N 5 (60 * (nV N - 1) + t))), (4, .int (nI (60 * nV N + t))), (3, .int (nI (60 * bs N s + t))), (0, .ref r), (1, .int (nI s)), (2, .int (nI t))]) C d_Rf_merge_88 (by decide) rfl ?_
      refine hg_aload_n C 6 d_Rf_merge_90 rfl rfl ?_
      refine f_Rf_20 C R3.1 rfl d_Rf_merge_91 ?_
      refine hg_iload_n C 5 d_Rf_merge_94 rfl rfl ?_
      have b95 : 60 * bs N s + t < 2400 := (by omega)
      refine hg_zald C 2 (R3.2.1 5 rfl) rfl (vp_in_nI (N := 2400) b95 (by omega)) d_Rf_merge_95 ?_
      refine hg_ti (congrArg (M2 5) (nI_clamp (n := 60 * bs N s + t) (by omega))) ?_
      refine hg_ti (show M2 5 (60 * bs N s + t) = M 5 (60 * bs N s + t) by rw [eM2, mset_s, pk_un (by omega)]) ?_
      refine hg_ti (show M 5 (60 * bs N s + t) = N 5 (60 * bs N s + t) from hA.2.1 (60 * bs N s + t) (by omega)) ?_
      refine hg_if_eq C 113 d_Rf_merge_96 (by decide) (fun _ => ?_) (fun z => absurd c75 z)
      refine hg_iload C 2 d_Rf_merge_113 rfl ?_
      refine hg_istore (lv' := [(9, .int (stv N s (sd N s) t 0)), (8, .int 1), (7, .int (c_sd N (nI t) (-1) (nC N))), (6, .int (stv N s (sd N s) t 0)), (5, .int (N 5 (60 * (nV N - 1) + t))), (4, .int (nI (60 * nV N + t))), (3, .int (nI (60 * bs N s + t))), (0, .ref r), (1, .int (nI s)), (2, .int (nI t))]) C d_Rf_merge_115 (by decide) rfl ?_
      refine hg_iload C 1 d_Rf_merge_117 rfl ?_
      refine hg_if_eq C 148 d_Rf_merge_119 (by decide) (fun z => absurd z (by decide)) (fun _ => ?_)
      refine hg_iload C 0 d_Rf_merge_122 rfl ?_
      refine hg_if_eq C 135 d_Rf_merge_124 (by decide) (fun c124 => ?_) (fun c124 => ?_)
      · refine hg_iload C 4 d_Rf_merge_135 rfl ?_
        refine hg_if_eq C 148 d_Rf_merge_137 (by decide) (fun c137 => ?_) (fun c137 => ?_)
        · exact hg_vretN C hr d_Rf_merge_148 (Nat.le_of_ble_eq_true rfl) (Nat.le_of_ble_eq_true rfl) (⟨rfl, by rw [m_merge, if_neg (fun z => z.1 c53), if_neg (fun z => z.2.elim (fun y => y.2 c124) (fun y => y.2 c137))]; rw [eM2] at R3; exact R3⟩)
        · refine hg_aload_n C 7 d_Rf_merge_140 rfl rfl ?_
          refine hg_iload_n C 8 d_Rf_merge_141 rfl rfl ?_
          refine hg_iload_n C 9 d_Rf_merge_142 rfl rfl ?_
          refine hg_iload C 0 d_Rf_merge_143 rfl ?_
          refine hg_VNz (q := ("ModelMergeModel", T_Rf, 31)) C (k_Rf_take l Γ _ r aa M2 R3 N hN hZ h40 s t hs htt (show agv M2 N by rw [eM2]; exact agv.set5 hAv (by omega)) (stv N s (sd N s) t 0) (j_wt N s t) (Or.inr ⟨c124, (fun z => z.elim (fun y => y.1 c75) (fun y => y.2 c124))⟩)) (cw_Rf_147 C.2.2.2.2.1 rfl rfl ⟨Nat.le_of_ble_eq_true rfl, Nat.le_of_ble_eq_true rfl⟩) R3.1 rfl rfl rfl (Nat.le_of_ble_eq_true rfl) d_Rf_merge_145 ⟨Nat.le_of_ble_eq_true rfl, Nat.le_of_ble_eq_true rfl⟩ (fun h4 R5 => ?_)
          exact hg_vretN C hr d_Rf_merge_148 (Nat.le_of_ble_eq_true rfl) (Nat.le_of_ble_eq_true rfl) (⟨rfl, by rw [m_merge, if_neg (fun z => z.1 c53), if_pos ⟨Or.inl c75, Or.inr ⟨(fun z => z.elim (fun y => y.1 c75) (fun y => y.2 c124)), c137⟩⟩]; rw [eM2] at R5; exact R5⟩)
      · refine hg_iload C 3 d_Rf_merge_127 rfl ?_
        refine hg_if_eq C 148 d_Rf_merge_129 (by decide) (fun z => absurd z c124) (fun _ => ?_)
        refine hg_goto C 140 d_Rf_merge_132 (by decide) ?_
        refine hg_aload_n C 7 d_Rf_merge_140 rfl rfl ?_
        refine hg_iload_n C 8 d_Rf_merge_141 rfl rfl ?_
        refine hg_iload_n C 9 d_Rf_merge_142 rfl rfl ?_
        refine hg_iload C 0 d_Rf_merge_143 rfl ?_
        refine hg_VNz (q := ("ModelMergeModel", T_Rf, 31)) C (k_Rf_take l Γ _ r aa M2 R3 N hN hZ h40 s t hs htt (show agv M2 N by rw [eM2]; exact agv.set5 hAv (by omega)) (stv N s (sd N s) t 0) (j_wt N s t) (Or.inl ⟨(stv_bool hN hs gsd (by omega)).resolve_left c124, Or.inr ⟨c75, c124⟩⟩)) (cw_Rf_147 C.2.2.2.2.1 rfl rfl ⟨Nat.le_of_ble_eq_true rfl, Nat.le_of_ble_eq_true rfl⟩) R3.1 rfl rfl rfl (Nat.le_of_ble_eq_true rfl) d_Rf_merge_145 ⟨Nat.le_of_ble_eq_true rfl, Nat.le_of_ble_eq_true rfl⟩ (fun h6 R7 => ?_)
        exact hg_vretN C hr d_Rf_merge_148 (Nat.le_of_ble_eq_true rfl) (Nat.le_of_ble_eq_true rfl) (⟨rfl, by rw [m_merge, if_neg (fun z => z.1 c53), if_pos ⟨Or.inl c75, Or.inl ⟨Or.inr ⟨c75, c124⟩, c124⟩⟩]; rw [eM2] at R7; exact R7⟩)
    · refine hg_iload C 0 d_Rf_merge_78 rfl ?_
      refine hg_if_lt C 87 d_Rf_merge_80 (by decide) (fun c80 => ?_) (fun c80 => ?_)
      · refine hg_iconst (v := 0) C d_Rf_merge_87 (by decide) ?_
        refine hg_istore (lv' := [(8, .int 0), (7, .int (c_sd N (nI t) (-1) (nC N))), (6, .int (stv N s (sd N s) t 0)), (5, .int (N 5 (60 * (nV N - 1) + t))), (4, .int (nI (60 * nV N + t))), (3, .int (nI (60 * bs N s + t))), (0, .ref r), (1, .int (nI s)), (2, .int (nI t))]) C d_Rf_merge_88 (by decide) rfl ?_
        refine hg_aload_n C 6 d_Rf_merge_90 rfl rfl ?_
        refine f_Rf_20 C R3.1 rfl d_Rf_merge_91 ?_
        refine hg_iload_n C 5 d_Rf_merge_94 rfl rfl ?_
        have b95 : 60 * bs N s + t < 2400 := (by omega)
        refine hg_zald C 2 (R3.2.1 5 rfl) rfl (vp_in_nI (N := 2400) b95 (by omega)) d_Rf_merge_95 ?_
        refine hg_ti (congrArg (M2 5) (nI_clamp (n := 60 * bs N s + t) (by omega))) ?_
        refine hg_ti (show M2 5 (60 * bs N s + t) = M 5 (60 * bs N s + t) by rw [eM2, mset_s, pk_un (by omega)]) ?_
        refine hg_ti (show M 5 (60 * bs N s + t) = N 5 (60 * bs N s + t) from hA.2.1 (60 * bs N s + t) (by omega)) ?_
        refine hg_if_eq C 113 d_Rf_merge_96 (by decide) (fun z => absurd z c75) (fun _ => ?_)
        refine hg_iload C 1 d_Rf_merge_99 rfl ?_
        refine hg_iconst (v := 1) C d_Rf_merge_101 (by decide) ?_
        refine hg_icmp_ne C 109 d_Rf_merge_102 (by decide) (fun c102 => ?_) (fun c102 => ?_)
        · refine hg_iconst (v := 0) C d_Rf_merge_109 (by decide) ?_
          refine hg_goto C 115 d_Rf_merge_110 (by decide) ?_
          refine hg_istore (lv' := [(9, .int 0), (8, .int 0), (7, .int (c_sd N (nI t) (-1) (nC N))), (6, .int (stv N s (sd N s) t 0)), (5, .int (N 5 (60 * (nV N - 1) + t))), (4, .int (nI (60 * nV N + t))), (3, .int (nI (60 * bs N s + t))), (0, .ref r), (1, .int (nI s)), (2, .int (nI t))]) C d_Rf_merge_115 (by decide) rfl ?_
          refine hg_iload C 1 d_Rf_merge_117 rfl ?_
          refine hg_if_eq C 148 d_Rf_merge_119 (by decide) (fun _ => ?_) (fun z => absurd (by decide) z)
          exact hg_vretN C hr d_Rf_merge_148 (Nat.le_of_ble_eq_true rfl) (Nat.le_of_ble_eq_true rfl) (⟨rfl, by rw [m_merge, if_neg (fun z => z.1 c53), if_neg (fun z => z.1.elim c75 (fun y => y c80))]; rw [eM2] at R3; exact R3⟩)
        · refine hg_iconst (v := 1) C d_Rf_merge_105 (by decide) ?_
          refine hg_goto C 115 d_Rf_merge_106 (by decide) ?_
          refine hg_istore (lv' := [(9, .int 1), (8, .int 0), (7, .int (c_sd N (nI t) (-1) (nC N))), (6, .int (stv N s (sd N s) t 0)), (5, .int (N 5 (60 * (nV N - 1) + t))), (4, .int (nI (60 * nV N + t))), (3, .int (nI (60 * bs N s + t))), (0, .ref r), (1, .int (nI s)), (2, .int (nI t))]) C d_Rf_merge_115 (by decide) rfl ?_
          refine hg_iload C 1 d_Rf_merge_117 rfl ?_
          refine hg_if_eq C 148 d_Rf_merge_119 (by decide) (fun _ => ?_) (fun z => absurd (by decide) z)
          exact hg_vretN C hr d_Rf_merge_148 (Nat.le_of_ble_eq_true rfl) (Nat.le_of_ble_eq_true rfl) (⟨rfl, by rw [m_merge, if_neg (fun z => z.1 c53), if_neg (fun z => z.1.elim c75 (fun y => y c80))]; rw [eM2] at R3; exact R3⟩)
      · refine hg_iconst (v := 1) C d_Rf_merge_83 (by decide) ?_
        refine hg_goto C 88 d_Rf_merge_84 (by decide) ?_
        refine hg_istore (lv' := [(8, .int 1), (7, .int (c_sd N (nI t) (-1) (nC N))), (6, .int (stv N s (sd N s) t 0)), (5, .int (N 5 (60 * (nV N - 1) + t))), (4, .int (nI (60 * nV N + t))), (3, .int (nI (60 * bs N s + t))), (0, .ref r), (1, .int (nI s)), (2, .int (nI t))]) C d_Rf_merge_88 (by decide) rfl ?_
        refine hg_aload_n C 6 d_Rf_merge_90 rfl rfl ?_
        refine f_Rf_20 C R3.1 rfl d_Rf_merge_91 ?_
        refine hg_iload_n C 5 d_Rf_merge_94 rfl rfl ?_
        have b95 : 60 * bs N s + t < 2400 := (by omega)
        refine hg_zald C 2 (R3.2.1 5 rfl) rfl (vp_in_nI (N := 2400) b95 (by omega)) d_Rf_merge_95 ?_
        refine hg_ti (congrArg (M2 5) (nI_clamp (n := 60 * bs N s + t) (by omega))) ?_
        refine hg_ti (show M2 5 (60 * bs N s + t) = M 5 (60 * bs N s + t) by rw [eM2, mset_s, pk_un (by omega)]) ?_
        refine hg_ti (show M 5 (60 * bs N s + t) = N 5 (60 * bs N s + t) from hA.2.1 (60 * bs N s + t) (by omega)) ?_
        refine hg_if_eq C 113 d_Rf_merge_96 (by decide) (fun z => absurd z c75) (fun _ => ?_)
        refine hg_iload C 1 d_Rf_merge_99 rfl ?_
        refine hg_iconst (v := 1) C d_Rf_merge_101 (by decide) ?_
        refine hg_icmp_ne C 109 d_Rf_merge_102 (by decide) (fun c102 => ?_) (fun c102 => ?_)
        · refine hg_iconst (v := 0) C d_Rf_merge_109 (by decide) ?_
          refine hg_goto C 115 d_Rf_merge_110 (by decide) ?_
          refine hg_istore (lv' := [(9, .int 0), (8, .int 1), (7, .int (c_sd N (nI t) (-1) (nC N))), (6, .int (stv N s (sd N s) t 0)), (5, .int (N 5 (60 * (nV N - 1) + t))), (4, .int (nI (60 * nV N + t))), (3, .int (nI (60 * bs N s + t))), (0, .ref r), (1, .int (nI s)), (2, .int (nI t))]) C d_Rf_merge_115 (by decide) rfl ?_
          refine hg_iload C 1 d_Rf_merge_117 rfl ?_
          refine hg_if_eq C 148 d_Rf_merge_119 (by decide) (fun z => absurd z (by decide)) (fun _ => ?_)
          refine hg_iload C 0 d_Rf_merge_122 rfl ?_
          refine hg_if_eq C 135 d_Rf_merge_124 (by decide) (fun _ => ?_) (fun z => absurd (by decide) z)
          refine hg_iload C 4 d_Rf_merge_135 rfl ?_
          refine hg_if_eq C 148 d_Rf_merge_137 (by decide) (fun c137 => ?_) (fun c137 => ?_)
          · exact hg_vretN C hr d_Rf_merge_148 (Nat.le_of_ble_eq_true rfl) (Nat.le_of_ble_eq_true rfl) (⟨rfl, by rw [m_merge, if_neg (fun z => z.1 c53), if_neg (fun z => z.2.elim (fun y => (fun z => z.elim (fun y => c102 y.2) (fun y => c75 y.1)) y.1) (fun y => y.2 c137))]; rw [eM2] at R3; exact R3⟩)
          · refine hg_aload_n C 7 d_Rf_merge_140 rfl rfl ?_
            refine hg_iload_n C 8 d_Rf_merge_141 rfl rfl ?_
            refine hg_iload_n C 9 d_Rf_merge_142 rfl rfl ?_
            refine hg_iload C 0 d_Rf_merge_143 rfl ?_
            refine hg_VNz (q := ("ModelMergeModel", T_Rf, 31)) C (k_Rf_take l Γ _ r aa M2 R3 N hN hZ h40 s t hs htt (show agv M2 N by rw [eM2]; exact agv.set5 hAv (by omega)) 0 (j_wt N s t) (Or.inr ⟨rfl, (fun z => z.elim (fun y => c102 y.2) (fun y => c75 y.1))⟩)) (cw_Rf_147 C.2.2.2.2.1 rfl rfl ⟨Nat.le_of_ble_eq_true rfl, Nat.le_of_ble_eq_true rfl⟩) R3.1 rfl rfl rfl (Nat.le_of_ble_eq_true rfl) d_Rf_merge_145 ⟨Nat.le_of_ble_eq_true rfl, Nat.le_of_ble_eq_true rfl⟩ (fun h8 R9 => ?_)
            exact hg_vretN C hr d_Rf_merge_148 (Nat.le_of_ble_eq_true rfl) (Nat.le_of_ble_eq_true rfl) (⟨rfl, by rw [m_merge, if_neg (fun z => z.1 c53), if_pos ⟨Or.inr c80, Or.inr ⟨(fun z => z.elim (fun y => c102 y.2) (fun y => c75 y.1)), c137⟩⟩]; rw [eM2] at R9; exact R9⟩)
        · refine hg_iconst (v := 1) C d_Rf_merge_105 (by decide) ?_
          refine hg_goto C 115 d_Rf_merge_106 (by decide) ?_
          refine hg_istore (lv' := [(9, .int 1), (8, .int 1), (7, .int (c_sd N (nI t) (-1) (nC N))), (6, .int (stv N s (sd N s) t 0)), (5, .int (N 5 (60 * (nV N - 1) + t))), (4, .int (nI (60 * nV N + t))), (3, .int (nI (60 * bs N s + t))), (0, .ref r), (1, .int (nI s)), (2, .int (nI t))]) C d_Rf_merge_115 (by decide) rfl ?_
          refine hg_iload C 1 d_Rf_merge_117 rfl ?_
          refine hg_if_eq C 148 d_Rf_merge_119 (by decide) (fun z => absurd z (by decide)) (fun _ => ?_)
          refine hg_iload C 0 d_Rf_merge_122 rfl ?_
          refine hg_if_eq C 135 d_Rf_merge_124 (by decide) (fun z => absurd z (by decide)) (fun _ => ?_)
          refine hg_iload C 3 d_Rf_merge_127 rfl ?_
          refine hg_if_eq C 148 d_Rf_merge_129 (by decide) (fun c129 => ?_) (fun c129 => ?_)
          · exact hg_vretN C hr d_Rf_merge_148 (Nat.le_of_ble_eq_true rfl) (Nat.le_of_ble_eq_true rfl) (⟨rfl, by rw [m_merge, if_neg (fun z => z.1 c53), if_neg (fun z => z.2.elim (fun y => y.2 c129) (fun y => y.1 (Or.inl ⟨c75, c102⟩)))]; rw [eM2] at R3; exact R3⟩)
          · refine hg_goto C 140 d_Rf_merge_132 (by decide) ?_
            refine hg_aload_n C 7 d_Rf_merge_140 rfl rfl ?_
            refine hg_iload_n C 8 d_Rf_merge_141 rfl rfl ?_
            refine hg_iload_n C 9 d_Rf_merge_142 rfl rfl ?_
            refine hg_iload C 0 d_Rf_merge_143 rfl ?_
            refine hg_VNz (q := ("ModelMergeModel", T_Rf, 31)) C (k_Rf_take l Γ _ r aa M2 R3 N hN hZ h40 s t hs htt (show agv M2 N by rw [eM2]; exact agv.set5 hAv (by omega)) 1 (j_wt N s t) (Or.inl ⟨rfl, Or.inl ⟨c75, c102⟩⟩)) (cw_Rf_147 C.2.2.2.2.1 rfl rfl ⟨Nat.le_of_ble_eq_true rfl, Nat.le_of_ble_eq_true rfl⟩) R3.1 rfl rfl rfl (Nat.le_of_ble_eq_true rfl) d_Rf_merge_145 ⟨Nat.le_of_ble_eq_true rfl, Nat.le_of_ble_eq_true rfl⟩ (fun h10 R11 => ?_)
            exact hg_vretN C hr d_Rf_merge_148 (Nat.le_of_ble_eq_true rfl) (Nat.le_of_ble_eq_true rfl) (⟨rfl, by rw [m_merge, if_neg (fun z => z.1 c53), if_pos ⟨Or.inr c80, Or.inl ⟨Or.inl ⟨c75, c102⟩, c129⟩⟩]; rw [eM2] at R11; exact R11⟩)
  · refine hg_iload C 0 d_Rf_merge_56 rfl ?_
    refine hg_if_ne C 149 d_Rf_merge_58 (by decide) (fun c58 => ?_) (fun c58 => ?_)
    · refine hg_aload_n C 4 d_Rf_merge_149 rfl rfl ?_
      refine f_Rf_20 C R3.1 rfl d_Rf_merge_150 ?_
      refine hg_iload C 2 d_Rf_merge_153 rfl ?_
      refine hg_iconst (v := 1) C d_Rf_merge_155 (by decide) ?_
      have b156 : 60 * nV N + t < 2400 := (by omega)
      refine hg_zast C 2 (R3.2.1 5 rfl) rfl (vp_in_nI (N := 2400) b156 (by omega)) d_Rf_merge_156 ?_
      obtain ⟨h12, eh12⟩ : ∃ z, z = hp_up h1 (aa 5) (.inl (Γ.2.1 2, 2400, .inl (upd (M2 5) (nI (60 * nV N + t) : Int32).toNatClampNeg (vp_nar .boolean 1)))) := ⟨_, rfl⟩
      refine hg_eq eh12.symm ?_
      have R14 : rf_at Γ r aa (mset M2 5 (60 * nV N + t) 1) h12 := by rw [eh12]; rw [nI_clamp (n := 60 * nV N + t) (by omega)]; rw [show vp_nar .boolean 1 = 1 from rfl]; exact rf_put R3 5 (60 * nV N + t) 1 rfl
      obtain ⟨M13, eM13⟩ : ∃ z, z = mset M2 5 (60 * nV N + t) 1 := ⟨_, rfl⟩
      rw [← eM13] at R14
      refine hg_iconst (v := 0) C d_Rf_merge_157 (by decide) ?_
      refine hg_istore (lv' := [(7, .int 0), (6, .int (stv N s (sd N s) t 0)), (5, .int (N 5 (60 * (nV N - 1) + t))), (4, .int (nI (60 * nV N + t))), (3, .int (nI (60 * bs N s + t))), (0, .ref r), (1, .int (nI s)), (2, .int (nI t))]) C d_Rf_merge_158 (by decide) rfl ?_
      rw [m_merge, if_pos ⟨c53, c58⟩]
      rw [eM13, eM2] at R14
      exact hg_lv (ks := [0, 1, 2, 3, 4, 6, 7, 5]) rfl (lp_Rf_merge l Γ C hN hZ h40 hs htt ((hAv.set5 (by omega)).set5 (by omega)) hr 6 0 _ (by omega) (by omega) R14)
    · refine hg_aload_n C 4 d_Rf_merge_61 rfl rfl ?_
      refine hg_iload_n C 6 d_Rf_merge_62 rfl rfl ?_
      refine hg_iconst (v := (-1)) C d_Rf_merge_63 (by decide) ?_
      refine hg_VNv (q := ("ModelMergeModel", T_Rf, 31)) C (k_Rf_sideOf l Γ _ r aa M2 R3 (((show agv M2 N by rw [eM2]; exact agv.set5 hAv (by omega))).inv hN) (nI t) (-1)) (cw_Rf_144 C.2.2.2.2.1 rfl rfl ⟨Nat.le_of_ble_eq_true rfl, Nat.le_of_ble_eq_true rfl⟩) R3.1 rfl rfl rfl (Nat.le_of_ble_eq_true rfl) d_Rf_merge_64 ⟨Nat.le_of_ble_eq_true rfl, Nat.le_of_ble_eq_true rfl⟩ (fun _ => ?_)
      refine hg_ti (show c_sd M2 (nI t) (-1) (nC M2) = c_sd N (nI t) (-1) (nC N) by rw [(show agv M2 N by rw [eM2]; exact agv.set5 hAv (by omega)).C, (show agv M2 N by rw [eM2]; exact agv.set5 hAv (by omega)).sd_]) ?_
      refine hg_istore (lv' := [(7, .int (c_sd N (nI t) (-1) (nC N))), (6, .int (stv N s (sd N s) t 0)), (5, .int (N 5 (60 * (nV N - 1) + t))), (4, .int (nI (60 * nV N + t))), (3, .int (nI (60 * bs N s + t))), (0, .ref r), (1, .int (nI s)), (2, .int (nI t))]) C d_Rf_merge_67 (by decide) rfl ?_
      refine hg_aload_n C 5 d_Rf_merge_69 rfl rfl ?_
      refine f_Rf_20 C R3.1 rfl d_Rf_merge_70 ?_
      refine hg_iload_n C 4 d_Rf_merge_73 rfl rfl ?_
      have b74 : 60 * bs N s + t < 2400 := (by omega)
      refine hg_zald C 2 (R3.2.1 5 rfl) rfl (vp_in_nI (N := 2400) b74 (by omega)) d_Rf_merge_74 ?_
      refine hg_ti (congrArg (M2 5) (nI_clamp (n := 60 * bs N s + t) (by omega))) ?_
      refine hg_ti (show M2 5 (60 * bs N s + t) = M 5 (60 * bs N s + t) by rw [eM2, mset_s, pk_un (by omega)]) ?_
      refine hg_ti (show M 5 (60 * bs N s + t) = N 5 (60 * bs N s + t) from hA.2.1 (60 * bs N s + t) (by omega)) ?_
      refine hg_if_eq C 83 d_Rf_merge_75 (by decide) (fun c75 => ?_) (fun c75 => ?_)
      · refine hg_iconst (v := 1) C d_Rf_merge_83 (by decide) ?_
        refine hg_goto C 88 d_Rf_merge_84 (by decide) ?_
        refine hg_istore (lv' := [(8, .int 1), (7, .int (c_sd N (nI t) (-1) (nC N))), (6, .int (stv N s (sd N s) t 0)), (5, .int (N 5 (60 * (nV N - 1) + t))), (4, .int (nI (60 * nV N + t))), (3, .int (nI (60 * bs N s + t))), (0, .ref r), (1, .int (nI s)), (2, .int (nI t))]) C d_Rf_merge_88 (by decide) rfl ?_
        refine hg_aload_n C 6 d_Rf_merge_90 rfl rfl ?_
        refine f_Rf_20 C R3.1 rfl d_Rf_merge_91 ?_
        refine hg_iload_n C 5 d_Rf_merge_94 rfl rfl ?_
        have b95 : 60 * bs N s + t < 2400 := (by omega)
        refine hg_zald C 2 (R3.2.1 5 rfl) rfl (vp_in_nI (N := 2400) b95 (by omega)) d_Rf_merge_95 ?_
        refine hg_ti (congrArg (M2 5) (nI_clamp (n := 60 * bs N s + t) (by omega))) ?_
        refine hg_ti (show M2 5 (60 * bs N s + t) = M 5 (60 * bs N s + t) by rw [eM2, mset_s, pk_un (by omega)]) ?_
        refine hg_ti (show M 5 (60 * bs N s + t) = N 5 (60 * bs N s + t) from hA.2.1 (60 * bs N s + t) (by omega)) ?_
        refine hg_if_eq C 113 d_Rf_merge_96 (by decide) (fun _ => ?_) (fun z => absurd c75 z)
        refine hg_iload C 2 d_Rf_merge_113 rfl ?_
        refine hg_istore (lv' := [(9, .int (stv N s (sd N s) t 0)), (8, .int 1), (7, .int (c_sd N (nI t) (-1) (nC N))), (6, .int (stv N s (sd N s) t 0)), (5, .int (N 5 (60 * (nV N - 1) + t))), (4, .int (nI (60 * nV N + t))), (3, .int (nI (60 * bs N s + t))), (0, .ref r), (1, .int (nI s)), (2, .int (nI t))]) C d_Rf_merge_115 (by decide) rfl ?_
        refine hg_iload C 1 d_Rf_merge_117 rfl ?_
        refine hg_if_eq C 148 d_Rf_merge_119 (by decide) (fun z => absurd z (by decide)) (fun _ => ?_)
        refine hg_iload C 0 d_Rf_merge_122 rfl ?_
        refine hg_if_eq C 135 d_Rf_merge_124 (by decide) (fun c124 => ?_) (fun c124 => ?_)
        · refine hg_iload C 4 d_Rf_merge_135 rfl ?_
          refine hg_if_eq C 148 d_Rf_merge_137 (by decide) (fun c137 => ?_) (fun c137 => ?_)
          · exact hg_vretN C hr d_Rf_merge_148 (Nat.le_of_ble_eq_true rfl) (Nat.le_of_ble_eq_true rfl) (⟨rfl, by rw [m_merge, if_neg (fun z => z.2 c58), if_neg (fun z => z.2.elim (fun y => y.2 c124) (fun y => y.2 c137))]; rw [eM2] at R3; exact R3⟩)
          · refine hg_aload_n C 7 d_Rf_merge_140 rfl rfl ?_
            refine hg_iload_n C 8 d_Rf_merge_141 rfl rfl ?_
            refine hg_iload_n C 9 d_Rf_merge_142 rfl rfl ?_
            refine hg_iload C 0 d_Rf_merge_143 rfl ?_
            refine hg_VNz (q := ("ModelMergeModel", T_Rf, 31)) C (k_Rf_take l Γ _ r aa M2 R3 N hN hZ h40 s t hs htt (show agv M2 N by rw [eM2]; exact agv.set5 hAv (by omega)) (stv N s (sd N s) t 0) (j_wt N s t) (Or.inr ⟨c124, (fun z => z.elim (fun y => y.1 c75) (fun y => y.2 c124))⟩)) (cw_Rf_147 C.2.2.2.2.1 rfl rfl ⟨Nat.le_of_ble_eq_true rfl, Nat.le_of_ble_eq_true rfl⟩) R3.1 rfl rfl rfl (Nat.le_of_ble_eq_true rfl) d_Rf_merge_145 ⟨Nat.le_of_ble_eq_true rfl, Nat.le_of_ble_eq_true rfl⟩ (fun h15 R16 => ?_)
            exact hg_vretN C hr d_Rf_merge_148 (Nat.le_of_ble_eq_true rfl) (Nat.le_of_ble_eq_true rfl) (⟨rfl, by rw [m_merge, if_neg (fun z => z.2 c58), if_pos ⟨Or.inl c75, Or.inr ⟨(fun z => z.elim (fun y => y.1 c75) (fun y => y.2 c124)), c137⟩⟩]; rw [eM2] at R16; exact R16⟩)
        · refine hg_iload C 3 d_Rf_merge_127 rfl ?_
          refine hg_if_eq C 148 d_Rf_merge_129 (by decide) (fun z => absurd z c124) (fun _ => ?_)
          refine hg_goto C 140 d_Rf_merge_132 (by decide) ?_
          refine hg_aload_n C 7 d_Rf_merge_140 rfl rfl ?_
          refine hg_iload_n C 8 d_Rf_merge_141 rfl rfl ?_
          refine hg_iload_n C 9 d_Rf_merge_142 rfl rfl ?_
          refine hg_iload C 0 d_Rf_merge_143 rfl ?_
          refine hg_VNz (q := ("ModelMergeModel", T_Rf, 31)) C (k_Rf_take l Γ _ r aa M2 R3 N hN hZ h40 s t hs htt (show agv M2 N by rw [eM2]; exact agv.set5 hAv (by omega)) (stv N s (sd N s) t 0) (j_wt N s t) (Or.inl ⟨(stv_bool hN hs gsd (by omega)).resolve_left c124, Or.inr ⟨c75, c124⟩⟩)) (cw_Rf_147 C.2.2.2.2.1 rfl rfl ⟨Nat.le_of_ble_eq_true rfl, Nat.le_of_ble_eq_true rfl⟩) R3.1 rfl rfl rfl (Nat.le_of_ble_eq_true rfl) d_Rf_merge_145 ⟨Nat.le_of_ble_eq_true rfl, Nat.le_of_ble_eq_true rfl⟩ (fun h17 R18 => ?_)
          exact hg_vretN C hr d_Rf_merge_148 (Nat.le_of_ble_eq_true rfl) (Nat.le_of_ble_eq_true rfl) (⟨rfl, by rw [m_merge, if_neg (fun z => z.2 c58), if_pos ⟨Or.inl c75, Or.inl ⟨Or.inr ⟨c75, c124⟩, c124⟩⟩]; rw [eM2] at R18; exact R18⟩)
      · refine hg_iload C 0 d_Rf_merge_78 rfl ?_
        refine hg_if_lt C 87 d_Rf_merge_80 (by decide) (fun c80 => ?_) (fun c80 => ?_)
        · refine hg_iconst (v := 0) C d_Rf_merge_87 (by decide) ?_
          refine hg_istore (lv' := [(8, .int 0), (7, .int (c_sd N (nI t) (-1) (nC N))), (6, .int (stv N s (sd N s) t 0)), (5, .int (N 5 (60 * (nV N - 1) + t))), (4, .int (nI (60 * nV N + t))), (3, .int (nI (60 * bs N s + t))), (0, .ref r), (1, .int (nI s)), (2, .int (nI t))]) C d_Rf_merge_88 (by decide) rfl ?_
          refine hg_aload_n C 6 d_Rf_merge_90 rfl rfl ?_
          refine f_Rf_20 C R3.1 rfl d_Rf_merge_91 ?_
          refine hg_iload_n C 5 d_Rf_merge_94 rfl rfl ?_
          have b95 : 60 * bs N s + t < 2400 := (by omega)
          refine hg_zald C 2 (R3.2.1 5 rfl) rfl (vp_in_nI (N := 2400) b95 (by omega)) d_Rf_merge_95 ?_
          refine hg_ti (congrArg (M2 5) (nI_clamp (n := 60 * bs N s + t) (by omega))) ?_
          refine hg_ti (show M2 5 (60 * bs N s + t) = M 5 (60 * bs N s + t) by rw [eM2, mset_s, pk_un (by omega)]) ?_
          refine hg_ti (show M 5 (60 * bs N s + t) = N 5 (60 * bs N s + t) from hA.2.1 (60 * bs N s + t) (by omega)) ?_
          refine hg_if_eq C 113 d_Rf_merge_96 (by decide) (fun z => absurd z c75) (fun _ => ?_)
          refine hg_iload C 1 d_Rf_merge_99 rfl ?_
          refine hg_iconst (v := 1) C d_Rf_merge_101 (by decide) ?_
          refine hg_icmp_ne C 109 d_Rf_merge_102 (by decide) (fun c102 => ?_) (fun c102 => ?_)
          · refine hg_iconst (v := 0) C d_Rf_merge_109 (by decide) ?_
            refine hg_goto C 115 d_Rf_merge_110 (by decide) ?_
            refine hg_istore (lv' := [(9, .int 0), (8, .int 0), (7, .int (c_sd N (nI t) (-1) (nC N))), (6, .int (stv N s (sd N s) t 0)), (5, .int (N 5 (60 * (nV N - 1) + t))), (4, .int (nI (60 * nV N + t))), (3, .int (nI (60 * bs N s + t))), (0, .ref r), (1, .int (nI s)), (2, .int (nI t))]) C d_Rf_merge_115 (by decide) rfl ?_
            refine hg_iload C 1 d_Rf_merge_117 rfl ?_
            refine hg_if_eq C 148 d_Rf_merge_119 (by decide) (fun _ => ?_) (fun z => absurd (by decide) z)
            exact hg_vretN C hr d_Rf_merge_148 (Nat.le_of_ble_eq_true rfl) (Nat.le_of_ble_eq_true rfl) (⟨rfl, by rw [m_merge, if_neg (fun z => z.2 c58), if_neg (fun z => z.1.elim c75 (fun y => y c80))]; rw [eM2] at R3; exact R3⟩)
          · refine hg_iconst (v := 1) C d_Rf_merge_105 (by decide) ?_
            refine hg_goto C 115 d_Rf_merge_106 (by decide) ?_
            refine hg_istore (lv' := [(9, .int 1), (8, .int 0), (7, .int (c_sd N (nI t) (-1) (nC N))), (6, .int (stv N s (sd N s) t 0)), (5, .int (N 5 (60 * (nV N - 1) + t))), (4, .int (nI (60 * nV N + t))), (3, .int (nI (60 * bs N s + t))), (0, .ref r), (1, .int (nI s)), (2, .int (nI t))]) C d_Rf_merge_115 (by decide) rfl ?_
            refine hg_iload C 1 d_Rf_merge_117 rfl ?_
            refine hg_if_eq C 148 d_Rf_merge_119 (by decide) (fun _ => ?_) (fun z => absurd (by decide) z)
            exact hg_vretN C hr d_Rf_merge_148 (Nat.le_of_ble_eq_true rfl) (Nat.le_of_ble_eq_true rfl) (⟨rfl, by rw [m_merge, if_neg (fun z => z.2 c58), if_neg (fun z => z.1.elim c75 (fun y => y c80))]; rw [eM2] at R3; exact R3⟩)
        · refine hg_iconst (v := 1) C d_Rf_merge_83 (by decide) ?_
          refine hg_goto C 88 d_Rf_merge_84 (by decide) ?_
          refine hg_istore (lv' := [(8, .int 1), (7, .int (c_sd N (nI t) (-1) (nC N))), (6, .int (stv N s (sd N s) t 0)), (5, .int (N 5 (60 * (nV N - 1) + t))), (4, .int (nI (60 * nV N + t))), (3, .int (nI (60 * bs N s + t))), (0, .ref r), (1, .int (nI s)), (2, .int (nI t))]) C d_Rf_merge_88 (by decide) rfl ?_
          refine hg_aload_n C 6 d_Rf_merge_90 rfl rfl ?_
          refine f_Rf_20 C R3.1 rfl d_Rf_merge_91 ?_
          refine hg_iload_n C 5 d_Rf_merge_94 rfl rfl ?_
          have b95 : 60 * bs N s + t < 2400 := (by omega)
          refine hg_zald C 2 (R3.2.1 5 rfl) rfl (vp_in_nI (N := 2400) b95 (by omega)) d_Rf_merge_95 ?_
          refine hg_ti (congrArg (M2 5) (nI_clamp (n := 60 * bs N s + t) (by omega))) ?_
          refine hg_ti (show M2 5 (60 * bs N s + t) = M 5 (60 * bs N s + t) by rw [eM2, mset_s, pk_un (by omega)]) ?_
          refine hg_ti (show M 5 (60 * bs N s + t) = N 5 (60 * bs N s + t) from hA.2.1 (60 * bs N s + t) (by omega)) ?_
          refine hg_if_eq C 113 d_Rf_merge_96 (by decide) (fun z => absurd z c75) (fun _ => ?_)
          refine hg_iload C 1 d_Rf_merge_99 rfl ?_
          refine hg_iconst (v := 1) C d_Rf_merge_101 (by decide) ?_
          refine hg_icmp_ne C 109 d_Rf_merge_102 (by decide) (fun c102 => ?_) (fun c102 => ?_)
          · refine hg_iconst (v := 0) C d_Rf_merge_109 (by decide) ?_
            refine hg_goto C 115 d_Rf_merge_110 (by decide) ?_
            refine hg_istore (lv' := [(9, .int 0), (8, .int 1), (7, .int (c_sd N (nI t) (-1) (nC N))), (6, .int (stv N s (sd N s) t 0)), (5, .int (N 5 (60 * (nV N - 1) + t))), (4, .int (nI (60 * nV N + t))), (3, .int (nI (60 * bs N s + t))), (0, .ref r), (1, .int (nI s)), (2, .int (nI t))]) C d_Rf_merge_115 (by decide) rfl ?_
            refine hg_iload C 1 d_Rf_merge_117 rfl ?_
            refine hg_if_eq C 148 d_Rf_merge_119 (by decide) (fun z => absurd z (by decide)) (fun _ => ?_)
            refine hg_iload C 0 d_Rf_merge_122 rfl ?_
            refine hg_if_eq C 135 d_Rf_merge_124 (by decide) (fun _ => ?_) (fun z => absurd (by decide) z)
            refine hg_iload C 4 d_Rf_merge_135 rfl ?_
            refine hg_if_eq C 148 d_Rf_merge_137 (by decide) (fun c137 => ?_) (fun c137 => ?_)
            · exact hg_vretN C hr d_Rf_merge_148 (Nat.le_of_ble_eq_true rfl) (Nat.le_of_ble_eq_true rfl) (⟨rfl, by rw [m_merge, if_neg (fun z => z.2 c58), if_neg (fun z => z.2.elim (fun y => (fun z => z.elim (fun y => c102 y.2) (fun y => c75 y.1)) y.1) (fun y => y.2 c137))]; rw [eM2] at R3; exact R3⟩)
            · refine hg_aload_n C 7 d_Rf_merge_140 rfl rfl ?_
              refine hg_iload_n C 8 d_Rf_merge_141 rfl rfl ?_
              refine hg_iload_n C 9 d_Rf_merge_142 rfl rfl ?_
              refine hg_iload C 0 d_Rf_merge_143 rfl ?_
              refine hg_VNz (q := ("ModelMergeModel", T_Rf, 31)) C (k_Rf_take l Γ _ r aa M2 R3 N hN hZ h40 s t hs htt (show agv M2 N by rw [eM2]; exact agv.set5 hAv (by omega)) 0 (j_wt N s t) (Or.inr ⟨rfl, (fun z => z.elim (fun y => c102 y.2) (fun y => c75 y.1))⟩)) (cw_Rf_147 C.2.2.2.2.1 rfl rfl ⟨Nat.le_of_ble_eq_true rfl, Nat.le_of_ble_eq_true rfl⟩) R3.1 rfl rfl rfl (Nat.le_of_ble_eq_true rfl) d_Rf_merge_145 ⟨Nat.le_of_ble_eq_true rfl, Nat.le_of_ble_eq_true rfl⟩ (fun h19 R20 => ?_)
              exact hg_vretN C hr d_Rf_merge_148 (Nat.le_of_ble_eq_true rfl) (Nat.le_of_ble_eq_true rfl) (⟨rfl, by rw [m_merge, if_neg (fun z => z.2 c58), if_pos ⟨Or.inr c80, Or.inr ⟨(fun z => z.elim (fun y => c102 y.2) (fun y => c75 y.1)), c137⟩⟩]; rw [eM2] at R20; exact R20⟩)
          · refine hg_iconst (v := 1) C d_Rf_merge_105 (by decide) ?_
            refine hg_goto C 115 d_Rf_merge_106 (by decide) ?_
            refine hg_istore (lv' := [(9, .int 1), (8, .int 1), (7, .int (c_sd N (nI t) (-1) (nC N))), (6, .int (stv N s (sd N s) t 0)), (5, .int (N 5 (60 * (nV N - 1) + t))), (4, .int (nI (60 * nV N + t))), (3, .int (nI (60 * bs N s + t))), (0, .ref r), (1, .int (nI s)), (2, .int (nI t))]) C d_Rf_merge_115 (by decide) rfl ?_
            refine hg_iload C 1 d_Rf_merge_117 rfl ?_
            refine hg_if_eq C 148 d_Rf_merge_119 (by decide) (fun z => absurd z (by decide)) (fun _ => ?_)
            refine hg_iload C 0 d_Rf_merge_122 rfl ?_
            refine hg_if_eq C 135 d_Rf_merge_124 (by decide) (fun z => absurd z (by decide)) (fun _ => ?_)
            refine hg_iload C 3 d_Rf_merge_127 rfl ?_
            refine hg_if_eq C 148 d_Rf_merge_129 (by decide) (fun c129 => ?_) (fun c129 => ?_)
            · exact hg_vretN C hr d_Rf_merge_148 (Nat.le_of_ble_eq_true rfl) (Nat.le_of_ble_eq_true rfl) (⟨rfl, by rw [m_merge, if_neg (fun z => z.2 c58), if_neg (fun z => z.2.elim (fun y => y.2 c129) (fun y => y.1 (Or.inl ⟨c75, c102⟩)))]; rw [eM2] at R3; exact R3⟩)
            · refine hg_goto C 140 d_Rf_merge_132 (by decide) ?_
              refine hg_aload_n C 7 d_Rf_merge_140 rfl rfl ?_
              refine hg_iload_n C 8 d_Rf_merge_141 rfl rfl ?_
              refine hg_iload_n C 9 d_Rf_merge_142 rfl rfl ?_
              refine hg_iload C 0 d_Rf_merge_143 rfl ?_
              refine hg_VNz (q := ("ModelMergeModel", T_Rf, 31)) C (k_Rf_take l Γ _ r aa M2 R3 N hN hZ h40 s t hs htt (show agv M2 N by rw [eM2]; exact agv.set5 hAv (by omega)) 1 (j_wt N s t) (Or.inl ⟨rfl, Or.inl ⟨c75, c102⟩⟩)) (cw_Rf_147 C.2.2.2.2.1 rfl rfl ⟨Nat.le_of_ble_eq_true rfl, Nat.le_of_ble_eq_true rfl⟩) R3.1 rfl rfl rfl (Nat.le_of_ble_eq_true rfl) d_Rf_merge_145 ⟨Nat.le_of_ble_eq_true rfl, Nat.le_of_ble_eq_true rfl⟩ (fun h21 R22 => ?_)
              exact hg_vretN C hr d_Rf_merge_148 (Nat.le_of_ble_eq_true rfl) (Nat.le_of_ble_eq_true rfl) (⟨rfl, by rw [m_merge, if_neg (fun z => z.2 c58), if_pos ⟨Or.inr c80, Or.inl ⟨Or.inl ⟨c75, c102⟩, c129⟩⟩]; rw [eM2] at R22; exact R22⟩)
def m_clr (N : Mem) : Nat → Mem
  | 0 => N
  | t + 1 => mset (m_clr N t) 5 (60 * nV N + t) 0
theorem m_clr_agv {N : Mem} : ∀ t, agv (m_clr N t) N
  | 0 => agv_rf
  | t + 1 => (m_clr_agv t).set5 (by omega)
theorem m_merge_agv {N K : Mem} {s t : Nat} (h : agv K N) : agv (m_merge N s t K) N := by
  unfold m_merge
  split
  · exact ((h.set5 (by omega)).set5 (by omega)).wr (by omega) 5
  · split
    · exact ((h.set5 (by omega)).set5 (by omega)).wr (by omega) 5
    · exact h.set5 (by omega)
noncomputable def m_mg (N : Mem) (s : Nat) : Nat → Mem
  | 0 => m_clr N 60
  | t + 1 => m_merge N s t (m_mg N s t)
theorem m_mg_agv {N : Mem} {s : Nat} : ∀ t, agv (m_mg N s t) N
  | 0 => m_clr_agv 60
  | t + 1 => m_merge_agv (m_mg_agv t)
noncomputable def m_fin (N : Mem) (s : Nat) : Mem := mset (mset (mset (mset (mset (m_mg N s (nT N)) 8 (nV N) (nI s)) 15 s (nI (nV N))) 14 s 2) 4 0 (nI (nV N + 1))) 26 0 (-1)
abbrev rm_Rf_finish : Room := { frames := 4, cells := 0, slots := 0, locals := 105 }
set_option maxHeartbeats 4000000 in
set_option maxRecDepth 100000 in
theorem lp_Rf_clr (l : Launch) (Γ : Gam) {p : Program} {e : Env} {s9 : State} {m : MethodId} {args : Array Value} {below : List Frame} {meth : Method} {c : Code} {A : Nat → Prop} {Q : State → Prop} (C : hp_C p s9 m args meth c b_Rf_finish 3 "ModelMergeModel" w_Rf_finish Γ.1 kcl (ktys Γ.2.1) (ksts Γ.2.2) knws A) {r : Nat} {aa : Nat → Nat} {N : Mem} (hN : Inv0 N) (hZ : I_zer N) (h40 : nV N < 40) {s : Nat} (hs : s < nS N) (kx : ∀ h, rf_at Γ r aa (m_clr N 60) h → hp_G p l e rm_Rf_finish s9 m args below meth c Γ.1 kcl A 3 Q 0 0 29 [(1, .int (nI s)), (0, .ref r)] [] h) :
    ∀ (n9 : Nat) (t : Nat) (h : Pic), (t ≤ 60) → (60 + 1 ≤ t + n9) → (rf_at Γ r aa (m_clr N t) h) → hp_G p l e rm_Rf_finish s9 m args below meth c Γ.1 kcl A 3 Q 0 0 2 [(2, .int (nI t)), (1, .int (nI s)), (0, .ref r)] [] h := by
  intro n9
  induction n9 with
  | zero =>
    intro t h ht hm hR
    exact absurd hm (by omega)
  | succ n9 ih =>
    intro t h ht hm hR
    have hAv := m_clr_agv (N := N) t
    obtain ⟨K, eK⟩ : ∃ z, z = m_clr N t := ⟨_, rfl⟩
    rw [← eK] at hR hAv
    have hA := hAv.1
    have qV := hA.V
    have qT := hA.T
    obtain ⟨⟨⟨fT, gT⟩, ⟨fV, gV1, gV⟩, ⟨fS, gS⟩, ⟨fR, gR⟩, ⟨fC, gC⟩⟩, hN2, -⟩ := id hN
    refine hg_iload_n C 0 d_Rf_finish_2 rfl rfl ?_
    refine hg_bipush (v := 60) C d_Rf_finish_3 (by decide) ?_
    refine hg_icmp_ge C 29 d_Rf_finish_5 (by decide) (fun c5 => ?_) (fun c5 => ?_)
    · have c5n : 60 ≤ t := (nI_leI (a := 60) (b := t) (by omega) (by omega)).mp c5
      have h60 : t = 60 := by omega
      subst h60
      exact hg_lv (ks := [1, 2]) rfl (kx _ (eK ▸ hR))
    · have c5n : ¬ 60 ≤ t := fun z => c5 (nI_le (a := 60) (b := t) z (by omega))
      refine hg_aload_n C 2 d_Rf_finish_8 rfl rfl ?_
      refine f_Rf_20 C hR.1 rfl d_Rf_finish_9 ?_
      refine hg_bipush (v := 60) C d_Rf_finish_12 (by decide) ?_
      refine hg_aload_n C 2 d_Rf_finish_14 rfl rfl ?_
      refine f_Rf_16 C hR.1 rfl d_Rf_finish_15 ?_
      refine hg_ti (show K 4 0 = N 4 0 from congrFun (hA.1 4 (by decide) (by decide)) 0) ?_
      refine hg_ti fV ?_
      refine hg_imul C d_Rf_finish_18 ?_
      refine hg_ti (show ((60 : Int32) : Int32) * nI (nV N) = nI (60 * nV N) from pk_mul 60 (nV N)) ?_
      refine hg_iload_n C 0 d_Rf_finish_19 rfl rfl ?_
      refine hg_iadd C d_Rf_finish_20 ?_
      refine hg_ti (show (nI (60 * nV N) : Int32) + nI t = nI (60 * nV N + t) from nI_add (60 * nV N) t) ?_
      refine hg_iconst (v := 0) C d_Rf_finish_21 (by decide) ?_
      have b22 : 60 * nV N + t < 2400 := (by omega)
      refine hg_zast C 2 (hR.2.1 5 rfl) rfl (vp_in_nI (N := 2400) b22 (by omega)) d_Rf_finish_22 ?_
      obtain ⟨h1, eh1⟩ : ∃ z, z = hp_up h (aa 5) (.inl (Γ.2.1 2, 2400, .inl (upd (K 5) (nI (60 * nV N + t) : Int32).toNatClampNeg (vp_nar .boolean 0)))) := ⟨_, rfl⟩
      refine hg_eq eh1.symm ?_
      have R3 : rf_at Γ r aa (mset K 5 (60 * nV N + t) 0) h1 := by rw [eh1]; rw [nI_clamp (n := 60 * nV N + t) (by omega)]; rw [show vp_nar .boolean 0 = 0 from rfl]; exact rf_put hR 5 (60 * nV N + t) 0 rfl
      obtain ⟨M2, eM2⟩ : ∃ z, z = mset K 5 (60 * nV N + t) 0 := ⟨_, rfl⟩
      rw [← eM2] at R3
      refine hg_iinc (v := nI (t + 1)) (lv' := [(2, .int (nI (t + 1))), (1, .int (nI s)), (0, .ref r)]) C 0 d_Rf_finish_23 rfl (nI_1 t) (by decide) rfl ?_
      refine hg_goto C 2 d_Rf_finish_26 (by decide) ?_
      refine hg_lv (ks := [0, 1, 2]) rfl (ih (t + 1) _ (by omega) (by omega) ?_)
      rw [m_clr, ← eK]
      rw [eM2] at R3
      exact R3
set_option maxHeartbeats 4000000 in
set_option maxRecDepth 100000 in
theorem lp_Rf_mg (l : Launch) (Γ : Gam) {p : Program} {e : Env} {s9 : State} {m : MethodId} {args : Array Value} {below : List Frame} {meth : Method} {c : Code} {A : Nat → Prop} (C : hp_C p s9 m args meth c b_Rf_finish 3 "ModelMergeModel" w_Rf_finish Γ.1 kcl (ktys Γ.2.1) (ksts Γ.2.2) knws A) {r : Nat} {aa : Nat → Nat} {N : Mem} (hN : Inv0 N) (hZ : I_zer N) (h40 : nV N < 40) {s : Nat} (hs : s < nS N) (hr : meth.sig.returnType = none)  :
    ∀ (n9 : Nat) (t : Nat) (h : Pic), (t ≤ nT N) → (nT N + 1 ≤ t + n9) → (rf_at Γ r aa (m_mg N s t) h) → hp_G p l e rm_Rf_finish s9 m args below meth c Γ.1 kcl A 3 (hp_NQ below Γ.1 kcl A (fun q u => q = none ∧ rf_at Γ r aa (m_fin N s) u) args s9 0 0) 0 0 31 [(2, .int (nI t)), (1, .int (nI s)), (0, .ref r)] [] h := by
  intro n9
  induction n9 with
  | zero =>
    intro t h ht hm hR
    exact absurd hm (by omega)
  | succ n9 ih =>
    intro t h ht hm hR
    have hAv := m_mg_agv (N := N) (s := s) t
    obtain ⟨K, eK⟩ : ∃ z, z = m_mg N s t := ⟨_, rfl⟩
    rw [← eK] at hR hAv
    have hA := hAv.1
    have qV := hA.V
    have qT := hA.T
    obtain ⟨⟨⟨fT, gT⟩, ⟨fV, gV1, gV⟩, ⟨fS, gS⟩, ⟨fR, gR⟩, ⟨fC, gC⟩⟩, hN2, -⟩ := id hN
    refine hg_iload_n C 0 d_Rf_finish_31 rfl rfl ?_
    refine hg_aload_n C 2 d_Rf_finish_32 rfl rfl ?_
    refine f_Rf_116 C hR.1 rfl d_Rf_finish_33 ?_
    refine hg_ti (show K 1 0 = N 1 0 from congrFun (hA.1 1 (by decide) (by decide)) 0) ?_
    refine hg_ti fT ?_
    refine hg_icmp_ge C 51 d_Rf_finish_36 (by decide) (fun c36 => ?_) (fun c36 => ?_)
    · have c36n : nT N ≤ t := (nI_leI (a := (nT N)) (b := t) (by omega) (by omega)).mp c36
      refine hg_aload_n C 2 d_Rf_finish_51 rfl rfl ?_
      refine f_Rf_30 C hR.1 rfl d_Rf_finish_52 ?_
      refine hg_aload_n C 2 d_Rf_finish_55 rfl rfl ?_
      refine f_Rf_16 C hR.1 rfl d_Rf_finish_56 ?_
      refine hg_ti (show K 4 0 = N 4 0 from congrFun (hA.1 4 (by decide) (by decide)) 0) ?_
      refine hg_ti fV ?_
      refine hg_iload_n C 1 d_Rf_finish_59 rfl rfl ?_
      have b60 : nV N < 40 := (by omega)
      refine hg_iast C 0 (hR.2.1 8 rfl) rfl (vp_in_nI (N := 40) b60 (by omega)) d_Rf_finish_60 ?_
      obtain ⟨h1, eh1⟩ : ∃ z, z = hp_up h (aa 8) (.inl (Γ.2.1 0, 40, .inl (upd (K 8) (nI (nV N) : Int32).toNatClampNeg (nI s)))) := ⟨_, rfl⟩
      refine hg_eq eh1.symm ?_
      have R3 : rf_at Γ r aa (mset K 8 (nV N) (nI s)) h1 := by rw [eh1]; rw [nI_clamp (n := nV N) (by omega)]; exact rf_put hR 8 (nV N) (nI s) rfl
      obtain ⟨M2, eM2⟩ : ∃ z, z = mset K 8 (nV N) (nI s) := ⟨_, rfl⟩
      rw [← eM2] at R3
      refine hg_aload_n C 2 d_Rf_finish_61 rfl rfl ?_
      refine f_Rf_48 C R3.1 rfl d_Rf_finish_62 ?_
      refine hg_iload_n C 1 d_Rf_finish_65 rfl rfl ?_
      refine hg_aload_n C 2 d_Rf_finish_66 rfl rfl ?_
      refine f_Rf_16 C R3.1 rfl d_Rf_finish_67 ?_
      refine hg_ti (show M2 4 0 = K 4 0 by rw [eM2, mset_n (by decide)]) ?_
      refine hg_ti (show K 4 0 = N 4 0 from congrFun (hA.1 4 (by decide) (by decide)) 0) ?_
      refine hg_ti fV ?_
      have b70 : s < 20 := (by omega)
      refine hg_iast C 0 (R3.2.1 15 rfl) rfl (vp_in_nI (N := 20) b70 (by omega)) d_Rf_finish_70 ?_
      obtain ⟨h4, eh4⟩ : ∃ z, z = hp_up h1 (aa 15) (.inl (Γ.2.1 0, 20, .inl (upd (M2 15) (nI s : Int32).toNatClampNeg (nI (nV N))))) := ⟨_, rfl⟩
      refine hg_eq eh4.symm ?_
      have R6 : rf_at Γ r aa (mset M2 15 s (nI (nV N))) h4 := by rw [eh4]; rw [nI_clamp (n := s) (by omega)]; exact rf_put R3 15 s (nI (nV N)) rfl
      obtain ⟨M5, eM5⟩ : ∃ z, z = mset M2 15 s (nI (nV N)) := ⟨_, rfl⟩
      rw [← eM5] at R6
      refine hg_aload_n C 2 d_Rf_finish_71 rfl rfl ?_
      refine f_Rf_45 C R6.1 rfl d_Rf_finish_72 ?_
      refine hg_iload_n C 1 d_Rf_finish_75 rfl rfl ?_
      refine hg_iconst (v := 2) C d_Rf_finish_76 (by decide) ?_
      have b77 : s < 20 := (by omega)
      refine hg_iast C 0 (R6.2.1 14 rfl) rfl (vp_in_nI (N := 20) b77 (by omega)) d_Rf_finish_77 ?_
      obtain ⟨h7, eh7⟩ : ∃ z, z = hp_up h4 (aa 14) (.inl (Γ.2.1 0, 20, .inl (upd (M5 14) (nI s : Int32).toNatClampNeg 2))) := ⟨_, rfl⟩
      refine hg_eq eh7.symm ?_
      have R9 : rf_at Γ r aa (mset M5 14 s 2) h7 := by rw [eh7]; rw [nI_clamp (n := s) (by omega)]; exact rf_put R6 14 s 2 rfl
      obtain ⟨M8, eM8⟩ : ∃ z, z = mset M5 14 s 2 := ⟨_, rfl⟩
      rw [← eM8] at R9
      refine hg_aload_n C 2 d_Rf_finish_78 rfl rfl ?_
      refine hg_dup C d_Rf_finish_79 rfl ?_
      refine f_Rf_16 C R9.1 rfl d_Rf_finish_80 ?_
      refine hg_ti (show M8 4 0 = K 4 0 by rw [eM8, mset_n (by decide), eM5, mset_n (by decide), eM2, mset_n (by decide)]) ?_
      refine hg_ti (show K 4 0 = N 4 0 from congrFun (hA.1 4 (by decide) (by decide)) 0) ?_
      refine hg_ti fV ?_
      refine hg_iconst (v := 1) C d_Rf_finish_83 (by decide) ?_
      refine hg_iadd C d_Rf_finish_84 ?_
      refine hg_ti (show (nI (nV N) : Int32) + (1 : Int32) = nI (nV N + 1) from nI_add (nV N) 1) ?_
      refine p_Rf_16 (fs' := rf_fs aa (mset M8 4 0 (nI (nV N + 1)))) C R9.1 rfl rfl (Nat.le_of_ble_eq_true rfl) rfl d_Rf_finish_85 ?_
      obtain ⟨h10, eh10⟩ : ∃ z, z = hp_up h7 r (.inr (7, rf_fs aa (mset M8 4 0 (nI (nV N + 1))))) := ⟨_, rfl⟩
      refine hg_eq eh10.symm ?_
      have R12 : rf_at Γ r aa (mset M8 4 0 (nI (nV N + 1))) h10 := by rw [eh10]; exact rf_set R9 4 (nI (nV N + 1)) rfl
      obtain ⟨M11, eM11⟩ : ∃ z, z = mset M8 4 0 (nI (nV N + 1)) := ⟨_, rfl⟩
      rw [← eM11] at R12
      refine hg_aload_n C 2 d_Rf_finish_88 rfl rfl ?_
      refine hg_iconst (v := (-1)) C d_Rf_finish_89 (by decide) ?_
      refine p_Rf_78 (fs' := rf_fs aa (mset M11 26 0 (-1))) C R12.1 rfl rfl (Nat.le_of_ble_eq_true rfl) rfl d_Rf_finish_90 ?_
      obtain ⟨h13, eh13⟩ : ∃ z, z = hp_up h10 r (.inr (7, rf_fs aa (mset M11 26 0 (-1)))) := ⟨_, rfl⟩
      refine hg_eq eh13.symm ?_
      have R15 : rf_at Γ r aa (mset M11 26 0 (-1)) h13 := by rw [eh13]; exact rf_set R12 26 (-1) rfl
      obtain ⟨M14, eM14⟩ : ∃ z, z = mset M11 26 0 (-1) := ⟨_, rfl⟩
      rw [← eM14] at R15
      exact hg_vretN C hr d_Rf_finish_93 (Nat.le_of_ble_eq_true rfl) (Nat.le_of_ble_eq_true rfl) (⟨rfl, by rw [m_fin, show nT N = t by omega, ← eK]; rw [eM14, eM11, eM8, eM5, eM2] at R15; exact R15⟩)
    · have c36n : ¬ nT N ≤ t := fun z => c36 (nI_le (a := (nT N)) (b := t) z (by omega))
      refine hg_aload_n C 2 d_Rf_finish_39 rfl rfl ?_
      refine hg_iload_n C 1 d_Rf_finish_40 rfl rfl ?_
      refine hg_iload_n C 0 d_Rf_finish_41 rfl rfl ?_
      refine hg_VNz (q := ("ModelMergeModel", T_Rf, 31)) C (k_Rf_merge l Γ _ r aa K hR N hN hZ h40 s t hs (by omega) hAv) (cw_Rf_151 C.2.2.2.2.1 rfl rfl ⟨Nat.le_of_ble_eq_true rfl, Nat.le_of_ble_eq_true rfl⟩) hR.1 rfl rfl rfl (Nat.le_of_ble_eq_true rfl) d_Rf_finish_42 ⟨Nat.le_of_ble_eq_true rfl, Nat.le_of_ble_eq_true rfl⟩ (fun h16 R17 => ?_)
      refine hg_iinc (v := nI (t + 1)) (lv' := [(2, .int (nI (t + 1))), (1, .int (nI s)), (0, .ref r)]) C 0 d_Rf_finish_45 rfl (nI_1 t) (by decide) rfl ?_
      refine hg_goto C 31 d_Rf_finish_48 (by decide) ?_
      refine hg_lv (ks := [0, 1, 2]) rfl (ih (t + 1) _ (by omega) (by omega) ?_)
      rw [m_mg, ← eK]
      exact R17
set_option maxHeartbeats 4000000 in
set_option maxRecDepth 100000 in
theorem k_Rf_finish (l : Launch) (Γ : Gam) (h : Pic) (r : Nat) (aa : Nat → Nat) (M : Mem) (hR : rf_at Γ r aa M h) (hN : Inv0 M) (hZ : I_zer M) (h40 : nV M < 40) (s : Nat) (hs : s < nS M) : kN l Γ y_Rf_finish w_Rf_finish rm_Rf_finish [.ref r, .int (nI s)] h (fun q u => q = none ∧ rf_at Γ r aa (m_fin M s) u) 0 0 := by
  refine hg_entryN (own := "ModelMergeModel") (cc := b_Rf_finish) (maxL := 3) (ret := none) (lv0 := [(0, .ref r), (1, .int (nI s))]) (by decide) rfl rfl (Nat.le_of_ble_eq_true rfl) rfl ?_
  intro p9 e9 s9 m9 args below meth c9 A C hnm hr
  refine hg_iconst (v := 0) C d_Rf_finish_0 (by decide) ?_
  refine hg_istore_n (lv' := [(2, .int 0), (0, .ref r), (1, .int (nI s))]) C d_Rf_finish_1 rfl (by decide) rfl ?_
  refine hg_lv (ks := [0, 2, 1]) rfl (lp_Rf_clr l Γ C hN hZ h40 hs (fun h1 R1 => ?_) 61 0 _ (by omega) (by omega) hR)
  refine hg_iconst (v := 0) C d_Rf_finish_29 (by decide) ?_
  refine hg_istore_n (lv' := [(2, .int 0), (1, .int (nI s)), (0, .ref r)]) C d_Rf_finish_30 rfl (by decide) rfl ?_
  exact lp_Rf_mg l Γ C hN hZ h40 hs hr (nT M + 1) 0 _ (by omega) (by omega) R1
