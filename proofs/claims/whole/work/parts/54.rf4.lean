/-! THE REFERENCE, fourth part: there, conflict, differs, broken -/
theorem hg_le {p : Program} {l : Launch} {e : Env} {R : Room} {s : State} {m : MethodId} {args : Array Value} {below : List Frame} {meth : Method} {c : Code} {nL : Nat} {D : va_G} {cl : List vw_C} {A : Nat → Prop} {Q : State → Prop} {cells slots pc : Nat} {lv lv' : List (Nat × Value)} {st : List Value} {h : Pic} (hh : lv = lv') (kk : hp_G p l e R s m args below meth c D cl A nL Q cells slots pc lv' st h) : hp_G p l e R s m args below meth c D cl A nL Q cells slots pc lv st h := hh ▸ kk
/-- field k of the thing is as in the version before -/
def i_same (M : Mem) (v t k : Nat) : Prop := i_th M (nI v - 1) (nI t) ∧ M 6 (5 * (60 * v - 60 + t) + k) = M 6 (5 * (60 * v + t) + k)
noncomputable def c_th (M : Mem) (v t : Nat) : Nat → Nat
  | 0 => 0
  | k + 1 => @ite _ (i_th M (nI v) (nI t)) (Classical.propDecidable _) (@ite _ (i_same M v t k) (Classical.propDecidable _) (c_th M v t k) (c_th M v t k + 1)) (c_th M v t k)
theorem c_th_no {M : Mem} {v t : Nat} (h : ¬ i_th M (nI v) (nI t)) : ∀ k, c_th M v t k = 0
  | 0 => rfl
  | k + 1 => by rw [c_th, if_neg h, c_th_no h k]
theorem c_th_le {M : Mem} {v t : Nat} : ∀ k, c_th M v t k ≤ k
  | 0 => Nat.le_refl 0
  | k + 1 => by
    have := c_th_le (M := M) (v := v) (t := t) k
    unfold c_th
    split
    · split <;> omega
    · omega
theorem v1_of {M : Mem} {v t : Nat} (hv : v < 40) (h : i_th M (nI v - 1) (nI t)) : 1 ≤ v := by
  rcases Nat.eq_zero_or_pos v with z | z
  · subst z
    exact absurd (show nI 0 - 1 < 0 by decide) h.1.1
  · exact z
noncomputable def f_there (M : Mem) (v t : Nat) (w : Int32) : Int32 := if (2 : Int32) ≤ w then nI (c_th M v t 5) else if w = 1 then M 2 t else @ite _ (i_th M (nI v) (nI t)) (Classical.propDecidable _) 1 0
noncomputable def sp_there (M : Mem) (v t w : Int32) : Int32 × Int32 × Mem := gd (inr v (nI (nV M)) ∧ inr t (nI (nT M)) ∧ inr w 3) True M (f_there (mset M 0 0 0) v.toNatClampNeg t.toNatClampNeg w, mset M 0 0 0)
abbrev rm_Rf_there : Room := { frames := 2, cells := 0, slots := 0, locals := 43 }
set_option maxHeartbeats 4000000 in
set_option maxRecDepth 100000 in
theorem lp_Rf_there (l : Launch) (Γ : Gam) {p : Program} {e : Env} {s9 : State} {m : MethodId} {args : Array Value} {below : List Frame} {meth : Method} {c : Code} {A : Nat → Prop} (C : hp_C p s9 m args meth c b_Rf_there 7 "ModelMergeModel" w_Rf_there Γ.1 kcl (ktys Γ.2.1) (ksts Γ.2.2) knws A) {h : Pic} {r : Nat} {aa : Nat → Nat} {N : Mem} (hR : rf_at Γ r aa N h) (hN : Inv0 N) {v t : Nat} (hv : v < nV N) (ht : t < nT N) {x3 : Int32} (hr : meth.sig.returnType = some .int)  :
    ∀ (n9 : Nat) (k : Nat), (k ≤ 5) → (5 + 1 ≤ k + n9) → hp_G p l e rm_Rf_there s9 m args below meth c Γ.1 kcl A 7 (hp_NQ below Γ.1 kcl A (fun q u => q = some (.int (nI (c_th N v t 5))) ∧ rf_at Γ r aa N u) args s9 0 0) 0 0 85 [(5, .int (nI k)), (4, .int (nI (c_th N v t k))), (1, .int (nI v)), (2, .int (nI t)), (3, .int x3), (0, .ref r)] [] h := by
  intro n9
  induction n9 with
  | zero =>
    intro k hk hm
    exact absurd hm (by omega)
  | succ n9 ih =>
    intro k hk hm
    obtain ⟨⟨⟨fT, gT⟩, ⟨fV, gV1, gV⟩, ⟨fS, gS⟩, ⟨fR, gR⟩, ⟨fC, gC⟩⟩, hN2, -⟩ := id hN
    have hcl := c_th_le (M := N) (v := v) (t := t) k
    refine hg_iload C 0 d_Rf_there_85 rfl ?_
    refine hg_iconst (v := 5) C d_Rf_there_87 (by decide) ?_
    refine hg_icmp_ge C 177 d_Rf_there_88 (by decide) (fun c88 => ?_) (fun c88 => ?_)
    · have c88n : 5 ≤ k := (nI_leI (a := 5) (b := k) (by omega) (by omega)).mp c88
      refine hg_iload C 1 d_Rf_there_177 rfl ?_
      exact hg_iretN C hr rfl d_Rf_there_179 (Nat.le_of_ble_eq_true rfl) (Nat.le_of_ble_eq_true rfl) (⟨by rw [show k = 5 by omega], hR⟩)
    · have c88n : ¬ 5 ≤ k := fun z => c88 (nI_le (a := 5) (b := k) z (by omega))
      refine hg_aload_n C 5 d_Rf_there_91 rfl rfl ?_
      refine hg_iload_n C 2 d_Rf_there_92 rfl rfl ?_
      refine hg_iload_n C 3 d_Rf_there_93 rfl rfl ?_
      refine hg_VNb (q := ("ModelMergeModel", T_Rf, 31)) C (k_Rf_isThere l Γ _ r aa N hR hN (nI v) (nI t)) (cw_Rf_162 C.2.2.2.2.1 rfl rfl ⟨Nat.le_of_ble_eq_true rfl, Nat.le_of_ble_eq_true rfl⟩) hR.1 rfl rfl rfl (Nat.le_of_ble_eq_true rfl) d_Rf_there_94 ⟨Nat.le_of_ble_eq_true rfl, Nat.le_of_ble_eq_true rfl⟩ (fun z1 => ?_) (fun z1 => ?_)
      · refine hg_if_eq C 177 d_Rf_there_97 (by decide) (fun z => absurd z (by decide)) (fun _ => ?_)
        refine hg_aload_n C 5 d_Rf_there_100 rfl rfl ?_
        refine hg_iload_n C 2 d_Rf_there_101 rfl rfl ?_
        refine hg_iconst (v := 1) C d_Rf_there_102 (by decide) ?_
        refine hg_isub C d_Rf_there_103 ?_
        refine hg_iload_n C 3 d_Rf_there_104 rfl rfl ?_
        refine hg_VNb (q := ("ModelMergeModel", T_Rf, 31)) C (k_Rf_isThere l Γ _ r aa N hR hN (nI v - 1) (nI t)) (cw_Rf_162 C.2.2.2.2.1 rfl rfl ⟨Nat.le_of_ble_eq_true rfl, Nat.le_of_ble_eq_true rfl⟩) hR.1 rfl rfl rfl (Nat.le_of_ble_eq_true rfl) d_Rf_there_105 ⟨Nat.le_of_ble_eq_true rfl, Nat.le_of_ble_eq_true rfl⟩ (fun z2 => ?_) (fun z2 => ?_)
        · have hv1 := v1_of (by omega) z2
          refine hg_if_eq C 153 d_Rf_there_108 (by decide) (fun z => absurd z (by decide)) (fun _ => ?_)
          refine hg_aload_n C 5 d_Rf_there_111 rfl rfl ?_
          refine f_Rf_24 C hR.1 rfl d_Rf_there_112 ?_
          refine hg_iconst (v := 5) C d_Rf_there_115 (by decide) ?_
          refine hg_bipush (v := 60) C d_Rf_there_116 (by decide) ?_
          refine hg_iload_n C 2 d_Rf_there_118 rfl rfl ?_
          refine hg_imul C d_Rf_there_119 ?_
          refine hg_ti (show ((60 : Int32) : Int32) * nI v = nI (60 * v) from pk_mul 60 v) ?_
          refine hg_bipush (v := 60) C d_Rf_there_120 (by decide) ?_
          refine hg_isub C d_Rf_there_122 ?_
          refine hg_ti (show (nI (60 * v) : Int32) - (60 : Int32) = nI (60 * v - 60) from pk_sub (a := (60 * v)) (b := 60) (by omega)) ?_
          refine hg_iload_n C 3 d_Rf_there_123 rfl rfl ?_
          refine hg_iadd C d_Rf_there_124 ?_
          refine hg_ti (show (nI (60 * v - 60) : Int32) + nI t = nI (60 * v - 60 + t) from nI_add (60 * v - 60) t) ?_
          refine hg_imul C d_Rf_there_125 ?_
          refine hg_ti (show ((5 : Int32) : Int32) * nI (60 * v - 60 + t) = nI (5 * (60 * v - 60 + t)) from pk_mul 5 (60 * v - 60 + t)) ?_
          refine hg_iload C 0 d_Rf_there_126 rfl ?_
          refine hg_iadd C d_Rf_there_128 ?_
          refine hg_ti (show (nI (5 * (60 * v - 60 + t)) : Int32) + nI k = nI (5 * (60 * v - 60 + t) + k) from nI_add (5 * (60 * v - 60 + t)) k) ?_
          have b129 : 5 * (60 * v - 60 + t) + k < 12000 := (by omega)
          refine hg_iald C 0 (hR.2.1 6 rfl) rfl (vp_in_nI (N := 12000) b129 (by omega)) d_Rf_there_129 ?_
          refine hg_ti (congrArg (N 6) (nI_clamp (n := 5 * (60 * v - 60 + t) + k) (by omega))) ?_
          refine hg_aload_n C 5 d_Rf_there_130 rfl rfl ?_
          refine f_Rf_24 C hR.1 rfl d_Rf_there_131 ?_
          refine hg_iconst (v := 5) C d_Rf_there_134 (by decide) ?_
          refine hg_bipush (v := 60) C d_Rf_there_135 (by decide) ?_
          refine hg_iload_n C 2 d_Rf_there_137 rfl rfl ?_
          refine hg_imul C d_Rf_there_138 ?_
          refine hg_ti (show ((60 : Int32) : Int32) * nI v = nI (60 * v) from pk_mul 60 v) ?_
          refine hg_iload_n C 3 d_Rf_there_139 rfl rfl ?_
          refine hg_iadd C d_Rf_there_140 ?_
          refine hg_ti (show (nI (60 * v) : Int32) + nI t = nI (60 * v + t) from nI_add (60 * v) t) ?_
          refine hg_imul C d_Rf_there_141 ?_
          refine hg_ti (show ((5 : Int32) : Int32) * nI (60 * v + t) = nI (5 * (60 * v + t)) from pk_mul 5 (60 * v + t)) ?_
          refine hg_iload C 0 d_Rf_there_142 rfl ?_
          refine hg_iadd C d_Rf_there_144 ?_
          refine hg_ti (show (nI (5 * (60 * v + t)) : Int32) + nI k = nI (5 * (60 * v + t) + k) from nI_add (5 * (60 * v + t)) k) ?_
          have b145 : 5 * (60 * v + t) + k < 12000 := (by omega)
          refine hg_iald C 0 (hR.2.1 6 rfl) rfl (vp_in_nI (N := 12000) b145 (by omega)) d_Rf_there_145 ?_
          refine hg_ti (congrArg (N 6) (nI_clamp (n := 5 * (60 * v + t) + k) (by omega))) ?_
          refine hg_icmp_ne C 153 d_Rf_there_146 (by decide) (fun c146 => ?_) (fun c146 => ?_)
          · refine hg_iconst (v := 0) C d_Rf_there_153 (by decide) ?_
            refine hg_istore (lv' := [(6, .int 0), (5, .int (nI k)), (4, .int (nI (c_th N v t k))), (1, .int (nI v)), (2, .int (nI t)), (3, .int x3), (0, .ref r)]) C d_Rf_there_154 (by decide) rfl ?_
            refine hg_iload C 2 d_Rf_there_156 rfl ?_
            refine hg_iload C 0 d_Rf_there_158 rfl ?_
            refine hg_if_eq C 167 d_Rf_there_160 (by decide) (fun _ => ?_) (fun z => absurd (by decide) z)
            refine hg_iconst (v := 1) C d_Rf_there_167 (by decide) ?_
            refine hg_iadd C d_Rf_there_168 ?_
            refine hg_ti (show (nI (c_th N v t k) : Int32) + (1 : Int32) = nI (c_th N v t k + 1) from nI_add (c_th N v t k) 1) ?_
            refine hg_istore (lv' := [(4, .int (nI (c_th N v t k + 1))), (6, .int 0), (5, .int (nI k)), (1, .int (nI v)), (2, .int (nI t)), (3, .int x3), (0, .ref r)]) C d_Rf_there_169 (by decide) rfl ?_
            refine hg_iinc (v := nI (k + 1)) (lv' := [(5, .int (nI (k + 1))), (4, .int (nI (c_th N v t k + 1))), (6, .int 0), (1, .int (nI v)), (2, .int (nI t)), (3, .int x3), (0, .ref r)]) C 2 d_Rf_there_171 rfl (nI_1 k) (by decide) rfl ?_
            refine hg_goto C 85 d_Rf_there_174 (by decide) ?_
            have ih1 := ih (k + 1) (by omega) (by omega)
            rw [show c_th N v t (k + 1) = c_th N v t k + 1 by rw [c_th, if_pos z1, if_neg (fun z => c146 z.2)]] at ih1
            exact hg_lv (ks := [0, 1, 3, 4, 5, 6]) rfl ih1
          · refine hg_iconst (v := 1) C d_Rf_there_149 (by decide) ?_
            refine hg_goto C 154 d_Rf_there_150 (by decide) ?_
            refine hg_istore (lv' := [(6, .int 1), (5, .int (nI k)), (4, .int (nI (c_th N v t k))), (1, .int (nI v)), (2, .int (nI t)), (3, .int x3), (0, .ref r)]) C d_Rf_there_154 (by decide) rfl ?_
            refine hg_iload C 2 d_Rf_there_156 rfl ?_
            refine hg_iload C 0 d_Rf_there_158 rfl ?_
            refine hg_if_eq C 167 d_Rf_there_160 (by decide) (fun z => absurd z (by decide)) (fun _ => ?_)
            refine hg_iconst (v := 0) C d_Rf_there_163 (by decide) ?_
            refine hg_goto C 168 d_Rf_there_164 (by decide) ?_
            refine hg_iadd C d_Rf_there_168 ?_
            refine hg_ti (show (nI (c_th N v t k) : Int32) + (0 : Int32) = nI (c_th N v t k + 0) from nI_add (c_th N v t k) 0) ?_
            refine hg_ti (show (nI (c_th N v t k + 0)) = nI (c_th N v t k) from rfl) ?_
            refine hg_istore (lv' := [(4, .int (nI (c_th N v t k))), (6, .int 1), (5, .int (nI k)), (1, .int (nI v)), (2, .int (nI t)), (3, .int x3), (0, .ref r)]) C d_Rf_there_169 (by decide) rfl ?_
            refine hg_iinc (v := nI (k + 1)) (lv' := [(5, .int (nI (k + 1))), (4, .int (nI (c_th N v t k))), (6, .int 1), (1, .int (nI v)), (2, .int (nI t)), (3, .int x3), (0, .ref r)]) C 2 d_Rf_there_171 rfl (nI_1 k) (by decide) rfl ?_
            refine hg_goto C 85 d_Rf_there_174 (by decide) ?_
            have ih1 := ih (k + 1) (by omega) (by omega)
            rw [show c_th N v t (k + 1) = c_th N v t k by rw [c_th, if_pos z1, if_pos ⟨z2, c146⟩]] at ih1
            exact hg_lv (ks := [0, 1, 3, 4, 5, 6]) rfl ih1
        · refine hg_if_eq C 153 d_Rf_there_108 (by decide) (fun _ => ?_) (fun z => absurd (by decide) z)
          refine hg_iconst (v := 0) C d_Rf_there_153 (by decide) ?_
          refine hg_istore (lv' := [(6, .int 0), (5, .int (nI k)), (4, .int (nI (c_th N v t k))), (1, .int (nI v)), (2, .int (nI t)), (3, .int x3), (0, .ref r)]) C d_Rf_there_154 (by decide) rfl ?_
          refine hg_iload C 2 d_Rf_there_156 rfl ?_
          refine hg_iload C 0 d_Rf_there_158 rfl ?_
          refine hg_if_eq C 167 d_Rf_there_160 (by decide) (fun _ => ?_) (fun z => absurd (by decide) z)
          refine hg_iconst (v := 1) C d_Rf_there_167 (by decide) ?_
          refine hg_iadd C d_Rf_there_168 ?_
          refine hg_ti (show (nI (c_th N v t k) : Int32) + (1 : Int32) = nI (c_th N v t k + 1) from nI_add (c_th N v t k) 1) ?_
          refine hg_istore (lv' := [(4, .int (nI (c_th N v t k + 1))), (6, .int 0), (5, .int (nI k)), (1, .int (nI v)), (2, .int (nI t)), (3, .int x3), (0, .ref r)]) C d_Rf_there_169 (by decide) rfl ?_
          refine hg_iinc (v := nI (k + 1)) (lv' := [(5, .int (nI (k + 1))), (4, .int (nI (c_th N v t k + 1))), (6, .int 0), (1, .int (nI v)), (2, .int (nI t)), (3, .int x3), (0, .ref r)]) C 2 d_Rf_there_171 rfl (nI_1 k) (by decide) rfl ?_
          refine hg_goto C 85 d_Rf_there_174 (by decide) ?_
          have ih1 := ih (k + 1) (by omega) (by omega)
          rw [show c_th N v t (k + 1) = c_th N v t k + 1 by rw [c_th, if_pos z1, if_neg (fun z => z2 z.1)]] at ih1
          exact hg_lv (ks := [0, 1, 3, 4, 5, 6]) rfl ih1
      · refine hg_if_eq C 177 d_Rf_there_97 (by decide) (fun _ => ?_) (fun z => absurd (by decide) z)
        refine hg_iload C 1 d_Rf_there_177 rfl ?_
        exact hg_iretN C hr rfl d_Rf_there_179 (Nat.le_of_ble_eq_true rfl) (Nat.le_of_ble_eq_true rfl) (⟨by rw [c_th_no z1, c_th_no z1], hR⟩)
set_option maxHeartbeats 4000000 in
set_option maxRecDepth 100000 in
theorem k_Rf_there (l : Launch) (Γ : Gam) (h : Pic) (r : Nat) (aa : Nat → Nat) (M : Mem) (hR : rf_at Γ r aa M h) (hI : Inv0 M) (v0 t0 w0 : Int32) : kN l Γ y_Rf_there w_Rf_there rm_Rf_there [.ref r, .int v0, .int t0, .int w0] h (fun q u => q = some (.int (sp_there M v0 t0 w0).2.1) ∧ rf_at Γ r aa (sp_there M v0 t0 w0).2.2 u) 0 0 := by
  refine hg_entryN (own := "ModelMergeModel") (cc := b_Rf_there) (maxL := 7) (ret := (some .int)) (lv0 := [(0, .ref r), (1, .int v0), (2, .int t0), (3, .int w0)]) (by decide) rfl rfl (Nat.le_of_ble_eq_true rfl) rfl ?_
  intro p9 e9 s9 m9 args below meth c9 A C hnm hr
  obtain ⟨⟨⟨eT, hT⟩, ⟨eV, hV1, hV⟩, ⟨eS, hS⟩, ⟨eR, hRR⟩, ⟨eC, hC⟩⟩, hI2, -⟩ := id hI
  refine hg_aload_n C 0 d_Rf_there_0 rfl rfl ?_
  refine hg_iload_n C 1 d_Rf_there_1 rfl rfl ?_
  refine hg_aload_n C 0 d_Rf_there_2 rfl rfl ?_
  refine f_Rf_16 C hR.1 rfl d_Rf_there_3 ?_
  refine hg_ti eV ?_
  refine hg_SNb C (k_Rf_isIn l Γ _ v0 (nI (nV M))) (cw_Rf_101 C.2.2.2.2.1 rfl rfl ⟨Nat.le_of_ble_eq_true rfl, Nat.le_of_ble_eq_true rfl⟩) rfl rfl (Nat.le_of_ble_eq_true rfl) d_Rf_there_6 ⟨Nat.le_of_ble_eq_true rfl, Nat.le_of_ble_eq_true rfl⟩ (fun z1 => ?_) (fun z1 => ?_)
  · obtain ⟨v, hv, rfl⟩ := inr_nat (n := nV M) (id z1) (by omega)
    refine hg_if_eq C 35 d_Rf_there_9 (by decide) (fun z => absurd z (by decide)) (fun _ => ?_)
    refine hg_iload_n C 2 d_Rf_there_12 rfl rfl ?_
    refine hg_aload_n C 0 d_Rf_there_13 rfl rfl ?_
    refine f_Rf_116 C hR.1 rfl d_Rf_there_14 ?_
    refine hg_ti eT ?_
    refine hg_SNb C (k_Rf_isIn l Γ _ t0 (nI (nT M))) (cw_Rf_101 C.2.2.2.2.1 rfl rfl ⟨Nat.le_of_ble_eq_true rfl, Nat.le_of_ble_eq_true rfl⟩) rfl rfl (Nat.le_of_ble_eq_true rfl) d_Rf_there_17 ⟨Nat.le_of_ble_eq_true rfl, Nat.le_of_ble_eq_true rfl⟩ (fun z2 => ?_) (fun z2 => ?_)
    · obtain ⟨t, ht, rfl⟩ := inr_nat (n := nT M) (id z2) (by omega)
      refine hg_if_eq C 35 d_Rf_there_20 (by decide) (fun z => absurd z (by decide)) (fun _ => ?_)
      refine hg_iload_n C 3 d_Rf_there_23 rfl rfl ?_
      refine hg_iconst (v := 3) C d_Rf_there_24 (by decide) ?_
      refine hg_SNb C (k_Rf_isIn l Γ _ w0 3) (cw_Rf_101 C.2.2.2.2.1 rfl rfl ⟨Nat.le_of_ble_eq_true rfl, Nat.le_of_ble_eq_true rfl⟩) rfl rfl (Nat.le_of_ble_eq_true rfl) d_Rf_there_25 ⟨Nat.le_of_ble_eq_true rfl, Nat.le_of_ble_eq_true rfl⟩ (fun z3 => ?_) (fun z3 => ?_)
      · refine hg_if_eq C 35 d_Rf_there_28 (by decide) (fun z => absurd z (by decide)) (fun _ => ?_)
        refine hg_iconst (v := 1) C d_Rf_there_31 (by decide) ?_
        refine hg_goto C 36 d_Rf_there_32 (by decide) ?_
        refine hg_iconst (v := 1) C d_Rf_there_36 (by decide) ?_
        refine hg_VNu (q := ("ModelMergeModel", T_Rf, 31)) C (k_Rf_goes0 l Γ _ r aa M hR) (cw_Rf_108 C.2.2.2.2.1 rfl rfl ⟨Nat.le_of_ble_eq_true rfl, Nat.le_of_ble_eq_true rfl⟩) hR.1 rfl rfl rfl (Nat.le_of_ble_eq_true rfl) d_Rf_there_37 ⟨Nat.le_of_ble_eq_true rfl, Nat.le_of_ble_eq_true rfl⟩ (fun h4 R5 => ?_)
        obtain ⟨N, eN⟩ : ∃ z, z = mset M 0 0 0 := ⟨_, rfl⟩
        rw [← eN] at R5
        have hN : Inv0 N := by rw [eN]; exact Inv0_code 0 hI
        have qS : nS N = nS M := by rw [eN]; rfl
        have qT : nT N = nT M := by rw [eN]; rfl
        have qV : nV N = nV M := by rw [eN]; rfl
        have qR : nR N = nR M := by rw [eN]; rfl
        have qC : nC N = nC M := by rw [eN]; rfl
        obtain ⟨⟨⟨fT, gT⟩, ⟨fV, gV1, gV⟩, ⟨fS, gS⟩, ⟨fR, gR⟩, ⟨fC, gC⟩⟩, hN2, -⟩ := id hN
        refine hg_if_ne C 45 d_Rf_there_40 (by decide) (fun _ => ?_) (fun z => absurd z (by decide))
        refine hg_iload_n C 3 d_Rf_there_45 rfl rfl ?_
        refine hg_iconst (v := 2) C d_Rf_there_46 (by decide) ?_
        refine hg_icmp_ge C 79 d_Rf_there_47 (by decide) (fun c47 => ?_) (fun c47 => ?_)
        · refine hg_iconst (v := 0) C d_Rf_there_79 (by decide) ?_
          refine hg_istore (lv' := [(4, .int 0), (0, .ref r), (1, .int (nI v)), (2, .int (nI t)), (3, .int w0)]) C d_Rf_there_80 (by decide) rfl ?_
          refine hg_iconst (v := 0) C d_Rf_there_82 (by decide) ?_
          refine hg_istore (lv' := [(5, .int 0), (4, .int 0), (0, .ref r), (1, .int (nI v)), (2, .int (nI t)), (3, .int w0)]) C d_Rf_there_83 (by decide) rfl ?_
          rw [sp_there, gd0 ⟨z1, z2, z3⟩ trivial, ← eN, nI_clamp (n := v) (by omega), nI_clamp (n := t) (by omega), f_there, if_pos c47]
          exact hg_lv (ks := [0, 1, 3, 4, 5, 2]) rfl (lp_Rf_there l Γ C R5 hN (by omega) (by omega) hr 6 0 (by omega) (by omega))
        · refine hg_iload_n C 3 d_Rf_there_50 rfl rfl ?_
          refine hg_iconst (v := 1) C d_Rf_there_51 (by decide) ?_
          refine hg_icmp_ne C 64 d_Rf_there_52 (by decide) (fun c52 => ?_) (fun c52 => ?_)
          · refine hg_aload_n C 0 d_Rf_there_64 rfl rfl ?_
            refine hg_iload_n C 1 d_Rf_there_65 rfl rfl ?_
            refine hg_iload_n C 2 d_Rf_there_66 rfl rfl ?_
            refine hg_VNb (q := ("ModelMergeModel", T_Rf, 31)) C (k_Rf_isThere l Γ _ r aa N R5 hN (nI v) (nI t)) (cw_Rf_162 C.2.2.2.2.1 rfl rfl ⟨Nat.le_of_ble_eq_true rfl, Nat.le_of_ble_eq_true rfl⟩) R5.1 rfl rfl rfl (Nat.le_of_ble_eq_true rfl) d_Rf_there_67 ⟨Nat.le_of_ble_eq_true rfl, Nat.le_of_ble_eq_true rfl⟩ (fun z6 => ?_) (fun z6 => ?_)
            · refine hg_if_eq C 77 d_Rf_there_70 (by decide) (fun z => absurd z (by decide)) (fun _ => ?_)
              refine hg_iconst (v := 1) C d_Rf_there_73 (by decide) ?_
              refine hg_goto C 78 d_Rf_there_74 (by decide) ?_
              exact hg_iretN C hr rfl d_Rf_there_78 (Nat.le_of_ble_eq_true rfl) (Nat.le_of_ble_eq_true rfl) (⟨by rw [sp_there, gd0 ⟨z1, z2, z3⟩ trivial, ← eN, nI_clamp (n := v) (by omega), nI_clamp (n := t) (by omega), f_there, if_neg c47, if_neg c52, if_pos z6], by rw [sp_there, gd0 ⟨z1, z2, z3⟩ trivial, ← eN]; exact R5⟩)
            · refine hg_if_eq C 77 d_Rf_there_70 (by decide) (fun _ => ?_) (fun z => absurd (by decide) z)
              refine hg_iconst (v := 0) C d_Rf_there_77 (by decide) ?_
              exact hg_iretN C hr rfl d_Rf_there_78 (Nat.le_of_ble_eq_true rfl) (Nat.le_of_ble_eq_true rfl) (⟨by rw [sp_there, gd0 ⟨z1, z2, z3⟩ trivial, ← eN, nI_clamp (n := v) (by omega), nI_clamp (n := t) (by omega), f_there, if_neg c47, if_neg c52, if_neg z6], by rw [sp_there, gd0 ⟨z1, z2, z3⟩ trivial, ← eN]; exact R5⟩)
          · refine hg_aload_n C 0 d_Rf_there_55 rfl rfl ?_
            refine f_Rf_7 C R5.1 rfl d_Rf_there_56 ?_
            refine hg_iload_n C 2 d_Rf_there_59 rfl rfl ?_
            have b60 : t < 60 := (by omega)
            refine hg_iald C 0 (R5.2.1 2 rfl) rfl (vp_in_nI (N := 60) b60 (by omega)) d_Rf_there_60 ?_
            refine hg_ti (congrArg (N 2) (nI_clamp (n := t) (by omega))) ?_
            refine hg_goto C 78 d_Rf_there_61 (by decide) ?_
            exact hg_iretN C hr rfl d_Rf_there_78 (Nat.le_of_ble_eq_true rfl) (Nat.le_of_ble_eq_true rfl) (⟨by rw [sp_there, gd0 ⟨z1, z2, z3⟩ trivial, ← eN, nI_clamp (n := v) (by omega), nI_clamp (n := t) (by omega), f_there, if_neg c47, if_pos c52], by rw [sp_there, gd0 ⟨z1, z2, z3⟩ trivial, ← eN]; exact R5⟩)
      · refine hg_if_eq C 35 d_Rf_there_28 (by decide) (fun _ => ?_) (fun z => absurd (by decide) z)
        refine hg_iconst (v := 0) C d_Rf_there_35 (by decide) ?_
        refine hg_iconst (v := 1) C d_Rf_there_36 (by decide) ?_
        refine hg_VNu (q := ("ModelMergeModel", T_Rf, 31)) C (k_Rf_goes1 l Γ _ r aa M hR 1) (cw_Rf_108 C.2.2.2.2.1 rfl rfl ⟨Nat.le_of_ble_eq_true rfl, Nat.le_of_ble_eq_true rfl⟩) hR.1 rfl rfl rfl (Nat.le_of_ble_eq_true rfl) d_Rf_there_37 ⟨Nat.le_of_ble_eq_true rfl, Nat.le_of_ble_eq_true rfl⟩ (fun h7 R8 => ?_)
        refine hg_if_ne C 45 d_Rf_there_40 (by decide) (fun z => absurd rfl z) (fun _ => ?_)
        refine hg_iconst (v := 0) C d_Rf_there_43 (by decide) ?_
        exact hg_iretN C hr rfl d_Rf_there_44 (Nat.le_of_ble_eq_true rfl) (Nat.le_of_ble_eq_true rfl) (⟨by rw [sp_there, gd1 (fun z => z3 (z.2.2))], by rw [sp_there, gd1 (fun z => z3 (z.2.2))]; exact R8⟩)
    · refine hg_if_eq C 35 d_Rf_there_20 (by decide) (fun _ => ?_) (fun z => absurd (by decide) z)
      refine hg_iconst (v := 0) C d_Rf_there_35 (by decide) ?_
      refine hg_iconst (v := 1) C d_Rf_there_36 (by decide) ?_
      refine hg_VNu (q := ("ModelMergeModel", T_Rf, 31)) C (k_Rf_goes1 l Γ _ r aa M hR 1) (cw_Rf_108 C.2.2.2.2.1 rfl rfl ⟨Nat.le_of_ble_eq_true rfl, Nat.le_of_ble_eq_true rfl⟩) hR.1 rfl rfl rfl (Nat.le_of_ble_eq_true rfl) d_Rf_there_37 ⟨Nat.le_of_ble_eq_true rfl, Nat.le_of_ble_eq_true rfl⟩ (fun h9 R10 => ?_)
      refine hg_if_ne C 45 d_Rf_there_40 (by decide) (fun z => absurd rfl z) (fun _ => ?_)
      refine hg_iconst (v := 0) C d_Rf_there_43 (by decide) ?_
      exact hg_iretN C hr rfl d_Rf_there_44 (Nat.le_of_ble_eq_true rfl) (Nat.le_of_ble_eq_true rfl) (⟨by rw [sp_there, gd1 (fun z => z2 (z.2.1))], by rw [sp_there, gd1 (fun z => z2 (z.2.1))]; exact R10⟩)
  · refine hg_if_eq C 35 d_Rf_there_9 (by decide) (fun _ => ?_) (fun z => absurd (by decide) z)
    refine hg_iconst (v := 0) C d_Rf_there_35 (by decide) ?_
    refine hg_iconst (v := 1) C d_Rf_there_36 (by decide) ?_
    refine hg_VNu (q := ("ModelMergeModel", T_Rf, 31)) C (k_Rf_goes1 l Γ _ r aa M hR 1) (cw_Rf_108 C.2.2.2.2.1 rfl rfl ⟨Nat.le_of_ble_eq_true rfl, Nat.le_of_ble_eq_true rfl⟩) hR.1 rfl rfl rfl (Nat.le_of_ble_eq_true rfl) d_Rf_there_37 ⟨Nat.le_of_ble_eq_true rfl, Nat.le_of_ble_eq_true rfl⟩ (fun h11 R12 => ?_)
    refine hg_if_ne C 45 d_Rf_there_40 (by decide) (fun z => absurd rfl z) (fun _ => ?_)
    refine hg_iconst (v := 0) C d_Rf_there_43 (by decide) ?_
    exact hg_iretN C hr rfl d_Rf_there_44 (Nat.le_of_ble_eq_true rfl) (Nat.le_of_ble_eq_true rfl) (⟨by rw [sp_there, gd1 (fun z => z1 (z.1))], by rw [sp_there, gd1 (fun z => z1 (z.1))]; exact R12⟩)
noncomputable def f_conflict (M : Mem) (k : Nat) (w : Int32) : Int32 := if w = 0 then M 28 k else if w = 1 then M 29 k else if w = 2 then (if M 29 k < 0 then (if M 5 (60 * (nV M - 1) + (M 28 k).toNatClampNeg) = 0 then 0 else 1) else M 6 (5 * (60 * (nV M - 1) + (M 28 k).toNatClampNeg) + (M 29 k).toNatClampNeg)) else if w = 3 then (if M 29 k < 0 then @ite _ (stv M (M 26 0).toNatClampNeg (sd M (M 26 0).toNatClampNeg) (M 28 k).toNatClampNeg 0 = 0) (Classical.propDecidable _) 0 1 else stv M (M 26 0).toNatClampNeg (sd M (M 26 0).toNatClampNeg) (M 28 k).toNatClampNeg ((M 29 k).toNatClampNeg + 1)) else M 30 k
def b_con (M : Mem) (k : Int32) : Prop := ¬ k < 0 ∧ (M 26 0 < 0 ∨ ¬ nI (nC M) ≤ k)
noncomputable def sp_conflict (M : Mem) (k w : Int32) : Int32 × Int32 × Mem := gd (b_con M k ∧ inr w 5) (¬ M 26 0 < 0) M (f_conflict (mset M 0 0 0) k.toNatClampNeg w, mset M 0 0 0)
theorem sw5 (x : Int32) : x = 0 ∨ x = 1 ∨ x = 2 ∨ x = 3 ∨ ((¬ x = 0 ∧ ¬ x = 1 ∧ ¬ x = 2 ∧ ¬ x = 3) ∧ (x.toInt < 0 ∨ 3 < x.toInt)) := by
  by_cases h0 : x = 0
  · exact Or.inl h0
  by_cases h1 : x = 1
  · exact Or.inr (Or.inl h1)
  by_cases h2 : x = 2
  · exact Or.inr (Or.inr (Or.inl h2))
  by_cases h3 : x = 3
  · exact Or.inr (Or.inr (Or.inr (Or.inl h3)))
  refine Or.inr (Or.inr (Or.inr (Or.inr ⟨⟨h0, h1, h2, h3⟩, ?_⟩)))
  have k0 : ¬ x.toInt = 0 := fun z => h0 (Int32.toInt_inj.mp z)
  have k1 : ¬ x.toInt = 1 := fun z => h1 (Int32.toInt_inj.mp z)
  have k2 : ¬ x.toInt = 2 := fun z => h2 (Int32.toInt_inj.mp z)
  have k3 : ¬ x.toInt = 3 := fun z => h3 (Int32.toInt_inj.mp z)
  omega
abbrev rm_Rf_conflict : Room := { frames := 2, cells := 0, slots := 0, locals := 49 }
set_option maxHeartbeats 4000000 in
set_option maxRecDepth 100000 in
theorem k_Rf_conflict (l : Launch) (Γ : Gam) (h : Pic) (r : Nat) (aa : Nat → Nat) (M : Mem) (hR : rf_at Γ r aa M h) (hI : Inv0 M) (hZ : I_zer M) (k0 w0 : Int32) : kN l Γ y_Rf_conflict w_Rf_conflict rm_Rf_conflict [.ref r, .int k0, .int w0] h (fun q u => q = some (.int (sp_conflict M k0 w0).2.1) ∧ rf_at Γ r aa (sp_conflict M k0 w0).2.2 u) 0 0 := by
  refine hg_entryN (own := "ModelMergeModel") (cc := b_Rf_conflict) (maxL := 6) (ret := (some .int)) (lv0 := [(0, .ref r), (1, .int k0), (2, .int w0)]) (by decide) rfl rfl (Nat.le_of_ble_eq_true rfl) rfl ?_
  intro p9 e9 s9 m9 args below meth c9 A C hnm hr
  obtain ⟨⟨⟨eT, hT⟩, ⟨eV, hV1, hV⟩, ⟨eS, hS⟩, ⟨eR, hRR⟩, ⟨eC, hC⟩⟩, hI2, -⟩ := id hI
  refine hg_aload_n C 0 d_Rf_conflict_0 rfl rfl ?_
  refine hg_iload_n C 1 d_Rf_conflict_1 rfl rfl ?_
  refine hg_if_lt C 32 d_Rf_conflict_2 (by decide) (fun c2 => ?_) (fun c2 => ?_)
  · refine hg_iconst (v := 0) C d_Rf_conflict_32 (by decide) ?_
    refine hg_aload_n C 0 d_Rf_conflict_33 rfl rfl ?_
    refine f_Rf_78 C hR.1 rfl d_Rf_conflict_34 ?_
    refine hg_if_lt C 44 d_Rf_conflict_37 (by decide) (fun c37 => ?_) (fun c37 => ?_)
    · refine hg_iconst (v := 0) C d_Rf_conflict_44 (by decide) ?_
      refine hg_VNu (q := ("ModelMergeModel", T_Rf, 31)) C (k_Rf_goes1 l Γ _ r aa M hR 0) (cw_Rf_108 C.2.2.2.2.1 rfl rfl ⟨Nat.le_of_ble_eq_true rfl, Nat.le_of_ble_eq_true rfl⟩) hR.1 rfl rfl rfl (Nat.le_of_ble_eq_true rfl) d_Rf_conflict_45 ⟨Nat.le_of_ble_eq_true rfl, Nat.le_of_ble_eq_true rfl⟩ (fun h1 R2 => ?_)
      refine hg_if_ne C 53 d_Rf_conflict_48 (by decide) (fun z => absurd rfl z) (fun _ => ?_)
      refine hg_iconst (v := 0) C d_Rf_conflict_51 (by decide) ?_
      exact hg_iretN C hr rfl d_Rf_conflict_52 (Nat.le_of_ble_eq_true rfl) (Nat.le_of_ble_eq_true rfl) (⟨by rw [sp_conflict, gd1 (fun z => z.1.1 c2)], by rw [sp_conflict, gd1 (fun z => z.1.1 c2)]; exact R2⟩)
    · refine hg_iconst (v := 1) C d_Rf_conflict_40 (by decide) ?_
      refine hg_goto C 45 d_Rf_conflict_41 (by decide) ?_
      refine hg_VNu (q := ("ModelMergeModel", T_Rf, 31)) C (k_Rf_goes1 l Γ _ r aa M hR 1) (cw_Rf_108 C.2.2.2.2.1 rfl rfl ⟨Nat.le_of_ble_eq_true rfl, Nat.le_of_ble_eq_true rfl⟩) hR.1 rfl rfl rfl (Nat.le_of_ble_eq_true rfl) d_Rf_conflict_45 ⟨Nat.le_of_ble_eq_true rfl, Nat.le_of_ble_eq_true rfl⟩ (fun h3 R4 => ?_)
      refine hg_if_ne C 53 d_Rf_conflict_48 (by decide) (fun z => absurd rfl z) (fun _ => ?_)
      refine hg_iconst (v := 0) C d_Rf_conflict_51 (by decide) ?_
      exact hg_iretN C hr rfl d_Rf_conflict_52 (Nat.le_of_ble_eq_true rfl) (Nat.le_of_ble_eq_true rfl) (⟨by rw [sp_conflict, gd1 (fun z => z.1.1 c2)], by rw [sp_conflict, gd1 (fun z => z.1.1 c2)]; exact R4⟩)
  · refine hg_aload_n C 0 d_Rf_conflict_5 rfl rfl ?_
    refine f_Rf_78 C hR.1 rfl d_Rf_conflict_6 ?_
    refine hg_if_lt C 20 d_Rf_conflict_9 (by decide) (fun c9 => ?_) (fun c9 => ?_)
    · refine hg_iload_n C 2 d_Rf_conflict_20 rfl rfl ?_
      refine hg_iconst (v := 5) C d_Rf_conflict_21 (by decide) ?_
      refine hg_SNb C (k_Rf_isIn l Γ _ w0 5) (cw_Rf_101 C.2.2.2.2.1 rfl rfl ⟨Nat.le_of_ble_eq_true rfl, Nat.le_of_ble_eq_true rfl⟩) rfl rfl (Nat.le_of_ble_eq_true rfl) d_Rf_conflict_22 ⟨Nat.le_of_ble_eq_true rfl, Nat.le_of_ble_eq_true rfl⟩ (fun z5 => ?_) (fun z5 => ?_)
      · refine hg_if_eq C 32 d_Rf_conflict_25 (by decide) (fun z => absurd z (by decide)) (fun _ => ?_)
        refine hg_iconst (v := 1) C d_Rf_conflict_28 (by decide) ?_
        refine hg_goto C 33 d_Rf_conflict_29 (by decide) ?_
        refine hg_aload_n C 0 d_Rf_conflict_33 rfl rfl ?_
        refine f_Rf_78 C hR.1 rfl d_Rf_conflict_34 ?_
        refine hg_if_lt C 44 d_Rf_conflict_37 (by decide) (fun _ => ?_) (fun z => absurd c9 z)
        refine hg_iconst (v := 0) C d_Rf_conflict_44 (by decide) ?_
        refine hg_VNu (q := ("ModelMergeModel", T_Rf, 31)) C (k_Rf_goes2 l Γ _ r aa M hR) (cw_Rf_108 C.2.2.2.2.1 rfl rfl ⟨Nat.le_of_ble_eq_true rfl, Nat.le_of_ble_eq_true rfl⟩) hR.1 rfl rfl rfl (Nat.le_of_ble_eq_true rfl) d_Rf_conflict_45 ⟨Nat.le_of_ble_eq_true rfl, Nat.le_of_ble_eq_true rfl⟩ (fun h6 R7 => ?_)
        refine hg_if_ne C 53 d_Rf_conflict_48 (by decide) (fun z => absurd rfl z) (fun _ => ?_)
        refine hg_iconst (v := 0) C d_Rf_conflict_51 (by decide) ?_
        exact hg_iretN C hr rfl d_Rf_conflict_52 (Nat.le_of_ble_eq_true rfl) (Nat.le_of_ble_eq_true rfl) (⟨by rw [sp_conflict, gd2 ⟨⟨c2, Or.inl c9⟩, z5⟩ (fun z => z c9)], by rw [sp_conflict, gd2 ⟨⟨c2, Or.inl c9⟩, z5⟩ (fun z => z c9)]; exact R7⟩)
      · refine hg_if_eq C 32 d_Rf_conflict_25 (by decide) (fun _ => ?_) (fun z => absurd (by decide) z)
        refine hg_iconst (v := 0) C d_Rf_conflict_32 (by decide) ?_
        refine hg_aload_n C 0 d_Rf_conflict_33 rfl rfl ?_
        refine f_Rf_78 C hR.1 rfl d_Rf_conflict_34 ?_
        refine hg_if_lt C 44 d_Rf_conflict_37 (by decide) (fun _ => ?_) (fun z => absurd c9 z)
        refine hg_iconst (v := 0) C d_Rf_conflict_44 (by decide) ?_
        refine hg_VNu (q := ("ModelMergeModel", T_Rf, 31)) C (k_Rf_goes1 l Γ _ r aa M hR 0) (cw_Rf_108 C.2.2.2.2.1 rfl rfl ⟨Nat.le_of_ble_eq_true rfl, Nat.le_of_ble_eq_true rfl⟩) hR.1 rfl rfl rfl (Nat.le_of_ble_eq_true rfl) d_Rf_conflict_45 ⟨Nat.le_of_ble_eq_true rfl, Nat.le_of_ble_eq_true rfl⟩ (fun h8 R9 => ?_)
        refine hg_if_ne C 53 d_Rf_conflict_48 (by decide) (fun z => absurd rfl z) (fun _ => ?_)
        refine hg_iconst (v := 0) C d_Rf_conflict_51 (by decide) ?_
        exact hg_iretN C hr rfl d_Rf_conflict_52 (Nat.le_of_ble_eq_true rfl) (Nat.le_of_ble_eq_true rfl) (⟨by rw [sp_conflict, gd1 (fun z => z5 z.2)], by rw [sp_conflict, gd1 (fun z => z5 z.2)]; exact R9⟩)
    · refine hg_iload_n C 1 d_Rf_conflict_12 rfl rfl ?_
      refine hg_aload_n C 0 d_Rf_conflict_13 rfl rfl ?_
      refine f_Rf_141 C hR.1 rfl d_Rf_conflict_14 ?_
      refine hg_ti eC ?_
      refine hg_icmp_ge C 32 d_Rf_conflict_17 (by decide) (fun c17 => ?_) (fun c17 => ?_)
      · refine hg_iconst (v := 0) C d_Rf_conflict_32 (by decide) ?_
        refine hg_aload_n C 0 d_Rf_conflict_33 rfl rfl ?_
        refine f_Rf_78 C hR.1 rfl d_Rf_conflict_34 ?_
        refine hg_if_lt C 44 d_Rf_conflict_37 (by decide) (fun z => absurd z c9) (fun _ => ?_)
        refine hg_iconst (v := 1) C d_Rf_conflict_40 (by decide) ?_
        refine hg_goto C 45 d_Rf_conflict_41 (by decide) ?_
        refine hg_VNu (q := ("ModelMergeModel", T_Rf, 31)) C (k_Rf_goes1 l Γ _ r aa M hR 1) (cw_Rf_108 C.2.2.2.2.1 rfl rfl ⟨Nat.le_of_ble_eq_true rfl, Nat.le_of_ble_eq_true rfl⟩) hR.1 rfl rfl rfl (Nat.le_of_ble_eq_true rfl) d_Rf_conflict_45 ⟨Nat.le_of_ble_eq_true rfl, Nat.le_of_ble_eq_true rfl⟩ (fun h10 R11 => ?_)
        refine hg_if_ne C 53 d_Rf_conflict_48 (by decide) (fun z => absurd rfl z) (fun _ => ?_)
        refine hg_iconst (v := 0) C d_Rf_conflict_51 (by decide) ?_
        exact hg_iretN C hr rfl d_Rf_conflict_52 (Nat.le_of_ble_eq_true rfl) (Nat.le_of_ble_eq_true rfl) (⟨by rw [sp_conflict, gd1 (fun z => z.1.2.elim c9 (fun y => y c17))], by rw [sp_conflict, gd1 (fun z => z.1.2.elim c9 (fun y => y c17))]; exact R11⟩)
      · refine hg_iload_n C 2 d_Rf_conflict_20 rfl rfl ?_
        refine hg_iconst (v := 5) C d_Rf_conflict_21 (by decide) ?_
        refine hg_SNb C (k_Rf_isIn l Γ _ w0 5) (cw_Rf_101 C.2.2.2.2.1 rfl rfl ⟨Nat.le_of_ble_eq_true rfl, Nat.le_of_ble_eq_true rfl⟩) rfl rfl (Nat.le_of_ble_eq_true rfl) d_Rf_conflict_22 ⟨Nat.le_of_ble_eq_true rfl, Nat.le_of_ble_eq_true rfl⟩ (fun z12 => ?_) (fun z12 => ?_)
        · refine hg_if_eq C 32 d_Rf_conflict_25 (by decide) (fun z => absurd z (by decide)) (fun _ => ?_)
          refine hg_iconst (v := 1) C d_Rf_conflict_28 (by decide) ?_
          refine hg_goto C 33 d_Rf_conflict_29 (by decide) ?_
          refine hg_aload_n C 0 d_Rf_conflict_33 rfl rfl ?_
          refine f_Rf_78 C hR.1 rfl d_Rf_conflict_34 ?_
          refine hg_if_lt C 44 d_Rf_conflict_37 (by decide) (fun z => absurd z c9) (fun _ => ?_)
          refine hg_iconst (v := 1) C d_Rf_conflict_40 (by decide) ?_
          refine hg_goto C 45 d_Rf_conflict_41 (by decide) ?_
          refine hg_VNu (q := ("ModelMergeModel", T_Rf, 31)) C (k_Rf_goes0 l Γ _ r aa M hR) (cw_Rf_108 C.2.2.2.2.1 rfl rfl ⟨Nat.le_of_ble_eq_true rfl, Nat.le_of_ble_eq_true rfl⟩) hR.1 rfl rfl rfl (Nat.le_of_ble_eq_true rfl) d_Rf_conflict_45 ⟨Nat.le_of_ble_eq_true rfl, Nat.le_of_ble_eq_true rfl⟩ (fun h13 R14 => ?_)
          obtain ⟨N, eN⟩ : ∃ z, z = mset M 0 0 0 := ⟨_, rfl⟩
          rw [← eN] at R14
          have hN : Inv0 N := by rw [eN]; exact Inv0_code 0 hI
          have qS : nS N = nS M := by rw [eN]; rfl
          have qT : nT N = nT M := by rw [eN]; rfl
          have qV : nV N = nV M := by rw [eN]; rfl
          have qR : nR N = nR M := by rw [eN]; rfl
          have qC : nC N = nC M := by rw [eN]; rfl
          obtain ⟨⟨⟨fT, gT⟩, ⟨fV, gV1, gV⟩, ⟨fS, gS⟩, ⟨fR, gR⟩, ⟨fC, gC⟩⟩, hN2, -⟩ := id hN
          obtain ⟨k, hk, rfl⟩ := inr_nat (n := nC M) ⟨c2, c17⟩ (by omega)
          obtain ⟨s, hs, e26, -, -⟩ : ∃ s, s < nS N ∧ N 26 0 = nI s ∧ N 14 s = 1 ∧ nV N < 40 := by
            rcases hN.2.2.2.2.2.1 with z | z
            · rw [eN] at z; exact absurd (show M 26 0 < 0 by rw [show M 26 0 = -1 from z]; decide) c9
            · exact z
          obtain ⟨⟨t, ht, e28⟩, h29, -⟩ := hN.2.2.2.2.2.2.1 k (by omega)
          refine hg_if_ne C 53 d_Rf_conflict_48 (by decide) (fun _ => ?_) (fun z => absurd z (by decide))
          refine hg_aload_n C 0 d_Rf_conflict_53 rfl rfl ?_
          refine f_Rf_81 C R14.1 rfl d_Rf_conflict_54 ?_
          refine hg_iload_n C 1 d_Rf_conflict_57 rfl rfl ?_
          have b58 : k < 300 := (by omega)
          refine hg_iald C 0 (R14.2.1 28 rfl) rfl (vp_in_nI (N := 300) b58 (by omega)) d_Rf_conflict_58 ?_
          refine hg_ti (congrArg (N 28) (nI_clamp (n := k) (by omega))) ?_
          refine hg_ti e28 ?_
          refine hg_istore_n (lv' := [(3, .int (nI t)), (0, .ref r), (1, .int (nI k)), (2, .int w0)]) C d_Rf_conflict_59 rfl (by decide) rfl ?_
          refine hg_aload_n C 1 d_Rf_conflict_60 rfl rfl ?_
          refine f_Rf_84 C R14.1 rfl d_Rf_conflict_61 ?_
          refine hg_iload_n C 2 d_Rf_conflict_64 rfl rfl ?_
          have b65 : k < 300 := (by omega)
          refine hg_iald C 0 (R14.2.1 29 rfl) rfl (vp_in_nI (N := 300) b65 (by omega)) d_Rf_conflict_65 ?_
          refine hg_ti (congrArg (N 29) (nI_clamp (n := k) (by omega))) ?_
          refine hg_istore (lv' := [(4, .int (N 29 k)), (3, .int (nI t)), (0, .ref r), (1, .int (nI k)), (2, .int w0)]) C d_Rf_conflict_66 (by decide) rfl ?_
          refine hg_iload C 0 d_Rf_conflict_68 rfl ?_
          refine hg_if_ge C 77 d_Rf_conflict_70 (by decide) (fun c70 => ?_) (fun c70 => ?_)
          · obtain ⟨f, hf, e29⟩ : ∃ f, f < 5 ∧ N 29 k = nI f := by
              rcases h29 with z | z
              · rw [z] at c70; exact absurd c70 (by decide)
              · exact z
            refine hg_le (lv' := [(4, .int (nI f)), (3, .int (nI t)), (0, .ref r), (1, .int (nI k)), (2, .int w0)]) (by rw [e29]) ?_
            refine hg_iconst (v := 0) C d_Rf_conflict_77 (by decide) ?_
            refine hg_istore (lv' := [(5, .int 0), (4, .int (nI f)), (3, .int (nI t)), (0, .ref r), (1, .int (nI k)), (2, .int w0)]) C d_Rf_conflict_78 (by decide) rfl ?_
            refine hg_iload_n C 5 d_Rf_conflict_80 rfl rfl ?_
            rcases sw5 w0 with rfl | rfl | rfl | rfl | ⟨⟨w0, w1, w2, w3⟩, hw⟩
            · refine hg_tableIn C 112 d_Rf_conflict_81 (by decide) (by decide) rfl (by decide) ?_
              refine hg_iload_n C 2 d_Rf_conflict_112 rfl rfl ?_
              exact hg_iretN C hr rfl d_Rf_conflict_113 (Nat.le_of_ble_eq_true rfl) (Nat.le_of_ble_eq_true rfl) (⟨by rw [sp_conflict, gd0 ⟨⟨c2, Or.inr c17⟩, z12⟩ c9, ← eN, nI_clamp (n := k) (by omega), f_conflict, if_pos rfl, e28], by rw [sp_conflict, gd0 ⟨⟨c2, Or.inr c17⟩, z12⟩ c9, ← eN]; exact R14⟩)
            · refine hg_tableIn C 114 d_Rf_conflict_81 (by decide) (by decide) rfl (by decide) ?_
              refine hg_iload C 1 d_Rf_conflict_114 rfl ?_
              exact hg_iretN C hr rfl d_Rf_conflict_116 (Nat.le_of_ble_eq_true rfl) (Nat.le_of_ble_eq_true rfl) (⟨by rw [sp_conflict, gd0 ⟨⟨c2, Or.inr c17⟩, z12⟩ c9, ← eN, nI_clamp (n := k) (by omega), f_conflict, if_neg (by decide), if_pos rfl, e29], by rw [sp_conflict, gd0 ⟨⟨c2, Or.inr c17⟩, z12⟩ c9, ← eN]; exact R14⟩)
            · refine hg_tableIn C 117 d_Rf_conflict_81 (by decide) (by decide) rfl (by decide) ?_
              refine hg_iload C 0 d_Rf_conflict_117 rfl ?_
              refine hg_if_eq C 143 d_Rf_conflict_119 (by decide) (fun _ => ?_) (fun z => absurd (by decide) z)
              refine hg_aload_n C 3 d_Rf_conflict_143 rfl rfl ?_
              refine f_Rf_24 C R14.1 rfl d_Rf_conflict_144 ?_
              refine hg_iconst (v := 5) C d_Rf_conflict_147 (by decide) ?_
              refine hg_aload_n C 3 d_Rf_conflict_148 rfl rfl ?_
              refine hg_iload_n C 2 d_Rf_conflict_149 rfl rfl ?_
              refine hg_VNv (q := ("ModelMergeModel", T_Rf, 31)) C (k_Rf_mine l Γ _ r aa N R14 hN t (by omega)) (cw_Rf_133 C.2.2.2.2.1 rfl rfl ⟨Nat.le_of_ble_eq_true rfl, Nat.le_of_ble_eq_true rfl⟩) R14.1 rfl rfl rfl (Nat.le_of_ble_eq_true rfl) d_Rf_conflict_150 ⟨Nat.le_of_ble_eq_true rfl, Nat.le_of_ble_eq_true rfl⟩ (fun _ => ?_)
              refine hg_imul C d_Rf_conflict_153 ?_
              refine hg_ti (show ((5 : Int32) : Int32) * nI (60 * (nV N - 1) + t) = nI (5 * (60 * (nV N - 1) + t)) from pk_mul 5 (60 * (nV N - 1) + t)) ?_
              refine hg_iload C 1 d_Rf_conflict_154 rfl ?_
              refine hg_iadd C d_Rf_conflict_156 ?_
              refine hg_ti (show (nI (5 * (60 * (nV N - 1) + t)) : Int32) + nI f = nI (5 * (60 * (nV N - 1) + t) + f) from nI_add (5 * (60 * (nV N - 1) + t)) f) ?_
              have b157 : 5 * (60 * (nV N - 1) + t) + f < 12000 := (by omega)
              refine hg_iald C 0 (R14.2.1 6 rfl) rfl (vp_in_nI (N := 12000) b157 (by omega)) d_Rf_conflict_157 ?_
              refine hg_ti (congrArg (N 6) (nI_clamp (n := 5 * (60 * (nV N - 1) + t) + f) (by omega))) ?_
              exact hg_iretN C hr rfl d_Rf_conflict_158 (Nat.le_of_ble_eq_true rfl) (Nat.le_of_ble_eq_true rfl) (⟨by rw [sp_conflict, gd0 ⟨⟨c2, Or.inr c17⟩, z12⟩ c9, ← eN, nI_clamp (n := k) (by omega), f_conflict, if_neg (by decide), if_neg (by decide), if_pos rfl, if_neg (show ¬ N 29 k < 0 by rw [e29]; exact nI_pos (by omega)), e28, nI_clamp (n := t) (by omega), e29, nI_clamp (n := f) (by omega)], by rw [sp_conflict, gd0 ⟨⟨c2, Or.inr c17⟩, z12⟩ c9, ← eN]; exact R14⟩)
            · refine hg_tableIn C 159 d_Rf_conflict_81 (by decide) (by decide) rfl (by decide) ?_
              refine hg_iload C 0 d_Rf_conflict_159 rfl ?_
              refine hg_if_eq C 184 d_Rf_conflict_161 (by decide) (fun _ => ?_) (fun z => absurd (by decide) z)
              refine hg_aload_n C 3 d_Rf_conflict_184 rfl rfl ?_
              refine hg_aload_n C 3 d_Rf_conflict_185 rfl rfl ?_
              refine f_Rf_78 C R14.1 rfl d_Rf_conflict_186 ?_
              refine hg_ti e26 ?_
              refine hg_iload_n C 2 d_Rf_conflict_189 rfl rfl ?_
              refine hg_iload C 1 d_Rf_conflict_190 rfl ?_
              refine hg_VNv (q := ("ModelMergeModel", T_Rf, 31)) C (k_Rf_here1 l Γ _ r aa N R14 hN s t (by omega) (by omega) f (by omega) (by rw [eN]; exact I_zer_code 0 hZ)) (cw_Rf_137 C.2.2.2.2.1 rfl rfl ⟨Nat.le_of_ble_eq_true rfl, Nat.le_of_ble_eq_true rfl⟩) R14.1 rfl rfl rfl (Nat.le_of_ble_eq_true rfl) d_Rf_conflict_192 ⟨Nat.le_of_ble_eq_true rfl, Nat.le_of_ble_eq_true rfl⟩ (fun _ => ?_)
              exact hg_iretN C hr rfl d_Rf_conflict_195 (Nat.le_of_ble_eq_true rfl) (Nat.le_of_ble_eq_true rfl) (⟨by rw [sp_conflict, gd0 ⟨⟨c2, Or.inr c17⟩, z12⟩ c9, ← eN, nI_clamp (n := k) (by omega), f_conflict, if_neg (by decide), if_neg (by decide), if_neg (by decide), if_pos rfl, if_neg (show ¬ N 29 k < 0 by rw [e29]; exact nI_pos (by omega)), e28, e26, nI_clamp (n := t) (by omega), nI_clamp (n := s) (by omega), e29, nI_clamp (n := f) (by omega)], by rw [sp_conflict, gd0 ⟨⟨c2, Or.inr c17⟩, z12⟩ c9, ← eN]; exact R14⟩)
            · refine hg_tableOut C 196 d_Rf_conflict_81 hw (by decide) ?_
              refine hg_aload_n C 3 d_Rf_conflict_196 rfl rfl ?_
              refine f_Rf_87 C R14.1 rfl d_Rf_conflict_197 ?_
              refine hg_iload_n C 4 d_Rf_conflict_200 rfl rfl ?_
              have b201 : k < 300 := (by omega)
              refine hg_iald C 0 (R14.2.1 30 rfl) rfl (vp_in_nI (N := 300) b201 (by omega)) d_Rf_conflict_201 ?_
              refine hg_ti (congrArg (N 30) (nI_clamp (n := k) (by omega))) ?_
              exact hg_iretN C hr rfl d_Rf_conflict_202 (Nat.le_of_ble_eq_true rfl) (Nat.le_of_ble_eq_true rfl) (⟨by rw [sp_conflict, gd0 ⟨⟨c2, Or.inr c17⟩, z12⟩ c9, ← eN, nI_clamp (n := k) (by omega), f_conflict, if_neg w0, if_neg w1, if_neg w2, if_neg w3], by rw [sp_conflict, gd0 ⟨⟨c2, Or.inr c17⟩, z12⟩ c9, ← eN]; exact R14⟩)
          · refine hg_iconst (v := 1) C d_Rf_conflict_73 (by decide) ?_
            refine hg_goto C 78 d_Rf_conflict_74 (by decide) ?_
            refine hg_istore (lv' := [(5, .int 1), (4, .int (N 29 k)), (3, .int (nI t)), (0, .ref r), (1, .int (nI k)), (2, .int w0)]) C d_Rf_conflict_78 (by decide) rfl ?_
            refine hg_iload_n C 5 d_Rf_conflict_80 rfl rfl ?_
            rcases sw5 w0 with rfl | rfl | rfl | rfl | ⟨⟨w0, w1, w2, w3⟩, hw⟩
            · refine hg_tableIn C 112 d_Rf_conflict_81 (by decide) (by decide) rfl (by decide) ?_
              refine hg_iload_n C 2 d_Rf_conflict_112 rfl rfl ?_
              exact hg_iretN C hr rfl d_Rf_conflict_113 (Nat.le_of_ble_eq_true rfl) (Nat.le_of_ble_eq_true rfl) (⟨by rw [sp_conflict, gd0 ⟨⟨c2, Or.inr c17⟩, z12⟩ c9, ← eN, nI_clamp (n := k) (by omega), f_conflict, if_pos rfl, e28], by rw [sp_conflict, gd0 ⟨⟨c2, Or.inr c17⟩, z12⟩ c9, ← eN]; exact R14⟩)
            · refine hg_tableIn C 114 d_Rf_conflict_81 (by decide) (by decide) rfl (by decide) ?_
              refine hg_iload C 1 d_Rf_conflict_114 rfl ?_
              exact hg_iretN C hr rfl d_Rf_conflict_116 (Nat.le_of_ble_eq_true rfl) (Nat.le_of_ble_eq_true rfl) (⟨by rw [sp_conflict, gd0 ⟨⟨c2, Or.inr c17⟩, z12⟩ c9, ← eN, nI_clamp (n := k) (by omega), f_conflict, if_neg (by decide), if_pos rfl], by rw [sp_conflict, gd0 ⟨⟨c2, Or.inr c17⟩, z12⟩ c9, ← eN]; exact R14⟩)
            · refine hg_tableIn C 117 d_Rf_conflict_81 (by decide) (by decide) rfl (by decide) ?_
              refine hg_iload C 0 d_Rf_conflict_117 rfl ?_
              refine hg_if_eq C 143 d_Rf_conflict_119 (by decide) (fun z => absurd z (by decide)) (fun _ => ?_)
              refine hg_aload_n C 3 d_Rf_conflict_122 rfl rfl ?_
              refine f_Rf_20 C R14.1 rfl d_Rf_conflict_123 ?_
              refine hg_aload_n C 3 d_Rf_conflict_126 rfl rfl ?_
              refine hg_iload_n C 2 d_Rf_conflict_127 rfl rfl ?_
              refine hg_VNv (q := ("ModelMergeModel", T_Rf, 31)) C (k_Rf_mine l Γ _ r aa N R14 hN t (by omega)) (cw_Rf_133 C.2.2.2.2.1 rfl rfl ⟨Nat.le_of_ble_eq_true rfl, Nat.le_of_ble_eq_true rfl⟩) R14.1 rfl rfl rfl (Nat.le_of_ble_eq_true rfl) d_Rf_conflict_128 ⟨Nat.le_of_ble_eq_true rfl, Nat.le_of_ble_eq_true rfl⟩ (fun _ => ?_)
              have b131 : 60 * (nV N - 1) + t < 2400 := (by omega)
              refine hg_zald C 2 (R14.2.1 5 rfl) rfl (vp_in_nI (N := 2400) b131 (by omega)) d_Rf_conflict_131 ?_
              refine hg_ti (congrArg (N 5) (nI_clamp (n := 60 * (nV N - 1) + t) (by omega))) ?_
              refine hg_if_eq C 139 d_Rf_conflict_132 (by decide) (fun c132 => ?_) (fun c132 => ?_)
              · refine hg_iconst (v := 0) C d_Rf_conflict_139 (by decide) ?_
                refine hg_goto C 158 d_Rf_conflict_140 (by decide) ?_
                exact hg_iretN C hr rfl d_Rf_conflict_158 (Nat.le_of_ble_eq_true rfl) (Nat.le_of_ble_eq_true rfl) (⟨by rw [sp_conflict, gd0 ⟨⟨c2, Or.inr c17⟩, z12⟩ c9, ← eN, nI_clamp (n := k) (by omega), f_conflict, if_neg (by decide), if_neg (by decide), if_pos rfl, if_pos (Int32.not_le.mp c70), e28, nI_clamp (n := t) (by omega), if_pos c132], by rw [sp_conflict, gd0 ⟨⟨c2, Or.inr c17⟩, z12⟩ c9, ← eN]; exact R14⟩)
              · refine hg_iconst (v := 1) C d_Rf_conflict_135 (by decide) ?_
                refine hg_goto C 158 d_Rf_conflict_136 (by decide) ?_
                exact hg_iretN C hr rfl d_Rf_conflict_158 (Nat.le_of_ble_eq_true rfl) (Nat.le_of_ble_eq_true rfl) (⟨by rw [sp_conflict, gd0 ⟨⟨c2, Or.inr c17⟩, z12⟩ c9, ← eN, nI_clamp (n := k) (by omega), f_conflict, if_neg (by decide), if_neg (by decide), if_pos rfl, if_pos (Int32.not_le.mp c70), e28, nI_clamp (n := t) (by omega), if_neg c132], by rw [sp_conflict, gd0 ⟨⟨c2, Or.inr c17⟩, z12⟩ c9, ← eN]; exact R14⟩)
            · refine hg_tableIn C 159 d_Rf_conflict_81 (by decide) (by decide) rfl (by decide) ?_
              refine hg_iload C 0 d_Rf_conflict_159 rfl ?_
              refine hg_if_eq C 184 d_Rf_conflict_161 (by decide) (fun z => absurd z (by decide)) (fun _ => ?_)
              refine hg_aload_n C 3 d_Rf_conflict_164 rfl rfl ?_
              refine hg_aload_n C 3 d_Rf_conflict_165 rfl rfl ?_
              refine f_Rf_78 C R14.1 rfl d_Rf_conflict_166 ?_
              refine hg_ti e26 ?_
              refine hg_iload_n C 2 d_Rf_conflict_169 rfl rfl ?_
              refine hg_VNv (q := ("ModelMergeModel", T_Rf, 31)) C (k_Rf_isHere l Γ _ r aa N R14 hN s t (by omega) (by omega)) (cw_Rf_123 C.2.2.2.2.1 rfl rfl ⟨Nat.le_of_ble_eq_true rfl, Nat.le_of_ble_eq_true rfl⟩) R14.1 rfl rfl rfl (Nat.le_of_ble_eq_true rfl) d_Rf_conflict_170 ⟨Nat.le_of_ble_eq_true rfl, Nat.le_of_ble_eq_true rfl⟩ (fun _ => ?_)
              refine hg_if_eq C 180 d_Rf_conflict_173 (by decide) (fun c173 => ?_) (fun c173 => ?_)
              · refine hg_iconst (v := 0) C d_Rf_conflict_180 (by decide) ?_
                refine hg_goto C 195 d_Rf_conflict_181 (by decide) ?_
                exact hg_iretN C hr rfl d_Rf_conflict_195 (Nat.le_of_ble_eq_true rfl) (Nat.le_of_ble_eq_true rfl) (⟨by rw [sp_conflict, gd0 ⟨⟨c2, Or.inr c17⟩, z12⟩ c9, ← eN, nI_clamp (n := k) (by omega), f_conflict, if_neg (by decide), if_neg (by decide), if_neg (by decide), if_pos rfl, if_pos (Int32.not_le.mp c70), e28, e26, nI_clamp (n := t) (by omega), nI_clamp (n := s) (by omega), if_pos c173], by rw [sp_conflict, gd0 ⟨⟨c2, Or.inr c17⟩, z12⟩ c9, ← eN]; exact R14⟩)
              · refine hg_iconst (v := 1) C d_Rf_conflict_176 (by decide) ?_
                refine hg_goto C 195 d_Rf_conflict_177 (by decide) ?_
                exact hg_iretN C hr rfl d_Rf_conflict_195 (Nat.le_of_ble_eq_true rfl) (Nat.le_of_ble_eq_true rfl) (⟨by rw [sp_conflict, gd0 ⟨⟨c2, Or.inr c17⟩, z12⟩ c9, ← eN, nI_clamp (n := k) (by omega), f_conflict, if_neg (by decide), if_neg (by decide), if_neg (by decide), if_pos rfl, if_pos (Int32.not_le.mp c70), e28, e26, nI_clamp (n := t) (by omega), nI_clamp (n := s) (by omega), if_neg c173], by rw [sp_conflict, gd0 ⟨⟨c2, Or.inr c17⟩, z12⟩ c9, ← eN]; exact R14⟩)
            · refine hg_tableOut C 196 d_Rf_conflict_81 hw (by decide) ?_
              refine hg_aload_n C 3 d_Rf_conflict_196 rfl rfl ?_
              refine f_Rf_87 C R14.1 rfl d_Rf_conflict_197 ?_
              refine hg_iload_n C 4 d_Rf_conflict_200 rfl rfl ?_
              have b201 : k < 300 := (by omega)
              refine hg_iald C 0 (R14.2.1 30 rfl) rfl (vp_in_nI (N := 300) b201 (by omega)) d_Rf_conflict_201 ?_
              refine hg_ti (congrArg (N 30) (nI_clamp (n := k) (by omega))) ?_
              exact hg_iretN C hr rfl d_Rf_conflict_202 (Nat.le_of_ble_eq_true rfl) (Nat.le_of_ble_eq_true rfl) (⟨by rw [sp_conflict, gd0 ⟨⟨c2, Or.inr c17⟩, z12⟩ c9, ← eN, nI_clamp (n := k) (by omega), f_conflict, if_neg w0, if_neg w1, if_neg w2, if_neg w3], by rw [sp_conflict, gd0 ⟨⟨c2, Or.inr c17⟩, z12⟩ c9, ← eN]; exact R14⟩)
        · refine hg_if_eq C 32 d_Rf_conflict_25 (by decide) (fun _ => ?_) (fun z => absurd (by decide) z)
          refine hg_iconst (v := 0) C d_Rf_conflict_32 (by decide) ?_
          refine hg_aload_n C 0 d_Rf_conflict_33 rfl rfl ?_
          refine f_Rf_78 C hR.1 rfl d_Rf_conflict_34 ?_
          refine hg_if_lt C 44 d_Rf_conflict_37 (by decide) (fun z => absurd z c9) (fun _ => ?_)
          refine hg_iconst (v := 1) C d_Rf_conflict_40 (by decide) ?_
          refine hg_goto C 45 d_Rf_conflict_41 (by decide) ?_
          refine hg_VNu (q := ("ModelMergeModel", T_Rf, 31)) C (k_Rf_goes1 l Γ _ r aa M hR 1) (cw_Rf_108 C.2.2.2.2.1 rfl rfl ⟨Nat.le_of_ble_eq_true rfl, Nat.le_of_ble_eq_true rfl⟩) hR.1 rfl rfl rfl (Nat.le_of_ble_eq_true rfl) d_Rf_conflict_45 ⟨Nat.le_of_ble_eq_true rfl, Nat.le_of_ble_eq_true rfl⟩ (fun h15 R16 => ?_)
          refine hg_if_ne C 53 d_Rf_conflict_48 (by decide) (fun z => absurd rfl z) (fun _ => ?_)
          refine hg_iconst (v := 0) C d_Rf_conflict_51 (by decide) ?_
          exact hg_iretN C hr rfl d_Rf_conflict_52 (Nat.le_of_ble_eq_true rfl) (Nat.le_of_ble_eq_true rfl) (⟨by rw [sp_conflict, gd1 (fun z => z12 z.2)], by rw [sp_conflict, gd1 (fun z => z12 z.2)]; exact R16⟩)
