/-! THE REFERENCE, fifth part: differs, broken -/
/-- the k-th place from i on, n found before -/
noncomputable def srch (P : Nat → Prop) (k : Nat) : Nat → Nat → Nat → Int32
  | 0, _, _ => -1
  | m + 1, i, n => @ite _ (P i) (Classical.propDecidable _) (if n = k then nI i else srch P k m (i + 1) (n + 1)) (srch P k m (i + 1) n)
theorem srch_hit {P : Nat → Prop} {k m i n : Nat} (h : P i) (hn : n = k) : srch P k (m + 1) i n = nI i := by rw [srch, if_pos h, if_pos hn]
theorem srch_go {P : Nat → Prop} {k m i n : Nat} (h : P i) (hn : ¬ n = k) : srch P k (m + 1) i n = srch P k m (i + 1) (n + 1) := by rw [srch, if_pos h, if_neg hn]
theorem srch_no {P : Nat → Prop} {k m i n : Nat} (h : ¬ P i) : srch P k (m + 1) i n = srch P k m (i + 1) n := by rw [srch, if_neg h]
theorem srch_skip {P : Nat → Prop} {k n : Nat} : ∀ (d m i : Nat), (∀ j, i ≤ j → j < i + d → ¬ P j) → srch P k (m + d) i n = srch P k m (i + d) n
  | 0, m, i, _ => rfl
  | d + 1, m, i, h => by
    rw [← Nat.add_assoc, srch_no (h i (Nat.le_refl i) (by omega)), srch_skip d m (i + 1) (fun j h1 h2 => h j (by omega) (by omega)), Nat.add_right_comm i 1 d]
    rfl
def d_is (M : Mem) (a b t f : Nat) : Prop := (i_th M (nI a) (nI t) ∧ i_th M (nI b) (nI t) ∧ ¬ M 6 (5 * (60 * a + t) + f) = M 6 (5 * (60 * b + t) + f)) ∨ (¬ (i_th M (nI a) (nI t) ↔ i_th M (nI b) (nI t)) ∧ f = 0)
def d_at (M : Mem) (a b i : Nat) : Prop := d_is M a b (i / 5) (i % 5)
theorem d_at_of {M : Mem} {a b t f : Nat} (hf : f < 5) : d_at M a b (5 * t + f) ↔ d_is M a b t f := by
  unfold d_at
  rw [show (5 * t + f) / 5 = t by omega, show (5 * t + f) % 5 = f by omega]
noncomputable def sp_differs (M : Mem) (a b k : Int32) : Int32 × Int32 × Mem := gd (inr a (nI (nV M)) ∧ inr b (nI (nV M)) ∧ ¬ k < 0) True M (srch (d_at (mset M 0 0 0) a.toNatClampNeg b.toNatClampNeg) k.toNatClampNeg (5 * nT M) 0 0, mset M 0 0 0)
def flag (x : Int32) (P : Prop) : Prop := (x = 1 ∧ P) ∨ (x = 0 ∧ ¬ P)
theorem flag_iff {x y : Int32} {P Q : Prop} (hx : flag x P) (hy : flag y Q) : x = y ↔ (P ↔ Q) := by
  rcases hx with ⟨rfl, h1⟩ | ⟨rfl, h1⟩ <;> rcases hy with ⟨rfl, h2⟩ | ⟨rfl, h2⟩
  · exact ⟨fun _ => ⟨fun _ => h2, fun _ => h1⟩, fun _ => rfl⟩
  · exact ⟨fun z => absurd z (by decide), fun z => absurd (z.mp h1) h2⟩
  · exact ⟨fun z => absurd z (by decide), fun z => absurd (z.mpr h2) h1⟩
  · exact ⟨fun _ => ⟨fun z => absurd z h1, fun z => absurd z h2⟩, fun _ => rfl⟩
theorem flag_1 {x : Int32} {P : Prop} (h : flag x P) (hx : ¬ x = 0) : P := h.elim (fun z => z.2) (fun z => absurd z.1 hx)
theorem flag_0 {x : Int32} {P : Prop} (h : flag x P) (hx : x = 0) : ¬ P := h.elim (fun z => absurd (z.1.symm.trans hx) (by decide)) (fun z => z.2)
abbrev rm_Rf_differs : Room := { frames := 2, cells := 0, slots := 0, locals := 43 }
set_option maxHeartbeats 4000000 in
set_option maxRecDepth 100000 in
theorem lp_Rf_diff1 (l : Launch) (Γ : Gam) {p : Program} {e : Env} {s9 : State} {m : MethodId} {args : Array Value} {below : List Frame} {meth : Method} {c : Code} {A : Nat → Prop} (C : hp_C p s9 m args meth c b_Rf_differs 10 "ModelMergeModel" w_Rf_differs Γ.1 kcl (ktys Γ.2.1) (ksts Γ.2.2) knws A) {h : Pic} {r : Nat} {aa : Nat → Nat} {N : Mem} (hR : rf_at Γ r aa N h) (hN : Inv0 N) {a b k : Nat} (ha : a < nV N) (hb : b < nV N) (hk : k < 2 ^ 31) {v : Int32} {t : Nat} (ht : t < nT N) {xv yv : Int32} (hx : flag xv (i_th N (nI a) (nI t))) (hy : flag yv (i_th N (nI b) (nI t))) (hr : meth.sig.returnType = some .int) (kx : ∀ n, n ≤ 5 * t + 5 → srch (d_at N a b) k (5 * nT N - (5 * t + 5)) (5 * t + 5) n = v → hp_G p l e rm_Rf_differs s9 m args below meth c Γ.1 kcl A 10 (hp_NQ below Γ.1 kcl A (fun q u => q = some (.int v) ∧ rf_at Γ r aa N u) args s9 0 0) 0 0 180 [(5, .int (nI t)), (4, .int (nI n)), (1, .int (nI a)), (2, .int (nI b)), (3, .int (nI k)), (0, .ref r)] [] h) :
    ∀ (n9 : Nat) (f n : Nat), (f ≤ 5) → (5 + 1 ≤ f + n9) → (n ≤ 5 * t + f) → (srch (d_at N a b) k (5 * nT N - (5 * t + f)) (5 * t + f) n = v) → hp_G p l e rm_Rf_differs s9 m args below meth c Γ.1 kcl A 10 (hp_NQ below Γ.1 kcl A (fun q u => q = some (.int v) ∧ rf_at Γ r aa N u) args s9 0 0) 0 0 77 [(8, .int (nI f)), (7, .int yv), (6, .int xv), (5, .int (nI t)), (4, .int (nI n)), (1, .int (nI a)), (2, .int (nI b)), (3, .int (nI k)), (0, .ref r)] [] h := by
  intro n9
  induction n9 with
  | zero =>
    intro f n hf hm hn hv
    exact absurd hm (by omega)
  | succ n9 ih =>
    intro f n hf hm hn hv
    obtain ⟨⟨⟨fT, gT⟩, ⟨fV, gV1, gV⟩, ⟨fS, gS⟩, ⟨fR, gR⟩, ⟨fC, gC⟩⟩, hN2, -⟩ := id hN
    refine hg_iload C 0 d_Rf_differs_77 rfl ?_
    refine hg_iconst (v := 5) C d_Rf_differs_79 (by decide) ?_
    refine hg_icmp_ge C 180 d_Rf_differs_80 (by decide) (fun c80 => ?_) (fun c80 => ?_)
    · have c80n : 5 ≤ f := (nI_leI (a := 5) (b := f) (by omega) (by omega)).mp c80
      have hf5 : f = 5 := by omega
      subst hf5
      exact hg_lv (ks := [3, 4, 5, 6, 7, 8]) rfl (kx n hn hv)
    · have c80n : ¬ 5 ≤ f := fun z => c80 (nI_le (a := 5) (b := f) z (by omega))
      refine hg_aload_n C 8 d_Rf_differs_83 rfl rfl ?_
      refine f_Rf_24 C hR.1 rfl d_Rf_differs_84 ?_
      refine hg_iconst (v := 5) C d_Rf_differs_87 (by decide) ?_
      refine hg_bipush (v := 60) C d_Rf_differs_88 (by decide) ?_
      refine hg_iload_n C 5 d_Rf_differs_90 rfl rfl ?_
      refine hg_imul C d_Rf_differs_91 ?_
      refine hg_ti (show ((60 : Int32) : Int32) * nI a = nI (60 * a) from pk_mul 60 a) ?_
      refine hg_iload C 3 d_Rf_differs_92 rfl ?_
      refine hg_iadd C d_Rf_differs_94 ?_
      refine hg_ti (show (nI (60 * a) : Int32) + nI t = nI (60 * a + t) from nI_add (60 * a) t) ?_
      refine hg_imul C d_Rf_differs_95 ?_
      refine hg_ti (show ((5 : Int32) : Int32) * nI (60 * a + t) = nI (5 * (60 * a + t)) from pk_mul 5 (60 * a + t)) ?_
      refine hg_iload C 0 d_Rf_differs_96 rfl ?_
      refine hg_iadd C d_Rf_differs_98 ?_
      refine hg_ti (show (nI (5 * (60 * a + t)) : Int32) + nI f = nI (5 * (60 * a + t) + f) from nI_add (5 * (60 * a + t)) f) ?_
      have b99 : 5 * (60 * a + t) + f < 12000 := (by omega)
      refine hg_iald C 0 (hR.2.1 6 rfl) rfl (vp_in_nI (N := 12000) b99 (by omega)) d_Rf_differs_99 ?_
      refine hg_ti (congrArg (N 6) (nI_clamp (n := 5 * (60 * a + t) + f) (by omega))) ?_
      refine hg_aload_n C 8 d_Rf_differs_100 rfl rfl ?_
      refine f_Rf_24 C hR.1 rfl d_Rf_differs_101 ?_
      refine hg_iconst (v := 5) C d_Rf_differs_104 (by decide) ?_
      refine hg_bipush (v := 60) C d_Rf_differs_105 (by decide) ?_
      refine hg_iload_n C 6 d_Rf_differs_107 rfl rfl ?_
      refine hg_imul C d_Rf_differs_108 ?_
      refine hg_ti (show ((60 : Int32) : Int32) * nI b = nI (60 * b) from pk_mul 60 b) ?_
      refine hg_iload C 3 d_Rf_differs_109 rfl ?_
      refine hg_iadd C d_Rf_differs_111 ?_
      refine hg_ti (show (nI (60 * b) : Int32) + nI t = nI (60 * b + t) from nI_add (60 * b) t) ?_
      refine hg_imul C d_Rf_differs_112 ?_
      refine hg_ti (show ((5 : Int32) : Int32) * nI (60 * b + t) = nI (5 * (60 * b + t)) from pk_mul 5 (60 * b + t)) ?_
      refine hg_iload C 0 d_Rf_differs_113 rfl ?_
      refine hg_iadd C d_Rf_differs_115 ?_
      refine hg_ti (show (nI (5 * (60 * b + t)) : Int32) + nI f = nI (5 * (60 * b + t) + f) from nI_add (5 * (60 * b + t)) f) ?_
      have b116 : 5 * (60 * b + t) + f < 12000 := (by omega)
      refine hg_iald C 0 (hR.2.1 6 rfl) rfl (vp_in_nI (N := 12000) b116 (by omega)) d_Rf_differs_116 ?_
      refine hg_ti (congrArg (N 6) (nI_clamp (n := 5 * (60 * b + t) + f) (by omega))) ?_
      refine hg_icmp_eq C 124 d_Rf_differs_117 (by decide) (fun c117 => ?_) (fun c117 => ?_)
      · refine hg_iconst (v := 0) C d_Rf_differs_124 (by decide) ?_
        refine hg_istore (lv' := [(9, .int 0), (8, .int (nI f)), (7, .int yv), (6, .int xv), (5, .int (nI t)), (4, .int (nI n)), (1, .int (nI a)), (2, .int (nI b)), (3, .int (nI k)), (0, .ref r)]) C d_Rf_differs_125 (by decide) rfl ?_
        refine hg_iload C 3 d_Rf_differs_127 rfl ?_
        refine hg_if_eq C 145 d_Rf_differs_129 (by decide) (fun c129 => ?_) (fun c129 => ?_)
        · refine hg_iload C 3 d_Rf_differs_145 rfl ?_
          refine hg_iload C 2 d_Rf_differs_147 rfl ?_
          refine hg_icmp_eq C 174 d_Rf_differs_149 (by decide) (fun c149 => ?_) (fun c149 => ?_)
          · refine hg_iinc (v := nI (f + 1)) (lv' := [(8, .int (nI (f + 1))), (9, .int 0), (7, .int yv), (6, .int xv), (5, .int (nI t)), (4, .int (nI n)), (1, .int (nI a)), (2, .int (nI b)), (3, .int (nI k)), (0, .ref r)]) C 1 d_Rf_differs_174 rfl (nI_1 f) (by decide) rfl ?_
            refine hg_goto C 77 d_Rf_differs_177 (by decide) ?_
            rw [show 5 * nT N - (5 * t + f) = (5 * nT N - (5 * t + (f + 1))) + 1 by omega, srch_no (fun z9 => (fun z => z.elim (fun y => flag_0 hx c129 y.1) (fun y => y.1 ((flag_iff hx hy).mp c149))) ((d_at_of (by omega)).mp z9))] at hv
            exact hg_lv (ks := [0, 2, 3, 4, 5, 6, 7, 8, 9]) rfl (ih (f + 1) n (by omega) (by omega) (by omega) hv)
          · refine hg_iload C 1 d_Rf_differs_152 rfl ?_
            refine hg_if_ne C 174 d_Rf_differs_154 (by decide) (fun c154 => ?_) (fun c154 => ?_)
            · have c154n : ¬ f = 0 := fun z => c154 (congrArg nI z)
              refine hg_iinc (v := nI (f + 1)) (lv' := [(8, .int (nI (f + 1))), (9, .int 0), (7, .int yv), (6, .int xv), (5, .int (nI t)), (4, .int (nI n)), (1, .int (nI a)), (2, .int (nI b)), (3, .int (nI k)), (0, .ref r)]) C 1 d_Rf_differs_174 rfl (nI_1 f) (by decide) rfl ?_
              refine hg_goto C 77 d_Rf_differs_177 (by decide) ?_
              rw [show 5 * nT N - (5 * t + f) = (5 * nT N - (5 * t + (f + 1))) + 1 by omega, srch_no (fun z9 => (fun z => z.elim (fun y => flag_0 hx c129 y.1) (fun y => c154n y.2)) ((d_at_of (by omega)).mp z9))] at hv
              exact hg_lv (ks := [0, 2, 3, 4, 5, 6, 7, 8, 9]) rfl (ih (f + 1) n (by omega) (by omega) (by omega) hv)
            · have c154n : f = 0 := (nI_eq (a := f) (b := 0) (by omega) (by omega)).mp c154
              refine hg_iload C 5 d_Rf_differs_157 rfl ?_
              refine hg_iload_n C 8 d_Rf_differs_159 rfl rfl ?_
              refine hg_icmp_ne C 171 d_Rf_differs_160 (by decide) (fun c160 => ?_) (fun c160 => ?_)
              · have c160n : ¬ n = k := fun z => c160 (congrArg nI z)
                refine hg_iinc (v := nI (n + 1)) (lv' := [(4, .int (nI (n + 1))), (9, .int 0), (8, .int (nI f)), (7, .int yv), (6, .int xv), (5, .int (nI t)), (1, .int (nI a)), (2, .int (nI b)), (3, .int (nI k)), (0, .ref r)]) C 5 d_Rf_differs_171 rfl (nI_1 n) (by decide) rfl ?_
                refine hg_iinc (v := nI (f + 1)) (lv' := [(8, .int (nI (f + 1))), (4, .int (nI (n + 1))), (9, .int 0), (7, .int yv), (6, .int xv), (5, .int (nI t)), (1, .int (nI a)), (2, .int (nI b)), (3, .int (nI k)), (0, .ref r)]) C 2 d_Rf_differs_174 rfl (nI_1 f) (by decide) rfl ?_
                refine hg_goto C 77 d_Rf_differs_177 (by decide) ?_
                rw [show 5 * nT N - (5 * t + f) = (5 * nT N - (5 * t + (f + 1))) + 1 by omega, srch_go ((d_at_of (by omega)).mpr (Or.inr ⟨fun z => c149 ((flag_iff hx hy).mpr z), c154n⟩)) c160n] at hv
                exact hg_lv (ks := [0, 3, 4, 5, 1, 6, 7, 8, 9]) rfl (ih (f + 1) (n + 1) (by omega) (by omega) (by omega) hv)
              · have c160n : n = k := (nI_eq (a := n) (b := k) (by omega) (by omega)).mp c160
                refine hg_iconst (v := 5) C d_Rf_differs_163 (by decide) ?_
                refine hg_iload C 4 d_Rf_differs_164 rfl ?_
                refine hg_imul C d_Rf_differs_166 ?_
                refine hg_ti (show ((5 : Int32) : Int32) * nI t = nI (5 * t) from pk_mul 5 t) ?_
                refine hg_iload C 1 d_Rf_differs_167 rfl ?_
                refine hg_iadd C d_Rf_differs_169 ?_
                refine hg_ti (show (nI (5 * t) : Int32) + nI f = nI (5 * t + f) from nI_add (5 * t) f) ?_
                rw [show 5 * nT N - (5 * t + f) = (5 * nT N - (5 * t + (f + 1))) + 1 by omega, srch_hit ((d_at_of (by omega)).mpr (Or.inr ⟨fun z => c149 ((flag_iff hx hy).mpr z), c154n⟩)) c160n] at hv
                exact hg_iretN C hr rfl d_Rf_differs_170 (Nat.le_of_ble_eq_true rfl) (Nat.le_of_ble_eq_true rfl) (⟨by rw [← hv], hR⟩)
        · refine hg_iload C 2 d_Rf_differs_132 rfl ?_
          refine hg_if_eq C 145 d_Rf_differs_134 (by decide) (fun c134 => ?_) (fun c134 => ?_)
          · refine hg_iload C 3 d_Rf_differs_145 rfl ?_
            refine hg_iload C 2 d_Rf_differs_147 rfl ?_
            refine hg_icmp_eq C 174 d_Rf_differs_149 (by decide) (fun c149 => ?_) (fun c149 => ?_)
            · refine hg_iinc (v := nI (f + 1)) (lv' := [(8, .int (nI (f + 1))), (9, .int 0), (7, .int yv), (6, .int xv), (5, .int (nI t)), (4, .int (nI n)), (1, .int (nI a)), (2, .int (nI b)), (3, .int (nI k)), (0, .ref r)]) C 1 d_Rf_differs_174 rfl (nI_1 f) (by decide) rfl ?_
              refine hg_goto C 77 d_Rf_differs_177 (by decide) ?_
              rw [show 5 * nT N - (5 * t + f) = (5 * nT N - (5 * t + (f + 1))) + 1 by omega, srch_no (fun z9 => (fun z => z.elim (fun y => flag_0 hy c134 y.2.1) (fun y => y.1 ((flag_iff hx hy).mp c149))) ((d_at_of (by omega)).mp z9))] at hv
              exact hg_lv (ks := [0, 2, 3, 4, 5, 6, 7, 8, 9]) rfl (ih (f + 1) n (by omega) (by omega) (by omega) hv)
            · refine hg_iload C 1 d_Rf_differs_152 rfl ?_
              refine hg_if_ne C 174 d_Rf_differs_154 (by decide) (fun c154 => ?_) (fun c154 => ?_)
              · have c154n : ¬ f = 0 := fun z => c154 (congrArg nI z)
                refine hg_iinc (v := nI (f + 1)) (lv' := [(8, .int (nI (f + 1))), (9, .int 0), (7, .int yv), (6, .int xv), (5, .int (nI t)), (4, .int (nI n)), (1, .int (nI a)), (2, .int (nI b)), (3, .int (nI k)), (0, .ref r)]) C 1 d_Rf_differs_174 rfl (nI_1 f) (by decide) rfl ?_
                refine hg_goto C 77 d_Rf_differs_177 (by decide) ?_
                rw [show 5 * nT N - (5 * t + f) = (5 * nT N - (5 * t + (f + 1))) + 1 by omega, srch_no (fun z9 => (fun z => z.elim (fun y => flag_0 hy c134 y.2.1) (fun y => c154n y.2)) ((d_at_of (by omega)).mp z9))] at hv
                exact hg_lv (ks := [0, 2, 3, 4, 5, 6, 7, 8, 9]) rfl (ih (f + 1) n (by omega) (by omega) (by omega) hv)
              · have c154n : f = 0 := (nI_eq (a := f) (b := 0) (by omega) (by omega)).mp c154
                refine hg_iload C 5 d_Rf_differs_157 rfl ?_
                refine hg_iload_n C 8 d_Rf_differs_159 rfl rfl ?_
                refine hg_icmp_ne C 171 d_Rf_differs_160 (by decide) (fun c160 => ?_) (fun c160 => ?_)
                · have c160n : ¬ n = k := fun z => c160 (congrArg nI z)
                  refine hg_iinc (v := nI (n + 1)) (lv' := [(4, .int (nI (n + 1))), (9, .int 0), (8, .int (nI f)), (7, .int yv), (6, .int xv), (5, .int (nI t)), (1, .int (nI a)), (2, .int (nI b)), (3, .int (nI k)), (0, .ref r)]) C 5 d_Rf_differs_171 rfl (nI_1 n) (by decide) rfl ?_
                  refine hg_iinc (v := nI (f + 1)) (lv' := [(8, .int (nI (f + 1))), (4, .int (nI (n + 1))), (9, .int 0), (7, .int yv), (6, .int xv), (5, .int (nI t)), (1, .int (nI a)), (2, .int (nI b)), (3, .int (nI k)), (0, .ref r)]) C 2 d_Rf_differs_174 rfl (nI_1 f) (by decide) rfl ?_
                  refine hg_goto C 77 d_Rf_differs_177 (by decide) ?_
                  rw [show 5 * nT N - (5 * t + f) = (5 * nT N - (5 * t + (f + 1))) + 1 by omega, srch_go ((d_at_of (by omega)).mpr (Or.inr ⟨fun z => c149 ((flag_iff hx hy).mpr z), c154n⟩)) c160n] at hv
                  exact hg_lv (ks := [0, 3, 4, 5, 1, 6, 7, 8, 9]) rfl (ih (f + 1) (n + 1) (by omega) (by omega) (by omega) hv)
                · have c160n : n = k := (nI_eq (a := n) (b := k) (by omega) (by omega)).mp c160
                  refine hg_iconst (v := 5) C d_Rf_differs_163 (by decide) ?_
                  refine hg_iload C 4 d_Rf_differs_164 rfl ?_
                  refine hg_imul C d_Rf_differs_166 ?_
                  refine hg_ti (show ((5 : Int32) : Int32) * nI t = nI (5 * t) from pk_mul 5 t) ?_
                  refine hg_iload C 1 d_Rf_differs_167 rfl ?_
                  refine hg_iadd C d_Rf_differs_169 ?_
                  refine hg_ti (show (nI (5 * t) : Int32) + nI f = nI (5 * t + f) from nI_add (5 * t) f) ?_
                  rw [show 5 * nT N - (5 * t + f) = (5 * nT N - (5 * t + (f + 1))) + 1 by omega, srch_hit ((d_at_of (by omega)).mpr (Or.inr ⟨fun z => c149 ((flag_iff hx hy).mpr z), c154n⟩)) c160n] at hv
                  exact hg_iretN C hr rfl d_Rf_differs_170 (Nat.le_of_ble_eq_true rfl) (Nat.le_of_ble_eq_true rfl) (⟨by rw [← hv], hR⟩)
          · refine hg_iload C 0 d_Rf_differs_137 rfl ?_
            refine hg_if_eq C 174 d_Rf_differs_139 (by decide) (fun _ => ?_) (fun z => absurd (by decide) z)
            refine hg_iinc (v := nI (f + 1)) (lv' := [(8, .int (nI (f + 1))), (9, .int 0), (7, .int yv), (6, .int xv), (5, .int (nI t)), (4, .int (nI n)), (1, .int (nI a)), (2, .int (nI b)), (3, .int (nI k)), (0, .ref r)]) C 1 d_Rf_differs_174 rfl (nI_1 f) (by decide) rfl ?_
            refine hg_goto C 77 d_Rf_differs_177 (by decide) ?_
            rw [show 5 * nT N - (5 * t + f) = (5 * nT N - (5 * t + (f + 1))) + 1 by omega, srch_no (fun z9 => (fun z => z.elim (fun y => y.2.2 c117) (fun y => y.1 ⟨fun _ => flag_1 hy c134, fun _ => flag_1 hx c129⟩)) ((d_at_of (by omega)).mp z9))] at hv
            exact hg_lv (ks := [0, 2, 3, 4, 5, 6, 7, 8, 9]) rfl (ih (f + 1) n (by omega) (by omega) (by omega) hv)
      · refine hg_iconst (v := 1) C d_Rf_differs_120 (by decide) ?_
        refine hg_goto C 125 d_Rf_differs_121 (by decide) ?_
        refine hg_istore (lv' := [(9, .int 1), (8, .int (nI f)), (7, .int yv), (6, .int xv), (5, .int (nI t)), (4, .int (nI n)), (1, .int (nI a)), (2, .int (nI b)), (3, .int (nI k)), (0, .ref r)]) C d_Rf_differs_125 (by decide) rfl ?_
        refine hg_iload C 3 d_Rf_differs_127 rfl ?_
        refine hg_if_eq C 145 d_Rf_differs_129 (by decide) (fun c129 => ?_) (fun c129 => ?_)
        · refine hg_iload C 3 d_Rf_differs_145 rfl ?_
          refine hg_iload C 2 d_Rf_differs_147 rfl ?_
          refine hg_icmp_eq C 174 d_Rf_differs_149 (by decide) (fun c149 => ?_) (fun c149 => ?_)
          · refine hg_iinc (v := nI (f + 1)) (lv' := [(8, .int (nI (f + 1))), (9, .int 1), (7, .int yv), (6, .int xv), (5, .int (nI t)), (4, .int (nI n)), (1, .int (nI a)), (2, .int (nI b)), (3, .int (nI k)), (0, .ref r)]) C 1 d_Rf_differs_174 rfl (nI_1 f) (by decide) rfl ?_
            refine hg_goto C 77 d_Rf_differs_177 (by decide) ?_
            rw [show 5 * nT N - (5 * t + f) = (5 * nT N - (5 * t + (f + 1))) + 1 by omega, srch_no (fun z9 => (fun z => z.elim (fun y => flag_0 hx c129 y.1) (fun y => y.1 ((flag_iff hx hy).mp c149))) ((d_at_of (by omega)).mp z9))] at hv
            exact hg_lv (ks := [0, 2, 3, 4, 5, 6, 7, 8, 9]) rfl (ih (f + 1) n (by omega) (by omega) (by omega) hv)
          · refine hg_iload C 1 d_Rf_differs_152 rfl ?_
            refine hg_if_ne C 174 d_Rf_differs_154 (by decide) (fun c154 => ?_) (fun c154 => ?_)
            · have c154n : ¬ f = 0 := fun z => c154 (congrArg nI z)
              refine hg_iinc (v := nI (f + 1)) (lv' := [(8, .int (nI (f + 1))), (9, .int 1), (7, .int yv), (6, .int xv), (5, .int (nI t)), (4, .int (nI n)), (1, .int (nI a)), (2, .int (nI b)), (3, .int (nI k)), (0, .ref r)]) C 1 d_Rf_differs_174 rfl (nI_1 f) (by decide) rfl ?_
              refine hg_goto C 77 d_Rf_differs_177 (by decide) ?_
              rw [show 5 * nT N - (5 * t + f) = (5 * nT N - (5 * t + (f + 1))) + 1 by omega, srch_no (fun z9 => (fun z => z.elim (fun y => flag_0 hx c129 y.1) (fun y => c154n y.2)) ((d_at_of (by omega)).mp z9))] at hv
              exact hg_lv (ks := [0, 2, 3, 4, 5, 6, 7, 8, 9]) rfl (ih (f + 1) n (by omega) (by omega) (by omega) hv)
            · have c154n : f = 0 := (nI_eq (a := f) (b := 0) (by omega) (by omega)).mp c154
              refine hg_iload C 5 d_Rf_differs_157 rfl ?_
              refine hg_iload_n C 8 d_Rf_differs_159 rfl rfl ?_
              refine hg_icmp_ne C 171 d_Rf_differs_160 (by decide) (fun c160 => ?_) (fun c160 => ?_)
              · have c160n : ¬ n = k := fun z => c160 (congrArg nI z)
                refine hg_iinc (v := nI (n + 1)) (lv' := [(4, .int (nI (n + 1))), (9, .int 1), (8, .int (nI f)), (7, .int yv), (6, .int xv), (5, .int (nI t)), (1, .int (nI a)), (2, .int (nI b)), (3, .int (nI k)), (0, .ref r)]) C 5 d_Rf_differs_171 rfl (nI_1 n) (by decide) rfl ?_
                refine hg_iinc (v := nI (f + 1)) (lv' := [(8, .int (nI (f + 1))), (4, .int (nI (n + 1))), (9, .int 1), (7, .int yv), (6, .int xv), (5, .int (nI t)), (1, .int (nI a)), (2, .int (nI b)), (3, .int (nI k)), (0, .ref r)]) C 2 d_Rf_differs_174 rfl (nI_1 f) (by decide) rfl ?_
                refine hg_goto C 77 d_Rf_differs_177 (by decide) ?_
                rw [show 5 * nT N - (5 * t + f) = (5 * nT N - (5 * t + (f + 1))) + 1 by omega, srch_go ((d_at_of (by omega)).mpr (Or.inr ⟨fun z => c149 ((flag_iff hx hy).mpr z), c154n⟩)) c160n] at hv
                exact hg_lv (ks := [0, 3, 4, 5, 1, 6, 7, 8, 9]) rfl (ih (f + 1) (n + 1) (by omega) (by omega) (by omega) hv)
              · have c160n : n = k := (nI_eq (a := n) (b := k) (by omega) (by omega)).mp c160
                refine hg_iconst (v := 5) C d_Rf_differs_163 (by decide) ?_
                refine hg_iload C 4 d_Rf_differs_164 rfl ?_
                refine hg_imul C d_Rf_differs_166 ?_
                refine hg_ti (show ((5 : Int32) : Int32) * nI t = nI (5 * t) from pk_mul 5 t) ?_
                refine hg_iload C 1 d_Rf_differs_167 rfl ?_
                refine hg_iadd C d_Rf_differs_169 ?_
                refine hg_ti (show (nI (5 * t) : Int32) + nI f = nI (5 * t + f) from nI_add (5 * t) f) ?_
                rw [show 5 * nT N - (5 * t + f) = (5 * nT N - (5 * t + (f + 1))) + 1 by omega, srch_hit ((d_at_of (by omega)).mpr (Or.inr ⟨fun z => c149 ((flag_iff hx hy).mpr z), c154n⟩)) c160n] at hv
                exact hg_iretN C hr rfl d_Rf_differs_170 (Nat.le_of_ble_eq_true rfl) (Nat.le_of_ble_eq_true rfl) (⟨by rw [← hv], hR⟩)
        · refine hg_iload C 2 d_Rf_differs_132 rfl ?_
          refine hg_if_eq C 145 d_Rf_differs_134 (by decide) (fun c134 => ?_) (fun c134 => ?_)
          · refine hg_iload C 3 d_Rf_differs_145 rfl ?_
            refine hg_iload C 2 d_Rf_differs_147 rfl ?_
            refine hg_icmp_eq C 174 d_Rf_differs_149 (by decide) (fun c149 => ?_) (fun c149 => ?_)
            · refine hg_iinc (v := nI (f + 1)) (lv' := [(8, .int (nI (f + 1))), (9, .int 1), (7, .int yv), (6, .int xv), (5, .int (nI t)), (4, .int (nI n)), (1, .int (nI a)), (2, .int (nI b)), (3, .int (nI k)), (0, .ref r)]) C 1 d_Rf_differs_174 rfl (nI_1 f) (by decide) rfl ?_
              refine hg_goto C 77 d_Rf_differs_177 (by decide) ?_
              rw [show 5 * nT N - (5 * t + f) = (5 * nT N - (5 * t + (f + 1))) + 1 by omega, srch_no (fun z9 => (fun z => z.elim (fun y => flag_0 hy c134 y.2.1) (fun y => y.1 ((flag_iff hx hy).mp c149))) ((d_at_of (by omega)).mp z9))] at hv
              exact hg_lv (ks := [0, 2, 3, 4, 5, 6, 7, 8, 9]) rfl (ih (f + 1) n (by omega) (by omega) (by omega) hv)
            · refine hg_iload C 1 d_Rf_differs_152 rfl ?_
              refine hg_if_ne C 174 d_Rf_differs_154 (by decide) (fun c154 => ?_) (fun c154 => ?_)
              · have c154n : ¬ f = 0 := fun z => c154 (congrArg nI z)
                refine hg_iinc (v := nI (f + 1)) (lv' := [(8, .int (nI (f + 1))), (9, .int 1), (7, .int yv), (6, .int xv), (5, .int (nI t)), (4, .int (nI n)), (1, .int (nI a)), (2, .int (nI b)), (3, .int (nI k)), (0, .ref r)]) C 1 d_Rf_differs_174 rfl (nI_1 f) (by decide) rfl ?_
                refine hg_goto C 77 d_Rf_differs_177 (by decide) ?_
                rw [show 5 * nT N - (5 * t + f) = (5 * nT N - (5 * t + (f + 1))) + 1 by omega, srch_no (fun z9 => (fun z => z.elim (fun y => flag_0 hy c134 y.2.1) (fun y => c154n y.2)) ((d_at_of (by omega)).mp z9))] at hv
                exact hg_lv (ks := [0, 2, 3, 4, 5, 6, 7, 8, 9]) rfl (ih (f + 1) n (by omega) (by omega) (by omega) hv)
              · have c154n : f = 0 := (nI_eq (a := f) (b := 0) (by omega) (by omega)).mp c154
                refine hg_iload C 5 d_Rf_differs_157 rfl ?_
                refine hg_iload_n C 8 d_Rf_differs_159 rfl rfl ?_
                refine hg_icmp_ne C 171 d_Rf_differs_160 (by decide) (fun c160 => ?_) (fun c160 => ?_)
                · have c160n : ¬ n = k := fun z => c160 (congrArg nI z)
                  refine hg_iinc (v := nI (n + 1)) (lv' := [(4, .int (nI (n + 1))), (9, .int 1), (8, .int (nI f)), (7, .int yv), (6, .int xv), (5, .int (nI t)), (1, .int (nI a)), (2, .int (nI b)), (3, .int (nI k)), (0, .ref r)]) C 5 d_Rf_differs_171 rfl (nI_1 n) (by decide) rfl ?_
                  refine hg_iinc (v := nI (f + 1)) (lv' := [(8, .int (nI (f + 1))), (4, .int (nI (n + 1))), (9, .int 1), (7, .int yv), (6, .int xv), (5, .int (nI t)), (1, .int (nI a)), (2, .int (nI b)), (3, .int (nI k)), (0, .ref r)]) C 2 d_Rf_differs_174 rfl (nI_1 f) (by decide) rfl ?_
                  refine hg_goto C 77 d_Rf_differs_177 (by decide) ?_
                  rw [show 5 * nT N - (5 * t + f) = (5 * nT N - (5 * t + (f + 1))) + 1 by omega, srch_go ((d_at_of (by omega)).mpr (Or.inr ⟨fun z => c149 ((flag_iff hx hy).mpr z), c154n⟩)) c160n] at hv
                  exact hg_lv (ks := [0, 3, 4, 5, 1, 6, 7, 8, 9]) rfl (ih (f + 1) (n + 1) (by omega) (by omega) (by omega) hv)
                · have c160n : n = k := (nI_eq (a := n) (b := k) (by omega) (by omega)).mp c160
                  refine hg_iconst (v := 5) C d_Rf_differs_163 (by decide) ?_
                  refine hg_iload C 4 d_Rf_differs_164 rfl ?_
                  refine hg_imul C d_Rf_differs_166 ?_
                  refine hg_ti (show ((5 : Int32) : Int32) * nI t = nI (5 * t) from pk_mul 5 t) ?_
                  refine hg_iload C 1 d_Rf_differs_167 rfl ?_
                  refine hg_iadd C d_Rf_differs_169 ?_
                  refine hg_ti (show (nI (5 * t) : Int32) + nI f = nI (5 * t + f) from nI_add (5 * t) f) ?_
                  rw [show 5 * nT N - (5 * t + f) = (5 * nT N - (5 * t + (f + 1))) + 1 by omega, srch_hit ((d_at_of (by omega)).mpr (Or.inr ⟨fun z => c149 ((flag_iff hx hy).mpr z), c154n⟩)) c160n] at hv
                  exact hg_iretN C hr rfl d_Rf_differs_170 (Nat.le_of_ble_eq_true rfl) (Nat.le_of_ble_eq_true rfl) (⟨by rw [← hv], hR⟩)
          · refine hg_iload C 0 d_Rf_differs_137 rfl ?_
            refine hg_if_eq C 174 d_Rf_differs_139 (by decide) (fun z => absurd z (by decide)) (fun _ => ?_)
            refine hg_goto C 157 d_Rf_differs_142 (by decide) ?_
            refine hg_iload C 5 d_Rf_differs_157 rfl ?_
            refine hg_iload_n C 8 d_Rf_differs_159 rfl rfl ?_
            refine hg_icmp_ne C 171 d_Rf_differs_160 (by decide) (fun c160 => ?_) (fun c160 => ?_)
            · have c160n : ¬ n = k := fun z => c160 (congrArg nI z)
              refine hg_iinc (v := nI (n + 1)) (lv' := [(4, .int (nI (n + 1))), (9, .int 1), (8, .int (nI f)), (7, .int yv), (6, .int xv), (5, .int (nI t)), (1, .int (nI a)), (2, .int (nI b)), (3, .int (nI k)), (0, .ref r)]) C 5 d_Rf_differs_171 rfl (nI_1 n) (by decide) rfl ?_
              refine hg_iinc (v := nI (f + 1)) (lv' := [(8, .int (nI (f + 1))), (4, .int (nI (n + 1))), (9, .int 1), (7, .int yv), (6, .int xv), (5, .int (nI t)), (1, .int (nI a)), (2, .int (nI b)), (3, .int (nI k)), (0, .ref r)]) C 2 d_Rf_differs_174 rfl (nI_1 f) (by decide) rfl ?_
              refine hg_goto C 77 d_Rf_differs_177 (by decide) ?_
              rw [show 5 * nT N - (5 * t + f) = (5 * nT N - (5 * t + (f + 1))) + 1 by omega, srch_go ((d_at_of (by omega)).mpr (Or.inl ⟨flag_1 hx c129, flag_1 hy c134, c117⟩)) c160n] at hv
              exact hg_lv (ks := [0, 3, 4, 5, 1, 6, 7, 8, 9]) rfl (ih (f + 1) (n + 1) (by omega) (by omega) (by omega) hv)
            · have c160n : n = k := (nI_eq (a := n) (b := k) (by omega) (by omega)).mp c160
              refine hg_iconst (v := 5) C d_Rf_differs_163 (by decide) ?_
              refine hg_iload C 4 d_Rf_differs_164 rfl ?_
              refine hg_imul C d_Rf_differs_166 ?_
              refine hg_ti (show ((5 : Int32) : Int32) * nI t = nI (5 * t) from pk_mul 5 t) ?_
              refine hg_iload C 1 d_Rf_differs_167 rfl ?_
              refine hg_iadd C d_Rf_differs_169 ?_
              refine hg_ti (show (nI (5 * t) : Int32) + nI f = nI (5 * t + f) from nI_add (5 * t) f) ?_
              rw [show 5 * nT N - (5 * t + f) = (5 * nT N - (5 * t + (f + 1))) + 1 by omega, srch_hit ((d_at_of (by omega)).mpr (Or.inl ⟨flag_1 hx c129, flag_1 hy c134, c117⟩)) c160n] at hv
              exact hg_iretN C hr rfl d_Rf_differs_170 (Nat.le_of_ble_eq_true rfl) (Nat.le_of_ble_eq_true rfl) (⟨by rw [← hv], hR⟩)
set_option maxHeartbeats 4000000 in
set_option maxRecDepth 100000 in
theorem lp_Rf_diff (l : Launch) (Γ : Gam) {p : Program} {e : Env} {s9 : State} {m : MethodId} {args : Array Value} {below : List Frame} {meth : Method} {c : Code} {A : Nat → Prop} (C : hp_C p s9 m args meth c b_Rf_differs 10 "ModelMergeModel" w_Rf_differs Γ.1 kcl (ktys Γ.2.1) (ksts Γ.2.2) knws A) {h : Pic} {r : Nat} {aa : Nat → Nat} {N : Mem} (hR : rf_at Γ r aa N h) (hN : Inv0 N) {a b k : Nat} (ha : a < nV N) (hb : b < nV N) (hk : k < 2 ^ 31) {v : Int32} (hr : meth.sig.returnType = some .int)  :
    ∀ (n9 : Nat) (t n : Nat), (t ≤ nT N) → (nT N + 1 ≤ t + n9) → (n ≤ 5 * t) → (srch (d_at N a b) k (5 * nT N - (5 * t)) (5 * t) n = v) → hp_G p l e rm_Rf_differs s9 m args below meth c Γ.1 kcl A 10 (hp_NQ below Γ.1 kcl A (fun q u => q = some (.int v) ∧ rf_at Γ r aa N u) args s9 0 0) 0 0 47 [(5, .int (nI t)), (4, .int (nI n)), (1, .int (nI a)), (2, .int (nI b)), (3, .int (nI k)), (0, .ref r)] [] h := by
  intro n9
  induction n9 with
  | zero =>
    intro t n ht hm hn hv
    exact absurd hm (by omega)
  | succ n9 ih =>
    intro t n ht hm hn hv
    obtain ⟨⟨⟨fT, gT⟩, ⟨fV, gV1, gV⟩, ⟨fS, gS⟩, ⟨fR, gR⟩, ⟨fC, gC⟩⟩, hN2, -⟩ := id hN
    refine hg_iload C 0 d_Rf_differs_47 rfl ?_
    refine hg_aload_n C 5 d_Rf_differs_49 rfl rfl ?_
    refine f_Rf_116 C hR.1 rfl d_Rf_differs_50 ?_
    refine hg_ti fT ?_
    refine hg_icmp_ge C 186 d_Rf_differs_53 (by decide) (fun c53 => ?_) (fun c53 => ?_)
    · have c53n : nT N ≤ t := (nI_leI (a := (nT N)) (b := t) (by omega) (by omega)).mp c53
      refine hg_iconst (v := (-1)) C d_Rf_differs_186 (by decide) ?_
      exact hg_iretN C hr rfl d_Rf_differs_187 (Nat.le_of_ble_eq_true rfl) (Nat.le_of_ble_eq_true rfl) (⟨by rw [← hv, show 5 * nT N - 5 * t = 0 by omega]; rfl, hR⟩)
    · have c53n : ¬ nT N ≤ t := fun z => c53 (nI_le (a := (nT N)) (b := t) z (by omega))
      refine hg_aload_n C 5 d_Rf_differs_56 rfl rfl ?_
      refine hg_iload_n C 2 d_Rf_differs_57 rfl rfl ?_
      refine hg_iload C 0 d_Rf_differs_58 rfl ?_
      refine hg_VNb (q := ("ModelMergeModel", T_Rf, 31)) C (k_Rf_isThere l Γ _ r aa N hR hN (nI a) (nI t)) (cw_Rf_162 C.2.2.2.2.1 rfl rfl ⟨Nat.le_of_ble_eq_true rfl, Nat.le_of_ble_eq_true rfl⟩) hR.1 rfl rfl rfl (Nat.le_of_ble_eq_true rfl) d_Rf_differs_60 ⟨Nat.le_of_ble_eq_true rfl, Nat.le_of_ble_eq_true rfl⟩ (fun z1 => ?_) (fun z1 => ?_)
      · refine hg_istore (lv' := [(6, .int 1), (5, .int (nI t)), (4, .int (nI n)), (1, .int (nI a)), (2, .int (nI b)), (3, .int (nI k)), (0, .ref r)]) C d_Rf_differs_63 (by decide) rfl ?_
        refine hg_aload_n C 6 d_Rf_differs_65 rfl rfl ?_
        refine hg_iload_n C 4 d_Rf_differs_66 rfl rfl ?_
        refine hg_iload C 1 d_Rf_differs_67 rfl ?_
        refine hg_VNb (q := ("ModelMergeModel", T_Rf, 31)) C (k_Rf_isThere l Γ _ r aa N hR hN (nI b) (nI t)) (cw_Rf_162 C.2.2.2.2.1 rfl rfl ⟨Nat.le_of_ble_eq_true rfl, Nat.le_of_ble_eq_true rfl⟩) hR.1 rfl rfl rfl (Nat.le_of_ble_eq_true rfl) d_Rf_differs_69 ⟨Nat.le_of_ble_eq_true rfl, Nat.le_of_ble_eq_true rfl⟩ (fun z2 => ?_) (fun z2 => ?_)
        · refine hg_istore (lv' := [(7, .int 1), (6, .int 1), (5, .int (nI t)), (4, .int (nI n)), (1, .int (nI a)), (2, .int (nI b)), (3, .int (nI k)), (0, .ref r)]) C d_Rf_differs_72 (by decide) rfl ?_
          refine hg_iconst (v := 0) C d_Rf_differs_74 (by decide) ?_
          refine hg_istore (lv' := [(8, .int 0), (7, .int 1), (6, .int 1), (5, .int (nI t)), (4, .int (nI n)), (1, .int (nI a)), (2, .int (nI b)), (3, .int (nI k)), (0, .ref r)]) C d_Rf_differs_75 (by decide) rfl ?_
          refine hg_lv (ks := [0, 1, 2, 3, 4, 5, 6, 7, 8]) rfl (lp_Rf_diff1 l Γ C hR hN ha hb hk (by omega) (Or.inl ⟨rfl, z1⟩) (Or.inl ⟨rfl, z2⟩) hr (fun n hn hv => ?_) 6 0 n (by omega) (by omega) (by omega) hv)
          refine hg_iinc (v := nI (t + 1)) (lv' := [(5, .int (nI (t + 1))), (4, .int (nI n)), (1, .int (nI a)), (2, .int (nI b)), (3, .int (nI k)), (0, .ref r)]) C 0 d_Rf_differs_180 rfl (nI_1 t) (by decide) rfl ?_
          refine hg_goto C 47 d_Rf_differs_183 (by decide) ?_
          exact ih (t + 1) n (by omega) (by omega) (by omega) hv
        · refine hg_istore (lv' := [(7, .int 0), (6, .int 1), (5, .int (nI t)), (4, .int (nI n)), (1, .int (nI a)), (2, .int (nI b)), (3, .int (nI k)), (0, .ref r)]) C d_Rf_differs_72 (by decide) rfl ?_
          refine hg_iconst (v := 0) C d_Rf_differs_74 (by decide) ?_
          refine hg_istore (lv' := [(8, .int 0), (7, .int 0), (6, .int 1), (5, .int (nI t)), (4, .int (nI n)), (1, .int (nI a)), (2, .int (nI b)), (3, .int (nI k)), (0, .ref r)]) C d_Rf_differs_75 (by decide) rfl ?_
          refine hg_lv (ks := [0, 1, 2, 3, 4, 5, 6, 7, 8]) rfl (lp_Rf_diff1 l Γ C hR hN ha hb hk (by omega) (Or.inl ⟨rfl, z1⟩) (Or.inr ⟨rfl, z2⟩) hr (fun n hn hv => ?_) 6 0 n (by omega) (by omega) (by omega) hv)
          refine hg_iinc (v := nI (t + 1)) (lv' := [(5, .int (nI (t + 1))), (4, .int (nI n)), (1, .int (nI a)), (2, .int (nI b)), (3, .int (nI k)), (0, .ref r)]) C 0 d_Rf_differs_180 rfl (nI_1 t) (by decide) rfl ?_
          refine hg_goto C 47 d_Rf_differs_183 (by decide) ?_
          exact ih (t + 1) n (by omega) (by omega) (by omega) hv
      · refine hg_istore (lv' := [(6, .int 0), (5, .int (nI t)), (4, .int (nI n)), (1, .int (nI a)), (2, .int (nI b)), (3, .int (nI k)), (0, .ref r)]) C d_Rf_differs_63 (by decide) rfl ?_
        refine hg_aload_n C 6 d_Rf_differs_65 rfl rfl ?_
        refine hg_iload_n C 4 d_Rf_differs_66 rfl rfl ?_
        refine hg_iload C 1 d_Rf_differs_67 rfl ?_
        refine hg_VNb (q := ("ModelMergeModel", T_Rf, 31)) C (k_Rf_isThere l Γ _ r aa N hR hN (nI b) (nI t)) (cw_Rf_162 C.2.2.2.2.1 rfl rfl ⟨Nat.le_of_ble_eq_true rfl, Nat.le_of_ble_eq_true rfl⟩) hR.1 rfl rfl rfl (Nat.le_of_ble_eq_true rfl) d_Rf_differs_69 ⟨Nat.le_of_ble_eq_true rfl, Nat.le_of_ble_eq_true rfl⟩ (fun z3 => ?_) (fun z3 => ?_)
        · refine hg_istore (lv' := [(7, .int 1), (6, .int 0), (5, .int (nI t)), (4, .int (nI n)), (1, .int (nI a)), (2, .int (nI b)), (3, .int (nI k)), (0, .ref r)]) C d_Rf_differs_72 (by decide) rfl ?_
          refine hg_iconst (v := 0) C d_Rf_differs_74 (by decide) ?_
          refine hg_istore (lv' := [(8, .int 0), (7, .int 1), (6, .int 0), (5, .int (nI t)), (4, .int (nI n)), (1, .int (nI a)), (2, .int (nI b)), (3, .int (nI k)), (0, .ref r)]) C d_Rf_differs_75 (by decide) rfl ?_
          refine hg_lv (ks := [0, 1, 2, 3, 4, 5, 6, 7, 8]) rfl (lp_Rf_diff1 l Γ C hR hN ha hb hk (by omega) (Or.inr ⟨rfl, z1⟩) (Or.inl ⟨rfl, z3⟩) hr (fun n hn hv => ?_) 6 0 n (by omega) (by omega) (by omega) hv)
          refine hg_iinc (v := nI (t + 1)) (lv' := [(5, .int (nI (t + 1))), (4, .int (nI n)), (1, .int (nI a)), (2, .int (nI b)), (3, .int (nI k)), (0, .ref r)]) C 0 d_Rf_differs_180 rfl (nI_1 t) (by decide) rfl ?_
          refine hg_goto C 47 d_Rf_differs_183 (by decide) ?_
          exact ih (t + 1) n (by omega) (by omega) (by omega) hv
        · refine hg_istore (lv' := [(7, .int 0), (6, .int 0), (5, .int (nI t)), (4, .int (nI n)), (1, .int (nI a)), (2, .int (nI b)), (3, .int (nI k)), (0, .ref r)]) C d_Rf_differs_72 (by decide) rfl ?_
          refine hg_iconst (v := 0) C d_Rf_differs_74 (by decide) ?_
          refine hg_istore (lv' := [(8, .int 0), (7, .int 0), (6, .int 0), (5, .int (nI t)), (4, .int (nI n)), (1, .int (nI a)), (2, .int (nI b)), (3, .int (nI k)), (0, .ref r)]) C d_Rf_differs_75 (by decide) rfl ?_
          refine hg_lv (ks := [0, 1, 2, 3, 4, 5, 6, 7, 8]) rfl (lp_Rf_diff1 l Γ C hR hN ha hb hk (by omega) (Or.inr ⟨rfl, z1⟩) (Or.inr ⟨rfl, z3⟩) hr (fun n hn hv => ?_) 6 0 n (by omega) (by omega) (by omega) hv)
          refine hg_iinc (v := nI (t + 1)) (lv' := [(5, .int (nI (t + 1))), (4, .int (nI n)), (1, .int (nI a)), (2, .int (nI b)), (3, .int (nI k)), (0, .ref r)]) C 0 d_Rf_differs_180 rfl (nI_1 t) (by decide) rfl ?_
          refine hg_goto C 47 d_Rf_differs_183 (by decide) ?_
          exact ih (t + 1) n (by omega) (by omega) (by omega) hv
set_option maxHeartbeats 4000000 in
set_option maxRecDepth 100000 in
theorem k_Rf_differs (l : Launch) (Γ : Gam) (h : Pic) (r : Nat) (aa : Nat → Nat) (M : Mem) (hR : rf_at Γ r aa M h) (hI : Inv0 M) (a0 b0 k0 : Int32) : kN l Γ y_Rf_differs w_Rf_differs rm_Rf_differs [.ref r, .int a0, .int b0, .int k0] h (fun q u => q = some (.int (sp_differs M a0 b0 k0).2.1) ∧ rf_at Γ r aa (sp_differs M a0 b0 k0).2.2 u) 0 0 := by
  refine hg_entryN (own := "ModelMergeModel") (cc := b_Rf_differs) (maxL := 10) (ret := (some .int)) (lv0 := [(0, .ref r), (1, .int a0), (2, .int b0), (3, .int k0)]) (by decide) rfl rfl (Nat.le_of_ble_eq_true rfl) rfl ?_
  intro p9 e9 s9 m9 args below meth c9 A C hnm hr
  obtain ⟨⟨⟨eT, hT⟩, ⟨eV, hV1, hV⟩, ⟨eS, hS⟩, ⟨eR, hRR⟩, ⟨eC, hC⟩⟩, hI2, -⟩ := id hI
  refine hg_aload_n C 0 d_Rf_differs_0 rfl rfl ?_
  refine hg_iload_n C 1 d_Rf_differs_1 rfl rfl ?_
  refine hg_aload_n C 0 d_Rf_differs_2 rfl rfl ?_
  refine f_Rf_16 C hR.1 rfl d_Rf_differs_3 ?_
  refine hg_ti eV ?_
  refine hg_SNb C (k_Rf_isIn l Γ _ a0 (nI (nV M))) (cw_Rf_101 C.2.2.2.2.1 rfl rfl ⟨Nat.le_of_ble_eq_true rfl, Nat.le_of_ble_eq_true rfl⟩) rfl rfl (Nat.le_of_ble_eq_true rfl) d_Rf_differs_6 ⟨Nat.le_of_ble_eq_true rfl, Nat.le_of_ble_eq_true rfl⟩ (fun z1 => ?_) (fun z1 => ?_)
  · obtain ⟨a, ha, rfl⟩ := inr_nat (n := nV M) (id z1) (by omega)
    refine hg_if_eq C 31 d_Rf_differs_9 (by decide) (fun z => absurd z (by decide)) (fun _ => ?_)
    refine hg_iload_n C 2 d_Rf_differs_12 rfl rfl ?_
    refine hg_aload_n C 0 d_Rf_differs_13 rfl rfl ?_
    refine f_Rf_16 C hR.1 rfl d_Rf_differs_14 ?_
    refine hg_ti eV ?_
    refine hg_SNb C (k_Rf_isIn l Γ _ b0 (nI (nV M))) (cw_Rf_101 C.2.2.2.2.1 rfl rfl ⟨Nat.le_of_ble_eq_true rfl, Nat.le_of_ble_eq_true rfl⟩) rfl rfl (Nat.le_of_ble_eq_true rfl) d_Rf_differs_17 ⟨Nat.le_of_ble_eq_true rfl, Nat.le_of_ble_eq_true rfl⟩ (fun z2 => ?_) (fun z2 => ?_)
    · obtain ⟨b, hb, rfl⟩ := inr_nat (n := nV M) (id z2) (by omega)
      refine hg_if_eq C 31 d_Rf_differs_20 (by decide) (fun z => absurd z (by decide)) (fun _ => ?_)
      refine hg_iload_n C 3 d_Rf_differs_23 rfl rfl ?_
      refine hg_if_lt C 31 d_Rf_differs_24 (by decide) (fun c24 => ?_) (fun c24 => ?_)
      · refine hg_iconst (v := 0) C d_Rf_differs_31 (by decide) ?_
        refine hg_iconst (v := 1) C d_Rf_differs_32 (by decide) ?_
        refine hg_VNu (q := ("ModelMergeModel", T_Rf, 31)) C (k_Rf_goes1 l Γ _ r aa M hR 1) (cw_Rf_108 C.2.2.2.2.1 rfl rfl ⟨Nat.le_of_ble_eq_true rfl, Nat.le_of_ble_eq_true rfl⟩) hR.1 rfl rfl rfl (Nat.le_of_ble_eq_true rfl) d_Rf_differs_33 ⟨Nat.le_of_ble_eq_true rfl, Nat.le_of_ble_eq_true rfl⟩ (fun h3 R4 => ?_)
        refine hg_if_ne C 41 d_Rf_differs_36 (by decide) (fun z => absurd rfl z) (fun _ => ?_)
        refine hg_iconst (v := 0) C d_Rf_differs_39 (by decide) ?_
        exact hg_iretN C hr rfl d_Rf_differs_40 (Nat.le_of_ble_eq_true rfl) (Nat.le_of_ble_eq_true rfl) (⟨by rw [sp_differs, gd1 (fun z => z.2.2 c24)], by rw [sp_differs, gd1 (fun z => z.2.2 c24)]; exact R4⟩)
      · obtain ⟨k, hk, rfl⟩ := nI_of (id c24)
        refine hg_iconst (v := 1) C d_Rf_differs_27 (by decide) ?_
        refine hg_goto C 32 d_Rf_differs_28 (by decide) ?_
        refine hg_iconst (v := 1) C d_Rf_differs_32 (by decide) ?_
        refine hg_VNu (q := ("ModelMergeModel", T_Rf, 31)) C (k_Rf_goes0 l Γ _ r aa M hR) (cw_Rf_108 C.2.2.2.2.1 rfl rfl ⟨Nat.le_of_ble_eq_true rfl, Nat.le_of_ble_eq_true rfl⟩) hR.1 rfl rfl rfl (Nat.le_of_ble_eq_true rfl) d_Rf_differs_33 ⟨Nat.le_of_ble_eq_true rfl, Nat.le_of_ble_eq_true rfl⟩ (fun h5 R6 => ?_)
        obtain ⟨N, eN⟩ : ∃ z, z = mset M 0 0 0 := ⟨_, rfl⟩
        rw [← eN] at R6
        have hN : Inv0 N := by rw [eN]; exact Inv0_code 0 hI
        have qS : nS N = nS M := by rw [eN]; rfl
        have qT : nT N = nT M := by rw [eN]; rfl
        have qV : nV N = nV M := by rw [eN]; rfl
        have qR : nR N = nR M := by rw [eN]; rfl
        have qC : nC N = nC M := by rw [eN]; rfl
        obtain ⟨⟨⟨fT, gT⟩, ⟨fV, gV1, gV⟩, ⟨fS, gS⟩, ⟨fR, gR⟩, ⟨fC, gC⟩⟩, hN2, -⟩ := id hN
        refine hg_if_ne C 41 d_Rf_differs_36 (by decide) (fun _ => ?_) (fun z => absurd z (by decide))
        refine hg_iconst (v := 0) C d_Rf_differs_41 (by decide) ?_
        refine hg_istore (lv' := [(4, .int 0), (0, .ref r), (1, .int (nI a)), (2, .int (nI b)), (3, .int (nI k))]) C d_Rf_differs_42 (by decide) rfl ?_
        refine hg_iconst (v := 0) C d_Rf_differs_44 (by decide) ?_
        refine hg_istore (lv' := [(5, .int 0), (4, .int 0), (0, .ref r), (1, .int (nI a)), (2, .int (nI b)), (3, .int (nI k))]) C d_Rf_differs_45 (by decide) rfl ?_
        rw [sp_differs, gd0 ⟨z1, z2, c24⟩ trivial, ← eN, nI_clamp (n := a) (by omega), nI_clamp (n := b) (by omega), nI_clamp (n := k) (by omega), ← qT]
        exact hg_lv (ks := [0, 1, 3, 4, 5, 2]) rfl (lp_Rf_diff l Γ C R6 hN (by omega) (by omega) hk hr (nT N + 1) 0 0 (by omega) (by omega) (by omega) rfl)
    · refine hg_if_eq C 31 d_Rf_differs_20 (by decide) (fun _ => ?_) (fun z => absurd (by decide) z)
      refine hg_iconst (v := 0) C d_Rf_differs_31 (by decide) ?_
      refine hg_iconst (v := 1) C d_Rf_differs_32 (by decide) ?_
      refine hg_VNu (q := ("ModelMergeModel", T_Rf, 31)) C (k_Rf_goes1 l Γ _ r aa M hR 1) (cw_Rf_108 C.2.2.2.2.1 rfl rfl ⟨Nat.le_of_ble_eq_true rfl, Nat.le_of_ble_eq_true rfl⟩) hR.1 rfl rfl rfl (Nat.le_of_ble_eq_true rfl) d_Rf_differs_33 ⟨Nat.le_of_ble_eq_true rfl, Nat.le_of_ble_eq_true rfl⟩ (fun h7 R8 => ?_)
      refine hg_if_ne C 41 d_Rf_differs_36 (by decide) (fun z => absurd rfl z) (fun _ => ?_)
      refine hg_iconst (v := 0) C d_Rf_differs_39 (by decide) ?_
      exact hg_iretN C hr rfl d_Rf_differs_40 (Nat.le_of_ble_eq_true rfl) (Nat.le_of_ble_eq_true rfl) (⟨by rw [sp_differs, gd1 (fun z => z2 (z.2.1))], by rw [sp_differs, gd1 (fun z => z2 (z.2.1))]; exact R8⟩)
  · refine hg_if_eq C 31 d_Rf_differs_9 (by decide) (fun _ => ?_) (fun z => absurd (by decide) z)
    refine hg_iconst (v := 0) C d_Rf_differs_31 (by decide) ?_
    refine hg_iconst (v := 1) C d_Rf_differs_32 (by decide) ?_
    refine hg_VNu (q := ("ModelMergeModel", T_Rf, 31)) C (k_Rf_goes1 l Γ _ r aa M hR 1) (cw_Rf_108 C.2.2.2.2.1 rfl rfl ⟨Nat.le_of_ble_eq_true rfl, Nat.le_of_ble_eq_true rfl⟩) hR.1 rfl rfl rfl (Nat.le_of_ble_eq_true rfl) d_Rf_differs_33 ⟨Nat.le_of_ble_eq_true rfl, Nat.le_of_ble_eq_true rfl⟩ (fun h9 R10 => ?_)
    refine hg_if_ne C 41 d_Rf_differs_36 (by decide) (fun z => absurd rfl z) (fun _ => ?_)
    refine hg_iconst (v := 0) C d_Rf_differs_39 (by decide) ?_
    exact hg_iretN C hr rfl d_Rf_differs_40 (Nat.le_of_ble_eq_true rfl) (Nat.le_of_ble_eq_true rfl) (⟨by rw [sp_differs, gd1 (fun z => z1 (z.1))], by rw [sp_differs, gd1 (fun z => z1 (z.1))]; exact R10⟩)
def b_is (M : Mem) (v rr t : Nat) : Prop := M 2 t = M 23 rr ∧ i_th M (nI v) (nI t) ∧ ¬ (i_th M (nI v) (M 6 (5 * (60 * v + t) + (M 24 rr).toNatClampNeg)) ∧ M 2 (M 6 (5 * (60 * v + t) + (M 24 rr).toNatClampNeg)).toNatClampNeg = M 25 rr)
def b_at (M : Mem) (v i : Nat) : Prop := i % 60 < nT M ∧ b_is M v (i / 60) (i % 60)
theorem b_at_of {M : Mem} {v rr t : Nat} (ht : t < 60) (h2 : t < nT M) : b_at M v (60 * rr + t) ↔ b_is M v rr t := by
  unfold b_at
  rw [show (60 * rr + t) / 60 = rr by omega, show (60 * rr + t) % 60 = t by omega]
  exact ⟨fun z => z.2, fun z => ⟨h2, z⟩⟩
theorem b_at_no {M : Mem} {v rr i : Nat} (h1 : 60 * rr + nT M ≤ i) (h2 : i < 60 * (rr + 1)) : ¬ b_at M v i := fun z => by
  have := z.1
  omega
noncomputable def sp_broken (M : Mem) (v k : Int32) : Int32 × Int32 × Mem := gd (inr v (nI (nV M)) ∧ ¬ k < 0) True M (srch (b_at (mset M 0 0 0) v.toNatClampNeg) k.toNatClampNeg (60 * nR M) 0 0, mset M 0 0 0)
abbrev rm_Rf_broken : Room := { frames := 2, cells := 0, slots := 0, locals := 43 }
set_option maxHeartbeats 4000000 in
set_option maxRecDepth 100000 in
theorem lp_Rf_brk1 (l : Launch) (Γ : Gam) {p : Program} {e : Env} {s9 : State} {m : MethodId} {args : Array Value} {below : List Frame} {meth : Method} {c : Code} {A : Nat → Prop} (C : hp_C p s9 m args meth c b_Rf_broken 8 "ModelMergeModel" w_Rf_broken Γ.1 kcl (ktys Γ.2.1) (ksts Γ.2.2) knws A) {h : Pic} {r : Nat} {aa : Nat → Nat} {N : Mem} (hR : rf_at Γ r aa N h) (hN : Inv0 N) {v k : Nat} (hvv : v < nV N) (hk : k < 2 ^ 31) {x : Int32} {rr : Nat} (hrr : rr < nR N) (hr : meth.sig.returnType = some .int) (kx : ∀ n, n ≤ 60 * rr + nT N → srch (b_at N v) k (60 * nR N - (60 * rr + nT N)) (60 * rr + nT N) n = x → hp_G p l e rm_Rf_broken s9 m args below meth c Γ.1 kcl A 8 (hp_NQ below Γ.1 kcl A (fun q u => q = some (.int x) ∧ rf_at Γ r aa N u) args s9 0 0) 0 0 179 [(4, .int (nI rr)), (3, .int (nI n)), (1, .int (nI v)), (2, .int (nI k)), (0, .ref r)] [] h) :
    ∀ (n9 : Nat) (t n : Nat), (t ≤ nT N) → (nT N + 1 ≤ t + n9) → (n ≤ 60 * rr + t) → (srch (b_at N v) k (60 * nR N - (60 * rr + t)) (60 * rr + t) n = x) → hp_G p l e rm_Rf_broken s9 m args below meth c Γ.1 kcl A 8 (hp_NQ below Γ.1 kcl A (fun q u => q = some (.int x) ∧ rf_at Γ r aa N u) args s9 0 0) 0 0 47 [(5, .int (nI t)), (4, .int (nI rr)), (3, .int (nI n)), (1, .int (nI v)), (2, .int (nI k)), (0, .ref r)] [] h := by
  intro n9
  induction n9 with
  | zero =>
    intro t n ht hm hn hx
    exact absurd hm (by omega)
  | succ n9 ih =>
    intro t n ht hm hn hx
    obtain ⟨⟨⟨fT, gT⟩, ⟨fV, gV1, gV⟩, ⟨fS, gS⟩, ⟨fR, gR⟩, ⟨fC, gC⟩⟩, hN2, -⟩ := id hN
    obtain ⟨⟨k1, hk1, e23⟩, ⟨f1, hf1, e24⟩, ⟨k2, hk2, e25⟩⟩ := hN.2.2.2.2.2.2.2.2.2.2 rr hrr
    refine hg_iload C 0 d_Rf_broken_47 rfl ?_
    refine hg_aload_n C 5 d_Rf_broken_49 rfl rfl ?_
    refine f_Rf_116 C hR.1 rfl d_Rf_broken_50 ?_
    refine hg_ti fT ?_
    refine hg_icmp_ge C 179 d_Rf_broken_53 (by decide) (fun c53 => ?_) (fun c53 => ?_)
    · have c53n : nT N ≤ t := (nI_leI (a := (nT N)) (b := t) (by omega) (by omega)).mp c53
      have hf5 : t = nT N := by omega
      subst hf5
      exact hg_lv (ks := [1, 2, 3, 4, 5]) rfl (kx n hn hx)
    · have c53n : ¬ nT N ≤ t := fun z => c53 (nI_le (a := (nT N)) (b := t) z (by omega))
      refine hg_aload_n C 5 d_Rf_broken_56 rfl rfl ?_
      refine f_Rf_7 C hR.1 rfl d_Rf_broken_57 ?_
      refine hg_iload C 0 d_Rf_broken_60 rfl ?_
      have b62 : t < 60 := (by omega)
      refine hg_iald C 0 (hR.2.1 2 rfl) rfl (vp_in_nI (N := 60) b62 (by omega)) d_Rf_broken_62 ?_
      refine hg_ti (congrArg (N 2) (nI_clamp (n := t) (by omega))) ?_
      refine hg_aload_n C 5 d_Rf_broken_63 rfl rfl ?_
      refine f_Rf_69 C hR.1 rfl d_Rf_broken_64 ?_
      refine hg_iload C 1 d_Rf_broken_67 rfl ?_
      have b69 : rr < 10 := (by omega)
      refine hg_iald C 0 (hR.2.1 23 rfl) rfl (vp_in_nI (N := 10) b69 (by omega)) d_Rf_broken_69 ?_
      refine hg_ti (congrArg (N 23) (nI_clamp (n := rr) (by omega))) ?_
      refine hg_icmp_ne C 173 d_Rf_broken_70 (by decide) (fun c70 => ?_) (fun c70 => ?_)
      · refine hg_iinc (v := nI (t + 1)) (lv' := [(5, .int (nI (t + 1))), (4, .int (nI rr)), (3, .int (nI n)), (1, .int (nI v)), (2, .int (nI k)), (0, .ref r)]) C 0 d_Rf_broken_173 rfl (nI_1 t) (by decide) rfl ?_
        refine hg_goto C 47 d_Rf_broken_176 (by decide) ?_
        rw [show 60 * nR N - (60 * rr + t) = (60 * nR N - (60 * rr + (t + 1))) + 1 by omega, srch_no (fun z9 => (fun z => c70 z.1) ((b_at_of (by omega) (by omega)).mp z9))] at hx
        exact hg_lv (ks := [0, 1, 2, 3, 4, 5]) rfl (ih (t + 1) n (by omega) (by omega) (by omega) hx)
      · refine hg_aload_n C 5 d_Rf_broken_73 rfl rfl ?_
        refine hg_iload_n C 3 d_Rf_broken_74 rfl rfl ?_
        refine hg_iload C 0 d_Rf_broken_75 rfl ?_
        refine hg_VNb (q := ("ModelMergeModel", T_Rf, 31)) C (k_Rf_isThere l Γ _ r aa N hR hN (nI v) (nI t)) (cw_Rf_162 C.2.2.2.2.1 rfl rfl ⟨Nat.le_of_ble_eq_true rfl, Nat.le_of_ble_eq_true rfl⟩) hR.1 rfl rfl rfl (Nat.le_of_ble_eq_true rfl) d_Rf_broken_77 ⟨Nat.le_of_ble_eq_true rfl, Nat.le_of_ble_eq_true rfl⟩ (fun z1 => ?_) (fun z1 => ?_)
        · refine hg_if_eq C 173 d_Rf_broken_80 (by decide) (fun z => absurd z (by decide)) (fun _ => ?_)
          refine hg_aload_n C 5 d_Rf_broken_83 rfl rfl ?_
          refine f_Rf_24 C hR.1 rfl d_Rf_broken_84 ?_
          refine hg_iconst (v := 5) C d_Rf_broken_87 (by decide) ?_
          refine hg_bipush (v := 60) C d_Rf_broken_88 (by decide) ?_
          refine hg_iload_n C 3 d_Rf_broken_90 rfl rfl ?_
          refine hg_imul C d_Rf_broken_91 ?_
          refine hg_ti (show ((60 : Int32) : Int32) * nI v = nI (60 * v) from pk_mul 60 v) ?_
          refine hg_iload C 0 d_Rf_broken_92 rfl ?_
          refine hg_iadd C d_Rf_broken_94 ?_
          refine hg_ti (show (nI (60 * v) : Int32) + nI t = nI (60 * v + t) from nI_add (60 * v) t) ?_
          refine hg_imul C d_Rf_broken_95 ?_
          refine hg_ti (show ((5 : Int32) : Int32) * nI (60 * v + t) = nI (5 * (60 * v + t)) from pk_mul 5 (60 * v + t)) ?_
          refine hg_aload_n C 5 d_Rf_broken_96 rfl rfl ?_
          refine f_Rf_72 C hR.1 rfl d_Rf_broken_97 ?_
          refine hg_iload C 1 d_Rf_broken_100 rfl ?_
          have b102 : rr < 10 := (by omega)
          refine hg_iald C 0 (hR.2.1 24 rfl) rfl (vp_in_nI (N := 10) b102 (by omega)) d_Rf_broken_102 ?_
          refine hg_ti (congrArg (N 24) (nI_clamp (n := rr) (by omega))) ?_
          refine hg_ti e24 ?_
          refine hg_iadd C d_Rf_broken_103 ?_
          refine hg_ti (show (nI (5 * (60 * v + t)) : Int32) + nI f1 = nI (5 * (60 * v + t) + f1) from nI_add (5 * (60 * v + t)) f1) ?_
          have b104 : 5 * (60 * v + t) + f1 < 12000 := (by omega)
          refine hg_iald C 0 (hR.2.1 6 rfl) rfl (vp_in_nI (N := 12000) b104 (by omega)) d_Rf_broken_104 ?_
          refine hg_ti (congrArg (N 6) (nI_clamp (n := 5 * (60 * v + t) + f1) (by omega))) ?_
          refine hg_istore (lv' := [(6, .int (N 6 (5 * (60 * v + t) + f1))), (5, .int (nI t)), (4, .int (nI rr)), (3, .int (nI n)), (1, .int (nI v)), (2, .int (nI k)), (0, .ref r)]) C d_Rf_broken_105 (by decide) rfl ?_
          refine hg_aload_n C 6 d_Rf_broken_107 rfl rfl ?_
          refine hg_iload_n C 4 d_Rf_broken_108 rfl rfl ?_
          refine hg_iload C 0 d_Rf_broken_109 rfl ?_
          refine hg_VNb (q := ("ModelMergeModel", T_Rf, 31)) C (k_Rf_isThere l Γ _ r aa N hR hN (nI v) (N 6 (5 * (60 * v + t) + f1))) (cw_Rf_162 C.2.2.2.2.1 rfl rfl ⟨Nat.le_of_ble_eq_true rfl, Nat.le_of_ble_eq_true rfl⟩) hR.1 rfl rfl rfl (Nat.le_of_ble_eq_true rfl) d_Rf_broken_111 ⟨Nat.le_of_ble_eq_true rfl, Nat.le_of_ble_eq_true rfl⟩ (fun z2 => ?_) (fun z2 => ?_)
          · obtain ⟨g, hg, eg⟩ := inr_nat (n := nT N) (z2).2.1 (by omega)
            refine hg_le (lv' := [(6, .int (nI g)), (5, .int (nI t)), (4, .int (nI rr)), (3, .int (nI n)), (1, .int (nI v)), (2, .int (nI k)), (0, .ref r)]) (by rw [eg]) ?_
            refine hg_if_eq C 138 d_Rf_broken_114 (by decide) (fun z => absurd z (by decide)) (fun _ => ?_)
            refine hg_aload_n C 6 d_Rf_broken_117 rfl rfl ?_
            refine f_Rf_7 C hR.1 rfl d_Rf_broken_118 ?_
            refine hg_iload C 0 d_Rf_broken_121 rfl ?_
            have b123 : g < 60 := (by omega)
            refine hg_iald C 0 (hR.2.1 2 rfl) rfl (vp_in_nI (N := 60) b123 (by omega)) d_Rf_broken_123 ?_
            refine hg_ti (congrArg (N 2) (nI_clamp (n := g) (by omega))) ?_
            refine hg_aload_n C 6 d_Rf_broken_124 rfl rfl ?_
            refine f_Rf_75 C hR.1 rfl d_Rf_broken_125 ?_
            refine hg_iload C 2 d_Rf_broken_128 rfl ?_
            have b130 : rr < 10 := (by omega)
            refine hg_iald C 0 (hR.2.1 25 rfl) rfl (vp_in_nI (N := 10) b130 (by omega)) d_Rf_broken_130 ?_
            refine hg_ti (congrArg (N 25) (nI_clamp (n := rr) (by omega))) ?_
            refine hg_icmp_ne C 138 d_Rf_broken_131 (by decide) (fun c131 => ?_) (fun c131 => ?_)
            · refine hg_iconst (v := 0) C d_Rf_broken_138 (by decide) ?_
              refine hg_istore (lv' := [(7, .int 0), (6, .int (nI g)), (5, .int (nI t)), (4, .int (nI rr)), (3, .int (nI n)), (1, .int (nI v)), (2, .int (nI k)), (0, .ref r)]) C d_Rf_broken_139 (by decide) rfl ?_
              refine hg_iload C 0 d_Rf_broken_141 rfl ?_
              refine hg_if_ne C 160 d_Rf_broken_143 (by decide) (fun z => absurd rfl z) (fun _ => ?_)
              refine hg_iload_n C 4 d_Rf_broken_146 rfl rfl ?_
              refine hg_iload_n C 6 d_Rf_broken_147 rfl rfl ?_
              refine hg_icmp_ne C 160 d_Rf_broken_148 (by decide) (fun c148 => ?_) (fun c148 => ?_)
              · have c148n : ¬ n = k := fun z => c148 (congrArg nI z)
                refine hg_iload_n C 4 d_Rf_broken_160 rfl rfl ?_
                refine hg_iload C 0 d_Rf_broken_161 rfl ?_
                refine hg_if_eq C 170 d_Rf_broken_163 (by decide) (fun _ => ?_) (fun z => absurd (by decide) z)
                refine hg_iconst (v := 1) C d_Rf_broken_170 (by decide) ?_
                refine hg_iadd C d_Rf_broken_171 ?_
                refine hg_ti (show (nI n : Int32) + (1 : Int32) = nI (n + 1) from nI_add n 1) ?_
                refine hg_istore_n (lv' := [(3, .int (nI (n + 1))), (7, .int 0), (6, .int (nI g)), (5, .int (nI t)), (4, .int (nI rr)), (1, .int (nI v)), (2, .int (nI k)), (0, .ref r)]) C d_Rf_broken_172 rfl (by decide) rfl ?_
                refine hg_iinc (v := nI (t + 1)) (lv' := [(5, .int (nI (t + 1))), (3, .int (nI (n + 1))), (7, .int 0), (6, .int (nI g)), (4, .int (nI rr)), (1, .int (nI v)), (2, .int (nI k)), (0, .ref r)]) C 3 d_Rf_broken_173 rfl (nI_1 t) (by decide) rfl ?_
                refine hg_goto C 47 d_Rf_broken_176 (by decide) ?_
                rw [show 60 * nR N - (60 * rr + t) = (60 * nR N - (60 * rr + (t + 1))) + 1 by omega, srch_go ((b_at_of (by omega) (by omega)).mpr (⟨c70, z1, fun z => c131 (by have z2 := z.2; rw [e24, nI_clamp (n := f1) (by omega), eg, nI_clamp (n := g) (by omega)] at z2; exact z2)⟩)) c148n] at hx
                exact hg_lv (ks := [0, 4, 1, 5, 6, 7]) rfl (ih (t + 1) (n + 1) (by omega) (by omega) (by omega) hx)
              · have c148n : n = k := (nI_eq (a := n) (b := k) (by omega) (by omega)).mp c148
                refine hg_bipush (v := 60) C d_Rf_broken_151 (by decide) ?_
                refine hg_iload C 3 d_Rf_broken_153 rfl ?_
                refine hg_imul C d_Rf_broken_155 ?_
                refine hg_ti (show ((60 : Int32) : Int32) * nI rr = nI (60 * rr) from pk_mul 60 rr) ?_
                refine hg_iload C 2 d_Rf_broken_156 rfl ?_
                refine hg_iadd C d_Rf_broken_158 ?_
                refine hg_ti (show (nI (60 * rr) : Int32) + nI t = nI (60 * rr + t) from nI_add (60 * rr) t) ?_
                rw [show 60 * nR N - (60 * rr + t) = (60 * nR N - (60 * rr + (t + 1))) + 1 by omega, srch_hit ((b_at_of (by omega) (by omega)).mpr (⟨c70, z1, fun z => c131 (by have z2 := z.2; rw [e24, nI_clamp (n := f1) (by omega), eg, nI_clamp (n := g) (by omega)] at z2; exact z2)⟩)) c148n] at hx
                exact hg_iretN C hr rfl d_Rf_broken_159 (Nat.le_of_ble_eq_true rfl) (Nat.le_of_ble_eq_true rfl) (⟨by rw [← hx], hR⟩)
            · refine hg_iconst (v := 1) C d_Rf_broken_134 (by decide) ?_
              refine hg_goto C 139 d_Rf_broken_135 (by decide) ?_
              refine hg_istore (lv' := [(7, .int 1), (6, .int (nI g)), (5, .int (nI t)), (4, .int (nI rr)), (3, .int (nI n)), (1, .int (nI v)), (2, .int (nI k)), (0, .ref r)]) C d_Rf_broken_139 (by decide) rfl ?_
              refine hg_iload C 0 d_Rf_broken_141 rfl ?_
              refine hg_if_ne C 160 d_Rf_broken_143 (by decide) (fun _ => ?_) (fun z => absurd z (by decide))
              refine hg_iload_n C 4 d_Rf_broken_160 rfl rfl ?_
              refine hg_iload C 0 d_Rf_broken_161 rfl ?_
              refine hg_if_eq C 170 d_Rf_broken_163 (by decide) (fun z => absurd z (by decide)) (fun _ => ?_)
              refine hg_iconst (v := 0) C d_Rf_broken_166 (by decide) ?_
              refine hg_goto C 171 d_Rf_broken_167 (by decide) ?_
              refine hg_iadd C d_Rf_broken_171 ?_
              refine hg_ti (show (nI n : Int32) + (0 : Int32) = nI (n + 0) from nI_add n 0) ?_
              refine hg_ti (show (nI (n + 0)) = nI n from rfl) ?_
              refine hg_istore_n (lv' := [(3, .int (nI n)), (7, .int 1), (6, .int (nI g)), (5, .int (nI t)), (4, .int (nI rr)), (1, .int (nI v)), (2, .int (nI k)), (0, .ref r)]) C d_Rf_broken_172 rfl (by decide) rfl ?_
              refine hg_iinc (v := nI (t + 1)) (lv' := [(5, .int (nI (t + 1))), (3, .int (nI n)), (7, .int 1), (6, .int (nI g)), (4, .int (nI rr)), (1, .int (nI v)), (2, .int (nI k)), (0, .ref r)]) C 3 d_Rf_broken_173 rfl (nI_1 t) (by decide) rfl ?_
              refine hg_goto C 47 d_Rf_broken_176 (by decide) ?_
              rw [show 60 * nR N - (60 * rr + t) = (60 * nR N - (60 * rr + (t + 1))) + 1 by omega, srch_no (fun z9 => (fun z => z.2.2 (by rw [e24, nI_clamp (n := f1) (by omega)]; exact ⟨z2, by rw [eg, nI_clamp (n := g) (by omega)]; exact c131⟩)) ((b_at_of (by omega) (by omega)).mp z9))] at hx
              exact hg_lv (ks := [0, 4, 1, 5, 6, 7]) rfl (ih (t + 1) n (by omega) (by omega) (by omega) hx)
          · refine hg_if_eq C 138 d_Rf_broken_114 (by decide) (fun _ => ?_) (fun z => absurd (by decide) z)
            refine hg_iconst (v := 0) C d_Rf_broken_138 (by decide) ?_
            refine hg_istore (lv' := [(7, .int 0), (6, .int (N 6 (5 * (60 * v + t) + f1))), (5, .int (nI t)), (4, .int (nI rr)), (3, .int (nI n)), (1, .int (nI v)), (2, .int (nI k)), (0, .ref r)]) C d_Rf_broken_139 (by decide) rfl ?_
            refine hg_iload C 0 d_Rf_broken_141 rfl ?_
            refine hg_if_ne C 160 d_Rf_broken_143 (by decide) (fun z => absurd rfl z) (fun _ => ?_)
            refine hg_iload_n C 4 d_Rf_broken_146 rfl rfl ?_
            refine hg_iload_n C 6 d_Rf_broken_147 rfl rfl ?_
            refine hg_icmp_ne C 160 d_Rf_broken_148 (by decide) (fun c148 => ?_) (fun c148 => ?_)
            · have c148n : ¬ n = k := fun z => c148 (congrArg nI z)
              refine hg_iload_n C 4 d_Rf_broken_160 rfl rfl ?_
              refine hg_iload C 0 d_Rf_broken_161 rfl ?_
              refine hg_if_eq C 170 d_Rf_broken_163 (by decide) (fun _ => ?_) (fun z => absurd (by decide) z)
              refine hg_iconst (v := 1) C d_Rf_broken_170 (by decide) ?_
              refine hg_iadd C d_Rf_broken_171 ?_
              refine hg_ti (show (nI n : Int32) + (1 : Int32) = nI (n + 1) from nI_add n 1) ?_
              refine hg_istore_n (lv' := [(3, .int (nI (n + 1))), (7, .int 0), (6, .int (N 6 (5 * (60 * v + t) + f1))), (5, .int (nI t)), (4, .int (nI rr)), (1, .int (nI v)), (2, .int (nI k)), (0, .ref r)]) C d_Rf_broken_172 rfl (by decide) rfl ?_
              refine hg_iinc (v := nI (t + 1)) (lv' := [(5, .int (nI (t + 1))), (3, .int (nI (n + 1))), (7, .int 0), (6, .int (N 6 (5 * (60 * v + t) + f1))), (4, .int (nI rr)), (1, .int (nI v)), (2, .int (nI k)), (0, .ref r)]) C 3 d_Rf_broken_173 rfl (nI_1 t) (by decide) rfl ?_
              refine hg_goto C 47 d_Rf_broken_176 (by decide) ?_
              rw [show 60 * nR N - (60 * rr + t) = (60 * nR N - (60 * rr + (t + 1))) + 1 by omega, srch_go ((b_at_of (by omega) (by omega)).mpr (⟨c70, z1, fun z => z2 (by have z1 := z.1; rw [e24, nI_clamp (n := f1) (by omega)] at z1; exact z1)⟩)) c148n] at hx
              exact hg_lv (ks := [0, 4, 1, 5, 6, 7]) rfl (ih (t + 1) (n + 1) (by omega) (by omega) (by omega) hx)
            · have c148n : n = k := (nI_eq (a := n) (b := k) (by omega) (by omega)).mp c148
              refine hg_bipush (v := 60) C d_Rf_broken_151 (by decide) ?_
              refine hg_iload C 3 d_Rf_broken_153 rfl ?_
              refine hg_imul C d_Rf_broken_155 ?_
              refine hg_ti (show ((60 : Int32) : Int32) * nI rr = nI (60 * rr) from pk_mul 60 rr) ?_
              refine hg_iload C 2 d_Rf_broken_156 rfl ?_
              refine hg_iadd C d_Rf_broken_158 ?_
              refine hg_ti (show (nI (60 * rr) : Int32) + nI t = nI (60 * rr + t) from nI_add (60 * rr) t) ?_
              rw [show 60 * nR N - (60 * rr + t) = (60 * nR N - (60 * rr + (t + 1))) + 1 by omega, srch_hit ((b_at_of (by omega) (by omega)).mpr (⟨c70, z1, fun z => z2 (by have z1 := z.1; rw [e24, nI_clamp (n := f1) (by omega)] at z1; exact z1)⟩)) c148n] at hx
              exact hg_iretN C hr rfl d_Rf_broken_159 (Nat.le_of_ble_eq_true rfl) (Nat.le_of_ble_eq_true rfl) (⟨by rw [← hx], hR⟩)
        · refine hg_if_eq C 173 d_Rf_broken_80 (by decide) (fun _ => ?_) (fun z => absurd (by decide) z)
          refine hg_iinc (v := nI (t + 1)) (lv' := [(5, .int (nI (t + 1))), (4, .int (nI rr)), (3, .int (nI n)), (1, .int (nI v)), (2, .int (nI k)), (0, .ref r)]) C 0 d_Rf_broken_173 rfl (nI_1 t) (by decide) rfl ?_
          refine hg_goto C 47 d_Rf_broken_176 (by decide) ?_
          rw [show 60 * nR N - (60 * rr + t) = (60 * nR N - (60 * rr + (t + 1))) + 1 by omega, srch_no (fun z9 => (fun z => z1 z.2.1) ((b_at_of (by omega) (by omega)).mp z9))] at hx
          exact hg_lv (ks := [0, 1, 2, 3, 4, 5]) rfl (ih (t + 1) n (by omega) (by omega) (by omega) hx)
set_option maxHeartbeats 4000000 in
set_option maxRecDepth 100000 in
theorem lp_Rf_brk (l : Launch) (Γ : Gam) {p : Program} {e : Env} {s9 : State} {m : MethodId} {args : Array Value} {below : List Frame} {meth : Method} {c : Code} {A : Nat → Prop} (C : hp_C p s9 m args meth c b_Rf_broken 8 "ModelMergeModel" w_Rf_broken Γ.1 kcl (ktys Γ.2.1) (ksts Γ.2.2) knws A) {h : Pic} {r : Nat} {aa : Nat → Nat} {N : Mem} (hR : rf_at Γ r aa N h) (hN : Inv0 N) {v k : Nat} (hvv : v < nV N) (hk : k < 2 ^ 31) {x : Int32} (hr : meth.sig.returnType = some .int)  :
    ∀ (n9 : Nat) (rr n : Nat), (rr ≤ nR N) → (nR N + 1 ≤ rr + n9) → (n ≤ 60 * rr) → (srch (b_at N v) k (60 * nR N - (60 * rr)) (60 * rr) n = x) → hp_G p l e rm_Rf_broken s9 m args below meth c Γ.1 kcl A 8 (hp_NQ below Γ.1 kcl A (fun q u => q = some (.int x) ∧ rf_at Γ r aa N u) args s9 0 0) 0 0 35 [(4, .int (nI rr)), (3, .int (nI n)), (1, .int (nI v)), (2, .int (nI k)), (0, .ref r)] [] h := by
  intro n9
  induction n9 with
  | zero =>
    intro rr n ht hm hn hx
    exact absurd hm (by omega)
  | succ n9 ih =>
    intro rr n ht hm hn hx
    obtain ⟨⟨⟨fT, gT⟩, ⟨fV, gV1, gV⟩, ⟨fS, gS⟩, ⟨fR, gR⟩, ⟨fC, gC⟩⟩, hN2, -⟩ := id hN
    refine hg_iload C 0 d_Rf_broken_35 rfl ?_
    refine hg_aload_n C 4 d_Rf_broken_37 rfl rfl ?_
    refine f_Rf_130 C hR.1 rfl d_Rf_broken_38 ?_
    refine hg_ti fR ?_
    refine hg_icmp_ge C 185 d_Rf_broken_41 (by decide) (fun c41 => ?_) (fun c41 => ?_)
    · have c41n : nR N ≤ rr := (nI_leI (a := (nR N)) (b := rr) (by omega) (by omega)).mp c41
      refine hg_iconst (v := (-1)) C d_Rf_broken_185 (by decide) ?_
      exact hg_iretN C hr rfl d_Rf_broken_186 (Nat.le_of_ble_eq_true rfl) (Nat.le_of_ble_eq_true rfl) (⟨by rw [← hx, show 60 * nR N - 60 * rr = 0 by omega]; rfl, hR⟩)
    · have c41n : ¬ nR N ≤ rr := fun z => c41 (nI_le (a := (nR N)) (b := rr) z (by omega))
      refine hg_iconst (v := 0) C d_Rf_broken_44 (by decide) ?_
      refine hg_istore (lv' := [(5, .int 0), (4, .int (nI rr)), (3, .int (nI n)), (1, .int (nI v)), (2, .int (nI k)), (0, .ref r)]) C d_Rf_broken_45 (by decide) rfl ?_
      refine hg_lv (ks := [0, 1, 2, 3, 4, 5]) rfl (lp_Rf_brk1 l Γ C hR hN hvv hk (by omega) hr (fun n hn hx => ?_) (nT N + 1) 0 n (by omega) (by omega) (by omega) hx)
      refine hg_iinc (v := nI (rr + 1)) (lv' := [(4, .int (nI (rr + 1))), (3, .int (nI n)), (1, .int (nI v)), (2, .int (nI k)), (0, .ref r)]) C 0 d_Rf_broken_179 rfl (nI_1 rr) (by decide) rfl ?_
      refine hg_goto C 35 d_Rf_broken_182 (by decide) ?_
      rw [show 60 * nR N - (60 * rr + nT N) = (60 * nR N - 60 * (rr + 1)) + (60 - nT N) by omega, srch_skip _ _ _ (fun j h1 h2 => b_at_no (rr := rr) h1 (by omega)), show 60 * rr + nT N + (60 - nT N) = 60 * (rr + 1) by omega] at hx
      exact ih (rr + 1) n (by omega) (by omega) (by omega) hx
set_option maxHeartbeats 4000000 in
set_option maxRecDepth 100000 in
theorem k_Rf_broken (l : Launch) (Γ : Gam) (h : Pic) (r : Nat) (aa : Nat → Nat) (M : Mem) (hR : rf_at Γ r aa M h) (hI : Inv0 M) (v0 k0 : Int32) : kN l Γ y_Rf_broken w_Rf_broken rm_Rf_broken [.ref r, .int v0, .int k0] h (fun q u => q = some (.int (sp_broken M v0 k0).2.1) ∧ rf_at Γ r aa (sp_broken M v0 k0).2.2 u) 0 0 := by
  refine hg_entryN (own := "ModelMergeModel") (cc := b_Rf_broken) (maxL := 8) (ret := (some .int)) (lv0 := [(0, .ref r), (1, .int v0), (2, .int k0)]) (by decide) rfl rfl (Nat.le_of_ble_eq_true rfl) rfl ?_
  intro p9 e9 s9 m9 args below meth c9 A C hnm hr
  obtain ⟨⟨⟨eT, hT⟩, ⟨eV, hV1, hV⟩, ⟨eS, hS⟩, ⟨eR, hRR⟩, ⟨eC, hC⟩⟩, hI2, -⟩ := id hI
  refine hg_aload_n C 0 d_Rf_broken_0 rfl rfl ?_
  refine hg_iload_n C 1 d_Rf_broken_1 rfl rfl ?_
  refine hg_aload_n C 0 d_Rf_broken_2 rfl rfl ?_
  refine f_Rf_16 C hR.1 rfl d_Rf_broken_3 ?_
  refine hg_ti eV ?_
  refine hg_SNb C (k_Rf_isIn l Γ _ v0 (nI (nV M))) (cw_Rf_101 C.2.2.2.2.1 rfl rfl ⟨Nat.le_of_ble_eq_true rfl, Nat.le_of_ble_eq_true rfl⟩) rfl rfl (Nat.le_of_ble_eq_true rfl) d_Rf_broken_6 ⟨Nat.le_of_ble_eq_true rfl, Nat.le_of_ble_eq_true rfl⟩ (fun z1 => ?_) (fun z1 => ?_)
  · obtain ⟨v, hv, rfl⟩ := inr_nat (n := nV M) (id z1) (by omega)
    refine hg_if_eq C 20 d_Rf_broken_9 (by decide) (fun z => absurd z (by decide)) (fun _ => ?_)
    refine hg_iload_n C 2 d_Rf_broken_12 rfl rfl ?_
    refine hg_if_lt C 20 d_Rf_broken_13 (by decide) (fun c13 => ?_) (fun c13 => ?_)
    · refine hg_iconst (v := 0) C d_Rf_broken_20 (by decide) ?_
      refine hg_iconst (v := 1) C d_Rf_broken_21 (by decide) ?_
      refine hg_VNu (q := ("ModelMergeModel", T_Rf, 31)) C (k_Rf_goes1 l Γ _ r aa M hR 1) (cw_Rf_108 C.2.2.2.2.1 rfl rfl ⟨Nat.le_of_ble_eq_true rfl, Nat.le_of_ble_eq_true rfl⟩) hR.1 rfl rfl rfl (Nat.le_of_ble_eq_true rfl) d_Rf_broken_22 ⟨Nat.le_of_ble_eq_true rfl, Nat.le_of_ble_eq_true rfl⟩ (fun h2 R3 => ?_)
      refine hg_if_ne C 30 d_Rf_broken_25 (by decide) (fun z => absurd rfl z) (fun _ => ?_)
      refine hg_iconst (v := 0) C d_Rf_broken_28 (by decide) ?_
      exact hg_iretN C hr rfl d_Rf_broken_29 (Nat.le_of_ble_eq_true rfl) (Nat.le_of_ble_eq_true rfl) (⟨by rw [sp_broken, gd1 (fun z => z.2 c13)], by rw [sp_broken, gd1 (fun z => z.2 c13)]; exact R3⟩)
    · obtain ⟨k, hk, rfl⟩ := nI_of (id c13)
      refine hg_iconst (v := 1) C d_Rf_broken_16 (by decide) ?_
      refine hg_goto C 21 d_Rf_broken_17 (by decide) ?_
      refine hg_iconst (v := 1) C d_Rf_broken_21 (by decide) ?_
      refine hg_VNu (q := ("ModelMergeModel", T_Rf, 31)) C (k_Rf_goes0 l Γ _ r aa M hR) (cw_Rf_108 C.2.2.2.2.1 rfl rfl ⟨Nat.le_of_ble_eq_true rfl, Nat.le_of_ble_eq_true rfl⟩) hR.1 rfl rfl rfl (Nat.le_of_ble_eq_true rfl) d_Rf_broken_22 ⟨Nat.le_of_ble_eq_true rfl, Nat.le_of_ble_eq_true rfl⟩ (fun h4 R5 => ?_)
      obtain ⟨N, eN⟩ : ∃ z, z = mset M 0 0 0 := ⟨_, rfl⟩
      rw [← eN] at R5
      have hN : Inv0 N := by rw [eN]; exact Inv0_code 0 hI
      have qS : nS N = nS M := by rw [eN]; rfl
      have qT : nT N = nT M := by rw [eN]; rfl
      have qV : nV N = nV M := by rw [eN]; rfl
      have qR : nR N = nR M := by rw [eN]; rfl
      have qC : nC N = nC M := by rw [eN]; rfl
      obtain ⟨⟨⟨fT, gT⟩, ⟨fV, gV1, gV⟩, ⟨fS, gS⟩, ⟨fR, gR⟩, ⟨fC, gC⟩⟩, hN2, -⟩ := id hN
      refine hg_if_ne C 30 d_Rf_broken_25 (by decide) (fun _ => ?_) (fun z => absurd z (by decide))
      refine hg_iconst (v := 0) C d_Rf_broken_30 (by decide) ?_
      refine hg_istore_n (lv' := [(3, .int 0), (0, .ref r), (1, .int (nI v)), (2, .int (nI k))]) C d_Rf_broken_31 rfl (by decide) rfl ?_
      refine hg_iconst (v := 0) C d_Rf_broken_32 (by decide) ?_
      refine hg_istore (lv' := [(4, .int 0), (3, .int 0), (0, .ref r), (1, .int (nI v)), (2, .int (nI k))]) C d_Rf_broken_33 (by decide) rfl ?_
      rw [sp_broken, gd0 ⟨z1, c13⟩ trivial, ← eN, nI_clamp (n := v) (by omega), nI_clamp (n := k) (by omega), ← qR]
      exact hg_lv (ks := [0, 1, 3, 4, 2]) rfl (lp_Rf_brk l Γ C R5 hN (by omega) hk hr (nR N + 1) 0 0 (by omega) (by omega) (by omega) rfl)
  · refine hg_if_eq C 20 d_Rf_broken_9 (by decide) (fun _ => ?_) (fun z => absurd (by decide) z)
    refine hg_iconst (v := 0) C d_Rf_broken_20 (by decide) ?_
    refine hg_iconst (v := 1) C d_Rf_broken_21 (by decide) ?_
    refine hg_VNu (q := ("ModelMergeModel", T_Rf, 31)) C (k_Rf_goes1 l Γ _ r aa M hR 1) (cw_Rf_108 C.2.2.2.2.1 rfl rfl ⟨Nat.le_of_ble_eq_true rfl, Nat.le_of_ble_eq_true rfl⟩) hR.1 rfl rfl rfl (Nat.le_of_ble_eq_true rfl) d_Rf_broken_22 ⟨Nat.le_of_ble_eq_true rfl, Nat.le_of_ble_eq_true rfl⟩ (fun h6 R7 => ?_)
    refine hg_if_ne C 30 d_Rf_broken_25 (by decide) (fun z => absurd rfl z) (fun _ => ?_)
    refine hg_iconst (v := 0) C d_Rf_broken_28 (by decide) ?_
    exact hg_iretN C hr rfl d_Rf_broken_29 (Nat.le_of_ble_eq_true rfl) (Nat.le_of_ble_eq_true rfl) (⟨by rw [sp_broken, gd1 (fun z => z1 z.1)], by rw [sp_broken, gd1 (fun z => z1 z.1)]; exact R7⟩)
