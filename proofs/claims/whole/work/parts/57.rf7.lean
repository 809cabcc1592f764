/-! THE REFERENCE, seventh part: find -/
def x_old (N : Mem) (s t f : Nat) : Int32 := N 6 (5 * (60 * bs N s + t) + f)
def x_my (N : Mem) (t f : Nat) : Int32 := N 6 (5 * (60 * (nV N - 1) + t) + f)
noncomputable def x_th (N : Mem) (s t f : Nat) : Int32 := stv N s (sd N s) t (f + 1)
def h_b (N : Mem) (s t : Nat) : Int32 := N 5 (60 * bs N s + t)
def h_m (N : Mem) (t : Nat) : Int32 := N 5 (60 * (nV N - 1) + t)
noncomputable def h_t (N : Mem) (s t : Nat) : Int32 := stv N s (sd N s) t 0
def fc1 (N : Mem) (s t f : Nat) : Prop := ¬ h_m N t = 0 ∧ ¬ x_my N t f = x_old N s t f
def fc2 (N : Mem) (s t f : Nat) : Prop := ¬ h_t N s t = 0 ∧ ¬ x_th N s t f = x_old N s t f
/-- field f is a conflict -/
def fc (N : Mem) (s t f : Nat) : Prop := fc1 N s t f ∧ fc2 N s t f ∧ ¬ x_my N t f = x_th N s t f
def m_add (K : Mem) (t f : Int32) : Mem := mset (mset (mset (mset K 28 (nC K) t) 29 (nC K) f) 30 (nC K) (-1)) 27 0 (nI (nC K + 1))
noncomputable def m_fl (N : Mem) (s t : Nat) (K : Mem) : Nat → Mem
  | 0 => K
  | f + 1 => @ite _ (fc N s t f) (Classical.propDecidable _) (m_add (m_fl N s t K f) (nI t) (nI f)) (m_fl N s t K f)
/-- the thing itself is a conflict -/
def wc (N : Mem) (s t : Nat) : Prop := ¬ h_m N t = h_t N s t ∧ ((¬ h_m N t = 0 ∧ ∃ f, f < 5 ∧ fc1 N s t f) ∨ (h_m N t = 0 ∧ ∃ f, f < 5 ∧ fc2 N s t f))
noncomputable def m_find (N : Mem) (s t : Nat) (K : Mem) : Mem := @ite _ (h_b N s t = 0) (Classical.propDecidable _) K (@ite _ (wc N s t) (Classical.propDecidable _) (m_add (m_fl N s t K 5) (nI t) (-1)) (m_fl N s t K 5))
theorem m_add_C {K : Mem} {t f : Int32} (h : nC K < 300) : nC (m_add K t f) = nC K + 1 := by
  show (mset _ 27 0 _ 27 0).toNatClampNeg = _
  rw [mset_s, pk_us, nI_clamp (by omega)]
theorem m_add_o {K : Mem} {t f : Int32} {j : Nat} (h : j < 27) : m_add K t f j = K j := by
  rw [m_add, mset_n (by omega), mset_n (by omega), mset_n (by omega), mset_n (by omega)]
theorem m_add_agr {K N : Mem} {t f : Int32} (h : agr K N) : agr (m_add K t f) N :=
  ⟨fun j h1 h2 => by rw [m_add_o h1]; exact h.1 j h1 h2, fun i hi => by rw [m_add_o (by omega)]; exact h.2.1 i hi, fun i hi => by rw [m_add_o (by omega)]; exact h.2.2.1 i hi, fun i hi => by rw [m_add_o (by omega)]; exact h.2.2.2 i hi⟩
theorem m_add_inv {K N : Mem} {t : Nat} {f : Int32} (hN : Inv0 N) (h : agr K N) (hK : Inv0 K) (hc : nC K < 300) (ht : t < nT N) (hf : f = -1 ∨ ∃ g, g < 5 ∧ f = nI g) : Inv0 (m_add K (nI t) f) := by
  refine (m_add_agr h).inv hN ⟨?_, ?_⟩ ?_
  · rw [m_add_C hc]; show mset _ 27 0 _ 27 0 = _; rw [mset_s, pk_us]
  · rw [m_add_C hc]; omega
  · intro k hk
    rw [m_add_C hc] at hk
    rw [(m_add_agr h).T]
    have e28 : m_add K (nI t) f 28 = upd (K 28) (nC K) (nI t) := by rw [m_add, mset_n (by decide), mset_n (by decide), mset_n (by decide), mset_s]
    have e29 : m_add K (nI t) f 29 = upd (K 29) (nC K) f := by rw [m_add, mset_n (by decide), mset_n (by decide), mset_s, mset_n (by decide)]
    have e30 : m_add K (nI t) f 30 = upd (K 30) (nC K) (-1) := by rw [m_add, mset_n (by decide), mset_s, mset_n (by decide), mset_n (by decide)]
    rw [e28, e29, e30]
    by_cases hkk : k = nC K
    · rw [hkk, pk_us, pk_us, pk_us]
      exact ⟨⟨t, ht, rfl⟩, hf, Or.inl rfl⟩
    · rw [pk_un hkk, pk_un hkk, pk_un hkk, ← h.T]
      exact hK.2.2.2.2.2.2.1 k (by omega)
theorem m_fl_ok {N K : Mem} {s t : Nat} (hN : Inv0 N) (h : agr K N) (hK : Inv0 K) (ht : t < nT N) : ∀ f, f ≤ 5 → nC K + f ≤ 300 → agr (m_fl N s t K f) N ∧ Inv0 (m_fl N s t K f) ∧ nC (m_fl N s t K f) ≤ nC K + f
  | 0, _, _ => ⟨h, hK, Nat.le_refl _⟩
  | f + 1, h1, h2 => by
    obtain ⟨a1, a2, a3⟩ := m_fl_ok hN h hK ht f (by omega) (by omega)
    unfold m_fl
    split
    · exact ⟨m_add_agr a1, m_add_inv hN a1 a2 (by omega) ht (Or.inr ⟨f, by omega, rfl⟩), by rw [m_add_C (by omega)]; omega⟩
    · exact ⟨a1, a2, by omega⟩
theorem m_fl_none {N K : Mem} {s t : Nat} (h : h_m N t = 0 ∨ h_t N s t = 0) : ∀ f, m_fl N s t K f = K
  | 0 => rfl
  | f + 1 => by
    unfold m_fl
    rw [if_neg (fun z => h.elim (fun y => z.1.1 y) (fun y => z.2.1.1 y)), m_fl_none h f]
abbrev rm_Rf_find : Room := { frames := 2, cells := 0, slots := 0, locals := 49 }
set_option maxHeartbeats 4000000 in
set_option maxRecDepth 100000 in
theorem ct_find_B (l : Launch) (Γ : Gam) {p : Program} {e : Env} {s9 : State} {m : MethodId} {args : Array Value} {below : List Frame} {meth : Method} {c : Code} {A : Nat → Prop} {Q : State → Prop} (C : hp_C p s9 m args meth c b_Rf_find 14 "ModelMergeModel" w_Rf_find Γ.1 kcl (ktys Γ.2.1) (ksts Γ.2.2) knws A) {h : Pic} {r s t f b : Nat} {ht hm x mm od ov tw mv tv : Int32} {A1 B1 O1 W1 : Prop} (hmv : flag mv A1) (htv : flag tv B1) (hov : flag ov O1) (htw : flag tw W1) (kk : ∀ mv' tv' : Int32, flag mv' (A1 ∨ O1) → flag tv' (B1 ∨ W1) → hp_G p l e rm_Rf_find s9 m args below meth c Γ.1 kcl A 14 Q 0 0 169 [(13, .int tw), (12, .int ov), (11, .int x), (10, .int mm), (9, .int od), (8, .int (nI f)), (7, .int tv'), (6, .int mv'), (5, .int ht), (4, .int hm), (3, .int (nI b)), (1, .int (nI s)), (2, .int (nI t)), (0, .ref r)] [] h) : hp_G p l e rm_Rf_find s9 m args below meth c Γ.1 kcl A 14 Q 0 0 135 [(13, .int tw), (12, .int ov), (11, .int x), (10, .int mm), (9, .int od), (8, .int (nI f)), (7, .int tv), (6, .int mv), (5, .int ht), (4, .int hm), (3, .int (nI b)), (1, .int (nI s)), (2, .int (nI t)), (0, .ref r)] [] h := by
  refine hg_iload C 7 d_Rf_find_135 rfl ?_
  refine hg_if_ne C 145 d_Rf_find_137 (by decide) (fun c137 => ?_) (fun c137 => ?_)
  · refine hg_iconst (v := 1) C d_Rf_find_145 (by decide) ?_
    refine hg_goto C 150 d_Rf_find_146 (by decide) ?_
    refine hg_istore (lv' := [(6, .int 1), (13, .int tw), (12, .int ov), (11, .int x), (10, .int mm), (9, .int od), (8, .int (nI f)), (7, .int tv), (5, .int ht), (4, .int hm), (3, .int (nI b)), (1, .int (nI s)), (2, .int (nI t)), (0, .ref r)]) C d_Rf_find_150 (by decide) rfl ?_
    refine hg_iload C 7 d_Rf_find_152 rfl ?_
    refine hg_if_ne C 162 d_Rf_find_154 (by decide) (fun c154 => ?_) (fun c154 => ?_)
    · refine hg_iconst (v := 1) C d_Rf_find_162 (by decide) ?_
      refine hg_goto C 167 d_Rf_find_163 (by decide) ?_
      refine hg_istore (lv' := [(7, .int 1), (6, .int 1), (13, .int tw), (12, .int ov), (11, .int x), (10, .int mm), (9, .int od), (8, .int (nI f)), (5, .int ht), (4, .int hm), (3, .int (nI b)), (1, .int (nI s)), (2, .int (nI t)), (0, .ref r)]) C d_Rf_find_167 (by decide) rfl ?_
      exact hg_lv (ks := [2, 3, 4, 5, 6, 7, 0, 1, 8, 9, 10, 11, 12, 13]) rfl (kk _ _ (Or.inl ⟨rfl, Or.inl (flag_1 hmv c137)⟩) (Or.inl ⟨rfl, Or.inl (flag_1 htv c154)⟩))
    · refine hg_iload C 1 d_Rf_find_157 rfl ?_
      refine hg_if_eq C 166 d_Rf_find_159 (by decide) (fun c159 => ?_) (fun c159 => ?_)
      · refine hg_iconst (v := 0) C d_Rf_find_166 (by decide) ?_
        refine hg_istore (lv' := [(7, .int 0), (6, .int 1), (13, .int tw), (12, .int ov), (11, .int x), (10, .int mm), (9, .int od), (8, .int (nI f)), (5, .int ht), (4, .int hm), (3, .int (nI b)), (1, .int (nI s)), (2, .int (nI t)), (0, .ref r)]) C d_Rf_find_167 (by decide) rfl ?_
        exact hg_lv (ks := [2, 3, 4, 5, 6, 7, 0, 1, 8, 9, 10, 11, 12, 13]) rfl (kk _ _ (Or.inl ⟨rfl, Or.inl (flag_1 hmv c137)⟩) (Or.inr ⟨rfl, fun z => z.elim (flag_0 htv c154) (flag_0 htw c159)⟩))
      · refine hg_iconst (v := 1) C d_Rf_find_162 (by decide) ?_
        refine hg_goto C 167 d_Rf_find_163 (by decide) ?_
        refine hg_istore (lv' := [(7, .int 1), (6, .int 1), (13, .int tw), (12, .int ov), (11, .int x), (10, .int mm), (9, .int od), (8, .int (nI f)), (5, .int ht), (4, .int hm), (3, .int (nI b)), (1, .int (nI s)), (2, .int (nI t)), (0, .ref r)]) C d_Rf_find_167 (by decide) rfl ?_
        exact hg_lv (ks := [2, 3, 4, 5, 6, 7, 0, 1, 8, 9, 10, 11, 12, 13]) rfl (kk _ _ (Or.inl ⟨rfl, Or.inl (flag_1 hmv c137)⟩) (Or.inl ⟨rfl, Or.inr (flag_1 htw c159)⟩))
  · refine hg_iload C 1 d_Rf_find_140 rfl ?_
    refine hg_if_eq C 149 d_Rf_find_142 (by decide) (fun c142 => ?_) (fun c142 => ?_)
    · refine hg_iconst (v := 0) C d_Rf_find_149 (by decide) ?_
      refine hg_istore (lv' := [(6, .int 0), (13, .int tw), (12, .int ov), (11, .int x), (10, .int mm), (9, .int od), (8, .int (nI f)), (7, .int tv), (5, .int ht), (4, .int hm), (3, .int (nI b)), (1, .int (nI s)), (2, .int (nI t)), (0, .ref r)]) C d_Rf_find_150 (by decide) rfl ?_
      refine hg_iload C 7 d_Rf_find_152 rfl ?_
      refine hg_if_ne C 162 d_Rf_find_154 (by decide) (fun c154 => ?_) (fun c154 => ?_)
      · refine hg_iconst (v := 1) C d_Rf_find_162 (by decide) ?_
        refine hg_goto C 167 d_Rf_find_163 (by decide) ?_
        refine hg_istore (lv' := [(7, .int 1), (6, .int 0), (13, .int tw), (12, .int ov), (11, .int x), (10, .int mm), (9, .int od), (8, .int (nI f)), (5, .int ht), (4, .int hm), (3, .int (nI b)), (1, .int (nI s)), (2, .int (nI t)), (0, .ref r)]) C d_Rf_find_167 (by decide) rfl ?_
        exact hg_lv (ks := [2, 3, 4, 5, 6, 7, 0, 1, 8, 9, 10, 11, 12, 13]) rfl (kk _ _ (Or.inr ⟨rfl, fun z => z.elim (flag_0 hmv c137) (flag_0 hov c142)⟩) (Or.inl ⟨rfl, Or.inl (flag_1 htv c154)⟩))
      · refine hg_iload C 1 d_Rf_find_157 rfl ?_
        refine hg_if_eq C 166 d_Rf_find_159 (by decide) (fun c159 => ?_) (fun c159 => ?_)
        · refine hg_iconst (v := 0) C d_Rf_find_166 (by decide) ?_
          refine hg_istore (lv' := [(7, .int 0), (6, .int 0), (13, .int tw), (12, .int ov), (11, .int x), (10, .int mm), (9, .int od), (8, .int (nI f)), (5, .int ht), (4, .int hm), (3, .int (nI b)), (1, .int (nI s)), (2, .int (nI t)), (0, .ref r)]) C d_Rf_find_167 (by decide) rfl ?_
          exact hg_lv (ks := [2, 3, 4, 5, 6, 7, 0, 1, 8, 9, 10, 11, 12, 13]) rfl (kk _ _ (Or.inr ⟨rfl, fun z => z.elim (flag_0 hmv c137) (flag_0 hov c142)⟩) (Or.inr ⟨rfl, fun z => z.elim (flag_0 htv c154) (flag_0 htw c159)⟩))
        · refine hg_iconst (v := 1) C d_Rf_find_162 (by decide) ?_
          refine hg_goto C 167 d_Rf_find_163 (by decide) ?_
          refine hg_istore (lv' := [(7, .int 1), (6, .int 0), (13, .int tw), (12, .int ov), (11, .int x), (10, .int mm), (9, .int od), (8, .int (nI f)), (5, .int ht), (4, .int hm), (3, .int (nI b)), (1, .int (nI s)), (2, .int (nI t)), (0, .ref r)]) C d_Rf_find_167 (by decide) rfl ?_
          exact hg_lv (ks := [2, 3, 4, 5, 6, 7, 0, 1, 8, 9, 10, 11, 12, 13]) rfl (kk _ _ (Or.inr ⟨rfl, fun z => z.elim (flag_0 hmv c137) (flag_0 hov c142)⟩) (Or.inl ⟨rfl, Or.inr (flag_1 htw c159)⟩))
    · refine hg_iconst (v := 1) C d_Rf_find_145 (by decide) ?_
      refine hg_goto C 150 d_Rf_find_146 (by decide) ?_
      refine hg_istore (lv' := [(6, .int 1), (13, .int tw), (12, .int ov), (11, .int x), (10, .int mm), (9, .int od), (8, .int (nI f)), (7, .int tv), (5, .int ht), (4, .int hm), (3, .int (nI b)), (1, .int (nI s)), (2, .int (nI t)), (0, .ref r)]) C d_Rf_find_150 (by decide) rfl ?_
      refine hg_iload C 7 d_Rf_find_152 rfl ?_
      refine hg_if_ne C 162 d_Rf_find_154 (by decide) (fun c154 => ?_) (fun c154 => ?_)
      · refine hg_iconst (v := 1) C d_Rf_find_162 (by decide) ?_
        refine hg_goto C 167 d_Rf_find_163 (by decide) ?_
        refine hg_istore (lv' := [(7, .int 1), (6, .int 1), (13, .int tw), (12, .int ov), (11, .int x), (10, .int mm), (9, .int od), (8, .int (nI f)), (5, .int ht), (4, .int hm), (3, .int (nI b)), (1, .int (nI s)), (2, .int (nI t)), (0, .ref r)]) C d_Rf_find_167 (by decide) rfl ?_
        exact hg_lv (ks := [2, 3, 4, 5, 6, 7, 0, 1, 8, 9, 10, 11, 12, 13]) rfl (kk _ _ (Or.inl ⟨rfl, Or.inr (flag_1 hov c142)⟩) (Or.inl ⟨rfl, Or.inl (flag_1 htv c154)⟩))
      · refine hg_iload C 1 d_Rf_find_157 rfl ?_
        refine hg_if_eq C 166 d_Rf_find_159 (by decide) (fun c159 => ?_) (fun c159 => ?_)
        · refine hg_iconst (v := 0) C d_Rf_find_166 (by decide) ?_
          refine hg_istore (lv' := [(7, .int 0), (6, .int 1), (13, .int tw), (12, .int ov), (11, .int x), (10, .int mm), (9, .int od), (8, .int (nI f)), (5, .int ht), (4, .int hm), (3, .int (nI b)), (1, .int (nI s)), (2, .int (nI t)), (0, .ref r)]) C d_Rf_find_167 (by decide) rfl ?_
          exact hg_lv (ks := [2, 3, 4, 5, 6, 7, 0, 1, 8, 9, 10, 11, 12, 13]) rfl (kk _ _ (Or.inl ⟨rfl, Or.inr (flag_1 hov c142)⟩) (Or.inr ⟨rfl, fun z => z.elim (flag_0 htv c154) (flag_0 htw c159)⟩))
        · refine hg_iconst (v := 1) C d_Rf_find_162 (by decide) ?_
          refine hg_goto C 167 d_Rf_find_163 (by decide) ?_
          refine hg_istore (lv' := [(7, .int 1), (6, .int 1), (13, .int tw), (12, .int ov), (11, .int x), (10, .int mm), (9, .int od), (8, .int (nI f)), (5, .int ht), (4, .int hm), (3, .int (nI b)), (1, .int (nI s)), (2, .int (nI t)), (0, .ref r)]) C d_Rf_find_167 (by decide) rfl ?_
          exact hg_lv (ks := [2, 3, 4, 5, 6, 7, 0, 1, 8, 9, 10, 11, 12, 13]) rfl (kk _ _ (Or.inl ⟨rfl, Or.inr (flag_1 hov c142)⟩) (Or.inl ⟨rfl, Or.inr (flag_1 htw c159)⟩))
set_option maxHeartbeats 4000000 in
set_option maxRecDepth 100000 in
theorem ct_find_C (l : Launch) (Γ : Gam) {p : Program} {e : Env} {s9 : State} {m : MethodId} {args : Array Value} {below : List Frame} {meth : Method} {c : Code} {A : Nat → Prop} {Q : State → Prop} (C : hp_C p s9 m args meth c b_Rf_find 14 "ModelMergeModel" w_Rf_find Γ.1 kcl (ktys Γ.2.1) (ksts Γ.2.2) knws A) {h : Pic} {r : Nat} {aa : Nat → Nat} {K : Mem} {s t f b : Nat} {ht hm x mm od ov tw mv tv : Int32} (hR : rf_at Γ r aa K h) (eC : K 27 0 = nI (nC K)) (hC : nC K < 300) {O1 W1 : Prop} (hov : flag ov O1) (htw : flag tw W1) (k1 : O1 ∧ W1 ∧ ¬ mm = x → ∀ h1, rf_at Γ r aa (m_add K (nI t) (nI f)) h1 → hp_G p l e rm_Rf_find s9 m args below meth c Γ.1 kcl A 14 Q 0 0 51 [(8, .int (nI (f + 1))), (7, .int tv), (6, .int mv), (5, .int ht), (4, .int hm), (3, .int (nI b)), (1, .int (nI s)), (2, .int (nI t)), (0, .ref r)] [] h1) (k0 : ¬ (O1 ∧ W1 ∧ ¬ mm = x) → hp_G p l e rm_Rf_find s9 m args below meth c Γ.1 kcl A 14 Q 0 0 51 [(8, .int (nI (f + 1))), (7, .int tv), (6, .int mv), (5, .int ht), (4, .int hm), (3, .int (nI b)), (1, .int (nI s)), (2, .int (nI t)), (0, .ref r)] [] h) : hp_G p l e rm_Rf_find s9 m args below meth c Γ.1 kcl A 14 Q 0 0 169 [(13, .int tw), (12, .int ov), (11, .int x), (10, .int mm), (9, .int od), (8, .int (nI f)), (7, .int tv), (6, .int mv), (5, .int ht), (4, .int hm), (3, .int (nI b)), (1, .int (nI s)), (2, .int (nI t)), (0, .ref r)] [] h := by
  refine hg_iload C 1 d_Rf_find_169 rfl ?_
  refine hg_if_eq C 227 d_Rf_find_171 (by decide) (fun c171 => ?_) (fun c171 => ?_)
  · refine hg_iinc (v := nI (f + 1)) (lv' := [(8, .int (nI (f + 1))), (13, .int tw), (12, .int ov), (11, .int x), (10, .int mm), (9, .int od), (7, .int tv), (6, .int mv), (5, .int ht), (4, .int hm), (3, .int (nI b)), (1, .int (nI s)), (2, .int (nI t)), (0, .ref r)]) C 5 d_Rf_find_227 rfl (nI_1 f) (by decide) rfl ?_
    refine hg_goto C 51 d_Rf_find_230 (by decide) ?_
    exact hg_lv (ks := [0, 6, 7, 8, 9, 10, 11, 12, 13]) rfl (k0 (fun z => flag_0 hov c171 z.1))
  · refine hg_iload C 0 d_Rf_find_174 rfl ?_
    refine hg_if_eq C 227 d_Rf_find_176 (by decide) (fun c176 => ?_) (fun c176 => ?_)
    · refine hg_iinc (v := nI (f + 1)) (lv' := [(8, .int (nI (f + 1))), (13, .int tw), (12, .int ov), (11, .int x), (10, .int mm), (9, .int od), (7, .int tv), (6, .int mv), (5, .int ht), (4, .int hm), (3, .int (nI b)), (1, .int (nI s)), (2, .int (nI t)), (0, .ref r)]) C 5 d_Rf_find_227 rfl (nI_1 f) (by decide) rfl ?_
      refine hg_goto C 51 d_Rf_find_230 (by decide) ?_
      exact hg_lv (ks := [0, 6, 7, 8, 9, 10, 11, 12, 13]) rfl (k0 (fun z => flag_0 htw c176 z.2.1))
    · refine hg_iload C 3 d_Rf_find_179 rfl ?_
      refine hg_iload C 2 d_Rf_find_181 rfl ?_
      refine hg_icmp_eq C 227 d_Rf_find_183 (by decide) (fun c183 => ?_) (fun c183 => ?_)
      · refine hg_iinc (v := nI (f + 1)) (lv' := [(8, .int (nI (f + 1))), (13, .int tw), (12, .int ov), (11, .int x), (10, .int mm), (9, .int od), (7, .int tv), (6, .int mv), (5, .int ht), (4, .int hm), (3, .int (nI b)), (1, .int (nI s)), (2, .int (nI t)), (0, .ref r)]) C 5 d_Rf_find_227 rfl (nI_1 f) (by decide) rfl ?_
        refine hg_goto C 51 d_Rf_find_230 (by decide) ?_
        exact hg_lv (ks := [0, 6, 7, 8, 9, 10, 11, 12, 13]) rfl (k0 (fun z => z.2.2 c183))
      · refine hg_aload_n C 13 d_Rf_find_186 rfl rfl ?_
        refine f_Rf_81 C hR.1 rfl d_Rf_find_187 ?_
        refine hg_aload_n C 13 d_Rf_find_190 rfl rfl ?_
        refine f_Rf_141 C hR.1 rfl d_Rf_find_191 ?_
        refine hg_ti eC ?_
        refine hg_iload_n C 12 d_Rf_find_194 rfl rfl ?_
        have b195 : nC K < 300 := (by omega)
        refine hg_iast C 0 (hR.2.1 28 rfl) rfl (vp_in_nI (N := 300) b195 (by omega)) d_Rf_find_195 ?_
        obtain ⟨h1, eh1⟩ : ∃ z, z = hp_up h (aa 28) (.inl (Γ.2.1 0, 300, .inl (upd (K 28) (nI (nC K) : Int32).toNatClampNeg (nI t)))) := ⟨_, rfl⟩
        refine hg_eq eh1.symm ?_
        have R3 : rf_at Γ r aa (mset K 28 (nC K) (nI t)) h1 := by rw [eh1]; rw [nI_clamp (n := nC K) (by omega)]; exact rf_put hR 28 (nC K) (nI t) rfl
        obtain ⟨M2, eM2⟩ : ∃ z, z = mset K 28 (nC K) (nI t) := ⟨_, rfl⟩
        rw [← eM2] at R3
        refine hg_aload_n C 13 d_Rf_find_196 rfl rfl ?_
        refine f_Rf_84 C R3.1 rfl d_Rf_find_197 ?_
        refine hg_aload_n C 13 d_Rf_find_200 rfl rfl ?_
        refine f_Rf_141 C R3.1 rfl d_Rf_find_201 ?_
        refine hg_ti (show M2 27 0 = K 27 0 by rw [eM2, mset_n (by decide)]) ?_
        refine hg_ti eC ?_
        refine hg_iload C 5 d_Rf_find_204 rfl ?_
        have b206 : nC K < 300 := (by omega)
        refine hg_iast C 0 (R3.2.1 29 rfl) rfl (vp_in_nI (N := 300) b206 (by omega)) d_Rf_find_206 ?_
        obtain ⟨h4, eh4⟩ : ∃ z, z = hp_up h1 (aa 29) (.inl (Γ.2.1 0, 300, .inl (upd (M2 29) (nI (nC K) : Int32).toNatClampNeg (nI f)))) := ⟨_, rfl⟩
        refine hg_eq eh4.symm ?_
        have R6 : rf_at Γ r aa (mset M2 29 (nC K) (nI f)) h4 := by rw [eh4]; rw [nI_clamp (n := nC K) (by omega)]; exact rf_put R3 29 (nC K) (nI f) rfl
        obtain ⟨M5, eM5⟩ : ∃ z, z = mset M2 29 (nC K) (nI f) := ⟨_, rfl⟩
        rw [← eM5] at R6
        refine hg_aload_n C 13 d_Rf_find_207 rfl rfl ?_
        refine f_Rf_87 C R6.1 rfl d_Rf_find_208 ?_
        refine hg_aload_n C 13 d_Rf_find_211 rfl rfl ?_
        refine f_Rf_141 C R6.1 rfl d_Rf_find_212 ?_
        refine hg_ti (show M5 27 0 = K 27 0 by rw [eM5, mset_n (by decide), eM2, mset_n (by decide)]) ?_
        refine hg_ti eC ?_
        refine hg_iconst (v := (-1)) C d_Rf_find_215 (by decide) ?_
        have b216 : nC K < 300 := (by omega)
        refine hg_iast C 0 (R6.2.1 30 rfl) rfl (vp_in_nI (N := 300) b216 (by omega)) d_Rf_find_216 ?_
        obtain ⟨h7, eh7⟩ : ∃ z, z = hp_up h4 (aa 30) (.inl (Γ.2.1 0, 300, .inl (upd (M5 30) (nI (nC K) : Int32).toNatClampNeg (-1)))) := ⟨_, rfl⟩
        refine hg_eq eh7.symm ?_
        have R9 : rf_at Γ r aa (mset M5 30 (nC K) (-1)) h7 := by rw [eh7]; rw [nI_clamp (n := nC K) (by omega)]; exact rf_put R6 30 (nC K) (-1) rfl
        obtain ⟨M8, eM8⟩ : ∃ z, z = mset M5 30 (nC K) (-1) := ⟨_, rfl⟩
        rw [← eM8] at R9
        refine hg_aload_n C 13 d_Rf_find_217 rfl rfl ?_
        refine hg_dup C d_Rf_find_218 rfl ?_
        refine f_Rf_141 C R9.1 rfl d_Rf_find_219 ?_
        refine hg_ti (show M8 27 0 = K 27 0 by rw [eM8, mset_n (by decide), eM5, mset_n (by decide), eM2, mset_n (by decide)]) ?_
        refine hg_ti eC ?_
        refine hg_iconst (v := 1) C d_Rf_find_222 (by decide) ?_
        refine hg_iadd C d_Rf_find_223 ?_
        refine hg_ti (show (nI (nC K) : Int32) + (1 : Int32) = nI (nC K + 1) from nI_add (nC K) 1) ?_
        refine p_Rf_141 (fs' := rf_fs aa (mset M8 27 0 (nI (nC K + 1)))) C R9.1 rfl rfl (Nat.le_of_ble_eq_true rfl) rfl d_Rf_find_224 ?_
        obtain ⟨h10, eh10⟩ : ∃ z, z = hp_up h7 r (.inr (7, rf_fs aa (mset M8 27 0 (nI (nC K + 1))))) := ⟨_, rfl⟩
        refine hg_eq eh10.symm ?_
        have R12 : rf_at Γ r aa (mset M8 27 0 (nI (nC K + 1))) h10 := by rw [eh10]; exact rf_set R9 27 (nI (nC K + 1)) rfl
        obtain ⟨M11, eM11⟩ : ∃ z, z = mset M8 27 0 (nI (nC K + 1)) := ⟨_, rfl⟩
        rw [← eM11] at R12
        refine hg_iinc (v := nI (f + 1)) (lv' := [(8, .int (nI (f + 1))), (13, .int tw), (12, .int ov), (11, .int x), (10, .int mm), (9, .int od), (7, .int tv), (6, .int mv), (5, .int ht), (4, .int hm), (3, .int (nI b)), (1, .int (nI s)), (2, .int (nI t)), (0, .ref r)]) C 5 d_Rf_find_227 rfl (nI_1 f) (by decide) rfl ?_
        refine hg_goto C 51 d_Rf_find_230 (by decide) ?_
        rw [eM11, eM8, eM5, eM2] at R12
        exact hg_lv (ks := [0, 6, 7, 8, 9, 10, 11, 12, 13]) rfl (k1 ⟨flag_1 hov c171, flag_1 htw c176, c183⟩ _ R12)
theorem flag_of {x : Int32} {P Q : Prop} (h : flag x P) (hpq : P ↔ Q) : flag x Q := h.elim (fun z => Or.inl ⟨z.1, hpq.mp z.2⟩) (fun z => Or.inr ⟨z.1, fun y => z.2 (hpq.mpr y)⟩)
theorem ex_succ {f : Nat} {P : Nat → Prop} : ((∃ k, k < f ∧ P k) ∨ P f) ↔ ∃ k, k < f + 1 ∧ P k := by
  constructor
  · rintro (⟨k, h1, h2⟩ | h)
    · exact ⟨k, by omega, h2⟩
    · exact ⟨f, by omega, h⟩
  · rintro ⟨k, h1, h2⟩
    by_cases hk : k = f
    · exact Or.inr (hk ▸ h2)
    · exact Or.inl ⟨k, by omega, h2⟩
set_option maxHeartbeats 4000000 in
set_option maxRecDepth 100000 in
theorem lp_Rf_find (l : Launch) (Γ : Gam) {p : Program} {e : Env} {s9 : State} {m : MethodId} {args : Array Value} {below : List Frame} {meth : Method} {c : Code} {A : Nat → Prop} {Q : State → Prop} (C : hp_C p s9 m args meth c b_Rf_find 14 "ModelMergeModel" w_Rf_find Γ.1 kcl (ktys Γ.2.1) (ksts Γ.2.2) knws A) {r : Nat} {aa : Nat → Nat} {N K0 : Mem} (hN : Inv0 N) (hZ : I_zer N) (hA0 : agr K0 N) (hK0 : Inv0 K0) {s t : Nat} (hs : s < nS N) (htt : t < nT N) (hc : nC K0 + 5 ≤ 300) (kx : ∀ (mv tv : Int32) (h : Pic), flag mv (∃ f, f < 5 ∧ fc1 N s t f) → flag tv (∃ f, f < 5 ∧ fc2 N s t f) → rf_at Γ r aa (m_fl N s t K0 5) h → hp_G p l e rm_Rf_find s9 m args below meth c Γ.1 kcl A 14 Q 0 0 233 [(7, .int tv), (6, .int mv), (5, .int (h_t N s t)), (4, .int (h_m N t)), (3, .int (nI (60 * bs N s + t))), (1, .int (nI s)), (2, .int (nI t)), (0, .ref r)] [] h) :
    ∀ (n9 : Nat) (f : Nat) (mv tv : Int32) (h : Pic), (f ≤ 5) → (5 + 1 ≤ f + n9) → (flag mv (∃ k, k < f ∧ fc1 N s t k)) → (flag tv (∃ k, k < f ∧ fc2 N s t k)) → (rf_at Γ r aa (m_fl N s t K0 f) h) → hp_G p l e rm_Rf_find s9 m args below meth c Γ.1 kcl A 14 Q 0 0 51 [(8, .int (nI f)), (7, .int tv), (6, .int mv), (5, .int (h_t N s t)), (4, .int (h_m N t)), (3, .int (nI (60 * bs N s + t))), (1, .int (nI s)), (2, .int (nI t)), (0, .ref r)] [] h := by
  intro n9
  induction n9 with
  | zero =>
    intro f mv tv h hf hm hmv htv hR
    exact absurd hm (by omega)
  | succ n9 ih =>
    intro f mv tv h hf hm hmv htv hR
    obtain ⟨hA, hK, hCn⟩ := m_fl_ok (s := s) hN hA0 hK0 htt f hf (by omega)
    obtain ⟨K, eK⟩ : ∃ z, z = m_fl N s t K0 f := ⟨_, rfl⟩
    rw [← eK] at hA hK hCn hR
    have hZK := hA.zer hN hZ
    have qS := hA.S
    have qT := hA.T
    have qV := hA.V
    obtain ⟨⟨⟨fT, gT⟩, ⟨fV, gV1, gV⟩, ⟨fS, gS⟩, ⟨fR, gR⟩, ⟨fC, gC⟩⟩, hN2, -⟩ := id hN
    obtain ⟨⟨f11, gb⟩, ⟨f12, gsd⟩, ⟨f13, gnm⟩, glf⟩ := hN2 s hs
    obtain ⟨-, -, -, -, eC, -⟩ := hK.1
    refine hg_iload C 0 d_Rf_find_51 rfl ?_
    refine hg_iconst (v := 5) C d_Rf_find_53 (by decide) ?_
    refine hg_icmp_ge C 233 d_Rf_find_54 (by decide) (fun c54 => ?_) (fun c54 => ?_)
    · have c54n : 5 ≤ f := (nI_leI (a := 5) (b := f) (by omega) (by omega)).mp c54
      have hf5 : f = 5 := by omega
      subst hf5
      exact hg_lv (ks := [1, 2, 3, 4, 5, 6, 7, 8]) rfl (kx mv tv h hmv htv (by rw [← eK]; exact hR))
    · have c54n : ¬ 5 ≤ f := fun z => c54 (nI_le (a := 5) (b := f) z (by omega))
      refine hg_aload_n C 8 d_Rf_find_57 rfl rfl ?_
      refine f_Rf_24 C hR.1 rfl d_Rf_find_58 ?_
      refine hg_iconst (v := 5) C d_Rf_find_61 (by decide) ?_
      refine hg_iload_n C 5 d_Rf_find_62 rfl rfl ?_
      refine hg_imul C d_Rf_find_63 ?_
      refine hg_ti (show ((5 : Int32) : Int32) * nI (60 * bs N s + t) = nI (5 * (60 * bs N s + t)) from pk_mul 5 (60 * bs N s + t)) ?_
      refine hg_iload C 0 d_Rf_find_64 rfl ?_
      refine hg_iadd C d_Rf_find_66 ?_
      refine hg_ti (show (nI (5 * (60 * bs N s + t)) : Int32) + nI f = nI (5 * (60 * bs N s + t) + f) from nI_add (5 * (60 * bs N s + t)) f) ?_
      have b67 : 5 * (60 * bs N s + t) + f < 12000 := (by omega)
      refine hg_iald C 0 (hR.2.1 6 rfl) rfl (vp_in_nI (N := 12000) b67 (by omega)) d_Rf_find_67 ?_
      refine hg_ti (congrArg (K 6) (nI_clamp (n := 5 * (60 * bs N s + t) + f) (by omega))) ?_
      refine hg_ti (show K 6 (5 * (60 * bs N s + t) + f) = N 6 (5 * (60 * bs N s + t) + f) from hA.2.2.1 (5 * (60 * bs N s + t) + f) (by omega)) ?_
      refine hg_istore (lv' := [(9, .int (N 6 (5 * (60 * bs N s + t) + f))), (8, .int (nI f)), (7, .int tv), (6, .int mv), (5, .int (h_t N s t)), (4, .int (h_m N t)), (3, .int (nI (60 * bs N s + t))), (1, .int (nI s)), (2, .int (nI t)), (0, .ref r)]) C d_Rf_find_68 (by decide) rfl ?_
      refine hg_aload_n C 9 d_Rf_find_70 rfl rfl ?_
      refine f_Rf_24 C hR.1 rfl d_Rf_find_71 ?_
      refine hg_iconst (v := 5) C d_Rf_find_74 (by decide) ?_
      refine hg_aload_n C 9 d_Rf_find_75 rfl rfl ?_
      refine hg_iload_n C 8 d_Rf_find_76 rfl rfl ?_
      refine hg_VNv (q := ("ModelMergeModel", T_Rf, 31)) C (k_Rf_mine l Γ _ r aa K hR hK t (by omega)) (cw_Rf_133 C.2.2.2.2.1 rfl rfl ⟨Nat.le_of_ble_eq_true rfl, Nat.le_of_ble_eq_true rfl⟩) hR.1 rfl rfl rfl (Nat.le_of_ble_eq_true rfl) d_Rf_find_77 ⟨Nat.le_of_ble_eq_true rfl, Nat.le_of_ble_eq_true rfl⟩ (fun _ => ?_)
      refine hg_ti (show nI (60 * (nV K - 1) + t) = nI (60 * (nV N - 1) + t) by rw [hA.V]) ?_
      refine hg_imul C d_Rf_find_80 ?_
      refine hg_ti (show ((5 : Int32) : Int32) * nI (60 * (nV N - 1) + t) = nI (5 * (60 * (nV N - 1) + t)) from pk_mul 5 (60 * (nV N - 1) + t)) ?_
      refine hg_iload C 1 d_Rf_find_81 rfl ?_
      refine hg_iadd C d_Rf_find_83 ?_
      refine hg_ti (show (nI (5 * (60 * (nV N - 1) + t)) : Int32) + nI f = nI (5 * (60 * (nV N - 1) + t) + f) from nI_add (5 * (60 * (nV N - 1) + t)) f) ?_
      have b84 : 5 * (60 * (nV N - 1) + t) + f < 12000 := (by omega)
      refine hg_iald C 0 (hR.2.1 6 rfl) rfl (vp_in_nI (N := 12000) b84 (by omega)) d_Rf_find_84 ?_
      refine hg_ti (congrArg (K 6) (nI_clamp (n := 5 * (60 * (nV N - 1) + t) + f) (by omega))) ?_
      refine hg_ti (show K 6 (5 * (60 * (nV N - 1) + t) + f) = N 6 (5 * (60 * (nV N - 1) + t) + f) from hA.2.2.1 (5 * (60 * (nV N - 1) + t) + f) (by omega)) ?_
      refine hg_istore (lv' := [(10, .int (N 6 (5 * (60 * (nV N - 1) + t) + f))), (9, .int (N 6 (5 * (60 * bs N s + t) + f))), (8, .int (nI f)), (7, .int tv), (6, .int mv), (5, .int (h_t N s t)), (4, .int (h_m N t)), (3, .int (nI (60 * bs N s + t))), (1, .int (nI s)), (2, .int (nI t)), (0, .ref r)]) C d_Rf_find_85 (by decide) rfl ?_
      refine hg_aload_n C 10 d_Rf_find_87 rfl rfl ?_
      refine hg_iload_n C 8 d_Rf_find_88 rfl rfl ?_
      refine hg_iload_n C 9 d_Rf_find_89 rfl rfl ?_
      refine hg_iload C 2 d_Rf_find_90 rfl ?_
      refine hg_VNv (q := ("ModelMergeModel", T_Rf, 31)) C (k_Rf_here1 l Γ _ r aa K hR hK s t (by omega) (by omega) f (by omega) hZK) (cw_Rf_137 C.2.2.2.2.1 rfl rfl ⟨Nat.le_of_ble_eq_true rfl, Nat.le_of_ble_eq_true rfl⟩) hR.1 rfl rfl rfl (Nat.le_of_ble_eq_true rfl) d_Rf_find_92 ⟨Nat.le_of_ble_eq_true rfl, Nat.le_of_ble_eq_true rfl⟩ (fun _ => ?_)
      refine hg_ti (hA.qhr gb (by omega) (by omega)) ?_
      refine hg_istore (lv' := [(11, .int (stv N s (sd N s) t (f + 1))), (10, .int (N 6 (5 * (60 * (nV N - 1) + t) + f))), (9, .int (N 6 (5 * (60 * bs N s + t) + f))), (8, .int (nI f)), (7, .int tv), (6, .int mv), (5, .int (h_t N s t)), (4, .int (h_m N t)), (3, .int (nI (60 * bs N s + t))), (1, .int (nI s)), (2, .int (nI t)), (0, .ref r)]) C d_Rf_find_95 (by decide) rfl ?_
      refine hg_iload C 7 d_Rf_find_97 rfl ?_
      refine hg_if_eq C 113 d_Rf_find_99 (by decide) (fun c99 => ?_) (fun c99 => ?_)
      · refine hg_iconst (v := 0) C d_Rf_find_113 (by decide) ?_
        refine hg_istore (lv' := [(12, .int 0), (11, .int (stv N s (sd N s) t (f + 1))), (10, .int (N 6 (5 * (60 * (nV N - 1) + t) + f))), (9, .int (N 6 (5 * (60 * bs N s + t) + f))), (8, .int (nI f)), (7, .int tv), (6, .int mv), (5, .int (h_t N s t)), (4, .int (h_m N t)), (3, .int (nI (60 * bs N s + t))), (1, .int (nI s)), (2, .int (nI t)), (0, .ref r)]) C d_Rf_find_114 (by decide) rfl ?_
        refine hg_iload C 7 d_Rf_find_116 rfl ?_
        refine hg_if_eq C 132 d_Rf_find_118 (by decide) (fun c118 => ?_) (fun c118 => ?_)
        · refine hg_iconst (v := 0) C d_Rf_find_132 (by decide) ?_
          refine hg_istore (lv' := [(13, .int 0), (12, .int 0), (11, .int (stv N s (sd N s) t (f + 1))), (10, .int (N 6 (5 * (60 * (nV N - 1) + t) + f))), (9, .int (N 6 (5 * (60 * bs N s + t) + f))), (8, .int (nI f)), (7, .int tv), (6, .int mv), (5, .int (h_t N s t)), (4, .int (h_m N t)), (3, .int (nI (60 * bs N s + t))), (1, .int (nI s)), (2, .int (nI t)), (0, .ref r)]) C d_Rf_find_133 (by decide) rfl ?_
          refine hg_lv (ks := [0, 1, 2, 3, 4, 5, 6, 7, 8, 9, 10, 11, 12, 13]) rfl (ct_find_B l Γ C (r := r) (s := s) (O1 := fc1 N s t f) (W1 := fc2 N s t f) hmv htv (Or.inr ⟨rfl, fun z => z.1 c99⟩) (Or.inr ⟨rfl, fun z => z.1 c118⟩) (fun mv1 tv1 g1 g2 => ?_))
          refine ct_find_C l Γ C (O1 := fc1 N s t f) (W1 := fc2 N s t f) hR eC (by omega) (Or.inr ⟨rfl, fun z => z.1 c99⟩) (Or.inr ⟨rfl, fun z => z.1 c118⟩) (fun z h1 R1 => ?_) (fun z => ?_)
          · exact ih (f + 1) mv1 tv1 h1 (by omega) (by omega) (flag_of g1 ex_succ) (flag_of g2 ex_succ) (by rw [show m_fl N s t K0 (f + 1) = m_add (m_fl N s t K0 f) (nI t) (nI f) from if_pos z, ← eK]; exact R1)
          · exact ih (f + 1) mv1 tv1 h (by omega) (by omega) (flag_of g1 ex_succ) (flag_of g2 ex_succ) (by rw [show m_fl N s t K0 (f + 1) = m_fl N s t K0 f from if_neg z, ← eK]; exact hR)
        · refine hg_iload C 1 d_Rf_find_121 rfl ?_
          refine hg_iload C 3 d_Rf_find_123 rfl ?_
          refine hg_icmp_eq C 132 d_Rf_find_125 (by decide) (fun c125 => ?_) (fun c125 => ?_)
          · refine hg_iconst (v := 0) C d_Rf_find_132 (by decide) ?_
            refine hg_istore (lv' := [(13, .int 0), (12, .int 0), (11, .int (stv N s (sd N s) t (f + 1))), (10, .int (N 6 (5 * (60 * (nV N - 1) + t) + f))), (9, .int (N 6 (5 * (60 * bs N s + t) + f))), (8, .int (nI f)), (7, .int tv), (6, .int mv), (5, .int (h_t N s t)), (4, .int (h_m N t)), (3, .int (nI (60 * bs N s + t))), (1, .int (nI s)), (2, .int (nI t)), (0, .ref r)]) C d_Rf_find_133 (by decide) rfl ?_
            refine hg_lv (ks := [0, 1, 2, 3, 4, 5, 6, 7, 8, 9, 10, 11, 12, 13]) rfl (ct_find_B l Γ C (r := r) (s := s) (O1 := fc1 N s t f) (W1 := fc2 N s t f) hmv htv (Or.inr ⟨rfl, fun z => z.1 c99⟩) (Or.inr ⟨rfl, fun z => z.2 c125⟩) (fun mv1 tv1 g1 g2 => ?_))
            refine ct_find_C l Γ C (O1 := fc1 N s t f) (W1 := fc2 N s t f) hR eC (by omega) (Or.inr ⟨rfl, fun z => z.1 c99⟩) (Or.inr ⟨rfl, fun z => z.2 c125⟩) (fun z h1 R1 => ?_) (fun z => ?_)
            · exact ih (f + 1) mv1 tv1 h1 (by omega) (by omega) (flag_of g1 ex_succ) (flag_of g2 ex_succ) (by rw [show m_fl N s t K0 (f + 1) = m_add (m_fl N s t K0 f) (nI t) (nI f) from if_pos z, ← eK]; exact R1)
            · exact ih (f + 1) mv1 tv1 h (by omega) (by omega) (flag_of g1 ex_succ) (flag_of g2 ex_succ) (by rw [show m_fl N s t K0 (f + 1) = m_fl N s t K0 f from if_neg z, ← eK]; exact hR)
          · refine hg_iconst (v := 1) C d_Rf_find_128 (by decide) ?_
            refine hg_goto C 133 d_Rf_find_129 (by decide) ?_
            refine hg_istore (lv' := [(13, .int 1), (12, .int 0), (11, .int (stv N s (sd N s) t (f + 1))), (10, .int (N 6 (5 * (60 * (nV N - 1) + t) + f))), (9, .int (N 6 (5 * (60 * bs N s + t) + f))), (8, .int (nI f)), (7, .int tv), (6, .int mv), (5, .int (h_t N s t)), (4, .int (h_m N t)), (3, .int (nI (60 * bs N s + t))), (1, .int (nI s)), (2, .int (nI t)), (0, .ref r)]) C d_Rf_find_133 (by decide) rfl ?_
            refine hg_lv (ks := [0, 1, 2, 3, 4, 5, 6, 7, 8, 9, 10, 11, 12, 13]) rfl (ct_find_B l Γ C (r := r) (s := s) (O1 := fc1 N s t f) (W1 := fc2 N s t f) hmv htv (Or.inr ⟨rfl, fun z => z.1 c99⟩) (Or.inl ⟨rfl, c118, c125⟩) (fun mv1 tv1 g1 g2 => ?_))
            refine ct_find_C l Γ C (O1 := fc1 N s t f) (W1 := fc2 N s t f) hR eC (by omega) (Or.inr ⟨rfl, fun z => z.1 c99⟩) (Or.inl ⟨rfl, c118, c125⟩) (fun z h1 R1 => ?_) (fun z => ?_)
            · exact ih (f + 1) mv1 tv1 h1 (by omega) (by omega) (flag_of g1 ex_succ) (flag_of g2 ex_succ) (by rw [show m_fl N s t K0 (f + 1) = m_add (m_fl N s t K0 f) (nI t) (nI f) from if_pos z, ← eK]; exact R1)
            · exact ih (f + 1) mv1 tv1 h (by omega) (by omega) (flag_of g1 ex_succ) (flag_of g2 ex_succ) (by rw [show m_fl N s t K0 (f + 1) = m_fl N s t K0 f from if_neg z, ← eK]; exact hR)
      · refine hg_iload C 1 d_Rf_find_102 rfl ?_
        refine hg_iload C 2 d_Rf_find_104 rfl ?_
        refine hg_icmp_eq C 113 d_Rf_find_106 (by decide) (fun c106 => ?_) (fun c106 => ?_)
        · refine hg_iconst (v := 0) C d_Rf_find_113 (by decide) ?_
          refine hg_istore (lv' := [(12, .int 0), (11, .int (stv N s (sd N s) t (f + 1))), (10, .int (N 6 (5 * (60 * (nV N - 1) + t) + f))), (9, .int (N 6 (5 * (60 * bs N s + t) + f))), (8, .int (nI f)), (7, .int tv), (6, .int mv), (5, .int (h_t N s t)), (4, .int (h_m N t)), (3, .int (nI (60 * bs N s + t))), (1, .int (nI s)), (2, .int (nI t)), (0, .ref r)]) C d_Rf_find_114 (by decide) rfl ?_
          refine hg_iload C 7 d_Rf_find_116 rfl ?_
          refine hg_if_eq C 132 d_Rf_find_118 (by decide) (fun c118 => ?_) (fun c118 => ?_)
          · refine hg_iconst (v := 0) C d_Rf_find_132 (by decide) ?_
            refine hg_istore (lv' := [(13, .int 0), (12, .int 0), (11, .int (stv N s (sd N s) t (f + 1))), (10, .int (N 6 (5 * (60 * (nV N - 1) + t) + f))), (9, .int (N 6 (5 * (60 * bs N s + t) + f))), (8, .int (nI f)), (7, .int tv), (6, .int mv), (5, .int (h_t N s t)), (4, .int (h_m N t)), (3, .int (nI (60 * bs N s + t))), (1, .int (nI s)), (2, .int (nI t)), (0, .ref r)]) C d_Rf_find_133 (by decide) rfl ?_
            refine hg_lv (ks := [0, 1, 2, 3, 4, 5, 6, 7, 8, 9, 10, 11, 12, 13]) rfl (ct_find_B l Γ C (r := r) (s := s) (O1 := fc1 N s t f) (W1 := fc2 N s t f) hmv htv (Or.inr ⟨rfl, fun z => z.2 c106⟩) (Or.inr ⟨rfl, fun z => z.1 c118⟩) (fun mv1 tv1 g1 g2 => ?_))
            refine ct_find_C l Γ C (O1 := fc1 N s t f) (W1 := fc2 N s t f) hR eC (by omega) (Or.inr ⟨rfl, fun z => z.2 c106⟩) (Or.inr ⟨rfl, fun z => z.1 c118⟩) (fun z h1 R1 => ?_) (fun z => ?_)
            · exact ih (f + 1) mv1 tv1 h1 (by omega) (by omega) (flag_of g1 ex_succ) (flag_of g2 ex_succ) (by rw [show m_fl N s t K0 (f + 1) = m_add (m_fl N s t K0 f) (nI t) (nI f) from if_pos z, ← eK]; exact R1)
            · exact ih (f + 1) mv1 tv1 h (by omega) (by omega) (flag_of g1 ex_succ) (flag_of g2 ex_succ) (by rw [show m_fl N s t K0 (f + 1) = m_fl N s t K0 f from if_neg z, ← eK]; exact hR)
          · refine hg_iload C 1 d_Rf_find_121 rfl ?_
            refine hg_iload C 3 d_Rf_find_123 rfl ?_
            refine hg_icmp_eq C 132 d_Rf_find_125 (by decide) (fun c125 => ?_) (fun c125 => ?_)
            · refine hg_iconst (v := 0) C d_Rf_find_132 (by decide) ?_
              refine hg_istore (lv' := [(13, .int 0), (12, .int 0), (11, .int (stv N s (sd N s) t (f + 1))), (10, .int (N 6 (5 * (60 * (nV N - 1) + t) + f))), (9, .int (N 6 (5 * (60 * bs N s + t) + f))), (8, .int (nI f)), (7, .int tv), (6, .int mv), (5, .int (h_t N s t)), (4, .int (h_m N t)), (3, .int (nI (60 * bs N s + t))), (1, .int (nI s)), (2, .int (nI t)), (0, .ref r)]) C d_Rf_find_133 (by decide) rfl ?_
              refine hg_lv (ks := [0, 1, 2, 3, 4, 5, 6, 7, 8, 9, 10, 11, 12, 13]) rfl (ct_find_B l Γ C (r := r) (s := s) (O1 := fc1 N s t f) (W1 := fc2 N s t f) hmv htv (Or.inr ⟨rfl, fun z => z.2 c106⟩) (Or.inr ⟨rfl, fun z => z.2 c125⟩) (fun mv1 tv1 g1 g2 => ?_))
              refine ct_find_C l Γ C (O1 := fc1 N s t f) (W1 := fc2 N s t f) hR eC (by omega) (Or.inr ⟨rfl, fun z => z.2 c106⟩) (Or.inr ⟨rfl, fun z => z.2 c125⟩) (fun z h1 R1 => ?_) (fun z => ?_)
              · exact ih (f + 1) mv1 tv1 h1 (by omega) (by omega) (flag_of g1 ex_succ) (flag_of g2 ex_succ) (by rw [show m_fl N s t K0 (f + 1) = m_add (m_fl N s t K0 f) (nI t) (nI f) from if_pos z, ← eK]; exact R1)
              · exact ih (f + 1) mv1 tv1 h (by omega) (by omega) (flag_of g1 ex_succ) (flag_of g2 ex_succ) (by rw [show m_fl N s t K0 (f + 1) = m_fl N s t K0 f from if_neg z, ← eK]; exact hR)
            · refine hg_iconst (v := 1) C d_Rf_find_128 (by decide) ?_
              refine hg_goto C 133 d_Rf_find_129 (by decide) ?_
              refine hg_istore (lv' := [(13, .int 1), (12, .int 0), (11, .int (stv N s (sd N s) t (f + 1))), (10, .int (N 6 (5 * (60 * (nV N - 1) + t) + f))), (9, .int (N 6 (5 * (60 * bs N s + t) + f))), (8, .int (nI f)), (7, .int tv), (6, .int mv), (5, .int (h_t N s t)), (4, .int (h_m N t)), (3, .int (nI (60 * bs N s + t))), (1, .int (nI s)), (2, .int (nI t)), (0, .ref r)]) C d_Rf_find_133 (by decide) rfl ?_
              refine hg_lv (ks := [0, 1, 2, 3, 4, 5, 6, 7, 8, 9, 10, 11, 12, 13]) rfl (ct_find_B l Γ C (r := r) (s := s) (O1 := fc1 N s t f) (W1 := fc2 N s t f) hmv htv (Or.inr ⟨rfl, fun z => z.2 c106⟩) (Or.inl ⟨rfl, c118, c125⟩) (fun mv1 tv1 g1 g2 => ?_))
              refine ct_find_C l Γ C (O1 := fc1 N s t f) (W1 := fc2 N s t f) hR eC (by omega) (Or.inr ⟨rfl, fun z => z.2 c106⟩) (Or.inl ⟨rfl, c118, c125⟩) (fun z h1 R1 => ?_) (fun z => ?_)
              · exact ih (f + 1) mv1 tv1 h1 (by omega) (by omega) (flag_of g1 ex_succ) (flag_of g2 ex_succ) (by rw [show m_fl N s t K0 (f + 1) = m_add (m_fl N s t K0 f) (nI t) (nI f) from if_pos z, ← eK]; exact R1)
              · exact ih (f + 1) mv1 tv1 h (by omega) (by omega) (flag_of g1 ex_succ) (flag_of g2 ex_succ) (by rw [show m_fl N s t K0 (f + 1) = m_fl N s t K0 f from if_neg z, ← eK]; exact hR)
        · refine hg_iconst (v := 1) C d_Rf_find_109 (by decide) ?_
          refine hg_goto C 114 d_Rf_find_110 (by decide) ?_
          refine hg_istore (lv' := [(12, .int 1), (11, .int (stv N s (sd N s) t (f + 1))), (10, .int (N 6 (5 * (60 * (nV N - 1) + t) + f))), (9, .int (N 6 (5 * (60 * bs N s + t) + f))), (8, .int (nI f)), (7, .int tv), (6, .int mv), (5, .int (h_t N s t)), (4, .int (h_m N t)), (3, .int (nI (60 * bs N s + t))), (1, .int (nI s)), (2, .int (nI t)), (0, .ref r)]) C d_Rf_find_114 (by decide) rfl ?_
          refine hg_iload C 7 d_Rf_find_116 rfl ?_
          refine hg_if_eq C 132 d_Rf_find_118 (by decide) (fun c118 => ?_) (fun c118 => ?_)
          · refine hg_iconst (v := 0) C d_Rf_find_132 (by decide) ?_
            refine hg_istore (lv' := [(13, .int 0), (12, .int 1), (11, .int (stv N s (sd N s) t (f + 1))), (10, .int (N 6 (5 * (60 * (nV N - 1) + t) + f))), (9, .int (N 6 (5 * (60 * bs N s + t) + f))), (8, .int (nI f)), (7, .int tv), (6, .int mv), (5, .int (h_t N s t)), (4, .int (h_m N t)), (3, .int (nI (60 * bs N s + t))), (1, .int (nI s)), (2, .int (nI t)), (0, .ref r)]) C d_Rf_find_133 (by decide) rfl ?_
            refine hg_lv (ks := [0, 1, 2, 3, 4, 5, 6, 7, 8, 9, 10, 11, 12, 13]) rfl (ct_find_B l Γ C (r := r) (s := s) (O1 := fc1 N s t f) (W1 := fc2 N s t f) hmv htv (Or.inl ⟨rfl, c99, c106⟩) (Or.inr ⟨rfl, fun z => z.1 c118⟩) (fun mv1 tv1 g1 g2 => ?_))
            refine ct_find_C l Γ C (O1 := fc1 N s t f) (W1 := fc2 N s t f) hR eC (by omega) (Or.inl ⟨rfl, c99, c106⟩) (Or.inr ⟨rfl, fun z => z.1 c118⟩) (fun z h1 R1 => ?_) (fun z => ?_)
            · exact ih (f + 1) mv1 tv1 h1 (by omega) (by omega) (flag_of g1 ex_succ) (flag_of g2 ex_succ) (by rw [show m_fl N s t K0 (f + 1) = m_add (m_fl N s t K0 f) (nI t) (nI f) from if_pos z, ← eK]; exact R1)
            · exact ih (f + 1) mv1 tv1 h (by omega) (by omega) (flag_of g1 ex_succ) (flag_of g2 ex_succ) (by rw [show m_fl N s t K0 (f + 1) = m_fl N s t K0 f from if_neg z, ← eK]; exact hR)
          · refine hg_iload C 1 d_Rf_find_121 rfl ?_
            refine hg_iload C 3 d_Rf_find_123 rfl ?_
            refine hg_icmp_eq C 132 d_Rf_find_125 (by decide) (fun c125 => ?_) (fun c125 => ?_)
            · refine hg_iconst (v := 0) C d_Rf_find_132 (by decide) ?_
              refine hg_istore (lv' := [(13, .int 0), (12, .int 1), (11, .int (stv N s (sd N s) t (f + 1))), (10, .int (N 6 (5 * (60 * (nV N - 1) + t) + f))), (9, .int (N 6 (5 * (60 * bs N s + t) + f))), (8, .int (nI f)), (7, .int tv), (6, .int mv), (5, .int (h_t N s t)), (4, .int (h_m N t)), (3, .int (nI (60 * bs N s + t))), (1, .int (nI s)), (2, .int (nI t)), (0, .ref r)]) C d_Rf_find_133 (by decide) rfl ?_
              refine hg_lv (ks := [0, 1, 2, 3, 4, 5, 6, 7, 8, 9, 10, 11, 12, 13]) rfl (ct_find_B l Γ C (r := r) (s := s) (O1 := fc1 N s t f) (W1 := fc2 N s t f) hmv htv (Or.inl ⟨rfl, c99, c106⟩) (Or.inr ⟨rfl, fun z => z.2 c125⟩) (fun mv1 tv1 g1 g2 => ?_))
              refine ct_find_C l Γ C (O1 := fc1 N s t f) (W1 := fc2 N s t f) hR eC (by omega) (Or.inl ⟨rfl, c99, c106⟩) (Or.inr ⟨rfl, fun z => z.2 c125⟩) (fun z h1 R1 => ?_) (fun z => ?_)
              · exact ih (f + 1) mv1 tv1 h1 (by omega) (by omega) (flag_of g1 ex_succ) (flag_of g2 ex_succ) (by rw [show m_fl N s t K0 (f + 1) = m_add (m_fl N s t K0 f) (nI t) (nI f) from if_pos z, ← eK]; exact R1)
              · exact ih (f + 1) mv1 tv1 h (by omega) (by omega) (flag_of g1 ex_succ) (flag_of g2 ex_succ) (by rw [show m_fl N s t K0 (f + 1) = m_fl N s t K0 f from if_neg z, ← eK]; exact hR)
            · refine hg_iconst (v := 1) C d_Rf_find_128 (by decide) ?_
              refine hg_goto C 133 d_Rf_find_129 (by decide) ?_
              refine hg_istore (lv' := [(13, .int 1), (12, .int 1), (11, .int (stv N s (sd N s) t (f + 1))), (10, .int (N 6 (5 * (60 * (nV N - 1) + t) + f))), (9, .int (N 6 (5 * (60 * bs N s + t) + f))), (8, .int (nI f)), (7, .int tv), (6, .int mv), (5, .int (h_t N s t)), (4, .int (h_m N t)), (3, .int (nI (60 * bs N s + t))), (1, .int (nI s)), (2, .int (nI t)), (0, .ref r)]) C d_Rf_find_133 (by decide) rfl ?_
              refine hg_lv (ks := [0, 1, 2, 3, 4, 5, 6, 7, 8, 9, 10, 11, 12, 13]) rfl (ct_find_B l Γ C (r := r) (s := s) (O1 := fc1 N s t f) (W1 := fc2 N s t f) hmv htv (Or.inl ⟨rfl, c99, c106⟩) (Or.inl ⟨rfl, c118, c125⟩) (fun mv1 tv1 g1 g2 => ?_))
              refine ct_find_C l Γ C (O1 := fc1 N s t f) (W1 := fc2 N s t f) hR eC (by omega) (Or.inl ⟨rfl, c99, c106⟩) (Or.inl ⟨rfl, c118, c125⟩) (fun z h1 R1 => ?_) (fun z => ?_)
              · exact ih (f + 1) mv1 tv1 h1 (by omega) (by omega) (flag_of g1 ex_succ) (flag_of g2 ex_succ) (by rw [show m_fl N s t K0 (f + 1) = m_add (m_fl N s t K0 f) (nI t) (nI f) from if_pos z, ← eK]; exact R1)
              · exact ih (f + 1) mv1 tv1 h (by omega) (by omega) (flag_of g1 ex_succ) (flag_of g2 ex_succ) (by rw [show m_fl N s t K0 (f + 1) = m_fl N s t K0 f from if_neg z, ← eK]; exact hR)
set_option maxHeartbeats 4000000 in
set_option maxRecDepth 100000 in
theorem ct_find_D (l : Launch) (Γ : Gam) {p : Program} {e : Env} {s9 : State} {m : MethodId} {args : Array Value} {below : List Frame} {meth : Method} {c : Code} {A : Nat → Prop} (C : hp_C p s9 m args meth c b_Rf_find 14 "ModelMergeModel" w_Rf_find Γ.1 kcl (ktys Γ.2.1) (ksts Γ.2.2) knws A) {h : Pic} {r : Nat} {aa : Nat → Nat} {N M : Mem} (hN : Inv0 N) (hA0 : agr M N) (hK0 : Inv0 M) {s t : Nat} (hs : s < nS N) (htt : t < nT N) (hc : nC M + 5 ≤ 300) (hb0 : ¬ h_b N s t = 0) {mv tv : Int32} (hmv : flag mv (∃ f, f < 5 ∧ fc1 N s t f)) (htv : flag tv (∃ f, f < 5 ∧ fc2 N s t f)) (hR : rf_at Γ r aa (m_fl N s t M 5) h) (hr : meth.sig.returnType = none) : hp_G p l e rm_Rf_find s9 m args below meth c Γ.1 kcl A 14 (hp_NQ below Γ.1 kcl A (fun q u => q = none ∧ rf_at Γ r aa (m_find N s t M) u) args s9 0 0) 0 0 233 [(7, .int tv), (6, .int mv), (5, .int (h_t N s t)), (4, .int (h_m N t)), (3, .int (nI (60 * bs N s + t))), (1, .int (nI s)), (2, .int (nI t)), (0, .ref r)] [] h := by
  have hne : ¬ h_m N t = h_t N s t → nC (m_fl N s t M 5) < 300 := fun z => by
    have := hN.2.1
    rw [m_fl_none (by
      have b1 : h_m N t = 0 ∨ h_m N t = 1 := by
        rcases hN.2.2.2.2.2.2.2.1 (nV N - 1) (by have := hN.1.2.1.2.1; omega) t (by have := hN.1.1.2; omega) with y | y
        · exact Or.inr y.1
        · exact Or.inl y.1
      have b2 : h_t N s t = 0 ∨ h_t N s t = 1 := stv_bool hN hs (hN.2.1 s hs).2.1.2 (by have := hN.1.1.2; omega)
      rcases b1 with y | y
      · exact Or.inl y
      · rcases b2 with x | x
        · exact Or.inr x
        · exact absurd (y.trans x.symm) z)]
    omega
  obtain ⟨hA, hK, hCn⟩ := m_fl_ok (s := s) hN hA0 hK0 htt 5 (by omega) (by omega)
  obtain ⟨K, eK⟩ : ∃ z, z = m_fl N s t M 5 := ⟨_, rfl⟩
  rw [← eK] at hA hK hCn hR hne
  obtain ⟨-, -, -, -, eC, -⟩ := hK.1
  refine hg_iload C 3 d_Rf_find_233 rfl ?_
  refine hg_iload C 2 d_Rf_find_235 rfl ?_
  refine hg_icmp_eq C 298 d_Rf_find_237 (by decide) (fun c237 => ?_) (fun c237 => ?_)
  · exact hg_vretN C hr d_Rf_find_298 (Nat.le_of_ble_eq_true rfl) (Nat.le_of_ble_eq_true rfl) (⟨rfl, by rw [m_find, if_neg hb0, if_neg (fun z => z.1 c237), ← eK]; exact hR⟩)
  · have hC3 := hne c237
    refine hg_iload C 3 d_Rf_find_240 rfl ?_
    refine hg_if_eq C 253 d_Rf_find_242 (by decide) (fun c242 => ?_) (fun c242 => ?_)
    · refine hg_iload C 0 d_Rf_find_253 rfl ?_
      refine hg_if_eq C 298 d_Rf_find_255 (by decide) (fun c255 => ?_) (fun c255 => ?_)
      · exact hg_vretN C hr d_Rf_find_298 (Nat.le_of_ble_eq_true rfl) (Nat.le_of_ble_eq_true rfl) (⟨rfl, by rw [m_find, if_neg hb0, if_neg (fun z => z.2.elim (fun y => y.1 c242) (fun y => flag_0 htv c255 y.2)), ← eK]; exact hR⟩)
      · refine hg_aload_n C 7 d_Rf_find_258 rfl rfl ?_
        refine f_Rf_81 C hR.1 rfl d_Rf_find_259 ?_
        refine hg_aload_n C 7 d_Rf_find_262 rfl rfl ?_
        refine f_Rf_141 C hR.1 rfl d_Rf_find_263 ?_
        refine hg_ti eC ?_
        refine hg_iload_n C 6 d_Rf_find_266 rfl rfl ?_
        have b267 : nC K < 300 := (by omega)
        refine hg_iast C 0 (hR.2.1 28 rfl) rfl (vp_in_nI (N := 300) b267 (by omega)) d_Rf_find_267 ?_
        obtain ⟨h1, eh1⟩ : ∃ z, z = hp_up h (aa 28) (.inl (Γ.2.1 0, 300, .inl (upd (K 28) (nI (nC K) : Int32).toNatClampNeg (nI t)))) := ⟨_, rfl⟩
        refine hg_eq eh1.symm ?_
        have R3 : rf_at Γ r aa (mset K 28 (nC K) (nI t)) h1 := by rw [eh1]; rw [nI_clamp (n := nC K) (by omega)]; exact rf_put hR 28 (nC K) (nI t) rfl
        obtain ⟨M2, eM2⟩ : ∃ z, z = mset K 28 (nC K) (nI t) := ⟨_, rfl⟩
        rw [← eM2] at R3
        refine hg_aload_n C 7 d_Rf_find_268 rfl rfl ?_
        refine f_Rf_84 C R3.1 rfl d_Rf_find_269 ?_
        refine hg_aload_n C 7 d_Rf_find_272 rfl rfl ?_
        refine f_Rf_141 C R3.1 rfl d_Rf_find_273 ?_
        refine hg_ti (show M2 27 0 = K 27 0 by rw [eM2, mset_n (by decide)]) ?_
        refine hg_ti eC ?_
        refine hg_iconst (v := (-1)) C d_Rf_find_276 (by decide) ?_
        have b277 : nC K < 300 := (by omega)
        refine hg_iast C 0 (R3.2.1 29 rfl) rfl (vp_in_nI (N := 300) b277 (by omega)) d_Rf_find_277 ?_
        obtain ⟨h4, eh4⟩ : ∃ z, z = hp_up h1 (aa 29) (.inl (Γ.2.1 0, 300, .inl (upd (M2 29) (nI (nC K) : Int32).toNatClampNeg (-1)))) := ⟨_, rfl⟩
        refine hg_eq eh4.symm ?_
        have R6 : rf_at Γ r aa (mset M2 29 (nC K) (-1)) h4 := by rw [eh4]; rw [nI_clamp (n := nC K) (by omega)]; exact rf_put R3 29 (nC K) (-1) rfl
        obtain ⟨M5, eM5⟩ : ∃ z, z = mset M2 29 (nC K) (-1) := ⟨_, rfl⟩
        rw [← eM5] at R6
        refine hg_aload_n C 7 d_Rf_find_278 rfl rfl ?_
        refine f_Rf_87 C R6.1 rfl d_Rf_find_279 ?_
        refine hg_aload_n C 7 d_Rf_find_282 rfl rfl ?_
        refine f_Rf_141 C R6.1 rfl d_Rf_find_283 ?_
        refine hg_ti (show M5 27 0 = K 27 0 by rw [eM5, mset_n (by decide), eM2, mset_n (by decide)]) ?_
        refine hg_ti eC ?_
        refine hg_iconst (v := (-1)) C d_Rf_find_286 (by decide) ?_
        have b287 : nC K < 300 := (by omega)
        refine hg_iast C 0 (R6.2.1 30 rfl) rfl (vp_in_nI (N := 300) b287 (by omega)) d_Rf_find_287 ?_
        obtain ⟨h7, eh7⟩ : ∃ z, z = hp_up h4 (aa 30) (.inl (Γ.2.1 0, 300, .inl (upd (M5 30) (nI (nC K) : Int32).toNatClampNeg (-1)))) := ⟨_, rfl⟩
        refine hg_eq eh7.symm ?_
        have R9 : rf_at Γ r aa (mset M5 30 (nC K) (-1)) h7 := by rw [eh7]; rw [nI_clamp (n := nC K) (by omega)]; exact rf_put R6 30 (nC K) (-1) rfl
        obtain ⟨M8, eM8⟩ : ∃ z, z = mset M5 30 (nC K) (-1) := ⟨_, rfl⟩
        rw [← eM8] at R9
        refine hg_aload_n C 7 d_Rf_find_288 rfl rfl ?_
        refine hg_dup C d_Rf_find_289 rfl ?_
        refine f_Rf_141 C R9.1 rfl d_Rf_find_290 ?_
        refine hg_ti (show M8 27 0 = K 27 0 by rw [eM8, mset_n (by decide), eM5, mset_n (by decide), eM2, mset_n (by decide)]) ?_
        refine hg_ti eC ?_
        refine hg_iconst (v := 1) C d_Rf_find_293 (by decide) ?_
        refine hg_iadd C d_Rf_find_294 ?_
        refine hg_ti (show (nI (nC K) : Int32) + (1 : Int32) = nI (nC K + 1) from nI_add (nC K) 1) ?_
        refine p_Rf_141 (fs' := rf_fs aa (mset M8 27 0 (nI (nC K + 1)))) C R9.1 rfl rfl (Nat.le_of_ble_eq_true rfl) rfl d_Rf_find_295 ?_
        obtain ⟨h10, eh10⟩ : ∃ z, z = hp_up h7 r (.inr (7, rf_fs aa (mset M8 27 0 (nI (nC K + 1))))) := ⟨_, rfl⟩
        refine hg_eq eh10.symm ?_
        have R12 : rf_at Γ r aa (mset M8 27 0 (nI (nC K + 1))) h10 := by rw [eh10]; exact rf_set R9 27 (nI (nC K + 1)) rfl
        obtain ⟨M11, eM11⟩ : ∃ z, z = mset M8 27 0 (nI (nC K + 1)) := ⟨_, rfl⟩
        rw [← eM11] at R12
        exact hg_vretN C hr d_Rf_find_298 (Nat.le_of_ble_eq_true rfl) (Nat.le_of_ble_eq_true rfl) (⟨rfl, by rw [m_find, if_neg hb0, if_pos ⟨c237, Or.inr ⟨c242, flag_1 htv c255⟩⟩, ← eK]; rw [eM11, eM8, eM5, eM2] at R12; exact R12⟩)
    · refine hg_iload C 1 d_Rf_find_245 rfl ?_
      refine hg_if_eq C 298 d_Rf_find_247 (by decide) (fun c247 => ?_) (fun c247 => ?_)
      · exact hg_vretN C hr d_Rf_find_298 (Nat.le_of_ble_eq_true rfl) (Nat.le_of_ble_eq_true rfl) (⟨rfl, by rw [m_find, if_neg hb0, if_neg (fun z => z.2.elim (fun y => flag_0 hmv c247 y.2) (fun y => c242 y.1)), ← eK]; exact hR⟩)
      · refine hg_goto C 258 d_Rf_find_250 (by decide) ?_
        refine hg_aload_n C 7 d_Rf_find_258 rfl rfl ?_
        refine f_Rf_81 C hR.1 rfl d_Rf_find_259 ?_
        refine hg_aload_n C 7 d_Rf_find_262 rfl rfl ?_
        refine f_Rf_141 C hR.1 rfl d_Rf_find_263 ?_
        refine hg_ti eC ?_
        refine hg_iload_n C 6 d_Rf_find_266 rfl rfl ?_
        have b267 : nC K < 300 := (by omega)
        refine hg_iast C 0 (hR.2.1 28 rfl) rfl (vp_in_nI (N := 300) b267 (by omega)) d_Rf_find_267 ?_
        obtain ⟨h13, eh13⟩ : ∃ z, z = hp_up h (aa 28) (.inl (Γ.2.1 0, 300, .inl (upd (K 28) (nI (nC K) : Int32).toNatClampNeg (nI t)))) := ⟨_, rfl⟩
        refine hg_eq eh13.symm ?_
        have R15 : rf_at Γ r aa (mset K 28 (nC K) (nI t)) h13 := by rw [eh13]; rw [nI_clamp (n := nC K) (by omega)]; exact rf_put hR 28 (nC K) (nI t) rfl
        obtain ⟨M14, eM14⟩ : ∃ z, z = mset K 28 (nC K) (nI t) := ⟨_, rfl⟩
        rw [← eM14] at R15
        refine hg_aload_n C 7 d_Rf_find_268 rfl rfl ?_
        refine f_Rf_84 C R15.1 rfl d_Rf_find_269 ?_
        refine hg_aload_n C 7 d_Rf_find_272 rfl rfl ?_
        refine f_Rf_141 C R15.1 rfl d_Rf_find_273 ?_
        refine hg_ti (show M14 27 0 = K 27 0 by rw [eM14, mset_n (by decide)]) ?_
        refine hg_ti eC ?_
        refine hg_iconst (v := (-1)) C d_Rf_find_276 (by decide) ?_
        have b277 : nC K < 300 := (by omega)
        refine hg_iast C 0 (R15.2.1 29 rfl) rfl (vp_in_nI (N := 300) b277 (by omega)) d_Rf_find_277 ?_
        obtain ⟨h16, eh16⟩ : ∃ z, z = hp_up h13 (aa 29) (.inl (Γ.2.1 0, 300, .inl (upd (M14 29) (nI (nC K) : Int32).toNatClampNeg (-1)))) := ⟨_, rfl⟩
        refine hg_eq eh16.symm ?_
        have R18 : rf_at Γ r aa (mset M14 29 (nC K) (-1)) h16 := by rw [eh16]; rw [nI_clamp (n := nC K) (by omega)]; exact rf_put R15 29 (nC K) (-1) rfl
        obtain ⟨M17, eM17⟩ : ∃ z, z = mset M14 29 (nC K) (-1) := ⟨_, rfl⟩
        rw [← eM17] at R18
        refine hg_aload_n C 7 d_Rf_find_278 rfl rfl ?_
        refine f_Rf_87 C R18.1 rfl d_Rf_find_279 ?_
        refine hg_aload_n C 7 d_Rf_find_282 rfl rfl ?_
        refine f_Rf_141 C R18.1 rfl d_Rf_find_283 ?_
        refine hg_ti (show M17 27 0 = K 27 0 by rw [eM17, mset_n (by decide), eM14, mset_n (by decide)]) ?_
        refine hg_ti eC ?_
        refine hg_iconst (v := (-1)) C d_Rf_find_286 (by decide) ?_
        have b287 : nC K < 300 := (by omega)
        refine hg_iast C 0 (R18.2.1 30 rfl) rfl (vp_in_nI (N := 300) b287 (by omega)) d_Rf_find_287 ?_
        obtain ⟨h19, eh19⟩ : ∃ z, z = hp_up h16 (aa 30) (.inl (Γ.2.1 0, 300, .inl (upd (M17 30) (nI (nC K) : Int32).toNatClampNeg (-1)))) := ⟨_, rfl⟩
        refine hg_eq eh19.symm ?_
        have R21 : rf_at Γ r aa (mset M17 30 (nC K) (-1)) h19 := by rw [eh19]; rw [nI_clamp (n := nC K) (by omega)]; exact rf_put R18 30 (nC K) (-1) rfl
        obtain ⟨M20, eM20⟩ : ∃ z, z = mset M17 30 (nC K) (-1) := ⟨_, rfl⟩
        rw [← eM20] at R21
        refine hg_aload_n C 7 d_Rf_find_288 rfl rfl ?_
        refine hg_dup C d_Rf_find_289 rfl ?_
        refine f_Rf_141 C R21.1 rfl d_Rf_find_290 ?_
        refine hg_ti (show M20 27 0 = K 27 0 by rw [eM20, mset_n (by decide), eM17, mset_n (by decide), eM14, mset_n (by decide)]) ?_
        refine hg_ti eC ?_
        refine hg_iconst (v := 1) C d_Rf_find_293 (by decide) ?_
        refine hg_iadd C d_Rf_find_294 ?_
        refine hg_ti (show (nI (nC K) : Int32) + (1 : Int32) = nI (nC K + 1) from nI_add (nC K) 1) ?_
        refine p_Rf_141 (fs' := rf_fs aa (mset M20 27 0 (nI (nC K + 1)))) C R21.1 rfl rfl (Nat.le_of_ble_eq_true rfl) rfl d_Rf_find_295 ?_
        obtain ⟨h22, eh22⟩ : ∃ z, z = hp_up h19 r (.inr (7, rf_fs aa (mset M20 27 0 (nI (nC K + 1))))) := ⟨_, rfl⟩
        refine hg_eq eh22.symm ?_
        have R24 : rf_at Γ r aa (mset M20 27 0 (nI (nC K + 1))) h22 := by rw [eh22]; exact rf_set R21 27 (nI (nC K + 1)) rfl
        obtain ⟨M23, eM23⟩ : ∃ z, z = mset M20 27 0 (nI (nC K + 1)) := ⟨_, rfl⟩
        rw [← eM23] at R24
        exact hg_vretN C hr d_Rf_find_298 (Nat.le_of_ble_eq_true rfl) (Nat.le_of_ble_eq_true rfl) (⟨rfl, by rw [m_find, if_neg hb0, if_pos ⟨c237, Or.inl ⟨c242, flag_1 hmv c247⟩⟩, ← eK]; rw [eM23, eM20, eM17, eM14] at R24; exact R24⟩)
set_option maxHeartbeats 4000000 in
set_option maxRecDepth 100000 in
theorem k_Rf_find (l : Launch) (Γ : Gam) (h : Pic) (r : Nat) (aa : Nat → Nat) (M : Mem) (hR : rf_at Γ r aa M h) (hI : Inv0 M) (N : Mem) (hN : Inv0 N) (hZ : I_zer N) (hA : agr M N) (s t : Nat) (hs : s < nS N) (htt : t < nT N) (hc : nC M + 5 ≤ 300) : kN l Γ y_Rf_find w_Rf_find rm_Rf_find [.ref r, .int (nI s), .int (nI t)] h (fun q u => q = none ∧ rf_at Γ r aa (m_find N s t M) u) 0 0 := by
  refine hg_entryN (own := "ModelMergeModel") (cc := b_Rf_find) (maxL := 14) (ret := none) (lv0 := [(0, .ref r), (1, .int (nI s)), (2, .int (nI t))]) (by decide) rfl rfl (Nat.le_of_ble_eq_true rfl) rfl ?_
  intro p9 e9 s9 m9 args below meth c9 A C hnm hr
  have qS := hA.S
  have qT := hA.T
  have qV := hA.V
  obtain ⟨⟨⟨fT, gT⟩, ⟨fV, gV1, gV⟩, ⟨fS, gS⟩, ⟨fR, gR⟩, ⟨fC, gC⟩⟩, hN2, -⟩ := id hN
  obtain ⟨⟨f11, gb⟩, ⟨f12, gsd⟩, ⟨f13, gnm⟩, glf⟩ := hN2 s hs
  obtain ⟨-, -, -, -, eC, -⟩ := hI.1
  refine hg_bipush (v := 60) C d_Rf_find_0 (by decide) ?_
  refine hg_aload_n C 0 d_Rf_find_2 rfl rfl ?_
  refine f_Rf_36 C hR.1 rfl d_Rf_find_3 ?_
  refine hg_iload_n C 1 d_Rf_find_6 rfl rfl ?_
  have b7 : s < 20 := (by omega)
  refine hg_iald C 0 (hR.2.1 11 rfl) rfl (vp_in_nI (N := 20) b7 (by omega)) d_Rf_find_7 ?_
  refine hg_ti (congrArg (M 11) (nI_clamp (n := s) (by omega))) ?_
  refine hg_ti (show M 11 s = N 11 s from congrFun (hA.1 11 (by decide) (by decide)) s) ?_
  refine hg_ti f11 ?_
  refine hg_imul C d_Rf_find_8 ?_
  refine hg_ti (show ((60 : Int32) : Int32) * nI (bs N s) = nI (60 * bs N s) from pk_mul 60 (bs N s)) ?_
  refine hg_iload_n C 2 d_Rf_find_9 rfl rfl ?_
  refine hg_iadd C d_Rf_find_10 ?_
  refine hg_ti (show (nI (60 * bs N s) : Int32) + nI t = nI (60 * bs N s + t) from nI_add (60 * bs N s) t) ?_
  refine hg_istore_n (lv' := [(3, .int (nI (60 * bs N s + t))), (0, .ref r), (1, .int (nI s)), (2, .int (nI t))]) C d_Rf_find_11 rfl (by decide) rfl ?_
  refine hg_aload_n C 1 d_Rf_find_12 rfl rfl ?_
  refine f_Rf_20 C hR.1 rfl d_Rf_find_13 ?_
  refine hg_aload_n C 1 d_Rf_find_16 rfl rfl ?_
  refine hg_iload_n C 3 d_Rf_find_17 rfl rfl ?_
  refine hg_VNv (q := ("ModelMergeModel", T_Rf, 31)) C (k_Rf_mine l Γ _ r aa M hR hI t (by omega)) (cw_Rf_133 C.2.2.2.2.1 rfl rfl ⟨Nat.le_of_ble_eq_true rfl, Nat.le_of_ble_eq_true rfl⟩) hR.1 rfl rfl rfl (Nat.le_of_ble_eq_true rfl) d_Rf_find_18 ⟨Nat.le_of_ble_eq_true rfl, Nat.le_of_ble_eq_true rfl⟩ (fun _ => ?_)
  refine hg_ti (show nI (60 * (nV M - 1) + t) = nI (60 * (nV N - 1) + t) by rw [hA.V]) ?_
  have b21 : 60 * (nV N - 1) + t < 2400 := (by omega)
  refine hg_zald C 2 (hR.2.1 5 rfl) rfl (vp_in_nI (N := 2400) b21 (by omega)) d_Rf_find_21 ?_
  refine hg_ti (congrArg (M 5) (nI_clamp (n := 60 * (nV N - 1) + t) (by omega))) ?_
  refine hg_ti (show M 5 (60 * (nV N - 1) + t) = N 5 (60 * (nV N - 1) + t) from hA.2.1 (60 * (nV N - 1) + t) (by omega)) ?_
  refine hg_istore (lv' := [(4, .int (N 5 (60 * (nV N - 1) + t))), (3, .int (nI (60 * bs N s + t))), (0, .ref r), (1, .int (nI s)), (2, .int (nI t))]) C d_Rf_find_22 (by decide) rfl ?_
  refine hg_aload_n C 2 d_Rf_find_24 rfl rfl ?_
  refine hg_iload_n C 3 d_Rf_find_25 rfl rfl ?_
  refine hg_iload_n C 4 d_Rf_find_26 rfl rfl ?_
  refine hg_VNv (q := ("ModelMergeModel", T_Rf, 31)) C (k_Rf_isHere l Γ _ r aa M hR hI s t (by omega) (by omega)) (cw_Rf_123 C.2.2.2.2.1 rfl rfl ⟨Nat.le_of_ble_eq_true rfl, Nat.le_of_ble_eq_true rfl⟩) hR.1 rfl rfl rfl (Nat.le_of_ble_eq_true rfl) d_Rf_find_27 ⟨Nat.le_of_ble_eq_true rfl, Nat.le_of_ble_eq_true rfl⟩ (fun _ => ?_)
  refine hg_ti (hA.qhr gb (by omega) (by omega)) ?_
  refine hg_istore (lv' := [(5, .int (stv N s (sd N s) t 0)), (4, .int (N 5 (60 * (nV N - 1) + t))), (3, .int (nI (60 * bs N s + t))), (0, .ref r), (1, .int (nI s)), (2, .int (nI t))]) C d_Rf_find_30 (by decide) rfl ?_
  refine hg_aload_n C 3 d_Rf_find_32 rfl rfl ?_
  refine f_Rf_20 C hR.1 rfl d_Rf_find_33 ?_
  refine hg_iload_n C 2 d_Rf_find_36 rfl rfl ?_
  have b37 : 60 * bs N s + t < 2400 := (by omega)
  refine hg_zald C 2 (hR.2.1 5 rfl) rfl (vp_in_nI (N := 2400) b37 (by omega)) d_Rf_find_37 ?_
  refine hg_ti (congrArg (M 5) (nI_clamp (n := 60 * bs N s + t) (by omega))) ?_
  refine hg_ti (show M 5 (60 * bs N s + t) = N 5 (60 * bs N s + t) from hA.2.1 (60 * bs N s + t) (by omega)) ?_
  refine hg_if_ne C 42 d_Rf_find_38 (by decide) (fun c38 => ?_) (fun c38 => ?_)
  · refine hg_iconst (v := 0) C d_Rf_find_42 (by decide) ?_
    refine hg_istore (lv' := [(6, .int 0), (5, .int (stv N s (sd N s) t 0)), (4, .int (N 5 (60 * (nV N - 1) + t))), (3, .int (nI (60 * bs N s + t))), (0, .ref r), (1, .int (nI s)), (2, .int (nI t))]) C d_Rf_find_43 (by decide) rfl ?_
    refine hg_iconst (v := 0) C d_Rf_find_45 (by decide) ?_
    refine hg_istore (lv' := [(7, .int 0), (6, .int 0), (5, .int (stv N s (sd N s) t 0)), (4, .int (N 5 (60 * (nV N - 1) + t))), (3, .int (nI (60 * bs N s + t))), (0, .ref r), (1, .int (nI s)), (2, .int (nI t))]) C d_Rf_find_46 (by decide) rfl ?_
    refine hg_iconst (v := 0) C d_Rf_find_48 (by decide) ?_
    refine hg_istore (lv' := [(8, .int 0), (7, .int 0), (6, .int 0), (5, .int (stv N s (sd N s) t 0)), (4, .int (N 5 (60 * (nV N - 1) + t))), (3, .int (nI (60 * bs N s + t))), (0, .ref r), (1, .int (nI s)), (2, .int (nI t))]) C d_Rf_find_49 (by decide) rfl ?_
    refine hg_lv (ks := [0, 1, 2, 3, 4, 5, 7, 8, 6]) rfl (lp_Rf_find l Γ C hN hZ hA hI hs htt hc (fun mv tv h hmv htv hR => ?_) 6 0 0 0 _ (by omega) (by omega) (Or.inr ⟨rfl, fun z => by obtain ⟨k, h1, -⟩ := z; omega⟩) (Or.inr ⟨rfl, fun z => by obtain ⟨k, h1, -⟩ := z; omega⟩) hR)
    exact ct_find_D l Γ C hN hA hI hs htt hc c38 hmv htv hR hr
  · exact hg_vretN C hr d_Rf_find_41 (Nat.le_of_ble_eq_true rfl) (Nat.le_of_ble_eq_true rfl) (⟨rfl, by rw [m_find, if_pos (show h_b N s t = 0 from c38)]; exact hR⟩)
