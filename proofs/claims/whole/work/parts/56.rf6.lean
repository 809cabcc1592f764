/-! THE REFERENCE, sixth part: the conflicts of a joining -/
/-- K is N but for conflicts and versions to come -/
def agr (K N : Mem) : Prop := (∀ j, j < 27 → j ∉ [5, 6, 7] → K j = N j) ∧ (∀ i, i < 60 * nV N → K 5 i = N 5 i) ∧ (∀ i, i < 300 * nV N → K 6 i = N 6 i) ∧ ∀ i, i < 300 * nV N → K 7 i = N 7 i
theorem agr_rf {N : Mem} : agr N N := ⟨fun _ _ _ => rfl, fun _ _ => rfl, fun _ _ => rfl, fun _ _ => rfl⟩
theorem agr.V {K N : Mem} (h : agr K N) : nV K = nV N := by unfold nV; rw [h.1 4 (by decide) (by decide)]
theorem agr.T {K N : Mem} (h : agr K N) : nT K = nT N := by unfold nT; rw [h.1 1 (by decide) (by decide)]
theorem agr.S {K N : Mem} (h : agr K N) : nS K = nS N := by unfold nS; rw [h.1 9 (by decide) (by decide)]
theorem agr.R {K N : Mem} (h : agr K N) : nR K = nR N := by unfold nR; rw [h.1 22 (by decide) (by decide)]
theorem agr.qb {K N : Mem} (h : agr K N) (s : Nat) : bs K s = bs N s := by unfold bs; rw [h.1 11 (by decide) (by decide)]
theorem agr.qd {K N : Mem} (h : agr K N) (s : Nat) : sd K s = sd N s := by unfold sd; rw [h.1 12 (by decide) (by decide)]
theorem agr.qm {K N : Mem} (h : agr K N) (s : Nat) : nm K s = nm N s := by unfold nm; rw [h.1 13 (by decide) (by decide)]
theorem agr.qf {K N : Mem} (h : agr K N) (i : Nat) : bf K i = bf N i := by unfold bf; rw [h.1 16 (by decide) (by decide)]
theorem agr.hit {K N : Mem} (h : agr K N) (i t g : Nat) : m_hit K i t g ↔ m_hit N i t g := by
  unfold m_hit
  rw [h.1 18 (by decide) (by decide), h.1 19 (by decide) (by decide), h.1 20 (by decide) (by decide)]
theorem agr.new {K N : Mem} (h : agr K N) (i : Nat) : m_new K i = m_new N i := by
  unfold m_new
  rw [h.1 18 (by decide) (by decide), h.1 21 (by decide) (by decide)]
theorem agr.qsv {K N : Mem} (h : agr K N) {s t g : Nat} (hb : bs N s < nV N) (ht : t < 60) (hg : g < 6) : ∀ n k, sv K s t g n k = sv N s t g n k
  | 0, k => by
    show m_base K s t g = m_base N s t g
    unfold m_base
    rw [h.qb]
    by_cases g0 : g = 0
    · rw [if_pos g0, if_pos g0, h.2.1 _ (by omega)]
    · rw [if_neg g0, if_neg g0, h.2.2.1 _ (by omega)]
  | n + 1, k => by
    have e0 : m_base K s t g = m_base N s t g := agr.qsv h hb ht hg 0 k
    by_cases hk : k = 0
    · rw [hk, sv_0, sv_0, e0]
    · by_cases hh : m_hit N (60 * s + k) t g
      · rw [sv_hit hk hh, sv_hit hk ((h.hit _ _ _).mpr hh), h.new]
      · rw [sv_no hk hh, sv_no hk (fun z => hh ((h.hit _ _ _).mp z)), h.qf, agr.qsv h hb ht hg n]
theorem agr.qst {K N : Mem} (h : agr K N) {s k t g : Nat} (hb : bs N s < nV N) (ht : t < 60) (hg : g < 6) : stv K s k t g = stv N s k t g := agr.qsv h hb ht hg 60 k
theorem agr.qhr {K N : Mem} (h : agr K N) {s t g : Nat} (hb : bs N s < nV N) (ht : t < 60) (hg : g < 6) : stv K s (sd K s) t g = stv N s (sd N s) t g := by rw [h.qd, h.qst hb ht hg]
theorem agr.inv {K N : Mem} (h : agr K N) (hN : Inv0 N) (hc : K 27 0 = nI (nC K) ∧ nC K ≤ 300) (hcon : I_con K) : Inv0 K := by
  obtain ⟨⟨i1, i2, i3, i4, -⟩, hses, hdef, hmom, hlat, hpen, -, hver, hnew, hthg, hrul⟩ := hN
  refine ⟨⟨?_, ?_, ?_, ?_, hc⟩, ?_, ?_, ?_, ?_, ?_, hcon, ?_, trivial, ?_, ?_⟩
  · rw [h.T, h.1 1 (by decide) (by decide)]; exact i1
  · rw [h.V, h.1 4 (by decide) (by decide)]; exact i2
  · rw [h.S, h.1 9 (by decide) (by decide)]; exact i3
  · rw [h.R, h.1 22 (by decide) (by decide)]; exact i4
  · intro s hs; rw [h.S] at hs; rw [h.qb, h.qd, h.qm, h.V, h.1 11 (by decide) (by decide), h.1 12 (by decide) (by decide), h.1 13 (by decide) (by decide), h.1 14 (by decide) (by decide)]; exact hses s hs
  · intro s hs; rw [h.S] at hs; rw [h.1 12 (by decide) (by decide), h.1 14 (by decide) (by decide)]; exact hdef s hs
  · intro s hs; rw [h.S] at hs; rw [h.qm, h.T, h.1 16 (by decide) (by decide), h.1 18 (by decide) (by decide), h.1 19 (by decide) (by decide), h.1 20 (by decide) (by decide)]; refine ⟨(hmom s hs).1, fun k h1 h2 => ?_⟩; rw [h.qf]; exact (hmom s hs).2 k h1 h2
  · intro s hs k hk; rw [h.S] at hs; rw [h.qm] at hk ⊢; rw [h.1 17 (by decide) (by decide)]
    rcases hlat s hs k hk with z | ⟨j, z1, z2, z3, z4⟩
    · exact Or.inl z
    · exact Or.inr ⟨j, z1, z2, z3, by rw [h.qf]; exact z4⟩
  · unfold I_pen; rw [h.1 26 (by decide) (by decide), h.S, h.V, h.1 14 (by decide) (by decide)]; exact hpen
  · intro v hv t ht; rw [h.V] at hv; rw [h.T, h.2.1 _ (by omega)]
    rcases hver v hv t ht with z | ⟨z1, z2⟩
    · exact Or.inl z
    · exact Or.inr ⟨z1, fun f hf => by rw [h.2.2.1 _ (by omega)]; exact z2 f hf⟩
  · intro t ht; rw [h.T] at ht; rw [h.1 3 (by decide) (by decide), h.1 2 (by decide) (by decide)]; exact hthg t ht
  · intro t ht; rw [h.R] at ht; rw [h.1 23 (by decide) (by decide), h.1 24 (by decide) (by decide), h.1 25 (by decide) (by decide)]; exact hrul t ht
theorem agr.zer {K N : Mem} (h : agr K N) (hN : Inv0 N) (hZ : I_zer N) : I_zer K := by
  intro s hs k h1 h2 h3 t ht h4 f hf
  rw [h.S] at hs
  rw [h.qm] at h2
  rw [h.1 18 (by decide) (by decide)] at h3
  rw [h.1 19 (by decide) (by decide)] at h4
  rw [h.qf, h.qst (hN.2.1 s hs).1.2 ht (by omega)]
  exact hZ s hs k h1 h2 h3 t ht h4 f hf
/-- which side a conflict has been settled for: the last one of that thing and field -/
def c_sd (M : Mem) (t f : Int32) : Nat → Int32
  | 0 => -1
  | k + 1 => if M 28 k = t ∧ M 29 k = f then M 30 k else c_sd M t f k
abbrev rm_Rf_sideOf : Room := { frames := 0, cells := 0, slots := 0, locals := 0 }
set_option maxHeartbeats 4000000 in
set_option maxRecDepth 100000 in
theorem lp_Rf_sideOf (l : Launch) (Γ : Gam) {p : Program} {e : Env} {s9 : State} {m : MethodId} {args : Array Value} {below : List Frame} {meth : Method} {c : Code} {A : Nat → Prop} (C : hp_C p s9 m args meth c b_Rf_sideOf 5 "ModelMergeModel" w_Rf_sideOf Γ.1 kcl (ktys Γ.2.1) (ksts Γ.2.2) knws A) {h : Pic} {r : Nat} {aa : Nat → Nat} {M : Mem} (hR : rf_at Γ r aa M h) (hI : Inv0 M) {t f : Int32} (hr : meth.sig.returnType = some .int)  :
    ∀ (n9 : Nat) (k : Nat), (k ≤ nC M) → (nC M + 1 ≤ k + n9) → hp_G p l e rm_Rf_sideOf s9 m args below meth c Γ.1 kcl A 5 (hp_NQ below Γ.1 kcl A (pv (.int (c_sd M t f (nC M))) h True) args s9 0 0) 0 0 5 [(4, .int (nI k)), (3, .int (c_sd M t f k)), (1, .int t), (2, .int f), (0, .ref r)] [] h := by
  intro n9
  induction n9 with
  | zero =>
    intro k hk hm
    exact absurd hm (by omega)
  | succ n9 ih =>
    intro k hk hm
    obtain ⟨⟨⟨eT, hT⟩, ⟨eV, hV1, hV⟩, ⟨eS, hS⟩, ⟨eR, hRR⟩, ⟨eC, hC⟩⟩, hI2, -⟩ := id hI
    refine hg_iload C 0 d_Rf_sideOf_5 rfl ?_
    refine hg_aload_n C 4 d_Rf_sideOf_7 rfl rfl ?_
    refine f_Rf_141 C hR.1 rfl d_Rf_sideOf_8 ?_
    refine hg_ti eC ?_
    refine hg_icmp_ge C 54 d_Rf_sideOf_11 (by decide) (fun c11 => ?_) (fun c11 => ?_)
    · have c11n : nC M ≤ k := (nI_leI (a := (nC M)) (b := k) (by omega) (by omega)).mp c11
      refine hg_iload_n C 1 d_Rf_sideOf_54 rfl rfl ?_
      exact hg_iretN C hr rfl d_Rf_sideOf_55 (Nat.le_of_ble_eq_true rfl) (Nat.le_of_ble_eq_true rfl) (⟨by rw [show k = nC M by omega], rfl, trivial⟩)
    · have c11n : ¬ nC M ≤ k := fun z => c11 (nI_le (a := (nC M)) (b := k) z (by omega))
      refine hg_aload_n C 4 d_Rf_sideOf_14 rfl rfl ?_
      refine f_Rf_81 C hR.1 rfl d_Rf_sideOf_15 ?_
      refine hg_iload C 0 d_Rf_sideOf_18 rfl ?_
      have b20 : k < 300 := (by omega)
      refine hg_iald C 0 (hR.2.1 28 rfl) rfl (vp_in_nI (N := 300) b20 (by omega)) d_Rf_sideOf_20 ?_
      refine hg_ti (congrArg (M 28) (nI_clamp (n := k) (by omega))) ?_
      refine hg_iload_n C 2 d_Rf_sideOf_21 rfl rfl ?_
      refine hg_icmp_ne C 46 d_Rf_sideOf_22 (by decide) (fun c22 => ?_) (fun c22 => ?_)
      · refine hg_iload_n C 1 d_Rf_sideOf_46 rfl rfl ?_
        refine hg_istore_n (lv' := [(3, .int (c_sd M t f k)), (4, .int (nI k)), (1, .int t), (2, .int f), (0, .ref r)]) C d_Rf_sideOf_47 rfl (by decide) rfl ?_
        refine hg_iinc (v := nI (k + 1)) (lv' := [(4, .int (nI (k + 1))), (3, .int (c_sd M t f k)), (1, .int t), (2, .int f), (0, .ref r)]) C 1 d_Rf_sideOf_48 rfl (nI_1 k) (by decide) rfl ?_
        refine hg_goto C 5 d_Rf_sideOf_51 (by decide) ?_
        have ih1 := ih (k + 1) (by omega) (by omega)
        rw [show c_sd M t f (k + 1) = c_sd M t f k from if_neg (fun z => c22 z.1)] at ih1
        exact hg_lv (ks := [0, 1, 2, 3, 4]) rfl ih1
      · refine hg_aload_n C 4 d_Rf_sideOf_25 rfl rfl ?_
        refine f_Rf_84 C hR.1 rfl d_Rf_sideOf_26 ?_
        refine hg_iload C 0 d_Rf_sideOf_29 rfl ?_
        have b31 : k < 300 := (by omega)
        refine hg_iald C 0 (hR.2.1 29 rfl) rfl (vp_in_nI (N := 300) b31 (by omega)) d_Rf_sideOf_31 ?_
        refine hg_ti (congrArg (M 29) (nI_clamp (n := k) (by omega))) ?_
        refine hg_iload_n C 3 d_Rf_sideOf_32 rfl rfl ?_
        refine hg_icmp_ne C 46 d_Rf_sideOf_33 (by decide) (fun c33 => ?_) (fun c33 => ?_)
        · refine hg_iload_n C 1 d_Rf_sideOf_46 rfl rfl ?_
          refine hg_istore_n (lv' := [(3, .int (c_sd M t f k)), (4, .int (nI k)), (1, .int t), (2, .int f), (0, .ref r)]) C d_Rf_sideOf_47 rfl (by decide) rfl ?_
          refine hg_iinc (v := nI (k + 1)) (lv' := [(4, .int (nI (k + 1))), (3, .int (c_sd M t f k)), (1, .int t), (2, .int f), (0, .ref r)]) C 1 d_Rf_sideOf_48 rfl (nI_1 k) (by decide) rfl ?_
          refine hg_goto C 5 d_Rf_sideOf_51 (by decide) ?_
          have ih1 := ih (k + 1) (by omega) (by omega)
          rw [show c_sd M t f (k + 1) = c_sd M t f k from if_neg (fun z => c33 z.2)] at ih1
          exact hg_lv (ks := [0, 1, 2, 3, 4]) rfl ih1
        · refine hg_aload_n C 4 d_Rf_sideOf_36 rfl rfl ?_
          refine f_Rf_87 C hR.1 rfl d_Rf_sideOf_37 ?_
          refine hg_iload C 0 d_Rf_sideOf_40 rfl ?_
          have b42 : k < 300 := (by omega)
          refine hg_iald C 0 (hR.2.1 30 rfl) rfl (vp_in_nI (N := 300) b42 (by omega)) d_Rf_sideOf_42 ?_
          refine hg_ti (congrArg (M 30) (nI_clamp (n := k) (by omega))) ?_
          refine hg_goto C 47 d_Rf_sideOf_43 (by decide) ?_
          refine hg_istore_n (lv' := [(3, .int (M 30 k)), (4, .int (nI k)), (1, .int t), (2, .int f), (0, .ref r)]) C d_Rf_sideOf_47 rfl (by decide) rfl ?_
          refine hg_iinc (v := nI (k + 1)) (lv' := [(4, .int (nI (k + 1))), (3, .int (M 30 k)), (1, .int t), (2, .int f), (0, .ref r)]) C 1 d_Rf_sideOf_48 rfl (nI_1 k) (by decide) rfl ?_
          refine hg_goto C 5 d_Rf_sideOf_51 (by decide) ?_
          have ih1 := ih (k + 1) (by omega) (by omega)
          rw [show c_sd M t f (k + 1) = M 30 k from if_pos ⟨c22, c33⟩] at ih1
          exact hg_lv (ks := [0, 1, 2, 3, 4]) rfl ih1
set_option maxHeartbeats 4000000 in
set_option maxRecDepth 100000 in
theorem k_Rf_sideOf (l : Launch) (Γ : Gam) (h : Pic) (r : Nat) (aa : Nat → Nat) (M : Mem) (hR : rf_at Γ r aa M h) (hI : Inv0 M) (t f : Int32) : kN l Γ y_Rf_sideOf w_Rf_sideOf rm_Rf_sideOf [.ref r, .int t, .int f] h (pv (.int (c_sd M t f (nC M))) h True) 0 0 := by
  refine hg_entryN (own := "ModelMergeModel") (cc := b_Rf_sideOf) (maxL := 5) (ret := (some .int)) (lv0 := [(0, .ref r), (1, .int t), (2, .int f)]) (by decide) rfl rfl (Nat.le_of_ble_eq_true rfl) rfl ?_
  intro p9 e9 s9 m9 args below meth c9 A C hnm hr
  obtain ⟨⟨⟨eT, hT⟩, ⟨eV, hV1, hV⟩, ⟨eS, hS⟩, ⟨eR, hRR⟩, ⟨eC, hC⟩⟩, hI2, -⟩ := id hI
  refine hg_iconst (v := (-1)) C d_Rf_sideOf_0 (by decide) ?_
  refine hg_istore_n (lv' := [(3, .int (-1)), (0, .ref r), (1, .int t), (2, .int f)]) C d_Rf_sideOf_1 rfl (by decide) rfl ?_
  refine hg_iconst (v := 0) C d_Rf_sideOf_2 (by decide) ?_
  refine hg_istore (lv' := [(4, .int 0), (3, .int (-1)), (0, .ref r), (1, .int t), (2, .int f)]) C d_Rf_sideOf_3 (by decide) rfl ?_
  exact hg_lv (ks := [0, 1, 3, 4, 2]) rfl (lp_Rf_sideOf l Γ C hR hI hr (nC M + 1) 0 (by omega) (by omega))
