/-! THE CLASS: findFieldConflicts, findConflicts -/
abbrev rm_MM_findFieldConflicts : Room := { frames := 2, cells := 0, slots := 0, locals := 43 }
set_option maxHeartbeats 4000000 in
set_option maxRecDepth 100000 in
theorem lp_MM_ffc (l : Launch) (Γ : Gam) {p : Program} {e : Env} {s9 : State} {m : MethodId} {args : Array Value} {below : List Frame} {meth : Method} {c : Code} {A : Nat → Prop} (C : hp_C p s9 m args meth c b_MM_findFieldConflicts 9 "ModelMerge" w_MM_findFieldConflicts Γ.1 kcl (ktys Γ.2.1) (ksts Γ.2.2) knws A) {ad : Nat → Nat → Nat} {N : Mem} (hN : Inv0 N) {s : Nat} (hs : s < nS N) {K : Mem} {t : Nat} (ht : t < nT N) (hm0 : ¬ h_m N t = 0) (ht0 : ¬ h_t N s t = 0) (hKc : nC K + 5 ≤ 300) (hr : meth.sig.returnType = none)  :
    ∀ (n9 : Nat) (f : Nat) (h : Pic) (M : Mem), (cr_at Γ ad M h) → (Inv0 M) → (lo M N) → (M = m_fl N s t K f) → (nC M ≤ nC K + f) → (f ≤ 5) → (5 + 1 ≤ f + n9) → hp_G p l e rm_MM_findFieldConflicts s9 m args below meth c Γ.1 kcl A 9 (hp_NQ below Γ.1 kcl A (fun r u => r = none ∧ cr_at Γ ad (m_fl N s t K 5) u) args s9 0 0) 0 0 3 [(5, .int (nI f)), (1, .ref (ad 15 (bs N s))), (2, .ref (ad 15 (nV N - 1))), (3, .ref (ad 11 s)), (4, .int (nI t)), (0, .ref (ad 0 0))] [] h := by
  intro n9
  induction n9 with
  | zero =>
    intro f h M hC hI hlo hM hnc hf hm
    exact absurd hm (by omega)
  | succ n9 ih =>
    intro f h M hC hI hlo hM hnc hf hm
    have kx : h (ad 0 0) = some (.inr (6, [.ref (ad 1 0), .ref (ad 2 0), .int (M 1 0), .ref (ad 3 0), .int (M 9 0), .ref (ad 4 0), .int (M 4 0), .ref (ad 14 (nV M - 1)), .ref (ad 5 0), .int (M 22 0), .ref (ad 6 0), cr_pen ad M])) := hC.1 0 0 (liv0 (by omega))
    have kA1 : h (ad 1 0) = some (.inl ((Γ.2.1 0), 60, .inl (M 2))) := hC.1 1 0 (liv0 (by omega))
    have kA2 : h (ad 2 0) = some (.inl ((Γ.2.1 0), 60, .inl (M 3))) := hC.1 2 0 (liv0 (by omega))
    have kA3 : h (ad 3 0) = some (.inl ((Γ.2.1 3), 20, .inr (.inr (.inr (.inr (fun j => if j < nS M then some (ad 10 j) else none)))))) := hC.1 3 0 (liv0 (by omega))
    have kA4 : h (ad 4 0) = some (.inl ((Γ.2.1 4), 40, .inr (.inr (.inr (.inr (fun j => if j < nV M then some (ad 14 j) else none)))))) := hC.1 4 0 (liv0 (by omega))
    have kA5 : h (ad 5 0) = some (.inl ((Γ.2.1 5), 10, .inr (.inr (.inr (.inr (fun j => if j < nR M then some (ad 18 j) else none)))))) := hC.1 5 0 (liv0 (by omega))
    have kA6 : h (ad 6 0) = some (.inr (0, [.ref (ad 7 0), .ref (ad 8 0), .ref (ad 9 0), .int (M 27 0)])) := hC.1 6 0 (liv0 (by omega))
    have kA7 : h (ad 7 0) = some (.inl ((Γ.2.1 0), 300, .inl (M 28))) := hC.1 7 0 (liv0 (by omega))
    have kA8 : h (ad 8 0) = some (.inl ((Γ.2.1 0), 300, .inl (M 29))) := hC.1 8 0 (liv0 (by omega))
    have kA9 : h (ad 9 0) = some (.inl ((Γ.2.1 0), 300, .inl (M 30))) := hC.1 9 0 (liv0 (by omega))
    obtain ⟨⟨⟨eT, hT⟩, ⟨eV, hV1, hV⟩, ⟨eS, hS⟩, ⟨eR, hRR⟩, ⟨eC, hCn⟩⟩, hI2, hI3, hI4, hI5, hI6, hI7, hI8, -, hI10, hI11⟩ := id hI
    have qV : nV M = nV N := hlo.agr.V
    have qT : nT M = nT N := hlo.agr.T
    have qS : nS M = nS N := hlo.agr.S
    have hbN : bs N s < nV N := (hN.2.1 s hs).1.2
    have hV1N := hN.1.2.1.2.1
    have hTN := hN.1.1.2
    have kw_b : h (ad 15 (bs N s)) = some (.inr (4, [.ref (ad 16 (bs N s))])) := by exact hC.1 15 (bs N s) (livV (by omega) (by omega) (by omega))
    have ky_b : h (ad 16 (bs N s)) = some (.inl ((Γ.2.1 0), 360, .inl (vc N (bs N s)))) := by rw [← hlo.qvc]; exact hC.1 16 (bs N s) (livV (by omega) (by omega) (by omega))
    have kw_l : h (ad 15 (nV N - 1)) = some (.inr (4, [.ref (ad 16 (nV N - 1))])) := by exact hC.1 15 (nV N - 1) (livV (by omega) (by omega) (by omega))
    have ky_l : h (ad 16 (nV N - 1)) = some (.inl ((Γ.2.1 0), 360, .inl (vc N (nV N - 1)))) := by rw [← hlo.qvc]; exact hC.1 16 (nV N - 1) (livV (by omega) (by omega) (by omega))
    have kt_s : h (ad 11 s) = some (.inr (4, [.ref (ad 12 s)])) := by exact hC.1 11 s (livS (by omega) (by omega) (by omega))
    have ku_s : h (ad 12 s) = some (.inl ((Γ.2.1 0), 360, .inl (sc N s))) := by rw [← hlo.qsc]; exact hC.1 12 s (livS (by omega) (by omega) (by omega))
    refine hg_iload C 0 d_MM_findFieldConflicts_3 rfl ?_
    refine hg_iconst (v := 5) C d_MM_findFieldConflicts_5 (by decide) ?_
    refine hg_icmp_ge C 77 d_MM_findFieldConflicts_6 (by decide) (fun c6 => ?_) (fun c6 => ?_)
    · have c6n : 5 ≤ f := (nI_leI (a := 5) (b := f) (by omega) (by omega)).mp c6
      exact hg_vretN C hr d_MM_findFieldConflicts_77 (Nat.le_of_ble_eq_true rfl) (Nat.le_of_ble_eq_true rfl) (⟨rfl, by rw [show (5 : Nat) = f by omega, ← hM]; exact hC⟩)
    · have c6n : ¬ 5 ≤ f := fun z => c6 (nI_le (a := 5) (b := f) z (by omega))
      refine hg_aload_n C 1 d_MM_findFieldConflicts_9 rfl rfl ?_
      refine hg_iload C 4 d_MM_findFieldConflicts_10 rfl ?_
      refine hg_iload C 0 d_MM_findFieldConflicts_12 rfl ?_
      refine hg_VNv (q := ("ModelMerge$State", T_St, 1)) C (k_St_value l Γ _ (ad 15 (bs N s)) (ad 16 (bs N s)) (vc N (bs N s)) kw_b ky_b (nI t) (nI f)) (cw_MM_151 C.2.2.2.2.1 rfl rfl ⟨Nat.le_of_ble_eq_true rfl, Nat.le_of_ble_eq_true rfl⟩) kw_b rfl rfl rfl (Nat.le_of_ble_eq_true rfl) d_MM_findFieldConflicts_14 ⟨Nat.le_of_ble_eq_true rfl, Nat.le_of_ble_eq_true rfl⟩ (fun _ => ?_)
      refine hg_istore (lv' := [(6, .int (s_val (vc N (bs N s)) (nI t) (nI f))), (5, .int (nI f)), (1, .ref (ad 15 (bs N s))), (2, .ref (ad 15 (nV N - 1))), (3, .ref (ad 11 s)), (4, .int (nI t)), (0, .ref (ad 0 0))]) C d_MM_findFieldConflicts_17 (by decide) rfl ?_
      refine hg_aload_n C 3 d_MM_findFieldConflicts_19 rfl rfl ?_
      refine hg_iload C 5 d_MM_findFieldConflicts_20 rfl ?_
      refine hg_iload C 1 d_MM_findFieldConflicts_22 rfl ?_
      refine hg_VNv (q := ("ModelMerge$State", T_St, 1)) C (k_St_value l Γ _ (ad 15 (nV N - 1)) (ad 16 (nV N - 1)) (vc N (nV N - 1)) kw_l ky_l (nI t) (nI f)) (cw_MM_151 C.2.2.2.2.1 rfl rfl ⟨Nat.le_of_ble_eq_true rfl, Nat.le_of_ble_eq_true rfl⟩) kw_l rfl rfl rfl (Nat.le_of_ble_eq_true rfl) d_MM_findFieldConflicts_24 ⟨Nat.le_of_ble_eq_true rfl, Nat.le_of_ble_eq_true rfl⟩ (fun _ => ?_)
      refine hg_istore (lv' := [(7, .int (s_val (vc N (nV N - 1)) (nI t) (nI f))), (6, .int (s_val (vc N (bs N s)) (nI t) (nI f))), (5, .int (nI f)), (1, .ref (ad 15 (bs N s))), (2, .ref (ad 15 (nV N - 1))), (3, .ref (ad 11 s)), (4, .int (nI t)), (0, .ref (ad 0 0))]) C d_MM_findFieldConflicts_27 (by decide) rfl ?_
      refine hg_aload_n C 5 d_MM_findFieldConflicts_29 rfl rfl ?_
      refine hg_iload C 6 d_MM_findFieldConflicts_30 rfl ?_
      refine hg_iload C 2 d_MM_findFieldConflicts_32 rfl ?_
      refine hg_VNv (q := ("ModelMerge$State", T_St, 1)) C (k_St_value l Γ _ (ad 11 s) (ad 12 s) (sc N s) kt_s ku_s (nI t) (nI f)) (cw_MM_151 C.2.2.2.2.1 rfl rfl ⟨Nat.le_of_ble_eq_true rfl, Nat.le_of_ble_eq_true rfl⟩) kt_s rfl rfl rfl (Nat.le_of_ble_eq_true rfl) d_MM_findFieldConflicts_34 ⟨Nat.le_of_ble_eq_true rfl, Nat.le_of_ble_eq_true rfl⟩ (fun _ => ?_)
      refine hg_istore (lv' := [(8, .int (s_val (sc N s) (nI t) (nI f))), (7, .int (s_val (vc N (nV N - 1)) (nI t) (nI f))), (6, .int (s_val (vc N (bs N s)) (nI t) (nI f))), (5, .int (nI f)), (1, .ref (ad 15 (bs N s))), (2, .ref (ad 15 (nV N - 1))), (3, .ref (ad 11 s)), (4, .int (nI t)), (0, .ref (ad 0 0))]) C d_MM_findFieldConflicts_37 (by decide) rfl ?_
      refine hg_iload C 1 d_MM_findFieldConflicts_39 rfl ?_
      refine hg_iload C 2 d_MM_findFieldConflicts_41 rfl ?_
      refine hg_icmp_eq C 71 d_MM_findFieldConflicts_43 (by decide) (fun c43 => ?_) (fun c43 => ?_)
      · refine hg_iinc (v := nI (f + 1)) (lv' := [(5, .int (nI (f + 1))), (8, .int (s_val (sc N s) (nI t) (nI f))), (7, .int (s_val (vc N (nV N - 1)) (nI t) (nI f))), (6, .int (s_val (vc N (bs N s)) (nI t) (nI f))), (1, .ref (ad 15 (bs N s))), (2, .ref (ad 15 (nV N - 1))), (3, .ref (ad 11 s)), (4, .int (nI t)), (0, .ref (ad 0 0))]) C 3 d_MM_findFieldConflicts_71 rfl (nI_1 f) (by decide) rfl ?_
        refine hg_goto C 3 d_MM_findFieldConflicts_74 (by decide) ?_
        exact hg_lv (ks := [0, 4, 5, 6, 7, 8]) rfl (ih (f + 1) h M hC hI hlo (by rw [m_fl, if_neg (fun z => z.1.2 (by rw [vc_f (by omega) (by omega), vc_f (by omega) (by omega)] at c43; exact c43))]; exact hM) (by omega) (by omega) (by omega))
      · refine hg_iload C 0 d_MM_findFieldConflicts_46 rfl ?_
        refine hg_iload C 2 d_MM_findFieldConflicts_48 rfl ?_
        refine hg_icmp_eq C 71 d_MM_findFieldConflicts_50 (by decide) (fun c50 => ?_) (fun c50 => ?_)
        · refine hg_iinc (v := nI (f + 1)) (lv' := [(5, .int (nI (f + 1))), (8, .int (s_val (sc N s) (nI t) (nI f))), (7, .int (s_val (vc N (nV N - 1)) (nI t) (nI f))), (6, .int (s_val (vc N (bs N s)) (nI t) (nI f))), (1, .ref (ad 15 (bs N s))), (2, .ref (ad 15 (nV N - 1))), (3, .ref (ad 11 s)), (4, .int (nI t)), (0, .ref (ad 0 0))]) C 3 d_MM_findFieldConflicts_71 rfl (nI_1 f) (by decide) rfl ?_
          refine hg_goto C 3 d_MM_findFieldConflicts_74 (by decide) ?_
          exact hg_lv (ks := [0, 4, 5, 6, 7, 8]) rfl (ih (f + 1) h M hC hI hlo (by rw [m_fl, if_neg (fun z => z.2.1.2 (by rw [sc_f (by omega) (by omega), vc_f (by omega) (by omega)] at c50; exact c50))]; exact hM) (by omega) (by omega) (by omega))
        · refine hg_iload C 1 d_MM_findFieldConflicts_53 rfl ?_
          refine hg_iload C 0 d_MM_findFieldConflicts_55 rfl ?_
          refine hg_icmp_eq C 71 d_MM_findFieldConflicts_57 (by decide) (fun c57 => ?_) (fun c57 => ?_)
          · refine hg_iinc (v := nI (f + 1)) (lv' := [(5, .int (nI (f + 1))), (8, .int (s_val (sc N s) (nI t) (nI f))), (7, .int (s_val (vc N (nV N - 1)) (nI t) (nI f))), (6, .int (s_val (vc N (bs N s)) (nI t) (nI f))), (1, .ref (ad 15 (bs N s))), (2, .ref (ad 15 (nV N - 1))), (3, .ref (ad 11 s)), (4, .int (nI t)), (0, .ref (ad 0 0))]) C 3 d_MM_findFieldConflicts_71 rfl (nI_1 f) (by decide) rfl ?_
            refine hg_goto C 3 d_MM_findFieldConflicts_74 (by decide) ?_
            exact hg_lv (ks := [0, 4, 5, 6, 7, 8]) rfl (ih (f + 1) h M hC hI hlo (by rw [m_fl, if_neg (fun z => z.2.2 (by rw [vc_f (by omega) (by omega), sc_f (by omega) (by omega)] at c57; exact c57))]; exact hM) (by omega) (by omega) (by omega))
          · refine hg_aload_n C 8 d_MM_findFieldConflicts_60 rfl rfl ?_
            refine f_MM_50 C kx rfl d_MM_findFieldConflicts_61 ?_
            refine hg_iload C 7 d_MM_findFieldConflicts_64 rfl ?_
            refine hg_iload C 3 d_MM_findFieldConflicts_66 rfl ?_
            have kC6 : h (ad 6 0) = some (.inr (0, [.ref (ad 7 0), .ref (ad 8 0), .ref (ad 9 0), .int (nI (nC M))])) := by rw [← eC]; exact kA6
            refine hg_VNz (q := ("ModelMerge$Conflicts", T_Cf, 4)) C (k_Cf_add l Γ _ (ad 6 0) (ad 7 0) (ad 8 0) (ad 9 0) (M 28) (M 29) (M 30) (nC M) (by omega) (fun z => absurd (hC.2 7 0 8 0 (liv0 (by omega)) (liv0 (by omega)) z).1 (by decide)) (fun z => absurd (hC.2 7 0 9 0 (liv0 (by omega)) (liv0 (by omega)) z).1 (by decide)) (fun z => absurd (hC.2 8 0 9 0 (liv0 (by omega)) (liv0 (by omega)) z).1 (by decide)) kC6 kA7 kA8 kA9 (nI t) (nI f)) (cw_MM_270 C.2.2.2.2.1 rfl rfl ⟨Nat.le_of_ble_eq_true rfl, Nat.le_of_ble_eq_true rfl⟩) kA6 rfl rfl rfl (Nat.le_of_ble_eq_true rfl) d_MM_findFieldConflicts_68 ⟨Nat.le_of_ble_eq_true rfl, Nat.le_of_ble_eq_true rfl⟩ (fun u eu => ?_)
            have hCu := cr_add hC eu
            refine hg_iinc (v := nI (f + 1)) (lv' := [(5, .int (nI (f + 1))), (8, .int (s_val (sc N s) (nI t) (nI f))), (7, .int (s_val (vc N (nV N - 1)) (nI t) (nI f))), (6, .int (s_val (vc N (bs N s)) (nI t) (nI f))), (1, .ref (ad 15 (bs N s))), (2, .ref (ad 15 (nV N - 1))), (3, .ref (ad 11 s)), (4, .int (nI t)), (0, .ref (ad 0 0))]) C 3 d_MM_findFieldConflicts_71 rfl (nI_1 f) (by decide) rfl ?_
            refine hg_goto C 3 d_MM_findFieldConflicts_74 (by decide) ?_
            exact hg_lv (ks := [0, 4, 5, 6, 7, 8]) rfl (ih (f + 1) u (m_add M (nI t) (nI f)) hCu (m_add_inv hN hlo.agr hI (by omega) ht (Or.inr ⟨f, by omega, rfl⟩)) (hlo.add _ _) (by rw [hM, m_fl, if_pos ⟨⟨hm0, fun z => c43 (by rw [vc_f (by omega) (by omega), vc_f (by omega) (by omega)]; exact z)⟩, ⟨ht0, fun z => c50 (by rw [sc_f (by omega) (by omega), vc_f (by omega) (by omega)]; exact z)⟩, fun z => c57 (by rw [vc_f (by omega) (by omega), sc_f (by omega) (by omega)]; exact z)⟩]) (by rw [m_add_C (by omega)]; omega) (by omega) (by omega))
theorem lo_rf {M : Mem} : lo M M := fun _ _ => rfl
set_option maxHeartbeats 4000000 in
set_option maxRecDepth 100000 in
theorem k_MM_findFieldConflicts (l : Launch) (Γ : Gam) (h : Pic) (ad : Nat → Nat → Nat) (N : Mem) (hN : Inv0 N) (s : Nat) (hs : s < nS N) (M : Mem) (hC : cr_at Γ ad M h) (hI : Inv0 M) (hlo : lo M N) (t : Nat) (ht : t < nT N) (hm0 : ¬ h_m N t = 0) (ht0 : ¬ h_t N s t = 0) (hKc : nC M + 5 ≤ 300) : kN l Γ y_MM_findFieldConflicts w_MM_findFieldConflicts rm_MM_findFieldConflicts [.ref (ad 0 0), .ref (ad 15 (bs N s)), .ref (ad 15 (nV N - 1)), .ref (ad 11 s), .int (nI t)] h (fun r u => r = none ∧ cr_at Γ ad (m_fl N s t M 5) u) 0 0 := by
  refine hg_entryN (own := "ModelMerge") (cc := b_MM_findFieldConflicts) (maxL := 9) (ret := none) (lv0 := [(0, .ref (ad 0 0)), (1, .ref (ad 15 (bs N s))), (2, .ref (ad 15 (nV N - 1))), (3, .ref (ad 11 s)), (4, .int (nI t))]) (by decide) rfl rfl (Nat.le_of_ble_eq_true rfl) rfl ?_
  intro p e s9 m args below meth c A C hnm hr
  refine hg_iconst (v := 0) C d_MM_findFieldConflicts_0 (by decide) ?_
  refine hg_istore (lv' := [(5, .int 0), (0, .ref (ad 0 0)), (1, .ref (ad 15 (bs N s))), (2, .ref (ad 15 (nV N - 1))), (3, .ref (ad 11 s)), (4, .int (nI t))]) C d_MM_findFieldConflicts_1 (by decide) rfl ?_
  exact hg_lv (ks := [0, 2, 3, 4, 5, 1]) rfl (lp_MM_ffc l Γ C hN hs ht hm0 ht0 hKc hr 6 0 h M hC hI hlo rfl (by omega) (by omega) (by omega))
abbrev rm_MM_findConflicts : Room := { frames := 4, cells := 0, slots := 0, locals := 89 }
set_option maxHeartbeats 4000000 in
set_option maxRecDepth 100000 in
theorem lp_MM_fc (l : Launch) (Γ : Gam) {p : Program} {e : Env} {s9 : State} {m : MethodId} {args : Array Value} {below : List Frame} {meth : Method} {c : Code} {A : Nat → Prop} (C : hp_C p s9 m args meth c b_MM_findConflicts 6 "ModelMerge" w_MM_findConflicts Γ.1 kcl (ktys Γ.2.1) (ksts Γ.2.2) knws A) {ad : Nat → Nat → Nat} {N : Mem} (hN : Inv0 N) {s : Nat} (hs : s < nS N) (hmk : ∀ t, t < nT N → h_b N s t = 0 → ¬ h_t N s t = 0 → h_m N t = 0) (hr : meth.sig.returnType = none)  :
    ∀ (n9 : Nat) (t : Nat) (h : Pic) (M : Mem), (cr_at Γ ad M h) → (Inv0 M) → (lo M N) → (M = m_fd N s t) → (nC M ≤ 5 * t) → (t ≤ nT N) → (nT N + 1 ≤ t + n9) → hp_G p l e rm_MM_findConflicts s9 m args below meth c Γ.1 kcl A 6 (hp_NQ below Γ.1 kcl A (fun r u => r = none ∧ cr_at Γ ad (m_fd N s (nT N)) u) args s9 0 0) 0 0 32 [(5, .int (nI t)), (2, .ref (ad 15 (bs N s))), (3, .ref (ad 15 (nV N - 1))), (4, .ref (ad 11 s)), (0, .ref (ad 0 0))] [] h := by
  intro n9
  induction n9 with
  | zero =>
    intro t h M hC hI hlo hM hnc ht hm
    exact absurd hm (by omega)
  | succ n9 ih =>
    intro t h M hC hI hlo hM hnc ht hm
    have kx : h (ad 0 0) = some (.inr (6, [.ref (ad 1 0), .ref (ad 2 0), .int (M 1 0), .ref (ad 3 0), .int (M 9 0), .ref (ad 4 0), .int (M 4 0), .ref (ad 14 (nV M - 1)), .ref (ad 5 0), .int (M 22 0), .ref (ad 6 0), cr_pen ad M])) := hC.1 0 0 (liv0 (by omega))
    have kA1 : h (ad 1 0) = some (.inl ((Γ.2.1 0), 60, .inl (M 2))) := hC.1 1 0 (liv0 (by omega))
    have kA2 : h (ad 2 0) = some (.inl ((Γ.2.1 0), 60, .inl (M 3))) := hC.1 2 0 (liv0 (by omega))
    have kA3 : h (ad 3 0) = some (.inl ((Γ.2.1 3), 20, .inr (.inr (.inr (.inr (fun j => if j < nS M then some (ad 10 j) else none)))))) := hC.1 3 0 (liv0 (by omega))
    have kA4 : h (ad 4 0) = some (.inl ((Γ.2.1 4), 40, .inr (.inr (.inr (.inr (fun j => if j < nV M then some (ad 14 j) else none)))))) := hC.1 4 0 (liv0 (by omega))
    have kA5 : h (ad 5 0) = some (.inl ((Γ.2.1 5), 10, .inr (.inr (.inr (.inr (fun j => if j < nR M then some (ad 18 j) else none)))))) := hC.1 5 0 (liv0 (by omega))
    have kA6 : h (ad 6 0) = some (.inr (0, [.ref (ad 7 0), .ref (ad 8 0), .ref (ad 9 0), .int (M 27 0)])) := hC.1 6 0 (liv0 (by omega))
    have kA7 : h (ad 7 0) = some (.inl ((Γ.2.1 0), 300, .inl (M 28))) := hC.1 7 0 (liv0 (by omega))
    have kA8 : h (ad 8 0) = some (.inl ((Γ.2.1 0), 300, .inl (M 29))) := hC.1 8 0 (liv0 (by omega))
    have kA9 : h (ad 9 0) = some (.inl ((Γ.2.1 0), 300, .inl (M 30))) := hC.1 9 0 (liv0 (by omega))
    obtain ⟨⟨⟨eT, hT⟩, ⟨eV, hV1, hV⟩, ⟨eS, hS⟩, ⟨eR, hRR⟩, ⟨eC, hCn⟩⟩, hI2, hI3, hI4, hI5, hI6, hI7, hI8, -, hI10, hI11⟩ := id hI
    have qV : nV M = nV N := hlo.agr.V
    have qT : nT M = nT N := hlo.agr.T
    have qS : nS M = nS N := hlo.agr.S
    have hbN : bs N s < nV N := (hN.2.1 s hs).1.2
    have hV1N := hN.1.2.1.2.1
    have hTN := hN.1.1.2
    have kw_b : h (ad 15 (bs N s)) = some (.inr (4, [.ref (ad 16 (bs N s))])) := by exact hC.1 15 (bs N s) (livV (by omega) (by omega) (by omega))
    have ky_b : h (ad 16 (bs N s)) = some (.inl ((Γ.2.1 0), 360, .inl (vc N (bs N s)))) := by rw [← hlo.qvc]; exact hC.1 16 (bs N s) (livV (by omega) (by omega) (by omega))
    have kw_l : h (ad 15 (nV N - 1)) = some (.inr (4, [.ref (ad 16 (nV N - 1))])) := by exact hC.1 15 (nV N - 1) (livV (by omega) (by omega) (by omega))
    have ky_l : h (ad 16 (nV N - 1)) = some (.inl ((Γ.2.1 0), 360, .inl (vc N (nV N - 1)))) := by rw [← hlo.qvc]; exact hC.1 16 (nV N - 1) (livV (by omega) (by omega) (by omega))
    have kt_s : h (ad 11 s) = some (.inr (4, [.ref (ad 12 s)])) := by exact hC.1 11 s (livS (by omega) (by omega) (by omega))
    have ku_s : h (ad 12 s) = some (.inl ((Γ.2.1 0), 360, .inl (sc N s))) := by rw [← hlo.qsc]; exact hC.1 12 s (livS (by omega) (by omega) (by omega))
    refine hg_iload C 0 d_MM_findConflicts_32 rfl ?_
    refine hg_aload_n C 4 d_MM_findConflicts_34 rfl rfl ?_
    refine f_MM_16 C kx rfl d_MM_findConflicts_35 ?_
    refine hg_ti eT ?_
    refine hg_icmp_ge C 101 d_MM_findConflicts_38 (by decide) (fun c38 => ?_) (fun c38 => ?_)
    · have c38n : nT M ≤ t := (nI_leI (a := (nT M)) (b := t) (by omega) (by omega)).mp c38
      exact hg_vretN C hr d_MM_findConflicts_101 (Nat.le_of_ble_eq_true rfl) (Nat.le_of_ble_eq_true rfl) (⟨rfl, by rw [show nT N = t by omega, ← hM]; exact hC⟩)
    · have c38n : ¬ nT M ≤ t := fun z => c38 (nI_le (a := (nT M)) (b := t) z (by omega))
      refine hg_aload_n C 1 d_MM_findConflicts_41 rfl rfl ?_
      refine hg_aload_n C 2 d_MM_findConflicts_42 rfl rfl ?_
      refine hg_aload C 3 d_MM_findConflicts_43 rfl ?_
      refine hg_iload C 0 d_MM_findConflicts_45 rfl ?_
      refine hg_SNb C (k_MM_isDroppedAndChanged l Γ _ (ad 15 (bs N s)) (ad 16 (bs N s)) (ad 15 (nV N - 1)) (ad 16 (nV N - 1)) (ad 11 s) (ad 12 s) (vc N (bs N s)) (vc N (nV N - 1)) (sc N s) kw_b ky_b kw_l ky_l kt_s ku_s (nI t)) (cw_MM_266 C.2.2.2.2.1 rfl rfl ⟨Nat.le_of_ble_eq_true rfl, Nat.le_of_ble_eq_true rfl⟩) rfl rfl (Nat.le_of_ble_eq_true rfl) d_MM_findConflicts_47 ⟨Nat.le_of_ble_eq_true rfl, Nat.le_of_ble_eq_true rfl⟩ (fun z1 => ?_) (fun z1 => ?_)
      · refine hg_if_eq C 66 d_MM_findConflicts_50 (by decide) (fun z => absurd z (by decide)) (fun _ => ?_)
        refine hg_aload_n C 4 d_MM_findConflicts_53 rfl rfl ?_
        refine f_MM_50 C kx rfl d_MM_findConflicts_54 ?_
        refine hg_iload C 0 d_MM_findConflicts_57 rfl ?_
        refine hg_iconst (v := (-1)) C d_MM_findConflicts_59 (by decide) ?_
        have kC6 : h (ad 6 0) = some (.inr (0, [.ref (ad 7 0), .ref (ad 8 0), .ref (ad 9 0), .int (nI (nC M))])) := by rw [← eC]; exact kA6
        refine hg_VNz (q := ("ModelMerge$Conflicts", T_Cf, 4)) C (k_Cf_add l Γ _ (ad 6 0) (ad 7 0) (ad 8 0) (ad 9 0) (M 28) (M 29) (M 30) (nC M) (by omega) (fun z => absurd (hC.2 7 0 8 0 (liv0 (by omega)) (liv0 (by omega)) z).1 (by decide)) (fun z => absurd (hC.2 7 0 9 0 (liv0 (by omega)) (liv0 (by omega)) z).1 (by decide)) (fun z => absurd (hC.2 8 0 9 0 (liv0 (by omega)) (liv0 (by omega)) z).1 (by decide)) kC6 kA7 kA8 kA9 (nI t) (-1)) (cw_MM_270 C.2.2.2.2.1 rfl rfl ⟨Nat.le_of_ble_eq_true rfl, Nat.le_of_ble_eq_true rfl⟩) kA6 rfl rfl rfl (Nat.le_of_ble_eq_true rfl) d_MM_findConflicts_60 ⟨Nat.le_of_ble_eq_true rfl, Nat.le_of_ble_eq_true rfl⟩ (fun u eu => ?_)
        have hCu := cr_add hC eu
        refine hg_goto C 95 d_MM_findConflicts_63 (by decide) ?_
        refine hg_iinc (v := nI (t + 1)) (lv' := [(5, .int (nI (t + 1))), (2, .ref (ad 15 (bs N s))), (3, .ref (ad 15 (nV N - 1))), (4, .ref (ad 11 s)), (0, .ref (ad 0 0))]) C 0 d_MM_findConflicts_95 rfl (nI_1 t) (by decide) rfl ?_
        refine hg_goto C 32 d_MM_findConflicts_98 (by decide) ?_
        obtain ⟨b1, b2, b3⟩ := m_find_ok (K := M) (s := s) (t := t) hN hlo.agr hI hs (by omega) (by omega)
        have eF : m_find N s t M = m_add M (nI t) (-1) := by
          have wz := (dch_wc hN hs (by omega)).mp z1
          rw [m_find, if_neg wz.1, if_pos wz.2, m_fl_none]
          rcases h_m01 hN (show t < nT N by omega) with x | x
          · exact Or.inl x
          · rcases h_t01 hN hs (show t < nT N by omega) with y | y
            · exact Or.inr y
            · exact absurd (x.trans y.symm) wz.2.1
        exact hg_lv (ks := [0, 1, 2, 3, 4]) rfl (ih (t + 1) u (m_find N s t M) (by rw [eF]; exact hCu) b2 hlo.find (by rw [hM]; rfl) (by omega) (by omega) (by omega))
      · refine hg_if_eq C 66 d_MM_findConflicts_50 (by decide) (fun _ => ?_) (fun z => absurd (by decide) z)
        refine hg_aload_n C 2 d_MM_findConflicts_66 rfl rfl ?_
        refine hg_iload C 0 d_MM_findConflicts_67 rfl ?_
        refine hg_VNb (q := ("ModelMerge$State", T_St, 1)) C (k_St_has l Γ _ (ad 15 (nV N - 1)) (ad 16 (nV N - 1)) (vc N (nV N - 1)) kw_l ky_l (nI t)) (cw_MM_243 C.2.2.2.2.1 rfl rfl ⟨Nat.le_of_ble_eq_true rfl, Nat.le_of_ble_eq_true rfl⟩) kw_l rfl rfl rfl (Nat.le_of_ble_eq_true rfl) d_MM_findConflicts_69 ⟨Nat.le_of_ble_eq_true rfl, Nat.le_of_ble_eq_true rfl⟩ (fun z2 => ?_) (fun z2 => ?_)
        · refine hg_if_eq C 95 d_MM_findConflicts_72 (by decide) (fun z => absurd z (by decide)) (fun _ => ?_)
          refine hg_aload C 3 d_MM_findConflicts_75 rfl ?_
          refine hg_iload C 0 d_MM_findConflicts_77 rfl ?_
          refine hg_VNb (q := ("ModelMerge$State", T_St, 1)) C (k_St_has l Γ _ (ad 11 s) (ad 12 s) (sc N s) kt_s ku_s (nI t)) (cw_MM_243 C.2.2.2.2.1 rfl rfl ⟨Nat.le_of_ble_eq_true rfl, Nat.le_of_ble_eq_true rfl⟩) kt_s rfl rfl rfl (Nat.le_of_ble_eq_true rfl) d_MM_findConflicts_79 ⟨Nat.le_of_ble_eq_true rfl, Nat.le_of_ble_eq_true rfl⟩ (fun z3 => ?_) (fun z3 => ?_)
          · refine hg_if_eq C 95 d_MM_findConflicts_82 (by decide) (fun z => absurd z (by decide)) (fun _ => ?_)
            refine hg_aload_n C 4 d_MM_findConflicts_85 rfl rfl ?_
            refine hg_aload_n C 1 d_MM_findConflicts_86 rfl rfl ?_
            refine hg_aload_n C 2 d_MM_findConflicts_87 rfl rfl ?_
            refine hg_aload C 3 d_MM_findConflicts_88 rfl ?_
            refine hg_iload C 0 d_MM_findConflicts_90 rfl ?_
            refine hg_VNz (q := ("ModelMerge", T_MM, 12)) C (k_MM_findFieldConflicts l Γ _ ad N hN s hs M hC hI hlo t (by omega) ((hs_m hN (by omega)).mp z2) ((hs_t hN hs (by omega)).mp z3) (by omega)) (cw_MM_273 C.2.2.2.2.1 rfl rfl ⟨Nat.le_of_ble_eq_true rfl, Nat.le_of_ble_eq_true rfl⟩) kx rfl rfl rfl (Nat.le_of_ble_eq_true rfl) d_MM_findConflicts_92 ⟨Nat.le_of_ble_eq_true rfl, Nat.le_of_ble_eq_true rfl⟩ (fun u hCu => ?_)
            refine hg_iinc (v := nI (t + 1)) (lv' := [(5, .int (nI (t + 1))), (2, .ref (ad 15 (bs N s))), (3, .ref (ad 15 (nV N - 1))), (4, .ref (ad 11 s)), (0, .ref (ad 0 0))]) C 0 d_MM_findConflicts_95 rfl (nI_1 t) (by decide) rfl ?_
            refine hg_goto C 32 d_MM_findConflicts_98 (by decide) ?_
            obtain ⟨b1, b2, b3⟩ := m_find_ok (K := M) (s := s) (t := t) hN hlo.agr hI hs (by omega) (by omega)
            have xm := (hs_m hN (show t < nT N by omega)).mp z2
            have xt := (hs_t hN hs (show t < nT N by omega)).mp z3
            have eF : m_find N s t M = m_fl N s t M 5 := by
              have hb : ¬ h_b N s t = 0 := fun z => xm (hmk t (by omega) z xt)
              rw [m_find, if_neg hb, if_neg (fun z => z1 ((dch_wc hN hs (by omega)).mpr ⟨hb, z⟩))]
            exact hg_lv (ks := [0, 1, 2, 3, 4]) rfl (ih (t + 1) u (m_find N s t M) (by rw [eF]; exact hCu) b2 hlo.find (by rw [hM]; rfl) (by omega) (by omega) (by omega))
          · refine hg_if_eq C 95 d_MM_findConflicts_82 (by decide) (fun _ => ?_) (fun z => absurd (by decide) z)
            refine hg_iinc (v := nI (t + 1)) (lv' := [(5, .int (nI (t + 1))), (2, .ref (ad 15 (bs N s))), (3, .ref (ad 15 (nV N - 1))), (4, .ref (ad 11 s)), (0, .ref (ad 0 0))]) C 0 d_MM_findConflicts_95 rfl (nI_1 t) (by decide) rfl ?_
            refine hg_goto C 32 d_MM_findConflicts_98 (by decide) ?_
            obtain ⟨b1, b2, b3⟩ := m_find_ok (K := M) (s := s) (t := t) hN hlo.agr hI hs (by omega) (by omega)
            have eF : m_find N s t M = M := by
              by_cases hb : h_b N s t = 0
              · rw [m_find, if_pos hb]
              · rw [m_find, if_neg hb, if_neg (fun z => z1 ((dch_wc hN hs (by omega)).mpr ⟨hb, z⟩)), m_fl_none (Or.inr (Classical.byContradiction fun y => z3 ((hs_t hN hs (show t < nT N by omega)).mpr y)))]
            exact hg_lv (ks := [0, 1, 2, 3, 4]) rfl (ih (t + 1) h (m_find N s t M) (by rw [eF]; exact hC) b2 hlo.find (by rw [hM]; rfl) (by omega) (by omega) (by omega))
        · refine hg_if_eq C 95 d_MM_findConflicts_72 (by decide) (fun _ => ?_) (fun z => absurd (by decide) z)
          refine hg_iinc (v := nI (t + 1)) (lv' := [(5, .int (nI (t + 1))), (2, .ref (ad 15 (bs N s))), (3, .ref (ad 15 (nV N - 1))), (4, .ref (ad 11 s)), (0, .ref (ad 0 0))]) C 0 d_MM_findConflicts_95 rfl (nI_1 t) (by decide) rfl ?_
          refine hg_goto C 32 d_MM_findConflicts_98 (by decide) ?_
          obtain ⟨b1, b2, b3⟩ := m_find_ok (K := M) (s := s) (t := t) hN hlo.agr hI hs (by omega) (by omega)
          have eF : m_find N s t M = M := by
            by_cases hb : h_b N s t = 0
            · rw [m_find, if_pos hb]
            · rw [m_find, if_neg hb, if_neg (fun z => z1 ((dch_wc hN hs (by omega)).mpr ⟨hb, z⟩)), m_fl_none (Or.inl (Classical.byContradiction fun y => z2 ((hs_m hN (show t < nT N by omega)).mpr y)))]
          exact hg_lv (ks := [0, 1, 2, 3, 4]) rfl (ih (t + 1) h (m_find N s t M) (by rw [eF]; exact hC) b2 hlo.find (by rw [hM]; rfl) (by omega) (by omega) (by omega))
set_option maxHeartbeats 4000000 in
set_option maxRecDepth 100000 in
theorem k_MM_findConflicts (l : Launch) (Γ : Gam) (h : Pic) (ad : Nat → Nat → Nat) (M : Mem) (hC : cr_at Γ ad M h) (hI : Inv0 M) (s : Nat) (hs : s < nS M) (hmk : ∀ t, t < nT M → h_b M s t = 0 → ¬ h_t M s t = 0 → h_m M t = 0) : kN l Γ y_MM_findConflicts w_MM_findConflicts rm_MM_findConflicts [.ref (ad 0 0), .ref (ad 10 s)] h (fun r u => r = none ∧ cr_at Γ ad (m_fd M s (nT M)) u) 0 0 := by
  refine hg_entryN (own := "ModelMerge") (cc := b_MM_findConflicts) (maxL := 6) (ret := none) (lv0 := [(0, .ref (ad 0 0)), (1, .ref (ad 10 s))]) (by decide) rfl rfl (Nat.le_of_ble_eq_true rfl) rfl ?_
  intro p e s9 m args below meth c A C hnm hr
  have kx : h (ad 0 0) = some (.inr (6, [.ref (ad 1 0), .ref (ad 2 0), .int (M 1 0), .ref (ad 3 0), .int (M 9 0), .ref (ad 4 0), .int (M 4 0), .ref (ad 14 (nV M - 1)), .ref (ad 5 0), .int (M 22 0), .ref (ad 6 0), cr_pen ad M])) := hC.1 0 0 (liv0 (by omega))
  have kA1 : h (ad 1 0) = some (.inl ((Γ.2.1 0), 60, .inl (M 2))) := hC.1 1 0 (liv0 (by omega))
  have kA2 : h (ad 2 0) = some (.inl ((Γ.2.1 0), 60, .inl (M 3))) := hC.1 2 0 (liv0 (by omega))
  have kA3 : h (ad 3 0) = some (.inl ((Γ.2.1 3), 20, .inr (.inr (.inr (.inr (fun j => if j < nS M then some (ad 10 j) else none)))))) := hC.1 3 0 (liv0 (by omega))
  have kA4 : h (ad 4 0) = some (.inl ((Γ.2.1 4), 40, .inr (.inr (.inr (.inr (fun j => if j < nV M then some (ad 14 j) else none)))))) := hC.1 4 0 (liv0 (by omega))
  have kA5 : h (ad 5 0) = some (.inl ((Γ.2.1 5), 10, .inr (.inr (.inr (.inr (fun j => if j < nR M then some (ad 18 j) else none)))))) := hC.1 5 0 (liv0 (by omega))
  have kA6 : h (ad 6 0) = some (.inr (0, [.ref (ad 7 0), .ref (ad 8 0), .ref (ad 9 0), .int (M 27 0)])) := hC.1 6 0 (liv0 (by omega))
  have kA7 : h (ad 7 0) = some (.inl ((Γ.2.1 0), 300, .inl (M 28))) := hC.1 7 0 (liv0 (by omega))
  have kA8 : h (ad 8 0) = some (.inl ((Γ.2.1 0), 300, .inl (M 29))) := hC.1 8 0 (liv0 (by omega))
  have kA9 : h (ad 9 0) = some (.inl ((Γ.2.1 0), 300, .inl (M 30))) := hC.1 9 0 (liv0 (by omega))
  obtain ⟨⟨⟨eT, hT⟩, ⟨eV, hV1, hV⟩, ⟨eS, hS⟩, ⟨eR, hRR⟩, ⟨eC, hCn⟩⟩, hI2, hI3, hI4, hI5, hI6, hI7, hI8, -, hI10, hI11⟩ := id hI
  have hbs : bs M s < nV M := (hI2 s hs).1.2
  have ks_s : h (ad 10 s) = some (.inr (3, [.int (nI s), .int (M 10 s), .ref (ad 14 (bs M s)), .ref (ad 11 s), .ref (ad 13 (60 * s + sd M s)), .int (M 13 s), .int (M 14 s), .int (M 15 s)])) := hC.1 10 s (livS (by omega) (by omega) (by omega))
  have kt_s : h (ad 11 s) = some (.inr (4, [.ref (ad 12 s)])) := hC.1 11 s (livS (by omega) (by omega) (by omega))
  have ku_s : h (ad 12 s) = some (.inl ((Γ.2.1 0), 360, .inl (sc M s))) := hC.1 12 s (livS (by omega) (by omega) (by omega))
  have kv_b : h (ad 14 (bs M s)) = some (.inr (5, [.int (nI (bs M s)), .int (au M (bs M s)), .ref (ad 15 (bs M s)), .ref (ad 17 (bs M s))])) := hC.1 14 (bs M s) (livV (by omega) (by omega) (by omega))
  have kw_b : h (ad 15 (bs M s)) = some (.inr (4, [.ref (ad 16 (bs M s))])) := hC.1 15 (bs M s) (livV (by omega) (by omega) (by omega))
  have ky_b : h (ad 16 (bs M s)) = some (.inl ((Γ.2.1 0), 360, .inl (vc M (bs M s)))) := hC.1 16 (bs M s) (livV (by omega) (by omega) (by omega))
  have kz_b : h (ad 17 (bs M s)) = some (.inl ((Γ.2.1 0), 300, .inl (og M (bs M s)))) := hC.1 17 (bs M s) (livV (by omega) (by omega) (by omega))
  have kv_l : h (ad 14 (nV M - 1)) = some (.inr (5, [.int (nI (nV M - 1)), .int (au M (nV M - 1)), .ref (ad 15 (nV M - 1)), .ref (ad 17 (nV M - 1))])) := hC.1 14 (nV M - 1) (livV (by omega) (by omega) (by omega))
  have kw_l : h (ad 15 (nV M - 1)) = some (.inr (4, [.ref (ad 16 (nV M - 1))])) := hC.1 15 (nV M - 1) (livV (by omega) (by omega) (by omega))
  have ky_l : h (ad 16 (nV M - 1)) = some (.inl ((Γ.2.1 0), 360, .inl (vc M (nV M - 1)))) := hC.1 16 (nV M - 1) (livV (by omega) (by omega) (by omega))
  have kz_l : h (ad 17 (nV M - 1)) = some (.inl ((Γ.2.1 0), 300, .inl (og M (nV M - 1)))) := hC.1 17 (nV M - 1) (livV (by omega) (by omega) (by omega))
  refine hg_aload_n C 1 d_MM_findConflicts_0 rfl rfl ?_
  refine f_MM_194 C ks_s rfl d_MM_findConflicts_1 ?_
  refine f_MM_147 C kv_b rfl d_MM_findConflicts_4 ?_
  refine hg_astore_n (lv' := [(2, .ref (ad 15 (bs M s))), (0, .ref (ad 0 0)), (1, .ref (ad 10 s))]) C d_MM_findConflicts_7 rfl (by decide) rfl ?_
  refine hg_aload_n C 1 d_MM_findConflicts_8 rfl rfl ?_
  refine f_MM_64 C kx rfl d_MM_findConflicts_9 ?_
  refine f_MM_147 C kv_l rfl d_MM_findConflicts_12 ?_
  refine hg_astore_n (lv' := [(3, .ref (ad 15 (nV M - 1))), (2, .ref (ad 15 (bs M s))), (0, .ref (ad 0 0)), (1, .ref (ad 10 s))]) C d_MM_findConflicts_15 rfl (by decide) rfl ?_
  refine hg_aload_n C 3 d_MM_findConflicts_16 rfl rfl ?_
  refine f_MM_155 C ks_s rfl d_MM_findConflicts_17 ?_
  refine hg_astore (lv' := [(4, .ref (ad 11 s)), (3, .ref (ad 15 (nV M - 1))), (2, .ref (ad 15 (bs M s))), (0, .ref (ad 0 0)), (1, .ref (ad 10 s))]) C d_MM_findConflicts_20 (by decide) rfl ?_
  refine hg_aload_n C 3 d_MM_findConflicts_22 rfl rfl ?_
  refine f_MM_50 C kx rfl d_MM_findConflicts_23 ?_
  refine hg_VNz (q := ("ModelMerge$Conflicts", T_Cf, 4)) C (k_Cf_clear l Γ _ (ad 6 0) (ad 7 0) (ad 8 0) (ad 9 0) (M 27 0) kA6) (cw_MM_263 C.2.2.2.2.1 rfl rfl ⟨Nat.le_of_ble_eq_true rfl, Nat.le_of_ble_eq_true rfl⟩) kA6 rfl rfl rfl (Nat.le_of_ble_eq_true rfl) d_MM_findConflicts_26 ⟨Nat.le_of_ble_eq_true rfl, Nat.le_of_ble_eq_true rfl⟩ (fun u eu => ?_)
  have hCu := cr_clear hC eu
  refine hg_iconst (v := 0) C d_MM_findConflicts_29 (by decide) ?_
  refine hg_istore (lv' := [(5, .int 0), (4, .ref (ad 11 s)), (3, .ref (ad 15 (nV M - 1))), (2, .ref (ad 15 (bs M s))), (0, .ref (ad 0 0)), (1, .ref (ad 10 s))]) C d_MM_findConflicts_30 (by decide) rfl ?_
  obtain ⟨b1, b2, b3⟩ := m_fd_ok (s := s) hI hs 0 (by omega)
  exact hg_lv (ks := [0, 3, 2, 1, 4]) rfl (lp_MM_fc l Γ C hI hs hmk hr (nT M + 1) 0 u (m_fd M s 0) hCu b2 (lo.fd 0) rfl (by omega) (by omega) (by omega))
