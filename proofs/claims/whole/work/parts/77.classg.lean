/-! THE CLASS: join, settle -/
theorem cr_pend {Γ : Gam} {ad : Nat → Nat → Nat} {M : Mem} {h h1 h2 : Pic} (hC : cr_at Γ ad M h) {s : Nat} (hs : s < nS M) (hs2 : s < 2 ^ 31) (e1 : h1 = hp_up h (ad 10 s) (.inr (3, [.int (nI s), .int (M 10 s), .ref (ad 14 (bs M s)), .ref (ad 11 s), .ref (ad 13 (60 * s + sd M s)), .int (M 13 s), .int 1, .int (M 15 s)]))) (e2 : h2 = hp_up h1 (ad 0 0) (.inr (6, [.ref (ad 1 0), .ref (ad 2 0), .int (M 1 0), .ref (ad 3 0), .int (M 9 0), .ref (ad 4 0), .int (M 4 0), .ref (ad 14 (nV M - 1)), .ref (ad 5 0), .int (M 22 0), .ref (ad 6 0), .ref (ad 10 s)]))) : cr_at Γ ad (mset (mset M 14 s 1) 26 0 (nI s)) h2 := by
  rw [e2, e1]
  have hf : ∀ j, j ∈ [5, 6, 8, 11, 12, 16, 17, 18, 19, 20, 21] → mset (mset M 14 s 1) 26 0 (nI s) j = M j := hfl2 (by decide) (by decide)
  refine cw_c (cw_w (cw_w hC (livS (k := 10) (by omega) (by omega) hs) rfl) (liv0 (k := 0) (by omega)) rfl) (fun k i hl => hl) (liv_all (le9 ?_ rfl rfl rfl rfl rfl rfl rfl rfl rfl) ?_ ?_ ?_ ?_)
  · have ep : cr_pen ad (mset (mset M 14 s 1) 26 0 (nI s)) = .ref (ad 10 s) := by
      unfold cr_pen
      rw [mset_s, pk_us, if_neg (nI_pos hs2), nI_clamp hs2]
    rw [c_up_s, cc, ep]
    rfl
  · intro i hi
    refine ⟨(c_up_k (by decide)).trans ?_, (c_up_k (by decide)).trans <| (c_up_k (by decide)).trans (cc_hi hf (by omega) (by omega)), (c_up_k (by decide)).trans <| (c_up_k (by decide)).trans (cc_hi hf (by omega) (by omega))⟩
    by_cases his : i = s
    · subst his
      rw [c_up_s, cc]
      have e : mset (mset M 14 i 1) 26 0 (nI i) 14 i = 1 := pk_us
      rw [e]
      rfl
    · refine (c_up_i his).trans (cc10 rfl rfl rfl rfl ?_ rfl rfl rfl rfl)
      exact pk_un his
  · intro i j hi hj
    exact (c_up_k (by decide)).trans <| (c_up_k (by decide)).trans (cc_hi hf (by omega) (by omega))
  · intro v hv
    exact ⟨(c_up_k (by decide)).trans <| (c_up_k (by decide)).trans (cc_hi hf (by omega) (by omega)), (c_up_k (by decide)).trans <| (c_up_k (by decide)).trans (cc_hi hf (by omega) (by omega)), (c_up_k (by decide)).trans <| (c_up_k (by decide)).trans (cc_hi hf (by omega) (by omega)), (c_up_k (by decide)).trans <| (c_up_k (by decide)).trans (cc_hi hf (by omega) (by omega))⟩
  · intro r hr
    exact (c_up_k (by decide)).trans <| (c_up_k (by decide)).trans (cc18 rfl rfl rfl)
theorem cr_choose {Γ : Gam} {ad : Nat → Nat → Nat} {M : Mem} {h h1 : Pic} (hC : cr_at Γ ad M h) {k : Nat} {v : Int32} (e1 : h1 = hp_up h (ad 9 0) (.inl (Γ.2.1 0, 300, .inl (upd (M 30) k v)))) : cr_at Γ ad (mset M 30 k v) h1 := by
  rw [e1]
  have hf : ∀ j, j ∈ [5, 6, 8, 11, 12, 16, 17, 18, 19, 20, 21] → mset M 30 k v j = M j := fun j hj => hfl1 (by decide) hj
  refine cw_c (cw_w hC (liv0 (k := 9) (by omega)) rfl) (fun k i hl => hl) (liv_all (le9 rfl rfl rfl rfl rfl rfl rfl rfl rfl rfl) ?_ ?_ ?_ ?_)
  · intro s hs
    exact ⟨(c_up_k (by decide)).trans (cc10 rfl rfl rfl rfl rfl rfl rfl rfl rfl), (c_up_k (by decide)).trans (cc_hi hf (by omega) (by omega)), (c_up_k (by decide)).trans (cc_hi hf (by omega) (by omega))⟩
  · intro s j hs hj
    exact (c_up_k (by decide)).trans (cc_hi hf (by omega) (by omega))
  · intro v hv
    exact ⟨(c_up_k (by decide)).trans (cc_hi hf (by omega) (by omega)), (c_up_k (by decide)).trans (cc_hi hf (by omega) (by omega)), (c_up_k (by decide)).trans (cc_hi hf (by omega) (by omega)), (c_up_k (by decide)).trans (cc_hi hf (by omega) (by omega))⟩
  · intro r hr
    exact (c_up_k (by decide)).trans (cc18 rfl rfl rfl)
theorem in2_01 {v : Int32} (h : inr v 2) : v = 0 ∨ v = 1 := by
  obtain ⟨j, hj, ej⟩ := inr_nat (n := 2) h (by omega)
  rcases (show j = 0 ∨ j = 1 by omega) with q | q
  · exact Or.inl (by rw [ej, q]; rfl)
  · exact Or.inr (by rw [ej, q]; rfl)
theorem cls_un {F : Nat → Int32} : ∀ n, (∀ k, k < n → F k = -1 ∨ F k = 0 ∨ F k = 1) → c_ls F n = c_un F n
  | 0, _ => rfl
  | n + 1, h => by
    have ih := cls_un n (fun k hk => h k (by omega))
    unfold c_ls c_un
    rw [ih]
    rcases h n (by omega) with e | e | e
    · rw [e, if_pos (by decide), if_pos rfl]
    · rw [e, if_neg (by decide), if_neg (by decide)]
    · rw [e, if_neg (by decide), if_neg (by decide)]
theorem cls_all {F : Nat → Int32} : ∀ n, c_ls F n = 0 → ∀ k, k < n → ¬ F k < 0
  | 0, _, k, hk => absurd hk (by omega)
  | n + 1, h, k, hk => by
    unfold c_ls at h
    by_cases hF : F n < 0
    · rw [if_pos hF] at h; omega
    · rw [if_neg hF] at h
      by_cases e : k = n
      · rw [e]; exact hF
      · exact cls_all n h k (by omega)
abbrev rm_MM_join : Room := { frames := 7, cells := 6, slots := 677, locals := 163 }
set_option maxHeartbeats 4000000 in
set_option maxRecDepth 100000 in
theorem k_MM_join (l : Launch) (hl9 : l.stackTraces = false) (Γ : Gam) (h : Pic) (ad : Nat → Nat → Nat) (M : Mem) (hC : cr_at Γ ad M h) (hI : Inv0 M) (hIv : Ivr M) (s0 : Int32) : kM l Γ y_MM_join w_MM_join rm_MM_join [.ref (ad 0 0), .int s0] h (pubQ Γ ad (sp_join M s0)) (pubX Γ ad (sp_join M s0)) 6 677 := by
  refine hg_entry (own := "ModelMerge") (cc := b_MM_join) (maxL := 3) (ret := (some .int)) (lv0 := [(0, .ref (ad 0 0)), (1, .int s0)]) (by decide) rfl rfl (Nat.le_of_ble_eq_true rfl) rfl ?_
  intro p e s m args below meth c A C hne hr
  have kx : h (ad 0 0) = some (.inr (6, [.ref (ad 1 0), .ref (ad 2 0), .int (M 1 0), .ref (ad 3 0), .int (M 9 0), .ref (ad 4 0), .int (M 4 0), .ref (ad 14 (nV M - 1)), .ref (ad 5 0), .int (M 22 0), .ref (ad 6 0), cr_pen ad M])) := hC.1 0 0 (liv0 (by omega))
  have kA1 : h (ad 1 0) = some (.inl ((Γ.2.1 0), 60, .inl (M 2))) := hC.1 1 0 (liv0 (by omega))
  have kA2 : h (ad 2 0) = some (.inl ((Γ.2.1 0), 60, .inl (M 3))) := hC.1 2 0 (liv0 (by omega))
  have kA3 : h (ad 3 0) = some (.inl ((Γ.2.1 3), 20, .inr (.inr (.inr (.inr (fun j => if j < nS M then some (ad 10 j) else none)))))) := hC.1 3 0 (liv0 (by omega))
  have kA4 : h (ad 4 0) = some (.inl ((Γ.2.1 4), 40, .inr (.inr (.inr (.inr (fun j => if j < nV M then some (ad 14 j) else none)))))) := hC.1 4 0 (liv0 (by omega))
  have kA5 : h (ad 5 0) = some (.inl ((Γ.2.1 5), 10, .inr (.inr (.inr (.inr (fun j => if j < nR M then some (ad 18 j) else none)))))) := hC.1 5 0 (liv0 (by omega))
  have kA6 : h (ad 6 0) = some (.inr (0, [.ref (ad 7 0), .ref (ad 8 0), .ref (ad 9 0), .int (M 27 0)])) := hC.1 6 0 (liv0 (by omega))
  have kA7 : h (ad 7 0) = some (.inl ((Γ.2.1 0), 300, .inl (M 28))) := hC.1 7 0 (liv0 (by omega))
  have kA8 : h (ad 8 0) = some (.inl ((Γ.2.1 0), 300, .inl (M 29))) := hC.1 8 0 (liv0 (by omega))
  have kA9 : h (ad 9 0) = some (.inl ((Γ.2.1 0), 300, .inl (M 30))) := hC.1 9 0 (liv0 (by omega))
  obtain ⟨⟨⟨eT, hT⟩, ⟨eV, hV1, hV⟩, ⟨eS, hS⟩, ⟨eR, hRR⟩, ⟨eC, hCn⟩⟩, hI2, hI3, hI4, hI5, hI6, hI7, hI8, -, hI10, hI11⟩ := id hI
  refine hg_aload_n C 0 d_MM_join_0 rfl rfl ?_
  refine hg_iload_n C 1 d_MM_join_1 rfl rfl ?_
  refine hg_Vv (q := ("ModelMerge", T_MM, 12)) C (k_MM_sessionOf l hl9 Γ _ ad M hC hI s0) (cw_MM_86 C.2.2.2.2.1 rfl rfl ⟨Nat.le_of_ble_eq_true rfl, Nat.le_of_ble_eq_true rfl⟩) kx rfl rfl rfl (Nat.le_of_ble_eq_true rfl) d_MM_join_2 ⟨Nat.le_of_ble_eq_true rfl, Nat.le_of_ble_eq_true rfl⟩ (fun co2 => ?_) (fun co2 => hg_out C hne (Nat.le_of_ble_eq_true rfl) (Nat.le_of_ble_eq_true rfl) (⟨Or.inl ⟨rfl, by rw [sp_join, gd1 (fun z => co2 z)]⟩, by rw [sp_join, gd1 (fun z => co2 z)]; exact cr_code 1 hC⟩))
  obtain ⟨s, hs, rfl⟩ := inr_nat (n := nS M) (id co2) (by omega)
  refine hg_tr (congrArg (ad 10) (nI_clamp (n := s) (by omega))) ?_
  have ks_s : h (ad 10 s) = some (.inr (3, [.int (nI s), .int (M 10 s), .ref (ad 14 (bs M s)), .ref (ad 11 s), .ref (ad 13 (60 * s + sd M s)), .int (M 13 s), .int (M 14 s), .int (M 15 s)])) := hC.1 10 s (livS (by omega) (by omega) (by omega))
  have kt_s : h (ad 11 s) = some (.inr (4, [.ref (ad 12 s)])) := hC.1 11 s (livS (by omega) (by omega) (by omega))
  have ku_s : h (ad 12 s) = some (.inl ((Γ.2.1 0), 360, .inl (sc M s))) := hC.1 12 s (livS (by omega) (by omega) (by omega))
  refine hg_astore_n (lv' := [(2, .ref (ad 10 s)), (0, .ref (ad 0 0)), (1, .int (nI s))]) C d_MM_join_5 rfl (by decide) rfl ?_
  refine hg_aload_n C 0 d_MM_join_6 rfl rfl ?_
  refine hg_Sn C (k_MM_checkOpen l hl9 Γ _ (ad 10 s) (.int (nI s)) (.int (M 10 s)) (.ref (ad 14 (bs M s))) (.ref (ad 11 s)) (.ref (ad 13 (60 * s + sd M s))) (.int (M 13 s)) (.int (M 15 s)) (M 14 s) ks_s) (cw_MM_90 C.2.2.2.2.1 rfl rfl ⟨Nat.le_of_ble_eq_true rfl, Nat.le_of_ble_eq_true rfl⟩) rfl rfl (Nat.le_of_ble_eq_true rfl) d_MM_join_7 ⟨Nat.le_of_ble_eq_true rfl, Nat.le_of_ble_eq_true rfl⟩ (fun cp7 => ?_) (fun cp7 => hg_out C hne (Nat.le_of_ble_eq_true rfl) (Nat.le_of_ble_eq_true rfl) (⟨Or.inr ⟨rfl, by rw [sp_join, gd2 co2 (show ¬ M 14 (nI s).toNatClampNeg = 0 by rw [nI_clamp (by omega)]; exact cp7)]⟩, by rw [sp_join, gd2 co2 (show ¬ M 14 (nI s).toNatClampNeg = 0 by rw [nI_clamp (by omega)]; exact cp7)]; exact cr_code 2 hC⟩))
  refine hg_aload_n C 1 d_MM_join_10 rfl rfl ?_
  refine f_MM_54 C kx rfl d_MM_join_11 ?_
  rcases hI6 with pn | ⟨p9, hp9, ep, e14, hv40⟩
  · refine hg_tv (show cr_pen ad M = .null by rw [cr_pen, pn]; exact if_pos (by decide)) ?_
    refine hg_ifnullN C 20 d_MM_join_14 (by decide) ?_
    refine hg_aload_n C 1 d_MM_join_20 rfl rfl ?_
    refine f_MM_35 C kx rfl d_MM_join_21 ?_
    refine hg_ti eV ?_
    refine hg_bipush (v := 40) C d_MM_join_24 (by decide) ?_
    refine hg_icmp_lt C 32 d_MM_join_26 (by decide) (fun c26 => ?_) (fun c26 => ?_)
    · have c26n : nV M < 40 := (nI_ltI (a := (nV M)) (b := 40) (by omega) (by omega)).mp c26
      obtain ⟨N, eN⟩ : ∃ N, N = mset M 0 0 0 := ⟨_, rfl⟩
      have hCN : cr_at Γ ad N h := by rw [eN]; exact cr_code 0 hC
      have hN : Ivr N := by rw [eN]; exact hIv.code
      have h26 : N 26 0 < 0 := by rw [eN]; show M 26 0 < 0; rw [pn]; decide
      have h14 : N 14 s = 0 := by rw [eN]; exact cp7
      have hsN : s < nS N := by rw [eN]; exact hs
      have h40 : nV N < 40 := by rw [eN]; show nV M < 40; omega
      have hl := lo.fd (N := N) (s := s) (nT N)
      refine hg_aload_n C 1 d_MM_join_32 rfl rfl ?_
      refine hg_aload_n C 0 d_MM_join_33 rfl rfl ?_
      refine hg_VNz (q := ("ModelMerge", T_MM, 12)) C (k_MM_findConflicts l Γ _ ad N hCN hN.1 s hsN (hmk_of hN hsN (by rw [h14]; decide))) (cw_MM_126 C.2.2.2.2.1 rfl rfl ⟨Nat.le_of_ble_eq_true rfl, Nat.le_of_ble_eq_true rfl⟩) kx rfl rfl rfl (Nat.le_of_ble_eq_true rfl) d_MM_join_34 ⟨Nat.le_of_ble_eq_true rfl, Nat.le_of_ble_eq_true rfl⟩ (fun u hCK => ?_)
      have hK := inv_fd hN h26 hsN
      have hfit := fit_fd hN.1 hsN
      obtain ⟨K, eK⟩ : ∃ K, K = m_fd N s (nT N) := ⟨_, rfl⟩
      rw [← eK] at hCK hK hfit hl
      have hsK : s < nS K := by rw [hl.agr.S]; exact hsN
      have hvK : nV K < 40 := by rw [hl.agr.V]; exact h40
      have eCK := hK.1.1.2.2.2.2.1
      have hCK3 := hK.1.1.2.2.2.2.2
      have kxu : u (ad 0 0) = some (.inr (6, [.ref (ad 1 0), .ref (ad 2 0), .int (K 1 0), .ref (ad 3 0), .int (K 9 0), .ref (ad 4 0), .int (K 4 0), .ref (ad 14 (nV K - 1)), .ref (ad 5 0), .int (K 22 0), .ref (ad 6 0), cr_pen ad K])) := hCK.1 0 0 (liv0 (by omega))
      have k6u : u (ad 6 0) = some (.inr (0, [.ref (ad 7 0), .ref (ad 8 0), .ref (ad 9 0), .int (K 27 0)])) := hCK.1 6 0 (liv0 (by omega))
      have ksu : u (ad 10 s) = some (.inr (3, [.int (nI s), .int (K 10 s), .ref (ad 14 (bs K s)), .ref (ad 11 s), .ref (ad 13 (60 * s + sd K s)), .int (K 13 s), .int (K 14 s), .int (K 15 s)])) := hCK.1 10 s (livS (by omega) (by omega) hsK)
      refine hg_aload_n C 1 d_MM_join_37 rfl rfl ?_
      refine f_MM_50 C kxu rfl d_MM_join_38 ?_
      refine f_MM_129 C k6u rfl d_MM_join_41 ?_
      refine hg_ti eCK ?_
      refine hg_if_ne C 54 d_MM_join_44 (by decide) (fun c44 => ?_) (fun c44 => ?_)
      · have c44n : ¬ nC K = 0 := fun z => c44 (congrArg nI z)
        refine hg_aload_n C 0 d_MM_join_54 rfl rfl ?_
        refine hg_iconst (v := 1) C d_MM_join_55 (by decide) ?_
        refine p_MM_135 (fs' := [.int (nI s), .int (K 10 s), .ref (ad 14 (bs K s)), .ref (ad 11 s), .ref (ad 13 (60 * s + sd K s)), .int (K 13 s), .int 1, .int (K 15 s)]) C ksu rfl rfl (Nat.le_of_ble_eq_true rfl) rfl d_MM_join_56 ?_
        obtain ⟨h1, eh1⟩ : ∃ z, z = hp_up u (ad 10 s) (.inr (3, [.int (nI s), .int (K 10 s), .ref (ad 14 (bs K s)), .ref (ad 11 s), .ref (ad 13 (60 * s + sd K s)), .int (K 13 s), .int 1, .int (K 15 s)])) := ⟨_, rfl⟩
        refine hg_eq eh1.symm ?_
        have k2 : h1 (ad 0 0) = some (.inr (6, [.ref (ad 1 0), .ref (ad 2 0), .int (K 1 0), .ref (ad 3 0), .int (K 9 0), .ref (ad 4 0), .int (K 4 0), .ref (ad 14 (nV K - 1)), .ref (ad 5 0), .int (K 22 0), .ref (ad 6 0), cr_pen ad K])) := by rw [eh1]; exact hp_up_g kxu (fun z => by rw [z, ksu] at kxu; cases kxu)
        have k3 : h1 (ad 6 0) = some (.inr (0, [.ref (ad 7 0), .ref (ad 8 0), .ref (ad 9 0), .int (K 27 0)])) := by rw [eh1]; exact hp_up_g k6u (fun z => by rw [z, ksu] at k6u; cases k6u)
        have k4 : h1 (ad 10 s) = some (.inr (3, [.int (nI s), .int (K 10 s), .ref (ad 14 (bs K s)), .ref (ad 11 s), .ref (ad 13 (60 * s + sd K s)), .int (K 13 s), .int 1, .int (K 15 s)])) := by rw [eh1]; exact hp_up_s
        refine hg_aload_n C 1 d_MM_join_59 rfl rfl ?_
        refine hg_aload_n C 0 d_MM_join_60 rfl rfl ?_
        refine p_MM_54 (fs' := [.ref (ad 1 0), .ref (ad 2 0), .int (K 1 0), .ref (ad 3 0), .int (K 9 0), .ref (ad 4 0), .int (K 4 0), .ref (ad 14 (nV K - 1)), .ref (ad 5 0), .int (K 22 0), .ref (ad 6 0), .ref (ad 10 s)]) C k2 rfl rfl (Nat.le_of_ble_eq_true rfl) rfl d_MM_join_61 ?_
        obtain ⟨h5, eh5⟩ : ∃ z, z = hp_up h1 (ad 0 0) (.inr (6, [.ref (ad 1 0), .ref (ad 2 0), .int (K 1 0), .ref (ad 3 0), .int (K 9 0), .ref (ad 4 0), .int (K 4 0), .ref (ad 14 (nV K - 1)), .ref (ad 5 0), .int (K 22 0), .ref (ad 6 0), .ref (ad 10 s)])) := ⟨_, rfl⟩
        refine hg_eq eh5.symm ?_
        have k6 : h5 (ad 6 0) = some (.inr (0, [.ref (ad 7 0), .ref (ad 8 0), .ref (ad 9 0), .int (K 27 0)])) := by rw [eh5]; exact hp_up_g k3 (fun z => by rw [z, k2] at k3; cases k3)
        have k7 : h5 (ad 10 s) = some (.inr (3, [.int (nI s), .int (K 10 s), .ref (ad 14 (bs K s)), .ref (ad 11 s), .ref (ad 13 (60 * s + sd K s)), .int (K 13 s), .int 1, .int (K 15 s)])) := by rw [eh5]; exact hp_up_g k4 (fun z => by rw [z, k2] at k4; cases k4)
        have k8 : h5 (ad 0 0) = some (.inr (6, [.ref (ad 1 0), .ref (ad 2 0), .int (K 1 0), .ref (ad 3 0), .int (K 9 0), .ref (ad 4 0), .int (K 4 0), .ref (ad 14 (nV K - 1)), .ref (ad 5 0), .int (K 22 0), .ref (ad 6 0), .ref (ad 10 s)])) := by rw [eh5]; exact hp_up_s
        refine hg_aload_n C 1 d_MM_join_64 rfl rfl ?_
        refine f_MM_50 C k8 rfl d_MM_join_65 ?_
        refine f_MM_129 C k6 rfl d_MM_join_68 ?_
        refine hg_ti eCK ?_
        exact hg_iret C hr rfl d_MM_join_71 (Nat.le_of_ble_eq_true rfl) (Nat.le_of_ble_eq_true rfl) (⟨by rw [sp_join, gd0 co2 (show M 14 (nI s).toNatClampNeg = 0 by rw [nI_clamp (by omega)]; exact cp7), nI_clamp (n := s) (by omega), show f_join (mset M 0 0 0) s = (nI (nC K), mset (mset K 14 s 1) 26 0 (nI s)) by rw [← eN, f_join, if_neg (fun z => z h26), if_neg (show ¬ nV N = 40 by omega), ← eK, if_neg (by omega)]], by rw [sp_join, gd0 co2 (show M 14 (nI s).toNatClampNeg = 0 by rw [nI_clamp (by omega)]; exact cp7)], ad, rfl, by rw [sp_join, gd0 co2 (show M 14 (nI s).toNatClampNeg = 0 by rw [nI_clamp (by omega)]; exact cp7), nI_clamp (n := s) (by omega), show f_join (mset M 0 0 0) s = (nI (nC K), mset (mset K 14 s 1) 26 0 (nI s)) by rw [← eN, f_join, if_neg (fun z => z h26), if_neg (show ¬ nV N = 40 by omega), ← eK, if_neg (by omega)]]; exact cr_pend hCK hsK (by omega) eh1 eh5⟩)
      · have c44n : nC K = 0 := (nI_eq (a := (nC K)) (b := 0) (by omega) (by omega)).mp c44
        refine hg_aload_n C 1 d_MM_join_47 rfl rfl ?_
        refine hg_aload_n C 0 d_MM_join_48 rfl rfl ?_
        refine hg_VNz (q := ("ModelMerge", T_MM, 12)) C (k_MM_finishJoining l Γ _ ad K hCK hK.1 hK.2.2.1 hvK s hsK hfit (fun k hk => absurd hk (by omega))) (cw_MM_132 C.2.2.2.2.1 rfl rfl ⟨Nat.le_of_ble_eq_true rfl, Nat.le_of_ble_eq_true rfl⟩) kxu rfl rfl rfl (Nat.le_of_ble_eq_true rfl) d_MM_join_49 ⟨Nat.le_of_ble_eq_true rfl, Nat.le_of_ble_eq_true rfl⟩ (fun u2 hu2 => ?_)
        obtain ⟨ad', ha0, hCf⟩ := hu2
        refine hg_iconst (v := 0) C d_MM_join_52 (by decide) ?_
        exact hg_iret C hr rfl d_MM_join_53 (Nat.le_of_ble_eq_true rfl) (Nat.le_of_ble_eq_true rfl) (⟨by rw [sp_join, gd0 co2 (show M 14 (nI s).toNatClampNeg = 0 by rw [nI_clamp (by omega)]; exact cp7), nI_clamp (n := s) (by omega), show f_join (mset M 0 0 0) s = (0, m_fin K s) by rw [← eN, f_join, if_neg (fun z => z h26), if_neg (show ¬ nV N = 40 by omega), ← eK, if_pos (by omega)]], by rw [sp_join, gd0 co2 (show M 14 (nI s).toNatClampNeg = 0 by rw [nI_clamp (by omega)]; exact cp7)], ad', ha0, by rw [sp_join, gd0 co2 (show M 14 (nI s).toNatClampNeg = 0 by rw [nI_clamp (by omega)]; exact cp7), nI_clamp (n := s) (by omega), show f_join (mset M 0 0 0) s = (0, m_fin K s) by rw [← eN, f_join, if_neg (fun z => z h26), if_neg (show ¬ nV N = 40 by omega), ← eK, if_pos (by omega)]]; exact hCf⟩)
    · have c26n : ¬ nV M < 40 := fun z => c26 (nI_lt (a := (nV M)) (b := 40) z (by omega))
      refine hg_bipush (v := (-4)) C d_MM_join_29 (by decide) ?_
      exact hg_iret C hr rfl d_MM_join_31 (Nat.le_of_ble_eq_true rfl) (Nat.le_of_ble_eq_true rfl) (⟨by rw [sp_join, gd0 co2 (show M 14 (nI s).toNatClampNeg = 0 by rw [nI_clamp (by omega)]; exact cp7), nI_clamp (n := s) (by omega), show f_join (mset M 0 0 0) s = (-4, mset M 0 0 0) by rw [f_join, if_neg (fun z => z (show M 26 0 < 0 by rw [pn]; decide))]; exact if_pos (show nV M = 40 by omega)], by rw [sp_join, gd0 co2 (show M 14 (nI s).toNatClampNeg = 0 by rw [nI_clamp (by omega)]; exact cp7)], ad, rfl, by rw [sp_join, gd0 co2 (show M 14 (nI s).toNatClampNeg = 0 by rw [nI_clamp (by omega)]; exact cp7), nI_clamp (n := s) (by omega), show f_join (mset M 0 0 0) s = (-4, mset M 0 0 0) by rw [f_join, if_neg (fun z => z (show M 26 0 < 0 by rw [pn]; decide))]; exact if_pos (show nV M = 40 by omega)]; exact cr_code 0 hC⟩)
  · refine hg_tv (show cr_pen ad M = .ref (ad 10 p9) by rw [cr_pen, ep, if_neg (nI_pos (by omega)), nI_clamp (by omega)]) ?_
    refine hg_ifnull C d_MM_join_14 ?_
    refine hg_bipush (v := (-5)) C d_MM_join_17 (by decide) ?_
    exact hg_iret C hr rfl d_MM_join_19 (Nat.le_of_ble_eq_true rfl) (Nat.le_of_ble_eq_true rfl) (⟨by rw [sp_join, gd0 co2 (show M 14 (nI s).toNatClampNeg = 0 by rw [nI_clamp (by omega)]; exact cp7), nI_clamp (n := s) (by omega), show f_join (mset M 0 0 0) s = (-5, mset M 0 0 0) from if_pos (show ¬ M 26 0 < 0 by rw [ep]; exact nI_pos (by omega))], by rw [sp_join, gd0 co2 (show M 14 (nI s).toNatClampNeg = 0 by rw [nI_clamp (by omega)]; exact cp7)], ad, rfl, by rw [sp_join, gd0 co2 (show M 14 (nI s).toNatClampNeg = 0 by rw [nI_clamp (by omega)]; exact cp7), nI_clamp (n := s) (by omega), show f_join (mset M 0 0 0) s = (-5, mset M 0 0 0) from if_pos (show ¬ M 26 0 < 0 by rw [ep]; exact nI_pos (by omega))]; exact cr_code 0 hC⟩)
abbrev rm_MM_settle : Room := { frames := 8, cells := 7, slots := 683, locals := 163 }
set_option maxHeartbeats 4000000 in
set_option maxRecDepth 100000 in
theorem k_MM_settle (l : Launch) (hl9 : l.stackTraces = false) (Γ : Gam) (h : Pic) (ad : Nat → Nat → Nat) (M : Mem) (hC : cr_at Γ ad M h) (hI : Inv0 M) (hIv : Ivr M) (k0 v0 : Int32) : kM l Γ y_MM_settle w_MM_settle rm_MM_settle [.ref (ad 0 0), .int k0, .int v0] h (pubQ Γ ad (sp_settle M k0 v0)) (pubX Γ ad (sp_settle M k0 v0)) 7 683 := by
  refine hg_entry (own := "ModelMerge") (cc := b_MM_settle) (maxL := 5) (ret := (some .int)) (lv0 := [(0, .ref (ad 0 0)), (1, .int k0), (2, .int v0)]) (by decide) rfl rfl (Nat.le_of_ble_eq_true rfl) rfl ?_
  intro p e s m args below meth c A C hne hr
  have kx : h (ad 0 0) = some (.inr (6, [.ref (ad 1 0), .ref (ad 2 0), .int (M 1 0), .ref (ad 3 0), .int (M 9 0), .ref (ad 4 0), .int (M 4 0), .ref (ad 14 (nV M - 1)), .ref (ad 5 0), .int (M 22 0), .ref (ad 6 0), cr_pen ad M])) := hC.1 0 0 (liv0 (by omega))
  have kA1 : h (ad 1 0) = some (.inl ((Γ.2.1 0), 60, .inl (M 2))) := hC.1 1 0 (liv0 (by omega))
  have kA2 : h (ad 2 0) = some (.inl ((Γ.2.1 0), 60, .inl (M 3))) := hC.1 2 0 (liv0 (by omega))
  have kA3 : h (ad 3 0) = some (.inl ((Γ.2.1 3), 20, .inr (.inr (.inr (.inr (fun j => if j < nS M then some (ad 10 j) else none)))))) := hC.1 3 0 (liv0 (by omega))
  have kA4 : h (ad 4 0) = some (.inl ((Γ.2.1 4), 40, .inr (.inr (.inr (.inr (fun j => if j < nV M then some (ad 14 j) else none)))))) := hC.1 4 0 (liv0 (by omega))
  have kA5 : h (ad 5 0) = some (.inl ((Γ.2.1 5), 10, .inr (.inr (.inr (.inr (fun j => if j < nR M then some (ad 18 j) else none)))))) := hC.1 5 0 (liv0 (by omega))
  have kA6 : h (ad 6 0) = some (.inr (0, [.ref (ad 7 0), .ref (ad 8 0), .ref (ad 9 0), .int (M 27 0)])) := hC.1 6 0 (liv0 (by omega))
  have kA7 : h (ad 7 0) = some (.inl ((Γ.2.1 0), 300, .inl (M 28))) := hC.1 7 0 (liv0 (by omega))
  have kA8 : h (ad 8 0) = some (.inl ((Γ.2.1 0), 300, .inl (M 29))) := hC.1 8 0 (liv0 (by omega))
  have kA9 : h (ad 9 0) = some (.inl ((Γ.2.1 0), 300, .inl (M 30))) := hC.1 9 0 (liv0 (by omega))
  obtain ⟨⟨⟨eT, hT⟩, ⟨eV, hV1, hV⟩, ⟨eS, hS⟩, ⟨eR, hRR⟩, ⟨eC, hCn⟩⟩, hI2, hI3, hI4, hI5, hI6, hI7, hI8, -, hI10, hI11⟩ := id hI
  refine hg_iload_n C 2 d_MM_settle_0 rfl rfl ?_
  refine hg_Sn C (k_MM_checkSide l hl9 Γ _ v0) (cw_MM_159 C.2.2.2.2.1 rfl rfl ⟨Nat.le_of_ble_eq_true rfl, Nat.le_of_ble_eq_true rfl⟩) rfl rfl (Nat.le_of_ble_eq_true rfl) d_MM_settle_1 ⟨Nat.le_of_ble_eq_true rfl, Nat.le_of_ble_eq_true rfl⟩ (fun cb1 => ?_) (fun cb1 => hg_out C hne (Nat.le_of_ble_eq_true rfl) (Nat.le_of_ble_eq_true rfl) (⟨Or.inl ⟨rfl, by rw [sp_settle, gd1 (fun z => cb1 (in2_01 z.2))]⟩, by rw [sp_settle, gd1 (fun z => cb1 (in2_01 z.2))]; exact cr_code 1 hC⟩))
  have in2 : inr v0 2 := by rcases cb1 with z | z <;> rw [z] <;> exact ⟨by decide, by decide⟩
  refine hg_aload_n C 0 d_MM_settle_4 rfl rfl ?_
  refine hg_iload_n C 1 d_MM_settle_5 rfl rfl ?_
  refine hg_V (q := ("ModelMerge", T_MM, 12)) C (k_MM_pendingWithConflict l hl9 Γ _ ad M hC hI k0) (cw_MM_138 C.2.2.2.2.1 rfl rfl ⟨Nat.le_of_ble_eq_true rfl, Nat.le_of_ble_eq_true rfl⟩) kx rfl rfl rfl (Nat.le_of_ble_eq_true rfl) d_MM_settle_6 ⟨Nat.le_of_ble_eq_true rfl, Nat.le_of_ble_eq_true rfl⟩ (fun r u hq => ?_) (fun E u hq => hg_out C hne (Nat.le_of_ble_eq_true rfl) (Nat.le_of_ble_eq_true rfl) (by rw [hq.1]; exact hq.2.elim (fun z => by rw [z.1]; have z := z.2; exact ⟨Or.inl ⟨rfl, by rw [sp_settle, gd1 (fun y => z y.1)]⟩, by rw [sp_settle, gd1 (fun y => z y.1)]; exact cr_code 1 hC⟩) (fun z => by rw [z.1]; have z1 := z.2.1; have z2 := z.2.2; exact ⟨Or.inr ⟨rfl, by rw [sp_settle, gd2 (⟨⟨z1, Or.inl (by rw [z2]; decide)⟩, in2⟩) (fun y => y (by rw [z2]; decide))]⟩, by rw [sp_settle, gd2 (⟨⟨z1, Or.inl (by rw [z2]; decide)⟩, in2⟩) (fun y => y (by rw [z2]; decide))]; exact cr_code 2 hC⟩)))
  obtain ⟨hu, s, hs, ep, e14, hv40, rfl, hk9⟩ := hq
  refine hg_eq hu ?_
  obtain ⟨k, hk, rfl⟩ := inr_nat (n := nC M) (id hk9) (by omega)
  have hvl : nV M - 1 < nV M := by omega
  have ks_s : h (ad 10 s) = some (.inr (3, [.int (nI s), .int (M 10 s), .ref (ad 14 (bs M s)), .ref (ad 11 s), .ref (ad 13 (60 * s + sd M s)), .int (M 13 s), .int (M 14 s), .int (M 15 s)])) := hC.1 10 s (livS (by omega) (by omega) (by omega))
  have kt_s : h (ad 11 s) = some (.inr (4, [.ref (ad 12 s)])) := hC.1 11 s (livS (by omega) (by omega) (by omega))
  have ku_s : h (ad 12 s) = some (.inl ((Γ.2.1 0), 360, .inl (sc M s))) := hC.1 12 s (livS (by omega) (by omega) (by omega))
  have kv_l : h (ad 14 (nV M - 1)) = some (.inr (5, [.int (nI (nV M - 1)), .int (au M (nV M - 1)), .ref (ad 15 (nV M - 1)), .ref (ad 17 (nV M - 1))])) := hC.1 14 (nV M - 1) (livV (by omega) (by omega) (by omega))
  have kw_l : h (ad 15 (nV M - 1)) = some (.inr (4, [.ref (ad 16 (nV M - 1))])) := hC.1 15 (nV M - 1) (livV (by omega) (by omega) (by omega))
  have ky_l : h (ad 16 (nV M - 1)) = some (.inl ((Γ.2.1 0), 360, .inl (vc M (nV M - 1)))) := hC.1 16 (nV M - 1) (livV (by omega) (by omega) (by omega))
  have kz_l : h (ad 17 (nV M - 1)) = some (.inl ((Γ.2.1 0), 300, .inl (og M (nV M - 1)))) := hC.1 17 (nV M - 1) (livV (by omega) (by omega) (by omega))
  refine hg_astore_n (lv' := [(3, .ref (ad 10 s)), (0, .ref (ad 0 0)), (1, .int (nI k)), (2, .int v0)]) C d_MM_settle_9 rfl (by decide) rfl ?_
  refine hg_aload_n C 1 d_MM_settle_10 rfl rfl ?_
  refine f_MM_50 C kx rfl d_MM_settle_11 ?_
  refine hg_iload_n C 2 d_MM_settle_14 rfl rfl ?_
  refine hg_iload_n C 3 d_MM_settle_15 rfl rfl ?_
  have kC6 : h (ad 6 0) = some (.inr (0, [.ref (ad 7 0), .ref (ad 8 0), .ref (ad 9 0), .int (nI (nC M))])) := by rw [← eC]; exact kA6
  refine hg_VNz (q := ("ModelMerge$Conflicts", T_Cf, 4)) C (k_Cf_choose l Γ _ (ad 6 0) (ad 7 0) (ad 8 0) (ad 9 0) (M 28) (M 29) (M 30) (nC M) k hk (by omega) kC6 kA7 kA8 kA9 v0) (cw_MM_162 C.2.2.2.2.1 rfl rfl ⟨Nat.le_of_ble_eq_true rfl, Nat.le_of_ble_eq_true rfl⟩) kA6 rfl rfl rfl (Nat.le_of_ble_eq_true rfl) d_MM_settle_16 ⟨Nat.le_of_ble_eq_true rfl, Nat.le_of_ble_eq_true rfl⟩ (fun u eu => ?_)
  have hCu := cr_code 0 (cr_choose hC eu)
  rw [mset_comm (by decide)] at hCu
  have hv01 : v0 = 0 ∨ v0 = 1 := cb1
  obtain ⟨N, eN⟩ : ∃ N, N = mset M 0 0 0 := ⟨_, rfl⟩
  rw [← eN] at hCu
  have hN : Ivr N := by rw [eN]; exact hIv.code
  have hK := inv_settle (k := k) (v := v0) hN hv01
  have e26 : N 26 0 = nI s := by rw [eN]; exact ep
  have e30 : N 30 = M 30 := by rw [eN]; rfl
  have qC : nC N = nC M := by rw [eN]; rfl
  have hsK : s < nS (mset N 30 k v0) := by rw [eN]; exact hs
  have hvK : nV (mset N 30 k v0) < 40 := by rw [eN]; exact hv40
  have kxu : u (ad 0 0) = some (.inr (6, [.ref (ad 1 0), .ref (ad 2 0), .int (M 1 0), .ref (ad 3 0), .int (M 9 0), .ref (ad 4 0), .int (M 4 0), .ref (ad 14 (nV M - 1)), .ref (ad 5 0), .int (M 22 0), .ref (ad 6 0), cr_pen ad M])) := by rw [eu]; exact hp_up_g kx (fun z => by rw [z, kA9] at kx; cases kx)
  have k6u : u (ad 6 0) = some (.inr (0, [.ref (ad 7 0), .ref (ad 8 0), .ref (ad 9 0), .int (nI (nC M))])) := by rw [eu]; exact hp_up_g kC6 (fun z => by rw [z, kA9] at kC6; cases kC6)
  have k9u : u (ad 9 0) = some (.inl (Γ.2.1 0, 300, .inl (upd (M 30) k v0))) := by rw [eu]; exact hp_up_s
  refine hg_aload_n C 1 d_MM_settle_19 rfl rfl ?_
  refine f_MM_50 C kxu rfl d_MM_settle_20 ?_
  refine hg_VNv (q := ("ModelMerge$Conflicts", T_Cf, 4)) C (k_Cf_countUnsettled l Γ _ (ad 6 0) (ad 7 0) (ad 8 0) (ad 9 0) (nC M) (upd (M 30) k v0) (by omega) k6u k9u) (cw_MM_165 C.2.2.2.2.1 rfl rfl ⟨Nat.le_of_ble_eq_true rfl, Nat.le_of_ble_eq_true rfl⟩) k6u rfl rfl rfl (Nat.le_of_ble_eq_true rfl) d_MM_settle_23 ⟨Nat.le_of_ble_eq_true rfl, Nat.le_of_ble_eq_true rfl⟩ (fun _ => ?_)
  have hcu : c_un (upd (M 30) k v0) (nC M) = c_ls (upd (N 30) k v0) (nC N) := by
    rw [e30, qC]
    refine (cls_un (nC M) (fun j hj => ?_)).symm
    by_cases q : j = k
    · rw [q, pk_us]; exact Or.inr hv01
    · rw [pk_un q]; exact (hI7 j hj).2.2
  obtain ⟨L, eL⟩ : ∃ L, L = c_ls (upd (N 30) k v0) (nC N) := ⟨_, rfl⟩
  have hL := c_ls_le (upd (N 30) k v0) (nC N)
  rw [← eL] at hcu hL
  refine hg_ti (show nI (c_un (upd (M 30) k v0) (nC M)) = nI L by rw [hcu]) ?_
  refine hg_istore (lv' := [(4, .int (nI L)), (3, .ref (ad 10 s)), (0, .ref (ad 0 0)), (1, .int (nI k)), (2, .int v0)]) C d_MM_settle_26 (by decide) rfl ?_
  refine hg_iload C 0 d_MM_settle_28 rfl ?_
  refine hg_if_ne C 38 d_MM_settle_30 (by decide) (fun c30 => ?_) (fun c30 => ?_)
  · have c30n : ¬ L = 0 := fun z => c30 (congrArg nI z)
    refine hg_iload C 0 d_MM_settle_38 rfl ?_
    exact hg_iret C hr rfl d_MM_settle_40 (Nat.le_of_ble_eq_true rfl) (Nat.le_of_ble_eq_true rfl) (⟨by rw [sp_settle, gd0 ⟨⟨nI_pos (by omega), Or.inr hk9.2⟩, in2⟩ (show ¬ M 26 0 < 0 by rw [ep]; exact nI_pos (by omega)), show f_settle (mset M 0 0 0) (nI k).toNatClampNeg v0 = (nI L, mset N 30 k v0) by rw [nI_clamp (n := k) (by omega), ← eN, f_settle, ← eL, if_neg (by omega)]], by rw [sp_settle, gd0 ⟨⟨nI_pos (by omega), Or.inr hk9.2⟩, in2⟩ (show ¬ M 26 0 < 0 by rw [ep]; exact nI_pos (by omega))], ad, rfl, by rw [sp_settle, gd0 ⟨⟨nI_pos (by omega), Or.inr hk9.2⟩, in2⟩ (show ¬ M 26 0 < 0 by rw [ep]; exact nI_pos (by omega)), show f_settle (mset M 0 0 0) (nI k).toNatClampNeg v0 = (nI L, mset N 30 k v0) by rw [nI_clamp (n := k) (by omega), ← eN, f_settle, ← eL, if_neg (by omega)]]; exact hCu⟩)
  · have c30n : L = 0 := (nI_eq (a := L) (b := 0) (by omega) (by omega)).mp c30
    refine hg_aload_n C 2 d_MM_settle_33 rfl rfl ?_
    refine hg_aload_n C 1 d_MM_settle_34 rfl rfl ?_
    have hfit : I_fit (mset N 30 k v0) s := by
      have y := hK.2.2.2.2.2.2.2 (show ¬ mset N 30 k v0 26 0 < 0 by rw [mset_n (by decide), e26]; exact nI_pos (by omega))
      rw [mset_n (by decide), e26, nI_clamp (by omega)] at y
      exact y
    have hall : I_all (mset N 30 k v0) := fun j hj => by
      rw [mset_s]
      exact cls_all (nC N) (by omega) j hj
    refine hg_VNz (q := ("ModelMerge", T_MM, 12)) C (k_MM_finishJoining l Γ _ ad (mset N 30 k v0) hCu hK.1 hK.2.2.1 hvK s hsK hfit hall) (cw_MM_132 C.2.2.2.2.1 rfl rfl ⟨Nat.le_of_ble_eq_true rfl, Nat.le_of_ble_eq_true rfl⟩) kxu rfl rfl rfl (Nat.le_of_ble_eq_true rfl) d_MM_settle_35 ⟨Nat.le_of_ble_eq_true rfl, Nat.le_of_ble_eq_true rfl⟩ (fun u2 hu2 => ?_)
    obtain ⟨ad', ha0, hCf⟩ := hu2
    refine hg_iload C 0 d_MM_settle_38 rfl ?_
    exact hg_iret C hr rfl d_MM_settle_40 (Nat.le_of_ble_eq_true rfl) (Nat.le_of_ble_eq_true rfl) (⟨by rw [sp_settle, gd0 ⟨⟨nI_pos (by omega), Or.inr hk9.2⟩, in2⟩ (show ¬ M 26 0 < 0 by rw [ep]; exact nI_pos (by omega)), show f_settle (mset M 0 0 0) (nI k).toNatClampNeg v0 = (nI L, m_fin (mset N 30 k v0) s) by rw [nI_clamp (n := k) (by omega), ← eN, f_settle, ← eL, if_pos (by omega), e26, nI_clamp (n := s) (by omega)]], by rw [sp_settle, gd0 ⟨⟨nI_pos (by omega), Or.inr hk9.2⟩, in2⟩ (show ¬ M 26 0 < 0 by rw [ep]; exact nI_pos (by omega))], ad', ha0, by rw [sp_settle, gd0 ⟨⟨nI_pos (by omega), Or.inr hk9.2⟩, in2⟩ (show ¬ M 26 0 < 0 by rw [ep]; exact nI_pos (by omega)), show f_settle (mset M 0 0 0) (nI k).toNatClampNeg v0 = (nI L, m_fin (mset N 30 k v0) s) by rw [nI_clamp (n := k) (by omega), ← eN, f_settle, ← eL, if_pos (by omega), e26, nI_clamp (n := s) (by omega)]]; exact hCf⟩)
