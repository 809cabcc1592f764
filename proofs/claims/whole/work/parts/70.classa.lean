/-! THE CLASS: session, make, set, drop, undo, redo -/
theorem go_neg {M : Mem} {k s : Nat} (hs : s < 2 ^ 31) (h : M k (60 * s + sd M s) = -1) : f_go M k (nI s) = (-1, mset M 12 s (nI (sd M s))) := by
  rw [f_go, nI_clamp hs, h]
  rw [if_pos (by decide)]
theorem go_pos {M : Mem} {k s j : Nat} (hs : s < 2 ^ 31) (hj : j < 2 ^ 31) (h : M k (60 * s + sd M s) = nI j) : f_go M k (nI s) = (nI j, mset M 12 s (nI j)) := by
  rw [f_go, nI_clamp hs, h]
  rw [if_neg (nI_pos hj)]
theorem cr_same12 {Γ : Gam} {ad : Nat → Nat → Nat} {M : Mem} {h : Pic} (hC : cr_at Γ ad M h) {s : Nat} (e : M 12 s = nI (sd M s)) : cr_at Γ ad (mset (mset M 0 0 0) 12 s (nI (sd (mset M 0 0 0) s))) h := by
  show cr_at Γ ad (mset (mset M 0 0 0) 12 s (nI (sd M s))) h
  rw [mset_self (M := mset M 0 0 0) (k := 12) (i := s) e]
  exact cr_code 0 hC
theorem sp_set_chg {M : Mem} {s t f v : Int32} (hf : inr f 5) : sp_set M s t f v = gd (inr s (nI (nS M)) ∧ inr t (nI (nT M))) (M 14 s.toNatClampNeg = 0) M (f_chg (mset M 0 0 0) s t 0 f v) := by
  unfold sp_set
  by_cases h1 : inr s (nI (nS M)) ∧ inr t (nI (nT M))
  · by_cases h2 : M 14 s.toNatClampNeg = 0
    · rw [gd0 h1 h2, gd0 ⟨h1.1, h1.2, hf⟩ h2]
    · rw [gd2 h1 h2, gd2 ⟨h1.1, h1.2, hf⟩ h2]
  · rw [gd1 h1, gd1 (fun z => h1 ⟨z.1, z.2.1⟩)]
/-- a change of a thing -/
noncomputable def sp_chg (M : Mem) (s t hw f v : Int32) : Int32 × Int32 × Mem := gd (inr s (nI (nS M)) ∧ inr t (nI (nT M))) (M 14 s.toNatClampNeg = 0) M (f_chg (mset M 0 0 0) s t hw f v)
theorem bar_code {M : Mem} {s t : Nat} : f_barred (mset M 0 0 0) s t = f_barred M s t := by
  have e : stv (mset M 0 0 0) s (sd (mset M 0 0 0) s) t 0 = stv M s (sd M s) t 0 := stv_code 0 s _ t 0
  unfold f_barred
  rw [e]
  rfl
theorem chg_bar {M : Mem} {s t : Nat} {hw f v x : Int32} (hs : s < 2 ^ 31) (ht : t < 2 ^ 31) (h : f_barred M s t = x) (hx : x < 0) : f_chg (mset M 0 0 0) (nI s) (nI t) hw f v = (x, mset M 0 0 0) := by
  rw [f_chg, nI_clamp hs, nI_clamp ht, bar_code, h, if_pos hx]
theorem chg_go {M : Mem} {s t : Nat} {hw f v : Int32} (hs : s < 2 ^ 31) (ht : t < 2 ^ 31) (h : f_barred M s t = 0) : f_chg (mset M 0 0 0) (nI s) (nI t) hw f v = (nI (nm M s), mset (m_change M s (sd M s) (nm M s) hw (nI t) f v) 0 0 0) := by
  rw [f_chg, nI_clamp hs, nI_clamp ht, bar_code, h, if_neg (by decide), m_change_code]
  rfl
abbrev rm_MM_undo : Room := { frames := 7, cells := 2, slots := 12, locals := 112 }
set_option maxHeartbeats 4000000 in
set_option maxRecDepth 100000 in
theorem k_MM_undo (l : Launch) (hl9 : l.stackTraces = false) (Γ : Gam) (h : Pic) (ad : Nat → Nat → Nat) (M : Mem) (hC : cr_at Γ ad M h) (hI : Inv0 M)  (s0 : Int32) : kM l Γ y_MM_undo w_MM_undo rm_MM_undo [.ref (ad 0 0), .int s0] h (pubQ Γ ad (sp_undo M s0)) (pubX Γ ad (sp_undo M s0)) 2 12 := by
  refine hg_entry (own := "ModelMerge") (cc := b_MM_undo) (maxL := 3) (ret := (some .int)) (lv0 := [(0, .ref (ad 0 0)), (1, .int s0)]) (by decide) rfl rfl (Nat.le_of_ble_eq_true rfl) rfl ?_
  intro p e s m args below meth c A C hne hr
  have kx : h (ad 0 0) = some (.inr (6, [.ref (ad 1 0), .ref (ad 2 0), .int (M 1 0), .ref (ad 3 0), .int (M 9 0), .ref (ad 4 0), .int (M 4 0), .ref (ad 14 (nV M - 1)), .ref (ad 5 0), .int (M 22 0), .ref (ad 6 0), cr_pen ad M])) := hC.1 0 0 (liv0 (by omega))
  have kA1 : h (ad 1 0) = some (.inl ((Γ.2.1 0), 60, .inl (M 2))) := hC.1 1 0 (liv0 (by omega))
  have kA2 : h (ad 2 0) = some (.inl ((Γ.2.1 0), 60, .inl (M 3))) := hC.1 2 0 (liv0 (by omega))
  have kA3 : h (ad 3 0) = some (.inl ((Γ.2.1 3), 20, .inr (.inr (.inr (.inr (fun j => if j < nS M then some (ad 10 j) else none)))))) := hC.1 3 0 (liv0 (by omega))
  have kA4 : h (ad 4 0) = some (.inl ((Γ.2.1 4), 40, .inr (.inr (.inr (.inr (fun j => if j < nV M then some (ad 14 j) else none)))))) := hC.1 4 0 (liv0 (by omega))
  have kA5 : h (ad 5 0) = some (.inl ((Γ.2.1 5), 10, .inr (.inr (.inr (.inr (fun j => if j < nR M then some (ad 18 j) else none)))))) := hC.1 5 0 (liv0 (by omega))
  have kA6 : h (ad 6 0) = some (.inr (0, [.ref (ad 7 0), .ref (ad 8 0), .ref (ad 9 0), .int (M 27 0)])) := hC.1 6 0 (liv0 (by omega))
  have kA7 : h (ad 7 0) = some (.inl ((Γ.2.1 0), 300, .inl (M 28))) := hC.1 7 0 (liv0 (by omega))
  have kA8 : h (ad 8 0) = some (.inl ((Γ.2.1 0), 300, .inl (M 29))) := hC.1 8 0 (liv0 (by omega))
  have kA9 : h (ad 9 0) = some (.inl ((Γ.2.1 0), 300, .inl (M 30))) := hC.1 9 0 (liv0 (by omega))
  obtain ⟨⟨⟨eT, hT⟩, ⟨eV, hV1, hV⟩, ⟨eS, hS⟩, ⟨eR, hRR⟩, ⟨eC, hCn⟩⟩, hI2, hI3, hI4, hI5, hI6, hI7, hI8, -, hI10, hI11⟩ := id hI
  refine hg_aload_n C 0 d_MM_undo_0 rfl rfl ?_
  refine hg_iload_n C 1 d_MM_undo_1 rfl rfl ?_
  refine hg_Vv (q := ("ModelMerge", T_MM, 12)) C (k_MM_sessionOf l hl9 Γ _ ad M hC hI s0) (cw_MM_86 C.2.2.2.2.1 rfl rfl ⟨Nat.le_of_ble_eq_true rfl, Nat.le_of_ble_eq_true rfl⟩) kx rfl rfl rfl (Nat.le_of_ble_eq_true rfl) d_MM_undo_2 ⟨Nat.le_of_ble_eq_true rfl, Nat.le_of_ble_eq_true rfl⟩ (fun co2 => ?_) (fun co2 => hg_out C hne (Nat.le_of_ble_eq_true rfl) (Nat.le_of_ble_eq_true rfl) (⟨Or.inl ⟨rfl, by rw [sp_undo, gd1 (fun z => co2 z)]⟩, by rw [sp_undo, gd1 (fun z => co2 z)]; exact cr_code 1 hC⟩))
  obtain ⟨s, hs, rfl⟩ := inr_nat (n := nS M) (id co2) (by omega)
  refine hg_tr (congrArg (ad 10) (nI_clamp (n := s) (by omega))) ?_
  have ks_s : h (ad 10 s) = some (.inr (3, [.int (nI s), .int (M 10 s), .ref (ad 14 (bs M s)), .ref (ad 11 s), .ref (ad 13 (60 * s + sd M s)), .int (M 13 s), .int (M 14 s), .int (M 15 s)])) := hC.1 10 s (livS (by omega) (by omega) (by omega))
  have kt_s : h (ad 11 s) = some (.inr (4, [.ref (ad 12 s)])) := hC.1 11 s (livS (by omega) (by omega) (by omega))
  have ku_s : h (ad 12 s) = some (.inl ((Γ.2.1 0), 360, .inl (sc M s))) := hC.1 12 s (livS (by omega) (by omega) (by omega))
  refine hg_astore_n (lv' := [(2, .ref (ad 10 s)), (0, .ref (ad 0 0)), (1, .int (nI s))]) C d_MM_undo_5 rfl (by decide) rfl ?_
  refine hg_aload_n C 0 d_MM_undo_6 rfl rfl ?_
  refine hg_Sn C (k_MM_checkOpen l hl9 Γ _ (ad 10 s) (.int (nI s)) (.int (M 10 s)) (.ref (ad 14 (bs M s))) (.ref (ad 11 s)) (.ref (ad 13 (60 * s + sd M s))) (.int (M 13 s)) (.int (M 15 s)) (M 14 s) ks_s) (cw_MM_90 C.2.2.2.2.1 rfl rfl ⟨Nat.le_of_ble_eq_true rfl, Nat.le_of_ble_eq_true rfl⟩) rfl rfl (Nat.le_of_ble_eq_true rfl) d_MM_undo_7 ⟨Nat.le_of_ble_eq_true rfl, Nat.le_of_ble_eq_true rfl⟩ (fun cp7 => ?_) (fun cp7 => hg_out C hne (Nat.le_of_ble_eq_true rfl) (Nat.le_of_ble_eq_true rfl) (⟨Or.inr ⟨rfl, by rw [sp_undo, gd2 co2 (show ¬ M 14 (nI s).toNatClampNeg = 0 by rw [nI_clamp (by omega)]; exact cp7)]⟩, by rw [sp_undo, gd2 co2 (show ¬ M 14 (nI s).toNatClampNeg = 0 by rw [nI_clamp (by omega)]; exact cp7)]; exact cr_code 2 hC⟩))
  refine hg_aload_n C 0 d_MM_undo_10 rfl rfl ?_
  have hsd := (hI2 s hs).2.1.2
  have h60 := (hI2 s hs).2.2.1.2
  have e12 := (hI2 s hs).2.1.1
  by_cases h0 : sd M s = 0
  · have km : h (ad 13 (60 * s + sd M s)) = some (.inr (1, [.int (nI (sd M s)), .null, .int (mo_t M s (sd M s)), .int (mo_f M s (sd M s)), .int (mo_o M s (sd M s)), .int (mo_n M s (sd M s)), mo_l ad M s (sd M s)])) := by rw [cr_m hC hs hsd (by omega), mo_b, if_pos h0]
    have en : M 16 (60 * s + sd M s) = -1 := by rw [h0]; exact (hI4 s hs).1
    refine hg_VNv (q := ("ModelMerge$Session", T_Se, 8)) C (k_Se_stepBack0 l Γ _ (ad 10 s) (ad 11 s) (ad 13 (60 * s + sd M s)) (.int (nI s)) (.int (M 10 s)) (.ref (ad 14 (bs M s))) (.int (M 13 s)) (.int (M 14 s)) (.int (M 15 s)) (nI (sd M s)) (mo_t M s (sd M s)) (mo_f M s (sd M s)) (mo_o M s (sd M s)) (mo_n M s (sd M s)) (mo_l ad M s (sd M s)) ks_s km) (cw_MM_106 C.2.2.2.2.1 rfl rfl ⟨Nat.le_of_ble_eq_true rfl, Nat.le_of_ble_eq_true rfl⟩) ks_s rfl rfl rfl (Nat.le_of_ble_eq_true rfl) d_MM_undo_11 ⟨Nat.le_of_ble_eq_true rfl, Nat.le_of_ble_eq_true rfl⟩ (fun _ => ?_)
    exact hg_iret C hr rfl d_MM_undo_14 (Nat.le_of_ble_eq_true rfl) (Nat.le_of_ble_eq_true rfl) (⟨by rw [sp_undo, gd0 co2 (show M 14 (nI s).toNatClampNeg = 0 by rw [nI_clamp (by omega)]; exact cp7), go_neg (M := mset M 0 0 0) (k := 16) (by omega) en], by rw [sp_undo, gd0 co2 (show M 14 (nI s).toNatClampNeg = 0 by rw [nI_clamp (by omega)]; exact cp7)], ad, rfl, by rw [sp_undo, gd0 co2 (show M 14 (nI s).toNatClampNeg = 0 by rw [nI_clamp (by omega)]; exact cp7), go_neg (M := mset M 0 0 0) (k := 16) (by omega) en]; exact cr_same12 hC e12⟩)
  · obtain ⟨⟨e16, hbf⟩, -⟩ := (hI4 s hs).2 (sd M s) (by omega) hsd
    have km : h (ad 13 (60 * s + sd M s)) = some (.inr (1, [.int (nI (sd M s)), .ref (ad 13 (60 * s + bf M (60 * s + sd M s))), .int (mo_t M s (sd M s)), .int (mo_f M s (sd M s)), .int (mo_o M s (sd M s)), .int (mo_n M s (sd M s)), mo_l ad M s (sd M s)])) := by rw [cr_m hC hs hsd (by omega), mo_b, if_neg h0]
    have kq : h (ad 13 (60 * s + bf M (60 * s + sd M s))) = some (.inr (1, [.int (nI (bf M (60 * s + sd M s))), mo_b ad M s (bf M (60 * s + sd M s)), .int (mo_t M s (bf M (60 * s + sd M s))), .int (mo_f M s (bf M (60 * s + sd M s))), .int (mo_o M s (bf M (60 * s + sd M s))), .int (mo_n M s (bf M (60 * s + sd M s))), mo_l ad M s (bf M (60 * s + sd M s))])) := by rw [cr_m hC hs (show bf M (60 * s + sd M s) < nm M s by omega) (by omega)]
    refine hg_VNu (q := ("ModelMerge$Session", T_Se, 8)) C (k_Se_stepBack l Γ _ (ad 10 s) (ad 11 s) (ad 12 s) (ad 13 (60 * s + sd M s)) (sc M s) (.int (nI s)) (.int (M 10 s)) (.ref (ad 14 (bs M s))) (.int (M 13 s)) (.int (M 14 s)) (.int (M 15 s)) ks_s kt_s ku_s (ad 13 (60 * s + bf M (60 * s + sd M s))) (nI (sd M s)) (mo_t M s (sd M s)) (mo_f M s (sd M s)) (mo_o M s (sd M s)) (mo_n M s (sd M s)) (nI (bf M (60 * s + sd M s))) (mo_l ad M s (sd M s)) (mo_b ad M s (bf M (60 * s + sd M s))) (.int (mo_t M s (bf M (60 * s + sd M s)))) (.int (mo_f M s (bf M (60 * s + sd M s)))) (.int (mo_o M s (bf M (60 * s + sd M s)))) (.int (mo_n M s (bf M (60 * s + sd M s)))) (mo_l ad M s (bf M (60 * s + sd M s))) km kq) (cw_MM_106 C.2.2.2.2.1 rfl rfl ⟨Nat.le_of_ble_eq_true rfl, Nat.le_of_ble_eq_true rfl⟩) ks_s rfl rfl rfl (Nat.le_of_ble_eq_true rfl) d_MM_undo_11 ⟨Nat.le_of_ble_eq_true rfl, Nat.le_of_ble_eq_true rfl⟩ (fun u eu => ?_)
    exact hg_iret C hr rfl d_MM_undo_14 (Nat.le_of_ble_eq_true rfl) (Nat.le_of_ble_eq_true rfl) (⟨by rw [sp_undo, gd0 co2 (show M 14 (nI s).toNatClampNeg = 0 by rw [nI_clamp (by omega)]; exact cp7), go_pos (M := mset M 0 0 0) (k := 16) (j := (bf M (60 * s + sd M s))) (by omega) (by omega) e16], by rw [sp_undo, gd0 co2 (show M 14 (nI s).toNatClampNeg = 0 by rw [nI_clamp (by omega)]; exact cp7)], ad, rfl, by rw [sp_undo, gd0 co2 (show M 14 (nI s).toNatClampNeg = 0 by rw [nI_clamp (by omega)]; exact cp7), go_pos (M := mset M 0 0 0) (k := 16) (j := (bf M (60 * s + sd M s))) (by omega) (by omega) e16, mset_comm (k := 0) (by decide)]; exact cr_code 0 (cr_stand hC hs (by omega) (stp_back (hI.bf hs) h0 hsd (by omega) ((J_of hI s hs).2.2.1 _ (by omega) hsd).2) rfl eu)⟩)
abbrev rm_MM_redo : Room := { frames := 7, cells := 2, slots := 12, locals := 112 }
set_option maxHeartbeats 4000000 in
set_option maxRecDepth 100000 in
theorem k_MM_redo (l : Launch) (hl9 : l.stackTraces = false) (Γ : Gam) (h : Pic) (ad : Nat → Nat → Nat) (M : Mem) (hC : cr_at Γ ad M h) (hI : Inv0 M)  (s0 : Int32) : kM l Γ y_MM_redo w_MM_redo rm_MM_redo [.ref (ad 0 0), .int s0] h (pubQ Γ ad (sp_redo M s0)) (pubX Γ ad (sp_redo M s0)) 2 12 := by
  refine hg_entry (own := "ModelMerge") (cc := b_MM_redo) (maxL := 3) (ret := (some .int)) (lv0 := [(0, .ref (ad 0 0)), (1, .int s0)]) (by decide) rfl rfl (Nat.le_of_ble_eq_true rfl) rfl ?_
  intro p e s m args below meth c A C hne hr
  have kx : h (ad 0 0) = some (.inr (6, [.ref (ad 1 0), .ref (ad 2 0), .int (M 1 0), .ref (ad 3 0), .int (M 9 0), .ref (ad 4 0), .int (M 4 0), .ref (ad 14 (nV M - 1)), .ref (ad 5 0), .int (M 22 0), .ref (ad 6 0), cr_pen ad M])) := hC.1 0 0 (liv0 (by omega))
  have kA1 : h (ad 1 0) = some (.inl ((Γ.2.1 0), 60, .inl (M 2))) := hC.1 1 0 (liv0 (by omega))
  have kA2 : h (ad 2 0) = some (.inl ((Γ.2.1 0), 60, .inl (M 3))) := hC.1 2 0 (liv0 (by omega))
  have kA3 : h (ad 3 0) = some (.inl ((Γ.2.1 3), 20, .inr (.inr (.inr (.inr (fun j => if j < nS M then some (ad 10 j) else none)))))) := hC.1 3 0 (liv0 (by omega))
  have kA4 : h (ad 4 0) = some (.inl ((Γ.2.1 4), 40, .inr (.inr (.inr (.inr (fun j => if j < nV M then some (ad 14 j) else none)))))) := hC.1 4 0 (liv0 (by omega))
  have kA5 : h (ad 5 0) = some (.inl ((Γ.2.1 5), 10, .inr (.inr (.inr (.inr (fun j => if j < nR M then some (ad 18 j) else none)))))) := hC.1 5 0 (liv0 (by omega))
  have kA6 : h (ad 6 0) = some (.inr (0, [.ref (ad 7 0), .ref (ad 8 0), .ref (ad 9 0), .int (M 27 0)])) := hC.1 6 0 (liv0 (by omega))
  have kA7 : h (ad 7 0) = some (.inl ((Γ.2.1 0), 300, .inl (M 28))) := hC.1 7 0 (liv0 (by omega))
  have kA8 : h (ad 8 0) = some (.inl ((Γ.2.1 0), 300, .inl (M 29))) := hC.1 8 0 (liv0 (by omega))
  have kA9 : h (ad 9 0) = some (.inl ((Γ.2.1 0), 300, .inl (M 30))) := hC.1 9 0 (liv0 (by omega))
  obtain ⟨⟨⟨eT, hT⟩, ⟨eV, hV1, hV⟩, ⟨eS, hS⟩, ⟨eR, hRR⟩, ⟨eC, hCn⟩⟩, hI2, hI3, hI4, hI5, hI6, hI7, hI8, -, hI10, hI11⟩ := id hI
  refine hg_aload_n C 0 d_MM_redo_0 rfl rfl ?_
  refine hg_iload_n C 1 d_MM_redo_1 rfl rfl ?_
  refine hg_Vv (q := ("ModelMerge", T_MM, 12)) C (k_MM_sessionOf l hl9 Γ _ ad M hC hI s0) (cw_MM_86 C.2.2.2.2.1 rfl rfl ⟨Nat.le_of_ble_eq_true rfl, Nat.le_of_ble_eq_true rfl⟩) kx rfl rfl rfl (Nat.le_of_ble_eq_true rfl) d_MM_redo_2 ⟨Nat.le_of_ble_eq_true rfl, Nat.le_of_ble_eq_true rfl⟩ (fun co2 => ?_) (fun co2 => hg_out C hne (Nat.le_of_ble_eq_true rfl) (Nat.le_of_ble_eq_true rfl) (⟨Or.inl ⟨rfl, by rw [sp_redo, gd1 (fun z => co2 z)]⟩, by rw [sp_redo, gd1 (fun z => co2 z)]; exact cr_code 1 hC⟩))
  obtain ⟨s, hs, rfl⟩ := inr_nat (n := nS M) (id co2) (by omega)
  refine hg_tr (congrArg (ad 10) (nI_clamp (n := s) (by omega))) ?_
  have ks_s : h (ad 10 s) = some (.inr (3, [.int (nI s), .int (M 10 s), .ref (ad 14 (bs M s)), .ref (ad 11 s), .ref (ad 13 (60 * s + sd M s)), .int (M 13 s), .int (M 14 s), .int (M 15 s)])) := hC.1 10 s (livS (by omega) (by omega) (by omega))
  have kt_s : h (ad 11 s) = some (.inr (4, [.ref (ad 12 s)])) := hC.1 11 s (livS (by omega) (by omega) (by omega))
  have ku_s : h (ad 12 s) = some (.inl ((Γ.2.1 0), 360, .inl (sc M s))) := hC.1 12 s (livS (by omega) (by omega) (by omega))
  refine hg_astore_n (lv' := [(2, .ref (ad 10 s)), (0, .ref (ad 0 0)), (1, .int (nI s))]) C d_MM_redo_5 rfl (by decide) rfl ?_
  refine hg_aload_n C 0 d_MM_redo_6 rfl rfl ?_
  refine hg_Sn C (k_MM_checkOpen l hl9 Γ _ (ad 10 s) (.int (nI s)) (.int (M 10 s)) (.ref (ad 14 (bs M s))) (.ref (ad 11 s)) (.ref (ad 13 (60 * s + sd M s))) (.int (M 13 s)) (.int (M 15 s)) (M 14 s) ks_s) (cw_MM_90 C.2.2.2.2.1 rfl rfl ⟨Nat.le_of_ble_eq_true rfl, Nat.le_of_ble_eq_true rfl⟩) rfl rfl (Nat.le_of_ble_eq_true rfl) d_MM_redo_7 ⟨Nat.le_of_ble_eq_true rfl, Nat.le_of_ble_eq_true rfl⟩ (fun cp7 => ?_) (fun cp7 => hg_out C hne (Nat.le_of_ble_eq_true rfl) (Nat.le_of_ble_eq_true rfl) (⟨Or.inr ⟨rfl, by rw [sp_redo, gd2 co2 (show ¬ M 14 (nI s).toNatClampNeg = 0 by rw [nI_clamp (by omega)]; exact cp7)]⟩, by rw [sp_redo, gd2 co2 (show ¬ M 14 (nI s).toNatClampNeg = 0 by rw [nI_clamp (by omega)]; exact cp7)]; exact cr_code 2 hC⟩))
  refine hg_aload_n C 0 d_MM_redo_10 rfl rfl ?_
  have hsd := (hI2 s hs).2.1.2
  have h60 := (hI2 s hs).2.2.1.2
  have e12 := (hI2 s hs).2.1.1
  rcases hI5 s hs (sd M s) hsd with el | ⟨j, el, hj1, hj2, hbj⟩
  · have km : h (ad 13 (60 * s + sd M s)) = some (.inr (1, [.int (nI (sd M s)), mo_b ad M s (sd M s), .int (mo_t M s (sd M s)), .int (mo_f M s (sd M s)), .int (mo_o M s (sd M s)), .int (mo_n M s (sd M s)), .null])) := by rw [cr_m hC hs hsd (by omega), mo_l, el, if_pos (show (-1 : Int32) < 0 by decide)]
    have en := el
    refine hg_VNv (q := ("ModelMerge$Session", T_Se, 8)) C (k_Se_stepForward0 l Γ _ (ad 10 s) (ad 11 s) (ad 13 (60 * s + sd M s)) (.int (nI s)) (.int (M 10 s)) (.ref (ad 14 (bs M s))) (.int (M 13 s)) (.int (M 14 s)) (.int (M 15 s)) (nI (sd M s)) (mo_t M s (sd M s)) (mo_f M s (sd M s)) (mo_o M s (sd M s)) (mo_n M s (sd M s)) (mo_b ad M s (sd M s)) ks_s km) (cw_MM_110 C.2.2.2.2.1 rfl rfl ⟨Nat.le_of_ble_eq_true rfl, Nat.le_of_ble_eq_true rfl⟩) ks_s rfl rfl rfl (Nat.le_of_ble_eq_true rfl) d_MM_redo_11 ⟨Nat.le_of_ble_eq_true rfl, Nat.le_of_ble_eq_true rfl⟩ (fun _ => ?_)
    exact hg_iret C hr rfl d_MM_redo_14 (Nat.le_of_ble_eq_true rfl) (Nat.le_of_ble_eq_true rfl) (⟨by rw [sp_redo, gd0 co2 (show M 14 (nI s).toNatClampNeg = 0 by rw [nI_clamp (by omega)]; exact cp7), go_neg (M := mset M 0 0 0) (k := 17) (by omega) en], by rw [sp_redo, gd0 co2 (show M 14 (nI s).toNatClampNeg = 0 by rw [nI_clamp (by omega)]; exact cp7)], ad, rfl, by rw [sp_redo, gd0 co2 (show M 14 (nI s).toNatClampNeg = 0 by rw [nI_clamp (by omega)]; exact cp7), go_neg (M := mset M 0 0 0) (k := 17) (by omega) en]; exact cr_same12 hC e12⟩)
  · have km : h (ad 13 (60 * s + sd M s)) = some (.inr (1, [.int (nI (sd M s)), mo_b ad M s (sd M s), .int (mo_t M s (sd M s)), .int (mo_f M s (sd M s)), .int (mo_o M s (sd M s)), .int (mo_n M s (sd M s)), .ref (ad 13 (60 * s + j))])) := by rw [cr_m hC hs hsd (by omega), mo_l, el, if_neg (nI_pos (by omega)), nI_clamp (by omega)]
    have kq : h (ad 13 (60 * s + j)) = some (.inr (1, [.int (nI j), mo_b ad M s j, .int (mo_t M s j), .int (mo_f M s j), .int (mo_o M s j), .int (mo_n M s j), mo_l ad M s j])) := by rw [cr_m hC hs hj2 (by omega)]
    refine hg_VNu (q := ("ModelMerge$Session", T_Se, 8)) C (k_Se_stepForward l Γ _ (ad 10 s) (ad 11 s) (ad 12 s) (ad 13 (60 * s + sd M s)) (sc M s) (.int (nI s)) (.int (M 10 s)) (.ref (ad 14 (bs M s))) (.int (M 13 s)) (.int (M 14 s)) (.int (M 15 s)) ks_s kt_s ku_s (ad 13 (60 * s + j)) (nI (sd M s)) (mo_t M s (sd M s)) (mo_f M s (sd M s)) (mo_o M s (sd M s)) (mo_n M s (sd M s)) (nI j) (mo_t M s j) (mo_f M s j) (mo_o M s j) (mo_n M s j) (mo_b ad M s (sd M s)) (mo_b ad M s j) (mo_l ad M s j) km kq) (cw_MM_110 C.2.2.2.2.1 rfl rfl ⟨Nat.le_of_ble_eq_true rfl, Nat.le_of_ble_eq_true rfl⟩) ks_s rfl rfl rfl (Nat.le_of_ble_eq_true rfl) d_MM_redo_11 ⟨Nat.le_of_ble_eq_true rfl, Nat.le_of_ble_eq_true rfl⟩ (fun u eu => ?_)
    exact hg_iret C hr rfl d_MM_redo_14 (Nat.le_of_ble_eq_true rfl) (Nat.le_of_ble_eq_true rfl) (⟨by rw [sp_redo, gd0 co2 (show M 14 (nI s).toNatClampNeg = 0 by rw [nI_clamp (by omega)]; exact cp7), go_pos (M := mset M 0 0 0) (k := 17) (j := j) (by omega) (by omega) el], by rw [sp_redo, gd0 co2 (show M 14 (nI s).toNatClampNeg = 0 by rw [nI_clamp (by omega)]; exact cp7)], ad, rfl, by rw [sp_redo, gd0 co2 (show M 14 (nI s).toNatClampNeg = 0 by rw [nI_clamp (by omega)]; exact cp7), go_pos (M := mset M 0 0 0) (k := 17) (j := j) (by omega) (by omega) el, mset_comm (k := 0) (by decide)]; exact cr_code 0 (cr_stand hC hs (by omega) (by have z := stp_fwd (hI.bf hs) (show ¬ j = 0 by omega) hj2 (by omega) ((J_of hI s hs).2.2.1 j (by omega) hj2).2; rw [hbj] at z; exact z) rfl eu)⟩)
abbrev rm_MM_changeThing : Room := { frames := 7, cells := 4, slots := 25, locals := 112 }
set_option maxHeartbeats 4000000 in
set_option maxRecDepth 100000 in
theorem k_MM_changeThing (l : Launch) (hl9 : l.stackTraces = false) (Γ : Gam) (h : Pic) (ad : Nat → Nat → Nat) (M : Mem) (hC : cr_at Γ ad M h) (hI : Inv0 M) (s0 t0 : Int32) (hw ff vv f v : Int32) (hcase : (hw = 0 ∧ ff = f ∧ vv = v ∧ ∃ fn, fn < 5 ∧ f = nI fn) ∨ (hw = 1 ∧ ff = -1 ∧ vv = 1) ∨ (hw = 2 ∧ ff = -1 ∧ vv = 0)) : kM l Γ y_MM_changeThing w_MM_changeThing rm_MM_changeThing [.ref (ad 0 0), .int s0, .int t0, .int ff, .int vv] h (pubQ Γ ad (sp_chg M s0 t0 hw f v)) (pubX Γ ad (sp_chg M s0 t0 hw f v)) 4 25 := by
  refine hg_entry (own := "ModelMerge") (cc := b_MM_changeThing) (maxL := 7) (ret := (some .int)) (lv0 := [(0, .ref (ad 0 0)), (1, .int s0), (2, .int t0), (3, .int ff), (4, .int vv)]) (by decide) rfl rfl (Nat.le_of_ble_eq_true rfl) rfl ?_
  intro p e s m args below meth c A C hne hr
  have kx : h (ad 0 0) = some (.inr (6, [.ref (ad 1 0), .ref (ad 2 0), .int (M 1 0), .ref (ad 3 0), .int (M 9 0), .ref (ad 4 0), .int (M 4 0), .ref (ad 14 (nV M - 1)), .ref (ad 5 0), .int (M 22 0), .ref (ad 6 0), cr_pen ad M])) := hC.1 0 0 (liv0 (by omega))
  have kA1 : h (ad 1 0) = some (.inl ((Γ.2.1 0), 60, .inl (M 2))) := hC.1 1 0 (liv0 (by omega))
  have kA2 : h (ad 2 0) = some (.inl ((Γ.2.1 0), 60, .inl (M 3))) := hC.1 2 0 (liv0 (by omega))
  have kA3 : h (ad 3 0) = some (.inl ((Γ.2.1 3), 20, .inr (.inr (.inr (.inr (fun j => if j < nS M then some (ad 10 j) else none)))))) := hC.1 3 0 (liv0 (by omega))
  have kA4 : h (ad 4 0) = some (.inl ((Γ.2.1 4), 40, .inr (.inr (.inr (.inr (fun j => if j < nV M then some (ad 14 j) else none)))))) := hC.1 4 0 (liv0 (by omega))
  have kA5 : h (ad 5 0) = some (.inl ((Γ.2.1 5), 10, .inr (.inr (.inr (.inr (fun j => if j < nR M then some (ad 18 j) else none)))))) := hC.1 5 0 (liv0 (by omega))
  have kA6 : h (ad 6 0) = some (.inr (0, [.ref (ad 7 0), .ref (ad 8 0), .ref (ad 9 0), .int (M 27 0)])) := hC.1 6 0 (liv0 (by omega))
  have kA7 : h (ad 7 0) = some (.inl ((Γ.2.1 0), 300, .inl (M 28))) := hC.1 7 0 (liv0 (by omega))
  have kA8 : h (ad 8 0) = some (.inl ((Γ.2.1 0), 300, .inl (M 29))) := hC.1 8 0 (liv0 (by omega))
  have kA9 : h (ad 9 0) = some (.inl ((Γ.2.1 0), 300, .inl (M 30))) := hC.1 9 0 (liv0 (by omega))
  obtain ⟨⟨⟨eT, hT⟩, ⟨eV, hV1, hV⟩, ⟨eS, hS⟩, ⟨eR, hRR⟩, ⟨eC, hCn⟩⟩, hI2, hI3, hI4, hI5, hI6, hI7, hI8, -, hI10, hI11⟩ := id hI
  refine hg_aload_n C 0 d_MM_changeThing_0 rfl rfl ?_
  refine hg_iload_n C 1 d_MM_changeThing_1 rfl rfl ?_
  refine hg_Vv (q := ("ModelMerge", T_MM, 12)) C (k_MM_sessionOf l hl9 Γ _ ad M hC hI s0) (cw_MM_86 C.2.2.2.2.1 rfl rfl ⟨Nat.le_of_ble_eq_true rfl, Nat.le_of_ble_eq_true rfl⟩) kx rfl rfl rfl (Nat.le_of_ble_eq_true rfl) d_MM_changeThing_2 ⟨Nat.le_of_ble_eq_true rfl, Nat.le_of_ble_eq_true rfl⟩ (fun co2 => ?_) (fun co2 => hg_out C hne (Nat.le_of_ble_eq_true rfl) (Nat.le_of_ble_eq_true rfl) (⟨Or.inl ⟨rfl, by rw [sp_chg, gd1 (fun z => co2 z.1)]⟩, by rw [sp_chg, gd1 (fun z => co2 z.1)]; exact cr_code 1 hC⟩))
  obtain ⟨s, hs, rfl⟩ := inr_nat (n := nS M) (id co2) (by omega)
  refine hg_tr (congrArg (ad 10) (nI_clamp (n := s) (by omega))) ?_
  have ks_s : h (ad 10 s) = some (.inr (3, [.int (nI s), .int (M 10 s), .ref (ad 14 (bs M s)), .ref (ad 11 s), .ref (ad 13 (60 * s + sd M s)), .int (M 13 s), .int (M 14 s), .int (M 15 s)])) := hC.1 10 s (livS (by omega) (by omega) (by omega))
  have kt_s : h (ad 11 s) = some (.inr (4, [.ref (ad 12 s)])) := hC.1 11 s (livS (by omega) (by omega) (by omega))
  have ku_s : h (ad 12 s) = some (.inl ((Γ.2.1 0), 360, .inl (sc M s))) := hC.1 12 s (livS (by omega) (by omega) (by omega))
  refine hg_astore (lv' := [(5, .ref (ad 10 s)), (0, .ref (ad 0 0)), (1, .int (nI s)), (2, .int t0), (3, .int ff), (4, .int vv)]) C d_MM_changeThing_5 (by decide) rfl ?_
  refine hg_aload_n C 1 d_MM_changeThing_7 rfl rfl ?_
  refine hg_iload_n C 3 d_MM_changeThing_8 rfl rfl ?_
  refine hg_Vn (q := ("ModelMerge", T_MM, 12)) C (k_MM_checkThing l hl9 Γ _ ad M hC hI t0) (cw_MM_113 C.2.2.2.2.1 rfl rfl ⟨Nat.le_of_ble_eq_true rfl, Nat.le_of_ble_eq_true rfl⟩) kx rfl rfl rfl (Nat.le_of_ble_eq_true rfl) d_MM_changeThing_9 ⟨Nat.le_of_ble_eq_true rfl, Nat.le_of_ble_eq_true rfl⟩ (fun ct9 => ?_) (fun ct9 => hg_out C hne (Nat.le_of_ble_eq_true rfl) (Nat.le_of_ble_eq_true rfl) (⟨Or.inl ⟨rfl, by rw [sp_chg, gd1 (fun z => ct9 z.2)]⟩, by rw [sp_chg, gd1 (fun z => ct9 z.2)]; exact cr_code 1 hC⟩))
  obtain ⟨t, ht, rfl⟩ := inr_nat (n := nT M) (id ct9) (by omega)
  refine hg_aload C 0 d_MM_changeThing_12 rfl ?_
  refine hg_Sn C (k_MM_checkOpen l hl9 Γ _ (ad 10 s) (.int (nI s)) (.int (M 10 s)) (.ref (ad 14 (bs M s))) (.ref (ad 11 s)) (.ref (ad 13 (60 * s + sd M s))) (.int (M 13 s)) (.int (M 15 s)) (M 14 s) ks_s) (cw_MM_90 C.2.2.2.2.1 rfl rfl ⟨Nat.le_of_ble_eq_true rfl, Nat.le_of_ble_eq_true rfl⟩) rfl rfl (Nat.le_of_ble_eq_true rfl) d_MM_changeThing_14 ⟨Nat.le_of_ble_eq_true rfl, Nat.le_of_ble_eq_true rfl⟩ (fun cp14 => ?_) (fun cp14 => hg_out C hne (Nat.le_of_ble_eq_true rfl) (Nat.le_of_ble_eq_true rfl) (⟨Or.inr ⟨rfl, by rw [sp_chg, gd2 (⟨co2, ct9⟩) (show ¬ M 14 (nI s).toNatClampNeg = 0 by rw [nI_clamp (by omega)]; exact cp14)]⟩, by rw [sp_chg, gd2 (⟨co2, ct9⟩) (show ¬ M 14 (nI s).toNatClampNeg = 0 by rw [nI_clamp (by omega)]; exact cp14)]; exact cr_code 2 hC⟩))
  refine hg_aload C 0 d_MM_changeThing_17 rfl ?_
  refine f_MM_155 C ks_s rfl d_MM_changeThing_19 ?_
  refine hg_iload_n C 3 d_MM_changeThing_22 rfl rfl ?_
  refine hg_VNb (q := ("ModelMerge$State", T_St, 1)) C (k_St_has l Γ _ (ad 11 s) (ad 12 s) (sc M s) kt_s ku_s (nI t)) (cw_MM_243 C.2.2.2.2.1 rfl rfl ⟨Nat.le_of_ble_eq_true rfl, Nat.le_of_ble_eq_true rfl⟩) kt_s rfl rfl rfl (Nat.le_of_ble_eq_true rfl) d_MM_changeThing_23 ⟨Nat.le_of_ble_eq_true rfl, Nat.le_of_ble_eq_true rfl⟩ (fun z1 => ?_) (fun z1 => ?_)
  · refine hg_if_ne C 32 d_MM_changeThing_26 (by decide) (fun _ => ?_) (fun z => absurd z (by decide))
    refine hg_aload_n C 1 d_MM_changeThing_32 rfl rfl ?_
    refine hg_iload_n C 3 d_MM_changeThing_33 rfl rfl ?_
    refine hg_VNv (q := ("ModelMerge", T_MM, 12)) C (k_MM_lockerOf l Γ _ ad M hC hI (nI t)) (cw_MM_117 C.2.2.2.2.1 rfl rfl ⟨Nat.le_of_ble_eq_true rfl, Nat.le_of_ble_eq_true rfl⟩) kx rfl rfl rfl (Nat.le_of_ble_eq_true rfl) d_MM_changeThing_34 ⟨Nat.le_of_ble_eq_true rfl, Nat.le_of_ble_eq_true rfl⟩ (fun _ => ?_)
    refine hg_ti (show k_of M 3 (nI t) = M 3 t by rw [k_of, if_pos (inr_of (by omega) (by omega)), nI_clamp (by omega)]) ?_
    refine hg_istore (lv' := [(6, .int (M 3 t)), (5, .ref (ad 10 s)), (0, .ref (ad 0 0)), (1, .int (nI s)), (2, .int (nI t)), (3, .int ff), (4, .int vv)]) C d_MM_changeThing_37 (by decide) rfl ?_
    refine hg_iload C 0 d_MM_changeThing_39 rfl ?_
    refine hg_iconst (v := (-1)) C d_MM_changeThing_41 (by decide) ?_
    refine hg_icmp_eq C 58 d_MM_changeThing_42 (by decide) (fun c42 => ?_) (fun c42 => ?_)
    · refine hg_aload C 1 d_MM_changeThing_58 rfl ?_
      refine hg_VNb (q := ("ModelMerge$Session", T_Se, 8)) C (k_Se_isFull l Γ _ (ad 10 s) (.int (nI s)) (.int (M 10 s)) (.ref (ad 14 (bs M s))) (.ref (ad 11 s)) (.ref (ad 13 (60 * s + sd M s))) (.int (M 14 s)) (.int (M 15 s)) (M 13 s) ks_s) (cw_MM_94 C.2.2.2.2.1 rfl rfl ⟨Nat.le_of_ble_eq_true rfl, Nat.le_of_ble_eq_true rfl⟩) ks_s rfl rfl rfl (Nat.le_of_ble_eq_true rfl) d_MM_changeThing_60 ⟨Nat.le_of_ble_eq_true rfl, Nat.le_of_ble_eq_true rfl⟩ (fun z2 => ?_) (fun z2 => ?_)
      · refine hg_if_eq C 69 d_MM_changeThing_63 (by decide) (fun z => absurd z (by decide)) (fun _ => ?_)
        refine hg_bipush (v := (-4)) C d_MM_changeThing_66 (by decide) ?_
        exact hg_iret C hr rfl d_MM_changeThing_68 (Nat.le_of_ble_eq_true rfl) (Nat.le_of_ble_eq_true rfl) (⟨by rw [sp_chg, gd0 ⟨co2, ct9⟩ (show M 14 (nI s).toNatClampNeg = 0 by rw [nI_clamp (by omega)]; exact cp14), chg_bar (by omega) (by omega) (show f_barred M s t = -4 by rw [f_barred, if_neg ((s_has_sc hI hs (by omega)).mp z1), if_neg (fun y => y.1 (by rw [c42]; decide)), if_pos (show nm M s = 60 from by have y := Int32.not_lt.mp z2; rw [(hI2 s hs).2.2.1.1] at y; have y := (nI_leI (a := 60) (by omega) (by have := (hI2 s hs).2.2.1.2; omega)).mp y; have := (hI2 s hs).2.2.1.2; omega)]) (by decide)], by rw [sp_chg, gd0 ⟨co2, ct9⟩ (show M 14 (nI s).toNatClampNeg = 0 by rw [nI_clamp (by omega)]; exact cp14)], ad, rfl, by rw [sp_chg, gd0 ⟨co2, ct9⟩ (show M 14 (nI s).toNatClampNeg = 0 by rw [nI_clamp (by omega)]; exact cp14), chg_bar (by omega) (by omega) (show f_barred M s t = -4 by rw [f_barred, if_neg ((s_has_sc hI hs (by omega)).mp z1), if_neg (fun y => y.1 (by rw [c42]; decide)), if_pos (show nm M s = 60 from by have y := Int32.not_lt.mp z2; rw [(hI2 s hs).2.2.1.1] at y; have y := (nI_leI (a := 60) (by omega) (by have := (hI2 s hs).2.2.1.2; omega)).mp y; have := (hI2 s hs).2.2.1.2; omega)]) (by decide)]; exact cr_code 0 hC⟩)
      · refine hg_if_eq C 69 d_MM_changeThing_63 (by decide) (fun _ => ?_) (fun z => absurd (by decide) z)
        refine hg_aload C 1 d_MM_changeThing_69 rfl ?_
        refine hg_iload_n C 4 d_MM_changeThing_71 rfl rfl ?_
        refine hg_iload_n C 5 d_MM_changeThing_72 rfl rfl ?_
        refine hg_iload C 6 d_MM_changeThing_73 rfl ?_
        have hsd := (hI2 s hs).2.1.2
        have h60 := (hI2 s hs).2.2.1.2
        have e12 := (hI2 s hs).2.1.1
        have e13 := (hI2 s hs).2.2.1.1
        have hn60 : ¬ nm M s = 60 := fun y => z2 (fun q => by rw [e13, y] at q; exact absurd q (by decide))
        have km : h (ad 13 (60 * s + sd M s)) = some (.inr (1, [.int (nI (sd M s)), mo_b ad M s (sd M s), .int (mo_t M s (sd M s)), .int (mo_f M s (sd M s)), .int (mo_o M s (sd M s)), .int (mo_n M s (sd M s)), mo_l ad M s (sd M s)])) := by rw [cr_m hC hs hsd (by omega)]
        refine hg_VNu (q := ("ModelMerge$Session", T_Se, 8)) C (k_Se_change l Γ _ (ad 10 s) (ad 11 s) (ad 12 s) (ad 13 (60 * s + sd M s)) (sc M s) (.int (nI s)) (.int (M 10 s)) (.ref (ad 14 (bs M s))) (.int (M 14 s)) (.int (M 15 s)) (mo_b ad M s (sd M s)) (mo_l ad M s (sd M s)) (M 13 s) (nI (sd M s)) (mo_t M s (sd M s)) (mo_f M s (sd M s)) (mo_o M s (sd M s)) (mo_n M s (sd M s)) ks_s kt_s ku_s km (nI t) ff vv) (cw_MM_98 C.2.2.2.2.1 rfl rfl ⟨Nat.le_of_ble_eq_true rfl, Nat.le_of_ble_eq_true rfl⟩) ks_s rfl rfl rfl (Nat.le_of_ble_eq_true rfl) d_MM_changeThing_75 ⟨Nat.le_of_ble_eq_true rfl, Nat.le_of_ble_eq_true rfl⟩ (fun u eu => ?_)
        obtain ⟨q, hq, u1, u2, u3, u4, u5⟩ := eu
        exact hg_iret C hr rfl d_MM_changeThing_78 (Nat.le_of_ble_eq_true rfl) (Nat.le_of_ble_eq_true rfl) (⟨by rw [sp_chg, gd0 ⟨co2, ct9⟩ (show M 14 (nI s).toNatClampNeg = 0 by rw [nI_clamp (by omega)]; exact cp14), chg_go (by omega) (by omega) (show f_barred M s t = 0 by rw [f_barred, if_neg ((s_has_sc hI hs (by omega)).mp z1), if_neg (fun y => y.1 (by rw [c42]; decide)), if_neg hn60]), e13], by rw [sp_chg, gd0 ⟨co2, ct9⟩ (show M 14 (nI s).toNatClampNeg = 0 by rw [nI_clamp (by omega)]; exact cp14)], a_up ad 13 (60 * s + nm M s) q, rfl, by rw [sp_chg, gd0 ⟨co2, ct9⟩ (show M 14 (nI s).toNatClampNeg = 0 by rw [nI_clamp (by omega)]; exact cp14), chg_go (by omega) (by omega) (show f_barred M s t = 0 by rw [f_barred, if_neg ((s_has_sc hI hs (by omega)).mp z1), if_neg (fun y => y.1 (by rw [c42]; decide)), if_neg hn60])]; exact cr_code 0 (cr_change hC (J_of hI) hs (by omega) e13 (by omega) hcase hq (fr4 u3 u2 u1 u4 (fun z a b c d => u5 z c b a d)))⟩)
    · refine hg_iload C 0 d_MM_changeThing_45 rfl ?_
      refine hg_aload C 1 d_MM_changeThing_47 rfl ?_
      refine f_MM_191 C ks_s rfl d_MM_changeThing_49 ?_
      refine hg_icmp_eq C 58 d_MM_changeThing_52 (by decide) (fun c52 => ?_) (fun c52 => ?_)
      · refine hg_aload C 1 d_MM_changeThing_58 rfl ?_
        refine hg_VNb (q := ("ModelMerge$Session", T_Se, 8)) C (k_Se_isFull l Γ _ (ad 10 s) (.int (nI s)) (.int (M 10 s)) (.ref (ad 14 (bs M s))) (.ref (ad 11 s)) (.ref (ad 13 (60 * s + sd M s))) (.int (M 14 s)) (.int (M 15 s)) (M 13 s) ks_s) (cw_MM_94 C.2.2.2.2.1 rfl rfl ⟨Nat.le_of_ble_eq_true rfl, Nat.le_of_ble_eq_true rfl⟩) ks_s rfl rfl rfl (Nat.le_of_ble_eq_true rfl) d_MM_changeThing_60 ⟨Nat.le_of_ble_eq_true rfl, Nat.le_of_ble_eq_true rfl⟩ (fun z3 => ?_) (fun z3 => ?_)
        · refine hg_if_eq C 69 d_MM_changeThing_63 (by decide) (fun z => absurd z (by decide)) (fun _ => ?_)
          refine hg_bipush (v := (-4)) C d_MM_changeThing_66 (by decide) ?_
          exact hg_iret C hr rfl d_MM_changeThing_68 (Nat.le_of_ble_eq_true rfl) (Nat.le_of_ble_eq_true rfl) (⟨by rw [sp_chg, gd0 ⟨co2, ct9⟩ (show M 14 (nI s).toNatClampNeg = 0 by rw [nI_clamp (by omega)]; exact cp14), chg_bar (by omega) (by omega) (show f_barred M s t = -4 by rw [f_barred, if_neg ((s_has_sc hI hs (by omega)).mp z1), if_neg (fun y => y.2 c52), if_pos (show nm M s = 60 from by have y := Int32.not_lt.mp z3; rw [(hI2 s hs).2.2.1.1] at y; have y := (nI_leI (a := 60) (by omega) (by have := (hI2 s hs).2.2.1.2; omega)).mp y; have := (hI2 s hs).2.2.1.2; omega)]) (by decide)], by rw [sp_chg, gd0 ⟨co2, ct9⟩ (show M 14 (nI s).toNatClampNeg = 0 by rw [nI_clamp (by omega)]; exact cp14)], ad, rfl, by rw [sp_chg, gd0 ⟨co2, ct9⟩ (show M 14 (nI s).toNatClampNeg = 0 by rw [nI_clamp (by omega)]; exact cp14), chg_bar (by omega) (by omega) (show f_barred M s t = -4 by rw [f_barred, if_neg ((s_has_sc hI hs (by omega)).mp z1), if_neg (fun y => y.2 c52), if_pos (show nm M s = 60 from by have y := Int32.not_lt.mp z3; rw [(hI2 s hs).2.2.1.1] at y; have y := (nI_leI (a := 60) (by omega) (by have := (hI2 s hs).2.2.1.2; omega)).mp y; have := (hI2 s hs).2.2.1.2; omega)]) (by decide)]; exact cr_code 0 hC⟩)
        · refine hg_if_eq C 69 d_MM_changeThing_63 (by decide) (fun _ => ?_) (fun z => absurd (by decide) z)
          refine hg_aload C 1 d_MM_changeThing_69 rfl ?_
          refine hg_iload_n C 4 d_MM_changeThing_71 rfl rfl ?_
          refine hg_iload_n C 5 d_MM_changeThing_72 rfl rfl ?_
          refine hg_iload C 6 d_MM_changeThing_73 rfl ?_
          have hsd := (hI2 s hs).2.1.2
          have h60 := (hI2 s hs).2.2.1.2
          have e12 := (hI2 s hs).2.1.1
          have e13 := (hI2 s hs).2.2.1.1
          have hn60 : ¬ nm M s = 60 := fun y => z3 (fun q => by rw [e13, y] at q; exact absurd q (by decide))
          have km : h (ad 13 (60 * s + sd M s)) = some (.inr (1, [.int (nI (sd M s)), mo_b ad M s (sd M s), .int (mo_t M s (sd M s)), .int (mo_f M s (sd M s)), .int (mo_o M s (sd M s)), .int (mo_n M s (sd M s)), mo_l ad M s (sd M s)])) := by rw [cr_m hC hs hsd (by omega)]
          refine hg_VNu (q := ("ModelMerge$Session", T_Se, 8)) C (k_Se_change l Γ _ (ad 10 s) (ad 11 s) (ad 12 s) (ad 13 (60 * s + sd M s)) (sc M s) (.int (nI s)) (.int (M 10 s)) (.ref (ad 14 (bs M s))) (.int (M 14 s)) (.int (M 15 s)) (mo_b ad M s (sd M s)) (mo_l ad M s (sd M s)) (M 13 s) (nI (sd M s)) (mo_t M s (sd M s)) (mo_f M s (sd M s)) (mo_o M s (sd M s)) (mo_n M s (sd M s)) ks_s kt_s ku_s km (nI t) ff vv) (cw_MM_98 C.2.2.2.2.1 rfl rfl ⟨Nat.le_of_ble_eq_true rfl, Nat.le_of_ble_eq_true rfl⟩) ks_s rfl rfl rfl (Nat.le_of_ble_eq_true rfl) d_MM_changeThing_75 ⟨Nat.le_of_ble_eq_true rfl, Nat.le_of_ble_eq_true rfl⟩ (fun u eu => ?_)
          obtain ⟨q, hq, u1, u2, u3, u4, u5⟩ := eu
          exact hg_iret C hr rfl d_MM_changeThing_78 (Nat.le_of_ble_eq_true rfl) (Nat.le_of_ble_eq_true rfl) (⟨by rw [sp_chg, gd0 ⟨co2, ct9⟩ (show M 14 (nI s).toNatClampNeg = 0 by rw [nI_clamp (by omega)]; exact cp14), chg_go (by omega) (by omega) (show f_barred M s t = 0 by rw [f_barred, if_neg ((s_has_sc hI hs (by omega)).mp z1), if_neg (fun y => y.2 c52), if_neg hn60]), e13], by rw [sp_chg, gd0 ⟨co2, ct9⟩ (show M 14 (nI s).toNatClampNeg = 0 by rw [nI_clamp (by omega)]; exact cp14)], a_up ad 13 (60 * s + nm M s) q, rfl, by rw [sp_chg, gd0 ⟨co2, ct9⟩ (show M 14 (nI s).toNatClampNeg = 0 by rw [nI_clamp (by omega)]; exact cp14), chg_go (by omega) (by omega) (show f_barred M s t = 0 by rw [f_barred, if_neg ((s_has_sc hI hs (by omega)).mp z1), if_neg (fun y => y.2 c52), if_neg hn60])]; exact cr_code 0 (cr_change hC (J_of hI) hs (by omega) e13 (by omega) hcase hq (fr4 u3 u2 u1 u4 (fun z a b c d => u5 z c b a d)))⟩)
      · have lk42 : ¬ M 3 t < 0 := by
          rcases (hI10 t ht).1 with y | ⟨p, hp, y⟩
          · exact absurd y c42
          · rw [y]; exact nI_pos (by omega)
        refine hg_bipush (v := (-2)) C d_MM_changeThing_55 (by decide) ?_
        exact hg_iret C hr rfl d_MM_changeThing_57 (Nat.le_of_ble_eq_true rfl) (Nat.le_of_ble_eq_true rfl) (⟨by rw [sp_chg, gd0 ⟨co2, ct9⟩ (show M 14 (nI s).toNatClampNeg = 0 by rw [nI_clamp (by omega)]; exact cp14), chg_bar (by omega) (by omega) (show f_barred M s t = -2 by rw [f_barred, if_neg ((s_has_sc hI hs (by omega)).mp z1), if_pos ⟨lk42, c52⟩]) (by decide)], by rw [sp_chg, gd0 ⟨co2, ct9⟩ (show M 14 (nI s).toNatClampNeg = 0 by rw [nI_clamp (by omega)]; exact cp14)], ad, rfl, by rw [sp_chg, gd0 ⟨co2, ct9⟩ (show M 14 (nI s).toNatClampNeg = 0 by rw [nI_clamp (by omega)]; exact cp14), chg_bar (by omega) (by omega) (show f_barred M s t = -2 by rw [f_barred, if_neg ((s_has_sc hI hs (by omega)).mp z1), if_pos ⟨lk42, c52⟩]) (by decide)]; exact cr_code 0 hC⟩)
  · refine hg_if_ne C 32 d_MM_changeThing_26 (by decide) (fun z => absurd rfl z) (fun _ => ?_)
    refine hg_bipush (v := (-3)) C d_MM_changeThing_29 (by decide) ?_
    exact hg_iret C hr rfl d_MM_changeThing_31 (Nat.le_of_ble_eq_true rfl) (Nat.le_of_ble_eq_true rfl) (⟨by rw [sp_chg, gd0 ⟨co2, ct9⟩ (show M 14 (nI s).toNatClampNeg = 0 by rw [nI_clamp (by omega)]; exact cp14), chg_bar (by omega) (by omega) (show f_barred M s t = -3 by rw [f_barred, if_pos (Classical.byContradiction fun y => z1 ((s_has_sc hI hs (by omega)).mpr y))]) (by decide)], by rw [sp_chg, gd0 ⟨co2, ct9⟩ (show M 14 (nI s).toNatClampNeg = 0 by rw [nI_clamp (by omega)]; exact cp14)], ad, rfl, by rw [sp_chg, gd0 ⟨co2, ct9⟩ (show M 14 (nI s).toNatClampNeg = 0 by rw [nI_clamp (by omega)]; exact cp14), chg_bar (by omega) (by omega) (show f_barred M s t = -3 by rw [f_barred, if_pos (Classical.byContradiction fun y => z1 ((s_has_sc hI hs (by omega)).mpr y))]) (by decide)]; exact cr_code 0 hC⟩)
abbrev rm_MM_set : Room := { frames := 8, cells := 5, slots := 31, locals := 138 }
set_option maxHeartbeats 4000000 in
set_option maxRecDepth 100000 in
theorem k_MM_set (l : Launch) (hl9 : l.stackTraces = false) (Γ : Gam) (h : Pic) (ad : Nat → Nat → Nat) (M : Mem) (hC : cr_at Γ ad M h) (hI : Inv0 M)  (s0 t0 f0 v0 : Int32) : kM l Γ y_MM_set w_MM_set rm_MM_set [.ref (ad 0 0), .int s0, .int t0, .int f0, .int v0] h (pubQ Γ ad (sp_set M s0 t0 f0 v0)) (pubX Γ ad (sp_set M s0 t0 f0 v0)) 5 31 := by
  refine hg_entry (own := "ModelMerge") (cc := b_MM_set) (maxL := 5) (ret := (some .int)) (lv0 := [(0, .ref (ad 0 0)), (1, .int s0), (2, .int t0), (3, .int f0), (4, .int v0)]) (by decide) rfl rfl (Nat.le_of_ble_eq_true rfl) rfl ?_
  intro p e s m args below meth c A C hne hr
  have kx : h (ad 0 0) = some (.inr (6, [.ref (ad 1 0), .ref (ad 2 0), .int (M 1 0), .ref (ad 3 0), .int (M 9 0), .ref (ad 4 0), .int (M 4 0), .ref (ad 14 (nV M - 1)), .ref (ad 5 0), .int (M 22 0), .ref (ad 6 0), cr_pen ad M])) := hC.1 0 0 (liv0 (by omega))
  have kA1 : h (ad 1 0) = some (.inl ((Γ.2.1 0), 60, .inl (M 2))) := hC.1 1 0 (liv0 (by omega))
  have kA2 : h (ad 2 0) = some (.inl ((Γ.2.1 0), 60, .inl (M 3))) := hC.1 2 0 (liv0 (by omega))
  have kA3 : h (ad 3 0) = some (.inl ((Γ.2.1 3), 20, .inr (.inr (.inr (.inr (fun j => if j < nS M then some (ad 10 j) else none)))))) := hC.1 3 0 (liv0 (by omega))
  have kA4 : h (ad 4 0) = some (.inl ((Γ.2.1 4), 40, .inr (.inr (.inr (.inr (fun j => if j < nV M then some (ad 14 j) else none)))))) := hC.1 4 0 (liv0 (by omega))
  have kA5 : h (ad 5 0) = some (.inl ((Γ.2.1 5), 10, .inr (.inr (.inr (.inr (fun j => if j < nR M then some (ad 18 j) else none)))))) := hC.1 5 0 (liv0 (by omega))
  have kA6 : h (ad 6 0) = some (.inr (0, [.ref (ad 7 0), .ref (ad 8 0), .ref (ad 9 0), .int (M 27 0)])) := hC.1 6 0 (liv0 (by omega))
  have kA7 : h (ad 7 0) = some (.inl ((Γ.2.1 0), 300, .inl (M 28))) := hC.1 7 0 (liv0 (by omega))
  have kA8 : h (ad 8 0) = some (.inl ((Γ.2.1 0), 300, .inl (M 29))) := hC.1 8 0 (liv0 (by omega))
  have kA9 : h (ad 9 0) = some (.inl ((Γ.2.1 0), 300, .inl (M 30))) := hC.1 9 0 (liv0 (by omega))
  obtain ⟨⟨⟨eT, hT⟩, ⟨eV, hV1, hV⟩, ⟨eS, hS⟩, ⟨eR, hRR⟩, ⟨eC, hCn⟩⟩, hI2, hI3, hI4, hI5, hI6, hI7, hI8, -, hI10, hI11⟩ := id hI
  refine hg_iload_n C 3 d_MM_set_0 rfl rfl ?_
  refine hg_iconst (v := 5) C d_MM_set_1 (by decide) ?_
  refine hg_Sn C (k_MM_checkBelow l hl9 Γ _ f0 5) (cw_MM_68 C.2.2.2.2.1 rfl rfl ⟨Nat.le_of_ble_eq_true rfl, Nat.le_of_ble_eq_true rfl⟩) rfl rfl (Nat.le_of_ble_eq_true rfl) d_MM_set_2 ⟨Nat.le_of_ble_eq_true rfl, Nat.le_of_ble_eq_true rfl⟩ (fun cb2 => ?_) (fun cb2 => hg_out C hne (Nat.le_of_ble_eq_true rfl) (Nat.le_of_ble_eq_true rfl) (⟨Or.inl ⟨rfl, by rw [sp_set, gd1 (fun z => cb2 z.2.2)]⟩, by rw [sp_set, gd1 (fun z => cb2 z.2.2)]; exact cr_code 1 hC⟩))
  refine hg_aload_n C 0 d_MM_set_5 rfl rfl ?_
  refine hg_iload_n C 1 d_MM_set_6 rfl rfl ?_
  refine hg_iload_n C 2 d_MM_set_7 rfl rfl ?_
  refine hg_iload_n C 3 d_MM_set_8 rfl rfl ?_
  refine hg_iload C 4 d_MM_set_9 rfl ?_
  refine hg_V (q := ("ModelMerge", T_MM, 12)) C (k_MM_changeThing l hl9 Γ _ ad M hC hI s0 t0 0 f0 v0 f0 v0 (Or.inl ⟨rfl, rfl, rfl, by obtain ⟨j, hj, ej⟩ := inr_nat (n := 5) (id cb2) (by omega); exact ⟨j, hj, ej⟩⟩)) (cw_MM_102 C.2.2.2.2.1 rfl rfl ⟨Nat.le_of_ble_eq_true rfl, Nat.le_of_ble_eq_true rfl⟩) kx rfl rfl rfl (Nat.le_of_ble_eq_true rfl) d_MM_set_11 ⟨Nat.le_of_ble_eq_true rfl, Nat.le_of_ble_eq_true rfl⟩ (fun r u hq => ?_) (fun E u hq => hg_out C hne (Nat.le_of_ble_eq_true rfl) (Nat.le_of_ble_eq_true rfl) (by rw [sp_set_chg cb2]; exact hq))
  obtain ⟨rfl, hq⟩ := hq
  exact hg_iret C hr rfl d_MM_set_14 (Nat.le_of_ble_eq_true rfl) (Nat.le_of_ble_eq_true rfl) (by rw [sp_set_chg cb2]; exact ⟨rfl, hq⟩)
abbrev rm_MM_drop : Room := { frames := 8, cells := 4, slots := 25, locals := 138 }
set_option maxHeartbeats 4000000 in
set_option maxRecDepth 100000 in
theorem k_MM_drop (l : Launch) (hl9 : l.stackTraces = false) (Γ : Gam) (h : Pic) (ad : Nat → Nat → Nat) (M : Mem) (hC : cr_at Γ ad M h) (hI : Inv0 M)  (s0 t0 : Int32) : kM l Γ y_MM_drop w_MM_drop rm_MM_drop [.ref (ad 0 0), .int s0, .int t0] h (pubQ Γ ad (sp_drop M s0 t0)) (pubX Γ ad (sp_drop M s0 t0)) 4 25 := by
  refine hg_entry (own := "ModelMerge") (cc := b_MM_drop) (maxL := 3) (ret := (some .int)) (lv0 := [(0, .ref (ad 0 0)), (1, .int s0), (2, .int t0)]) (by decide) rfl rfl (Nat.le_of_ble_eq_true rfl) rfl ?_
  intro p e s m args below meth c A C hne hr
  have kx : h (ad 0 0) = some (.inr (6, [.ref (ad 1 0), .ref (ad 2 0), .int (M 1 0), .ref (ad 3 0), .int (M 9 0), .ref (ad 4 0), .int (M 4 0), .ref (ad 14 (nV M - 1)), .ref (ad 5 0), .int (M 22 0), .ref (ad 6 0), cr_pen ad M])) := hC.1 0 0 (liv0 (by omega))
  have kA1 : h (ad 1 0) = some (.inl ((Γ.2.1 0), 60, .inl (M 2))) := hC.1 1 0 (liv0 (by omega))
  have kA2 : h (ad 2 0) = some (.inl ((Γ.2.1 0), 60, .inl (M 3))) := hC.1 2 0 (liv0 (by omega))
  have kA3 : h (ad 3 0) = some (.inl ((Γ.2.1 3), 20, .inr (.inr (.inr (.inr (fun j => if j < nS M then some (ad 10 j) else none)))))) := hC.1 3 0 (liv0 (by omega))
  have kA4 : h (ad 4 0) = some (.inl ((Γ.2.1 4), 40, .inr (.inr (.inr (.inr (fun j => if j < nV M then some (ad 14 j) else none)))))) := hC.1 4 0 (liv0 (by omega))
  have kA5 : h (ad 5 0) = some (.inl ((Γ.2.1 5), 10, .inr (.inr (.inr (.inr (fun j => if j < nR M then some (ad 18 j) else none)))))) := hC.1 5 0 (liv0 (by omega))
  have kA6 : h (ad 6 0) = some (.inr (0, [.ref (ad 7 0), .ref (ad 8 0), .ref (ad 9 0), .int (M 27 0)])) := hC.1 6 0 (liv0 (by omega))
  have kA7 : h (ad 7 0) = some (.inl ((Γ.2.1 0), 300, .inl (M 28))) := hC.1 7 0 (liv0 (by omega))
  have kA8 : h (ad 8 0) = some (.inl ((Γ.2.1 0), 300, .inl (M 29))) := hC.1 8 0 (liv0 (by omega))
  have kA9 : h (ad 9 0) = some (.inl ((Γ.2.1 0), 300, .inl (M 30))) := hC.1 9 0 (liv0 (by omega))
  obtain ⟨⟨⟨eT, hT⟩, ⟨eV, hV1, hV⟩, ⟨eS, hS⟩, ⟨eR, hRR⟩, ⟨eC, hCn⟩⟩, hI2, hI3, hI4, hI5, hI6, hI7, hI8, -, hI10, hI11⟩ := id hI
  refine hg_aload_n C 0 d_MM_drop_0 rfl rfl ?_
  refine hg_iload_n C 1 d_MM_drop_1 rfl rfl ?_
  refine hg_iload_n C 2 d_MM_drop_2 rfl rfl ?_
  refine hg_iconst (v := (-1)) C d_MM_drop_3 (by decide) ?_
  refine hg_iconst (v := 0) C d_MM_drop_4 (by decide) ?_
  refine hg_V (q := ("ModelMerge", T_MM, 12)) C (k_MM_changeThing l hl9 Γ _ ad M hC hI s0 t0 2 (-1) 0 0 0 (Or.inr (Or.inr ⟨rfl, rfl, rfl⟩))) (cw_MM_102 C.2.2.2.2.1 rfl rfl ⟨Nat.le_of_ble_eq_true rfl, Nat.le_of_ble_eq_true rfl⟩) kx rfl rfl rfl (Nat.le_of_ble_eq_true rfl) d_MM_drop_5 ⟨Nat.le_of_ble_eq_true rfl, Nat.le_of_ble_eq_true rfl⟩ (fun r u hq => ?_) (fun E u hq => hg_out C hne (Nat.le_of_ble_eq_true rfl) (Nat.le_of_ble_eq_true rfl) (hq))
  obtain ⟨rfl, hq⟩ := hq
  exact hg_iret C hr rfl d_MM_drop_8 (Nat.le_of_ble_eq_true rfl) (Nat.le_of_ble_eq_true rfl) (⟨rfl, hq⟩)
theorem ses_code {M : Mem} {n v : Nat} {p : Int32} {x : Int32} : mset (mset (mset (mset (mset (mset (mset (mset M 10 n p) 11 n (nI v)) 13 n 1) 16 (60 * n) (-1)) 17 (60 * n) (-1)) 15 n (-1)) 9 0 x) 0 0 0 = mset (mset (mset (mset (mset (mset (mset (mset M 0 0 0) 10 n p) 11 n (nI v)) 13 n 1) 16 (60 * n) (-1)) 17 (60 * n) (-1)) 15 n (-1)) 9 0 x := by
  rw [mset_comm (k' := 0) (by decide), mset_comm (k' := 0) (by decide), mset_comm (k' := 0) (by decide), mset_comm (k' := 0) (by decide), mset_comm (k' := 0) (by decide), mset_comm (k' := 0) (by decide), mset_comm (k' := 0) (by decide)]
abbrev rm_MM_session : Room := { frames := 7, cells := 6, slots := 388, locals := 144 }
set_option maxHeartbeats 4000000 in
set_option maxRecDepth 100000 in
theorem k_MM_session (l : Launch) (hl9 : l.stackTraces = false) (Γ : Gam) (h : Pic) (ad : Nat → Nat → Nat) (M : Mem) (hC : cr_at Γ ad M h) (hI : Inv0 M)  (p0 v0 : Int32) : kM l Γ y_MM_session w_MM_session rm_MM_session [.ref (ad 0 0), .int p0, .int v0] h (pubQ Γ ad (sp_session M p0 v0)) (pubX Γ ad (sp_session M p0 v0)) 6 388 := by
  refine hg_entry (own := "ModelMerge") (cc := b_MM_session) (maxL := 5) (ret := (some .int)) (lv0 := [(0, .ref (ad 0 0)), (1, .int p0), (2, .int v0)]) (by decide) rfl rfl (Nat.le_of_ble_eq_true rfl) rfl ?_
  intro p e s m args below meth c A C hne hr
  have kx : h (ad 0 0) = some (.inr (6, [.ref (ad 1 0), .ref (ad 2 0), .int (M 1 0), .ref (ad 3 0), .int (M 9 0), .ref (ad 4 0), .int (M 4 0), .ref (ad 14 (nV M - 1)), .ref (ad 5 0), .int (M 22 0), .ref (ad 6 0), cr_pen ad M])) := hC.1 0 0 (liv0 (by omega))
  have kA1 : h (ad 1 0) = some (.inl ((Γ.2.1 0), 60, .inl (M 2))) := hC.1 1 0 (liv0 (by omega))
  have kA2 : h (ad 2 0) = some (.inl ((Γ.2.1 0), 60, .inl (M 3))) := hC.1 2 0 (liv0 (by omega))
  have kA3 : h (ad 3 0) = some (.inl ((Γ.2.1 3), 20, .inr (.inr (.inr (.inr (fun j => if j < nS M then some (ad 10 j) else none)))))) := hC.1 3 0 (liv0 (by omega))
  have kA4 : h (ad 4 0) = some (.inl ((Γ.2.1 4), 40, .inr (.inr (.inr (.inr (fun j => if j < nV M then some (ad 14 j) else none)))))) := hC.1 4 0 (liv0 (by omega))
  have kA5 : h (ad 5 0) = some (.inl ((Γ.2.1 5), 10, .inr (.inr (.inr (.inr (fun j => if j < nR M then some (ad 18 j) else none)))))) := hC.1 5 0 (liv0 (by omega))
  have kA6 : h (ad 6 0) = some (.inr (0, [.ref (ad 7 0), .ref (ad 8 0), .ref (ad 9 0), .int (M 27 0)])) := hC.1 6 0 (liv0 (by omega))
  have kA7 : h (ad 7 0) = some (.inl ((Γ.2.1 0), 300, .inl (M 28))) := hC.1 7 0 (liv0 (by omega))
  have kA8 : h (ad 8 0) = some (.inl ((Γ.2.1 0), 300, .inl (M 29))) := hC.1 8 0 (liv0 (by omega))
  have kA9 : h (ad 9 0) = some (.inl ((Γ.2.1 0), 300, .inl (M 30))) := hC.1 9 0 (liv0 (by omega))
  obtain ⟨⟨⟨eT, hT⟩, ⟨eV, hV1, hV⟩, ⟨eS, hS⟩, ⟨eR, hRR⟩, ⟨eC, hCn⟩⟩, hI2, hI3, hI4, hI5, hI6, hI7, hI8, -, hI10, hI11⟩ := id hI
  refine hg_iload_n C 1 d_MM_session_0 rfl rfl ?_
  refine hg_bipush (v := 10) C d_MM_session_1 (by decide) ?_
  refine hg_Sn C (k_MM_checkBelow l hl9 Γ _ p0 10) (cw_MM_68 C.2.2.2.2.1 rfl rfl ⟨Nat.le_of_ble_eq_true rfl, Nat.le_of_ble_eq_true rfl⟩) rfl rfl (Nat.le_of_ble_eq_true rfl) d_MM_session_3 ⟨Nat.le_of_ble_eq_true rfl, Nat.le_of_ble_eq_true rfl⟩ (fun cb3 => ?_) (fun cb3 => hg_out C hne (Nat.le_of_ble_eq_true rfl) (Nat.le_of_ble_eq_true rfl) (⟨Or.inl ⟨rfl, by rw [sp_session, gd1 (fun z => cb3 z.1)]⟩, by rw [sp_session, gd1 (fun z => cb3 z.1)]; exact cr_code 1 hC⟩))
  refine hg_aload_n C 0 d_MM_session_6 rfl rfl ?_
  refine hg_iload_n C 2 d_MM_session_7 rfl rfl ?_
  refine hg_Vv (q := ("ModelMerge", T_MM, 12)) C (k_MM_versionOf l hl9 Γ _ ad M hC hI v0) (cw_MM_72 C.2.2.2.2.1 rfl rfl ⟨Nat.le_of_ble_eq_true rfl, Nat.le_of_ble_eq_true rfl⟩) kx rfl rfl rfl (Nat.le_of_ble_eq_true rfl) d_MM_session_8 ⟨Nat.le_of_ble_eq_true rfl, Nat.le_of_ble_eq_true rfl⟩ (fun co8 => ?_) (fun co8 => hg_out C hne (Nat.le_of_ble_eq_true rfl) (Nat.le_of_ble_eq_true rfl) (⟨Or.inl ⟨rfl, by rw [sp_session, gd1 (fun z => co8 z.2)]⟩, by rw [sp_session, gd1 (fun z => co8 z.2)]; exact cr_code 1 hC⟩))
  obtain ⟨v, hv, rfl⟩ := inr_nat (n := nV M) (id co8) (by omega)
  refine hg_tr (congrArg (ad 14) (nI_clamp (n := v) (by omega))) ?_
  have kv_v : h (ad 14 v) = some (.inr (5, [.int (nI v), .int (au M v), .ref (ad 15 v), .ref (ad 17 v)])) := hC.1 14 v (livV (by omega) (by omega) (by omega))
  have kw_v : h (ad 15 v) = some (.inr (4, [.ref (ad 16 v)])) := hC.1 15 v (livV (by omega) (by omega) (by omega))
  have ky_v : h (ad 16 v) = some (.inl ((Γ.2.1 0), 360, .inl (vc M v))) := hC.1 16 v (livV (by omega) (by omega) (by omega))
  have kz_v : h (ad 17 v) = some (.inl ((Γ.2.1 0), 300, .inl (og M v))) := hC.1 17 v (livV (by omega) (by omega) (by omega))
  refine hg_astore_n (lv' := [(3, .ref (ad 14 v)), (0, .ref (ad 0 0)), (1, .int p0), (2, .int (nI v))]) C d_MM_session_11 rfl (by decide) rfl ?_
  refine hg_aload_n C 1 d_MM_session_12 rfl rfl ?_
  refine f_MM_26 C kx rfl d_MM_session_13 ?_
  refine hg_ti eS ?_
  refine hg_bipush (v := 20) C d_MM_session_16 (by decide) ?_
  refine hg_icmp_lt C 31 d_MM_session_18 (by decide) (fun c18 => ?_) (fun c18 => ?_)
  · have g20 : nS M < 20 := (nI_ltI (b := 20) (by omega) (by omega)).mp c18
    refine hg_aload_n C 1 d_MM_session_31 rfl rfl ?_
    refine f_MM_26 C kx rfl d_MM_session_32 ?_
    refine hg_ti eS ?_
    refine hg_istore (lv' := [(4, .int (nI (nS M))), (3, .ref (ad 14 v)), (0, .ref (ad 0 0)), (1, .int p0), (2, .int (nI v))]) C d_MM_session_35 (by decide) rfl ?_
    refine hg_aload_n C 2 d_MM_session_37 rfl rfl ?_
    refine f_MM_22 C kx rfl d_MM_session_38 ?_
    refine hg_iload C 0 d_MM_session_41 rfl ?_
    refine n_MM_20 C (Nat.le_of_ble_eq_true rfl) (Nat.le_of_ble_eq_true rfl) d_MM_session_43 (fun q1 hq_q1 => ?_)
    obtain ⟨h2, eh2⟩ : ∃ z, z = hp_up h q1 (.inr (3, [.int 0, .int 0, .null, .null, .null, .int 0, .int 0, .int 0])) := ⟨_, rfl⟩
    refine hg_eq eh2.symm ?_
    have k3 : h2 (ad 0 0) = some (.inr (6, [.ref (ad 1 0), .ref (ad 2 0), .int (M 1 0), .ref (ad 3 0), .int (M 9 0), .ref (ad 4 0), .int (M 4 0), .ref (ad 14 (nV M - 1)), .ref (ad 5 0), .int (M 22 0), .ref (ad 6 0), cr_pen ad M])) := by rw [eh2]; exact hp_up_g kx (fun z => by rw [z, hq_q1] at kx; cases kx)
    have k4 : h2 (ad 1 0) = some (.inl ((Γ.2.1 0), 60, .inl (M 2))) := by rw [eh2]; exact hp_up_g kA1 (fun z => by rw [z, hq_q1] at kA1; cases kA1)
    have k5 : h2 (ad 2 0) = some (.inl ((Γ.2.1 0), 60, .inl (M 3))) := by rw [eh2]; exact hp_up_g kA2 (fun z => by rw [z, hq_q1] at kA2; cases kA2)
    have k6 : h2 (ad 3 0) = some (.inl ((Γ.2.1 3), 20, .inr (.inr (.inr (.inr (fun j => if j < nS M then some (ad 10 j) else none)))))) := by rw [eh2]; exact hp_up_g kA3 (fun z => by rw [z, hq_q1] at kA3; cases kA3)
    have k7 : h2 (ad 4 0) = some (.inl ((Γ.2.1 4), 40, .inr (.inr (.inr (.inr (fun j => if j < nV M then some (ad 14 j) else none)))))) := by rw [eh2]; exact hp_up_g kA4 (fun z => by rw [z, hq_q1] at kA4; cases kA4)
    have k8 : h2 (ad 5 0) = some (.inl ((Γ.2.1 5), 10, .inr (.inr (.inr (.inr (fun j => if j < nR M then some (ad 18 j) else none)))))) := by rw [eh2]; exact hp_up_g kA5 (fun z => by rw [z, hq_q1] at kA5; cases kA5)
    have k9 : h2 (ad 6 0) = some (.inr (0, [.ref (ad 7 0), .ref (ad 8 0), .ref (ad 9 0), .int (M 27 0)])) := by rw [eh2]; exact hp_up_g kA6 (fun z => by rw [z, hq_q1] at kA6; cases kA6)
    have k10 : h2 (ad 7 0) = some (.inl ((Γ.2.1 0), 300, .inl (M 28))) := by rw [eh2]; exact hp_up_g kA7 (fun z => by rw [z, hq_q1] at kA7; cases kA7)
    have k11 : h2 (ad 8 0) = some (.inl ((Γ.2.1 0), 300, .inl (M 29))) := by rw [eh2]; exact hp_up_g kA8 (fun z => by rw [z, hq_q1] at kA8; cases kA8)
    have k12 : h2 (ad 9 0) = some (.inl ((Γ.2.1 0), 300, .inl (M 30))) := by rw [eh2]; exact hp_up_g kA9 (fun z => by rw [z, hq_q1] at kA9; cases kA9)
    have k13 : h2 (ad 14 v) = some (.inr (5, [.int (nI v), .int (au M v), .ref (ad 15 v), .ref (ad 17 v)])) := by rw [eh2]; exact hp_up_g kv_v (fun z => by rw [z, hq_q1] at kv_v; cases kv_v)
    have k14 : h2 (ad 15 v) = some (.inr (4, [.ref (ad 16 v)])) := by rw [eh2]; exact hp_up_g kw_v (fun z => by rw [z, hq_q1] at kw_v; cases kw_v)
    have k15 : h2 (ad 16 v) = some (.inl ((Γ.2.1 0), 360, .inl (vc M v))) := by rw [eh2]; exact hp_up_g ky_v (fun z => by rw [z, hq_q1] at ky_v; cases ky_v)
    have k16 : h2 (ad 17 v) = some (.inl ((Γ.2.1 0), 300, .inl (og M v))) := by rw [eh2]; exact hp_up_g kz_v (fun z => by rw [z, hq_q1] at kz_v; cases kz_v)
    have k17 : h2 q1 = some (.inr (3, [.int 0, .int 0, .null, .null, .null, .int 0, .int 0, .int 0])) := by rw [eh2]; exact hp_up_s
    refine hg_dup C d_MM_session_46 rfl ?_
    refine hg_iload C 0 d_MM_session_47 rfl ?_
    refine hg_iload_n C 3 d_MM_session_49 rfl rfl ?_
    refine hg_aload_n C 1 d_MM_session_50 rfl rfl ?_
    refine hg_Iz C (k_Se_init l Γ _ q1 (ad 14 v) (ad 15 v) (ad 16 v) (vc M v) (.int (nI v)) (.int (au M v)) (.ref (ad 17 v)) (nI (nS M)) p0 k17 k13 k14 k15) (cw_MM_83 C.2.2.2.2.1 rfl rfl ⟨Nat.le_of_ble_eq_true rfl, Nat.le_of_ble_eq_true rfl⟩) rfl rfl (Nat.le_of_ble_eq_true rfl) d_MM_session_51 ⟨Nat.le_of_ble_eq_true rfl, Nat.le_of_ble_eq_true rfl⟩ (fun h18 eu => ?_)
    obtain ⟨qs, qb, qm, nqs, nqb, nqm, u1, u2, u3, u4, u5⟩ := eu
    have kx9 : h18 (ad 0 0) = some (.inr (6, [.ref (ad 1 0), .ref (ad 2 0), .int (M 1 0), .ref (ad 3 0), .int (M 9 0), .ref (ad 4 0), .int (M 4 0), .ref (ad 14 (nV M - 1)), .ref (ad 5 0), .int (M 22 0), .ref (ad 6 0), cr_pen ad M])) := by rw [u5 _ (fun z => by rw [z, k17] at k3; cases k3) (fun z => by rw [z, nqs] at k3; cases k3) (fun z => by rw [z, nqb] at k3; cases k3) (fun z => by rw [z, nqm] at k3; cases k3)]; exact k3
    have kA39 : h18 (ad 3 0) = some (.inl ((Γ.2.1 3), 20, .inr (.inr (.inr (.inr (fun j => if j < nS M then some (ad 10 j) else none)))))) := by rw [u5 _ (fun z => by rw [z, k17] at k6; cases k6) (fun z => by rw [z, nqs] at k6; cases k6) (fun z => by rw [z, nqb] at k6; cases k6) (fun z => by rw [z, nqm] at k6; cases k6)]; exact k6
    refine hg_aast C 3 3 kA39 rfl u1 rfl (vp_in_nI (N := 20) (show nS M < 20 by omega) (by omega)) d_MM_session_54 ?_
    obtain ⟨h19, eh19⟩ : ∃ z, z = hp_up h18 (ad 3 0) (.inl ((Γ.2.1 3), 20, .inr (.inr (.inr (.inr (va_up (fun j => if j < nS M then some (ad 10 j) else none) ((nI (nS M)).toNatClampNeg) (some q1))))))) := ⟨_, rfl⟩
    refine hg_eq eh19.symm ?_
    have k20 : h19 (ad 0 0) = some (.inr (6, [.ref (ad 1 0), .ref (ad 2 0), .int (M 1 0), .ref (ad 3 0), .int (M 9 0), .ref (ad 4 0), .int (M 4 0), .ref (ad 14 (nV M - 1)), .ref (ad 5 0), .int (M 22 0), .ref (ad 6 0), cr_pen ad M])) := by rw [eh19]; exact hp_up_g kx9 (fun z => absurd (hC.2 0 0 3 0 (liv0 (by omega)) (liv0 (by omega)) z).1 (by decide))
    have k21 : h19 q1 = some (.inr (3, [.int (nI (nS M)), .int p0, .ref (ad 14 v), .ref qs, .ref qm, .int 1, .int 0, .int (-1)])) := by rw [eh19]; exact hp_up_g u1 (fun z => by rw [z, kA39] at u1; cases u1)
    have k22 : h19 (ad 3 0) = some (.inl ((Γ.2.1 3), 20, .inr (.inr (.inr (.inr (va_up (fun j => if j < nS M then some (ad 10 j) else none) ((nI (nS M)).toNatClampNeg) (some q1))))))) := by rw [eh19]; exact hp_up_s
    refine hg_aload_n C 2 d_MM_session_55 rfl rfl ?_
    refine hg_dup C d_MM_session_56 rfl ?_
    refine f_MM_26 C k20 rfl d_MM_session_57 ?_
    refine hg_ti eS ?_
    refine hg_iconst (v := 1) C d_MM_session_60 (by decide) ?_
    refine hg_iadd C d_MM_session_61 ?_
    refine hg_ti (nI_1 (nS M)) ?_
    refine p_MM_26 (fs' := [.ref (ad 1 0), .ref (ad 2 0), .int (M 1 0), .ref (ad 3 0), .int (nI (nS M + 1)), .ref (ad 4 0), .int (M 4 0), .ref (ad 14 (nV M - 1)), .ref (ad 5 0), .int (M 22 0), .ref (ad 6 0), cr_pen ad M]) C k20 rfl rfl (Nat.le_of_ble_eq_true rfl) rfl d_MM_session_62 ?_
    obtain ⟨h23, eh23⟩ : ∃ z, z = hp_up h19 (ad 0 0) (.inr (6, [.ref (ad 1 0), .ref (ad 2 0), .int (M 1 0), .ref (ad 3 0), .int (nI (nS M + 1)), .ref (ad 4 0), .int (M 4 0), .ref (ad 14 (nV M - 1)), .ref (ad 5 0), .int (M 22 0), .ref (ad 6 0), cr_pen ad M])) := ⟨_, rfl⟩
    refine hg_eq eh23.symm ?_
    have k24 : h23 q1 = some (.inr (3, [.int (nI (nS M)), .int p0, .ref (ad 14 v), .ref qs, .ref qm, .int 1, .int 0, .int (-1)])) := by rw [eh23]; exact hp_up_g k21 (fun z => by rw [z, k20] at k21; cases k21)
    have k25 : h23 (ad 3 0) = some (.inl ((Γ.2.1 3), 20, .inr (.inr (.inr (.inr (va_up (fun j => if j < nS M then some (ad 10 j) else none) ((nI (nS M)).toNatClampNeg) (some q1))))))) := by rw [eh23]; exact hp_up_g k22 (fun z => absurd (hC.2 3 0 0 0 (liv0 (by omega)) (liv0 (by omega)) z).1 (by decide))
    have k26 : h23 (ad 0 0) = some (.inr (6, [.ref (ad 1 0), .ref (ad 2 0), .int (M 1 0), .ref (ad 3 0), .int (nI (nS M + 1)), .ref (ad 4 0), .int (M 4 0), .ref (ad 14 (nV M - 1)), .ref (ad 5 0), .int (M 22 0), .ref (ad 6 0), cr_pen ad M])) := by rw [eh23]; exact hp_up_s
    refine hg_iload C 0 d_MM_session_65 rfl ?_
    exact hg_iret C hr rfl d_MM_session_67 (Nat.le_of_ble_eq_true rfl) (Nat.le_of_ble_eq_true rfl) (⟨by rw [sp_session, gd0 ⟨cb3, co8⟩ g20]; rfl, by rw [sp_session, gd0 ⟨cb3, co8⟩ g20], by rw [sp_session, gd0 ⟨cb3, co8⟩ g20]; obtain ⟨ad9, x1, x2⟩ := cr_session (p := p0) hC hI g20 hv hq_q1 eh2 nqs nqb nqm u1 u2 u3 u4 u5 eh19 eh23; refine ⟨ad9, x1, ?_⟩; have y := cr_code 0 x2; rw [ses_code] at y; exact y⟩)
  · have g20 : ¬ nS M < 20 := fun z => c18 (nI_lt (b := 20) z (by omega))
    exact th_ISE (is := 78) (text := "there are 20 sessions") (sa := Γ.2.2 2) C hne hl9 (List.mem_of_getElem? (i := 2) rfl) d_MM_session_21 d_MM_session_24 d_MM_session_25 d_MM_session_27 d_MM_session_30 (Nat.le_of_ble_eq_true rfl) (Nat.le_of_ble_eq_true rfl) (Nat.le_of_ble_eq_true rfl) (Nat.le_of_ble_eq_true rfl) (Nat.le_of_ble_eq_true rfl) (Nat.le_of_ble_eq_true rfl) (⟨Or.inr ⟨rfl, by rw [sp_session, gd2 (⟨cb3, co8⟩) g20]⟩, by rw [sp_session, gd2 (⟨cb3, co8⟩) g20]; exact cr_code 2 hC⟩)
theorem sc_hf {M M' : Mem} (hf : ∀ j, j ∈ [5, 6, 11, 12, 16, 18, 19, 20, 21] → M' j = M j) {s : Nat} : sc M' s = sc M s := sc_cg (by rw [hf 12 (by decide)]) (fun t g _ _ => stv_hf (fun j hj => hf j (by revert hj; simp only [List.mem_cons, List.not_mem_nil, or_false]; omega)))
theorem mo_o_hf {M M' : Mem} (hf : ∀ j, j ∈ [5, 6, 11, 12, 16, 18, 19, 20, 21] → M' j = M j) {s j : Nat} : mo_o M' s j = mo_o M s j := mo_o_cg (fun k hk => by rw [hf k (by revert hk; simp only [List.mem_cons, List.not_mem_nil, or_false]; omega)]) (fun _ => stv_hf (fun j hj => hf j (by revert hj; simp only [List.mem_cons, List.not_mem_nil, or_false]; omega)))
theorem mk_code {M : Mem} {n : Nat} {k v : Int32} : mset (mset (mset (mset M 0 0 0) 2 n k) 3 n (-1)) 1 0 v = mset (mset (mset (mset M 2 n k) 3 n (-1)) 1 0 v) 0 0 0 := by
  rw [mset_comm (k := 0) (by decide), mset_comm (k := 0) (by decide), mset_comm (k := 0) (by decide)]
theorem make_go {M : Mem} {s : Nat} {k : Int32} (hs : s < 2 ^ 31) (h1 : ¬ nT M = 60) (h2 : ¬ nm M s = 60) : f_make (mset M 0 0 0) (nI s) k = (nI (nT M), mset (m_change (mset (mset (mset M 2 (nT M) k) 3 (nT M) (-1)) 1 0 (nI (nT M + 1))) s (sd M s) (nm M s) 1 (nI (nT M)) 0 0) 0 0 0) := by
  rw [f_make, nI_clamp hs, if_neg (fun z => z.elim h1 h2)]
  show (nI (nT M), m_change (mset (mset (mset (mset M 0 0 0) 2 (nT M) k) 3 (nT M) (-1)) 1 0 (nI (nT M + 1))) s (sd M s) (nm M s) 1 (nI (nT M)) 0 0) = _
  rw [mk_code, m_change_code]
abbrev rm_MM_make : Room := { frames := 7, cells := 4, slots := 25, locals := 112 }
set_option maxHeartbeats 4000000 in
set_option maxRecDepth 100000 in
theorem k_MM_make (l : Launch) (hl9 : l.stackTraces = false) (Γ : Gam) (h : Pic) (ad : Nat → Nat → Nat) (M : Mem) (hC : cr_at Γ ad M h) (hI : Inv0 M)  (s0 k0 : Int32) : kM l Γ y_MM_make w_MM_make rm_MM_make [.ref (ad 0 0), .int s0, .int k0] h (pubQ Γ ad (sp_make M s0 k0)) (pubX Γ ad (sp_make M s0 k0)) 4 25 := by
  refine hg_entry (own := "ModelMerge") (cc := b_MM_make) (maxL := 5) (ret := (some .int)) (lv0 := [(0, .ref (ad 0 0)), (1, .int s0), (2, .int k0)]) (by decide) rfl rfl (Nat.le_of_ble_eq_true rfl) rfl ?_
  intro p e s m args below meth c A C hne hr
  have kx : h (ad 0 0) = some (.inr (6, [.ref (ad 1 0), .ref (ad 2 0), .int (M 1 0), .ref (ad 3 0), .int (M 9 0), .ref (ad 4 0), .int (M 4 0), .ref (ad 14 (nV M - 1)), .ref (ad 5 0), .int (M 22 0), .ref (ad 6 0), cr_pen ad M])) := hC.1 0 0 (liv0 (by omega))
  have kA1 : h (ad 1 0) = some (.inl ((Γ.2.1 0), 60, .inl (M 2))) := hC.1 1 0 (liv0 (by omega))
  have kA2 : h (ad 2 0) = some (.inl ((Γ.2.1 0), 60, .inl (M 3))) := hC.1 2 0 (liv0 (by omega))
  have kA3 : h (ad 3 0) = some (.inl ((Γ.2.1 3), 20, .inr (.inr (.inr (.inr (fun j => if j < nS M then some (ad 10 j) else none)))))) := hC.1 3 0 (liv0 (by omega))
  have kA4 : h (ad 4 0) = some (.inl ((Γ.2.1 4), 40, .inr (.inr (.inr (.inr (fun j => if j < nV M then some (ad 14 j) else none)))))) := hC.1 4 0 (liv0 (by omega))
  have kA5 : h (ad 5 0) = some (.inl ((Γ.2.1 5), 10, .inr (.inr (.inr (.inr (fun j => if j < nR M then some (ad 18 j) else none)))))) := hC.1 5 0 (liv0 (by omega))
  have kA6 : h (ad 6 0) = some (.inr (0, [.ref (ad 7 0), .ref (ad 8 0), .ref (ad 9 0), .int (M 27 0)])) := hC.1 6 0 (liv0 (by omega))
  have kA7 : h (ad 7 0) = some (.inl ((Γ.2.1 0), 300, .inl (M 28))) := hC.1 7 0 (liv0 (by omega))
  have kA8 : h (ad 8 0) = some (.inl ((Γ.2.1 0), 300, .inl (M 29))) := hC.1 8 0 (liv0 (by omega))
  have kA9 : h (ad 9 0) = some (.inl ((Γ.2.1 0), 300, .inl (M 30))) := hC.1 9 0 (liv0 (by omega))
  obtain ⟨⟨⟨eT, hT⟩, ⟨eV, hV1, hV⟩, ⟨eS, hS⟩, ⟨eR, hRR⟩, ⟨eC, hCn⟩⟩, hI2, hI3, hI4, hI5, hI6, hI7, hI8, -, hI10, hI11⟩ := id hI
  refine hg_aload_n C 0 d_MM_make_0 rfl rfl ?_
  refine hg_iload_n C 1 d_MM_make_1 rfl rfl ?_
  refine hg_Vv (q := ("ModelMerge", T_MM, 12)) C (k_MM_sessionOf l hl9 Γ _ ad M hC hI s0) (cw_MM_86 C.2.2.2.2.1 rfl rfl ⟨Nat.le_of_ble_eq_true rfl, Nat.le_of_ble_eq_true rfl⟩) kx rfl rfl rfl (Nat.le_of_ble_eq_true rfl) d_MM_make_2 ⟨Nat.le_of_ble_eq_true rfl, Nat.le_of_ble_eq_true rfl⟩ (fun co2 => ?_) (fun co2 => hg_out C hne (Nat.le_of_ble_eq_true rfl) (Nat.le_of_ble_eq_true rfl) (⟨Or.inl ⟨rfl, by rw [sp_make, gd1 (fun z => co2 z.1)]⟩, by rw [sp_make, gd1 (fun z => co2 z.1)]; exact cr_code 1 hC⟩))
  obtain ⟨s, hs, rfl⟩ := inr_nat (n := nS M) (id co2) (by omega)
  refine hg_tr (congrArg (ad 10) (nI_clamp (n := s) (by omega))) ?_
  have ks_s : h (ad 10 s) = some (.inr (3, [.int (nI s), .int (M 10 s), .ref (ad 14 (bs M s)), .ref (ad 11 s), .ref (ad 13 (60 * s + sd M s)), .int (M 13 s), .int (M 14 s), .int (M 15 s)])) := hC.1 10 s (livS (by omega) (by omega) (by omega))
  have kt_s : h (ad 11 s) = some (.inr (4, [.ref (ad 12 s)])) := hC.1 11 s (livS (by omega) (by omega) (by omega))
  have ku_s : h (ad 12 s) = some (.inl ((Γ.2.1 0), 360, .inl (sc M s))) := hC.1 12 s (livS (by omega) (by omega) (by omega))
  refine hg_astore_n (lv' := [(3, .ref (ad 10 s)), (0, .ref (ad 0 0)), (1, .int (nI s)), (2, .int k0)]) C d_MM_make_5 rfl (by decide) rfl ?_
  refine hg_iload_n C 3 d_MM_make_6 rfl rfl ?_
  refine hg_iconst (v := 5) C d_MM_make_7 (by decide) ?_
  refine hg_Sn C (k_MM_checkBelow l hl9 Γ _ k0 5) (cw_MM_68 C.2.2.2.2.1 rfl rfl ⟨Nat.le_of_ble_eq_true rfl, Nat.le_of_ble_eq_true rfl⟩) rfl rfl (Nat.le_of_ble_eq_true rfl) d_MM_make_8 ⟨Nat.le_of_ble_eq_true rfl, Nat.le_of_ble_eq_true rfl⟩ (fun cb8 => ?_) (fun cb8 => hg_out C hne (Nat.le_of_ble_eq_true rfl) (Nat.le_of_ble_eq_true rfl) (⟨Or.inl ⟨rfl, by rw [sp_make, gd1 (fun z => cb8 z.2)]⟩, by rw [sp_make, gd1 (fun z => cb8 z.2)]; exact cr_code 1 hC⟩))
  refine hg_aload_n C 0 d_MM_make_11 rfl rfl ?_
  refine hg_Sn C (k_MM_checkOpen l hl9 Γ _ (ad 10 s) (.int (nI s)) (.int (M 10 s)) (.ref (ad 14 (bs M s))) (.ref (ad 11 s)) (.ref (ad 13 (60 * s + sd M s))) (.int (M 13 s)) (.int (M 15 s)) (M 14 s) ks_s) (cw_MM_90 C.2.2.2.2.1 rfl rfl ⟨Nat.le_of_ble_eq_true rfl, Nat.le_of_ble_eq_true rfl⟩) rfl rfl (Nat.le_of_ble_eq_true rfl) d_MM_make_12 ⟨Nat.le_of_ble_eq_true rfl, Nat.le_of_ble_eq_true rfl⟩ (fun cp12 => ?_) (fun cp12 => hg_out C hne (Nat.le_of_ble_eq_true rfl) (Nat.le_of_ble_eq_true rfl) (⟨Or.inr ⟨rfl, by rw [sp_make, gd2 (⟨co2, cb8⟩) (show ¬ M 14 (nI s).toNatClampNeg = 0 by rw [nI_clamp (by omega)]; exact cp12)]⟩, by rw [sp_make, gd2 (⟨co2, cb8⟩) (show ¬ M 14 (nI s).toNatClampNeg = 0 by rw [nI_clamp (by omega)]; exact cp12)]; exact cr_code 2 hC⟩))
  refine hg_aload_n C 1 d_MM_make_15 rfl rfl ?_
  refine f_MM_16 C kx rfl d_MM_make_16 ?_
  refine hg_ti eT ?_
  refine hg_bipush (v := 60) C d_MM_make_19 (by decide) ?_
  refine hg_icmp_ge C 31 d_MM_make_21 (by decide) (fun c21 => ?_) (fun c21 => ?_)
  · refine hg_bipush (v := (-4)) C d_MM_make_31 (by decide) ?_
    exact hg_iret C hr rfl d_MM_make_33 (Nat.le_of_ble_eq_true rfl) (Nat.le_of_ble_eq_true rfl) (⟨by rw [sp_make, gd0 ⟨co2, cb8⟩ (show M 14 (nI s).toNatClampNeg = 0 by rw [nI_clamp (by omega)]; exact cp12), show f_make (mset M 0 0 0) (nI s) k0 = (-4, mset M 0 0 0) from if_pos (Or.inl (show nT M = 60 by have := (nI_leI (a := 60) (by omega) (by omega)).mp c21; omega))], by rw [sp_make, gd0 ⟨co2, cb8⟩ (show M 14 (nI s).toNatClampNeg = 0 by rw [nI_clamp (by omega)]; exact cp12)], ad, rfl, by rw [sp_make, gd0 ⟨co2, cb8⟩ (show M 14 (nI s).toNatClampNeg = 0 by rw [nI_clamp (by omega)]; exact cp12), show f_make (mset M 0 0 0) (nI s) k0 = (-4, mset M 0 0 0) from if_pos (Or.inl (show nT M = 60 by have := (nI_leI (a := 60) (by omega) (by omega)).mp c21; omega))]; exact cr_code 0 hC⟩)
  · refine hg_aload_n C 0 d_MM_make_24 rfl rfl ?_
    refine hg_VNb (q := ("ModelMerge$Session", T_Se, 8)) C (k_Se_isFull l Γ _ (ad 10 s) (.int (nI s)) (.int (M 10 s)) (.ref (ad 14 (bs M s))) (.ref (ad 11 s)) (.ref (ad 13 (60 * s + sd M s))) (.int (M 14 s)) (.int (M 15 s)) (M 13 s) ks_s) (cw_MM_94 C.2.2.2.2.1 rfl rfl ⟨Nat.le_of_ble_eq_true rfl, Nat.le_of_ble_eq_true rfl⟩) ks_s rfl rfl rfl (Nat.le_of_ble_eq_true rfl) d_MM_make_25 ⟨Nat.le_of_ble_eq_true rfl, Nat.le_of_ble_eq_true rfl⟩ (fun z1 => ?_) (fun z1 => ?_)
    · refine hg_if_eq C 34 d_MM_make_28 (by decide) (fun z => absurd z (by decide)) (fun _ => ?_)
      refine hg_bipush (v := (-4)) C d_MM_make_31 (by decide) ?_
      exact hg_iret C hr rfl d_MM_make_33 (Nat.le_of_ble_eq_true rfl) (Nat.le_of_ble_eq_true rfl) (⟨by rw [sp_make, gd0 ⟨co2, cb8⟩ (show M 14 (nI s).toNatClampNeg = 0 by rw [nI_clamp (by omega)]; exact cp12), show f_make (mset M 0 0 0) (nI s) k0 = (-4, mset M 0 0 0) from if_pos (Or.inr (by rw [nI_clamp (by omega)]; exact (show nm M s = 60 from by have y := Int32.not_lt.mp z1; rw [(hI2 s hs).2.2.1.1] at y; have y := (nI_leI (a := 60) (by omega) (by have := (hI2 s hs).2.2.1.2; omega)).mp y; have := (hI2 s hs).2.2.1.2; omega)))], by rw [sp_make, gd0 ⟨co2, cb8⟩ (show M 14 (nI s).toNatClampNeg = 0 by rw [nI_clamp (by omega)]; exact cp12)], ad, rfl, by rw [sp_make, gd0 ⟨co2, cb8⟩ (show M 14 (nI s).toNatClampNeg = 0 by rw [nI_clamp (by omega)]; exact cp12), show f_make (mset M 0 0 0) (nI s) k0 = (-4, mset M 0 0 0) from if_pos (Or.inr (by rw [nI_clamp (by omega)]; exact (show nm M s = 60 from by have y := Int32.not_lt.mp z1; rw [(hI2 s hs).2.2.1.1] at y; have y := (nI_leI (a := 60) (by omega) (by have := (hI2 s hs).2.2.1.2; omega)).mp y; have := (hI2 s hs).2.2.1.2; omega)))]; exact cr_code 0 hC⟩)
    · refine hg_if_eq C 34 d_MM_make_28 (by decide) (fun _ => ?_) (fun z => absurd (by decide) z)
      have hsd := (hI2 s hs).2.1.2
      have h60 := (hI2 s hs).2.2.1.2
      have e12 := (hI2 s hs).2.1.1
      have hlt := Nat.not_le.mp (fun z => c21 ((nI_leI (a := 60) (b := nT M) (by omega) (by omega)).mpr z))
      have e13 := (hI2 s hs).2.2.1.1
      have hn60 : ¬ nm M s = 60 := fun y => z1 (fun q => by rw [e13, y] at q; exact absurd q (by decide))
      have km : h (ad 13 (60 * s + sd M s)) = some (.inr (1, [.int (nI (sd M s)), mo_b ad M s (sd M s), .int (mo_t M s (sd M s)), .int (mo_f M s (sd M s)), .int (mo_o M s (sd M s)), .int (mo_n M s (sd M s)), mo_l ad M s (sd M s)])) := by rw [cr_m hC hs hsd (by omega)]
      refine hg_aload_n C 1 d_MM_make_34 rfl rfl ?_
      refine f_MM_16 C kx rfl d_MM_make_35 ?_
      refine hg_ti eT ?_
      refine hg_istore (lv' := [(4, .int (nI (nT M))), (3, .ref (ad 10 s)), (0, .ref (ad 0 0)), (1, .int (nI s)), (2, .int k0)]) C d_MM_make_38 (by decide) rfl ?_
      refine hg_aload_n C 2 d_MM_make_40 rfl rfl ?_
      refine f_MM_9 C kx rfl d_MM_make_41 ?_
      refine hg_iload C 0 d_MM_make_44 rfl ?_
      refine hg_iload_n C 4 d_MM_make_46 rfl rfl ?_
      refine hg_iast C 0 kA1 rfl (vp_in_nI (N := 60) (show nT M < 60 by omega) (by omega)) d_MM_make_47 ?_
      obtain ⟨h2, eh2⟩ : ∃ z, z = hp_up h (ad 1 0) (.inl ((Γ.2.1 0), 60, .inl (upd (M 2) ((nI (nT M)).toNatClampNeg) k0))) := ⟨_, rfl⟩
      refine hg_eq eh2.symm ?_
      have k3 : h2 (ad 0 0) = some (.inr (6, [.ref (ad 1 0), .ref (ad 2 0), .int (M 1 0), .ref (ad 3 0), .int (M 9 0), .ref (ad 4 0), .int (M 4 0), .ref (ad 14 (nV M - 1)), .ref (ad 5 0), .int (M 22 0), .ref (ad 6 0), cr_pen ad M])) := by rw [eh2]; exact hp_up_g kx (fun z => absurd (hC.2 0 0 1 0 (liv0 (by omega)) (liv0 (by omega)) z).1 (by decide))
      have k4 : h2 (ad 2 0) = some (.inl ((Γ.2.1 0), 60, .inl (M 3))) := by rw [eh2]; exact hp_up_g kA2 (fun z => absurd (hC.2 2 0 1 0 (liv0 (by omega)) (liv0 (by omega)) z).1 (by decide))
      have k5 : h2 (ad 3 0) = some (.inl ((Γ.2.1 3), 20, .inr (.inr (.inr (.inr (fun j => if j < nS M then some (ad 10 j) else none)))))) := by rw [eh2]; exact hp_up_g kA3 (fun z => absurd (hC.2 3 0 1 0 (liv0 (by omega)) (liv0 (by omega)) z).1 (by decide))
      have k6 : h2 (ad 4 0) = some (.inl ((Γ.2.1 4), 40, .inr (.inr (.inr (.inr (fun j => if j < nV M then some (ad 14 j) else none)))))) := by rw [eh2]; exact hp_up_g kA4 (fun z => absurd (hC.2 4 0 1 0 (liv0 (by omega)) (liv0 (by omega)) z).1 (by decide))
      have k7 : h2 (ad 5 0) = some (.inl ((Γ.2.1 5), 10, .inr (.inr (.inr (.inr (fun j => if j < nR M then some (ad 18 j) else none)))))) := by rw [eh2]; exact hp_up_g kA5 (fun z => absurd (hC.2 5 0 1 0 (liv0 (by omega)) (liv0 (by omega)) z).1 (by decide))
      have k8 : h2 (ad 6 0) = some (.inr (0, [.ref (ad 7 0), .ref (ad 8 0), .ref (ad 9 0), .int (M 27 0)])) := by rw [eh2]; exact hp_up_g kA6 (fun z => absurd (hC.2 6 0 1 0 (liv0 (by omega)) (liv0 (by omega)) z).1 (by decide))
      have k9 : h2 (ad 7 0) = some (.inl ((Γ.2.1 0), 300, .inl (M 28))) := by rw [eh2]; exact hp_up_g kA7 (fun z => absurd (hC.2 7 0 1 0 (liv0 (by omega)) (liv0 (by omega)) z).1 (by decide))
      have k10 : h2 (ad 8 0) = some (.inl ((Γ.2.1 0), 300, .inl (M 29))) := by rw [eh2]; exact hp_up_g kA8 (fun z => absurd (hC.2 8 0 1 0 (liv0 (by omega)) (liv0 (by omega)) z).1 (by decide))
      have k11 : h2 (ad 9 0) = some (.inl ((Γ.2.1 0), 300, .inl (M 30))) := by rw [eh2]; exact hp_up_g kA9 (fun z => absurd (hC.2 9 0 1 0 (liv0 (by omega)) (liv0 (by omega)) z).1 (by decide))
      have k12 : h2 (ad 10 s) = some (.inr (3, [.int (nI s), .int (M 10 s), .ref (ad 14 (bs M s)), .ref (ad 11 s), .ref (ad 13 (60 * s + sd M s)), .int (M 13 s), .int (M 14 s), .int (M 15 s)])) := by rw [eh2]; exact hp_up_g ks_s (fun z => absurd (hC.2 10 s 1 0 (livS (by omega) (by omega) (by omega)) (liv0 (by omega)) z).1 (by decide))
      have k13 : h2 (ad 11 s) = some (.inr (4, [.ref (ad 12 s)])) := by rw [eh2]; exact hp_up_g kt_s (fun z => absurd (hC.2 11 s 1 0 (livS (by omega) (by omega) (by omega)) (liv0 (by omega)) z).1 (by decide))
      have k14 : h2 (ad 12 s) = some (.inl ((Γ.2.1 0), 360, .inl (sc M s))) := by rw [eh2]; exact hp_up_g ku_s (fun z => absurd (hC.2 12 s 1 0 (livS (by omega) (by omega) (by omega)) (liv0 (by omega)) z).1 (by decide))
      have k15 : h2 (ad 13 (60 * s + sd M s)) = some (.inr (1, [.int (nI (sd M s)), mo_b ad M s (sd M s), .int (mo_t M s (sd M s)), .int (mo_f M s (sd M s)), .int (mo_o M s (sd M s)), .int (mo_n M s (sd M s)), mo_l ad M s (sd M s)])) := by rw [eh2]; exact hp_up_g km (fun z => absurd (hC.2 13 (60 * s + sd M s) 1 0 (livM hs hsd) (liv0 (by omega)) z).1 (by decide))
      have k16 : h2 (ad 1 0) = some (.inl ((Γ.2.1 0), 60, .inl (upd (M 2) ((nI (nT M)).toNatClampNeg) k0))) := by rw [eh2]; exact hp_up_s
      refine hg_aload_n C 2 d_MM_make_48 rfl rfl ?_
      refine f_MM_13 C k3 rfl d_MM_make_49 ?_
      refine hg_iload C 0 d_MM_make_52 rfl ?_
      refine hg_iconst (v := (-1)) C d_MM_make_54 (by decide) ?_
      refine hg_iast C 0 k4 rfl (vp_in_nI (N := 60) (show nT M < 60 by omega) (by omega)) d_MM_make_55 ?_
      obtain ⟨h17, eh17⟩ : ∃ z, z = hp_up h2 (ad 2 0) (.inl ((Γ.2.1 0), 60, .inl (upd (M 3) ((nI (nT M)).toNatClampNeg) (-1)))) := ⟨_, rfl⟩
      refine hg_eq eh17.symm ?_
      have k18 : h17 (ad 0 0) = some (.inr (6, [.ref (ad 1 0), .ref (ad 2 0), .int (M 1 0), .ref (ad 3 0), .int (M 9 0), .ref (ad 4 0), .int (M 4 0), .ref (ad 14 (nV M - 1)), .ref (ad 5 0), .int (M 22 0), .ref (ad 6 0), cr_pen ad M])) := by rw [eh17]; exact hp_up_g k3 (fun z => absurd (hC.2 0 0 2 0 (liv0 (by omega)) (liv0 (by omega)) z).1 (by decide))
      have k19 : h17 (ad 3 0) = some (.inl ((Γ.2.1 3), 20, .inr (.inr (.inr (.inr (fun j => if j < nS M then some (ad 10 j) else none)))))) := by rw [eh17]; exact hp_up_g k5 (fun z => absurd (hC.2 3 0 2 0 (liv0 (by omega)) (liv0 (by omega)) z).1 (by decide))
      have k20 : h17 (ad 4 0) = some (.inl ((Γ.2.1 4), 40, .inr (.inr (.inr (.inr (fun j => if j < nV M then some (ad 14 j) else none)))))) := by rw [eh17]; exact hp_up_g k6 (fun z => absurd (hC.2 4 0 2 0 (liv0 (by omega)) (liv0 (by omega)) z).1 (by decide))
      have k21 : h17 (ad 5 0) = some (.inl ((Γ.2.1 5), 10, .inr (.inr (.inr (.inr (fun j => if j < nR M then some (ad 18 j) else none)))))) := by rw [eh17]; exact hp_up_g k7 (fun z => absurd (hC.2 5 0 2 0 (liv0 (by omega)) (liv0 (by omega)) z).1 (by decide))
      have k22 : h17 (ad 6 0) = some (.inr (0, [.ref (ad 7 0), .ref (ad 8 0), .ref (ad 9 0), .int (M 27 0)])) := by rw [eh17]; exact hp_up_g k8 (fun z => absurd (hC.2 6 0 2 0 (liv0 (by omega)) (liv0 (by omega)) z).1 (by decide))
      have k23 : h17 (ad 7 0) = some (.inl ((Γ.2.1 0), 300, .inl (M 28))) := by rw [eh17]; exact hp_up_g k9 (fun z => absurd (hC.2 7 0 2 0 (liv0 (by omega)) (liv0 (by omega)) z).1 (by decide))
      have k24 : h17 (ad 8 0) = some (.inl ((Γ.2.1 0), 300, .inl (M 29))) := by rw [eh17]; exact hp_up_g k10 (fun z => absurd (hC.2 8 0 2 0 (liv0 (by omega)) (liv0 (by omega)) z).1 (by decide))
      have k25 : h17 (ad 9 0) = some (.inl ((Γ.2.1 0), 300, .inl (M 30))) := by rw [eh17]; exact hp_up_g k11 (fun z => absurd (hC.2 9 0 2 0 (liv0 (by omega)) (liv0 (by omega)) z).1 (by decide))
      have k26 : h17 (ad 10 s) = some (.inr (3, [.int (nI s), .int (M 10 s), .ref (ad 14 (bs M s)), .ref (ad 11 s), .ref (ad 13 (60 * s + sd M s)), .int (M 13 s), .int (M 14 s), .int (M 15 s)])) := by rw [eh17]; exact hp_up_g k12 (fun z => absurd (hC.2 10 s 2 0 (livS (by omega) (by omega) (by omega)) (liv0 (by omega)) z).1 (by decide))
      have k27 : h17 (ad 11 s) = some (.inr (4, [.ref (ad 12 s)])) := by rw [eh17]; exact hp_up_g k13 (fun z => absurd (hC.2 11 s 2 0 (livS (by omega) (by omega) (by omega)) (liv0 (by omega)) z).1 (by decide))
      have k28 : h17 (ad 12 s) = some (.inl ((Γ.2.1 0), 360, .inl (sc M s))) := by rw [eh17]; exact hp_up_g k14 (fun z => absurd (hC.2 12 s 2 0 (livS (by omega) (by omega) (by omega)) (liv0 (by omega)) z).1 (by decide))
      have k29 : h17 (ad 13 (60 * s + sd M s)) = some (.inr (1, [.int (nI (sd M s)), mo_b ad M s (sd M s), .int (mo_t M s (sd M s)), .int (mo_f M s (sd M s)), .int (mo_o M s (sd M s)), .int (mo_n M s (sd M s)), mo_l ad M s (sd M s)])) := by rw [eh17]; exact hp_up_g k15 (fun z => absurd (hC.2 13 (60 * s + sd M s) 2 0 (livM hs hsd) (liv0 (by omega)) z).1 (by decide))
      have k30 : h17 (ad 1 0) = some (.inl ((Γ.2.1 0), 60, .inl (upd (M 2) ((nI (nT M)).toNatClampNeg) k0))) := by rw [eh17]; exact hp_up_g k16 (fun z => absurd (hC.2 1 0 2 0 (liv0 (by omega)) (liv0 (by omega)) z).1 (by decide))
      have k31 : h17 (ad 2 0) = some (.inl ((Γ.2.1 0), 60, .inl (upd (M 3) ((nI (nT M)).toNatClampNeg) (-1)))) := by rw [eh17]; exact hp_up_s
      refine hg_aload_n C 2 d_MM_make_56 rfl rfl ?_
      refine hg_dup C d_MM_make_57 rfl ?_
      refine f_MM_16 C k18 rfl d_MM_make_58 ?_
      refine hg_ti eT ?_
      refine hg_iconst (v := 1) C d_MM_make_61 (by decide) ?_
      refine hg_iadd C d_MM_make_62 ?_
      refine hg_ti (nI_1 (nT M)) ?_
      refine p_MM_16 (fs' := [.ref (ad 1 0), .ref (ad 2 0), .int (nI (nT M + 1)), .ref (ad 3 0), .int (M 9 0), .ref (ad 4 0), .int (M 4 0), .ref (ad 14 (nV M - 1)), .ref (ad 5 0), .int (M 22 0), .ref (ad 6 0), cr_pen ad M]) C k18 rfl rfl (Nat.le_of_ble_eq_true rfl) rfl d_MM_make_63 ?_
      obtain ⟨h32, eh32⟩ : ∃ z, z = hp_up h17 (ad 0 0) (.inr (6, [.ref (ad 1 0), .ref (ad 2 0), .int (nI (nT M + 1)), .ref (ad 3 0), .int (M 9 0), .ref (ad 4 0), .int (M 4 0), .ref (ad 14 (nV M - 1)), .ref (ad 5 0), .int (M 22 0), .ref (ad 6 0), cr_pen ad M])) := ⟨_, rfl⟩
      refine hg_eq eh32.symm ?_
      have k33 : h32 (ad 3 0) = some (.inl ((Γ.2.1 3), 20, .inr (.inr (.inr (.inr (fun j => if j < nS M then some (ad 10 j) else none)))))) := by rw [eh32]; exact hp_up_g k19 (fun z => absurd (hC.2 3 0 0 0 (liv0 (by omega)) (liv0 (by omega)) z).1 (by decide))
      have k34 : h32 (ad 4 0) = some (.inl ((Γ.2.1 4), 40, .inr (.inr (.inr (.inr (fun j => if j < nV M then some (ad 14 j) else none)))))) := by rw [eh32]; exact hp_up_g k20 (fun z => absurd (hC.2 4 0 0 0 (liv0 (by omega)) (liv0 (by omega)) z).1 (by decide))
      have k35 : h32 (ad 5 0) = some (.inl ((Γ.2.1 5), 10, .inr (.inr (.inr (.inr (fun j => if j < nR M then some (ad 18 j) else none)))))) := by rw [eh32]; exact hp_up_g k21 (fun z => absurd (hC.2 5 0 0 0 (liv0 (by omega)) (liv0 (by omega)) z).1 (by decide))
      have k36 : h32 (ad 6 0) = some (.inr (0, [.ref (ad 7 0), .ref (ad 8 0), .ref (ad 9 0), .int (M 27 0)])) := by rw [eh32]; exact hp_up_g k22 (fun z => absurd (hC.2 6 0 0 0 (liv0 (by omega)) (liv0 (by omega)) z).1 (by decide))
      have k37 : h32 (ad 7 0) = some (.inl ((Γ.2.1 0), 300, .inl (M 28))) := by rw [eh32]; exact hp_up_g k23 (fun z => absurd (hC.2 7 0 0 0 (liv0 (by omega)) (liv0 (by omega)) z).1 (by decide))
      have k38 : h32 (ad 8 0) = some (.inl ((Γ.2.1 0), 300, .inl (M 29))) := by rw [eh32]; exact hp_up_g k24 (fun z => absurd (hC.2 8 0 0 0 (liv0 (by omega)) (liv0 (by omega)) z).1 (by decide))
      have k39 : h32 (ad 9 0) = some (.inl ((Γ.2.1 0), 300, .inl (M 30))) := by rw [eh32]; exact hp_up_g k25 (fun z => absurd (hC.2 9 0 0 0 (liv0 (by omega)) (liv0 (by omega)) z).1 (by decide))
      have k40 : h32 (ad 10 s) = some (.inr (3, [.int (nI s), .int (M 10 s), .ref (ad 14 (bs M s)), .ref (ad 11 s), .ref (ad 13 (60 * s + sd M s)), .int (M 13 s), .int (M 14 s), .int (M 15 s)])) := by rw [eh32]; exact hp_up_g k26 (fun z => absurd (hC.2 10 s 0 0 (livS (by omega) (by omega) (by omega)) (liv0 (by omega)) z).1 (by decide))
      have k41 : h32 (ad 11 s) = some (.inr (4, [.ref (ad 12 s)])) := by rw [eh32]; exact hp_up_g k27 (fun z => absurd (hC.2 11 s 0 0 (livS (by omega) (by omega) (by omega)) (liv0 (by omega)) z).1 (by decide))
      have k42 : h32 (ad 12 s) = some (.inl ((Γ.2.1 0), 360, .inl (sc M s))) := by rw [eh32]; exact hp_up_g k28 (fun z => absurd (hC.2 12 s 0 0 (livS (by omega) (by omega) (by omega)) (liv0 (by omega)) z).1 (by decide))
      have k43 : h32 (ad 13 (60 * s + sd M s)) = some (.inr (1, [.int (nI (sd M s)), mo_b ad M s (sd M s), .int (mo_t M s (sd M s)), .int (mo_f M s (sd M s)), .int (mo_o M s (sd M s)), .int (mo_n M s (sd M s)), mo_l ad M s (sd M s)])) := by rw [eh32]; exact hp_up_g k29 (fun z => absurd (hC.2 13 (60 * s + sd M s) 0 0 (livM hs hsd) (liv0 (by omega)) z).1 (by decide))
      have k44 : h32 (ad 1 0) = some (.inl ((Γ.2.1 0), 60, .inl (upd (M 2) ((nI (nT M)).toNatClampNeg) k0))) := by rw [eh32]; exact hp_up_g k30 (fun z => absurd (hC.2 1 0 0 0 (liv0 (by omega)) (liv0 (by omega)) z).1 (by decide))
      have k45 : h32 (ad 2 0) = some (.inl ((Γ.2.1 0), 60, .inl (upd (M 3) ((nI (nT M)).toNatClampNeg) (-1)))) := by rw [eh32]; exact hp_up_g k31 (fun z => absurd (hC.2 2 0 0 0 (liv0 (by omega)) (liv0 (by omega)) z).1 (by decide))
      have k46 : h32 (ad 0 0) = some (.inr (6, [.ref (ad 1 0), .ref (ad 2 0), .int (nI (nT M + 1)), .ref (ad 3 0), .int (M 9 0), .ref (ad 4 0), .int (M 4 0), .ref (ad 14 (nV M - 1)), .ref (ad 5 0), .int (M 22 0), .ref (ad 6 0), cr_pen ad M])) := by rw [eh32]; exact hp_up_s
      refine hg_aload_n C 1 d_MM_make_66 rfl rfl ?_
      refine hg_iload C 0 d_MM_make_67 rfl ?_
      refine hg_iconst (v := (-1)) C d_MM_make_69 (by decide) ?_
      refine hg_iconst (v := 1) C d_MM_make_70 (by decide) ?_
      refine hg_VNu (q := ("ModelMerge$Session", T_Se, 8)) C (k_Se_change l Γ _ (ad 10 s) (ad 11 s) (ad 12 s) (ad 13 (60 * s + sd M s)) (sc M s) (.int (nI s)) (.int (M 10 s)) (.ref (ad 14 (bs M s))) (.int (M 14 s)) (.int (M 15 s)) (mo_b ad M s (sd M s)) (mo_l ad M s (sd M s)) (M 13 s) (nI (sd M s)) (mo_t M s (sd M s)) (mo_f M s (sd M s)) (mo_o M s (sd M s)) (mo_n M s (sd M s)) k40 k41 k42 k43 (nI (nT M)) (-1) 1) (cw_MM_98 C.2.2.2.2.1 rfl rfl ⟨Nat.le_of_ble_eq_true rfl, Nat.le_of_ble_eq_true rfl⟩) k40 rfl rfl rfl (Nat.le_of_ble_eq_true rfl) d_MM_make_71 ⟨Nat.le_of_ble_eq_true rfl, Nat.le_of_ble_eq_true rfl⟩ (fun u eu => ?_)
      obtain ⟨q, hq, u1, u2, u3, u4, u5⟩ := eu
      refine hg_pop C d_MM_make_74 rfl ?_
      refine hg_iload C 0 d_MM_make_75 rfl ?_
      have hC3 := cr_mk0 (n := nT M) (k := k0) (v := nI (nT M + 1)) (h1 := h2) (h2 := h17) hC (by rw [eh2, nI_clamp (by omega)]) (by rw [eh17, nI_clamp (by omega)]) eh32
      have hf9 : ∀ j, j ∈ [5, 6, 11, 12, 16, 18, 19, 20, 21] → mset (mset (mset M 2 (nT M) k0) 3 (nT M) (-1)) 1 0 (nI (nT M + 1)) j = M j := fun j hj => (hfl2 (by decide) (by decide) j hj).trans (hfl1 (by decide) hj)
      have E := cr_change (M := mset (mset (mset M 2 (nT M) k0) 3 (nT M) (-1)) 1 0 (nI (nT M + 1))) (hw := 1) (f := 0) (v := 0) (ff := -1) (vv := 1) (t := nT M) (h1 := u) hC3 (show J M from J_of hI) hs (show nm M s < 60 by omega) e13 (by omega) (Or.inr (Or.inl ⟨rfl, rfl, rfl⟩)) hq (by rw [sc_hf hf9, mo_o_hf hf9]; exact fr4 u3 u2 u1 u4 (fun z a b c d => u5 z c b a d))
      exact hg_iret C hr rfl d_MM_make_77 (Nat.le_of_ble_eq_true rfl) (Nat.le_of_ble_eq_true rfl) (⟨by rw [sp_make, gd0 ⟨co2, cb8⟩ (show M 14 (nI s).toNatClampNeg = 0 by rw [nI_clamp (by omega)]; exact cp12), make_go (by omega) (show ¬ nT M = 60 by omega) hn60], by rw [sp_make, gd0 ⟨co2, cb8⟩ (show M 14 (nI s).toNatClampNeg = 0 by rw [nI_clamp (by omega)]; exact cp12)], a_up ad 13 (60 * s + nm M s) q, rfl, by rw [sp_make, gd0 ⟨co2, cb8⟩ (show M 14 (nI s).toNatClampNeg = 0 by rw [nI_clamp (by omega)]; exact cp12), make_go (by omega) (show ¬ nT M = 60 by omega) hn60]; exact cr_code 0 E⟩)
