/-! THE CLASS: told, count, there -/
theorem sw_out {x : Int32} {n : Nat} (h : x < 0 ∨ nI n ≤ x) (hn : n < 2 ^ 31) : x.toInt < 0 ∨ (n : Int) ≤ x.toInt := by
  rcases h with z | z
  · exact Or.inl (by simpa using Int32.lt_iff_toInt_lt.mp z)
  · have := Int32.le_iff_toInt_le.mp z
    rw [nI_toInt hn] at this
    exact Or.inr this
theorem v_new_th {M : Mem} (hI : Inv0 M) (hO : I_org M) {v t : Nat} (hv : v < nV M) (ht : t < nT M) : ∀ k, k ≤ 5 → v_new (vc M v) (og M v) (nI v) (nI t) k = c_th M v t k
  | 0, _ => rfl
  | k + 1, hk => by
    have hT := hI.1.1.2
    have hV := hI.1.2.1.2.2
    have ih := v_new_th hI hO hv ht k (by omega)
    have hth : s_has (vc M v) (nI t) ↔ i_th M (nI v) (nI t) := (s_has_vc (by omega)).trans (i_th_of hI hv ht).symm
    rw [v_new, c_th, ih]
    by_cases h1 : i_th M (nI v) (nI t)
    · rw [if_pos h1]
      have key : v_org (og M v) (nI v) (nI t) (nI k) = nI v ↔ ¬ i_same M v t k := by
        rw [v_org_nat (by omega) (by omega)]
        cases v with
        | zero =>
          refine ⟨fun _ z => ?_, fun _ => rfl⟩
          exact absurd (show nI 0 - 1 < 0 by decide) z.1.1.1
        | succ w =>
          have e1 : nI (w + 1) - 1 = nI w := nI_pred w
          have hs : i_same M (w + 1) t k ↔ (s_has (vc M w) (nI t) ∧ s_val (vc M w) (nI t) (nI k) = s_val (vc M (w + 1)) (nI t) (nI k)) := by
            unfold i_same
            rw [e1, vc_f (by omega) (by omega), vc_f (by omega) (by omega), show 60 * (w + 1) - 60 + t = 60 * w + t by omega]
            exact and_congr_left fun _ => (i_th_of hI (by omega) ht).trans (s_has_vc (by omega)).symm
          have e2 : og M (w + 1) (t * 5 + k) = v_tr1 (vc M w) (vc M (w + 1)) (og M w) (nI w) (nI (w + 1)) (t * 5 + k) := if_pos (by omega)
          rw [e2, v_tr1_at (by omega)]
          by_cases hh : i_same M (w + 1) t k
          · rw [if_pos (hs.mp hh), v_org_nat (by omega) (by omega)]
            obtain ⟨j, hj, ej⟩ := (hO w (by omega)).1 (t * 5 + k) (by omega)
            rw [ej]
            exact ⟨fun z => absurd ((nI_eq (by omega) (by omega)).mp z) (by omega), fun z => absurd hh z⟩
          · rw [if_neg (fun z => hh (hs.mpr z))]
            exact ⟨fun _ => hh, fun _ => rfl⟩
      by_cases h2 : i_same M v t k
      · rw [if_pos h2, if_neg (fun z => key.mp z.2 h2)]
      · rw [if_neg h2, if_pos ⟨hth.mpr h1, key.mpr h2⟩]
    · rw [if_neg h1, if_neg (fun z => h1 (hth.mp z.1))]
theorem th_01 {M : Mem} (hI : Inv0 M) {v t : Nat} (hv : v < nV M) (ht : t < nT M) : M 5 (60 * v + t) = @ite _ (i_th M (nI v) (nI t)) (Classical.propDecidable _) 1 0 := by
  have hT := hI.1.1.2
  by_cases h : i_th M (nI v) (nI t)
  · rw [if_pos h]; exact (i_th_of hI hv ht).mp h
  · rw [if_neg h]
    rcases hI.2.2.2.2.2.2.2.1 v hv t (by omega) with y | y
    · exact absurd ((i_th_of hI hv ht).mpr y.1) h
    · exact y.1
theorem c_th_code {M : Mem} (c : Int32) (v t : Nat) : ∀ k, c_th (mset M 0 0 c) v t k = c_th M v t k
  | 0 => rfl
  | k + 1 => by
    rw [c_th, c_th, c_th_code c v t k]
    rfl
abbrev rm_MM_told : Room := { frames := 7, cells := 2, slots := 12, locals := 112 }
set_option maxHeartbeats 4000000 in
set_option maxRecDepth 100000 in
theorem k_MM_told (l : Launch) (hl9 : l.stackTraces = false) (Γ : Gam) (h : Pic) (ad : Nat → Nat → Nat) (M : Mem) (hC : cr_at Γ ad M h) (hI : Inv0 M)  (s0 w0 : Int32) : kM l Γ y_MM_told w_MM_told rm_MM_told [.ref (ad 0 0), .int s0, .int w0] h (pubQ Γ ad (sp_told M s0 w0)) (pubX Γ ad (sp_told M s0 w0)) 2 12 := by
  refine hg_entry (own := "ModelMerge") (cc := b_MM_told) (maxL := 4) (ret := (some .int)) (lv0 := [(0, .ref (ad 0 0)), (1, .int s0), (2, .int w0)]) (by decide) rfl rfl (Nat.le_of_ble_eq_true rfl) rfl ?_
  intro p e s m args below meth c A C hne hr
  have kx := hC.1 0 0 (liv0 (by omega))
  have k1 := hC.1 1 0 (liv0 (by omega))
  have k2 := hC.1 2 0 (liv0 (by omega))
  have k3 := hC.1 3 0 (liv0 (by omega))
  have k4 := hC.1 4 0 (liv0 (by omega))
  have k5 := hC.1 5 0 (liv0 (by omega))
  have k6 := hC.1 6 0 (liv0 (by omega))
  have k7 := hC.1 7 0 (liv0 (by omega))
  have k8 := hC.1 8 0 (liv0 (by omega))
  have k9 := hC.1 9 0 (liv0 (by omega))
  obtain ⟨⟨⟨eT, hT⟩, ⟨eV, hV1, hV⟩, ⟨eS, hS⟩, ⟨eR, hRR⟩, ⟨eC, hCn⟩⟩, hI2, hI3, hI4, hI5, hI6, hI7, hI8, -, hI10, hI11⟩ := id hI
  refine hg_aload_n C 0 d_MM_told_0 rfl rfl ?_
  refine hg_iload_n C 1 d_MM_told_1 rfl rfl ?_
  refine hg_Vv (q := ("ModelMerge", T_MM, 12)) C (k_MM_sessionOf l hl9 Γ _ ad M hC hI s0) (cw_MM_86 C.2.2.2.2.1 rfl rfl ⟨Nat.le_of_ble_eq_true rfl, Nat.le_of_ble_eq_true rfl⟩) kx rfl rfl rfl (Nat.le_of_ble_eq_true rfl) d_MM_told_2 ⟨Nat.le_of_ble_eq_true rfl, Nat.le_of_ble_eq_true rfl⟩ (fun co2 => ?_) (fun co2 => hg_out C hne (Nat.le_of_ble_eq_true rfl) (Nat.le_of_ble_eq_true rfl) (⟨Or.inl ⟨rfl, by rw [sp_told, gd1 (fun z => co2 z.1)]⟩, by rw [sp_told, gd1 (fun z => co2 z.1)]; exact cr_code 1 hC⟩))
  obtain ⟨s, hs, rfl⟩ := inr_nat (n := nS M) (id co2) (by omega)
  refine hg_tr (congrArg (ad 10) (nI_clamp (n := s) (by omega))) ?_
  have ks_s := hC.1 10 s (livS (by omega) (by omega) (by omega))
  have kt_s := hC.1 11 s (livS (by omega) (by omega) (by omega))
  have ku_s := hC.1 12 s (livS (by omega) (by omega) (by omega))
  refine hg_astore_n (lv' := [(3, .ref (ad 10 s)), (0, .ref (ad 0 0)), (1, .int (nI s)), (2, .int w0)]) C d_MM_told_5 rfl (by decide) rfl ?_
  refine hg_iload_n C 3 d_MM_told_6 rfl rfl ?_
  rcases pk_ix w0 (n := 6) (by omega) with hw | hw | ⟨j, hj, rfl⟩
  · refine hg_tableOut C 80 d_MM_told_7 (by have z := sw_out (n := 6) (Or.inl hw) (by omega); omega) (by decide) ?_
    exact th_IAE (is := 211) (text := "what is 0 to 5") (sa := Γ.2.2 12) C hne hl9 (List.mem_of_getElem? (i := 12) rfl) d_MM_told_80 d_MM_told_83 d_MM_told_84 d_MM_told_86 d_MM_told_89 (Nat.le_of_ble_eq_true rfl) (Nat.le_of_ble_eq_true rfl) (Nat.le_of_ble_eq_true rfl) (Nat.le_of_ble_eq_true rfl) (Nat.le_of_ble_eq_true rfl) (Nat.le_of_ble_eq_true rfl) (⟨Or.inl ⟨rfl, by rw [sp_told, gd1 (fun z => z.2.1 hw)]⟩, by rw [sp_told, gd1 (fun z => z.2.1 hw)]; exact cr_code 1 hC⟩)
  · refine hg_tableOut C 80 d_MM_told_7 (by have z := sw_out (n := 6) (Or.inr hw) (by omega); omega) (by decide) ?_
    exact th_IAE (is := 211) (text := "what is 0 to 5") (sa := Γ.2.2 12) C hne hl9 (List.mem_of_getElem? (i := 12) rfl) d_MM_told_80 d_MM_told_83 d_MM_told_84 d_MM_told_86 d_MM_told_89 (Nat.le_of_ble_eq_true rfl) (Nat.le_of_ble_eq_true rfl) (Nat.le_of_ble_eq_true rfl) (Nat.le_of_ble_eq_true rfl) (Nat.le_of_ble_eq_true rfl) (Nat.le_of_ble_eq_true rfl) (⟨Or.inl ⟨rfl, by rw [sp_told, gd1 (fun z => z.2.2 hw)]⟩, by rw [sp_told, gd1 (fun z => z.2.2 hw)]; exact cr_code 1 hC⟩)
  · rcases (show j = 0 ∨ j = 1 ∨ j = 2 ∨ j = 3 ∨ j = 4 ∨ j = 5 by omega) with rfl | rfl | rfl | rfl | rfl | rfl
    · refine hg_tableIn C 44 d_MM_told_7 (by decide) (by decide) rfl (by decide) ?_
      refine hg_aload_n C 0 d_MM_told_44 rfl rfl ?_
      refine f_MM_135 C ks_s rfl d_MM_told_45 ?_
      exact hg_iret C hr rfl d_MM_told_48 (Nat.le_of_ble_eq_true rfl) (Nat.le_of_ble_eq_true rfl) (⟨by rw [sp_told, gd0 (⟨co2, (show inr (nI 0) 6 from inr_of (j := 0) (n := 6) (by omega) (by omega))⟩) trivial]; rw [nI_clamp (n := s) (by omega), f_told, if_pos (show nI 0 = 0 from rfl)]; rfl, by rw [sp_told, gd0 (⟨co2, (show inr (nI 0) 6 from inr_of (j := 0) (n := 6) (by omega) (by omega))⟩) trivial], ad, rfl, by rw [sp_told, gd0 (⟨co2, (show inr (nI 0) 6 from inr_of (j := 0) (n := 6) (by omega) (by omega))⟩) trivial]; exact cr_code 0 hC⟩)
    · refine hg_tableIn C 49 d_MM_told_7 (by decide) (by decide) rfl (by decide) ?_
      refine hg_aload_n C 0 d_MM_told_49 rfl rfl ?_
      refine f_MM_191 C ks_s rfl d_MM_told_50 ?_
      exact hg_iret C hr rfl d_MM_told_53 (Nat.le_of_ble_eq_true rfl) (Nat.le_of_ble_eq_true rfl) (⟨by rw [sp_told, gd0 (⟨co2, (show inr (nI 1) 6 from inr_of (j := 1) (n := 6) (by omega) (by omega))⟩) trivial]; rw [nI_clamp (n := s) (by omega), f_told, if_neg (by decide), if_pos (show nI 1 = 1 from rfl)]; rfl, by rw [sp_told, gd0 (⟨co2, (show inr (nI 1) 6 from inr_of (j := 1) (n := 6) (by omega) (by omega))⟩) trivial], ad, rfl, by rw [sp_told, gd0 (⟨co2, (show inr (nI 1) 6 from inr_of (j := 1) (n := 6) (by omega) (by omega))⟩) trivial]; exact cr_code 0 hC⟩)
    · refine hg_tableIn C 54 d_MM_told_7 (by decide) (by decide) rfl (by decide) ?_
      have hbs := (hI2 s hs).1.2
      have kv_b := hC.1 14 (bs M s) (livV (by omega) (by omega) (by omega))
      have kw_b := hC.1 15 (bs M s) (livV (by omega) (by omega) (by omega))
      have ky_b := hC.1 16 (bs M s) (livV (by omega) (by omega) (by omega))
      have kz_b := hC.1 17 (bs M s) (livV (by omega) (by omega) (by omega))
      refine hg_aload_n C 0 d_MM_told_54 rfl rfl ?_
      refine f_MM_194 C ks_s rfl d_MM_told_55 ?_
      refine f_MM_197 C kv_b rfl d_MM_told_58 ?_
      exact hg_iret C hr rfl d_MM_told_61 (Nat.le_of_ble_eq_true rfl) (Nat.le_of_ble_eq_true rfl) (⟨by rw [sp_told, gd0 (⟨co2, (show inr (nI 2) 6 from inr_of (j := 2) (n := 6) (by omega) (by omega))⟩) trivial]; rw [nI_clamp (n := s) (by omega), f_told, if_neg (by decide), if_neg (by decide), if_pos (show nI 2 = 2 from rfl)]; exact congrArg (fun z => some (Value.int z)) (hI2 s hs).1.1.symm, by rw [sp_told, gd0 (⟨co2, (show inr (nI 2) 6 from inr_of (j := 2) (n := 6) (by omega) (by omega))⟩) trivial], ad, rfl, by rw [sp_told, gd0 (⟨co2, (show inr (nI 2) 6 from inr_of (j := 2) (n := 6) (by omega) (by omega))⟩) trivial]; exact cr_code 0 hC⟩)
    · refine hg_tableIn C 62 d_MM_told_7 (by decide) (by decide) rfl (by decide) ?_
      have hsd := (hI2 s hs).2.1.2
      have h60 := (hI2 s hs).2.2.1.2
      have km := cr_m hC hs hsd (by omega)
      refine hg_aload_n C 0 d_MM_told_62 rfl rfl ?_
      refine f_MM_198 C ks_s rfl d_MM_told_63 ?_
      refine f_MM_202 C km rfl d_MM_told_66 ?_
      exact hg_iret C hr rfl d_MM_told_69 (Nat.le_of_ble_eq_true rfl) (Nat.le_of_ble_eq_true rfl) (⟨by rw [sp_told, gd0 (⟨co2, (show inr (nI 3) 6 from inr_of (j := 3) (n := 6) (by omega) (by omega))⟩) trivial]; rw [nI_clamp (n := s) (by omega), f_told, if_neg (by decide), if_neg (by decide), if_neg (by decide), if_pos (show nI 3 = 3 from rfl)]; exact congrArg (fun z => some (Value.int z)) (hI2 s hs).2.1.1.symm, by rw [sp_told, gd0 (⟨co2, (show inr (nI 3) 6 from inr_of (j := 3) (n := 6) (by omega) (by omega))⟩) trivial], ad, rfl, by rw [sp_told, gd0 (⟨co2, (show inr (nI 3) 6 from inr_of (j := 3) (n := 6) (by omega) (by omega))⟩) trivial]; exact cr_code 0 hC⟩)
    · refine hg_tableIn C 70 d_MM_told_7 (by decide) (by decide) rfl (by decide) ?_
      refine hg_aload_n C 0 d_MM_told_70 rfl rfl ?_
      refine f_MM_205 C ks_s rfl d_MM_told_71 ?_
      exact hg_iret C hr rfl d_MM_told_74 (Nat.le_of_ble_eq_true rfl) (Nat.le_of_ble_eq_true rfl) (⟨by rw [sp_told, gd0 (⟨co2, (show inr (nI 4) 6 from inr_of (j := 4) (n := 6) (by omega) (by omega))⟩) trivial]; rw [nI_clamp (n := s) (by omega), f_told, if_neg (by decide), if_neg (by decide), if_neg (by decide), if_neg (by decide), if_pos (show nI 4 = 4 from rfl)]; rfl, by rw [sp_told, gd0 (⟨co2, (show inr (nI 4) 6 from inr_of (j := 4) (n := 6) (by omega) (by omega))⟩) trivial], ad, rfl, by rw [sp_told, gd0 (⟨co2, (show inr (nI 4) 6 from inr_of (j := 4) (n := 6) (by omega) (by omega))⟩) trivial]; exact cr_code 0 hC⟩)
    · refine hg_tableIn C 75 d_MM_told_7 (by decide) (by decide) rfl (by decide) ?_
      refine hg_aload_n C 0 d_MM_told_75 rfl rfl ?_
      refine f_MM_208 C ks_s rfl d_MM_told_76 ?_
      exact hg_iret C hr rfl d_MM_told_79 (Nat.le_of_ble_eq_true rfl) (Nat.le_of_ble_eq_true rfl) (⟨by rw [sp_told, gd0 (⟨co2, (show inr (nI 5) 6 from inr_of (j := 5) (n := 6) (by omega) (by omega))⟩) trivial]; rw [nI_clamp (n := s) (by omega), f_told, if_neg (by decide), if_neg (by decide), if_neg (by decide), if_neg (by decide), if_neg (by decide)]; rfl, by rw [sp_told, gd0 (⟨co2, (show inr (nI 5) 6 from inr_of (j := 5) (n := 6) (by omega) (by omega))⟩) trivial], ad, rfl, by rw [sp_told, gd0 (⟨co2, (show inr (nI 5) 6 from inr_of (j := 5) (n := 6) (by omega) (by omega))⟩) trivial]; exact cr_code 0 hC⟩)
abbrev rm_MM_count : Room := { frames := 6, cells := 1, slots := 6, locals := 90 }
set_option maxHeartbeats 4000000 in
set_option maxRecDepth 100000 in
theorem k_MM_count (l : Launch) (hl9 : l.stackTraces = false) (Γ : Gam) (h : Pic) (ad : Nat → Nat → Nat) (M : Mem) (hC : cr_at Γ ad M h) (hI : Inv0 M)  (w0 : Int32) : kM l Γ y_MM_count w_MM_count rm_MM_count [.ref (ad 0 0), .int w0] h (pubQ Γ ad (sp_count M w0)) (pubX Γ ad (sp_count M w0)) 1 6 := by
  refine hg_entry (own := "ModelMerge") (cc := b_MM_count) (maxL := 2) (ret := (some .int)) (lv0 := [(0, .ref (ad 0 0)), (1, .int w0)]) (by decide) rfl rfl (Nat.le_of_ble_eq_true rfl) rfl ?_
  intro p e s m args below meth c A C hne hr
  have kx := hC.1 0 0 (liv0 (by omega))
  have k1 := hC.1 1 0 (liv0 (by omega))
  have k2 := hC.1 2 0 (liv0 (by omega))
  have k3 := hC.1 3 0 (liv0 (by omega))
  have k4 := hC.1 4 0 (liv0 (by omega))
  have k5 := hC.1 5 0 (liv0 (by omega))
  have k6 := hC.1 6 0 (liv0 (by omega))
  have k7 := hC.1 7 0 (liv0 (by omega))
  have k8 := hC.1 8 0 (liv0 (by omega))
  have k9 := hC.1 9 0 (liv0 (by omega))
  obtain ⟨⟨⟨eT, hT⟩, ⟨eV, hV1, hV⟩, ⟨eS, hS⟩, ⟨eR, hRR⟩, ⟨eC, hCn⟩⟩, hI2, hI3, hI4, hI5, hI6, hI7, hI8, -, hI10, hI11⟩ := id hI
  refine hg_iload_n C 1 d_MM_count_0 rfl rfl ?_
  rcases pk_ix w0 (n := 4) (by omega) with hw | hw | ⟨j, hj, rfl⟩
  · refine hg_tableOut C 52 d_MM_count_1 (by have z := sw_out (n := 4) (Or.inl hw) (by omega); omega) (by decide) ?_
    exact th_IAE (is := 218) (text := "what is 0 to 3") (sa := Γ.2.2 14) C hne hl9 (List.mem_of_getElem? (i := 14) rfl) d_MM_count_52 d_MM_count_55 d_MM_count_56 d_MM_count_58 d_MM_count_61 (Nat.le_of_ble_eq_true rfl) (Nat.le_of_ble_eq_true rfl) (Nat.le_of_ble_eq_true rfl) (Nat.le_of_ble_eq_true rfl) (Nat.le_of_ble_eq_true rfl) (Nat.le_of_ble_eq_true rfl) (⟨Or.inl ⟨rfl, by rw [sp_count, gd1 (fun z => z.1 hw)]⟩, by rw [sp_count, gd1 (fun z => z.1 hw)]; exact cr_code 1 hC⟩)
  · refine hg_tableOut C 52 d_MM_count_1 (by have z := sw_out (n := 4) (Or.inr hw) (by omega); omega) (by decide) ?_
    exact th_IAE (is := 218) (text := "what is 0 to 3") (sa := Γ.2.2 14) C hne hl9 (List.mem_of_getElem? (i := 14) rfl) d_MM_count_52 d_MM_count_55 d_MM_count_56 d_MM_count_58 d_MM_count_61 (Nat.le_of_ble_eq_true rfl) (Nat.le_of_ble_eq_true rfl) (Nat.le_of_ble_eq_true rfl) (Nat.le_of_ble_eq_true rfl) (Nat.le_of_ble_eq_true rfl) (Nat.le_of_ble_eq_true rfl) (⟨Or.inl ⟨rfl, by rw [sp_count, gd1 (fun z => z.2 hw)]⟩, by rw [sp_count, gd1 (fun z => z.2 hw)]; exact cr_code 1 hC⟩)
  · rcases (show j = 0 ∨ j = 1 ∨ j = 2 ∨ j = 3 by omega) with rfl | rfl | rfl | rfl
    · refine hg_tableIn C 32 d_MM_count_1 (by decide) (by decide) rfl (by decide) ?_
      refine hg_aload_n C 0 d_MM_count_32 rfl rfl ?_
      refine f_MM_35 C kx rfl d_MM_count_33 ?_
      refine hg_ti eV ?_
      exact hg_iret C hr rfl d_MM_count_36 (Nat.le_of_ble_eq_true rfl) (Nat.le_of_ble_eq_true rfl) (⟨by rw [sp_count, gd0 (show inr (nI 0) 4 from inr_of (j := 0) (n := 4) (by omega) (by omega)) trivial]; rw [if_pos (show nI 0 = 0 from rfl)], by rw [sp_count, gd0 (show inr (nI 0) 4 from inr_of (j := 0) (n := 4) (by omega) (by omega)) trivial], ad, rfl, by rw [sp_count, gd0 (show inr (nI 0) 4 from inr_of (j := 0) (n := 4) (by omega) (by omega)) trivial]; exact cr_code 0 hC⟩)
    · refine hg_tableIn C 37 d_MM_count_1 (by decide) (by decide) rfl (by decide) ?_
      refine hg_aload_n C 0 d_MM_count_37 rfl rfl ?_
      refine f_MM_16 C kx rfl d_MM_count_38 ?_
      refine hg_ti eT ?_
      exact hg_iret C hr rfl d_MM_count_41 (Nat.le_of_ble_eq_true rfl) (Nat.le_of_ble_eq_true rfl) (⟨by rw [sp_count, gd0 (show inr (nI 1) 4 from inr_of (j := 1) (n := 4) (by omega) (by omega)) trivial]; rw [if_neg (by decide), if_pos (show nI 1 = 1 from rfl)], by rw [sp_count, gd0 (show inr (nI 1) 4 from inr_of (j := 1) (n := 4) (by omega) (by omega)) trivial], ad, rfl, by rw [sp_count, gd0 (show inr (nI 1) 4 from inr_of (j := 1) (n := 4) (by omega) (by omega)) trivial]; exact cr_code 0 hC⟩)
    · refine hg_tableIn C 42 d_MM_count_1 (by decide) (by decide) rfl (by decide) ?_
      refine hg_aload_n C 0 d_MM_count_42 rfl rfl ?_
      refine f_MM_26 C kx rfl d_MM_count_43 ?_
      refine hg_ti eS ?_
      exact hg_iret C hr rfl d_MM_count_46 (Nat.le_of_ble_eq_true rfl) (Nat.le_of_ble_eq_true rfl) (⟨by rw [sp_count, gd0 (show inr (nI 2) 4 from inr_of (j := 2) (n := 4) (by omega) (by omega)) trivial]; rw [if_neg (by decide), if_neg (by decide), if_pos (show nI 2 = 2 from rfl)], by rw [sp_count, gd0 (show inr (nI 2) 4 from inr_of (j := 2) (n := 4) (by omega) (by omega)) trivial], ad, rfl, by rw [sp_count, gd0 (show inr (nI 2) 4 from inr_of (j := 2) (n := 4) (by omega) (by omega)) trivial]; exact cr_code 0 hC⟩)
    · refine hg_tableIn C 47 d_MM_count_1 (by decide) (by decide) rfl (by decide) ?_
      refine hg_aload_n C 0 d_MM_count_47 rfl rfl ?_
      refine f_MM_44 C kx rfl d_MM_count_48 ?_
      refine hg_ti eR ?_
      exact hg_iret C hr rfl d_MM_count_51 (Nat.le_of_ble_eq_true rfl) (Nat.le_of_ble_eq_true rfl) (⟨by rw [sp_count, gd0 (show inr (nI 3) 4 from inr_of (j := 3) (n := 4) (by omega) (by omega)) trivial]; rw [if_neg (by decide), if_neg (by decide), if_neg (by decide)], by rw [sp_count, gd0 (show inr (nI 3) 4 from inr_of (j := 3) (n := 4) (by omega) (by omega)) trivial], ad, rfl, by rw [sp_count, gd0 (show inr (nI 3) 4 from inr_of (j := 3) (n := 4) (by omega) (by omega)) trivial]; exact cr_code 0 hC⟩)
abbrev rm_MM_there : Room := { frames := 7, cells := 3, slots := 18, locals := 112 }
set_option maxHeartbeats 4000000 in
set_option maxRecDepth 100000 in
theorem k_MM_there (l : Launch) (hl9 : l.stackTraces = false) (Γ : Gam) (h : Pic) (ad : Nat → Nat → Nat) (M : Mem) (hC : cr_at Γ ad M h) (hI : Inv0 M) (hO : I_org M) (v0 t0 w0 : Int32) : kM l Γ y_MM_there w_MM_there rm_MM_there [.ref (ad 0 0), .int v0, .int t0, .int w0] h (pubQ Γ ad (sp_there M v0 t0 w0)) (pubX Γ ad (sp_there M v0 t0 w0)) 3 18 := by
  refine hg_entry (own := "ModelMerge") (cc := b_MM_there) (maxL := 5) (ret := (some .int)) (lv0 := [(0, .ref (ad 0 0)), (1, .int v0), (2, .int t0), (3, .int w0)]) (by decide) rfl rfl (Nat.le_of_ble_eq_true rfl) rfl ?_
  intro p e s m args below meth c A C hne hr
  have kx := hC.1 0 0 (liv0 (by omega))
  have k1 := hC.1 1 0 (liv0 (by omega))
  have k2 := hC.1 2 0 (liv0 (by omega))
  have k3 := hC.1 3 0 (liv0 (by omega))
  have k4 := hC.1 4 0 (liv0 (by omega))
  have k5 := hC.1 5 0 (liv0 (by omega))
  have k6 := hC.1 6 0 (liv0 (by omega))
  have k7 := hC.1 7 0 (liv0 (by omega))
  have k8 := hC.1 8 0 (liv0 (by omega))
  have k9 := hC.1 9 0 (liv0 (by omega))
  obtain ⟨⟨⟨eT, hT⟩, ⟨eV, hV1, hV⟩, ⟨eS, hS⟩, ⟨eR, hRR⟩, ⟨eC, hCn⟩⟩, hI2, hI3, hI4, hI5, hI6, hI7, hI8, -, hI10, hI11⟩ := id hI
  refine hg_aload_n C 0 d_MM_there_0 rfl rfl ?_
  refine hg_iload_n C 1 d_MM_there_1 rfl rfl ?_
  refine hg_Vv (q := ("ModelMerge", T_MM, 12)) C (k_MM_versionOf l hl9 Γ _ ad M hC hI v0) (cw_MM_72 C.2.2.2.2.1 rfl rfl ⟨Nat.le_of_ble_eq_true rfl, Nat.le_of_ble_eq_true rfl⟩) kx rfl rfl rfl (Nat.le_of_ble_eq_true rfl) d_MM_there_2 ⟨Nat.le_of_ble_eq_true rfl, Nat.le_of_ble_eq_true rfl⟩ (fun co2 => ?_) (fun co2 => hg_out C hne (Nat.le_of_ble_eq_true rfl) (Nat.le_of_ble_eq_true rfl) (⟨Or.inl ⟨rfl, by rw [sp_there, gd1 (fun z => co2 z.1)]⟩, by rw [sp_there, gd1 (fun z => co2 z.1)]; exact cr_code 1 hC⟩))
  obtain ⟨v, hv, rfl⟩ := inr_nat (n := nV M) (id co2) (by omega)
  refine hg_tr (congrArg (ad 14) (nI_clamp (n := v) (by omega))) ?_
  have kv_v := hC.1 14 v (livV (by omega) (by omega) (by omega))
  have kw_v := hC.1 15 v (livV (by omega) (by omega) (by omega))
  have ky_v := hC.1 16 v (livV (by omega) (by omega) (by omega))
  have kz_v := hC.1 17 v (livV (by omega) (by omega) (by omega))
  refine hg_astore (lv' := [(4, .ref (ad 14 v)), (0, .ref (ad 0 0)), (1, .int (nI v)), (2, .int t0), (3, .int w0)]) C d_MM_there_5 (by decide) rfl ?_
  refine hg_aload_n C 1 d_MM_there_7 rfl rfl ?_
  refine hg_iload_n C 3 d_MM_there_8 rfl rfl ?_
  refine hg_Vn (q := ("ModelMerge", T_MM, 12)) C (k_MM_checkThing l hl9 Γ _ ad M hC hI t0) (cw_MM_113 C.2.2.2.2.1 rfl rfl ⟨Nat.le_of_ble_eq_true rfl, Nat.le_of_ble_eq_true rfl⟩) kx rfl rfl rfl (Nat.le_of_ble_eq_true rfl) d_MM_there_9 ⟨Nat.le_of_ble_eq_true rfl, Nat.le_of_ble_eq_true rfl⟩ (fun ct9 => ?_) (fun ct9 => hg_out C hne (Nat.le_of_ble_eq_true rfl) (Nat.le_of_ble_eq_true rfl) (⟨Or.inl ⟨rfl, by rw [sp_there, gd1 (fun z => ct9 z.2.1)]⟩, by rw [sp_there, gd1 (fun z => ct9 z.2.1)]; exact cr_code 1 hC⟩))
  obtain ⟨t, ht, rfl⟩ := inr_nat (n := nT M) (id ct9) (by omega)
  refine hg_iload_n C 4 d_MM_there_12 rfl rfl ?_
  rcases pk_ix w0 (n := 3) (by omega) with hw | hw | ⟨j, hj, rfl⟩
  · refine hg_tableOut C 64 d_MM_there_13 (by have z := sw_out (n := 3) (Or.inl hw) (by omega); omega) (by decide) ?_
    exact th_IAE (is := 185) (text := "what is 0, 1 or 2") (sa := Γ.2.2 11) C hne hl9 (List.mem_of_getElem? (i := 11) rfl) d_MM_there_64 d_MM_there_67 d_MM_there_68 d_MM_there_70 d_MM_there_73 (Nat.le_of_ble_eq_true rfl) (Nat.le_of_ble_eq_true rfl) (Nat.le_of_ble_eq_true rfl) (Nat.le_of_ble_eq_true rfl) (Nat.le_of_ble_eq_true rfl) (Nat.le_of_ble_eq_true rfl) (⟨Or.inl ⟨rfl, by rw [sp_there, gd1 (fun z => z.2.2.1 hw)]⟩, by rw [sp_there, gd1 (fun z => z.2.2.1 hw)]; exact cr_code 1 hC⟩)
  · refine hg_tableOut C 64 d_MM_there_13 (by have z := sw_out (n := 3) (Or.inr hw) (by omega); omega) (by decide) ?_
    exact th_IAE (is := 185) (text := "what is 0, 1 or 2") (sa := Γ.2.2 11) C hne hl9 (List.mem_of_getElem? (i := 11) rfl) d_MM_there_64 d_MM_there_67 d_MM_there_68 d_MM_there_70 d_MM_there_73 (Nat.le_of_ble_eq_true rfl) (Nat.le_of_ble_eq_true rfl) (Nat.le_of_ble_eq_true rfl) (Nat.le_of_ble_eq_true rfl) (Nat.le_of_ble_eq_true rfl) (Nat.le_of_ble_eq_true rfl) (⟨Or.inl ⟨rfl, by rw [sp_there, gd1 (fun z => z.2.2.2 hw)]⟩, by rw [sp_there, gd1 (fun z => z.2.2.2 hw)]; exact cr_code 1 hC⟩)
  · rcases (show j = 0 ∨ j = 1 ∨ j = 2 by omega) with rfl | rfl | rfl
    · refine hg_tableIn C 40 d_MM_there_13 (by decide) (by decide) rfl (by decide) ?_
      refine hg_aload C 0 d_MM_there_40 rfl ?_
      refine f_MM_147 C kv_v rfl d_MM_there_42 ?_
      refine hg_iload_n C 3 d_MM_there_45 rfl rfl ?_
      refine hg_iconst (v := (-1)) C d_MM_there_46 (by decide) ?_
      refine hg_VNv (q := ("ModelMerge$State", T_St, 1)) C (k_St_value l Γ _ (ad 15 v) (ad 16 v) (vc M v) kw_v ky_v (nI t) (-1)) (cw_MM_151 C.2.2.2.2.1 rfl rfl ⟨Nat.le_of_ble_eq_true rfl, Nat.le_of_ble_eq_true rfl⟩) kw_v rfl rfl rfl (Nat.le_of_ble_eq_true rfl) d_MM_there_47 ⟨Nat.le_of_ble_eq_true rfl, Nat.le_of_ble_eq_true rfl⟩ (fun _ => ?_)
      exact hg_iret C hr rfl d_MM_there_50 (Nat.le_of_ble_eq_true rfl) (Nat.le_of_ble_eq_true rfl) (⟨by rw [sp_there, gd0 (⟨co2, ct9, (show inr (nI 0) 3 from inr_of (j := 0) (n := 3) (by omega) (by omega))⟩) trivial]; rw [nI_clamp (n := v) (by omega), nI_clamp (n := t) (by omega), f_there, if_neg (by decide), if_neg (by decide), vc_w (by omega), th_01 hI hv ht]; rfl, by rw [sp_there, gd0 (⟨co2, ct9, (show inr (nI 0) 3 from inr_of (j := 0) (n := 3) (by omega) (by omega))⟩) trivial], ad, rfl, by rw [sp_there, gd0 (⟨co2, ct9, (show inr (nI 0) 3 from inr_of (j := 0) (n := 3) (by omega) (by omega))⟩) trivial]; exact cr_code 0 hC⟩)
    · refine hg_tableIn C 51 d_MM_there_13 (by decide) (by decide) rfl (by decide) ?_
      refine hg_aload_n C 1 d_MM_there_51 rfl rfl ?_
      refine hg_iload_n C 3 d_MM_there_52 rfl rfl ?_
      refine hg_VNv (q := ("ModelMerge", T_MM, 12)) C (k_MM_kindOf l Γ _ ad M hC hI (nI t)) (cw_MM_177 C.2.2.2.2.1 rfl rfl ⟨Nat.le_of_ble_eq_true rfl, Nat.le_of_ble_eq_true rfl⟩) kx rfl rfl rfl (Nat.le_of_ble_eq_true rfl) d_MM_there_53 ⟨Nat.le_of_ble_eq_true rfl, Nat.le_of_ble_eq_true rfl⟩ (fun _ => ?_)
      refine hg_ti (show k_of M 2 (nI t) = M 2 t by rw [k_of, if_pos (inr_of (by omega) (by omega)), nI_clamp (by omega)]) ?_
      exact hg_iret C hr rfl d_MM_there_56 (Nat.le_of_ble_eq_true rfl) (Nat.le_of_ble_eq_true rfl) (⟨by rw [sp_there, gd0 (⟨co2, ct9, (show inr (nI 1) 3 from inr_of (j := 1) (n := 3) (by omega) (by omega))⟩) trivial]; rw [nI_clamp (n := v) (by omega), nI_clamp (n := t) (by omega), f_there, if_neg (by decide), if_pos (show nI 1 = 1 from rfl)]; rfl, by rw [sp_there, gd0 (⟨co2, ct9, (show inr (nI 1) 3 from inr_of (j := 1) (n := 3) (by omega) (by omega))⟩) trivial], ad, rfl, by rw [sp_there, gd0 (⟨co2, ct9, (show inr (nI 1) 3 from inr_of (j := 1) (n := 3) (by omega) (by omega))⟩) trivial]; exact cr_code 0 hC⟩)
    · refine hg_tableIn C 57 d_MM_there_13 (by decide) (by decide) rfl (by decide) ?_
      refine hg_aload C 0 d_MM_there_57 rfl ?_
      refine hg_iload_n C 3 d_MM_there_59 rfl rfl ?_
      refine hg_VNv (q := ("ModelMerge$Version", T_Ve, 4)) C (k_Ve_countNewFields l Γ _ (ad 14 v) (ad 15 v) (ad 16 v) (ad 17 v) (.int (au M v)) (nI v) (nI t) (vc M v) (og M v) kv_v kw_v ky_v kz_v) (cw_MM_180 C.2.2.2.2.1 rfl rfl ⟨Nat.le_of_ble_eq_true rfl, Nat.le_of_ble_eq_true rfl⟩) kv_v rfl rfl rfl (Nat.le_of_ble_eq_true rfl) d_MM_there_60 ⟨Nat.le_of_ble_eq_true rfl, Nat.le_of_ble_eq_true rfl⟩ (fun _ => ?_)
      exact hg_iret C hr rfl d_MM_there_63 (Nat.le_of_ble_eq_true rfl) (Nat.le_of_ble_eq_true rfl) (⟨by rw [sp_there, gd0 (⟨co2, ct9, (show inr (nI 2) 3 from inr_of (j := 2) (n := 3) (by omega) (by omega))⟩) trivial]; rw [nI_clamp (n := v) (by omega), nI_clamp (n := t) (by omega), f_there, if_pos (by decide), c_th_code, v_new_th hI hO hv ht 5 (by omega)], by rw [sp_there, gd0 (⟨co2, ct9, (show inr (nI 2) 3 from inr_of (j := 2) (n := 3) (by omega) (by omega))⟩) trivial], ad, rfl, by rw [sp_there, gd0 (⟨co2, ct9, (show inr (nI 2) 3 from inr_of (j := 2) (n := 3) (by omega) (by omega))⟩) trivial]; exact cr_code 0 hC⟩)
