/-! THE CLASS: what is told -/
theorem og_code {M : Mem} (c : Int32) : ∀ v, og (mset M 0 0 c) v = og M v
  | 0 => rfl
  | v + 1 => by
    show v_tr (vc M v) (vc M (v + 1)) (og (mset M 0 0 c) v) (fun _ => 0) (nI v) (nI (v + 1)) (60 * 5) = _
    rw [og_code c v]
    rfl
theorem cc_code {Γ : Gam} {ad : Nat → Nat → Nat} {M : Mem} (c : Int32) (k i : Nat) : cc Γ ad (mset M 0 0 c) k i = cc Γ ad M k i := by
  have h1 : sc (mset M 0 0 c) i = sc M i := funext fun j => by
    show (if j < 360 then stv (mset M 0 0 c) i (sd M i) (j / 6) (j % 6) else 0) = _
    rw [stv_code]
    rfl
  have h2 : mo_o (mset M 0 0 c) (i / 60) (i % 60) = mo_o M (i / 60) (i % 60) := by
    show (if i % 60 = 0 then 0 else stv (mset M 0 0 c) (i / 60) (bf M (60 * (i / 60) + i % 60)) (M 19 (60 * (i / 60) + i % 60)).toNatClampNeg (mo_g M (i / 60) (i % 60))) = _
    rw [stv_code]
    rfl
  have h3 := og_code (M := M) c i
  unfold cc
  rw [h1, h2, h3]
  rfl
theorem cr_code {Γ : Gam} {ad : Nat → Nat → Nat} {M : Mem} {h : Pic} (c : Int32) (H : cr_at Γ ad M h) : cr_at Γ ad (mset M 0 0 c) h :=
  ⟨fun k i hl => by rw [cc_code]; exact H.1 k i hl, fun k i k' i' h1 h2 h3 => H.2 k i k' i' h1 h2 h3⟩
/-- a public call: its answer, or what it throws, and the picture behind it -/
abbrev pubQ (Γ : Gam) (ad : Nat → Nat → Nat) (S : Int32 × Int32 × Mem) : Option Value → Pic → Prop := fun r u => r = some (.int S.2.1) ∧ S.1 = 0 ∧ ∃ ad' : Nat → Nat → Nat, ad' 0 0 = ad 0 0 ∧ cr_at Γ ad' S.2.2 u
abbrev pubX (Γ : Gam) (ad : Nat → Nat → Nat) (S : Int32 × Int32 × Mem) : String → Pic → Prop := fun E u => ((E = IAE ∧ S.1 = 1) ∨ (E = ISE ∧ S.1 = 2)) ∧ cr_at Γ ad S.2.2 u
theorem stv_01 {x : Int32} (h : x = 0 ∨ x = 1) : x = @ite _ (x = 0) (Classical.propDecidable _) 0 1 := by
  rcases h with rfl | rfl
  · rw [if_pos rfl]
  · rw [if_neg (by decide)]
theorem i_th_of {M : Mem} (hI : Inv0 M) {v t : Nat} (hv : v < nV M) (ht : t < nT M) : i_th M (nI v) (nI t) ↔ M 5 (60 * v + t) = 1 := by
  have hT := hI.1.1.2
  have hV := hI.1.2.1.2.2
  unfold i_th
  rw [nI_clamp (by omega), nI_clamp (by omega)]
  constructor
  · intro z
    rcases hI.2.2.2.2.2.2.2.1 v hv t (by omega) with y | y
    · exact y.1
    · exact absurd y.1 z.2.2
  · intro z
    exact ⟨inr_of hv (by omega), inr_of ht (by omega), fun y => by rw [y] at z; exact absurd z (by decide)⟩
abbrev rm_MM_here : Room := { frames := 7, cells := 2, slots := 12, locals := 112 }
set_option maxHeartbeats 4000000 in
set_option maxRecDepth 100000 in
theorem k_MM_here (l : Launch) (hl9 : l.stackTraces = false) (Γ : Gam) (h : Pic) (ad : Nat → Nat → Nat) (M : Mem) (hC : cr_at Γ ad M h) (hI : Inv0 M)  (s0 t0 : Int32) : kM l Γ y_MM_here w_MM_here rm_MM_here [.ref (ad 0 0), .int s0, .int t0] h (pubQ Γ ad (sp_here M s0 t0)) (pubX Γ ad (sp_here M s0 t0)) 2 12 := by
  refine hg_entry (own := "ModelMerge") (cc := b_MM_here) (maxL := 4) (ret := (some .int)) (lv0 := [(0, .ref (ad 0 0)), (1, .int s0), (2, .int t0)]) (by decide) rfl rfl (Nat.le_of_ble_eq_true rfl) rfl ?_
  intro p e s m args below meth c A C hne hr
  have kx := hC.1 0 0 (liv0 (by omega))
  have k1 := hC.1 1 0 (liv0 (by omega))
  have k2 := hC.1 2 0 (liv0 (by omega))
  have k3 := hC.1 3 0 (liv0 (by omega))
  have k4 := hC.1 4 0 (liv0 (by omega))
  have k5 := hC.1 5 0 (liv0 (by omega))
  have k6 := hC.1 6 0 (liv0 (by omega))
  have k7 := hC.1 7 0 (liv0 (by omega))
  have k8 := hC.1 8 0 (liv0 (by omega))
  have k9 := hC.1 9 0 (liv0 (by omega))
  obtain ⟨⟨⟨eT, hT⟩, ⟨eV, hV1, hV⟩, ⟨eS, hS⟩, ⟨eR, hRR⟩, ⟨eC, hCn⟩⟩, hI2, hI3, hI4, hI5, hI6, hI7, hI8, -, hI10, hI11⟩ := id hI
  refine hg_aload_n C 0 d_MM_here_0 rfl rfl ?_
  refine hg_iload_n C 1 d_MM_here_1 rfl rfl ?_
  refine hg_Vv (q := ("ModelMerge", T_MM, 12)) C (k_MM_sessionOf l hl9 Γ _ ad M hC hI s0) (cw_MM_86 C.2.2.2.2.1 rfl rfl ⟨Nat.le_of_ble_eq_true rfl, Nat.le_of_ble_eq_true rfl⟩) kx rfl rfl rfl (Nat.le_of_ble_eq_true rfl) d_MM_here_2 ⟨Nat.le_of_ble_eq_true rfl, Nat.le_of_ble_eq_true rfl⟩ (fun co2 => ?_) (fun co2 => hg_out C hne (Nat.le_of_ble_eq_true rfl) (Nat.le_of_ble_eq_true rfl) (⟨Or.inl ⟨rfl, by rw [sp_here, gd1 (fun z => co2 z.1)]⟩, by rw [sp_here, gd1 (fun z => co2 z.1)]; exact cr_code 1 hC⟩))
  obtain ⟨s, hs, rfl⟩ := inr_nat (n := nS M) (id co2) (by omega)
  refine hg_tr (congrArg (ad 10) (nI_clamp (n := s) (by omega))) ?_
  have ks_s := hC.1 10 s (livS (by omega) (by omega) (by omega))
  have kt_s := hC.1 11 s (livS (by omega) (by omega) (by omega))
  have ku_s := hC.1 12 s (livS (by omega) (by omega) (by omega))
  refine hg_astore_n (lv' := [(3, .ref (ad 10 s)), (0, .ref (ad 0 0)), (1, .int (nI s)), (2, .int t0)]) C d_MM_here_5 rfl (by decide) rfl ?_
  refine hg_aload_n C 1 d_MM_here_6 rfl rfl ?_
  refine hg_iload_n C 3 d_MM_here_7 rfl rfl ?_
  refine hg_Vn (q := ("ModelMerge", T_MM, 12)) C (k_MM_checkThing l hl9 Γ _ ad M hC hI t0) (cw_MM_113 C.2.2.2.2.1 rfl rfl ⟨Nat.le_of_ble_eq_true rfl, Nat.le_of_ble_eq_true rfl⟩) kx rfl rfl rfl (Nat.le_of_ble_eq_true rfl) d_MM_here_8 ⟨Nat.le_of_ble_eq_true rfl, Nat.le_of_ble_eq_true rfl⟩ (fun ct8 => ?_) (fun ct8 => hg_out C hne (Nat.le_of_ble_eq_true rfl) (Nat.le_of_ble_eq_true rfl) (⟨Or.inl ⟨rfl, by rw [sp_here, gd1 (fun z => ct8 z.2)]⟩, by rw [sp_here, gd1 (fun z => ct8 z.2)]; exact cr_code 1 hC⟩))
  obtain ⟨t, ht, rfl⟩ := inr_nat (n := nT M) (id ct8) (by omega)
  refine hg_aload_n C 0 d_MM_here_11 rfl rfl ?_
  refine f_MM_155 C ks_s rfl d_MM_here_12 ?_
  refine hg_iload_n C 3 d_MM_here_15 rfl rfl ?_
  refine hg_iconst (v := (-1)) C d_MM_here_16 (by decide) ?_
  refine hg_VNv (q := ("ModelMerge$State", T_St, 1)) C (k_St_value l Γ _ (ad 11 s) (ad 12 s) (sc M s) kt_s ku_s (nI t) (-1)) (cw_MM_151 C.2.2.2.2.1 rfl rfl ⟨Nat.le_of_ble_eq_true rfl, Nat.le_of_ble_eq_true rfl⟩) kt_s rfl rfl rfl (Nat.le_of_ble_eq_true rfl) d_MM_here_17 ⟨Nat.le_of_ble_eq_true rfl, Nat.le_of_ble_eq_true rfl⟩ (fun _ => ?_)
  exact hg_iret C hr rfl d_MM_here_20 (Nat.le_of_ble_eq_true rfl) (Nat.le_of_ble_eq_true rfl) (⟨by rw [sp_here, gd0 (⟨co2, ct8⟩) trivial]; rw [stv_code, nI_clamp (n := s) (by omega), nI_clamp (n := t) (by omega), sc_w (by omega)]; exact congrArg (fun z => some (Value.int z)) (stv_01 (stv_bool hI hs (hI2 s hs).2.1.2 (by omega))), by rw [sp_here, gd0 (⟨co2, ct8⟩) trivial], ad, rfl, by rw [sp_here, gd0 (⟨co2, ct8⟩) trivial]; exact cr_code 0 hC⟩)
theorem s_has_sc {M : Mem} (hI : Inv0 M) {s t : Nat} (hs : s < nS M) (ht : t < 60) : s_has (sc M s) (nI t) ↔ ¬ stv M s (sd M s) t 0 = 0 := by
  unfold s_has
  rw [sc_w ht]
  rcases stv_bool hI hs (hI.2.1 s hs).2.1.2 ht with z | z
  · rw [z]; exact ⟨fun y => absurd y (by decide), fun y => absurd rfl y⟩
  · rw [z]; exact ⟨fun _ => by decide, fun _ => rfl⟩
theorem s_has_vc {M : Mem} {v t : Nat} (ht : t < 60) : s_has (vc M v) (nI t) ↔ M 5 (60 * v + t) = 1 := by
  unfold s_has
  rw [vc_w ht]
abbrev rm_MM_now : Room := { frames := 8, cells := 4, slots := 24, locals := 134 }
set_option maxHeartbeats 4000000 in
set_option maxRecDepth 100000 in
theorem k_MM_now (l : Launch) (hl9 : l.stackTraces = false) (Γ : Gam) (h : Pic) (ad : Nat → Nat → Nat) (M : Mem) (hC : cr_at Γ ad M h) (hI : Inv0 M)  (s0 t0 f0 : Int32) : kM l Γ y_MM_now w_MM_now rm_MM_now [.ref (ad 0 0), .int s0, .int t0, .int f0] h (pubQ Γ ad (sp_now M s0 t0 f0)) (pubX Γ ad (sp_now M s0 t0 f0)) 4 24 := by
  refine hg_entry (own := "ModelMerge") (cc := b_MM_now) (maxL := 5) (ret := (some .int)) (lv0 := [(0, .ref (ad 0 0)), (1, .int s0), (2, .int t0), (3, .int f0)]) (by decide) rfl rfl (Nat.le_of_ble_eq_true rfl) rfl ?_
  intro p e s m args below meth c A C hne hr
  have kx := hC.1 0 0 (liv0 (by omega))
  have k1 := hC.1 1 0 (liv0 (by omega))
  have k2 := hC.1 2 0 (liv0 (by omega))
  have k3 := hC.1 3 0 (liv0 (by omega))
  have k4 := hC.1 4 0 (liv0 (by omega))
  have k5 := hC.1 5 0 (liv0 (by omega))
  have k6 := hC.1 6 0 (liv0 (by omega))
  have k7 := hC.1 7 0 (liv0 (by omega))
  have k8 := hC.1 8 0 (liv0 (by omega))
  have k9 := hC.1 9 0 (liv0 (by omega))
  obtain ⟨⟨⟨eT, hT⟩, ⟨eV, hV1, hV⟩, ⟨eS, hS⟩, ⟨eR, hRR⟩, ⟨eC, hCn⟩⟩, hI2, hI3, hI4, hI5, hI6, hI7, hI8, -, hI10, hI11⟩ := id hI
  refine hg_aload_n C 0 d_MM_now_0 rfl rfl ?_
  refine hg_iload_n C 1 d_MM_now_1 rfl rfl ?_
  refine hg_Vv (q := ("ModelMerge", T_MM, 12)) C (k_MM_sessionOf l hl9 Γ _ ad M hC hI s0) (cw_MM_86 C.2.2.2.2.1 rfl rfl ⟨Nat.le_of_ble_eq_true rfl, Nat.le_of_ble_eq_true rfl⟩) kx rfl rfl rfl (Nat.le_of_ble_eq_true rfl) d_MM_now_2 ⟨Nat.le_of_ble_eq_true rfl, Nat.le_of_ble_eq_true rfl⟩ (fun co2 => ?_) (fun co2 => hg_out C hne (Nat.le_of_ble_eq_true rfl) (Nat.le_of_ble_eq_true rfl) (⟨Or.inl ⟨rfl, by rw [sp_now, gd1 (fun z => co2 z.1)]⟩, by rw [sp_now, gd1 (fun z => co2 z.1)]; exact cr_code 1 hC⟩))
  obtain ⟨s, hs, rfl⟩ := inr_nat (n := nS M) (id co2) (by omega)
  refine hg_tr (congrArg (ad 10) (nI_clamp (n := s) (by omega))) ?_
  have ks_s := hC.1 10 s (livS (by omega) (by omega) (by omega))
  have kt_s := hC.1 11 s (livS (by omega) (by omega) (by omega))
  have ku_s := hC.1 12 s (livS (by omega) (by omega) (by omega))
  refine hg_astore (lv' := [(4, .ref (ad 10 s)), (0, .ref (ad 0 0)), (1, .int (nI s)), (2, .int t0), (3, .int f0)]) C d_MM_now_5 (by decide) rfl ?_
  refine hg_aload_n C 1 d_MM_now_7 rfl rfl ?_
  refine hg_aload C 0 d_MM_now_8 rfl ?_
  refine f_MM_155 C ks_s rfl d_MM_now_10 ?_
  refine hg_iload_n C 3 d_MM_now_13 rfl rfl ?_
  refine hg_iload_n C 4 d_MM_now_14 rfl rfl ?_
  refine hg_Vn (q := ("ModelMerge", T_MM, 12)) C (k_MM_checkField l hl9 Γ _ ad M hC hI (ad 11 s) (ad 12 s) (sc M s) kt_s ku_s t0 f0) (cw_MM_173 C.2.2.2.2.1 rfl rfl ⟨Nat.le_of_ble_eq_true rfl, Nat.le_of_ble_eq_true rfl⟩) kx rfl rfl rfl (Nat.le_of_ble_eq_true rfl) d_MM_now_15 ⟨Nat.le_of_ble_eq_true rfl, Nat.le_of_ble_eq_true rfl⟩ (fun cf15 => ?_) (fun cf15 => hg_out C hne (Nat.le_of_ble_eq_true rfl) (Nat.le_of_ble_eq_true rfl) (⟨Or.inl ⟨rfl, by rw [sp_now, gd1 (fun z => cf15 ⟨z.2.1, z.2.2.1, by obtain ⟨t, ht, rfl⟩ := inr_nat (n := nT M) z.2.1 (by omega); have z4 := z.2.2.2; rw [nI_clamp (n := s) (by omega), nI_clamp (n := t) (by omega)] at z4; exact (s_has_sc hI hs (by omega)).mpr z4⟩)]⟩, by rw [sp_now, gd1 (fun z => cf15 ⟨z.2.1, z.2.2.1, by obtain ⟨t, ht, rfl⟩ := inr_nat (n := nT M) z.2.1 (by omega); have z4 := z.2.2.2; rw [nI_clamp (n := s) (by omega), nI_clamp (n := t) (by omega)] at z4; exact (s_has_sc hI hs (by omega)).mpr z4⟩)]; exact cr_code 1 hC⟩))
  obtain ⟨g1, g2, g3⟩ := cf15
  obtain ⟨t, ht, rfl⟩ := inr_nat (n := nT M) (id g1) (by omega)
  obtain ⟨f, hf, rfl⟩ := inr_nat (n := 5) (id g2) (by omega)
  refine hg_aload C 0 d_MM_now_18 rfl ?_
  refine f_MM_155 C ks_s rfl d_MM_now_20 ?_
  refine hg_iload_n C 3 d_MM_now_23 rfl rfl ?_
  refine hg_iload_n C 4 d_MM_now_24 rfl rfl ?_
  refine hg_VNv (q := ("ModelMerge$State", T_St, 1)) C (k_St_value l Γ _ (ad 11 s) (ad 12 s) (sc M s) kt_s ku_s (nI t) (nI f)) (cw_MM_151 C.2.2.2.2.1 rfl rfl ⟨Nat.le_of_ble_eq_true rfl, Nat.le_of_ble_eq_true rfl⟩) kt_s rfl rfl rfl (Nat.le_of_ble_eq_true rfl) d_MM_now_25 ⟨Nat.le_of_ble_eq_true rfl, Nat.le_of_ble_eq_true rfl⟩ (fun _ => ?_)
  exact hg_iret C hr rfl d_MM_now_28 (Nat.le_of_ble_eq_true rfl) (Nat.le_of_ble_eq_true rfl) (⟨by rw [sp_now, gd0 (⟨co2, g1, g2, by rw [nI_clamp (n := s) (by omega), nI_clamp (n := t) (by omega)]; exact (s_has_sc hI hs (by omega)).mp g3⟩) trivial]; rw [stv_code, nI_clamp (n := s) (by omega), nI_clamp (n := t) (by omega), nI_clamp (n := f) (by omega), sc_f (by omega) (by omega)], by rw [sp_now, gd0 (⟨co2, g1, g2, by rw [nI_clamp (n := s) (by omega), nI_clamp (n := t) (by omega)]; exact (s_has_sc hI hs (by omega)).mp g3⟩) trivial], ad, rfl, by rw [sp_now, gd0 (⟨co2, g1, g2, by rw [nI_clamp (n := s) (by omega), nI_clamp (n := t) (by omega)]; exact (s_has_sc hI hs (by omega)).mp g3⟩) trivial]; exact cr_code 0 hC⟩)
abbrev rm_MM_at : Room := { frames := 8, cells := 4, slots := 24, locals := 134 }
set_option maxHeartbeats 4000000 in
set_option maxRecDepth 100000 in
theorem k_MM_at (l : Launch) (hl9 : l.stackTraces = false) (Γ : Gam) (h : Pic) (ad : Nat → Nat → Nat) (M : Mem) (hC : cr_at Γ ad M h) (hI : Inv0 M)  (v0 t0 f0 : Int32) : kM l Γ y_MM_at w_MM_at rm_MM_at [.ref (ad 0 0), .int v0, .int t0, .int f0] h (pubQ Γ ad (sp_at M v0 t0 f0)) (pubX Γ ad (sp_at M v0 t0 f0)) 4 24 := by
  refine hg_entry (own := "ModelMerge") (cc := b_MM_at) (maxL := 5) (ret := (some .int)) (lv0 := [(0, .ref (ad 0 0)), (1, .int v0), (2, .int t0), (3, .int f0)]) (by decide) rfl rfl (Nat.le_of_ble_eq_true rfl) rfl ?_
  intro p e s m args below meth c A C hne hr
  have kx := hC.1 0 0 (liv0 (by omega))
  have k1 := hC.1 1 0 (liv0 (by omega))
  have k2 := hC.1 2 0 (liv0 (by omega))
  have k3 := hC.1 3 0 (liv0 (by omega))
  have k4 := hC.1 4 0 (liv0 (by omega))
  have k5 := hC.1 5 0 (liv0 (by omega))
  have k6 := hC.1 6 0 (liv0 (by omega))
  have k7 := hC.1 7 0 (liv0 (by omega))
  have k8 := hC.1 8 0 (liv0 (by omega))
  have k9 := hC.1 9 0 (liv0 (by omega))
  obtain ⟨⟨⟨eT, hT⟩, ⟨eV, hV1, hV⟩, ⟨eS, hS⟩, ⟨eR, hRR⟩, ⟨eC, hCn⟩⟩, hI2, hI3, hI4, hI5, hI6, hI7, hI8, -, hI10, hI11⟩ := id hI
  refine hg_aload_n C 0 d_MM_at_0 rfl rfl ?_
  refine hg_iload_n C 1 d_MM_at_1 rfl rfl ?_
  refine hg_Vv (q := ("ModelMerge", T_MM, 12)) C (k_MM_versionOf l hl9 Γ _ ad M hC hI v0) (cw_MM_72 C.2.2.2.2.1 rfl rfl ⟨Nat.le_of_ble_eq_true rfl, Nat.le_of_ble_eq_true rfl⟩) kx rfl rfl rfl (Nat.le_of_ble_eq_true rfl) d_MM_at_2 ⟨Nat.le_of_ble_eq_true rfl, Nat.le_of_ble_eq_true rfl⟩ (fun co2 => ?_) (fun co2 => hg_out C hne (Nat.le_of_ble_eq_true rfl) (Nat.le_of_ble_eq_true rfl) (⟨Or.inl ⟨rfl, by rw [sp_at, gd1 (fun z => co2 z.1.1)]⟩, by rw [sp_at, gd1 (fun z => co2 z.1.1)]; exact cr_code 1 hC⟩))
  obtain ⟨v, hv, rfl⟩ := inr_nat (n := nV M) (id co2) (by omega)
  refine hg_tr (congrArg (ad 14) (nI_clamp (n := v) (by omega))) ?_
  have kv_v := hC.1 14 v (livV (by omega) (by omega) (by omega))
  have kw_v := hC.1 15 v (livV (by omega) (by omega) (by omega))
  have ky_v := hC.1 16 v (livV (by omega) (by omega) (by omega))
  have kz_v := hC.1 17 v (livV (by omega) (by omega) (by omega))
  refine hg_astore (lv' := [(4, .ref (ad 14 v)), (0, .ref (ad 0 0)), (1, .int (nI v)), (2, .int t0), (3, .int f0)]) C d_MM_at_5 (by decide) rfl ?_
  refine hg_aload_n C 1 d_MM_at_7 rfl rfl ?_
  refine hg_aload C 0 d_MM_at_8 rfl ?_
  refine f_MM_147 C kv_v rfl d_MM_at_10 ?_
  refine hg_iload_n C 3 d_MM_at_13 rfl rfl ?_
  refine hg_iload_n C 4 d_MM_at_14 rfl rfl ?_
  refine hg_Vn (q := ("ModelMerge", T_MM, 12)) C (k_MM_checkField l hl9 Γ _ ad M hC hI (ad 15 v) (ad 16 v) (vc M v) kw_v ky_v t0 f0) (cw_MM_173 C.2.2.2.2.1 rfl rfl ⟨Nat.le_of_ble_eq_true rfl, Nat.le_of_ble_eq_true rfl⟩) kx rfl rfl rfl (Nat.le_of_ble_eq_true rfl) d_MM_at_15 ⟨Nat.le_of_ble_eq_true rfl, Nat.le_of_ble_eq_true rfl⟩ (fun cf15 => ?_) (fun cf15 => hg_out C hne (Nat.le_of_ble_eq_true rfl) (Nat.le_of_ble_eq_true rfl) (⟨Or.inl ⟨rfl, by rw [sp_at, gd1 (fun z => cf15 ⟨z.1.2.1, z.2, by obtain ⟨t, ht, rfl⟩ := inr_nat (n := nT M) z.1.2.1 (by omega); exact (s_has_vc (by omega)).mpr ((i_th_of hI hv ht).mp z.1)⟩)]⟩, by rw [sp_at, gd1 (fun z => cf15 ⟨z.1.2.1, z.2, by obtain ⟨t, ht, rfl⟩ := inr_nat (n := nT M) z.1.2.1 (by omega); exact (s_has_vc (by omega)).mpr ((i_th_of hI hv ht).mp z.1)⟩)]; exact cr_code 1 hC⟩))
  obtain ⟨g1, g2, g3⟩ := cf15
  obtain ⟨t, ht, rfl⟩ := inr_nat (n := nT M) (id g1) (by omega)
  obtain ⟨f, hf, rfl⟩ := inr_nat (n := 5) (id g2) (by omega)
  refine hg_aload C 0 d_MM_at_18 rfl ?_
  refine f_MM_147 C kv_v rfl d_MM_at_20 ?_
  refine hg_iload_n C 3 d_MM_at_23 rfl rfl ?_
  refine hg_iload_n C 4 d_MM_at_24 rfl rfl ?_
  refine hg_VNv (q := ("ModelMerge$State", T_St, 1)) C (k_St_value l Γ _ (ad 15 v) (ad 16 v) (vc M v) kw_v ky_v (nI t) (nI f)) (cw_MM_151 C.2.2.2.2.1 rfl rfl ⟨Nat.le_of_ble_eq_true rfl, Nat.le_of_ble_eq_true rfl⟩) kw_v rfl rfl rfl (Nat.le_of_ble_eq_true rfl) d_MM_at_25 ⟨Nat.le_of_ble_eq_true rfl, Nat.le_of_ble_eq_true rfl⟩ (fun _ => ?_)
  exact hg_iret C hr rfl d_MM_at_28 (Nat.le_of_ble_eq_true rfl) (Nat.le_of_ble_eq_true rfl) (⟨by rw [sp_at, gd0 (⟨(i_th_of hI hv ht).mpr ((s_has_vc (by omega)).mp g3), g2⟩) trivial]; rw [nI_clamp (n := v) (by omega), nI_clamp (n := t) (by omega), nI_clamp (n := f) (by omega), vc_f (by omega) (by omega)], by rw [sp_at, gd0 (⟨(i_th_of hI hv ht).mpr ((s_has_vc (by omega)).mp g3), g2⟩) trivial], ad, rfl, by rw [sp_at, gd0 (⟨(i_th_of hI hv ht).mpr ((s_has_vc (by omega)).mp g3), g2⟩) trivial]; exact cr_code 0 hC⟩)
/-- where values came, as the reference keeps it: of things that are there -/
def I_org (M : Mem) : Prop := ∀ v, v < nV M → (∀ i, i < 300 → ∃ j, j ≤ v ∧ og M v i = nI j) ∧ ∀ t, t < nT M → M 5 (60 * v + t) = 1 → ∀ f, f < 5 → og M v (t * 5 + f) = M 7 (5 * (60 * v + t) + f)
abbrev rm_MM_since : Room := { frames := 8, cells := 4, slots := 24, locals := 134 }
set_option maxHeartbeats 4000000 in
set_option maxRecDepth 100000 in
theorem k_MM_since (l : Launch) (hl9 : l.stackTraces = false) (Γ : Gam) (h : Pic) (ad : Nat → Nat → Nat) (M : Mem) (hC : cr_at Γ ad M h) (hI : Inv0 M) (hO : I_org M) (v0 t0 f0 : Int32) : kM l Γ y_MM_since w_MM_since rm_MM_since [.ref (ad 0 0), .int v0, .int t0, .int f0] h (pubQ Γ ad (sp_since M v0 t0 f0)) (pubX Γ ad (sp_since M v0 t0 f0)) 4 24 := by
  refine hg_entry (own := "ModelMerge") (cc := b_MM_since) (maxL := 5) (ret := (some .int)) (lv0 := [(0, .ref (ad 0 0)), (1, .int v0), (2, .int t0), (3, .int f0)]) (by decide) rfl rfl (Nat.le_of_ble_eq_true rfl) rfl ?_
  intro p e s m args below meth c A C hne hr
  have kx := hC.1 0 0 (liv0 (by omega))
  have k1 := hC.1 1 0 (liv0 (by omega))
  have k2 := hC.1 2 0 (liv0 (by omega))
  have k3 := hC.1 3 0 (liv0 (by omega))
  have k4 := hC.1 4 0 (liv0 (by omega))
  have k5 := hC.1 5 0 (liv0 (by omega))
  have k6 := hC.1 6 0 (liv0 (by omega))
  have k7 := hC.1 7 0 (liv0 (by omega))
  have k8 := hC.1 8 0 (liv0 (by omega))
  have k9 := hC.1 9 0 (liv0 (by omega))
  obtain ⟨⟨⟨eT, hT⟩, ⟨eV, hV1, hV⟩, ⟨eS, hS⟩, ⟨eR, hRR⟩, ⟨eC, hCn⟩⟩, hI2, hI3, hI4, hI5, hI6, hI7, hI8, -, hI10, hI11⟩ := id hI
  refine hg_aload_n C 0 d_MM_since_0 rfl rfl ?_
  refine hg_iload_n C 1 d_MM_since_1 rfl rfl ?_
  refine hg_Vv (q := ("ModelMerge", T_MM, 12)) C (k_MM_versionOf l hl9 Γ _ ad M hC hI v0) (cw_MM_72 C.2.2.2.2.1 rfl rfl ⟨Nat.le_of_ble_eq_true rfl, Nat.le_of_ble_eq_true rfl⟩) kx rfl rfl rfl (Nat.le_of_ble_eq_true rfl) d_MM_since_2 ⟨Nat.le_of_ble_eq_true rfl, Nat.le_of_ble_eq_true rfl⟩ (fun co2 => ?_) (fun co2 => hg_out C hne (Nat.le_of_ble_eq_true rfl) (Nat.le_of_ble_eq_true rfl) (⟨Or.inl ⟨rfl, by rw [sp_since, gd1 (fun z => co2 z.1.1)]⟩, by rw [sp_since, gd1 (fun z => co2 z.1.1)]; exact cr_code 1 hC⟩))
  obtain ⟨v, hv, rfl⟩ := inr_nat (n := nV M) (id co2) (by omega)
  refine hg_tr (congrArg (ad 14) (nI_clamp (n := v) (by omega))) ?_
  have kv_v := hC.1 14 v (livV (by omega) (by omega) (by omega))
  have kw_v := hC.1 15 v (livV (by omega) (by omega) (by omega))
  have ky_v := hC.1 16 v (livV (by omega) (by omega) (by omega))
  have kz_v := hC.1 17 v (livV (by omega) (by omega) (by omega))
  refine hg_astore (lv' := [(4, .ref (ad 14 v)), (0, .ref (ad 0 0)), (1, .int (nI v)), (2, .int t0), (3, .int f0)]) C d_MM_since_5 (by decide) rfl ?_
  refine hg_aload_n C 1 d_MM_since_7 rfl rfl ?_
  refine hg_aload C 0 d_MM_since_8 rfl ?_
  refine f_MM_147 C kv_v rfl d_MM_since_10 ?_
  refine hg_iload_n C 3 d_MM_since_13 rfl rfl ?_
  refine hg_iload_n C 4 d_MM_since_14 rfl rfl ?_
  refine hg_Vn (q := ("ModelMerge", T_MM, 12)) C (k_MM_checkField l hl9 Γ _ ad M hC hI (ad 15 v) (ad 16 v) (vc M v) kw_v ky_v t0 f0) (cw_MM_173 C.2.2.2.2.1 rfl rfl ⟨Nat.le_of_ble_eq_true rfl, Nat.le_of_ble_eq_true rfl⟩) kx rfl rfl rfl (Nat.le_of_ble_eq_true rfl) d_MM_since_15 ⟨Nat.le_of_ble_eq_true rfl, Nat.le_of_ble_eq_true rfl⟩ (fun cf15 => ?_) (fun cf15 => hg_out C hne (Nat.le_of_ble_eq_true rfl) (Nat.le_of_ble_eq_true rfl) (⟨Or.inl ⟨rfl, by rw [sp_since, gd1 (fun z => cf15 ⟨z.1.2.1, z.2, by obtain ⟨t, ht, rfl⟩ := inr_nat (n := nT M) z.1.2.1 (by omega); exact (s_has_vc (by omega)).mpr ((i_th_of hI hv ht).mp z.1)⟩)]⟩, by rw [sp_since, gd1 (fun z => cf15 ⟨z.1.2.1, z.2, by obtain ⟨t, ht, rfl⟩ := inr_nat (n := nT M) z.1.2.1 (by omega); exact (s_has_vc (by omega)).mpr ((i_th_of hI hv ht).mp z.1)⟩)]; exact cr_code 1 hC⟩))
  obtain ⟨g1, g2, g3⟩ := cf15
  obtain ⟨t, ht, rfl⟩ := inr_nat (n := nT M) (id g1) (by omega)
  obtain ⟨f, hf, rfl⟩ := inr_nat (n := 5) (id g2) (by omega)
  refine hg_aload C 0 d_MM_since_18 rfl ?_
  refine hg_iload_n C 3 d_MM_since_20 rfl rfl ?_
  refine hg_iload_n C 4 d_MM_since_21 rfl rfl ?_
  refine hg_VNv (q := ("ModelMerge$Version", T_Ve, 4)) C (k_Ve_origin l Γ _ (ad 14 v) (ad 15 v) (ad 17 v) (.int (au M v)) (nI v) (og M v) kv_v kz_v (nI t) (nI f)) (cw_MM_188 C.2.2.2.2.1 rfl rfl ⟨Nat.le_of_ble_eq_true rfl, Nat.le_of_ble_eq_true rfl⟩) kv_v rfl rfl rfl (Nat.le_of_ble_eq_true rfl) d_MM_since_22 ⟨Nat.le_of_ble_eq_true rfl, Nat.le_of_ble_eq_true rfl⟩ (fun _ => ?_)
  exact hg_iret C hr rfl d_MM_since_25 (Nat.le_of_ble_eq_true rfl) (Nat.le_of_ble_eq_true rfl) (⟨by rw [sp_since, gd0 (⟨(i_th_of hI hv ht).mpr ((s_has_vc (by omega)).mp g3), g2⟩) trivial]; rw [nI_clamp (n := v) (by omega), nI_clamp (n := t) (by omega), nI_clamp (n := f) (by omega), v_org_nat (by omega) (by omega), (hO v hv).2 t ht ((s_has_vc (by omega)).mp g3) f hf], by rw [sp_since, gd0 (⟨(i_th_of hI hv ht).mpr ((s_has_vc (by omega)).mp g3), g2⟩) trivial], ad, rfl, by rw [sp_since, gd0 (⟨(i_th_of hI hv ht).mpr ((s_has_vc (by omega)).mp g3), g2⟩) trivial]; exact cr_code 0 hC⟩)
theorem au_0 {M : Mem} {v : Nat} (h : au M v = -1) (hm : ∀ v, 1 ≤ v → v < nV M → ∃ s, s < 20 ∧ M 8 v = nI s) (hv : v < nV M) : v = 0 := by
  rcases Nat.eq_zero_or_pos v with z | z
  · exact z
  · obtain ⟨s, hs, e⟩ := hm v z hv
    rw [au, if_neg (by omega), e] at h
    exact absurd h (fun y => absurd (show nI s < 0 by rw [y]; decide) (nI_pos (by omega)))
/-- of each version but the first a session is told -/
def I_aut (M : Mem) : Prop := ∀ v, 1 ≤ v → v < nV M → ∃ s, s < 20 ∧ M 8 v = nI s
abbrev rm_MM_author : Room := { frames := 7, cells := 2, slots := 12, locals := 112 }
set_option maxHeartbeats 4000000 in
set_option maxRecDepth 100000 in
theorem k_MM_author (l : Launch) (hl9 : l.stackTraces = false) (Γ : Gam) (h : Pic) (ad : Nat → Nat → Nat) (M : Mem) (hC : cr_at Γ ad M h) (hI : Inv0 M) (hA : I_aut M) (v0 : Int32) : kM l Γ y_MM_author w_MM_author rm_MM_author [.ref (ad 0 0), .int v0] h (pubQ Γ ad (sp_author M v0)) (pubX Γ ad (sp_author M v0)) 2 12 := by
  refine hg_entry (own := "ModelMerge") (cc := b_MM_author) (maxL := 3) (ret := (some .int)) (lv0 := [(0, .ref (ad 0 0)), (1, .int v0)]) (by decide) rfl rfl (Nat.le_of_ble_eq_true rfl) rfl ?_
  intro p e s m args below meth c A C hne hr
  have kx := hC.1 0 0 (liv0 (by omega))
  have k1 := hC.1 1 0 (liv0 (by omega))
  have k2 := hC.1 2 0 (liv0 (by omega))
  have k3 := hC.1 3 0 (liv0 (by omega))
  have k4 := hC.1 4 0 (liv0 (by omega))
  have k5 := hC.1 5 0 (liv0 (by omega))
  have k6 := hC.1 6 0 (liv0 (by omega))
  have k7 := hC.1 7 0 (liv0 (by omega))
  have k8 := hC.1 8 0 (liv0 (by omega))
  have k9 := hC.1 9 0 (liv0 (by omega))
  obtain ⟨⟨⟨eT, hT⟩, ⟨eV, hV1, hV⟩, ⟨eS, hS⟩, ⟨eR, hRR⟩, ⟨eC, hCn⟩⟩, hI2, hI3, hI4, hI5, hI6, hI7, hI8, -, hI10, hI11⟩ := id hI
  refine hg_aload_n C 0 d_MM_author_0 rfl rfl ?_
  refine hg_iload_n C 1 d_MM_author_1 rfl rfl ?_
  refine hg_Vv (q := ("ModelMerge", T_MM, 12)) C (k_MM_versionOf l hl9 Γ _ ad M hC hI v0) (cw_MM_72 C.2.2.2.2.1 rfl rfl ⟨Nat.le_of_ble_eq_true rfl, Nat.le_of_ble_eq_true rfl⟩) kx rfl rfl rfl (Nat.le_of_ble_eq_true rfl) d_MM_author_2 ⟨Nat.le_of_ble_eq_true rfl, Nat.le_of_ble_eq_true rfl⟩ (fun co2 => ?_) (fun co2 => hg_out C hne (Nat.le_of_ble_eq_true rfl) (Nat.le_of_ble_eq_true rfl) (⟨Or.inl ⟨rfl, by rw [sp_author, gd1 (fun z => co2 ⟨fun y => z.1 (Int32.le_of_lt y), z.2⟩)]⟩, by rw [sp_author, gd1 (fun z => co2 ⟨fun y => z.1 (Int32.le_of_lt y), z.2⟩)]; exact cr_code 1 hC⟩))
  obtain ⟨v, hv, rfl⟩ := inr_nat (n := nV M) (id co2) (by omega)
  refine hg_tr (congrArg (ad 14) (nI_clamp (n := v) (by omega))) ?_
  have kv_v := hC.1 14 v (livV (by omega) (by omega) (by omega))
  have kw_v := hC.1 15 v (livV (by omega) (by omega) (by omega))
  have ky_v := hC.1 16 v (livV (by omega) (by omega) (by omega))
  have kz_v := hC.1 17 v (livV (by omega) (by omega) (by omega))
  refine hg_astore_n (lv' := [(2, .ref (ad 14 v)), (0, .ref (ad 0 0)), (1, .int (nI v))]) C d_MM_author_5 rfl (by decide) rfl ?_
  refine hg_aload_n C 0 d_MM_author_6 rfl rfl ?_
  refine f_MM_213 C kv_v rfl d_MM_author_7 ?_
  refine hg_iconst (v := (-1)) C d_MM_author_10 (by decide) ?_
  refine hg_icmp_ne C 24 d_MM_author_11 (by decide) (fun c11 => ?_) (fun c11 => ?_)
  · have g0 : ¬ v = 0 := fun z => c11 (by rw [z]; rfl)
    have g4 : ¬ nI v ≤ 0 := nI_nle (by omega) (by omega)
    refine hg_aload_n C 0 d_MM_author_24 rfl rfl ?_
    refine f_MM_213 C kv_v rfl d_MM_author_25 ?_
    exact hg_iret C hr rfl d_MM_author_28 (Nat.le_of_ble_eq_true rfl) (Nat.le_of_ble_eq_true rfl) (⟨by rw [sp_author, gd0 (⟨g4, co2.2⟩) trivial]; rw [nI_clamp (n := v) (by omega), au, if_neg g0], by rw [sp_author, gd0 (⟨g4, co2.2⟩) trivial], ad, rfl, by rw [sp_author, gd0 (⟨g4, co2.2⟩) trivial]; exact cr_code 0 hC⟩)
  · have g0 : v = 0 := au_0 c11 hA hv
    exact th_IAE (is := 216) (text := "no session made version 0") (sa := Γ.2.2 13) C hne hl9 (List.mem_of_getElem? (i := 13) rfl) d_MM_author_14 d_MM_author_17 d_MM_author_18 d_MM_author_20 d_MM_author_23 (Nat.le_of_ble_eq_true rfl) (Nat.le_of_ble_eq_true rfl) (Nat.le_of_ble_eq_true rfl) (Nat.le_of_ble_eq_true rfl) (Nat.le_of_ble_eq_true rfl) (Nat.le_of_ble_eq_true rfl) (⟨Or.inl ⟨rfl, by rw [sp_author, gd1 (fun z => z.1 (by rw [g0]; decide))]⟩, by rw [sp_author, gd1 (fun z => z.1 (by rw [g0]; decide))]; exact cr_code 1 hC⟩)
