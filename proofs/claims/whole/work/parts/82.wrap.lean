/-! THE LAW: its wrappers -/
abbrev lwQ (Γ : Gam) (ad : Nat → Nat → Nat) (ao : Nat) (S : Int32 × Int32 × Mem) : Option Value → Pic → Prop := fun r w => r = some (.int S.1) ∧ ∃ (u : Pic) (ad' : Nat → Nat → Nat) (g' : Nat → Int64), ad' 0 0 = ad 0 0 ∧ cr_at Γ ad' S.2.2 u ∧ u ao = none ∧ w = hp_up u ao (.inl (Γ.2.1 1, 1, .inr (.inl g'))) ∧ (S.1 = 0 → g' 0 = S.2.1.toInt64)
theorem updL_0 {g : Nat → Int64} {v : Int64} : vp_updL g (0 : Int32).toNatClampNeg v 0 = v := if_pos (by decide)
abbrev rm_La_session : Room := { frames := 8, cells := 6, slots := 388, locals := 168 }
set_option maxHeartbeats 4000000 in
set_option maxRecDepth 100000 in
theorem k_La_session (l : Launch) (hl9 : l.stackTraces = false) (Γ : Gam) (hX : Pic) (ad : Nat → Nat → Nat) (M : Mem) (hC : cr_at Γ ad M hX) (hIv : Ivr M) (ao : Nat) (hao : hX ao = none) (g : Nat → Int64) (p0 v0 : Int32) : kM l Γ y_La_session w_La_session rm_La_session [.ref (ad 0 0), .int p0, .int v0, .ref ao] (hp_up hX ao (.inl (Γ.2.1 1, 1, .inr (.inl g)))) (lwQ Γ ad ao (sp_session M p0 v0)) (fun _ _ => False) 6 388 := by
  refine hg_entryH (own := "ModelMergeLaw") (cc := b_La_session) (maxL := 5) (ret := (some .int)) (hh := [(0, 10, 13, 13), (0, 10, 17, 15)]) (lv0 := [(0, .ref (ad 0 0)), (1, .int p0), (2, .int v0), (3, .ref ao)]) (by decide) rfl rfl (Nat.le_of_ble_eq_true rfl) rfl ?_
  intro p e s m args below meth c A C ht hr
  have hsub : ∀ q x, hX q = some x → hp_up hX ao (.inl (Γ.2.1 1, 1, .inr (.inl g))) q = some x := fun q x hx => by rw [hp_up_n (fun z => by rw [z, hao] at hx; cases hx)]; exact hx
  have kxo : hX (ad 0 0) = some (.inr (6, [.ref (ad 1 0), .ref (ad 2 0), .int (M 1 0), .ref (ad 3 0), .int (M 9 0), .ref (ad 4 0), .int (M 4 0), .ref (ad 14 (nV M - 1)), .ref (ad 5 0), .int (M 22 0), .ref (ad 6 0), cr_pen ad M])) := hC.1 0 0 (liv0 (by omega))
  refine hg_aload_n C 3 d_La_session_0 rfl rfl ?_
  refine hg_iconst (v := 0) C d_La_session_1 (by decide) ?_
  refine hg_aload_n C 0 d_La_session_2 rfl rfl ?_
  refine hg_iload_n C 1 d_La_session_3 rfl rfl ?_
  refine hg_iload_n C 2 d_La_session_4 rfl rfl ?_
  refine hg_VF (q := ("ModelMerge", T_MM, 12)) C hsub (k_MM_session l hl9 Γ hX ad M hC hIv.1 p0 v0) (cw_La_7 C.2.2.2.2.1 rfl rfl ⟨Nat.le_of_ble_eq_true rfl, Nat.le_of_ble_eq_true rfl⟩) kxo rfl rfl rfl (Nat.le_of_ble_eq_true rfl) d_La_session_5 ⟨Nat.le_of_ble_eq_true rfl, Nat.le_of_ble_eq_true rfl⟩ (fun r u hq hd => ?_) (fun E u hq hd => ?_)
  · have hua : u ao = none := by
      cases hz : u ao with
      | none => rfl
      | some y =>
        have y9 := hd ao y hz hao
        rw [hp_up_s] at y9
        cases y9
    obtain ⟨rfl, hc0, ad', ha0, hcr⟩ := hq
    refine hg_eq (mrg_up hao hua) ?_
    have ko : hp_up u ao (.inl (Γ.2.1 1, 1, .inr (.inl g))) ao = some (.inl (Γ.2.1 1, 1, .inr (.inl g))) := hp_up_s
    refine hg_i2l C d_La_session_8 rfl ?_
    refine hg_last C 1 ko rfl (show vp_in (nI 0) 1 from vp_in_nI (by omega) (by omega)) d_La_session_9 ?_
    obtain ⟨h1, eh1⟩ : ∃ z, z = hp_up (hp_up u ao (.inl (Γ.2.1 1, 1, .inr (.inl g)))) ao (.inl ((Γ.2.1 1), 1, .inr (.inl (vp_updL g ((0 : Int32).toNatClampNeg) (((sp_session M p0 v0).2.1).toInt64))))) := ⟨_, rfl⟩
    refine hg_eq eh1.symm ?_
    have k2 : h1 ao = some (.inl ((Γ.2.1 1), 1, .inr (.inl (vp_updL g ((0 : Int32).toNatClampNeg) (((sp_session M p0 v0).2.1).toInt64))))) := by rw [eh1]; exact hp_up_s
    refine hg_goto C 21 d_La_session_10 (by decide) ?_
    refine hg_iconst (v := 0) C d_La_session_21 (by decide) ?_
    exact hg_iret C hr rfl d_La_session_22 (Nat.le_of_ble_eq_true rfl) (Nat.le_of_ble_eq_true rfl) (⟨by rw [hc0], u, ad', _, ha0, hcr, hua, by rw [eh1, hp_up_up], fun _ => updL_0⟩)
  · have hua : u ao = none := by
      cases hz : u ao with
      | none => rfl
      | some y =>
        have y9 := hd ao y hz hao
        rw [hp_up_s] at y9
        cases y9
    rw [mrg_up hao hua]
    obtain ⟨hE, hcr⟩ := hq
    rcases hE with ⟨rfl, c1⟩ | ⟨rfl, c1⟩
    · refine hg_catch (hpc := 13) C [] ⟨0, 10, 13, 13⟩ [⟨0, 10, 17, 15⟩] ht (fun z hz => by cases hz) (by decide) (by decide) (C.2.2.2.2.1 _ (kc kw122)) (va_Nw.use rfl (C.2.2.2.2.2.2.1.2.2.2.2.1 (Cond.castable "java/lang/IllegalArgumentException" "java/lang/IllegalArgumentException") (by decide +kernel)).2) rfl (fun q => ?_)
      refine hg_astore (lv' := [(4, .ref q), (0, .ref (ad 0 0)), (1, .int p0), (2, .int v0), (3, .ref ao)]) C d_La_session_13 (by decide) rfl ?_
      refine hg_iconst (v := 1) C d_La_session_15 (by decide) ?_
      exact hg_iret C hr rfl d_La_session_16 (Nat.le_of_ble_eq_true rfl) (Nat.le_of_ble_eq_true rfl) (⟨by rw [c1], u, ad, g, rfl, hcr, hua, rfl, fun z => absurd (c1.symm.trans z) (by decide)⟩)
    · refine hg_catch (hpc := 17) C [⟨0, 10, 13, 13⟩] ⟨0, 10, 17, 15⟩ [] ht (fun z hz => Or.inr (by rw [List.mem_singleton.mp hz]; exact ⟨by decide, "java/lang/IllegalArgumentException", (C.2.2.2.2.1 _ (kc kw122)), C.2.2.2.2.2.2.1.2.2.2.2.2⟩)) (by decide) (by decide) (C.2.2.2.2.1 _ (kc kw123)) (va_Nw.use rfl (C.2.2.2.2.2.2.1.2.2.2.2.1 (Cond.castable "java/lang/IllegalStateException" "java/lang/IllegalStateException") (by decide +kernel)).2) rfl (fun q => ?_)
      refine hg_astore (lv' := [(4, .ref q), (0, .ref (ad 0 0)), (1, .int p0), (2, .int v0), (3, .ref ao)]) C d_La_session_17 (by decide) rfl ?_
      refine hg_iconst (v := 2) C d_La_session_19 (by decide) ?_
      exact hg_iret C hr rfl d_La_session_20 (Nat.le_of_ble_eq_true rfl) (Nat.le_of_ble_eq_true rfl) (⟨by rw [c1], u, ad, g, rfl, hcr, hua, rfl, fun z => absurd (c1.symm.trans z) (by decide)⟩)
abbrev rm_La_make : Room := { frames := 8, cells := 4, slots := 25, locals := 136 }
set_option maxHeartbeats 4000000 in
set_option maxRecDepth 100000 in
theorem k_La_make (l : Launch) (hl9 : l.stackTraces = false) (Γ : Gam) (hX : Pic) (ad : Nat → Nat → Nat) (M : Mem) (hC : cr_at Γ ad M hX) (hIv : Ivr M) (ao : Nat) (hao : hX ao = none) (g : Nat → Int64) (s0 k0 : Int32) : kM l Γ y_La_make w_La_make rm_La_make [.ref (ad 0 0), .int s0, .int k0, .ref ao] (hp_up hX ao (.inl (Γ.2.1 1, 1, .inr (.inl g)))) (lwQ Γ ad ao (sp_make M s0 k0)) (fun _ _ => False) 4 25 := by
  refine hg_entryH (own := "ModelMergeLaw") (cc := b_La_make) (maxL := 5) (ret := (some .int)) (hh := [(0, 10, 13, 13), (0, 10, 17, 15)]) (lv0 := [(0, .ref (ad 0 0)), (1, .int s0), (2, .int k0), (3, .ref ao)]) (by decide) rfl rfl (Nat.le_of_ble_eq_true rfl) rfl ?_
  intro p e s m args below meth c A C ht hr
  have hsub : ∀ q x, hX q = some x → hp_up hX ao (.inl (Γ.2.1 1, 1, .inr (.inl g))) q = some x := fun q x hx => by rw [hp_up_n (fun z => by rw [z, hao] at hx; cases hx)]; exact hx
  have kxo : hX (ad 0 0) = some (.inr (6, [.ref (ad 1 0), .ref (ad 2 0), .int (M 1 0), .ref (ad 3 0), .int (M 9 0), .ref (ad 4 0), .int (M 4 0), .ref (ad 14 (nV M - 1)), .ref (ad 5 0), .int (M 22 0), .ref (ad 6 0), cr_pen ad M])) := hC.1 0 0 (liv0 (by omega))
  refine hg_aload_n C 3 d_La_make_0 rfl rfl ?_
  refine hg_iconst (v := 0) C d_La_make_1 (by decide) ?_
  refine hg_aload_n C 0 d_La_make_2 rfl rfl ?_
  refine hg_iload_n C 1 d_La_make_3 rfl rfl ?_
  refine hg_iload_n C 2 d_La_make_4 rfl rfl ?_
  refine hg_VF (q := ("ModelMerge", T_MM, 12)) C hsub (k_MM_make l hl9 Γ hX ad M hC hIv.1 s0 k0) (cw_La_17 C.2.2.2.2.1 rfl rfl ⟨Nat.le_of_ble_eq_true rfl, Nat.le_of_ble_eq_true rfl⟩) kxo rfl rfl rfl (Nat.le_of_ble_eq_true rfl) d_La_make_5 ⟨Nat.le_of_ble_eq_true rfl, Nat.le_of_ble_eq_true rfl⟩ (fun r u hq hd => ?_) (fun E u hq hd => ?_)
  · have hua : u ao = none := by
      cases hz : u ao with
      | none => rfl
      | some y =>
        have y9 := hd ao y hz hao
        rw [hp_up_s] at y9
        cases y9
    obtain ⟨rfl, hc0, ad', ha0, hcr⟩ := hq
    refine hg_eq (mrg_up hao hua) ?_
    have ko : hp_up u ao (.inl (Γ.2.1 1, 1, .inr (.inl g))) ao = some (.inl (Γ.2.1 1, 1, .inr (.inl g))) := hp_up_s
    refine hg_i2l C d_La_make_8 rfl ?_
    refine hg_last C 1 ko rfl (show vp_in (nI 0) 1 from vp_in_nI (by omega) (by omega)) d_La_make_9 ?_
    obtain ⟨h1, eh1⟩ : ∃ z, z = hp_up (hp_up u ao (.inl (Γ.2.1 1, 1, .inr (.inl g)))) ao (.inl ((Γ.2.1 1), 1, .inr (.inl (vp_updL g ((0 : Int32).toNatClampNeg) (((sp_make M s0 k0).2.1).toInt64))))) := ⟨_, rfl⟩
    refine hg_eq eh1.symm ?_
    have k2 : h1 ao = some (.inl ((Γ.2.1 1), 1, .inr (.inl (vp_updL g ((0 : Int32).toNatClampNeg) (((sp_make M s0 k0).2.1).toInt64))))) := by rw [eh1]; exact hp_up_s
    refine hg_goto C 21 d_La_make_10 (by decide) ?_
    refine hg_iconst (v := 0) C d_La_make_21 (by decide) ?_
    exact hg_iret C hr rfl d_La_make_22 (Nat.le_of_ble_eq_true rfl) (Nat.le_of_ble_eq_true rfl) (⟨by rw [hc0], u, ad', _, ha0, hcr, hua, by rw [eh1, hp_up_up], fun _ => updL_0⟩)
  · have hua : u ao = none := by
      cases hz : u ao with
      | none => rfl
      | some y =>
        have y9 := hd ao y hz hao
        rw [hp_up_s] at y9
        cases y9
    rw [mrg_up hao hua]
    obtain ⟨hE, hcr⟩ := hq
    rcases hE with ⟨rfl, c1⟩ | ⟨rfl, c1⟩
    · refine hg_catch (hpc := 13) C [] ⟨0, 10, 13, 13⟩ [⟨0, 10, 17, 15⟩] ht (fun z hz => by cases hz) (by decide) (by decide) (C.2.2.2.2.1 _ (kc kw122)) (va_Nw.use rfl (C.2.2.2.2.2.2.1.2.2.2.2.1 (Cond.castable "java/lang/IllegalArgumentException" "java/lang/IllegalArgumentException") (by decide +kernel)).2) rfl (fun q => ?_)
      refine hg_astore (lv' := [(4, .ref q), (0, .ref (ad 0 0)), (1, .int s0), (2, .int k0), (3, .ref ao)]) C d_La_make_13 (by decide) rfl ?_
      refine hg_iconst (v := 1) C d_La_make_15 (by decide) ?_
      exact hg_iret C hr rfl d_La_make_16 (Nat.le_of_ble_eq_true rfl) (Nat.le_of_ble_eq_true rfl) (⟨by rw [c1], u, ad, g, rfl, hcr, hua, rfl, fun z => absurd (c1.symm.trans z) (by decide)⟩)
    · refine hg_catch (hpc := 17) C [⟨0, 10, 13, 13⟩] ⟨0, 10, 17, 15⟩ [] ht (fun z hz => Or.inr (by rw [List.mem_singleton.mp hz]; exact ⟨by decide, "java/lang/IllegalArgumentException", (C.2.2.2.2.1 _ (kc kw122)), C.2.2.2.2.2.2.1.2.2.2.2.2⟩)) (by decide) (by decide) (C.2.2.2.2.1 _ (kc kw123)) (va_Nw.use rfl (C.2.2.2.2.2.2.1.2.2.2.2.1 (Cond.castable "java/lang/IllegalStateException" "java/lang/IllegalStateException") (by decide +kernel)).2) rfl (fun q => ?_)
      refine hg_astore (lv' := [(4, .ref q), (0, .ref (ad 0 0)), (1, .int s0), (2, .int k0), (3, .ref ao)]) C d_La_make_17 (by decide) rfl ?_
      refine hg_iconst (v := 2) C d_La_make_19 (by decide) ?_
      exact hg_iret C hr rfl d_La_make_20 (Nat.le_of_ble_eq_true rfl) (Nat.le_of_ble_eq_true rfl) (⟨by rw [c1], u, ad, g, rfl, hcr, hua, rfl, fun z => absurd (c1.symm.trans z) (by decide)⟩)
abbrev rm_La_set : Room := { frames := 9, cells := 5, slots := 31, locals := 162 }
set_option maxHeartbeats 4000000 in
set_option maxRecDepth 100000 in
theorem k_La_set (l : Launch) (hl9 : l.stackTraces = false) (Γ : Gam) (hX : Pic) (ad : Nat → Nat → Nat) (M : Mem) (hC : cr_at Γ ad M hX) (hIv : Ivr M) (ao : Nat) (hao : hX ao = none) (g : Nat → Int64) (s0 t0 f0 v0 : Int32) : kM l Γ y_La_set w_La_set rm_La_set [.ref (ad 0 0), .int s0, .int t0, .int f0, .int v0, .ref ao] (hp_up hX ao (.inl (Γ.2.1 1, 1, .inr (.inl g)))) (lwQ Γ ad ao (sp_set M s0 t0 f0 v0)) (fun _ _ => False) 5 31 := by
  refine hg_entryH (own := "ModelMergeLaw") (cc := b_La_set) (maxL := 7) (ret := (some .int)) (hh := [(0, 14, 17, 13), (0, 14, 21, 15)]) (lv0 := [(0, .ref (ad 0 0)), (1, .int s0), (2, .int t0), (3, .int f0), (4, .int v0), (5, .ref ao)]) (by decide) rfl rfl (Nat.le_of_ble_eq_true rfl) rfl ?_
  intro p e s m args below meth c A C ht hr
  have hsub : ∀ q x, hX q = some x → hp_up hX ao (.inl (Γ.2.1 1, 1, .inr (.inl g))) q = some x := fun q x hx => by rw [hp_up_n (fun z => by rw [z, hao] at hx; cases hx)]; exact hx
  have kxo : hX (ad 0 0) = some (.inr (6, [.ref (ad 1 0), .ref (ad 2 0), .int (M 1 0), .ref (ad 3 0), .int (M 9 0), .ref (ad 4 0), .int (M 4 0), .ref (ad 14 (nV M - 1)), .ref (ad 5 0), .int (M 22 0), .ref (ad 6 0), cr_pen ad M])) := hC.1 0 0 (liv0 (by omega))
  refine hg_aload C 5 d_La_set_0 rfl ?_
  refine hg_iconst (v := 0) C d_La_set_2 (by decide) ?_
  refine hg_aload_n C 0 d_La_set_3 rfl rfl ?_
  refine hg_iload_n C 1 d_La_set_4 rfl rfl ?_
  refine hg_iload_n C 2 d_La_set_5 rfl rfl ?_
  refine hg_iload_n C 3 d_La_set_6 rfl rfl ?_
  refine hg_iload C 4 d_La_set_7 rfl ?_
  refine hg_VF (q := ("ModelMerge", T_MM, 12)) C hsub (k_MM_set l hl9 Γ hX ad M hC hIv.1 s0 t0 f0 v0) (cw_La_20 C.2.2.2.2.1 rfl rfl ⟨Nat.le_of_ble_eq_true rfl, Nat.le_of_ble_eq_true rfl⟩) kxo rfl rfl rfl (Nat.le_of_ble_eq_true rfl) d_La_set_9 ⟨Nat.le_of_ble_eq_true rfl, Nat.le_of_ble_eq_true rfl⟩ (fun r u hq hd => ?_) (fun E u hq hd => ?_)
  · have hua : u ao = none := by
      cases hz : u ao with
      | none => rfl
      | some y =>
        have y9 := hd ao y hz hao
        rw [hp_up_s] at y9
        cases y9
    obtain ⟨rfl, hc0, ad', ha0, hcr⟩ := hq
    refine hg_eq (mrg_up hao hua) ?_
    have ko : hp_up u ao (.inl (Γ.2.1 1, 1, .inr (.inl g))) ao = some (.inl (Γ.2.1 1, 1, .inr (.inl g))) := hp_up_s
    refine hg_i2l C d_La_set_12 rfl ?_
    refine hg_last C 1 ko rfl (show vp_in (nI 0) 1 from vp_in_nI (by omega) (by omega)) d_La_set_13 ?_
    obtain ⟨h1, eh1⟩ : ∃ z, z = hp_up (hp_up u ao (.inl (Γ.2.1 1, 1, .inr (.inl g)))) ao (.inl ((Γ.2.1 1), 1, .inr (.inl (vp_updL g ((0 : Int32).toNatClampNeg) (((sp_set M s0 t0 f0 v0).2.1).toInt64))))) := ⟨_, rfl⟩
    refine hg_eq eh1.symm ?_
    have k2 : h1 ao = some (.inl ((Γ.2.1 1), 1, .inr (.inl (vp_updL g ((0 : Int32).toNatClampNeg) (((sp_set M s0 t0 f0 v0).2.1).toInt64))))) := by rw [eh1]; exact hp_up_s
    refine hg_goto C 25 d_La_set_14 (by decide) ?_
    refine hg_iconst (v := 0) C d_La_set_25 (by decide) ?_
    exact hg_iret C hr rfl d_La_set_26 (Nat.le_of_ble_eq_true rfl) (Nat.le_of_ble_eq_true rfl) (⟨by rw [hc0], u, ad', _, ha0, hcr, hua, by rw [eh1, hp_up_up], fun _ => updL_0⟩)
  · have hua : u ao = none := by
      cases hz : u ao with
      | none => rfl
      | some y =>
        have y9 := hd ao y hz hao
        rw [hp_up_s] at y9
        cases y9
    rw [mrg_up hao hua]
    obtain ⟨hE, hcr⟩ := hq
    rcases hE with ⟨rfl, c1⟩ | ⟨rfl, c1⟩
    · refine hg_catch (hpc := 17) C [] ⟨0, 14, 17, 13⟩ [⟨0, 14, 21, 15⟩] ht (fun z hz => by cases hz) (by decide) (by decide) (C.2.2.2.2.1 _ (kc kw122)) (va_Nw.use rfl (C.2.2.2.2.2.2.1.2.2.2.2.1 (Cond.castable "java/lang/IllegalArgumentException" "java/lang/IllegalArgumentException") (by decide +kernel)).2) rfl (fun q => ?_)
      refine hg_astore (lv' := [(6, .ref q), (0, .ref (ad 0 0)), (1, .int s0), (2, .int t0), (3, .int f0), (4, .int v0), (5, .ref ao)]) C d_La_set_17 (by decide) rfl ?_
      refine hg_iconst (v := 1) C d_La_set_19 (by decide) ?_
      exact hg_iret C hr rfl d_La_set_20 (Nat.le_of_ble_eq_true rfl) (Nat.le_of_ble_eq_true rfl) (⟨by rw [c1], u, ad, g, rfl, hcr, hua, rfl, fun z => absurd (c1.symm.trans z) (by decide)⟩)
    · refine hg_catch (hpc := 21) C [⟨0, 14, 17, 13⟩] ⟨0, 14, 21, 15⟩ [] ht (fun z hz => Or.inr (by rw [List.mem_singleton.mp hz]; exact ⟨by decide, "java/lang/IllegalArgumentException", (C.2.2.2.2.1 _ (kc kw122)), C.2.2.2.2.2.2.1.2.2.2.2.2⟩)) (by decide) (by decide) (C.2.2.2.2.1 _ (kc kw123)) (va_Nw.use rfl (C.2.2.2.2.2.2.1.2.2.2.2.1 (Cond.castable "java/lang/IllegalStateException" "java/lang/IllegalStateException") (by decide +kernel)).2) rfl (fun q => ?_)
      refine hg_astore (lv' := [(6, .ref q), (0, .ref (ad 0 0)), (1, .int s0), (2, .int t0), (3, .int f0), (4, .int v0), (5, .ref ao)]) C d_La_set_21 (by decide) rfl ?_
      refine hg_iconst (v := 2) C d_La_set_23 (by decide) ?_
      exact hg_iret C hr rfl d_La_set_24 (Nat.le_of_ble_eq_true rfl) (Nat.le_of_ble_eq_true rfl) (⟨by rw [c1], u, ad, g, rfl, hcr, hua, rfl, fun z => absurd (c1.symm.trans z) (by decide)⟩)
abbrev rm_La_drop : Room := { frames := 9, cells := 4, slots := 25, locals := 160 }
set_option maxHeartbeats 4000000 in
set_option maxRecDepth 100000 in
theorem k_La_drop (l : Launch) (hl9 : l.stackTraces = false) (Γ : Gam) (hX : Pic) (ad : Nat → Nat → Nat) (M : Mem) (hC : cr_at Γ ad M hX) (hIv : Ivr M) (ao : Nat) (hao : hX ao = none) (g : Nat → Int64) (s0 t0 : Int32) : kM l Γ y_La_drop w_La_drop rm_La_drop [.ref (ad 0 0), .int s0, .int t0, .ref ao] (hp_up hX ao (.inl (Γ.2.1 1, 1, .inr (.inl g)))) (lwQ Γ ad ao (sp_drop M s0 t0)) (fun _ _ => False) 4 25 := by
  refine hg_entryH (own := "ModelMergeLaw") (cc := b_La_drop) (maxL := 5) (ret := (some .int)) (hh := [(0, 10, 13, 13), (0, 10, 17, 15)]) (lv0 := [(0, .ref (ad 0 0)), (1, .int s0), (2, .int t0), (3, .ref ao)]) (by decide) rfl rfl (Nat.le_of_ble_eq_true rfl) rfl ?_
  intro p e s m args below meth c A C ht hr
  have hsub : ∀ q x, hX q = some x → hp_up hX ao (.inl (Γ.2.1 1, 1, .inr (.inl g))) q = some x := fun q x hx => by rw [hp_up_n (fun z => by rw [z, hao] at hx; cases hx)]; exact hx
  have kxo : hX (ad 0 0) = some (.inr (6, [.ref (ad 1 0), .ref (ad 2 0), .int (M 1 0), .ref (ad 3 0), .int (M 9 0), .ref (ad 4 0), .int (M 4 0), .ref (ad 14 (nV M - 1)), .ref (ad 5 0), .int (M 22 0), .ref (ad 6 0), cr_pen ad M])) := hC.1 0 0 (liv0 (by omega))
  refine hg_aload_n C 3 d_La_drop_0 rfl rfl ?_
  refine hg_iconst (v := 0) C d_La_drop_1 (by decide) ?_
  refine hg_aload_n C 0 d_La_drop_2 rfl rfl ?_
  refine hg_iload_n C 1 d_La_drop_3 rfl rfl ?_
  refine hg_iload_n C 2 d_La_drop_4 rfl rfl ?_
  refine hg_VF (q := ("ModelMerge", T_MM, 12)) C hsub (k_MM_drop l hl9 Γ hX ad M hC hIv.1 s0 t0) (cw_La_24 C.2.2.2.2.1 rfl rfl ⟨Nat.le_of_ble_eq_true rfl, Nat.le_of_ble_eq_true rfl⟩) kxo rfl rfl rfl (Nat.le_of_ble_eq_true rfl) d_La_drop_5 ⟨Nat.le_of_ble_eq_true rfl, Nat.le_of_ble_eq_true rfl⟩ (fun r u hq hd => ?_) (fun E u hq hd => ?_)
  · have hua : u ao = none := by
      cases hz : u ao with
      | none => rfl
      | some y =>
        have y9 := hd ao y hz hao
        rw [hp_up_s] at y9
        cases y9
    obtain ⟨rfl, hc0, ad', ha0, hcr⟩ := hq
    refine hg_eq (mrg_up hao hua) ?_
    have ko : hp_up u ao (.inl (Γ.2.1 1, 1, .inr (.inl g))) ao = some (.inl (Γ.2.1 1, 1, .inr (.inl g))) := hp_up_s
    refine hg_i2l C d_La_drop_8 rfl ?_
    refine hg_last C 1 ko rfl (show vp_in (nI 0) 1 from vp_in_nI (by omega) (by omega)) d_La_drop_9 ?_
    obtain ⟨h1, eh1⟩ : ∃ z, z = hp_up (hp_up u ao (.inl (Γ.2.1 1, 1, .inr (.inl g)))) ao (.inl ((Γ.2.1 1), 1, .inr (.inl (vp_updL g ((0 : Int32).toNatClampNeg) (((sp_drop M s0 t0).2.1).toInt64))))) := ⟨_, rfl⟩
    refine hg_eq eh1.symm ?_
    have k2 : h1 ao = some (.inl ((Γ.2.1 1), 1, .inr (.inl (vp_updL g ((0 : Int32).toNatClampNeg) (((sp_drop M s0 t0).2.1).toInt64))))) := by rw [eh1]; exact hp_up_s
    refine hg_goto C 21 d_La_drop_10 (by decide) ?_
    refine hg_iconst (v := 0) C d_La_drop_21 (by decide) ?_
    exact hg_iret C hr rfl d_La_drop_22 (Nat.le_of_ble_eq_true rfl) (Nat.le_of_ble_eq_true rfl) (⟨by rw [hc0], u, ad', _, ha0, hcr, hua, by rw [eh1, hp_up_up], fun _ => updL_0⟩)
  · have hua : u ao = none := by
      cases hz : u ao with
      | none => rfl
      | some y =>
        have y9 := hd ao y hz hao
        rw [hp_up_s] at y9
        cases y9
    rw [mrg_up hao hua]
    obtain ⟨hE, hcr⟩ := hq
    rcases hE with ⟨rfl, c1⟩ | ⟨rfl, c1⟩
    · refine hg_catch (hpc := 13) C [] ⟨0, 10, 13, 13⟩ [⟨0, 10, 17, 15⟩] ht (fun z hz => by cases hz) (by decide) (by decide) (C.2.2.2.2.1 _ (kc kw122)) (va_Nw.use rfl (C.2.2.2.2.2.2.1.2.2.2.2.1 (Cond.castable "java/lang/IllegalArgumentException" "java/lang/IllegalArgumentException") (by decide +kernel)).2) rfl (fun q => ?_)
      refine hg_astore (lv' := [(4, .ref q), (0, .ref (ad 0 0)), (1, .int s0), (2, .int t0), (3, .ref ao)]) C d_La_drop_13 (by decide) rfl ?_
      refine hg_iconst (v := 1) C d_La_drop_15 (by decide) ?_
      exact hg_iret C hr rfl d_La_drop_16 (Nat.le_of_ble_eq_true rfl) (Nat.le_of_ble_eq_true rfl) (⟨by rw [c1], u, ad, g, rfl, hcr, hua, rfl, fun z => absurd (c1.symm.trans z) (by decide)⟩)
    · refine hg_catch (hpc := 17) C [⟨0, 10, 13, 13⟩] ⟨0, 10, 17, 15⟩ [] ht (fun z hz => Or.inr (by rw [List.mem_singleton.mp hz]; exact ⟨by decide, "java/lang/IllegalArgumentException", (C.2.2.2.2.1 _ (kc kw122)), C.2.2.2.2.2.2.1.2.2.2.2.2⟩)) (by decide) (by decide) (C.2.2.2.2.1 _ (kc kw123)) (va_Nw.use rfl (C.2.2.2.2.2.2.1.2.2.2.2.1 (Cond.castable "java/lang/IllegalStateException" "java/lang/IllegalStateException") (by decide +kernel)).2) rfl (fun q => ?_)
      refine hg_astore (lv' := [(4, .ref q), (0, .ref (ad 0 0)), (1, .int s0), (2, .int t0), (3, .ref ao)]) C d_La_drop_17 (by decide) rfl ?_
      refine hg_iconst (v := 2) C d_La_drop_19 (by decide) ?_
      exact hg_iret C hr rfl d_La_drop_20 (Nat.le_of_ble_eq_true rfl) (Nat.le_of_ble_eq_true rfl) (⟨by rw [c1], u, ad, g, rfl, hcr, hua, rfl, fun z => absurd (c1.symm.trans z) (by decide)⟩)
abbrev rm_La_undo : Room := { frames := 8, cells := 2, slots := 12, locals := 134 }
set_option maxHeartbeats 4000000 in
set_option maxRecDepth 100000 in
theorem k_La_undo (l : Launch) (hl9 : l.stackTraces = false) (Γ : Gam) (hX : Pic) (ad : Nat → Nat → Nat) (M : Mem) (hC : cr_at Γ ad M hX) (hIv : Ivr M) (ao : Nat) (hao : hX ao = none) (g : Nat → Int64) (s0 : Int32) : kM l Γ y_La_undo w_La_undo rm_La_undo [.ref (ad 0 0), .int s0, .ref ao] (hp_up hX ao (.inl (Γ.2.1 1, 1, .inr (.inl g)))) (lwQ Γ ad ao (sp_undo M s0)) (fun _ _ => False) 2 12 := by
  refine hg_entryH (own := "ModelMergeLaw") (cc := b_La_undo) (maxL := 4) (ret := (some .int)) (hh := [(0, 9, 12, 13), (0, 9, 15, 15)]) (lv0 := [(0, .ref (ad 0 0)), (1, .int s0), (2, .ref ao)]) (by decide) rfl rfl (Nat.le_of_ble_eq_true rfl) rfl ?_
  intro p e s m args below meth c A C ht hr
  have hsub : ∀ q x, hX q = some x → hp_up hX ao (.inl (Γ.2.1 1, 1, .inr (.inl g))) q = some x := fun q x hx => by rw [hp_up_n (fun z => by rw [z, hao] at hx; cases hx)]; exact hx
  have kxo : hX (ad 0 0) = some (.inr (6, [.ref (ad 1 0), .ref (ad 2 0), .int (M 1 0), .ref (ad 3 0), .int (M 9 0), .ref (ad 4 0), .int (M 4 0), .ref (ad 14 (nV M - 1)), .ref (ad 5 0), .int (M 22 0), .ref (ad 6 0), cr_pen ad M])) := hC.1 0 0 (liv0 (by omega))
  refine hg_aload_n C 2 d_La_undo_0 rfl rfl ?_
  refine hg_iconst (v := 0) C d_La_undo_1 (by decide) ?_
  refine hg_aload_n C 0 d_La_undo_2 rfl rfl ?_
  refine hg_iload_n C 1 d_La_undo_3 rfl rfl ?_
  refine hg_VF (q := ("ModelMerge", T_MM, 12)) C hsub (k_MM_undo l hl9 Γ hX ad M hC hIv.1 s0) (cw_La_27 C.2.2.2.2.1 rfl rfl ⟨Nat.le_of_ble_eq_true rfl, Nat.le_of_ble_eq_true rfl⟩) kxo rfl rfl rfl (Nat.le_of_ble_eq_true rfl) d_La_undo_4 ⟨Nat.le_of_ble_eq_true rfl, Nat.le_of_ble_eq_true rfl⟩ (fun r u hq hd => ?_) (fun E u hq hd => ?_)
  · have hua : u ao = none := by
      cases hz : u ao with
      | none => rfl
      | some y =>
        have y9 := hd ao y hz hao
        rw [hp_up_s] at y9
        cases y9
    obtain ⟨rfl, hc0, ad', ha0, hcr⟩ := hq
    refine hg_eq (mrg_up hao hua) ?_
    have ko : hp_up u ao (.inl (Γ.2.1 1, 1, .inr (.inl g))) ao = some (.inl (Γ.2.1 1, 1, .inr (.inl g))) := hp_up_s
    refine hg_i2l C d_La_undo_7 rfl ?_
    refine hg_last C 1 ko rfl (show vp_in (nI 0) 1 from vp_in_nI (by omega) (by omega)) d_La_undo_8 ?_
    obtain ⟨h1, eh1⟩ : ∃ z, z = hp_up (hp_up u ao (.inl (Γ.2.1 1, 1, .inr (.inl g)))) ao (.inl ((Γ.2.1 1), 1, .inr (.inl (vp_updL g ((0 : Int32).toNatClampNeg) (((sp_undo M s0).2.1).toInt64))))) := ⟨_, rfl⟩
    refine hg_eq eh1.symm ?_
    have k2 : h1 ao = some (.inl ((Γ.2.1 1), 1, .inr (.inl (vp_updL g ((0 : Int32).toNatClampNeg) (((sp_undo M s0).2.1).toInt64))))) := by rw [eh1]; exact hp_up_s
    refine hg_goto C 18 d_La_undo_9 (by decide) ?_
    refine hg_iconst (v := 0) C d_La_undo_18 (by decide) ?_
    exact hg_iret C hr rfl d_La_undo_19 (Nat.le_of_ble_eq_true rfl) (Nat.le_of_ble_eq_true rfl) (⟨by rw [hc0], u, ad', _, ha0, hcr, hua, by rw [eh1, hp_up_up], fun _ => updL_0⟩)
  · have hua : u ao = none := by
      cases hz : u ao with
      | none => rfl
      | some y =>
        have y9 := hd ao y hz hao
        rw [hp_up_s] at y9
        cases y9
    rw [mrg_up hao hua]
    obtain ⟨hE, hcr⟩ := hq
    rcases hE with ⟨rfl, c1⟩ | ⟨rfl, c1⟩
    · refine hg_catch (hpc := 12) C [] ⟨0, 9, 12, 13⟩ [⟨0, 9, 15, 15⟩] ht (fun z hz => by cases hz) (by decide) (by decide) (C.2.2.2.2.1 _ (kc kw122)) (va_Nw.use rfl (C.2.2.2.2.2.2.1.2.2.2.2.1 (Cond.castable "java/lang/IllegalArgumentException" "java/lang/IllegalArgumentException") (by decide +kernel)).2) rfl (fun q => ?_)
      refine hg_astore_n (lv' := [(3, .ref q), (0, .ref (ad 0 0)), (1, .int s0), (2, .ref ao)]) C d_La_undo_12 rfl (by decide) rfl ?_
      refine hg_iconst (v := 1) C d_La_undo_13 (by decide) ?_
      exact hg_iret C hr rfl d_La_undo_14 (Nat.le_of_ble_eq_true rfl) (Nat.le_of_ble_eq_true rfl) (⟨by rw [c1], u, ad, g, rfl, hcr, hua, rfl, fun z => absurd (c1.symm.trans z) (by decide)⟩)
    · refine hg_catch (hpc := 15) C [⟨0, 9, 12, 13⟩] ⟨0, 9, 15, 15⟩ [] ht (fun z hz => Or.inr (by rw [List.mem_singleton.mp hz]; exact ⟨by decide, "java/lang/IllegalArgumentException", (C.2.2.2.2.1 _ (kc kw122)), C.2.2.2.2.2.2.1.2.2.2.2.2⟩)) (by decide) (by decide) (C.2.2.2.2.1 _ (kc kw123)) (va_Nw.use rfl (C.2.2.2.2.2.2.1.2.2.2.2.1 (Cond.castable "java/lang/IllegalStateException" "java/lang/IllegalStateException") (by decide +kernel)).2) rfl (fun q => ?_)
      refine hg_astore_n (lv' := [(3, .ref q), (0, .ref (ad 0 0)), (1, .int s0), (2, .ref ao)]) C d_La_undo_15 rfl (by decide) rfl ?_
      refine hg_iconst (v := 2) C d_La_undo_16 (by decide) ?_
      exact hg_iret C hr rfl d_La_undo_17 (Nat.le_of_ble_eq_true rfl) (Nat.le_of_ble_eq_true rfl) (⟨by rw [c1], u, ad, g, rfl, hcr, hua, rfl, fun z => absurd (c1.symm.trans z) (by decide)⟩)
abbrev rm_La_redo : Room := { frames := 8, cells := 2, slots := 12, locals := 134 }
set_option maxHeartbeats 4000000 in
set_option maxRecDepth 100000 in
theorem k_La_redo (l : Launch) (hl9 : l.stackTraces = false) (Γ : Gam) (hX : Pic) (ad : Nat → Nat → Nat) (M : Mem) (hC : cr_at Γ ad M hX) (hIv : Ivr M) (ao : Nat) (hao : hX ao = none) (g : Nat → Int64) (s0 : Int32) : kM l Γ y_La_redo w_La_redo rm_La_redo [.ref (ad 0 0), .int s0, .ref ao] (hp_up hX ao (.inl (Γ.2.1 1, 1, .inr (.inl g)))) (lwQ Γ ad ao (sp_redo M s0)) (fun _ _ => False) 2 12 := by
  refine hg_entryH (own := "ModelMergeLaw") (cc := b_La_redo) (maxL := 4) (ret := (some .int)) (hh := [(0, 9, 12, 13), (0, 9, 15, 15)]) (lv0 := [(0, .ref (ad 0 0)), (1, .int s0), (2, .ref ao)]) (by decide) rfl rfl (Nat.le_of_ble_eq_true rfl) rfl ?_
  intro p e s m args below meth c A C ht hr
  have hsub : ∀ q x, hX q = some x → hp_up hX ao (.inl (Γ.2.1 1, 1, .inr (.inl g))) q = some x := fun q x hx => by rw [hp_up_n (fun z => by rw [z, hao] at hx; cases hx)]; exact hx
  have kxo : hX (ad 0 0) = some (.inr (6, [.ref (ad 1 0), .ref (ad 2 0), .int (M 1 0), .ref (ad 3 0), .int (M 9 0), .ref (ad 4 0), .int (M 4 0), .ref (ad 14 (nV M - 1)), .ref (ad 5 0), .int (M 22 0), .ref (ad 6 0), cr_pen ad M])) := hC.1 0 0 (liv0 (by omega))
  refine hg_aload_n C 2 d_La_redo_0 rfl rfl ?_
  refine hg_iconst (v := 0) C d_La_redo_1 (by decide) ?_
  refine hg_aload_n C 0 d_La_redo_2 rfl rfl ?_
  refine hg_iload_n C 1 d_La_redo_3 rfl rfl ?_
  refine hg_VF (q := ("ModelMerge", T_MM, 12)) C hsub (k_MM_redo l hl9 Γ hX ad M hC hIv.1 s0) (cw_La_31 C.2.2.2.2.1 rfl rfl ⟨Nat.le_of_ble_eq_true rfl, Nat.le_of_ble_eq_true rfl⟩) kxo rfl rfl rfl (Nat.le_of_ble_eq_true rfl) d_La_redo_4 ⟨Nat.le_of_ble_eq_true rfl, Nat.le_of_ble_eq_true rfl⟩ (fun r u hq hd => ?_) (fun E u hq hd => ?_)
  · have hua : u ao = none := by
      cases hz : u ao with
      | none => rfl
      | some y =>
        have y9 := hd ao y hz hao
        rw [hp_up_s] at y9
        cases y9
    obtain ⟨rfl, hc0, ad', ha0, hcr⟩ := hq
    refine hg_eq (mrg_up hao hua) ?_
    have ko : hp_up u ao (.inl (Γ.2.1 1, 1, .inr (.inl g))) ao = some (.inl (Γ.2.1 1, 1, .inr (.inl g))) := hp_up_s
    refine hg_i2l C d_La_redo_7 rfl ?_
    refine hg_last C 1 ko rfl (show vp_in (nI 0) 1 from vp_in_nI (by omega) (by omega)) d_La_redo_8 ?_
    obtain ⟨h1, eh1⟩ : ∃ z, z = hp_up (hp_up u ao (.inl (Γ.2.1 1, 1, .inr (.inl g)))) ao (.inl ((Γ.2.1 1), 1, .inr (.inl (vp_updL g ((0 : Int32).toNatClampNeg) (((sp_redo M s0).2.1).toInt64))))) := ⟨_, rfl⟩
    refine hg_eq eh1.symm ?_
    have k2 : h1 ao = some (.inl ((Γ.2.1 1), 1, .inr (.inl (vp_updL g ((0 : Int32).toNatClampNeg) (((sp_redo M s0).2.1).toInt64))))) := by rw [eh1]; exact hp_up_s
    refine hg_goto C 18 d_La_redo_9 (by decide) ?_
    refine hg_iconst (v := 0) C d_La_redo_18 (by decide) ?_
    exact hg_iret C hr rfl d_La_redo_19 (Nat.le_of_ble_eq_true rfl) (Nat.le_of_ble_eq_true rfl) (⟨by rw [hc0], u, ad', _, ha0, hcr, hua, by rw [eh1, hp_up_up], fun _ => updL_0⟩)
  · have hua : u ao = none := by
      cases hz : u ao with
      | none => rfl
      | some y =>
        have y9 := hd ao y hz hao
        rw [hp_up_s] at y9
        cases y9
    rw [mrg_up hao hua]
    obtain ⟨hE, hcr⟩ := hq
    rcases hE with ⟨rfl, c1⟩ | ⟨rfl, c1⟩
    · refine hg_catch (hpc := 12) C [] ⟨0, 9, 12, 13⟩ [⟨0, 9, 15, 15⟩] ht (fun z hz => by cases hz) (by decide) (by decide) (C.2.2.2.2.1 _ (kc kw122)) (va_Nw.use rfl (C.2.2.2.2.2.2.1.2.2.2.2.1 (Cond.castable "java/lang/IllegalArgumentException" "java/lang/IllegalArgumentException") (by decide +kernel)).2) rfl (fun q => ?_)
      refine hg_astore_n (lv' := [(3, .ref q), (0, .ref (ad 0 0)), (1, .int s0), (2, .ref ao)]) C d_La_redo_12 rfl (by decide) rfl ?_
      refine hg_iconst (v := 1) C d_La_redo_13 (by decide) ?_
      exact hg_iret C hr rfl d_La_redo_14 (Nat.le_of_ble_eq_true rfl) (Nat.le_of_ble_eq_true rfl) (⟨by rw [c1], u, ad, g, rfl, hcr, hua, rfl, fun z => absurd (c1.symm.trans z) (by decide)⟩)
    · refine hg_catch (hpc := 15) C [⟨0, 9, 12, 13⟩] ⟨0, 9, 15, 15⟩ [] ht (fun z hz => Or.inr (by rw [List.mem_singleton.mp hz]; exact ⟨by decide, "java/lang/IllegalArgumentException", (C.2.2.2.2.1 _ (kc kw122)), C.2.2.2.2.2.2.1.2.2.2.2.2⟩)) (by decide) (by decide) (C.2.2.2.2.1 _ (kc kw123)) (va_Nw.use rfl (C.2.2.2.2.2.2.1.2.2.2.2.1 (Cond.castable "java/lang/IllegalStateException" "java/lang/IllegalStateException") (by decide +kernel)).2) rfl (fun q => ?_)
      refine hg_astore_n (lv' := [(3, .ref q), (0, .ref (ad 0 0)), (1, .int s0), (2, .ref ao)]) C d_La_redo_15 rfl (by decide) rfl ?_
      refine hg_iconst (v := 2) C d_La_redo_16 (by decide) ?_
      exact hg_iret C hr rfl d_La_redo_17 (Nat.le_of_ble_eq_true rfl) (Nat.le_of_ble_eq_true rfl) (⟨by rw [c1], u, ad, g, rfl, hcr, hua, rfl, fun z => absurd (c1.symm.trans z) (by decide)⟩)
abbrev rm_La_lock : Room := { frames := 8, cells := 2, slots := 12, locals := 134 }
set_option maxHeartbeats 4000000 in
set_option maxRecDepth 100000 in
theorem k_La_lock (l : Launch) (hl9 : l.stackTraces = false) (Γ : Gam) (hX : Pic) (ad : Nat → Nat → Nat) (M : Mem) (hC : cr_at Γ ad M hX) (hIv : Ivr M) (ao : Nat) (hao : hX ao = none) (g : Nat → Int64) (t0 pq : Int32) : kM l Γ y_La_lock w_La_lock rm_La_lock [.ref (ad 0 0), .int t0, .int pq, .ref ao] (hp_up hX ao (.inl (Γ.2.1 1, 1, .inr (.inl g)))) (lwQ Γ ad ao (sp_lock M t0 pq)) (fun _ _ => False) 2 12 := by
  refine hg_entryH (own := "ModelMergeLaw") (cc := b_La_lock) (maxL := 5) (ret := (some .int)) (hh := [(0, 10, 13, 13)]) (lv0 := [(0, .ref (ad 0 0)), (1, .int t0), (2, .int pq), (3, .ref ao)]) (by decide) rfl rfl (Nat.le_of_ble_eq_true rfl) rfl ?_
  intro p e s m args below meth c A C ht hr
  have hsub : ∀ q x, hX q = some x → hp_up hX ao (.inl (Γ.2.1 1, 1, .inr (.inl g))) q = some x := fun q x hx => by rw [hp_up_n (fun z => by rw [z, hao] at hx; cases hx)]; exact hx
  have kxo : hX (ad 0 0) = some (.inr (6, [.ref (ad 1 0), .ref (ad 2 0), .int (M 1 0), .ref (ad 3 0), .int (M 9 0), .ref (ad 4 0), .int (M 4 0), .ref (ad 14 (nV M - 1)), .ref (ad 5 0), .int (M 22 0), .ref (ad 6 0), cr_pen ad M])) := hC.1 0 0 (liv0 (by omega))
  refine hg_aload_n C 3 d_La_lock_0 rfl rfl ?_
  refine hg_iconst (v := 0) C d_La_lock_1 (by decide) ?_
  refine hg_aload_n C 0 d_La_lock_2 rfl rfl ?_
  refine hg_iload_n C 1 d_La_lock_3 rfl rfl ?_
  refine hg_iload_n C 2 d_La_lock_4 rfl rfl ?_
  refine hg_VF (q := ("ModelMerge", T_MM, 12)) C hsub (k_MM_lock l hl9 Γ hX ad M hC hIv.1 t0 pq) (cw_La_34 C.2.2.2.2.1 rfl rfl ⟨Nat.le_of_ble_eq_true rfl, Nat.le_of_ble_eq_true rfl⟩) kxo rfl rfl rfl (Nat.le_of_ble_eq_true rfl) d_La_lock_5 ⟨Nat.le_of_ble_eq_true rfl, Nat.le_of_ble_eq_true rfl⟩ (fun r u hq hd => ?_) (fun E u hq hd => ?_)
  · have hua : u ao = none := by
      cases hz : u ao with
      | none => rfl
      | some y =>
        have y9 := hd ao y hz hao
        rw [hp_up_s] at y9
        cases y9
    obtain ⟨rfl, hc0, ad', ha0, hcr⟩ := hq
    refine hg_eq (mrg_up hao hua) ?_
    have ko : hp_up u ao (.inl (Γ.2.1 1, 1, .inr (.inl g))) ao = some (.inl (Γ.2.1 1, 1, .inr (.inl g))) := hp_up_s
    refine hg_i2l C d_La_lock_8 rfl ?_
    refine hg_last C 1 ko rfl (show vp_in (nI 0) 1 from vp_in_nI (by omega) (by omega)) d_La_lock_9 ?_
    obtain ⟨h1, eh1⟩ : ∃ z, z = hp_up (hp_up u ao (.inl (Γ.2.1 1, 1, .inr (.inl g)))) ao (.inl ((Γ.2.1 1), 1, .inr (.inl (vp_updL g ((0 : Int32).toNatClampNeg) (((sp_lock M t0 pq).2.1).toInt64))))) := ⟨_, rfl⟩
    refine hg_eq eh1.symm ?_
    have k2 : h1 ao = some (.inl ((Γ.2.1 1), 1, .inr (.inl (vp_updL g ((0 : Int32).toNatClampNeg) (((sp_lock M t0 pq).2.1).toInt64))))) := by rw [eh1]; exact hp_up_s
    refine hg_goto C 17 d_La_lock_10 (by decide) ?_
    refine hg_iconst (v := 0) C d_La_lock_17 (by decide) ?_
    exact hg_iret C hr rfl d_La_lock_18 (Nat.le_of_ble_eq_true rfl) (Nat.le_of_ble_eq_true rfl) (⟨by rw [hc0], u, ad', _, ha0, hcr, hua, by rw [eh1, hp_up_up], fun _ => updL_0⟩)
  · have hua : u ao = none := by
      cases hz : u ao with
      | none => rfl
      | some y =>
        have y9 := hd ao y hz hao
        rw [hp_up_s] at y9
        cases y9
    rw [mrg_up hao hua]
    obtain ⟨hE, hcr⟩ := hq
    rcases hE with ⟨rfl, c1⟩ | ⟨rfl, c1⟩
    · refine hg_catch (hpc := 13) C [] ⟨0, 10, 13, 13⟩ [] ht (fun z hz => by cases hz) (by decide) (by decide) (C.2.2.2.2.1 _ (kc kw122)) (va_Nw.use rfl (C.2.2.2.2.2.2.1.2.2.2.2.1 (Cond.castable "java/lang/IllegalArgumentException" "java/lang/IllegalArgumentException") (by decide +kernel)).2) rfl (fun q => ?_)
      refine hg_astore (lv' := [(4, .ref q), (0, .ref (ad 0 0)), (1, .int t0), (2, .int pq), (3, .ref ao)]) C d_La_lock_13 (by decide) rfl ?_
      refine hg_iconst (v := 1) C d_La_lock_15 (by decide) ?_
      exact hg_iret C hr rfl d_La_lock_16 (Nat.le_of_ble_eq_true rfl) (Nat.le_of_ble_eq_true rfl) (⟨by rw [c1], u, ad, g, rfl, hcr, hua, rfl, fun z => absurd (c1.symm.trans z) (by decide)⟩)
    · exact absurd c1 gd_n2
abbrev rm_La_rule : Room := { frames := 8, cells := 4, slots := 24, locals := 135 }
set_option maxHeartbeats 4000000 in
set_option maxRecDepth 100000 in
theorem k_La_rule (l : Launch) (hl9 : l.stackTraces = false) (Γ : Gam) (hX : Pic) (ad : Nat → Nat → Nat) (M : Mem) (hC : cr_at Γ ad M hX) (hIv : Ivr M) (ao : Nat) (hao : hX ao = none) (g : Nat → Int64) (k0 f0 g0 : Int32) : kM l Γ y_La_rule w_La_rule rm_La_rule [.ref (ad 0 0), .int k0, .int f0, .int g0, .ref ao] (hp_up hX ao (.inl (Γ.2.1 1, 1, .inr (.inl g)))) (lwQ Γ ad ao (sp_rule M k0 f0 g0)) (fun _ _ => False) 4 24 := by
  refine hg_entryH (own := "ModelMergeLaw") (cc := b_La_rule) (maxL := 6) (ret := (some .int)) (hh := [(0, 12, 15, 13), (0, 12, 19, 15)]) (lv0 := [(0, .ref (ad 0 0)), (1, .int k0), (2, .int f0), (3, .int g0), (4, .ref ao)]) (by decide) rfl rfl (Nat.le_of_ble_eq_true rfl) rfl ?_
  intro p e s m args below meth c A C ht hr
  have hsub : ∀ q x, hX q = some x → hp_up hX ao (.inl (Γ.2.1 1, 1, .inr (.inl g))) q = some x := fun q x hx => by rw [hp_up_n (fun z => by rw [z, hao] at hx; cases hx)]; exact hx
  have kxo : hX (ad 0 0) = some (.inr (6, [.ref (ad 1 0), .ref (ad 2 0), .int (M 1 0), .ref (ad 3 0), .int (M 9 0), .ref (ad 4 0), .int (M 4 0), .ref (ad 14 (nV M - 1)), .ref (ad 5 0), .int (M 22 0), .ref (ad 6 0), cr_pen ad M])) := hC.1 0 0 (liv0 (by omega))
  refine hg_aload C 4 d_La_rule_0 rfl ?_
  refine hg_iconst (v := 0) C d_La_rule_2 (by decide) ?_
  refine hg_aload_n C 0 d_La_rule_3 rfl rfl ?_
  refine hg_iload_n C 1 d_La_rule_4 rfl rfl ?_
  refine hg_iload_n C 2 d_La_rule_5 rfl rfl ?_
  refine hg_iload_n C 3 d_La_rule_6 rfl rfl ?_
  refine hg_VF (q := ("ModelMerge", T_MM, 12)) C hsub (k_MM_rule l hl9 Γ hX ad M hC hIv.1 k0 f0 g0) (cw_La_37 C.2.2.2.2.1 rfl rfl ⟨Nat.le_of_ble_eq_true rfl, Nat.le_of_ble_eq_true rfl⟩) kxo rfl rfl rfl (Nat.le_of_ble_eq_true rfl) d_La_rule_7 ⟨Nat.le_of_ble_eq_true rfl, Nat.le_of_ble_eq_true rfl⟩ (fun r u hq hd => ?_) (fun E u hq hd => ?_)
  · have hua : u ao = none := by
      cases hz : u ao with
      | none => rfl
      | some y =>
        have y9 := hd ao y hz hao
        rw [hp_up_s] at y9
        cases y9
    obtain ⟨rfl, hc0, ad', ha0, hcr⟩ := hq
    refine hg_eq (mrg_up hao hua) ?_
    have ko : hp_up u ao (.inl (Γ.2.1 1, 1, .inr (.inl g))) ao = some (.inl (Γ.2.1 1, 1, .inr (.inl g))) := hp_up_s
    refine hg_i2l C d_La_rule_10 rfl ?_
    refine hg_last C 1 ko rfl (show vp_in (nI 0) 1 from vp_in_nI (by omega) (by omega)) d_La_rule_11 ?_
    obtain ⟨h1, eh1⟩ : ∃ z, z = hp_up (hp_up u ao (.inl (Γ.2.1 1, 1, .inr (.inl g)))) ao (.inl ((Γ.2.1 1), 1, .inr (.inl (vp_updL g ((0 : Int32).toNatClampNeg) (((sp_rule M k0 f0 g0).2.1).toInt64))))) := ⟨_, rfl⟩
    refine hg_eq eh1.symm ?_
    have k2 : h1 ao = some (.inl ((Γ.2.1 1), 1, .inr (.inl (vp_updL g ((0 : Int32).toNatClampNeg) (((sp_rule M k0 f0 g0).2.1).toInt64))))) := by rw [eh1]; exact hp_up_s
    refine hg_goto C 23 d_La_rule_12 (by decide) ?_
    refine hg_iconst (v := 0) C d_La_rule_23 (by decide) ?_
    exact hg_iret C hr rfl d_La_rule_24 (Nat.le_of_ble_eq_true rfl) (Nat.le_of_ble_eq_true rfl) (⟨by rw [hc0], u, ad', _, ha0, hcr, hua, by rw [eh1, hp_up_up], fun _ => updL_0⟩)
  · have hua : u ao = none := by
      cases hz : u ao with
      | none => rfl
      | some y =>
        have y9 := hd ao y hz hao
        rw [hp_up_s] at y9
        cases y9
    rw [mrg_up hao hua]
    obtain ⟨hE, hcr⟩ := hq
    rcases hE with ⟨rfl, c1⟩ | ⟨rfl, c1⟩
    · refine hg_catch (hpc := 15) C [] ⟨0, 12, 15, 13⟩ [⟨0, 12, 19, 15⟩] ht (fun z hz => by cases hz) (by decide) (by decide) (C.2.2.2.2.1 _ (kc kw122)) (va_Nw.use rfl (C.2.2.2.2.2.2.1.2.2.2.2.1 (Cond.castable "java/lang/IllegalArgumentException" "java/lang/IllegalArgumentException") (by decide +kernel)).2) rfl (fun q => ?_)
      refine hg_astore (lv' := [(5, .ref q), (0, .ref (ad 0 0)), (1, .int k0), (2, .int f0), (3, .int g0), (4, .ref ao)]) C d_La_rule_15 (by decide) rfl ?_
      refine hg_iconst (v := 1) C d_La_rule_17 (by decide) ?_
      exact hg_iret C hr rfl d_La_rule_18 (Nat.le_of_ble_eq_true rfl) (Nat.le_of_ble_eq_true rfl) (⟨by rw [c1], u, ad, g, rfl, hcr, hua, rfl, fun z => absurd (c1.symm.trans z) (by decide)⟩)
    · refine hg_catch (hpc := 19) C [⟨0, 12, 15, 13⟩] ⟨0, 12, 19, 15⟩ [] ht (fun z hz => Or.inr (by rw [List.mem_singleton.mp hz]; exact ⟨by decide, "java/lang/IllegalArgumentException", (C.2.2.2.2.1 _ (kc kw122)), C.2.2.2.2.2.2.1.2.2.2.2.2⟩)) (by decide) (by decide) (C.2.2.2.2.1 _ (kc kw123)) (va_Nw.use rfl (C.2.2.2.2.2.2.1.2.2.2.2.1 (Cond.castable "java/lang/IllegalStateException" "java/lang/IllegalStateException") (by decide +kernel)).2) rfl (fun q => ?_)
      refine hg_astore (lv' := [(5, .ref q), (0, .ref (ad 0 0)), (1, .int k0), (2, .int f0), (3, .int g0), (4, .ref ao)]) C d_La_rule_19 (by decide) rfl ?_
      refine hg_iconst (v := 2) C d_La_rule_21 (by decide) ?_
      exact hg_iret C hr rfl d_La_rule_22 (Nat.le_of_ble_eq_true rfl) (Nat.le_of_ble_eq_true rfl) (⟨by rw [c1], u, ad, g, rfl, hcr, hua, rfl, fun z => absurd (c1.symm.trans z) (by decide)⟩)
abbrev rm_La_join : Room := { frames := 8, cells := 6, slots := 677, locals := 185 }
set_option maxHeartbeats 4000000 in
set_option maxRecDepth 100000 in
theorem k_La_join (l : Launch) (hl9 : l.stackTraces = false) (Γ : Gam) (hX : Pic) (ad : Nat → Nat → Nat) (M : Mem) (hC : cr_at Γ ad M hX) (hIv : Ivr M) (ao : Nat) (hao : hX ao = none) (g : Nat → Int64) (s0 : Int32) : kM l Γ y_La_join w_La_join rm_La_join [.ref (ad 0 0), .int s0, .ref ao] (hp_up hX ao (.inl (Γ.2.1 1, 1, .inr (.inl g)))) (lwQ Γ ad ao (sp_join M s0)) (fun _ _ => False) 6 677 := by
  refine hg_entryH (own := "ModelMergeLaw") (cc := b_La_join) (maxL := 4) (ret := (some .int)) (hh := [(0, 9, 12, 13), (0, 9, 15, 15)]) (lv0 := [(0, .ref (ad 0 0)), (1, .int s0), (2, .ref ao)]) (by decide) rfl rfl (Nat.le_of_ble_eq_true rfl) rfl ?_
  intro p e s m args below meth c A C ht hr
  have hsub : ∀ q x, hX q = some x → hp_up hX ao (.inl (Γ.2.1 1, 1, .inr (.inl g))) q = some x := fun q x hx => by rw [hp_up_n (fun z => by rw [z, hao] at hx; cases hx)]; exact hx
  have kxo : hX (ad 0 0) = some (.inr (6, [.ref (ad 1 0), .ref (ad 2 0), .int (M 1 0), .ref (ad 3 0), .int (M 9 0), .ref (ad 4 0), .int (M 4 0), .ref (ad 14 (nV M - 1)), .ref (ad 5 0), .int (M 22 0), .ref (ad 6 0), cr_pen ad M])) := hC.1 0 0 (liv0 (by omega))
  refine hg_aload_n C 2 d_La_join_0 rfl rfl ?_
  refine hg_iconst (v := 0) C d_La_join_1 (by decide) ?_
  refine hg_aload_n C 0 d_La_join_2 rfl rfl ?_
  refine hg_iload_n C 1 d_La_join_3 rfl rfl ?_
  refine hg_VF (q := ("ModelMerge", T_MM, 12)) C hsub (k_MM_join l hl9 Γ hX ad M hC hIv.1 hIv s0) (cw_La_41 C.2.2.2.2.1 rfl rfl ⟨Nat.le_of_ble_eq_true rfl, Nat.le_of_ble_eq_true rfl⟩) kxo rfl rfl rfl (Nat.le_of_ble_eq_true rfl) d_La_join_4 ⟨Nat.le_of_ble_eq_true rfl, Nat.le_of_ble_eq_true rfl⟩ (fun r u hq hd => ?_) (fun E u hq hd => ?_)
  · have hua : u ao = none := by
      cases hz : u ao with
      | none => rfl
      | some y =>
        have y9 := hd ao y hz hao
        rw [hp_up_s] at y9
        cases y9
    obtain ⟨rfl, hc0, ad', ha0, hcr⟩ := hq
    refine hg_eq (mrg_up hao hua) ?_
    have ko : hp_up u ao (.inl (Γ.2.1 1, 1, .inr (.inl g))) ao = some (.inl (Γ.2.1 1, 1, .inr (.inl g))) := hp_up_s
    refine hg_i2l C d_La_join_7 rfl ?_
    refine hg_last C 1 ko rfl (show vp_in (nI 0) 1 from vp_in_nI (by omega) (by omega)) d_La_join_8 ?_
    obtain ⟨h1, eh1⟩ : ∃ z, z = hp_up (hp_up u ao (.inl (Γ.2.1 1, 1, .inr (.inl g)))) ao (.inl ((Γ.2.1 1), 1, .inr (.inl (vp_updL g ((0 : Int32).toNatClampNeg) (((sp_join M s0).2.1).toInt64))))) := ⟨_, rfl⟩
    refine hg_eq eh1.symm ?_
    have k2 : h1 ao = some (.inl ((Γ.2.1 1), 1, .inr (.inl (vp_updL g ((0 : Int32).toNatClampNeg) (((sp_join M s0).2.1).toInt64))))) := by rw [eh1]; exact hp_up_s
    refine hg_goto C 18 d_La_join_9 (by decide) ?_
    refine hg_iconst (v := 0) C d_La_join_18 (by decide) ?_
    exact hg_iret C hr rfl d_La_join_19 (Nat.le_of_ble_eq_true rfl) (Nat.le_of_ble_eq_true rfl) (⟨by rw [hc0], u, ad', _, ha0, hcr, hua, by rw [eh1, hp_up_up], fun _ => updL_0⟩)
  · have hua : u ao = none := by
      cases hz : u ao with
      | none => rfl
      | some y =>
        have y9 := hd ao y hz hao
        rw [hp_up_s] at y9
        cases y9
    rw [mrg_up hao hua]
    obtain ⟨hE, hcr⟩ := hq
    rcases hE with ⟨rfl, c1⟩ | ⟨rfl, c1⟩
    · refine hg_catch (hpc := 12) C [] ⟨0, 9, 12, 13⟩ [⟨0, 9, 15, 15⟩] ht (fun z hz => by cases hz) (by decide) (by decide) (C.2.2.2.2.1 _ (kc kw122)) (va_Nw.use rfl (C.2.2.2.2.2.2.1.2.2.2.2.1 (Cond.castable "java/lang/IllegalArgumentException" "java/lang/IllegalArgumentException") (by decide +kernel)).2) rfl (fun q => ?_)
      refine hg_astore_n (lv' := [(3, .ref q), (0, .ref (ad 0 0)), (1, .int s0), (2, .ref ao)]) C d_La_join_12 rfl (by decide) rfl ?_
      refine hg_iconst (v := 1) C d_La_join_13 (by decide) ?_
      exact hg_iret C hr rfl d_La_join_14 (Nat.le_of_ble_eq_true rfl) (Nat.le_of_ble_eq_true rfl) (⟨by rw [c1], u, ad, g, rfl, hcr, hua, rfl, fun z => absurd (c1.symm.trans z) (by decide)⟩)
    · refine hg_catch (hpc := 15) C [⟨0, 9, 12, 13⟩] ⟨0, 9, 15, 15⟩ [] ht (fun z hz => Or.inr (by rw [List.mem_singleton.mp hz]; exact ⟨by decide, "java/lang/IllegalArgumentException", (C.2.2.2.2.1 _ (kc kw122)), C.2.2.2.2.2.2.1.2.2.2.2.2⟩)) (by decide) (by decide) (C.2.2.2.2.1 _ (kc kw123)) (va_Nw.use rfl (C.2.2.2.2.2.2.1.2.2.2.2.1 (Cond.castable "java/lang/IllegalStateException" "java/lang/IllegalStateException") (by decide +kernel)).2) rfl (fun q => ?_)
      refine hg_astore_n (lv' := [(3, .ref q), (0, .ref (ad 0 0)), (1, .int s0), (2, .ref ao)]) C d_La_join_15 rfl (by decide) rfl ?_
      refine hg_iconst (v := 2) C d_La_join_16 (by decide) ?_
      exact hg_iret C hr rfl d_La_join_17 (Nat.le_of_ble_eq_true rfl) (Nat.le_of_ble_eq_true rfl) (⟨by rw [c1], u, ad, g, rfl, hcr, hua, rfl, fun z => absurd (c1.symm.trans z) (by decide)⟩)
abbrev rm_La_conflict : Room := { frames := 9, cells := 3, slots := 18, locals := 158 }
set_option maxHeartbeats 4000000 in
set_option maxRecDepth 100000 in
theorem k_La_conflict (l : Launch) (hl9 : l.stackTraces = false) (Γ : Gam) (hX : Pic) (ad : Nat → Nat → Nat) (M : Mem) (hC : cr_at Γ ad M hX) (hIv : Ivr M) (ao : Nat) (hao : hX ao = none) (g : Nat → Int64) (k0 w0 : Int32) : kM l Γ y_La_conflict w_La_conflict rm_La_conflict [.ref (ad 0 0), .int k0, .int w0, .ref ao] (hp_up hX ao (.inl (Γ.2.1 1, 1, .inr (.inl g)))) (lwQ Γ ad ao (sp_conflict M k0 w0)) (fun _ _ => False) 3 18 := by
  refine hg_entryH (own := "ModelMergeLaw") (cc := b_La_conflict) (maxL := 5) (ret := (some .int)) (hh := [(0, 10, 13, 13), (0, 10, 17, 15)]) (lv0 := [(0, .ref (ad 0 0)), (1, .int k0), (2, .int w0), (3, .ref ao)]) (by decide) rfl rfl (Nat.le_of_ble_eq_true rfl) rfl ?_
  intro p e s m args below meth c A C ht hr
  have hsub : ∀ q x, hX q = some x → hp_up hX ao (.inl (Γ.2.1 1, 1, .inr (.inl g))) q = some x := fun q x hx => by rw [hp_up_n (fun z => by rw [z, hao] at hx; cases hx)]; exact hx
  have kxo : hX (ad 0 0) = some (.inr (6, [.ref (ad 1 0), .ref (ad 2 0), .int (M 1 0), .ref (ad 3 0), .int (M 9 0), .ref (ad 4 0), .int (M 4 0), .ref (ad 14 (nV M - 1)), .ref (ad 5 0), .int (M 22 0), .ref (ad 6 0), cr_pen ad M])) := hC.1 0 0 (liv0 (by omega))
  refine hg_aload_n C 3 d_La_conflict_0 rfl rfl ?_
  refine hg_iconst (v := 0) C d_La_conflict_1 (by decide) ?_
  refine hg_aload_n C 0 d_La_conflict_2 rfl rfl ?_
  refine hg_iload_n C 1 d_La_conflict_3 rfl rfl ?_
  refine hg_iload_n C 2 d_La_conflict_4 rfl rfl ?_
  refine hg_VF (q := ("ModelMerge", T_MM, 12)) C hsub (k_MM_conflict l hl9 Γ hX ad M hC hIv.1 k0 w0) (cw_La_44 C.2.2.2.2.1 rfl rfl ⟨Nat.le_of_ble_eq_true rfl, Nat.le_of_ble_eq_true rfl⟩) kxo rfl rfl rfl (Nat.le_of_ble_eq_true rfl) d_La_conflict_5 ⟨Nat.le_of_ble_eq_true rfl, Nat.le_of_ble_eq_true rfl⟩ (fun r u hq hd => ?_) (fun E u hq hd => ?_)
  · have hua : u ao = none := by
      cases hz : u ao with
      | none => rfl
      | some y =>
        have y9 := hd ao y hz hao
        rw [hp_up_s] at y9
        cases y9
    obtain ⟨rfl, hc0, ad', ha0, hcr⟩ := hq
    refine hg_eq (mrg_up hao hua) ?_
    have ko : hp_up u ao (.inl (Γ.2.1 1, 1, .inr (.inl g))) ao = some (.inl (Γ.2.1 1, 1, .inr (.inl g))) := hp_up_s
    refine hg_i2l C d_La_conflict_8 rfl ?_
    refine hg_last C 1 ko rfl (show vp_in (nI 0) 1 from vp_in_nI (by omega) (by omega)) d_La_conflict_9 ?_
    obtain ⟨h1, eh1⟩ : ∃ z, z = hp_up (hp_up u ao (.inl (Γ.2.1 1, 1, .inr (.inl g)))) ao (.inl ((Γ.2.1 1), 1, .inr (.inl (vp_updL g ((0 : Int32).toNatClampNeg) (((sp_conflict M k0 w0).2.1).toInt64))))) := ⟨_, rfl⟩
    refine hg_eq eh1.symm ?_
    have k2 : h1 ao = some (.inl ((Γ.2.1 1), 1, .inr (.inl (vp_updL g ((0 : Int32).toNatClampNeg) (((sp_conflict M k0 w0).2.1).toInt64))))) := by rw [eh1]; exact hp_up_s
    refine hg_goto C 21 d_La_conflict_10 (by decide) ?_
    refine hg_iconst (v := 0) C d_La_conflict_21 (by decide) ?_
    exact hg_iret C hr rfl d_La_conflict_22 (Nat.le_of_ble_eq_true rfl) (Nat.le_of_ble_eq_true rfl) (⟨by rw [hc0], u, ad', _, ha0, hcr, hua, by rw [eh1, hp_up_up], fun _ => updL_0⟩)
  · have hua : u ao = none := by
      cases hz : u ao with
      | none => rfl
      | some y =>
        have y9 := hd ao y hz hao
        rw [hp_up_s] at y9
        cases y9
    rw [mrg_up hao hua]
    obtain ⟨hE, hcr⟩ := hq
    rcases hE with ⟨rfl, c1⟩ | ⟨rfl, c1⟩
    · refine hg_catch (hpc := 13) C [] ⟨0, 10, 13, 13⟩ [⟨0, 10, 17, 15⟩] ht (fun z hz => by cases hz) (by decide) (by decide) (C.2.2.2.2.1 _ (kc kw122)) (va_Nw.use rfl (C.2.2.2.2.2.2.1.2.2.2.2.1 (Cond.castable "java/lang/IllegalArgumentException" "java/lang/IllegalArgumentException") (by decide +kernel)).2) rfl (fun q => ?_)
      refine hg_astore (lv' := [(4, .ref q), (0, .ref (ad 0 0)), (1, .int k0), (2, .int w0), (3, .ref ao)]) C d_La_conflict_13 (by decide) rfl ?_
      refine hg_iconst (v := 1) C d_La_conflict_15 (by decide) ?_
      exact hg_iret C hr rfl d_La_conflict_16 (Nat.le_of_ble_eq_true rfl) (Nat.le_of_ble_eq_true rfl) (⟨by rw [c1], u, ad, g, rfl, hcr, hua, rfl, fun z => absurd (c1.symm.trans z) (by decide)⟩)
    · refine hg_catch (hpc := 17) C [⟨0, 10, 13, 13⟩] ⟨0, 10, 17, 15⟩ [] ht (fun z hz => Or.inr (by rw [List.mem_singleton.mp hz]; exact ⟨by decide, "java/lang/IllegalArgumentException", (C.2.2.2.2.1 _ (kc kw122)), C.2.2.2.2.2.2.1.2.2.2.2.2⟩)) (by decide) (by decide) (C.2.2.2.2.1 _ (kc kw123)) (va_Nw.use rfl (C.2.2.2.2.2.2.1.2.2.2.2.1 (Cond.castable "java/lang/IllegalStateException" "java/lang/IllegalStateException") (by decide +kernel)).2) rfl (fun q => ?_)
      refine hg_astore (lv' := [(4, .ref q), (0, .ref (ad 0 0)), (1, .int k0), (2, .int w0), (3, .ref ao)]) C d_La_conflict_17 (by decide) rfl ?_
      refine hg_iconst (v := 2) C d_La_conflict_19 (by decide) ?_
      exact hg_iret C hr rfl d_La_conflict_20 (Nat.le_of_ble_eq_true rfl) (Nat.le_of_ble_eq_true rfl) (⟨by rw [c1], u, ad, g, rfl, hcr, hua, rfl, fun z => absurd (c1.symm.trans z) (by decide)⟩)
abbrev rm_La_settle : Room := { frames := 9, cells := 7, slots := 683, locals := 187 }
set_option maxHeartbeats 4000000 in
set_option maxRecDepth 100000 in
theorem k_La_settle (l : Launch) (hl9 : l.stackTraces = false) (Γ : Gam) (hX : Pic) (ad : Nat → Nat → Nat) (M : Mem) (hC : cr_at Γ ad M hX) (hIv : Ivr M) (ao : Nat) (hao : hX ao = none) (g : Nat → Int64) (k0 v0 : Int32) : kM l Γ y_La_settle w_La_settle rm_La_settle [.ref (ad 0 0), .int k0, .int v0, .ref ao] (hp_up hX ao (.inl (Γ.2.1 1, 1, .inr (.inl g)))) (lwQ Γ ad ao (sp_settle M k0 v0)) (fun _ _ => False) 7 683 := by
  refine hg_entryH (own := "ModelMergeLaw") (cc := b_La_settle) (maxL := 5) (ret := (some .int)) (hh := [(0, 10, 13, 13), (0, 10, 17, 15)]) (lv0 := [(0, .ref (ad 0 0)), (1, .int k0), (2, .int v0), (3, .ref ao)]) (by decide) rfl rfl (Nat.le_of_ble_eq_true rfl) rfl ?_
  intro p e s m args below meth c A C ht hr
  have hsub : ∀ q x, hX q = some x → hp_up hX ao (.inl (Γ.2.1 1, 1, .inr (.inl g))) q = some x := fun q x hx => by rw [hp_up_n (fun z => by rw [z, hao] at hx; cases hx)]; exact hx
  have kxo : hX (ad 0 0) = some (.inr (6, [.ref (ad 1 0), .ref (ad 2 0), .int (M 1 0), .ref (ad 3 0), .int (M 9 0), .ref (ad 4 0), .int (M 4 0), .ref (ad 14 (nV M - 1)), .ref (ad 5 0), .int (M 22 0), .ref (ad 6 0), cr_pen ad M])) := hC.1 0 0 (liv0 (by omega))
  refine hg_aload_n C 3 d_La_settle_0 rfl rfl ?_
  refine hg_iconst (v := 0) C d_La_settle_1 (by decide) ?_
  refine hg_aload_n C 0 d_La_settle_2 rfl rfl ?_
  refine hg_iload_n C 1 d_La_settle_3 rfl rfl ?_
  refine hg_iload_n C 2 d_La_settle_4 rfl rfl ?_
  refine hg_VF (q := ("ModelMerge", T_MM, 12)) C hsub (k_MM_settle l hl9 Γ hX ad M hC hIv.1 hIv k0 v0) (cw_La_47 C.2.2.2.2.1 rfl rfl ⟨Nat.le_of_ble_eq_true rfl, Nat.le_of_ble_eq_true rfl⟩) kxo rfl rfl rfl (Nat.le_of_ble_eq_true rfl) d_La_settle_5 ⟨Nat.le_of_ble_eq_true rfl, Nat.le_of_ble_eq_true rfl⟩ (fun r u hq hd => ?_) (fun E u hq hd => ?_)
  · have hua : u ao = none := by
      cases hz : u ao with
      | none => rfl
      | some y =>
        have y9 := hd ao y hz hao
        rw [hp_up_s] at y9
        cases y9
    obtain ⟨rfl, hc0, ad', ha0, hcr⟩ := hq
    refine hg_eq (mrg_up hao hua) ?_
    have ko : hp_up u ao (.inl (Γ.2.1 1, 1, .inr (.inl g))) ao = some (.inl (Γ.2.1 1, 1, .inr (.inl g))) := hp_up_s
    refine hg_i2l C d_La_settle_8 rfl ?_
    refine hg_last C 1 ko rfl (show vp_in (nI 0) 1 from vp_in_nI (by omega) (by omega)) d_La_settle_9 ?_
    obtain ⟨h1, eh1⟩ : ∃ z, z = hp_up (hp_up u ao (.inl (Γ.2.1 1, 1, .inr (.inl g)))) ao (.inl ((Γ.2.1 1), 1, .inr (.inl (vp_updL g ((0 : Int32).toNatClampNeg) (((sp_settle M k0 v0).2.1).toInt64))))) := ⟨_, rfl⟩
    refine hg_eq eh1.symm ?_
    have k2 : h1 ao = some (.inl ((Γ.2.1 1), 1, .inr (.inl (vp_updL g ((0 : Int32).toNatClampNeg) (((sp_settle M k0 v0).2.1).toInt64))))) := by rw [eh1]; exact hp_up_s
    refine hg_goto C 21 d_La_settle_10 (by decide) ?_
    refine hg_iconst (v := 0) C d_La_settle_21 (by decide) ?_
    exact hg_iret C hr rfl d_La_settle_22 (Nat.le_of_ble_eq_true rfl) (Nat.le_of_ble_eq_true rfl) (⟨by rw [hc0], u, ad', _, ha0, hcr, hua, by rw [eh1, hp_up_up], fun _ => updL_0⟩)
  · have hua : u ao = none := by
      cases hz : u ao with
      | none => rfl
      | some y =>
        have y9 := hd ao y hz hao
        rw [hp_up_s] at y9
        cases y9
    rw [mrg_up hao hua]
    obtain ⟨hE, hcr⟩ := hq
    rcases hE with ⟨rfl, c1⟩ | ⟨rfl, c1⟩
    · refine hg_catch (hpc := 13) C [] ⟨0, 10, 13, 13⟩ [⟨0, 10, 17, 15⟩] ht (fun z hz => by cases hz) (by decide) (by decide) (C.2.2.2.2.1 _ (kc kw122)) (va_Nw.use rfl (C.2.2.2.2.2.2.1.2.2.2.2.1 (Cond.castable "java/lang/IllegalArgumentException" "java/lang/IllegalArgumentException") (by decide +kernel)).2) rfl (fun q => ?_)
      refine hg_astore (lv' := [(4, .ref q), (0, .ref (ad 0 0)), (1, .int k0), (2, .int v0), (3, .ref ao)]) C d_La_settle_13 (by decide) rfl ?_
      refine hg_iconst (v := 1) C d_La_settle_15 (by decide) ?_
      exact hg_iret C hr rfl d_La_settle_16 (Nat.le_of_ble_eq_true rfl) (Nat.le_of_ble_eq_true rfl) (⟨by rw [c1], u, ad, g, rfl, hcr, hua, rfl, fun z => absurd (c1.symm.trans z) (by decide)⟩)
    · refine hg_catch (hpc := 17) C [⟨0, 10, 13, 13⟩] ⟨0, 10, 17, 15⟩ [] ht (fun z hz => Or.inr (by rw [List.mem_singleton.mp hz]; exact ⟨by decide, "java/lang/IllegalArgumentException", (C.2.2.2.2.1 _ (kc kw122)), C.2.2.2.2.2.2.1.2.2.2.2.2⟩)) (by decide) (by decide) (C.2.2.2.2.1 _ (kc kw123)) (va_Nw.use rfl (C.2.2.2.2.2.2.1.2.2.2.2.1 (Cond.castable "java/lang/IllegalStateException" "java/lang/IllegalStateException") (by decide +kernel)).2) rfl (fun q => ?_)
      refine hg_astore (lv' := [(4, .ref q), (0, .ref (ad 0 0)), (1, .int k0), (2, .int v0), (3, .ref ao)]) C d_La_settle_17 (by decide) rfl ?_
      refine hg_iconst (v := 2) C d_La_settle_19 (by decide) ?_
      exact hg_iret C hr rfl d_La_settle_20 (Nat.le_of_ble_eq_true rfl) (Nat.le_of_ble_eq_true rfl) (⟨by rw [c1], u, ad, g, rfl, hcr, hua, rfl, fun z => absurd (c1.symm.trans z) (by decide)⟩)
abbrev rm_La_giveUp : Room := { frames := 7, cells := 1, slots := 6, locals := 111 }
set_option maxHeartbeats 4000000 in
set_option maxRecDepth 100000 in
theorem k_La_giveUp (l : Launch) (hl9 : l.stackTraces = false) (Γ : Gam) (hX : Pic) (ad : Nat → Nat → Nat) (M : Mem) (hC : cr_at Γ ad M hX) (hIv : Ivr M) (ao : Nat) (hao : hX ao = none) (g : Nat → Int64) : kM l Γ y_La_giveUp w_La_giveUp rm_La_giveUp [.ref (ad 0 0), .ref ao] (hp_up hX ao (.inl (Γ.2.1 1, 1, .inr (.inl g)))) (lwQ Γ ad ao (sp_giveUp M)) (fun _ _ => False) 1 6 := by
  refine hg_entryH (own := "ModelMergeLaw") (cc := b_La_giveUp) (maxL := 3) (ret := (some .int)) (hh := [(0, 8, 11, 15)]) (lv0 := [(0, .ref (ad 0 0)), (1, .ref ao)]) (by decide) rfl rfl (Nat.le_of_ble_eq_true rfl) rfl ?_
  intro p e s m args below meth c A C ht hr
  have hsub : ∀ q x, hX q = some x → hp_up hX ao (.inl (Γ.2.1 1, 1, .inr (.inl g))) q = some x := fun q x hx => by rw [hp_up_n (fun z => by rw [z, hao] at hx; cases hx)]; exact hx
  have kxo : hX (ad 0 0) = some (.inr (6, [.ref (ad 1 0), .ref (ad 2 0), .int (M 1 0), .ref (ad 3 0), .int (M 9 0), .ref (ad 4 0), .int (M 4 0), .ref (ad 14 (nV M - 1)), .ref (ad 5 0), .int (M 22 0), .ref (ad 6 0), cr_pen ad M])) := hC.1 0 0 (liv0 (by omega))
  refine hg_aload_n C 1 d_La_giveUp_0 rfl rfl ?_
  refine hg_iconst (v := 0) C d_La_giveUp_1 (by decide) ?_
  refine hg_aload_n C 0 d_La_giveUp_2 rfl rfl ?_
  refine hg_VF (q := ("ModelMerge", T_MM, 12)) C hsub (k_MM_giveUp l hl9 Γ hX ad M hC hIv.1) (cw_La_50 C.2.2.2.2.1 rfl rfl ⟨Nat.le_of_ble_eq_true rfl, Nat.le_of_ble_eq_true rfl⟩) kxo rfl rfl rfl (Nat.le_of_ble_eq_true rfl) d_La_giveUp_3 ⟨Nat.le_of_ble_eq_true rfl, Nat.le_of_ble_eq_true rfl⟩ (fun r u hq hd => ?_) (fun E u hq hd => ?_)
  · have hua : u ao = none := by
      cases hz : u ao with
      | none => rfl
      | some y =>
        have y9 := hd ao y hz hao
        rw [hp_up_s] at y9
        cases y9
    obtain ⟨rfl, hc0, ad', ha0, hcr⟩ := hq
    refine hg_eq (mrg_up hao hua) ?_
    have ko : hp_up u ao (.inl (Γ.2.1 1, 1, .inr (.inl g))) ao = some (.inl (Γ.2.1 1, 1, .inr (.inl g))) := hp_up_s
    refine hg_i2l C d_La_giveUp_6 rfl ?_
    refine hg_last C 1 ko rfl (show vp_in (nI 0) 1 from vp_in_nI (by omega) (by omega)) d_La_giveUp_7 ?_
    obtain ⟨h1, eh1⟩ : ∃ z, z = hp_up (hp_up u ao (.inl (Γ.2.1 1, 1, .inr (.inl g)))) ao (.inl ((Γ.2.1 1), 1, .inr (.inl (vp_updL g ((0 : Int32).toNatClampNeg) (((sp_giveUp M).2.1).toInt64))))) := ⟨_, rfl⟩
    refine hg_eq eh1.symm ?_
    have k2 : h1 ao = some (.inl ((Γ.2.1 1), 1, .inr (.inl (vp_updL g ((0 : Int32).toNatClampNeg) (((sp_giveUp M).2.1).toInt64))))) := by rw [eh1]; exact hp_up_s
    refine hg_goto C 14 d_La_giveUp_8 (by decide) ?_
    refine hg_iconst (v := 0) C d_La_giveUp_14 (by decide) ?_
    exact hg_iret C hr rfl d_La_giveUp_15 (Nat.le_of_ble_eq_true rfl) (Nat.le_of_ble_eq_true rfl) (⟨by rw [hc0], u, ad', _, ha0, hcr, hua, by rw [eh1, hp_up_up], fun _ => updL_0⟩)
  · have hua : u ao = none := by
      cases hz : u ao with
      | none => rfl
      | some y =>
        have y9 := hd ao y hz hao
        rw [hp_up_s] at y9
        cases y9
    rw [mrg_up hao hua]
    obtain ⟨rfl, c1, hcr⟩ := hq
    refine hg_catch (hpc := 11) C [] ⟨0, 8, 11, 15⟩ [] ht (fun z hz => by cases hz) (by decide) (by decide) (C.2.2.2.2.1 _ (kc kw123)) (va_Nw.use rfl (C.2.2.2.2.2.2.1.2.2.2.2.1 (Cond.castable "java/lang/IllegalStateException" "java/lang/IllegalStateException") (by decide +kernel)).2) rfl (fun q => ?_)
    refine hg_astore_n (lv' := [(2, .ref q), (0, .ref (ad 0 0)), (1, .ref ao)]) C d_La_giveUp_11 rfl (by decide) rfl ?_
    refine hg_iconst (v := 1) C d_La_giveUp_12 (by decide) ?_
    exact hg_iret C hr rfl d_La_giveUp_13 (Nat.le_of_ble_eq_true rfl) (Nat.le_of_ble_eq_true rfl) (⟨by rw [c1], u, ad, g, rfl, hcr, hua, rfl, fun z => absurd (c1.symm.trans z) (by decide)⟩)
abbrev rm_La_here : Room := { frames := 8, cells := 2, slots := 12, locals := 135 }
set_option maxHeartbeats 4000000 in
set_option maxRecDepth 100000 in
theorem k_La_here (l : Launch) (hl9 : l.stackTraces = false) (Γ : Gam) (hX : Pic) (ad : Nat → Nat → Nat) (M : Mem) (hC : cr_at Γ ad M hX) (hIv : Ivr M) (ao : Nat) (hao : hX ao = none) (g : Nat → Int64) (s0 t0 : Int32) : kM l Γ y_La_here w_La_here rm_La_here [.ref (ad 0 0), .int s0, .int t0, .ref ao] (hp_up hX ao (.inl (Γ.2.1 1, 1, .inr (.inl g)))) (lwQ Γ ad ao (sp_here M s0 t0)) (fun _ _ => False) 2 12 := by
  refine hg_entryH (own := "ModelMergeLaw") (cc := b_La_here) (maxL := 5) (ret := (some .int)) (hh := [(0, 10, 13, 13)]) (lv0 := [(0, .ref (ad 0 0)), (1, .int s0), (2, .int t0), (3, .ref ao)]) (by decide) rfl rfl (Nat.le_of_ble_eq_true rfl) rfl ?_
  intro p e s m args below meth c A C ht hr
  have hsub : ∀ q x, hX q = some x → hp_up hX ao (.inl (Γ.2.1 1, 1, .inr (.inl g))) q = some x := fun q x hx => by rw [hp_up_n (fun z => by rw [z, hao] at hx; cases hx)]; exact hx
  have kxo : hX (ad 0 0) = some (.inr (6, [.ref (ad 1 0), .ref (ad 2 0), .int (M 1 0), .ref (ad 3 0), .int (M 9 0), .ref (ad 4 0), .int (M 4 0), .ref (ad 14 (nV M - 1)), .ref (ad 5 0), .int (M 22 0), .ref (ad 6 0), cr_pen ad M])) := hC.1 0 0 (liv0 (by omega))
  refine hg_aload_n C 3 d_La_here_0 rfl rfl ?_
  refine hg_iconst (v := 0) C d_La_here_1 (by decide) ?_
  refine hg_aload_n C 0 d_La_here_2 rfl rfl ?_
  refine hg_iload_n C 1 d_La_here_3 rfl rfl ?_
  refine hg_iload_n C 2 d_La_here_4 rfl rfl ?_
  refine hg_VF (q := ("ModelMerge", T_MM, 12)) C hsub (k_MM_here l hl9 Γ hX ad M hC hIv.1 s0 t0) (cw_La_54 C.2.2.2.2.1 rfl rfl ⟨Nat.le_of_ble_eq_true rfl, Nat.le_of_ble_eq_true rfl⟩) kxo rfl rfl rfl (Nat.le_of_ble_eq_true rfl) d_La_here_5 ⟨Nat.le_of_ble_eq_true rfl, Nat.le_of_ble_eq_true rfl⟩ (fun r u hq hd => ?_) (fun E u hq hd => ?_)
  · have hua : u ao = none := by
      cases hz : u ao with
      | none => rfl
      | some y =>
        have y9 := hd ao y hz hao
        rw [hp_up_s] at y9
        cases y9
    obtain ⟨rfl, hc0, ad', ha0, hcr⟩ := hq
    refine hg_eq (mrg_up hao hua) ?_
    have ko : hp_up u ao (.inl (Γ.2.1 1, 1, .inr (.inl g))) ao = some (.inl (Γ.2.1 1, 1, .inr (.inl g))) := hp_up_s
    refine hg_i2l C d_La_here_8 rfl ?_
    refine hg_last C 1 ko rfl (show vp_in (nI 0) 1 from vp_in_nI (by omega) (by omega)) d_La_here_9 ?_
    obtain ⟨h1, eh1⟩ : ∃ z, z = hp_up (hp_up u ao (.inl (Γ.2.1 1, 1, .inr (.inl g)))) ao (.inl ((Γ.2.1 1), 1, .inr (.inl (vp_updL g ((0 : Int32).toNatClampNeg) (((sp_here M s0 t0).2.1).toInt64))))) := ⟨_, rfl⟩
    refine hg_eq eh1.symm ?_
    have k2 : h1 ao = some (.inl ((Γ.2.1 1), 1, .inr (.inl (vp_updL g ((0 : Int32).toNatClampNeg) (((sp_here M s0 t0).2.1).toInt64))))) := by rw [eh1]; exact hp_up_s
    refine hg_goto C 17 d_La_here_10 (by decide) ?_
    refine hg_iconst (v := 0) C d_La_here_17 (by decide) ?_
    exact hg_iret C hr rfl d_La_here_18 (Nat.le_of_ble_eq_true rfl) (Nat.le_of_ble_eq_true rfl) (⟨by rw [hc0], u, ad', _, ha0, hcr, hua, by rw [eh1, hp_up_up], fun _ => updL_0⟩)
  · have hua : u ao = none := by
      cases hz : u ao with
      | none => rfl
      | some y =>
        have y9 := hd ao y hz hao
        rw [hp_up_s] at y9
        cases y9
    rw [mrg_up hao hua]
    obtain ⟨hE, hcr⟩ := hq
    rcases hE with ⟨rfl, c1⟩ | ⟨rfl, c1⟩
    · refine hg_catch (hpc := 13) C [] ⟨0, 10, 13, 13⟩ [] ht (fun z hz => by cases hz) (by decide) (by decide) (C.2.2.2.2.1 _ (kc kw122)) (va_Nw.use rfl (C.2.2.2.2.2.2.1.2.2.2.2.1 (Cond.castable "java/lang/IllegalArgumentException" "java/lang/IllegalArgumentException") (by decide +kernel)).2) rfl (fun q => ?_)
      refine hg_astore (lv' := [(4, .ref q), (0, .ref (ad 0 0)), (1, .int s0), (2, .int t0), (3, .ref ao)]) C d_La_here_13 (by decide) rfl ?_
      refine hg_iconst (v := 1) C d_La_here_15 (by decide) ?_
      exact hg_iret C hr rfl d_La_here_16 (Nat.le_of_ble_eq_true rfl) (Nat.le_of_ble_eq_true rfl) (⟨by rw [c1], u, ad, g, rfl, hcr, hua, rfl, fun z => absurd (c1.symm.trans z) (by decide)⟩)
    · exact absurd c1 gd_n2
abbrev rm_La_now : Room := { frames := 9, cells := 4, slots := 24, locals := 158 }
set_option maxHeartbeats 4000000 in
set_option maxRecDepth 100000 in
theorem k_La_now (l : Launch) (hl9 : l.stackTraces = false) (Γ : Gam) (hX : Pic) (ad : Nat → Nat → Nat) (M : Mem) (hC : cr_at Γ ad M hX) (hIv : Ivr M) (ao : Nat) (hao : hX ao = none) (g : Nat → Int64) (s0 t0 f0 : Int32) : kM l Γ y_La_now w_La_now rm_La_now [.ref (ad 0 0), .int s0, .int t0, .int f0, .ref ao] (hp_up hX ao (.inl (Γ.2.1 1, 1, .inr (.inl g)))) (lwQ Γ ad ao (sp_now M s0 t0 f0)) (fun _ _ => False) 4 24 := by
  refine hg_entryH (own := "ModelMergeLaw") (cc := b_La_now) (maxL := 6) (ret := (some .int)) (hh := [(0, 12, 15, 13)]) (lv0 := [(0, .ref (ad 0 0)), (1, .int s0), (2, .int t0), (3, .int f0), (4, .ref ao)]) (by decide) rfl rfl (Nat.le_of_ble_eq_true rfl) rfl ?_
  intro p e s m args below meth c A C ht hr
  have hsub : ∀ q x, hX q = some x → hp_up hX ao (.inl (Γ.2.1 1, 1, .inr (.inl g))) q = some x := fun q x hx => by rw [hp_up_n (fun z => by rw [z, hao] at hx; cases hx)]; exact hx
  have kxo : hX (ad 0 0) = some (.inr (6, [.ref (ad 1 0), .ref (ad 2 0), .int (M 1 0), .ref (ad 3 0), .int (M 9 0), .ref (ad 4 0), .int (M 4 0), .ref (ad 14 (nV M - 1)), .ref (ad 5 0), .int (M 22 0), .ref (ad 6 0), cr_pen ad M])) := hC.1 0 0 (liv0 (by omega))
  refine hg_aload C 4 d_La_now_0 rfl ?_
  refine hg_iconst (v := 0) C d_La_now_2 (by decide) ?_
  refine hg_aload_n C 0 d_La_now_3 rfl rfl ?_
  refine hg_iload_n C 1 d_La_now_4 rfl rfl ?_
  refine hg_iload_n C 2 d_La_now_5 rfl rfl ?_
  refine hg_iload_n C 3 d_La_now_6 rfl rfl ?_
  refine hg_VF (q := ("ModelMerge", T_MM, 12)) C hsub (k_MM_now l hl9 Γ hX ad M hC hIv.1 s0 t0 f0) (cw_La_57 C.2.2.2.2.1 rfl rfl ⟨Nat.le_of_ble_eq_true rfl, Nat.le_of_ble_eq_true rfl⟩) kxo rfl rfl rfl (Nat.le_of_ble_eq_true rfl) d_La_now_7 ⟨Nat.le_of_ble_eq_true rfl, Nat.le_of_ble_eq_true rfl⟩ (fun r u hq hd => ?_) (fun E u hq hd => ?_)
  · have hua : u ao = none := by
      cases hz : u ao with
      | none => rfl
      | some y =>
        have y9 := hd ao y hz hao
        rw [hp_up_s] at y9
        cases y9
    obtain ⟨rfl, hc0, ad', ha0, hcr⟩ := hq
    refine hg_eq (mrg_up hao hua) ?_
    have ko : hp_up u ao (.inl (Γ.2.1 1, 1, .inr (.inl g))) ao = some (.inl (Γ.2.1 1, 1, .inr (.inl g))) := hp_up_s
    refine hg_i2l C d_La_now_10 rfl ?_
    refine hg_last C 1 ko rfl (show vp_in (nI 0) 1 from vp_in_nI (by omega) (by omega)) d_La_now_11 ?_
    obtain ⟨h1, eh1⟩ : ∃ z, z = hp_up (hp_up u ao (.inl (Γ.2.1 1, 1, .inr (.inl g)))) ao (.inl ((Γ.2.1 1), 1, .inr (.inl (vp_updL g ((0 : Int32).toNatClampNeg) (((sp_now M s0 t0 f0).2.1).toInt64))))) := ⟨_, rfl⟩
    refine hg_eq eh1.symm ?_
    have k2 : h1 ao = some (.inl ((Γ.2.1 1), 1, .inr (.inl (vp_updL g ((0 : Int32).toNatClampNeg) (((sp_now M s0 t0 f0).2.1).toInt64))))) := by rw [eh1]; exact hp_up_s
    refine hg_goto C 19 d_La_now_12 (by decide) ?_
    refine hg_iconst (v := 0) C d_La_now_19 (by decide) ?_
    exact hg_iret C hr rfl d_La_now_20 (Nat.le_of_ble_eq_true rfl) (Nat.le_of_ble_eq_true rfl) (⟨by rw [hc0], u, ad', _, ha0, hcr, hua, by rw [eh1, hp_up_up], fun _ => updL_0⟩)
  · have hua : u ao = none := by
      cases hz : u ao with
      | none => rfl
      | some y =>
        have y9 := hd ao y hz hao
        rw [hp_up_s] at y9
        cases y9
    rw [mrg_up hao hua]
    obtain ⟨hE, hcr⟩ := hq
    rcases hE with ⟨rfl, c1⟩ | ⟨rfl, c1⟩
    · refine hg_catch (hpc := 15) C [] ⟨0, 12, 15, 13⟩ [] ht (fun z hz => by cases hz) (by decide) (by decide) (C.2.2.2.2.1 _ (kc kw122)) (va_Nw.use rfl (C.2.2.2.2.2.2.1.2.2.2.2.1 (Cond.castable "java/lang/IllegalArgumentException" "java/lang/IllegalArgumentException") (by decide +kernel)).2) rfl (fun q => ?_)
      refine hg_astore (lv' := [(5, .ref q), (0, .ref (ad 0 0)), (1, .int s0), (2, .int t0), (3, .int f0), (4, .ref ao)]) C d_La_now_15 (by decide) rfl ?_
      refine hg_iconst (v := 1) C d_La_now_17 (by decide) ?_
      exact hg_iret C hr rfl d_La_now_18 (Nat.le_of_ble_eq_true rfl) (Nat.le_of_ble_eq_true rfl) (⟨by rw [c1], u, ad, g, rfl, hcr, hua, rfl, fun z => absurd (c1.symm.trans z) (by decide)⟩)
    · exact absurd c1 gd_n2
abbrev rm_La_there : Room := { frames := 8, cells := 3, slots := 18, locals := 136 }
set_option maxHeartbeats 4000000 in
set_option maxRecDepth 100000 in
theorem k_La_there (l : Launch) (hl9 : l.stackTraces = false) (Γ : Gam) (hX : Pic) (ad : Nat → Nat → Nat) (M : Mem) (hC : cr_at Γ ad M hX) (hIv : Ivr M) (ao : Nat) (hao : hX ao = none) (g : Nat → Int64) (v0 t0 w0 : Int32) : kM l Γ y_La_there w_La_there rm_La_there [.ref (ad 0 0), .int v0, .int t0, .int w0, .ref ao] (hp_up hX ao (.inl (Γ.2.1 1, 1, .inr (.inl g)))) (lwQ Γ ad ao (sp_there M v0 t0 w0)) (fun _ _ => False) 3 18 := by
  refine hg_entryH (own := "ModelMergeLaw") (cc := b_La_there) (maxL := 6) (ret := (some .int)) (hh := [(0, 12, 15, 13)]) (lv0 := [(0, .ref (ad 0 0)), (1, .int v0), (2, .int t0), (3, .int w0), (4, .ref ao)]) (by decide) rfl rfl (Nat.le_of_ble_eq_true rfl) rfl ?_
  intro p e s m args below meth c A C ht hr
  have hsub : ∀ q x, hX q = some x → hp_up hX ao (.inl (Γ.2.1 1, 1, .inr (.inl g))) q = some x := fun q x hx => by rw [hp_up_n (fun z => by rw [z, hao] at hx; cases hx)]; exact hx
  have kxo : hX (ad 0 0) = some (.inr (6, [.ref (ad 1 0), .ref (ad 2 0), .int (M 1 0), .ref (ad 3 0), .int (M 9 0), .ref (ad 4 0), .int (M 4 0), .ref (ad 14 (nV M - 1)), .ref (ad 5 0), .int (M 22 0), .ref (ad 6 0), cr_pen ad M])) := hC.1 0 0 (liv0 (by omega))
  refine hg_aload C 4 d_La_there_0 rfl ?_
  refine hg_iconst (v := 0) C d_La_there_2 (by decide) ?_
  refine hg_aload_n C 0 d_La_there_3 rfl rfl ?_
  refine hg_iload_n C 1 d_La_there_4 rfl rfl ?_
  refine hg_iload_n C 2 d_La_there_5 rfl rfl ?_
  refine hg_iload_n C 3 d_La_there_6 rfl rfl ?_
  refine hg_VF (q := ("ModelMerge", T_MM, 12)) C hsub (k_MM_there l hl9 Γ hX ad M hC hIv.1 hIv.2.2.2.1 v0 t0 w0) (cw_La_60 C.2.2.2.2.1 rfl rfl ⟨Nat.le_of_ble_eq_true rfl, Nat.le_of_ble_eq_true rfl⟩) kxo rfl rfl rfl (Nat.le_of_ble_eq_true rfl) d_La_there_7 ⟨Nat.le_of_ble_eq_true rfl, Nat.le_of_ble_eq_true rfl⟩ (fun r u hq hd => ?_) (fun E u hq hd => ?_)
  · have hua : u ao = none := by
      cases hz : u ao with
      | none => rfl
      | some y =>
        have y9 := hd ao y hz hao
        rw [hp_up_s] at y9
        cases y9
    obtain ⟨rfl, hc0, ad', ha0, hcr⟩ := hq
    refine hg_eq (mrg_up hao hua) ?_
    have ko : hp_up u ao (.inl (Γ.2.1 1, 1, .inr (.inl g))) ao = some (.inl (Γ.2.1 1, 1, .inr (.inl g))) := hp_up_s
    refine hg_i2l C d_La_there_10 rfl ?_
    refine hg_last C 1 ko rfl (show vp_in (nI 0) 1 from vp_in_nI (by omega) (by omega)) d_La_there_11 ?_
    obtain ⟨h1, eh1⟩ : ∃ z, z = hp_up (hp_up u ao (.inl (Γ.2.1 1, 1, .inr (.inl g)))) ao (.inl ((Γ.2.1 1), 1, .inr (.inl (vp_updL g ((0 : Int32).toNatClampNeg) (((sp_there M v0 t0 w0).2.1).toInt64))))) := ⟨_, rfl⟩
    refine hg_eq eh1.symm ?_
    have k2 : h1 ao = some (.inl ((Γ.2.1 1), 1, .inr (.inl (vp_updL g ((0 : Int32).toNatClampNeg) (((sp_there M v0 t0 w0).2.1).toInt64))))) := by rw [eh1]; exact hp_up_s
    refine hg_goto C 19 d_La_there_12 (by decide) ?_
    refine hg_iconst (v := 0) C d_La_there_19 (by decide) ?_
    exact hg_iret C hr rfl d_La_there_20 (Nat.le_of_ble_eq_true rfl) (Nat.le_of_ble_eq_true rfl) (⟨by rw [hc0], u, ad', _, ha0, hcr, hua, by rw [eh1, hp_up_up], fun _ => updL_0⟩)
  · have hua : u ao = none := by
      cases hz : u ao with
      | none => rfl
      | some y =>
        have y9 := hd ao y hz hao
        rw [hp_up_s] at y9
        cases y9
    rw [mrg_up hao hua]
    obtain ⟨hE, hcr⟩ := hq
    rcases hE with ⟨rfl, c1⟩ | ⟨rfl, c1⟩
    · refine hg_catch (hpc := 15) C [] ⟨0, 12, 15, 13⟩ [] ht (fun z hz => by cases hz) (by decide) (by decide) (C.2.2.2.2.1 _ (kc kw122)) (va_Nw.use rfl (C.2.2.2.2.2.2.1.2.2.2.2.1 (Cond.castable "java/lang/IllegalArgumentException" "java/lang/IllegalArgumentException") (by decide +kernel)).2) rfl (fun q => ?_)
      refine hg_astore (lv' := [(5, .ref q), (0, .ref (ad 0 0)), (1, .int v0), (2, .int t0), (3, .int w0), (4, .ref ao)]) C d_La_there_15 (by decide) rfl ?_
      refine hg_iconst (v := 1) C d_La_there_17 (by decide) ?_
      exact hg_iret C hr rfl d_La_there_18 (Nat.le_of_ble_eq_true rfl) (Nat.le_of_ble_eq_true rfl) (⟨by rw [c1], u, ad, g, rfl, hcr, hua, rfl, fun z => absurd (c1.symm.trans z) (by decide)⟩)
    · exact absurd c1 gd_n2
abbrev rm_La_at : Room := { frames := 9, cells := 4, slots := 24, locals := 158 }
set_option maxHeartbeats 4000000 in
set_option maxRecDepth 100000 in
theorem k_La_at (l : Launch) (hl9 : l.stackTraces = false) (Γ : Gam) (hX : Pic) (ad : Nat → Nat → Nat) (M : Mem) (hC : cr_at Γ ad M hX) (hIv : Ivr M) (ao : Nat) (hao : hX ao = none) (g : Nat → Int64) (v0 t0 f0 : Int32) : kM l Γ y_La_at w_La_at rm_La_at [.ref (ad 0 0), .int v0, .int t0, .int f0, .ref ao] (hp_up hX ao (.inl (Γ.2.1 1, 1, .inr (.inl g)))) (lwQ Γ ad ao (sp_at M v0 t0 f0)) (fun _ _ => False) 4 24 := by
  refine hg_entryH (own := "ModelMergeLaw") (cc := b_La_at) (maxL := 6) (ret := (some .int)) (hh := [(0, 12, 15, 13)]) (lv0 := [(0, .ref (ad 0 0)), (1, .int v0), (2, .int t0), (3, .int f0), (4, .ref ao)]) (by decide) rfl rfl (Nat.le_of_ble_eq_true rfl) rfl ?_
  intro p e s m args below meth c A C ht hr
  have hsub : ∀ q x, hX q = some x → hp_up hX ao (.inl (Γ.2.1 1, 1, .inr (.inl g))) q = some x := fun q x hx => by rw [hp_up_n (fun z => by rw [z, hao] at hx; cases hx)]; exact hx
  have kxo : hX (ad 0 0) = some (.inr (6, [.ref (ad 1 0), .ref (ad 2 0), .int (M 1 0), .ref (ad 3 0), .int (M 9 0), .ref (ad 4 0), .int (M 4 0), .ref (ad 14 (nV M - 1)), .ref (ad 5 0), .int (M 22 0), .ref (ad 6 0), cr_pen ad M])) := hC.1 0 0 (liv0 (by omega))
  refine hg_aload C 4 d_La_at_0 rfl ?_
  refine hg_iconst (v := 0) C d_La_at_2 (by decide) ?_
  refine hg_aload_n C 0 d_La_at_3 rfl rfl ?_
  refine hg_iload_n C 1 d_La_at_4 rfl rfl ?_
  refine hg_iload_n C 2 d_La_at_5 rfl rfl ?_
  refine hg_iload_n C 3 d_La_at_6 rfl rfl ?_
  refine hg_VF (q := ("ModelMerge", T_MM, 12)) C hsub (k_MM_at l hl9 Γ hX ad M hC hIv.1 v0 t0 f0) (cw_La_63 C.2.2.2.2.1 rfl rfl ⟨Nat.le_of_ble_eq_true rfl, Nat.le_of_ble_eq_true rfl⟩) kxo rfl rfl rfl (Nat.le_of_ble_eq_true rfl) d_La_at_7 ⟨Nat.le_of_ble_eq_true rfl, Nat.le_of_ble_eq_true rfl⟩ (fun r u hq hd => ?_) (fun E u hq hd => ?_)
  · have hua : u ao = none := by
      cases hz : u ao with
      | none => rfl
      | some y =>
        have y9 := hd ao y hz hao
        rw [hp_up_s] at y9
        cases y9
    obtain ⟨rfl, hc0, ad', ha0, hcr⟩ := hq
    refine hg_eq (mrg_up hao hua) ?_
    have ko : hp_up u ao (.inl (Γ.2.1 1, 1, .inr (.inl g))) ao = some (.inl (Γ.2.1 1, 1, .inr (.inl g))) := hp_up_s
    refine hg_i2l C d_La_at_10 rfl ?_
    refine hg_last C 1 ko rfl (show vp_in (nI 0) 1 from vp_in_nI (by omega) (by omega)) d_La_at_11 ?_
    obtain ⟨h1, eh1⟩ : ∃ z, z = hp_up (hp_up u ao (.inl (Γ.2.1 1, 1, .inr (.inl g)))) ao (.inl ((Γ.2.1 1), 1, .inr (.inl (vp_updL g ((0 : Int32).toNatClampNeg) (((sp_at M v0 t0 f0).2.1).toInt64))))) := ⟨_, rfl⟩
    refine hg_eq eh1.symm ?_
    have k2 : h1 ao = some (.inl ((Γ.2.1 1), 1, .inr (.inl (vp_updL g ((0 : Int32).toNatClampNeg) (((sp_at M v0 t0 f0).2.1).toInt64))))) := by rw [eh1]; exact hp_up_s
    refine hg_goto C 19 d_La_at_12 (by decide) ?_
    refine hg_iconst (v := 0) C d_La_at_19 (by decide) ?_
    exact hg_iret C hr rfl d_La_at_20 (Nat.le_of_ble_eq_true rfl) (Nat.le_of_ble_eq_true rfl) (⟨by rw [hc0], u, ad', _, ha0, hcr, hua, by rw [eh1, hp_up_up], fun _ => updL_0⟩)
  · have hua : u ao = none := by
      cases hz : u ao with
      | none => rfl
      | some y =>
        have y9 := hd ao y hz hao
        rw [hp_up_s] at y9
        cases y9
    rw [mrg_up hao hua]
    obtain ⟨hE, hcr⟩ := hq
    rcases hE with ⟨rfl, c1⟩ | ⟨rfl, c1⟩
    · refine hg_catch (hpc := 15) C [] ⟨0, 12, 15, 13⟩ [] ht (fun z hz => by cases hz) (by decide) (by decide) (C.2.2.2.2.1 _ (kc kw122)) (va_Nw.use rfl (C.2.2.2.2.2.2.1.2.2.2.2.1 (Cond.castable "java/lang/IllegalArgumentException" "java/lang/IllegalArgumentException") (by decide +kernel)).2) rfl (fun q => ?_)
      refine hg_astore (lv' := [(5, .ref q), (0, .ref (ad 0 0)), (1, .int v0), (2, .int t0), (3, .int f0), (4, .ref ao)]) C d_La_at_15 (by decide) rfl ?_
      refine hg_iconst (v := 1) C d_La_at_17 (by decide) ?_
      exact hg_iret C hr rfl d_La_at_18 (Nat.le_of_ble_eq_true rfl) (Nat.le_of_ble_eq_true rfl) (⟨by rw [c1], u, ad, g, rfl, hcr, hua, rfl, fun z => absurd (c1.symm.trans z) (by decide)⟩)
    · exact absurd c1 gd_n2
abbrev rm_La_since : Room := { frames := 9, cells := 4, slots := 24, locals := 158 }
set_option maxHeartbeats 4000000 in
set_option maxRecDepth 100000 in
theorem k_La_since (l : Launch) (hl9 : l.stackTraces = false) (Γ : Gam) (hX : Pic) (ad : Nat → Nat → Nat) (M : Mem) (hC : cr_at Γ ad M hX) (hIv : Ivr M) (ao : Nat) (hao : hX ao = none) (g : Nat → Int64) (v0 t0 f0 : Int32) : kM l Γ y_La_since w_La_since rm_La_since [.ref (ad 0 0), .int v0, .int t0, .int f0, .ref ao] (hp_up hX ao (.inl (Γ.2.1 1, 1, .inr (.inl g)))) (lwQ Γ ad ao (sp_since M v0 t0 f0)) (fun _ _ => False) 4 24 := by
  refine hg_entryH (own := "ModelMergeLaw") (cc := b_La_since) (maxL := 6) (ret := (some .int)) (hh := [(0, 12, 15, 13)]) (lv0 := [(0, .ref (ad 0 0)), (1, .int v0), (2, .int t0), (3, .int f0), (4, .ref ao)]) (by decide) rfl rfl (Nat.le_of_ble_eq_true rfl) rfl ?_
  intro p e s m args below meth c A C ht hr
  have hsub : ∀ q x, hX q = some x → hp_up hX ao (.inl (Γ.2.1 1, 1, .inr (.inl g))) q = some x := fun q x hx => by rw [hp_up_n (fun z => by rw [z, hao] at hx; cases hx)]; exact hx
  have kxo : hX (ad 0 0) = some (.inr (6, [.ref (ad 1 0), .ref (ad 2 0), .int (M 1 0), .ref (ad 3 0), .int (M 9 0), .ref (ad 4 0), .int (M 4 0), .ref (ad 14 (nV M - 1)), .ref (ad 5 0), .int (M 22 0), .ref (ad 6 0), cr_pen ad M])) := hC.1 0 0 (liv0 (by omega))
  refine hg_aload C 4 d_La_since_0 rfl ?_
  refine hg_iconst (v := 0) C d_La_since_2 (by decide) ?_
  refine hg_aload_n C 0 d_La_since_3 rfl rfl ?_
  refine hg_iload_n C 1 d_La_since_4 rfl rfl ?_
  refine hg_iload_n C 2 d_La_since_5 rfl rfl ?_
  refine hg_iload_n C 3 d_La_since_6 rfl rfl ?_
  refine hg_VF (q := ("ModelMerge", T_MM, 12)) C hsub (k_MM_since l hl9 Γ hX ad M hC hIv.1 hIv.2.2.2.1 v0 t0 f0) (cw_La_66 C.2.2.2.2.1 rfl rfl ⟨Nat.le_of_ble_eq_true rfl, Nat.le_of_ble_eq_true rfl⟩) kxo rfl rfl rfl (Nat.le_of_ble_eq_true rfl) d_La_since_7 ⟨Nat.le_of_ble_eq_true rfl, Nat.le_of_ble_eq_true rfl⟩ (fun r u hq hd => ?_) (fun E u hq hd => ?_)
  · have hua : u ao = none := by
      cases hz : u ao with
      | none => rfl
      | some y =>
        have y9 := hd ao y hz hao
        rw [hp_up_s] at y9
        cases y9
    obtain ⟨rfl, hc0, ad', ha0, hcr⟩ := hq
    refine hg_eq (mrg_up hao hua) ?_
    have ko : hp_up u ao (.inl (Γ.2.1 1, 1, .inr (.inl g))) ao = some (.inl (Γ.2.1 1, 1, .inr (.inl g))) := hp_up_s
    refine hg_i2l C d_La_since_10 rfl ?_
    refine hg_last C 1 ko rfl (show vp_in (nI 0) 1 from vp_in_nI (by omega) (by omega)) d_La_since_11 ?_
    obtain ⟨h1, eh1⟩ : ∃ z, z = hp_up (hp_up u ao (.inl (Γ.2.1 1, 1, .inr (.inl g)))) ao (.inl ((Γ.2.1 1), 1, .inr (.inl (vp_updL g ((0 : Int32).toNatClampNeg) (((sp_since M v0 t0 f0).2.1).toInt64))))) := ⟨_, rfl⟩
    refine hg_eq eh1.symm ?_
    have k2 : h1 ao = some (.inl ((Γ.2.1 1), 1, .inr (.inl (vp_updL g ((0 : Int32).toNatClampNeg) (((sp_since M v0 t0 f0).2.1).toInt64))))) := by rw [eh1]; exact hp_up_s
    refine hg_goto C 19 d_La_since_12 (by decide) ?_
    refine hg_iconst (v := 0) C d_La_since_19 (by decide) ?_
    exact hg_iret C hr rfl d_La_since_20 (Nat.le_of_ble_eq_true rfl) (Nat.le_of_ble_eq_true rfl) (⟨by rw [hc0], u, ad', _, ha0, hcr, hua, by rw [eh1, hp_up_up], fun _ => updL_0⟩)
  · have hua : u ao = none := by
      cases hz : u ao with
      | none => rfl
      | some y =>
        have y9 := hd ao y hz hao
        rw [hp_up_s] at y9
        cases y9
    rw [mrg_up hao hua]
    obtain ⟨hE, hcr⟩ := hq
    rcases hE with ⟨rfl, c1⟩ | ⟨rfl, c1⟩
    · refine hg_catch (hpc := 15) C [] ⟨0, 12, 15, 13⟩ [] ht (fun z hz => by cases hz) (by decide) (by decide) (C.2.2.2.2.1 _ (kc kw122)) (va_Nw.use rfl (C.2.2.2.2.2.2.1.2.2.2.2.1 (Cond.castable "java/lang/IllegalArgumentException" "java/lang/IllegalArgumentException") (by decide +kernel)).2) rfl (fun q => ?_)
      refine hg_astore (lv' := [(5, .ref q), (0, .ref (ad 0 0)), (1, .int v0), (2, .int t0), (3, .int f0), (4, .ref ao)]) C d_La_since_15 (by decide) rfl ?_
      refine hg_iconst (v := 1) C d_La_since_17 (by decide) ?_
      exact hg_iret C hr rfl d_La_since_18 (Nat.le_of_ble_eq_true rfl) (Nat.le_of_ble_eq_true rfl) (⟨by rw [c1], u, ad, g, rfl, hcr, hua, rfl, fun z => absurd (c1.symm.trans z) (by decide)⟩)
    · exact absurd c1 gd_n2
abbrev rm_La_told : Room := { frames := 8, cells := 2, slots := 12, locals := 135 }
set_option maxHeartbeats 4000000 in
set_option maxRecDepth 100000 in
theorem k_La_told (l : Launch) (hl9 : l.stackTraces = false) (Γ : Gam) (hX : Pic) (ad : Nat → Nat → Nat) (M : Mem) (hC : cr_at Γ ad M hX) (hIv : Ivr M) (ao : Nat) (hao : hX ao = none) (g : Nat → Int64) (s0 w0 : Int32) : kM l Γ y_La_told w_La_told rm_La_told [.ref (ad 0 0), .int s0, .int w0, .ref ao] (hp_up hX ao (.inl (Γ.2.1 1, 1, .inr (.inl g)))) (lwQ Γ ad ao (sp_told M s0 w0)) (fun _ _ => False) 2 12 := by
  refine hg_entryH (own := "ModelMergeLaw") (cc := b_La_told) (maxL := 5) (ret := (some .int)) (hh := [(0, 10, 13, 13)]) (lv0 := [(0, .ref (ad 0 0)), (1, .int s0), (2, .int w0), (3, .ref ao)]) (by decide) rfl rfl (Nat.le_of_ble_eq_true rfl) rfl ?_
  intro p e s m args below meth c A C ht hr
  have hsub : ∀ q x, hX q = some x → hp_up hX ao (.inl (Γ.2.1 1, 1, .inr (.inl g))) q = some x := fun q x hx => by rw [hp_up_n (fun z => by rw [z, hao] at hx; cases hx)]; exact hx
  have kxo : hX (ad 0 0) = some (.inr (6, [.ref (ad 1 0), .ref (ad 2 0), .int (M 1 0), .ref (ad 3 0), .int (M 9 0), .ref (ad 4 0), .int (M 4 0), .ref (ad 14 (nV M - 1)), .ref (ad 5 0), .int (M 22 0), .ref (ad 6 0), cr_pen ad M])) := hC.1 0 0 (liv0 (by omega))
  refine hg_aload_n C 3 d_La_told_0 rfl rfl ?_
  refine hg_iconst (v := 0) C d_La_told_1 (by decide) ?_
  refine hg_aload_n C 0 d_La_told_2 rfl rfl ?_
  refine hg_iload_n C 1 d_La_told_3 rfl rfl ?_
  refine hg_iload_n C 2 d_La_told_4 rfl rfl ?_
  refine hg_VF (q := ("ModelMerge", T_MM, 12)) C hsub (k_MM_told l hl9 Γ hX ad M hC hIv.1 s0 w0) (cw_La_69 C.2.2.2.2.1 rfl rfl ⟨Nat.le_of_ble_eq_true rfl, Nat.le_of_ble_eq_true rfl⟩) kxo rfl rfl rfl (Nat.le_of_ble_eq_true rfl) d_La_told_5 ⟨Nat.le_of_ble_eq_true rfl, Nat.le_of_ble_eq_true rfl⟩ (fun r u hq hd => ?_) (fun E u hq hd => ?_)
  · have hua : u ao = none := by
      cases hz : u ao with
      | none => rfl
      | some y =>
        have y9 := hd ao y hz hao
        rw [hp_up_s] at y9
        cases y9
    obtain ⟨rfl, hc0, ad', ha0, hcr⟩ := hq
    refine hg_eq (mrg_up hao hua) ?_
    have ko : hp_up u ao (.inl (Γ.2.1 1, 1, .inr (.inl g))) ao = some (.inl (Γ.2.1 1, 1, .inr (.inl g))) := hp_up_s
    refine hg_i2l C d_La_told_8 rfl ?_
    refine hg_last C 1 ko rfl (show vp_in (nI 0) 1 from vp_in_nI (by omega) (by omega)) d_La_told_9 ?_
    obtain ⟨h1, eh1⟩ : ∃ z, z = hp_up (hp_up u ao (.inl (Γ.2.1 1, 1, .inr (.inl g)))) ao (.inl ((Γ.2.1 1), 1, .inr (.inl (vp_updL g ((0 : Int32).toNatClampNeg) (((sp_told M s0 w0).2.1).toInt64))))) := ⟨_, rfl⟩
    refine hg_eq eh1.symm ?_
    have k2 : h1 ao = some (.inl ((Γ.2.1 1), 1, .inr (.inl (vp_updL g ((0 : Int32).toNatClampNeg) (((sp_told M s0 w0).2.1).toInt64))))) := by rw [eh1]; exact hp_up_s
    refine hg_goto C 17 d_La_told_10 (by decide) ?_
    refine hg_iconst (v := 0) C d_La_told_17 (by decide) ?_
    exact hg_iret C hr rfl d_La_told_18 (Nat.le_of_ble_eq_true rfl) (Nat.le_of_ble_eq_true rfl) (⟨by rw [hc0], u, ad', _, ha0, hcr, hua, by rw [eh1, hp_up_up], fun _ => updL_0⟩)
  · have hua : u ao = none := by
      cases hz : u ao with
      | none => rfl
      | some y =>
        have y9 := hd ao y hz hao
        rw [hp_up_s] at y9
        cases y9
    rw [mrg_up hao hua]
    obtain ⟨hE, hcr⟩ := hq
    rcases hE with ⟨rfl, c1⟩ | ⟨rfl, c1⟩
    · refine hg_catch (hpc := 13) C [] ⟨0, 10, 13, 13⟩ [] ht (fun z hz => by cases hz) (by decide) (by decide) (C.2.2.2.2.1 _ (kc kw122)) (va_Nw.use rfl (C.2.2.2.2.2.2.1.2.2.2.2.1 (Cond.castable "java/lang/IllegalArgumentException" "java/lang/IllegalArgumentException") (by decide +kernel)).2) rfl (fun q => ?_)
      refine hg_astore (lv' := [(4, .ref q), (0, .ref (ad 0 0)), (1, .int s0), (2, .int w0), (3, .ref ao)]) C d_La_told_13 (by decide) rfl ?_
      refine hg_iconst (v := 1) C d_La_told_15 (by decide) ?_
      exact hg_iret C hr rfl d_La_told_16 (Nat.le_of_ble_eq_true rfl) (Nat.le_of_ble_eq_true rfl) (⟨by rw [c1], u, ad, g, rfl, hcr, hua, rfl, fun z => absurd (c1.symm.trans z) (by decide)⟩)
    · exact absurd c1 gd_n2
abbrev rm_La_author : Room := { frames := 8, cells := 2, slots := 12, locals := 134 }
set_option maxHeartbeats 4000000 in
set_option maxRecDepth 100000 in
theorem k_La_author (l : Launch) (hl9 : l.stackTraces = false) (Γ : Gam) (hX : Pic) (ad : Nat → Nat → Nat) (M : Mem) (hC : cr_at Γ ad M hX) (hIv : Ivr M) (ao : Nat) (hao : hX ao = none) (g : Nat → Int64) (v0 : Int32) : kM l Γ y_La_author w_La_author rm_La_author [.ref (ad 0 0), .int v0, .ref ao] (hp_up hX ao (.inl (Γ.2.1 1, 1, .inr (.inl g)))) (lwQ Γ ad ao (sp_author M v0)) (fun _ _ => False) 2 12 := by
  refine hg_entryH (own := "ModelMergeLaw") (cc := b_La_author) (maxL := 4) (ret := (some .int)) (hh := [(0, 9, 12, 13)]) (lv0 := [(0, .ref (ad 0 0)), (1, .int v0), (2, .ref ao)]) (by decide) rfl rfl (Nat.le_of_ble_eq_true rfl) rfl ?_
  intro p e s m args below meth c A C ht hr
  have hsub : ∀ q x, hX q = some x → hp_up hX ao (.inl (Γ.2.1 1, 1, .inr (.inl g))) q = some x := fun q x hx => by rw [hp_up_n (fun z => by rw [z, hao] at hx; cases hx)]; exact hx
  have kxo : hX (ad 0 0) = some (.inr (6, [.ref (ad 1 0), .ref (ad 2 0), .int (M 1 0), .ref (ad 3 0), .int (M 9 0), .ref (ad 4 0), .int (M 4 0), .ref (ad 14 (nV M - 1)), .ref (ad 5 0), .int (M 22 0), .ref (ad 6 0), cr_pen ad M])) := hC.1 0 0 (liv0 (by omega))
  refine hg_aload_n C 2 d_La_author_0 rfl rfl ?_
  refine hg_iconst (v := 0) C d_La_author_1 (by decide) ?_
  refine hg_aload_n C 0 d_La_author_2 rfl rfl ?_
  refine hg_iload_n C 1 d_La_author_3 rfl rfl ?_
  refine hg_VF (q := ("ModelMerge", T_MM, 12)) C hsub (k_MM_author l hl9 Γ hX ad M hC hIv.1 hIv.2.2.2.2.1 v0) (cw_La_72 C.2.2.2.2.1 rfl rfl ⟨Nat.le_of_ble_eq_true rfl, Nat.le_of_ble_eq_true rfl⟩) kxo rfl rfl rfl (Nat.le_of_ble_eq_true rfl) d_La_author_4 ⟨Nat.le_of_ble_eq_true rfl, Nat.le_of_ble_eq_true rfl⟩ (fun r u hq hd => ?_) (fun E u hq hd => ?_)
  · have hua : u ao = none := by
      cases hz : u ao with
      | none => rfl
      | some y =>
        have y9 := hd ao y hz hao
        rw [hp_up_s] at y9
        cases y9
    obtain ⟨rfl, hc0, ad', ha0, hcr⟩ := hq
    refine hg_eq (mrg_up hao hua) ?_
    have ko : hp_up u ao (.inl (Γ.2.1 1, 1, .inr (.inl g))) ao = some (.inl (Γ.2.1 1, 1, .inr (.inl g))) := hp_up_s
    refine hg_i2l C d_La_author_7 rfl ?_
    refine hg_last C 1 ko rfl (show vp_in (nI 0) 1 from vp_in_nI (by omega) (by omega)) d_La_author_8 ?_
    obtain ⟨h1, eh1⟩ : ∃ z, z = hp_up (hp_up u ao (.inl (Γ.2.1 1, 1, .inr (.inl g)))) ao (.inl ((Γ.2.1 1), 1, .inr (.inl (vp_updL g ((0 : Int32).toNatClampNeg) (((sp_author M v0).2.1).toInt64))))) := ⟨_, rfl⟩
    refine hg_eq eh1.symm ?_
    have k2 : h1 ao = some (.inl ((Γ.2.1 1), 1, .inr (.inl (vp_updL g ((0 : Int32).toNatClampNeg) (((sp_author M v0).2.1).toInt64))))) := by rw [eh1]; exact hp_up_s
    refine hg_goto C 15 d_La_author_9 (by decide) ?_
    refine hg_iconst (v := 0) C d_La_author_15 (by decide) ?_
    exact hg_iret C hr rfl d_La_author_16 (Nat.le_of_ble_eq_true rfl) (Nat.le_of_ble_eq_true rfl) (⟨by rw [hc0], u, ad', _, ha0, hcr, hua, by rw [eh1, hp_up_up], fun _ => updL_0⟩)
  · have hua : u ao = none := by
      cases hz : u ao with
      | none => rfl
      | some y =>
        have y9 := hd ao y hz hao
        rw [hp_up_s] at y9
        cases y9
    rw [mrg_up hao hua]
    obtain ⟨hE, hcr⟩ := hq
    rcases hE with ⟨rfl, c1⟩ | ⟨rfl, c1⟩
    · refine hg_catch (hpc := 12) C [] ⟨0, 9, 12, 13⟩ [] ht (fun z hz => by cases hz) (by decide) (by decide) (C.2.2.2.2.1 _ (kc kw122)) (va_Nw.use rfl (C.2.2.2.2.2.2.1.2.2.2.2.1 (Cond.castable "java/lang/IllegalArgumentException" "java/lang/IllegalArgumentException") (by decide +kernel)).2) rfl (fun q => ?_)
      refine hg_astore_n (lv' := [(3, .ref q), (0, .ref (ad 0 0)), (1, .int v0), (2, .ref ao)]) C d_La_author_12 rfl (by decide) rfl ?_
      refine hg_iconst (v := 1) C d_La_author_13 (by decide) ?_
      exact hg_iret C hr rfl d_La_author_14 (Nat.le_of_ble_eq_true rfl) (Nat.le_of_ble_eq_true rfl) (⟨by rw [c1], u, ad, g, rfl, hcr, hua, rfl, fun z => absurd (c1.symm.trans z) (by decide)⟩)
    · exact absurd c1 gd_n2
abbrev rm_La_count : Room := { frames := 7, cells := 1, slots := 6, locals := 111 }
set_option maxHeartbeats 4000000 in
set_option maxRecDepth 100000 in
theorem k_La_count (l : Launch) (hl9 : l.stackTraces = false) (Γ : Gam) (hX : Pic) (ad : Nat → Nat → Nat) (M : Mem) (hC : cr_at Γ ad M hX) (hIv : Ivr M) (ao : Nat) (hao : hX ao = none) (g : Nat → Int64) (w0 : Int32) : kM l Γ y_La_count w_La_count rm_La_count [.ref (ad 0 0), .int w0, .ref ao] (hp_up hX ao (.inl (Γ.2.1 1, 1, .inr (.inl g)))) (lwQ Γ ad ao (sp_count M w0)) (fun _ _ => False) 1 6 := by
  refine hg_entryH (own := "ModelMergeLaw") (cc := b_La_count) (maxL := 4) (ret := (some .int)) (hh := [(0, 9, 12, 13)]) (lv0 := [(0, .ref (ad 0 0)), (1, .int w0), (2, .ref ao)]) (by decide) rfl rfl (Nat.le_of_ble_eq_true rfl) rfl ?_
  intro p e s m args below meth c A C ht hr
  have hsub : ∀ q x, hX q = some x → hp_up hX ao (.inl (Γ.2.1 1, 1, .inr (.inl g))) q = some x := fun q x hx => by rw [hp_up_n (fun z => by rw [z, hao] at hx; cases hx)]; exact hx
  have kxo : hX (ad 0 0) = some (.inr (6, [.ref (ad 1 0), .ref (ad 2 0), .int (M 1 0), .ref (ad 3 0), .int (M 9 0), .ref (ad 4 0), .int (M 4 0), .ref (ad 14 (nV M - 1)), .ref (ad 5 0), .int (M 22 0), .ref (ad 6 0), cr_pen ad M])) := hC.1 0 0 (liv0 (by omega))
  refine hg_aload_n C 2 d_La_count_0 rfl rfl ?_
  refine hg_iconst (v := 0) C d_La_count_1 (by decide) ?_
  refine hg_aload_n C 0 d_La_count_2 rfl rfl ?_
  refine hg_iload_n C 1 d_La_count_3 rfl rfl ?_
  refine hg_VF (q := ("ModelMerge", T_MM, 12)) C hsub (k_MM_count l hl9 Γ hX ad M hC hIv.1 w0) (cw_La_75 C.2.2.2.2.1 rfl rfl ⟨Nat.le_of_ble_eq_true rfl, Nat.le_of_ble_eq_true rfl⟩) kxo rfl rfl rfl (Nat.le_of_ble_eq_true rfl) d_La_count_4 ⟨Nat.le_of_ble_eq_true rfl, Nat.le_of_ble_eq_true rfl⟩ (fun r u hq hd => ?_) (fun E u hq hd => ?_)
  · have hua : u ao = none := by
      cases hz : u ao with
      | none => rfl
      | some y =>
        have y9 := hd ao y hz hao
        rw [hp_up_s] at y9
        cases y9
    obtain ⟨rfl, hc0, ad', ha0, hcr⟩ := hq
    refine hg_eq (mrg_up hao hua) ?_
    have ko : hp_up u ao (.inl (Γ.2.1 1, 1, .inr (.inl g))) ao = some (.inl (Γ.2.1 1, 1, .inr (.inl g))) := hp_up_s
    refine hg_i2l C d_La_count_7 rfl ?_
    refine hg_last C 1 ko rfl (show vp_in (nI 0) 1 from vp_in_nI (by omega) (by omega)) d_La_count_8 ?_
    obtain ⟨h1, eh1⟩ : ∃ z, z = hp_up (hp_up u ao (.inl (Γ.2.1 1, 1, .inr (.inl g)))) ao (.inl ((Γ.2.1 1), 1, .inr (.inl (vp_updL g ((0 : Int32).toNatClampNeg) (((sp_count M w0).2.1).toInt64))))) := ⟨_, rfl⟩
    refine hg_eq eh1.symm ?_
    have k2 : h1 ao = some (.inl ((Γ.2.1 1), 1, .inr (.inl (vp_updL g ((0 : Int32).toNatClampNeg) (((sp_count M w0).2.1).toInt64))))) := by rw [eh1]; exact hp_up_s
    refine hg_goto C 15 d_La_count_9 (by decide) ?_
    refine hg_iconst (v := 0) C d_La_count_15 (by decide) ?_
    exact hg_iret C hr rfl d_La_count_16 (Nat.le_of_ble_eq_true rfl) (Nat.le_of_ble_eq_true rfl) (⟨by rw [hc0], u, ad', _, ha0, hcr, hua, by rw [eh1, hp_up_up], fun _ => updL_0⟩)
  · have hua : u ao = none := by
      cases hz : u ao with
      | none => rfl
      | some y =>
        have y9 := hd ao y hz hao
        rw [hp_up_s] at y9
        cases y9
    rw [mrg_up hao hua]
    obtain ⟨hE, hcr⟩ := hq
    rcases hE with ⟨rfl, c1⟩ | ⟨rfl, c1⟩
    · refine hg_catch (hpc := 12) C [] ⟨0, 9, 12, 13⟩ [] ht (fun z hz => by cases hz) (by decide) (by decide) (C.2.2.2.2.1 _ (kc kw122)) (va_Nw.use rfl (C.2.2.2.2.2.2.1.2.2.2.2.1 (Cond.castable "java/lang/IllegalArgumentException" "java/lang/IllegalArgumentException") (by decide +kernel)).2) rfl (fun q => ?_)
      refine hg_astore_n (lv' := [(3, .ref q), (0, .ref (ad 0 0)), (1, .int w0), (2, .ref ao)]) C d_La_count_12 rfl (by decide) rfl ?_
      refine hg_iconst (v := 1) C d_La_count_13 (by decide) ?_
      exact hg_iret C hr rfl d_La_count_14 (Nat.le_of_ble_eq_true rfl) (Nat.le_of_ble_eq_true rfl) (⟨by rw [c1], u, ad, g, rfl, hcr, hua, rfl, fun z => absurd (c1.symm.trans z) (by decide)⟩)
    · exact absurd c1 gd_n2
abbrev rm_La_differs : Room := { frames := 8, cells := 3, slots := 18, locals := 140 }
set_option maxHeartbeats 4000000 in
set_option maxRecDepth 100000 in
theorem k_La_differs (l : Launch) (hl9 : l.stackTraces = false) (Γ : Gam) (hX : Pic) (ad : Nat → Nat → Nat) (M : Mem) (hC : cr_at Γ ad M hX) (hIv : Ivr M) (ao : Nat) (hao : hX ao = none) (g : Nat → Int64) (a0 b0 k0 : Int32) : kM l Γ y_La_differs w_La_differs rm_La_differs [.ref (ad 0 0), .int a0, .int b0, .int k0, .ref ao] (hp_up hX ao (.inl (Γ.2.1 1, 1, .inr (.inl g)))) (lwQ Γ ad ao (sp_differs M a0 b0 k0)) (fun _ _ => False) 3 18 := by
  refine hg_entryH (own := "ModelMergeLaw") (cc := b_La_differs) (maxL := 6) (ret := (some .int)) (hh := [(0, 12, 15, 13)]) (lv0 := [(0, .ref (ad 0 0)), (1, .int a0), (2, .int b0), (3, .int k0), (4, .ref ao)]) (by decide) rfl rfl (Nat.le_of_ble_eq_true rfl) rfl ?_
  intro p e s m args below meth c A C ht hr
  have hsub : ∀ q x, hX q = some x → hp_up hX ao (.inl (Γ.2.1 1, 1, .inr (.inl g))) q = some x := fun q x hx => by rw [hp_up_n (fun z => by rw [z, hao] at hx; cases hx)]; exact hx
  have kxo : hX (ad 0 0) = some (.inr (6, [.ref (ad 1 0), .ref (ad 2 0), .int (M 1 0), .ref (ad 3 0), .int (M 9 0), .ref (ad 4 0), .int (M 4 0), .ref (ad 14 (nV M - 1)), .ref (ad 5 0), .int (M 22 0), .ref (ad 6 0), cr_pen ad M])) := hC.1 0 0 (liv0 (by omega))
  refine hg_aload C 4 d_La_differs_0 rfl ?_
  refine hg_iconst (v := 0) C d_La_differs_2 (by decide) ?_
  refine hg_aload_n C 0 d_La_differs_3 rfl rfl ?_
  refine hg_iload_n C 1 d_La_differs_4 rfl rfl ?_
  refine hg_iload_n C 2 d_La_differs_5 rfl rfl ?_
  refine hg_iload_n C 3 d_La_differs_6 rfl rfl ?_
  refine hg_VF (q := ("ModelMerge", T_MM, 12)) C hsub (k_MM_differs l hl9 Γ hX ad M hC hIv.1 a0 b0 k0) (cw_La_78 C.2.2.2.2.1 rfl rfl ⟨Nat.le_of_ble_eq_true rfl, Nat.le_of_ble_eq_true rfl⟩) kxo rfl rfl rfl (Nat.le_of_ble_eq_true rfl) d_La_differs_7 ⟨Nat.le_of_ble_eq_true rfl, Nat.le_of_ble_eq_true rfl⟩ (fun r u hq hd => ?_) (fun E u hq hd => ?_)
  · have hua : u ao = none := by
      cases hz : u ao with
      | none => rfl
      | some y =>
        have y9 := hd ao y hz hao
        rw [hp_up_s] at y9
        cases y9
    obtain ⟨rfl, hc0, ad', ha0, hcr⟩ := hq
    refine hg_eq (mrg_up hao hua) ?_
    have ko : hp_up u ao (.inl (Γ.2.1 1, 1, .inr (.inl g))) ao = some (.inl (Γ.2.1 1, 1, .inr (.inl g))) := hp_up_s
    refine hg_i2l C d_La_differs_10 rfl ?_
    refine hg_last C 1 ko rfl (show vp_in (nI 0) 1 from vp_in_nI (by omega) (by omega)) d_La_differs_11 ?_
    obtain ⟨h1, eh1⟩ : ∃ z, z = hp_up (hp_up u ao (.inl (Γ.2.1 1, 1, .inr (.inl g)))) ao (.inl ((Γ.2.1 1), 1, .inr (.inl (vp_updL g ((0 : Int32).toNatClampNeg) (((sp_differs M a0 b0 k0).2.1).toInt64))))) := ⟨_, rfl⟩
    refine hg_eq eh1.symm ?_
    have k2 : h1 ao = some (.inl ((Γ.2.1 1), 1, .inr (.inl (vp_updL g ((0 : Int32).toNatClampNeg) (((sp_differs M a0 b0 k0).2.1).toInt64))))) := by rw [eh1]; exact hp_up_s
    refine hg_goto C 19 d_La_differs_12 (by decide) ?_
    refine hg_iconst (v := 0) C d_La_differs_19 (by decide) ?_
    exact hg_iret C hr rfl d_La_differs_20 (Nat.le_of_ble_eq_true rfl) (Nat.le_of_ble_eq_true rfl) (⟨by rw [hc0], u, ad', _, ha0, hcr, hua, by rw [eh1, hp_up_up], fun _ => updL_0⟩)
  · have hua : u ao = none := by
      cases hz : u ao with
      | none => rfl
      | some y =>
        have y9 := hd ao y hz hao
        rw [hp_up_s] at y9
        cases y9
    rw [mrg_up hao hua]
    obtain ⟨hE, hcr⟩ := hq
    rcases hE with ⟨rfl, c1⟩ | ⟨rfl, c1⟩
    · refine hg_catch (hpc := 15) C [] ⟨0, 12, 15, 13⟩ [] ht (fun z hz => by cases hz) (by decide) (by decide) (C.2.2.2.2.1 _ (kc kw122)) (va_Nw.use rfl (C.2.2.2.2.2.2.1.2.2.2.2.1 (Cond.castable "java/lang/IllegalArgumentException" "java/lang/IllegalArgumentException") (by decide +kernel)).2) rfl (fun q => ?_)
      refine hg_astore (lv' := [(5, .ref q), (0, .ref (ad 0 0)), (1, .int a0), (2, .int b0), (3, .int k0), (4, .ref ao)]) C d_La_differs_15 (by decide) rfl ?_
      refine hg_iconst (v := 1) C d_La_differs_17 (by decide) ?_
      exact hg_iret C hr rfl d_La_differs_18 (Nat.le_of_ble_eq_true rfl) (Nat.le_of_ble_eq_true rfl) (⟨by rw [c1], u, ad, g, rfl, hcr, hua, rfl, fun z => absurd (c1.symm.trans z) (by decide)⟩)
    · exact absurd c1 gd_n2
abbrev rm_La_broken : Room := { frames := 8, cells := 2, slots := 12, locals := 138 }
set_option maxHeartbeats 4000000 in
set_option maxRecDepth 100000 in
theorem k_La_broken (l : Launch) (hl9 : l.stackTraces = false) (Γ : Gam) (hX : Pic) (ad : Nat → Nat → Nat) (M : Mem) (hC : cr_at Γ ad M hX) (hIv : Ivr M) (ao : Nat) (hao : hX ao = none) (g : Nat → Int64) (v0 k0 : Int32) : kM l Γ y_La_broken w_La_broken rm_La_broken [.ref (ad 0 0), .int v0, .int k0, .ref ao] (hp_up hX ao (.inl (Γ.2.1 1, 1, .inr (.inl g)))) (lwQ Γ ad ao (sp_broken M v0 k0)) (fun _ _ => False) 2 12 := by
  refine hg_entryH (own := "ModelMergeLaw") (cc := b_La_broken) (maxL := 5) (ret := (some .int)) (hh := [(0, 10, 13, 13)]) (lv0 := [(0, .ref (ad 0 0)), (1, .int v0), (2, .int k0), (3, .ref ao)]) (by decide) rfl rfl (Nat.le_of_ble_eq_true rfl) rfl ?_
  intro p e s m args below meth c A C ht hr
  have hsub : ∀ q x, hX q = some x → hp_up hX ao (.inl (Γ.2.1 1, 1, .inr (.inl g))) q = some x := fun q x hx => by rw [hp_up_n (fun z => by rw [z, hao] at hx; cases hx)]; exact hx
  have kxo : hX (ad 0 0) = some (.inr (6, [.ref (ad 1 0), .ref (ad 2 0), .int (M 1 0), .ref (ad 3 0), .int (M 9 0), .ref (ad 4 0), .int (M 4 0), .ref (ad 14 (nV M - 1)), .ref (ad 5 0), .int (M 22 0), .ref (ad 6 0), cr_pen ad M])) := hC.1 0 0 (liv0 (by omega))
  refine hg_aload_n C 3 d_La_broken_0 rfl rfl ?_
  refine hg_iconst (v := 0) C d_La_broken_1 (by decide) ?_
  refine hg_aload_n C 0 d_La_broken_2 rfl rfl ?_
  refine hg_iload_n C 1 d_La_broken_3 rfl rfl ?_
  refine hg_iload_n C 2 d_La_broken_4 rfl rfl ?_
  refine hg_VF (q := ("ModelMerge", T_MM, 12)) C hsub (k_MM_broken l hl9 Γ hX ad M hC hIv.1 v0 k0) (cw_La_81 C.2.2.2.2.1 rfl rfl ⟨Nat.le_of_ble_eq_true rfl, Nat.le_of_ble_eq_true rfl⟩) kxo rfl rfl rfl (Nat.le_of_ble_eq_true rfl) d_La_broken_5 ⟨Nat.le_of_ble_eq_true rfl, Nat.le_of_ble_eq_true rfl⟩ (fun r u hq hd => ?_) (fun E u hq hd => ?_)
  · have hua : u ao = none := by
      cases hz : u ao with
      | none => rfl
      | some y =>
        have y9 := hd ao y hz hao
        rw [hp_up_s] at y9
        cases y9
    obtain ⟨rfl, hc0, ad', ha0, hcr⟩ := hq
    refine hg_eq (mrg_up hao hua) ?_
    have ko : hp_up u ao (.inl (Γ.2.1 1, 1, .inr (.inl g))) ao = some (.inl (Γ.2.1 1, 1, .inr (.inl g))) := hp_up_s
    refine hg_i2l C d_La_broken_8 rfl ?_
    refine hg_last C 1 ko rfl (show vp_in (nI 0) 1 from vp_in_nI (by omega) (by omega)) d_La_broken_9 ?_
    obtain ⟨h1, eh1⟩ : ∃ z, z = hp_up (hp_up u ao (.inl (Γ.2.1 1, 1, .inr (.inl g)))) ao (.inl ((Γ.2.1 1), 1, .inr (.inl (vp_updL g ((0 : Int32).toNatClampNeg) (((sp_broken M v0 k0).2.1).toInt64))))) := ⟨_, rfl⟩
    refine hg_eq eh1.symm ?_
    have k2 : h1 ao = some (.inl ((Γ.2.1 1), 1, .inr (.inl (vp_updL g ((0 : Int32).toNatClampNeg) (((sp_broken M v0 k0).2.1).toInt64))))) := by rw [eh1]; exact hp_up_s
    refine hg_goto C 17 d_La_broken_10 (by decide) ?_
    refine hg_iconst (v := 0) C d_La_broken_17 (by decide) ?_
    exact hg_iret C hr rfl d_La_broken_18 (Nat.le_of_ble_eq_true rfl) (Nat.le_of_ble_eq_true rfl) (⟨by rw [hc0], u, ad', _, ha0, hcr, hua, by rw [eh1, hp_up_up], fun _ => updL_0⟩)
  · have hua : u ao = none := by
      cases hz : u ao with
      | none => rfl
      | some y =>
        have y9 := hd ao y hz hao
        rw [hp_up_s] at y9
        cases y9
    rw [mrg_up hao hua]
    obtain ⟨hE, hcr⟩ := hq
    rcases hE with ⟨rfl, c1⟩ | ⟨rfl, c1⟩
    · refine hg_catch (hpc := 13) C [] ⟨0, 10, 13, 13⟩ [] ht (fun z hz => by cases hz) (by decide) (by decide) (C.2.2.2.2.1 _ (kc kw122)) (va_Nw.use rfl (C.2.2.2.2.2.2.1.2.2.2.2.1 (Cond.castable "java/lang/IllegalArgumentException" "java/lang/IllegalArgumentException") (by decide +kernel)).2) rfl (fun q => ?_)
      refine hg_astore (lv' := [(4, .ref q), (0, .ref (ad 0 0)), (1, .int v0), (2, .int k0), (3, .ref ao)]) C d_La_broken_13 (by decide) rfl ?_
      refine hg_iconst (v := 1) C d_La_broken_15 (by decide) ?_
      exact hg_iret C hr rfl d_La_broken_16 (Nat.le_of_ble_eq_true rfl) (Nat.le_of_ble_eq_true rfl) (⟨by rw [c1], u, ad, g, rfl, hcr, hua, rfl, fun z => absurd (c1.symm.trans z) (by decide)⟩)
    · exact absurd c1 gd_n2
