/-! THE CLASS: applySettling, joinThing, joinedState -/
noncomputable def s_stl (F G : Nat → Int32) (t f : Int32) : Nat → Int32 := if f = -1 then s_cpy F G t else s_put F t f (s_val G t f)
abbrev rm_MM_applySettling : Room := { frames := 4, cells := 0, slots := 0, locals := 88 }
set_option maxHeartbeats 4000000 in
set_option maxRecDepth 100000 in
theorem k_MM_applySettling (l : Launch) (Γ : Gam) (h : Pic) (a b a2 b2 : Nat) (F G : Nat → Int32) (ha : h a = some (.inr (4, [.ref b]))) (hb : h b = some (.inl (Γ.2.1 0, 360, .inl F))) (ha2 : h a2 = some (.inr (4, [.ref b2]))) (hb2 : h b2 = some (.inl (Γ.2.1 0, 360, .inl G))) (hbb : b2 ≠ b) (t f : Int32) : kN l Γ y_MM_applySettling w_MM_applySettling rm_MM_applySettling [.ref a, .ref a2, .int t, .int f] h (fun r u => r = none ∧ u = hp_up h b (.inl (Γ.2.1 0, 360, .inl (s_stl F G t f)))) 0 0 := by
  refine hg_entryN (own := "ModelMerge") (cc := b_MM_applySettling) (maxL := 4) (ret := none) (lv0 := [(0, .ref a), (1, .ref a2), (2, .int t), (3, .int f)]) (by decide) rfl rfl (Nat.le_of_ble_eq_true rfl) rfl ?_
  intro p e s m args below meth c A C hnm hr
  refine hg_iload_n C 3 d_MM_applySettling_0 rfl rfl ?_
  refine hg_iconst (v := (-1)) C d_MM_applySettling_1 (by decide) ?_
  refine hg_icmp_ne C 14 d_MM_applySettling_2 (by decide) (fun c2 => ?_) (fun c2 => ?_)
  · refine hg_aload_n C 0 d_MM_applySettling_14 rfl rfl ?_
    refine hg_iload_n C 2 d_MM_applySettling_15 rfl rfl ?_
    refine hg_iload_n C 3 d_MM_applySettling_16 rfl rfl ?_
    refine hg_aload_n C 1 d_MM_applySettling_17 rfl rfl ?_
    refine hg_iload_n C 2 d_MM_applySettling_18 rfl rfl ?_
    refine hg_iload_n C 3 d_MM_applySettling_19 rfl rfl ?_
    refine hg_VNv (q := ("ModelMerge$State", T_St, 1)) C (k_St_value l Γ _ a2 b2 G ha2 hb2 t f) (cw_MM_151 C.2.2.2.2.1 rfl rfl ⟨Nat.le_of_ble_eq_true rfl, Nat.le_of_ble_eq_true rfl⟩) ha2 rfl rfl rfl (Nat.le_of_ble_eq_true rfl) d_MM_applySettling_20 ⟨Nat.le_of_ble_eq_true rfl, Nat.le_of_ble_eq_true rfl⟩ (fun _ => ?_)
    refine hg_VNz (q := ("ModelMerge$State", T_St, 1)) C (k_St_put l Γ _ a b F ha hb t f (s_val G t f)) (cw_MM_292 C.2.2.2.2.1 rfl rfl ⟨Nat.le_of_ble_eq_true rfl, Nat.le_of_ble_eq_true rfl⟩) ha rfl rfl rfl (Nat.le_of_ble_eq_true rfl) d_MM_applySettling_23 ⟨Nat.le_of_ble_eq_true rfl, Nat.le_of_ble_eq_true rfl⟩ (fun h1 eh1 => ?_)
    have k2 : h1 a = some (.inr (4, [.ref b])) := by rw [eh1]; exact hp_up_g ha (fun z => by rw [z, hb] at ha; cases ha)
    have k3 : h1 a2 = some (.inr (4, [.ref b2])) := by rw [eh1]; exact hp_up_g ha2 (fun z => by rw [z, hb] at ha2; cases ha2)
    have k4 : h1 b2 = some (.inl ((Γ.2.1 0), 360, .inl G)) := by rw [eh1]; exact hp_up_g hb2 hbb
    have k5 : h1 b = some (.inl ((Γ.2.1 0), 360, .inl (s_put F t f (s_val G t f)))) := by rw [eh1]; exact hp_up_s
    exact hg_vretN C hr d_MM_applySettling_26 (Nat.le_of_ble_eq_true rfl) (Nat.le_of_ble_eq_true rfl) (⟨rfl, by rw [s_stl, if_neg c2]; exact eh1⟩)
  · refine hg_aload_n C 0 d_MM_applySettling_5 rfl rfl ?_
    refine hg_aload_n C 1 d_MM_applySettling_6 rfl rfl ?_
    refine hg_iload_n C 2 d_MM_applySettling_7 rfl rfl ?_
    refine hg_VNz (q := ("ModelMerge$State", T_St, 1)) C (k_St_copyThing l Γ _ a b a2 b2 F G ha hb ha2 hb2 hbb t) (cw_MM_295 C.2.2.2.2.1 rfl rfl ⟨Nat.le_of_ble_eq_true rfl, Nat.le_of_ble_eq_true rfl⟩) ha rfl rfl rfl (Nat.le_of_ble_eq_true rfl) d_MM_applySettling_8 ⟨Nat.le_of_ble_eq_true rfl, Nat.le_of_ble_eq_true rfl⟩ (fun h6 eh6 => ?_)
    refine hg_goto C 26 d_MM_applySettling_11 (by decide) ?_
    exact hg_vretN C hr d_MM_applySettling_26 (Nat.le_of_ble_eq_true rfl) (Nat.le_of_ble_eq_true rfl) (⟨rfl, by rw [s_stl, if_pos c2]; exact eh6⟩)
theorem fn_0 : fn (fun _ _ => 0) = fun _ => 0 := funext fun j => by
  unfold fn
  split <;> rfl
theorem j_stp {K K0 : Nat → Nat → Int32} {w : Nat → Int32} {t f : Nat} {v : Int32} (hK : ∀ t' g', t' < 60 → g' < 6 → K t' g' = if t' = t ∧ g' < f + 1 then w g' else K0 t' g') (hv : v = w (f + 1)) : ∀ t' g', t' < 60 → g' < 6 → fc1c K t (f + 1) v t' g' = if t' = t ∧ g' < f + 1 + 1 then w g' else K0 t' g' := by
  intro t' g' h1 h2
  unfold fc1c
  by_cases h : t' = t ∧ g' = f + 1
  · rw [if_pos h, if_pos ⟨h.1, by omega⟩, hv, h.2]
  · rw [if_neg h, hK t' g' h1 h2]
    by_cases q : t' = t ∧ g' < f + 1
    · rw [if_pos q, if_pos ⟨q.1, by omega⟩]
    · rw [if_neg q, if_neg (fun z => by omega)]
theorem jt_fin {K K0 : Nat → Nat → Int32} {w : Nat → Int32} {t f : Nat} (hf : f = 5) (hK : ∀ t' g', t' < 60 → g' < 6 → K t' g' = if t' = t ∧ g' < f + 1 then w g' else K0 t' g') : fn K = fn (frow K0 t w) := fn_cg fun t' g' x y => by
  rw [hK t' g' x y, frow]
  by_cases q : t' = t
  · rw [if_pos ⟨q, by omega⟩, if_pos q]
  · rw [if_neg (fun z => q z.1), if_neg q]
theorem jt_st {K : Nat → Nat → Int32} {w : Nat → Int32} {t : Nat} (hw : w 0 = 1) : ∀ t' g', t' < 60 → g' < 6 → fc1c K t 0 1 t' g' = if t' = t ∧ g' < 0 + 1 then w g' else K t' g' := fun t' g' _ _ => by
  unfold fc1c
  by_cases q : t' = t ∧ g' = 0
  · rw [if_pos q, if_pos ⟨q.1, by omega⟩, q.2, hw]
  · rw [if_neg q, if_neg (fun z => q ⟨z.1, by omega⟩)]
theorem js_st {K : Nat → Nat → Int32} {w : Nat → Nat → Int32} {t : Nat} (hK : ∀ t' g, t' < 60 → g < 6 → K t' g = if t' < t then w t' g else 0) : ∀ t' g, t' < 60 → g < 6 → frow K t (w t) t' g = if t' < t + 1 then w t' g else 0 := fun t' g x y => by
  rw [frow]
  by_cases q : t' = t
  · rw [if_pos q, if_pos (by omega), q]
  · rw [if_neg q, hK t' g x y]
    by_cases q2 : t' < t
    · rw [if_pos q2, if_pos (by omega)]
    · rw [if_neg q2, if_neg (by omega)]
abbrev rm_MM_joinThing : Room := { frames := 4, cells := 0, slots := 0, locals := 88 }
set_option maxHeartbeats 4000000 in
set_option maxRecDepth 100000 in
theorem lp_MM_jt (l : Launch) (Γ : Gam) {p : Program} {e : Env} {s : State} {m : MethodId} {args : Array Value} {below : List Frame} {meth : Method} {c : Code} {A : Nat → Prop} (C : hp_C p s m args meth c b_MM_joinThing 9 "ModelMerge" w_MM_joinThing Γ.1 kcl (ktys Γ.2.1) (ksts Γ.2.2) knws A) {h0 : Pic} {a b a1 b1 a2 b2 a3 b3 t : Nat} {K0 : Nat → Nat → Int32} {FB FM FT : Nat → Int32} (ka : h0 a = some (.inr (4, [.ref b]))) (ka1 : h0 a1 = some (.inr (4, [.ref b1]))) (kb1 : h0 b1 = some (.inl (Γ.2.1 0, 360, .inl FB))) (ka2 : h0 a2 = some (.inr (4, [.ref b2]))) (kb2 : h0 b2 = some (.inl (Γ.2.1 0, 360, .inl FM))) (ka3 : h0 a3 = some (.inr (4, [.ref b3]))) (kb3 : h0 b3 = some (.inl (Γ.2.1 0, 360, .inl FT))) (kb : h0 b = some (.inl (Γ.2.1 0, 360, .inl (fn K0)))) (e1 : b1 ≠ b) (e2 : b2 ≠ b) (e3 : b3 ≠ b) (ht : t < 60) (hm0 : s_has FM (nI t)) (ht0 : s_has FT (nI t)) (hr : meth.sig.returnType = none)  :
    ∀ (n9 : Nat) (f : Nat) (h : Pic) (K : Nat → Nat → Int32), (h = hp_up h0 b (.inl (Γ.2.1 0, 360, .inl (fn K)))) → (∀ t' g', t' < 60 → g' < 6 → K t' g' = if t' = t ∧ g' < f + 1 then jr FB FM FT t g' else K0 t' g') → (f ≤ 5) → (5 + 1 ≤ f + n9) → hp_G p l e rm_MM_joinThing s m args below meth c Γ.1 kcl A 9 (hp_NQ below Γ.1 kcl A (fun r u => r = none ∧ u = hp_up h0 b (.inl (Γ.2.1 0, 360, .inl (fn (frow K0 t (jr FB FM FT t)))))) args s 0 0) 0 0 39 [(6, .int (nI f)), (5, .ref a2), (1, .ref a), (2, .ref a1), (3, .ref a3), (4, .int (nI t))] [] h := by
  intro n9
  induction n9 with
  | zero =>
    intro f h K he hK hf hm
    exact absurd hm (by omega)
  | succ n9 ih =>
    intro f h K he hK hf hm
    have ha : h a = some (.inr (4, [.ref b])) := by rw [he]; exact hp_up_g ka (fun z => by rw [z, kb] at ka; cases ka)
    have ha1 : h a1 = some (.inr (4, [.ref b1])) := by rw [he]; exact hp_up_g ka1 (fun z => by rw [z, kb] at ka1; cases ka1)
    have ha2 : h a2 = some (.inr (4, [.ref b2])) := by rw [he]; exact hp_up_g ka2 (fun z => by rw [z, kb] at ka2; cases ka2)
    have ha3 : h a3 = some (.inr (4, [.ref b3])) := by rw [he]; exact hp_up_g ka3 (fun z => by rw [z, kb] at ka3; cases ka3)
    have hb1 : h b1 = some (.inl (Γ.2.1 0, 360, .inl FB)) := by rw [he]; exact hp_up_g kb1 e1
    have hb2 : h b2 = some (.inl (Γ.2.1 0, 360, .inl FM)) := by rw [he]; exact hp_up_g kb2 e2
    have hb3 : h b3 = some (.inl (Γ.2.1 0, 360, .inl FT)) := by rw [he]; exact hp_up_g kb3 e3
    have hb : h b = some (.inl (Γ.2.1 0, 360, .inl (fn K))) := by rw [he]; exact hp_up_s
    refine hg_iload C 0 d_MM_joinThing_39 rfl ?_
    refine hg_iconst (v := 5) C d_MM_joinThing_41 (by decide) ?_
    refine hg_icmp_ge C 108 d_MM_joinThing_42 (by decide) (fun c42 => ?_) (fun c42 => ?_)
    · have c42n : 5 ≤ f := (nI_leI (a := 5) (b := f) (by omega) (by omega)).mp c42
      refine hg_goto C 138 d_MM_joinThing_108 (by decide) ?_
      exact hg_vretN C hr d_MM_joinThing_138 (Nat.le_of_ble_eq_true rfl) (Nat.le_of_ble_eq_true rfl) (⟨rfl, by rw [he, jt_fin (show f = 5 by omega) hK]⟩)
    · have c42n : ¬ 5 ≤ f := fun z => c42 (nI_le (a := 5) (b := f) z (by omega))
      refine hg_aload_n C 4 d_MM_joinThing_45 rfl rfl ?_
      refine hg_iload C 5 d_MM_joinThing_46 rfl ?_
      refine hg_iload C 0 d_MM_joinThing_48 rfl ?_
      refine hg_VNv (q := ("ModelMerge$State", T_St, 1)) C (k_St_value l Γ _ a3 b3 FT ha3 hb3 (nI t) (nI f)) (cw_MM_151 C.2.2.2.2.1 rfl rfl ⟨Nat.le_of_ble_eq_true rfl, Nat.le_of_ble_eq_true rfl⟩) ha3 rfl rfl rfl (Nat.le_of_ble_eq_true rfl) d_MM_joinThing_50 ⟨Nat.le_of_ble_eq_true rfl, Nat.le_of_ble_eq_true rfl⟩ (fun _ => ?_)
      refine hg_istore (lv' := [(7, .int (s_val FT (nI t) (nI f))), (6, .int (nI f)), (5, .ref a2), (1, .ref a), (2, .ref a1), (3, .ref a3), (4, .int (nI t))]) C d_MM_joinThing_53 (by decide) rfl ?_
      refine hg_iload C 0 d_MM_joinThing_55 rfl ?_
      refine hg_aload_n C 4 d_MM_joinThing_57 rfl rfl ?_
      refine hg_iload C 6 d_MM_joinThing_58 rfl ?_
      refine hg_iload C 1 d_MM_joinThing_60 rfl ?_
      refine hg_VNv (q := ("ModelMerge$State", T_St, 1)) C (k_St_value l Γ _ a1 b1 FB ha1 hb1 (nI t) (nI f)) (cw_MM_151 C.2.2.2.2.1 rfl rfl ⟨Nat.le_of_ble_eq_true rfl, Nat.le_of_ble_eq_true rfl⟩) ha1 rfl rfl rfl (Nat.le_of_ble_eq_true rfl) d_MM_joinThing_62 ⟨Nat.le_of_ble_eq_true rfl, Nat.le_of_ble_eq_true rfl⟩ (fun _ => ?_)
      refine hg_icmp_eq C 72 d_MM_joinThing_65 (by decide) (fun c65 => ?_) (fun c65 => ?_)
      · refine hg_iconst (v := 0) C d_MM_joinThing_72 (by decide) ?_
        refine hg_istore (lv' := [(8, .int 0), (7, .int (s_val FT (nI t) (nI f))), (6, .int (nI f)), (5, .ref a2), (1, .ref a), (2, .ref a1), (3, .ref a3), (4, .int (nI t))]) C d_MM_joinThing_73 (by decide) rfl ?_
        refine hg_aload_n C 4 d_MM_joinThing_75 rfl rfl ?_
        refine hg_iload C 7 d_MM_joinThing_76 rfl ?_
        refine hg_iload C 2 d_MM_joinThing_78 rfl ?_
        refine hg_iload C 0 d_MM_joinThing_80 rfl ?_
        refine hg_if_eq C 90 d_MM_joinThing_82 (by decide) (fun _ => ?_) (fun z => absurd (by decide) z)
        refine hg_aload C 3 d_MM_joinThing_90 rfl ?_
        refine hg_iload C 7 d_MM_joinThing_92 rfl ?_
        refine hg_iload C 2 d_MM_joinThing_94 rfl ?_
        refine hg_VNv (q := ("ModelMerge$State", T_St, 1)) C (k_St_value l Γ _ a2 b2 FM ha2 hb2 (nI t) (nI f)) (cw_MM_151 C.2.2.2.2.1 rfl rfl ⟨Nat.le_of_ble_eq_true rfl, Nat.le_of_ble_eq_true rfl⟩) ha2 rfl rfl rfl (Nat.le_of_ble_eq_true rfl) d_MM_joinThing_96 ⟨Nat.le_of_ble_eq_true rfl, Nat.le_of_ble_eq_true rfl⟩ (fun _ => ?_)
        refine hg_VNz (q := ("ModelMerge$State", T_St, 1)) C (k_St_put l Γ _ a b (fn K) ha hb (nI t) (nI f) (s_val FM (nI t) (nI f))) (cw_MM_292 C.2.2.2.2.1 rfl rfl ⟨Nat.le_of_ble_eq_true rfl, Nat.le_of_ble_eq_true rfl⟩) ha rfl rfl rfl (Nat.le_of_ble_eq_true rfl) d_MM_joinThing_99 ⟨Nat.le_of_ble_eq_true rfl, Nat.le_of_ble_eq_true rfl⟩ (fun h1 eh1 => ?_)
        have k2 : h1 a = some (.inr (4, [.ref b])) := by rw [eh1]; exact hp_up_g ha (fun z => by rw [z, hb] at ha; cases ha)
        have k3 : h1 a1 = some (.inr (4, [.ref b1])) := by rw [eh1]; exact hp_up_g ha1 (fun z => by rw [z, hb] at ha1; cases ha1)
        have k4 : h1 b1 = some (.inl ((Γ.2.1 0), 360, .inl FB)) := by rw [eh1]; exact hp_up_g hb1 e1
        have k5 : h1 a2 = some (.inr (4, [.ref b2])) := by rw [eh1]; exact hp_up_g ha2 (fun z => by rw [z, hb] at ha2; cases ha2)
        have k6 : h1 b2 = some (.inl ((Γ.2.1 0), 360, .inl FM)) := by rw [eh1]; exact hp_up_g hb2 e2
        have k7 : h1 a3 = some (.inr (4, [.ref b3])) := by rw [eh1]; exact hp_up_g ha3 (fun z => by rw [z, hb] at ha3; cases ha3)
        have k8 : h1 b3 = some (.inl ((Γ.2.1 0), 360, .inl FT)) := by rw [eh1]; exact hp_up_g hb3 e3
        have k9 : h1 b = some (.inl ((Γ.2.1 0), 360, .inl (s_put (fn K) (nI t) (nI f) (s_val FM (nI t) (nI f))))) := by rw [eh1]; exact hp_up_s
        refine hg_iinc (v := nI (f + 1)) (lv' := [(6, .int (nI (f + 1))), (8, .int 0), (7, .int (s_val FT (nI t) (nI f))), (5, .ref a2), (1, .ref a), (2, .ref a1), (3, .ref a3), (4, .int (nI t))]) C 2 d_MM_joinThing_102 rfl (nI_1 f) (by decide) rfl ?_
        refine hg_goto C 39 d_MM_joinThing_105 (by decide) ?_
        exact hg_lv (ks := [0, 3, 4, 5, 6, 7]) rfl (ih (f + 1) h1 (fc1c K t (f + 1) (s_val FM (nI t) (nI f))) (by rw [eh1, he, hp_up_up, fn_f ht (by omega)]) (j_stp hK (by rw [jr, if_pos ⟨hm0, ht0⟩, if_neg (by omega), Nat.add_sub_cancel, jf, if_pos c65])) (by omega) (by omega))
      · refine hg_iconst (v := 1) C d_MM_joinThing_68 (by decide) ?_
        refine hg_goto C 73 d_MM_joinThing_69 (by decide) ?_
        refine hg_istore (lv' := [(8, .int 1), (7, .int (s_val FT (nI t) (nI f))), (6, .int (nI f)), (5, .ref a2), (1, .ref a), (2, .ref a1), (3, .ref a3), (4, .int (nI t))]) C d_MM_joinThing_73 (by decide) rfl ?_
        refine hg_aload_n C 4 d_MM_joinThing_75 rfl rfl ?_
        refine hg_iload C 7 d_MM_joinThing_76 rfl ?_
        refine hg_iload C 2 d_MM_joinThing_78 rfl ?_
        refine hg_iload C 0 d_MM_joinThing_80 rfl ?_
        refine hg_if_eq C 90 d_MM_joinThing_82 (by decide) (fun z => absurd z (by decide)) (fun _ => ?_)
        refine hg_iload C 1 d_MM_joinThing_85 rfl ?_
        refine hg_goto C 99 d_MM_joinThing_87 (by decide) ?_
        refine hg_VNz (q := ("ModelMerge$State", T_St, 1)) C (k_St_put l Γ _ a b (fn K) ha hb (nI t) (nI f) (s_val FT (nI t) (nI f))) (cw_MM_292 C.2.2.2.2.1 rfl rfl ⟨Nat.le_of_ble_eq_true rfl, Nat.le_of_ble_eq_true rfl⟩) ha rfl rfl rfl (Nat.le_of_ble_eq_true rfl) d_MM_joinThing_99 ⟨Nat.le_of_ble_eq_true rfl, Nat.le_of_ble_eq_true rfl⟩ (fun h10 eh10 => ?_)
        have k11 : h10 a = some (.inr (4, [.ref b])) := by rw [eh10]; exact hp_up_g ha (fun z => by rw [z, hb] at ha; cases ha)
        have k12 : h10 a1 = some (.inr (4, [.ref b1])) := by rw [eh10]; exact hp_up_g ha1 (fun z => by rw [z, hb] at ha1; cases ha1)
        have k13 : h10 b1 = some (.inl ((Γ.2.1 0), 360, .inl FB)) := by rw [eh10]; exact hp_up_g hb1 e1
        have k14 : h10 a2 = some (.inr (4, [.ref b2])) := by rw [eh10]; exact hp_up_g ha2 (fun z => by rw [z, hb] at ha2; cases ha2)
        have k15 : h10 b2 = some (.inl ((Γ.2.1 0), 360, .inl FM)) := by rw [eh10]; exact hp_up_g hb2 e2
        have k16 : h10 a3 = some (.inr (4, [.ref b3])) := by rw [eh10]; exact hp_up_g ha3 (fun z => by rw [z, hb] at ha3; cases ha3)
        have k17 : h10 b3 = some (.inl ((Γ.2.1 0), 360, .inl FT)) := by rw [eh10]; exact hp_up_g hb3 e3
        have k18 : h10 b = some (.inl ((Γ.2.1 0), 360, .inl (s_put (fn K) (nI t) (nI f) (s_val FT (nI t) (nI f))))) := by rw [eh10]; exact hp_up_s
        refine hg_iinc (v := nI (f + 1)) (lv' := [(6, .int (nI (f + 1))), (8, .int 1), (7, .int (s_val FT (nI t) (nI f))), (5, .ref a2), (1, .ref a), (2, .ref a1), (3, .ref a3), (4, .int (nI t))]) C 2 d_MM_joinThing_102 rfl (nI_1 f) (by decide) rfl ?_
        refine hg_goto C 39 d_MM_joinThing_105 (by decide) ?_
        exact hg_lv (ks := [0, 3, 4, 5, 6, 7]) rfl (ih (f + 1) h10 (fc1c K t (f + 1) (s_val FT (nI t) (nI f))) (by rw [eh10, he, hp_up_up, fn_f ht (by omega)]) (j_stp hK (by rw [jr, if_pos ⟨hm0, ht0⟩, if_neg (by omega), Nat.add_sub_cancel, jf, if_neg c65])) (by omega) (by omega))
set_option maxHeartbeats 4000000 in
set_option maxRecDepth 100000 in
theorem k_MM_joinThing (l : Launch) (Γ : Gam) (h : Pic) (ad : Nat → Nat → Nat) (M : Mem) (kx : h (ad 0 0) = some (.inr (6, [.ref (ad 1 0), .ref (ad 2 0), .int (M 1 0), .ref (ad 3 0), .int (M 9 0), .ref (ad 4 0), .int (M 4 0), .ref (ad 14 (nV M - 1)), .ref (ad 5 0), .int (M 22 0), .ref (ad 6 0), cr_pen ad M]))) (n1 n2 : Int32) (a b a1 b1 a2 b2 a3 b3 o2 : Nat) (K : Nat → Nat → Int32) (FB FM FT : Nat → Int32) (hv : h (ad 14 (nV M - 1)) = some (.inr (5, [.int n1, .int n2, .ref a2, .ref o2]))) (ha : h a = some (.inr (4, [.ref b]))) (hb : h b = some (.inl (Γ.2.1 0, 360, .inl (fn K)))) (ha1 : h a1 = some (.inr (4, [.ref b1]))) (hb1 : h b1 = some (.inl (Γ.2.1 0, 360, .inl FB))) (ha2 : h a2 = some (.inr (4, [.ref b2]))) (hb2 : h b2 = some (.inl (Γ.2.1 0, 360, .inl FM))) (ha3 : h a3 = some (.inr (4, [.ref b3]))) (hb3 : h b3 = some (.inl (Γ.2.1 0, 360, .inl FT))) (e1 : b1 ≠ b) (e2 : b2 ≠ b) (e3 : b3 ≠ b) (t : Nat) (ht : t < 60) : kN l Γ y_MM_joinThing w_MM_joinThing rm_MM_joinThing [.ref (ad 0 0), .ref a, .ref a1, .ref a3, .int (nI t)] h (fun r u => r = none ∧ u = hp_up h b (.inl (Γ.2.1 0, 360, .inl (fn (frow K t (jr FB FM FT t)))))) 0 0 := by
  refine hg_entryN (own := "ModelMerge") (cc := b_MM_joinThing) (maxL := 9) (ret := none) (lv0 := [(0, .ref (ad 0 0)), (1, .ref a), (2, .ref a1), (3, .ref a3), (4, .int (nI t))]) (by decide) rfl rfl (Nat.le_of_ble_eq_true rfl) rfl ?_
  intro p e s m args below meth c A C hnm hr
  refine hg_aload_n C 0 d_MM_joinThing_0 rfl rfl ?_
  refine f_MM_64 C kx rfl d_MM_joinThing_1 ?_
  refine f_MM_147 C hv rfl d_MM_joinThing_4 ?_
  refine hg_astore (lv' := [(5, .ref a2), (0, .ref (ad 0 0)), (1, .ref a), (2, .ref a1), (3, .ref a3), (4, .int (nI t))]) C d_MM_joinThing_7 (by decide) rfl ?_
  refine hg_aload C 0 d_MM_joinThing_9 rfl ?_
  refine hg_iload C 5 d_MM_joinThing_11 rfl ?_
  refine hg_VNb (q := ("ModelMerge$State", T_St, 1)) C (k_St_has l Γ _ a2 b2 FM ha2 hb2 (nI t)) (cw_MM_243 C.2.2.2.2.1 rfl rfl ⟨Nat.le_of_ble_eq_true rfl, Nat.le_of_ble_eq_true rfl⟩) ha2 rfl rfl rfl (Nat.le_of_ble_eq_true rfl) d_MM_joinThing_13 ⟨Nat.le_of_ble_eq_true rfl, Nat.le_of_ble_eq_true rfl⟩ (fun z1 => ?_) (fun z1 => ?_)
  · refine hg_if_eq C 111 d_MM_joinThing_16 (by decide) (fun z => absurd z (by decide)) (fun _ => ?_)
    refine hg_aload_n C 4 d_MM_joinThing_19 rfl rfl ?_
    refine hg_iload C 5 d_MM_joinThing_20 rfl ?_
    refine hg_VNb (q := ("ModelMerge$State", T_St, 1)) C (k_St_has l Γ _ a3 b3 FT ha3 hb3 (nI t)) (cw_MM_243 C.2.2.2.2.1 rfl rfl ⟨Nat.le_of_ble_eq_true rfl, Nat.le_of_ble_eq_true rfl⟩) ha3 rfl rfl rfl (Nat.le_of_ble_eq_true rfl) d_MM_joinThing_22 ⟨Nat.le_of_ble_eq_true rfl, Nat.le_of_ble_eq_true rfl⟩ (fun z2 => ?_) (fun z2 => ?_)
    · refine hg_if_eq C 111 d_MM_joinThing_25 (by decide) (fun z => absurd z (by decide)) (fun _ => ?_)
      refine hg_aload_n C 2 d_MM_joinThing_28 rfl rfl ?_
      refine hg_iload C 5 d_MM_joinThing_29 rfl ?_
      refine hg_iconst (v := (-1)) C d_MM_joinThing_31 (by decide) ?_
      refine hg_iconst (v := 1) C d_MM_joinThing_32 (by decide) ?_
      refine hg_VNz (q := ("ModelMerge$State", T_St, 1)) C (k_St_put l Γ _ a b (fn K) ha hb (nI t) (-1) 1) (cw_MM_292 C.2.2.2.2.1 rfl rfl ⟨Nat.le_of_ble_eq_true rfl, Nat.le_of_ble_eq_true rfl⟩) ha rfl rfl rfl (Nat.le_of_ble_eq_true rfl) d_MM_joinThing_33 ⟨Nat.le_of_ble_eq_true rfl, Nat.le_of_ble_eq_true rfl⟩ (fun h3 eh3 => ?_)
      have k4 : h3 (ad 0 0) = some (.inr (6, [.ref (ad 1 0), .ref (ad 2 0), .int (M 1 0), .ref (ad 3 0), .int (M 9 0), .ref (ad 4 0), .int (M 4 0), .ref (ad 14 (nV M - 1)), .ref (ad 5 0), .int (M 22 0), .ref (ad 6 0), cr_pen ad M])) := by rw [eh3]; exact hp_up_g kx (fun z => by rw [z, hb] at kx; cases kx)
      have k5 : h3 (ad 14 (nV M - 1)) = some (.inr (5, [.int n1, .int n2, .ref a2, .ref o2])) := by rw [eh3]; exact hp_up_g hv (fun z => by rw [z, hb] at hv; cases hv)
      have k6 : h3 a = some (.inr (4, [.ref b])) := by rw [eh3]; exact hp_up_g ha (fun z => by rw [z, hb] at ha; cases ha)
      have k7 : h3 a1 = some (.inr (4, [.ref b1])) := by rw [eh3]; exact hp_up_g ha1 (fun z => by rw [z, hb] at ha1; cases ha1)
      have k8 : h3 b1 = some (.inl ((Γ.2.1 0), 360, .inl FB)) := by rw [eh3]; exact hp_up_g hb1 e1
      have k9 : h3 a2 = some (.inr (4, [.ref b2])) := by rw [eh3]; exact hp_up_g ha2 (fun z => by rw [z, hb] at ha2; cases ha2)
      have k10 : h3 b2 = some (.inl ((Γ.2.1 0), 360, .inl FM)) := by rw [eh3]; exact hp_up_g hb2 e2
      have k11 : h3 a3 = some (.inr (4, [.ref b3])) := by rw [eh3]; exact hp_up_g ha3 (fun z => by rw [z, hb] at ha3; cases ha3)
      have k12 : h3 b3 = some (.inl ((Γ.2.1 0), 360, .inl FT)) := by rw [eh3]; exact hp_up_g hb3 e3
      have k13 : h3 b = some (.inl ((Γ.2.1 0), 360, .inl (s_put (fn K) (nI t) (-1) 1))) := by rw [eh3]; exact hp_up_s
      refine hg_iconst (v := 0) C d_MM_joinThing_36 (by decide) ?_
      refine hg_istore (lv' := [(6, .int 0), (5, .ref a2), (0, .ref (ad 0 0)), (1, .ref a), (2, .ref a1), (3, .ref a3), (4, .int (nI t))]) C d_MM_joinThing_37 (by decide) rfl ?_
      exact hg_lv (ks := [0, 1, 3, 4, 5, 6]) rfl (lp_MM_jt l Γ C ha ha1 hb1 ha2 hb2 ha3 hb3 hb e1 e2 e3 ht z1 z2 hr 6 0 h3 (fc1c K t 0 1) (by rw [eh3, fn_w ht]) (jt_st (w := jr FB FM FT t) (by rw [jr, if_pos ⟨z1, z2⟩, if_pos rfl])) (by omega) (by omega))
    · refine hg_if_eq C 111 d_MM_joinThing_25 (by decide) (fun _ => ?_) (fun z => absurd (by decide) z)
      refine hg_aload_n C 2 d_MM_joinThing_111 rfl rfl ?_
      refine hg_aload_n C 4 d_MM_joinThing_112 rfl rfl ?_
      refine hg_iload C 5 d_MM_joinThing_113 rfl ?_
      refine hg_VNb (q := ("ModelMerge$State", T_St, 1)) C (k_St_has l Γ _ a3 b3 FT ha3 hb3 (nI t)) (cw_MM_243 C.2.2.2.2.1 rfl rfl ⟨Nat.le_of_ble_eq_true rfl, Nat.le_of_ble_eq_true rfl⟩) ha3 rfl rfl rfl (Nat.le_of_ble_eq_true rfl) d_MM_joinThing_115 ⟨Nat.le_of_ble_eq_true rfl, Nat.le_of_ble_eq_true rfl⟩ (fun z14 => ?_) (fun z14 => ?_)
      · refine hg_aload_n C 3 d_MM_joinThing_118 rfl rfl ?_
        refine hg_iload C 5 d_MM_joinThing_119 rfl ?_
        refine hg_VNb (q := ("ModelMerge$State", T_St, 1)) C (k_St_has l Γ _ a1 b1 FB ha1 hb1 (nI t)) (cw_MM_243 C.2.2.2.2.1 rfl rfl ⟨Nat.le_of_ble_eq_true rfl, Nat.le_of_ble_eq_true rfl⟩) ha1 rfl rfl rfl (Nat.le_of_ble_eq_true rfl) d_MM_joinThing_121 ⟨Nat.le_of_ble_eq_true rfl, Nat.le_of_ble_eq_true rfl⟩ (fun z15 => ?_) (fun z15 => ?_)
        · refine hg_icmp_eq C 131 d_MM_joinThing_124 (by decide) (fun _ => ?_) (fun z => absurd (by decide) z)
          refine hg_aload C 0 d_MM_joinThing_131 rfl ?_
          refine hg_iload C 5 d_MM_joinThing_133 rfl ?_
          refine hg_VNz (q := ("ModelMerge$State", T_St, 1)) C (k_St_copyThing l Γ _ a b a2 b2 (fn K) FM ha hb ha2 hb2 e2 (nI t)) (cw_MM_295 C.2.2.2.2.1 rfl rfl ⟨Nat.le_of_ble_eq_true rfl, Nat.le_of_ble_eq_true rfl⟩) ha rfl rfl rfl (Nat.le_of_ble_eq_true rfl) d_MM_joinThing_135 ⟨Nat.le_of_ble_eq_true rfl, Nat.le_of_ble_eq_true rfl⟩ (fun h16 eh16 => ?_)
          exact hg_vretN C hr d_MM_joinThing_138 (Nat.le_of_ble_eq_true rfl) (Nat.le_of_ble_eq_true rfl) (absurd z14 z2)
        · refine hg_icmp_eq C 131 d_MM_joinThing_124 (by decide) (fun z => absurd z (by decide)) (fun _ => ?_)
          refine hg_aload_n C 4 d_MM_joinThing_127 rfl rfl ?_
          refine hg_goto C 133 d_MM_joinThing_128 (by decide) ?_
          refine hg_iload C 5 d_MM_joinThing_133 rfl ?_
          refine hg_VNz (q := ("ModelMerge$State", T_St, 1)) C (k_St_copyThing l Γ _ a b a3 b3 (fn K) FT ha hb ha3 hb3 e3 (nI t)) (cw_MM_295 C.2.2.2.2.1 rfl rfl ⟨Nat.le_of_ble_eq_true rfl, Nat.le_of_ble_eq_true rfl⟩) ha rfl rfl rfl (Nat.le_of_ble_eq_true rfl) d_MM_joinThing_135 ⟨Nat.le_of_ble_eq_true rfl, Nat.le_of_ble_eq_true rfl⟩ (fun h17 eh17 => ?_)
          exact hg_vretN C hr d_MM_joinThing_138 (Nat.le_of_ble_eq_true rfl) (Nat.le_of_ble_eq_true rfl) (absurd z14 z2)
      · refine hg_aload_n C 3 d_MM_joinThing_118 rfl rfl ?_
        refine hg_iload C 5 d_MM_joinThing_119 rfl ?_
        refine hg_VNb (q := ("ModelMerge$State", T_St, 1)) C (k_St_has l Γ _ a1 b1 FB ha1 hb1 (nI t)) (cw_MM_243 C.2.2.2.2.1 rfl rfl ⟨Nat.le_of_ble_eq_true rfl, Nat.le_of_ble_eq_true rfl⟩) ha1 rfl rfl rfl (Nat.le_of_ble_eq_true rfl) d_MM_joinThing_121 ⟨Nat.le_of_ble_eq_true rfl, Nat.le_of_ble_eq_true rfl⟩ (fun z18 => ?_) (fun z18 => ?_)
        · refine hg_icmp_eq C 131 d_MM_joinThing_124 (by decide) (fun z => absurd z (by decide)) (fun _ => ?_)
          refine hg_aload_n C 4 d_MM_joinThing_127 rfl rfl ?_
          refine hg_goto C 133 d_MM_joinThing_128 (by decide) ?_
          refine hg_iload C 5 d_MM_joinThing_133 rfl ?_
          refine hg_VNz (q := ("ModelMerge$State", T_St, 1)) C (k_St_copyThing l Γ _ a b a3 b3 (fn K) FT ha hb ha3 hb3 e3 (nI t)) (cw_MM_295 C.2.2.2.2.1 rfl rfl ⟨Nat.le_of_ble_eq_true rfl, Nat.le_of_ble_eq_true rfl⟩) ha rfl rfl rfl (Nat.le_of_ble_eq_true rfl) d_MM_joinThing_135 ⟨Nat.le_of_ble_eq_true rfl, Nat.le_of_ble_eq_true rfl⟩ (fun h19 eh19 => ?_)
          exact hg_vretN C hr d_MM_joinThing_138 (Nat.le_of_ble_eq_true rfl) (Nat.le_of_ble_eq_true rfl) (⟨rfl, by rw [eh19, fn_cpy ht, show jr FB FM FT t = rwo FT t from funext fun g => by rw [jr, if_neg (fun z => z2 z.2), if_neg (fun z => z14 (z.mpr z18))]]⟩)
        · refine hg_icmp_eq C 131 d_MM_joinThing_124 (by decide) (fun _ => ?_) (fun z => absurd (by decide) z)
          refine hg_aload C 0 d_MM_joinThing_131 rfl ?_
          refine hg_iload C 5 d_MM_joinThing_133 rfl ?_
          refine hg_VNz (q := ("ModelMerge$State", T_St, 1)) C (k_St_copyThing l Γ _ a b a2 b2 (fn K) FM ha hb ha2 hb2 e2 (nI t)) (cw_MM_295 C.2.2.2.2.1 rfl rfl ⟨Nat.le_of_ble_eq_true rfl, Nat.le_of_ble_eq_true rfl⟩) ha rfl rfl rfl (Nat.le_of_ble_eq_true rfl) d_MM_joinThing_135 ⟨Nat.le_of_ble_eq_true rfl, Nat.le_of_ble_eq_true rfl⟩ (fun h20 eh20 => ?_)
          exact hg_vretN C hr d_MM_joinThing_138 (Nat.le_of_ble_eq_true rfl) (Nat.le_of_ble_eq_true rfl) (⟨rfl, by rw [eh20, fn_cpy ht, show jr FB FM FT t = rwo FM t from funext fun g => by rw [jr, if_neg (fun z => z2 z.2), if_pos (⟨fun z => absurd z z14, fun z => absurd z z18⟩)]]⟩)
  · refine hg_if_eq C 111 d_MM_joinThing_16 (by decide) (fun _ => ?_) (fun z => absurd (by decide) z)
    refine hg_aload_n C 2 d_MM_joinThing_111 rfl rfl ?_
    refine hg_aload_n C 4 d_MM_joinThing_112 rfl rfl ?_
    refine hg_iload C 5 d_MM_joinThing_113 rfl ?_
    refine hg_VNb (q := ("ModelMerge$State", T_St, 1)) C (k_St_has l Γ _ a3 b3 FT ha3 hb3 (nI t)) (cw_MM_243 C.2.2.2.2.1 rfl rfl ⟨Nat.le_of_ble_eq_true rfl, Nat.le_of_ble_eq_true rfl⟩) ha3 rfl rfl rfl (Nat.le_of_ble_eq_true rfl) d_MM_joinThing_115 ⟨Nat.le_of_ble_eq_true rfl, Nat.le_of_ble_eq_true rfl⟩ (fun z21 => ?_) (fun z21 => ?_)
    · refine hg_aload_n C 3 d_MM_joinThing_118 rfl rfl ?_
      refine hg_iload C 5 d_MM_joinThing_119 rfl ?_
      refine hg_VNb (q := ("ModelMerge$State", T_St, 1)) C (k_St_has l Γ _ a1 b1 FB ha1 hb1 (nI t)) (cw_MM_243 C.2.2.2.2.1 rfl rfl ⟨Nat.le_of_ble_eq_true rfl, Nat.le_of_ble_eq_true rfl⟩) ha1 rfl rfl rfl (Nat.le_of_ble_eq_true rfl) d_MM_joinThing_121 ⟨Nat.le_of_ble_eq_true rfl, Nat.le_of_ble_eq_true rfl⟩ (fun z22 => ?_) (fun z22 => ?_)
      · refine hg_icmp_eq C 131 d_MM_joinThing_124 (by decide) (fun _ => ?_) (fun z => absurd (by decide) z)
        refine hg_aload C 0 d_MM_joinThing_131 rfl ?_
        refine hg_iload C 5 d_MM_joinThing_133 rfl ?_
        refine hg_VNz (q := ("ModelMerge$State", T_St, 1)) C (k_St_copyThing l Γ _ a b a2 b2 (fn K) FM ha hb ha2 hb2 e2 (nI t)) (cw_MM_295 C.2.2.2.2.1 rfl rfl ⟨Nat.le_of_ble_eq_true rfl, Nat.le_of_ble_eq_true rfl⟩) ha rfl rfl rfl (Nat.le_of_ble_eq_true rfl) d_MM_joinThing_135 ⟨Nat.le_of_ble_eq_true rfl, Nat.le_of_ble_eq_true rfl⟩ (fun h23 eh23 => ?_)
        exact hg_vretN C hr d_MM_joinThing_138 (Nat.le_of_ble_eq_true rfl) (Nat.le_of_ble_eq_true rfl) (⟨rfl, by rw [eh23, fn_cpy ht, show jr FB FM FT t = rwo FM t from funext fun g => by rw [jr, if_neg (fun z => z1 z.1), if_pos (⟨fun _ => z22, fun _ => z21⟩)]]⟩)
      · refine hg_icmp_eq C 131 d_MM_joinThing_124 (by decide) (fun z => absurd z (by decide)) (fun _ => ?_)
        refine hg_aload_n C 4 d_MM_joinThing_127 rfl rfl ?_
        refine hg_goto C 133 d_MM_joinThing_128 (by decide) ?_
        refine hg_iload C 5 d_MM_joinThing_133 rfl ?_
        refine hg_VNz (q := ("ModelMerge$State", T_St, 1)) C (k_St_copyThing l Γ _ a b a3 b3 (fn K) FT ha hb ha3 hb3 e3 (nI t)) (cw_MM_295 C.2.2.2.2.1 rfl rfl ⟨Nat.le_of_ble_eq_true rfl, Nat.le_of_ble_eq_true rfl⟩) ha rfl rfl rfl (Nat.le_of_ble_eq_true rfl) d_MM_joinThing_135 ⟨Nat.le_of_ble_eq_true rfl, Nat.le_of_ble_eq_true rfl⟩ (fun h24 eh24 => ?_)
        exact hg_vretN C hr d_MM_joinThing_138 (Nat.le_of_ble_eq_true rfl) (Nat.le_of_ble_eq_true rfl) (⟨rfl, by rw [eh24, fn_cpy ht, show jr FB FM FT t = rwo FT t from funext fun g => by rw [jr, if_neg (fun z => z1 z.1), if_neg (fun z => z22 (z.mp z21))]]⟩)
    · refine hg_aload_n C 3 d_MM_joinThing_118 rfl rfl ?_
      refine hg_iload C 5 d_MM_joinThing_119 rfl ?_
      refine hg_VNb (q := ("ModelMerge$State", T_St, 1)) C (k_St_has l Γ _ a1 b1 FB ha1 hb1 (nI t)) (cw_MM_243 C.2.2.2.2.1 rfl rfl ⟨Nat.le_of_ble_eq_true rfl, Nat.le_of_ble_eq_true rfl⟩) ha1 rfl rfl rfl (Nat.le_of_ble_eq_true rfl) d_MM_joinThing_121 ⟨Nat.le_of_ble_eq_true rfl, Nat.le_of_ble_eq_true rfl⟩ (fun z25 => ?_) (fun z25 => ?_)
      · refine hg_icmp_eq C 131 d_MM_joinThing_124 (by decide) (fun z => absurd z (by decide)) (fun _ => ?_)
        refine hg_aload_n C 4 d_MM_joinThing_127 rfl rfl ?_
        refine hg_goto C 133 d_MM_joinThing_128 (by decide) ?_
        refine hg_iload C 5 d_MM_joinThing_133 rfl ?_
        refine hg_VNz (q := ("ModelMerge$State", T_St, 1)) C (k_St_copyThing l Γ _ a b a3 b3 (fn K) FT ha hb ha3 hb3 e3 (nI t)) (cw_MM_295 C.2.2.2.2.1 rfl rfl ⟨Nat.le_of_ble_eq_true rfl, Nat.le_of_ble_eq_true rfl⟩) ha rfl rfl rfl (Nat.le_of_ble_eq_true rfl) d_MM_joinThing_135 ⟨Nat.le_of_ble_eq_true rfl, Nat.le_of_ble_eq_true rfl⟩ (fun h26 eh26 => ?_)
        exact hg_vretN C hr d_MM_joinThing_138 (Nat.le_of_ble_eq_true rfl) (Nat.le_of_ble_eq_true rfl) (⟨rfl, by rw [eh26, fn_cpy ht, show jr FB FM FT t = rwo FT t from funext fun g => by rw [jr, if_neg (fun z => z1 z.1), if_neg (fun z => z21 (z.mpr z25))]]⟩)
      · refine hg_icmp_eq C 131 d_MM_joinThing_124 (by decide) (fun _ => ?_) (fun z => absurd (by decide) z)
        refine hg_aload C 0 d_MM_joinThing_131 rfl ?_
        refine hg_iload C 5 d_MM_joinThing_133 rfl ?_
        refine hg_VNz (q := ("ModelMerge$State", T_St, 1)) C (k_St_copyThing l Γ _ a b a2 b2 (fn K) FM ha hb ha2 hb2 e2 (nI t)) (cw_MM_295 C.2.2.2.2.1 rfl rfl ⟨Nat.le_of_ble_eq_true rfl, Nat.le_of_ble_eq_true rfl⟩) ha rfl rfl rfl (Nat.le_of_ble_eq_true rfl) d_MM_joinThing_135 ⟨Nat.le_of_ble_eq_true rfl, Nat.le_of_ble_eq_true rfl⟩ (fun h27 eh27 => ?_)
        exact hg_vretN C hr d_MM_joinThing_138 (Nat.le_of_ble_eq_true rfl) (Nat.le_of_ble_eq_true rfl) (⟨rfl, by rw [eh27, fn_cpy ht, show jr FB FM FT t = rwo FM t from funext fun g => by rw [jr, if_neg (fun z => z1 z.1), if_pos (⟨fun z => absurd z z21, fun z => absurd z z25⟩)]]⟩)
theorem cr_off {Γ : Gam} {ad : Nat → Nat → Nat} {M : Mem} {h : Pic} (hC : cr_at Γ ad M h) {b : Nat} (hb : ∀ k i, liv M k i → ad k i ≠ b) {z : va_E} : cr_at Γ ad M (hp_up h b z) :=
  ⟨fun k i hl => by rw [hp_up_n (hb k i hl)]; exact hC.1 k i hl, hC.2⟩
theorem cr_fr {Γ : Gam} {ad : Nat → Nat → Nat} {M : Mem} {h : Pic} (hC : cr_at Γ ad M h) {b : Nat} (hb : h b = none) : ∀ k i, liv M k i → ad k i ≠ b := fun k i hl z => by
  have e := hC.1 k i hl
  rw [z, hb] at e
  cases e
theorem chs_ref {Γ : Gam} {h : Pic} {M : Mem} {k a1 b1 a2 b2 : Nat} {FM FT : Nat → Int32} (x1 : h a1 = some (.inr (4, [.ref b1]))) (y1 : h b1 = some (.inl (Γ.2.1 0, 360, .inl FT))) (x2 : h a2 = some (.inr (4, [.ref b2]))) (y2 : h b2 = some (.inl (Γ.2.1 0, 360, .inl FM))) : ∃ a b, (M 30 k = 1 → a = a1) ∧ (¬ M 30 k = 1 → a = a2) ∧ h a = some (.inr (4, [.ref b])) ∧ h b = some (.inl (Γ.2.1 0, 360, .inl (chs M FM FT k))) := by
  by_cases z : M 30 k = 1
  · exact ⟨a1, b1, fun _ => rfl, fun y => absurd z y, x1, by rw [chs_1 z]; exact y1⟩
  · exact ⟨a2, b2, fun y => absurd y z, fun _ => rfl, x2, by rw [chs_0 z]; exact y2⟩
theorem stl_ja {M : Mem} (hI : Inv0 M) {FB FM FT : Nat → Int32} {k : Nat} (hk : k < nC M) {K : Nat → Nat → Int32} (hK : ∀ t g, t < 60 → g < 6 → K t g = ja M FB FM FT k t g) : s_stl (fn K) (chs M FM FT k) (M 28 k) (M 29 k) = fn (ja M FB FM FT (k + 1)) := by
  have hT := hI.1.1.2
  have eK : fn K = fn (ja M FB FM FT k) := fn_cg hK
  obtain ⟨⟨t, ht, e28⟩, hf, -⟩ := hI.2.2.2.2.2.2.1 k hk
  rw [eK, s_stl, e28]
  rcases hf with e29 | ⟨f, hf, e29⟩
  · rw [if_pos e29, fn_cpy (by omega)]
    exact fn_cg fun t' g x y => ja_w e28 e29 (by omega) x
  · rw [if_neg (fun z => nI_m1 (n := f) (by omega) (e29.symm.trans z)), e29, fn_f (by omega) hf]
    exact fn_cg fun t' g x y => ja_f e28 e29 (by omega) hf x y
abbrev rm_MM_joinedState : Room := { frames := 5, cells := 2, slots := 361, locals := 116 }
set_option maxHeartbeats 4000000 in
set_option maxRecDepth 100000 in
theorem lp_MM_js2 (l : Launch) (Γ : Gam) {p : Program} {e : Env} {s9 : State} {m : MethodId} {args : Array Value} {below : List Frame} {meth : Method} {c : Code} {A : Nat → Prop} (C : hp_C p s9 m args meth c b_MM_joinedState 5 "ModelMerge" w_MM_joinedState Γ.1 kcl (ktys Γ.2.1) (ksts Γ.2.2) knws A) {h9 h0 : Pic} {ad : Nat → Nat → Nat} {M : Mem} (hC0 : cr_at Γ ad M h0) (hI : Inv0 M) {s : Nat} (hs : s < nS M) {qs qb : Nat} (n1 : h9 qs = none) (n2 : h9 qb = none) (n3 : qs ≠ qb) (k0 : h0 qs = some (.inr (4, [.ref qb]))) (hfb : ∀ k i, liv M k i → ad k i ≠ qb) (hz : ∀ z, z ≠ qs → z ≠ qb → h0 z = h9 z) (hr : meth.sig.returnType = some (.object "ModelMerge$State"))  :
    ∀ (n9 : Nat) (k : Nat) (h : Pic) (K : Nat → Nat → Int32), (h = hp_up h0 qb (.inl (Γ.2.1 0, 360, .inl (fn K)))) → (∀ t g, t < 60 → g < 6 → K t g = ja M (vc M (bs M s)) (vc M (nV M - 1)) (sc M s) k t g) → (k ≤ nC M) → (nC M + 1 ≤ k + n9) → hp_G p l e rm_MM_joinedState s9 m args below meth c Γ.1 kcl A 5 (hp_NQ below Γ.1 kcl A (fun r u => ∃ q, r = some (.ref q) ∧ ∃ b, h9 q = none ∧ h9 b = none ∧ q ≠ b ∧ u q = some (.inr (4, [.ref b])) ∧ u b = some (.inl (Γ.2.1 0, 360, .inl (fn (jc M s (nC M))))) ∧ ∀ z, z ≠ q → z ≠ b → u z = h9 z) args s9 2 361) 2 361 43 [(3, .int (nI k)), (2, .ref qs), (1, .ref (ad 10 s)), (0, .ref (ad 0 0))] [] h := by
  intro n9
  induction n9 with
  | zero =>
    intro k h K he hK hk hm
    exact absurd hm (by omega)
  | succ n9 ih =>
    intro k h K he hK hk hm
    have hC : cr_at Γ ad M h := by rw [he]; exact cr_off hC0 hfb
    have kx : h (ad 0 0) = some (.inr (6, [.ref (ad 1 0), .ref (ad 2 0), .int (M 1 0), .ref (ad 3 0), .int (M 9 0), .ref (ad 4 0), .int (M 4 0), .ref (ad 14 (nV M - 1)), .ref (ad 5 0), .int (M 22 0), .ref (ad 6 0), cr_pen ad M])) := hC.1 0 0 (liv0 (by omega))
    have kA1 : h (ad 1 0) = some (.inl ((Γ.2.1 0), 60, .inl (M 2))) := hC.1 1 0 (liv0 (by omega))
    have kA2 : h (ad 2 0) = some (.inl ((Γ.2.1 0), 60, .inl (M 3))) := hC.1 2 0 (liv0 (by omega))
    have kA3 : h (ad 3 0) = some (.inl ((Γ.2.1 3), 20, .inr (.inr (.inr (.inr (fun j => if j < nS M then some (ad 10 j) else none)))))) := hC.1 3 0 (liv0 (by omega))
    have kA4 : h (ad 4 0) = some (.inl ((Γ.2.1 4), 40, .inr (.inr (.inr (.inr (fun j => if j < nV M then some (ad 14 j) else none)))))) := hC.1 4 0 (liv0 (by omega))
    have kA5 : h (ad 5 0) = some (.inl ((Γ.2.1 5), 10, .inr (.inr (.inr (.inr (fun j => if j < nR M then some (ad 18 j) else none)))))) := hC.1 5 0 (liv0 (by omega))
    have kA6 : h (ad 6 0) = some (.inr (0, [.ref (ad 7 0), .ref (ad 8 0), .ref (ad 9 0), .int (M 27 0)])) := hC.1 6 0 (liv0 (by omega))
    have kA7 : h (ad 7 0) = some (.inl ((Γ.2.1 0), 300, .inl (M 28))) := hC.1 7 0 (liv0 (by omega))
    have kA8 : h (ad 8 0) = some (.inl ((Γ.2.1 0), 300, .inl (M 29))) := hC.1 8 0 (liv0 (by omega))
    have kA9 : h (ad 9 0) = some (.inl ((Γ.2.1 0), 300, .inl (M 30))) := hC.1 9 0 (liv0 (by omega))
    obtain ⟨⟨⟨eT, hT⟩, ⟨eV, hV1, hV⟩, ⟨eS, hS⟩, ⟨eR, hRR⟩, ⟨eC, hCn⟩⟩, hI2, hI3, hI4, hI5, hI6, hI7, hI8, -, hI10, hI11⟩ := id hI
    have hbN : bs M s < nV M := (hI.2.1 s hs).1.2
    have kq : h qs = some (.inr (4, [.ref qb])) := by rw [he]; exact hp_up_g k0 n3
    have kqb : h qb = some (.inl (Γ.2.1 0, 360, .inl (fn K))) := by rw [he]; exact hp_up_s
    have ks_s : h (ad 10 s) = some (.inr (3, [.int (nI s), .int (M 10 s), .ref (ad 14 (bs M s)), .ref (ad 11 s), .ref (ad 13 (60 * s + sd M s)), .int (M 13 s), .int (M 14 s), .int (M 15 s)])) := hC.1 10 s (livS (by omega) (by omega) (by omega))
    have kt_s : h (ad 11 s) = some (.inr (4, [.ref (ad 12 s)])) := hC.1 11 s (livS (by omega) (by omega) (by omega))
    have ku_s : h (ad 12 s) = some (.inl ((Γ.2.1 0), 360, .inl (sc M s))) := hC.1 12 s (livS (by omega) (by omega) (by omega))
    have kv_b : h (ad 14 (bs M s)) = some (.inr (5, [.int (nI (bs M s)), .int (au M (bs M s)), .ref (ad 15 (bs M s)), .ref (ad 17 (bs M s))])) := hC.1 14 (bs M s) (livV (by omega) (by omega) (by omega))
    have kw_b : h (ad 15 (bs M s)) = some (.inr (4, [.ref (ad 16 (bs M s))])) := hC.1 15 (bs M s) (livV (by omega) (by omega) (by omega))
    have ky_b : h (ad 16 (bs M s)) = some (.inl ((Γ.2.1 0), 360, .inl (vc M (bs M s)))) := hC.1 16 (bs M s) (livV (by omega) (by omega) (by omega))
    have kz_b : h (ad 17 (bs M s)) = some (.inl ((Γ.2.1 0), 300, .inl (og M (bs M s)))) := hC.1 17 (bs M s) (livV (by omega) (by omega) (by omega))
    have kv_l : h (ad 14 (nV M - 1)) = some (.inr (5, [.int (nI (nV M - 1)), .int (au M (nV M - 1)), .ref (ad 15 (nV M - 1)), .ref (ad 17 (nV M - 1))])) := hC.1 14 (nV M - 1) (livV (by omega) (by omega) (by omega))
    have kw_l : h (ad 15 (nV M - 1)) = some (.inr (4, [.ref (ad 16 (nV M - 1))])) := hC.1 15 (nV M - 1) (livV (by omega) (by omega) (by omega))
    have ky_l : h (ad 16 (nV M - 1)) = some (.inl ((Γ.2.1 0), 360, .inl (vc M (nV M - 1)))) := hC.1 16 (nV M - 1) (livV (by omega) (by omega) (by omega))
    have kz_l : h (ad 17 (nV M - 1)) = some (.inl ((Γ.2.1 0), 300, .inl (og M (nV M - 1)))) := hC.1 17 (nV M - 1) (livV (by omega) (by omega) (by omega))
    refine hg_iload_n C 0 d_MM_joinedState_43 rfl rfl ?_
    refine hg_aload_n C 3 d_MM_joinedState_44 rfl rfl ?_
    refine f_MM_50 C kx rfl d_MM_joinedState_45 ?_
    refine f_MM_129 C kA6 rfl d_MM_joinedState_48 ?_
    refine hg_ti eC ?_
    refine hg_icmp_ge C 110 d_MM_joinedState_51 (by decide) (fun c51 => ?_) (fun c51 => ?_)
    · have c51n : nC M ≤ k := (nI_leI (a := (nC M)) (b := k) (by omega) (by omega)).mp c51
      refine hg_aload_n C 1 d_MM_joinedState_110 rfl rfl ?_
      exact hg_aretN C hr (Or.inr ⟨_, rfl⟩) d_MM_joinedState_111 (Nat.le_of_ble_eq_true rfl) (Nat.le_of_ble_eq_true rfl) (⟨qs, rfl, qb, n1, n2, n3, kq, by rw [kqb, fn_cg hK, show k = nC M by omega]; rfl, fun z z1 z2 => by rw [he, hp_up_n z2]; exact hz z z1 z2⟩)
    · have c51n : ¬ nC M ≤ k := fun z => c51 (nI_le (a := (nC M)) (b := k) z (by omega))
      refine hg_aload_n C 3 d_MM_joinedState_54 rfl rfl ?_
      refine f_MM_50 C kx rfl d_MM_joinedState_55 ?_
      refine hg_iload_n C 0 d_MM_joinedState_58 rfl rfl ?_
      refine hg_VNv (q := ("ModelMerge$Conflicts", T_Cf, 4)) C (k_Cf_sideOf l Γ _ (ad 6 0) (ad 7 0) (ad 8 0) (ad 9 0) (M 30) (M 27 0) kA6 kA9 (nI k)) (cw_MM_156 C.2.2.2.2.1 rfl rfl ⟨Nat.le_of_ble_eq_true rfl, Nat.le_of_ble_eq_true rfl⟩) kA6 rfl rfl rfl (Nat.le_of_ble_eq_true rfl) d_MM_joinedState_59 ⟨Nat.le_of_ble_eq_true rfl, Nat.le_of_ble_eq_true rfl⟩ (fun _ => ?_)
      refine hg_ti (show c_get (M 30) (M 27 0) (nI k) = M 30 k by rw [eC]; exact c_get_nat (by omega) (by omega)) ?_
      refine hg_iconst (v := 1) C d_MM_joinedState_62 (by decide) ?_
      refine hg_icmp_ne C 73 d_MM_joinedState_63 (by decide) (fun c63 => ?_) (fun c63 => ?_)
      · refine hg_aload_n C 3 d_MM_joinedState_73 rfl rfl ?_
        refine f_MM_64 C kx rfl d_MM_joinedState_74 ?_
        refine f_MM_147 C kv_l rfl d_MM_joinedState_77 ?_
        refine hg_astore (lv' := [(4, .ref (ad 15 (nV M - 1))), (3, .int (nI k)), (2, .ref qs), (1, .ref (ad 10 s)), (0, .ref (ad 0 0))]) C d_MM_joinedState_80 (by decide) rfl ?_
        refine hg_aload_n C 2 d_MM_joinedState_82 rfl rfl ?_
        refine hg_aload C 0 d_MM_joinedState_83 rfl ?_
        refine hg_aload_n C 4 d_MM_joinedState_85 rfl rfl ?_
        refine f_MM_50 C kx rfl d_MM_joinedState_86 ?_
        refine hg_iload_n C 1 d_MM_joinedState_89 rfl rfl ?_
        refine hg_VNv (q := ("ModelMerge$Conflicts", T_Cf, 4)) C (k_Cf_thingOf l Γ _ (ad 6 0) (ad 7 0) (ad 8 0) (ad 9 0) (M 28) (M 27 0) kA6 kA7 (nI k)) (cw_MM_141 C.2.2.2.2.1 rfl rfl ⟨Nat.le_of_ble_eq_true rfl, Nat.le_of_ble_eq_true rfl⟩) kA6 rfl rfl rfl (Nat.le_of_ble_eq_true rfl) d_MM_joinedState_90 ⟨Nat.le_of_ble_eq_true rfl, Nat.le_of_ble_eq_true rfl⟩ (fun _ => ?_)
        refine hg_ti (show c_get (M 28) (M 27 0) (nI k) = M 28 k by rw [eC]; exact c_get_nat (by omega) (by omega)) ?_
        refine hg_aload_n C 4 d_MM_joinedState_93 rfl rfl ?_
        refine f_MM_50 C kx rfl d_MM_joinedState_94 ?_
        refine hg_iload_n C 1 d_MM_joinedState_97 rfl rfl ?_
        refine hg_VNv (q := ("ModelMerge$Conflicts", T_Cf, 4)) C (k_Cf_fieldOf l Γ _ (ad 6 0) (ad 7 0) (ad 8 0) (ad 9 0) (M 29) (M 27 0) kA6 kA8 (nI k)) (cw_MM_144 C.2.2.2.2.1 rfl rfl ⟨Nat.le_of_ble_eq_true rfl, Nat.le_of_ble_eq_true rfl⟩) kA6 rfl rfl rfl (Nat.le_of_ble_eq_true rfl) d_MM_joinedState_98 ⟨Nat.le_of_ble_eq_true rfl, Nat.le_of_ble_eq_true rfl⟩ (fun _ => ?_)
        refine hg_ti (show c_get (M 29) (M 27 0) (nI k) = M 29 k by rw [eC]; exact c_get_nat (by omega) (by omega)) ?_
        refine hg_SNz C (k_MM_applySettling l Γ _ qs qb (ad 15 (nV M - 1)) (ad 16 (nV M - 1)) (fn K) (vc M (nV M - 1)) kq kqb kw_l ky_l (hfb _ _ (livV (by omega) (by omega) (by omega))) (M 28 k) (M 29 k)) (cw_MM_288 C.2.2.2.2.1 rfl rfl ⟨Nat.le_of_ble_eq_true rfl, Nat.le_of_ble_eq_true rfl⟩) rfl rfl (Nat.le_of_ble_eq_true rfl) d_MM_joinedState_101 ⟨Nat.le_of_ble_eq_true rfl, Nat.le_of_ble_eq_true rfl⟩ (fun u eu => ?_)
        refine hg_iinc (v := nI (k + 1)) (lv' := [(3, .int (nI (k + 1))), (4, .ref (ad 15 (nV M - 1))), (2, .ref qs), (1, .ref (ad 10 s)), (0, .ref (ad 0 0))]) C 1 d_MM_joinedState_104 rfl (nI_1 k) (by decide) rfl ?_
        refine hg_goto C 43 d_MM_joinedState_107 (by decide) ?_
        exact hg_lv (ks := [0, 2, 3, 4]) rfl (ih (k + 1) u (ja M (vc M (bs M s)) (vc M (nV M - 1)) (sc M s) (k + 1)) (by rw [eu, he, hp_up_up, ← stl_ja hI (by omega) hK, chs_0 c63]) (fun _ _ _ _ => rfl) (by omega) (by omega))
      · refine hg_aload_n C 2 d_MM_joinedState_66 rfl rfl ?_
        refine f_MM_155 C ks_s rfl d_MM_joinedState_67 ?_
        refine hg_goto C 80 d_MM_joinedState_70 (by decide) ?_
        refine hg_astore (lv' := [(4, .ref (ad 11 s)), (3, .int (nI k)), (2, .ref qs), (1, .ref (ad 10 s)), (0, .ref (ad 0 0))]) C d_MM_joinedState_80 (by decide) rfl ?_
        refine hg_aload_n C 2 d_MM_joinedState_82 rfl rfl ?_
        refine hg_aload C 0 d_MM_joinedState_83 rfl ?_
        refine hg_aload_n C 4 d_MM_joinedState_85 rfl rfl ?_
        refine f_MM_50 C kx rfl d_MM_joinedState_86 ?_
        refine hg_iload_n C 1 d_MM_joinedState_89 rfl rfl ?_
        refine hg_VNv (q := ("ModelMerge$Conflicts", T_Cf, 4)) C (k_Cf_thingOf l Γ _ (ad 6 0) (ad 7 0) (ad 8 0) (ad 9 0) (M 28) (M 27 0) kA6 kA7 (nI k)) (cw_MM_141 C.2.2.2.2.1 rfl rfl ⟨Nat.le_of_ble_eq_true rfl, Nat.le_of_ble_eq_true rfl⟩) kA6 rfl rfl rfl (Nat.le_of_ble_eq_true rfl) d_MM_joinedState_90 ⟨Nat.le_of_ble_eq_true rfl, Nat.le_of_ble_eq_true rfl⟩ (fun _ => ?_)
        refine hg_ti (show c_get (M 28) (M 27 0) (nI k) = M 28 k by rw [eC]; exact c_get_nat (by omega) (by omega)) ?_
        refine hg_aload_n C 4 d_MM_joinedState_93 rfl rfl ?_
        refine f_MM_50 C kx rfl d_MM_joinedState_94 ?_
        refine hg_iload_n C 1 d_MM_joinedState_97 rfl rfl ?_
        refine hg_VNv (q := ("ModelMerge$Conflicts", T_Cf, 4)) C (k_Cf_fieldOf l Γ _ (ad 6 0) (ad 7 0) (ad 8 0) (ad 9 0) (M 29) (M 27 0) kA6 kA8 (nI k)) (cw_MM_144 C.2.2.2.2.1 rfl rfl ⟨Nat.le_of_ble_eq_true rfl, Nat.le_of_ble_eq_true rfl⟩) kA6 rfl rfl rfl (Nat.le_of_ble_eq_true rfl) d_MM_joinedState_98 ⟨Nat.le_of_ble_eq_true rfl, Nat.le_of_ble_eq_true rfl⟩ (fun _ => ?_)
        refine hg_ti (show c_get (M 29) (M 27 0) (nI k) = M 29 k by rw [eC]; exact c_get_nat (by omega) (by omega)) ?_
        refine hg_SNz C (k_MM_applySettling l Γ _ qs qb (ad 11 s) (ad 12 s) (fn K) (sc M s) kq kqb kt_s ku_s (hfb _ _ (livS (by omega) (by omega) (by omega))) (M 28 k) (M 29 k)) (cw_MM_288 C.2.2.2.2.1 rfl rfl ⟨Nat.le_of_ble_eq_true rfl, Nat.le_of_ble_eq_true rfl⟩) rfl rfl (Nat.le_of_ble_eq_true rfl) d_MM_joinedState_101 ⟨Nat.le_of_ble_eq_true rfl, Nat.le_of_ble_eq_true rfl⟩ (fun u eu => ?_)
        refine hg_iinc (v := nI (k + 1)) (lv' := [(3, .int (nI (k + 1))), (4, .ref (ad 11 s)), (2, .ref qs), (1, .ref (ad 10 s)), (0, .ref (ad 0 0))]) C 1 d_MM_joinedState_104 rfl (nI_1 k) (by decide) rfl ?_
        refine hg_goto C 43 d_MM_joinedState_107 (by decide) ?_
        exact hg_lv (ks := [0, 2, 3, 4]) rfl (ih (k + 1) u (ja M (vc M (bs M s)) (vc M (nV M - 1)) (sc M s) (k + 1)) (by rw [eu, he, hp_up_up, ← stl_ja hI (by omega) hK, chs_1 c63]) (fun _ _ _ _ => rfl) (by omega) (by omega))
set_option maxHeartbeats 4000000 in
set_option maxRecDepth 100000 in
theorem lp_MM_js1 (l : Launch) (Γ : Gam) {p : Program} {e : Env} {s9 : State} {m : MethodId} {args : Array Value} {below : List Frame} {meth : Method} {c : Code} {A : Nat → Prop} (C : hp_C p s9 m args meth c b_MM_joinedState 5 "ModelMerge" w_MM_joinedState Γ.1 kcl (ktys Γ.2.1) (ksts Γ.2.2) knws A) {h9 h0 : Pic} {ad : Nat → Nat → Nat} {M : Mem} (hC0 : cr_at Γ ad M h0) (hI : Inv0 M) {s : Nat} (hs : s < nS M) {qs qb : Nat} (n1 : h9 qs = none) (n2 : h9 qb = none) (n3 : qs ≠ qb) (k0 : h0 qs = some (.inr (4, [.ref qb]))) (hfb : ∀ k i, liv M k i → ad k i ≠ qb) (hz : ∀ z, z ≠ qs → z ≠ qb → h0 z = h9 z) (hr : meth.sig.returnType = some (.object "ModelMerge$State"))  :
    ∀ (n9 : Nat) (t : Nat) (h : Pic) (K : Nat → Nat → Int32), (h = hp_up h0 qb (.inl (Γ.2.1 0, 360, .inl (fn K)))) → (∀ t' g, t' < 60 → g < 6 → K t' g = if t' < t then jr (vc M (bs M s)) (vc M (nV M - 1)) (sc M s) t' g else 0) → (t ≤ nT M) → (nT M + 1 ≤ t + n9) → hp_G p l e rm_MM_joinedState s9 m args below meth c Γ.1 kcl A 5 (hp_NQ below Γ.1 kcl A (fun r u => ∃ q, r = some (.ref q) ∧ ∃ b, h9 q = none ∧ h9 b = none ∧ q ≠ b ∧ u q = some (.inr (4, [.ref b])) ∧ u b = some (.inl (Γ.2.1 0, 360, .inl (fn (jc M s (nC M))))) ∧ ∀ z, z ≠ q → z ≠ b → u z = h9 z) args s9 2 361) 2 361 10 [(3, .int (nI t)), (2, .ref qs), (1, .ref (ad 10 s)), (0, .ref (ad 0 0))] [] h := by
  intro n9
  induction n9 with
  | zero =>
    intro t h K he hK ht hm
    exact absurd hm (by omega)
  | succ n9 ih =>
    intro t h K he hK ht hm
    have hC : cr_at Γ ad M h := by rw [he]; exact cr_off hC0 hfb
    have kx : h (ad 0 0) = some (.inr (6, [.ref (ad 1 0), .ref (ad 2 0), .int (M 1 0), .ref (ad 3 0), .int (M 9 0), .ref (ad 4 0), .int (M 4 0), .ref (ad 14 (nV M - 1)), .ref (ad 5 0), .int (M 22 0), .ref (ad 6 0), cr_pen ad M])) := hC.1 0 0 (liv0 (by omega))
    have kA1 : h (ad 1 0) = some (.inl ((Γ.2.1 0), 60, .inl (M 2))) := hC.1 1 0 (liv0 (by omega))
    have kA2 : h (ad 2 0) = some (.inl ((Γ.2.1 0), 60, .inl (M 3))) := hC.1 2 0 (liv0 (by omega))
    have kA3 : h (ad 3 0) = some (.inl ((Γ.2.1 3), 20, .inr (.inr (.inr (.inr (fun j => if j < nS M then some (ad 10 j) else none)))))) := hC.1 3 0 (liv0 (by omega))
    have kA4 : h (ad 4 0) = some (.inl ((Γ.2.1 4), 40, .inr (.inr (.inr (.inr (fun j => if j < nV M then some (ad 14 j) else none)))))) := hC.1 4 0 (liv0 (by omega))
    have kA5 : h (ad 5 0) = some (.inl ((Γ.2.1 5), 10, .inr (.inr (.inr (.inr (fun j => if j < nR M then some (ad 18 j) else none)))))) := hC.1 5 0 (liv0 (by omega))
    have kA6 : h (ad 6 0) = some (.inr (0, [.ref (ad 7 0), .ref (ad 8 0), .ref (ad 9 0), .int (M 27 0)])) := hC.1 6 0 (liv0 (by omega))
    have kA7 : h (ad 7 0) = some (.inl ((Γ.2.1 0), 300, .inl (M 28))) := hC.1 7 0 (liv0 (by omega))
    have kA8 : h (ad 8 0) = some (.inl ((Γ.2.1 0), 300, .inl (M 29))) := hC.1 8 0 (liv0 (by omega))
    have kA9 : h (ad 9 0) = some (.inl ((Γ.2.1 0), 300, .inl (M 30))) := hC.1 9 0 (liv0 (by omega))
    obtain ⟨⟨⟨eT, hT⟩, ⟨eV, hV1, hV⟩, ⟨eS, hS⟩, ⟨eR, hRR⟩, ⟨eC, hCn⟩⟩, hI2, hI3, hI4, hI5, hI6, hI7, hI8, -, hI10, hI11⟩ := id hI
    have hbN : bs M s < nV M := (hI.2.1 s hs).1.2
    have kq : h qs = some (.inr (4, [.ref qb])) := by rw [he]; exact hp_up_g k0 n3
    have kqb : h qb = some (.inl (Γ.2.1 0, 360, .inl (fn K))) := by rw [he]; exact hp_up_s
    have ks_s : h (ad 10 s) = some (.inr (3, [.int (nI s), .int (M 10 s), .ref (ad 14 (bs M s)), .ref (ad 11 s), .ref (ad 13 (60 * s + sd M s)), .int (M 13 s), .int (M 14 s), .int (M 15 s)])) := hC.1 10 s (livS (by omega) (by omega) (by omega))
    have kt_s : h (ad 11 s) = some (.inr (4, [.ref (ad 12 s)])) := hC.1 11 s (livS (by omega) (by omega) (by omega))
    have ku_s : h (ad 12 s) = some (.inl ((Γ.2.1 0), 360, .inl (sc M s))) := hC.1 12 s (livS (by omega) (by omega) (by omega))
    have kv_b : h (ad 14 (bs M s)) = some (.inr (5, [.int (nI (bs M s)), .int (au M (bs M s)), .ref (ad 15 (bs M s)), .ref (ad 17 (bs M s))])) := hC.1 14 (bs M s) (livV (by omega) (by omega) (by omega))
    have kw_b : h (ad 15 (bs M s)) = some (.inr (4, [.ref (ad 16 (bs M s))])) := hC.1 15 (bs M s) (livV (by omega) (by omega) (by omega))
    have ky_b : h (ad 16 (bs M s)) = some (.inl ((Γ.2.1 0), 360, .inl (vc M (bs M s)))) := hC.1 16 (bs M s) (livV (by omega) (by omega) (by omega))
    have kz_b : h (ad 17 (bs M s)) = some (.inl ((Γ.2.1 0), 300, .inl (og M (bs M s)))) := hC.1 17 (bs M s) (livV (by omega) (by omega) (by omega))
    have kv_l : h (ad 14 (nV M - 1)) = some (.inr (5, [.int (nI (nV M - 1)), .int (au M (nV M - 1)), .ref (ad 15 (nV M - 1)), .ref (ad 17 (nV M - 1))])) := hC.1 14 (nV M - 1) (livV (by omega) (by omega) (by omega))
    have kw_l : h (ad 15 (nV M - 1)) = some (.inr (4, [.ref (ad 16 (nV M - 1))])) := hC.1 15 (nV M - 1) (livV (by omega) (by omega) (by omega))
    have ky_l : h (ad 16 (nV M - 1)) = some (.inl ((Γ.2.1 0), 360, .inl (vc M (nV M - 1)))) := hC.1 16 (nV M - 1) (livV (by omega) (by omega) (by omega))
    have kz_l : h (ad 17 (nV M - 1)) = some (.inl ((Γ.2.1 0), 300, .inl (og M (nV M - 1)))) := hC.1 17 (nV M - 1) (livV (by omega) (by omega) (by omega))
    refine hg_iload_n C 0 d_MM_joinedState_10 rfl rfl ?_
    refine hg_aload_n C 3 d_MM_joinedState_11 rfl rfl ?_
    refine f_MM_16 C kx rfl d_MM_joinedState_12 ?_
    refine hg_ti eT ?_
    refine hg_icmp_ge C 41 d_MM_joinedState_15 (by decide) (fun c15 => ?_) (fun c15 => ?_)
    · have c15n : nT M ≤ t := (nI_leI (a := (nT M)) (b := t) (by omega) (by omega)).mp c15
      refine hg_iconst (v := 0) C d_MM_joinedState_41 (by decide) ?_
      refine hg_istore_n (lv' := [(3, .int 0), (2, .ref qs), (1, .ref (ad 10 s)), (0, .ref (ad 0 0))]) C d_MM_joinedState_42 rfl (by decide) rfl ?_
      exact hg_lv (ks := [0, 1, 2, 3]) rfl (lp_MM_js2 l Γ C hC0 hI hs n1 n2 n3 k0 hfb hz hr (nC M + 1) 0 h K he (fun t' g x y => by rw [hK t' g x y, ja, show nT M = t by omega]) (by omega) (by omega))
    · have c15n : ¬ nT M ≤ t := fun z => c15 (nI_le (a := (nT M)) (b := t) z (by omega))
      refine hg_aload_n C 3 d_MM_joinedState_18 rfl rfl ?_
      refine hg_aload_n C 1 d_MM_joinedState_19 rfl rfl ?_
      refine hg_aload_n C 2 d_MM_joinedState_20 rfl rfl ?_
      refine f_MM_194 C ks_s rfl d_MM_joinedState_21 ?_
      refine f_MM_147 C kv_b rfl d_MM_joinedState_24 ?_
      refine hg_aload_n C 2 d_MM_joinedState_27 rfl rfl ?_
      refine f_MM_155 C ks_s rfl d_MM_joinedState_28 ?_
      refine hg_iload_n C 0 d_MM_joinedState_31 rfl rfl ?_
      refine hg_VNz (q := ("ModelMerge", T_MM, 12)) C (k_MM_joinThing l Γ _ ad M kx (nI (nV M - 1)) (au M (nV M - 1)) qs qb (ad 15 (bs M s)) (ad 16 (bs M s)) (ad 15 (nV M - 1)) (ad 16 (nV M - 1)) (ad 11 s) (ad 12 s) (ad 17 (nV M - 1)) K (vc M (bs M s)) (vc M (nV M - 1)) (sc M s) kv_l kq kqb kw_b ky_b kw_l ky_l kt_s ku_s (hfb 16 (bs M s) (livV (by omega) (by omega) (by omega))) (hfb 16 (nV M - 1) (livV (by omega) (by omega) (by omega))) (hfb 12 s (livS (by omega) (by omega) (by omega))) t (by omega)) (cw_MM_285 C.2.2.2.2.1 rfl rfl ⟨Nat.le_of_ble_eq_true rfl, Nat.le_of_ble_eq_true rfl⟩) kx rfl rfl rfl (Nat.le_of_ble_eq_true rfl) d_MM_joinedState_32 ⟨Nat.le_of_ble_eq_true rfl, Nat.le_of_ble_eq_true rfl⟩ (fun u eu => ?_)
      refine hg_iinc (v := nI (t + 1)) (lv' := [(3, .int (nI (t + 1))), (2, .ref qs), (1, .ref (ad 10 s)), (0, .ref (ad 0 0))]) C 0 d_MM_joinedState_35 rfl (nI_1 t) (by decide) rfl ?_
      refine hg_goto C 10 d_MM_joinedState_38 (by decide) ?_
      exact hg_lv (ks := [0, 1, 2, 3]) rfl (ih (t + 1) u (frow K t (jr (vc M (bs M s)) (vc M (nV M - 1)) (sc M s) t)) (by rw [eu, he, hp_up_up]) (js_st (w := jr (vc M (bs M s)) (vc M (nV M - 1)) (sc M s)) hK) (by omega) (by omega))
set_option maxHeartbeats 4000000 in
set_option maxRecDepth 100000 in
theorem k_MM_joinedState (l : Launch) (Γ : Gam) (h : Pic) (ad : Nat → Nat → Nat) (M : Mem) (hC : cr_at Γ ad M h) (hI : Inv0 M) (s : Nat) (hs : s < nS M) : kN l Γ y_MM_joinedState w_MM_joinedState rm_MM_joinedState [.ref (ad 0 0), .ref (ad 10 s)] h (fun r u => ∃ q, r = some (.ref q) ∧ ∃ b, h q = none ∧ h b = none ∧ q ≠ b ∧ u q = some (.inr (4, [.ref b])) ∧ u b = some (.inl (Γ.2.1 0, 360, .inl (fn (jc M s (nC M))))) ∧ ∀ z, z ≠ q → z ≠ b → u z = h z) 2 361 := by
  refine hg_entryN (own := "ModelMerge") (cc := b_MM_joinedState) (maxL := 5) (ret := (some (.object "ModelMerge$State"))) (lv0 := [(0, .ref (ad 0 0)), (1, .ref (ad 10 s))]) (by decide) rfl rfl (Nat.le_of_ble_eq_true rfl) rfl ?_
  intro p e s9 m args below meth c A C hnm hr
  have kx : h (ad 0 0) = some (.inr (6, [.ref (ad 1 0), .ref (ad 2 0), .int (M 1 0), .ref (ad 3 0), .int (M 9 0), .ref (ad 4 0), .int (M 4 0), .ref (ad 14 (nV M - 1)), .ref (ad 5 0), .int (M 22 0), .ref (ad 6 0), cr_pen ad M])) := hC.1 0 0 (liv0 (by omega))
  have kA1 : h (ad 1 0) = some (.inl ((Γ.2.1 0), 60, .inl (M 2))) := hC.1 1 0 (liv0 (by omega))
  have kA2 : h (ad 2 0) = some (.inl ((Γ.2.1 0), 60, .inl (M 3))) := hC.1 2 0 (liv0 (by omega))
  have kA3 : h (ad 3 0) = some (.inl ((Γ.2.1 3), 20, .inr (.inr (.inr (.inr (fun j => if j < nS M then some (ad 10 j) else none)))))) := hC.1 3 0 (liv0 (by omega))
  have kA4 : h (ad 4 0) = some (.inl ((Γ.2.1 4), 40, .inr (.inr (.inr (.inr (fun j => if j < nV M then some (ad 14 j) else none)))))) := hC.1 4 0 (liv0 (by omega))
  have kA5 : h (ad 5 0) = some (.inl ((Γ.2.1 5), 10, .inr (.inr (.inr (.inr (fun j => if j < nR M then some (ad 18 j) else none)))))) := hC.1 5 0 (liv0 (by omega))
  have kA6 : h (ad 6 0) = some (.inr (0, [.ref (ad 7 0), .ref (ad 8 0), .ref (ad 9 0), .int (M 27 0)])) := hC.1 6 0 (liv0 (by omega))
  have kA7 : h (ad 7 0) = some (.inl ((Γ.2.1 0), 300, .inl (M 28))) := hC.1 7 0 (liv0 (by omega))
  have kA8 : h (ad 8 0) = some (.inl ((Γ.2.1 0), 300, .inl (M 29))) := hC.1 8 0 (liv0 (by omega))
  have kA9 : h (ad 9 0) = some (.inl ((Γ.2.1 0), 300, .inl (M 30))) := hC.1 9 0 (liv0 (by omega))
  obtain ⟨⟨⟨eT, hT⟩, ⟨eV, hV1, hV⟩, ⟨eS, hS⟩, ⟨eR, hRR⟩, ⟨eC, hCn⟩⟩, hI2, hI3, hI4, hI5, hI6, hI7, hI8, -, hI10, hI11⟩ := id hI
  refine n_MM_58 C (Nat.le_of_ble_eq_true rfl) (Nat.le_of_ble_eq_true rfl) d_MM_joinedState_0 (fun q1 hq_q1 => ?_)
  obtain ⟨h2, eh2⟩ : ∃ z, z = hp_up h q1 (.inr (4, [.null])) := ⟨_, rfl⟩
  refine hg_eq eh2.symm ?_
  have k3 : h2 (ad 0 0) = some (.inr (6, [.ref (ad 1 0), .ref (ad 2 0), .int (M 1 0), .ref (ad 3 0), .int (M 9 0), .ref (ad 4 0), .int (M 4 0), .ref (ad 14 (nV M - 1)), .ref (ad 5 0), .int (M 22 0), .ref (ad 6 0), cr_pen ad M])) := by rw [eh2]; exact hp_up_g kx (fun z => by rw [z, hq_q1] at kx; cases kx)
  have k4 : h2 (ad 1 0) = some (.inl ((Γ.2.1 0), 60, .inl (M 2))) := by rw [eh2]; exact hp_up_g kA1 (fun z => by rw [z, hq_q1] at kA1; cases kA1)
  have k5 : h2 (ad 2 0) = some (.inl ((Γ.2.1 0), 60, .inl (M 3))) := by rw [eh2]; exact hp_up_g kA2 (fun z => by rw [z, hq_q1] at kA2; cases kA2)
  have k6 : h2 (ad 3 0) = some (.inl ((Γ.2.1 3), 20, .inr (.inr (.inr (.inr (fun j => if j < nS M then some (ad 10 j) else none)))))) := by rw [eh2]; exact hp_up_g kA3 (fun z => by rw [z, hq_q1] at kA3; cases kA3)
  have k7 : h2 (ad 4 0) = some (.inl ((Γ.2.1 4), 40, .inr (.inr (.inr (.inr (fun j => if j < nV M then some (ad 14 j) else none)))))) := by rw [eh2]; exact hp_up_g kA4 (fun z => by rw [z, hq_q1] at kA4; cases kA4)
  have k8 : h2 (ad 5 0) = some (.inl ((Γ.2.1 5), 10, .inr (.inr (.inr (.inr (fun j => if j < nR M then some (ad 18 j) else none)))))) := by rw [eh2]; exact hp_up_g kA5 (fun z => by rw [z, hq_q1] at kA5; cases kA5)
  have k9 : h2 (ad 6 0) = some (.inr (0, [.ref (ad 7 0), .ref (ad 8 0), .ref (ad 9 0), .int (M 27 0)])) := by rw [eh2]; exact hp_up_g kA6 (fun z => by rw [z, hq_q1] at kA6; cases kA6)
  have k10 : h2 (ad 7 0) = some (.inl ((Γ.2.1 0), 300, .inl (M 28))) := by rw [eh2]; exact hp_up_g kA7 (fun z => by rw [z, hq_q1] at kA7; cases kA7)
  have k11 : h2 (ad 8 0) = some (.inl ((Γ.2.1 0), 300, .inl (M 29))) := by rw [eh2]; exact hp_up_g kA8 (fun z => by rw [z, hq_q1] at kA8; cases kA8)
  have k12 : h2 (ad 9 0) = some (.inl ((Γ.2.1 0), 300, .inl (M 30))) := by rw [eh2]; exact hp_up_g kA9 (fun z => by rw [z, hq_q1] at kA9; cases kA9)
  have k13 : h2 q1 = some (.inr (4, [.null])) := by rw [eh2]; exact hp_up_s
  refine hg_dup C d_MM_joinedState_3 rfl ?_
  refine hg_INz (host := "ModelMerge") C (k_St_init l Γ _ q1 k13) kcode_St_init (by decide +kernel) kw4 kw54 rfl rfl rfl (by decide +kernel) ⟨Nat.le_of_ble_eq_true rfl, Nat.le_of_ble_eq_true rfl⟩ rfl rfl (Nat.le_of_ble_eq_true rfl) d_MM_joinedState_4 ⟨Nat.le_of_ble_eq_true rfl, Nat.le_of_ble_eq_true rfl⟩ (fun h14 hu_h14 => ?_)
  obtain ⟨q16, hq_q16, eh14⟩ := hu_h14
  obtain ⟨h15, eh15⟩ : ∃ z, z = hp_up h2 q16 (.inl ((Γ.2.1 0), 360, .inl (fun _ => 0))) := ⟨_, rfl⟩
  rw [← eh15] at eh14
  have k17 : h15 (ad 0 0) = some (.inr (6, [.ref (ad 1 0), .ref (ad 2 0), .int (M 1 0), .ref (ad 3 0), .int (M 9 0), .ref (ad 4 0), .int (M 4 0), .ref (ad 14 (nV M - 1)), .ref (ad 5 0), .int (M 22 0), .ref (ad 6 0), cr_pen ad M])) := by rw [eh15]; exact hp_up_g k3 (fun z => by rw [z, hq_q16] at k3; cases k3)
  have k18 : h15 (ad 1 0) = some (.inl ((Γ.2.1 0), 60, .inl (M 2))) := by rw [eh15]; exact hp_up_g k4 (fun z => by rw [z, hq_q16] at k4; cases k4)
  have k19 : h15 (ad 2 0) = some (.inl ((Γ.2.1 0), 60, .inl (M 3))) := by rw [eh15]; exact hp_up_g k5 (fun z => by rw [z, hq_q16] at k5; cases k5)
  have k20 : h15 (ad 3 0) = some (.inl ((Γ.2.1 3), 20, .inr (.inr (.inr (.inr (fun j => if j < nS M then some (ad 10 j) else none)))))) := by rw [eh15]; exact hp_up_g k6 (fun z => by rw [z, hq_q16] at k6; cases k6)
  have k21 : h15 (ad 4 0) = some (.inl ((Γ.2.1 4), 40, .inr (.inr (.inr (.inr (fun j => if j < nV M then some (ad 14 j) else none)))))) := by rw [eh15]; exact hp_up_g k7 (fun z => by rw [z, hq_q16] at k7; cases k7)
  have k22 : h15 (ad 5 0) = some (.inl ((Γ.2.1 5), 10, .inr (.inr (.inr (.inr (fun j => if j < nR M then some (ad 18 j) else none)))))) := by rw [eh15]; exact hp_up_g k8 (fun z => by rw [z, hq_q16] at k8; cases k8)
  have k23 : h15 (ad 6 0) = some (.inr (0, [.ref (ad 7 0), .ref (ad 8 0), .ref (ad 9 0), .int (M 27 0)])) := by rw [eh15]; exact hp_up_g k9 (fun z => by rw [z, hq_q16] at k9; cases k9)
  have k24 : h15 (ad 7 0) = some (.inl ((Γ.2.1 0), 300, .inl (M 28))) := by rw [eh15]; exact hp_up_g k10 (fun z => by rw [z, hq_q16] at k10; cases k10)
  have k25 : h15 (ad 8 0) = some (.inl ((Γ.2.1 0), 300, .inl (M 29))) := by rw [eh15]; exact hp_up_g k11 (fun z => by rw [z, hq_q16] at k11; cases k11)
  have k26 : h15 (ad 9 0) = some (.inl ((Γ.2.1 0), 300, .inl (M 30))) := by rw [eh15]; exact hp_up_g k12 (fun z => by rw [z, hq_q16] at k12; cases k12)
  have k27 : h15 q1 = some (.inr (4, [.null])) := by rw [eh15]; exact hp_up_g k13 (fun z => by rw [z, hq_q16] at k13; cases k13)
  have k28 : h15 q16 = some (.inl ((Γ.2.1 0), 360, .inl (fun _ => 0))) := by rw [eh15]; exact hp_up_s
  have k29 : h14 (ad 0 0) = some (.inr (6, [.ref (ad 1 0), .ref (ad 2 0), .int (M 1 0), .ref (ad 3 0), .int (M 9 0), .ref (ad 4 0), .int (M 4 0), .ref (ad 14 (nV M - 1)), .ref (ad 5 0), .int (M 22 0), .ref (ad 6 0), cr_pen ad M])) := by rw [eh14]; exact hp_up_g k17 (fun z => by rw [z, k27] at k17; cases k17)
  have k30 : h14 (ad 1 0) = some (.inl ((Γ.2.1 0), 60, .inl (M 2))) := by rw [eh14]; exact hp_up_g k18 (fun z => by rw [z, k27] at k18; cases k18)
  have k31 : h14 (ad 2 0) = some (.inl ((Γ.2.1 0), 60, .inl (M 3))) := by rw [eh14]; exact hp_up_g k19 (fun z => by rw [z, k27] at k19; cases k19)
  have k32 : h14 (ad 3 0) = some (.inl ((Γ.2.1 3), 20, .inr (.inr (.inr (.inr (fun j => if j < nS M then some (ad 10 j) else none)))))) := by rw [eh14]; exact hp_up_g k20 (fun z => by rw [z, k27] at k20; cases k20)
  have k33 : h14 (ad 4 0) = some (.inl ((Γ.2.1 4), 40, .inr (.inr (.inr (.inr (fun j => if j < nV M then some (ad 14 j) else none)))))) := by rw [eh14]; exact hp_up_g k21 (fun z => by rw [z, k27] at k21; cases k21)
  have k34 : h14 (ad 5 0) = some (.inl ((Γ.2.1 5), 10, .inr (.inr (.inr (.inr (fun j => if j < nR M then some (ad 18 j) else none)))))) := by rw [eh14]; exact hp_up_g k22 (fun z => by rw [z, k27] at k22; cases k22)
  have k35 : h14 (ad 6 0) = some (.inr (0, [.ref (ad 7 0), .ref (ad 8 0), .ref (ad 9 0), .int (M 27 0)])) := by rw [eh14]; exact hp_up_g k23 (fun z => by rw [z, k27] at k23; cases k23)
  have k36 : h14 (ad 7 0) = some (.inl ((Γ.2.1 0), 300, .inl (M 28))) := by rw [eh14]; exact hp_up_g k24 (fun z => by rw [z, k27] at k24; cases k24)
  have k37 : h14 (ad 8 0) = some (.inl ((Γ.2.1 0), 300, .inl (M 29))) := by rw [eh14]; exact hp_up_g k25 (fun z => by rw [z, k27] at k25; cases k25)
  have k38 : h14 (ad 9 0) = some (.inl ((Γ.2.1 0), 300, .inl (M 30))) := by rw [eh14]; exact hp_up_g k26 (fun z => by rw [z, k27] at k26; cases k26)
  have k39 : h14 q16 = some (.inl ((Γ.2.1 0), 360, .inl (fun _ => 0))) := by rw [eh14]; exact hp_up_g k28 (fun z => by rw [z, k27] at k28; cases k28)
  have k40 : h14 q1 = some (.inr (4, [.ref q16])) := by rw [eh14]; exact hp_up_s
  refine hg_astore_n (lv' := [(2, .ref q1), (0, .ref (ad 0 0)), (1, .ref (ad 10 s))]) C d_MM_joinedState_7 rfl (by decide) rfl ?_
  refine hg_iconst (v := 0) C d_MM_joinedState_8 (by decide) ?_
  refine hg_istore_n (lv' := [(3, .int 0), (2, .ref q1), (0, .ref (ad 0 0)), (1, .ref (ad 10 s))]) C d_MM_joinedState_9 rfl (by decide) rfl ?_
  have fq := hq_q1
  have fb := hq_q16
  rw [eh2] at fb
  obtain ⟨nbq, fb⟩ := hp_up_none fb
  have x1 := cr_off (z := (.inr (4, [.null]) : va_E)) hC (cr_fr hC fq)
  rw [← eh2] at x1
  have x2 := cr_off (z := (.inl (Γ.2.1 0, 360, .inl (fun _ => 0)) : va_E)) x1 (cr_fr hC fb)
  rw [← eh15] at x2
  have x3 := cr_off (z := (.inr (4, [.ref q16]) : va_E)) x2 (cr_fr hC fq)
  rw [← eh14] at x3
  exact hg_lv (ks := [0, 1, 3, 2]) rfl (lp_MM_js1 l Γ C x3 hI hs fq fb (Ne.symm nbq) k40 (cr_fr hC fb) (fun z z1 z2 => by rw [eh14, hp_up_n z1, eh15, hp_up_n z2, eh2, hp_up_n z1]) hr (nT M + 1) 0 h14 (fun _ _ => 0) (by rw [fn_0]; exact (hp_up_self k39).symm) (fun t' g _ _ => by rw [if_neg (by omega)]) (by omega) (by omega))
