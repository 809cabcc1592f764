/-! THE CLASS: the conflicts of a joining -/
noncomputable def kp (FM FT : Nat → Int32) (t : Int32) : Nat → Int32 := @ite _ (s_has FM t) (Classical.propDecidable _) FM FT
def dch (FB FM FT : Nat → Int32) (t : Int32) : Prop := s_has FB t ∧ ¬ (s_has FM t ↔ s_has FT t) ∧ ∃ f, f < 5 ∧ ¬ s_val (kp FM FT t) t (nI f) = s_val FB t (nI f)
theorem cr_add {Γ : Gam} {ad : Nat → Nat → Nat} {M : Mem} {h u : Pic} (hC : cr_at Γ ad M h) {t f : Int32} (eu : u = hp_up (hp_up (hp_up (hp_up h (ad 7 0) (.inl (Γ.2.1 0, 300, .inl (upd (M 28) (nC M) t)))) (ad 8 0) (.inl (Γ.2.1 0, 300, .inl (upd (M 29) (nC M) f)))) (ad 9 0) (.inl (Γ.2.1 0, 300, .inl (upd (M 30) (nC M) (-1))))) (ad 6 0) (.inr (0, [.ref (ad 7 0), .ref (ad 8 0), .ref (ad 9 0), .int (nI (nC M + 1))]))) : cr_at Γ ad (m_add M t f) u := by
  rw [eu]
  have hf : ∀ j, j ∈ [5, 6, 8, 11, 12, 16, 17, 18, 19, 20, 21] → m_add M t f j = M j := fun j hj => (hfl2 (by decide) (by decide) j hj).trans (hfl2 (by decide) (by decide) j hj)
  refine cw_c (cw_w (cw_w (cw_w (cw_w hC (liv0 (k := 7) (by omega)) rfl) (liv0 (k := 8) (by omega)) rfl) (liv0 (k := 9) (by omega)) rfl) (liv0 (k := 6) (by omega)) rfl) (fun k i hl => hl) (liv_all (le9 rfl rfl rfl rfl rfl rfl rfl rfl rfl rfl) ?_ ?_ ?_ ?_)
  · intro s hs
    exact ⟨(c_up_k (by decide)).trans <| (c_up_k (by decide)).trans <| (c_up_k (by decide)).trans <| (c_up_k (by decide)).trans (cc10 rfl rfl rfl rfl rfl rfl rfl rfl rfl), (c_up_k (by decide)).trans <| (c_up_k (by decide)).trans <| (c_up_k (by decide)).trans <| (c_up_k (by decide)).trans (cc_hi hf (by omega) (by omega)), (c_up_k (by decide)).trans <| (c_up_k (by decide)).trans <| (c_up_k (by decide)).trans <| (c_up_k (by decide)).trans (cc_hi hf (by omega) (by omega))⟩
  · intro s j hs hj
    exact (c_up_k (by decide)).trans <| (c_up_k (by decide)).trans <| (c_up_k (by decide)).trans <| (c_up_k (by decide)).trans (cc_hi hf (by omega) (by omega))
  · intro v hv
    exact ⟨(c_up_k (by decide)).trans <| (c_up_k (by decide)).trans <| (c_up_k (by decide)).trans <| (c_up_k (by decide)).trans (cc_hi hf (by omega) (by omega)), (c_up_k (by decide)).trans <| (c_up_k (by decide)).trans <| (c_up_k (by decide)).trans <| (c_up_k (by decide)).trans (cc_hi hf (by omega) (by omega)), (c_up_k (by decide)).trans <| (c_up_k (by decide)).trans <| (c_up_k (by decide)).trans <| (c_up_k (by decide)).trans (cc_hi hf (by omega) (by omega)), (c_up_k (by decide)).trans <| (c_up_k (by decide)).trans <| (c_up_k (by decide)).trans <| (c_up_k (by decide)).trans (cc_hi hf (by omega) (by omega))⟩
  · intro r hr
    exact (c_up_k (by decide)).trans <| (c_up_k (by decide)).trans <| (c_up_k (by decide)).trans <| (c_up_k (by decide)).trans (cc18 rfl rfl rfl)
theorem cr_clear {Γ : Gam} {ad : Nat → Nat → Nat} {M : Mem} {h u : Pic} (hC : cr_at Γ ad M h) (eu : u = hp_up h (ad 6 0) (.inr (0, [.ref (ad 7 0), .ref (ad 8 0), .ref (ad 9 0), .int 0]))) : cr_at Γ ad (mset M 27 0 0) u := by
  rw [eu]
  have hf : ∀ j, j ∈ [5, 6, 8, 11, 12, 16, 17, 18, 19, 20, 21] → mset M 27 0 0 j = M j := fun j hj => hfl1 (by decide) hj
  refine cw_c (cw_w hC (liv0 (k := 6) (by omega)) rfl) (fun k i hl => hl) (liv_all (le9 rfl rfl rfl rfl rfl rfl rfl rfl rfl rfl) ?_ ?_ ?_ ?_)
  · intro s hs
    exact ⟨(c_up_k (by decide)).trans (cc10 rfl rfl rfl rfl rfl rfl rfl rfl rfl), (c_up_k (by decide)).trans (cc_hi hf (by omega) (by omega)), (c_up_k (by decide)).trans (cc_hi hf (by omega) (by omega))⟩
  · intro s j hs hj
    exact (c_up_k (by decide)).trans (cc_hi hf (by omega) (by omega))
  · intro v hv
    exact ⟨(c_up_k (by decide)).trans (cc_hi hf (by omega) (by omega)), (c_up_k (by decide)).trans (cc_hi hf (by omega) (by omega)), (c_up_k (by decide)).trans (cc_hi hf (by omega) (by omega)), (c_up_k (by decide)).trans (cc_hi hf (by omega) (by omega))⟩
  · intro r hr
    exact (c_up_k (by decide)).trans (cc18 rfl rfl rfl)
/-- below the conflicts all is the same -/
def lo (M N : Mem) : Prop := ∀ j, j < 27 → M j = N j
theorem lo.agr {M N : Mem} (h : lo M N) : agr M N := ⟨fun j hj _ => h j hj, fun i _ => by rw [h 5 (by decide)], fun i _ => by rw [h 6 (by decide)], fun i _ => by rw [h 7 (by decide)]⟩
theorem lo.add {M N : Mem} (h : lo M N) (t f : Int32) : lo (m_add M t f) N := fun j hj => (m_add_o hj).trans (h j hj)
theorem lo.fl {M N K : Mem} (h : lo K N) {s t : Nat} : ∀ f, lo (m_fl M s t K f) N
  | 0 => h
  | f + 1 => by
    unfold m_fl
    split
    · exact (lo.fl h f).add _ _
    · exact lo.fl h f
theorem lo.find {M N K : Mem} (h : lo K N) {s t : Nat} : lo (m_find M s t K) N := by
  unfold m_find
  split
  · exact h
  · split
    · exact (h.fl 5).add _ _
    · exact h.fl 5
theorem lo.fd {N : Mem} {s : Nat} : ∀ t, lo (m_fd N s t) N
  | 0 => fun j hj => mset_n (by omega)
  | t + 1 => lo.find (lo.fd t)
theorem lo.qvc {M N : Mem} (h : lo M N) (v : Nat) : vc M v = vc N v := by unfold vc; rw [h 5 (by decide), h 6 (by decide)]
theorem lo.qsc {M N : Mem} (h : lo M N) (s : Nat) : sc M s = sc N s := sc_hf (fun j hj => h j (by revert hj; simp only [List.mem_cons, List.not_mem_nil, or_false]; omega))
section DCH
variable {N : Mem} {s t : Nat}
theorem hs_b (hN : Inv0 N) (hs : s < nS N) (ht : t < nT N) : s_has (vc N (bs N s)) (nI t) ↔ ¬ h_b N s t = 0 := by
  have hT := hN.1.1.2
  rw [s_has_vc (by omega)]
  unfold h_b
  rcases hN.2.2.2.2.2.2.2.1 (bs N s) (hN.2.1 s hs).1.2 t (by omega) with y | y
  · rw [y.1]; exact ⟨fun _ => by decide, fun _ => rfl⟩
  · rw [y.1]; exact ⟨fun z => absurd z (by decide), fun z => absurd rfl z⟩
theorem hs_m (hN : Inv0 N) (ht : t < nT N) : s_has (vc N (nV N - 1)) (nI t) ↔ ¬ h_m N t = 0 := by
  have hT := hN.1.1.2
  have hV := hN.1.2.1.2.1
  rw [s_has_vc (by omega)]
  unfold h_m
  rcases hN.2.2.2.2.2.2.2.1 (nV N - 1) (by omega) t (by omega) with y | y
  · rw [y.1]; exact ⟨fun _ => by decide, fun _ => rfl⟩
  · rw [y.1]; exact ⟨fun z => absurd z (by decide), fun z => absurd rfl z⟩
theorem hs_t (hN : Inv0 N) (hs : s < nS N) (ht : t < nT N) : s_has (sc N s) (nI t) ↔ ¬ h_t N s t = 0 := s_has_sc hN hs (by have := hN.1.1.2; omega)
theorem h_t01 (hN : Inv0 N) (hs : s < nS N) (ht : t < nT N) : h_t N s t = 0 ∨ h_t N s t = 1 := stv_bool hN hs (hN.2.1 s hs).2.1.2 (by have := hN.1.1.2; omega)
theorem h_m01 (hN : Inv0 N) (ht : t < nT N) : h_m N t = 0 ∨ h_m N t = 1 := by
  have hV := hN.1.2.1.2.1
  rcases hN.2.2.2.2.2.2.2.1 (nV N - 1) (by omega) t (by have := hN.1.1.2; omega) with y | y
  · exact Or.inr y.1
  · exact Or.inl y.1
theorem dch_wc (hN : Inv0 N) (hs : s < nS N) (ht : t < nT N) : dch (vc N (bs N s)) (vc N (nV N - 1)) (sc N s) (nI t) ↔ ¬ h_b N s t = 0 ∧ wc N s t := by
  have hT := hN.1.1.2
  have vb : ∀ f, f < 5 → s_val (vc N (bs N s)) (nI t) (nI f) = x_old N s t f := fun f hf => vc_f (by omega) hf
  have vm : ∀ f, f < 5 → s_val (vc N (nV N - 1)) (nI t) (nI f) = x_my N t f := fun f hf => vc_f (by omega) hf
  have vt : ∀ f, f < 5 → s_val (sc N s) (nI t) (nI f) = x_th N s t f := fun f hf => sc_f (by omega) hf
  have bm := h_m01 hN ht
  have bt := h_t01 hN hs ht
  unfold dch wc
  rw [hs_b hN hs ht]
  refine and_congr_right fun hb => ?_
  have e1 : ¬ (s_has (vc N (nV N - 1)) (nI t) ↔ s_has (sc N s) (nI t)) ↔ ¬ h_m N t = h_t N s t := by
    rw [hs_m hN ht, hs_t hN hs ht]
    rcases bm with x | x <;> rcases bt with y | y <;> rw [x, y]
    · exact ⟨fun z => absurd Iff.rfl z, fun z => absurd rfl z⟩
    · exact ⟨fun _ => by decide, fun _ z => absurd rfl (z.mpr (by decide))⟩
    · exact ⟨fun _ => by decide, fun _ z => absurd rfl (z.mp (by decide))⟩
    · exact ⟨fun z => absurd Iff.rfl z, fun z => absurd rfl z⟩
  rw [e1]
  refine and_congr_right fun hne => ?_
  by_cases hm : h_m N t = 0
  · have hk : kp (vc N (nV N - 1)) (sc N s) (nI t) = sc N s := if_neg (fun z => (hs_m hN ht).mp z hm)
    have hth : ¬ h_t N s t = 0 := fun z => hne (hm.trans z.symm)
    rw [hk]
    constructor
    · rintro ⟨f, hf, z⟩
      rw [vt f hf, vb f hf] at z
      exact Or.inr ⟨hm, f, hf, hth, z⟩
    · rintro (z | ⟨-, f, hf, -, z⟩)
      · exact absurd hm z.1
      · exact ⟨f, hf, by rw [vt f hf, vb f hf]; exact z⟩
  · have hk : kp (vc N (nV N - 1)) (sc N s) (nI t) = vc N (nV N - 1) := if_pos ((hs_m hN ht).mpr hm)
    rw [hk]
    constructor
    · rintro ⟨f, hf, z⟩
      rw [vm f hf, vb f hf] at z
      exact Or.inl ⟨hm, f, hf, hm, z⟩
    · rintro (⟨-, f, hf, -, z⟩ | z)
      · exact ⟨f, hf, by rw [vm f hf, vb f hf]; exact z⟩
      · exact absurd z.1 hm
end DCH
abbrev rm_MM_isDroppedAndChanged : Room := { frames := 3, cells := 0, slots := 0, locals := 64 }
set_option maxHeartbeats 4000000 in
set_option maxRecDepth 100000 in
theorem lp_MM_drop (l : Launch) (Γ : Gam) {p : Program} {e : Env} {s : State} {m : MethodId} {args : Array Value} {below : List Frame} {meth : Method} {c : Code} {A : Nat → Prop} (C : hp_C p s m args meth c b_MM_isDroppedAndChanged 6 "ModelMerge" w_MM_isDroppedAndChanged Γ.1 kcl (ktys Γ.2.1) (ksts Γ.2.2) knws A) {h : Pic} {a b a2 b2 : Nat} {F G : Nat → Int32} (ha : h a = some (.inr (4, [.ref b]))) (hb : h b = some (.inl (Γ.2.1 0, 360, .inl F))) (ha2 : h a2 = some (.inr (4, [.ref b2]))) (hb2 : h b2 = some (.inl (Γ.2.1 0, 360, .inl G))) {t : Int32} {P : Prop} (hP : P ↔ ∃ f, f < 5 ∧ ¬ s_val F t (nI f) = s_val G t (nI f)) (hr : meth.sig.returnType = some .boolean)  :
    ∀ (n9 : Nat) (f : Nat), (f ≤ 5) → (5 + 1 ≤ f + n9) → (∀ j, j < f → s_val F t (nI j) = s_val G t (nI j)) → hp_G p l e rm_MM_isDroppedAndChanged s m args below meth c Γ.1 kcl A 6 (hp_NQ below Γ.1 kcl A (pb h P) args s 0 0) 0 0 41 [(5, .int (nI f)), (4, .ref a), (3, .int t), (0, .ref a2)] [] h := by
  intro n9
  induction n9 with
  | zero =>
    intro f hf hm hall
    exact absurd hm (by omega)
  | succ n9 ih =>
    intro f hf hm hall
    refine hg_iload C 0 d_MM_isDroppedAndChanged_41 rfl ?_
    refine hg_iconst (v := 5) C d_MM_isDroppedAndChanged_43 (by decide) ?_
    refine hg_icmp_ge C 73 d_MM_isDroppedAndChanged_44 (by decide) (fun c44 => ?_) (fun c44 => ?_)
    · have c44n : 5 ≤ f := (nI_leI (a := 5) (b := f) (by omega) (by omega)).mp c44
      refine hg_iconst (v := 0) C d_MM_isDroppedAndChanged_73 (by decide) ?_
      exact hg_iretN C hr rfl d_MM_isDroppedAndChanged_74 (Nat.le_of_ble_eq_true rfl) (Nat.le_of_ble_eq_true rfl) (Or.inr ⟨rfl, rfl, fun z => by obtain ⟨j, hj, hz⟩ := hP.mp z; exact hz (hall j (by omega))⟩)
    · have c44n : ¬ 5 ≤ f := fun z => c44 (nI_le (a := 5) (b := f) z (by omega))
      refine hg_aload C 1 d_MM_isDroppedAndChanged_47 rfl ?_
      refine hg_iload_n C 2 d_MM_isDroppedAndChanged_49 rfl rfl ?_
      refine hg_iload C 0 d_MM_isDroppedAndChanged_50 rfl ?_
      refine hg_VNv (q := ("ModelMerge$State", T_St, 1)) C (k_St_value l Γ _ a b F ha hb t (nI f)) (cw_MM_151 C.2.2.2.2.1 rfl rfl ⟨Nat.le_of_ble_eq_true rfl, Nat.le_of_ble_eq_true rfl⟩) ha rfl rfl rfl (Nat.le_of_ble_eq_true rfl) d_MM_isDroppedAndChanged_52 ⟨Nat.le_of_ble_eq_true rfl, Nat.le_of_ble_eq_true rfl⟩ (fun _ => ?_)
      refine hg_aload_n C 3 d_MM_isDroppedAndChanged_55 rfl rfl ?_
      refine hg_iload_n C 2 d_MM_isDroppedAndChanged_56 rfl rfl ?_
      refine hg_iload C 0 d_MM_isDroppedAndChanged_57 rfl ?_
      refine hg_VNv (q := ("ModelMerge$State", T_St, 1)) C (k_St_value l Γ _ a2 b2 G ha2 hb2 t (nI f)) (cw_MM_151 C.2.2.2.2.1 rfl rfl ⟨Nat.le_of_ble_eq_true rfl, Nat.le_of_ble_eq_true rfl⟩) ha2 rfl rfl rfl (Nat.le_of_ble_eq_true rfl) d_MM_isDroppedAndChanged_59 ⟨Nat.le_of_ble_eq_true rfl, Nat.le_of_ble_eq_true rfl⟩ (fun _ => ?_)
      refine hg_icmp_eq C 67 d_MM_isDroppedAndChanged_62 (by decide) (fun c62 => ?_) (fun c62 => ?_)
      · refine hg_iinc (v := nI (f + 1)) (lv' := [(5, .int (nI (f + 1))), (4, .ref a), (3, .int t), (0, .ref a2)]) C 0 d_MM_isDroppedAndChanged_67 rfl (nI_1 f) (by decide) rfl ?_
        refine hg_goto C 41 d_MM_isDroppedAndChanged_70 (by decide) ?_
        exact hg_lv (ks := [0, 1, 2, 3]) rfl (ih (f + 1) (by omega) (by omega) (fun j hj => (Nat.lt_succ_iff_lt_or_eq.mp hj).elim (hall j) (fun z => by rw [z]; exact c62)))
      · refine hg_iconst (v := 1) C d_MM_isDroppedAndChanged_65 (by decide) ?_
        exact hg_iretN C hr rfl d_MM_isDroppedAndChanged_66 (Nat.le_of_ble_eq_true rfl) (Nat.le_of_ble_eq_true rfl) (Or.inl ⟨rfl, rfl, hP.mpr ⟨f, by omega, c62⟩⟩)
set_option maxHeartbeats 4000000 in
set_option maxRecDepth 100000 in
theorem k_MM_isDroppedAndChanged (l : Launch) (Γ : Gam) (h : Pic) (a b a2 b2 a3 b3 : Nat) (FB FM FT : Nat → Int32) (ha : h a = some (.inr (4, [.ref b]))) (hb : h b = some (.inl (Γ.2.1 0, 360, .inl FB))) (ha2 : h a2 = some (.inr (4, [.ref b2]))) (hb2 : h b2 = some (.inl (Γ.2.1 0, 360, .inl FM))) (ha3 : h a3 = some (.inr (4, [.ref b3]))) (hb3 : h b3 = some (.inl (Γ.2.1 0, 360, .inl FT))) (t : Int32) : kN l Γ y_MM_isDroppedAndChanged w_MM_isDroppedAndChanged rm_MM_isDroppedAndChanged [.ref a, .ref a2, .ref a3, .int t] h (pb h (dch FB FM FT t)) 0 0 := by
  refine hg_entryN (own := "ModelMerge") (cc := b_MM_isDroppedAndChanged) (maxL := 6) (ret := (some .boolean)) (lv0 := [(0, .ref a), (1, .ref a2), (2, .ref a3), (3, .int t)]) (by decide) rfl rfl (Nat.le_of_ble_eq_true rfl) rfl ?_
  intro p e s m args below meth c A C hnm hr
  refine hg_aload_n C 0 d_MM_isDroppedAndChanged_0 rfl rfl ?_
  refine hg_iload_n C 3 d_MM_isDroppedAndChanged_1 rfl rfl ?_
  refine hg_VNb (q := ("ModelMerge$State", T_St, 1)) C (k_St_has l Γ _ a b FB ha hb t) (cw_MM_243 C.2.2.2.2.1 rfl rfl ⟨Nat.le_of_ble_eq_true rfl, Nat.le_of_ble_eq_true rfl⟩) ha rfl rfl rfl (Nat.le_of_ble_eq_true rfl) d_MM_isDroppedAndChanged_2 ⟨Nat.le_of_ble_eq_true rfl, Nat.le_of_ble_eq_true rfl⟩ (fun z1 => ?_) (fun z1 => ?_)
  · refine hg_if_eq C 21 d_MM_isDroppedAndChanged_5 (by decide) (fun z => absurd z (by decide)) (fun _ => ?_)
    refine hg_aload_n C 1 d_MM_isDroppedAndChanged_8 rfl rfl ?_
    refine hg_iload_n C 3 d_MM_isDroppedAndChanged_9 rfl rfl ?_
    refine hg_VNb (q := ("ModelMerge$State", T_St, 1)) C (k_St_has l Γ _ a2 b2 FM ha2 hb2 t) (cw_MM_243 C.2.2.2.2.1 rfl rfl ⟨Nat.le_of_ble_eq_true rfl, Nat.le_of_ble_eq_true rfl⟩) ha2 rfl rfl rfl (Nat.le_of_ble_eq_true rfl) d_MM_isDroppedAndChanged_10 ⟨Nat.le_of_ble_eq_true rfl, Nat.le_of_ble_eq_true rfl⟩ (fun z2 => ?_) (fun z2 => ?_)
    · refine hg_aload_n C 2 d_MM_isDroppedAndChanged_13 rfl rfl ?_
      refine hg_iload_n C 3 d_MM_isDroppedAndChanged_14 rfl rfl ?_
      refine hg_VNb (q := ("ModelMerge$State", T_St, 1)) C (k_St_has l Γ _ a3 b3 FT ha3 hb3 t) (cw_MM_243 C.2.2.2.2.1 rfl rfl ⟨Nat.le_of_ble_eq_true rfl, Nat.le_of_ble_eq_true rfl⟩) ha3 rfl rfl rfl (Nat.le_of_ble_eq_true rfl) d_MM_isDroppedAndChanged_15 ⟨Nat.le_of_ble_eq_true rfl, Nat.le_of_ble_eq_true rfl⟩ (fun z3 => ?_) (fun z3 => ?_)
      · refine hg_icmp_ne C 23 d_MM_isDroppedAndChanged_18 (by decide) (fun z => absurd rfl z) (fun _ => ?_)
        refine hg_iconst (v := 0) C d_MM_isDroppedAndChanged_21 (by decide) ?_
        exact hg_iretN C hr rfl d_MM_isDroppedAndChanged_22 (Nat.le_of_ble_eq_true rfl) (Nat.le_of_ble_eq_true rfl) (Or.inr ⟨rfl, rfl, fun z => z.2.1 ⟨fun _ => z3, fun _ => z2⟩⟩)
      · refine hg_icmp_ne C 23 d_MM_isDroppedAndChanged_18 (by decide) (fun _ => ?_) (fun z => absurd z (by decide))
        refine hg_aload_n C 1 d_MM_isDroppedAndChanged_23 rfl rfl ?_
        refine hg_iload_n C 3 d_MM_isDroppedAndChanged_24 rfl rfl ?_
        refine hg_VNb (q := ("ModelMerge$State", T_St, 1)) C (k_St_has l Γ _ a2 b2 FM ha2 hb2 t) (cw_MM_243 C.2.2.2.2.1 rfl rfl ⟨Nat.le_of_ble_eq_true rfl, Nat.le_of_ble_eq_true rfl⟩) ha2 rfl rfl rfl (Nat.le_of_ble_eq_true rfl) d_MM_isDroppedAndChanged_25 ⟨Nat.le_of_ble_eq_true rfl, Nat.le_of_ble_eq_true rfl⟩ (fun z4 => ?_) (fun z4 => ?_)
        · refine hg_if_eq C 35 d_MM_isDroppedAndChanged_28 (by decide) (fun z => absurd z (by decide)) (fun _ => ?_)
          refine hg_aload_n C 1 d_MM_isDroppedAndChanged_31 rfl rfl ?_
          refine hg_goto C 36 d_MM_isDroppedAndChanged_32 (by decide) ?_
          refine hg_astore (lv' := [(4, .ref a2), (0, .ref a), (1, .ref a2), (2, .ref a3), (3, .int t)]) C d_MM_isDroppedAndChanged_36 (by decide) rfl ?_
          refine hg_iconst (v := 0) C d_MM_isDroppedAndChanged_38 (by decide) ?_
          refine hg_istore (lv' := [(5, .int 0), (4, .ref a2), (0, .ref a), (1, .ref a2), (2, .ref a3), (3, .int t)]) C d_MM_isDroppedAndChanged_39 (by decide) rfl ?_
          exact hg_lv (ks := [0, 1, 5, 2]) rfl (lp_MM_drop l Γ C ha2 hb2 ha hb (P := dch FB FM FT t) ⟨fun z => by have y := z.2.2; rw [kp, if_pos z2] at y; exact y, fun z => ⟨z1, (fun z => z3 (z.mp z2)), by rw [kp, if_pos z2]; exact z⟩⟩ hr 6 0 (by omega) (by omega) (fun j hj => absurd hj (by omega)))
        · refine hg_if_eq C 35 d_MM_isDroppedAndChanged_28 (by decide) (fun _ => ?_) (fun z => absurd (by decide) z)
          refine hg_aload_n C 2 d_MM_isDroppedAndChanged_35 rfl rfl ?_
          refine hg_astore (lv' := [(4, .ref a3), (0, .ref a), (1, .ref a2), (2, .ref a3), (3, .int t)]) C d_MM_isDroppedAndChanged_36 (by decide) rfl ?_
          refine hg_iconst (v := 0) C d_MM_isDroppedAndChanged_38 (by decide) ?_
          refine hg_istore (lv' := [(5, .int 0), (4, .ref a3), (0, .ref a), (1, .ref a2), (2, .ref a3), (3, .int t)]) C d_MM_isDroppedAndChanged_39 (by decide) rfl ?_
          exact absurd z2 z4
    · refine hg_aload_n C 2 d_MM_isDroppedAndChanged_13 rfl rfl ?_
      refine hg_iload_n C 3 d_MM_isDroppedAndChanged_14 rfl rfl ?_
      refine hg_VNb (q := ("ModelMerge$State", T_St, 1)) C (k_St_has l Γ _ a3 b3 FT ha3 hb3 t) (cw_MM_243 C.2.2.2.2.1 rfl rfl ⟨Nat.le_of_ble_eq_true rfl, Nat.le_of_ble_eq_true rfl⟩) ha3 rfl rfl rfl (Nat.le_of_ble_eq_true rfl) d_MM_isDroppedAndChanged_15 ⟨Nat.le_of_ble_eq_true rfl, Nat.le_of_ble_eq_true rfl⟩ (fun z5 => ?_) (fun z5 => ?_)
      · refine hg_icmp_ne C 23 d_MM_isDroppedAndChanged_18 (by decide) (fun _ => ?_) (fun z => absurd z (by decide))
        refine hg_aload_n C 1 d_MM_isDroppedAndChanged_23 rfl rfl ?_
        refine hg_iload_n C 3 d_MM_isDroppedAndChanged_24 rfl rfl ?_
        refine hg_VNb (q := ("ModelMerge$State", T_St, 1)) C (k_St_has l Γ _ a2 b2 FM ha2 hb2 t) (cw_MM_243 C.2.2.2.2.1 rfl rfl ⟨Nat.le_of_ble_eq_true rfl, Nat.le_of_ble_eq_true rfl⟩) ha2 rfl rfl rfl (Nat.le_of_ble_eq_true rfl) d_MM_isDroppedAndChanged_25 ⟨Nat.le_of_ble_eq_true rfl, Nat.le_of_ble_eq_true rfl⟩ (fun z6 => ?_) (fun z6 => ?_)
        · refine hg_if_eq C 35 d_MM_isDroppedAndChanged_28 (by decide) (fun z => absurd z (by decide)) (fun _ => ?_)
          refine hg_aload_n C 1 d_MM_isDroppedAndChanged_31 rfl rfl ?_
          refine hg_goto C 36 d_MM_isDroppedAndChanged_32 (by decide) ?_
          refine hg_astore (lv' := [(4, .ref a2), (0, .ref a), (1, .ref a2), (2, .ref a3), (3, .int t)]) C d_MM_isDroppedAndChanged_36 (by decide) rfl ?_
          refine hg_iconst (v := 0) C d_MM_isDroppedAndChanged_38 (by decide) ?_
          refine hg_istore (lv' := [(5, .int 0), (4, .ref a2), (0, .ref a), (1, .ref a2), (2, .ref a3), (3, .int t)]) C d_MM_isDroppedAndChanged_39 (by decide) rfl ?_
          exact absurd z6 z2
        · refine hg_if_eq C 35 d_MM_isDroppedAndChanged_28 (by decide) (fun _ => ?_) (fun z => absurd (by decide) z)
          refine hg_aload_n C 2 d_MM_isDroppedAndChanged_35 rfl rfl ?_
          refine hg_astore (lv' := [(4, .ref a3), (0, .ref a), (1, .ref a2), (2, .ref a3), (3, .int t)]) C d_MM_isDroppedAndChanged_36 (by decide) rfl ?_
          refine hg_iconst (v := 0) C d_MM_isDroppedAndChanged_38 (by decide) ?_
          refine hg_istore (lv' := [(5, .int 0), (4, .ref a3), (0, .ref a), (1, .ref a2), (2, .ref a3), (3, .int t)]) C d_MM_isDroppedAndChanged_39 (by decide) rfl ?_
          exact hg_lv (ks := [0, 1, 5, 2]) rfl (lp_MM_drop l Γ C ha3 hb3 ha hb (P := dch FB FM FT t) ⟨fun z => by have y := z.2.2; rw [kp, if_neg z2] at y; exact y, fun z => ⟨z1, (fun z => z2 (z.mpr z5)), by rw [kp, if_neg z2]; exact z⟩⟩ hr 6 0 (by omega) (by omega) (fun j hj => absurd hj (by omega)))
      · refine hg_icmp_ne C 23 d_MM_isDroppedAndChanged_18 (by decide) (fun z => absurd rfl z) (fun _ => ?_)
        refine hg_iconst (v := 0) C d_MM_isDroppedAndChanged_21 (by decide) ?_
        exact hg_iretN C hr rfl d_MM_isDroppedAndChanged_22 (Nat.le_of_ble_eq_true rfl) (Nat.le_of_ble_eq_true rfl) (Or.inr ⟨rfl, rfl, fun z => z.2.1 ⟨fun y => absurd y z2, fun y => absurd y z5⟩⟩)
  · refine hg_if_eq C 21 d_MM_isDroppedAndChanged_5 (by decide) (fun _ => ?_) (fun z => absurd (by decide) z)
    refine hg_iconst (v := 0) C d_MM_isDroppedAndChanged_21 (by decide) ?_
    exact hg_iretN C hr rfl d_MM_isDroppedAndChanged_22 (Nat.le_of_ble_eq_true rfl) (Nat.le_of_ble_eq_true rfl) (Or.inr ⟨rfl, rfl, fun z => z1 z.1⟩)
