/-! THE CLASS: differs, broken -/
def dif (F G : Nat → Int32) (t f : Int32) : Prop := (¬ (s_has F t ↔ s_has G t) ∧ f = 0) ∨ ((s_has F t ↔ s_has G t) ∧ s_has F t ∧ ¬ s_val F t f = s_val G t f)
theorem s_has_any {M : Mem} (hI : Inv0 M) {v : Nat} (hv : v < nV M) (x : Int32) : s_has (vc M v) x ↔ i_th M (nI v) x := by
  have hT := hI.1.1.2
  have hV := hI.1.2.1.2.2
  by_cases hx : inr x 60
  · obtain ⟨t, ht, rfl⟩ := inr_nat (n := 60) hx (by omega)
    rw [s_has_vc ht]
    constructor
    · intro z
      rcases hI.2.2.2.2.2.2.2.1 v hv t ht with y | y
      · exact (i_th_of hI hv y.2).mpr z
      · rw [y.1] at z; exact absurd z (by decide)
    · intro z
      obtain ⟨t', ht', e⟩ := inr_nat (n := nT M) z.2.1 (by omega)
      have e := (nI_eq (by omega) (by omega)).mp e
      subst e
      exact (i_th_of hI hv ht').mp z
  · constructor
    · intro z
      unfold s_has at z
      rw [s_val_neg (fun y => hx ⟨y.1, y.2.1⟩)] at z
      exact absurd z (by decide)
    · intro z
      obtain ⟨t', ht', e⟩ := inr_nat (n := nT M) z.2.1 (by omega)
      exact absurd (show inr x 60 by rw [e]; exact inr_of (n := 60) (by omega) (by omega)) hx
theorem dif_is {M : Mem} (hI : Inv0 M) {a b t f : Nat} (ha : a < nV M) (hb : b < nV M) (ht : t < nT M) (hf : f < 5) : dif (vc M a) (vc M b) (nI t) (nI f) ↔ d_is M a b t f := by
  have hT := hI.1.1.2
  unfold dif d_is
  rw [s_has_any hI ha, s_has_any hI hb, vc_f (by omega) hf, vc_f (by omega) hf, show (nI f = 0) = (f = 0) from propext ((nI_eq (b := 0) (by omega) (by omega)))]
  constructor
  · intro z
    rcases z with z | z
    · exact Or.inr z
    · exact Or.inl ⟨z.2.1, z.1.mp z.2.1, z.2.2⟩
  · intro z
    rcases z with z | z
    · exact Or.inr ⟨⟨fun _ => z.2.1, fun _ => z.1⟩, z.1, z.2.2⟩
    · exact Or.inl z
abbrev rm_MM_isDifference : Room := { frames := 3, cells := 0, slots := 0, locals := 64 }
set_option maxHeartbeats 4000000 in
set_option maxRecDepth 100000 in
theorem k_MM_isDifference (l : Launch) (Γ : Gam) (h : Pic) (a b a2 b2 : Nat) (F G : Nat → Int32) (ha : h a = some (.inr (4, [.ref b]))) (hb : h b = some (.inl (Γ.2.1 0, 360, .inl F))) (ha2 : h a2 = some (.inr (4, [.ref b2]))) (hb2 : h b2 = some (.inl (Γ.2.1 0, 360, .inl G))) (t f : Int32) : kN l Γ y_MM_isDifference w_MM_isDifference rm_MM_isDifference [.ref a, .ref a2, .int t, .int f] h (pb h (dif F G t f)) 0 0 := by
  refine hg_entryN (own := "ModelMerge") (cc := b_MM_isDifference) (maxL := 4) (ret := (some .boolean)) (lv0 := [(0, .ref a), (1, .ref a2), (2, .int t), (3, .int f)]) (by decide) rfl rfl (Nat.le_of_ble_eq_true rfl) rfl ?_
  intro p e s m args below meth c A C hnm hr
  refine hg_aload_n C 0 d_MM_isDifference_0 rfl rfl ?_
  refine hg_iload_n C 2 d_MM_isDifference_1 rfl rfl ?_
  refine hg_VNb (q := ("ModelMerge$State", T_St, 1)) C (k_St_has l Γ _ a b F ha hb t) (cw_MM_243 C.2.2.2.2.1 rfl rfl ⟨Nat.le_of_ble_eq_true rfl, Nat.le_of_ble_eq_true rfl⟩) ha rfl rfl rfl (Nat.le_of_ble_eq_true rfl) d_MM_isDifference_2 ⟨Nat.le_of_ble_eq_true rfl, Nat.le_of_ble_eq_true rfl⟩ (fun z1 => ?_) (fun z1 => ?_)
  · refine hg_aload_n C 1 d_MM_isDifference_5 rfl rfl ?_
    refine hg_iload_n C 2 d_MM_isDifference_6 rfl rfl ?_
    refine hg_VNb (q := ("ModelMerge$State", T_St, 1)) C (k_St_has l Γ _ a2 b2 G ha2 hb2 t) (cw_MM_243 C.2.2.2.2.1 rfl rfl ⟨Nat.le_of_ble_eq_true rfl, Nat.le_of_ble_eq_true rfl⟩) ha2 rfl rfl rfl (Nat.le_of_ble_eq_true rfl) d_MM_isDifference_7 ⟨Nat.le_of_ble_eq_true rfl, Nat.le_of_ble_eq_true rfl⟩ (fun z2 => ?_) (fun z2 => ?_)
    · refine hg_icmp_eq C 23 d_MM_isDifference_10 (by decide) (fun _ => ?_) (fun z => absurd (by decide) z)
      refine hg_aload_n C 0 d_MM_isDifference_23 rfl rfl ?_
      refine hg_iload_n C 2 d_MM_isDifference_24 rfl rfl ?_
      refine hg_VNb (q := ("ModelMerge$State", T_St, 1)) C (k_St_has l Γ _ a b F ha hb t) (cw_MM_243 C.2.2.2.2.1 rfl rfl ⟨Nat.le_of_ble_eq_true rfl, Nat.le_of_ble_eq_true rfl⟩) ha rfl rfl rfl (Nat.le_of_ble_eq_true rfl) d_MM_isDifference_25 ⟨Nat.le_of_ble_eq_true rfl, Nat.le_of_ble_eq_true rfl⟩ (fun z3 => ?_) (fun z3 => ?_)
      · refine hg_if_eq C 50 d_MM_isDifference_28 (by decide) (fun z => absurd z (by decide)) (fun _ => ?_)
        refine hg_aload_n C 0 d_MM_isDifference_31 rfl rfl ?_
        refine hg_iload_n C 2 d_MM_isDifference_32 rfl rfl ?_
        refine hg_iload_n C 3 d_MM_isDifference_33 rfl rfl ?_
        refine hg_VNv (q := ("ModelMerge$State", T_St, 1)) C (k_St_value l Γ _ a b F ha hb t f) (cw_MM_151 C.2.2.2.2.1 rfl rfl ⟨Nat.le_of_ble_eq_true rfl, Nat.le_of_ble_eq_true rfl⟩) ha rfl rfl rfl (Nat.le_of_ble_eq_true rfl) d_MM_isDifference_34 ⟨Nat.le_of_ble_eq_true rfl, Nat.le_of_ble_eq_true rfl⟩ (fun _ => ?_)
        refine hg_aload_n C 1 d_MM_isDifference_37 rfl rfl ?_
        refine hg_iload_n C 2 d_MM_isDifference_38 rfl rfl ?_
        refine hg_iload_n C 3 d_MM_isDifference_39 rfl rfl ?_
        refine hg_VNv (q := ("ModelMerge$State", T_St, 1)) C (k_St_value l Γ _ a2 b2 G ha2 hb2 t f) (cw_MM_151 C.2.2.2.2.1 rfl rfl ⟨Nat.le_of_ble_eq_true rfl, Nat.le_of_ble_eq_true rfl⟩) ha2 rfl rfl rfl (Nat.le_of_ble_eq_true rfl) d_MM_isDifference_40 ⟨Nat.le_of_ble_eq_true rfl, Nat.le_of_ble_eq_true rfl⟩ (fun _ => ?_)
        refine hg_icmp_eq C 50 d_MM_isDifference_43 (by decide) (fun c43 => ?_) (fun c43 => ?_)
        · refine hg_iconst (v := 0) C d_MM_isDifference_50 (by decide) ?_
          exact hg_iretN C hr rfl d_MM_isDifference_51 (Nat.le_of_ble_eq_true rfl) (Nat.le_of_ble_eq_true rfl) (Or.inr ⟨rfl, rfl, fun z => z.elim (fun y => y.1 ⟨fun _ => z2, fun _ => z1⟩) (fun y => y.2.2 c43)⟩)
        · refine hg_iconst (v := 1) C d_MM_isDifference_46 (by decide) ?_
          refine hg_goto C 51 d_MM_isDifference_47 (by decide) ?_
          exact hg_iretN C hr rfl d_MM_isDifference_51 (Nat.le_of_ble_eq_true rfl) (Nat.le_of_ble_eq_true rfl) (Or.inl ⟨rfl, rfl, Or.inr ⟨⟨fun _ => z2, fun _ => z1⟩, z1, c43⟩⟩)
      · refine hg_if_eq C 50 d_MM_isDifference_28 (by decide) (fun _ => ?_) (fun z => absurd (by decide) z)
        refine hg_iconst (v := 0) C d_MM_isDifference_50 (by decide) ?_
        exact hg_iretN C hr rfl d_MM_isDifference_51 (Nat.le_of_ble_eq_true rfl) (Nat.le_of_ble_eq_true rfl) (absurd z1 z3)
    · refine hg_icmp_eq C 23 d_MM_isDifference_10 (by decide) (fun z => absurd z (by decide)) (fun _ => ?_)
      refine hg_iload_n C 3 d_MM_isDifference_13 rfl rfl ?_
      refine hg_if_ne C 21 d_MM_isDifference_14 (by decide) (fun c14 => ?_) (fun c14 => ?_)
      · refine hg_iconst (v := 0) C d_MM_isDifference_21 (by decide) ?_
        exact hg_iretN C hr rfl d_MM_isDifference_22 (Nat.le_of_ble_eq_true rfl) (Nat.le_of_ble_eq_true rfl) (Or.inr ⟨rfl, rfl, fun z => z.elim (fun y => c14 y.2) (fun y => (fun z => z2 (z.mp z1)) y.1)⟩)
      · refine hg_iconst (v := 1) C d_MM_isDifference_17 (by decide) ?_
        refine hg_goto C 22 d_MM_isDifference_18 (by decide) ?_
        exact hg_iretN C hr rfl d_MM_isDifference_22 (Nat.le_of_ble_eq_true rfl) (Nat.le_of_ble_eq_true rfl) (Or.inl ⟨rfl, rfl, Or.inl ⟨fun z => z2 (z.mp z1), c14⟩⟩)
  · refine hg_aload_n C 1 d_MM_isDifference_5 rfl rfl ?_
    refine hg_iload_n C 2 d_MM_isDifference_6 rfl rfl ?_
    refine hg_VNb (q := ("ModelMerge$State", T_St, 1)) C (k_St_has l Γ _ a2 b2 G ha2 hb2 t) (cw_MM_243 C.2.2.2.2.1 rfl rfl ⟨Nat.le_of_ble_eq_true rfl, Nat.le_of_ble_eq_true rfl⟩) ha2 rfl rfl rfl (Nat.le_of_ble_eq_true rfl) d_MM_isDifference_7 ⟨Nat.le_of_ble_eq_true rfl, Nat.le_of_ble_eq_true rfl⟩ (fun z4 => ?_) (fun z4 => ?_)
    · refine hg_icmp_eq C 23 d_MM_isDifference_10 (by decide) (fun z => absurd z (by decide)) (fun _ => ?_)
      refine hg_iload_n C 3 d_MM_isDifference_13 rfl rfl ?_
      refine hg_if_ne C 21 d_MM_isDifference_14 (by decide) (fun c14 => ?_) (fun c14 => ?_)
      · refine hg_iconst (v := 0) C d_MM_isDifference_21 (by decide) ?_
        exact hg_iretN C hr rfl d_MM_isDifference_22 (Nat.le_of_ble_eq_true rfl) (Nat.le_of_ble_eq_true rfl) (Or.inr ⟨rfl, rfl, fun z => z.elim (fun y => c14 y.2) (fun y => (fun z => z1 (z.mpr z4)) y.1)⟩)
      · refine hg_iconst (v := 1) C d_MM_isDifference_17 (by decide) ?_
        refine hg_goto C 22 d_MM_isDifference_18 (by decide) ?_
        exact hg_iretN C hr rfl d_MM_isDifference_22 (Nat.le_of_ble_eq_true rfl) (Nat.le_of_ble_eq_true rfl) (Or.inl ⟨rfl, rfl, Or.inl ⟨fun z => z1 (z.mpr z4), c14⟩⟩)
    · refine hg_icmp_eq C 23 d_MM_isDifference_10 (by decide) (fun _ => ?_) (fun z => absurd (by decide) z)
      refine hg_aload_n C 0 d_MM_isDifference_23 rfl rfl ?_
      refine hg_iload_n C 2 d_MM_isDifference_24 rfl rfl ?_
      refine hg_VNb (q := ("ModelMerge$State", T_St, 1)) C (k_St_has l Γ _ a b F ha hb t) (cw_MM_243 C.2.2.2.2.1 rfl rfl ⟨Nat.le_of_ble_eq_true rfl, Nat.le_of_ble_eq_true rfl⟩) ha rfl rfl rfl (Nat.le_of_ble_eq_true rfl) d_MM_isDifference_25 ⟨Nat.le_of_ble_eq_true rfl, Nat.le_of_ble_eq_true rfl⟩ (fun z5 => ?_) (fun z5 => ?_)
      · refine hg_if_eq C 50 d_MM_isDifference_28 (by decide) (fun z => absurd z (by decide)) (fun _ => ?_)
        refine hg_aload_n C 0 d_MM_isDifference_31 rfl rfl ?_
        refine hg_iload_n C 2 d_MM_isDifference_32 rfl rfl ?_
        refine hg_iload_n C 3 d_MM_isDifference_33 rfl rfl ?_
        refine hg_VNv (q := ("ModelMerge$State", T_St, 1)) C (k_St_value l Γ _ a b F ha hb t f) (cw_MM_151 C.2.2.2.2.1 rfl rfl ⟨Nat.le_of_ble_eq_true rfl, Nat.le_of_ble_eq_true rfl⟩) ha rfl rfl rfl (Nat.le_of_ble_eq_true rfl) d_MM_isDifference_34 ⟨Nat.le_of_ble_eq_true rfl, Nat.le_of_ble_eq_true rfl⟩ (fun _ => ?_)
        refine hg_aload_n C 1 d_MM_isDifference_37 rfl rfl ?_
        refine hg_iload_n C 2 d_MM_isDifference_38 rfl rfl ?_
        refine hg_iload_n C 3 d_MM_isDifference_39 rfl rfl ?_
        refine hg_VNv (q := ("ModelMerge$State", T_St, 1)) C (k_St_value l Γ _ a2 b2 G ha2 hb2 t f) (cw_MM_151 C.2.2.2.2.1 rfl rfl ⟨Nat.le_of_ble_eq_true rfl, Nat.le_of_ble_eq_true rfl⟩) ha2 rfl rfl rfl (Nat.le_of_ble_eq_true rfl) d_MM_isDifference_40 ⟨Nat.le_of_ble_eq_true rfl, Nat.le_of_ble_eq_true rfl⟩ (fun _ => ?_)
        refine hg_icmp_eq C 50 d_MM_isDifference_43 (by decide) (fun c43 => ?_) (fun c43 => ?_)
        · refine hg_iconst (v := 0) C d_MM_isDifference_50 (by decide) ?_
          exact hg_iretN C hr rfl d_MM_isDifference_51 (Nat.le_of_ble_eq_true rfl) (Nat.le_of_ble_eq_true rfl) (absurd z5 z1)
        · refine hg_iconst (v := 1) C d_MM_isDifference_46 (by decide) ?_
          refine hg_goto C 51 d_MM_isDifference_47 (by decide) ?_
          exact hg_iretN C hr rfl d_MM_isDifference_51 (Nat.le_of_ble_eq_true rfl) (Nat.le_of_ble_eq_true rfl) (absurd z5 z1)
      · refine hg_if_eq C 50 d_MM_isDifference_28 (by decide) (fun _ => ?_) (fun z => absurd (by decide) z)
        refine hg_iconst (v := 0) C d_MM_isDifference_50 (by decide) ?_
        exact hg_iretN C hr rfl d_MM_isDifference_51 (Nat.le_of_ble_eq_true rfl) (Nat.le_of_ble_eq_true rfl) (Or.inr ⟨rfl, rfl, fun z => z.elim (fun y => y.1 ⟨fun y => absurd y z1, fun y => absurd y z4⟩) (fun y => z1 y.2.1)⟩)
abbrev rm_MM_differs : Room := { frames := 7, cells := 3, slots := 18, locals := 112 }
set_option maxHeartbeats 4000000 in
set_option maxRecDepth 100000 in
theorem lp_MM_diff1 (l : Launch) (Γ : Gam) {p : Program} {e : Env} {s : State} {m : MethodId} {args : Array Value} {below : List Frame} {meth : Method} {c : Code} {A : Nat → Prop} (C : hp_C p s m args meth c b_MM_differs 9 "ModelMerge" w_MM_differs Γ.1 kcl (ktys Γ.2.1) (ksts Γ.2.2) knws A) {h : Pic} {ad : Nat → Nat → Nat} {M : Mem} (hC : cr_at Γ ad M h) (hI : Inv0 M) {a b k : Nat} (ha : a < nV M) (hb : b < nV M) (hk : k < 2 ^ 31) {v : Int32} {post : Option Value → Pic → Prop} {px : String → Pic → Prop} (hpost : post (some (.int v)) h) (hr : meth.sig.returnType = some .int) {t : Nat} (ht : t < nT M) (kq : ∀ n kk, n + kk = k → srch (d_at M a b) k (5 * nT M - (5 * t + 5)) (5 * t + 5) n = v → hp_G p l e rm_MM_differs s m args below meth c Γ.1 kcl A 9 (hp_MQ below Γ.1 kcl A post px args s 3 18) 3 18 84 [(7, .int (nI t)), (6, .int (nI kk)), (4, .ref (ad 15 a)), (5, .ref (ad 15 b)), (0, .ref (ad 0 0))] [] h) :
    ∀ (n9 : Nat) (f n kk : Nat), (f ≤ 5) → (5 + 1 ≤ f + n9) → (n + kk = k) → (srch (d_at M a b) k (5 * nT M - (5 * t + f)) (5 * t + f) n = v) → hp_G p l e rm_MM_differs s m args below meth c Γ.1 kcl A 9 (hp_MQ below Γ.1 kcl A post px args s 3 18) 3 18 42 [(8, .int (nI f)), (7, .int (nI t)), (6, .int (nI kk)), (4, .ref (ad 15 a)), (5, .ref (ad 15 b)), (0, .ref (ad 0 0))] [] h := by
  intro n9
  induction n9 with
  | zero =>
    intro f n kk hf hm hn hv
    exact absurd hm (by omega)
  | succ n9 ih =>
    intro f n kk hf hm hn hv
    have kx : h (ad 0 0) = some (.inr (6, [.ref (ad 1 0), .ref (ad 2 0), .int (M 1 0), .ref (ad 3 0), .int (M 9 0), .ref (ad 4 0), .int (M 4 0), .ref (ad 14 (nV M - 1)), .ref (ad 5 0), .int (M 22 0), .ref (ad 6 0), cr_pen ad M])) := hC.1 0 0 (liv0 (by omega))
    have kA1 : h (ad 1 0) = some (.inl ((Γ.2.1 0), 60, .inl (M 2))) := hC.1 1 0 (liv0 (by omega))
    have kA2 : h (ad 2 0) = some (.inl ((Γ.2.1 0), 60, .inl (M 3))) := hC.1 2 0 (liv0 (by omega))
    have kA3 : h (ad 3 0) = some (.inl ((Γ.2.1 3), 20, .inr (.inr (.inr (.inr (fun j => if j < nS M then some (ad 10 j) else none)))))) := hC.1 3 0 (liv0 (by omega))
    have kA4 : h (ad 4 0) = some (.inl ((Γ.2.1 4), 40, .inr (.inr (.inr (.inr (fun j => if j < nV M then some (ad 14 j) else none)))))) := hC.1 4 0 (liv0 (by omega))
    have kA5 : h (ad 5 0) = some (.inl ((Γ.2.1 5), 10, .inr (.inr (.inr (.inr (fun j => if j < nR M then some (ad 18 j) else none)))))) := hC.1 5 0 (liv0 (by omega))
    have kA6 : h (ad 6 0) = some (.inr (0, [.ref (ad 7 0), .ref (ad 8 0), .ref (ad 9 0), .int (M 27 0)])) := hC.1 6 0 (liv0 (by omega))
    have kA7 : h (ad 7 0) = some (.inl ((Γ.2.1 0), 300, .inl (M 28))) := hC.1 7 0 (liv0 (by omega))
    have kA8 : h (ad 8 0) = some (.inl ((Γ.2.1 0), 300, .inl (M 29))) := hC.1 8 0 (liv0 (by omega))
    have kA9 : h (ad 9 0) = some (.inl ((Γ.2.1 0), 300, .inl (M 30))) := hC.1 9 0 (liv0 (by omega))
    obtain ⟨⟨⟨eT, hT⟩, ⟨eV, hV1, hV⟩, ⟨eS, hS⟩, ⟨eR, hRR⟩, ⟨eC, hCn⟩⟩, hI2, hI3, hI4, hI5, hI6, hI7, hI8, -, hI10, hI11⟩ := id hI
    have kw_a : h (ad 15 a) = some (.inr (4, [.ref (ad 16 a)])) := hC.1 15 a (livV (by omega) (by omega) (by omega))
    have ky_a : h (ad 16 a) = some (.inl ((Γ.2.1 0), 360, .inl (vc M a))) := hC.1 16 a (livV (by omega) (by omega) (by omega))
    have kw_b : h (ad 15 b) = some (.inr (4, [.ref (ad 16 b)])) := hC.1 15 b (livV (by omega) (by omega) (by omega))
    have ky_b : h (ad 16 b) = some (.inl ((Γ.2.1 0), 360, .inl (vc M b))) := hC.1 16 b (livV (by omega) (by omega) (by omega))
    refine hg_iload C 0 d_MM_differs_42 rfl ?_
    refine hg_iconst (v := 5) C d_MM_differs_44 (by decide) ?_
    refine hg_icmp_ge C 84 d_MM_differs_45 (by decide) (fun c45 => ?_) (fun c45 => ?_)
    · have c45n : 5 ≤ f := (nI_leI (a := 5) (b := f) (by omega) (by omega)).mp c45
      have hf5 : f = 5 := by omega
      subst hf5
      exact hg_lv (ks := [1, 2, 3, 4, 5]) rfl (kq n kk hn hv)
    · have c45n : ¬ 5 ≤ f := fun z => c45 (nI_le (a := 5) (b := f) z (by omega))
      refine hg_aload C 3 d_MM_differs_48 rfl ?_
      refine hg_aload C 4 d_MM_differs_50 rfl ?_
      refine hg_iload C 1 d_MM_differs_52 rfl ?_
      refine hg_iload C 0 d_MM_differs_54 rfl ?_
      refine hg_SNb C (k_MM_isDifference l Γ _ (ad 15 a) (ad 16 a) (ad 15 b) (ad 16 b) (vc M a) (vc M b) kw_a ky_a kw_b ky_b (nI t) (nI f)) (cw_MM_223 C.2.2.2.2.1 rfl rfl ⟨Nat.le_of_ble_eq_true rfl, Nat.le_of_ble_eq_true rfl⟩) rfl rfl (Nat.le_of_ble_eq_true rfl) d_MM_differs_56 ⟨Nat.le_of_ble_eq_true rfl, Nat.le_of_ble_eq_true rfl⟩ (fun z1 => ?_) (fun z1 => ?_)
      · refine hg_if_eq C 78 d_MM_differs_59 (by decide) (fun z => absurd z (by decide)) (fun _ => ?_)
        refine hg_iload C 2 d_MM_differs_62 rfl ?_
        refine hg_if_ne C 75 d_MM_differs_64 (by decide) (fun c64 => ?_) (fun c64 => ?_)
        · have c64n : ¬ kk = 0 := fun z => c64 (congrArg nI z)
          refine hg_iinc (v := nI (kk - 1)) (lv' := [(6, .int (nI (kk - 1))), (8, .int (nI f)), (7, .int (nI t)), (4, .ref (ad 15 a)), (5, .ref (ad 15 b)), (0, .ref (ad 0 0))]) C 2 d_MM_differs_75 rfl (show nI kk + (-1) = nI (kk - 1) by obtain ⟨z, rfl⟩ : ∃ z, kk = z + 1 := ⟨kk - 1, by omega⟩; exact pk_m1 z) (by decide) rfl ?_
          refine hg_iinc (v := nI (f + 1)) (lv' := [(8, .int (nI (f + 1))), (6, .int (nI (kk - 1))), (7, .int (nI t)), (4, .ref (ad 15 a)), (5, .ref (ad 15 b)), (0, .ref (ad 0 0))]) C 1 d_MM_differs_78 rfl (nI_1 f) (by decide) rfl ?_
          refine hg_goto C 42 d_MM_differs_81 (by decide) ?_
          rw [show 5 * nT M - (5 * t + f) = (5 * nT M - (5 * t + (f + 1))) + 1 by omega, srch_go ((d_at_of (by omega)).mpr ((dif_is hI ha hb (by omega) (by omega)).mp z1)) (by omega)] at hv
          exact hg_lv (ks := [0, 2, 1, 3, 4, 5]) rfl (ih (f + 1) (n + 1) (kk - 1) (by omega) (by omega) (by omega) hv)
        · have c64n : kk = 0 := (nI_eq (a := kk) (b := 0) (by omega) (by omega)).mp c64
          refine hg_iconst (v := 5) C d_MM_differs_67 (by decide) ?_
          refine hg_iload C 1 d_MM_differs_68 rfl ?_
          refine hg_imul C d_MM_differs_70 ?_
          refine hg_ti (show ((5 : Int32) : Int32) * nI t = nI (5 * t) from pk_mul 5 t) ?_
          refine hg_iload C 0 d_MM_differs_71 rfl ?_
          refine hg_iadd C d_MM_differs_73 ?_
          refine hg_ti (show (nI (5 * t) : Int32) + nI f = nI (5 * t + f) from nI_add (5 * t) f) ?_
          rw [show 5 * nT M - (5 * t + f) = (5 * nT M - (5 * t + (f + 1))) + 1 by omega, srch_hit ((d_at_of (by omega)).mpr ((dif_is hI ha hb (by omega) (by omega)).mp z1)) (by omega)] at hv
          exact hg_iret C hr rfl d_MM_differs_74 (Nat.le_of_ble_eq_true rfl) (Nat.le_of_ble_eq_true rfl) (by rw [hv]; exact hpost)
      · refine hg_if_eq C 78 d_MM_differs_59 (by decide) (fun _ => ?_) (fun z => absurd (by decide) z)
        refine hg_iinc (v := nI (f + 1)) (lv' := [(8, .int (nI (f + 1))), (7, .int (nI t)), (6, .int (nI kk)), (4, .ref (ad 15 a)), (5, .ref (ad 15 b)), (0, .ref (ad 0 0))]) C 0 d_MM_differs_78 rfl (nI_1 f) (by decide) rfl ?_
        refine hg_goto C 42 d_MM_differs_81 (by decide) ?_
        rw [show 5 * nT M - (5 * t + f) = (5 * nT M - (5 * t + (f + 1))) + 1 by omega, srch_no (fun z9 => z1 ((dif_is hI ha hb (by omega) (by omega)).mpr ((d_at_of (by omega)).mp z9)))] at hv
        exact hg_lv (ks := [0, 1, 2, 3, 4, 5]) rfl (ih (f + 1) n kk (by omega) (by omega) (by omega) hv)
set_option maxHeartbeats 4000000 in
set_option maxRecDepth 100000 in
theorem lp_MM_diff (l : Launch) (Γ : Gam) {p : Program} {e : Env} {s : State} {m : MethodId} {args : Array Value} {below : List Frame} {meth : Method} {c : Code} {A : Nat → Prop} (C : hp_C p s m args meth c b_MM_differs 9 "ModelMerge" w_MM_differs Γ.1 kcl (ktys Γ.2.1) (ksts Γ.2.2) knws A) {h : Pic} {ad : Nat → Nat → Nat} {M : Mem} (hC : cr_at Γ ad M h) (hI : Inv0 M) {a b k : Nat} (ha : a < nV M) (hb : b < nV M) (hk : k < 2 ^ 31) {v : Int32} {post : Option Value → Pic → Prop} {px : String → Pic → Prop} (hpost : post (some (.int v)) h) (hr : meth.sig.returnType = some .int)  :
    ∀ (n9 : Nat) (t n kk : Nat), (t ≤ nT M) → (nT M + 1 ≤ t + n9) → (n + kk = k) → (srch (d_at M a b) k (5 * nT M - (5 * t)) (5 * t) n = v) → hp_G p l e rm_MM_differs s m args below meth c Γ.1 kcl A 9 (hp_MQ below Γ.1 kcl A post px args s 3 18) 3 18 30 [(7, .int (nI t)), (6, .int (nI kk)), (4, .ref (ad 15 a)), (5, .ref (ad 15 b)), (0, .ref (ad 0 0))] [] h := by
  intro n9
  induction n9 with
  | zero =>
    intro t n kk ht hm hn hv
    exact absurd hm (by omega)
  | succ n9 ih =>
    intro t n kk ht hm hn hv
    have kx : h (ad 0 0) = some (.inr (6, [.ref (ad 1 0), .ref (ad 2 0), .int (M 1 0), .ref (ad 3 0), .int (M 9 0), .ref (ad 4 0), .int (M 4 0), .ref (ad 14 (nV M - 1)), .ref (ad 5 0), .int (M 22 0), .ref (ad 6 0), cr_pen ad M])) := hC.1 0 0 (liv0 (by omega))
    have kA1 : h (ad 1 0) = some (.inl ((Γ.2.1 0), 60, .inl (M 2))) := hC.1 1 0 (liv0 (by omega))
    have kA2 : h (ad 2 0) = some (.inl ((Γ.2.1 0), 60, .inl (M 3))) := hC.1 2 0 (liv0 (by omega))
    have kA3 : h (ad 3 0) = some (.inl ((Γ.2.1 3), 20, .inr (.inr (.inr (.inr (fun j => if j < nS M then some (ad 10 j) else none)))))) := hC.1 3 0 (liv0 (by omega))
    have kA4 : h (ad 4 0) = some (.inl ((Γ.2.1 4), 40, .inr (.inr (.inr (.inr (fun j => if j < nV M then some (ad 14 j) else none)))))) := hC.1 4 0 (liv0 (by omega))
    have kA5 : h (ad 5 0) = some (.inl ((Γ.2.1 5), 10, .inr (.inr (.inr (.inr (fun j => if j < nR M then some (ad 18 j) else none)))))) := hC.1 5 0 (liv0 (by omega))
    have kA6 : h (ad 6 0) = some (.inr (0, [.ref (ad 7 0), .ref (ad 8 0), .ref (ad 9 0), .int (M 27 0)])) := hC.1 6 0 (liv0 (by omega))
    have kA7 : h (ad 7 0) = some (.inl ((Γ.2.1 0), 300, .inl (M 28))) := hC.1 7 0 (liv0 (by omega))
    have kA8 : h (ad 8 0) = some (.inl ((Γ.2.1 0), 300, .inl (M 29))) := hC.1 8 0 (liv0 (by omega))
    have kA9 : h (ad 9 0) = some (.inl ((Γ.2.1 0), 300, .inl (M 30))) := hC.1 9 0 (liv0 (by omega))
    obtain ⟨⟨⟨eT, hT⟩, ⟨eV, hV1, hV⟩, ⟨eS, hS⟩, ⟨eR, hRR⟩, ⟨eC, hCn⟩⟩, hI2, hI3, hI4, hI5, hI6, hI7, hI8, -, hI10, hI11⟩ := id hI
    have kw_a : h (ad 15 a) = some (.inr (4, [.ref (ad 16 a)])) := hC.1 15 a (livV (by omega) (by omega) (by omega))
    have ky_a : h (ad 16 a) = some (.inl ((Γ.2.1 0), 360, .inl (vc M a))) := hC.1 16 a (livV (by omega) (by omega) (by omega))
    have kw_b : h (ad 15 b) = some (.inr (4, [.ref (ad 16 b)])) := hC.1 15 b (livV (by omega) (by omega) (by omega))
    have ky_b : h (ad 16 b) = some (.inl ((Γ.2.1 0), 360, .inl (vc M b))) := hC.1 16 b (livV (by omega) (by omega) (by omega))
    refine hg_iload C 0 d_MM_differs_30 rfl ?_
    refine hg_aload_n C 4 d_MM_differs_32 rfl rfl ?_
    refine f_MM_16 C kx rfl d_MM_differs_33 ?_
    refine hg_ti eT ?_
    refine hg_icmp_ge C 90 d_MM_differs_36 (by decide) (fun c36 => ?_) (fun c36 => ?_)
    · have c36n : nT M ≤ t := (nI_leI (a := (nT M)) (b := t) (by omega) (by omega)).mp c36
      refine hg_iconst (v := (-1)) C d_MM_differs_90 (by decide) ?_
      exact hg_iret C hr rfl d_MM_differs_91 (Nat.le_of_ble_eq_true rfl) (Nat.le_of_ble_eq_true rfl) (by rw [show (-1 : Int32) = v by rw [← hv, show 5 * nT M - 5 * t = 0 by omega]; rfl]; exact hpost)
    · have c36n : ¬ nT M ≤ t := fun z => c36 (nI_le (a := (nT M)) (b := t) z (by omega))
      refine hg_iconst (v := 0) C d_MM_differs_39 (by decide) ?_
      refine hg_istore (lv' := [(8, .int 0), (7, .int (nI t)), (6, .int (nI kk)), (4, .ref (ad 15 a)), (5, .ref (ad 15 b)), (0, .ref (ad 0 0))]) C d_MM_differs_40 (by decide) rfl ?_
      refine hg_lv (ks := [0, 1, 2, 3, 4, 5]) rfl (lp_MM_diff1 l Γ C hC hI ha hb hk hpost hr (by omega) (fun n kk hn hv => ?_) 6 0 n kk (by omega) (by omega) (by omega) hv)
      refine hg_iinc (v := nI (t + 1)) (lv' := [(7, .int (nI (t + 1))), (6, .int (nI kk)), (4, .ref (ad 15 a)), (5, .ref (ad 15 b)), (0, .ref (ad 0 0))]) C 0 d_MM_differs_84 rfl (nI_1 t) (by decide) rfl ?_
      refine hg_goto C 30 d_MM_differs_87 (by decide) ?_
      exact ih (t + 1) n kk (by omega) (by omega) (by omega) hv
set_option maxHeartbeats 4000000 in
set_option maxRecDepth 100000 in
theorem k_MM_differs (l : Launch) (hl9 : l.stackTraces = false) (Γ : Gam) (h : Pic) (ad : Nat → Nat → Nat) (M : Mem) (hC : cr_at Γ ad M h) (hI : Inv0 M)  (a0 b0 k0 : Int32) : kM l Γ y_MM_differs w_MM_differs rm_MM_differs [.ref (ad 0 0), .int a0, .int b0, .int k0] h (pubQ Γ ad (sp_differs M a0 b0 k0)) (pubX Γ ad (sp_differs M a0 b0 k0)) 3 18 := by
  refine hg_entry (own := "ModelMerge") (cc := b_MM_differs) (maxL := 9) (ret := (some .int)) (lv0 := [(0, .ref (ad 0 0)), (1, .int a0), (2, .int b0), (3, .int k0)]) (by decide) rfl rfl (Nat.le_of_ble_eq_true rfl) rfl ?_
  intro p e s m args below meth c A C hne hr
  have kx : h (ad 0 0) = some (.inr (6, [.ref (ad 1 0), .ref (ad 2 0), .int (M 1 0), .ref (ad 3 0), .int (M 9 0), .ref (ad 4 0), .int (M 4 0), .ref (ad 14 (nV M - 1)), .ref (ad 5 0), .int (M 22 0), .ref (ad 6 0), cr_pen ad M])) := hC.1 0 0 (liv0 (by omega))
  have kA1 : h (ad 1 0) = some (.inl ((Γ.2.1 0), 60, .inl (M 2))) := hC.1 1 0 (liv0 (by omega))
  have kA2 : h (ad 2 0) = some (.inl ((Γ.2.1 0), 60, .inl (M 3))) := hC.1 2 0 (liv0 (by omega))
  have kA3 : h (ad 3 0) = some (.inl ((Γ.2.1 3), 20, .inr (.inr (.inr (.inr (fun j => if j < nS M then some (ad 10 j) else none)))))) := hC.1 3 0 (liv0 (by omega))
  have kA4 : h (ad 4 0) = some (.inl ((Γ.2.1 4), 40, .inr (.inr (.inr (.inr (fun j => if j < nV M then some (ad 14 j) else none)))))) := hC.1 4 0 (liv0 (by omega))
  have kA5 : h (ad 5 0) = some (.inl ((Γ.2.1 5), 10, .inr (.inr (.inr (.inr (fun j => if j < nR M then some (ad 18 j) else none)))))) := hC.1 5 0 (liv0 (by omega))
  have kA6 : h (ad 6 0) = some (.inr (0, [.ref (ad 7 0), .ref (ad 8 0), .ref (ad 9 0), .int (M 27 0)])) := hC.1 6 0 (liv0 (by omega))
  have kA7 : h (ad 7 0) = some (.inl ((Γ.2.1 0), 300, .inl (M 28))) := hC.1 7 0 (liv0 (by omega))
  have kA8 : h (ad 8 0) = some (.inl ((Γ.2.1 0), 300, .inl (M 29))) := hC.1 8 0 (liv0 (by omega))
  have kA9 : h (ad 9 0) = some (.inl ((Γ.2.1 0), 300, .inl (M 30))) := hC.1 9 0 (liv0 (by omega))
  obtain ⟨⟨⟨eT, hT⟩, ⟨eV, hV1, hV⟩, ⟨eS, hS⟩, ⟨eR, hRR⟩, ⟨eC, hCn⟩⟩, hI2, hI3, hI4, hI5, hI6, hI7, hI8, -, hI10, hI11⟩ := id hI
  refine hg_aload_n C 0 d_MM_differs_0 rfl rfl ?_
  refine hg_iload_n C 1 d_MM_differs_1 rfl rfl ?_
  refine hg_Vv (q := ("ModelMerge", T_MM, 12)) C (k_MM_versionOf l hl9 Γ _ ad M hC hI a0) (cw_MM_72 C.2.2.2.2.1 rfl rfl ⟨Nat.le_of_ble_eq_true rfl, Nat.le_of_ble_eq_true rfl⟩) kx rfl rfl rfl (Nat.le_of_ble_eq_true rfl) d_MM_differs_2 ⟨Nat.le_of_ble_eq_true rfl, Nat.le_of_ble_eq_true rfl⟩ (fun co2 => ?_) (fun co2 => hg_out C hne (Nat.le_of_ble_eq_true rfl) (Nat.le_of_ble_eq_true rfl) (⟨Or.inl ⟨rfl, by rw [sp_differs, gd1 (fun z => co2 z.1)]⟩, by rw [sp_differs, gd1 (fun z => co2 z.1)]; exact cr_code 1 hC⟩))
  obtain ⟨a, ha, rfl⟩ := inr_nat (n := nV M) (id co2) (by omega)
  refine hg_tr (congrArg (ad 14) (nI_clamp (n := a) (by omega))) ?_
  have kv_a : h (ad 14 a) = some (.inr (5, [.int (nI a), .int (au M a), .ref (ad 15 a), .ref (ad 17 a)])) := hC.1 14 a (livV (by omega) (by omega) (by omega))
  have kw_a : h (ad 15 a) = some (.inr (4, [.ref (ad 16 a)])) := hC.1 15 a (livV (by omega) (by omega) (by omega))
  have ky_a : h (ad 16 a) = some (.inl ((Γ.2.1 0), 360, .inl (vc M a))) := hC.1 16 a (livV (by omega) (by omega) (by omega))
  have kz_a : h (ad 17 a) = some (.inl ((Γ.2.1 0), 300, .inl (og M a))) := hC.1 17 a (livV (by omega) (by omega) (by omega))
  refine f_MM_147 C kv_a rfl d_MM_differs_5 ?_
  refine hg_astore (lv' := [(4, .ref (ad 15 a)), (0, .ref (ad 0 0)), (1, .int (nI a)), (2, .int b0), (3, .int k0)]) C d_MM_differs_8 (by decide) rfl ?_
  refine hg_aload_n C 1 d_MM_differs_10 rfl rfl ?_
  refine hg_iload_n C 3 d_MM_differs_11 rfl rfl ?_
  refine hg_Vv (q := ("ModelMerge", T_MM, 12)) C (k_MM_versionOf l hl9 Γ _ ad M hC hI b0) (cw_MM_72 C.2.2.2.2.1 rfl rfl ⟨Nat.le_of_ble_eq_true rfl, Nat.le_of_ble_eq_true rfl⟩) kx rfl rfl rfl (Nat.le_of_ble_eq_true rfl) d_MM_differs_12 ⟨Nat.le_of_ble_eq_true rfl, Nat.le_of_ble_eq_true rfl⟩ (fun co12 => ?_) (fun co12 => hg_out C hne (Nat.le_of_ble_eq_true rfl) (Nat.le_of_ble_eq_true rfl) (⟨Or.inl ⟨rfl, by rw [sp_differs, gd1 (fun z => co12 z.2.1)]⟩, by rw [sp_differs, gd1 (fun z => co12 z.2.1)]; exact cr_code 1 hC⟩))
  obtain ⟨b, hb, rfl⟩ := inr_nat (n := nV M) (id co12) (by omega)
  refine hg_tr (congrArg (ad 14) (nI_clamp (n := b) (by omega))) ?_
  have kv_b : h (ad 14 b) = some (.inr (5, [.int (nI b), .int (au M b), .ref (ad 15 b), .ref (ad 17 b)])) := hC.1 14 b (livV (by omega) (by omega) (by omega))
  have kw_b : h (ad 15 b) = some (.inr (4, [.ref (ad 16 b)])) := hC.1 15 b (livV (by omega) (by omega) (by omega))
  have ky_b : h (ad 16 b) = some (.inl ((Γ.2.1 0), 360, .inl (vc M b))) := hC.1 16 b (livV (by omega) (by omega) (by omega))
  have kz_b : h (ad 17 b) = some (.inl ((Γ.2.1 0), 300, .inl (og M b))) := hC.1 17 b (livV (by omega) (by omega) (by omega))
  refine f_MM_147 C kv_b rfl d_MM_differs_15 ?_
  refine hg_astore (lv' := [(5, .ref (ad 15 b)), (4, .ref (ad 15 a)), (0, .ref (ad 0 0)), (1, .int (nI a)), (2, .int (nI b)), (3, .int k0)]) C d_MM_differs_18 (by decide) rfl ?_
  refine hg_iload_n C 5 d_MM_differs_20 rfl rfl ?_
  refine hg_Sn C (k_MM_checkNotNegative l hl9 Γ _ k0) (cw_MM_220 C.2.2.2.2.1 rfl rfl ⟨Nat.le_of_ble_eq_true rfl, Nat.le_of_ble_eq_true rfl⟩) rfl rfl (Nat.le_of_ble_eq_true rfl) d_MM_differs_21 ⟨Nat.le_of_ble_eq_true rfl, Nat.le_of_ble_eq_true rfl⟩ (fun cb21 => ?_) (fun cb21 => hg_out C hne (Nat.le_of_ble_eq_true rfl) (Nat.le_of_ble_eq_true rfl) (⟨Or.inl ⟨rfl, by rw [sp_differs, gd1 (fun z => z.2.2 cb21)]⟩, by rw [sp_differs, gd1 (fun z => z.2.2 cb21)]; exact cr_code 1 hC⟩))
  refine hg_iload_n C 5 d_MM_differs_24 rfl rfl ?_
  refine hg_istore (lv' := [(6, .int k0), (5, .ref (ad 15 b)), (4, .ref (ad 15 a)), (0, .ref (ad 0 0)), (1, .int (nI a)), (2, .int (nI b)), (3, .int k0)]) C d_MM_differs_25 (by decide) rfl ?_
  refine hg_iconst (v := 0) C d_MM_differs_27 (by decide) ?_
  refine hg_istore (lv' := [(7, .int 0), (6, .int k0), (5, .ref (ad 15 b)), (4, .ref (ad 15 a)), (0, .ref (ad 0 0)), (1, .int (nI a)), (2, .int (nI b)), (3, .int k0)]) C d_MM_differs_28 (by decide) rfl ?_
  obtain ⟨k, hk, rfl⟩ := nI_of (id cb21)
  exact hg_lv (ks := [0, 1, 3, 2, 4]) rfl (lp_MM_diff l Γ C hC hI ha hb hk (v := srch (d_at M a b) k (5 * nT M) 0 0) (⟨by rw [sp_differs, gd0 (⟨co2, co12, cb21⟩) trivial]; rw [nI_clamp (n := a) (by omega), nI_clamp (n := b) (by omega), nI_clamp (n := k) (by omega)]; rfl, by rw [sp_differs, gd0 (⟨co2, co12, cb21⟩) trivial], ad, rfl, by rw [sp_differs, gd0 (⟨co2, co12, cb21⟩) trivial]; exact cr_code 0 hC⟩) hr (nT M + 1) 0 0 k (by omega) (by omega) (by omega) rfl)
theorem k_of_has {M : Mem} (hI : Inv0 M) {v : Nat} {x : Int32} (h : i_th M (nI v) x) : k_of M 2 x = M 2 x.toNatClampNeg := if_pos h.2.1
theorem nam_f {M : Mem} (hI : Inv0 M) {v t r : Nat} (hr : r < nR M) (ht : t < nT M) : s_val (vc M v) (nI t) (M 24 r) = M 6 (5 * (60 * v + t) + (M 24 r).toNatClampNeg) := by
  have hT := hI.1.1.2
  obtain ⟨-, ⟨f, hf, e⟩, -⟩ := hI.2.2.2.2.2.2.2.2.2.2 r hr
  rw [e, vc_f (by omega) hf, nI_clamp (by omega)]
abbrev rm_MM_isBroken : Room := { frames := 3, cells := 0, slots := 0, locals := 64 }
set_option maxHeartbeats 4000000 in
set_option maxRecDepth 100000 in
theorem k_MM_isBroken (l : Launch) (Γ : Gam) (h : Pic) (ad : Nat → Nat → Nat) (M : Mem) (hC : cr_at Γ ad M h) (hI : Inv0 M) (rr v t : Nat) (hrr : rr < nR M) (hv : v < nV M) (ht : t < nT M) : kN l Γ y_MM_isBroken w_MM_isBroken rm_MM_isBroken [.ref (ad 0 0), .ref (ad 18 rr), .ref (ad 15 v), .int (nI t)] h (pb h (b_is M v rr t)) 0 0 := by
  refine hg_entryN (own := "ModelMerge") (cc := b_MM_isBroken) (maxL := 5) (ret := (some .boolean)) (lv0 := [(0, .ref (ad 0 0)), (1, .ref (ad 18 rr)), (2, .ref (ad 15 v)), (3, .int (nI t))]) (by decide) rfl rfl (Nat.le_of_ble_eq_true rfl) rfl ?_
  intro p e s m args below meth c A C hnm hr
  have kx : h (ad 0 0) = some (.inr (6, [.ref (ad 1 0), .ref (ad 2 0), .int (M 1 0), .ref (ad 3 0), .int (M 9 0), .ref (ad 4 0), .int (M 4 0), .ref (ad 14 (nV M - 1)), .ref (ad 5 0), .int (M 22 0), .ref (ad 6 0), cr_pen ad M])) := hC.1 0 0 (liv0 (by omega))
  have kA1 : h (ad 1 0) = some (.inl ((Γ.2.1 0), 60, .inl (M 2))) := hC.1 1 0 (liv0 (by omega))
  have kA2 : h (ad 2 0) = some (.inl ((Γ.2.1 0), 60, .inl (M 3))) := hC.1 2 0 (liv0 (by omega))
  have kA3 : h (ad 3 0) = some (.inl ((Γ.2.1 3), 20, .inr (.inr (.inr (.inr (fun j => if j < nS M then some (ad 10 j) else none)))))) := hC.1 3 0 (liv0 (by omega))
  have kA4 : h (ad 4 0) = some (.inl ((Γ.2.1 4), 40, .inr (.inr (.inr (.inr (fun j => if j < nV M then some (ad 14 j) else none)))))) := hC.1 4 0 (liv0 (by omega))
  have kA5 : h (ad 5 0) = some (.inl ((Γ.2.1 5), 10, .inr (.inr (.inr (.inr (fun j => if j < nR M then some (ad 18 j) else none)))))) := hC.1 5 0 (liv0 (by omega))
  have kA6 : h (ad 6 0) = some (.inr (0, [.ref (ad 7 0), .ref (ad 8 0), .ref (ad 9 0), .int (M 27 0)])) := hC.1 6 0 (liv0 (by omega))
  have kA7 : h (ad 7 0) = some (.inl ((Γ.2.1 0), 300, .inl (M 28))) := hC.1 7 0 (liv0 (by omega))
  have kA8 : h (ad 8 0) = some (.inl ((Γ.2.1 0), 300, .inl (M 29))) := hC.1 8 0 (liv0 (by omega))
  have kA9 : h (ad 9 0) = some (.inl ((Γ.2.1 0), 300, .inl (M 30))) := hC.1 9 0 (liv0 (by omega))
  obtain ⟨⟨⟨eT, hT⟩, ⟨eV, hV1, hV⟩, ⟨eS, hS⟩, ⟨eR, hRR⟩, ⟨eC, hCn⟩⟩, hI2, hI3, hI4, hI5, hI6, hI7, hI8, -, hI10, hI11⟩ := id hI
  have kr : h (ad 18 rr) = some (.inr (2, [.int (M 23 rr), .int (M 24 rr), .int (M 25 rr)])) := hC.1 18 rr (livR hrr)
  have kw_v : h (ad 15 v) = some (.inr (4, [.ref (ad 16 v)])) := hC.1 15 v (livV (by omega) (by omega) hv)
  have ky_v : h (ad 16 v) = some (.inl (Γ.2.1 0, 360, .inl (vc M v))) := hC.1 16 v (livV (by omega) (by omega) hv)
  refine hg_aload_n C 1 d_MM_isBroken_0 rfl rfl ?_
  refine hg_ifnull C d_MM_isBroken_1 ?_
  refine hg_aload_n C 2 d_MM_isBroken_4 rfl rfl ?_
  refine hg_iload_n C 3 d_MM_isBroken_5 rfl rfl ?_
  refine hg_VNb (q := ("ModelMerge$State", T_St, 1)) C (k_St_has l Γ _ (ad 15 v) (ad 16 v) (vc M v) kw_v ky_v (nI t)) (cw_MM_243 C.2.2.2.2.1 rfl rfl ⟨Nat.le_of_ble_eq_true rfl, Nat.le_of_ble_eq_true rfl⟩) kw_v rfl rfl rfl (Nat.le_of_ble_eq_true rfl) d_MM_isBroken_6 ⟨Nat.le_of_ble_eq_true rfl, Nat.le_of_ble_eq_true rfl⟩ (fun z1 => ?_) (fun z1 => ?_)
  · refine hg_if_eq C 24 d_MM_isBroken_9 (by decide) (fun z => absurd z (by decide)) (fun _ => ?_)
    refine hg_aload_n C 0 d_MM_isBroken_12 rfl rfl ?_
    refine hg_iload_n C 3 d_MM_isBroken_13 rfl rfl ?_
    refine hg_VNv (q := ("ModelMerge", T_MM, 12)) C (k_MM_kindOf l Γ _ ad M hC hI (nI t)) (cw_MM_177 C.2.2.2.2.1 rfl rfl ⟨Nat.le_of_ble_eq_true rfl, Nat.le_of_ble_eq_true rfl⟩) kx rfl rfl rfl (Nat.le_of_ble_eq_true rfl) d_MM_isBroken_14 ⟨Nat.le_of_ble_eq_true rfl, Nat.le_of_ble_eq_true rfl⟩ (fun _ => ?_)
    refine hg_ti (show k_of M 2 (nI t) = M 2 t by rw [k_of, if_pos (inr_of (by omega) (by omega)), nI_clamp (by omega)]) ?_
    refine hg_aload_n C 1 d_MM_isBroken_17 rfl rfl ?_
    refine f_MM_254 C kr rfl d_MM_isBroken_18 ?_
    refine hg_icmp_eq C 26 d_MM_isBroken_21 (by decide) (fun c21 => ?_) (fun c21 => ?_)
    · refine hg_aload_n C 2 d_MM_isBroken_26 rfl rfl ?_
      refine hg_iload_n C 3 d_MM_isBroken_27 rfl rfl ?_
      refine hg_aload_n C 1 d_MM_isBroken_28 rfl rfl ?_
      refine f_MM_257 C kr rfl d_MM_isBroken_29 ?_
      refine hg_VNv (q := ("ModelMerge$State", T_St, 1)) C (k_St_value l Γ _ (ad 15 v) (ad 16 v) (vc M v) kw_v ky_v (nI t) (M 24 rr)) (cw_MM_151 C.2.2.2.2.1 rfl rfl ⟨Nat.le_of_ble_eq_true rfl, Nat.le_of_ble_eq_true rfl⟩) kw_v rfl rfl rfl (Nat.le_of_ble_eq_true rfl) d_MM_isBroken_32 ⟨Nat.le_of_ble_eq_true rfl, Nat.le_of_ble_eq_true rfl⟩ (fun _ => ?_)
      refine hg_ti (nam_f hI hrr ht) ?_
      obtain ⟨xx, exx⟩ : ∃ z, z = M 6 (5 * (60 * v + t) + (M 24 rr).toNatClampNeg) := ⟨_, rfl⟩
      rw [← exx]
      refine hg_istore (lv' := [(4, .int xx), (0, .ref (ad 0 0)), (1, .ref (ad 18 rr)), (2, .ref (ad 15 v)), (3, .int (nI t))]) C d_MM_isBroken_35 (by decide) rfl ?_
      refine hg_aload_n C 3 d_MM_isBroken_37 rfl rfl ?_
      refine hg_iload C 0 d_MM_isBroken_38 rfl ?_
      refine hg_VNb (q := ("ModelMerge$State", T_St, 1)) C (k_St_has l Γ _ (ad 15 v) (ad 16 v) (vc M v) kw_v ky_v xx) (cw_MM_243 C.2.2.2.2.1 rfl rfl ⟨Nat.le_of_ble_eq_true rfl, Nat.le_of_ble_eq_true rfl⟩) kw_v rfl rfl rfl (Nat.le_of_ble_eq_true rfl) d_MM_isBroken_40 ⟨Nat.le_of_ble_eq_true rfl, Nat.le_of_ble_eq_true rfl⟩ (fun z2 => ?_) (fun z2 => ?_)
      · refine hg_if_eq C 59 d_MM_isBroken_43 (by decide) (fun z => absurd z (by decide)) (fun _ => ?_)
        refine hg_aload_n C 1 d_MM_isBroken_46 rfl rfl ?_
        refine hg_iload C 0 d_MM_isBroken_47 rfl ?_
        refine hg_VNv (q := ("ModelMerge", T_MM, 12)) C (k_MM_kindOf l Γ _ ad M hC hI xx) (cw_MM_177 C.2.2.2.2.1 rfl rfl ⟨Nat.le_of_ble_eq_true rfl, Nat.le_of_ble_eq_true rfl⟩) kx rfl rfl rfl (Nat.le_of_ble_eq_true rfl) d_MM_isBroken_49 ⟨Nat.le_of_ble_eq_true rfl, Nat.le_of_ble_eq_true rfl⟩ (fun _ => ?_)
        refine hg_aload_n C 2 d_MM_isBroken_52 rfl rfl ?_
        refine f_MM_260 C kr rfl d_MM_isBroken_53 ?_
        refine hg_icmp_eq C 63 d_MM_isBroken_56 (by decide) (fun c56 => ?_) (fun c56 => ?_)
        · refine hg_iconst (v := 0) C d_MM_isBroken_63 (by decide) ?_
          exact hg_iretN C hr rfl d_MM_isBroken_64 (Nat.le_of_ble_eq_true rfl) (Nat.le_of_ble_eq_true rfl) (Or.inr ⟨rfl, rfl, fun z => z.2.2 (by rw [← exx]; exact ⟨(s_has_any hI hv _).mp z2, (k_of_has hI ((s_has_any hI hv _).mp z2)).symm.trans c56⟩)⟩)
        · refine hg_iconst (v := 1) C d_MM_isBroken_59 (by decide) ?_
          refine hg_goto C 64 d_MM_isBroken_60 (by decide) ?_
          exact hg_iretN C hr rfl d_MM_isBroken_64 (Nat.le_of_ble_eq_true rfl) (Nat.le_of_ble_eq_true rfl) (Or.inl ⟨rfl, rfl, c21, (s_has_any hI hv _).mp z1, fun z => c56 ((k_of_has hI ((s_has_any hI hv _).mp z2)).trans (by rw [exx]; exact z.2))⟩)
      · refine hg_if_eq C 59 d_MM_isBroken_43 (by decide) (fun _ => ?_) (fun z => absurd (by decide) z)
        refine hg_iconst (v := 1) C d_MM_isBroken_59 (by decide) ?_
        refine hg_goto C 64 d_MM_isBroken_60 (by decide) ?_
        exact hg_iretN C hr rfl d_MM_isBroken_64 (Nat.le_of_ble_eq_true rfl) (Nat.le_of_ble_eq_true rfl) (Or.inl ⟨rfl, rfl, c21, (s_has_any hI hv _).mp z1, fun z => z2 ((s_has_any hI hv _).mpr (by rw [exx]; exact z.1))⟩)
    · refine hg_iconst (v := 0) C d_MM_isBroken_24 (by decide) ?_
      exact hg_iretN C hr rfl d_MM_isBroken_25 (Nat.le_of_ble_eq_true rfl) (Nat.le_of_ble_eq_true rfl) (Or.inr ⟨rfl, rfl, fun z => c21 z.1⟩)
  · refine hg_if_eq C 24 d_MM_isBroken_9 (by decide) (fun _ => ?_) (fun z => absurd (by decide) z)
    refine hg_iconst (v := 0) C d_MM_isBroken_24 (by decide) ?_
    exact hg_iretN C hr rfl d_MM_isBroken_25 (Nat.le_of_ble_eq_true rfl) (Nat.le_of_ble_eq_true rfl) (Or.inr ⟨rfl, rfl, fun z => z1 ((s_has_any hI hv _).mpr z.2.1)⟩)
abbrev rm_MM_broken : Room := { frames := 7, cells := 2, slots := 12, locals := 112 }
set_option maxHeartbeats 4000000 in
set_option maxRecDepth 100000 in
theorem lp_MM_brk1 (l : Launch) (Γ : Gam) {p : Program} {e : Env} {s : State} {m : MethodId} {args : Array Value} {below : List Frame} {meth : Method} {c : Code} {A : Nat → Prop} (C : hp_C p s m args meth c b_MM_broken 7 "ModelMerge" w_MM_broken Γ.1 kcl (ktys Γ.2.1) (ksts Γ.2.2) knws A) {h : Pic} {ad : Nat → Nat → Nat} {M : Mem} (hC : cr_at Γ ad M h) (hI : Inv0 M) {v k : Nat} (hvv : v < nV M) (hk : k < 2 ^ 31) {x : Int32} {post : Option Value → Pic → Prop} {px : String → Pic → Prop} (hpost : post (some (.int x)) h) (hr : meth.sig.returnType = some .int) {rr : Nat} (hrr : rr < nR M) (kq : ∀ n kk, n + kk = k → srch (b_at M v) k (60 * nR M - (60 * rr + nT M)) (60 * rr + nT M) n = x → hp_G p l e rm_MM_broken s m args below meth c Γ.1 kcl A 7 (hp_MQ below Γ.1 kcl A post px args s 2 12) 2 12 87 [(5, .int (nI rr)), (4, .int (nI kk)), (3, .ref (ad 15 v)), (0, .ref (ad 0 0))] [] h) :
    ∀ (n9 : Nat) (t n kk : Nat), (t ≤ nT M) → (nT M + 1 ≤ t + n9) → (n + kk = k) → (srch (b_at M v) k (60 * nR M - (60 * rr + t)) (60 * rr + t) n = x) → hp_G p l e rm_MM_broken s m args below meth c Γ.1 kcl A 7 (hp_MQ below Γ.1 kcl A post px args s 2 12) 2 12 38 [(6, .int (nI t)), (5, .int (nI rr)), (4, .int (nI kk)), (3, .ref (ad 15 v)), (0, .ref (ad 0 0))] [] h := by
  intro n9
  induction n9 with
  | zero =>
    intro t n kk ht hm hn hx
    exact absurd hm (by omega)
  | succ n9 ih =>
    intro t n kk ht hm hn hx
    have kx : h (ad 0 0) = some (.inr (6, [.ref (ad 1 0), .ref (ad 2 0), .int (M 1 0), .ref (ad 3 0), .int (M 9 0), .ref (ad 4 0), .int (M 4 0), .ref (ad 14 (nV M - 1)), .ref (ad 5 0), .int (M 22 0), .ref (ad 6 0), cr_pen ad M])) := hC.1 0 0 (liv0 (by omega))
    have kA1 : h (ad 1 0) = some (.inl ((Γ.2.1 0), 60, .inl (M 2))) := hC.1 1 0 (liv0 (by omega))
    have kA2 : h (ad 2 0) = some (.inl ((Γ.2.1 0), 60, .inl (M 3))) := hC.1 2 0 (liv0 (by omega))
    have kA3 : h (ad 3 0) = some (.inl ((Γ.2.1 3), 20, .inr (.inr (.inr (.inr (fun j => if j < nS M then some (ad 10 j) else none)))))) := hC.1 3 0 (liv0 (by omega))
    have kA4 : h (ad 4 0) = some (.inl ((Γ.2.1 4), 40, .inr (.inr (.inr (.inr (fun j => if j < nV M then some (ad 14 j) else none)))))) := hC.1 4 0 (liv0 (by omega))
    have kA5 : h (ad 5 0) = some (.inl ((Γ.2.1 5), 10, .inr (.inr (.inr (.inr (fun j => if j < nR M then some (ad 18 j) else none)))))) := hC.1 5 0 (liv0 (by omega))
    have kA6 : h (ad 6 0) = some (.inr (0, [.ref (ad 7 0), .ref (ad 8 0), .ref (ad 9 0), .int (M 27 0)])) := hC.1 6 0 (liv0 (by omega))
    have kA7 : h (ad 7 0) = some (.inl ((Γ.2.1 0), 300, .inl (M 28))) := hC.1 7 0 (liv0 (by omega))
    have kA8 : h (ad 8 0) = some (.inl ((Γ.2.1 0), 300, .inl (M 29))) := hC.1 8 0 (liv0 (by omega))
    have kA9 : h (ad 9 0) = some (.inl ((Γ.2.1 0), 300, .inl (M 30))) := hC.1 9 0 (liv0 (by omega))
    obtain ⟨⟨⟨eT, hT⟩, ⟨eV, hV1, hV⟩, ⟨eS, hS⟩, ⟨eR, hRR⟩, ⟨eC, hCn⟩⟩, hI2, hI3, hI4, hI5, hI6, hI7, hI8, -, hI10, hI11⟩ := id hI
    refine hg_iload C 0 d_MM_broken_38 rfl ?_
    refine hg_aload_n C 4 d_MM_broken_40 rfl rfl ?_
    refine f_MM_16 C kx rfl d_MM_broken_41 ?_
    refine hg_ti eT ?_
    refine hg_icmp_ge C 87 d_MM_broken_44 (by decide) (fun c44 => ?_) (fun c44 => ?_)
    · have c44n : nT M ≤ t := (nI_leI (a := (nT M)) (b := t) (by omega) (by omega)).mp c44
      have hf5 : t = nT M := by omega
      subst hf5
      exact hg_lv (ks := [1, 2, 3, 4]) rfl (kq n kk hn hx)
    · have c44n : ¬ nT M ≤ t := fun z => c44 (nI_le (a := (nT M)) (b := t) z (by omega))
      refine hg_aload_n C 4 d_MM_broken_47 rfl rfl ?_
      refine hg_aload_n C 4 d_MM_broken_48 rfl rfl ?_
      refine f_MM_40 C kx rfl d_MM_broken_49 ?_
      refine hg_iload C 1 d_MM_broken_52 rfl ?_
      refine hg_aald C 5 kA5 rfl (vp_in_nI (N := 10) (show rr < 10 by omega) (by omega)) d_MM_broken_54 ?_
      refine hg_rs (a := ad 18 rr) (show (if (nI rr).toNatClampNeg < nR M then some (ad 18 (nI rr).toNatClampNeg) else none) = some (ad 18 rr) by rw [nI_clamp (by omega), if_pos (by omega)]) ?_
      refine hg_aload_n C 3 d_MM_broken_55 rfl rfl ?_
      refine hg_iload C 0 d_MM_broken_56 rfl ?_
      refine hg_VNb (q := ("ModelMerge", T_MM, 12)) C (k_MM_isBroken l Γ _ ad M hC hI rr v t (by omega) (by omega) (by omega)) (cw_MM_227 C.2.2.2.2.1 rfl rfl ⟨Nat.le_of_ble_eq_true rfl, Nat.le_of_ble_eq_true rfl⟩) kx rfl rfl rfl (Nat.le_of_ble_eq_true rfl) d_MM_broken_58 ⟨Nat.le_of_ble_eq_true rfl, Nat.le_of_ble_eq_true rfl⟩ (fun z1 => ?_) (fun z1 => ?_)
      · refine hg_if_eq C 81 d_MM_broken_61 (by decide) (fun z => absurd z (by decide)) (fun _ => ?_)
        refine hg_iload C 2 d_MM_broken_64 rfl ?_
        refine hg_if_ne C 78 d_MM_broken_66 (by decide) (fun c66 => ?_) (fun c66 => ?_)
        · have c66n : ¬ kk = 0 := fun z => c66 (congrArg nI z)
          refine hg_iinc (v := nI (kk - 1)) (lv' := [(4, .int (nI (kk - 1))), (6, .int (nI t)), (5, .int (nI rr)), (3, .ref (ad 15 v)), (0, .ref (ad 0 0))]) C 2 d_MM_broken_78 rfl (show nI kk + (-1) = nI (kk - 1) by obtain ⟨z, rfl⟩ : ∃ z, kk = z + 1 := ⟨kk - 1, by omega⟩; exact pk_m1 z) (by decide) rfl ?_
          refine hg_iinc (v := nI (t + 1)) (lv' := [(6, .int (nI (t + 1))), (4, .int (nI (kk - 1))), (5, .int (nI rr)), (3, .ref (ad 15 v)), (0, .ref (ad 0 0))]) C 1 d_MM_broken_81 rfl (nI_1 t) (by decide) rfl ?_
          refine hg_goto C 38 d_MM_broken_84 (by decide) ?_
          rw [show 60 * nR M - (60 * rr + t) = (60 * nR M - (60 * rr + (t + 1))) + 1 by omega, srch_go ((b_at_of (by omega) (by omega)).mpr z1) (by omega)] at hx
          exact hg_lv (ks := [0, 2, 1, 3, 4]) rfl (ih (t + 1) (n + 1) (kk - 1) (by omega) (by omega) (by omega) hx)
        · have c66n : kk = 0 := (nI_eq (a := kk) (b := 0) (by omega) (by omega)).mp c66
          refine hg_bipush (v := 60) C d_MM_broken_69 (by decide) ?_
          refine hg_iload C 1 d_MM_broken_71 rfl ?_
          refine hg_imul C d_MM_broken_73 ?_
          refine hg_ti (show ((60 : Int32) : Int32) * nI rr = nI (60 * rr) from pk_mul 60 rr) ?_
          refine hg_iload C 0 d_MM_broken_74 rfl ?_
          refine hg_iadd C d_MM_broken_76 ?_
          refine hg_ti (show (nI (60 * rr) : Int32) + nI t = nI (60 * rr + t) from nI_add (60 * rr) t) ?_
          rw [show 60 * nR M - (60 * rr + t) = (60 * nR M - (60 * rr + (t + 1))) + 1 by omega, srch_hit ((b_at_of (by omega) (by omega)).mpr z1) (by omega)] at hx
          exact hg_iret C hr rfl d_MM_broken_77 (Nat.le_of_ble_eq_true rfl) (Nat.le_of_ble_eq_true rfl) (by rw [hx]; exact hpost)
      · refine hg_if_eq C 81 d_MM_broken_61 (by decide) (fun _ => ?_) (fun z => absurd (by decide) z)
        refine hg_iinc (v := nI (t + 1)) (lv' := [(6, .int (nI (t + 1))), (5, .int (nI rr)), (4, .int (nI kk)), (3, .ref (ad 15 v)), (0, .ref (ad 0 0))]) C 0 d_MM_broken_81 rfl (nI_1 t) (by decide) rfl ?_
        refine hg_goto C 38 d_MM_broken_84 (by decide) ?_
        rw [show 60 * nR M - (60 * rr + t) = (60 * nR M - (60 * rr + (t + 1))) + 1 by omega, srch_no (fun z9 => z1 ((b_at_of (by omega) (by omega)).mp z9))] at hx
        exact hg_lv (ks := [0, 1, 2, 3, 4]) rfl (ih (t + 1) n kk (by omega) (by omega) (by omega) hx)
set_option maxHeartbeats 4000000 in
set_option maxRecDepth 100000 in
theorem lp_MM_brk (l : Launch) (Γ : Gam) {p : Program} {e : Env} {s : State} {m : MethodId} {args : Array Value} {below : List Frame} {meth : Method} {c : Code} {A : Nat → Prop} (C : hp_C p s m args meth c b_MM_broken 7 "ModelMerge" w_MM_broken Γ.1 kcl (ktys Γ.2.1) (ksts Γ.2.2) knws A) {h : Pic} {ad : Nat → Nat → Nat} {M : Mem} (hC : cr_at Γ ad M h) (hI : Inv0 M) {v k : Nat} (hvv : v < nV M) (hk : k < 2 ^ 31) {x : Int32} {post : Option Value → Pic → Prop} {px : String → Pic → Prop} (hpost : post (some (.int x)) h) (hr : meth.sig.returnType = some .int)  :
    ∀ (n9 : Nat) (rr n kk : Nat), (rr ≤ nR M) → (nR M + 1 ≤ rr + n9) → (n + kk = k) → (srch (b_at M v) k (60 * nR M - (60 * rr)) (60 * rr) n = x) → hp_G p l e rm_MM_broken s m args below meth c Γ.1 kcl A 7 (hp_MQ below Γ.1 kcl A post px args s 2 12) 2 12 19 [(5, .int (nI rr)), (4, .int (nI kk)), (3, .ref (ad 15 v)), (0, .ref (ad 0 0))] [] h := by
  intro n9
  induction n9 with
  | zero =>
    intro rr n kk ht hm hn hx
    exact absurd hm (by omega)
  | succ n9 ih =>
    intro rr n kk ht hm hn hx
    have kx : h (ad 0 0) = some (.inr (6, [.ref (ad 1 0), .ref (ad 2 0), .int (M 1 0), .ref (ad 3 0), .int (M 9 0), .ref (ad 4 0), .int (M 4 0), .ref (ad 14 (nV M - 1)), .ref (ad 5 0), .int (M 22 0), .ref (ad 6 0), cr_pen ad M])) := hC.1 0 0 (liv0 (by omega))
    have kA1 : h (ad 1 0) = some (.inl ((Γ.2.1 0), 60, .inl (M 2))) := hC.1 1 0 (liv0 (by omega))
    have kA2 : h (ad 2 0) = some (.inl ((Γ.2.1 0), 60, .inl (M 3))) := hC.1 2 0 (liv0 (by omega))
    have kA3 : h (ad 3 0) = some (.inl ((Γ.2.1 3), 20, .inr (.inr (.inr (.inr (fun j => if j < nS M then some (ad 10 j) else none)))))) := hC.1 3 0 (liv0 (by omega))
    have kA4 : h (ad 4 0) = some (.inl ((Γ.2.1 4), 40, .inr (.inr (.inr (.inr (fun j => if j < nV M then some (ad 14 j) else none)))))) := hC.1 4 0 (liv0 (by omega))
    have kA5 : h (ad 5 0) = some (.inl ((Γ.2.1 5), 10, .inr (.inr (.inr (.inr (fun j => if j < nR M then some (ad 18 j) else none)))))) := hC.1 5 0 (liv0 (by omega))
    have kA6 : h (ad 6 0) = some (.inr (0, [.ref (ad 7 0), .ref (ad 8 0), .ref (ad 9 0), .int (M 27 0)])) := hC.1 6 0 (liv0 (by omega))
    have kA7 : h (ad 7 0) = some (.inl ((Γ.2.1 0), 300, .inl (M 28))) := hC.1 7 0 (liv0 (by omega))
    have kA8 : h (ad 8 0) = some (.inl ((Γ.2.1 0), 300, .inl (M 29))) := hC.1 8 0 (liv0 (by omega))
    have kA9 : h (ad 9 0) = some (.inl ((Γ.2.1 0), 300, .inl (M 30))) := hC.1 9 0 (liv0 (by omega))
    obtain ⟨⟨⟨eT, hT⟩, ⟨eV, hV1, hV⟩, ⟨eS, hS⟩, ⟨eR, hRR⟩, ⟨eC, hCn⟩⟩, hI2, hI3, hI4, hI5, hI6, hI7, hI8, -, hI10, hI11⟩ := id hI
    refine hg_iload C 0 d_MM_broken_19 rfl ?_
    refine hg_aload_n C 3 d_MM_broken_21 rfl rfl ?_
    refine f_MM_44 C kx rfl d_MM_broken_22 ?_
    refine hg_ti eR ?_
    refine hg_icmp_ge C 93 d_MM_broken_25 (by decide) (fun c25 => ?_) (fun c25 => ?_)
    · have c25n : nR M ≤ rr := (nI_leI (a := (nR M)) (b := rr) (by omega) (by omega)).mp c25
      refine hg_iconst (v := (-1)) C d_MM_broken_93 (by decide) ?_
      exact hg_iret C hr rfl d_MM_broken_94 (Nat.le_of_ble_eq_true rfl) (Nat.le_of_ble_eq_true rfl) (by rw [show (-1 : Int32) = x by rw [← hx, show 60 * nR M - 60 * rr = 0 by omega]; rfl]; exact hpost)
    · have c25n : ¬ nR M ≤ rr := fun z => c25 (nI_le (a := (nR M)) (b := rr) z (by omega))
      refine hg_iload C 0 d_MM_broken_28 rfl ?_
      refine hg_bipush (v := 10) C d_MM_broken_30 (by decide) ?_
      refine hg_icmp_ge C 93 d_MM_broken_32 (by decide) (fun c32 => ?_) (fun c32 => ?_)
      · have c32n : 10 ≤ rr := (nI_leI (a := 10) (b := rr) (by omega) (by omega)).mp c32
        refine hg_iconst (v := (-1)) C d_MM_broken_93 (by decide) ?_
        exact hg_iret C hr rfl d_MM_broken_94 (Nat.le_of_ble_eq_true rfl) (Nat.le_of_ble_eq_true rfl) (absurd c32n (by omega))
      · have c32n : ¬ 10 ≤ rr := fun z => c32 (nI_le (a := 10) (b := rr) z (by omega))
        refine hg_iconst (v := 0) C d_MM_broken_35 (by decide) ?_
        refine hg_istore (lv' := [(6, .int 0), (5, .int (nI rr)), (4, .int (nI kk)), (3, .ref (ad 15 v)), (0, .ref (ad 0 0))]) C d_MM_broken_36 (by decide) rfl ?_
        refine hg_lv (ks := [0, 1, 2, 3, 4]) rfl (lp_MM_brk1 l Γ C hC hI hvv hk hpost hr (by omega) (fun n kk hn hx => ?_) (nT M + 1) 0 n kk (by omega) (by omega) (by omega) hx)
        refine hg_iinc (v := nI (rr + 1)) (lv' := [(5, .int (nI (rr + 1))), (4, .int (nI kk)), (3, .ref (ad 15 v)), (0, .ref (ad 0 0))]) C 0 d_MM_broken_87 rfl (nI_1 rr) (by decide) rfl ?_
        refine hg_goto C 19 d_MM_broken_90 (by decide) ?_
        rw [show 60 * nR M - (60 * rr + nT M) = (60 * nR M - 60 * (rr + 1)) + (60 - nT M) by omega, srch_skip _ _ _ (fun j h1 h2 => b_at_no (rr := rr) h1 (by omega)), show 60 * rr + nT M + (60 - nT M) = 60 * (rr + 1) by omega] at hx
        exact ih (rr + 1) n kk (by omega) (by omega) (by omega) hx
set_option maxHeartbeats 4000000 in
set_option maxRecDepth 100000 in
theorem k_MM_broken (l : Launch) (hl9 : l.stackTraces = false) (Γ : Gam) (h : Pic) (ad : Nat → Nat → Nat) (M : Mem) (hC : cr_at Γ ad M h) (hI : Inv0 M)  (v0 k0 : Int32) : kM l Γ y_MM_broken w_MM_broken rm_MM_broken [.ref (ad 0 0), .int v0, .int k0] h (pubQ Γ ad (sp_broken M v0 k0)) (pubX Γ ad (sp_broken M v0 k0)) 2 12 := by
  refine hg_entry (own := "ModelMerge") (cc := b_MM_broken) (maxL := 7) (ret := (some .int)) (lv0 := [(0, .ref (ad 0 0)), (1, .int v0), (2, .int k0)]) (by decide) rfl rfl (Nat.le_of_ble_eq_true rfl) rfl ?_
  intro p e s m args below meth c A C hne hr
  have kx : h (ad 0 0) = some (.inr (6, [.ref (ad 1 0), .ref (ad 2 0), .int (M 1 0), .ref (ad 3 0), .int (M 9 0), .ref (ad 4 0), .int (M 4 0), .ref (ad 14 (nV M - 1)), .ref (ad 5 0), .int (M 22 0), .ref (ad 6 0), cr_pen ad M])) := hC.1 0 0 (liv0 (by omega))
  have kA1 : h (ad 1 0) = some (.inl ((Γ.2.1 0), 60, .inl (M 2))) := hC.1 1 0 (liv0 (by omega))
  have kA2 : h (ad 2 0) = some (.inl ((Γ.2.1 0), 60, .inl (M 3))) := hC.1 2 0 (liv0 (by omega))
  have kA3 : h (ad 3 0) = some (.inl ((Γ.2.1 3), 20, .inr (.inr (.inr (.inr (fun j => if j < nS M then some (ad 10 j) else none)))))) := hC.1 3 0 (liv0 (by omega))
  have kA4 : h (ad 4 0) = some (.inl ((Γ.2.1 4), 40, .inr (.inr (.inr (.inr (fun j => if j < nV M then some (ad 14 j) else none)))))) := hC.1 4 0 (liv0 (by omega))
  have kA5 : h (ad 5 0) = some (.inl ((Γ.2.1 5), 10, .inr (.inr (.inr (.inr (fun j => if j < nR M then some (ad 18 j) else none)))))) := hC.1 5 0 (liv0 (by omega))
  have kA6 : h (ad 6 0) = some (.inr (0, [.ref (ad 7 0), .ref (ad 8 0), .ref (ad 9 0), .int (M 27 0)])) := hC.1 6 0 (liv0 (by omega))
  have kA7 : h (ad 7 0) = some (.inl ((Γ.2.1 0), 300, .inl (M 28))) := hC.1 7 0 (liv0 (by omega))
  have kA8 : h (ad 8 0) = some (.inl ((Γ.2.1 0), 300, .inl (M 29))) := hC.1 8 0 (liv0 (by omega))
  have kA9 : h (ad 9 0) = some (.inl ((Γ.2.1 0), 300, .inl (M 30))) := hC.1 9 0 (liv0 (by omega))
  obtain ⟨⟨⟨eT, hT⟩, ⟨eV, hV1, hV⟩, ⟨eS, hS⟩, ⟨eR, hRR⟩, ⟨eC, hCn⟩⟩, hI2, hI3, hI4, hI5, hI6, hI7, hI8, -, hI10, hI11⟩ := id hI
  refine hg_aload_n C 0 d_MM_broken_0 rfl rfl ?_
  refine hg_iload_n C 1 d_MM_broken_1 rfl rfl ?_
  refine hg_Vv (q := ("ModelMerge", T_MM, 12)) C (k_MM_versionOf l hl9 Γ _ ad M hC hI v0) (cw_MM_72 C.2.2.2.2.1 rfl rfl ⟨Nat.le_of_ble_eq_true rfl, Nat.le_of_ble_eq_true rfl⟩) kx rfl rfl rfl (Nat.le_of_ble_eq_true rfl) d_MM_broken_2 ⟨Nat.le_of_ble_eq_true rfl, Nat.le_of_ble_eq_true rfl⟩ (fun co2 => ?_) (fun co2 => hg_out C hne (Nat.le_of_ble_eq_true rfl) (Nat.le_of_ble_eq_true rfl) (⟨Or.inl ⟨rfl, by rw [sp_broken, gd1 (fun z => co2 z.1)]⟩, by rw [sp_broken, gd1 (fun z => co2 z.1)]; exact cr_code 1 hC⟩))
  obtain ⟨v, hv, rfl⟩ := inr_nat (n := nV M) (id co2) (by omega)
  refine hg_tr (congrArg (ad 14) (nI_clamp (n := v) (by omega))) ?_
  have kv_v : h (ad 14 v) = some (.inr (5, [.int (nI v), .int (au M v), .ref (ad 15 v), .ref (ad 17 v)])) := hC.1 14 v (livV (by omega) (by omega) (by omega))
  have kw_v : h (ad 15 v) = some (.inr (4, [.ref (ad 16 v)])) := hC.1 15 v (livV (by omega) (by omega) (by omega))
  have ky_v : h (ad 16 v) = some (.inl ((Γ.2.1 0), 360, .inl (vc M v))) := hC.1 16 v (livV (by omega) (by omega) (by omega))
  have kz_v : h (ad 17 v) = some (.inl ((Γ.2.1 0), 300, .inl (og M v))) := hC.1 17 v (livV (by omega) (by omega) (by omega))
  refine f_MM_147 C kv_v rfl d_MM_broken_5 ?_
  refine hg_astore_n (lv' := [(3, .ref (ad 15 v)), (0, .ref (ad 0 0)), (1, .int (nI v)), (2, .int k0)]) C d_MM_broken_8 rfl (by decide) rfl ?_
  refine hg_iload_n C 3 d_MM_broken_9 rfl rfl ?_
  refine hg_Sn C (k_MM_checkNotNegative l hl9 Γ _ k0) (cw_MM_220 C.2.2.2.2.1 rfl rfl ⟨Nat.le_of_ble_eq_true rfl, Nat.le_of_ble_eq_true rfl⟩) rfl rfl (Nat.le_of_ble_eq_true rfl) d_MM_broken_10 ⟨Nat.le_of_ble_eq_true rfl, Nat.le_of_ble_eq_true rfl⟩ (fun cb10 => ?_) (fun cb10 => hg_out C hne (Nat.le_of_ble_eq_true rfl) (Nat.le_of_ble_eq_true rfl) (⟨Or.inl ⟨rfl, by rw [sp_broken, gd1 (fun z => z.2 cb10)]⟩, by rw [sp_broken, gd1 (fun z => z.2 cb10)]; exact cr_code 1 hC⟩))
  refine hg_iload_n C 3 d_MM_broken_13 rfl rfl ?_
  refine hg_istore (lv' := [(4, .int k0), (3, .ref (ad 15 v)), (0, .ref (ad 0 0)), (1, .int (nI v)), (2, .int k0)]) C d_MM_broken_14 (by decide) rfl ?_
  refine hg_iconst (v := 0) C d_MM_broken_16 (by decide) ?_
  refine hg_istore (lv' := [(5, .int 0), (4, .int k0), (3, .ref (ad 15 v)), (0, .ref (ad 0 0)), (1, .int (nI v)), (2, .int k0)]) C d_MM_broken_17 (by decide) rfl ?_
  obtain ⟨k, hk, rfl⟩ := nI_of (id cb10)
  exact hg_lv (ks := [0, 1, 2, 3]) rfl (lp_MM_brk l Γ C hC hI hv hk (x := srch (b_at M v) k (60 * nR M) 0 0) (⟨by rw [sp_broken, gd0 (⟨co2, cb10⟩) trivial]; rw [nI_clamp (n := v) (by omega), nI_clamp (n := k) (by omega)]; rfl, by rw [sp_broken, gd0 (⟨co2, cb10⟩) trivial], ad, rfl, by rw [sp_broken, gd0 (⟨co2, cb10⟩) trivial]; exact cr_code 0 hC⟩) hr (nR M + 1) 0 0 k (by omega) (by omega) (by omega) rfl)
