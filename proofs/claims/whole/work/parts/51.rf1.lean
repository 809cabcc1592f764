/-! THE REFERENCE, first part: its private questions -/
def inr (x n : Int32) : Prop := ¬ x < 0 ∧ ¬ n ≤ x
theorem inr_nat {x : Int32} {n : Nat} (h : inr x (nI n)) (hn : n < 2 ^ 31) : ∃ j : Nat, j < n ∧ x = nI j := by
  obtain ⟨j, hj, rfl⟩ := nI_of h.1
  exact ⟨j, Nat.not_le.mp (fun z => h.2 ((nI_leI hn hj).mpr z)), rfl⟩
theorem inr_of {j n : Nat} (h : j < n) (hn : n < 2 ^ 31) : inr (nI j) (nI n) := ⟨nI_pos (by omega), nI_ge h hn⟩
theorem sv_0 {M : Mem} {s t g n : Nat} : sv M s t g n 0 = m_base M s t g := by cases n <;> simp [sv]
theorem sv_hit {M : Mem} {s t g n k : Nat} (hk : ¬ k = 0) (h : m_hit M (60 * s + k) t g) : sv M s t g (n + 1) k = m_new M (60 * s + k) := by rw [sv, if_neg hk, if_pos h]
theorem sv_no {M : Mem} {s t g n k : Nat} (hk : ¬ k = 0) (h : ¬ m_hit M (60 * s + k) t g) : sv M s t g (n + 1) k = sv M s t g n (bf M (60 * s + k)) := by rw [sv, if_neg hk, if_neg h]
/-- enough fuel is enough -/
theorem sv_fuel {M : Mem} {s t g : Nat} (hb : ∀ k, 1 ≤ k → k < nm M s → bf M (60 * s + k) < k) : ∀ (n n' k : Nat), k ≤ n → k ≤ n' → k < nm M s → sv M s t g n k = sv M s t g n' k
  | 0, n', k, h1, _, _ => by rw [show k = 0 by omega, sv_0, sv_0]
  | n + 1, 0, k, _, h2, _ => by rw [show k = 0 by omega, sv_0, sv_0]
  | n + 1, n' + 1, k, h1, h2, h3 => by
    by_cases hk : k = 0
    · rw [hk, sv_0, sv_0]
    · by_cases hh : m_hit M (60 * s + k) t g
      · rw [sv_hit hk hh, sv_hit hk hh]
      · rw [sv_no hk hh, sv_no hk hh]
        have := hb k (by omega) h3
        exact sv_fuel hb n n' _ (by omega) (by omega) (by omega)
theorem stv_0 {M : Mem} {s t g : Nat} : stv M s 0 t g = m_base M s t g := sv_0
theorem stv_hit {M : Mem} {s k t g : Nat} (hk : ¬ k = 0) (h : m_hit M (60 * s + k) t g) : stv M s k t g = m_new M (60 * s + k) := sv_hit hk h
theorem stv_no {M : Mem} {s k t g : Nat} (hb : ∀ k, 1 ≤ k → k < nm M s → bf M (60 * s + k) < k) (hk : ¬ k = 0) (hn : k < nm M s) (h60 : k ≤ 60) (h : ¬ m_hit M (60 * s + k) t g) : stv M s k t g = stv M s (bf M (60 * s + k)) t g := by
  have := hb k (by omega) hn
  rw [stv, sv_no hk h, stv]
  exact sv_fuel hb _ _ _ (by omega) (by omega) (by omega)
theorem Inv0.bf {M : Mem} (h : Inv0 M) {s : Nat} (hs : s < nS M) : ∀ k, 1 ≤ k → k < nm M s → bf M (60 * s + k) < k := fun k h1 h2 => ((h.2.2.2.1 s hs).2 k h1 h2).1.2
abbrev rm_Rf_thrown : Room := { frames := 0, cells := 0, slots := 0, locals := 0 }
set_option maxHeartbeats 4000000 in
set_option maxRecDepth 100000 in
theorem k_Rf_thrown (l : Launch) (Γ : Gam) (h : Pic) (r : Nat) (aa : Nat → Nat) (M : Mem) (hR : rf_at Γ r aa M h) : kN l Γ y_Rf_thrown w_Rf_thrown rm_Rf_thrown [.ref r] h (pv (.int (M 0 0)) h True) 0 0 := by
  refine hg_entryN (own := "ModelMergeModel") (cc := b_Rf_thrown) (maxL := 1) (ret := (some .int)) (lv0 := [(0, .ref r)]) (by decide) rfl rfl (Nat.le_of_ble_eq_true rfl) rfl ?_
  intro p9 e9 s9 m9 args below meth c9 A C hnm hr
  refine hg_aload_n C 0 d_Rf_thrown_0 rfl rfl ?_
  refine f_Rf_90 C hR.1 rfl d_Rf_thrown_1 ?_
  exact hg_iretN C hr rfl d_Rf_thrown_4 (Nat.le_of_ble_eq_true rfl) (Nat.le_of_ble_eq_true rfl) (⟨rfl, rfl, trivial⟩)
abbrev rm_Rf_goes : Room := { frames := 0, cells := 0, slots := 0, locals := 0 }
set_option maxHeartbeats 4000000 in
set_option maxRecDepth 100000 in
theorem k_Rf_goes1 (l : Launch) (Γ : Gam) (h : Pic) (r : Nat) (aa : Nat → Nat) (M : Mem) (hR : rf_at Γ r aa M h) (y : Int32) : kN l Γ y_Rf_goes w_Rf_goes rm_Rf_goes [.ref r, .int 0, .int y] h (fun q u => q = some (.int 0) ∧ rf_at Γ r aa (mset M 0 0 1) u) 0 0 := by
  refine hg_entryN (own := "ModelMergeModel") (cc := b_Rf_goes) (maxL := 3) (ret := (some .boolean)) (lv0 := [(0, .ref r), (1, .int 0), (2, .int y)]) (by decide) rfl rfl (Nat.le_of_ble_eq_true rfl) rfl ?_
  intro p9 e9 s9 m9 args below meth c9 A C hnm hr
  refine hg_aload_n C 0 d_Rf_goes_0 rfl rfl ?_
  refine hg_iload_n C 1 d_Rf_goes_1 rfl rfl ?_
  refine hg_if_ne C 9 d_Rf_goes_2 (by decide) (fun z => absurd rfl z) (fun _ => ?_)
  refine hg_iconst (v := 1) C d_Rf_goes_5 (by decide) ?_
  refine hg_goto C 18 d_Rf_goes_6 (by decide) ?_
  refine p_Rf_90 (fs' := rf_fs aa (mset M 0 0 1)) C hR.1 rfl rfl (Nat.le_of_ble_eq_true rfl) rfl d_Rf_goes_18 ?_
  obtain ⟨h1, eh1⟩ : ∃ z, z = hp_up h r (.inr (7, rf_fs aa (mset M 0 0 1))) := ⟨_, rfl⟩
  refine hg_eq eh1.symm ?_
  have R3 : rf_at Γ r aa (mset M 0 0 1) h1 := by rw [eh1]; exact rf_set hR 0 1 rfl
  obtain ⟨M2, eM2⟩ : ∃ z, z = mset M 0 0 1 := ⟨_, rfl⟩
  rw [← eM2] at R3
  refine hg_aload_n C 0 d_Rf_goes_21 rfl rfl ?_
  refine f_Rf_90 C R3.1 rfl d_Rf_goes_22 ?_
  refine hg_ti (show M2 0 0 = 1 by rw [eM2, mset_s, pk_us]) ?_
  refine hg_if_ne C 32 d_Rf_goes_25 (by decide) (fun _ => ?_) (fun z => absurd z (by decide))
  refine hg_iconst (v := 0) C d_Rf_goes_32 (by decide) ?_
  exact hg_iretN C hr rfl d_Rf_goes_33 (Nat.le_of_ble_eq_true rfl) (Nat.le_of_ble_eq_true rfl) (⟨rfl, eM2 ▸ R3⟩)
set_option maxHeartbeats 4000000 in
set_option maxRecDepth 100000 in
theorem k_Rf_goes2 (l : Launch) (Γ : Gam) (h : Pic) (r : Nat) (aa : Nat → Nat) (M : Mem) (hR : rf_at Γ r aa M h)  : kN l Γ y_Rf_goes w_Rf_goes rm_Rf_goes [.ref r, .int 1, .int 0] h (fun q u => q = some (.int 0) ∧ rf_at Γ r aa (mset M 0 0 2) u) 0 0 := by
  refine hg_entryN (own := "ModelMergeModel") (cc := b_Rf_goes) (maxL := 3) (ret := (some .boolean)) (lv0 := [(0, .ref r), (1, .int 1), (2, .int 0)]) (by decide) rfl rfl (Nat.le_of_ble_eq_true rfl) rfl ?_
  intro p9 e9 s9 m9 args below meth c9 A C hnm hr
  refine hg_aload_n C 0 d_Rf_goes_0 rfl rfl ?_
  refine hg_iload_n C 1 d_Rf_goes_1 rfl rfl ?_
  refine hg_if_ne C 9 d_Rf_goes_2 (by decide) (fun _ => ?_) (fun z => absurd z (by decide))
  refine hg_iload_n C 2 d_Rf_goes_9 rfl rfl ?_
  refine hg_if_ne C 17 d_Rf_goes_10 (by decide) (fun z => absurd rfl z) (fun _ => ?_)
  refine hg_iconst (v := 2) C d_Rf_goes_13 (by decide) ?_
  refine hg_goto C 18 d_Rf_goes_14 (by decide) ?_
  refine p_Rf_90 (fs' := rf_fs aa (mset M 0 0 2)) C hR.1 rfl rfl (Nat.le_of_ble_eq_true rfl) rfl d_Rf_goes_18 ?_
  obtain ⟨h1, eh1⟩ : ∃ z, z = hp_up h r (.inr (7, rf_fs aa (mset M 0 0 2))) := ⟨_, rfl⟩
  refine hg_eq eh1.symm ?_
  have R3 : rf_at Γ r aa (mset M 0 0 2) h1 := by rw [eh1]; exact rf_set hR 0 2 rfl
  obtain ⟨M2, eM2⟩ : ∃ z, z = mset M 0 0 2 := ⟨_, rfl⟩
  rw [← eM2] at R3
  refine hg_aload_n C 0 d_Rf_goes_21 rfl rfl ?_
  refine f_Rf_90 C R3.1 rfl d_Rf_goes_22 ?_
  refine hg_ti (show M2 0 0 = 2 by rw [eM2, mset_s, pk_us]) ?_
  refine hg_if_ne C 32 d_Rf_goes_25 (by decide) (fun _ => ?_) (fun z => absurd z (by decide))
  refine hg_iconst (v := 0) C d_Rf_goes_32 (by decide) ?_
  exact hg_iretN C hr rfl d_Rf_goes_33 (Nat.le_of_ble_eq_true rfl) (Nat.le_of_ble_eq_true rfl) (⟨rfl, eM2 ▸ R3⟩)
set_option maxHeartbeats 4000000 in
set_option maxRecDepth 100000 in
theorem k_Rf_goes0 (l : Launch) (Γ : Gam) (h : Pic) (r : Nat) (aa : Nat → Nat) (M : Mem) (hR : rf_at Γ r aa M h)  : kN l Γ y_Rf_goes w_Rf_goes rm_Rf_goes [.ref r, .int 1, .int 1] h (fun q u => q = some (.int 1) ∧ rf_at Γ r aa (mset M 0 0 0) u) 0 0 := by
  refine hg_entryN (own := "ModelMergeModel") (cc := b_Rf_goes) (maxL := 3) (ret := (some .boolean)) (lv0 := [(0, .ref r), (1, .int 1), (2, .int 1)]) (by decide) rfl rfl (Nat.le_of_ble_eq_true rfl) rfl ?_
  intro p9 e9 s9 m9 args below meth c9 A C hnm hr
  refine hg_aload_n C 0 d_Rf_goes_0 rfl rfl ?_
  refine hg_iload_n C 1 d_Rf_goes_1 rfl rfl ?_
  refine hg_if_ne C 9 d_Rf_goes_2 (by decide) (fun _ => ?_) (fun z => absurd z (by decide))
  refine hg_iload_n C 2 d_Rf_goes_9 rfl rfl ?_
  refine hg_if_ne C 17 d_Rf_goes_10 (by decide) (fun _ => ?_) (fun z => absurd z (by decide))
  refine hg_iconst (v := 0) C d_Rf_goes_17 (by decide) ?_
  refine p_Rf_90 (fs' := rf_fs aa (mset M 0 0 0)) C hR.1 rfl rfl (Nat.le_of_ble_eq_true rfl) rfl d_Rf_goes_18 ?_
  obtain ⟨h1, eh1⟩ : ∃ z, z = hp_up h r (.inr (7, rf_fs aa (mset M 0 0 0))) := ⟨_, rfl⟩
  refine hg_eq eh1.symm ?_
  have R3 : rf_at Γ r aa (mset M 0 0 0) h1 := by rw [eh1]; exact rf_set hR 0 0 rfl
  obtain ⟨M2, eM2⟩ : ∃ z, z = mset M 0 0 0 := ⟨_, rfl⟩
  rw [← eM2] at R3
  refine hg_aload_n C 0 d_Rf_goes_21 rfl rfl ?_
  refine f_Rf_90 C R3.1 rfl d_Rf_goes_22 ?_
  refine hg_ti (show M2 0 0 = 0 by rw [eM2, mset_s, pk_us]) ?_
  refine hg_if_ne C 32 d_Rf_goes_25 (by decide) (fun z => absurd rfl z) (fun _ => ?_)
  refine hg_iconst (v := 1) C d_Rf_goes_28 (by decide) ?_
  refine hg_goto C 33 d_Rf_goes_29 (by decide) ?_
  exact hg_iretN C hr rfl d_Rf_goes_33 (Nat.le_of_ble_eq_true rfl) (Nat.le_of_ble_eq_true rfl) (⟨rfl, eM2 ▸ R3⟩)
abbrev rm_Rf_isIn : Room := { frames := 0, cells := 0, slots := 0, locals := 0 }
set_option maxHeartbeats 4000000 in
set_option maxRecDepth 100000 in
theorem k_Rf_isIn (l : Launch) (Γ : Gam) (h : Pic) (x n : Int32) : kN l Γ y_Rf_isIn w_Rf_isIn rm_Rf_isIn [.int x, .int n] h (pb h (inr x n)) 0 0 := by
  refine hg_entryN (own := "ModelMergeModel") (cc := b_Rf_isIn) (maxL := 2) (ret := (some .boolean)) (lv0 := [(0, .int x), (1, .int n)]) (by decide) rfl rfl (Nat.le_of_ble_eq_true rfl) rfl ?_
  intro p e s m args below meth c A C hnm hr
  refine hg_iload_n C 0 d_Rf_isIn_0 rfl rfl ?_
  refine hg_if_lt C 13 d_Rf_isIn_1 (by decide) (fun c1 => ?_) (fun c1 => ?_)
  · refine hg_iconst (v := 0) C d_Rf_isIn_13 (by decide) ?_
    exact hg_iretN C hr rfl d_Rf_isIn_14 (Nat.le_of_ble_eq_true rfl) (Nat.le_of_ble_eq_true rfl) (Or.inr ⟨rfl, rfl, fun z => z.1 c1⟩)
  · refine hg_iload_n C 0 d_Rf_isIn_4 rfl rfl ?_
    refine hg_iload_n C 1 d_Rf_isIn_5 rfl rfl ?_
    refine hg_icmp_ge C 13 d_Rf_isIn_6 (by decide) (fun c6 => ?_) (fun c6 => ?_)
    · refine hg_iconst (v := 0) C d_Rf_isIn_13 (by decide) ?_
      exact hg_iretN C hr rfl d_Rf_isIn_14 (Nat.le_of_ble_eq_true rfl) (Nat.le_of_ble_eq_true rfl) (Or.inr ⟨rfl, rfl, fun z => z.2 c6⟩)
    · refine hg_iconst (v := 1) C d_Rf_isIn_9 (by decide) ?_
      refine hg_goto C 14 d_Rf_isIn_10 (by decide) ?_
      exact hg_iretN C hr rfl d_Rf_isIn_14 (Nat.le_of_ble_eq_true rfl) (Nat.le_of_ble_eq_true rfl) (Or.inl ⟨rfl, rfl, c1, c6⟩)
abbrev rm_Rf_isAt : Room := { frames := 0, cells := 0, slots := 0, locals := 0 }
set_option maxHeartbeats 4000000 in
set_option maxRecDepth 100000 in
theorem lp_Rf_isAt (l : Launch) (Γ : Gam) {p : Program} {e : Env} {s9 : State} {m : MethodId} {args : Array Value} {below : List Frame} {meth : Method} {c : Code} {A : Nat → Prop} (C : hp_C p s9 m args meth c b_Rf_isAt 6 "ModelMergeModel" w_Rf_isAt Γ.1 kcl (ktys Γ.2.1) (ksts Γ.2.2) knws A) {h : Pic} {r : Nat} {aa : Nat → Nat} {M : Mem} (hR : rf_at Γ r aa M h) (hI : Inv0 M) {s t : Nat} (hs : s < nS M) (ht : t < 60) {x2 : Value} {v : Int32} (hr : meth.sig.returnType = some .boolean) (hbool : narrow .boolean (.int v) = .int v)  :
    ∀ (n9 : Nat) (k : Nat), (k < nm M s) → (k < n9) → (sv M s t 0 n9 k = v) → hp_G p l e rm_Rf_isAt s9 m args below meth c Γ.1 kcl A 6 (hp_NQ below Γ.1 kcl A (pv (.int v) h True) args s9 0 0) 0 0 3 [(4, .int (nI k)), (1, .int (nI s)), (2, x2), (3, .int (nI t)), (0, .ref r)] [] h := by
  intro n9
  induction n9 with
  | zero =>
    intro k hk hm hv
    exact absurd hm (by omega)
  | succ n9 ih =>
    intro k hk hm hv
    obtain ⟨⟨⟨-, hT⟩, ⟨-, hV1, hV⟩, ⟨-, hS⟩, -, -⟩, hI2, -, hI4, -⟩ := id hI
    obtain ⟨⟨e11, hb⟩, ⟨e12, hsd⟩, ⟨e13, hnm⟩, hlf⟩ := hI2 s hs
    refine hg_iload C 0 d_Rf_isAt_3 rfl ?_
    refine hg_if_le C 72 d_Rf_isAt_5 (by decide) (fun c5 => ?_) (fun c5 => ?_)
    · have c5n : k ≤ 0 := (nI_leI (a := k) (b := 0) (by omega) (by omega)).mp c5
      have hk0 : k = 0 := by omega
      subst hk0
      refine hg_aload_n C 4 d_Rf_isAt_72 rfl rfl ?_
      refine f_Rf_20 C hR.1 rfl d_Rf_isAt_73 ?_
      refine hg_bipush (v := 60) C d_Rf_isAt_76 (by decide) ?_
      refine hg_aload_n C 4 d_Rf_isAt_78 rfl rfl ?_
      refine f_Rf_36 C hR.1 rfl d_Rf_isAt_79 ?_
      refine hg_iload_n C 1 d_Rf_isAt_82 rfl rfl ?_
      have b83 : s < 20 := (by omega)
      refine hg_iald C 0 (hR.2.1 11 rfl) rfl (vp_in_nI (N := 20) b83 (by omega)) d_Rf_isAt_83 ?_
      refine hg_ti (congrArg (M 11) (nI_clamp (n := s) (by omega))) ?_
      refine hg_ti e11 ?_
      refine hg_imul C d_Rf_isAt_84 ?_
      refine hg_ti (show ((60 : Int32) : Int32) * nI (bs M s) = nI (60 * bs M s) from pk_mul 60 (bs M s)) ?_
      refine hg_iload_n C 3 d_Rf_isAt_85 rfl rfl ?_
      refine hg_iadd C d_Rf_isAt_86 ?_
      refine hg_ti (show (nI (60 * bs M s) : Int32) + nI t = nI (60 * bs M s + t) from nI_add (60 * bs M s) t) ?_
      have b87 : 60 * bs M s + t < 2400 := (by omega)
      refine hg_zald C 2 (hR.2.1 5 rfl) rfl (vp_in_nI (N := 2400) b87 (by omega)) d_Rf_isAt_87 ?_
      refine hg_ti (congrArg (M 5) (nI_clamp (n := 60 * bs M s + t) (by omega))) ?_
      exact hg_iretN C hr (by rw [← hv, sv_0, m_base, if_pos rfl] at hbool; exact hbool) d_Rf_isAt_88 (Nat.le_of_ble_eq_true rfl) (Nat.le_of_ble_eq_true rfl) (⟨by rw [← hv, sv_0, m_base, if_pos rfl], rfl, trivial⟩)
    · have c5n : ¬ k ≤ 0 := fun z => c5 (nI_le (a := k) (b := 0) z (by omega))
      obtain ⟨⟨e16, hbf⟩, ⟨t0, ht0, e19⟩, ⟨f0, hf0, e20⟩, hhow⟩ := (hI4 s hs).2 k (by omega) hk
      refine hg_bipush (v := 60) C d_Rf_isAt_8 (by decide) ?_
      refine hg_iload_n C 1 d_Rf_isAt_10 rfl rfl ?_
      refine hg_imul C d_Rf_isAt_11 ?_
      refine hg_ti (show ((60 : Int32) : Int32) * nI s = nI (60 * s) from pk_mul 60 s) ?_
      refine hg_iload C 0 d_Rf_isAt_12 rfl ?_
      refine hg_iadd C d_Rf_isAt_14 ?_
      refine hg_ti (show (nI (60 * s) : Int32) + nI k = nI (60 * s + k) from nI_add (60 * s) k) ?_
      refine hg_istore (lv' := [(5, .int (nI (60 * s + k))), (4, .int (nI k)), (1, .int (nI s)), (2, x2), (3, .int (nI t)), (0, .ref r)]) C d_Rf_isAt_15 (by decide) rfl ?_
      refine hg_aload_n C 5 d_Rf_isAt_17 rfl rfl ?_
      refine f_Rf_60 C hR.1 rfl d_Rf_isAt_18 ?_
      refine hg_iload C 0 d_Rf_isAt_21 rfl ?_
      have b23 : 60 * s + k < 1200 := (by omega)
      refine hg_iald C 0 (hR.2.1 19 rfl) rfl (vp_in_nI (N := 1200) b23 (by omega)) d_Rf_isAt_23 ?_
      refine hg_ti (congrArg (M 19) (nI_clamp (n := 60 * s + k) (by omega))) ?_
      refine hg_ti e19 ?_
      refine hg_iload_n C 4 d_Rf_isAt_24 rfl rfl ?_
      refine hg_icmp_ne C 55 d_Rf_isAt_25 (by decide) (fun c25 => ?_) (fun c25 => ?_)
      · have c25n : ¬ t0 = t := fun z => c25 (congrArg nI z)
        refine hg_aload_n C 5 d_Rf_isAt_55 rfl rfl ?_
        refine f_Rf_51 C hR.1 rfl d_Rf_isAt_56 ?_
        refine hg_bipush (v := 60) C d_Rf_isAt_59 (by decide) ?_
        refine hg_iload_n C 2 d_Rf_isAt_61 rfl rfl ?_
        refine hg_imul C d_Rf_isAt_62 ?_
        refine hg_ti (show ((60 : Int32) : Int32) * nI s = nI (60 * s) from pk_mul 60 s) ?_
        refine hg_iload C 1 d_Rf_isAt_63 rfl ?_
        refine hg_iadd C d_Rf_isAt_65 ?_
        refine hg_ti (show (nI (60 * s) : Int32) + nI k = nI (60 * s + k) from nI_add (60 * s) k) ?_
        have b66 : 60 * s + k < 1200 := (by omega)
        refine hg_iald C 0 (hR.2.1 16 rfl) rfl (vp_in_nI (N := 1200) b66 (by omega)) d_Rf_isAt_66 ?_
        refine hg_ti (congrArg (M 16) (nI_clamp (n := 60 * s + k) (by omega))) ?_
        refine hg_ti e16 ?_
        refine hg_istore (lv' := [(4, .int (nI (bf M (60 * s + k)))), (5, .int (nI (60 * s + k))), (1, .int (nI s)), (2, x2), (3, .int (nI t)), (0, .ref r)]) C d_Rf_isAt_67 (by decide) rfl ?_
        refine hg_goto C 3 d_Rf_isAt_69 (by decide) ?_
        rw [sv_no (by omega) (fun z => c25n ((nI_eq (by omega) (by omega)).mp (e19.symm.trans z.1)))] at hv
        exact hg_lv (ks := [0, 2, 3, 4, 5]) rfl (ih _ (by omega) (by omega) hv)
      · have c25n : t0 = t := (nI_eq (a := t0) (b := t) (by omega) (by omega)).mp c25
        refine hg_aload_n C 5 d_Rf_isAt_28 rfl rfl ?_
        refine f_Rf_57 C hR.1 rfl d_Rf_isAt_29 ?_
        refine hg_iload C 0 d_Rf_isAt_32 rfl ?_
        have b34 : 60 * s + k < 1200 := (by omega)
        refine hg_iald C 0 (hR.2.1 18 rfl) rfl (vp_in_nI (N := 1200) b34 (by omega)) d_Rf_isAt_34 ?_
        refine hg_ti (congrArg (M 18) (nI_clamp (n := 60 * s + k) (by omega))) ?_
        refine hg_if_le C 55 d_Rf_isAt_35 (by decide) (fun c35 => ?_) (fun c35 => ?_)
        · have c35f : M 18 (60 * s + k) = 0 := by
            rcases hhow with q | q | q
            · exact q
            · rw [q] at c35; exact absurd c35 (by decide)
            · rw [q] at c35; exact absurd c35 (by decide)
          refine hg_aload_n C 5 d_Rf_isAt_55 rfl rfl ?_
          refine f_Rf_51 C hR.1 rfl d_Rf_isAt_56 ?_
          refine hg_bipush (v := 60) C d_Rf_isAt_59 (by decide) ?_
          refine hg_iload_n C 2 d_Rf_isAt_61 rfl rfl ?_
          refine hg_imul C d_Rf_isAt_62 ?_
          refine hg_ti (show ((60 : Int32) : Int32) * nI s = nI (60 * s) from pk_mul 60 s) ?_
          refine hg_iload C 1 d_Rf_isAt_63 rfl ?_
          refine hg_iadd C d_Rf_isAt_65 ?_
          refine hg_ti (show (nI (60 * s) : Int32) + nI k = nI (60 * s + k) from nI_add (60 * s) k) ?_
          have b66 : 60 * s + k < 1200 := (by omega)
          refine hg_iald C 0 (hR.2.1 16 rfl) rfl (vp_in_nI (N := 1200) b66 (by omega)) d_Rf_isAt_66 ?_
          refine hg_ti (congrArg (M 16) (nI_clamp (n := 60 * s + k) (by omega))) ?_
          refine hg_ti e16 ?_
          refine hg_istore (lv' := [(4, .int (nI (bf M (60 * s + k)))), (5, .int (nI (60 * s + k))), (1, .int (nI s)), (2, x2), (3, .int (nI t)), (0, .ref r)]) C d_Rf_isAt_67 (by decide) rfl ?_
          refine hg_goto C 3 d_Rf_isAt_69 (by decide) ?_
          rw [sv_no (by omega) (fun z => z.2.elim (fun y => y.2 c35f) (fun y => y.1 rfl))] at hv
          exact hg_lv (ks := [0, 2, 3, 4, 5]) rfl (ih _ (by omega) (by omega) hv)
        · have c35f : ¬ M 18 (60 * s + k) = 0 := fun z => c35 (by rw [z]; decide)
          refine hg_aload_n C 5 d_Rf_isAt_38 rfl rfl ?_
          refine f_Rf_57 C hR.1 rfl d_Rf_isAt_39 ?_
          refine hg_iload C 0 d_Rf_isAt_42 rfl ?_
          have b44 : 60 * s + k < 1200 := (by omega)
          refine hg_iald C 0 (hR.2.1 18 rfl) rfl (vp_in_nI (N := 1200) b44 (by omega)) d_Rf_isAt_44 ?_
          refine hg_ti (congrArg (M 18) (nI_clamp (n := 60 * s + k) (by omega))) ?_
          refine hg_iconst (v := 1) C d_Rf_isAt_45 (by decide) ?_
          refine hg_icmp_ne C 53 d_Rf_isAt_46 (by decide) (fun c46 => ?_) (fun c46 => ?_)
          · refine hg_iconst (v := 0) C d_Rf_isAt_53 (by decide) ?_
            exact hg_iretN C hr rfl d_Rf_isAt_54 (Nat.le_of_ble_eq_true rfl) (Nat.le_of_ble_eq_true rfl) (⟨by rw [← hv, sv_hit (by omega) ⟨by rw [e19, show t0 = t from c25n], Or.inl ⟨rfl, c35f⟩⟩, m_new, if_neg c35f, if_neg c46], rfl, trivial⟩)
          · refine hg_iconst (v := 1) C d_Rf_isAt_49 (by decide) ?_
            refine hg_goto C 54 d_Rf_isAt_50 (by decide) ?_
            exact hg_iretN C hr rfl d_Rf_isAt_54 (Nat.le_of_ble_eq_true rfl) (Nat.le_of_ble_eq_true rfl) (⟨by rw [← hv, sv_hit (by omega) ⟨by rw [e19, show t0 = t from c25n], Or.inl ⟨rfl, c35f⟩⟩, m_new, if_neg c35f, if_pos c46], rfl, trivial⟩)
theorem stv_bool {M : Mem} (hI : Inv0 M) {s k t : Nat} (hs : s < nS M) (hk : k < nm M s) (ht : t < 60) : stv M s k t 0 = 0 ∨ stv M s k t 0 = 1 := by
  have key : ∀ n k, k < nm M s → sv M s t 0 n k = 0 ∨ sv M s t 0 n k = 1 := by
    intro n
    have hbase : m_base M s t 0 = 0 ∨ m_base M s t 0 = 1 := by
      rw [m_base, if_pos rfl]
      rcases hI.2.2.2.2.2.2.2.1 (bs M s) (hI.2.1 s hs).1.2 t ht with h | h
      · exact Or.inr h.1
      · exact Or.inl h.1
    induction n with
    | zero => intro k _; exact hbase
    | succ n ih =>
      intro k hk
      by_cases h0 : k = 0
      · rw [h0, sv_0]; exact hbase
      · by_cases hh : m_hit M (60 * s + k) t 0
        · rw [sv_hit h0 hh, m_new]
          rcases hh.2 with h | h
          · rw [if_neg h.2]
            split
            · exact Or.inr rfl
            · exact Or.inl rfl
          · exact absurd rfl h.1
        · rw [sv_no h0 hh]
          have := Inv0.bf hI hs k (by omega) hk
          exact ih _ (by omega)
  exact key 60 k hk
theorem nar_bool {v : Int32} (h : v = 0 ∨ v = 1) : narrow .boolean (.int v) = .int v := by
  rcases h with rfl | rfl <;> rfl
/-- a thing that a moment made: its fields were 0 -/
def I_zer (M : Mem) : Prop := ∀ s, s < nS M → ∀ k, 1 ≤ k → k < nm M s → M 18 (60 * s + k) = 1 → ∀ t, t < 60 → M 19 (60 * s + k) = nI t → ∀ f, f < 5 → stv M s (bf M (60 * s + k)) t (f + 1) = 0
set_option maxHeartbeats 4000000 in
set_option maxRecDepth 100000 in
theorem k_Rf_isAt (l : Launch) (Γ : Gam) (h : Pic) (r : Nat) (aa : Nat → Nat) (M : Mem) (hR : rf_at Γ r aa M h) (hI : Inv0 M) (s k t : Nat) (hs : s < nS M) (hk : k < nm M s) (ht : t < 60) : kN l Γ y_Rf_isAt w_Rf_isAt rm_Rf_isAt [.ref r, .int (nI s), .int (nI k), .int (nI t)] h (pv (.int (stv M s k t 0)) h True) 0 0 := by
  refine hg_entryN (own := "ModelMergeModel") (cc := b_Rf_isAt) (maxL := 6) (ret := (some .boolean)) (lv0 := [(0, .ref r), (1, .int (nI s)), (2, .int (nI k)), (3, .int (nI t))]) (by decide) rfl rfl (Nat.le_of_ble_eq_true rfl) rfl ?_
  intro p9 e9 s9 m9 args below meth c9 A C hnm hr
  have hnm := (hI.2.1 s hs).2.2.1.2
  refine hg_iload_n C 2 d_Rf_isAt_0 rfl rfl ?_
  refine hg_istore (lv' := [(4, .int (nI k)), (0, .ref r), (1, .int (nI s)), (2, .int (nI k)), (3, .int (nI t))]) C d_Rf_isAt_1 (by decide) rfl ?_
  exact hg_lv (ks := [0, 2, 3, 4, 1]) rfl (lp_Rf_isAt l Γ C hR hI hs ht hr (nar_bool (stv_bool hI hs hk ht)) 61 k hk (by omega) (sv_fuel (Inv0.bf hI hs) _ _ _ (by omega) (by omega) hk))
abbrev rm_Rf_valueAt : Room := { frames := 0, cells := 0, slots := 0, locals := 0 }
set_option maxHeartbeats 4000000 in
set_option maxRecDepth 100000 in
theorem lp_Rf_valueAt (l : Launch) (Γ : Gam) {p : Program} {e : Env} {s9 : State} {m : MethodId} {args : Array Value} {below : List Frame} {meth : Method} {c : Code} {A : Nat → Prop} (C : hp_C p s9 m args meth c b_Rf_valueAt 7 "ModelMergeModel" w_Rf_valueAt Γ.1 kcl (ktys Γ.2.1) (ksts Γ.2.2) knws A) {h : Pic} {r : Nat} {aa : Nat → Nat} {M : Mem} (hR : rf_at Γ r aa M h) (hI : Inv0 M) {s t : Nat} (hs : s < nS M) (ht : t < 60) {f : Nat} (hf : f < 5) (hZ : I_zer M) {x2 : Value} {v : Int32} (hr : meth.sig.returnType = some .int)  :
    ∀ (n9 : Nat) (k : Nat), (k < nm M s) → (k < n9) → (sv M s t (f + 1) n9 k = v) → hp_G p l e rm_Rf_valueAt s9 m args below meth c Γ.1 kcl A 7 (hp_NQ below Γ.1 kcl A (pv (.int v) h True) args s9 0 0) 0 0 3 [(5, .int (nI k)), (1, .int (nI s)), (2, x2), (3, .int (nI t)), (4, .int (nI f)), (0, .ref r)] [] h := by
  intro n9
  induction n9 with
  | zero =>
    intro k hk hm hv
    exact absurd hm (by omega)
  | succ n9 ih =>
    intro k hk hm hv
    obtain ⟨⟨⟨-, hT⟩, ⟨-, hV1, hV⟩, ⟨-, hS⟩, -, -⟩, hI2, -, hI4, -⟩ := id hI
    obtain ⟨⟨e11, hb⟩, ⟨e12, hsd⟩, ⟨e13, hnm⟩, hlf⟩ := hI2 s hs
    refine hg_iload C 0 d_Rf_valueAt_3 rfl ?_
    refine hg_if_le C 101 d_Rf_valueAt_5 (by decide) (fun c5 => ?_) (fun c5 => ?_)
    · have c5n : k ≤ 0 := (nI_leI (a := k) (b := 0) (by omega) (by omega)).mp c5
      have hk0 : k = 0 := by omega
      subst hk0
      refine hg_aload_n C 5 d_Rf_valueAt_101 rfl rfl ?_
      refine f_Rf_24 C hR.1 rfl d_Rf_valueAt_102 ?_
      refine hg_iconst (v := 5) C d_Rf_valueAt_105 (by decide) ?_
      refine hg_bipush (v := 60) C d_Rf_valueAt_106 (by decide) ?_
      refine hg_aload_n C 5 d_Rf_valueAt_108 rfl rfl ?_
      refine f_Rf_36 C hR.1 rfl d_Rf_valueAt_109 ?_
      refine hg_iload_n C 1 d_Rf_valueAt_112 rfl rfl ?_
      have b113 : s < 20 := (by omega)
      refine hg_iald C 0 (hR.2.1 11 rfl) rfl (vp_in_nI (N := 20) b113 (by omega)) d_Rf_valueAt_113 ?_
      refine hg_ti (congrArg (M 11) (nI_clamp (n := s) (by omega))) ?_
      refine hg_ti e11 ?_
      refine hg_imul C d_Rf_valueAt_114 ?_
      refine hg_ti (show ((60 : Int32) : Int32) * nI (bs M s) = nI (60 * bs M s) from pk_mul 60 (bs M s)) ?_
      refine hg_iload_n C 3 d_Rf_valueAt_115 rfl rfl ?_
      refine hg_iadd C d_Rf_valueAt_116 ?_
      refine hg_ti (show (nI (60 * bs M s) : Int32) + nI t = nI (60 * bs M s + t) from nI_add (60 * bs M s) t) ?_
      refine hg_imul C d_Rf_valueAt_117 ?_
      refine hg_ti (show ((5 : Int32) : Int32) * nI (60 * bs M s + t) = nI (5 * (60 * bs M s + t)) from pk_mul 5 (60 * bs M s + t)) ?_
      refine hg_iload C 4 d_Rf_valueAt_118 rfl ?_
      refine hg_iadd C d_Rf_valueAt_120 ?_
      refine hg_ti (show (nI (5 * (60 * bs M s + t)) : Int32) + nI f = nI (5 * (60 * bs M s + t) + f) from nI_add (5 * (60 * bs M s + t)) f) ?_
      have b121 : 5 * (60 * bs M s + t) + f < 12000 := (by omega)
      refine hg_iald C 0 (hR.2.1 6 rfl) rfl (vp_in_nI (N := 12000) b121 (by omega)) d_Rf_valueAt_121 ?_
      refine hg_ti (congrArg (M 6) (nI_clamp (n := 5 * (60 * bs M s + t) + f) (by omega))) ?_
      exact hg_iretN C hr rfl d_Rf_valueAt_122 (Nat.le_of_ble_eq_true rfl) (Nat.le_of_ble_eq_true rfl) (⟨by rw [← hv, sv_0, m_base, if_neg (by omega)]; rfl, rfl, trivial⟩)
    · have c5n : ¬ k ≤ 0 := fun z => c5 (nI_le (a := k) (b := 0) z (by omega))
      obtain ⟨⟨e16, hbf⟩, ⟨t0, ht0, e19⟩, ⟨f0, hf0, e20⟩, hhow⟩ := (hI4 s hs).2 k (by omega) hk
      refine hg_bipush (v := 60) C d_Rf_valueAt_8 (by decide) ?_
      refine hg_iload_n C 1 d_Rf_valueAt_10 rfl rfl ?_
      refine hg_imul C d_Rf_valueAt_11 ?_
      refine hg_ti (show ((60 : Int32) : Int32) * nI s = nI (60 * s) from pk_mul 60 s) ?_
      refine hg_iload C 0 d_Rf_valueAt_12 rfl ?_
      refine hg_iadd C d_Rf_valueAt_14 ?_
      refine hg_ti (show (nI (60 * s) : Int32) + nI k = nI (60 * s + k) from nI_add (60 * s) k) ?_
      refine hg_istore (lv' := [(6, .int (nI (60 * s + k))), (5, .int (nI k)), (1, .int (nI s)), (2, x2), (3, .int (nI t)), (4, .int (nI f)), (0, .ref r)]) C d_Rf_valueAt_15 (by decide) rfl ?_
      refine hg_aload_n C 6 d_Rf_valueAt_17 rfl rfl ?_
      refine f_Rf_60 C hR.1 rfl d_Rf_valueAt_18 ?_
      refine hg_iload C 0 d_Rf_valueAt_21 rfl ?_
      have b23 : 60 * s + k < 1200 := (by omega)
      refine hg_iald C 0 (hR.2.1 19 rfl) rfl (vp_in_nI (N := 1200) b23 (by omega)) d_Rf_valueAt_23 ?_
      refine hg_ti (congrArg (M 19) (nI_clamp (n := 60 * s + k) (by omega))) ?_
      refine hg_ti e19 ?_
      refine hg_iload_n C 4 d_Rf_valueAt_24 rfl rfl ?_
      refine hg_icmp_ne C 84 d_Rf_valueAt_25 (by decide) (fun c25 => ?_) (fun c25 => ?_)
      · have c25n : ¬ t0 = t := fun z => c25 (congrArg nI z)
        refine hg_aload_n C 6 d_Rf_valueAt_84 rfl rfl ?_
        refine f_Rf_51 C hR.1 rfl d_Rf_valueAt_85 ?_
        refine hg_bipush (v := 60) C d_Rf_valueAt_88 (by decide) ?_
        refine hg_iload_n C 2 d_Rf_valueAt_90 rfl rfl ?_
        refine hg_imul C d_Rf_valueAt_91 ?_
        refine hg_ti (show ((60 : Int32) : Int32) * nI s = nI (60 * s) from pk_mul 60 s) ?_
        refine hg_iload C 1 d_Rf_valueAt_92 rfl ?_
        refine hg_iadd C d_Rf_valueAt_94 ?_
        refine hg_ti (show (nI (60 * s) : Int32) + nI k = nI (60 * s + k) from nI_add (60 * s) k) ?_
        have b95 : 60 * s + k < 1200 := (by omega)
        refine hg_iald C 0 (hR.2.1 16 rfl) rfl (vp_in_nI (N := 1200) b95 (by omega)) d_Rf_valueAt_95 ?_
        refine hg_ti (congrArg (M 16) (nI_clamp (n := 60 * s + k) (by omega))) ?_
        refine hg_ti e16 ?_
        refine hg_istore (lv' := [(5, .int (nI (bf M (60 * s + k)))), (6, .int (nI (60 * s + k))), (1, .int (nI s)), (2, x2), (3, .int (nI t)), (4, .int (nI f)), (0, .ref r)]) C d_Rf_valueAt_96 (by decide) rfl ?_
        refine hg_goto C 3 d_Rf_valueAt_98 (by decide) ?_
        rw [sv_no (by omega) (fun z => c25n ((nI_eq (by omega) (by omega)).mp (e19.symm.trans z.1)))] at hv
        exact hg_lv (ks := [0, 2, 3, 4, 5, 6]) rfl (ih _ (by omega) (by omega) hv)
      · have c25n : t0 = t := (nI_eq (a := t0) (b := t) (by omega) (by omega)).mp c25
        refine hg_aload_n C 6 d_Rf_valueAt_28 rfl rfl ?_
        refine f_Rf_57 C hR.1 rfl d_Rf_valueAt_29 ?_
        refine hg_iload C 0 d_Rf_valueAt_32 rfl ?_
        have b34 : 60 * s + k < 1200 := (by omega)
        refine hg_iald C 0 (hR.2.1 18 rfl) rfl (vp_in_nI (N := 1200) b34 (by omega)) d_Rf_valueAt_34 ?_
        refine hg_ti (congrArg (M 18) (nI_clamp (n := 60 * s + k) (by omega))) ?_
        refine hg_iconst (v := 1) C d_Rf_valueAt_35 (by decide) ?_
        refine hg_icmp_eq C 61 d_Rf_valueAt_36 (by decide) (fun c36 => ?_) (fun c36 => ?_)
        · refine hg_aload_n C 6 d_Rf_valueAt_61 rfl rfl ?_
          refine f_Rf_57 C hR.1 rfl d_Rf_valueAt_62 ?_
          refine hg_iload C 0 d_Rf_valueAt_65 rfl ?_
          have b67 : 60 * s + k < 1200 := (by omega)
          refine hg_iald C 0 (hR.2.1 18 rfl) rfl (vp_in_nI (N := 1200) b67 (by omega)) d_Rf_valueAt_67 ?_
          refine hg_ti (congrArg (M 18) (nI_clamp (n := 60 * s + k) (by omega))) ?_
          refine hg_iconst (v := 1) C d_Rf_valueAt_68 (by decide) ?_
          refine hg_icmp_ne C 76 d_Rf_valueAt_69 (by decide) (fun c69 => ?_) (fun c69 => ?_)
          · refine hg_aload_n C 6 d_Rf_valueAt_76 rfl rfl ?_
            refine f_Rf_66 C hR.1 rfl d_Rf_valueAt_77 ?_
            refine hg_iload C 0 d_Rf_valueAt_80 rfl ?_
            have b82 : 60 * s + k < 1200 := (by omega)
            refine hg_iald C 0 (hR.2.1 21 rfl) rfl (vp_in_nI (N := 1200) b82 (by omega)) d_Rf_valueAt_82 ?_
            refine hg_ti (congrArg (M 21) (nI_clamp (n := 60 * s + k) (by omega))) ?_
            exact hg_iretN C hr rfl d_Rf_valueAt_83 (Nat.le_of_ble_eq_true rfl) (Nat.le_of_ble_eq_true rfl) (absurd c36 c69)
          · refine hg_iconst (v := 0) C d_Rf_valueAt_72 (by decide) ?_
            refine hg_goto C 83 d_Rf_valueAt_73 (by decide) ?_
            exact hg_iretN C hr rfl d_Rf_valueAt_83 (Nat.le_of_ble_eq_true rfl) (Nat.le_of_ble_eq_true rfl) (⟨by rw [← hv, sv_no (by omega) (fun z => z.2.elim (fun y => absurd y.1 (by omega)) (fun y => absurd (c36.symm.trans y.2.1) (by decide))), sv_fuel (Inv0.bf hI hs) n9 60 _ (by omega) (by omega) (by omega), show sv M s t (f + 1) 60 (bf M (60 * s + k)) = 0 from hZ s hs k (by omega) hk c36 t ht (by rw [e19, c25n]) f hf], rfl, trivial⟩)
        · refine hg_aload_n C 6 d_Rf_valueAt_39 rfl rfl ?_
          refine f_Rf_57 C hR.1 rfl d_Rf_valueAt_40 ?_
          refine hg_iload C 0 d_Rf_valueAt_43 rfl ?_
          have b45 : 60 * s + k < 1200 := (by omega)
          refine hg_iald C 0 (hR.2.1 18 rfl) rfl (vp_in_nI (N := 1200) b45 (by omega)) d_Rf_valueAt_45 ?_
          refine hg_ti (congrArg (M 18) (nI_clamp (n := 60 * s + k) (by omega))) ?_
          refine hg_if_ne C 84 d_Rf_valueAt_46 (by decide) (fun c46 => ?_) (fun c46 => ?_)
          · refine hg_aload_n C 6 d_Rf_valueAt_84 rfl rfl ?_
            refine f_Rf_51 C hR.1 rfl d_Rf_valueAt_85 ?_
            refine hg_bipush (v := 60) C d_Rf_valueAt_88 (by decide) ?_
            refine hg_iload_n C 2 d_Rf_valueAt_90 rfl rfl ?_
            refine hg_imul C d_Rf_valueAt_91 ?_
            refine hg_ti (show ((60 : Int32) : Int32) * nI s = nI (60 * s) from pk_mul 60 s) ?_
            refine hg_iload C 1 d_Rf_valueAt_92 rfl ?_
            refine hg_iadd C d_Rf_valueAt_94 ?_
            refine hg_ti (show (nI (60 * s) : Int32) + nI k = nI (60 * s + k) from nI_add (60 * s) k) ?_
            have b95 : 60 * s + k < 1200 := (by omega)
            refine hg_iald C 0 (hR.2.1 16 rfl) rfl (vp_in_nI (N := 1200) b95 (by omega)) d_Rf_valueAt_95 ?_
            refine hg_ti (congrArg (M 16) (nI_clamp (n := 60 * s + k) (by omega))) ?_
            refine hg_ti e16 ?_
            refine hg_istore (lv' := [(5, .int (nI (bf M (60 * s + k)))), (6, .int (nI (60 * s + k))), (1, .int (nI s)), (2, x2), (3, .int (nI t)), (4, .int (nI f)), (0, .ref r)]) C d_Rf_valueAt_96 (by decide) rfl ?_
            refine hg_goto C 3 d_Rf_valueAt_98 (by decide) ?_
            rw [sv_no (by omega) (fun z => z.2.elim (fun y => absurd y.1 (by omega)) (fun y => c46 y.2.1))] at hv
            exact hg_lv (ks := [0, 2, 3, 4, 5, 6]) rfl (ih _ (by omega) (by omega) hv)
          · refine hg_aload_n C 6 d_Rf_valueAt_49 rfl rfl ?_
            refine f_Rf_63 C hR.1 rfl d_Rf_valueAt_50 ?_
            refine hg_iload C 0 d_Rf_valueAt_53 rfl ?_
            have b55 : 60 * s + k < 1200 := (by omega)
            refine hg_iald C 0 (hR.2.1 20 rfl) rfl (vp_in_nI (N := 1200) b55 (by omega)) d_Rf_valueAt_55 ?_
            refine hg_ti (congrArg (M 20) (nI_clamp (n := 60 * s + k) (by omega))) ?_
            refine hg_ti e20 ?_
            refine hg_iload C 5 d_Rf_valueAt_56 rfl ?_
            refine hg_icmp_ne C 84 d_Rf_valueAt_58 (by decide) (fun c58 => ?_) (fun c58 => ?_)
            · have c58n : ¬ f0 = f := fun z => c58 (congrArg nI z)
              refine hg_aload_n C 6 d_Rf_valueAt_84 rfl rfl ?_
              refine f_Rf_51 C hR.1 rfl d_Rf_valueAt_85 ?_
              refine hg_bipush (v := 60) C d_Rf_valueAt_88 (by decide) ?_
              refine hg_iload_n C 2 d_Rf_valueAt_90 rfl rfl ?_
              refine hg_imul C d_Rf_valueAt_91 ?_
              refine hg_ti (show ((60 : Int32) : Int32) * nI s = nI (60 * s) from pk_mul 60 s) ?_
              refine hg_iload C 1 d_Rf_valueAt_92 rfl ?_
              refine hg_iadd C d_Rf_valueAt_94 ?_
              refine hg_ti (show (nI (60 * s) : Int32) + nI k = nI (60 * s + k) from nI_add (60 * s) k) ?_
              have b95 : 60 * s + k < 1200 := (by omega)
              refine hg_iald C 0 (hR.2.1 16 rfl) rfl (vp_in_nI (N := 1200) b95 (by omega)) d_Rf_valueAt_95 ?_
              refine hg_ti (congrArg (M 16) (nI_clamp (n := 60 * s + k) (by omega))) ?_
              refine hg_ti e16 ?_
              refine hg_istore (lv' := [(5, .int (nI (bf M (60 * s + k)))), (6, .int (nI (60 * s + k))), (1, .int (nI s)), (2, x2), (3, .int (nI t)), (4, .int (nI f)), (0, .ref r)]) C d_Rf_valueAt_96 (by decide) rfl ?_
              refine hg_goto C 3 d_Rf_valueAt_98 (by decide) ?_
              rw [sv_no (by omega) (fun z => z.2.elim (fun y => absurd y.1 (by omega)) (fun y => c58n ((nI_eq (by omega) (by omega)).mp (e20.symm.trans y.2.2))))] at hv
              exact hg_lv (ks := [0, 2, 3, 4, 5, 6]) rfl (ih _ (by omega) (by omega) hv)
            · have c58n : f0 = f := (nI_eq (a := f0) (b := f) (by omega) (by omega)).mp c58
              refine hg_aload_n C 6 d_Rf_valueAt_61 rfl rfl ?_
              refine f_Rf_57 C hR.1 rfl d_Rf_valueAt_62 ?_
              refine hg_iload C 0 d_Rf_valueAt_65 rfl ?_
              have b67 : 60 * s + k < 1200 := (by omega)
              refine hg_iald C 0 (hR.2.1 18 rfl) rfl (vp_in_nI (N := 1200) b67 (by omega)) d_Rf_valueAt_67 ?_
              refine hg_ti (congrArg (M 18) (nI_clamp (n := 60 * s + k) (by omega))) ?_
              refine hg_iconst (v := 1) C d_Rf_valueAt_68 (by decide) ?_
              refine hg_icmp_ne C 76 d_Rf_valueAt_69 (by decide) (fun c69 => ?_) (fun c69 => ?_)
              · refine hg_aload_n C 6 d_Rf_valueAt_76 rfl rfl ?_
                refine f_Rf_66 C hR.1 rfl d_Rf_valueAt_77 ?_
                refine hg_iload C 0 d_Rf_valueAt_80 rfl ?_
                have b82 : 60 * s + k < 1200 := (by omega)
                refine hg_iald C 0 (hR.2.1 21 rfl) rfl (vp_in_nI (N := 1200) b82 (by omega)) d_Rf_valueAt_82 ?_
                refine hg_ti (congrArg (M 21) (nI_clamp (n := 60 * s + k) (by omega))) ?_
                exact hg_iretN C hr rfl d_Rf_valueAt_83 (Nat.le_of_ble_eq_true rfl) (Nat.le_of_ble_eq_true rfl) (⟨by rw [← hv, sv_hit (by omega) ⟨by rw [e19, c25n], Or.inr ⟨by omega, c46, by rw [e20, c58n]; rfl⟩⟩, m_new, if_pos c46], rfl, trivial⟩)
              · refine hg_iconst (v := 0) C d_Rf_valueAt_72 (by decide) ?_
                refine hg_goto C 83 d_Rf_valueAt_73 (by decide) ?_
                exact hg_iretN C hr rfl d_Rf_valueAt_83 (Nat.le_of_ble_eq_true rfl) (Nat.le_of_ble_eq_true rfl) (absurd c69 c36)
set_option maxHeartbeats 4000000 in
set_option maxRecDepth 100000 in
theorem k_Rf_valueAt (l : Launch) (Γ : Gam) (h : Pic) (r : Nat) (aa : Nat → Nat) (M : Mem) (hR : rf_at Γ r aa M h) (hI : Inv0 M) (s k t : Nat) (hs : s < nS M) (hk : k < nm M s) (ht : t < 60) (f : Nat) (hf : f < 5) (hZ : I_zer M) : kN l Γ y_Rf_valueAt w_Rf_valueAt rm_Rf_valueAt [.ref r, .int (nI s), .int (nI k), .int (nI t), .int (nI f)] h (pv (.int (stv M s k t (f + 1))) h True) 0 0 := by
  refine hg_entryN (own := "ModelMergeModel") (cc := b_Rf_valueAt) (maxL := 7) (ret := (some .int)) (lv0 := [(0, .ref r), (1, .int (nI s)), (2, .int (nI k)), (3, .int (nI t)), (4, .int (nI f))]) (by decide) rfl rfl (Nat.le_of_ble_eq_true rfl) rfl ?_
  intro p9 e9 s9 m9 args below meth c9 A C hnm hr
  have hnm := (hI.2.1 s hs).2.2.1.2
  refine hg_iload_n C 2 d_Rf_valueAt_0 rfl rfl ?_
  refine hg_istore (lv' := [(5, .int (nI k)), (0, .ref r), (1, .int (nI s)), (2, .int (nI k)), (3, .int (nI t)), (4, .int (nI f))]) C d_Rf_valueAt_1 (by decide) rfl ?_
  exact hg_lv (ks := [0, 2, 3, 4, 5, 1]) rfl (lp_Rf_valueAt l Γ C hR hI hs ht hf hZ hr 61 k hk (by omega) (sv_fuel (Inv0.bf hI hs) _ _ _ (by omega) (by omega) hk))
abbrev rm_Rf_isHere : Room := { frames := 1, cells := 0, slots := 0, locals := 25 }
set_option maxHeartbeats 4000000 in
set_option maxRecDepth 100000 in
theorem k_Rf_isHere (l : Launch) (Γ : Gam) (h : Pic) (r : Nat) (aa : Nat → Nat) (M : Mem) (hR : rf_at Γ r aa M h) (hI : Inv0 M) (s t : Nat) (hs : s < nS M) (ht : t < 60) : kN l Γ y_Rf_isHere w_Rf_isHere rm_Rf_isHere [.ref r, .int (nI s), .int (nI t)] h (pv (.int (stv M s (sd M s) t 0)) h True) 0 0 := by
  refine hg_entryN (own := "ModelMergeModel") (cc := b_Rf_isHere) (maxL := 3) (ret := (some .boolean)) (lv0 := [(0, .ref r), (1, .int (nI s)), (2, .int (nI t))]) (by decide) rfl rfl (Nat.le_of_ble_eq_true rfl) rfl ?_
  intro p9 e9 s9 m9 args below meth c9 A C hnm hr
  obtain ⟨⟨⟨eT, hT⟩, ⟨eV, hV1, hV⟩, ⟨eS, hS⟩, ⟨eR, hRR⟩, ⟨eC, hC⟩⟩, hI2, -⟩ := id hI
  obtain ⟨⟨e11, hb⟩, ⟨e12, hsd⟩, ⟨e13, hnm⟩, hlf⟩ := hI2 s hs
  refine hg_aload_n C 0 d_Rf_isHere_0 rfl rfl ?_
  refine hg_iload_n C 1 d_Rf_isHere_1 rfl rfl ?_
  refine hg_aload_n C 0 d_Rf_isHere_2 rfl rfl ?_
  refine f_Rf_39 C hR.1 rfl d_Rf_isHere_3 ?_
  refine hg_iload_n C 1 d_Rf_isHere_6 rfl rfl ?_
  have b7 : s < 20 := (by omega)
  refine hg_iald C 0 (hR.2.1 12 rfl) rfl (vp_in_nI (N := 20) b7 (by omega)) d_Rf_isHere_7 ?_
  refine hg_ti (congrArg (M 12) (nI_clamp (n := s) (by omega))) ?_
  refine hg_ti e12 ?_
  refine hg_iload_n C 2 d_Rf_isHere_8 rfl rfl ?_
  refine hg_VNv (q := ("ModelMergeModel", T_Rf, 31)) C (k_Rf_isAt l Γ _ r aa M hR hI s (sd M s) t (by omega) (by omega) (by omega)) (cw_Rf_93 C.2.2.2.2.1 rfl rfl ⟨Nat.le_of_ble_eq_true rfl, Nat.le_of_ble_eq_true rfl⟩) hR.1 rfl rfl rfl (Nat.le_of_ble_eq_true rfl) d_Rf_isHere_9 ⟨Nat.le_of_ble_eq_true rfl, Nat.le_of_ble_eq_true rfl⟩ (fun _ => ?_)
  exact hg_iretN C hr (nar_bool (stv_bool hI hs hsd ht)) d_Rf_isHere_12 (Nat.le_of_ble_eq_true rfl) (Nat.le_of_ble_eq_true rfl) (⟨rfl, rfl, trivial⟩)
abbrev rm_Rf_here1 : Room := { frames := 1, cells := 0, slots := 0, locals := 26 }
set_option maxHeartbeats 4000000 in
set_option maxRecDepth 100000 in
theorem k_Rf_here1 (l : Launch) (Γ : Gam) (h : Pic) (r : Nat) (aa : Nat → Nat) (M : Mem) (hR : rf_at Γ r aa M h) (hI : Inv0 M) (s t : Nat) (hs : s < nS M) (ht : t < 60) (f : Nat) (hf : f < 5) (hZ : I_zer M) : kN l Γ y_Rf_here1 w_Rf_here1 rm_Rf_here1 [.ref r, .int (nI s), .int (nI t), .int (nI f)] h (pv (.int (stv M s (sd M s) t (f + 1))) h True) 0 0 := by
  refine hg_entryN (own := "ModelMergeModel") (cc := b_Rf_here1) (maxL := 4) (ret := (some .int)) (lv0 := [(0, .ref r), (1, .int (nI s)), (2, .int (nI t)), (3, .int (nI f))]) (by decide) rfl rfl (Nat.le_of_ble_eq_true rfl) rfl ?_
  intro p9 e9 s9 m9 args below meth c9 A C hnm hr
  obtain ⟨⟨⟨eT, hT⟩, ⟨eV, hV1, hV⟩, ⟨eS, hS⟩, ⟨eR, hRR⟩, ⟨eC, hC⟩⟩, hI2, -⟩ := id hI
  obtain ⟨⟨e11, hb⟩, ⟨e12, hsd⟩, ⟨e13, hnm⟩, hlf⟩ := hI2 s hs
  refine hg_aload_n C 0 d_Rf_here1_0 rfl rfl ?_
  refine hg_iload_n C 1 d_Rf_here1_1 rfl rfl ?_
  refine hg_aload_n C 0 d_Rf_here1_2 rfl rfl ?_
  refine f_Rf_39 C hR.1 rfl d_Rf_here1_3 ?_
  refine hg_iload_n C 1 d_Rf_here1_6 rfl rfl ?_
  have b7 : s < 20 := (by omega)
  refine hg_iald C 0 (hR.2.1 12 rfl) rfl (vp_in_nI (N := 20) b7 (by omega)) d_Rf_here1_7 ?_
  refine hg_ti (congrArg (M 12) (nI_clamp (n := s) (by omega))) ?_
  refine hg_ti e12 ?_
  refine hg_iload_n C 2 d_Rf_here1_8 rfl rfl ?_
  refine hg_iload_n C 3 d_Rf_here1_9 rfl rfl ?_
  refine hg_VNv (q := ("ModelMergeModel", T_Rf, 31)) C (k_Rf_valueAt l Γ _ r aa M hR hI s (sd M s) t (by omega) (by omega) (by omega) f (by omega) hZ) (cw_Rf_97 C.2.2.2.2.1 rfl rfl ⟨Nat.le_of_ble_eq_true rfl, Nat.le_of_ble_eq_true rfl⟩) hR.1 rfl rfl rfl (Nat.le_of_ble_eq_true rfl) d_Rf_here1_10 ⟨Nat.le_of_ble_eq_true rfl, Nat.le_of_ble_eq_true rfl⟩ (fun _ => ?_)
  exact hg_iretN C hr rfl d_Rf_here1_13 (Nat.le_of_ble_eq_true rfl) (Nat.le_of_ble_eq_true rfl) (⟨rfl, rfl, trivial⟩)
abbrev rm_Rf_isOpen : Room := { frames := 1, cells := 0, slots := 0, locals := 21 }
set_option maxHeartbeats 4000000 in
set_option maxRecDepth 100000 in
theorem k_Rf_isOpen (l : Launch) (Γ : Gam) (h : Pic) (r : Nat) (aa : Nat → Nat) (M : Mem) (hR : rf_at Γ r aa M h) (hI : Inv0 M) (x : Int32) : kN l Γ y_Rf_isOpen w_Rf_isOpen rm_Rf_isOpen [.ref r, .int x] h (pb h (inr x (M 9 0) ∧ M 14 x.toNatClampNeg = 0)) 0 0 := by
  refine hg_entryN (own := "ModelMergeModel") (cc := b_Rf_isOpen) (maxL := 2) (ret := (some .boolean)) (lv0 := [(0, .ref r), (1, .int x)]) (by decide) rfl rfl (Nat.le_of_ble_eq_true rfl) rfl ?_
  intro p9 e9 s9 m9 args below meth c9 A C hnm hr
  obtain ⟨⟨⟨eT, hT⟩, ⟨eV, hV1, hV⟩, ⟨eS, hS⟩, ⟨eR, hRR⟩, ⟨eC, hC⟩⟩, hI2, -⟩ := id hI
  refine hg_iload_n C 1 d_Rf_isOpen_0 rfl rfl ?_
  refine hg_aload_n C 0 d_Rf_isOpen_1 rfl rfl ?_
  refine f_Rf_105 C hR.1 rfl d_Rf_isOpen_2 ?_
  refine hg_ti eS ?_
  refine hg_SNb C (k_Rf_isIn l Γ _ x (nI (nS M))) (cw_Rf_101 C.2.2.2.2.1 rfl rfl ⟨Nat.le_of_ble_eq_true rfl, Nat.le_of_ble_eq_true rfl⟩) rfl rfl (Nat.le_of_ble_eq_true rfl) d_Rf_isOpen_5 ⟨Nat.le_of_ble_eq_true rfl, Nat.le_of_ble_eq_true rfl⟩ (fun z1 => ?_) (fun z1 => ?_)
  · have hin : inr x (M 9 0) := eS ▸ z1
    obtain ⟨s, hs, rfl⟩ := inr_nat z1 (by omega)
    refine hg_if_eq C 24 d_Rf_isOpen_8 (by decide) (fun z => absurd z (by decide)) (fun _ => ?_)
    refine hg_aload_n C 0 d_Rf_isOpen_11 rfl rfl ?_
    refine f_Rf_45 C hR.1 rfl d_Rf_isOpen_12 ?_
    refine hg_iload_n C 1 d_Rf_isOpen_15 rfl rfl ?_
    have b16 : s < 20 := (by omega)
    refine hg_iald C 0 (hR.2.1 14 rfl) rfl (vp_in_nI (N := 20) b16 (by omega)) d_Rf_isOpen_16 ?_
    refine hg_ti (congrArg (M 14) (nI_clamp (n := s) (by omega))) ?_
    refine hg_if_ne C 24 d_Rf_isOpen_17 (by decide) (fun c17 => ?_) (fun c17 => ?_)
    · refine hg_iconst (v := 0) C d_Rf_isOpen_24 (by decide) ?_
      exact hg_iretN C hr rfl d_Rf_isOpen_25 (Nat.le_of_ble_eq_true rfl) (Nat.le_of_ble_eq_true rfl) (Or.inr ⟨rfl, rfl, fun z => c17 (by have z2 := z.2; rw [nI_clamp (by omega)] at z2; exact z2)⟩)
    · refine hg_iconst (v := 1) C d_Rf_isOpen_20 (by decide) ?_
      refine hg_goto C 25 d_Rf_isOpen_21 (by decide) ?_
      exact hg_iretN C hr rfl d_Rf_isOpen_25 (Nat.le_of_ble_eq_true rfl) (Nat.le_of_ble_eq_true rfl) (Or.inl ⟨rfl, rfl, ⟨hin, by rw [nI_clamp (by omega)]; exact c17⟩⟩)
  · refine hg_if_eq C 24 d_Rf_isOpen_8 (by decide) (fun _ => ?_) (fun z => absurd (by decide) z)
    refine hg_iconst (v := 0) C d_Rf_isOpen_24 (by decide) ?_
    exact hg_iretN C hr rfl d_Rf_isOpen_25 (Nat.le_of_ble_eq_true rfl) (Nat.le_of_ble_eq_true rfl) (Or.inr ⟨rfl, rfl, fun z => z1 (eS ▸ z.1)⟩)
abbrev rm_Rf_mine : Room := { frames := 0, cells := 0, slots := 0, locals := 0 }
set_option maxHeartbeats 4000000 in
set_option maxRecDepth 100000 in
theorem k_Rf_mine (l : Launch) (Γ : Gam) (h : Pic) (r : Nat) (aa : Nat → Nat) (M : Mem) (hR : rf_at Γ r aa M h) (hI : Inv0 M) (t : Nat) (ht : t < 60) : kN l Γ y_Rf_mine w_Rf_mine rm_Rf_mine [.ref r, .int (nI t)] h (pv (.int (nI (60 * (nV M - 1) + t))) h True) 0 0 := by
  refine hg_entryN (own := "ModelMergeModel") (cc := b_Rf_mine) (maxL := 2) (ret := (some .int)) (lv0 := [(0, .ref r), (1, .int (nI t))]) (by decide) rfl rfl (Nat.le_of_ble_eq_true rfl) rfl ?_
  intro p9 e9 s9 m9 args below meth c9 A C hnm hr
  obtain ⟨⟨⟨eT, hT⟩, ⟨eV, hV1, hV⟩, -⟩, -⟩ := id hI
  refine hg_bipush (v := 60) C d_Rf_mine_0 (by decide) ?_
  refine hg_aload_n C 0 d_Rf_mine_2 rfl rfl ?_
  refine f_Rf_16 C hR.1 rfl d_Rf_mine_3 ?_
  refine hg_ti eV ?_
  refine hg_iconst (v := 1) C d_Rf_mine_6 (by decide) ?_
  refine hg_isub C d_Rf_mine_7 ?_
  refine hg_ti (show (nI (nV M) : Int32) - (1 : Int32) = nI (nV M - 1) from pk_sub (a := (nV M)) (b := 1) (by omega)) ?_
  refine hg_imul C d_Rf_mine_8 ?_
  refine hg_ti (show ((60 : Int32) : Int32) * nI (nV M - 1) = nI (60 * (nV M - 1)) from pk_mul 60 (nV M - 1)) ?_
  refine hg_iload_n C 1 d_Rf_mine_9 rfl rfl ?_
  refine hg_iadd C d_Rf_mine_10 ?_
  refine hg_ti (show (nI (60 * (nV M - 1)) : Int32) + nI t = nI (60 * (nV M - 1) + t) from nI_add (60 * (nV M - 1)) t) ?_
  exact hg_iretN C hr rfl d_Rf_mine_11 (Nat.le_of_ble_eq_true rfl) (Nat.le_of_ble_eq_true rfl) (⟨rfl, rfl, trivial⟩)
