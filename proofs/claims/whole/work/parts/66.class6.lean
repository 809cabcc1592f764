/-! THE CLASS: lock, rule, giveUp, conflict -/
theorem hfl1 {M : Mem} {k i : Nat} {v : Int32} {L : List Nat} (h : k ∉ L) {j : Nat} (hj : j ∈ L) : mset M k i v j = M j := mset_n (fun z => h (z ▸ hj))
theorem hfl2 {M : Mem} {k i k2 i2 : Nat} {v v2 : Int32} {L : List Nat} (h : k ∉ L) (h2 : k2 ∉ L) (j : Nat) (hj : j ∈ L) : mset (mset M k2 i2 v2) k i v j = M j := (hfl1 h hj).trans (hfl1 h2 hj)
theorem va_up_new {a a' : Nat → Nat} {n q : Nat} (h1 : a' n = q) (h2 : ∀ j, j < n → a' j = a j) : va_up (fun j => if j < n then some (a j) else none) n (some q) = fun j => if j < n + 1 then some (a' j) else none := funext fun j => by
  by_cases hj : j = n
  · rw [hj, va_up_self, if_pos (by omega), h1]
  · rw [va_up_ne _ _ hj]
    by_cases hl : j < n
    · rw [if_pos hl, if_pos (by omega), h2 j hl]
    · rw [if_neg hl, if_neg (by omega)]
section MU
variable {Γ : Gam} {ad : Nat → Nat → Nat} {M : Mem} {h h1 h2 h3 h4 : Pic}
theorem cr_lock (hC : cr_at Γ ad M h) {t : Nat} {p : Int32} (e1 : h1 = hp_up h (ad 2 0) (.inl (Γ.2.1 0, 60, .inl (upd (M 3) t p)))) : cr_at Γ ad (mset (mset M 0 0 0) 3 t p) h1 := by
  rw [e1]
  have hf : ∀ j, j ∈ [5, 6, 8, 11, 12, 16, 17, 18, 19, 20, 21] → mset (mset M 0 0 0) 3 t p j = M j := hfl2 (by decide) (by decide)
  refine cw_c (cw_w hC (liv0 (k := 2) (by omega)) rfl) (fun k i hl => hl) (liv_all (le9 rfl rfl rfl rfl rfl rfl rfl rfl rfl rfl) ?_ ?_ ?_ ?_)
  · intro s hs
    exact ⟨(c_up_k (by decide)).trans (cc10 rfl rfl rfl rfl rfl rfl rfl rfl rfl), (c_up_k (by decide)).trans (cc_hi hf (by omega) (by omega)), (c_up_k (by decide)).trans (cc_hi hf (by omega) (by omega))⟩
  · intro s j hs hj
    exact (c_up_k (by decide)).trans (cc_hi hf (by omega) (by omega))
  · intro v hv
    exact ⟨(c_up_k (by decide)).trans (cc_hi hf (by omega) (by omega)), (c_up_k (by decide)).trans (cc_hi hf (by omega) (by omega)), (c_up_k (by decide)).trans (cc_hi hf (by omega) (by omega)), (c_up_k (by decide)).trans (cc_hi hf (by omega) (by omega))⟩
  · intro r hr
    exact (c_up_k (by decide)).trans (cc18 rfl rfl rfl)
theorem cr_giveUp (hC : cr_at Γ ad M h) {s : Nat} (hs : s < nS M) (e1 : h1 = hp_up h (ad 10 s) (.inr (3, [.int (nI s), .int (M 10 s), .ref (ad 14 (bs M s)), .ref (ad 11 s), .ref (ad 13 (60 * s + sd M s)), .int (M 13 s), .int 0, .int (M 15 s)]))) (e2 : h2 = hp_up h1 (ad 0 0) (.inr (6, [.ref (ad 1 0), .ref (ad 2 0), .int (M 1 0), .ref (ad 3 0), .int (M 9 0), .ref (ad 4 0), .int (M 4 0), .ref (ad 14 (nV M - 1)), .ref (ad 5 0), .int (M 22 0), .ref (ad 6 0), .null]))) : cr_at Γ ad (mset (mset (mset M 0 0 0) 14 s 0) 26 0 (-1)) h2 := by
  rw [e2, e1]
  have hf : ∀ j, j ∈ [5, 6, 8, 11, 12, 16, 17, 18, 19, 20, 21] → mset (mset (mset M 0 0 0) 14 s 0) 26 0 (-1) j = M j := fun j hj => (hfl2 (by decide) (by decide) j hj).trans (hfl1 (by decide) hj)
  refine cw_c (cw_w (cw_w hC (livS (k := 10) (by omega) (by omega) hs) rfl) (liv0 (k := 0) (by omega)) rfl) (fun k i hl => hl) (liv_all (le9 ?_ rfl rfl rfl rfl rfl rfl rfl rfl rfl) ?_ ?_ ?_ ?_)
  · rw [c_up_s, cc, show cr_pen ad (mset (mset (mset M 0 0 0) 14 s 0) 26 0 (-1)) = .null from if_pos (show (-1 : Int32) < 0 by decide)]
    rfl
  · intro i hi
    refine ⟨(c_up_k (by decide)).trans ?_, (c_up_k (by decide)).trans <| (c_up_k (by decide)).trans (cc_hi hf (by omega) (by omega)), (c_up_k (by decide)).trans <| (c_up_k (by decide)).trans (cc_hi hf (by omega) (by omega))⟩
    by_cases his : i = s
    · subst his
      rw [c_up_s, cc]
      have e : mset (mset (mset M 0 0 0) 14 i 0) 26 0 (-1) 14 i = 0 := pk_us
      rw [e]
      rfl
    · refine (c_up_i his).trans (cc10 rfl rfl rfl rfl ?_ rfl rfl rfl rfl)
      exact pk_un his
  · intro i j hi hj
    exact (c_up_k (by decide)).trans <| (c_up_k (by decide)).trans (cc_hi hf (by omega) (by omega))
  · intro v hv
    exact ⟨(c_up_k (by decide)).trans <| (c_up_k (by decide)).trans (cc_hi hf (by omega) (by omega)), (c_up_k (by decide)).trans <| (c_up_k (by decide)).trans (cc_hi hf (by omega) (by omega)), (c_up_k (by decide)).trans <| (c_up_k (by decide)).trans (cc_hi hf (by omega) (by omega)), (c_up_k (by decide)).trans <| (c_up_k (by decide)).trans (cc_hi hf (by omega) (by omega))⟩
  · intro r hr
    exact (c_up_k (by decide)).trans <| (c_up_k (by decide)).trans (cc18 rfl rfl rfl)
theorem cr_rule (hC : cr_at Γ ad M h) (hn : nR M < 10) {q : Nat} {k f g : Int32} (hq : h q = none) (e1 : h1 = hp_up h q (.inr (2, [.int 0, .int 0, .int 0]))) (e2 : h2 = hp_up h1 q (.inr (2, [.int k, .int f, .int g]))) (e3 : h3 = hp_up h2 (ad 5 0) (.inl (Γ.2.1 5, 10, .inr (.inr (.inr (.inr (va_up (fun j => if j < nR M then some (ad 18 j) else none) (nI (nR M)).toNatClampNeg (some q)))))))) (e4 : h4 = hp_up h3 (ad 0 0) (.inr (6, [.ref (ad 1 0), .ref (ad 2 0), .int (M 1 0), .ref (ad 3 0), .int (M 9 0), .ref (ad 4 0), .int (M 4 0), .ref (ad 14 (nV M - 1)), .ref (ad 5 0), .int (nI (nR M + 1)), .ref (ad 6 0), cr_pen ad M]))) : cr_at Γ (a_up ad 18 (nR M) q) (mset (mset (mset (mset (mset M 0 0 0) 23 (nR M) k) 24 (nR M) f) 25 (nR M) g) 22 0 (nI (nR M + 1))) h4 := by
  have hh : ¬ liv M 18 (nR M) := fun z => by
    rcases z with z | z | z | z | z
    · omega
    · omega
    · omega
    · omega
    · omega
  have hn' : nR (mset (mset (mset (mset (mset M 0 0 0) 23 (nR M) k) 24 (nR M) f) 25 (nR M) g) 22 0 (nI (nR M + 1))) = nR M + 1 := nI_clamp (n := nR M + 1) (by omega)
  rw [e4, e3, e2, e1, hp_up_up, nI_clamp (n := nR M) (by omega)]
  obtain ⟨M', eM⟩ : ∃ z, z = mset (mset (mset (mset (mset M 0 0 0) 23 (nR M) k) 24 (nR M) f) 25 (nR M) g) 22 0 (nI (nR M + 1)) := ⟨_, rfl⟩
  have hf : ∀ j, j ∈ [1, 2, 3, 4, 5, 6, 8, 9, 10, 11, 12, 13, 14, 15, 16, 17, 18, 19, 20, 21, 26, 27, 28, 29, 30] → M' j = M j := fun j hj => by rw [eM]; exact (hfl2 (by decide) (by decide) j hj).trans ((hfl2 (by decide) (by decide) j hj).trans (hfl1 (by decide) hj))
  have h18 : ∀ r, r < nR M → M' 23 r = M 23 r ∧ M' 24 r = M 24 r ∧ M' 25 r = M 25 r := fun r hr => by
    rw [eM]
    exact ⟨pk_un (Nat.ne_of_lt hr), pk_un (Nat.ne_of_lt hr), pk_un (Nat.ne_of_lt hr)⟩
  have h18' : M' 23 (nR M) = k ∧ M' 24 (nR M) = f ∧ M' 25 (nR M) = g := by
    rw [eM]
    exact ⟨pk_us, pk_us, pk_us⟩
  have h22 : M' 22 0 = nI (nR M + 1) := by rw [eM]; rfl
  rw [← eM] at hn' ⊢
  have eS : nS M' = nS M := by unfold nS; rw [hf 9 (by decide)]
  have eV : nV M' = nV M := by unfold nV; rw [hf 4 (by decide)]
  have em : ∀ s, nm M' s = nm M s := fun s => by unfold nm; rw [hf 13 (by decide)]
  have hf2 : ∀ j, j ∈ [5, 6, 8, 11, 12, 16, 17, 18, 19, 20, 21] → M' j = M j := fun j hj => hf j (List.mem_of_elem_eq_true (by revert j; decide))
  have hl : ∀ k i, liv M' k i → l_up (liv M) 18 (nR M) k i := liv_all (fun k hk => Or.inl (liv0 hk)) (fun s hs => by rw [eS] at hs; exact ⟨Or.inl (livS (by omega) (by omega) hs), Or.inl (livS (by omega) (by omega) hs), Or.inl (livS (by omega) (by omega) hs)⟩) (fun s j hs hj => by rw [eS] at hs; rw [em] at hj; exact Or.inl (livM hs hj)) (fun v hv => by rw [eV] at hv; exact ⟨Or.inl (livV (by omega) (by omega) hv), Or.inl (livV (by omega) (by omega) hv), Or.inl (livV (by omega) (by omega) hv), Or.inl (livV (by omega) (by omega) hv)⟩) (fun r hr => by
    rw [hn'] at hr
    rcases Nat.lt_succ_iff_lt_or_eq.mp hr with z | z
    · exact Or.inl (livR z)
    · exact Or.inr ⟨rfl, z⟩)
  have hx : ∀ k i, 11 ≤ k → k ≤ 17 → cc Γ ad M k i = cc Γ (a_up ad 18 (nR M) q) M k i := fun k i hk hk2 => by
    obtain ⟨d, rfl⟩ : ∃ d, k = d + 11 := ⟨k - 11, by omega⟩
    match d with
    | 0 => rfl
    | 1 => rfl
    | 2 => rfl
    | 3 => rfl
    | 4 => rfl
    | 5 => rfl
    | 6 => rfl
    | d + 7 => exact absurd hk2 (by omega)
  refine cw_c (cw_w (cw_w (cw_n hC hh hq) (Or.inl (liv0 (k := 5) (by omega))) (a_up_k (by decide))) (Or.inl (liv0 (k := 0) (by omega))) (a_up_k (by decide))) hl (liv_all (le9 ?_ ?_ ?_ ?_ ?_ ?_ ?_ ?_ ?_ ?_) ?_ ?_ ?_ ?_)
  · rw [c_up_s, cc, cr_pen, cr_pen, hf 1 (by decide), hf 9 (by decide), hf 4 (by decide), h22, eV, hf 26 (by decide)]
    rfl
  · rw [c_up_k (by decide), c_up_k (by decide), c_up_k (by decide), cc, cc, hf 2 (by decide)]
  · rw [c_up_k (by decide), c_up_k (by decide), c_up_k (by decide), cc, cc, hf 3 (by decide)]
  · rw [c_up_k (by decide), c_up_k (by decide), c_up_k (by decide), cc, cc, eS]
    rfl
  · rw [c_up_k (by decide), c_up_k (by decide), c_up_k (by decide), cc, cc, eV]
    rfl
  · rw [c_up_k (by decide), c_up_s, cc, hn', va_up_new (a := ad 18) (a' := a_up ad 18 (nR M) q 18) a_up_s (fun j hj => a_up_i (Nat.ne_of_lt hj))]
  · rw [c_up_k (by decide), c_up_k (by decide), c_up_k (by decide), cc, cc, hf 27 (by decide)]
    rfl
  · rw [c_up_k (by decide), c_up_k (by decide), c_up_k (by decide), cc, cc, hf 28 (by decide)]
  · rw [c_up_k (by decide), c_up_k (by decide), c_up_k (by decide), cc, cc, hf 29 (by decide)]
  · rw [c_up_k (by decide), c_up_k (by decide), c_up_k (by decide), cc, cc, hf 30 (by decide)]
  · intro i hi
    exact ⟨(c_up_k (by decide)).trans <| (c_up_k (by decide)).trans <| (c_up_k (by decide)).trans (cc10 (by rw [hf 10 (by decide)]) (by rw [hf 11 (by decide)]) (by rw [hf 12 (by decide)]) (by rw [hf 13 (by decide)]) (by rw [hf 14 (by decide)]) (by rw [hf 15 (by decide)]) rfl rfl rfl), (c_up_k (by decide)).trans <| (c_up_k (by decide)).trans <| (c_up_k (by decide)).trans <| (hx _ _ (by omega) (by omega)).trans (cc_hi hf2 (by omega) (by omega)), (c_up_k (by decide)).trans <| (c_up_k (by decide)).trans <| (c_up_k (by decide)).trans <| (hx _ _ (by omega) (by omega)).trans (cc_hi hf2 (by omega) (by omega))⟩
  · intro i j hi hj
    exact (c_up_k (by decide)).trans <| (c_up_k (by decide)).trans <| (c_up_k (by decide)).trans <| (hx _ _ (by omega) (by omega)).trans (cc_hi hf2 (by omega) (by omega))
  · intro v hv
    exact ⟨(c_up_k (by decide)).trans <| (c_up_k (by decide)).trans <| (c_up_k (by decide)).trans <| (hx _ _ (by omega) (by omega)).trans (cc_hi hf2 (by omega) (by omega)), (c_up_k (by decide)).trans <| (c_up_k (by decide)).trans <| (c_up_k (by decide)).trans <| (hx _ _ (by omega) (by omega)).trans (cc_hi hf2 (by omega) (by omega)), (c_up_k (by decide)).trans <| (c_up_k (by decide)).trans <| (c_up_k (by decide)).trans <| (hx _ _ (by omega) (by omega)).trans (cc_hi hf2 (by omega) (by omega)), (c_up_k (by decide)).trans <| (c_up_k (by decide)).trans <| (c_up_k (by decide)).trans <| (hx _ _ (by omega) (by omega)).trans (cc_hi hf2 (by omega) (by omega))⟩
  · intro r hr
    rw [hn'] at hr
    rw [c_up_k (by decide), c_up_k (by decide)]
    rcases Nat.lt_succ_iff_lt_or_eq.mp hr with z | z
    · rw [c_up_i (Nat.ne_of_lt z)]
      exact cc18 (h18 r z).1 (h18 r z).2.1 (h18 r z).2.2
    · rw [z, c_up_s, cc, h18'.1, h18'.2.1, h18'.2.2]
      all_goals (intro z; cases z)
end MU
abbrev rm_MM_lock : Room := { frames := 7, cells := 2, slots := 12, locals := 111 }
set_option maxHeartbeats 4000000 in
set_option maxRecDepth 100000 in
theorem k_MM_lock (l : Launch) (hl9 : l.stackTraces = false) (Γ : Gam) (h : Pic) (ad : Nat → Nat → Nat) (M : Mem) (hC : cr_at Γ ad M h) (hI : Inv0 M)  (t0 pq : Int32) : kM l Γ y_MM_lock w_MM_lock rm_MM_lock [.ref (ad 0 0), .int t0, .int pq] h (pubQ Γ ad (sp_lock M t0 pq)) (pubX Γ ad (sp_lock M t0 pq)) 2 12 := by
  refine hg_entry (own := "ModelMerge") (cc := b_MM_lock) (maxL := 4) (ret := (some .int)) (lv0 := [(0, .ref (ad 0 0)), (1, .int t0), (2, .int pq)]) (by decide) rfl rfl (Nat.le_of_ble_eq_true rfl) rfl ?_
  intro p e s m args below meth c A C hne hr
  have kx : h (ad 0 0) = some (.inr (6, [.ref (ad 1 0), .ref (ad 2 0), .int (M 1 0), .ref (ad 3 0), .int (M 9 0), .ref (ad 4 0), .int (M 4 0), .ref (ad 14 (nV M - 1)), .ref (ad 5 0), .int (M 22 0), .ref (ad 6 0), cr_pen ad M])) := hC.1 0 0 (liv0 (by omega))
  have kA1 : h (ad 1 0) = some (.inl ((Γ.2.1 0), 60, .inl (M 2))) := hC.1 1 0 (liv0 (by omega))
  have kA2 : h (ad 2 0) = some (.inl ((Γ.2.1 0), 60, .inl (M 3))) := hC.1 2 0 (liv0 (by omega))
  have kA3 : h (ad 3 0) = some (.inl ((Γ.2.1 3), 20, .inr (.inr (.inr (.inr (fun j => if j < nS M then some (ad 10 j) else none)))))) := hC.1 3 0 (liv0 (by omega))
  have kA4 : h (ad 4 0) = some (.inl ((Γ.2.1 4), 40, .inr (.inr (.inr (.inr (fun j => if j < nV M then some (ad 14 j) else none)))))) := hC.1 4 0 (liv0 (by omega))
  have kA5 : h (ad 5 0) = some (.inl ((Γ.2.1 5), 10, .inr (.inr (.inr (.inr (fun j => if j < nR M then some (ad 18 j) else none)))))) := hC.1 5 0 (liv0 (by omega))
  have kA6 : h (ad 6 0) = some (.inr (0, [.ref (ad 7 0), .ref (ad 8 0), .ref (ad 9 0), .int (M 27 0)])) := hC.1 6 0 (liv0 (by omega))
  have kA7 : h (ad 7 0) = some (.inl ((Γ.2.1 0), 300, .inl (M 28))) := hC.1 7 0 (liv0 (by omega))
  have kA8 : h (ad 8 0) = some (.inl ((Γ.2.1 0), 300, .inl (M 29))) := hC.1 8 0 (liv0 (by omega))
  have kA9 : h (ad 9 0) = some (.inl ((Γ.2.1 0), 300, .inl (M 30))) := hC.1 9 0 (liv0 (by omega))
  obtain ⟨⟨⟨eT, hT⟩, ⟨eV, hV1, hV⟩, ⟨eS, hS⟩, ⟨eR, hRR⟩, ⟨eC, hCn⟩⟩, hI2, hI3, hI4, hI5, hI6, hI7, hI8, -, hI10, hI11⟩ := id hI
  refine hg_aload_n C 0 d_MM_lock_0 rfl rfl ?_
  refine hg_iload_n C 1 d_MM_lock_1 rfl rfl ?_
  refine hg_Vn (q := ("ModelMerge", T_MM, 12)) C (k_MM_checkThing l hl9 Γ _ ad M hC hI t0) (cw_MM_113 C.2.2.2.2.1 rfl rfl ⟨Nat.le_of_ble_eq_true rfl, Nat.le_of_ble_eq_true rfl⟩) kx rfl rfl rfl (Nat.le_of_ble_eq_true rfl) d_MM_lock_2 ⟨Nat.le_of_ble_eq_true rfl, Nat.le_of_ble_eq_true rfl⟩ (fun ct2 => ?_) (fun ct2 => hg_out C hne (Nat.le_of_ble_eq_true rfl) (Nat.le_of_ble_eq_true rfl) (⟨Or.inl ⟨rfl, by rw [sp_lock, gd1 (fun z => ct2 z.1)]⟩, by rw [sp_lock, gd1 (fun z => ct2 z.1)]; exact cr_code 1 hC⟩))
  obtain ⟨t, ht, rfl⟩ := inr_nat (n := nT M) (id ct2) (by omega)
  refine hg_iload_n C 2 d_MM_lock_5 rfl rfl ?_
  refine hg_iconst (v := (-1)) C d_MM_lock_6 (by decide) ?_
  refine hg_icmp_eq C 16 d_MM_lock_7 (by decide) (fun c7 => ?_) (fun c7 => ?_)
  · refine hg_aload_n C 0 d_MM_lock_16 rfl rfl ?_
    refine hg_iload_n C 1 d_MM_lock_17 rfl rfl ?_
    refine hg_VNv (q := ("ModelMerge", T_MM, 12)) C (k_MM_lockerOf l Γ _ ad M hC hI (nI t)) (cw_MM_117 C.2.2.2.2.1 rfl rfl ⟨Nat.le_of_ble_eq_true rfl, Nat.le_of_ble_eq_true rfl⟩) kx rfl rfl rfl (Nat.le_of_ble_eq_true rfl) d_MM_lock_18 ⟨Nat.le_of_ble_eq_true rfl, Nat.le_of_ble_eq_true rfl⟩ (fun _ => ?_)
    refine hg_ti (show k_of M 3 (nI t) = M 3 t by rw [k_of, if_pos (inr_of (by omega) (by omega)), nI_clamp (by omega)]) ?_
    refine hg_istore_n (lv' := [(3, .int (M 3 t)), (0, .ref (ad 0 0)), (1, .int (nI t)), (2, .int pq)]) C d_MM_lock_21 rfl (by decide) rfl ?_
    refine hg_aload_n C 1 d_MM_lock_22 rfl rfl ?_
    refine f_MM_13 C kx rfl d_MM_lock_23 ?_
    refine hg_iload_n C 2 d_MM_lock_26 rfl rfl ?_
    refine hg_iload_n C 3 d_MM_lock_27 rfl rfl ?_
    refine hg_iast C 0 kA2 rfl (vp_in_nI (N := 60) (show t < 60 by omega) (by omega)) d_MM_lock_28 ?_
    obtain ⟨h1, eh1⟩ : ∃ z, z = hp_up h (ad 2 0) (.inl ((Γ.2.1 0), 60, .inl (upd (M 3) ((nI t).toNatClampNeg) pq))) := ⟨_, rfl⟩
    refine hg_eq eh1.symm ?_
    have k2 : h1 (ad 0 0) = some (.inr (6, [.ref (ad 1 0), .ref (ad 2 0), .int (M 1 0), .ref (ad 3 0), .int (M 9 0), .ref (ad 4 0), .int (M 4 0), .ref (ad 14 (nV M - 1)), .ref (ad 5 0), .int (M 22 0), .ref (ad 6 0), cr_pen ad M])) := by rw [eh1]; exact hp_up_g kx (fun z => absurd (hC.2 0 0 2 0 (liv0 (by omega)) (liv0 (by omega)) z).1 (by decide))
    have k3 : h1 (ad 1 0) = some (.inl ((Γ.2.1 0), 60, .inl (M 2))) := by rw [eh1]; exact hp_up_g kA1 (fun z => absurd (hC.2 1 0 2 0 (liv0 (by omega)) (liv0 (by omega)) z).1 (by decide))
    have k4 : h1 (ad 3 0) = some (.inl ((Γ.2.1 3), 20, .inr (.inr (.inr (.inr (fun j => if j < nS M then some (ad 10 j) else none)))))) := by rw [eh1]; exact hp_up_g kA3 (fun z => absurd (hC.2 3 0 2 0 (liv0 (by omega)) (liv0 (by omega)) z).1 (by decide))
    have k5 : h1 (ad 4 0) = some (.inl ((Γ.2.1 4), 40, .inr (.inr (.inr (.inr (fun j => if j < nV M then some (ad 14 j) else none)))))) := by rw [eh1]; exact hp_up_g kA4 (fun z => absurd (hC.2 4 0 2 0 (liv0 (by omega)) (liv0 (by omega)) z).1 (by decide))
    have k6 : h1 (ad 5 0) = some (.inl ((Γ.2.1 5), 10, .inr (.inr (.inr (.inr (fun j => if j < nR M then some (ad 18 j) else none)))))) := by rw [eh1]; exact hp_up_g kA5 (fun z => absurd (hC.2 5 0 2 0 (liv0 (by omega)) (liv0 (by omega)) z).1 (by decide))
    have k7 : h1 (ad 6 0) = some (.inr (0, [.ref (ad 7 0), .ref (ad 8 0), .ref (ad 9 0), .int (M 27 0)])) := by rw [eh1]; exact hp_up_g kA6 (fun z => absurd (hC.2 6 0 2 0 (liv0 (by omega)) (liv0 (by omega)) z).1 (by decide))
    have k8 : h1 (ad 7 0) = some (.inl ((Γ.2.1 0), 300, .inl (M 28))) := by rw [eh1]; exact hp_up_g kA7 (fun z => absurd (hC.2 7 0 2 0 (liv0 (by omega)) (liv0 (by omega)) z).1 (by decide))
    have k9 : h1 (ad 8 0) = some (.inl ((Γ.2.1 0), 300, .inl (M 29))) := by rw [eh1]; exact hp_up_g kA8 (fun z => absurd (hC.2 8 0 2 0 (liv0 (by omega)) (liv0 (by omega)) z).1 (by decide))
    have k10 : h1 (ad 9 0) = some (.inl ((Γ.2.1 0), 300, .inl (M 30))) := by rw [eh1]; exact hp_up_g kA9 (fun z => absurd (hC.2 9 0 2 0 (liv0 (by omega)) (liv0 (by omega)) z).1 (by decide))
    have k11 : h1 (ad 2 0) = some (.inl ((Γ.2.1 0), 60, .inl (upd (M 3) ((nI t).toNatClampNeg) pq))) := by rw [eh1]; exact hp_up_s
    refine hg_iload_n C 0 d_MM_lock_29 rfl rfl ?_
    exact hg_iret C hr rfl d_MM_lock_30 (Nat.le_of_ble_eq_true rfl) (Nat.le_of_ble_eq_true rfl) (⟨by rw [sp_lock, gd0 ⟨ct2, Or.inl c7⟩ trivial]; rw [nI_clamp (n := t) (by omega)], by rw [sp_lock, gd0 ⟨ct2, Or.inl c7⟩ trivial], ad, rfl, by rw [sp_lock, gd0 ⟨ct2, Or.inl c7⟩ trivial]; exact cr_lock hC eh1⟩)
  · refine hg_iload_n C 2 d_MM_lock_10 rfl rfl ?_
    refine hg_bipush (v := 10) C d_MM_lock_11 (by decide) ?_
    refine hg_Sn C (k_MM_checkBelow l hl9 Γ _ pq 10) (cw_MM_68 C.2.2.2.2.1 rfl rfl ⟨Nat.le_of_ble_eq_true rfl, Nat.le_of_ble_eq_true rfl⟩) rfl rfl (Nat.le_of_ble_eq_true rfl) d_MM_lock_13 ⟨Nat.le_of_ble_eq_true rfl, Nat.le_of_ble_eq_true rfl⟩ (fun cb13 => ?_) (fun cb13 => hg_out C hne (Nat.le_of_ble_eq_true rfl) (Nat.le_of_ble_eq_true rfl) (⟨Or.inl ⟨rfl, by rw [sp_lock, gd1 (fun z => z.2.elim c7 cb13)]⟩, by rw [sp_lock, gd1 (fun z => z.2.elim c7 cb13)]; exact cr_code 1 hC⟩))
    refine hg_aload_n C 0 d_MM_lock_16 rfl rfl ?_
    refine hg_iload_n C 1 d_MM_lock_17 rfl rfl ?_
    refine hg_VNv (q := ("ModelMerge", T_MM, 12)) C (k_MM_lockerOf l Γ _ ad M hC hI (nI t)) (cw_MM_117 C.2.2.2.2.1 rfl rfl ⟨Nat.le_of_ble_eq_true rfl, Nat.le_of_ble_eq_true rfl⟩) kx rfl rfl rfl (Nat.le_of_ble_eq_true rfl) d_MM_lock_18 ⟨Nat.le_of_ble_eq_true rfl, Nat.le_of_ble_eq_true rfl⟩ (fun _ => ?_)
    refine hg_ti (show k_of M 3 (nI t) = M 3 t by rw [k_of, if_pos (inr_of (by omega) (by omega)), nI_clamp (by omega)]) ?_
    refine hg_istore_n (lv' := [(3, .int (M 3 t)), (0, .ref (ad 0 0)), (1, .int (nI t)), (2, .int pq)]) C d_MM_lock_21 rfl (by decide) rfl ?_
    refine hg_aload_n C 1 d_MM_lock_22 rfl rfl ?_
    refine f_MM_13 C kx rfl d_MM_lock_23 ?_
    refine hg_iload_n C 2 d_MM_lock_26 rfl rfl ?_
    refine hg_iload_n C 3 d_MM_lock_27 rfl rfl ?_
    refine hg_iast C 0 kA2 rfl (vp_in_nI (N := 60) (show t < 60 by omega) (by omega)) d_MM_lock_28 ?_
    obtain ⟨h12, eh12⟩ : ∃ z, z = hp_up h (ad 2 0) (.inl ((Γ.2.1 0), 60, .inl (upd (M 3) ((nI t).toNatClampNeg) pq))) := ⟨_, rfl⟩
    refine hg_eq eh12.symm ?_
    have k13 : h12 (ad 0 0) = some (.inr (6, [.ref (ad 1 0), .ref (ad 2 0), .int (M 1 0), .ref (ad 3 0), .int (M 9 0), .ref (ad 4 0), .int (M 4 0), .ref (ad 14 (nV M - 1)), .ref (ad 5 0), .int (M 22 0), .ref (ad 6 0), cr_pen ad M])) := by rw [eh12]; exact hp_up_g kx (fun z => absurd (hC.2 0 0 2 0 (liv0 (by omega)) (liv0 (by omega)) z).1 (by decide))
    have k14 : h12 (ad 1 0) = some (.inl ((Γ.2.1 0), 60, .inl (M 2))) := by rw [eh12]; exact hp_up_g kA1 (fun z => absurd (hC.2 1 0 2 0 (liv0 (by omega)) (liv0 (by omega)) z).1 (by decide))
    have k15 : h12 (ad 3 0) = some (.inl ((Γ.2.1 3), 20, .inr (.inr (.inr (.inr (fun j => if j < nS M then some (ad 10 j) else none)))))) := by rw [eh12]; exact hp_up_g kA3 (fun z => absurd (hC.2 3 0 2 0 (liv0 (by omega)) (liv0 (by omega)) z).1 (by decide))
    have k16 : h12 (ad 4 0) = some (.inl ((Γ.2.1 4), 40, .inr (.inr (.inr (.inr (fun j => if j < nV M then some (ad 14 j) else none)))))) := by rw [eh12]; exact hp_up_g kA4 (fun z => absurd (hC.2 4 0 2 0 (liv0 (by omega)) (liv0 (by omega)) z).1 (by decide))
    have k17 : h12 (ad 5 0) = some (.inl ((Γ.2.1 5), 10, .inr (.inr (.inr (.inr (fun j => if j < nR M then some (ad 18 j) else none)))))) := by rw [eh12]; exact hp_up_g kA5 (fun z => absurd (hC.2 5 0 2 0 (liv0 (by omega)) (liv0 (by omega)) z).1 (by decide))
    have k18 : h12 (ad 6 0) = some (.inr (0, [.ref (ad 7 0), .ref (ad 8 0), .ref (ad 9 0), .int (M 27 0)])) := by rw [eh12]; exact hp_up_g kA6 (fun z => absurd (hC.2 6 0 2 0 (liv0 (by omega)) (liv0 (by omega)) z).1 (by decide))
    have k19 : h12 (ad 7 0) = some (.inl ((Γ.2.1 0), 300, .inl (M 28))) := by rw [eh12]; exact hp_up_g kA7 (fun z => absurd (hC.2 7 0 2 0 (liv0 (by omega)) (liv0 (by omega)) z).1 (by decide))
    have k20 : h12 (ad 8 0) = some (.inl ((Γ.2.1 0), 300, .inl (M 29))) := by rw [eh12]; exact hp_up_g kA8 (fun z => absurd (hC.2 8 0 2 0 (liv0 (by omega)) (liv0 (by omega)) z).1 (by decide))
    have k21 : h12 (ad 9 0) = some (.inl ((Γ.2.1 0), 300, .inl (M 30))) := by rw [eh12]; exact hp_up_g kA9 (fun z => absurd (hC.2 9 0 2 0 (liv0 (by omega)) (liv0 (by omega)) z).1 (by decide))
    have k22 : h12 (ad 2 0) = some (.inl ((Γ.2.1 0), 60, .inl (upd (M 3) ((nI t).toNatClampNeg) pq))) := by rw [eh12]; exact hp_up_s
    refine hg_iload_n C 0 d_MM_lock_29 rfl rfl ?_
    exact hg_iret C hr rfl d_MM_lock_30 (Nat.le_of_ble_eq_true rfl) (Nat.le_of_ble_eq_true rfl) (⟨by rw [sp_lock, gd0 ⟨ct2, Or.inr cb13⟩ trivial]; rw [nI_clamp (n := t) (by omega)], by rw [sp_lock, gd0 ⟨ct2, Or.inr cb13⟩ trivial], ad, rfl, by rw [sp_lock, gd0 ⟨ct2, Or.inr cb13⟩ trivial]; exact cr_lock hC eh12⟩)
abbrev rm_MM_rule : Room := { frames := 7, cells := 4, slots := 24, locals := 111 }
set_option maxHeartbeats 4000000 in
set_option maxRecDepth 100000 in
theorem k_MM_rule (l : Launch) (hl9 : l.stackTraces = false) (Γ : Gam) (h : Pic) (ad : Nat → Nat → Nat) (M : Mem) (hC : cr_at Γ ad M h) (hI : Inv0 M)  (k0 f0 g0 : Int32) : kM l Γ y_MM_rule w_MM_rule rm_MM_rule [.ref (ad 0 0), .int k0, .int f0, .int g0] h (pubQ Γ ad (sp_rule M k0 f0 g0)) (pubX Γ ad (sp_rule M k0 f0 g0)) 4 24 := by
  refine hg_entry (own := "ModelMerge") (cc := b_MM_rule) (maxL := 5) (ret := (some .int)) (lv0 := [(0, .ref (ad 0 0)), (1, .int k0), (2, .int f0), (3, .int g0)]) (by decide) rfl rfl (Nat.le_of_ble_eq_true rfl) rfl ?_
  intro p e s m args below meth c A C hne hr
  have kx : h (ad 0 0) = some (.inr (6, [.ref (ad 1 0), .ref (ad 2 0), .int (M 1 0), .ref (ad 3 0), .int (M 9 0), .ref (ad 4 0), .int (M 4 0), .ref (ad 14 (nV M - 1)), .ref (ad 5 0), .int (M 22 0), .ref (ad 6 0), cr_pen ad M])) := hC.1 0 0 (liv0 (by omega))
  have kA1 : h (ad 1 0) = some (.inl ((Γ.2.1 0), 60, .inl (M 2))) := hC.1 1 0 (liv0 (by omega))
  have kA2 : h (ad 2 0) = some (.inl ((Γ.2.1 0), 60, .inl (M 3))) := hC.1 2 0 (liv0 (by omega))
  have kA3 : h (ad 3 0) = some (.inl ((Γ.2.1 3), 20, .inr (.inr (.inr (.inr (fun j => if j < nS M then some (ad 10 j) else none)))))) := hC.1 3 0 (liv0 (by omega))
  have kA4 : h (ad 4 0) = some (.inl ((Γ.2.1 4), 40, .inr (.inr (.inr (.inr (fun j => if j < nV M then some (ad 14 j) else none)))))) := hC.1 4 0 (liv0 (by omega))
  have kA5 : h (ad 5 0) = some (.inl ((Γ.2.1 5), 10, .inr (.inr (.inr (.inr (fun j => if j < nR M then some (ad 18 j) else none)))))) := hC.1 5 0 (liv0 (by omega))
  have kA6 : h (ad 6 0) = some (.inr (0, [.ref (ad 7 0), .ref (ad 8 0), .ref (ad 9 0), .int (M 27 0)])) := hC.1 6 0 (liv0 (by omega))
  have kA7 : h (ad 7 0) = some (.inl ((Γ.2.1 0), 300, .inl (M 28))) := hC.1 7 0 (liv0 (by omega))
  have kA8 : h (ad 8 0) = some (.inl ((Γ.2.1 0), 300, .inl (M 29))) := hC.1 8 0 (liv0 (by omega))
  have kA9 : h (ad 9 0) = some (.inl ((Γ.2.1 0), 300, .inl (M 30))) := hC.1 9 0 (liv0 (by omega))
  obtain ⟨⟨⟨eT, hT⟩, ⟨eV, hV1, hV⟩, ⟨eS, hS⟩, ⟨eR, hRR⟩, ⟨eC, hCn⟩⟩, hI2, hI3, hI4, hI5, hI6, hI7, hI8, -, hI10, hI11⟩ := id hI
  refine hg_iload_n C 1 d_MM_rule_0 rfl rfl ?_
  refine hg_iconst (v := 5) C d_MM_rule_1 (by decide) ?_
  refine hg_Sn C (k_MM_checkBelow l hl9 Γ _ k0 5) (cw_MM_68 C.2.2.2.2.1 rfl rfl ⟨Nat.le_of_ble_eq_true rfl, Nat.le_of_ble_eq_true rfl⟩) rfl rfl (Nat.le_of_ble_eq_true rfl) d_MM_rule_2 ⟨Nat.le_of_ble_eq_true rfl, Nat.le_of_ble_eq_true rfl⟩ (fun cb2 => ?_) (fun cb2 => hg_out C hne (Nat.le_of_ble_eq_true rfl) (Nat.le_of_ble_eq_true rfl) (⟨Or.inl ⟨rfl, by rw [sp_rule, gd1 (fun z => cb2 z.1)]⟩, by rw [sp_rule, gd1 (fun z => cb2 z.1)]; exact cr_code 1 hC⟩))
  refine hg_iload_n C 2 d_MM_rule_5 rfl rfl ?_
  refine hg_iconst (v := 5) C d_MM_rule_6 (by decide) ?_
  refine hg_Sn C (k_MM_checkBelow l hl9 Γ _ f0 5) (cw_MM_68 C.2.2.2.2.1 rfl rfl ⟨Nat.le_of_ble_eq_true rfl, Nat.le_of_ble_eq_true rfl⟩) rfl rfl (Nat.le_of_ble_eq_true rfl) d_MM_rule_7 ⟨Nat.le_of_ble_eq_true rfl, Nat.le_of_ble_eq_true rfl⟩ (fun cb7 => ?_) (fun cb7 => hg_out C hne (Nat.le_of_ble_eq_true rfl) (Nat.le_of_ble_eq_true rfl) (⟨Or.inl ⟨rfl, by rw [sp_rule, gd1 (fun z => cb7 z.2.1)]⟩, by rw [sp_rule, gd1 (fun z => cb7 z.2.1)]; exact cr_code 1 hC⟩))
  refine hg_iload_n C 3 d_MM_rule_10 rfl rfl ?_
  refine hg_iconst (v := 5) C d_MM_rule_11 (by decide) ?_
  refine hg_Sn C (k_MM_checkBelow l hl9 Γ _ g0 5) (cw_MM_68 C.2.2.2.2.1 rfl rfl ⟨Nat.le_of_ble_eq_true rfl, Nat.le_of_ble_eq_true rfl⟩) rfl rfl (Nat.le_of_ble_eq_true rfl) d_MM_rule_12 ⟨Nat.le_of_ble_eq_true rfl, Nat.le_of_ble_eq_true rfl⟩ (fun cb12 => ?_) (fun cb12 => hg_out C hne (Nat.le_of_ble_eq_true rfl) (Nat.le_of_ble_eq_true rfl) (⟨Or.inl ⟨rfl, by rw [sp_rule, gd1 (fun z => cb12 z.2.2)]⟩, by rw [sp_rule, gd1 (fun z => cb12 z.2.2)]; exact cr_code 1 hC⟩))
  refine hg_aload_n C 0 d_MM_rule_15 rfl rfl ?_
  refine f_MM_44 C kx rfl d_MM_rule_16 ?_
  refine hg_ti eR ?_
  refine hg_bipush (v := 10) C d_MM_rule_19 (by decide) ?_
  refine hg_icmp_lt C 34 d_MM_rule_21 (by decide) (fun c21 => ?_) (fun c21 => ?_)
  · have g10 : nR M < 10 := (nI_ltI (b := 10) (by omega) (by omega)).mp c21
    refine hg_aload_n C 0 d_MM_rule_34 rfl rfl ?_
    refine f_MM_44 C kx rfl d_MM_rule_35 ?_
    refine hg_ti eR ?_
    refine hg_istore (lv' := [(4, .int (nI (nR M))), (0, .ref (ad 0 0)), (1, .int k0), (2, .int f0), (3, .int g0)]) C d_MM_rule_38 (by decide) rfl ?_
    refine hg_aload_n C 1 d_MM_rule_40 rfl rfl ?_
    refine f_MM_40 C kx rfl d_MM_rule_41 ?_
    refine hg_iload C 0 d_MM_rule_44 rfl ?_
    refine n_MM_38 C (Nat.le_of_ble_eq_true rfl) (Nat.le_of_ble_eq_true rfl) d_MM_rule_46 (fun q1 hq_q1 => ?_)
    obtain ⟨h2, eh2⟩ : ∃ z, z = hp_up h q1 (.inr (2, [.int 0, .int 0, .int 0])) := ⟨_, rfl⟩
    refine hg_eq eh2.symm ?_
    have k3 : h2 (ad 0 0) = some (.inr (6, [.ref (ad 1 0), .ref (ad 2 0), .int (M 1 0), .ref (ad 3 0), .int (M 9 0), .ref (ad 4 0), .int (M 4 0), .ref (ad 14 (nV M - 1)), .ref (ad 5 0), .int (M 22 0), .ref (ad 6 0), cr_pen ad M])) := by rw [eh2]; exact hp_up_g kx (fun z => by rw [z, hq_q1] at kx; cases kx)
    have k4 : h2 (ad 1 0) = some (.inl ((Γ.2.1 0), 60, .inl (M 2))) := by rw [eh2]; exact hp_up_g kA1 (fun z => by rw [z, hq_q1] at kA1; cases kA1)
    have k5 : h2 (ad 2 0) = some (.inl ((Γ.2.1 0), 60, .inl (M 3))) := by rw [eh2]; exact hp_up_g kA2 (fun z => by rw [z, hq_q1] at kA2; cases kA2)
    have k6 : h2 (ad 3 0) = some (.inl ((Γ.2.1 3), 20, .inr (.inr (.inr (.inr (fun j => if j < nS M then some (ad 10 j) else none)))))) := by rw [eh2]; exact hp_up_g kA3 (fun z => by rw [z, hq_q1] at kA3; cases kA3)
    have k7 : h2 (ad 4 0) = some (.inl ((Γ.2.1 4), 40, .inr (.inr (.inr (.inr (fun j => if j < nV M then some (ad 14 j) else none)))))) := by rw [eh2]; exact hp_up_g kA4 (fun z => by rw [z, hq_q1] at kA4; cases kA4)
    have k8 : h2 (ad 5 0) = some (.inl ((Γ.2.1 5), 10, .inr (.inr (.inr (.inr (fun j => if j < nR M then some (ad 18 j) else none)))))) := by rw [eh2]; exact hp_up_g kA5 (fun z => by rw [z, hq_q1] at kA5; cases kA5)
    have k9 : h2 (ad 6 0) = some (.inr (0, [.ref (ad 7 0), .ref (ad 8 0), .ref (ad 9 0), .int (M 27 0)])) := by rw [eh2]; exact hp_up_g kA6 (fun z => by rw [z, hq_q1] at kA6; cases kA6)
    have k10 : h2 (ad 7 0) = some (.inl ((Γ.2.1 0), 300, .inl (M 28))) := by rw [eh2]; exact hp_up_g kA7 (fun z => by rw [z, hq_q1] at kA7; cases kA7)
    have k11 : h2 (ad 8 0) = some (.inl ((Γ.2.1 0), 300, .inl (M 29))) := by rw [eh2]; exact hp_up_g kA8 (fun z => by rw [z, hq_q1] at kA8; cases kA8)
    have k12 : h2 (ad 9 0) = some (.inl ((Γ.2.1 0), 300, .inl (M 30))) := by rw [eh2]; exact hp_up_g kA9 (fun z => by rw [z, hq_q1] at kA9; cases kA9)
    have k13 : h2 q1 = some (.inr (2, [.int 0, .int 0, .int 0])) := by rw [eh2]; exact hp_up_s
    refine hg_dup C d_MM_rule_49 rfl ?_
    refine hg_iload_n C 2 d_MM_rule_50 rfl rfl ?_
    refine hg_iload_n C 3 d_MM_rule_51 rfl rfl ?_
    refine hg_iload_n C 4 d_MM_rule_52 rfl rfl ?_
    refine hg_Iz C (k_Ru_init l Γ _ q1 k0 f0 g0 k13) (cw_MM_123 C.2.2.2.2.1 rfl rfl ⟨Nat.le_of_ble_eq_true rfl, Nat.le_of_ble_eq_true rfl⟩) rfl rfl (Nat.le_of_ble_eq_true rfl) d_MM_rule_53 ⟨Nat.le_of_ble_eq_true rfl, Nat.le_of_ble_eq_true rfl⟩ (fun h14 eh14 => ?_)
    have k15 : h14 (ad 0 0) = some (.inr (6, [.ref (ad 1 0), .ref (ad 2 0), .int (M 1 0), .ref (ad 3 0), .int (M 9 0), .ref (ad 4 0), .int (M 4 0), .ref (ad 14 (nV M - 1)), .ref (ad 5 0), .int (M 22 0), .ref (ad 6 0), cr_pen ad M])) := by rw [eh14]; exact hp_up_g k3 (fun z => by rw [z, k13] at k3; cases k3)
    have k16 : h14 (ad 1 0) = some (.inl ((Γ.2.1 0), 60, .inl (M 2))) := by rw [eh14]; exact hp_up_g k4 (fun z => by rw [z, k13] at k4; cases k4)
    have k17 : h14 (ad 2 0) = some (.inl ((Γ.2.1 0), 60, .inl (M 3))) := by rw [eh14]; exact hp_up_g k5 (fun z => by rw [z, k13] at k5; cases k5)
    have k18 : h14 (ad 3 0) = some (.inl ((Γ.2.1 3), 20, .inr (.inr (.inr (.inr (fun j => if j < nS M then some (ad 10 j) else none)))))) := by rw [eh14]; exact hp_up_g k6 (fun z => by rw [z, k13] at k6; cases k6)
    have k19 : h14 (ad 4 0) = some (.inl ((Γ.2.1 4), 40, .inr (.inr (.inr (.inr (fun j => if j < nV M then some (ad 14 j) else none)))))) := by rw [eh14]; exact hp_up_g k7 (fun z => by rw [z, k13] at k7; cases k7)
    have k20 : h14 (ad 5 0) = some (.inl ((Γ.2.1 5), 10, .inr (.inr (.inr (.inr (fun j => if j < nR M then some (ad 18 j) else none)))))) := by rw [eh14]; exact hp_up_g k8 (fun z => by rw [z, k13] at k8; cases k8)
    have k21 : h14 (ad 6 0) = some (.inr (0, [.ref (ad 7 0), .ref (ad 8 0), .ref (ad 9 0), .int (M 27 0)])) := by rw [eh14]; exact hp_up_g k9 (fun z => by rw [z, k13] at k9; cases k9)
    have k22 : h14 (ad 7 0) = some (.inl ((Γ.2.1 0), 300, .inl (M 28))) := by rw [eh14]; exact hp_up_g k10 (fun z => by rw [z, k13] at k10; cases k10)
    have k23 : h14 (ad 8 0) = some (.inl ((Γ.2.1 0), 300, .inl (M 29))) := by rw [eh14]; exact hp_up_g k11 (fun z => by rw [z, k13] at k11; cases k11)
    have k24 : h14 (ad 9 0) = some (.inl ((Γ.2.1 0), 300, .inl (M 30))) := by rw [eh14]; exact hp_up_g k12 (fun z => by rw [z, k13] at k12; cases k12)
    have k25 : h14 q1 = some (.inr (2, [.int k0, .int f0, .int g0])) := by rw [eh14]; exact hp_up_s
    refine hg_aast C 5 2 k20 rfl k25 rfl (vp_in_nI (N := 10) (show nR M < 10 by omega) (by omega)) d_MM_rule_56 ?_
    obtain ⟨h26, eh26⟩ : ∃ z, z = hp_up h14 (ad 5 0) (.inl ((Γ.2.1 5), 10, .inr (.inr (.inr (.inr (va_up (fun j => if j < nR M then some (ad 18 j) else none) ((nI (nR M)).toNatClampNeg) (some q1))))))) := ⟨_, rfl⟩
    refine hg_eq eh26.symm ?_
    have k27 : h26 (ad 0 0) = some (.inr (6, [.ref (ad 1 0), .ref (ad 2 0), .int (M 1 0), .ref (ad 3 0), .int (M 9 0), .ref (ad 4 0), .int (M 4 0), .ref (ad 14 (nV M - 1)), .ref (ad 5 0), .int (M 22 0), .ref (ad 6 0), cr_pen ad M])) := by rw [eh26]; exact hp_up_g k15 (fun z => absurd (hC.2 0 0 5 0 (liv0 (by omega)) (liv0 (by omega)) z).1 (by decide))
    have k28 : h26 (ad 1 0) = some (.inl ((Γ.2.1 0), 60, .inl (M 2))) := by rw [eh26]; exact hp_up_g k16 (fun z => absurd (hC.2 1 0 5 0 (liv0 (by omega)) (liv0 (by omega)) z).1 (by decide))
    have k29 : h26 (ad 2 0) = some (.inl ((Γ.2.1 0), 60, .inl (M 3))) := by rw [eh26]; exact hp_up_g k17 (fun z => absurd (hC.2 2 0 5 0 (liv0 (by omega)) (liv0 (by omega)) z).1 (by decide))
    have k30 : h26 (ad 3 0) = some (.inl ((Γ.2.1 3), 20, .inr (.inr (.inr (.inr (fun j => if j < nS M then some (ad 10 j) else none)))))) := by rw [eh26]; exact hp_up_g k18 (fun z => absurd (hC.2 3 0 5 0 (liv0 (by omega)) (liv0 (by omega)) z).1 (by decide))
    have k31 : h26 (ad 4 0) = some (.inl ((Γ.2.1 4), 40, .inr (.inr (.inr (.inr (fun j => if j < nV M then some (ad 14 j) else none)))))) := by rw [eh26]; exact hp_up_g k19 (fun z => absurd (hC.2 4 0 5 0 (liv0 (by omega)) (liv0 (by omega)) z).1 (by decide))
    have k32 : h26 (ad 6 0) = some (.inr (0, [.ref (ad 7 0), .ref (ad 8 0), .ref (ad 9 0), .int (M 27 0)])) := by rw [eh26]; exact hp_up_g k21 (fun z => absurd (hC.2 6 0 5 0 (liv0 (by omega)) (liv0 (by omega)) z).1 (by decide))
    have k33 : h26 (ad 7 0) = some (.inl ((Γ.2.1 0), 300, .inl (M 28))) := by rw [eh26]; exact hp_up_g k22 (fun z => absurd (hC.2 7 0 5 0 (liv0 (by omega)) (liv0 (by omega)) z).1 (by decide))
    have k34 : h26 (ad 8 0) = some (.inl ((Γ.2.1 0), 300, .inl (M 29))) := by rw [eh26]; exact hp_up_g k23 (fun z => absurd (hC.2 8 0 5 0 (liv0 (by omega)) (liv0 (by omega)) z).1 (by decide))
    have k35 : h26 (ad 9 0) = some (.inl ((Γ.2.1 0), 300, .inl (M 30))) := by rw [eh26]; exact hp_up_g k24 (fun z => absurd (hC.2 9 0 5 0 (liv0 (by omega)) (liv0 (by omega)) z).1 (by decide))
    have k36 : h26 q1 = some (.inr (2, [.int k0, .int f0, .int g0])) := by rw [eh26]; exact hp_up_g k25 (fun z => by rw [z, k20] at k25; cases k25)
    have k37 : h26 (ad 5 0) = some (.inl ((Γ.2.1 5), 10, .inr (.inr (.inr (.inr (va_up (fun j => if j < nR M then some (ad 18 j) else none) ((nI (nR M)).toNatClampNeg) (some q1))))))) := by rw [eh26]; exact hp_up_s
    refine hg_aload_n C 1 d_MM_rule_57 rfl rfl ?_
    refine hg_dup C d_MM_rule_58 rfl ?_
    refine f_MM_44 C k27 rfl d_MM_rule_59 ?_
    refine hg_ti eR ?_
    refine hg_iconst (v := 1) C d_MM_rule_62 (by decide) ?_
    refine hg_iadd C d_MM_rule_63 ?_
    refine hg_ti (nI_1 (nR M)) ?_
    refine p_MM_44 (fs' := [.ref (ad 1 0), .ref (ad 2 0), .int (M 1 0), .ref (ad 3 0), .int (M 9 0), .ref (ad 4 0), .int (M 4 0), .ref (ad 14 (nV M - 1)), .ref (ad 5 0), .int (nI (nR M + 1)), .ref (ad 6 0), cr_pen ad M]) C k27 rfl rfl (Nat.le_of_ble_eq_true rfl) rfl d_MM_rule_64 ?_
    obtain ⟨h38, eh38⟩ : ∃ z, z = hp_up h26 (ad 0 0) (.inr (6, [.ref (ad 1 0), .ref (ad 2 0), .int (M 1 0), .ref (ad 3 0), .int (M 9 0), .ref (ad 4 0), .int (M 4 0), .ref (ad 14 (nV M - 1)), .ref (ad 5 0), .int (nI (nR M + 1)), .ref (ad 6 0), cr_pen ad M])) := ⟨_, rfl⟩
    refine hg_eq eh38.symm ?_
    have k39 : h38 (ad 1 0) = some (.inl ((Γ.2.1 0), 60, .inl (M 2))) := by rw [eh38]; exact hp_up_g k28 (fun z => absurd (hC.2 1 0 0 0 (liv0 (by omega)) (liv0 (by omega)) z).1 (by decide))
    have k40 : h38 (ad 2 0) = some (.inl ((Γ.2.1 0), 60, .inl (M 3))) := by rw [eh38]; exact hp_up_g k29 (fun z => absurd (hC.2 2 0 0 0 (liv0 (by omega)) (liv0 (by omega)) z).1 (by decide))
    have k41 : h38 (ad 3 0) = some (.inl ((Γ.2.1 3), 20, .inr (.inr (.inr (.inr (fun j => if j < nS M then some (ad 10 j) else none)))))) := by rw [eh38]; exact hp_up_g k30 (fun z => absurd (hC.2 3 0 0 0 (liv0 (by omega)) (liv0 (by omega)) z).1 (by decide))
    have k42 : h38 (ad 4 0) = some (.inl ((Γ.2.1 4), 40, .inr (.inr (.inr (.inr (fun j => if j < nV M then some (ad 14 j) else none)))))) := by rw [eh38]; exact hp_up_g k31 (fun z => absurd (hC.2 4 0 0 0 (liv0 (by omega)) (liv0 (by omega)) z).1 (by decide))
    have k43 : h38 (ad 6 0) = some (.inr (0, [.ref (ad 7 0), .ref (ad 8 0), .ref (ad 9 0), .int (M 27 0)])) := by rw [eh38]; exact hp_up_g k32 (fun z => absurd (hC.2 6 0 0 0 (liv0 (by omega)) (liv0 (by omega)) z).1 (by decide))
    have k44 : h38 (ad 7 0) = some (.inl ((Γ.2.1 0), 300, .inl (M 28))) := by rw [eh38]; exact hp_up_g k33 (fun z => absurd (hC.2 7 0 0 0 (liv0 (by omega)) (liv0 (by omega)) z).1 (by decide))
    have k45 : h38 (ad 8 0) = some (.inl ((Γ.2.1 0), 300, .inl (M 29))) := by rw [eh38]; exact hp_up_g k34 (fun z => absurd (hC.2 8 0 0 0 (liv0 (by omega)) (liv0 (by omega)) z).1 (by decide))
    have k46 : h38 (ad 9 0) = some (.inl ((Γ.2.1 0), 300, .inl (M 30))) := by rw [eh38]; exact hp_up_g k35 (fun z => absurd (hC.2 9 0 0 0 (liv0 (by omega)) (liv0 (by omega)) z).1 (by decide))
    have k47 : h38 q1 = some (.inr (2, [.int k0, .int f0, .int g0])) := by rw [eh38]; exact hp_up_g k36 (fun z => by rw [z, k27] at k36; cases k36)
    have k48 : h38 (ad 5 0) = some (.inl ((Γ.2.1 5), 10, .inr (.inr (.inr (.inr (va_up (fun j => if j < nR M then some (ad 18 j) else none) ((nI (nR M)).toNatClampNeg) (some q1))))))) := by rw [eh38]; exact hp_up_g k37 (fun z => absurd (hC.2 5 0 0 0 (liv0 (by omega)) (liv0 (by omega)) z).1 (by decide))
    have k49 : h38 (ad 0 0) = some (.inr (6, [.ref (ad 1 0), .ref (ad 2 0), .int (M 1 0), .ref (ad 3 0), .int (M 9 0), .ref (ad 4 0), .int (M 4 0), .ref (ad 14 (nV M - 1)), .ref (ad 5 0), .int (nI (nR M + 1)), .ref (ad 6 0), cr_pen ad M])) := by rw [eh38]; exact hp_up_s
    refine hg_iload C 0 d_MM_rule_67 rfl ?_
    exact hg_iret C hr rfl d_MM_rule_69 (Nat.le_of_ble_eq_true rfl) (Nat.le_of_ble_eq_true rfl) (⟨by rw [sp_rule, gd0 ⟨cb2, cb7, cb12⟩ g10], by rw [sp_rule, gd0 ⟨cb2, cb7, cb12⟩ g10], a_up ad 18 (nR M) q1, rfl, by rw [sp_rule, gd0 ⟨cb2, cb7, cb12⟩ g10]; exact cr_rule hC g10 hq_q1 eh2 eh14 eh26 eh38⟩)
  · have g10 : ¬ nR M < 10 := fun z => c21 (nI_lt (b := 10) z (by omega))
    exact th_ISE (is := 121) (text := "there are 10 rules") (sa := Γ.2.2 6) C hne hl9 (List.mem_of_getElem? (i := 6) rfl) d_MM_rule_24 d_MM_rule_27 d_MM_rule_28 d_MM_rule_30 d_MM_rule_33 (Nat.le_of_ble_eq_true rfl) (Nat.le_of_ble_eq_true rfl) (Nat.le_of_ble_eq_true rfl) (Nat.le_of_ble_eq_true rfl) (Nat.le_of_ble_eq_true rfl) (Nat.le_of_ble_eq_true rfl) (⟨Or.inr ⟨rfl, by rw [sp_rule, gd2 (⟨cb2, cb7, cb12⟩) g10]⟩, by rw [sp_rule, gd2 (⟨cb2, cb7, cb12⟩) g10]; exact cr_code 2 hC⟩)
abbrev rm_MM_giveUp : Room := { frames := 6, cells := 1, slots := 6, locals := 90 }
set_option maxHeartbeats 4000000 in
set_option maxRecDepth 100000 in
theorem k_MM_giveUp (l : Launch) (hl9 : l.stackTraces = false) (Γ : Gam) (h : Pic) (ad : Nat → Nat → Nat) (M : Mem) (hC : cr_at Γ ad M h) (hI : Inv0 M)  : kM l Γ y_MM_giveUp w_MM_giveUp rm_MM_giveUp [.ref (ad 0 0)] h (pubQ Γ ad (sp_giveUp M)) (fun E u => E = ISE ∧ (sp_giveUp M).1 = 1 ∧ cr_at Γ ad (sp_giveUp M).2.2 u) 1 6 := by
  refine hg_entry (own := "ModelMerge") (cc := b_MM_giveUp) (maxL := 2) (ret := (some .int)) (lv0 := [(0, .ref (ad 0 0))]) (by decide) rfl rfl (Nat.le_of_ble_eq_true rfl) rfl ?_
  intro p e s m args below meth c A C hne hr
  have kx : h (ad 0 0) = some (.inr (6, [.ref (ad 1 0), .ref (ad 2 0), .int (M 1 0), .ref (ad 3 0), .int (M 9 0), .ref (ad 4 0), .int (M 4 0), .ref (ad 14 (nV M - 1)), .ref (ad 5 0), .int (M 22 0), .ref (ad 6 0), cr_pen ad M])) := hC.1 0 0 (liv0 (by omega))
  have kA1 : h (ad 1 0) = some (.inl ((Γ.2.1 0), 60, .inl (M 2))) := hC.1 1 0 (liv0 (by omega))
  have kA2 : h (ad 2 0) = some (.inl ((Γ.2.1 0), 60, .inl (M 3))) := hC.1 2 0 (liv0 (by omega))
  have kA3 : h (ad 3 0) = some (.inl ((Γ.2.1 3), 20, .inr (.inr (.inr (.inr (fun j => if j < nS M then some (ad 10 j) else none)))))) := hC.1 3 0 (liv0 (by omega))
  have kA4 : h (ad 4 0) = some (.inl ((Γ.2.1 4), 40, .inr (.inr (.inr (.inr (fun j => if j < nV M then some (ad 14 j) else none)))))) := hC.1 4 0 (liv0 (by omega))
  have kA5 : h (ad 5 0) = some (.inl ((Γ.2.1 5), 10, .inr (.inr (.inr (.inr (fun j => if j < nR M then some (ad 18 j) else none)))))) := hC.1 5 0 (liv0 (by omega))
  have kA6 : h (ad 6 0) = some (.inr (0, [.ref (ad 7 0), .ref (ad 8 0), .ref (ad 9 0), .int (M 27 0)])) := hC.1 6 0 (liv0 (by omega))
  have kA7 : h (ad 7 0) = some (.inl ((Γ.2.1 0), 300, .inl (M 28))) := hC.1 7 0 (liv0 (by omega))
  have kA8 : h (ad 8 0) = some (.inl ((Γ.2.1 0), 300, .inl (M 29))) := hC.1 8 0 (liv0 (by omega))
  have kA9 : h (ad 9 0) = some (.inl ((Γ.2.1 0), 300, .inl (M 30))) := hC.1 9 0 (liv0 (by omega))
  obtain ⟨⟨⟨eT, hT⟩, ⟨eV, hV1, hV⟩, ⟨eS, hS⟩, ⟨eR, hRR⟩, ⟨eC, hCn⟩⟩, hI2, hI3, hI4, hI5, hI6, hI7, hI8, -, hI10, hI11⟩ := id hI
  refine hg_aload_n C 0 d_MM_giveUp_0 rfl rfl ?_
  refine f_MM_54 C kx rfl d_MM_giveUp_1 ?_
  rcases hI6 with pn | ⟨s, hs, ep, e14, hv40⟩
  · refine hg_tv (show cr_pen ad M = .null by rw [cr_pen, pn]; exact if_pos (by decide)) ?_
    refine hg_astore_nN (lv' := [(1, .null), (0, .ref (ad 0 0))]) C d_MM_giveUp_4 rfl (by decide) rfl ?_
    refine hg_aload_nN C 0 d_MM_giveUp_5 rfl rfl ?_
    refine hg_ifnonnullN C d_MM_giveUp_6 ?_
    exact th_ISE (is := 168) (text := "no session is pending") (sa := Γ.2.2 8) C hne hl9 (List.mem_of_getElem? (i := 8) rfl) d_MM_giveUp_9 d_MM_giveUp_12 d_MM_giveUp_13 d_MM_giveUp_15 d_MM_giveUp_18 (Nat.le_of_ble_eq_true rfl) (Nat.le_of_ble_eq_true rfl) (Nat.le_of_ble_eq_true rfl) (Nat.le_of_ble_eq_true rfl) (Nat.le_of_ble_eq_true rfl) (Nat.le_of_ble_eq_true rfl) (⟨rfl, by rw [sp_giveUp, gd1 (fun z => z (by rw [pn]; decide))], by rw [sp_giveUp, gd1 (fun z => z (by rw [pn]; decide))]; exact cr_code 1 hC⟩)
  · refine hg_tv (show cr_pen ad M = .ref (ad 10 s) by rw [cr_pen, ep, if_neg (nI_pos (by omega)), nI_clamp (by omega)]) ?_
    have ks_s : h (ad 10 s) = some (.inr (3, [.int (nI s), .int (M 10 s), .ref (ad 14 (bs M s)), .ref (ad 11 s), .ref (ad 13 (60 * s + sd M s)), .int (M 13 s), .int (M 14 s), .int (M 15 s)])) := hC.1 10 s (livS (by omega) (by omega) (by omega))
    have kt_s : h (ad 11 s) = some (.inr (4, [.ref (ad 12 s)])) := hC.1 11 s (livS (by omega) (by omega) (by omega))
    have ku_s : h (ad 12 s) = some (.inl ((Γ.2.1 0), 360, .inl (sc M s))) := hC.1 12 s (livS (by omega) (by omega) (by omega))
    refine hg_astore_n (lv' := [(1, .ref (ad 10 s)), (0, .ref (ad 0 0))]) C d_MM_giveUp_4 rfl (by decide) rfl ?_
    refine hg_aload_n C 0 d_MM_giveUp_5 rfl rfl ?_
    refine hg_ifnonnull C 19 d_MM_giveUp_6 (by decide) ?_
    refine hg_aload_n C 0 d_MM_giveUp_19 rfl rfl ?_
    refine hg_iconst (v := 0) C d_MM_giveUp_20 (by decide) ?_
    refine p_MM_135 (fs' := [.int (nI s), .int (M 10 s), .ref (ad 14 (bs M s)), .ref (ad 11 s), .ref (ad 13 (60 * s + sd M s)), .int (M 13 s), .int 0, .int (M 15 s)]) C ks_s rfl rfl (Nat.le_of_ble_eq_true rfl) rfl d_MM_giveUp_21 ?_
    obtain ⟨h1, eh1⟩ : ∃ z, z = hp_up h (ad 10 s) (.inr (3, [.int (nI s), .int (M 10 s), .ref (ad 14 (bs M s)), .ref (ad 11 s), .ref (ad 13 (60 * s + sd M s)), .int (M 13 s), .int 0, .int (M 15 s)])) := ⟨_, rfl⟩
    refine hg_eq eh1.symm ?_
    have k2 : h1 (ad 0 0) = some (.inr (6, [.ref (ad 1 0), .ref (ad 2 0), .int (M 1 0), .ref (ad 3 0), .int (M 9 0), .ref (ad 4 0), .int (M 4 0), .ref (ad 14 (nV M - 1)), .ref (ad 5 0), .int (M 22 0), .ref (ad 6 0), cr_pen ad M])) := by rw [eh1]; exact hp_up_g kx (fun z => absurd (hC.2 0 0 10 s (liv0 (by omega)) (livS (by omega) (by omega) (by omega)) z).1 (by decide))
    have k3 : h1 (ad 1 0) = some (.inl ((Γ.2.1 0), 60, .inl (M 2))) := by rw [eh1]; exact hp_up_g kA1 (fun z => absurd (hC.2 1 0 10 s (liv0 (by omega)) (livS (by omega) (by omega) (by omega)) z).1 (by decide))
    have k4 : h1 (ad 2 0) = some (.inl ((Γ.2.1 0), 60, .inl (M 3))) := by rw [eh1]; exact hp_up_g kA2 (fun z => absurd (hC.2 2 0 10 s (liv0 (by omega)) (livS (by omega) (by omega) (by omega)) z).1 (by decide))
    have k5 : h1 (ad 3 0) = some (.inl ((Γ.2.1 3), 20, .inr (.inr (.inr (.inr (fun j => if j < nS M then some (ad 10 j) else none)))))) := by rw [eh1]; exact hp_up_g kA3 (fun z => absurd (hC.2 3 0 10 s (liv0 (by omega)) (livS (by omega) (by omega) (by omega)) z).1 (by decide))
    have k6 : h1 (ad 4 0) = some (.inl ((Γ.2.1 4), 40, .inr (.inr (.inr (.inr (fun j => if j < nV M then some (ad 14 j) else none)))))) := by rw [eh1]; exact hp_up_g kA4 (fun z => absurd (hC.2 4 0 10 s (liv0 (by omega)) (livS (by omega) (by omega) (by omega)) z).1 (by decide))
    have k7 : h1 (ad 5 0) = some (.inl ((Γ.2.1 5), 10, .inr (.inr (.inr (.inr (fun j => if j < nR M then some (ad 18 j) else none)))))) := by rw [eh1]; exact hp_up_g kA5 (fun z => absurd (hC.2 5 0 10 s (liv0 (by omega)) (livS (by omega) (by omega) (by omega)) z).1 (by decide))
    have k8 : h1 (ad 6 0) = some (.inr (0, [.ref (ad 7 0), .ref (ad 8 0), .ref (ad 9 0), .int (M 27 0)])) := by rw [eh1]; exact hp_up_g kA6 (fun z => absurd (hC.2 6 0 10 s (liv0 (by omega)) (livS (by omega) (by omega) (by omega)) z).1 (by decide))
    have k9 : h1 (ad 7 0) = some (.inl ((Γ.2.1 0), 300, .inl (M 28))) := by rw [eh1]; exact hp_up_g kA7 (fun z => absurd (hC.2 7 0 10 s (liv0 (by omega)) (livS (by omega) (by omega) (by omega)) z).1 (by decide))
    have k10 : h1 (ad 8 0) = some (.inl ((Γ.2.1 0), 300, .inl (M 29))) := by rw [eh1]; exact hp_up_g kA8 (fun z => absurd (hC.2 8 0 10 s (liv0 (by omega)) (livS (by omega) (by omega) (by omega)) z).1 (by decide))
    have k11 : h1 (ad 9 0) = some (.inl ((Γ.2.1 0), 300, .inl (M 30))) := by rw [eh1]; exact hp_up_g kA9 (fun z => absurd (hC.2 9 0 10 s (liv0 (by omega)) (livS (by omega) (by omega) (by omega)) z).1 (by decide))
    have k12 : h1 (ad 11 s) = some (.inr (4, [.ref (ad 12 s)])) := by rw [eh1]; exact hp_up_g kt_s (fun z => absurd (hC.2 11 s 10 s (livS (by omega) (by omega) (by omega)) (livS (by omega) (by omega) (by omega)) z).1 (by decide))
    have k13 : h1 (ad 12 s) = some (.inl ((Γ.2.1 0), 360, .inl (sc M s))) := by rw [eh1]; exact hp_up_g ku_s (fun z => absurd (hC.2 12 s 10 s (livS (by omega) (by omega) (by omega)) (livS (by omega) (by omega) (by omega)) z).1 (by decide))
    have k14 : h1 (ad 10 s) = some (.inr (3, [.int (nI s), .int (M 10 s), .ref (ad 14 (bs M s)), .ref (ad 11 s), .ref (ad 13 (60 * s + sd M s)), .int (M 13 s), .int 0, .int (M 15 s)])) := by rw [eh1]; exact hp_up_s
    refine hg_aload_n C 1 d_MM_giveUp_24 rfl rfl ?_
    refine hg_null C d_MM_giveUp_25 ?_
    refine p_MM_54 (fs' := [.ref (ad 1 0), .ref (ad 2 0), .int (M 1 0), .ref (ad 3 0), .int (M 9 0), .ref (ad 4 0), .int (M 4 0), .ref (ad 14 (nV M - 1)), .ref (ad 5 0), .int (M 22 0), .ref (ad 6 0), .null]) C k2 rfl rfl (Nat.le_of_ble_eq_true rfl) rfl d_MM_giveUp_26 ?_
    obtain ⟨h15, eh15⟩ : ∃ z, z = hp_up h1 (ad 0 0) (.inr (6, [.ref (ad 1 0), .ref (ad 2 0), .int (M 1 0), .ref (ad 3 0), .int (M 9 0), .ref (ad 4 0), .int (M 4 0), .ref (ad 14 (nV M - 1)), .ref (ad 5 0), .int (M 22 0), .ref (ad 6 0), .null])) := ⟨_, rfl⟩
    refine hg_eq eh15.symm ?_
    have k16 : h15 (ad 1 0) = some (.inl ((Γ.2.1 0), 60, .inl (M 2))) := by rw [eh15]; exact hp_up_g k3 (fun z => absurd (hC.2 1 0 0 0 (liv0 (by omega)) (liv0 (by omega)) z).1 (by decide))
    have k17 : h15 (ad 2 0) = some (.inl ((Γ.2.1 0), 60, .inl (M 3))) := by rw [eh15]; exact hp_up_g k4 (fun z => absurd (hC.2 2 0 0 0 (liv0 (by omega)) (liv0 (by omega)) z).1 (by decide))
    have k18 : h15 (ad 3 0) = some (.inl ((Γ.2.1 3), 20, .inr (.inr (.inr (.inr (fun j => if j < nS M then some (ad 10 j) else none)))))) := by rw [eh15]; exact hp_up_g k5 (fun z => absurd (hC.2 3 0 0 0 (liv0 (by omega)) (liv0 (by omega)) z).1 (by decide))
    have k19 : h15 (ad 4 0) = some (.inl ((Γ.2.1 4), 40, .inr (.inr (.inr (.inr (fun j => if j < nV M then some (ad 14 j) else none)))))) := by rw [eh15]; exact hp_up_g k6 (fun z => absurd (hC.2 4 0 0 0 (liv0 (by omega)) (liv0 (by omega)) z).1 (by decide))
    have k20 : h15 (ad 5 0) = some (.inl ((Γ.2.1 5), 10, .inr (.inr (.inr (.inr (fun j => if j < nR M then some (ad 18 j) else none)))))) := by rw [eh15]; exact hp_up_g k7 (fun z => absurd (hC.2 5 0 0 0 (liv0 (by omega)) (liv0 (by omega)) z).1 (by decide))
    have k21 : h15 (ad 6 0) = some (.inr (0, [.ref (ad 7 0), .ref (ad 8 0), .ref (ad 9 0), .int (M 27 0)])) := by rw [eh15]; exact hp_up_g k8 (fun z => absurd (hC.2 6 0 0 0 (liv0 (by omega)) (liv0 (by omega)) z).1 (by decide))
    have k22 : h15 (ad 7 0) = some (.inl ((Γ.2.1 0), 300, .inl (M 28))) := by rw [eh15]; exact hp_up_g k9 (fun z => absurd (hC.2 7 0 0 0 (liv0 (by omega)) (liv0 (by omega)) z).1 (by decide))
    have k23 : h15 (ad 8 0) = some (.inl ((Γ.2.1 0), 300, .inl (M 29))) := by rw [eh15]; exact hp_up_g k10 (fun z => absurd (hC.2 8 0 0 0 (liv0 (by omega)) (liv0 (by omega)) z).1 (by decide))
    have k24 : h15 (ad 9 0) = some (.inl ((Γ.2.1 0), 300, .inl (M 30))) := by rw [eh15]; exact hp_up_g k11 (fun z => absurd (hC.2 9 0 0 0 (liv0 (by omega)) (liv0 (by omega)) z).1 (by decide))
    have k25 : h15 (ad 11 s) = some (.inr (4, [.ref (ad 12 s)])) := by rw [eh15]; exact hp_up_g k12 (fun z => absurd (hC.2 11 s 0 0 (livS (by omega) (by omega) (by omega)) (liv0 (by omega)) z).1 (by decide))
    have k26 : h15 (ad 12 s) = some (.inl ((Γ.2.1 0), 360, .inl (sc M s))) := by rw [eh15]; exact hp_up_g k13 (fun z => absurd (hC.2 12 s 0 0 (livS (by omega) (by omega) (by omega)) (liv0 (by omega)) z).1 (by decide))
    have k27 : h15 (ad 10 s) = some (.inr (3, [.int (nI s), .int (M 10 s), .ref (ad 14 (bs M s)), .ref (ad 11 s), .ref (ad 13 (60 * s + sd M s)), .int (M 13 s), .int 0, .int (M 15 s)])) := by rw [eh15]; exact hp_up_g k14 (fun z => absurd (hC.2 10 s 0 0 (livS (by omega) (by omega) (by omega)) (liv0 (by omega)) z).1 (by decide))
    have k28 : h15 (ad 0 0) = some (.inr (6, [.ref (ad 1 0), .ref (ad 2 0), .int (M 1 0), .ref (ad 3 0), .int (M 9 0), .ref (ad 4 0), .int (M 4 0), .ref (ad 14 (nV M - 1)), .ref (ad 5 0), .int (M 22 0), .ref (ad 6 0), .null])) := by rw [eh15]; exact hp_up_s
    refine hg_aload_n C 0 d_MM_giveUp_29 rfl rfl ?_
    refine f_MM_170 C k27 rfl d_MM_giveUp_30 ?_
    exact hg_iret C hr rfl d_MM_giveUp_33 (Nat.le_of_ble_eq_true rfl) (Nat.le_of_ble_eq_true rfl) (⟨by rw [sp_giveUp, gd0 (show ¬ M 26 0 < 0 by rw [ep]; exact nI_pos (by omega)) trivial, ep], by rw [sp_giveUp, gd0 (show ¬ M 26 0 < 0 by rw [ep]; exact nI_pos (by omega)) trivial], ad, rfl, by rw [sp_giveUp, gd0 (show ¬ M 26 0 < 0 by rw [ep]; exact nI_pos (by omega)) trivial, ep, nI_clamp (by omega)]; exact cr_giveUp hC hs eh1 eh15⟩)
abbrev rm_MM_pendingWithConflict : Room := { frames := 7, cells := 2, slots := 12, locals := 111 }
set_option maxHeartbeats 4000000 in
set_option maxRecDepth 100000 in
theorem k_MM_pendingWithConflict (l : Launch) (hl9 : l.stackTraces = false) (Γ : Gam) (h : Pic) (ad : Nat → Nat → Nat) (M : Mem) (hC : cr_at Γ ad M h) (hI : Inv0 M) (k : Int32) : kM l Γ y_MM_pendingWithConflict w_MM_pendingWithConflict rm_MM_pendingWithConflict [.ref (ad 0 0), .int k] h (fun r u => u = h ∧ ∃ s, s < nS M ∧ M 26 0 = nI s ∧ M 14 s = 1 ∧ nV M < 40 ∧ r = some (.ref (ad 10 s)) ∧ inr k (nI (nC M))) (fun E u => u = h ∧ ((E = IAE ∧ ¬ b_con M k) ∨ (E = ISE ∧ ¬ k < 0 ∧ M 26 0 = -1))) 2 12 := by
  refine hg_entry (own := "ModelMerge") (cc := b_MM_pendingWithConflict) (maxL := 3) (ret := (some (.object "ModelMerge$Session"))) (lv0 := [(0, .ref (ad 0 0)), (1, .int k)]) (by decide) rfl rfl (Nat.le_of_ble_eq_true rfl) rfl ?_
  intro p e s m args below meth c A C hne hr
  have kx : h (ad 0 0) = some (.inr (6, [.ref (ad 1 0), .ref (ad 2 0), .int (M 1 0), .ref (ad 3 0), .int (M 9 0), .ref (ad 4 0), .int (M 4 0), .ref (ad 14 (nV M - 1)), .ref (ad 5 0), .int (M 22 0), .ref (ad 6 0), cr_pen ad M])) := hC.1 0 0 (liv0 (by omega))
  have kA1 : h (ad 1 0) = some (.inl ((Γ.2.1 0), 60, .inl (M 2))) := hC.1 1 0 (liv0 (by omega))
  have kA2 : h (ad 2 0) = some (.inl ((Γ.2.1 0), 60, .inl (M 3))) := hC.1 2 0 (liv0 (by omega))
  have kA3 : h (ad 3 0) = some (.inl ((Γ.2.1 3), 20, .inr (.inr (.inr (.inr (fun j => if j < nS M then some (ad 10 j) else none)))))) := hC.1 3 0 (liv0 (by omega))
  have kA4 : h (ad 4 0) = some (.inl ((Γ.2.1 4), 40, .inr (.inr (.inr (.inr (fun j => if j < nV M then some (ad 14 j) else none)))))) := hC.1 4 0 (liv0 (by omega))
  have kA5 : h (ad 5 0) = some (.inl ((Γ.2.1 5), 10, .inr (.inr (.inr (.inr (fun j => if j < nR M then some (ad 18 j) else none)))))) := hC.1 5 0 (liv0 (by omega))
  have kA6 : h (ad 6 0) = some (.inr (0, [.ref (ad 7 0), .ref (ad 8 0), .ref (ad 9 0), .int (M 27 0)])) := hC.1 6 0 (liv0 (by omega))
  have kA7 : h (ad 7 0) = some (.inl ((Γ.2.1 0), 300, .inl (M 28))) := hC.1 7 0 (liv0 (by omega))
  have kA8 : h (ad 8 0) = some (.inl ((Γ.2.1 0), 300, .inl (M 29))) := hC.1 8 0 (liv0 (by omega))
  have kA9 : h (ad 9 0) = some (.inl ((Γ.2.1 0), 300, .inl (M 30))) := hC.1 9 0 (liv0 (by omega))
  obtain ⟨⟨⟨eT, hT⟩, ⟨eV, hV1, hV⟩, ⟨eS, hS⟩, ⟨eR, hRR⟩, ⟨eC, hCn⟩⟩, hI2, hI3, hI4, hI5, hI6, hI7, hI8, -, hI10, hI11⟩ := id hI
  refine hg_iload_n C 1 d_MM_pendingWithConflict_0 rfl rfl ?_
  refine hg_Sn C (k_MM_checkNotNegative l hl9 Γ _ k) (cw_MM_220 C.2.2.2.2.1 rfl rfl ⟨Nat.le_of_ble_eq_true rfl, Nat.le_of_ble_eq_true rfl⟩) rfl rfl (Nat.le_of_ble_eq_true rfl) d_MM_pendingWithConflict_1 ⟨Nat.le_of_ble_eq_true rfl, Nat.le_of_ble_eq_true rfl⟩ (fun cb1 => ?_) (fun cb1 => hg_out C hne (Nat.le_of_ble_eq_true rfl) (Nat.le_of_ble_eq_true rfl) (⟨rfl, Or.inl ⟨rfl, fun z => z.1 cb1⟩⟩))
  refine hg_aload_n C 0 d_MM_pendingWithConflict_4 rfl rfl ?_
  refine f_MM_54 C kx rfl d_MM_pendingWithConflict_5 ?_
  rcases hI6 with pn | ⟨s, hs, ep, e14, hv40⟩
  · refine hg_tv (show cr_pen ad M = .null by rw [cr_pen, pn]; exact if_pos (by decide)) ?_
    refine hg_astore_nN (lv' := [(2, .null), (0, .ref (ad 0 0)), (1, .int k)]) C d_MM_pendingWithConflict_8 rfl (by decide) rfl ?_
    refine hg_aload_nN C 0 d_MM_pendingWithConflict_9 rfl rfl ?_
    refine hg_ifnonnullN C d_MM_pendingWithConflict_10 ?_
    exact th_ISE (is := 168) (text := "no session is pending") (sa := Γ.2.2 8) C hne hl9 (List.mem_of_getElem? (i := 8) rfl) d_MM_pendingWithConflict_13 d_MM_pendingWithConflict_16 d_MM_pendingWithConflict_17 d_MM_pendingWithConflict_19 d_MM_pendingWithConflict_22 (Nat.le_of_ble_eq_true rfl) (Nat.le_of_ble_eq_true rfl) (Nat.le_of_ble_eq_true rfl) (Nat.le_of_ble_eq_true rfl) (Nat.le_of_ble_eq_true rfl) (Nat.le_of_ble_eq_true rfl) (⟨rfl, Or.inr ⟨rfl, cb1, pn⟩⟩)
  · refine hg_tv (show cr_pen ad M = .ref (ad 10 s) by rw [cr_pen, ep, if_neg (nI_pos (by omega)), nI_clamp (by omega)]) ?_
    have ks_s : h (ad 10 s) = some (.inr (3, [.int (nI s), .int (M 10 s), .ref (ad 14 (bs M s)), .ref (ad 11 s), .ref (ad 13 (60 * s + sd M s)), .int (M 13 s), .int (M 14 s), .int (M 15 s)])) := hC.1 10 s (livS (by omega) (by omega) (by omega))
    have kt_s : h (ad 11 s) = some (.inr (4, [.ref (ad 12 s)])) := hC.1 11 s (livS (by omega) (by omega) (by omega))
    have ku_s : h (ad 12 s) = some (.inl ((Γ.2.1 0), 360, .inl (sc M s))) := hC.1 12 s (livS (by omega) (by omega) (by omega))
    refine hg_astore_n (lv' := [(2, .ref (ad 10 s)), (0, .ref (ad 0 0)), (1, .int k)]) C d_MM_pendingWithConflict_8 rfl (by decide) rfl ?_
    refine hg_aload_n C 0 d_MM_pendingWithConflict_9 rfl rfl ?_
    refine hg_ifnonnull C 23 d_MM_pendingWithConflict_10 (by decide) ?_
    refine hg_iload_n C 2 d_MM_pendingWithConflict_23 rfl rfl ?_
    refine hg_aload_n C 1 d_MM_pendingWithConflict_24 rfl rfl ?_
    refine f_MM_50 C kx rfl d_MM_pendingWithConflict_25 ?_
    refine f_MM_129 C kA6 rfl d_MM_pendingWithConflict_28 ?_
    refine hg_ti eC ?_
    refine hg_Sn C (k_MM_checkBelow l hl9 Γ _ k (nI (nC M))) (cw_MM_68 C.2.2.2.2.1 rfl rfl ⟨Nat.le_of_ble_eq_true rfl, Nat.le_of_ble_eq_true rfl⟩) rfl rfl (Nat.le_of_ble_eq_true rfl) d_MM_pendingWithConflict_31 ⟨Nat.le_of_ble_eq_true rfl, Nat.le_of_ble_eq_true rfl⟩ (fun cb31 => ?_) (fun cb31 => hg_out C hne (Nat.le_of_ble_eq_true rfl) (Nat.le_of_ble_eq_true rfl) (⟨rfl, Or.inl ⟨rfl, fun z => z.2.elim (fun y => absurd y (by rw [ep]; exact nI_pos (by omega))) (fun y => cb31 ⟨cb1, y⟩)⟩⟩))
    refine hg_aload_n C 0 d_MM_pendingWithConflict_34 rfl rfl ?_
    exact hg_aret C hr (Or.inr ⟨_, rfl⟩) d_MM_pendingWithConflict_35 (Nat.le_of_ble_eq_true rfl) (Nat.le_of_ble_eq_true rfl) (⟨rfl, s, hs, ep, e14, hv40, rfl, cb31⟩)
theorem c_get_in {T : Nat → Int32} {n k : Nat} (hk : k < n) (hn : n ≤ 300) : c_get T (nI n) (nI k) = T k := by
  rw [c_get, if_pos ⟨nI_pos (by omega), nI_ge hk (by omega), nI_ge (b := 300) (by omega) (by omega)⟩, nI_clamp (by omega)]
theorem con_v {M : Mem} (hI : Inv0 M) {k : Nat} (hk : k < nC M) (hv : nV M - 1 < nV M) : s_val (vc M (nV M - 1)) (c_get (M 28) (nI (nC M)) (nI k)) (c_get (M 29) (nI (nC M)) (nI k)) = if M 29 k < 0 then (if M 5 (60 * (nV M - 1) + (M 28 k).toNatClampNeg) = 0 then 0 else 1) else M 6 (5 * (60 * (nV M - 1) + (M 28 k).toNatClampNeg) + (M 29 k).toNatClampNeg) := by
  have hN := hI.1.2.2.2.2.2
  have hT := hI.1.1.2
  obtain ⟨⟨t, ht, e1⟩, h2, -⟩ := hI.2.2.2.2.2.2.1 k hk
  rw [c_get_in hk hN, c_get_in hk hN, e1, nI_clamp (by omega)]
  rcases h2 with e2 | ⟨f, hf, e2⟩
  · rw [e2, if_pos (by decide), vc_w (by omega)]
    rcases hI.2.2.2.2.2.2.2.1 _ hv t (by omega) with z | z
    · rw [z.1]; rfl
    · rw [z.1]; rfl
  · rw [e2, if_neg (nI_pos (by omega)), vc_f (by omega) hf, nI_clamp (by omega)]
theorem con_s {M : Mem} (hI : Inv0 M) {k s : Nat} (hk : k < nC M) (hs : s < nS M) (ep : M 26 0 = nI s) : s_val (sc M s) (c_get (M 28) (nI (nC M)) (nI k)) (c_get (M 29) (nI (nC M)) (nI k)) = if M 29 k < 0 then @ite _ (stv (mset M 0 0 0) (M 26 0).toNatClampNeg (sd M (M 26 0).toNatClampNeg) (M 28 k).toNatClampNeg 0 = 0) (Classical.propDecidable _) 0 1 else stv (mset M 0 0 0) (M 26 0).toNatClampNeg (sd M (M 26 0).toNatClampNeg) (M 28 k).toNatClampNeg ((M 29 k).toNatClampNeg + 1) := by
  have hN := hI.1.2.2.2.2.2
  have hT := hI.1.1.2
  have hS := hI.1.2.2.1.2
  obtain ⟨⟨t, ht, e1⟩, h2, -⟩ := hI.2.2.2.2.2.2.1 k hk
  rw [c_get_in hk hN, c_get_in hk hN, e1, ep, nI_clamp (by omega), nI_clamp (by omega), stv_code, stv_code]
  rcases h2 with e2 | ⟨f, hf, e2⟩
  · rw [e2, if_pos (by decide), sc_w (by omega)]
    exact stv_01 (stv_bool hI hs (hI.2.1 s hs).2.1.2 (by omega))
  · rw [e2, if_neg (nI_pos (by omega)), sc_f (by omega) hf, nI_clamp (by omega)]
abbrev rm_MM_conflict : Room := { frames := 8, cells := 3, slots := 18, locals := 133 }
set_option maxHeartbeats 4000000 in
set_option maxRecDepth 100000 in
theorem k_MM_conflict (l : Launch) (hl9 : l.stackTraces = false) (Γ : Gam) (h : Pic) (ad : Nat → Nat → Nat) (M : Mem) (hC : cr_at Γ ad M h) (hI : Inv0 M)  (k0 w0 : Int32) : kM l Γ y_MM_conflict w_MM_conflict rm_MM_conflict [.ref (ad 0 0), .int k0, .int w0] h (pubQ Γ ad (sp_conflict M k0 w0)) (pubX Γ ad (sp_conflict M k0 w0)) 3 18 := by
  refine hg_entry (own := "ModelMerge") (cc := b_MM_conflict) (maxL := 6) (ret := (some .int)) (lv0 := [(0, .ref (ad 0 0)), (1, .int k0), (2, .int w0)]) (by decide) rfl rfl (Nat.le_of_ble_eq_true rfl) rfl ?_
  intro p e s m args below meth c A C hne hr
  have kx : h (ad 0 0) = some (.inr (6, [.ref (ad 1 0), .ref (ad 2 0), .int (M 1 0), .ref (ad 3 0), .int (M 9 0), .ref (ad 4 0), .int (M 4 0), .ref (ad 14 (nV M - 1)), .ref (ad 5 0), .int (M 22 0), .ref (ad 6 0), cr_pen ad M])) := hC.1 0 0 (liv0 (by omega))
  have kA1 : h (ad 1 0) = some (.inl ((Γ.2.1 0), 60, .inl (M 2))) := hC.1 1 0 (liv0 (by omega))
  have kA2 : h (ad 2 0) = some (.inl ((Γ.2.1 0), 60, .inl (M 3))) := hC.1 2 0 (liv0 (by omega))
  have kA3 : h (ad 3 0) = some (.inl ((Γ.2.1 3), 20, .inr (.inr (.inr (.inr (fun j => if j < nS M then some (ad 10 j) else none)))))) := hC.1 3 0 (liv0 (by omega))
  have kA4 : h (ad 4 0) = some (.inl ((Γ.2.1 4), 40, .inr (.inr (.inr (.inr (fun j => if j < nV M then some (ad 14 j) else none)))))) := hC.1 4 0 (liv0 (by omega))
  have kA5 : h (ad 5 0) = some (.inl ((Γ.2.1 5), 10, .inr (.inr (.inr (.inr (fun j => if j < nR M then some (ad 18 j) else none)))))) := hC.1 5 0 (liv0 (by omega))
  have kA6 : h (ad 6 0) = some (.inr (0, [.ref (ad 7 0), .ref (ad 8 0), .ref (ad 9 0), .int (M 27 0)])) := hC.1 6 0 (liv0 (by omega))
  have kA7 : h (ad 7 0) = some (.inl ((Γ.2.1 0), 300, .inl (M 28))) := hC.1 7 0 (liv0 (by omega))
  have kA8 : h (ad 8 0) = some (.inl ((Γ.2.1 0), 300, .inl (M 29))) := hC.1 8 0 (liv0 (by omega))
  have kA9 : h (ad 9 0) = some (.inl ((Γ.2.1 0), 300, .inl (M 30))) := hC.1 9 0 (liv0 (by omega))
  obtain ⟨⟨⟨eT, hT⟩, ⟨eV, hV1, hV⟩, ⟨eS, hS⟩, ⟨eR, hRR⟩, ⟨eC, hCn⟩⟩, hI2, hI3, hI4, hI5, hI6, hI7, hI8, -, hI10, hI11⟩ := id hI
  refine hg_iload_n C 2 d_MM_conflict_0 rfl rfl ?_
  refine hg_iconst (v := 5) C d_MM_conflict_1 (by decide) ?_
  refine hg_Sn C (k_MM_checkBelow l hl9 Γ _ w0 5) (cw_MM_68 C.2.2.2.2.1 rfl rfl ⟨Nat.le_of_ble_eq_true rfl, Nat.le_of_ble_eq_true rfl⟩) rfl rfl (Nat.le_of_ble_eq_true rfl) d_MM_conflict_2 ⟨Nat.le_of_ble_eq_true rfl, Nat.le_of_ble_eq_true rfl⟩ (fun cb2 => ?_) (fun cb2 => hg_out C hne (Nat.le_of_ble_eq_true rfl) (Nat.le_of_ble_eq_true rfl) (⟨Or.inl ⟨rfl, by rw [sp_conflict, gd1 (fun z => cb2 z.2)]⟩, by rw [sp_conflict, gd1 (fun z => cb2 z.2)]; exact cr_code 1 hC⟩))
  refine hg_aload_n C 0 d_MM_conflict_5 rfl rfl ?_
  refine hg_iload_n C 1 d_MM_conflict_6 rfl rfl ?_
  refine hg_V (q := ("ModelMerge", T_MM, 12)) C (k_MM_pendingWithConflict l hl9 Γ _ ad M hC hI k0) (cw_MM_138 C.2.2.2.2.1 rfl rfl ⟨Nat.le_of_ble_eq_true rfl, Nat.le_of_ble_eq_true rfl⟩) kx rfl rfl rfl (Nat.le_of_ble_eq_true rfl) d_MM_conflict_7 ⟨Nat.le_of_ble_eq_true rfl, Nat.le_of_ble_eq_true rfl⟩ (fun r u hq => ?_) (fun E u hq => hg_out C hne (Nat.le_of_ble_eq_true rfl) (Nat.le_of_ble_eq_true rfl) (by rw [hq.1]; exact hq.2.elim (fun z => by rw [z.1]; have z := z.2; exact ⟨Or.inl ⟨rfl, by rw [sp_conflict, gd1 (fun y => z y.1)]⟩, by rw [sp_conflict, gd1 (fun y => z y.1)]; exact cr_code 1 hC⟩) (fun z => by rw [z.1]; have z1 := z.2.1; have z2 := z.2.2; exact ⟨Or.inr ⟨rfl, by rw [sp_conflict, gd2 (⟨⟨z1, Or.inl (by rw [z2]; decide)⟩, cb2⟩) (fun y => y (by rw [z2]; decide))]⟩, by rw [sp_conflict, gd2 (⟨⟨z1, Or.inl (by rw [z2]; decide)⟩, cb2⟩) (fun y => y (by rw [z2]; decide))]; exact cr_code 2 hC⟩)))
  obtain ⟨hu, s, hs, ep, e14, hv40, rfl, hk9⟩ := hq
  refine hg_eq hu ?_
  obtain ⟨k, hk, rfl⟩ := inr_nat (n := nC M) (id hk9) (by omega)
  have hvl : nV M - 1 < nV M := by omega
  have ks_s : h (ad 10 s) = some (.inr (3, [.int (nI s), .int (M 10 s), .ref (ad 14 (bs M s)), .ref (ad 11 s), .ref (ad 13 (60 * s + sd M s)), .int (M 13 s), .int (M 14 s), .int (M 15 s)])) := hC.1 10 s (livS (by omega) (by omega) (by omega))
  have kt_s : h (ad 11 s) = some (.inr (4, [.ref (ad 12 s)])) := hC.1 11 s (livS (by omega) (by omega) (by omega))
  have ku_s : h (ad 12 s) = some (.inl ((Γ.2.1 0), 360, .inl (sc M s))) := hC.1 12 s (livS (by omega) (by omega) (by omega))
  have kv_l : h (ad 14 (nV M - 1)) = some (.inr (5, [.int (nI (nV M - 1)), .int (au M (nV M - 1)), .ref (ad 15 (nV M - 1)), .ref (ad 17 (nV M - 1))])) := hC.1 14 (nV M - 1) (livV (by omega) (by omega) (by omega))
  have kw_l : h (ad 15 (nV M - 1)) = some (.inr (4, [.ref (ad 16 (nV M - 1))])) := hC.1 15 (nV M - 1) (livV (by omega) (by omega) (by omega))
  have ky_l : h (ad 16 (nV M - 1)) = some (.inl ((Γ.2.1 0), 360, .inl (vc M (nV M - 1)))) := hC.1 16 (nV M - 1) (livV (by omega) (by omega) (by omega))
  have kz_l : h (ad 17 (nV M - 1)) = some (.inl ((Γ.2.1 0), 300, .inl (og M (nV M - 1)))) := hC.1 17 (nV M - 1) (livV (by omega) (by omega) (by omega))
  refine hg_astore_n (lv' := [(3, .ref (ad 10 s)), (0, .ref (ad 0 0)), (1, .int (nI k)), (2, .int w0)]) C d_MM_conflict_10 rfl (by decide) rfl ?_
  refine hg_aload_n C 1 d_MM_conflict_11 rfl rfl ?_
  refine f_MM_50 C kx rfl d_MM_conflict_12 ?_
  refine hg_iload_n C 2 d_MM_conflict_15 rfl rfl ?_
  refine hg_VNv (q := ("ModelMerge$Conflicts", T_Cf, 4)) C (k_Cf_thingOf l Γ _ (ad 6 0) (ad 7 0) (ad 8 0) (ad 9 0) (M 28) (M 27 0) kA6 kA7 (nI k)) (cw_MM_141 C.2.2.2.2.1 rfl rfl ⟨Nat.le_of_ble_eq_true rfl, Nat.le_of_ble_eq_true rfl⟩) kA6 rfl rfl rfl (Nat.le_of_ble_eq_true rfl) d_MM_conflict_16 ⟨Nat.le_of_ble_eq_true rfl, Nat.le_of_ble_eq_true rfl⟩ (fun _ => ?_)
  refine hg_istore (lv' := [(4, .int (c_get (M 28) (M 27 0) (nI k))), (3, .ref (ad 10 s)), (0, .ref (ad 0 0)), (1, .int (nI k)), (2, .int w0)]) C d_MM_conflict_19 (by decide) rfl ?_
  refine hg_aload_n C 2 d_MM_conflict_21 rfl rfl ?_
  refine f_MM_50 C kx rfl d_MM_conflict_22 ?_
  refine hg_iload_n C 3 d_MM_conflict_25 rfl rfl ?_
  refine hg_VNv (q := ("ModelMerge$Conflicts", T_Cf, 4)) C (k_Cf_fieldOf l Γ _ (ad 6 0) (ad 7 0) (ad 8 0) (ad 9 0) (M 29) (M 27 0) kA6 kA8 (nI k)) (cw_MM_144 C.2.2.2.2.1 rfl rfl ⟨Nat.le_of_ble_eq_true rfl, Nat.le_of_ble_eq_true rfl⟩) kA6 rfl rfl rfl (Nat.le_of_ble_eq_true rfl) d_MM_conflict_26 ⟨Nat.le_of_ble_eq_true rfl, Nat.le_of_ble_eq_true rfl⟩ (fun _ => ?_)
  refine hg_istore (lv' := [(5, .int (c_get (M 29) (M 27 0) (nI k))), (4, .int (c_get (M 28) (M 27 0) (nI k))), (3, .ref (ad 10 s)), (0, .ref (ad 0 0)), (1, .int (nI k)), (2, .int w0)]) C d_MM_conflict_29 (by decide) rfl ?_
  refine hg_iload_n C 5 d_MM_conflict_31 rfl rfl ?_
  obtain ⟨j, hj, rfl⟩ := inr_nat (n := 5) (id cb2) (by omega)
  rcases (show j = 0 ∨ j = 1 ∨ j = 2 ∨ j = 3 ∨ j = 4 by omega) with rfl | rfl | rfl | rfl | rfl
  · refine hg_tableIn C 64 d_MM_conflict_32 (by decide) (by decide) rfl (by decide) ?_
    refine hg_iload C 1 d_MM_conflict_64 rfl ?_
    exact hg_iret C hr rfl d_MM_conflict_66 (Nat.le_of_ble_eq_true rfl) (Nat.le_of_ble_eq_true rfl) (⟨by rw [sp_conflict, gd0 ⟨⟨nI_pos (by omega), Or.inr hk9.2⟩, cb2⟩ (show ¬ M 26 0 < 0 by rw [ep]; exact nI_pos (by omega))]; show some (Value.int _) = some (Value.int _); refine congrArg (fun z => some (Value.int z)) ?_; rw [eC]; show _ = f_conflict (mset M 0 0 0) (nI k).toNatClampNeg (nI 0); rw [nI_clamp (n := k) (by omega), f_conflict, if_pos (show nI 0 = 0 from rfl)]; exact c_get_in hk (by omega), by rw [sp_conflict, gd0 ⟨⟨nI_pos (by omega), Or.inr hk9.2⟩, cb2⟩ (show ¬ M 26 0 < 0 by rw [ep]; exact nI_pos (by omega))], ad, rfl, by rw [sp_conflict, gd0 ⟨⟨nI_pos (by omega), Or.inr hk9.2⟩, cb2⟩ (show ¬ M 26 0 < 0 by rw [ep]; exact nI_pos (by omega))]; exact cr_code 0 hC⟩)
  · refine hg_tableIn C 67 d_MM_conflict_32 (by decide) (by decide) rfl (by decide) ?_
    refine hg_iload C 0 d_MM_conflict_67 rfl ?_
    exact hg_iret C hr rfl d_MM_conflict_69 (Nat.le_of_ble_eq_true rfl) (Nat.le_of_ble_eq_true rfl) (⟨by rw [sp_conflict, gd0 ⟨⟨nI_pos (by omega), Or.inr hk9.2⟩, cb2⟩ (show ¬ M 26 0 < 0 by rw [ep]; exact nI_pos (by omega))]; show some (Value.int _) = some (Value.int _); refine congrArg (fun z => some (Value.int z)) ?_; rw [eC]; show _ = f_conflict (mset M 0 0 0) (nI k).toNatClampNeg (nI 1); rw [nI_clamp (n := k) (by omega), f_conflict, if_neg (by decide), if_pos (show nI 1 = 1 from rfl)]; exact c_get_in hk (by omega), by rw [sp_conflict, gd0 ⟨⟨nI_pos (by omega), Or.inr hk9.2⟩, cb2⟩ (show ¬ M 26 0 < 0 by rw [ep]; exact nI_pos (by omega))], ad, rfl, by rw [sp_conflict, gd0 ⟨⟨nI_pos (by omega), Or.inr hk9.2⟩, cb2⟩ (show ¬ M 26 0 < 0 by rw [ep]; exact nI_pos (by omega))]; exact cr_code 0 hC⟩)
  · refine hg_tableIn C 70 d_MM_conflict_32 (by decide) (by decide) rfl (by decide) ?_
    refine hg_aload_n C 3 d_MM_conflict_70 rfl rfl ?_
    refine f_MM_64 C kx rfl d_MM_conflict_71 ?_
    refine f_MM_147 C kv_l rfl d_MM_conflict_74 ?_
    refine hg_iload C 1 d_MM_conflict_77 rfl ?_
    refine hg_iload C 0 d_MM_conflict_79 rfl ?_
    refine hg_VNv (q := ("ModelMerge$State", T_St, 1)) C (k_St_value l Γ _ (ad 15 (nV M - 1)) (ad 16 (nV M - 1)) (vc M (nV M - 1)) kw_l ky_l (c_get (M 28) (M 27 0) (nI k)) (c_get (M 29) (M 27 0) (nI k))) (cw_MM_151 C.2.2.2.2.1 rfl rfl ⟨Nat.le_of_ble_eq_true rfl, Nat.le_of_ble_eq_true rfl⟩) kw_l rfl rfl rfl (Nat.le_of_ble_eq_true rfl) d_MM_conflict_81 ⟨Nat.le_of_ble_eq_true rfl, Nat.le_of_ble_eq_true rfl⟩ (fun _ => ?_)
    exact hg_iret C hr rfl d_MM_conflict_84 (Nat.le_of_ble_eq_true rfl) (Nat.le_of_ble_eq_true rfl) (⟨by rw [sp_conflict, gd0 ⟨⟨nI_pos (by omega), Or.inr hk9.2⟩, cb2⟩ (show ¬ M 26 0 < 0 by rw [ep]; exact nI_pos (by omega))]; show some (Value.int _) = some (Value.int _); refine congrArg (fun z => some (Value.int z)) ?_; rw [eC]; show _ = f_conflict (mset M 0 0 0) (nI k).toNatClampNeg (nI 2); rw [nI_clamp (n := k) (by omega), f_conflict, if_neg (by decide), if_neg (by decide), if_pos (show nI 2 = 2 from rfl)]; exact con_v hI hk hvl, by rw [sp_conflict, gd0 ⟨⟨nI_pos (by omega), Or.inr hk9.2⟩, cb2⟩ (show ¬ M 26 0 < 0 by rw [ep]; exact nI_pos (by omega))], ad, rfl, by rw [sp_conflict, gd0 ⟨⟨nI_pos (by omega), Or.inr hk9.2⟩, cb2⟩ (show ¬ M 26 0 < 0 by rw [ep]; exact nI_pos (by omega))]; exact cr_code 0 hC⟩)
  · refine hg_tableIn C 85 d_MM_conflict_32 (by decide) (by decide) rfl (by decide) ?_
    refine hg_aload_n C 2 d_MM_conflict_85 rfl rfl ?_
    refine f_MM_155 C ks_s rfl d_MM_conflict_86 ?_
    refine hg_iload C 1 d_MM_conflict_89 rfl ?_
    refine hg_iload C 0 d_MM_conflict_91 rfl ?_
    refine hg_VNv (q := ("ModelMerge$State", T_St, 1)) C (k_St_value l Γ _ (ad 11 s) (ad 12 s) (sc M s) kt_s ku_s (c_get (M 28) (M 27 0) (nI k)) (c_get (M 29) (M 27 0) (nI k))) (cw_MM_151 C.2.2.2.2.1 rfl rfl ⟨Nat.le_of_ble_eq_true rfl, Nat.le_of_ble_eq_true rfl⟩) kt_s rfl rfl rfl (Nat.le_of_ble_eq_true rfl) d_MM_conflict_93 ⟨Nat.le_of_ble_eq_true rfl, Nat.le_of_ble_eq_true rfl⟩ (fun _ => ?_)
    exact hg_iret C hr rfl d_MM_conflict_96 (Nat.le_of_ble_eq_true rfl) (Nat.le_of_ble_eq_true rfl) (⟨by rw [sp_conflict, gd0 ⟨⟨nI_pos (by omega), Or.inr hk9.2⟩, cb2⟩ (show ¬ M 26 0 < 0 by rw [ep]; exact nI_pos (by omega))]; show some (Value.int _) = some (Value.int _); refine congrArg (fun z => some (Value.int z)) ?_; rw [eC]; show _ = f_conflict (mset M 0 0 0) (nI k).toNatClampNeg (nI 3); rw [nI_clamp (n := k) (by omega), f_conflict, if_neg (by decide), if_neg (by decide), if_neg (by decide), if_pos (show nI 3 = 3 from rfl)]; exact con_s hI hk hs ep, by rw [sp_conflict, gd0 ⟨⟨nI_pos (by omega), Or.inr hk9.2⟩, cb2⟩ (show ¬ M 26 0 < 0 by rw [ep]; exact nI_pos (by omega))], ad, rfl, by rw [sp_conflict, gd0 ⟨⟨nI_pos (by omega), Or.inr hk9.2⟩, cb2⟩ (show ¬ M 26 0 < 0 by rw [ep]; exact nI_pos (by omega))]; exact cr_code 0 hC⟩)
  · refine hg_tableOut C 97 d_MM_conflict_32 (by decide) (by decide) ?_
    refine hg_aload_n C 3 d_MM_conflict_97 rfl rfl ?_
    refine f_MM_50 C kx rfl d_MM_conflict_98 ?_
    refine hg_iload_n C 4 d_MM_conflict_101 rfl rfl ?_
    refine hg_VNv (q := ("ModelMerge$Conflicts", T_Cf, 4)) C (k_Cf_sideOf l Γ _ (ad 6 0) (ad 7 0) (ad 8 0) (ad 9 0) (M 30) (M 27 0) kA6 kA9 (nI k)) (cw_MM_156 C.2.2.2.2.1 rfl rfl ⟨Nat.le_of_ble_eq_true rfl, Nat.le_of_ble_eq_true rfl⟩) kA6 rfl rfl rfl (Nat.le_of_ble_eq_true rfl) d_MM_conflict_102 ⟨Nat.le_of_ble_eq_true rfl, Nat.le_of_ble_eq_true rfl⟩ (fun _ => ?_)
    exact hg_iret C hr rfl d_MM_conflict_105 (Nat.le_of_ble_eq_true rfl) (Nat.le_of_ble_eq_true rfl) (⟨by rw [sp_conflict, gd0 ⟨⟨nI_pos (by omega), Or.inr hk9.2⟩, cb2⟩ (show ¬ M 26 0 < 0 by rw [ep]; exact nI_pos (by omega))]; show some (Value.int _) = some (Value.int _); refine congrArg (fun z => some (Value.int z)) ?_; rw [eC]; show _ = f_conflict (mset M 0 0 0) (nI k).toNatClampNeg (nI 4); rw [nI_clamp (n := k) (by omega), f_conflict, if_neg (by decide), if_neg (by decide), if_neg (by decide), if_neg (by decide)]; exact c_get_in hk (by omega), by rw [sp_conflict, gd0 ⟨⟨nI_pos (by omega), Or.inr hk9.2⟩, cb2⟩ (show ¬ M 26 0 < 0 by rw [ep]; exact nI_pos (by omega))], ad, rfl, by rw [sp_conflict, gd0 ⟨⟨nI_pos (by omega), Or.inr hk9.2⟩, cb2⟩ (show ¬ M 26 0 < 0 by rw [ep]; exact nI_pos (by omega))]; exact cr_code 0 hC⟩)
