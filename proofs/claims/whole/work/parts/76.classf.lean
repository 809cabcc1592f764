/-! THE CLASS: finishJoining, join, settle -/
theorem fr7 {u h : Pic} {a1 a2 a3 a4 a5 a6 a7 : Nat} {x1 x2 x3 x4 x5 x6 x7 : va_E} (h1 : u a1 = some x1) (h2 : u a2 = some x2) (h3 : u a3 = some x3) (h4 : u a4 = some x4) (h5 : u a5 = some x5) (h6 : u a6 = some x6) (h7 : u a7 = some x7) (hz : ∀ z, z ≠ a1 → z ≠ a2 → z ≠ a3 → z ≠ a4 → z ≠ a5 → z ≠ a6 → z ≠ a7 → u z = h z) : u = hp_up (hp_up (hp_up (hp_up (hp_up (hp_up (hp_up h a1 x1) a2 x2) a3 x3) a4 x4) a5 x5) a6 x6) a7 x7 := funext fun z => by
  by_cases e7 : z = a7
  · rw [e7, hp_up_s, h7]
  · rw [hp_up_n e7]
    by_cases e6 : z = a6
    · rw [e6, hp_up_s, h6]
    · rw [hp_up_n e6]
      by_cases e5 : z = a5
      · rw [e5, hp_up_s, h5]
      · rw [hp_up_n e5]
        by_cases e4 : z = a4
        · rw [e4, hp_up_s, h4]
        · rw [hp_up_n e4]
          by_cases e3 : z = a3
          · rw [e3, hp_up_s, h3]
          · rw [hp_up_n e3]
            by_cases e2 : z = a2
            · rw [e2, hp_up_s, h2]
            · rw [hp_up_n e2]
              by_cases e1 : z = a1
              · rw [e1, hp_up_s, h1]
              · rw [hp_up_n e1, hz z e1 e2 e3 e4 e5 e6 e7]
theorem cr_fin {Γ : Gam} {ad : Nat → Nat → Nat} {M : Mem} {h u : Pic} (hC : cr_at Γ ad M h) (hI : Inv0 M) (hW : I_nw M) (h40 : nV M < 40) {s : Nat} (hs : s < nS M) (hfit : I_fit M s) (hall : I_all M) {q qs qb qo : Nat} (f1 : h q = none) (f2 : h qs = none) (f3 : h qb = none) (f4 : h qo = none)
    (u1 : u q = some (.inr (5, [.int (nI (nV M)), .int (nI s), .ref qs, .ref qo]))) (u2 : u qs = some (.inr (4, [.ref qb]))) (u3 : u qb = some (.inl (Γ.2.1 0, 360, .inl (fn (jc M s (nC M)))))) (u4 : u qo = some (.inl (Γ.2.1 0, 300, .inl (v_tr (vc M (nV M - 1)) (fn (jc M s (nC M))) (og M (nV M - 1)) (fun _ => 0) (nI (nV M - 1)) (nI (nV M)) (60 * 5))))) (nbo : qb ≠ qo)
    (u5 : u (ad 4 0) = some (.inl (Γ.2.1 4, 40, .inr (.inr (.inr (.inr (va_up (fun j => if j < nV M then some (ad 14 j) else none) (nI (nV M)).toNatClampNeg (some q)))))))) (u6 : u (ad 0 0) = some (.inr (6, [.ref (ad 1 0), .ref (ad 2 0), .int (M 1 0), .ref (ad 3 0), .int (M 9 0), .ref (ad 4 0), .int (nI (nV M + 1)), .ref q, .ref (ad 5 0), .int (M 22 0), .ref (ad 6 0), .null]))) (u7 : u (ad 10 s) = some (.inr (3, [.int (nI s), .int (M 10 s), .ref (ad 14 (bs M s)), .ref (ad 11 s), .ref (ad 13 (60 * s + sd M s)), .int (M 13 s), .int 2, .int (nI (nV M))])))
    (u8 : ∀ z, z ≠ q → z ≠ qs → z ≠ qb → z ≠ qo → z ≠ ad 4 0 → z ≠ ad 0 0 → z ≠ ad 10 s → u z = h z) : ∃ ad', ad' 0 0 = ad 0 0 ∧ cr_at Γ ad' (m_fin M s) u := by
  have hJ := J_of hI
  have hV1 := hI.1.2.1.2.1
  have hbs : ∀ i, i < nS M → bs M i < nV M := fun i hi => (hI.2.1 i hi).1.2
  have n21 : qs ≠ q := fun z => by rw [z, u1] at u2; cases u2
  have n31 : qb ≠ q := fun z => by rw [z, u1] at u3; cases u3
  have n32 : qb ≠ qs := fun z => by rw [z, u2] at u3; cases u3
  have n41 : qo ≠ q := fun z => by rw [z, u1] at u4; cases u4
  have n42 : qo ≠ qs := fun z => by rw [z, u2] at u4; cases u4
  have eJ := fin_vc hI hW h40 hs hfit hall
  rw [← eJ] at u3 u4
  have efi : ∀ k, k ∉ [4, 5, 6, 7, 8, 14, 15, 26] → m_fin M s k = M k := fun k hk => fin_o hk
  have e5 : ∀ i, i < 60 * nV M → m_fin M s 5 i = M 5 i := fun i hi => fin_agv5 hi
  have e6 : ∀ i, i < 300 * nV M → m_fin M s 6 i = M 6 i := fun i hi => fin_agv6 hi
  have e8 : m_fin M s 8 = upd (M 8) (nV M) (nI s) := fin_8
  have e14 : m_fin M s 14 = upd (M 14) s 2 := fin_14
  have e15 : m_fin M s 15 = upd (M 15) s (nI (nV M)) := fin_15
  have e26 : m_fin M s 26 0 = -1 := by rw [fin_26, pk_us]
  have e4 : m_fin M s 4 0 = nI (nV M + 1) := by rw [fin_4, pk_us]
  have eV : nV (m_fin M s) = nV M + 1 := fin_V h40
  obtain ⟨M', eM⟩ : ∃ z, z = m_fin M s := ⟨_, rfl⟩
  rw [← eM] at efi e5 e6 e8 e14 e15 e26 e4 eV u3 u4 ⊢
  clear eM eJ
  obtain ⟨n, en⟩ : ∃ n, n = nV M := ⟨_, rfl⟩
  rw [← en] at h40 e5 e6 e8 e15 e4 eV u1 u3 u4 u5 u6 u7
  have eS : nS M' = nS M := by unfold nS; rw [efi 9 (by decide)]
  have eR : nR M' = nR M := by unfold nR; rw [efi 22 (by decide)]
  have enm : ∀ i, nm M' i = nm M i := fun i => by unfold nm; rw [efi 13 (by decide)]
  have est : ∀ i k t g, i < nS M → k < nm M i → t < 60 → g < 6 → stv M' i k t g = stv M i k t g := fun i k t g hi hk ht hg => by
    have hJi := hJ i hi
    have hb := hbs i hi
    refine stv_cg (n := nm M i) (fun k h1 h2 => (hJi.2.2.1 k h1 h2).1) (by rw [efi 11 (by decide)]) (fun t _ => e5 _ (by omega)) (fun t _ f _ => e6 _ (by omega)) (fun k hk j _ _ => ?_) hk ht hg
    rw [efi k (by revert hk; simp only [List.mem_cons, List.not_mem_nil, or_false]; omega)]
  have nl : ∀ k, 14 ≤ k → k ≤ 17 → ¬ liv M k n := fun k h1 h2 z => by
    rcases z with z | z | z | z | z
    · omega
    · omega
    · omega
    · omega
    · omega
  have eu := fr7 u1 u2 u3 u4 u5 u6 u7 u8
  have W1 := cw_n (k0 := 14) (i0 := n) (z := .inr (5, [.int (nI n), .int (nI s), .ref qs, .ref qo])) hC (nl 14 (by omega) (by omega)) f1
  have W2 := cw_n (k0 := 15) (i0 := n) (z := .inr (4, [.ref qb])) W1 (fun z => z.elim (nl 15 (by omega) (by omega)) (fun y => absurd y.1 (by decide))) (by rw [hp_up_n n21]; exact f2)
  have W3 := cw_n (k0 := 16) (i0 := n) (z := .inl (Γ.2.1 0, 360, .inl (vc M' n))) W2 (fun z => z.elim (fun y => y.elim (nl 16 (by omega) (by omega)) (fun y => absurd y.1 (by decide))) (fun y => absurd y.1 (by decide))) (by rw [hp_up_n n32, hp_up_n n31]; exact f3)
  have W4 := cw_n (k0 := 17) (i0 := n) (z := .inl (Γ.2.1 0, 300, .inl (v_tr (vc M (n - 1)) (vc M' n) (og M (n - 1)) (fun _ => 0) (nI (n - 1)) (nI n) (60 * 5)))) W3 (fun z => z.elim (fun y => y.elim (fun y => y.elim (nl 17 (by omega) (by omega)) (fun y => absurd y.1 (by decide))) (fun y => absurd y.1 (by decide))) (fun y => absurd y.1 (by decide))) (by rw [hp_up_n (Ne.symm nbo), hp_up_n n42, hp_up_n n41]; exact f4)
  have W5 := cw_w (k0 := 4) (i0 := 0) (a := ad 4 0) (z := .inl (Γ.2.1 4, 40, .inr (.inr (.inr (.inr (va_up (fun j => if j < n then some (ad 14 j) else none) (nI n).toNatClampNeg (some q))))))) W4 (Or.inl (Or.inl (Or.inl (Or.inl (liv0 (by omega)))))) (by rw [a_up_k (by decide), a_up_k (by decide), a_up_k (by decide), a_up_k (by decide)])
  have W6 := cw_w (k0 := 0) (i0 := 0) (a := ad 0 0) (z := .inr (6, [.ref (ad 1 0), .ref (ad 2 0), .int (M 1 0), .ref (ad 3 0), .int (M 9 0), .ref (ad 4 0), .int (nI (n + 1)), .ref q, .ref (ad 5 0), .int (M 22 0), .ref (ad 6 0), .null])) W5 (Or.inl (Or.inl (Or.inl (Or.inl (liv0 (by omega)))))) (by rw [a_up_k (by decide), a_up_k (by decide), a_up_k (by decide), a_up_k (by decide)])
  have W7 := cw_w (k0 := 10) (i0 := s) (a := ad 10 s) (z := .inr (3, [.int (nI s), .int (M 10 s), .ref (ad 14 (bs M s)), .ref (ad 11 s), .ref (ad 13 (60 * s + sd M s)), .int (M 13 s), .int 2, .int (nI n)])) W6 (Or.inl (Or.inl (Or.inl (Or.inl (livS (by omega) (by omega) hs))))) (by rw [a_up_k (by decide), a_up_k (by decide), a_up_k (by decide), a_up_k (by decide)])
  rw [← eu] at W7
  obtain ⟨ad', ea⟩ : ∃ z, z = a_up (a_up (a_up (a_up ad 14 n q) 15 n qs) 16 n qb) 17 n qo := ⟨_, rfl⟩
  rw [← ea] at W7
  have ak : ∀ k i, k ≠ 14 → k ≠ 15 → k ≠ 16 → k ≠ 17 → ad' k i = ad k i := fun k i x1 x2 x3 x4 => by rw [ea, a_up_k x4, a_up_k x3, a_up_k x2, a_up_k x1]
  have ai : ∀ k i, i ≠ n → ad' k i = ad k i := fun k i hi => by rw [ea, a_up_i hi, a_up_i hi, a_up_i hi, a_up_i hi]
  have s14 : ad' 14 n = q := by rw [ea, a_up_k (by decide), a_up_k (by decide), a_up_k (by decide), a_up_s]
  have s15 : ad' 15 n = qs := by rw [ea, a_up_k (by decide), a_up_k (by decide), a_up_s]
  have s16 : ad' 16 n = qb := by rw [ea, a_up_k (by decide), a_up_s]
  have s17 : ad' 17 n = qo := by rw [ea, a_up_s]
  clear ea W1 W2 W3 W4 W5 W6 eu
  have evc : ∀ w, w < n → vc M' w = vc M w := fun w hw => vc_cg (fun t ht => e5 _ (by omega)) (fun t ht f hf => e6 _ (by omega))
  refine ⟨ad', ak 0 0 (by decide) (by decide) (by decide) (by decide), cw_c W7 (liv_all (fun k hk => Or.inl (Or.inl (Or.inl (Or.inl (liv0 hk))))) (fun i hi => ?_) (fun i j hi hj => ?_) (fun w hw => ?_) (fun r hr => ?_)) (liv_all (fun k hk => ?_) (fun i hi => ?_) (fun i j hi hj => ?_) (fun w hw => ?_) (fun r hr => ?_))⟩
  · rw [eS] at hi
    exact ⟨Or.inl (Or.inl (Or.inl (Or.inl (livS (by omega) (by omega) hi)))), Or.inl (Or.inl (Or.inl (Or.inl (livS (by omega) (by omega) hi)))), Or.inl (Or.inl (Or.inl (Or.inl (livS (by omega) (by omega) hi))))⟩
  · rw [eS] at hi
    rw [enm] at hj
    exact Or.inl (Or.inl (Or.inl (Or.inl (livM hi hj))))
  · rw [eV] at hw
    rcases Nat.lt_succ_iff_lt_or_eq.mp hw with z | z
    · exact ⟨Or.inl (Or.inl (Or.inl (Or.inl (livV (by omega) (by omega) (by omega))))), Or.inl (Or.inl (Or.inl (Or.inl (livV (by omega) (by omega) (by omega))))), Or.inl (Or.inl (Or.inl (Or.inl (livV (by omega) (by omega) (by omega))))), Or.inl (Or.inl (Or.inl (Or.inl (livV (by omega) (by omega) (by omega)))))⟩
    · exact ⟨Or.inl (Or.inl (Or.inl (Or.inr ⟨rfl, z⟩))), Or.inl (Or.inl (Or.inr ⟨rfl, z⟩)), Or.inl (Or.inr ⟨rfl, z⟩), Or.inr ⟨rfl, z⟩⟩
  · rw [eR] at hr
    exact Or.inl (Or.inl (Or.inl (Or.inl (livR hr))))
  · revert k
    refine le9 ?_ ?_ ?_ ?_ ?_ ?_ ?_ ?_ ?_ ?_
    · rw [c_up_k (by decide), c_up_s, cc, efi 1 (by decide), efi 9 (by decide), e4, efi 22 (by decide), eV, Nat.add_sub_cancel, s14, ak 1 _ (by decide) (by decide) (by decide) (by decide), ak 2 _ (by decide) (by decide) (by decide) (by decide), ak 3 _ (by decide) (by decide) (by decide) (by decide), ak 4 _ (by decide) (by decide) (by decide) (by decide), ak 5 _ (by decide) (by decide) (by decide) (by decide), ak 6 _ (by decide) (by decide) (by decide) (by decide), cr_pen, e26, if_pos (by decide)]
    · rw [c_up_k (by decide), c_up_k (by decide), c_up_k (by decide), c_up_k (by decide), c_up_k (by decide), c_up_k (by decide), c_up_k (by decide), cc, cc, efi 2 (by decide)]
    · rw [c_up_k (by decide), c_up_k (by decide), c_up_k (by decide), c_up_k (by decide), c_up_k (by decide), c_up_k (by decide), c_up_k (by decide), cc, cc, efi 3 (by decide)]
    · rw [c_up_k (by decide), c_up_k (by decide), c_up_k (by decide), c_up_k (by decide), c_up_k (by decide), c_up_k (by decide), c_up_k (by decide), cc, cc, eS, show ad' 10 = ad 10 from funext fun i => ak 10 i (by decide) (by decide) (by decide) (by decide)]
    · rw [c_up_k (by decide), c_up_k (by decide), c_up_s, cc, eV, nI_clamp (by omega), va_up_new (a := ad 14) (a' := ad' 14) s14 (fun j hj => ai 14 j (Nat.ne_of_lt hj))]
    · rw [c_up_k (by decide), c_up_k (by decide), c_up_k (by decide), c_up_k (by decide), c_up_k (by decide), c_up_k (by decide), c_up_k (by decide), cc, cc, eR, show ad' 18 = ad 18 from funext fun i => ak 18 i (by decide) (by decide) (by decide) (by decide)]
    · rw [c_up_k (by decide), c_up_k (by decide), c_up_k (by decide), c_up_k (by decide), c_up_k (by decide), c_up_k (by decide), c_up_k (by decide), cc, cc, efi 27 (by decide), ak 7 _ (by decide) (by decide) (by decide) (by decide), ak 8 _ (by decide) (by decide) (by decide) (by decide), ak 9 _ (by decide) (by decide) (by decide) (by decide)]
    · rw [c_up_k (by decide), c_up_k (by decide), c_up_k (by decide), c_up_k (by decide), c_up_k (by decide), c_up_k (by decide), c_up_k (by decide), cc, cc, efi 28 (by decide)]
    · rw [c_up_k (by decide), c_up_k (by decide), c_up_k (by decide), c_up_k (by decide), c_up_k (by decide), c_up_k (by decide), c_up_k (by decide), cc, cc, efi 29 (by decide)]
    · rw [c_up_k (by decide), c_up_k (by decide), c_up_k (by decide), c_up_k (by decide), c_up_k (by decide), c_up_k (by decide), c_up_k (by decide), cc, cc, efi 30 (by decide)]
  · rw [eS] at hi
    have hJi := hJ i hi
    have hb := hbs i hi
    refine ⟨?_, ?_, ?_⟩
    · by_cases z : i = s
      · subst z
        have eb : bs M' i = bs M i := by unfold bs; rw [efi 11 (by decide)]
        have ed : sd M' i = sd M i := by unfold sd; rw [efi 12 (by decide)]
        rw [c_up_s, cc, eb, ed, efi 10 (by decide), efi 13 (by decide), e14, pk_us, e15, pk_us, ai 14 _ (by omega), ak 11 _ (by decide) (by decide) (by decide) (by decide), ak 13 _ (by decide) (by decide) (by decide) (by decide)]
      · rw [c_up_i z, c_up_k (by decide), c_up_k (by decide), c_up_k (by decide), c_up_k (by decide), c_up_k (by decide), c_up_k (by decide)]
        exact cc10 (by rw [efi 10 (by decide)]) (by rw [efi 11 (by decide)]) (by rw [efi 12 (by decide)]) (by rw [efi 13 (by decide)]) (by rw [e14, pk_un z]) (by rw [e15, pk_un z]) (ai 14 _ (by omega)) (ak 11 _ (by decide) (by decide) (by decide) (by decide)) (ak 13 _ (by decide) (by decide) (by decide) (by decide))
    · rw [c_up_k (by decide), c_up_k (by decide), c_up_k (by decide), c_up_k (by decide), c_up_k (by decide), c_up_k (by decide), c_up_k (by decide)]
      exact cc11 (ak 12 _ (by decide) (by decide) (by decide) (by decide))
    · rw [c_up_k (by decide), c_up_k (by decide), c_up_k (by decide), c_up_k (by decide), c_up_k (by decide), c_up_k (by decide), c_up_k (by decide)]
      exact cc12 (sc_cg (by rw [efi 12 (by decide)]) (fun t g h1 h2 => est i _ t g hi hJi.1 h1 h2))
  · rw [eS] at hi
    rw [enm] at hj
    have hJi := hJ i hi
    have h60 := hJi.2.1
    rw [c_up_k (by decide), c_up_k (by decide), c_up_k (by decide), c_up_k (by decide), c_up_k (by decide), c_up_k (by decide), c_up_k (by decide)]
    have hm1 : ∀ k, k ∈ [16, 18, 19, 20, 21] → M' k (60 * i + j) = M k (60 * i + j) := fun k hk => by rw [efi k (by revert hk; simp only [List.mem_cons, List.not_mem_nil, or_false]; omega)]
    refine cc13 (by omega) hm1 (by rw [efi 17 (by decide)]) (mo_o_cg hm1 (fun hj0 => ?_)) (fun hj0 => ak 13 _ (by decide) (by decide) (by decide) (by decide)) (fun hl => ak 13 _ (by decide) (by decide) (by decide) (by decide))
    obtain ⟨hbj, hmk⟩ := hJi.2.2.1 j (by omega) hj
    obtain ⟨t', ht', hg', e19', -⟩ := hmk.get hj0
    rw [e19', nI_clamp (by omega)]
    exact est i _ _ _ hi (by omega) ht' hg'
  · rw [eV] at hw
    rcases Nat.lt_succ_iff_lt_or_eq.mp hw with z | z
    · have hin : w ≠ n := by omega
      refine ⟨?_, ?_, ?_, ?_⟩
      · rw [c_up_k (by decide), c_up_k (by decide), c_up_k (by decide), c_up_k (by decide), c_up_k (by decide), c_up_k (by decide), c_up_i hin]
        exact cc14 (by rw [e8, pk_un hin]) (ai 15 _ hin) (ai 17 _ hin)
      · rw [c_up_k (by decide), c_up_k (by decide), c_up_k (by decide), c_up_k (by decide), c_up_k (by decide), c_up_i hin, c_up_k (by decide)]
        exact cc15 (ai 16 _ hin)
      · rw [c_up_k (by decide), c_up_k (by decide), c_up_k (by decide), c_up_k (by decide), c_up_i hin, c_up_k (by decide), c_up_k (by decide)]
        exact cc16 (evc w z)
      · rw [c_up_k (by decide), c_up_k (by decide), c_up_k (by decide), c_up_i hin, c_up_k (by decide), c_up_k (by decide), c_up_k (by decide)]
        exact cc17 (og_cg w (fun v hv => evc v (by omega)))
    · rw [z]
      refine ⟨?_, ?_, ?_, ?_⟩
      · rw [c_up_k (by decide), c_up_k (by decide), c_up_k (by decide), c_up_k (by decide), c_up_k (by decide), c_up_k (by decide), c_up_s, cc, s15, s17, au, if_neg (by omega), e8, pk_us]
      · rw [c_up_k (by decide), c_up_k (by decide), c_up_k (by decide), c_up_k (by decide), c_up_k (by decide), c_up_s, cc, s16]
      · rw [c_up_k (by decide), c_up_k (by decide), c_up_k (by decide), c_up_k (by decide), c_up_s, cc]
      · rw [c_up_k (by decide), c_up_k (by decide), c_up_k (by decide), c_up_s, cc]
        obtain ⟨m, em⟩ : ∃ m, n = m + 1 := ⟨n - 1, by omega⟩
        subst em
        rw [og, Nat.add_sub_cancel, evc m (by omega), og_cg m (fun v hv => evc v (by omega))]
  · rw [c_up_k (by decide), c_up_k (by decide), c_up_k (by decide), c_up_k (by decide), c_up_k (by decide), c_up_k (by decide), c_up_k (by decide)]
    exact cc18 (by rw [efi 23 (by decide)]) (by rw [efi 24 (by decide)]) (by rw [efi 25 (by decide)])
theorem ir_ne {a b : ClassId} {n m : Nat} {f : Nat → Int32} {g : Nat → Option Nat} (h : (some (.inl (a, n, .inl f)) : Option va_E) = some (.inl (b, m, .inr (.inr (.inr (.inr g)))))) : False := by
  have h := Sum.inl.inj (Option.some.inj h)
  have h := (Prod.mk.inj (Prod.mk.inj h).2).2
  cases h
section HVR
variable {p : Program} {l : Launch} {e : Env} {R : Room} {s : State} {m : MethodId} {args : Array Value} {below : List Frame} {meth : Method} {c : Code} {cc : ByteArray} {nL : Nat} {own : String} {ws : List Cond} {D : va_G} {cl : List vw_C} {tys : List (ClassId × FieldType)} {sts : List (String × Nat × String × Nat)} {aos : List Cond} {A : Nat → Prop} {Q : State → Prop} {cells slots pc : Nat} {lv : List (Nat × Value)} {st sf : List Value} {h : Pic}
variable {y : MethodName} {bytes : ByteArray} {maxL mc ms n index : Nat} {ret : Option FieldType} {wy : List Cond} {rm : Room} {As : List Value} {b : Nat} {ci : Nat} {fs : List Value} {q : vw_C}
theorem hg_VNr {post : Nat → Pic → Prop} (C : hp_C p s m args meth c cc nL own ws D cl tys sts aos A) (hM : hp_N l y wy rm D cl tys sts aos (.ref b :: As) h (fun r u => ∃ a, r = some (.ref a) ∧ post a u) mc ms) (cw : CallW R s args own q.1 index y bytes maxL ret wy rm mc ms n) (hb : h b = some (.inr (ci, fs))) (hc : cl[ci]? = some q) (hn : As.length = n) (hsf : sf = As.reverse ++ .ref b :: st) (hst : (st.map fun v => v.category).sum ≤ 8) (hd : decode cc pc = .ok (.invokevirtual index, 3)) (hf : cells + mc ≤ R.cells ∧ slots + ms ≤ R.slots)
    (kk : ∀ (a : Nat) (u : Pic), post a u → hp_G p l e R s m args below meth c D cl A nL Q (cells + mc) (slots + ms) (pc + 3) lv (.ref a :: st) u) : hp_G p l e R s m args below meth c D cl A nL Q cells slots pc lv sf h :=
  hg_VN C hM cw hb hc hn hsf hst hd hf (fun r u hq => by obtain ⟨a, rfl, hq⟩ := hq; exact kk a u hq)
end HVR
abbrev rm_MM_finishJoining : Room := { frames := 6, cells := 4, slots := 665, locals := 140 }
set_option maxHeartbeats 4000000 in
set_option maxRecDepth 100000 in
theorem k_MM_finishJoining (l : Launch) (Γ : Gam) (h : Pic) (ad : Nat → Nat → Nat) (M : Mem) (hC : cr_at Γ ad M h) (hI : Inv0 M) (hW : I_nw M) (h40 : nV M < 40) (s : Nat) (hs : s < nS M) (hfit : I_fit M s) (hall : I_all M) : kN l Γ y_MM_finishJoining w_MM_finishJoining rm_MM_finishJoining [.ref (ad 0 0), .ref (ad 10 s)] h (fun r u => r = none ∧ ∃ ad' : Nat → Nat → Nat, ad' 0 0 = ad 0 0 ∧ cr_at Γ ad' (m_fin M s) u) 4 665 := by
  refine hg_entryN (own := "ModelMerge") (cc := b_MM_finishJoining) (maxL := 4) (ret := none) (lv0 := [(0, .ref (ad 0 0)), (1, .ref (ad 10 s))]) (by decide) rfl rfl (Nat.le_of_ble_eq_true rfl) rfl ?_
  intro p e s9 m args below meth c A C hnm hr
  have kx : h (ad 0 0) = some (.inr (6, [.ref (ad 1 0), .ref (ad 2 0), .int (M 1 0), .ref (ad 3 0), .int (M 9 0), .ref (ad 4 0), .int (M 4 0), .ref (ad 14 (nV M - 1)), .ref (ad 5 0), .int (M 22 0), .ref (ad 6 0), cr_pen ad M])) := hC.1 0 0 (liv0 (by omega))
  have kA1 : h (ad 1 0) = some (.inl ((Γ.2.1 0), 60, .inl (M 2))) := hC.1 1 0 (liv0 (by omega))
  have kA2 : h (ad 2 0) = some (.inl ((Γ.2.1 0), 60, .inl (M 3))) := hC.1 2 0 (liv0 (by omega))
  have kA3 : h (ad 3 0) = some (.inl ((Γ.2.1 3), 20, .inr (.inr (.inr (.inr (fun j => if j < nS M then some (ad 10 j) else none)))))) := hC.1 3 0 (liv0 (by omega))
  have kA4 : h (ad 4 0) = some (.inl ((Γ.2.1 4), 40, .inr (.inr (.inr (.inr (fun j => if j < nV M then some (ad 14 j) else none)))))) := hC.1 4 0 (liv0 (by omega))
  have kA5 : h (ad 5 0) = some (.inl ((Γ.2.1 5), 10, .inr (.inr (.inr (.inr (fun j => if j < nR M then some (ad 18 j) else none)))))) := hC.1 5 0 (liv0 (by omega))
  have kA6 : h (ad 6 0) = some (.inr (0, [.ref (ad 7 0), .ref (ad 8 0), .ref (ad 9 0), .int (M 27 0)])) := hC.1 6 0 (liv0 (by omega))
  have kA7 : h (ad 7 0) = some (.inl ((Γ.2.1 0), 300, .inl (M 28))) := hC.1 7 0 (liv0 (by omega))
  have kA8 : h (ad 8 0) = some (.inl ((Γ.2.1 0), 300, .inl (M 29))) := hC.1 8 0 (liv0 (by omega))
  have kA9 : h (ad 9 0) = some (.inl ((Γ.2.1 0), 300, .inl (M 30))) := hC.1 9 0 (liv0 (by omega))
  obtain ⟨⟨⟨eT, hT⟩, ⟨eV, hV1, hV⟩, ⟨eS, hS⟩, ⟨eR, hRR⟩, ⟨eC, hCn⟩⟩, hI2, hI3, hI4, hI5, hI6, hI7, hI8, -, hI10, hI11⟩ := id hI
  have hvl : nV M - 1 < nV M := by omega
  have ks_s : h (ad 10 s) = some (.inr (3, [.int (nI s), .int (M 10 s), .ref (ad 14 (bs M s)), .ref (ad 11 s), .ref (ad 13 (60 * s + sd M s)), .int (M 13 s), .int (M 14 s), .int (M 15 s)])) := hC.1 10 s (livS (by omega) (by omega) (by omega))
  have kt_s : h (ad 11 s) = some (.inr (4, [.ref (ad 12 s)])) := hC.1 11 s (livS (by omega) (by omega) (by omega))
  have ku_s : h (ad 12 s) = some (.inl ((Γ.2.1 0), 360, .inl (sc M s))) := hC.1 12 s (livS (by omega) (by omega) (by omega))
  have kv_l : h (ad 14 (nV M - 1)) = some (.inr (5, [.int (nI (nV M - 1)), .int (au M (nV M - 1)), .ref (ad 15 (nV M - 1)), .ref (ad 17 (nV M - 1))])) := hC.1 14 (nV M - 1) (livV (by omega) (by omega) (by omega))
  have kw_l : h (ad 15 (nV M - 1)) = some (.inr (4, [.ref (ad 16 (nV M - 1))])) := hC.1 15 (nV M - 1) (livV (by omega) (by omega) (by omega))
  have ky_l : h (ad 16 (nV M - 1)) = some (.inl ((Γ.2.1 0), 360, .inl (vc M (nV M - 1)))) := hC.1 16 (nV M - 1) (livV (by omega) (by omega) (by omega))
  have kz_l : h (ad 17 (nV M - 1)) = some (.inl ((Γ.2.1 0), 300, .inl (og M (nV M - 1)))) := hC.1 17 (nV M - 1) (livV (by omega) (by omega) (by omega))
  refine hg_aload_n C 0 d_MM_finishJoining_0 rfl rfl ?_
  refine f_MM_35 C kx rfl d_MM_finishJoining_1 ?_
  refine hg_ti eV ?_
  refine hg_bipush (v := 40) C d_MM_finishJoining_4 (by decide) ?_
  refine hg_icmp_lt C 10 d_MM_finishJoining_6 (by decide) (fun c6 => ?_) (fun c6 => ?_)
  · have c6n : nV M < 40 := (nI_ltI (a := (nV M)) (b := 40) (by omega) (by omega)).mp c6
    refine hg_aload_n C 0 d_MM_finishJoining_10 rfl rfl ?_
    refine f_MM_35 C kx rfl d_MM_finishJoining_11 ?_
    refine hg_ti eV ?_
    refine hg_istore_n (lv' := [(2, .int (nI (nV M))), (0, .ref (ad 0 0)), (1, .ref (ad 10 s))]) C d_MM_finishJoining_14 rfl (by decide) rfl ?_
    refine n_MM_29 C (Nat.le_of_ble_eq_true rfl) (Nat.le_of_ble_eq_true rfl) d_MM_finishJoining_15 (fun q1 hq_q1 => ?_)
    obtain ⟨h2, eh2⟩ : ∃ z, z = hp_up h q1 (.inr (5, [.int 0, .int 0, .null, .null])) := ⟨_, rfl⟩
    refine hg_eq eh2.symm ?_
    have k3 : h2 (ad 0 0) = some (.inr (6, [.ref (ad 1 0), .ref (ad 2 0), .int (M 1 0), .ref (ad 3 0), .int (M 9 0), .ref (ad 4 0), .int (M 4 0), .ref (ad 14 (nV M - 1)), .ref (ad 5 0), .int (M 22 0), .ref (ad 6 0), cr_pen ad M])) := by rw [eh2]; exact hp_up_g kx (fun z => by rw [z, hq_q1] at kx; cases kx)
    have k4 : h2 (ad 1 0) = some (.inl ((Γ.2.1 0), 60, .inl (M 2))) := by rw [eh2]; exact hp_up_g kA1 (fun z => by rw [z, hq_q1] at kA1; cases kA1)
    have k5 : h2 (ad 2 0) = some (.inl ((Γ.2.1 0), 60, .inl (M 3))) := by rw [eh2]; exact hp_up_g kA2 (fun z => by rw [z, hq_q1] at kA2; cases kA2)
    have k6 : h2 (ad 3 0) = some (.inl ((Γ.2.1 3), 20, .inr (.inr (.inr (.inr (fun j => if j < nS M then some (ad 10 j) else none)))))) := by rw [eh2]; exact hp_up_g kA3 (fun z => by rw [z, hq_q1] at kA3; cases kA3)
    have k7 : h2 (ad 4 0) = some (.inl ((Γ.2.1 4), 40, .inr (.inr (.inr (.inr (fun j => if j < nV M then some (ad 14 j) else none)))))) := by rw [eh2]; exact hp_up_g kA4 (fun z => by rw [z, hq_q1] at kA4; cases kA4)
    have k8 : h2 (ad 5 0) = some (.inl ((Γ.2.1 5), 10, .inr (.inr (.inr (.inr (fun j => if j < nR M then some (ad 18 j) else none)))))) := by rw [eh2]; exact hp_up_g kA5 (fun z => by rw [z, hq_q1] at kA5; cases kA5)
    have k9 : h2 (ad 6 0) = some (.inr (0, [.ref (ad 7 0), .ref (ad 8 0), .ref (ad 9 0), .int (M 27 0)])) := by rw [eh2]; exact hp_up_g kA6 (fun z => by rw [z, hq_q1] at kA6; cases kA6)
    have k10 : h2 (ad 7 0) = some (.inl ((Γ.2.1 0), 300, .inl (M 28))) := by rw [eh2]; exact hp_up_g kA7 (fun z => by rw [z, hq_q1] at kA7; cases kA7)
    have k11 : h2 (ad 8 0) = some (.inl ((Γ.2.1 0), 300, .inl (M 29))) := by rw [eh2]; exact hp_up_g kA8 (fun z => by rw [z, hq_q1] at kA8; cases kA8)
    have k12 : h2 (ad 9 0) = some (.inl ((Γ.2.1 0), 300, .inl (M 30))) := by rw [eh2]; exact hp_up_g kA9 (fun z => by rw [z, hq_q1] at kA9; cases kA9)
    have k13 : h2 (ad 10 s) = some (.inr (3, [.int (nI s), .int (M 10 s), .ref (ad 14 (bs M s)), .ref (ad 11 s), .ref (ad 13 (60 * s + sd M s)), .int (M 13 s), .int (M 14 s), .int (M 15 s)])) := by rw [eh2]; exact hp_up_g ks_s (fun z => by rw [z, hq_q1] at ks_s; cases ks_s)
    have k14 : h2 (ad 11 s) = some (.inr (4, [.ref (ad 12 s)])) := by rw [eh2]; exact hp_up_g kt_s (fun z => by rw [z, hq_q1] at kt_s; cases kt_s)
    have k15 : h2 (ad 12 s) = some (.inl ((Γ.2.1 0), 360, .inl (sc M s))) := by rw [eh2]; exact hp_up_g ku_s (fun z => by rw [z, hq_q1] at ku_s; cases ku_s)
    have k16 : h2 (ad 14 (nV M - 1)) = some (.inr (5, [.int (nI (nV M - 1)), .int (au M (nV M - 1)), .ref (ad 15 (nV M - 1)), .ref (ad 17 (nV M - 1))])) := by rw [eh2]; exact hp_up_g kv_l (fun z => by rw [z, hq_q1] at kv_l; cases kv_l)
    have k17 : h2 (ad 15 (nV M - 1)) = some (.inr (4, [.ref (ad 16 (nV M - 1))])) := by rw [eh2]; exact hp_up_g kw_l (fun z => by rw [z, hq_q1] at kw_l; cases kw_l)
    have k18 : h2 (ad 16 (nV M - 1)) = some (.inl ((Γ.2.1 0), 360, .inl (vc M (nV M - 1)))) := by rw [eh2]; exact hp_up_g ky_l (fun z => by rw [z, hq_q1] at ky_l; cases ky_l)
    have k19 : h2 (ad 17 (nV M - 1)) = some (.inl ((Γ.2.1 0), 300, .inl (og M (nV M - 1)))) := by rw [eh2]; exact hp_up_g kz_l (fun z => by rw [z, hq_q1] at kz_l; cases kz_l)
    have k20 : h2 q1 = some (.inr (5, [.int 0, .int 0, .null, .null])) := by rw [eh2]; exact hp_up_s
    refine hg_dup C d_MM_finishJoining_18 rfl ?_
    refine hg_iload_n C 0 d_MM_finishJoining_19 rfl rfl ?_
    refine hg_aload_n C 2 d_MM_finishJoining_20 rfl rfl ?_
    refine f_MM_170 C k13 rfl d_MM_finishJoining_21 ?_
    refine hg_aload_n C 1 d_MM_finishJoining_24 rfl rfl ?_
    refine hg_aload_n C 2 d_MM_finishJoining_25 rfl rfl ?_
    have hC1 : cr_at Γ ad M h2 := by rw [eh2]; exact cr_off hC (cr_fr hC hq_q1)
    refine hg_VNr (q := ("ModelMerge", T_MM, 12)) C (k_MM_joinedState l Γ _ ad M hC1 hI s hs) (cw_MM_277 C.2.2.2.2.1 rfl rfl ⟨Nat.le_of_ble_eq_true rfl, Nat.le_of_ble_eq_true rfl⟩) k3 rfl rfl rfl (Nat.le_of_ble_eq_true rfl) d_MM_finishJoining_26 ⟨Nat.le_of_ble_eq_true rfl, Nat.le_of_ble_eq_true rfl⟩ (fun qs uu hu => ?_)
    obtain ⟨qb, hq_qs, nqb, nsb, v1, v2, v3⟩ := hu
    obtain ⟨hA, ehA⟩ : ∃ z, z = hp_up h2 qs (.inr (4, [.ref qb])) := ⟨_, rfl⟩
    have euu : uu = hp_up hA qb (.inl ((Γ.2.1 0), 360, .inl (fn (jc M s (nC M))))) := by rw [ehA]; exact fr2 v1 v2 v3
    have hq_qb : hA qb = none := by rw [ehA, hp_up_n (Ne.symm nsb)]; exact nqb
    have k21 : hA (ad 0 0) = some (.inr (6, [.ref (ad 1 0), .ref (ad 2 0), .int (M 1 0), .ref (ad 3 0), .int (M 9 0), .ref (ad 4 0), .int (M 4 0), .ref (ad 14 (nV M - 1)), .ref (ad 5 0), .int (M 22 0), .ref (ad 6 0), cr_pen ad M])) := by rw [ehA]; exact hp_up_g k3 (fun z => by rw [z, hq_qs] at k3; cases k3)
    have k22 : hA (ad 1 0) = some (.inl ((Γ.2.1 0), 60, .inl (M 2))) := by rw [ehA]; exact hp_up_g k4 (fun z => by rw [z, hq_qs] at k4; cases k4)
    have k23 : hA (ad 2 0) = some (.inl ((Γ.2.1 0), 60, .inl (M 3))) := by rw [ehA]; exact hp_up_g k5 (fun z => by rw [z, hq_qs] at k5; cases k5)
    have k24 : hA (ad 3 0) = some (.inl ((Γ.2.1 3), 20, .inr (.inr (.inr (.inr (fun j => if j < nS M then some (ad 10 j) else none)))))) := by rw [ehA]; exact hp_up_g k6 (fun z => by rw [z, hq_qs] at k6; cases k6)
    have k25 : hA (ad 4 0) = some (.inl ((Γ.2.1 4), 40, .inr (.inr (.inr (.inr (fun j => if j < nV M then some (ad 14 j) else none)))))) := by rw [ehA]; exact hp_up_g k7 (fun z => by rw [z, hq_qs] at k7; cases k7)
    have k26 : hA (ad 5 0) = some (.inl ((Γ.2.1 5), 10, .inr (.inr (.inr (.inr (fun j => if j < nR M then some (ad 18 j) else none)))))) := by rw [ehA]; exact hp_up_g k8 (fun z => by rw [z, hq_qs] at k8; cases k8)
    have k27 : hA (ad 6 0) = some (.inr (0, [.ref (ad 7 0), .ref (ad 8 0), .ref (ad 9 0), .int (M 27 0)])) := by rw [ehA]; exact hp_up_g k9 (fun z => by rw [z, hq_qs] at k9; cases k9)
    have k28 : hA (ad 7 0) = some (.inl ((Γ.2.1 0), 300, .inl (M 28))) := by rw [ehA]; exact hp_up_g k10 (fun z => by rw [z, hq_qs] at k10; cases k10)
    have k29 : hA (ad 8 0) = some (.inl ((Γ.2.1 0), 300, .inl (M 29))) := by rw [ehA]; exact hp_up_g k11 (fun z => by rw [z, hq_qs] at k11; cases k11)
    have k30 : hA (ad 9 0) = some (.inl ((Γ.2.1 0), 300, .inl (M 30))) := by rw [ehA]; exact hp_up_g k12 (fun z => by rw [z, hq_qs] at k12; cases k12)
    have k31 : hA (ad 10 s) = some (.inr (3, [.int (nI s), .int (M 10 s), .ref (ad 14 (bs M s)), .ref (ad 11 s), .ref (ad 13 (60 * s + sd M s)), .int (M 13 s), .int (M 14 s), .int (M 15 s)])) := by rw [ehA]; exact hp_up_g k13 (fun z => by rw [z, hq_qs] at k13; cases k13)
    have k32 : hA (ad 11 s) = some (.inr (4, [.ref (ad 12 s)])) := by rw [ehA]; exact hp_up_g k14 (fun z => by rw [z, hq_qs] at k14; cases k14)
    have k33 : hA (ad 12 s) = some (.inl ((Γ.2.1 0), 360, .inl (sc M s))) := by rw [ehA]; exact hp_up_g k15 (fun z => by rw [z, hq_qs] at k15; cases k15)
    have k34 : hA (ad 14 (nV M - 1)) = some (.inr (5, [.int (nI (nV M - 1)), .int (au M (nV M - 1)), .ref (ad 15 (nV M - 1)), .ref (ad 17 (nV M - 1))])) := by rw [ehA]; exact hp_up_g k16 (fun z => by rw [z, hq_qs] at k16; cases k16)
    have k35 : hA (ad 15 (nV M - 1)) = some (.inr (4, [.ref (ad 16 (nV M - 1))])) := by rw [ehA]; exact hp_up_g k17 (fun z => by rw [z, hq_qs] at k17; cases k17)
    have k36 : hA (ad 16 (nV M - 1)) = some (.inl ((Γ.2.1 0), 360, .inl (vc M (nV M - 1)))) := by rw [ehA]; exact hp_up_g k18 (fun z => by rw [z, hq_qs] at k18; cases k18)
    have k37 : hA (ad 17 (nV M - 1)) = some (.inl ((Γ.2.1 0), 300, .inl (og M (nV M - 1)))) := by rw [ehA]; exact hp_up_g k19 (fun z => by rw [z, hq_qs] at k19; cases k19)
    have k38 : hA q1 = some (.inr (5, [.int 0, .int 0, .null, .null])) := by rw [ehA]; exact hp_up_g k20 (fun z => by rw [z, hq_qs] at k20; cases k20)
    have k39 : hA qs = some (.inr (4, [.ref qb])) := by rw [ehA]; exact hp_up_s
    have k40 : uu (ad 0 0) = some (.inr (6, [.ref (ad 1 0), .ref (ad 2 0), .int (M 1 0), .ref (ad 3 0), .int (M 9 0), .ref (ad 4 0), .int (M 4 0), .ref (ad 14 (nV M - 1)), .ref (ad 5 0), .int (M 22 0), .ref (ad 6 0), cr_pen ad M])) := by rw [euu]; exact hp_up_g k21 (fun z => by rw [z, hq_qb] at k21; cases k21)
    have k41 : uu (ad 1 0) = some (.inl ((Γ.2.1 0), 60, .inl (M 2))) := by rw [euu]; exact hp_up_g k22 (fun z => by rw [z, hq_qb] at k22; cases k22)
    have k42 : uu (ad 2 0) = some (.inl ((Γ.2.1 0), 60, .inl (M 3))) := by rw [euu]; exact hp_up_g k23 (fun z => by rw [z, hq_qb] at k23; cases k23)
    have k43 : uu (ad 3 0) = some (.inl ((Γ.2.1 3), 20, .inr (.inr (.inr (.inr (fun j => if j < nS M then some (ad 10 j) else none)))))) := by rw [euu]; exact hp_up_g k24 (fun z => by rw [z, hq_qb] at k24; cases k24)
    have k44 : uu (ad 4 0) = some (.inl ((Γ.2.1 4), 40, .inr (.inr (.inr (.inr (fun j => if j < nV M then some (ad 14 j) else none)))))) := by rw [euu]; exact hp_up_g k25 (fun z => by rw [z, hq_qb] at k25; cases k25)
    have k45 : uu (ad 5 0) = some (.inl ((Γ.2.1 5), 10, .inr (.inr (.inr (.inr (fun j => if j < nR M then some (ad 18 j) else none)))))) := by rw [euu]; exact hp_up_g k26 (fun z => by rw [z, hq_qb] at k26; cases k26)
    have k46 : uu (ad 6 0) = some (.inr (0, [.ref (ad 7 0), .ref (ad 8 0), .ref (ad 9 0), .int (M 27 0)])) := by rw [euu]; exact hp_up_g k27 (fun z => by rw [z, hq_qb] at k27; cases k27)
    have k47 : uu (ad 7 0) = some (.inl ((Γ.2.1 0), 300, .inl (M 28))) := by rw [euu]; exact hp_up_g k28 (fun z => by rw [z, hq_qb] at k28; cases k28)
    have k48 : uu (ad 8 0) = some (.inl ((Γ.2.1 0), 300, .inl (M 29))) := by rw [euu]; exact hp_up_g k29 (fun z => by rw [z, hq_qb] at k29; cases k29)
    have k49 : uu (ad 9 0) = some (.inl ((Γ.2.1 0), 300, .inl (M 30))) := by rw [euu]; exact hp_up_g k30 (fun z => by rw [z, hq_qb] at k30; cases k30)
    have k50 : uu (ad 10 s) = some (.inr (3, [.int (nI s), .int (M 10 s), .ref (ad 14 (bs M s)), .ref (ad 11 s), .ref (ad 13 (60 * s + sd M s)), .int (M 13 s), .int (M 14 s), .int (M 15 s)])) := by rw [euu]; exact hp_up_g k31 (fun z => by rw [z, hq_qb] at k31; cases k31)
    have k51 : uu (ad 11 s) = some (.inr (4, [.ref (ad 12 s)])) := by rw [euu]; exact hp_up_g k32 (fun z => by rw [z, hq_qb] at k32; cases k32)
    have k52 : uu (ad 12 s) = some (.inl ((Γ.2.1 0), 360, .inl (sc M s))) := by rw [euu]; exact hp_up_g k33 (fun z => by rw [z, hq_qb] at k33; cases k33)
    have k53 : uu (ad 14 (nV M - 1)) = some (.inr (5, [.int (nI (nV M - 1)), .int (au M (nV M - 1)), .ref (ad 15 (nV M - 1)), .ref (ad 17 (nV M - 1))])) := by rw [euu]; exact hp_up_g k34 (fun z => by rw [z, hq_qb] at k34; cases k34)
    have k54 : uu (ad 15 (nV M - 1)) = some (.inr (4, [.ref (ad 16 (nV M - 1))])) := by rw [euu]; exact hp_up_g k35 (fun z => by rw [z, hq_qb] at k35; cases k35)
    have k55 : uu (ad 16 (nV M - 1)) = some (.inl ((Γ.2.1 0), 360, .inl (vc M (nV M - 1)))) := by rw [euu]; exact hp_up_g k36 (fun z => by rw [z, hq_qb] at k36; cases k36)
    have k56 : uu (ad 17 (nV M - 1)) = some (.inl ((Γ.2.1 0), 300, .inl (og M (nV M - 1)))) := by rw [euu]; exact hp_up_g k37 (fun z => by rw [z, hq_qb] at k37; cases k37)
    have k57 : uu q1 = some (.inr (5, [.int 0, .int 0, .null, .null])) := by rw [euu]; exact hp_up_g k38 (fun z => by rw [z, hq_qb] at k38; cases k38)
    have k58 : uu qs = some (.inr (4, [.ref qb])) := by rw [euu]; exact hp_up_g k39 (fun z => by rw [z, hq_qb] at k39; cases k39)
    have k59 : uu qb = some (.inl ((Γ.2.1 0), 360, .inl (fn (jc M s (nC M))))) := by rw [euu]; exact hp_up_s
    refine hg_Iz C (k_Ve_init l Γ _ q1 qs (nI (nV M)) (nI s) k57) (cw_MM_61 C.2.2.2.2.1 rfl rfl ⟨Nat.le_of_ble_eq_true rfl, Nat.le_of_ble_eq_true rfl⟩) rfl rfl (Nat.le_of_ble_eq_true rfl) d_MM_finishJoining_29 ⟨Nat.le_of_ble_eq_true rfl, Nat.le_of_ble_eq_true rfl⟩ (fun uw hu => ?_)
    obtain ⟨qo, nqo, w1, w2, w3⟩ := hu
    obtain ⟨hB, ehB⟩ : ∃ z, z = hp_up uu q1 (.inr (5, [.int (nI (nV M)), .int (nI s), .ref qs, .ref qo])) := ⟨_, rfl⟩
    have euw : uw = hp_up hB qo (.inl ((Γ.2.1 0), 300, .inl (fun _ => 0))) := by rw [ehB]; exact fr2 w1 w2 w3
    have hq_qo : hB qo = none := by rw [ehB, hp_up_n (fun z => by rw [z, k57] at nqo; cases nqo)]; exact nqo
    have k60 : hB (ad 0 0) = some (.inr (6, [.ref (ad 1 0), .ref (ad 2 0), .int (M 1 0), .ref (ad 3 0), .int (M 9 0), .ref (ad 4 0), .int (M 4 0), .ref (ad 14 (nV M - 1)), .ref (ad 5 0), .int (M 22 0), .ref (ad 6 0), cr_pen ad M])) := by rw [ehB]; exact hp_up_g k40 (fun z => by rw [z, k57] at k40; cases k40)
    have k61 : hB (ad 1 0) = some (.inl ((Γ.2.1 0), 60, .inl (M 2))) := by rw [ehB]; exact hp_up_g k41 (fun z => by rw [z, k57] at k41; cases k41)
    have k62 : hB (ad 2 0) = some (.inl ((Γ.2.1 0), 60, .inl (M 3))) := by rw [ehB]; exact hp_up_g k42 (fun z => by rw [z, k57] at k42; cases k42)
    have k63 : hB (ad 3 0) = some (.inl ((Γ.2.1 3), 20, .inr (.inr (.inr (.inr (fun j => if j < nS M then some (ad 10 j) else none)))))) := by rw [ehB]; exact hp_up_g k43 (fun z => by rw [z, k57] at k43; cases k43)
    have k64 : hB (ad 4 0) = some (.inl ((Γ.2.1 4), 40, .inr (.inr (.inr (.inr (fun j => if j < nV M then some (ad 14 j) else none)))))) := by rw [ehB]; exact hp_up_g k44 (fun z => by rw [z, k57] at k44; cases k44)
    have k65 : hB (ad 5 0) = some (.inl ((Γ.2.1 5), 10, .inr (.inr (.inr (.inr (fun j => if j < nR M then some (ad 18 j) else none)))))) := by rw [ehB]; exact hp_up_g k45 (fun z => by rw [z, k57] at k45; cases k45)
    have k66 : hB (ad 6 0) = some (.inr (0, [.ref (ad 7 0), .ref (ad 8 0), .ref (ad 9 0), .int (M 27 0)])) := by rw [ehB]; exact hp_up_g k46 (fun z => by rw [z, k57] at k46; cases k46)
    have k67 : hB (ad 7 0) = some (.inl ((Γ.2.1 0), 300, .inl (M 28))) := by rw [ehB]; exact hp_up_g k47 (fun z => by rw [z, k57] at k47; cases k47)
    have k68 : hB (ad 8 0) = some (.inl ((Γ.2.1 0), 300, .inl (M 29))) := by rw [ehB]; exact hp_up_g k48 (fun z => by rw [z, k57] at k48; cases k48)
    have k69 : hB (ad 9 0) = some (.inl ((Γ.2.1 0), 300, .inl (M 30))) := by rw [ehB]; exact hp_up_g k49 (fun z => by rw [z, k57] at k49; cases k49)
    have k70 : hB (ad 10 s) = some (.inr (3, [.int (nI s), .int (M 10 s), .ref (ad 14 (bs M s)), .ref (ad 11 s), .ref (ad 13 (60 * s + sd M s)), .int (M 13 s), .int (M 14 s), .int (M 15 s)])) := by rw [ehB]; exact hp_up_g k50 (fun z => by rw [z, k57] at k50; cases k50)
    have k71 : hB (ad 11 s) = some (.inr (4, [.ref (ad 12 s)])) := by rw [ehB]; exact hp_up_g k51 (fun z => by rw [z, k57] at k51; cases k51)
    have k72 : hB (ad 12 s) = some (.inl ((Γ.2.1 0), 360, .inl (sc M s))) := by rw [ehB]; exact hp_up_g k52 (fun z => by rw [z, k57] at k52; cases k52)
    have k73 : hB (ad 14 (nV M - 1)) = some (.inr (5, [.int (nI (nV M - 1)), .int (au M (nV M - 1)), .ref (ad 15 (nV M - 1)), .ref (ad 17 (nV M - 1))])) := by rw [ehB]; exact hp_up_g k53 (fun z => by rw [z, hq_q1] at kv_l; cases kv_l)
    have k74 : hB (ad 15 (nV M - 1)) = some (.inr (4, [.ref (ad 16 (nV M - 1))])) := by rw [ehB]; exact hp_up_g k54 (fun z => by rw [z, k57] at k54; cases k54)
    have k75 : hB (ad 16 (nV M - 1)) = some (.inl ((Γ.2.1 0), 360, .inl (vc M (nV M - 1)))) := by rw [ehB]; exact hp_up_g k55 (fun z => by rw [z, k57] at k55; cases k55)
    have k76 : hB (ad 17 (nV M - 1)) = some (.inl ((Γ.2.1 0), 300, .inl (og M (nV M - 1)))) := by rw [ehB]; exact hp_up_g k56 (fun z => by rw [z, k57] at k56; cases k56)
    have k77 : hB qs = some (.inr (4, [.ref qb])) := by rw [ehB]; exact hp_up_g k58 (fun z => by rw [z, k57] at k58; cases k58)
    have k78 : hB qb = some (.inl ((Γ.2.1 0), 360, .inl (fn (jc M s (nC M))))) := by rw [ehB]; exact hp_up_g k59 (fun z => by rw [z, k57] at k59; cases k59)
    have k79 : hB q1 = some (.inr (5, [.int (nI (nV M)), .int (nI s), .ref qs, .ref qo])) := by rw [ehB]; exact hp_up_s
    have nbo : qb ≠ qo := fun z => by rw [z, hq_qo] at k78; cases k78
    have nlo : (ad 16 (nV M - 1)) ≠ qo := fun z => by rw [z, hq_qo] at k75; cases k75
    have nro : (ad 17 (nV M - 1)) ≠ qo := fun z => by rw [z, hq_qo] at k76; cases k76
    have k80 : uw (ad 0 0) = some (.inr (6, [.ref (ad 1 0), .ref (ad 2 0), .int (M 1 0), .ref (ad 3 0), .int (M 9 0), .ref (ad 4 0), .int (M 4 0), .ref (ad 14 (nV M - 1)), .ref (ad 5 0), .int (M 22 0), .ref (ad 6 0), cr_pen ad M])) := by rw [euw]; exact hp_up_g k60 (fun z => by rw [z, hq_qo] at k60; cases k60)
    have k81 : uw (ad 1 0) = some (.inl ((Γ.2.1 0), 60, .inl (M 2))) := by rw [euw]; exact hp_up_g k61 (fun z => by rw [z, hq_qo] at k61; cases k61)
    have k82 : uw (ad 2 0) = some (.inl ((Γ.2.1 0), 60, .inl (M 3))) := by rw [euw]; exact hp_up_g k62 (fun z => by rw [z, hq_qo] at k62; cases k62)
    have k83 : uw (ad 3 0) = some (.inl ((Γ.2.1 3), 20, .inr (.inr (.inr (.inr (fun j => if j < nS M then some (ad 10 j) else none)))))) := by rw [euw]; exact hp_up_g k63 (fun z => by rw [z, hq_qo] at k63; cases k63)
    have k84 : uw (ad 4 0) = some (.inl ((Γ.2.1 4), 40, .inr (.inr (.inr (.inr (fun j => if j < nV M then some (ad 14 j) else none)))))) := by rw [euw]; exact hp_up_g k64 (fun z => by rw [z, hq_qo] at k64; cases k64)
    have k85 : uw (ad 5 0) = some (.inl ((Γ.2.1 5), 10, .inr (.inr (.inr (.inr (fun j => if j < nR M then some (ad 18 j) else none)))))) := by rw [euw]; exact hp_up_g k65 (fun z => by rw [z, hq_qo] at k65; cases k65)
    have k86 : uw (ad 6 0) = some (.inr (0, [.ref (ad 7 0), .ref (ad 8 0), .ref (ad 9 0), .int (M 27 0)])) := by rw [euw]; exact hp_up_g k66 (fun z => by rw [z, hq_qo] at k66; cases k66)
    have k87 : uw (ad 7 0) = some (.inl ((Γ.2.1 0), 300, .inl (M 28))) := by rw [euw]; exact hp_up_g k67 (fun z => by rw [z, hq_qo] at k67; cases k67)
    have k88 : uw (ad 8 0) = some (.inl ((Γ.2.1 0), 300, .inl (M 29))) := by rw [euw]; exact hp_up_g k68 (fun z => by rw [z, hq_qo] at k68; cases k68)
    have k89 : uw (ad 9 0) = some (.inl ((Γ.2.1 0), 300, .inl (M 30))) := by rw [euw]; exact hp_up_g k69 (fun z => by rw [z, hq_qo] at k69; cases k69)
    have k90 : uw (ad 10 s) = some (.inr (3, [.int (nI s), .int (M 10 s), .ref (ad 14 (bs M s)), .ref (ad 11 s), .ref (ad 13 (60 * s + sd M s)), .int (M 13 s), .int (M 14 s), .int (M 15 s)])) := by rw [euw]; exact hp_up_g k70 (fun z => by rw [z, hq_qo] at k70; cases k70)
    have k91 : uw (ad 11 s) = some (.inr (4, [.ref (ad 12 s)])) := by rw [euw]; exact hp_up_g k71 (fun z => by rw [z, hq_qo] at k71; cases k71)
    have k92 : uw (ad 12 s) = some (.inl ((Γ.2.1 0), 360, .inl (sc M s))) := by rw [euw]; exact hp_up_g k72 (fun z => by rw [z, hq_qo] at k72; cases k72)
    have k93 : uw (ad 14 (nV M - 1)) = some (.inr (5, [.int (nI (nV M - 1)), .int (au M (nV M - 1)), .ref (ad 15 (nV M - 1)), .ref (ad 17 (nV M - 1))])) := by rw [euw]; exact hp_up_g k73 (fun z => by rw [z, hq_qo] at k73; cases k73)
    have k94 : uw (ad 15 (nV M - 1)) = some (.inr (4, [.ref (ad 16 (nV M - 1))])) := by rw [euw]; exact hp_up_g k74 (fun z => by rw [z, hq_qo] at k74; cases k74)
    have k95 : uw (ad 16 (nV M - 1)) = some (.inl ((Γ.2.1 0), 360, .inl (vc M (nV M - 1)))) := by rw [euw]; exact hp_up_g k75 (fun z => by rw [z, hq_qo] at k75; cases k75)
    have k96 : uw (ad 17 (nV M - 1)) = some (.inl ((Γ.2.1 0), 300, .inl (og M (nV M - 1)))) := by rw [euw]; exact hp_up_g k76 (fun z => by rw [z, hq_qo] at k76; cases k76)
    have k97 : uw qs = some (.inr (4, [.ref qb])) := by rw [euw]; exact hp_up_g k77 (fun z => by rw [z, hq_qo] at k77; cases k77)
    have k98 : uw qb = some (.inl ((Γ.2.1 0), 360, .inl (fn (jc M s (nC M))))) := by rw [euw]; exact hp_up_g k78 (fun z => by rw [z, hq_qo] at k78; cases k78)
    have k99 : uw q1 = some (.inr (5, [.int (nI (nV M)), .int (nI s), .ref qs, .ref qo])) := by rw [euw]; exact hp_up_g k79 (fun z => by rw [z, hq_qo] at k79; cases k79)
    have k100 : uw qo = some (.inl ((Γ.2.1 0), 300, .inl (fun _ => 0))) := by rw [euw]; exact hp_up_s
    refine hg_astore_n (lv' := [(3, .ref q1), (2, .int (nI (nV M))), (0, .ref (ad 0 0)), (1, .ref (ad 10 s))]) C d_MM_finishJoining_32 rfl (by decide) rfl ?_
    refine hg_aload_n C 0 d_MM_finishJoining_33 rfl rfl ?_
    refine hg_aload_n C 2 d_MM_finishJoining_34 rfl rfl ?_
    refine f_MM_64 C k80 rfl d_MM_finishJoining_35 ?_
    refine hg_VNz (q := ("ModelMerge$Version", T_Ve, 4)) C (k_Ve_traceOrigins l Γ _ q1 qs qb qo (ad 14 (nV M - 1)) (ad 15 (nV M - 1)) (ad 16 (nV M - 1)) (ad 17 (nV M - 1)) (.int (nI s)) (.int (au M (nV M - 1))) (nI (nV M)) (nI (nV M - 1)) (fn (jc M s (nC M))) (vc M (nV M - 1)) (og M (nV M - 1)) (fun _ => 0) k99 k97 k98 k100 k93 k94 k95 k96 nbo nlo nro) (cw_MM_281 C.2.2.2.2.1 rfl rfl ⟨Nat.le_of_ble_eq_true rfl, Nat.le_of_ble_eq_true rfl⟩) k99 rfl rfl rfl (Nat.le_of_ble_eq_true rfl) d_MM_finishJoining_38 ⟨Nat.le_of_ble_eq_true rfl, Nat.le_of_ble_eq_true rfl⟩ (fun ut eut => ?_)
    have k101 : ut (ad 0 0) = some (.inr (6, [.ref (ad 1 0), .ref (ad 2 0), .int (M 1 0), .ref (ad 3 0), .int (M 9 0), .ref (ad 4 0), .int (M 4 0), .ref (ad 14 (nV M - 1)), .ref (ad 5 0), .int (M 22 0), .ref (ad 6 0), cr_pen ad M])) := by rw [eut]; exact hp_up_g k80 (fun z => by rw [z, k100] at k80; cases k80)
    have k102 : ut (ad 3 0) = some (.inl ((Γ.2.1 3), 20, .inr (.inr (.inr (.inr (fun j => if j < nS M then some (ad 10 j) else none)))))) := by rw [eut]; exact hp_up_g k83 (fun z => by rw [z, k100] at k83; exact ir_ne k83)
    have k103 : ut (ad 4 0) = some (.inl ((Γ.2.1 4), 40, .inr (.inr (.inr (.inr (fun j => if j < nV M then some (ad 14 j) else none)))))) := by rw [eut]; exact hp_up_g k84 (fun z => by rw [z, k100] at k84; exact ir_ne k84)
    have k104 : ut (ad 5 0) = some (.inl ((Γ.2.1 5), 10, .inr (.inr (.inr (.inr (fun j => if j < nR M then some (ad 18 j) else none)))))) := by rw [eut]; exact hp_up_g k85 (fun z => by rw [z, k100] at k85; exact ir_ne k85)
    have k105 : ut (ad 6 0) = some (.inr (0, [.ref (ad 7 0), .ref (ad 8 0), .ref (ad 9 0), .int (M 27 0)])) := by rw [eut]; exact hp_up_g k86 (fun z => by rw [z, k100] at k86; cases k86)
    have k106 : ut (ad 10 s) = some (.inr (3, [.int (nI s), .int (M 10 s), .ref (ad 14 (bs M s)), .ref (ad 11 s), .ref (ad 13 (60 * s + sd M s)), .int (M 13 s), .int (M 14 s), .int (M 15 s)])) := by rw [eut]; exact hp_up_g k90 (fun z => by rw [z, k100] at k90; cases k90)
    have k107 : ut (ad 11 s) = some (.inr (4, [.ref (ad 12 s)])) := by rw [eut]; exact hp_up_g k91 (fun z => by rw [z, k100] at k91; cases k91)
    have k108 : ut (ad 14 (nV M - 1)) = some (.inr (5, [.int (nI (nV M - 1)), .int (au M (nV M - 1)), .ref (ad 15 (nV M - 1)), .ref (ad 17 (nV M - 1))])) := by rw [eut]; exact hp_up_g k93 (fun z => by rw [z, k100] at k93; cases k93)
    have k109 : ut (ad 15 (nV M - 1)) = some (.inr (4, [.ref (ad 16 (nV M - 1))])) := by rw [eut]; exact hp_up_g k94 (fun z => by rw [z, k100] at k94; cases k94)
    have k110 : ut qs = some (.inr (4, [.ref qb])) := by rw [eut]; exact hp_up_g k97 (fun z => by rw [z, k100] at k97; cases k97)
    have k111 : ut qb = some (.inl ((Γ.2.1 0), 360, .inl (fn (jc M s (nC M))))) := by rw [eut]; exact hp_up_g k98 nbo
    have k112 : ut q1 = some (.inr (5, [.int (nI (nV M)), .int (nI s), .ref qs, .ref qo])) := by rw [eut]; exact hp_up_g k99 (fun z => by rw [z, k100] at k99; cases k99)
    have k113 : ut qo = some (.inl ((Γ.2.1 0), 300, .inl (v_tr (vc M (nV M - 1)) (fn (jc M s (nC M))) (og M (nV M - 1)) (fun _ => 0) (nI (nV M - 1)) (nI (nV M)) (60 * 5)))) := by rw [eut]; exact hp_up_s
    refine hg_aload_n C 2 d_MM_finishJoining_41 rfl rfl ?_
    refine f_MM_31 C k101 rfl d_MM_finishJoining_42 ?_
    refine hg_iload_n C 1 d_MM_finishJoining_45 rfl rfl ?_
    refine hg_aload_n C 0 d_MM_finishJoining_46 rfl rfl ?_
    refine hg_aast C 4 5 k103 rfl k112 rfl (vp_in_nI (N := 40) h40 (by omega)) d_MM_finishJoining_47 ?_
    obtain ⟨h114, eh114⟩ : ∃ z, z = hp_up ut (ad 4 0) (.inl ((Γ.2.1 4), 40, .inr (.inr (.inr (.inr (va_up (fun j => if j < nV M then some (ad 14 j) else none) ((nI (nV M)).toNatClampNeg) (some q1))))))) := ⟨_, rfl⟩
    refine hg_eq eh114.symm ?_
    have k115 : h114 (ad 0 0) = some (.inr (6, [.ref (ad 1 0), .ref (ad 2 0), .int (M 1 0), .ref (ad 3 0), .int (M 9 0), .ref (ad 4 0), .int (M 4 0), .ref (ad 14 (nV M - 1)), .ref (ad 5 0), .int (M 22 0), .ref (ad 6 0), cr_pen ad M])) := by rw [eh114]; exact hp_up_g k101 (fun z => absurd (hC.2 0 0 4 0 (liv0 (by omega)) (liv0 (by omega)) z).1 (by decide))
    have k116 : h114 (ad 3 0) = some (.inl ((Γ.2.1 3), 20, .inr (.inr (.inr (.inr (fun j => if j < nS M then some (ad 10 j) else none)))))) := by rw [eh114]; exact hp_up_g k102 (fun z => absurd (hC.2 3 0 4 0 (liv0 (by omega)) (liv0 (by omega)) z).1 (by decide))
    have k117 : h114 (ad 5 0) = some (.inl ((Γ.2.1 5), 10, .inr (.inr (.inr (.inr (fun j => if j < nR M then some (ad 18 j) else none)))))) := by rw [eh114]; exact hp_up_g k104 (fun z => absurd (hC.2 5 0 4 0 (liv0 (by omega)) (liv0 (by omega)) z).1 (by decide))
    have k118 : h114 (ad 6 0) = some (.inr (0, [.ref (ad 7 0), .ref (ad 8 0), .ref (ad 9 0), .int (M 27 0)])) := by rw [eh114]; exact hp_up_g k105 (fun z => absurd (hC.2 6 0 4 0 (liv0 (by omega)) (liv0 (by omega)) z).1 (by decide))
    have k119 : h114 (ad 10 s) = some (.inr (3, [.int (nI s), .int (M 10 s), .ref (ad 14 (bs M s)), .ref (ad 11 s), .ref (ad 13 (60 * s + sd M s)), .int (M 13 s), .int (M 14 s), .int (M 15 s)])) := by rw [eh114]; exact hp_up_g k106 (fun z => absurd (hC.2 10 s 4 0 (livS (by omega) (by omega) (by omega)) (liv0 (by omega)) z).1 (by decide))
    have k120 : h114 (ad 11 s) = some (.inr (4, [.ref (ad 12 s)])) := by rw [eh114]; exact hp_up_g k107 (fun z => absurd (hC.2 11 s 4 0 (livS (by omega) (by omega) (by omega)) (liv0 (by omega)) z).1 (by decide))
    have k121 : h114 (ad 14 (nV M - 1)) = some (.inr (5, [.int (nI (nV M - 1)), .int (au M (nV M - 1)), .ref (ad 15 (nV M - 1)), .ref (ad 17 (nV M - 1))])) := by rw [eh114]; exact hp_up_g k108 (fun z => absurd (hC.2 14 (nV M - 1) 4 0 (livV (by omega) (by omega) (by omega)) (liv0 (by omega)) z).1 (by decide))
    have k122 : h114 (ad 15 (nV M - 1)) = some (.inr (4, [.ref (ad 16 (nV M - 1))])) := by rw [eh114]; exact hp_up_g k109 (fun z => absurd (hC.2 15 (nV M - 1) 4 0 (livV (by omega) (by omega) (by omega)) (liv0 (by omega)) z).1 (by decide))
    have k123 : h114 qs = some (.inr (4, [.ref qb])) := by rw [eh114]; exact hp_up_g k110 (fun z => by rw [z, k103] at k110; cases k110)
    have k124 : h114 qb = some (.inl ((Γ.2.1 0), 360, .inl (fn (jc M s (nC M))))) := by rw [eh114]; exact hp_up_g k111 (fun z => by rw [z, k103] at k111; exact ir_ne k111.symm)
    have k125 : h114 q1 = some (.inr (5, [.int (nI (nV M)), .int (nI s), .ref qs, .ref qo])) := by rw [eh114]; exact hp_up_g k112 (fun z => by rw [z, k103] at k112; cases k112)
    have k126 : h114 qo = some (.inl ((Γ.2.1 0), 300, .inl (v_tr (vc M (nV M - 1)) (fn (jc M s (nC M))) (og M (nV M - 1)) (fun _ => 0) (nI (nV M - 1)) (nI (nV M)) (60 * 5)))) := by rw [eh114]; exact hp_up_g k113 (fun z => by rw [z, k103] at k113; exact ir_ne k113.symm)
    have k127 : h114 (ad 4 0) = some (.inl ((Γ.2.1 4), 40, .inr (.inr (.inr (.inr (va_up (fun j => if j < nV M then some (ad 14 j) else none) ((nI (nV M)).toNatClampNeg) (some q1))))))) := by rw [eh114]; exact hp_up_s
    refine hg_aload_n C 2 d_MM_finishJoining_48 rfl rfl ?_
    refine hg_dup C d_MM_finishJoining_49 rfl ?_
    refine f_MM_35 C k115 rfl d_MM_finishJoining_50 ?_
    refine hg_ti eV ?_
    refine hg_iconst (v := 1) C d_MM_finishJoining_53 (by decide) ?_
    refine hg_iadd C d_MM_finishJoining_54 ?_
    refine hg_ti (nI_1 (nV M)) ?_
    refine p_MM_35 (fs' := [.ref (ad 1 0), .ref (ad 2 0), .int (M 1 0), .ref (ad 3 0), .int (M 9 0), .ref (ad 4 0), .int (nI (nV M + 1)), .ref (ad 14 (nV M - 1)), .ref (ad 5 0), .int (M 22 0), .ref (ad 6 0), cr_pen ad M]) C k115 rfl rfl (Nat.le_of_ble_eq_true rfl) rfl d_MM_finishJoining_55 ?_
    obtain ⟨h128, eh128⟩ : ∃ z, z = hp_up h114 (ad 0 0) (.inr (6, [.ref (ad 1 0), .ref (ad 2 0), .int (M 1 0), .ref (ad 3 0), .int (M 9 0), .ref (ad 4 0), .int (nI (nV M + 1)), .ref (ad 14 (nV M - 1)), .ref (ad 5 0), .int (M 22 0), .ref (ad 6 0), cr_pen ad M])) := ⟨_, rfl⟩
    refine hg_eq eh128.symm ?_
    have k129 : h128 (ad 3 0) = some (.inl ((Γ.2.1 3), 20, .inr (.inr (.inr (.inr (fun j => if j < nS M then some (ad 10 j) else none)))))) := by rw [eh128]; exact hp_up_g k116 (fun z => absurd (hC.2 3 0 0 0 (liv0 (by omega)) (liv0 (by omega)) z).1 (by decide))
    have k130 : h128 (ad 5 0) = some (.inl ((Γ.2.1 5), 10, .inr (.inr (.inr (.inr (fun j => if j < nR M then some (ad 18 j) else none)))))) := by rw [eh128]; exact hp_up_g k117 (fun z => absurd (hC.2 5 0 0 0 (liv0 (by omega)) (liv0 (by omega)) z).1 (by decide))
    have k131 : h128 (ad 6 0) = some (.inr (0, [.ref (ad 7 0), .ref (ad 8 0), .ref (ad 9 0), .int (M 27 0)])) := by rw [eh128]; exact hp_up_g k118 (fun z => absurd (hC.2 6 0 0 0 (liv0 (by omega)) (liv0 (by omega)) z).1 (by decide))
    have k132 : h128 (ad 10 s) = some (.inr (3, [.int (nI s), .int (M 10 s), .ref (ad 14 (bs M s)), .ref (ad 11 s), .ref (ad 13 (60 * s + sd M s)), .int (M 13 s), .int (M 14 s), .int (M 15 s)])) := by rw [eh128]; exact hp_up_g k119 (fun z => absurd (hC.2 10 s 0 0 (livS (by omega) (by omega) (by omega)) (liv0 (by omega)) z).1 (by decide))
    have k133 : h128 (ad 11 s) = some (.inr (4, [.ref (ad 12 s)])) := by rw [eh128]; exact hp_up_g k120 (fun z => absurd (hC.2 11 s 0 0 (livS (by omega) (by omega) (by omega)) (liv0 (by omega)) z).1 (by decide))
    have k134 : h128 (ad 14 (nV M - 1)) = some (.inr (5, [.int (nI (nV M - 1)), .int (au M (nV M - 1)), .ref (ad 15 (nV M - 1)), .ref (ad 17 (nV M - 1))])) := by rw [eh128]; exact hp_up_g k121 (fun z => absurd (hC.2 14 (nV M - 1) 0 0 (livV (by omega) (by omega) (by omega)) (liv0 (by omega)) z).1 (by decide))
    have k135 : h128 (ad 15 (nV M - 1)) = some (.inr (4, [.ref (ad 16 (nV M - 1))])) := by rw [eh128]; exact hp_up_g k122 (fun z => absurd (hC.2 15 (nV M - 1) 0 0 (livV (by omega) (by omega) (by omega)) (liv0 (by omega)) z).1 (by decide))
    have k136 : h128 qs = some (.inr (4, [.ref qb])) := by rw [eh128]; exact hp_up_g k123 (fun z => by rw [z, k115] at k123; cases k123)
    have k137 : h128 qb = some (.inl ((Γ.2.1 0), 360, .inl (fn (jc M s (nC M))))) := by rw [eh128]; exact hp_up_g k124 (fun z => by rw [z, k115] at k124; cases k124)
    have k138 : h128 q1 = some (.inr (5, [.int (nI (nV M)), .int (nI s), .ref qs, .ref qo])) := by rw [eh128]; exact hp_up_g k125 (fun z => by rw [z, k115] at k125; cases k125)
    have k139 : h128 qo = some (.inl ((Γ.2.1 0), 300, .inl (v_tr (vc M (nV M - 1)) (fn (jc M s (nC M))) (og M (nV M - 1)) (fun _ => 0) (nI (nV M - 1)) (nI (nV M)) (60 * 5)))) := by rw [eh128]; exact hp_up_g k126 (fun z => by rw [z, k115] at k126; cases k126)
    have k140 : h128 (ad 4 0) = some (.inl ((Γ.2.1 4), 40, .inr (.inr (.inr (.inr (va_up (fun j => if j < nV M then some (ad 14 j) else none) ((nI (nV M)).toNatClampNeg) (some q1))))))) := by rw [eh128]; exact hp_up_g k127 (fun z => absurd (hC.2 4 0 0 0 (liv0 (by omega)) (liv0 (by omega)) z).1 (by decide))
    have k141 : h128 (ad 0 0) = some (.inr (6, [.ref (ad 1 0), .ref (ad 2 0), .int (M 1 0), .ref (ad 3 0), .int (M 9 0), .ref (ad 4 0), .int (nI (nV M + 1)), .ref (ad 14 (nV M - 1)), .ref (ad 5 0), .int (M 22 0), .ref (ad 6 0), cr_pen ad M])) := by rw [eh128]; exact hp_up_s
    refine hg_aload_n C 2 d_MM_finishJoining_58 rfl rfl ?_
    refine hg_aload_n C 0 d_MM_finishJoining_59 rfl rfl ?_
    refine p_MM_64 (fs' := [.ref (ad 1 0), .ref (ad 2 0), .int (M 1 0), .ref (ad 3 0), .int (M 9 0), .ref (ad 4 0), .int (nI (nV M + 1)), .ref q1, .ref (ad 5 0), .int (M 22 0), .ref (ad 6 0), cr_pen ad M]) C k141 rfl rfl (Nat.le_of_ble_eq_true rfl) rfl d_MM_finishJoining_60 ?_
    obtain ⟨h142, eh142⟩ : ∃ z, z = hp_up h128 (ad 0 0) (.inr (6, [.ref (ad 1 0), .ref (ad 2 0), .int (M 1 0), .ref (ad 3 0), .int (M 9 0), .ref (ad 4 0), .int (nI (nV M + 1)), .ref q1, .ref (ad 5 0), .int (M 22 0), .ref (ad 6 0), cr_pen ad M])) := ⟨_, rfl⟩
    refine hg_eq eh142.symm ?_
    have k143 : h142 (ad 3 0) = some (.inl ((Γ.2.1 3), 20, .inr (.inr (.inr (.inr (fun j => if j < nS M then some (ad 10 j) else none)))))) := by rw [eh142]; exact hp_up_g k129 (fun z => absurd (hC.2 3 0 0 0 (liv0 (by omega)) (liv0 (by omega)) z).1 (by decide))
    have k144 : h142 (ad 5 0) = some (.inl ((Γ.2.1 5), 10, .inr (.inr (.inr (.inr (fun j => if j < nR M then some (ad 18 j) else none)))))) := by rw [eh142]; exact hp_up_g k130 (fun z => absurd (hC.2 5 0 0 0 (liv0 (by omega)) (liv0 (by omega)) z).1 (by decide))
    have k145 : h142 (ad 6 0) = some (.inr (0, [.ref (ad 7 0), .ref (ad 8 0), .ref (ad 9 0), .int (M 27 0)])) := by rw [eh142]; exact hp_up_g k131 (fun z => absurd (hC.2 6 0 0 0 (liv0 (by omega)) (liv0 (by omega)) z).1 (by decide))
    have k146 : h142 (ad 10 s) = some (.inr (3, [.int (nI s), .int (M 10 s), .ref (ad 14 (bs M s)), .ref (ad 11 s), .ref (ad 13 (60 * s + sd M s)), .int (M 13 s), .int (M 14 s), .int (M 15 s)])) := by rw [eh142]; exact hp_up_g k132 (fun z => absurd (hC.2 10 s 0 0 (livS (by omega) (by omega) (by omega)) (liv0 (by omega)) z).1 (by decide))
    have k147 : h142 (ad 11 s) = some (.inr (4, [.ref (ad 12 s)])) := by rw [eh142]; exact hp_up_g k133 (fun z => absurd (hC.2 11 s 0 0 (livS (by omega) (by omega) (by omega)) (liv0 (by omega)) z).1 (by decide))
    have k148 : h142 (ad 14 (nV M - 1)) = some (.inr (5, [.int (nI (nV M - 1)), .int (au M (nV M - 1)), .ref (ad 15 (nV M - 1)), .ref (ad 17 (nV M - 1))])) := by rw [eh142]; exact hp_up_g k134 (fun z => absurd (hC.2 14 (nV M - 1) 0 0 (livV (by omega) (by omega) (by omega)) (liv0 (by omega)) z).1 (by decide))
    have k149 : h142 (ad 15 (nV M - 1)) = some (.inr (4, [.ref (ad 16 (nV M - 1))])) := by rw [eh142]; exact hp_up_g k135 (fun z => absurd (hC.2 15 (nV M - 1) 0 0 (livV (by omega) (by omega) (by omega)) (liv0 (by omega)) z).1 (by decide))
    have k150 : h142 qs = some (.inr (4, [.ref qb])) := by rw [eh142]; exact hp_up_g k136 (fun z => by rw [z, k141] at k136; cases k136)
    have k151 : h142 qb = some (.inl ((Γ.2.1 0), 360, .inl (fn (jc M s (nC M))))) := by rw [eh142]; exact hp_up_g k137 (fun z => by rw [z, k141] at k137; cases k137)
    have k152 : h142 q1 = some (.inr (5, [.int (nI (nV M)), .int (nI s), .ref qs, .ref qo])) := by rw [eh142]; exact hp_up_g k138 (fun z => by rw [z, k141] at k138; cases k138)
    have k153 : h142 qo = some (.inl ((Γ.2.1 0), 300, .inl (v_tr (vc M (nV M - 1)) (fn (jc M s (nC M))) (og M (nV M - 1)) (fun _ => 0) (nI (nV M - 1)) (nI (nV M)) (60 * 5)))) := by rw [eh142]; exact hp_up_g k139 (fun z => by rw [z, k141] at k139; cases k139)
    have k154 : h142 (ad 4 0) = some (.inl ((Γ.2.1 4), 40, .inr (.inr (.inr (.inr (va_up (fun j => if j < nV M then some (ad 14 j) else none) ((nI (nV M)).toNatClampNeg) (some q1))))))) := by rw [eh142]; exact hp_up_g k140 (fun z => absurd (hC.2 4 0 0 0 (liv0 (by omega)) (liv0 (by omega)) z).1 (by decide))
    have k155 : h142 (ad 0 0) = some (.inr (6, [.ref (ad 1 0), .ref (ad 2 0), .int (M 1 0), .ref (ad 3 0), .int (M 9 0), .ref (ad 4 0), .int (nI (nV M + 1)), .ref q1, .ref (ad 5 0), .int (M 22 0), .ref (ad 6 0), cr_pen ad M])) := by rw [eh142]; exact hp_up_s
    refine hg_aload_n C 3 d_MM_finishJoining_63 rfl rfl ?_
    refine hg_iconst (v := 2) C d_MM_finishJoining_64 (by decide) ?_
    refine p_MM_135 (fs' := [.int (nI s), .int (M 10 s), .ref (ad 14 (bs M s)), .ref (ad 11 s), .ref (ad 13 (60 * s + sd M s)), .int (M 13 s), .int 2, .int (M 15 s)]) C k146 rfl rfl (Nat.le_of_ble_eq_true rfl) rfl d_MM_finishJoining_65 ?_
    obtain ⟨h156, eh156⟩ : ∃ z, z = hp_up h142 (ad 10 s) (.inr (3, [.int (nI s), .int (M 10 s), .ref (ad 14 (bs M s)), .ref (ad 11 s), .ref (ad 13 (60 * s + sd M s)), .int (M 13 s), .int 2, .int (M 15 s)])) := ⟨_, rfl⟩
    refine hg_eq eh156.symm ?_
    have k157 : h156 (ad 3 0) = some (.inl ((Γ.2.1 3), 20, .inr (.inr (.inr (.inr (fun j => if j < nS M then some (ad 10 j) else none)))))) := by rw [eh156]; exact hp_up_g k143 (fun z => absurd (hC.2 3 0 10 s (liv0 (by omega)) (livS (by omega) (by omega) (by omega)) z).1 (by decide))
    have k158 : h156 (ad 5 0) = some (.inl ((Γ.2.1 5), 10, .inr (.inr (.inr (.inr (fun j => if j < nR M then some (ad 18 j) else none)))))) := by rw [eh156]; exact hp_up_g k144 (fun z => absurd (hC.2 5 0 10 s (liv0 (by omega)) (livS (by omega) (by omega) (by omega)) z).1 (by decide))
    have k159 : h156 (ad 6 0) = some (.inr (0, [.ref (ad 7 0), .ref (ad 8 0), .ref (ad 9 0), .int (M 27 0)])) := by rw [eh156]; exact hp_up_g k145 (fun z => absurd (hC.2 6 0 10 s (liv0 (by omega)) (livS (by omega) (by omega) (by omega)) z).1 (by decide))
    have k160 : h156 (ad 11 s) = some (.inr (4, [.ref (ad 12 s)])) := by rw [eh156]; exact hp_up_g k147 (fun z => absurd (hC.2 11 s 10 s (livS (by omega) (by omega) (by omega)) (livS (by omega) (by omega) (by omega)) z).1 (by decide))
    have k161 : h156 (ad 14 (nV M - 1)) = some (.inr (5, [.int (nI (nV M - 1)), .int (au M (nV M - 1)), .ref (ad 15 (nV M - 1)), .ref (ad 17 (nV M - 1))])) := by rw [eh156]; exact hp_up_g k148 (fun z => absurd (hC.2 14 (nV M - 1) 10 s (livV (by omega) (by omega) (by omega)) (livS (by omega) (by omega) (by omega)) z).1 (by decide))
    have k162 : h156 (ad 15 (nV M - 1)) = some (.inr (4, [.ref (ad 16 (nV M - 1))])) := by rw [eh156]; exact hp_up_g k149 (fun z => absurd (hC.2 15 (nV M - 1) 10 s (livV (by omega) (by omega) (by omega)) (livS (by omega) (by omega) (by omega)) z).1 (by decide))
    have k163 : h156 qs = some (.inr (4, [.ref qb])) := by rw [eh156]; exact hp_up_g k150 (fun z => by rw [z, k146] at k150; cases k150)
    have k164 : h156 qb = some (.inl ((Γ.2.1 0), 360, .inl (fn (jc M s (nC M))))) := by rw [eh156]; exact hp_up_g k151 (fun z => by rw [z, k146] at k151; cases k151)
    have k165 : h156 q1 = some (.inr (5, [.int (nI (nV M)), .int (nI s), .ref qs, .ref qo])) := by rw [eh156]; exact hp_up_g k152 (fun z => by rw [z, k146] at k152; cases k152)
    have k166 : h156 qo = some (.inl ((Γ.2.1 0), 300, .inl (v_tr (vc M (nV M - 1)) (fn (jc M s (nC M))) (og M (nV M - 1)) (fun _ => 0) (nI (nV M - 1)) (nI (nV M)) (60 * 5)))) := by rw [eh156]; exact hp_up_g k153 (fun z => by rw [z, k146] at k153; cases k153)
    have k167 : h156 (ad 4 0) = some (.inl ((Γ.2.1 4), 40, .inr (.inr (.inr (.inr (va_up (fun j => if j < nV M then some (ad 14 j) else none) ((nI (nV M)).toNatClampNeg) (some q1))))))) := by rw [eh156]; exact hp_up_g k154 (fun z => absurd (hC.2 4 0 10 s (liv0 (by omega)) (livS (by omega) (by omega) (by omega)) z).1 (by decide))
    have k168 : h156 (ad 0 0) = some (.inr (6, [.ref (ad 1 0), .ref (ad 2 0), .int (M 1 0), .ref (ad 3 0), .int (M 9 0), .ref (ad 4 0), .int (nI (nV M + 1)), .ref q1, .ref (ad 5 0), .int (M 22 0), .ref (ad 6 0), cr_pen ad M])) := by rw [eh156]; exact hp_up_g k155 (fun z => absurd (hC.2 0 0 10 s (liv0 (by omega)) (livS (by omega) (by omega) (by omega)) z).1 (by decide))
    have k169 : h156 (ad 10 s) = some (.inr (3, [.int (nI s), .int (M 10 s), .ref (ad 14 (bs M s)), .ref (ad 11 s), .ref (ad 13 (60 * s + sd M s)), .int (M 13 s), .int 2, .int (M 15 s)])) := by rw [eh156]; exact hp_up_s
    refine hg_aload_n C 3 d_MM_finishJoining_68 rfl rfl ?_
    refine hg_iload_n C 1 d_MM_finishJoining_69 rfl rfl ?_
    refine p_MM_208 (fs' := [.int (nI s), .int (M 10 s), .ref (ad 14 (bs M s)), .ref (ad 11 s), .ref (ad 13 (60 * s + sd M s)), .int (M 13 s), .int 2, .int (nI (nV M))]) C k169 rfl rfl (Nat.le_of_ble_eq_true rfl) rfl d_MM_finishJoining_70 ?_
    obtain ⟨h170, eh170⟩ : ∃ z, z = hp_up h156 (ad 10 s) (.inr (3, [.int (nI s), .int (M 10 s), .ref (ad 14 (bs M s)), .ref (ad 11 s), .ref (ad 13 (60 * s + sd M s)), .int (M 13 s), .int 2, .int (nI (nV M))])) := ⟨_, rfl⟩
    refine hg_eq eh170.symm ?_
    have k171 : h170 (ad 3 0) = some (.inl ((Γ.2.1 3), 20, .inr (.inr (.inr (.inr (fun j => if j < nS M then some (ad 10 j) else none)))))) := by rw [eh170]; exact hp_up_g k157 (fun z => absurd (hC.2 3 0 10 s (liv0 (by omega)) (livS (by omega) (by omega) (by omega)) z).1 (by decide))
    have k172 : h170 (ad 5 0) = some (.inl ((Γ.2.1 5), 10, .inr (.inr (.inr (.inr (fun j => if j < nR M then some (ad 18 j) else none)))))) := by rw [eh170]; exact hp_up_g k158 (fun z => absurd (hC.2 5 0 10 s (liv0 (by omega)) (livS (by omega) (by omega) (by omega)) z).1 (by decide))
    have k173 : h170 (ad 6 0) = some (.inr (0, [.ref (ad 7 0), .ref (ad 8 0), .ref (ad 9 0), .int (M 27 0)])) := by rw [eh170]; exact hp_up_g k159 (fun z => absurd (hC.2 6 0 10 s (liv0 (by omega)) (livS (by omega) (by omega) (by omega)) z).1 (by decide))
    have k174 : h170 (ad 11 s) = some (.inr (4, [.ref (ad 12 s)])) := by rw [eh170]; exact hp_up_g k160 (fun z => absurd (hC.2 11 s 10 s (livS (by omega) (by omega) (by omega)) (livS (by omega) (by omega) (by omega)) z).1 (by decide))
    have k175 : h170 (ad 14 (nV M - 1)) = some (.inr (5, [.int (nI (nV M - 1)), .int (au M (nV M - 1)), .ref (ad 15 (nV M - 1)), .ref (ad 17 (nV M - 1))])) := by rw [eh170]; exact hp_up_g k161 (fun z => absurd (hC.2 14 (nV M - 1) 10 s (livV (by omega) (by omega) (by omega)) (livS (by omega) (by omega) (by omega)) z).1 (by decide))
    have k176 : h170 (ad 15 (nV M - 1)) = some (.inr (4, [.ref (ad 16 (nV M - 1))])) := by rw [eh170]; exact hp_up_g k162 (fun z => absurd (hC.2 15 (nV M - 1) 10 s (livV (by omega) (by omega) (by omega)) (livS (by omega) (by omega) (by omega)) z).1 (by decide))
    have k177 : h170 qs = some (.inr (4, [.ref qb])) := by rw [eh170]; exact hp_up_g k163 (fun z => by rw [z, k169] at k163; cases k163)
    have k178 : h170 qb = some (.inl ((Γ.2.1 0), 360, .inl (fn (jc M s (nC M))))) := by rw [eh170]; exact hp_up_g k164 (fun z => by rw [z, k169] at k164; cases k164)
    have k179 : h170 q1 = some (.inr (5, [.int (nI (nV M)), .int (nI s), .ref qs, .ref qo])) := by rw [eh170]; exact hp_up_g k165 (fun z => by rw [z, k169] at k165; cases k165)
    have k180 : h170 qo = some (.inl ((Γ.2.1 0), 300, .inl (v_tr (vc M (nV M - 1)) (fn (jc M s (nC M))) (og M (nV M - 1)) (fun _ => 0) (nI (nV M - 1)) (nI (nV M)) (60 * 5)))) := by rw [eh170]; exact hp_up_g k166 (fun z => by rw [z, k169] at k166; cases k166)
    have k181 : h170 (ad 4 0) = some (.inl ((Γ.2.1 4), 40, .inr (.inr (.inr (.inr (va_up (fun j => if j < nV M then some (ad 14 j) else none) ((nI (nV M)).toNatClampNeg) (some q1))))))) := by rw [eh170]; exact hp_up_g k167 (fun z => absurd (hC.2 4 0 10 s (liv0 (by omega)) (livS (by omega) (by omega) (by omega)) z).1 (by decide))
    have k182 : h170 (ad 0 0) = some (.inr (6, [.ref (ad 1 0), .ref (ad 2 0), .int (M 1 0), .ref (ad 3 0), .int (M 9 0), .ref (ad 4 0), .int (nI (nV M + 1)), .ref q1, .ref (ad 5 0), .int (M 22 0), .ref (ad 6 0), cr_pen ad M])) := by rw [eh170]; exact hp_up_g k168 (fun z => absurd (hC.2 0 0 10 s (liv0 (by omega)) (livS (by omega) (by omega) (by omega)) z).1 (by decide))
    have k183 : h170 (ad 10 s) = some (.inr (3, [.int (nI s), .int (M 10 s), .ref (ad 14 (bs M s)), .ref (ad 11 s), .ref (ad 13 (60 * s + sd M s)), .int (M 13 s), .int 2, .int (nI (nV M))])) := by rw [eh170]; exact hp_up_s
    refine hg_aload_n C 2 d_MM_finishJoining_73 rfl rfl ?_
    refine hg_null C d_MM_finishJoining_74 ?_
    refine p_MM_54 (fs' := [.ref (ad 1 0), .ref (ad 2 0), .int (M 1 0), .ref (ad 3 0), .int (M 9 0), .ref (ad 4 0), .int (nI (nV M + 1)), .ref q1, .ref (ad 5 0), .int (M 22 0), .ref (ad 6 0), .null]) C k182 rfl rfl (Nat.le_of_ble_eq_true rfl) rfl d_MM_finishJoining_75 ?_
    obtain ⟨h184, eh184⟩ : ∃ z, z = hp_up h170 (ad 0 0) (.inr (6, [.ref (ad 1 0), .ref (ad 2 0), .int (M 1 0), .ref (ad 3 0), .int (M 9 0), .ref (ad 4 0), .int (nI (nV M + 1)), .ref q1, .ref (ad 5 0), .int (M 22 0), .ref (ad 6 0), .null])) := ⟨_, rfl⟩
    refine hg_eq eh184.symm ?_
    have k185 : h184 (ad 3 0) = some (.inl ((Γ.2.1 3), 20, .inr (.inr (.inr (.inr (fun j => if j < nS M then some (ad 10 j) else none)))))) := by rw [eh184]; exact hp_up_g k171 (fun z => absurd (hC.2 3 0 0 0 (liv0 (by omega)) (liv0 (by omega)) z).1 (by decide))
    have k186 : h184 (ad 5 0) = some (.inl ((Γ.2.1 5), 10, .inr (.inr (.inr (.inr (fun j => if j < nR M then some (ad 18 j) else none)))))) := by rw [eh184]; exact hp_up_g k172 (fun z => absurd (hC.2 5 0 0 0 (liv0 (by omega)) (liv0 (by omega)) z).1 (by decide))
    have k187 : h184 (ad 6 0) = some (.inr (0, [.ref (ad 7 0), .ref (ad 8 0), .ref (ad 9 0), .int (M 27 0)])) := by rw [eh184]; exact hp_up_g k173 (fun z => absurd (hC.2 6 0 0 0 (liv0 (by omega)) (liv0 (by omega)) z).1 (by decide))
    have k188 : h184 (ad 11 s) = some (.inr (4, [.ref (ad 12 s)])) := by rw [eh184]; exact hp_up_g k174 (fun z => absurd (hC.2 11 s 0 0 (livS (by omega) (by omega) (by omega)) (liv0 (by omega)) z).1 (by decide))
    have k189 : h184 (ad 14 (nV M - 1)) = some (.inr (5, [.int (nI (nV M - 1)), .int (au M (nV M - 1)), .ref (ad 15 (nV M - 1)), .ref (ad 17 (nV M - 1))])) := by rw [eh184]; exact hp_up_g k175 (fun z => absurd (hC.2 14 (nV M - 1) 0 0 (livV (by omega) (by omega) (by omega)) (liv0 (by omega)) z).1 (by decide))
    have k190 : h184 (ad 15 (nV M - 1)) = some (.inr (4, [.ref (ad 16 (nV M - 1))])) := by rw [eh184]; exact hp_up_g k176 (fun z => absurd (hC.2 15 (nV M - 1) 0 0 (livV (by omega) (by omega) (by omega)) (liv0 (by omega)) z).1 (by decide))
    have k191 : h184 qs = some (.inr (4, [.ref qb])) := by rw [eh184]; exact hp_up_g k177 (fun z => by rw [z, k182] at k177; cases k177)
    have k192 : h184 qb = some (.inl ((Γ.2.1 0), 360, .inl (fn (jc M s (nC M))))) := by rw [eh184]; exact hp_up_g k178 (fun z => by rw [z, k182] at k178; cases k178)
    have k193 : h184 q1 = some (.inr (5, [.int (nI (nV M)), .int (nI s), .ref qs, .ref qo])) := by rw [eh184]; exact hp_up_g k179 (fun z => by rw [z, k182] at k179; cases k179)
    have k194 : h184 qo = some (.inl ((Γ.2.1 0), 300, .inl (v_tr (vc M (nV M - 1)) (fn (jc M s (nC M))) (og M (nV M - 1)) (fun _ => 0) (nI (nV M - 1)) (nI (nV M)) (60 * 5)))) := by rw [eh184]; exact hp_up_g k180 (fun z => by rw [z, k182] at k180; cases k180)
    have k195 : h184 (ad 4 0) = some (.inl ((Γ.2.1 4), 40, .inr (.inr (.inr (.inr (va_up (fun j => if j < nV M then some (ad 14 j) else none) ((nI (nV M)).toNatClampNeg) (some q1))))))) := by rw [eh184]; exact hp_up_g k181 (fun z => absurd (hC.2 4 0 0 0 (liv0 (by omega)) (liv0 (by omega)) z).1 (by decide))
    have k196 : h184 (ad 10 s) = some (.inr (3, [.int (nI s), .int (M 10 s), .ref (ad 14 (bs M s)), .ref (ad 11 s), .ref (ad 13 (60 * s + sd M s)), .int (M 13 s), .int 2, .int (nI (nV M))])) := by rw [eh184]; exact hp_up_g k183 (fun z => absurd (hC.2 10 s 0 0 (livS (by omega) (by omega) (by omega)) (liv0 (by omega)) z).1 (by decide))
    have k197 : h184 (ad 0 0) = some (.inr (6, [.ref (ad 1 0), .ref (ad 2 0), .int (M 1 0), .ref (ad 3 0), .int (M 9 0), .ref (ad 4 0), .int (nI (nV M + 1)), .ref q1, .ref (ad 5 0), .int (M 22 0), .ref (ad 6 0), .null])) := by rw [eh184]; exact hp_up_s
    have fr_q1 := hq_q1
    have fr_qs := hq_qs
    rw [eh2] at fr_qs
    obtain ⟨ne_qs_0, fr_qs⟩ := hp_up_none fr_qs
    have fr_qb := hq_qb
    rw [ehA] at fr_qb
    obtain ⟨ne_qb_1, fr_qb⟩ := hp_up_none fr_qb
    rw [eh2] at fr_qb
    obtain ⟨ne_qb_0, fr_qb⟩ := hp_up_none fr_qb
    have fr_qo := hq_qo
    rw [ehB] at fr_qo
    obtain ⟨ne_qo_3, fr_qo⟩ := hp_up_none fr_qo
    rw [euu] at fr_qo
    obtain ⟨ne_qo_2, fr_qo⟩ := hp_up_none fr_qo
    rw [ehA] at fr_qo
    obtain ⟨ne_qo_1, fr_qo⟩ := hp_up_none fr_qo
    rw [eh2] at fr_qo
    obtain ⟨ne_qo_0, fr_qo⟩ := hp_up_none fr_qo
    exact hg_vretN C hr d_MM_finishJoining_78 (Nat.le_of_ble_eq_true rfl) (Nat.le_of_ble_eq_true rfl) (⟨rfl, cr_fin hC hI hW h40 hs hfit hall fr_q1 fr_qs fr_qb fr_qo k193 k191 k192 k194 nbo k195 k197 k196 (fun z z1 z2 z3 z4 z5 z6 z7 => by rw [eh184, hp_up_n z6, eh170, hp_up_n z7, eh156, hp_up_n z7, eh142, hp_up_n z6, eh128, hp_up_n z6, eh114, hp_up_n z5, eut, hp_up_n z4, euw, hp_up_n z4, ehB, hp_up_n z1, euu, hp_up_n z3, ehA, hp_up_n z2, eh2, hp_up_n z1])⟩)
  · have c6n : ¬ nV M < 40 := fun z => c6 (nI_lt (a := (nV M)) (b := 40) z (by omega))
    exact hg_vretN C hr d_MM_finishJoining_9 (Nat.le_of_ble_eq_true rfl) (Nat.le_of_ble_eq_true rfl) (absurd h40 (by omega))
