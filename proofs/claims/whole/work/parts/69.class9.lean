/-! THE CLASS: pictures behind make and session; the code of a throw -/
theorem mset_comm {M : Mem} {k i k' i' : Nat} {v v' : Int32} (h : k ≠ k') : mset (mset M k i v) k' i' v' = mset (mset M k' i' v') k i v := funext fun j => by
  by_cases h1 : j = k
  · subst h1
    rw [mset_n h, mset_s, mset_s, mset_n h]
  · rw [mset_n (k := k) h1]
    by_cases h2 : j = k'
    · subst h2
      rw [mset_s, mset_s, mset_n h1]
    · rw [mset_n h2, mset_n h2, mset_n h1]
theorem mset_self {M : Mem} {k i : Nat} {v : Int32} (h : M k i = v) : mset M k i v = M := funext fun j => by
  by_cases h1 : j = k
  · subst h1
    rw [mset_s]
    funext x
    by_cases hx : x = i
    · rw [hx, pk_us, h]
    · rw [pk_un hx]
  · rw [mset_n h1]
theorem m_change_code {M : Mem} {s sd m : Nat} {h t f v c : Int32} : m_change (mset M 0 0 c) s sd m h t f v = mset (m_change M s sd m h t f v) 0 0 c := by
  unfold m_change
  rw [mset_comm (k := 0) (by decide), mset_comm (k := 0) (by decide), mset_comm (k := 0) (by decide), mset_comm (k := 0) (by decide), mset_comm (k := 0) (by decide), mset_comm (k := 0) (by decide), mset_comm (k := 0) (by decide), mset_comm (k := 0) (by decide), mset_comm (k := 0) (by decide)]
section MU3
variable {Γ : Gam} {ad : Nat → Nat → Nat} {M : Mem} {h h1 h2 h3 h4 : Pic}
theorem cr_mk0 (hC : cr_at Γ ad M h) {n : Nat} {k v : Int32} (e1 : h1 = hp_up h (ad 1 0) (.inl (Γ.2.1 0, 60, .inl (upd (M 2) n k)))) (e2 : h2 = hp_up h1 (ad 2 0) (.inl (Γ.2.1 0, 60, .inl (upd (M 3) n (-1))))) (e3 : h3 = hp_up h2 (ad 0 0) (.inr (6, [.ref (ad 1 0), .ref (ad 2 0), .int v, .ref (ad 3 0), .int (M 9 0), .ref (ad 4 0), .int (M 4 0), .ref (ad 14 (nV M - 1)), .ref (ad 5 0), .int (M 22 0), .ref (ad 6 0), cr_pen ad M]))) : cr_at Γ ad (mset (mset (mset M 2 n k) 3 n (-1)) 1 0 v) h3 := by
  rw [e3, e2, e1]
  have hf : ∀ j, j ∈ [5, 6, 8, 11, 12, 16, 17, 18, 19, 20, 21] → mset (mset (mset M 2 n k) 3 n (-1)) 1 0 v j = M j := fun j hj => (hfl2 (by decide) (by decide) j hj).trans (hfl1 (by decide) hj)
  refine cw_c (cw_w (cw_w (cw_w hC (liv0 (k := 1) (by omega)) rfl) (liv0 (k := 2) (by omega)) rfl) (liv0 (k := 0) (by omega)) rfl) (fun k i hl => hl) (liv_all (le9 rfl rfl rfl rfl rfl rfl rfl rfl rfl rfl) ?_ ?_ ?_ ?_)
  · intro s hs
    exact ⟨(c_up_k (by decide)).trans <| (c_up_k (by decide)).trans <| (c_up_k (by decide)).trans (cc10 rfl rfl rfl rfl rfl rfl rfl rfl rfl), (c_up_k (by decide)).trans <| (c_up_k (by decide)).trans <| (c_up_k (by decide)).trans (cc_hi hf (by omega) (by omega)), (c_up_k (by decide)).trans <| (c_up_k (by decide)).trans <| (c_up_k (by decide)).trans (cc_hi hf (by omega) (by omega))⟩
  · intro s j hs hj
    exact (c_up_k (by decide)).trans <| (c_up_k (by decide)).trans <| (c_up_k (by decide)).trans (cc_hi hf (by omega) (by omega))
  · intro v hv
    exact ⟨(c_up_k (by decide)).trans <| (c_up_k (by decide)).trans <| (c_up_k (by decide)).trans (cc_hi hf (by omega) (by omega)), (c_up_k (by decide)).trans <| (c_up_k (by decide)).trans <| (c_up_k (by decide)).trans (cc_hi hf (by omega) (by omega)), (c_up_k (by decide)).trans <| (c_up_k (by decide)).trans <| (c_up_k (by decide)).trans (cc_hi hf (by omega) (by omega)), (c_up_k (by decide)).trans <| (c_up_k (by decide)).trans <| (c_up_k (by decide)).trans (cc_hi hf (by omega) (by omega))⟩
  · intro r hr
    exact (c_up_k (by decide)).trans <| (c_up_k (by decide)).trans <| (c_up_k (by decide)).trans (cc18 rfl rfl rfl)
theorem cr_session (hC : cr_at Γ ad M h) (hI : Inv0 M) (hn : nS M < 20) {v : Nat} {p : Int32} (hv : v < nV M) {q qs qb qm : Nat} (hq : h q = none) (e1 : h1 = hp_up h q (.inr (3, [.int 0, .int 0, .null, .null, .null, .int 0, .int 0, .int 0]))) (nqs : h1 qs = none) (nqb : h1 qb = none) (nqm : h1 qm = none)
    (u1 : h2 q = some (.inr (3, [.int (nI (nS M)), .int p, .ref (ad 14 v), .ref qs, .ref qm, .int 1, .int 0, .int (-1)]))) (u2 : h2 qs = some (.inr (4, [.ref qb]))) (u3 : h2 qb = some (.inl (Γ.2.1 0, 360, .inl (va_cpy (vc M v) (fun _ => 0) 0 0 360)))) (u4 : h2 qm = some (.inr (1, [.int 0, .null, .int (-1), .int (-1), .int 0, .int 0, .null]))) (u5 : ∀ z, z ≠ q → z ≠ qs → z ≠ qb → z ≠ qm → h2 z = h1 z)
    (e3 : h3 = hp_up h2 (ad 3 0) (.inl (Γ.2.1 3, 20, .inr (.inr (.inr (.inr (va_up (fun j => if j < nS M then some (ad 10 j) else none) (nI (nS M)).toNatClampNeg (some q)))))))) (e4 : h4 = hp_up h3 (ad 0 0) (.inr (6, [.ref (ad 1 0), .ref (ad 2 0), .int (M 1 0), .ref (ad 3 0), .int (nI (nS M + 1)), .ref (ad 4 0), .int (M 4 0), .ref (ad 14 (nV M - 1)), .ref (ad 5 0), .int (M 22 0), .ref (ad 6 0), cr_pen ad M]))) :
    ∃ ad', ad' 0 0 = ad 0 0 ∧ cr_at Γ ad' (mset (mset (mset (mset (mset (mset (mset M 10 (nS M) p) 11 (nS M) (nI v)) 13 (nS M) 1) 16 (60 * nS M) (-1)) 17 (60 * nS M) (-1)) 15 (nS M) (-1)) 9 0 (nI (nS M + 1))) h4 := by
  have hJ := J_of hI
  have hV := hI.1.2.1.2.2
  have hbs : ∀ i, i < nS M → bs M i < nV M := fun i hi => (hI.2.1 i hi).1.2
  have hdef := hI.2.2.1 (nS M) (Nat.le_refl _)
  have hq2 : qb ≠ qs := fun z => by rw [z, u2] at u3; cases u3
  have hq3 : qm ≠ qs := fun z => by rw [z, u2] at u4; cases u4
  have hq4 : qm ≠ qb := fun z => by rw [z, u3] at u4; cases u4
  obtain ⟨n, en⟩ : ∃ n, n = nS M := ⟨_, rfl⟩
  rw [← en] at hn hdef u1 e3 e4 ⊢
  obtain ⟨M', eM⟩ : ∃ z, z = mset (mset (mset (mset (mset (mset (mset M 10 n p) 11 n (nI v)) 13 n 1) 16 (60 * n) (-1)) 17 (60 * n) (-1)) 15 n (-1)) 9 0 (nI (n + 1)) := ⟨_, rfl⟩
  rw [← eM]
  have fo : ∀ k, k ∉ [9, 10, 11, 13, 15, 16, 17] → M' k = M k := fun k hk => by
    simp only [List.mem_cons, List.not_mem_nil, or_false, not_or] at hk
    obtain ⟨a1, a2, a3, a4, a5, a6, a7⟩ := hk
    rw [eM, mset_n a1, mset_n a5, mset_n a7, mset_n a6, mset_n a4, mset_n a3, mset_n a2]
  have fi : ∀ k, k ∈ [10, 11, 13, 15] → ∀ i, i ≠ n → M' k i = M k i := fun k hk i hi => by
    rw [eM]
    simp only [List.mem_cons, List.not_mem_nil, or_false] at hk
    rcases hk with rfl | rfl | rfl | rfl <;> exact pk_un hi
  have fj : ∀ k, k ∈ [16, 17] → ∀ i, i ≠ 60 * n → M' k i = M k i := fun k hk i hi => by
    rw [eM]
    simp only [List.mem_cons, List.not_mem_nil, or_false] at hk
    rcases hk with rfl | rfl <;> exact pk_un hi
  have g10 : M' 10 n = p := by rw [eM]; exact pk_us
  have g11 : M' 11 n = nI v := by rw [eM]; exact pk_us
  have g13 : M' 13 n = 1 := by rw [eM]; exact pk_us
  have g15 : M' 15 n = -1 := by rw [eM]; exact pk_us
  have g17 : M' 17 (60 * n) = -1 := by rw [eM]; exact pk_us
  have g9 : M' 9 0 = nI (n + 1) := by rw [eM]; rfl
  clear eM
  have eS : nS M' = n + 1 := by unfold nS; rw [g9, nI_clamp (by omega)]
  have eV : nV M' = nV M := by unfold nV; rw [fo 4 (by decide)]
  have eR : nR M' = nR M := by unfold nR; rw [fo 22 (by decide)]
  have enm : nm M' n = 1 := by unfold nm; rw [g13]; rfl
  have enm' : ∀ i, i ≠ n → nm M' i = nm M i := fun i hi => by unfold nm; rw [fi 13 (by decide) i hi]
  have esd : sd M' n = 0 := by unfold sd; rw [fo 12 (by decide), hdef.1]; rfl
  have ebs : bs M' n = v := by unfold bs; rw [g11, nI_clamp (by omega)]
  have hm0 : ∀ i, i < n → ∀ k, k ∈ [16, 18, 19, 20, 21] → ∀ j, j < 60 → M' k (60 * i + j) = M k (60 * i + j) := fun i hi k hk j hj => by
    simp only [List.mem_cons, List.not_mem_nil, or_false] at hk
    rcases hk with rfl | rfl | rfl | rfl | rfl
    · exact fj 16 (by decide) _ (by omega)
    · rw [fo 18 (by decide)]
    · rw [fo 19 (by decide)]
    · rw [fo 20 (by decide)]
    · rw [fo 21 (by decide)]
  have est : ∀ i k t g, i < n → k < nm M i → t < 60 → g < 6 → stv M' i k t g = stv M i k t g := fun i k t g hi hk ht hg => by
    have hJi := hJ i (by omega)
    exact stv_cg (n := nm M i) (fun k h1 h2 => (hJi.2.2.1 k h1 h2).1) (fi 11 (by decide) i (by omega)) (fun t _ => by rw [fo 5 (by decide)]) (fun t _ f _ => by rw [fo 6 (by decide)]) (fun k hk j h1 h2 => hm0 i hi k hk j (by have := hJi.2.1; omega)) hk ht hg
  have n10 : ∀ k, 10 ≤ k → k ≤ 12 → ¬ liv M k n := fun k h1 h2 z => by
    rcases z with z | z | z | z | z
    · omega
    · omega
    · omega
    · omega
    · omega
  have n13 : ¬ liv M 13 (60 * n) := fun z => by
    rcases z with z | z | ⟨-, i, j, h1, h2, h3⟩ | z | z
    · omega
    · omega
    · have h60 := (hJ i h1).2.1
      omega
    · omega
    · omega
  have eu := fr4 u2 u3 u4 u1 (fun z a b c d => u5 z d a b c)
  have W1 := cw_n (k0 := 10) (i0 := n) (z := .inr (3, [.int 0, .int 0, .null, .null, .null, .int 0, .int 0, .int 0])) hC (n10 10 (by omega) (by omega)) hq
  rw [← e1] at W1
  have W2 := cw_n (k0 := 11) (i0 := n) (z := .inr (4, [.ref qb])) W1 (fun z => z.elim (n10 11 (by omega) (by omega)) (fun y => absurd y.1 (by decide))) nqs
  have W3 := cw_n (k0 := 12) (i0 := n) (z := .inl (Γ.2.1 0, 360, .inl (va_cpy (vc M v) (fun _ => 0) 0 0 360))) W2 (fun z => z.elim (fun y => y.elim (n10 12 (by omega) (by omega)) (fun y => absurd y.1 (by decide))) (fun y => absurd y.1 (by decide))) (by rw [hp_up_n hq2]; exact nqb)
  have W4 := cw_n (k0 := 13) (i0 := 60 * n) (z := .inr (1, [.int 0, .null, .int (-1), .int (-1), .int 0, .int 0, .null])) W3 (fun z => z.elim (fun y => y.elim (fun y => y.elim n13 (fun y => absurd y.1 (by decide))) (fun y => absurd y.1 (by decide))) (fun y => absurd y.1 (by decide))) (by rw [hp_up_n hq4, hp_up_n hq3]; exact nqm)
  have W5 := cw_w (k0 := 10) (i0 := n) (a := q) (z := .inr (3, [.int (nI n), .int p, .ref (ad 14 v), .ref qs, .ref qm, .int 1, .int 0, .int (-1)])) W4 (Or.inl (Or.inl (Or.inl (Or.inr ⟨rfl, rfl⟩)))) (by rw [a_up_k (by decide), a_up_k (by decide), a_up_k (by decide), a_up_s])
  rw [← eu] at W5
  have W6 := cw_w (k0 := 3) (i0 := 0) (a := ad 3 0) (z := .inl (Γ.2.1 3, 20, .inr (.inr (.inr (.inr (va_up (fun j => if j < nS M then some (ad 10 j) else none) (nI n).toNatClampNeg (some q))))))) W5 (Or.inl (Or.inl (Or.inl (Or.inl (liv0 (by omega)))))) (by rw [a_up_k (by decide), a_up_k (by decide), a_up_k (by decide), a_up_k (by decide)])
  rw [← en] at W6
  rw [← e3] at W6
  have W7 := cw_w (k0 := 0) (i0 := 0) (a := ad 0 0) (z := .inr (6, [.ref (ad 1 0), .ref (ad 2 0), .int (M 1 0), .ref (ad 3 0), .int (nI (n + 1)), .ref (ad 4 0), .int (M 4 0), .ref (ad 14 (nV M - 1)), .ref (ad 5 0), .int (M 22 0), .ref (ad 6 0), cr_pen ad M])) W6 (Or.inl (Or.inl (Or.inl (Or.inl (liv0 (by omega)))))) (by rw [a_up_k (by decide), a_up_k (by decide), a_up_k (by decide), a_up_k (by decide)])
  rw [← e4] at W7
  obtain ⟨ad', ea⟩ : ∃ z, z = a_up (a_up (a_up (a_up ad 10 n q) 11 n qs) 12 n qb) 13 (60 * n) qm := ⟨_, rfl⟩
  rw [← ea] at W7
  have ak : ∀ k i, k ≠ 10 → k ≠ 11 → k ≠ 12 → k ≠ 13 → ad' k i = ad k i := fun k i x1 x2 x3 x4 => by rw [ea, a_up_k x4, a_up_k x3, a_up_k x2, a_up_k x1]
  have ai : ∀ k i, k ≠ 13 → i ≠ n → ad' k i = ad k i := fun k i hk hi => by rw [ea, a_up_k hk, a_up_i hi, a_up_i hi, a_up_i hi]
  have a13 : ∀ i, i ≠ 60 * n → ad' 13 i = ad 13 i := fun i hi => by rw [ea, a_up_i hi, a_up_k (by decide), a_up_k (by decide), a_up_k (by decide)]
  have s10 : ad' 10 n = q := by rw [ea, a_up_k (by decide), a_up_k (by decide), a_up_k (by decide), a_up_s]
  have s11 : ad' 11 n = qs := by rw [ea, a_up_k (by decide), a_up_k (by decide), a_up_s]
  have s12 : ad' 12 n = qb := by rw [ea, a_up_k (by decide), a_up_s]
  have s13 : ad' 13 (60 * n) = qm := by rw [ea, a_up_s]
  clear ea W1 W2 W3 W4 W5 W6 eu
  refine ⟨ad', ak 0 0 (by decide) (by decide) (by decide) (by decide), cw_c W7 (liv_all (fun k hk => Or.inl (Or.inl (Or.inl (Or.inl (liv0 hk))))) (fun i hi => ?_) (fun i j hi hj => ?_) (fun w hw => ?_) (fun r hr => ?_)) (liv_all (fun k hk => ?_) (fun i hi => ?_) (fun i j hi hj => ?_) (fun w hw => ?_) (fun r hr => ?_))⟩
  · rw [eS] at hi
    rcases Nat.lt_succ_iff_lt_or_eq.mp hi with z | z
    · exact ⟨Or.inl (Or.inl (Or.inl (Or.inl (livS (by omega) (by omega) (by omega))))), Or.inl (Or.inl (Or.inl (Or.inl (livS (by omega) (by omega) (by omega))))), Or.inl (Or.inl (Or.inl (Or.inl (livS (by omega) (by omega) (by omega)))))⟩
    · exact ⟨Or.inl (Or.inl (Or.inl (Or.inr ⟨rfl, z⟩))), Or.inl (Or.inl (Or.inr ⟨rfl, z⟩)), Or.inl (Or.inr ⟨rfl, z⟩)⟩
  · rw [eS] at hi
    rcases Nat.lt_succ_iff_lt_or_eq.mp hi with z | z
    · rw [enm' i (by omega)] at hj
      exact Or.inl (Or.inl (Or.inl (Or.inl (livM (by omega) hj))))
    · subst z
      rw [enm] at hj
      exact Or.inr ⟨rfl, by omega⟩
  · rw [eV] at hw
    exact ⟨Or.inl (Or.inl (Or.inl (Or.inl (livV (by omega) (by omega) hw)))), Or.inl (Or.inl (Or.inl (Or.inl (livV (by omega) (by omega) hw)))), Or.inl (Or.inl (Or.inl (Or.inl (livV (by omega) (by omega) hw)))), Or.inl (Or.inl (Or.inl (Or.inl (livV (by omega) (by omega) hw))))⟩
  · rw [eR] at hr
    exact Or.inl (Or.inl (Or.inl (Or.inl (livR hr))))
  · revert k
    refine le9 ?_ ?_ ?_ ?_ ?_ ?_ ?_ ?_ ?_ ?_
    · rw [c_up_s, cc, fo 1 (by decide), g9, fo 4 (by decide), fo 22 (by decide), eV, ak 1 _ (by decide) (by decide) (by decide) (by decide), ak 2 _ (by decide) (by decide) (by decide) (by decide), ak 3 _ (by decide) (by decide) (by decide) (by decide), ak 4 _ (by decide) (by decide) (by decide) (by decide), ak 5 _ (by decide) (by decide) (by decide) (by decide), ak 6 _ (by decide) (by decide) (by decide) (by decide), ak 14 _ (by decide) (by decide) (by decide) (by decide)]
      have ep : cr_pen ad' M' = cr_pen ad M := by
        unfold cr_pen
        rw [fo 26 (by decide)]
        rcases hI.2.2.2.2.2.1 with z | ⟨s, hs, z, -⟩
        · rw [z, if_pos (by decide), if_pos (by decide)]
        · rw [z, if_neg (nI_pos (by omega)), if_neg (nI_pos (by omega)), nI_clamp (by omega), ai 10 s (by decide) (by omega)]
      rw [ep]
    · rw [c_up_k (by decide), c_up_k (by decide), c_up_k (by decide), c_up_k (by decide), c_up_k (by decide), c_up_k (by decide), c_up_k (by decide), cc, cc, fo 2 (by decide)]
    · rw [c_up_k (by decide), c_up_k (by decide), c_up_k (by decide), c_up_k (by decide), c_up_k (by decide), c_up_k (by decide), c_up_k (by decide), cc, cc, fo 3 (by decide)]
    · rw [c_up_k (by decide), c_up_s, cc, eS, nI_clamp (by omega), va_up_new (a := ad 10) (a' := ad' 10) s10 (fun j hj => ai 10 j (by decide) (Nat.ne_of_lt hj))]
    · rw [c_up_k (by decide), c_up_k (by decide), c_up_k (by decide), c_up_k (by decide), c_up_k (by decide), c_up_k (by decide), c_up_k (by decide), cc, cc, eV, show ad' 14 = ad 14 from funext fun i => ak 14 i (by decide) (by decide) (by decide) (by decide)]
    · rw [c_up_k (by decide), c_up_k (by decide), c_up_k (by decide), c_up_k (by decide), c_up_k (by decide), c_up_k (by decide), c_up_k (by decide), cc, cc, eR, show ad' 18 = ad 18 from funext fun i => ak 18 i (by decide) (by decide) (by decide) (by decide)]
    · rw [c_up_k (by decide), c_up_k (by decide), c_up_k (by decide), c_up_k (by decide), c_up_k (by decide), c_up_k (by decide), c_up_k (by decide), cc, cc, fo 27 (by decide), ak 7 _ (by decide) (by decide) (by decide) (by decide), ak 8 _ (by decide) (by decide) (by decide) (by decide), ak 9 _ (by decide) (by decide) (by decide) (by decide)]
    · rw [c_up_k (by decide), c_up_k (by decide), c_up_k (by decide), c_up_k (by decide), c_up_k (by decide), c_up_k (by decide), c_up_k (by decide), cc, cc, fo 28 (by decide)]
    · rw [c_up_k (by decide), c_up_k (by decide), c_up_k (by decide), c_up_k (by decide), c_up_k (by decide), c_up_k (by decide), c_up_k (by decide), cc, cc, fo 29 (by decide)]
    · rw [c_up_k (by decide), c_up_k (by decide), c_up_k (by decide), c_up_k (by decide), c_up_k (by decide), c_up_k (by decide), c_up_k (by decide), cc, cc, fo 30 (by decide)]
  · rw [eS] at hi
    rcases Nat.lt_succ_iff_lt_or_eq.mp hi with z | z
    · have hin : i ≠ n := by omega
      have hJi := hJ i (by omega)
      refine ⟨?_, ?_, ?_⟩
      · rw [c_up_k (by decide), c_up_k (by decide), c_up_i hin, c_up_k (by decide), c_up_k (by decide), c_up_k (by decide), c_up_i hin]
        exact cc10 (fi 10 (by decide) i hin) (fi 11 (by decide) i hin) (by rw [fo 12 (by decide)]) (fi 13 (by decide) i hin) (by rw [fo 14 (by decide)]) (fi 15 (by decide) i hin) (ak 14 _ (by decide) (by decide) (by decide) (by decide)) (ai 11 i (by decide) hin) (a13 _ (by have := hJi.1; have := hJi.2.1; omega))
      · rw [c_up_k (by decide), c_up_k (by decide), c_up_k (by decide), c_up_k (by decide), c_up_k (by decide), c_up_i hin, c_up_k (by decide)]
        exact cc11 (ai 12 i (by decide) hin)
      · rw [c_up_k (by decide), c_up_k (by decide), c_up_k (by decide), c_up_k (by decide), c_up_i hin, c_up_k (by decide), c_up_k (by decide)]
        exact cc12 (sc_cg (by rw [fo 12 (by decide)]) (fun t g h1 h2 => est i _ t g z hJi.1 h1 h2))
    · rw [z]
      refine ⟨?_, ?_, ?_⟩
      · rw [c_up_k (by decide), c_up_k (by decide), c_up_s, cc, ebs, esd, ak 14 _ (by decide) (by decide) (by decide) (by decide), s11, show 60 * n + 0 = 60 * n from rfl, s13, g10, g13, fo 14 (by decide), hdef.2, g15]
      · rw [c_up_k (by decide), c_up_k (by decide), c_up_k (by decide), c_up_k (by decide), c_up_k (by decide), c_up_s, cc, s12]
      · rw [c_up_k (by decide), c_up_k (by decide), c_up_k (by decide), c_up_k (by decide), c_up_s, cc]
        have e : va_cpy (vc M v) (fun _ => 0) 0 0 360 = sc M' n := funext fun j => by
          by_cases hj : j < 360
          · rw [pk_cpy_in (by omega) (by omega), sc, if_pos hj, esd, stv_0, m_base, ebs, vc, if_pos (by omega), fo 5 (by decide), fo 6 (by decide), show 0 + (j - 0) = j by omega]
          · rw [pk_cpy_out (by omega), sc, if_neg hj]
        rw [e]
  · rw [eS] at hi
    rw [c_up_k (by decide), c_up_k (by decide), c_up_k (by decide)]
    rcases Nat.lt_succ_iff_lt_or_eq.mp hi with z | z
    · have hin : i ≠ n := by omega
      have hJi := hJ i (by omega)
      have h60 := hJi.2.1
      rw [enm' i hin] at hj
      rw [c_up_i (by omega), c_up_k (by decide), c_up_k (by decide), c_up_k (by decide)]
      have hm1 : ∀ k, k ∈ [16, 18, 19, 20, 21] → M' k (60 * i + j) = M k (60 * i + j) := fun k hk => hm0 i z k hk j (by omega)
      refine cc13 (by omega) hm1 (fj 17 (by decide) _ (by omega)) (mo_o_cg hm1 (fun hj0 => ?_)) (fun hj0 => a13 _ (by have := (hJi.2.2.1 j (by omega) hj).1; omega)) (fun hl => a13 _ (by have := hJi.2.2.2 j hj hl; omega))
      obtain ⟨hbj, hmk⟩ := hJi.2.2.1 j (by omega) hj
      obtain ⟨t', ht', hg', e19', -⟩ := hmk.get hj0
      rw [e19', nI_clamp (by omega)]
      exact est i _ _ _ z (by omega) ht' hg'
    · subst z
      rw [enm] at hj
      have hj0 : j = 0 := by omega
      subst hj0
      rw [show 60 * i + 0 = 60 * i from rfl, c_up_s, cc, show 60 * i / 60 = i by omega, show 60 * i % 60 = 0 by omega, mo_b, if_pos rfl, mo_t, if_pos rfl, mo_f, if_pos rfl, mo_o, if_pos rfl, mo_n, if_pos rfl, mo_l, show 60 * i + 0 = 60 * i from rfl, g17]
      rfl
  · rw [eV] at hw
    have evc : ∀ w, vc M' w = vc M w := fun w => by unfold vc; rw [fo 5 (by decide), fo 6 (by decide)]
    refine ⟨?_, ?_, ?_, ?_⟩
    · rw [c_up_k (by decide), c_up_k (by decide), c_up_k (by decide), c_up_k (by decide), c_up_k (by decide), c_up_k (by decide), c_up_k (by decide)]
      exact cc14 (by rw [fo 8 (by decide)]) (ak 15 _ (by decide) (by decide) (by decide) (by decide)) (ak 17 _ (by decide) (by decide) (by decide) (by decide))
    · rw [c_up_k (by decide), c_up_k (by decide), c_up_k (by decide), c_up_k (by decide), c_up_k (by decide), c_up_k (by decide), c_up_k (by decide)]
      exact cc15 (ak 16 _ (by decide) (by decide) (by decide) (by decide))
    · rw [c_up_k (by decide), c_up_k (by decide), c_up_k (by decide), c_up_k (by decide), c_up_k (by decide), c_up_k (by decide), c_up_k (by decide)]
      exact cc16 (evc w)
    · rw [c_up_k (by decide), c_up_k (by decide), c_up_k (by decide), c_up_k (by decide), c_up_k (by decide), c_up_k (by decide), c_up_k (by decide)]
      exact cc17 (og_cg w (fun w _ => evc w))
  · rw [c_up_k (by decide), c_up_k (by decide), c_up_k (by decide), c_up_k (by decide), c_up_k (by decide), c_up_k (by decide), c_up_k (by decide)]
    exact cc18 (by rw [fo 23 (by decide)]) (by rw [fo 24 (by decide)]) (by rw [fo 25 (by decide)])
end MU3
