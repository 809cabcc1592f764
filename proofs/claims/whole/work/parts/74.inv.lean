/-! WHAT IS ALWAYS SO, and each call keeps it -/
/-- a thing is made by one session only -/
def I_mk (M : Mem) : Prop := ∀ s s' k k', s < nS M → s' < nS M → 1 ≤ k → k < nm M s → 1 ≤ k' → k' < nm M s' → M 18 (60 * s + k) = 1 → M 18 (60 * s' + k') = 1 → M 19 (60 * s + k) = M 19 (60 * s' + k') → s = s'
/-- a version's things were made by sessions that are over -/
def I_mkv (M : Mem) : Prop := ∀ v, v < nV M → ∀ t, t < 60 → ¬ M 5 (60 * v + t) = 0 → ∃ s k, s < nS M ∧ 1 ≤ k ∧ k < nm M s ∧ M 18 (60 * s + k) = 1 ∧ M 19 (60 * s + k) = nI t ∧ M 14 s = 2
def I_cf (M : Mem) : Prop := ¬ M 26 0 < 0 → I_fit M (M 26 0).toNatClampNeg
def Ivr (M : Mem) : Prop := Inv0 M ∧ I_zer M ∧ I_nw M ∧ I_org M ∧ I_aut M ∧ I_mk M ∧ I_mkv M ∧ I_cf M
section CGI
variable {M M' : Mem}
theorem I_cnt.cg (e1 : M' 1 = M 1) (e4 : M' 4 = M 4) (e9 : M' 9 = M 9) (e22 : M' 22 = M 22) (e27 : M' 27 = M 27) (h : I_cnt M) : I_cnt M' := by
  unfold I_cnt nT nV nS nR nC at h ⊢
  rw [e1, e4, e9, e22, e27]; exact h
theorem I_ses.cg (e4 : M' 4 = M 4) (e9 : M' 9 = M 9) (e11 : M' 11 = M 11) (e12 : M' 12 = M 12) (e13 : M' 13 = M 13) (e14 : M' 14 = M 14) (h : I_ses M) : I_ses M' := by
  unfold I_ses nS nV bs sd nm at h ⊢
  rw [e4, e9, e11, e12, e13, e14]; exact h
theorem I_def.cg (e9 : M' 9 = M 9) (e12 : M' 12 = M 12) (e14 : M' 14 = M 14) (h : I_def M) : I_def M' := by
  unfold I_def nS at h ⊢
  rw [e9, e12, e14]; exact h
theorem I_mom.cg (e1 : M' 1 = M 1) (e9 : M' 9 = M 9) (e13 : M' 13 = M 13) (e16 : M' 16 = M 16) (e18 : M' 18 = M 18) (e19 : M' 19 = M 19) (e20 : M' 20 = M 20) (h : I_mom M) : I_mom M' := by
  unfold I_mom nS nm bf nT at h ⊢
  rw [e1, e9, e13, e16, e18, e19, e20]; exact h
theorem I_lat.cg (e9 : M' 9 = M 9) (e13 : M' 13 = M 13) (e16 : M' 16 = M 16) (e17 : M' 17 = M 17) (h : I_lat M) : I_lat M' := by
  unfold I_lat nS nm bf at h ⊢
  rw [e9, e13, e16, e17]; exact h
theorem I_pen.cg (e4 : M' 4 = M 4) (e9 : M' 9 = M 9) (e14 : M' 14 = M 14) (e26 : M' 26 = M 26) (h : I_pen M) : I_pen M' := by
  unfold I_pen nS nV at h ⊢
  rw [e4, e9, e14, e26]; exact h
theorem I_con.cg (e1 : M' 1 = M 1) (e27 : M' 27 = M 27) (e28 : M' 28 = M 28) (e29 : M' 29 = M 29) (e30 : M' 30 = M 30) (h : I_con M) : I_con M' := by
  unfold I_con nC nT at h ⊢
  rw [e1, e27, e28, e29, e30]; exact h
theorem I_ver.cg (e1 : M' 1 = M 1) (e4 : M' 4 = M 4) (e5 : M' 5 = M 5) (e6 : M' 6 = M 6) (h : I_ver M) : I_ver M' := by
  unfold I_ver nV nT at h ⊢
  rw [e1, e4, e5, e6]; exact h
theorem I_thg.cg (e1 : M' 1 = M 1) (e2 : M' 2 = M 2) (e3 : M' 3 = M 3) (h : I_thg M) : I_thg M' := by
  unfold I_thg nT at h ⊢
  rw [e1, e2, e3]; exact h
theorem I_rul.cg (e22 : M' 22 = M 22) (e23 : M' 23 = M 23) (e24 : M' 24 = M 24) (e25 : M' 25 = M 25) (h : I_rul M) : I_rul M' := by
  unfold I_rul nR at h ⊢
  rw [e22, e23, e24, e25]; exact h
theorem I_zer.cg (e9 : M' 9 = M 9) (e13 : M' 13 = M 13) (hf : ∀ j, j ∈ [5, 6, 11, 16, 18, 19, 20, 21] → M' j = M j) (h : I_zer M) : I_zer M' := by
  have e : ∀ s k t g, stv M' s k t g = stv M s k t g := fun s k t g => stv_hf hf
  unfold I_zer nS nm bf at h ⊢
  simp only [e]
  rw [e9, e13, hf 16 (by decide), hf 18 (by decide), hf 19 (by decide)]; exact h
theorem I_nw.cg (e4 : M' 4 = M 4) (e5 : M' 5 = M 5) (e6 : M' 6 = M 6) (h : I_nw M) : I_nw M' := by
  unfold I_nw nV at h ⊢
  rw [e4, e5, e6]; exact h
theorem og_eq (e5 : M' 5 = M 5) (e6 : M' 6 = M 6) (v : Nat) : og M' v = og M v := og_cg v (fun w _ => by unfold vc; rw [e5, e6])
theorem I_org.cg (e1 : ∀ t, t < nT M' → t < nT M ∨ ∀ v, v < nV M → ¬ M 5 (60 * v + t) = 1) (e4 : M' 4 = M 4) (e5 : M' 5 = M 5) (e6 : M' 6 = M 6) (e7 : M' 7 = M 7) (h : I_org M) : I_org M' := by
  intro v hv
  have hv' : v < nV M := by unfold nV at hv ⊢; rw [e4] at hv; exact hv
  obtain ⟨h1, h2⟩ := h v hv'
  rw [og_eq e5 e6, e5, e7]
  exact ⟨h1, fun t ht h5 => (e1 t ht).elim (fun y => h2 t y h5) (fun y => absurd h5 (y v hv'))⟩
theorem I_org.cg1 (e1 : M' 1 = M 1) (e4 : M' 4 = M 4) (e5 : M' 5 = M 5) (e6 : M' 6 = M 6) (e7 : M' 7 = M 7) (h : I_org M) : I_org M' := h.cg (fun t z => Or.inl (by unfold nT at z ⊢; rw [e1] at z; exact z)) e4 e5 e6 e7
theorem I_aut.cg (e4 : M' 4 = M 4) (e8 : M' 8 = M 8) (h : I_aut M) : I_aut M' := by
  unfold I_aut nV at h ⊢
  rw [e4, e8]; exact h
theorem I_mk.cg (e9 : M' 9 = M 9) (e13 : M' 13 = M 13) (e18 : M' 18 = M 18) (e19 : M' 19 = M 19) (h : I_mk M) : I_mk M' := by
  unfold I_mk nS nm at h ⊢
  rw [e9, e13, e18, e19]; exact h
theorem I_mkv.cg (e4 : M' 4 = M 4) (e5 : M' 5 = M 5) (e9 : M' 9 = M 9) (e13 : M' 13 = M 13) (e18 : M' 18 = M 18) (e19 : M' 19 = M 19) (e14 : ∀ s, M 14 s = 2 → M' 14 s = 2) (h : I_mkv M) : I_mkv M' := by
  intro v hv t ht h5
  unfold nV at hv
  rw [e4] at hv
  rw [e5] at h5
  obtain ⟨s, k, a, b, c, d, e, f⟩ := h v hv t ht h5
  refine ⟨s, k, ?_, b, ?_, ?_, ?_, e14 s f⟩
  · unfold nS; rw [e9]; exact a
  · unfold nm; rw [e13]; exact c
  · rw [e18]; exact d
  · rw [e19]; exact e
theorem I_fit.cg {s : Nat} (hn : nC M' = nC M) (e28 : M' 28 = M 28) (e29 : M' 29 = M 29) (eb : ∀ t, t < 60 → h_b M' s t = h_b M s t) (em : ∀ t, t < 60 → h_m M' t = h_m M t) (et : ∀ t, t < 60 → h_t M' s t = h_t M s t) (h : I_fit M s) : I_fit M' s := by
  intro k hk t ht h28
  rw [hn] at hk
  rw [e28] at h28
  rw [e29, eb t ht, em t ht, et t ht]
  exact h k hk t ht h28
theorem I_cf.cg (e26 : M' 26 = M 26) (hn : M' 27 = M 27) (e28 : M' 28 = M 28) (e29 : M' 29 = M 29) (e4 : M' 4 = M 4) (e12 : ¬ M 26 0 < 0 → M' 12 (M 26 0).toNatClampNeg = M 12 (M 26 0).toNatClampNeg) (hf : ∀ j, j ∈ [5, 6, 11, 16, 18, 19, 20, 21] → M' j = M j) (h : I_cf M) : I_cf M' := by
  unfold I_cf
  rw [e26]
  intro z
  refine I_fit.cg (by unfold nC; rw [hn]) e28 e29 (fun t _ => ?_) (fun t _ => ?_) (fun t _ => ?_) (h z)
  · unfold h_b bs; rw [hf 5 (by decide), hf 11 (by decide)]
  · unfold h_m nV; rw [hf 5 (by decide), e4]
  · unfold h_t sd; rw [stv_hf hf, e12 z]
/-- what changes kinds, locks, rules alone -/
theorem Ivr.free (hc : I_cnt M') (ht : I_thg M') (hr : I_rul M') (hf : ∀ j, j ∉ [0, 2, 3, 22, 23, 24, 25] → M' j = M j) (h : Ivr M) : Ivr M' := by
  have e := hf
  obtain ⟨⟨-, h2, h3, h4, h5, h6, h7, h8, h9, -, -⟩, g2, g3, g4, g5, g6, g7, g8⟩ := h
  have e8 : ∀ j, j ∈ [5, 6, 11, 16, 18, 19, 20, 21] → M' j = M j := fun j hj => e j (by revert hj; simp only [List.mem_cons, List.not_mem_nil, or_false]; omega)
  have e1 := e 1 (by decide); have e4 := e 4 (by decide); have e5 := e 5 (by decide); have e6 := e 6 (by decide); have e7 := e 7 (by decide)
  have e9 := e 9 (by decide); have e11 := e 11 (by decide); have e12 := e 12 (by decide); have e13 := e 13 (by decide); have e14 := e 14 (by decide)
  have e16 := e 16 (by decide); have e17 := e 17 (by decide); have e18 := e 18 (by decide); have e19 := e 19 (by decide); have e20 := e 20 (by decide)
  have e26 := e 26 (by decide); have e27 := e 27 (by decide); have e28 := e 28 (by decide); have e29 := e 29 (by decide); have e30 := e 30 (by decide)
  refine ⟨⟨hc, h2.cg e4 e9 e11 e12 e13 e14, h3.cg e9 e12 e14, h4.cg e1 e9 e13 e16 e18 e19 e20, h5.cg e9 e13 e16 e17, h6.cg e4 e9 e14 e26, h7.cg e1 e27 e28 e29 e30, h8.cg e1 e4 e5 e6, trivial, ht, hr⟩, g2.cg e9 e13 e8, g3.cg e4 e5 e6, g4.cg (fun t z => Or.inl (by unfold nT at z ⊢; rw [e1] at z; exact z)) e4 e5 e6 e7, g5.cg e4 (e 8 (by decide)), g6.cg e9 e13 e18 e19, g7.cg e4 e5 e9 e13 e18 e19 (fun s z => by rw [e14]; exact z), g8.cg e26 e27 e28 e29 e4 (fun _ => by rw [e12]) e8⟩
theorem Ivr.code {c : Int32} (h : Ivr M) : Ivr (mset M 0 0 c) := by
  have h0 := Inv0_code c h.1
  refine h.free h0.1 h0.2.2.2.2.2.2.2.2.2.1 h0.2.2.2.2.2.2.2.2.2.2 (fun j hj => mset_n (fun z => hj (by rw [z]; decide)))
end CGI
theorem upd_v {f : Nat → Int32} {i j : Nat} {v : Int32} : upd f i v j = if j = i then v else f j := rfl
theorem inv_lock {M : Mem} {t : Nat} {p : Int32} (h : Ivr M) (hp : p = -1 ∨ inr p 10) : Ivr (mset M 3 t p) := by
  have hc : I_cnt (mset M 3 t p) := h.1.1
  refine h.free hc ?_ h.1.2.2.2.2.2.2.2.2.2.2 (fun j hj => mset_n (fun z => hj (by rw [z]; decide)))
  intro t' ht'
  have y := h.1.2.2.2.2.2.2.2.2.2.1 t' ht'
  refine ⟨?_, y.2⟩
  rw [mset_s, upd_v]
  by_cases e : t' = t
  · rw [if_pos e]
    rcases hp with z | z
    · exact Or.inl z
    · obtain ⟨j, hj, ej⟩ := inr_nat (n := 10) z (by omega)
      exact Or.inr ⟨j, hj, ej⟩
  · rw [if_neg e]; exact y.1
theorem inv_rule {M : Mem} {k f g : Int32} (h : Ivr M) (hn : nR M < 10) (hk : inr k 5) (hf : inr f 5) (hg : inr g 5) : Ivr (mset (mset (mset (mset M 23 (nR M) k) 24 (nR M) f) 25 (nR M) g) 22 0 (nI (nR M + 1))) := by
  obtain ⟨k, hk', rfl⟩ := inr_nat (n := 5) hk (by omega)
  obtain ⟨f, hf', rfl⟩ := inr_nat (n := 5) hf (by omega)
  obtain ⟨g, hg', rfl⟩ := inr_nat (n := 5) hg (by omega)
  have e22 : mset (mset (mset (mset M 23 (nR M) (nI k)) 24 (nR M) (nI f)) 25 (nR M) (nI g)) 22 0 (nI (nR M + 1)) 22 0 = nI (nR M + 1) := by rw [mset_s, pk_us]
  have eR : nR (mset (mset (mset (mset M 23 (nR M) (nI k)) 24 (nR M) (nI f)) 25 (nR M) (nI g)) 22 0 (nI (nR M + 1))) = nR M + 1 := by rw [nR, e22, nI_clamp (by omega)]
  refine h.free ⟨h.1.1.1, h.1.1.2.1, h.1.1.2.2.1, ⟨by rw [eR, e22], by omega⟩, h.1.1.2.2.2.2⟩ h.1.2.2.2.2.2.2.2.2.2.1 ?_ (fun j hj => ?_)
  · intro r hr
    rw [eR] at hr
    rw [mset_n (by decide), mset_n (by decide), mset_n (by decide), mset_s, mset_n (by decide), mset_n (by decide), mset_s, mset_n (by decide), mset_n (by decide), mset_s, mset_n (by decide), mset_n (by decide), upd_v, upd_v, upd_v]
    by_cases e : r = nR M
    · rw [if_pos e, if_pos e, if_pos e]
      exact ⟨⟨k, hk', rfl⟩, ⟨f, hf', rfl⟩, ⟨g, hg', rfl⟩⟩
    · rw [if_neg e, if_neg e, if_neg e]
      exact h.1.2.2.2.2.2.2.2.2.2.2 r (by omega)
  · simp only [List.mem_cons, List.not_mem_nil, or_false, not_or] at hj
    rw [mset_n hj.2.2.2.1, mset_n hj.2.2.2.2.2.2, mset_n hj.2.2.2.2.2.1, mset_n hj.2.2.2.2.1]
theorem inv_giveUp {M : Mem} (h : Ivr M) (hp : ¬ M 26 0 < 0) : Ivr (mset (mset M 14 (M 26 0).toNatClampNeg 0) 26 0 (-1)) := by
  obtain ⟨⟨h1, h2, h3, h4, h5, h6, h7, h8, -, h10, h11⟩, g2, g3, g4, g5, g6, g7, g8⟩ := h
  obtain ⟨p, hps, e26, e14, -⟩ : ∃ s, s < nS M ∧ M 26 0 = nI s ∧ M 14 s = 1 ∧ nV M < 40 := h6.resolve_left (fun z => hp (by rw [z]; decide))
  have hS := h1.2.2.1.2
  have ep : (M 26 0).toNatClampNeg = p := by rw [e26, nI_clamp (by omega)]
  rw [ep]
  have e : ∀ j, j ∉ [14, 26] → mset (mset M 14 p 0) 26 0 (-1) j = M j := fun j hj => by
    simp only [List.mem_cons, List.not_mem_nil, or_false, not_or] at hj
    rw [mset_n hj.2, mset_n hj.1]
  have x14 : mset (mset M 14 p 0) 26 0 (-1) 14 = upd (M 14) p 0 := by rw [mset_n (by decide), mset_s]
  have x26 : mset (mset M 14 p 0) 26 0 (-1) 26 0 = -1 := by rw [mset_s, pk_us]
  have e8 : ∀ j, j ∈ [5, 6, 11, 16, 18, 19, 20, 21] → mset (mset M 14 p 0) 26 0 (-1) j = M j := fun j hj => e j (by revert hj; simp only [List.mem_cons, List.not_mem_nil, or_false]; omega)
  refine ⟨⟨h1, ?_, ?_, h4.cg (e 1 (by decide)) (e 9 (by decide)) (e 13 (by decide)) (e 16 (by decide)) (e 18 (by decide)) (e 19 (by decide)) (e 20 (by decide)), h5.cg (e 9 (by decide)) (e 13 (by decide)) (e 16 (by decide)) (e 17 (by decide)), Or.inl x26, h7.cg (e 1 (by decide)) (e 27 (by decide)) (e 28 (by decide)) (e 29 (by decide)) (e 30 (by decide)), h8.cg (e 1 (by decide)) (e 4 (by decide)) (e 5 (by decide)) (e 6 (by decide)), trivial, h10, h11⟩, g2.cg (e 9 (by decide)) (e 13 (by decide)) e8, g3.cg (e 4 (by decide)) (e 5 (by decide)) (e 6 (by decide)), g4.cg1 (e 1 (by decide)) (e 4 (by decide)) (e 5 (by decide)) (e 6 (by decide)) (e 7 (by decide)), g5.cg (e 4 (by decide)) (e 8 (by decide)), g6.cg (e 9 (by decide)) (e 13 (by decide)) (e 18 (by decide)) (e 19 (by decide)), g7.cg (e 4 (by decide)) (e 5 (by decide)) (e 9 (by decide)) (e 13 (by decide)) (e 18 (by decide)) (e 19 (by decide)) ?_, fun z => absurd (show mset (mset M 14 p 0) 26 0 (-1) 26 0 < 0 by rw [x26]; decide) z⟩
  · intro s hs
    have y := h2 s hs
    refine ⟨y.1, y.2.1, y.2.2.1, ?_⟩
    rw [x14, upd_v]
    by_cases q : s = p
    · rw [if_pos q]; exact Or.inl rfl
    · rw [if_neg q]; exact y.2.2.2
  · intro s hs
    have y := h3 s hs
    refine ⟨y.1, ?_⟩
    rw [x14, pk_un (fun z => by have : nS M ≤ s := hs; omega)]
    exact y.2
  · intro s z
    rw [x14, pk_un (fun q => by rw [q, e14] at z; exact absurd z (by decide))]
    exact z
theorem inv_go {M : Mem} {s n : Nat} (h : Ivr M) (hs : s < nS M) (h14 : M 14 s = 0) (hn : n < nm M s) : Ivr (mset M 12 s (nI n)) := by
  obtain ⟨⟨h1, h2, h3, h4, h5, h6, h7, h8, -, h10, h11⟩, g2, g3, g4, g5, g6, g7, g8⟩ := h
  have e : ∀ j, ¬ j = 12 → mset M 12 s (nI n) j = M j := fun j hj => mset_n hj
  have e8 : ∀ j, j ∈ [5, 6, 11, 16, 18, 19, 20, 21] → mset M 12 s (nI n) j = M j := fun j hj => e j (by revert hj; simp only [List.mem_cons, List.not_mem_nil, or_false]; omega)
  have hm := (h2 s hs).2.2.1.2
  refine ⟨⟨h1, ?_, ?_, h4.cg (e 1 (by decide)) (e 9 (by decide)) (e 13 (by decide)) (e 16 (by decide)) (e 18 (by decide)) (e 19 (by decide)) (e 20 (by decide)), h5.cg (e 9 (by decide)) (e 13 (by decide)) (e 16 (by decide)) (e 17 (by decide)), h6.cg (e 4 (by decide)) (e 9 (by decide)) (e 14 (by decide)) (e 26 (by decide)), h7.cg (e 1 (by decide)) (e 27 (by decide)) (e 28 (by decide)) (e 29 (by decide)) (e 30 (by decide)), h8.cg (e 1 (by decide)) (e 4 (by decide)) (e 5 (by decide)) (e 6 (by decide)), trivial, h10, h11⟩, g2.cg (e 9 (by decide)) (e 13 (by decide)) e8, g3.cg (e 4 (by decide)) (e 5 (by decide)) (e 6 (by decide)), g4.cg1 (e 1 (by decide)) (e 4 (by decide)) (e 5 (by decide)) (e 6 (by decide)) (e 7 (by decide)), g5.cg (e 4 (by decide)) (e 8 (by decide)), g6.cg (e 9 (by decide)) (e 13 (by decide)) (e 18 (by decide)) (e 19 (by decide)), g7.cg (e 4 (by decide)) (e 5 (by decide)) (e 9 (by decide)) (e 13 (by decide)) (e 18 (by decide)) (e 19 (by decide)) (fun s z => z), g8.cg (e 26 (by decide)) (e 27 (by decide)) (e 28 (by decide)) (e 29 (by decide)) (e 4 (by decide)) (fun z => ?_) e8⟩
  · intro s' hs'
    have y := h2 s' hs'
    refine ⟨y.1, ?_, y.2.2⟩
    show mset M 12 s (nI n) 12 s' = nI (mset M 12 s (nI n) 12 s').toNatClampNeg ∧ (mset M 12 s (nI n) 12 s').toNatClampNeg < nm M s'
    rw [mset_s, upd_v]
    by_cases q : s' = s
    · rw [if_pos q, nI_clamp (by omega), q]; exact ⟨rfl, hn⟩
    · rw [if_neg q]; exact y.2.1
  · intro s' hs'
    have y := h3 s' hs'
    refine ⟨?_, y.2⟩
    rw [mset_s, pk_un (fun z => by have : nS M ≤ s' := hs'; omega)]
    exact y.1
  · rw [mset_s, pk_un]
    intro q
    obtain ⟨p, hps, e26, e14, -⟩ : ∃ s, s < nS M ∧ M 26 0 = nI s ∧ M 14 s = 1 ∧ nV M < 40 := h6.resolve_left (fun y => z (by rw [y]; decide))
    have hS := h1.2.2.1.2
    rw [e26, nI_clamp (by omega)] at q
    rw [q, h14] at e14
    exact absurd e14 (by decide)
theorem inv_settle {M : Mem} {k : Nat} {v : Int32} (h : Ivr M) (hv : v = 0 ∨ v = 1) : Ivr (mset M 30 k v) := by
  have h0 := settle_inv (k := k) h.1 hv
  obtain ⟨-, g2, g3, g4, g5, g6, g7, g8⟩ := h
  have e : ∀ j, ¬ j = 30 → mset M 30 k v j = M j := fun j hj => mset_n hj
  have e8 : ∀ j, j ∈ [5, 6, 11, 16, 18, 19, 20, 21] → mset M 30 k v j = M j := fun j hj => e j (by revert hj; simp only [List.mem_cons, List.not_mem_nil, or_false]; omega)
  exact ⟨h0, g2.cg (e 9 (by decide)) (e 13 (by decide)) e8, g3.cg (e 4 (by decide)) (e 5 (by decide)) (e 6 (by decide)), g4.cg1 (e 1 (by decide)) (e 4 (by decide)) (e 5 (by decide)) (e 6 (by decide)) (e 7 (by decide)), g5.cg (e 4 (by decide)) (e 8 (by decide)), g6.cg (e 9 (by decide)) (e 13 (by decide)) (e 18 (by decide)) (e 19 (by decide)), g7.cg (e 4 (by decide)) (e 5 (by decide)) (e 9 (by decide)) (e 13 (by decide)) (e 18 (by decide)) (e 19 (by decide)) (fun s z => z), g8.cg (e 26 (by decide)) (e 27 (by decide)) (e 28 (by decide)) (e 29 (by decide)) (e 4 (by decide)) (fun z => rfl) e8⟩
/-- what a session's value hangs on: its base, its own moments -/
theorem stv_in {M M' : Mem} (hN : Inv0 M) {s : Nat} (hs : s < nS M) (h11 : M' 11 s = M 11 s) (h5 : ∀ i, i < 60 * nV M → M' 5 i = M 5 i) (h6 : ∀ i, i < 300 * nV M → M' 6 i = M 6 i) (hm : ∀ k, k ∈ [16, 18, 19, 20, 21] → ∀ j, 1 ≤ j → j < nm M s → M' k (60 * s + j) = M k (60 * s + j)) {k t g : Nat} (hk : k < nm M s) (ht : t < 60) (hg : g < 6) : stv M' s k t g = stv M s k t g := by
  have hb := (hN.2.1 s hs).1.2
  exact stv_cg (hN.bf hs) h11 (fun t ht => h5 _ (by omega)) (fun t ht f hf => h6 _ (by omega)) hm hk ht hg
/-- a thing that is there in a session is there in its base, or the session made it -/
theorem stv_mk {M : Mem} (hN : Inv0 M) {s t : Nat} (hs : s < nS M) (ht : t < 60) : ∀ n k, k ≤ n → k < nm M s → ¬ stv M s k t 0 = 0 → ¬ M 5 (60 * bs M s + t) = 0 ∨ ∃ j, 1 ≤ j ∧ j < nm M s ∧ M 18 (60 * s + j) = 1 ∧ M 19 (60 * s + j) = nI t := by
  have hb := hN.bf hs
  have hm := (hN.2.1 s hs).2.2.1.2
  intro n
  induction n with
  | zero =>
    intro k hk _ h
    have : k = 0 := by omega
    subst this
    rw [stv_0] at h
    exact Or.inl h
  | succ n ih =>
    intro k hk hkn h
    by_cases h0 : k = 0
    · exact ih k (by omega) hkn h
    · by_cases hh : m_hit M (60 * s + k) t 0
      · rw [stv_hit h0 hh] at h
        obtain ⟨h19, hz⟩ := hh
        have h18 : ¬ M 18 (60 * s + k) = 0 := hz.elim (fun y => y.2) (fun y => absurd rfl y.1)
        refine Or.inr ⟨k, by omega, hkn, ?_, h19⟩
        refine Classical.byContradiction fun h1 => h ?_
        rw [m_new, if_neg h18, if_neg h1]
      · rw [stv_no hb h0 hkn (by omega) hh] at h
        have := hb k (by omega) hkn
        exact ih _ (by omega) (by omega) h
theorem stv_hi {M : Mem} (hN : Inv0 M) {s t f : Nat} (hs : s < nS M) (ht : t < 60) (hT : nT M ≤ t) (hf : f < 5) : ∀ n k, k ≤ n → k < nm M s → stv M s k t (f + 1) = 0 := by
  have hb := hN.bf hs
  have hm := (hN.2.1 s hs).2.2.1.2
  intro n
  induction n with
  | zero =>
    intro k hk _
    have : k = 0 := by omega
    subst this
    rw [stv_0, m_base, if_neg (by omega), Nat.add_sub_cancel]
    rcases hN.2.2.2.2.2.2.2.1 (bs M s) (hN.2.1 s hs).1.2 t ht with y | y
    · exact absurd y.2 (by omega)
    · exact y.2 f hf
  | succ n ih =>
    intro k hk hkn
    by_cases h0 : k = 0
    · exact ih k (by omega) hkn
    · have := hb k (by omega) hkn
      rw [stv_no hb h0 hkn (by omega) (fun z => ?_)]
      · exact ih _ (by omega) (by omega)
      · obtain ⟨t0, ht0, e⟩ := ((hN.2.2.2.1 s hs).2 k (by omega) hkn).2.1
        have := (nI_eq (by omega) (by omega)).mp (e.symm.trans z.1)
        omega
/-- a session that isn't over: what it made, the latest version hasn't -/
theorem hmk_of {M : Mem} (h : Ivr M) {s : Nat} (hs : s < nS M) (h14 : ¬ M 14 s = 2) : ∀ t, t < nT M → h_b M s t = 0 → ¬ h_t M s t = 0 → h_m M t = 0 := by
  intro t ht hb h1
  have hT := h.1.1.1.2
  have hV := h.1.1.2.1.2.1
  refine Classical.byContradiction fun hm => ?_
  rcases stv_mk h.1 hs (by omega) _ _ (Nat.le_refl _) (h.1.2.1 s hs).2.1.2 h1 with y | ⟨j, j1, j2, j3, j4⟩
  · exact y hb
  · obtain ⟨s', k, a, b, c, d, e, f⟩ := h.2.2.2.2.2.2.1 (nV M - 1) (by omega) t (by omega) hm
    have := h.2.2.2.2.2.1 s s' j k hs a j1 j2 b c j3 d (j4.trans e.symm)
    subst this
    exact h14 f
theorem inv_session {M : Mem} {w : Nat} {p : Int32} (h : Ivr M) (hn : nS M < 20) (hw : w < nV M) : Ivr (mset (mset (mset (mset (mset (mset (mset M 10 (nS M) p) 11 (nS M) (nI w)) 13 (nS M) 1) 16 (60 * nS M) (-1)) 17 (60 * nS M) (-1)) 15 (nS M) (-1)) 9 0 (nI (nS M + 1))) := by
  obtain ⟨⟨h1, h2, h3, h4, h5, h6, h7, h8, -, h10, h11⟩, g2, g3, g4, g5, g6, g7, g8⟩ := id h
  have hV := h1.2.1.2.2
  obtain ⟨M', eM⟩ : ∃ M', M' = mset (mset (mset (mset (mset (mset (mset M 10 (nS M) p) 11 (nS M) (nI w)) 13 (nS M) 1) 16 (60 * nS M) (-1)) 17 (60 * nS M) (-1)) 15 (nS M) (-1)) 9 0 (nI (nS M + 1)) := ⟨_, rfl⟩
  rw [← eM]
  have e : ∀ j, j ∉ [9, 10, 11, 13, 15, 16, 17] → M' j = M j := fun j hj => by
    simp only [List.mem_cons, List.not_mem_nil, or_false, not_or] at hj
    rw [eM, mset_n hj.1, mset_n hj.2.2.2.2.1, mset_n hj.2.2.2.2.2.2, mset_n hj.2.2.2.2.2.1, mset_n hj.2.2.2.1, mset_n hj.2.2.1, mset_n hj.2.1]
  have x9 : M' 9 0 = nI (nS M + 1) := by rw [eM, mset_s, pk_us]
  have x11 : M' 11 = upd (M 11) (nS M) (nI w) := by rw [eM, mset_n (by decide), mset_n (by decide), mset_n (by decide), mset_n (by decide), mset_n (by decide), mset_s, mset_n (by decide)]
  have x13 : M' 13 = upd (M 13) (nS M) 1 := by rw [eM, mset_n (by decide), mset_n (by decide), mset_n (by decide), mset_n (by decide), mset_s, mset_n (by decide), mset_n (by decide)]
  have x16 : M' 16 = upd (M 16) (60 * nS M) (-1) := by rw [eM, mset_n (by decide), mset_n (by decide), mset_n (by decide), mset_s, mset_n (by decide), mset_n (by decide), mset_n (by decide)]
  have x17 : M' 17 = upd (M 17) (60 * nS M) (-1) := by rw [eM, mset_n (by decide), mset_n (by decide), mset_s, mset_n (by decide), mset_n (by decide), mset_n (by decide), mset_n (by decide)]
  clear eM
  have qS : nS M' = nS M + 1 := by rw [nS, x9, nI_clamp (by omega)]
  have e1 := e 1 (by decide); have e4 := e 4 (by decide); have e5 := e 5 (by decide); have e6 := e 6 (by decide)
  have e12 := e 12 (by decide); have e14 := e 14 (by decide); have e18 := e 18 (by decide); have e19 := e 19 (by decide); have e20 := e 20 (by decide); have e21 := e 21 (by decide)
  have qV : nV M' = nV M := by unfold nV; rw [e4]
  have qT : nT M' = nT M := by unfold nT; rw [e1]
  have qm : ∀ s, s < nS M → nm M' s = nm M s := fun s hs => by unfold nm; rw [x13, pk_un (by omega)]
  have qmn : nm M' (nS M) = 1 := by unfold nm; rw [x13, pk_us]; decide
  have y16 : ∀ s k, s < nS M → k < 60 → M' 16 (60 * s + k) = M 16 (60 * s + k) := fun s k hs hk => by rw [x16, pk_un (by omega)]
  have y17 : ∀ s k, s < nS M → k < 60 → M' 17 (60 * s + k) = M 17 (60 * s + k) := fun s k hs hk => by rw [x17, pk_un (by omega)]
  have m60 : ∀ s, s < nS M → nm M s ≤ 60 := fun s hs => (h2 s hs).2.2.1.2
  have qst : ∀ s k t g, s < nS M → k < nm M s → t < 60 → g < 6 → stv M' s k t g = stv M s k t g := fun s k t g hs hk ht hg => by
    have := m60 s hs
    refine stv_in h.1 hs (by rw [x11, pk_un (by omega)]) (fun i _ => by rw [e5]) (fun i _ => by rw [e6]) (fun k hk j h1 h2 => ?_) hk ht hg
    simp only [List.mem_cons, List.not_mem_nil, or_false] at hk
    rcases hk with rfl | rfl | rfl | rfl | rfl
    · exact y16 s j hs (by omega)
    · rw [e18]
    · rw [e19]
    · rw [e20]
    · rw [e21]
  refine ⟨⟨⟨by rw [qT, e1]; exact h1.1, by rw [qV, e4]; exact h1.2.1, ⟨by rw [qS, x9], by omega⟩, by unfold nR; rw [e 22 (by decide)]; exact h1.2.2.2.1, by unfold nC; rw [e 27 (by decide)]; exact h1.2.2.2.2⟩, ?_, ?_, ?_, ?_, ?_, h7.cg e1 (e 27 (by decide)) (e 28 (by decide)) (e 29 (by decide)) (e 30 (by decide)), h8.cg e1 e4 e5 e6, trivial, h10.cg e1 (e 2 (by decide)) (e 3 (by decide)), h11.cg (e 22 (by decide)) (e 23 (by decide)) (e 24 (by decide)) (e 25 (by decide))⟩, ?_, g3.cg e4 e5 e6, g4.cg1 e1 e4 e5 e6 (e 7 (by decide)), g5.cg e4 (e 8 (by decide)), ?_, ?_, ?_⟩
  · intro s hs
    rw [qS] at hs
    by_cases q : s = nS M
    · subst q
      have d := h3 (nS M) (Nat.le_refl _)
      have b1 : bs M' (nS M) = w := by unfold bs; rw [x11, pk_us, nI_clamp (by omega)]
      have b2 : sd M' (nS M) = 0 := by unfold sd; rw [e12, d.1]; decide
      refine ⟨⟨by rw [b1, x11, pk_us], by rw [b1, qV]; exact hw⟩, ⟨by rw [b2, e12, d.1]; rfl, by rw [b2, qmn]; decide⟩, ⟨by rw [qmn, x13, pk_us]; rfl, by rw [qmn]; decide⟩, by rw [e14]; exact Or.inl d.2⟩
    · have hs' : s < nS M := by omega
      have y := h2 s hs'
      have b1 : bs M' s = bs M s := by unfold bs; rw [x11, pk_un (by omega)]
      have b2 : sd M' s = sd M s := by unfold sd; rw [e12]
      rw [b1, b2, qm s hs', qV, x11, pk_un (by omega), e12, x13, pk_un (by omega), e14]
      exact y
  · intro s hs
    rw [qS] at hs
    rw [e12, e14]
    exact h3 s (by omega)
  · intro s hs
    rw [qS] at hs
    by_cases q : s = nS M
    · subst q
      refine ⟨by rw [x16, pk_us], fun k k1 k2 => ?_⟩
      rw [qmn] at k2
      omega
    · have hs' : s < nS M := by omega
      have y := h4 s hs'
      have := m60 s hs'
      refine ⟨by have z := y16 s 0 hs' (by omega); rw [Nat.add_zero] at z; rw [z]; exact y.1, fun k k1 k2 => ?_⟩
      rw [qm s hs'] at k2
      unfold bf
      rw [y16 s k hs' (by omega), qT, e18, e19, e20]
      exact y.2 k k1 k2
  · intro s hs k hk
    rw [qS] at hs
    by_cases q : s = nS M
    · subst q
      rw [qmn] at hk
      have : k = 0 := by omega
      subst this
      exact Or.inl (by rw [x17, Nat.add_zero, pk_us])
    · have hs' : s < nS M := by omega
      have := m60 s hs'
      rw [qm s hs'] at hk ⊢
      rw [y17 s k hs' (by omega)]
      rcases h5 s hs' k hk with y | ⟨j, j1, j2, j3, j4⟩
      · exact Or.inl y
      · refine Or.inr ⟨j, j1, j2, j3, ?_⟩
        unfold bf
        rw [y16 s j hs' (by omega)]
        exact j4
  · unfold I_pen
    rw [e 26 (by decide), qS, qV, e14]
    rcases h6 with y | ⟨s, a, b⟩
    · exact Or.inl y
    · exact Or.inr ⟨s, by omega, b⟩
  · intro s hs k k1 k2 h18 t ht h19 f hf
    rw [qS] at hs
    by_cases q : s = nS M
    · subst q
      rw [qmn] at k2
      omega
    · have hs' : s < nS M := by omega
      have := m60 s hs'
      rw [qm s hs'] at k2
      rw [e18] at h18
      rw [e19] at h19
      have eb : bf M' (60 * s + k) = bf M (60 * s + k) := by unfold bf; rw [y16 s k hs' (by omega)]
      have := h.1.bf hs' k k1 k2
      rw [eb, qst s _ t (f + 1) hs' (by omega) ht (by omega)]
      exact g2 s hs' k k1 k2 h18 t ht h19 f hf
  · intro s s' k k' hs hs' k1 k2 k3 k4
    rw [qS] at hs hs'
    by_cases q : s = nS M
    · subst q; rw [qmn] at k2; omega
    · by_cases q' : s' = nS M
      · subst q'; rw [qmn] at k4; omega
      · rw [qm s (by omega)] at k2
        rw [qm s' (by omega)] at k4
        rw [e18, e19]
        exact g6 s s' k k' (by omega) (by omega) k1 k2 k3 k4
  · intro v hv t ht h5'
    rw [qV] at hv
    rw [e5] at h5'
    obtain ⟨s, k, a, b, c, d, f, g⟩ := g7 v hv t ht h5'
    exact ⟨s, k, by omega, b, by rw [qm s a]; exact c, by rw [e18]; exact d, by rw [e19]; exact f, by rw [e14]; exact g⟩
  · unfold I_cf
    rw [e 26 (by decide)]
    intro z
    obtain ⟨p, hps, e26, -, -⟩ : ∃ s, s < nS M ∧ M 26 0 = nI s ∧ M 14 s = 1 ∧ nV M < 40 := h6.resolve_left (fun y => z (by rw [y]; decide))
    have ep : (M 26 0).toNatClampNeg = p := by rw [e26, nI_clamp (by omega)]
    have y := g8 z
    rw [ep] at y ⊢
    refine I_fit.cg (by unfold nC; rw [e 27 (by decide)]) (e 28 (by decide)) (e 29 (by decide)) (fun t _ => ?_) (fun t _ => ?_) (fun t ht => ?_) y
    · unfold h_b bs; rw [e5, x11, pk_un (by omega)]
    · unfold h_m; rw [e5, qV]
    · unfold h_t
      have : sd M' p = sd M p := by unfold sd; rw [e12]
      rw [this, qst p _ t 0 hps (h2 p hps).2.1.2 ht (by omega)]
theorem inv_change {M : Mem} {s t f0 : Nat} {hw v : Int32} (h : Ivr M) (hs : s < nS M) (h14 : M 14 s = 0) (hm : nm M s < 60) (ht : t < nT M) (hf0 : f0 < 5) (hhw : hw = 0 ∨ hw = 1 ∨ hw = 2) (hfree : hw = 1 → (∀ s' k, s' < nS M → 1 ≤ k → k < nm M s' → ¬ M 19 (60 * s' + k) = nI t) ∧ ∀ f, f < 5 → stv M s (sd M s) t (f + 1) = 0) : Ivr (m_change M s (sd M s) (nm M s) hw (nI t) (nI f0) v) := by
  obtain ⟨⟨h1, h2, h3, h4, h5, h6, h7, h8, -, h10, h11⟩, g2, g3, g4, g5, g6, g7, g8⟩ := id h
  have hT := h1.1.2
  have hS := h1.2.2.1.2
  have hsd := (h2 s hs).2.1
  obtain ⟨m, em⟩ : ∃ m, m = nm M s := ⟨_, rfl⟩
  obtain ⟨d, ed⟩ : ∃ d, d = sd M s := ⟨_, rfl⟩
  obtain ⟨M', eM⟩ : ∃ M', M' = m_change M s (sd M s) (nm M s) hw (nI t) (nI f0) v := ⟨_, rfl⟩
  rw [← eM]
  rw [← em, ← ed] at eM
  have e : ∀ j, j ∉ [12, 13, 16, 17, 18, 19, 20, 21] → M' j = M j := fun j hj => by
    simp only [List.mem_cons, List.not_mem_nil, or_false, not_or] at hj
    rw [eM, m_change, mset_n hj.1, mset_n hj.2.1, mset_n hj.2.2.2.1, mset_n hj.2.2.2.2.2.2.2, mset_n hj.2.2.2.2.2.2.1, mset_n hj.2.2.2.2.2.1, mset_n hj.2.2.2.2.1, mset_n hj.2.2.2.1, mset_n hj.2.2.1]
  have x12 : M' 12 = upd (M 12) s (nI m) := by rw [eM, m_change, mset_s, mset_n (by decide), mset_n (by decide), mset_n (by decide), mset_n (by decide), mset_n (by decide), mset_n (by decide), mset_n (by decide), mset_n (by decide)]
  have x13 : M' 13 = upd (M 13) s (nI (m + 1)) := by rw [eM, m_change, mset_n (by decide), mset_s, mset_n (by decide), mset_n (by decide), mset_n (by decide), mset_n (by decide), mset_n (by decide), mset_n (by decide), mset_n (by decide)]
  have x16 : M' 16 = upd (M 16) (60 * s + m) (nI d) := by rw [eM, m_change, mset_n (by decide), mset_n (by decide), mset_n (by decide), mset_n (by decide), mset_n (by decide), mset_n (by decide), mset_n (by decide), mset_n (by decide), mset_s]
  have x17 : M' 17 = upd (upd (M 17) (60 * s + m) (-1)) (60 * s + d) (nI m) := by rw [eM, m_change, mset_n (by decide), mset_n (by decide), mset_s, mset_n (by decide), mset_n (by decide), mset_n (by decide), mset_n (by decide), mset_s, mset_n (by decide)]
  have x18 : M' 18 = upd (M 18) (60 * s + m) hw := by rw [eM, m_change, mset_n (by decide), mset_n (by decide), mset_n (by decide), mset_n (by decide), mset_n (by decide), mset_n (by decide), mset_s, mset_n (by decide), mset_n (by decide)]
  have x19 : M' 19 = upd (M 19) (60 * s + m) (nI t) := by rw [eM, m_change, mset_n (by decide), mset_n (by decide), mset_n (by decide), mset_n (by decide), mset_n (by decide), mset_s, mset_n (by decide), mset_n (by decide), mset_n (by decide)]
  have x20 : M' 20 = upd (M 20) (60 * s + m) (nI f0) := by rw [eM, m_change, mset_n (by decide), mset_n (by decide), mset_n (by decide), mset_n (by decide), mset_s, mset_n (by decide), mset_n (by decide), mset_n (by decide), mset_n (by decide)]
  have x21 : M' 21 = upd (M 21) (60 * s + m) v := by rw [eM, m_change, mset_n (by decide), mset_n (by decide), mset_n (by decide), mset_s, mset_n (by decide), mset_n (by decide), mset_n (by decide), mset_n (by decide), mset_n (by decide)]
  clear eM
  rw [← em] at hm hsd
  rw [← ed] at hsd hfree
  have e1 := e 1 (by decide); have e4 := e 4 (by decide); have e5 := e 5 (by decide); have e6 := e 6 (by decide); have e9 := e 9 (by decide); have e11 := e 11 (by decide)
  have e14 := e 14 (by decide)
  have qS : nS M' = nS M := by unfold nS; rw [e9]
  have qV : nV M' = nV M := by unfold nV; rw [e4]
  have qT : nT M' = nT M := by unfold nT; rw [e1]
  have qms : nm M' s = m + 1 := by unfold nm; rw [x13, pk_us, nI_clamp (by omega)]
  have qm : ∀ s', ¬ s' = s → nm M' s' = nm M s' := fun s' hs' => by unfold nm; rw [x13, pk_un hs']
  have m60 : ∀ s', s' < nS M → nm M s' ≤ 60 := fun s' hs => (h2 s' hs).2.2.1.2
  have old : ∀ s' k, s' < nS M → k < nm M s' → 60 * s' + k ≠ 60 * s + m := fun s' k hs' hk z => by
    have := m60 s' hs'
    by_cases q : s' = s
    · subst q; omega
    · omega
  have lem : ∀ s', nm M s' ≤ nm M' s' := fun s' => by
    by_cases q : s' = s
    · subst q; omega
    · rw [qm s' q]; exact Nat.le_refl _
  have spl : ∀ s' k, s' < nS M → k < nm M' s' → k < nm M s' ∨ (s' = s ∧ k = m) := fun s' k hs' hk => by
    by_cases q : s' = s
    · subst q; rw [qms] at hk; omega
    · rw [qm s' q] at hk; exact Or.inl hk
  have qst : ∀ s' k t g, s' < nS M → k < nm M s' → t < 60 → g < 6 → stv M' s' k t g = stv M s' k t g := fun s' k t g hs' hk ht hg => by
    refine stv_in h.1 hs' (by rw [e11]) (fun i _ => by rw [e5]) (fun i _ => by rw [e6]) (fun k hk j h1 h2 => ?_) hk ht hg
    have o := old s' j hs' h2
    simp only [List.mem_cons, List.not_mem_nil, or_false] at hk
    rcases hk with rfl | rfl | rfl | rfl | rfl
    · rw [x16, pk_un o]
    · rw [x18, pk_un o]
    · rw [x19, pk_un o]
    · rw [x20, pk_un o]
    · rw [x21, pk_un o]
  have b16 : ∀ s' k, s' < nS M → k < nm M s' → bf M' (60 * s' + k) = bf M (60 * s' + k) := fun s' k a b => by unfold bf; rw [x16, pk_un (old s' k a b)]
  have b16n : bf M' (60 * s + m) = d := by unfold bf; rw [x16, pk_us, nI_clamp (by omega)]
  refine ⟨⟨⟨by rw [qT, e1]; exact h1.1, by rw [qV, e4]; exact h1.2.1, by rw [qS, e9]; exact h1.2.2.1, by unfold nR; rw [e 22 (by decide)]; exact h1.2.2.2.1, by unfold nC; rw [e 27 (by decide)]; exact h1.2.2.2.2⟩, ?_, ?_, ?_, ?_, h6.cg e4 e9 e14 (e 26 (by decide)), h7.cg e1 (e 27 (by decide)) (e 28 (by decide)) (e 29 (by decide)) (e 30 (by decide)), h8.cg e1 e4 e5 e6, trivial, h10.cg e1 (e 2 (by decide)) (e 3 (by decide)), h11.cg (e 22 (by decide)) (e 23 (by decide)) (e 24 (by decide)) (e 25 (by decide))⟩, ?_, g3.cg e4 e5 e6, g4.cg1 e1 e4 e5 e6 (e 7 (by decide)), g5.cg e4 (e 8 (by decide)), ?_, ?_, ?_⟩
  · intro s' hs'
    rw [qS] at hs'
    have y := h2 s' hs'
    have b1 : bs M' s' = bs M s' := by unfold bs; rw [e11]
    rw [b1, qV, e11, e14]
    by_cases q : s' = s
    · subst q
      have b2 : sd M' s' = m := by unfold sd; rw [x12, pk_us, nI_clamp (by omega)]
      rw [b2, qms, x12, pk_us, x13, pk_us]
      exact ⟨y.1, ⟨rfl, by omega⟩, ⟨rfl, by omega⟩, y.2.2.2⟩
    · have b2 : sd M' s' = sd M s' := by unfold sd; rw [x12, pk_un q]
      rw [b2, qm s' q, x12, pk_un q, x13, pk_un q]
      exact y
  · intro s' hs'
    rw [qS] at hs'
    rw [x12, pk_un (by omega), e14]
    exact h3 s' hs'
  · intro s' hs'
    rw [qS] at hs'
    have y := h4 s' hs'
    have y0 := (h2 s' hs').2.1.2
    refine ⟨by have z := old s' 0 hs' (by omega); rw [Nat.add_zero] at z; rw [x16, pk_un z]; exact y.1, fun k k1 k2 => ?_⟩
    rw [qT]
    rcases spl s' k hs' k2 with a | ⟨rfl, rfl⟩
    · have o := old s' k hs' a
      rw [b16 s' k hs' a, x16, pk_un o, x18, pk_un o, x19, pk_un o, x20, pk_un o]
      exact y.2 k k1 a
    · rw [b16n, x16, pk_us, x18, pk_us, x19, pk_us, x20, pk_us]
      exact ⟨⟨rfl, by omega⟩, ⟨t, ht, rfl⟩, ⟨f0, hf0, rfl⟩, hhw⟩
  · intro s' hs' k hk
    rw [qS] at hs'
    rcases spl s' k hs' hk with a | ⟨rfl, rfl⟩
    · have o := old s' k hs' a
      rw [x17]
      by_cases q : 60 * s' + k = 60 * s + d
      · have qs : s' = s := by have := m60 s' hs'; omega
        subst qs
        have qk : k = d := by omega
        rw [q, pk_us]
        exact Or.inr ⟨m, rfl, by omega, by rw [qms]; omega, by rw [b16n, qk]⟩
      · rw [pk_un q, pk_un o]
        rcases h5 s' hs' k a with y | ⟨j, j1, j2, j3, j4⟩
        · exact Or.inl y
        · exact Or.inr ⟨j, j1, j2, Nat.lt_of_lt_of_le j3 (lem s'), by rw [b16 s' j hs' j3]; exact j4⟩
    · rw [x17, pk_un (by omega), pk_us]
      exact Or.inl rfl
  · intro s' hs' k k1 k2 h18 t' ht' h19 f hf
    rw [qS] at hs'
    rcases spl s' k hs' k2 with a | ⟨rfl, rfl⟩
    · have o := old s' k hs' a
      rw [x18, pk_un o] at h18
      rw [x19, pk_un o] at h19
      have := h.1.bf hs' k k1 a
      rw [b16 s' k hs' a, qst s' _ t' (f + 1) hs' (by omega) ht' (by omega)]
      exact g2 s' hs' k k1 a h18 t' ht' h19 f hf
    · rw [x18, pk_us] at h18
      rw [x19, pk_us] at h19
      have et := (nI_eq (by omega) (by omega)).mp h19
      subst et
      rw [b16n, qst s' d t (f + 1) hs' (by omega) ht' (by omega)]
      exact (hfree h18).2 f hf
  · intro s1 s2 k1 k2 a1 a2 b1 c1 b2 c2 d1 d2 h19
    rw [qS] at a1 a2
    rcases spl s1 k1 a1 c1 with u1 | ⟨rfl, rfl⟩ <;> rcases spl s2 k2 a2 c2 with u2 | ⟨u2, u3⟩
    · have o1 := old s1 k1 a1 u1
      have o2 := old s2 k2 a2 u2
      rw [x18, pk_un o1] at d1
      rw [x18, pk_un o2] at d2
      rw [x19, pk_un o1, pk_un o2] at h19
      exact g6 s1 s2 k1 k2 a1 a2 b1 u1 b2 u2 d1 d2 h19
    · have o1 := old s1 k1 a1 u1
      rw [u2, u3] at d2 h19
      rw [x18, pk_us] at d2
      rw [x19, pk_un o1, pk_us] at h19
      exact absurd h19 ((hfree d2).1 s1 k1 a1 b1 u1)
    · have o2 := old s2 k2 a2 u2
      rw [x18, pk_us] at d1
      rw [x19, pk_us, pk_un o2] at h19
      exact absurd h19.symm ((hfree d1).1 s2 k2 a2 b2 u2)
    · exact u2.symm
  · intro w hw' t' ht' h5'
    rw [qV] at hw'
    rw [e5] at h5'
    obtain ⟨s', k, a, b, c, d', f, g⟩ := g7 w hw' t' ht' h5'
    have o := old s' k a c
    exact ⟨s', k, by rw [qS]; exact a, b, Nat.lt_of_lt_of_le c (lem s'), by rw [x18, pk_un o]; exact d', by rw [x19, pk_un o]; exact f, by rw [e14]; exact g⟩
  · unfold I_cf
    rw [e 26 (by decide)]
    intro z
    obtain ⟨p, hps, e26, p14, -⟩ : ∃ s, s < nS M ∧ M 26 0 = nI s ∧ M 14 s = 1 ∧ nV M < 40 := h6.resolve_left (fun y => z (by rw [y]; decide))
    have hps' : ¬ p = s := fun q => by rw [q, h14] at p14; exact absurd p14 (by decide)
    have ep : (M 26 0).toNatClampNeg = p := by rw [e26, nI_clamp (by omega)]
    have y := g8 z
    rw [ep] at y ⊢
    refine I_fit.cg (by unfold nC; rw [e 27 (by decide)]) (e 28 (by decide)) (e 29 (by decide)) (fun t _ => ?_) (fun t _ => ?_) (fun t ht => ?_) y
    · unfold h_b bs; rw [e5, e11]
    · unfold h_m; rw [e5, qV]
    · unfold h_t
      have : sd M' p = sd M p := by unfold sd; rw [x12, pk_un hps']
      rw [this, qst p _ t 0 hps (h2 p hps).2.1.2 ht (by omega)]
theorem inv_mk0 {M : Mem} {k : Int32} (h : Ivr M) (hn : nT M < 60) (hk : inr k 5) : Ivr (mset (mset (mset M 2 (nT M) k) 3 (nT M) (-1)) 1 0 (nI (nT M + 1))) := by
  obtain ⟨⟨h1, h2, h3, h4, h5, h6, h7, h8, -, h10, h11⟩, g2, g3, g4, g5, g6, g7, g8⟩ := id h
  obtain ⟨M', eM⟩ : ∃ M', M' = mset (mset (mset M 2 (nT M) k) 3 (nT M) (-1)) 1 0 (nI (nT M + 1)) := ⟨_, rfl⟩
  rw [← eM]
  have e : ∀ j, j ∉ [1, 2, 3] → M' j = M j := fun j hj => by
    simp only [List.mem_cons, List.not_mem_nil, or_false, not_or] at hj
    rw [eM, mset_n hj.1, mset_n hj.2.2, mset_n hj.2.1]
  have x1 : M' 1 0 = nI (nT M + 1) := by rw [eM, mset_s, pk_us]
  have x2 : M' 2 = upd (M 2) (nT M) k := by rw [eM, mset_n (by decide), mset_n (by decide), mset_s]
  have x3 : M' 3 = upd (M 3) (nT M) (-1) := by rw [eM, mset_n (by decide), mset_s, mset_n (by decide)]
  clear eM
  have qT : nT M' = nT M + 1 := by rw [nT, x1, nI_clamp (by omega)]
  have e4 := e 4 (by decide); have e5 := e 5 (by decide); have e6 := e 6 (by decide); have e9 := e 9 (by decide); have e11 := e 11 (by decide); have e12 := e 12 (by decide); have e13 := e 13 (by decide); have e14 := e 14 (by decide)
  have e16 := e 16 (by decide); have e17 := e 17 (by decide); have e18 := e 18 (by decide); have e19 := e 19 (by decide); have e20 := e 20 (by decide)
  have e26 := e 26 (by decide); have e27 := e 27 (by decide); have e28 := e 28 (by decide); have e29 := e 29 (by decide); have e30 := e 30 (by decide)
  have e8 : ∀ j, j ∈ [5, 6, 11, 16, 18, 19, 20, 21] → M' j = M j := fun j hj => e j (by revert hj; simp only [List.mem_cons, List.not_mem_nil, or_false]; omega)
  have qV : nV M' = nV M := by unfold nV; rw [e4]
  refine ⟨⟨⟨⟨by rw [qT, x1], by omega⟩, by rw [qV, e4]; exact h1.2.1, by unfold nS; rw [e9]; exact h1.2.2.1, by unfold nR; rw [e 22 (by decide)]; exact h1.2.2.2.1, by unfold nC; rw [e27]; exact h1.2.2.2.2⟩, h2.cg e4 e9 e11 e12 e13 e14, h3.cg e9 e12 e14, ?_, h5.cg e9 e13 e16 e17, h6.cg e4 e9 e14 e26, ?_, ?_, trivial, ?_, h11.cg (e 22 (by decide)) (e 23 (by decide)) (e 24 (by decide)) (e 25 (by decide))⟩, g2.cg e9 e13 e8, g3.cg e4 e5 e6, g4.cg (fun t ht => ?_) e4 e5 e6 (e 7 (by decide)), g5.cg e4 (e 8 (by decide)), g6.cg e9 e13 e18 e19, g7.cg e4 e5 e9 e13 e18 e19 (fun s z => by rw [e14]; exact z), g8.cg e26 e27 e28 e29 e4 (fun _ => by rw [e12]) e8⟩
  · intro s hs
    unfold nS at hs
    rw [e9] at hs
    have y := h4 s hs
    rw [qT]
    unfold nm bf
    rw [e13, e16, e18, e19, e20]
    refine ⟨y.1, fun k k1 k2 => ?_⟩
    obtain ⟨a, ⟨t, b, c⟩, d⟩ := y.2 k k1 k2
    exact ⟨a, ⟨t, by omega, c⟩, d⟩
  · intro j hj
    unfold nC at hj
    rw [e27] at hj
    rw [qT, e28, e29, e30]
    obtain ⟨⟨t, a, b⟩, c⟩ := h7 j hj
    exact ⟨⟨t, by omega, b⟩, c⟩
  · intro v hv t ht
    rw [qV] at hv
    rw [qT, e5, e6]
    rcases h8 v hv t ht with y | y
    · exact Or.inl ⟨y.1, by omega⟩
    · exact Or.inr y
  · intro t ht
    rw [qT] at ht
    rw [x2, x3, upd_v, upd_v]
    by_cases q : t = nT M
    · rw [if_pos q, if_pos q]
      obtain ⟨j, hj, ej⟩ := inr_nat (n := 5) hk (by omega)
      exact ⟨Or.inl rfl, j, hj, ej⟩
    · rw [if_neg q, if_neg q]
      exact h10 t (by omega)
  · rw [qT] at ht
    by_cases q : t < nT M
    · exact Or.inl q
    · refine Or.inr fun v hv z => ?_
      rcases h8 v hv t (by omega) with y | y
      · exact q y.2
      · rw [y.1] at z; exact absurd z (by decide)
theorem inv_make {M : Mem} {s : Nat} {k : Int32} (h : Ivr M) (hs : s < nS M) (h14 : M 14 s = 0) (hm : nm M s < 60) (hn : nT M < 60) (hk : inr k 5) : Ivr (m_change (mset (mset (mset M 2 (nT M) k) 3 (nT M) (-1)) 1 0 (nI (nT M + 1))) s (sd M s) (nm M s) 1 (nI (nT M)) 0 0) := by
  have h' := inv_mk0 h hn hk
  have qT : nT (mset (mset (mset M 2 (nT M) k) 3 (nT M) (-1)) 1 0 (nI (nT M + 1))) = nT M + 1 := by rw [nT, mset_s, pk_us, nI_clamp (by omega)]
  refine inv_change (M := mset (mset (mset M 2 (nT M) k) 3 (nT M) (-1)) 1 0 (nI (nT M + 1))) (f0 := 0) h' hs h14 hm (by rw [qT]; omega) (by omega) (Or.inr (Or.inl rfl)) (fun _ => ⟨fun s' j a b c z => ?_, fun f hf => ?_⟩)
  · obtain ⟨t0, ht0, e⟩ := ((h.1.2.2.2.1 s' a).2 j b c).2.1
    have z' : M 19 (60 * s' + j) = nI (nT M) := z
    have := (nI_eq (by omega) (by omega)).mp (e.symm.trans z')
    omega
  · have e : ∀ j, j ∈ [5, 6, 11, 16, 18, 19, 20, 21] → mset (mset (mset M 2 (nT M) k) 3 (nT M) (-1)) 1 0 (nI (nT M + 1)) j = M j := fun j hj => by
      simp only [List.mem_cons, List.not_mem_nil, or_false] at hj
      rw [mset_n (by omega), mset_n (by omega), mset_n (by omega)]
    rw [stv_hf e]
    exact stv_hi h.1 hs hn (Nat.le_refl _) hf _ _ (Nat.le_refl _) (h.1.2.1 s hs).2.1.2
/-! the conflicts that a joining finds -/
def R_fit (N K : Mem) (s : Nat) : Prop := ∀ k, k < nC K → ∀ t, t < 60 → K 28 k = nI t → (K 29 k = -1 → ¬ h_b N s t = 0 ∧ ¬ h_m N t = h_t N s t) ∧ (¬ K 29 k = -1 → ¬ h_m N t = 0 ∧ ¬ h_t N s t = 0)
section FIT
variable {N K : Mem} {s t : Nat}
theorem R_fit.add {f : Int32} (h : R_fit N K s) (hc : nC K < 300) (ht : t < 60) (h1 : f = -1 → ¬ h_b N s t = 0 ∧ ¬ h_m N t = h_t N s t) (h2 : ¬ f = -1 → ¬ h_m N t = 0 ∧ ¬ h_t N s t = 0) : R_fit N (m_add K (nI t) f) s := by
  intro k hk t' ht' h28
  rw [m_add_C hc] at hk
  have x28 : m_add K (nI t) f 28 = upd (K 28) (nC K) (nI t) := by rw [m_add, mset_n (by decide), mset_n (by decide), mset_n (by decide), mset_s]
  have x29 : m_add K (nI t) f 29 = upd (K 29) (nC K) f := by rw [m_add, mset_n (by decide), mset_n (by decide), mset_s, mset_n (by decide)]
  rw [x28] at h28
  rw [x29]
  by_cases q : k = nC K
  · rw [q, pk_us] at h28
    rw [q, pk_us]
    have := (nI_eq (by omega) (by omega)).mp h28
    subst this
    exact ⟨h1, h2⟩
  · rw [pk_un q] at h28 ⊢
    exact h k (by omega) t' ht' h28
theorem R_fit.fl (hN : Inv0 N) (ha : agr K N) (hK : Inv0 K) (h : R_fit N K s) (ht : t < nT N) : ∀ f, f ≤ 5 → nC K + f ≤ 300 → R_fit N (m_fl N s t K f) s
  | 0, _, _ => h
  | f + 1, h5, hc => by
    obtain ⟨-, -, b3⟩ := m_fl_ok (s := s) hN ha hK ht f (by omega) (by omega)
    have ih := R_fit.fl hN ha hK h ht f (by omega) (by omega)
    have hT := hN.1.1.2
    unfold m_fl
    split
    · next hx => exact ih.add (by omega) (by omega) (fun z => absurd z (nI_m1 (by omega))) (fun _ => ⟨hx.1.1, hx.2.1.1⟩)
    · exact ih
theorem R_fit.find (hN : Inv0 N) (ha : agr K N) (hK : Inv0 K) (h : R_fit N K s) (hs : s < nS N) (ht : t < nT N) (hc : nC K + 5 ≤ 300) : R_fit N (m_find N s t K) s := by
  have hT := hN.1.1.2
  unfold m_find
  split
  · exact h
  · next hb =>
    split
    · next hw =>
      have hz : h_m N t = 0 ∨ h_t N s t = 0 := by
        rcases h_m01 hN ht with a | a
        · exact Or.inl a
        · rcases h_t01 hN hs ht with b | b
          · exact Or.inr b
          · exact absurd (a.trans b.symm) hw.1
      rw [m_fl_none hz]
      exact h.add (by omega) (by omega) (fun _ => ⟨hb, hw.1⟩) (fun z => absurd rfl z)
    · exact R_fit.fl hN ha hK h ht 5 (by omega) (by omega)
theorem R_fit.fd (hN : Inv0 N) (hs : s < nS N) : ∀ t, t ≤ nT N → R_fit N (m_fd N s t) s
  | 0, _ => fun k hk => absurd hk (by
      have e : nC (m_fd N s 0) = 0 := by rw [m_fd, nC, mset_s, pk_us]; decide
      omega)
  | t + 1, h => by
    obtain ⟨a, b, c⟩ := m_fd_ok hN hs t (by omega)
    have hT := hN.1.1.2
    exact (R_fit.fd hN hs t (by omega)).find hN a b hs (by omega) (by omega)
theorem fit_fd (hN : Inv0 N) (hs : s < nS N) : I_fit (m_fd N s (nT N)) s := by
  have hl := lo.fd (N := N) (s := s) (nT N)
  have hb := (hN.2.1 s hs).1.2
  intro k hk t ht h28
  have y := R_fit.fd hN hs (nT N) (Nat.le_refl _) k hk t ht h28
  have e1 : h_b (m_fd N s (nT N)) s t = h_b N s t := by unfold h_b; rw [hl 5 (by decide), hl.agr.qb]
  have e2 : h_m (m_fd N s (nT N)) t = h_m N t := by unfold h_m; rw [hl 5 (by decide), hl.agr.V]
  have e3 : h_t (m_fd N s (nT N)) s t = h_t N s t := by unfold h_t; exact hl.agr.qhr hb ht (by omega)
  rw [e1, e2, e3]
  exact y
end FIT
theorem inv_fd {M : Mem} {s : Nat} (h : Ivr M) (h26 : M 26 0 < 0) (hs : s < nS M) : Ivr (m_fd M s (nT M)) := by
  obtain ⟨-, b, -⟩ := m_fd_ok h.1 hs (nT M) (Nat.le_refl _)
  have e := lo.fd (N := M) (s := s) (nT M)
  obtain ⟨-, g2, g3, g4, g5, g6, g7, g8⟩ := h
  have e8 : ∀ j, j ∈ [5, 6, 11, 16, 18, 19, 20, 21] → m_fd M s (nT M) j = M j := fun j hj => e j (by revert hj; simp only [List.mem_cons, List.not_mem_nil, or_false]; omega)
  exact ⟨b, g2.cg (e 9 (by decide)) (e 13 (by decide)) e8, g3.cg (e 4 (by decide)) (e 5 (by decide)) (e 6 (by decide)), g4.cg1 (e 1 (by decide)) (e 4 (by decide)) (e 5 (by decide)) (e 6 (by decide)) (e 7 (by decide)), g5.cg (e 4 (by decide)) (e 8 (by decide)), g6.cg (e 9 (by decide)) (e 13 (by decide)) (e 18 (by decide)) (e 19 (by decide)), g7.cg (e 4 (by decide)) (e 5 (by decide)) (e 9 (by decide)) (e 13 (by decide)) (e 18 (by decide)) (e 19 (by decide)) (fun s z => by rw [e 14 (by decide)]; exact z), fun z => absurd (show m_fd M s (nT M) 26 0 < 0 by rw [e 26 (by decide)]; exact h26) z⟩
theorem inv_pend {M : Mem} {s : Nat} (h : Ivr M) (hs : s < nS M) (h14 : M 14 s = 0) (h40 : nV M < 40) (hfit : I_fit M s) : Ivr (mset (mset M 14 s 1) 26 0 (nI s)) := by
  obtain ⟨⟨h1, h2, h3, h4, h5, h6, h7, h8, -, h10, h11⟩, g2, g3, g4, g5, g6, g7, g8⟩ := h
  have hS := h1.2.2.1.2
  have e : ∀ j, j ∉ [14, 26] → mset (mset M 14 s 1) 26 0 (nI s) j = M j := fun j hj => by
    simp only [List.mem_cons, List.not_mem_nil, or_false, not_or] at hj
    rw [mset_n hj.2, mset_n hj.1]
  have x14 : mset (mset M 14 s 1) 26 0 (nI s) 14 = upd (M 14) s 1 := by rw [mset_n (by decide), mset_s]
  have x26 : mset (mset M 14 s 1) 26 0 (nI s) 26 0 = nI s := by rw [mset_s, pk_us]
  have e8 : ∀ j, j ∈ [5, 6, 11, 16, 18, 19, 20, 21] → mset (mset M 14 s 1) 26 0 (nI s) j = M j := fun j hj => e j (by revert hj; simp only [List.mem_cons, List.not_mem_nil, or_false]; omega)
  refine ⟨⟨h1, ?_, ?_, h4.cg (e 1 (by decide)) (e 9 (by decide)) (e 13 (by decide)) (e 16 (by decide)) (e 18 (by decide)) (e 19 (by decide)) (e 20 (by decide)), h5.cg (e 9 (by decide)) (e 13 (by decide)) (e 16 (by decide)) (e 17 (by decide)), Or.inr ⟨s, hs, x26, by rw [x14, pk_us], h40⟩, h7.cg (e 1 (by decide)) (e 27 (by decide)) (e 28 (by decide)) (e 29 (by decide)) (e 30 (by decide)), h8.cg (e 1 (by decide)) (e 4 (by decide)) (e 5 (by decide)) (e 6 (by decide)), trivial, h10, h11⟩, g2.cg (e 9 (by decide)) (e 13 (by decide)) e8, g3.cg (e 4 (by decide)) (e 5 (by decide)) (e 6 (by decide)), g4.cg1 (e 1 (by decide)) (e 4 (by decide)) (e 5 (by decide)) (e 6 (by decide)) (e 7 (by decide)), g5.cg (e 4 (by decide)) (e 8 (by decide)), g6.cg (e 9 (by decide)) (e 13 (by decide)) (e 18 (by decide)) (e 19 (by decide)), g7.cg (e 4 (by decide)) (e 5 (by decide)) (e 9 (by decide)) (e 13 (by decide)) (e 18 (by decide)) (e 19 (by decide)) ?_, fun _ => ?_⟩
  · intro s' hs'
    have y := h2 s' hs'
    refine ⟨y.1, y.2.1, y.2.2.1, ?_⟩
    rw [x14, upd_v]
    by_cases q : s' = s
    · rw [if_pos q]; exact Or.inr (Or.inl rfl)
    · rw [if_neg q]; exact y.2.2.2
  · intro s' hs'
    have y := h3 s' hs'
    refine ⟨y.1, ?_⟩
    rw [x14, pk_un (fun z => by have : nS M ≤ s' := hs'; omega)]
    exact y.2
  · intro s' z
    rw [x14, pk_un (fun q => by rw [q, h14] at z; exact absurd z (by decide))]
    exact z
  · rw [x26, nI_clamp (by omega)]
    refine I_fit.cg (M := M) (by unfold nC; rw [e 27 (by decide)]) (e 28 (by decide)) (e 29 (by decide)) (fun t _ => ?_) (fun t _ => ?_) (fun t _ => ?_) hfit
    · unfold h_b bs; rw [e 5 (by decide), e 11 (by decide)]
    · unfold h_m nV; rw [e 5 (by decide), e 4 (by decide)]
    · unfold h_t sd; rw [stv_hf e8, e 12 (by decide)]
/-! a version comes -/
theorem inv_fin {N : Mem} {s : Nat} (h : Ivr N) (h40 : nV N < 40) (hs : s < nS N) : Ivr (m_fin N s) := by
  obtain ⟨⟨h1, h2, h3, h4, h5, h6, h7, h8, -, h10, h11⟩, g2, g3, g4, g5, g6, g7, g8⟩ := id h
  have hT := h1.1.2
  have hS := h1.2.2.1.2
  have hV1 := h1.2.1.2.1
  obtain ⟨M', eM⟩ : ∃ M', M' = m_fin N s := ⟨_, rfl⟩
  rw [← eM]
  have e : ∀ j, j ∉ [4, 5, 6, 7, 8, 14, 15, 26] → M' j = N j := fun j hj => by rw [eM, fin_o hj]
  have x4 : M' 4 0 = nI (nV N + 1) := by rw [eM, fin_4, pk_us]
  have x5 : ∀ i, i < 60 * nV N → M' 5 i = N 5 i := fun i hi => by rw [eM, fin_agv5 hi]
  have x6 : ∀ i, i < 300 * nV N → M' 6 i = N 6 i := fun i hi => by rw [eM, fin_agv6 hi]
  have x7 : ∀ i, i < 300 * nV N → M' 7 i = N 7 i := fun i hi => by rw [eM, fin_agv7 hi]
  have x8 : M' 8 = upd (N 8) (nV N) (nI s) := by rw [eM, fin_8]
  have x14 : M' 14 = upd (N 14) s 2 := by rw [eM, fin_14]
  have x26 : M' 26 0 = -1 := by rw [eM, fin_26, pk_us]
  have y5 : ∀ t, t < 60 → M' 5 (60 * nV N + t) = if t < nT N then p_5 N s t else 0 := fun t ht => by rw [eM, fin_5 ht]
  have y6 : ∀ t f, f < 5 → M' 6 (5 * (60 * nV N + t) + f) = if t < nT N then p_6 N s t f else N 6 (5 * (60 * nV N + t) + f) := fun t f hf => by rw [eM, fin_6 hf]
  have y7 : ∀ t f, f < 5 → M' 7 (5 * (60 * nV N + t) + f) = if t < nT N then p_7 N s t f else N 7 (5 * (60 * nV N + t) + f) := fun t f hf => by rw [eM, fin_7 hf]
  have z5 : ∀ v t, nV N < v → M' 5 (60 * v + t) = N 5 (60 * v + t) := fun v t hv => by
    rw [eM, fin_m (by omega)]; exact mg_z5 (by omega) _ hT
  have z6 : ∀ v t f, nV N < v → f < 5 → M' 6 (5 * (60 * v + t) + f) = N 6 (5 * (60 * v + t) + f) := fun v t f hv hf => by
    rw [eM, fin_m (by omega)]; exact mg_z6 (by omega) hf _ hT
  clear eM
  have qV : nV M' = nV N + 1 := by rw [nV, x4, nI_clamp (by omega)]
  have e1 := e 1 (by decide); have e9 := e 9 (by decide); have e11 := e 11 (by decide); have e12 := e 12 (by decide); have e13 := e 13 (by decide)
  have e16 := e 16 (by decide); have e17 := e 17 (by decide); have e18 := e 18 (by decide); have e19 := e 19 (by decide); have e20 := e 20 (by decide); have e21 := e 21 (by decide)
  have e27 := e 27 (by decide); have e28 := e 28 (by decide); have e29 := e 29 (by decide); have e30 := e 30 (by decide)
  have qT : nT M' = nT N := by unfold nT; rw [e1]
  have qS : nS M' = nS N := by unfold nS; rw [e9]
  have qm : ∀ s', nm M' s' = nm N s' := fun s' => by unfold nm; rw [e13]
  have qb : ∀ s', bs M' s' = bs N s' := fun s' => by unfold bs; rw [e11]
  have t14 : ∀ s', N 14 s' = 2 → M' 14 s' = 2 := fun s' z => by
    rw [x14, upd_v]
    by_cases q : s' = s
    · rw [if_pos q]
    · rw [if_neg q]; exact z
  have qvc : ∀ v, v < nV N → vc M' v = vc N v := fun v hv => vc_cg (fun t ht => x5 _ (by omega)) (fun t ht f hf => x6 _ (by omega))
  have qog : ∀ v, v < nV N → og M' v = og N v := fun v hv => og_cg v (fun w hw => qvc w (by omega))
  refine ⟨⟨⟨by rw [qT, e1]; exact h1.1, ⟨by rw [qV, x4], by omega, by omega⟩, by rw [qS, e9]; exact h1.2.2.1, by unfold nR; rw [e 22 (by decide)]; exact h1.2.2.2.1, by unfold nC; rw [e27]; exact h1.2.2.2.2⟩, ?_, ?_, h4.cg e1 e9 e13 e16 e18 e19 e20, h5.cg e9 e13 e16 e17, Or.inl x26, h7.cg e1 e27 e28 e29 e30, ?_, trivial, h10.cg e1 (e 2 (by decide)) (e 3 (by decide)), h11.cg (e 22 (by decide)) (e 23 (by decide)) (e 24 (by decide)) (e 25 (by decide))⟩, ?_, ?_, ?_, ?_, g6.cg e9 e13 e18 e19, ?_, fun z => absurd (show M' 26 0 < 0 by rw [x26]; decide) z⟩
  · intro s' hs'
    rw [qS] at hs'
    have y := h2 s' hs'
    have b2 : sd M' s' = sd N s' := by unfold sd; rw [e12]
    rw [qb, b2, qm, qV, e11, e12, e13, x14, upd_v]
    refine ⟨⟨y.1.1, by omega⟩, y.2.1, y.2.2.1, ?_⟩
    by_cases q : s' = s
    · rw [if_pos q]; exact Or.inr (Or.inr rfl)
    · rw [if_neg q]; exact y.2.2.2
  · intro s' hs'
    rw [qS] at hs'
    rw [e12, x14, pk_un (by omega)]
    exact h3 s' hs'
  · intro v hv t ht
    rw [qV] at hv
    rw [qT]
    by_cases q : v = nV N
    · subst q
      have w := g3 (nV N) (Nat.le_refl _) h40 t ht
      rw [y5 t ht]
      by_cases ht' : t < nT N
      · rw [if_pos ht', p_5]
        by_cases hc : j_bo N s t ∨ j_st N s t
        · rw [if_pos hc]; exact Or.inl ⟨rfl, ht'⟩
        · rw [if_neg hc]
          refine Or.inr ⟨rfl, fun f hf => ?_⟩
          rw [y6 t f hf, if_pos ht', p_6, if_neg (fun z => hc (Or.inl z)), if_neg (fun z => hc (Or.inr z))]
          exact w.2 f hf
      · rw [if_neg ht']
        refine Or.inr ⟨rfl, fun f hf => ?_⟩
        rw [y6 t f hf, if_neg ht']
        exact w.2 f hf
    · have hv' : v < nV N := by omega
      rw [x5 _ (by omega)]
      rcases h8 v hv' t ht with y | y
      · exact Or.inl y
      · exact Or.inr ⟨y.1, fun f hf => by rw [x6 _ (by omega)]; exact y.2 f hf⟩
  · intro s' hs' k k1 k2 h18 t ht h19 f hf
    rw [qS] at hs'
    rw [qm] at k2
    rw [e18] at h18
    rw [e19] at h19
    have eb : bf M' (60 * s' + k) = bf N (60 * s' + k) := by unfold bf; rw [e16]
    have := h.1.bf hs' k k1 k2
    rw [eb, stv_in h.1 hs' (by rw [e11]) x5 x6 (fun k hk j _ _ => ?_) (show bf N (60 * s' + k) < nm N s' by omega) ht (by omega)]
    · exact g2 s' hs' k k1 k2 h18 t ht h19 f hf
    · simp only [List.mem_cons, List.not_mem_nil, or_false] at hk
      rcases hk with rfl | rfl | rfl | rfl | rfl
      · rw [e16]
      · rw [e18]
      · rw [e19]
      · rw [e20]
      · rw [e21]
  · intro v hv h39 t ht
    rw [qV] at hv
    have w := g3 v (by omega) h39 t ht
    rw [z5 v t (by omega)]
    refine ⟨w.1, fun f hf => ?_⟩
    rw [z6 v t f (by omega) hf]
    exact w.2 f hf
  · intro v hv
    rw [qV] at hv
    rw [qT]
    by_cases q : v = nV N
    · obtain ⟨m, em⟩ : ∃ m, nV N = m + 1 := ⟨nV N - 1, by omega⟩
      obtain ⟨o1, o2⟩ := g4 m (by omega)
      have ogx : ∀ t f, t < 60 → f < 5 → og M' v (t * 5 + f) = @ite _ (s_has (vc N m) (nI t) ∧ s_val (vc N m) (nI t) (nI f) = s_val (vc M' (m + 1)) (nI t) (nI f)) (Classical.propDecidable _) (og N m (t * 5 + f)) (nI (m + 1)) := fun t f ht hf => by
        rw [q, em, og, v_tr, if_pos (by omega), v_tr1_at hf, qvc m (by omega), qog m (by omega), v_org_nat ht hf]
      refine ⟨fun i hi => ?_, fun t ht h5' f hf => ?_⟩
      · have x := ogx (i / 5) (i % 5) (by omega) (by omega)
        rw [show i / 5 * 5 + i % 5 = i by omega] at x
        rw [x]
        by_cases hc : s_has (vc N m) (nI (i / 5)) ∧ s_val (vc N m) (nI (i / 5)) (nI (i % 5)) = s_val (vc M' (m + 1)) (nI (i / 5)) (nI (i % 5))
        · rw [if_pos hc]
          obtain ⟨j, hj, ej⟩ := o1 i hi
          exact ⟨j, by omega, ej⟩
        · rw [if_neg hc]
          exact ⟨m + 1, by omega, rfl⟩
      · rw [ogx t f (by omega) hf, q, y7 t f hf, if_pos ht, s_has_vc (by omega), vc_f (by omega) hf, vc_f (by omega) hf]
        have k5 : N 5 (60 * m + t) = h_m N t := by unfold h_m; rw [em]; rfl
        have k6 : N 6 (5 * (60 * m + t) + f) = x_my N t f := by unfold x_my; rw [em]; rfl
        have k7 : x_sn N t f = N 7 (5 * (60 * m + t) + f) := by unfold x_sn; rw [em]; rfl
        have k8 : M' 6 (5 * (60 * (m + 1) + t) + f) = p_6 N s t f := by rw [← em, y6 t f hf, if_pos ht]
        rw [q, y5 t (by omega), if_pos ht] at h5'
        rw [k5, k6, k8, p_6, p_7]
        have hm01 := h_m01 h.1 ht
        have ogm : h_m N t = 1 → og N m (t * 5 + f) = x_sn N t f := fun z => by rw [k7]; exact o2 t ht (k5.trans z) f hf
        by_cases hb : j_bo N s t
        · have hm1 : h_m N t = 1 := hm01.resolve_left hb.1
          rw [if_pos hb, if_pos hb, j_x, j_y]
          by_cases hk : j_tk N s t f
          · rw [if_pos hk]
            by_cases hx : x_th N s t f = x_my N t f
            · rw [if_pos ⟨hm1, hx.symm⟩, if_neg (fun z => z.2 hx), ogm hm1]
            · rw [if_neg (fun z => hx z.2.symm), if_pos ⟨hk, hx⟩, em]
          · rw [if_neg hk, if_pos ⟨hm1, rfl⟩, if_neg (fun z => hk z.1), ogm hm1]
        · have hj : j_st N s t := Classical.byContradiction fun z => by
            rw [p_5, if_neg (fun y => y.elim hb z)] at h5'
            exact absurd h5' (by decide)
          rw [if_neg hb, if_neg hb, if_pos hj, if_pos hj, tk_x, tk_y]
          by_cases hw : j_wt N s t
          · have ht0 : ¬ h_t N s t = 0 := hj.2.elim (fun y => y.2) (fun y => absurd hw y.1)
            have hm0 : h_m N t = 0 := Classical.byContradiction fun z => hb ⟨z, ht0⟩
            rw [if_neg (fun z => absurd (hm0.symm.trans z.1) (by decide)), if_pos hw, em]
          · have hm0 : ¬ h_m N t = 0 := hj.2.elim (fun y => absurd y.1 hw) (fun y => y.2)
            have hm1 := hm01.resolve_left hm0
            rw [if_neg hw, if_neg hw, if_pos ⟨hm1, rfl⟩, ogm hm1]
    · have hv' : v < nV N := by omega
      obtain ⟨o1, o2⟩ := g4 v hv'
      rw [qog v hv']
      refine ⟨o1, fun t ht h5' f hf => ?_⟩
      rw [x5 _ (by omega)] at h5'
      rw [x7 _ (by omega)]
      exact o2 t ht h5' f hf
  · intro v hv1 hv
    rw [qV] at hv
    rw [x8, upd_v]
    by_cases q : v = nV N
    · rw [if_pos q]; exact ⟨s, by omega, rfl⟩
    · rw [if_neg q]; exact g5 v hv1 (by omega)
  · intro v hv t ht h5'
    rw [qV] at hv
    rw [qS]
    have old : ∀ w, w < nV N → ¬ N 5 (60 * w + t) = 0 → ∃ s k, s < nS N ∧ 1 ≤ k ∧ k < nm M' s ∧ M' 18 (60 * s + k) = 1 ∧ M' 19 (60 * s + k) = nI t ∧ M' 14 s = 2 := fun w hw z => by
      obtain ⟨s', k, a, b, c, d, f, g⟩ := g7 w hw t ht z
      exact ⟨s', k, a, b, by rw [qm]; exact c, by rw [e18]; exact d, by rw [e19]; exact f, t14 s' g⟩
    by_cases q : v = nV N
    · rw [q, y5 t ht] at h5'
      by_cases ht' : t < nT N
      · rw [if_pos ht', p_5] at h5'
        have hmm : ¬ h_m N t = 0 → ∃ s k, s < nS N ∧ 1 ≤ k ∧ k < nm M' s ∧ M' 18 (60 * s + k) = 1 ∧ M' 19 (60 * s + k) = nI t ∧ M' 14 s = 2 := fun z => old (nV N - 1) (by omega) z
        have htt : ¬ h_t N s t = 0 → ∃ s k, s < nS N ∧ 1 ≤ k ∧ k < nm M' s ∧ M' 18 (60 * s + k) = 1 ∧ M' 19 (60 * s + k) = nI t ∧ M' 14 s = 2 := fun z => by
          rcases stv_mk h.1 hs ht _ _ (Nat.le_refl _) (h2 s hs).2.1.2 z with y | ⟨j, j1, j2, j3, j4⟩
          · exact old (bs N s) (h2 s hs).1.2 y
          · exact ⟨s, j, hs, j1, by rw [qm]; exact j2, by rw [e18]; exact j3, by rw [e19]; exact j4, by rw [x14, pk_us]⟩
        by_cases hc : j_bo N s t ∨ j_st N s t
        · rcases hc with hb | hj
          · exact hmm hb.1
          · rcases hj.2 with y | y
            · exact htt y.2
            · exact hmm y.2
        · rw [if_neg hc] at h5'
          exact absurd rfl h5'
      · rw [if_neg ht'] at h5'
        exact absurd rfl h5'
    · have hv' : v < nV N := by omega
      rw [x5 _ (by omega)] at h5'
      exact old v hv' h5'
/-! each call keeps what is always so -/
section SPI
variable {M : Mem}
theorem gd_inv {b1 b2 : Prop} {x : Int32 × Mem} (h : Ivr M) (hx : b1 → b2 → Ivr x.2) : Ivr (gd b1 b2 M x).2.2 := by
  unfold gd
  split
  · next a =>
    split
    · next b => exact hx a b
    · exact h.code
  · exact h.code
theorem iv_told (h : Ivr M) (s w : Int32) : Ivr (sp_told M s w).2.2 := gd_inv h fun _ _ => h.code
theorem iv_author (h : Ivr M) (v : Int32) : Ivr (sp_author M v).2.2 := gd_inv h fun _ _ => h.code
theorem iv_count (h : Ivr M) (w : Int32) : Ivr (sp_count M w).2.2 := gd_inv h fun _ _ => h.code
theorem iv_here (h : Ivr M) (s t : Int32) : Ivr (sp_here M s t).2.2 := gd_inv h fun _ _ => h.code
theorem iv_now (h : Ivr M) (s t f : Int32) : Ivr (sp_now M s t f).2.2 := gd_inv h fun _ _ => h.code
theorem iv_at (h : Ivr M) (v t f : Int32) : Ivr (sp_at M v t f).2.2 := gd_inv h fun _ _ => h.code
theorem iv_since (h : Ivr M) (v t f : Int32) : Ivr (sp_since M v t f).2.2 := gd_inv h fun _ _ => h.code
theorem iv_there (h : Ivr M) (v t w : Int32) : Ivr (sp_there M v t w).2.2 := gd_inv h fun _ _ => h.code
theorem iv_conflict (h : Ivr M) (k w : Int32) : Ivr (sp_conflict M k w).2.2 := gd_inv h fun _ _ => h.code
theorem iv_differs (h : Ivr M) (a b k : Int32) : Ivr (sp_differs M a b k).2.2 := gd_inv h fun _ _ => h.code
theorem iv_broken (h : Ivr M) (v k : Int32) : Ivr (sp_broken M v k).2.2 := gd_inv h fun _ _ => h.code
theorem iv_lock (h : Ivr M) (t p : Int32) : Ivr (sp_lock M t p).2.2 := gd_inv h fun a _ => inv_lock h.code a.2
theorem iv_rule (h : Ivr M) (k f g : Int32) : Ivr (sp_rule M k f g).2.2 := gd_inv h fun a b => inv_rule (M := mset M 0 0 0) h.code b a.1 a.2.1 a.2.2
theorem iv_giveUp (h : Ivr M) : Ivr (sp_giveUp M).2.2 := gd_inv h fun a _ => inv_giveUp (M := mset M 0 0 0) h.code a
theorem iv_session (h : Ivr M) (p v : Int32) : Ivr (sp_session M p v).2.2 := by
  refine gd_inv h fun a b => ?_
  have hV := h.1.1.2.1.2.2
  obtain ⟨w, hw, rfl⟩ := inr_nat (n := nV M) a.2 (by omega)
  exact inv_session (M := mset M 0 0 0) h.code b hw
theorem iv_make (h : Ivr M) (s k : Int32) : Ivr (sp_make M s k).2.2 := by
  refine gd_inv h fun a b => ?_
  have hS := h.1.1.2.2.1.2
  have hT := h.1.1.1.2
  obtain ⟨w, hw, rfl⟩ := inr_nat (n := nS M) a.1 (by omega)
  rw [nI_clamp (by omega)] at b
  have hm := (h.1.2.1 w hw).2.2.1.2
  unfold f_make
  rw [nI_clamp (by omega)]
  split
  · exact h.code
  · next hz =>
    have h1 : ¬ nT M = 60 := fun z => hz (Or.inl z)
    have h2 : ¬ nm M w = 60 := fun z => hz (Or.inr z)
    exact inv_make (M := mset M 0 0 0) h.code hw b (show nm M w < 60 by omega) (show nT M < 60 by omega) a.2
theorem bar_60 {s t : Nat} (hz : ¬ f_barred M s t < 0) : ¬ nm M s = 60 := fun z => hz (by
  unfold f_barred
  split
  · decide
  · split
    · decide
    · first
      | decide
      | (rw [if_pos z]; decide))
theorem iv_chg (h : Ivr M) {s t : Nat} (hs : s < nS M) (ht : t < nT M) (h14 : M 14 s = 0) {hw v : Int32} {f : Nat} (hf : f < 5) (hhw : hw = 0 ∨ hw = 2) : Ivr (f_chg M (nI s) (nI t) hw (nI f) v).2 := by
  have hS := h.1.1.2.2.1.2
  have hT := h.1.1.1.2
  have hm := (h.1.2.1 s hs).2.2.1.2
  unfold f_chg
  rw [nI_clamp (by omega), nI_clamp (by omega)]
  split
  · exact h
  · next hz =>
    have := bar_60 hz
    exact inv_change h hs h14 (by omega) ht hf (hhw.elim Or.inl (fun y => Or.inr (Or.inr y))) (fun y => by rcases hhw with q | q <;> rw [q] at y <;> exact absurd y (by decide))
theorem iv_set (h : Ivr M) (s t f v : Int32) : Ivr (sp_set M s t f v).2.2 := by
  refine gd_inv h fun a b => ?_
  have hS := h.1.1.2.2.1.2
  have hT := h.1.1.1.2
  obtain ⟨s, hs, rfl⟩ := inr_nat (n := nS M) a.1 (by omega)
  obtain ⟨t, ht, rfl⟩ := inr_nat (n := nT M) a.2.1 (by omega)
  obtain ⟨f, hf, rfl⟩ := inr_nat (n := 5) a.2.2 (by omega)
  rw [nI_clamp (by omega)] at b
  exact iv_chg (M := mset M 0 0 0) h.code hs ht b hf (Or.inl rfl)
theorem iv_drop (h : Ivr M) (s t : Int32) : Ivr (sp_drop M s t).2.2 := by
  refine gd_inv h fun a b => ?_
  have hS := h.1.1.2.2.1.2
  have hT := h.1.1.1.2
  obtain ⟨s, hs, rfl⟩ := inr_nat (n := nS M) a.1 (by omega)
  obtain ⟨t, ht, rfl⟩ := inr_nat (n := nT M) a.2 (by omega)
  rw [nI_clamp (by omega)] at b
  exact iv_chg (M := mset M 0 0 0) (f := 0) h.code hs ht b (by omega) (Or.inr rfl)
theorem iv_undo (h : Ivr M) (s : Int32) : Ivr (sp_undo M s).2.2 := by
  refine gd_inv h fun a b => ?_
  have hS := h.1.1.2.2.1.2
  obtain ⟨s, hs, rfl⟩ := inr_nat (n := nS M) a (by omega)
  rw [nI_clamp (by omega)] at b
  have hsd := (h.1.2.1 s hs).2.1.2
  have hm := h.1.2.2.2.1 s hs
  show Ivr (mset (mset M 0 0 0) 12 (nI s).toNatClampNeg (@ite _ (M 16 (60 * (nI s).toNatClampNeg + sd M (nI s).toNatClampNeg) < 0) (Classical.propDecidable _) (nI (sd M (nI s).toNatClampNeg)) (M 16 (60 * (nI s).toNatClampNeg + sd M (nI s).toNatClampNeg))))
  rw [nI_clamp (by omega)]
  split
  · exact inv_go (M := mset M 0 0 0) h.code hs b hsd
  · next hz =>
    by_cases h0 : sd M s = 0
    · rw [h0, Nat.add_zero, hm.1] at hz
      exact absurd (by decide) hz
    · have y := (hm.2 (sd M s) (by omega) hsd).1
      rw [y.1]
      exact inv_go (M := mset M 0 0 0) h.code hs b (show bf M (60 * s + sd M s) < nm M s by omega)
theorem iv_redo (h : Ivr M) (s : Int32) : Ivr (sp_redo M s).2.2 := by
  refine gd_inv h fun a b => ?_
  have hS := h.1.1.2.2.1.2
  obtain ⟨s, hs, rfl⟩ := inr_nat (n := nS M) a (by omega)
  rw [nI_clamp (by omega)] at b
  have hsd := (h.1.2.1 s hs).2.1.2
  show Ivr (mset (mset M 0 0 0) 12 (nI s).toNatClampNeg (@ite _ (M 17 (60 * (nI s).toNatClampNeg + sd M (nI s).toNatClampNeg) < 0) (Classical.propDecidable _) (nI (sd M (nI s).toNatClampNeg)) (M 17 (60 * (nI s).toNatClampNeg + sd M (nI s).toNatClampNeg))))
  rw [nI_clamp (by omega)]
  split
  · exact inv_go (M := mset M 0 0 0) h.code hs b hsd
  · next hz =>
    rcases h.1.2.2.2.2.1 s hs (sd M s) hsd with y | ⟨j, j1, j2, j3, -⟩
    · rw [y] at hz
      exact absurd (by decide) hz
    · rw [j1]
      exact inv_go (M := mset M 0 0 0) h.code hs b j3
theorem iv_join (h : Ivr M) (s : Int32) : Ivr (sp_join M s).2.2 := by
  refine gd_inv h fun a b => ?_
  have hS := h.1.1.2.2.1.2
  obtain ⟨s, hs, rfl⟩ := inr_nat (n := nS M) a (by omega)
  rw [nI_clamp (by omega)] at b ⊢
  have h0 : Ivr (mset M 0 0 0) := h.code
  have hs0 : s < nS (mset M 0 0 0) := hs
  have b0 : mset M 0 0 0 14 s = 0 := b
  obtain ⟨N, eN⟩ : ∃ N, N = mset M 0 0 0 := ⟨_, rfl⟩
  rw [← eN] at h0 hs0 b0 ⊢
  have hV := h0.1.1.2.1.2.2
  have hl := lo.fd (N := N) (s := s) (nT N)
  unfold f_join
  split
  · exact h0
  · next h26 =>
    have h26 : N 26 0 < 0 := Classical.byContradiction h26
    split
    · exact h0
    · next h40 =>
      have hf := inv_fd h0 h26 hs0
      have hsf : s < nS (m_fd N s (nT N)) := by rw [hl.agr.S]; exact hs0
      have hvf : nV (m_fd N s (nT N)) < 40 := by rw [hl.agr.V]; omega
      split
      · exact inv_fin hf hvf hsf
      · exact inv_pend hf hsf (by rw [hl 14 (by decide)]; exact b0) hvf (fit_fd h0.1 hs0)
theorem iv_settle (h : Ivr M) (k v : Int32) : Ivr (sp_settle M k v).2.2 := by
  refine gd_inv h fun a b => ?_
  have h0 : Ivr (mset M 0 0 0) := h.code
  have b0 : ¬ mset M 0 0 0 26 0 < 0 := b
  obtain ⟨N, eN⟩ : ∃ N, N = mset M 0 0 0 := ⟨_, rfl⟩
  rw [← eN] at h0 b0 ⊢
  obtain ⟨j, hj, rfl⟩ := inr_nat (n := 2) a.2 (by omega)
  have hv : nI j = 0 ∨ nI j = 1 := by
    rcases (show j = 0 ∨ j = 1 by omega) with rfl | rfl
    · exact Or.inl rfl
    · exact Or.inr rfl
  have hs := inv_settle (k := k.toNatClampNeg) h0 hv
  obtain ⟨p, hp, e26, -, h40⟩ : ∃ s, s < nS N ∧ N 26 0 = nI s ∧ N 14 s = 1 ∧ nV N < 40 := h0.1.2.2.2.2.2.1.resolve_left (fun z => b0 (by rw [z]; decide))
  have hS := h0.1.1.2.2.1.2
  unfold f_settle
  rw [e26, nI_clamp (by omega)]
  split
  · exact inv_fin hs h40 hp
  · exact hs
end SPI
/-! the start -/
def m_0 : Mem := mset (mset (fun _ _ => 0) 4 0 1) 26 0 (-1)
theorem iv_start : Ivr m_0 := by
  have hS : nS m_0 = 0 := by decide
  have hV : nV m_0 = 1 := by decide
  have hT : nT m_0 = 0 := by decide
  have hC : nC m_0 = 0 := by decide
  have hR : nR m_0 = 0 := by decide
  have z5 : ∀ i, m_0 5 i = 0 := fun i => rfl
  have z6 : ∀ i, m_0 6 i = 0 := fun i => rfl
  refine ⟨⟨⟨by decide, by decide, by decide, by decide, by decide⟩, fun s hs => absurd hs (by omega), fun s _ => ⟨rfl, rfl⟩, fun s hs => absurd hs (by omega), fun s hs => absurd hs (by omega), Or.inl (by decide), fun k hk => absurd hk (by omega), fun v _ t _ => Or.inr ⟨z5 _, fun f _ => z6 _⟩, trivial, fun t ht => absurd ht (by omega), fun r hr => absurd hr (by omega)⟩, fun s hs => absurd hs (by omega), fun v _ _ t _ => ⟨z5 _, fun f _ => z6 _⟩, fun v hv => ?_, fun v h1 h2 => absurd h2 (by omega), fun s s' k k' hs => absurd hs (by omega), fun v _ t _ z => absurd (z5 _) z, fun z => absurd (show m_0 26 0 < 0 by decide) z⟩
  have : v = 0 := by omega
  subst this
  exact ⟨fun i _ => ⟨0, Nat.le_refl _, rfl⟩, fun t ht => absurd ht (by omega)⟩
