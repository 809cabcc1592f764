/-! THE CLASS: pictures by roles, and what changes in them -/
def cw (ad : Nat → Nat → Nat) (L : Nat → Nat → Prop) (c : Nat → Nat → va_E) (h : Pic) : Prop := (∀ k i, L k i → h (ad k i) = some (c k i)) ∧ ∀ k i k' i', L k i → L k' i' → ad k i = ad k' i' → k = k' ∧ i = i'
def c_up (c : Nat → Nat → va_E) (k0 i0 : Nat) (z : va_E) : Nat → Nat → va_E := fun k i => if k = k0 ∧ i = i0 then z else c k i
def a_up (ad : Nat → Nat → Nat) (k0 i0 q : Nat) : Nat → Nat → Nat := fun k i => if k = k0 ∧ i = i0 then q else ad k i
def l_up (L : Nat → Nat → Prop) (k0 i0 : Nat) : Nat → Nat → Prop := fun k i => L k i ∨ (k = k0 ∧ i = i0)
section CW
variable {ad : Nat → Nat → Nat} {L L' : Nat → Nat → Prop} {c c' : Nat → Nat → va_E} {h : Pic} {k0 i0 : Nat} {z : va_E}
theorem c_up_s : c_up c k0 i0 z k0 i0 = z := if_pos ⟨rfl, rfl⟩
theorem c_up_k {k i : Nat} (hk : k ≠ k0) : c_up c k0 i0 z k i = c k i := if_neg (fun y => hk y.1)
theorem c_up_i {k i : Nat} (hk : i ≠ i0) : c_up c k0 i0 z k i = c k i := if_neg (fun y => hk y.2)
theorem a_up_s {q : Nat} : a_up ad k0 i0 q k0 i0 = q := if_pos ⟨rfl, rfl⟩
theorem a_up_k {k i q : Nat} (hk : k ≠ k0) : a_up ad k0 i0 q k i = ad k i := if_neg (fun y => hk y.1)
theorem a_up_i {k i q : Nat} (hk : i ≠ i0) : a_up ad k0 i0 q k i = ad k i := if_neg (fun y => hk y.2)
theorem cw_w {a : Nat} (H : cw ad L c h) (h0 : L k0 i0) (ha : ad k0 i0 = a) : cw ad L (c_up c k0 i0 z) (hp_up h a z) := by
  refine ⟨fun k i hl => ?_, H.2⟩
  by_cases hq : k = k0 ∧ i = i0
  · obtain ⟨rfl, rfl⟩ := hq
    rw [c_up_s, ha, hp_up_s]
  · rw [c_up, if_neg hq, hp_up_n (fun y => hq (H.2 k i k0 i0 hl h0 (y.trans ha.symm))), H.1 k i hl]
theorem cw_n {q : Nat} (H : cw ad L c h) (h0 : ¬ L k0 i0) (hq : h q = none) : cw (a_up ad k0 i0 q) (l_up L k0 i0) (c_up c k0 i0 z) (hp_up h q z) := by
  have ne : ∀ k i, L k i → ¬ (k = k0 ∧ i = i0) := fun k i hl y => h0 (by rw [← y.1, ← y.2]; exact hl)
  have nq : ∀ k i, L k i → ad k i ≠ q := fun k i hl y => by
    have e := H.1 k i hl
    rw [y, hq] at e
    cases e
  refine ⟨fun k i hl => ?_, fun k i k' i' h1 h2 h3 => ?_⟩
  · by_cases hk : k = k0 ∧ i = i0
    · obtain ⟨rfl, rfl⟩ := hk
      rw [c_up_s, a_up_s, hp_up_s]
    · have hl := hl.resolve_right hk
      rw [c_up, if_neg hk, a_up, if_neg hk, hp_up_n (nq k i hl), H.1 k i hl]
  · by_cases hk : k = k0 ∧ i = i0
    · by_cases hk' : k' = k0 ∧ i' = i0
      · exact ⟨hk.1.trans hk'.1.symm, hk.2.trans hk'.2.symm⟩
      · have h2 := h2.resolve_right hk'
        rw [a_up, if_pos hk, a_up, if_neg hk'] at h3
        exact absurd h3.symm (nq k' i' h2)
    · have h1 := h1.resolve_right hk
      by_cases hk' : k' = k0 ∧ i' = i0
      · rw [a_up, if_neg hk, a_up, if_pos hk'] at h3
        exact absurd h3 (nq k i h1)
      · have h2 := h2.resolve_right hk'
        rw [a_up, if_neg hk, a_up, if_neg hk'] at h3
        exact H.2 k i k' i' h1 h2 h3
theorem cw_c (H : cw ad L c h) (h1 : ∀ k i, L' k i → L k i) (h2 : ∀ k i, L' k i → c k i = c' k i) : cw ad L' c' h :=
  ⟨fun k i hl => by rw [H.1 k i (h1 k i hl), h2 k i hl], fun k i k' i' a b e => H.2 k i k' i' (h1 k i a) (h1 k' i' b) e⟩
theorem fr2 {u h : Pic} {a b : Nat} {x y : va_E} (ha : u a = some x) (hb : u b = some y) (hz : ∀ z, z ≠ a → z ≠ b → u z = h z) : u = hp_up (hp_up h a x) b y := funext fun z => by
  by_cases h2 : z = b
  · rw [h2, hp_up_s, hb]
  · rw [hp_up_n h2]
    by_cases h1 : z = a
    · rw [h1, hp_up_s, ha]
    · rw [hp_up_n h1, hz z h1 h2]
theorem fr4 {u h : Pic} {a b c d : Nat} {x y v w : va_E} (ha : u a = some x) (hb : u b = some y) (hc : u c = some v) (hd : u d = some w) (hz : ∀ z, z ≠ a → z ≠ b → z ≠ c → z ≠ d → u z = h z) : u = hp_up (hp_up (hp_up (hp_up h a x) b y) c v) d w := funext fun z => by
  by_cases h4 : z = d
  · rw [h4, hp_up_s, hd]
  · rw [hp_up_n h4]
    by_cases h3 : z = c
    · rw [h3, hp_up_s, hc]
    · rw [hp_up_n h3]
      by_cases h2 : z = b
      · rw [h2, hp_up_s, hb]
      · rw [hp_up_n h2]
        by_cases h1 : z = a
        · rw [h1, hp_up_s, ha]
        · rw [hp_up_n h1, hz z h1 h2 h3 h4]
end CW
section CG
variable {Γ : Gam} {ad ad' : Nat → Nat → Nat} {M M' : Mem} {s n : Nat}
/-- a session's state hangs on its base and its own moments alone -/
theorem sv_cg (hb : ∀ k, 1 ≤ k → k < n → bf M (60 * s + k) < k) (h11 : M' 11 s = M 11 s) (h5 : ∀ t, t < 60 → M' 5 (60 * bs M s + t) = M 5 (60 * bs M s + t)) (h6 : ∀ t, t < 60 → ∀ f, f < 5 → M' 6 (5 * (60 * bs M s + t) + f) = M 6 (5 * (60 * bs M s + t) + f)) (hm : ∀ k, k ∈ [16, 18, 19, 20, 21] → ∀ j, 1 ≤ j → j < n → M' k (60 * s + j) = M k (60 * s + j)) {t g : Nat} (ht : t < 60) (hg : g < 6) : ∀ (m k : Nat), k < n → sv M' s t g m k = sv M s t g m k := by
  have e0 : m_base M' s t g = m_base M s t g := by
    have e : bs M' s = bs M s := by unfold bs; rw [h11]
    unfold m_base
    rw [e]
    by_cases h0 : g = 0
    · rw [if_pos h0, if_pos h0, h5 t ht]
    · rw [if_neg h0, if_neg h0, h6 t ht (g - 1) (by omega)]
  intro m
  induction m with
  | zero => intro k _; exact e0
  | succ m ih =>
    intro k hk
    by_cases h0 : k = 0
    · rw [h0, sv_0, sv_0, e0]
    · have e16 := hm 16 (by decide) k (by omega) hk
      have e18 := hm 18 (by decide) k (by omega) hk
      have e19 := hm 19 (by decide) k (by omega) hk
      have e20 := hm 20 (by decide) k (by omega) hk
      have e21 := hm 21 (by decide) k (by omega) hk
      have hh : m_hit M' (60 * s + k) t g ↔ m_hit M (60 * s + k) t g := by unfold m_hit; rw [e18, e19, e20]
      have hbk : bf M' (60 * s + k) = bf M (60 * s + k) := by unfold bf; rw [e16]
      by_cases h1 : m_hit M (60 * s + k) t g
      · rw [sv_hit h0 h1, sv_hit h0 (hh.mpr h1)]
        unfold m_new
        rw [e18, e21]
      · rw [sv_no h0 h1, sv_no h0 (fun z => h1 (hh.mp z)), hbk]
        exact ih _ (by have := hb k (by omega) hk; omega)
theorem stv_cg (hb : ∀ k, 1 ≤ k → k < n → bf M (60 * s + k) < k) (h11 : M' 11 s = M 11 s) (h5 : ∀ t, t < 60 → M' 5 (60 * bs M s + t) = M 5 (60 * bs M s + t)) (h6 : ∀ t, t < 60 → ∀ f, f < 5 → M' 6 (5 * (60 * bs M s + t) + f) = M 6 (5 * (60 * bs M s + t) + f)) (hm : ∀ k, k ∈ [16, 18, 19, 20, 21] → ∀ j, 1 ≤ j → j < n → M' k (60 * s + j) = M k (60 * s + j)) {k t g : Nat} (hk : k < n) (ht : t < 60) (hg : g < 6) : stv M' s k t g = stv M s k t g := sv_cg hb h11 h5 h6 hm ht hg 60 k hk
theorem sc_cg (h12 : M' 12 s = M 12 s) (he : ∀ t g, t < 60 → g < 6 → stv M' s (sd M s) t g = stv M s (sd M s) t g) : sc M' s = sc M s := funext fun j => by
  have e : sd M' s = sd M s := by unfold sd; rw [h12]
  unfold sc
  rw [e]
  by_cases h : j < 360
  · rw [if_pos h, if_pos h, he _ _ (by omega) (by omega)]
  · rw [if_neg h, if_neg h]
theorem vc_cg {v : Nat} (h5 : ∀ t, t < 60 → M' 5 (60 * v + t) = M 5 (60 * v + t)) (h6 : ∀ t, t < 60 → ∀ f, f < 5 → M' 6 (5 * (60 * v + t) + f) = M 6 (5 * (60 * v + t) + f)) : vc M' v = vc M v := funext fun j => by
  unfold vc
  by_cases h : j < 360
  · rw [if_pos h, if_pos h, h5 _ (by omega)]
    by_cases h0 : j % 6 = 0
    · rw [if_pos h0, if_pos h0]
    · rw [if_neg h0, if_neg h0, h6 _ (by omega) _ (by omega)]
  · rw [if_neg h, if_neg h]
theorem og_cg : ∀ (v : Nat), (∀ w, w ≤ v → vc M' w = vc M w) → og M' v = og M v
  | 0, _ => rfl
  | v + 1, h => by rw [og, og, og_cg v (fun w hw => h w (by omega)), h v (by omega), h (v + 1) (by omega)]
/-- the contents by their roles -/
theorem cc10 {i : Nat} (h10 : M' 10 i = M 10 i) (h11 : M' 11 i = M 11 i) (h12 : M' 12 i = M 12 i) (h13 : M' 13 i = M 13 i) (h14 : M' 14 i = M 14 i) (h15 : M' 15 i = M 15 i) (a14 : ad' 14 (bs M i) = ad 14 (bs M i)) (a11 : ad' 11 i = ad 11 i) (a13 : ad' 13 (60 * i + sd M i) = ad 13 (60 * i + sd M i)) : cc Γ ad M 10 i = cc Γ ad' M' 10 i := by
  have e1 : bs M' i = bs M i := by unfold bs; rw [h11]
  have e2 : sd M' i = sd M i := by unfold sd; rw [h12]
  rw [cc, cc, e1, e2, h10, h13, h14, h15, a14, a11, a13]
theorem cc11 {i : Nat} (a : ad' 12 i = ad 12 i) : cc Γ ad M 11 i = cc Γ ad' M' 11 i := by rw [cc, cc, a]
theorem cc12 {i : Nat} (e : sc M' i = sc M i) : cc Γ ad M 12 i = cc Γ ad' M' 12 i := by rw [cc, cc, e]
theorem cc13 {i j : Nat} (hj : j < 60) (hm : ∀ k, k ∈ [16, 18, 19, 20, 21] → M' k (60 * i + j) = M k (60 * i + j)) (h17 : M' 17 (60 * i + j) = M 17 (60 * i + j)) (ho : mo_o M' i j = mo_o M i j) (ab : ¬ j = 0 → ad' 13 (60 * i + bf M (60 * i + j)) = ad 13 (60 * i + bf M (60 * i + j))) (al : ¬ M 17 (60 * i + j) < 0 → ad' 13 (60 * i + (M 17 (60 * i + j)).toNatClampNeg) = ad 13 (60 * i + (M 17 (60 * i + j)).toNatClampNeg)) : cc Γ ad M 13 (60 * i + j) = cc Γ ad' M' 13 (60 * i + j) := by
  have e16 := hm 16 (by decide)
  have e18 := hm 18 (by decide)
  have e19 := hm 19 (by decide)
  have e20 := hm 20 (by decide)
  have e21 := hm 21 (by decide)
  have e1 : bf M' (60 * i + j) = bf M (60 * i + j) := by unfold bf; rw [e16]
  have x1 : mo_b ad' M' i j = mo_b ad M i j := by
    unfold mo_b
    by_cases h : j = 0
    · rw [if_pos h, if_pos h]
    · rw [if_neg h, if_neg h, e1, ab h]
  have x2 : mo_t M' i j = mo_t M i j := by unfold mo_t; rw [e19]
  have x3 : mo_f M' i j = mo_f M i j := by unfold mo_f; rw [e18, e20]
  have x4 : mo_n M' i j = mo_n M i j := by unfold mo_n m_new; rw [e18, e21]
  have x5 : mo_l ad' M' i j = mo_l ad M i j := by
    unfold mo_l
    rw [h17]
    by_cases h : M 17 (60 * i + j) < 0
    · rw [if_pos h, if_pos h]
    · rw [if_neg h, if_neg h, al h]
  rw [cc, cc, show (60 * i + j) / 60 = i by omega, show (60 * i + j) % 60 = j by omega, x1, x2, x3, x4, x5, ho]
theorem cc14 {i : Nat} (h8 : M' 8 i = M 8 i) (a : ad' 15 i = ad 15 i) (b : ad' 17 i = ad 17 i) : cc Γ ad M 14 i = cc Γ ad' M' 14 i := by
  have e : au M' i = au M i := by unfold au; rw [h8]
  rw [cc, cc, e, a, b]
theorem cc15 {i : Nat} (a : ad' 16 i = ad 16 i) : cc Γ ad M 15 i = cc Γ ad' M' 15 i := by rw [cc, cc, a]
theorem cc16 {i : Nat} (e : vc M' i = vc M i) : cc Γ ad M 16 i = cc Γ ad' M' 16 i := by rw [cc, cc, e]
theorem cc17 {i : Nat} (e : og M' i = og M i) : cc Γ ad M 17 i = cc Γ ad' M' 17 i := by rw [cc, cc, e]
theorem cc18 {i : Nat} (h1 : M' 23 i = M 23 i) (h2 : M' 24 i = M 24 i) (h3 : M' 25 i = M 25 i) : cc Γ ad M 18 i = cc Γ ad' M' 18 i := by rw [cc, cc, h1, h2, h3]; all_goals (intro z; cases z)
theorem mo_o_cg {j : Nat} (hm : ∀ k, k ∈ [16, 18, 19, 20, 21] → M' k (60 * s + j) = M k (60 * s + j)) (he : ¬ j = 0 → stv M' s (bf M (60 * s + j)) (M 19 (60 * s + j)).toNatClampNeg (mo_g M s j) = stv M s (bf M (60 * s + j)) (M 19 (60 * s + j)).toNatClampNeg (mo_g M s j)) : mo_o M' s j = mo_o M s j := by
  have e16 := hm 16 (by decide)
  have e18 := hm 18 (by decide)
  have e19 := hm 19 (by decide)
  have e20 := hm 20 (by decide)
  have e1 : bf M' (60 * s + j) = bf M (60 * s + j) := by unfold bf; rw [e16]
  have e2 : mo_g M' s j = mo_g M s j := by unfold mo_g; rw [e18, e20]
  unfold mo_o
  by_cases h : j = 0
  · rw [if_pos h, if_pos h]
  · rw [if_neg h, if_neg h, e1, e2, e19, he h]
/-- all that sessions, versions hold stays where their fields stay -/
theorem cc_hi {k i : Nat} (hf : ∀ j, j ∈ [5, 6, 8, 11, 12, 16, 17, 18, 19, 20, 21] → M' j = M j) (hk : 11 ≤ k) (hk2 : k ≤ 17) : cc Γ ad M k i = cc Γ ad M' k i := by
  have eb : ∀ s t g, m_base M' s t g = m_base M s t g := fun s t g => by unfold m_base bs; rw [hf 5 (by decide), hf 6 (by decide), hf 11 (by decide)]
  have ev : ∀ s t g n k, sv M' s t g n k = sv M s t g n k := fun s t g n => by
    induction n with
    | zero => intro k; exact eb s t g
    | succ n ih =>
      intro k
      have hh : m_hit M' (60 * s + k) t g ↔ m_hit M (60 * s + k) t g := by unfold m_hit; rw [hf 18 (by decide), hf 19 (by decide), hf 20 (by decide)]
      by_cases h0 : k = 0
      · rw [h0, sv_0, sv_0, eb]
      · by_cases h1 : m_hit M (60 * s + k) t g
        · rw [sv_hit h0 h1, sv_hit h0 (hh.mpr h1)]
          unfold m_new
          rw [hf 18 (by decide), hf 21 (by decide)]
        · rw [sv_no h0 h1, sv_no h0 (fun z => h1 (hh.mp z)), ih]
          unfold bf
          rw [hf 16 (by decide)]
  have es : ∀ s k t g, stv M' s k t g = stv M s k t g := fun s k t g => ev s t g 60 k
  have evc : ∀ v, vc M' v = vc M v := fun v => by unfold vc; rw [hf 5 (by decide), hf 6 (by decide)]
  obtain ⟨d, rfl⟩ : ∃ d, k = d + 10 := ⟨k - 10, by omega⟩
  match d with
  | 0 => exact absurd hk (by omega)
  | 1 => exact cc11 rfl
  | 2 => exact cc12 (sc_cg (by rw [hf 12 (by decide)]) (fun t g _ _ => es _ _ _ _))
  | 3 =>
    have x := cc13 (Γ := Γ) (ad := ad) (ad' := ad) (M := M) (M' := M') (i := i / 60) (j := i % 60) (by omega) (fun k hk => by rw [hf k (by simp at hk ⊢; omega)]) (by rw [hf 17 (by decide)]) (mo_o_cg (fun k hk => by rw [hf k (by simp at hk ⊢; omega)]) (fun _ => es _ _ _ _)) (fun _ => rfl) (fun _ => rfl)
    rw [show 60 * (i / 60) + i % 60 = i by omega] at x
    exact x
  | 4 => exact cc14 (by rw [hf 8 (by decide)]) rfl rfl
  | 5 => exact cc15 rfl
  | 6 => exact cc16 (evc i)
  | 7 => exact cc17 (og_cg i (fun w _ => evc w))
  | d + 8 => exact absurd hk2 (by omega)
/-- the roles one by one -/
theorem liv_all {P : Nat → Nat → Prop} (h0 : ∀ k, k ≤ 9 → P k 0) (h10 : ∀ s, s < nS M → P 10 s ∧ P 11 s ∧ P 12 s) (h13 : ∀ s j, s < nS M → j < nm M s → P 13 (60 * s + j)) (h14 : ∀ v, v < nV M → P 14 v ∧ P 15 v ∧ P 16 v ∧ P 17 v) (h18 : ∀ r, r < nR M → P 18 r) : ∀ k i, liv M k i → P k i := by
  intro k i h
  rcases h with ⟨h1, rfl⟩ | ⟨h1, h2, h3⟩ | ⟨rfl, s, j, h1, h2, rfl⟩ | ⟨h1, h2, h3⟩ | ⟨rfl, h1⟩
  · exact h0 k h1
  · obtain ⟨x, y, z⟩ := h10 i h3
    rcases (show k = 10 ∨ k = 11 ∨ k = 12 by omega) with rfl | rfl | rfl
    · exact x
    · exact y
    · exact z
  · exact h13 s j h1 h2
  · obtain ⟨x, y, z, w⟩ := h14 i h3
    rcases (show k = 14 ∨ k = 15 ∨ k = 16 ∨ k = 17 by omega) with rfl | rfl | rfl | rfl
    · exact x
    · exact y
    · exact z
    · exact w
  · exact h18 i h1
theorem le9 {P : Nat → Prop} (h0 : P 0) (h1 : P 1) (h2 : P 2) (h3 : P 3) (h4 : P 4) (h5 : P 5) (h6 : P 6) (h7 : P 7) (h8 : P 8) (h9 : P 9) : ∀ k, k ≤ 9 → P k
  | 0, _ => h0
  | 1, _ => h1
  | 2, _ => h2
  | 3, _ => h3
  | 4, _ => h4
  | 5, _ => h5
  | 6, _ => h6
  | 7, _ => h7
  | 8, _ => h8
  | 9, _ => h9
  | n + 10, h => absurd h (by omega)
end CG
