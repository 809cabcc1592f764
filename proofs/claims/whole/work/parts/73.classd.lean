/-! THE CLASS: joining; the cells of the joined state -/
def fn (K : Nat → Nat → Int32) : Nat → Int32 := fun j => if j < 360 then K (j / 6) (j % 6) else 0
def fc1c (K : Nat → Nat → Int32) (t g : Nat) (v : Int32) : Nat → Nat → Int32 := fun t' g' => if t' = t ∧ g' = g then v else K t' g'
def frow (K : Nat → Nat → Int32) (t : Nat) (w : Nat → Int32) : Nat → Nat → Int32 := fun t' g' => if t' = t then w g' else K t' g'
theorem fn_cg {K K' : Nat → Nat → Int32} (h : ∀ t g, t < 60 → g < 6 → K t g = K' t g) : fn K = fn K' := funext fun j => by
  unfold fn
  by_cases h3 : j < 360
  · rw [if_pos h3, if_pos h3, h _ _ (by omega) (by omega)]
  · rw [if_neg h3, if_neg h3]
theorem fn_put {K : Nat → Nat → Int32} {t g : Nat} {ff v : Int32} (ht : t < 60) (hg : g < 6) (hf : ff - (-1) = nI g) (hok : s_ok (nI t) ff) : s_put (fn K) (nI t) ff v = fn (fc1c K t g v) := by
  rw [put_at ht hg hf hok]
  funext j
  by_cases h : j = t * 6 + g
  · rw [h, pk_us, fn, if_pos (by omega), fc1c, if_pos ⟨by omega, by omega⟩]
  · rw [pk_un h, fn, fn]
    by_cases h3 : j < 360
    · rw [if_pos h3, if_pos h3, fc1c, if_neg (fun z => h (by omega))]
    · rw [if_neg h3, if_neg h3]
theorem fn_f {K : Nat → Nat → Int32} {t f : Nat} {v : Int32} (ht : t < 60) (hf : f < 5) : s_put (fn K) (nI t) (nI f) v = fn (fc1c K t (f + 1) v) := fn_put ht (by omega) (fp_m1 f) (s_ok_of ht hf)
theorem fn_w {K : Nat → Nat → Int32} {t : Nat} {v : Int32} (ht : t < 60) : s_put (fn K) (nI t) (-1) v = fn (fc1c K t 0 v) := fn_put ht (by omega) (by decide) (s_ok_w ht)
theorem fn_c6 {K : Nat → Nat → Int32} {t : Nat} {w : Int32 → Int32} (ht : t < 60) : s_c6 (fn K) (nI t) w = fn (frow K t (fun g => if g = 0 then w (-1) else w (nI (g - 1)))) := by
  show s_put (s_put (s_put (s_put (s_put (s_put (fn K) (nI t) (-1) (w (-1))) (nI t) (nI 0) (w (nI 0))) (nI t) (nI 1) (w (nI 1))) (nI t) (nI 2) (w (nI 2))) (nI t) (nI 3) (w (nI 3))) (nI t) (nI 4) (w (nI 4)) = _
  rw [fn_w ht, fn_f (f := 0) ht (by omega), fn_f (f := 1) ht (by omega), fn_f (f := 2) ht (by omega), fn_f (f := 3) ht (by omega), fn_f (f := 4) ht (by omega)]
  refine fn_cg fun t' g _ hg => ?_
  by_cases h : t' = t
  · subst h
    rcases (show g = 0 ∨ g = 1 ∨ g = 2 ∨ g = 3 ∨ g = 4 ∨ g = 5 by omega) with rfl | rfl | rfl | rfl | rfl | rfl <;> simp [fc1c, frow]
  · unfold frow fc1c
    simp [h]
/-- a thing's row in a state: nothing where it isn't there -/
noncomputable def rwo (G : Nat → Int32) (t g : Nat) : Int32 := @ite _ (s_has G (nI t)) (Classical.propDecidable _) (if g = 0 then s_val G (nI t) (-1) else s_val G (nI t) (nI (g - 1))) 0
theorem fn_cpy {K : Nat → Nat → Int32} {G : Nat → Int32} {t : Nat} (ht : t < 60) : s_cpy (fn K) G (nI t) = fn (frow K t (rwo G t)) := by
  unfold s_cpy
  by_cases h : s_has G (nI t)
  · rw [if_pos h, fn_c6 ht]
    refine fn_cg fun t' g _ _ => ?_
    unfold frow rwo
    rw [if_pos h]
  · rw [if_neg h, fn_c6 ht]
    refine fn_cg fun t' g _ _ => ?_
    unfold frow rwo
    rw [if_neg h]
    simp
/-- a thing's row as it is joined -/
noncomputable def jf (FB FM FT : Nat → Int32) (t f : Nat) : Int32 := @ite _ (s_val FT (nI t) (nI f) = s_val FB (nI t) (nI f)) (Classical.propDecidable _) (s_val FM (nI t) (nI f)) (s_val FT (nI t) (nI f))
noncomputable def jr (FB FM FT : Nat → Int32) (t g : Nat) : Int32 := @ite _ (s_has FM (nI t) ∧ s_has FT (nI t)) (Classical.propDecidable _) (if g = 0 then 1 else jf FB FM FT t (g - 1)) (@ite _ (s_has FT (nI t) ↔ s_has FB (nI t)) (Classical.propDecidable _) (rwo FM t g) (rwo FT t g))
/-- which state a settled conflict takes -/
def chs (M : Mem) (FM FT : Nat → Int32) (k : Nat) : Nat → Int32 := if M 30 k = 1 then FT else FM
noncomputable def ja (M : Mem) (FB FM FT : Nat → Int32) : Nat → Nat → Nat → Int32
  | 0, t, g => if t < nT M then jr FB FM FT t g else 0
  | k + 1, t, g => if M 28 k = nI t ∧ M 29 k = -1 then rwo (chs M FM FT k) t g else if M 28 k = nI t ∧ ¬ g = 0 ∧ M 29 k = nI (g - 1) then s_val (chs M FM FT k) (nI t) (nI (g - 1)) else ja M FB FM FT k t g
theorem nI_m1 {n : Nat} (h : n < 2 ^ 31) : ¬ nI n = -1 := fun z => nI_pos h (by rw [z]; decide)
theorem ja_w {M : Mem} {FB FM FT : Nat → Int32} {k t : Nat} (h28 : M 28 k = nI t) (h29 : M 29 k = -1) (ht : t < 60) {t' g : Nat} (ht' : t' < 60) : frow (ja M FB FM FT k) t (rwo (chs M FM FT k) t) t' g = ja M FB FM FT (k + 1) t' g := by
  unfold frow
  rw [ja]
  by_cases h : t' = t
  · subst h
    rw [if_pos rfl, if_pos ⟨h28, h29⟩]
  · have e : ¬ M 28 k = nI t' := fun z => h ((nI_eq (by omega) (by omega)).mp (z.symm.trans h28))
    rw [if_neg h, if_neg (fun z => e z.1), if_neg (fun z => e z.1)]
theorem ja_f {M : Mem} {FB FM FT : Nat → Int32} {k t f : Nat} (h28 : M 28 k = nI t) (h29 : M 29 k = nI f) (ht : t < 60) (hf : f < 5) {t' g : Nat} (ht' : t' < 60) (hg : g < 6) : fc1c (ja M FB FM FT k) t (f + 1) (s_val (chs M FM FT k) (nI t) (nI f)) t' g = ja M FB FM FT (k + 1) t' g := by
  have h1 : ¬ M 29 k = -1 := fun z => nI_m1 (n := f) (by omega) (h29.symm.trans z)
  unfold fc1c
  rw [ja, if_neg (fun z : M 28 k = nI t' ∧ M 29 k = -1 => h1 z.2)]
  by_cases h : t' = t ∧ g = f + 1
  · rw [if_pos h, if_pos ⟨by rw [h.1]; exact h28, by omega, by rw [h.2]; exact h29⟩, h.1, h.2]
    rfl
  · rw [if_neg h, if_neg (fun z => h ⟨((nI_eq (by omega) (by omega)).mp (h28.symm.trans z.1)).symm, by have := (nI_eq (by omega) (by omega)).mp (h29.symm.trans z.2.2); omega⟩)]
/-! the same in the reference's memory -/
theorem wr_o {K : Mem} {i : Nat} {x y : Nat → Int32} {j : Nat} (h6 : ¬ j = 6) (h7 : ¬ j = 7) : ∀ f, m_wr K i x y f j = K j
  | 0 => rfl
  | f + 1 => by rw [m_wr, mset_n h7, mset_n h6, wr_o h6 h7 f]
theorem wr_6 {K : Mem} {i i' : Nat} {x y : Nat → Int32} {g : Nat} (hg : g < 5) : ∀ f, f ≤ 5 → m_wr K i x y f 6 (5 * i' + g) = if i' = i ∧ g < f then x g else K 6 (5 * i' + g)
  | 0, _ => by rw [m_wr, if_neg (by omega)]
  | f + 1, h => by
    rw [m_wr, mset_n (by decide), mset_s]
    by_cases e : 5 * i' + g = 5 * i + f
    · have e2 : g = f := by omega
      rw [e, pk_us, if_pos ⟨by omega, by omega⟩, e2]
    · rw [pk_un e, wr_6 hg f (by omega)]
      by_cases e3 : i' = i ∧ g < f
      · rw [if_pos e3, if_pos ⟨e3.1, by omega⟩]
      · rw [if_neg e3, if_neg (fun z => e3 ⟨z.1, by omega⟩)]
theorem wr_7 {K : Mem} {i i' : Nat} {x y : Nat → Int32} {g : Nat} (hg : g < 5) : ∀ f, f ≤ 5 → m_wr K i x y f 7 (5 * i' + g) = if i' = i ∧ g < f then y g else K 7 (5 * i' + g)
  | 0, _ => by rw [m_wr, if_neg (by omega)]
  | f + 1, h => by
    rw [m_wr, mset_s, mset_n (by decide)]
    by_cases e : 5 * i' + g = 5 * i + f
    · have e2 : g = f := by omega
      rw [e, pk_us, if_pos ⟨by omega, by omega⟩, e2]
    · rw [pk_un e, wr_7 hg f (by omega)]
      by_cases e3 : i' = i ∧ g < f
      · rw [if_pos e3, if_pos ⟨e3.1, by omega⟩]
      · rw [if_neg e3, if_neg (fun z => e3 ⟨z.1, by omega⟩)]
/-- there in both -/
def j_bo (N : Mem) (s t : Nat) : Prop := ¬ h_m N t = 0 ∧ ¬ h_t N s t = 0
noncomputable def p_5 (N : Mem) (s t : Nat) : Int32 := @ite _ (j_bo N s t ∨ j_st N s t) (Classical.propDecidable _) 1 0
noncomputable def p_6 (N : Mem) (s t f : Nat) : Int32 := @ite _ (j_bo N s t) (Classical.propDecidable _) (j_x N s t f) (@ite _ (j_st N s t) (Classical.propDecidable _) (tk_x N s t (j_wt N s t) f) (N 6 (5 * (60 * nV N + t) + f)))
noncomputable def p_7 (N : Mem) (s t f : Nat) : Int32 := @ite _ (j_bo N s t) (Classical.propDecidable _) (j_y N s t f) (@ite _ (j_st N s t) (Classical.propDecidable _) (tk_y N t (j_wt N s t) f) (N 7 (5 * (60 * nV N + t) + f)))
theorem m_merge_eq {N K : Mem} {s t : Nat} : m_merge N s t K = @ite _ (j_bo N s t) (Classical.propDecidable _) (m_wr (mset (mset K 5 (60 * nV N + t) 0) 5 (60 * nV N + t) 1) (60 * nV N + t) (j_x N s t) (j_y N s t) 5) (@ite _ (j_st N s t) (Classical.propDecidable _) (m_take N s t (j_wt N s t) (mset K 5 (60 * nV N + t) 0)) (mset K 5 (60 * nV N + t) 0)) := rfl
section MGE
variable {N K : Mem} {s t t' f : Nat}
theorem mge_5 : m_merge N s t K 5 (60 * nV N + t') = if t' = t then p_5 N s t else K 5 (60 * nV N + t') := by
  rw [m_merge_eq]
  unfold m_take p_5
  by_cases e : t' = t
  · subst e
    rw [if_pos rfl]
    by_cases hb : j_bo N s t'
    · rw [if_pos hb, if_pos (Or.inl hb), wr_o (by decide) (by decide), mset_s, pk_us]
    · rw [if_neg hb]
      by_cases hj : j_st N s t'
      · rw [if_pos hj, if_pos (Or.inr hj), wr_o (by decide) (by decide), mset_s, pk_us]
      · rw [if_neg hj, if_neg (fun z => z.elim hb hj), mset_s, pk_us]
  · have ne : 60 * nV N + t' ≠ 60 * nV N + t := by omega
    rw [if_neg e]
    by_cases hb : j_bo N s t
    · rw [if_pos hb, wr_o (by decide) (by decide), mset_s, pk_un ne, mset_s, pk_un ne]
    · rw [if_neg hb]
      by_cases hj : j_st N s t
      · rw [if_pos hj, wr_o (by decide) (by decide), mset_s, pk_un ne, mset_s, pk_un ne]
      · rw [if_neg hj, mset_s, pk_un ne]
theorem mge_6 (hf : f < 5) (hK : K 6 (5 * (60 * nV N + t') + f) = N 6 (5 * (60 * nV N + t') + f)) : m_merge N s t K 6 (5 * (60 * nV N + t') + f) = if t' = t then p_6 N s t f else N 6 (5 * (60 * nV N + t') + f) := by
  rw [m_merge_eq]
  unfold m_take p_6
  by_cases e : t' = t
  · subst e
    rw [if_pos rfl]
    by_cases hb : j_bo N s t'
    · rw [if_pos hb, if_pos hb, wr_6 hf 5 (by omega), if_pos ⟨rfl, hf⟩]
    · rw [if_neg hb, if_neg hb]
      by_cases hj : j_st N s t'
      · rw [if_pos hj, if_pos hj, wr_6 hf 5 (by omega), if_pos ⟨rfl, hf⟩]
      · rw [if_neg hj, if_neg hj, mset_n (by decide), hK]
  · have ne : ¬ (60 * nV N + t' = 60 * nV N + t ∧ f < 5) := fun z => by omega
    rw [if_neg e]
    by_cases hb : j_bo N s t
    · rw [if_pos hb, wr_6 hf 5 (by omega), if_neg ne, mset_n (by decide), mset_n (by decide), hK]
    · rw [if_neg hb]
      by_cases hj : j_st N s t
      · rw [if_pos hj, wr_6 hf 5 (by omega), if_neg ne, mset_n (by decide), mset_n (by decide), hK]
      · rw [if_neg hj, mset_n (by decide), hK]
theorem mge_7 (hf : f < 5) (hK : K 7 (5 * (60 * nV N + t') + f) = N 7 (5 * (60 * nV N + t') + f)) : m_merge N s t K 7 (5 * (60 * nV N + t') + f) = if t' = t then p_7 N s t f else N 7 (5 * (60 * nV N + t') + f) := by
  rw [m_merge_eq]
  unfold m_take p_7
  by_cases e : t' = t
  · subst e
    rw [if_pos rfl]
    by_cases hb : j_bo N s t'
    · rw [if_pos hb, if_pos hb, wr_7 hf 5 (by omega), if_pos ⟨rfl, hf⟩]
    · rw [if_neg hb, if_neg hb]
      by_cases hj : j_st N s t'
      · rw [if_pos hj, if_pos hj, wr_7 hf 5 (by omega), if_pos ⟨rfl, hf⟩]
      · rw [if_neg hj, if_neg hj, mset_n (by decide), hK]
  · have ne : ¬ (60 * nV N + t' = 60 * nV N + t ∧ f < 5) := fun z => by omega
    rw [if_neg e]
    by_cases hb : j_bo N s t
    · rw [if_pos hb, wr_7 hf 5 (by omega), if_neg ne, mset_n (by decide), mset_n (by decide), hK]
    · rw [if_neg hb]
      by_cases hj : j_st N s t
      · rw [if_pos hj, wr_7 hf 5 (by omega), if_neg ne, mset_n (by decide), mset_n (by decide), hK]
      · rw [if_neg hj, mset_n (by decide), hK]
theorem mge_o {j : Nat} (h5 : ¬ j = 5) (h6 : ¬ j = 6) (h7 : ¬ j = 7) : m_merge N s t K j = K j := by
  unfold m_merge m_take
  split
  · rw [wr_o h6 h7, mset_n h5, mset_n h5]
  · split
    · rw [wr_o h6 h7, mset_n h5, mset_n h5]
    · rw [mset_n h5]
end MGE
theorem clr_o {N : Mem} {j : Nat} (h5 : ¬ j = 5) : ∀ n, m_clr N n j = N j
  | 0 => rfl
  | n + 1 => by rw [m_clr, mset_n h5, clr_o h5 n]
theorem clr_5 {N : Mem} {t : Nat} : ∀ n, t < n → m_clr N n 5 (60 * nV N + t) = 0
  | 0, h => absurd h (by omega)
  | n + 1, h => by
    rw [m_clr, mset_s]
    by_cases e : t = n
    · rw [e, pk_us]
    · rw [pk_un (by omega), clr_5 n (by omega)]
section MGG
variable {N : Mem} {s t f : Nat}
theorem mg_o {j : Nat} (h5 : ¬ j = 5) (h6 : ¬ j = 6) (h7 : ¬ j = 7) : ∀ n, m_mg N s n j = N j
  | 0 => clr_o h5 60
  | n + 1 => by rw [m_mg, mge_o h5 h6 h7, mg_o h5 h6 h7 n]
theorem mg_5 (ht : t < 60) : ∀ n, m_mg N s n 5 (60 * nV N + t) = if t < n then p_5 N s t else 0
  | 0 => by rw [m_mg, clr_5 60 ht, if_neg (by omega)]
  | n + 1 => by
    rw [m_mg, mge_5]
    by_cases e : t = n
    · subst e; rw [if_pos rfl, if_pos (by omega)]
    · rw [if_neg e, mg_5 ht n]
      by_cases h : t < n
      · rw [if_pos h, if_pos (by omega)]
      · rw [if_neg h, if_neg (by omega)]
theorem mg_6 (hf : f < 5) : ∀ n, m_mg N s n 6 (5 * (60 * nV N + t) + f) = if t < n then p_6 N s t f else N 6 (5 * (60 * nV N + t) + f)
  | 0 => by rw [m_mg, clr_o (by decide), if_neg (by omega)]
  | n + 1 => by
    by_cases e : t = n
    · rw [m_mg, mge_6 hf (by rw [mg_6 hf n, if_neg (by omega)]), if_pos e, if_pos (by omega), e]
    · by_cases h : t < n
      · have x := mg_6 hf n
        rw [if_pos h] at x
        rw [if_pos (by omega), m_mg]
        unfold m_merge m_take
        have ne : ¬ (60 * nV N + t = 60 * nV N + n ∧ f < 5) := fun z => by omega
        split
        · rw [wr_6 hf 5 (by omega), if_neg ne, mset_n (by decide), mset_n (by decide), x]
        · split
          · rw [wr_6 hf 5 (by omega), if_neg ne, mset_n (by decide), mset_n (by decide), x]
          · rw [mset_n (by decide), x]
      · rw [m_mg, mge_6 hf (by rw [mg_6 hf n, if_neg h]), if_neg e, if_neg (by omega)]
theorem mg_7 (hf : f < 5) : ∀ n, m_mg N s n 7 (5 * (60 * nV N + t) + f) = if t < n then p_7 N s t f else N 7 (5 * (60 * nV N + t) + f)
  | 0 => by rw [m_mg, clr_o (by decide), if_neg (by omega)]
  | n + 1 => by
    by_cases e : t = n
    · rw [m_mg, mge_7 hf (by rw [mg_7 hf n, if_neg (by omega)]), if_pos e, if_pos (by omega), e]
    · by_cases h : t < n
      · have x := mg_7 hf n
        rw [if_pos h] at x
        rw [if_pos (by omega), m_mg]
        unfold m_merge m_take
        have ne : ¬ (60 * nV N + t = 60 * nV N + n ∧ f < 5) := fun z => by omega
        split
        · rw [wr_7 hf 5 (by omega), if_neg ne, mset_n (by decide), mset_n (by decide), x]
        · split
          · rw [wr_7 hf 5 (by omega), if_neg ne, mset_n (by decide), mset_n (by decide), x]
          · rw [mset_n (by decide), x]
      · rw [m_mg, mge_7 hf (by rw [mg_7 hf n, if_neg h]), if_neg e, if_neg (by omega)]
theorem clr_z {i : Nat} (hi : 60 * nV N + 60 ≤ i) : ∀ n, n ≤ 60 → m_clr N n 5 i = N 5 i
  | 0, _ => rfl
  | n + 1, h => by rw [m_clr, mset_s, pk_un (by omega), clr_z hi n (by omega)]
theorem mg_z5 {i : Nat} (hi : 60 * nV N + 60 ≤ i) : ∀ n, n ≤ 60 → m_mg N s n 5 i = N 5 i
  | 0, _ => clr_z hi 60 (by omega)
  | n + 1, h => by
    rw [m_mg]
    unfold m_merge m_take
    split
    · rw [wr_o (by decide) (by decide), mset_s, pk_un (by omega), mset_s, pk_un (by omega), mg_z5 hi n (by omega)]
    · split
      · rw [wr_o (by decide) (by decide), mset_s, pk_un (by omega), mset_s, pk_un (by omega), mg_z5 hi n (by omega)]
      · rw [mset_s, pk_un (by omega), mg_z5 hi n (by omega)]
theorem mg_z6 {i g : Nat} (hi : 60 * nV N + 60 ≤ i) (hg : g < 5) : ∀ n, n ≤ 60 → m_mg N s n 6 (5 * i + g) = N 6 (5 * i + g)
  | 0, _ => by rw [m_mg, clr_o (by decide)]
  | n + 1, h => by
    rw [m_mg]
    unfold m_merge m_take
    have ne : ¬ (i = 60 * nV N + n ∧ g < 5) := fun z => by omega
    split
    · rw [wr_6 hg 5 (by omega), if_neg ne, mset_n (by decide), mset_n (by decide), mg_z6 hi hg n (by omega)]
    · split
      · rw [wr_6 hg 5 (by omega), if_neg ne, mset_n (by decide), mset_n (by decide), mg_z6 hi hg n (by omega)]
      · rw [mset_n (by decide), mg_z6 hi hg n (by omega)]
theorem fin_o {j : Nat} (h : j ∉ [4, 5, 6, 7, 8, 14, 15, 26]) : m_fin N s j = N j := by
  simp only [List.mem_cons, List.not_mem_nil, or_false, not_or] at h
  unfold m_fin
  rw [mset_n h.2.2.2.2.2.2.2, mset_n h.1, mset_n h.2.2.2.2.2.1, mset_n h.2.2.2.2.2.2.1, mset_n h.2.2.2.2.1, mg_o h.2.1 h.2.2.1 h.2.2.2.1]
theorem fin_m {j : Nat} (h : j = 5 ∨ j = 6 ∨ j = 7) : m_fin N s j = m_mg N s (nT N) j := by
  unfold m_fin
  rw [mset_n (by omega), mset_n (by omega), mset_n (by omega), mset_n (by omega), mset_n (by omega)]
theorem fin_5 (ht : t < 60) : m_fin N s 5 (60 * nV N + t) = if t < nT N then p_5 N s t else 0 := by rw [fin_m (by omega), mg_5 ht]
theorem fin_6 (hf : f < 5) : m_fin N s 6 (5 * (60 * nV N + t) + f) = if t < nT N then p_6 N s t f else N 6 (5 * (60 * nV N + t) + f) := by rw [fin_m (by omega), mg_6 hf]
theorem fin_7 (hf : f < 5) : m_fin N s 7 (5 * (60 * nV N + t) + f) = if t < nT N then p_7 N s t f else N 7 (5 * (60 * nV N + t) + f) := by rw [fin_m (by omega), mg_7 hf]
theorem fin_agv5 {i : Nat} (hi : i < 60 * nV N) : m_fin N s 5 i = N 5 i := by rw [fin_m (by omega)]; exact (m_mg_agv (nT N)).1.2.1 i hi
theorem fin_agv6 {i : Nat} (hi : i < 300 * nV N) : m_fin N s 6 i = N 6 i := by rw [fin_m (by omega)]; exact (m_mg_agv (nT N)).1.2.2.1 i hi
theorem fin_agv7 {i : Nat} (hi : i < 300 * nV N) : m_fin N s 7 i = N 7 i := by rw [fin_m (by omega)]; exact (m_mg_agv (nT N)).1.2.2.2 i hi
theorem fin_4 : m_fin N s 4 = upd (N 4) 0 (nI (nV N + 1)) := by
  unfold m_fin
  rw [mset_n (by decide), mset_s, mset_n (by decide), mset_n (by decide), mset_n (by decide), mg_o (by decide) (by decide) (by decide)]
theorem fin_8 : m_fin N s 8 = upd (N 8) (nV N) (nI s) := by
  unfold m_fin
  rw [mset_n (by decide), mset_n (by decide), mset_n (by decide), mset_n (by decide), mset_s, mg_o (by decide) (by decide) (by decide)]
theorem fin_14 : m_fin N s 14 = upd (N 14) s 2 := by
  unfold m_fin
  rw [mset_n (by decide), mset_n (by decide), mset_s, mset_n (by decide), mset_n (by decide), mg_o (by decide) (by decide) (by decide)]
theorem fin_15 : m_fin N s 15 = upd (N 15) s (nI (nV N)) := by
  unfold m_fin
  rw [mset_n (by decide), mset_n (by decide), mset_n (by decide), mset_s, mset_n (by decide), mg_o (by decide) (by decide) (by decide)]
theorem fin_26 : m_fin N s 26 = upd (N 26) 0 (-1) := by
  unfold m_fin
  rw [mset_s, mset_n (by decide), mset_n (by decide), mset_n (by decide), mset_n (by decide), mg_o (by decide) (by decide) (by decide)]
theorem fin_V (h : nV N < 40) : nV (m_fin N s) = nV N + 1 := by
  rw [nV, fin_4, pk_us, nI_clamp (by omega)]
end MGG
/-! the joined cells are the reference's new version -/
/-- the conflicts fit the joining -/
def I_fit (N : Mem) (s : Nat) : Prop := ∀ k, k < nC N → ∀ t, t < 60 → N 28 k = nI t → (N 29 k = -1 → ¬ h_b N s t = 0 ∧ ¬ h_m N t = h_t N s t) ∧ (¬ N 29 k = -1 → ¬ h_m N t = 0 ∧ ¬ h_t N s t = 0)
def I_all (N : Mem) : Prop := ∀ k, k < nC N → ¬ N 30 k < 0
noncomputable def jc (N : Mem) (s : Nat) : Nat → Nat → Nat → Int32 := ja N (vc N (bs N s)) (vc N (nV N - 1)) (sc N s)
section JCF
variable {N : Mem} {s t : Nat}
theorem x_b {f : Nat} (ht : t < 60) (hf : f < 5) : s_val (vc N (bs N s)) (nI t) (nI f) = x_old N s t f := vc_f ht hf
theorem x_m {f : Nat} (ht : t < 60) (hf : f < 5) : s_val (vc N (nV N - 1)) (nI t) (nI f) = x_my N t f := vc_f ht hf
theorem x_t {f : Nat} (ht : t < 60) (hf : f < 5) : s_val (sc N s) (nI t) (nI f) = x_th N s t f := sc_f ht hf
theorem chs_1 {FM FT : Nat → Int32} {k : Nat} (h : N 30 k = 1) : chs N FM FT k = FT := if_pos h
theorem chs_0 {FM FT : Nat → Int32} {k : Nat} (h : ¬ N 30 k = 1) : chs N FM FT k = FM := if_neg h
theorem csd_hit {x f : Int32} {k : Nat} (h : N 28 k = x ∧ N 29 k = f) : c_sd N x f (k + 1) = N 30 k := if_pos h
theorem csd_no {x f : Int32} {k : Nat} (h : ¬ (N 28 k = x ∧ N 29 k = f)) : c_sd N x f (k + 1) = c_sd N x f k := if_neg h
theorem jc_bo (hN : Inv0 N) (hs : s < nS N) (hfit : I_fit N s) (hall : I_all N) (ht : t < nT N) (hb : j_bo N s t) : ∀ k, k ≤ nC N → jc N s k t 0 = 1 ∧ ∀ f, f < 5 → jc N s k t (f + 1) = @ite _ ((c_sd N (nI t) (nI f) k < 0 ∧ ¬ x_th N s t f = x_old N s t f) ∨ (¬ c_sd N (nI t) (nI f) k < 0 ∧ c_sd N (nI t) (nI f) k = 1)) (Classical.propDecidable _) (x_th N s t f) (x_my N t f) := by
  have hT := hN.1.1.2
  intro k
  induction k with
  | zero =>
    intro _
    have e : s_has (vc N (nV N - 1)) (nI t) ∧ s_has (sc N s) (nI t) := ⟨(hs_m hN ht).mpr hb.1, (hs_t hN hs ht).mpr hb.2⟩
    refine ⟨?_, fun f hf => ?_⟩
    · rw [jc, ja, if_pos ht, jr, if_pos e, if_pos rfl]
    · rw [jc, ja, if_pos ht, jr, if_pos e, if_neg (by omega), Nat.add_sub_cancel, jf, x_b (by omega) hf, x_m (by omega) hf, x_t (by omega) hf]
      have c0 : c_sd N (nI t) (nI f) 0 = -1 := rfl
      rw [c0]
      by_cases h : x_th N s t f = x_old N s t f
      · rw [if_pos h, if_neg (fun z => z.elim (fun y => y.2 h) (fun y => y.1 (by decide)))]
      · rw [if_neg h, if_pos (Or.inl ⟨by decide, h⟩)]
  | succ k ih =>
    intro hk
    obtain ⟨i1, i2⟩ := ih (by omega)
    by_cases h28 : N 28 k = nI t
    · have h29 : ¬ N 29 k = -1 := fun z => by
        have y := ((hfit k (by omega) t (by omega) h28).1 z).2
        rcases h_m01 hN ht with a | a <;> rcases h_t01 hN hs ht with b | b
        · exact hb.1 a
        · exact hb.1 a
        · exact hb.2 b
        · exact y (a.trans b.symm)
      refine ⟨?_, fun f hf => ?_⟩
      · rw [jc, ja, if_neg (fun z => h29 z.2), if_neg (fun z => z.2.1 rfl)]; exact i1
      · rw [jc, ja, if_neg (fun z => h29 z.2)]
        by_cases h : N 29 k = nI f
        · have ng := hall k (by omega)
          rw [if_pos ⟨h28, by omega, by rw [Nat.add_sub_cancel]; exact h⟩, Nat.add_sub_cancel, csd_hit ⟨h28, h⟩]
          by_cases h1 : N 30 k = 1
          · rw [chs_1 h1, x_t (by omega) hf, if_pos (Or.inr ⟨ng, h1⟩)]
          · rw [chs_0 h1, x_m (by omega) hf, if_neg (fun z => z.elim (fun y => ng y.1) (fun y => h1 y.2))]
        · rw [if_neg (fun z => h (by have y := z.2.2; rw [Nat.add_sub_cancel] at y; exact y)), csd_no (fun z => h z.2)]
          exact i2 f hf
    · refine ⟨?_, fun f hf => ?_⟩
      · rw [jc, ja, if_neg (fun z => h28 z.1), if_neg (fun z => h28 z.1)]; exact i1
      · rw [jc, ja, if_neg (fun z => h28 z.1), if_neg (fun z => h28 z.1), csd_no (fun z => h28 z.1)]
        exact i2 f hf
theorem jc_no (hN : Inv0 N) (hfit : I_fit N s) (hall : I_all N) (ht : t < nT N) (hb : ¬ j_bo N s t) {g : Nat} : ∀ k, k ≤ nC N → (c_sd N (nI t) (-1) k < 0 ∧ jc N s k t g = jr (vc N (bs N s)) (vc N (nV N - 1)) (sc N s) t g) ∨ (¬ c_sd N (nI t) (-1) k < 0 ∧ ¬ h_b N s t = 0 ∧ jc N s k t g = if c_sd N (nI t) (-1) k = 1 then rwo (sc N s) t g else rwo (vc N (nV N - 1)) t g) := by
  have hT := hN.1.1.2
  intro k
  induction k with
  | zero =>
    intro _
    exact Or.inl ⟨show (-1 : Int32) < 0 by decide, by rw [jc, ja, if_pos ht]⟩
  | succ k ih =>
    intro hk
    have ih := ih (by omega)
    by_cases h28 : N 28 k = nI t
    · have y := hfit k (by omega) t (by omega) h28
      have h29 : N 29 k = -1 := Classical.byContradiction fun z => hb (y.2 z)
      rw [csd_hit ⟨h28, h29⟩]
      refine Or.inr ⟨hall k (by omega), (y.1 h29).1, ?_⟩
      rw [jc, ja, if_pos ⟨h28, h29⟩]
      by_cases h1 : N 30 k = 1
      · rw [chs_1 h1, if_pos h1]
      · rw [chs_0 h1, if_neg h1]
    · rw [csd_no (fun z => h28 z.1), jc, ja, if_neg (fun z => h28 z.1), if_neg (fun z => h28 z.1)]
      exact ih
theorem rwo_m (hN : Inv0 N) (ht : t < nT N) {g : Nat} (hg : g < 6) : rwo (vc N (nV N - 1)) t g = if h_m N t = 0 then 0 else if g = 0 then 1 else x_my N t (g - 1) := by
  have hT := hN.1.1.2
  unfold rwo
  by_cases h : h_m N t = 0
  · rw [if_neg (fun z => (hs_m hN ht).mp z h), if_pos h]
  · have y := (hs_m hN ht).mpr h
    rw [if_pos y, if_neg h]
    by_cases h0 : g = 0
    · rw [if_pos h0, if_pos h0]; exact y
    · rw [if_neg h0, if_neg h0, x_m (by omega) (by omega)]
theorem rwo_t (hN : Inv0 N) (hs : s < nS N) (ht : t < nT N) {g : Nat} (hg : g < 6) : rwo (sc N s) t g = if h_t N s t = 0 then 0 else if g = 0 then 1 else x_th N s t (g - 1) := by
  have hT := hN.1.1.2
  unfold rwo
  by_cases h : h_t N s t = 0
  · rw [if_neg (fun z => (hs_t hN hs ht).mp z h), if_pos h]
  · have y := (hs_t hN hs ht).mpr h
    rw [if_pos y, if_neg h]
    by_cases h0 : g = 0
    · rw [if_pos h0, if_pos h0]; exact y
    · rw [if_neg h0, if_neg h0, x_t (by omega) (by omega)]
/-- whole: the row by whom it is taken from -/
theorem jc_nb (hN : Inv0 N) (hs : s < nS N) (hfit : I_fit N s) (hall : I_all N) (ht : t < nT N) (hb : ¬ j_bo N s t) {g : Nat} (hg : g < 6) : jc N s (nC N) t g = @ite _ (j_st N s t) (Classical.propDecidable _) (if g = 0 then 1 else tk_x N s t (j_wt N s t) (g - 1)) 0 := by
  have hm := rwo_m hN ht hg
  have hq := rwo_t hN hs ht hg
  rcases jc_no (g := g) hN hfit hall ht hb (nC N) (Nat.le_refl _) with ⟨hw, e⟩ | ⟨hw, hbb, e⟩
  · rw [e, jr, if_neg (fun z => hb ⟨(hs_m hN ht).mp z.1, (hs_t hN hs ht).mp z.2⟩)]
    have iff1 : (s_has (sc N s) (nI t) ↔ s_has (vc N (bs N s)) (nI t)) ↔ (h_t N s t = 0 ↔ h_b N s t = 0) := by
      rw [hs_t hN hs ht, hs_b hN hs ht]
      exact ⟨fun z => ⟨fun a => Classical.byContradiction fun b => z.mpr b a, fun a => Classical.byContradiction fun b => z.mp b a⟩, fun z => ⟨fun a b => a (z.mpr b), fun a b => a (z.mp b)⟩⟩
    have hw' : w_sd N t < 0 := hw
    have nw1 : ¬ w_sd N t = 1 := fun z => by rw [z] at hw'; exact absurd hw' (by decide)
    by_cases hb0 : h_b N s t = 0
    · by_cases ht0 : h_t N s t = 0
      · have nwt : ¬ j_wt N s t := fun z => z.elim (fun y => y.1 hb0) (fun y => y.2 ht0)
        rw [if_pos (iff1.mpr ⟨fun _ => hb0, fun _ => ht0⟩), hm]
        by_cases hm0 : h_m N t = 0
        · rw [if_pos hm0, if_neg (fun z => z.2.elim (fun y => nwt y.1) (fun y => y.2 hm0))]
        · rw [if_neg hm0, if_pos (show j_st N s t from ⟨Or.inl hb0, Or.inr ⟨nwt, hm0⟩⟩), tk_x, if_neg nwt]
      · have wt : j_wt N s t := Or.inr ⟨hb0, ht0⟩
        rw [if_neg (fun z => ht0 ((iff1.mp z).mpr hb0)), hq, if_neg ht0, if_pos (show j_st N s t from ⟨Or.inl hb0, Or.inl ⟨wt, ht0⟩⟩), tk_x, if_pos wt]
    · have nst : ¬ j_st N s t := fun z => z.1.elim hb0 (fun y => y hw')
      rw [if_neg nst]
      by_cases ht0 : h_t N s t = 0
      · rw [if_neg (fun z => hb0 ((iff1.mp z).mp ht0)), hq, if_pos ht0]
      · have hm0 : h_m N t = 0 := Classical.byContradiction fun z => hb ⟨z, ht0⟩
        rw [if_pos (iff1.mpr ⟨fun z => absurd z ht0, fun z => absurd z hb0⟩), hm, if_pos hm0]
  · rw [e]
    have hw' : ¬ w_sd N t < 0 := hw
    by_cases h1 : w_sd N t = 1
    · have wt : j_wt N s t := Or.inl ⟨hbb, h1⟩
      rw [if_pos (show c_sd N (nI t) (-1) (nC N) = 1 from h1), hq]
      by_cases ht0 : h_t N s t = 0
      · rw [if_pos ht0, if_neg (fun z => z.2.elim (fun y => y.2 ht0) (fun y => y.1 wt))]
      · rw [if_neg ht0, if_pos (show j_st N s t from ⟨Or.inr hw', Or.inl ⟨wt, ht0⟩⟩), tk_x, if_pos wt]
    · have nwt : ¬ j_wt N s t := fun z => z.elim (fun y => h1 y.2) (fun y => hbb y.1)
      rw [if_neg (show ¬ c_sd N (nI t) (-1) (nC N) = 1 from h1), hm]
      by_cases hm0 : h_m N t = 0
      · rw [if_pos hm0, if_neg (fun z => z.2.elim (fun y => nwt y.1) (fun y => y.2 hm0))]
      · rw [if_neg hm0, if_pos (show j_st N s t from ⟨Or.inr hw', Or.inr ⟨nwt, hm0⟩⟩), tk_x, if_neg nwt]
theorem jc_hi (hN : Inv0 N) (ht : ¬ t < nT N) (h60 : t < 60) {g : Nat} : ∀ k, k ≤ nC N → jc N s k t g = 0 := by
  have hT := hN.1.1.2
  intro k
  induction k with
  | zero => intro _; rw [jc, ja, if_neg ht]
  | succ k ih =>
    intro hk
    obtain ⟨⟨t0, ht0, e⟩, -⟩ := hN.2.2.2.2.2.2.1 k (by omega)
    have h28 : ¬ N 28 k = nI t := fun z => ht (by have := (nI_eq (by omega) (by omega)).mp (e.symm.trans z); omega)
    rw [jc, ja, if_neg (fun z => h28 z.1), if_neg (fun z => h28 z.1)]
    exact ih (by omega)
theorem fin_vc (hN : Inv0 N) (hW : I_nw N) (h40 : nV N < 40) (hs : s < nS N) (hfit : I_fit N s) (hall : I_all N) : vc (m_fin N s) (nV N) = fn (jc N s (nC N)) := by
  have hT := hN.1.1.2
  have e : vc (m_fin N s) (nV N) = fn (fun t g => if g = 0 then m_fin N s 5 (60 * nV N + t) else m_fin N s 6 (5 * (60 * nV N + t) + (g - 1))) := rfl
  rw [e]
  refine fn_cg fun t g ht hg => ?_
  have hw := hW (nV N) (Nat.le_refl _) h40 t ht
  by_cases hn : t < nT N
  · by_cases hb : j_bo N s t
    · obtain ⟨j1, j2⟩ := jc_bo hN hs hfit hall hn hb (nC N) (Nat.le_refl _)
      by_cases h0 : g = 0
      · subst h0
        rw [if_pos rfl, fin_5 ht, if_pos hn, p_5, if_pos (Or.inl hb), j1]
      · obtain ⟨f, rfl⟩ : ∃ f, g = f + 1 := ⟨g - 1, by omega⟩
        rw [if_neg h0, Nat.add_sub_cancel, fin_6 (by omega), if_pos hn, p_6, if_pos hb, j2 f (by omega)]
        rfl
    · rw [jc_nb hN hs hfit hall hn hb hg]
      by_cases h0 : g = 0
      · subst h0
        rw [if_pos rfl, fin_5 ht, if_pos hn, p_5, if_pos rfl]
        by_cases hj : j_st N s t
        · rw [if_pos hj, if_pos (Or.inr hj)]
        · rw [if_neg hj, if_neg (fun z => z.elim hb hj)]
      · rw [if_neg h0, fin_6 (by omega), if_pos hn, p_6, if_neg hb, if_neg h0]
        by_cases hj : j_st N s t
        · rw [if_pos hj, if_pos hj]
        · rw [if_neg hj, if_neg hj, hw.2 _ (by omega)]
  · rw [jc_hi hN hn ht _ (Nat.le_refl _)]
    by_cases h0 : g = 0
    · rw [if_pos h0, fin_5 ht, if_neg hn]
    · rw [if_neg h0, fin_6 (by omega), if_neg hn, hw.2 _ (by omega)]
end JCF
