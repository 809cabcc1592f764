/-! THE CLASS: changes of a session, steps -/
noncomputable def sck (M : Mem) (s k : Nat) : Nat → Int32 := fun j => if j < 360 then stv M s k (j / 6) (j % 6) else 0
theorem put_at {F : Nat → Int32} {t g : Nat} {ff v : Int32} (ht : t < 60) (hg : g < 6) (hf : ff - (-1) = nI g) (hok : s_ok (nI t) ff) : s_put F (nI t) ff v = upd F (t * 6 + g) v := by
  rw [s_put_pos hok]
  have e : nI t * 6 + ff - (-1) = nI (t * 6 + g) := by
    rw [Int32.sub_eq_add_neg, Int32.add_assoc, ← Int32.sub_eq_add_neg, hf, show (6 : Int32) = nI 6 from rfl, pk_mul, nI_add]
  rw [e, nI_clamp (by omega)]
/-- what a moment needs -/
def Mk (M : Mem) (s k : Nat) : Prop := (∃ t, t < 60 ∧ M 19 (60 * s + k) = nI t) ∧ (M 18 (60 * s + k) = 0 → ∃ f, f < 5 ∧ M 20 (60 * s + k) = nI f)
section MOM
variable {M : Mem} {s k : Nat}
theorem Mk.get (h : Mk M s k) (hk : ¬ k = 0) : ∃ t, t < 60 ∧ mo_g M s k < 6 ∧ M 19 (60 * s + k) = nI t ∧ mo_t M s k = nI t ∧ mo_f M s k - (-1) = nI (mo_g M s k) ∧ s_ok (nI t) (mo_f M s k) ∧ ∀ t' g', t' < 60 → g' < 6 → (m_hit M (60 * s + k) t' g' ↔ t' = t ∧ g' = mo_g M s k) := by
  obtain ⟨⟨t, ht, e19⟩, h20⟩ := h
  refine ⟨t, ht, ?_⟩
  have et : mo_t M s k = nI t := by rw [mo_t, if_neg hk, e19]
  by_cases h18 : M 18 (60 * s + k) = 0
  · obtain ⟨f, hf, e20⟩ := h20 h18
    have eg : mo_g M s k = f + 1 := by rw [mo_g, if_pos h18, e20, nI_clamp (by omega)]
    have ef : mo_f M s k = nI f := by rw [mo_f, if_neg hk, if_pos h18, e20]
    refine ⟨by omega, e19, et, by rw [ef, eg]; exact fp_m1 f, by rw [ef]; exact s_ok_of ht hf, fun t' g' ht' hg' => ?_⟩
    unfold m_hit
    rw [e19, e20, eg]
    constructor
    · rintro ⟨h1, ⟨-, h2⟩ | ⟨h2, -, h3⟩⟩
      · exact absurd h18 h2
      · have a := (nI_eq (by omega) (by omega)).mp h1
        have b := (nI_eq (by omega) (by omega)).mp h3
        omega
    · rintro ⟨rfl, rfl⟩
      exact ⟨rfl, Or.inr ⟨by omega, h18, rfl⟩⟩
  · have eg : mo_g M s k = 0 := by rw [mo_g, if_neg h18]
    have ef : mo_f M s k = -1 := by rw [mo_f, if_neg hk, if_neg h18]
    refine ⟨by omega, e19, et, by rw [ef, eg]; decide, by rw [ef]; exact s_ok_w ht, fun t' g' ht' hg' => ?_⟩
    unfold m_hit
    rw [e19, eg]
    constructor
    · rintro ⟨h1, ⟨h2, -⟩ | ⟨-, h2, -⟩⟩
      · exact ⟨((nI_eq (by omega) (by omega)).mp h1).symm, h2⟩
      · exact absurd h2 h18
    · rintro ⟨rfl, rfl⟩
      exact ⟨rfl, Or.inl ⟨rfl, h18⟩⟩
theorem stp_fwd (hb : ∀ k, 1 ≤ k → k < nm M s → bf M (60 * s + k) < k) (hk : ¬ k = 0) (hn : k < nm M s) (h60 : k ≤ 60) (h : Mk M s k) : s_put (sck M s (bf M (60 * s + k))) (mo_t M s k) (mo_f M s k) (mo_n M s k) = sck M s k := by
  obtain ⟨t, ht, hg, e19, et, ef, hok, hit⟩ := h.get hk
  rw [et, put_at ht hg ef hok]
  funext j
  by_cases h360 : j < 360
  · by_cases hj : j = t * 6 + mo_g M s k
    · rw [hj, pk_us, sck, if_pos (by omega), show (t * 6 + mo_g M s k) / 6 = t by omega, show (t * 6 + mo_g M s k) % 6 = mo_g M s k by omega, stv_hit hk ((hit t _ ht hg).mpr ⟨rfl, rfl⟩), mo_n, if_neg hk]
    · rw [pk_un hj, sck, sck, if_pos h360, if_pos h360, stv_no (k := k) hb hk hn h60 (fun z => hj (by have := (hit _ _ (by omega) (by omega)).mp z; omega))]
  · rw [pk_un (by omega), sck, sck, if_neg h360, if_neg h360]
theorem stp_back (hb : ∀ k, 1 ≤ k → k < nm M s → bf M (60 * s + k) < k) (hk : ¬ k = 0) (hn : k < nm M s) (h60 : k ≤ 60) (h : Mk M s k) : s_put (sck M s k) (mo_t M s k) (mo_f M s k) (mo_o M s k) = sck M s (bf M (60 * s + k)) := by
  obtain ⟨t, ht, hg, e19, et, ef, hok, hit⟩ := h.get hk
  rw [et, put_at ht hg ef hok]
  funext j
  by_cases h360 : j < 360
  · by_cases hj : j = t * 6 + mo_g M s k
    · rw [hj, pk_us, sck, if_pos (by omega), show (t * 6 + mo_g M s k) / 6 = t by omega, show (t * 6 + mo_g M s k) % 6 = mo_g M s k by omega, mo_o, if_neg hk, e19, nI_clamp (by omega)]
    · rw [pk_un hj, sck, sck, if_pos h360, if_pos h360, stv_no (k := k) hb hk hn h60 (fun z => hj (by have := (hit _ _ (by omega) (by omega)).mp z; omega))]
  · rw [pk_un (by omega), sck, sck, if_neg h360, if_neg h360]
end MOM
/-- what the steps hang on -/
def J (M : Mem) : Prop := ∀ s, s < nS M → sd M s < nm M s ∧ nm M s ≤ 60 ∧ (∀ k, 1 ≤ k → k < nm M s → bf M (60 * s + k) < k ∧ Mk M s k) ∧ ∀ k, k < nm M s → ¬ M 17 (60 * s + k) < 0 → (M 17 (60 * s + k)).toNatClampNeg < nm M s
theorem J_of {M : Mem} (hI : Inv0 M) : J M := by
  intro s hs
  have hT := hI.1.1.2
  have h2 := hI.2.1 s hs
  refine ⟨h2.2.1.2, h2.2.2.1.2, fun k h1 hk => ?_, fun k hk hn => ?_⟩
  · obtain ⟨⟨-, a⟩, ⟨t, ht, b⟩, c, -⟩ := (hI.2.2.2.1 s hs).2 k h1 hk
    exact ⟨a, ⟨t, by omega, b⟩, fun _ => c⟩
  · rcases hI.2.2.2.2.1 s hs k hk with z | ⟨j, e, -, h3, -⟩
    · rw [z] at hn
      exact absurd (by decide) hn
    · have h60 := h2.2.2.1.2
      rw [e, nI_clamp (by omega)]
      exact h3
theorem sc_put (M : Mem) (s : Nat) : sc M s = sck M s (sd M s) := rfl
theorem stv_hf {M M' : Mem} (hf : ∀ j, j ∈ [5, 6, 11, 16, 18, 19, 20, 21] → M' j = M j) {s k t g : Nat} : stv M' s k t g = stv M s k t g := by
  have eb : ∀ s t g, m_base M' s t g = m_base M s t g := fun s t g => by unfold m_base bs; rw [hf 5 (by decide), hf 6 (by decide), hf 11 (by decide)]
  have ev : ∀ n k, sv M' s t g n k = sv M s t g n k := fun n => by
    induction n with
    | zero => intro k; exact eb s t g
    | succ n ih =>
      intro k
      have hh : m_hit M' (60 * s + k) t g ↔ m_hit M (60 * s + k) t g := by unfold m_hit; rw [hf 18 (by decide), hf 19 (by decide), hf 20 (by decide)]
      by_cases h0 : k = 0
      · rw [h0, sv_0, sv_0, eb]
      · by_cases h1 : m_hit M (60 * s + k) t g
        · rw [sv_hit h0 h1, sv_hit h0 (hh.mpr h1)]
          unfold m_new
          rw [hf 18 (by decide), hf 21 (by decide)]
        · rw [sv_no h0 h1, sv_no h0 (fun z => h1 (hh.mp z)), ih]
          unfold bf
          rw [hf 16 (by decide)]
  exact ev 60 k
section MU2
variable {Γ : Gam} {ad : Nat → Nat → Nat} {M : Mem} {h h1 h2 h3 h4 : Pic}
theorem cr_stand (hC : cr_at Γ ad M h) {s j : Nat} (hs : s < nS M) (hj : j < 2 ^ 31) {G : Nat → Int32} (hG : G = sck M s j) (e1 : h1 = hp_up h (ad 12 s) (.inl (Γ.2.1 0, 360, .inl G))) (e2 : h2 = hp_up h1 (ad 10 s) (.inr (3, [.int (nI s), .int (M 10 s), .ref (ad 14 (bs M s)), .ref (ad 11 s), .ref (ad 13 (60 * s + j)), .int (M 13 s), .int (M 14 s), .int (M 15 s)]))) : cr_at Γ ad (mset M 12 s (nI j)) h2 := by
  rw [e2, e1]
  have es : ∀ i k t g, stv (mset M 12 s (nI j)) i k t g = stv M i k t g := fun i k t g => stv_hf (fun x hx => hfl1 (by decide) hx)
  have evc : ∀ v, vc (mset M 12 s (nI j)) v = vc M v := fun v => by unfold vc; rw [mset_n (k := 12) (j := 5) (by decide), mset_n (k := 12) (j := 6) (by decide)]
  have eo : ∀ v, og (mset M 12 s (nI j)) v = og M v := fun v => og_cg v (fun w _ => evc w)
  refine cw_c (cw_w (cw_w hC (livS (k := 12) (by omega) (by omega) hs) rfl) (livS (k := 10) (by omega) (by omega) hs) rfl) (fun k i hl => hl) (liv_all (le9 (by rw [c_up_k (by decide), c_up_k (by decide), cc, cc]; rfl) (by rw [c_up_k (by decide), c_up_k (by decide), cc, cc]; rfl) (by rw [c_up_k (by decide), c_up_k (by decide), cc, cc]; rfl) (by rw [c_up_k (by decide), c_up_k (by decide), cc, cc]; rfl) (by rw [c_up_k (by decide), c_up_k (by decide), cc, cc]; rfl) (by rw [c_up_k (by decide), c_up_k (by decide), cc, cc]; rfl) (by rw [c_up_k (by decide), c_up_k (by decide), cc, cc]; rfl) (by rw [c_up_k (by decide), c_up_k (by decide), cc, cc]; rfl) (by rw [c_up_k (by decide), c_up_k (by decide), cc, cc]; rfl) (by rw [c_up_k (by decide), c_up_k (by decide), cc, cc]; rfl)) ?_ ?_ ?_ ?_)
  · intro i hi
    by_cases his : i = s
    · subst his
      have e12 : mset M 12 i (nI j) 12 i = nI j := pk_us
      have esd : sd (mset M 12 i (nI j)) i = j := by unfold sd; rw [e12, nI_clamp hj]
      refine ⟨?_, (c_up_k (by decide)).trans <| (c_up_k (by decide)).trans (cc11 rfl), (c_up_k (by decide)).trans ?_⟩
      · rw [c_up_s, cc, esd]
        rfl
      · rw [c_up_s, cc, hG]
        have e : sc (mset M 12 i (nI j)) i = sck M i j := funext fun x => by
          unfold sc sck
          rw [esd, es]
        rw [e]
    · have e12 : mset M 12 s (nI j) 12 i = M 12 i := pk_un his
      refine ⟨(c_up_i his).trans <| (c_up_i his).trans (cc10 rfl rfl e12 rfl rfl rfl rfl rfl rfl), (c_up_k (by decide)).trans <| (c_up_k (by decide)).trans (cc11 rfl), (c_up_k (by decide)).trans <| (c_up_i his).trans (cc12 (sc_cg e12 (fun t g _ _ => es _ _ _ _)))⟩
  · intro i k hi hk
    refine (c_up_k (by decide)).trans <| (c_up_k (by decide)).trans ?_
    have hm0 : ∀ x, x ∈ [16, 18, 19, 20, 21] → ∀ y, mset M 12 s (nI j) x y = M x y := fun x hx y => congrFun (hfl1 (by decide) hx) y
    have x := cc13 (Γ := Γ) (ad := ad) (ad' := ad) (M := M) (M' := mset M 12 s (nI j)) (i := (60 * i + k) / 60) (j := (60 * i + k) % 60) (by omega) (fun x hx => hm0 x hx _) (congrFun (mset_n (by decide)) _) (mo_o_cg (fun x hx => hm0 x hx _) (fun _ => es _ _ _ _)) (fun _ => rfl) (fun _ => rfl)
    rw [show 60 * ((60 * i + k) / 60) + (60 * i + k) % 60 = 60 * i + k by omega] at x
    exact x
  · intro v hv
    exact ⟨(c_up_k (by decide)).trans <| (c_up_k (by decide)).trans (cc14 (congrFun (mset_n (by decide)) _) rfl rfl), (c_up_k (by decide)).trans <| (c_up_k (by decide)).trans (cc15 rfl), (c_up_k (by decide)).trans <| (c_up_k (by decide)).trans (cc16 (evc v)), (c_up_k (by decide)).trans <| (c_up_k (by decide)).trans (cc17 (eo v))⟩
  · intro r hr
    exact (c_up_k (by decide)).trans <| (c_up_k (by decide)).trans (cc18 (congrFun (mset_n (by decide)) _) (congrFun (mset_n (by decide)) _) (congrFun (mset_n (by decide)) _))
theorem cr_change (hC : cr_at Γ ad M h) (hJ : J M) {s t q : Nat} {hw f v ff vv : Int32} (hs : s < nS M) (hm : nm M s < 60) (e13 : M 13 s = nI (nm M s)) (ht : t < 60) (hcase : (hw = 0 ∧ ff = f ∧ vv = v ∧ ∃ fn, fn < 5 ∧ f = nI fn) ∨ (hw = 1 ∧ ff = -1 ∧ vv = 1) ∨ (hw = 2 ∧ ff = -1 ∧ vv = 0)) (hq : h q = none)
    (e1 : h1 = hp_up (hp_up (hp_up (hp_up h q (.inr (1, [.int (M 13 s), .ref (ad 13 (60 * s + sd M s)), .int (nI t), .int ff, .int (s_val (sc M s) (nI t) ff), .int vv, .null]))) (ad 13 (60 * s + sd M s)) (.inr (1, [.int (nI (sd M s)), mo_b ad M s (sd M s), .int (mo_t M s (sd M s)), .int (mo_f M s (sd M s)), .int (mo_o M s (sd M s)), .int (mo_n M s (sd M s)), .ref q]))) (ad 10 s) (.inr (3, [.int (nI s), .int (M 10 s), .ref (ad 14 (bs M s)), .ref (ad 11 s), .ref q, .int (M 13 s + 1), .int (M 14 s), .int (M 15 s)]))) (ad 12 s) (.inl (Γ.2.1 0, 360, .inl (s_put (sc M s) (nI t) ff vv)))) :
    cr_at Γ (a_up ad 13 (60 * s + nm M s) q) (m_change M s (sd M s) (nm M s) hw (nI t) f v) h1 := by
  have hJs := hJ s hs
  have hsd := hJs.1
  obtain ⟨M', eM⟩ : ∃ z, z = m_change M s (sd M s) (nm M s) hw (nI t) f v := ⟨_, rfl⟩
  rw [← eM]
  have fo : ∀ k, k ∉ [12, 13, 16, 17, 18, 19, 20, 21] → M' k = M k := fun k hk => by rw [eM]; exact m_change_o k hk
  have f12 : M' 12 s = nI (nm M s) := by rw [eM]; exact pk_us
  have f12' : ∀ i, i ≠ s → M' 12 i = M 12 i := fun i hi => by rw [eM]; exact pk_un hi
  have f13 : M' 13 s = nI (nm M s + 1) := by rw [eM]; exact pk_us
  have f13' : ∀ i, i ≠ s → M' 13 i = M 13 i := fun i hi => by rw [eM]; exact pk_un hi
  have fm' : ∀ k, k ∈ [16, 18, 19, 20, 21] → ∀ i, i ≠ 60 * s + nm M s → M' k i = M k i := fun k hk i hi => by
    rw [eM]
    simp only [List.mem_cons, List.not_mem_nil, or_false] at hk
    rcases hk with rfl | rfl | rfl | rfl | rfl <;> exact pk_un hi
  have f17 : ∀ i, i ≠ 60 * s + nm M s → i ≠ 60 * s + sd M s → M' 17 i = M 17 i := fun i h1 h2 => by
    rw [eM]
    exact (pk_un h2).trans (pk_un h1)
  have f17a : M' 17 (60 * s + sd M s) = nI (nm M s) := by rw [eM]; exact pk_us
  have f17b : M' 17 (60 * s + nm M s) = -1 := by rw [eM]; exact (pk_un (by omega)).trans pk_us
  have g16 : M' 16 (60 * s + nm M s) = nI (sd M s) := by rw [eM]; exact pk_us
  have g18 : M' 18 (60 * s + nm M s) = hw := by rw [eM]; exact pk_us
  have g19 : M' 19 (60 * s + nm M s) = nI t := by rw [eM]; exact pk_us
  have g20 : M' 20 (60 * s + nm M s) = f := by rw [eM]; exact pk_us
  have g21 : M' 21 (60 * s + nm M s) = v := by rw [eM]; exact pk_us
  clear eM
  have eS : nS M' = nS M := by unfold nS; rw [fo 9 (by decide)]
  have eV : nV M' = nV M := by unfold nV; rw [fo 4 (by decide)]
  have eR : nR M' = nR M := by unfold nR; rw [fo 22 (by decide)]
  have enm : nm M' s = nm M s + 1 := by unfold nm; rw [f13, nI_clamp (by omega)]; rfl
  have enm' : ∀ i, i ≠ s → nm M' i = nm M i := fun i hi => by unfold nm; rw [f13' i hi]
  have esd : sd M' s = nm M s := by unfold sd; rw [f12, nI_clamp (by omega)]
  have esd' : ∀ i, i ≠ s → sd M' i = sd M i := fun i hi => by unfold sd; rw [f12' i hi]
  have ebs : ∀ i, bs M' i = bs M i := fun i => by unfold bs; rw [fo 11 (by decide)]
  have ebf : ∀ i, i ≠ 60 * s + nm M s → bf M' i = bf M i := fun i hi => by unfold bf; rw [fm' 16 (by decide) i hi]
  have ebm : bf M' (60 * s + nm M s) = sd M s := by unfold bf; rw [g16, nI_clamp (by omega)]
  -- states
  have est : ∀ i k t g, i < nS M → k < nm M i → t < 60 → g < 6 → stv M' i k t g = stv M i k t g := fun i k t g hi hk ht hg => by
    have hJi := hJ i hi
    refine stv_cg (n := nm M i) (fun k h1 h2 => (hJi.2.2.1 k h1 h2).1) (by rw [fo 11 (by decide)]) (fun t _ => by rw [fo 5 (by decide)]) (fun t _ f _ => by rw [fo 6 (by decide)]) (fun k hk j h1 h2 => fm' k hk _ (fun z => ?_)) hk ht hg
    have h60 := hJi.2.1
    have his : i = s := by omega
    subst his
    omega
  have hn : ¬ liv M 13 (60 * s + nm M s) := fun z => by
    rcases z with z | z | ⟨-, i, j, h1, h2, h3⟩ | z | z
    · omega
    · omega
    · have h60 := (hJ i h1).2.1
      have his : i = s := by omega
      subst his
      omega
    · omega
    · omega
  obtain ⟨ad', ea⟩ : ∃ z, z = a_up ad 13 (60 * s + nm M s) q := ⟨_, rfl⟩
  have ak : ∀ k i, k ≠ 13 → ad' k i = ad k i := fun k i hk => by rw [ea]; exact a_up_k hk
  have ai : ∀ i, i ≠ 60 * s + nm M s → ad' 13 i = ad 13 i := fun i hi => by rw [ea]; exact a_up_i hi
  have as : ad' 13 (60 * s + nm M s) = q := by rw [ea]; exact a_up_s
  have W := cw_w (a := ad 12 s) (z := .inl (Γ.2.1 0, 360, .inl (s_put (sc M s) (nI t) ff vv))) (cw_w (a := ad 10 s) (z := .inr (3, [.int (nI s), .int (M 10 s), .ref (ad 14 (bs M s)), .ref (ad 11 s), .ref q, .int (M 13 s + 1), .int (M 14 s), .int (M 15 s)])) (cw_w (a := ad 13 (60 * s + sd M s)) (z := .inr (1, [.int (nI (sd M s)), mo_b ad M s (sd M s), .int (mo_t M s (sd M s)), .int (mo_f M s (sd M s)), .int (mo_o M s (sd M s)), .int (mo_n M s (sd M s)), .ref q])) (cw_n (q := q) (z := .inr (1, [.int (M 13 s), .ref (ad 13 (60 * s + sd M s)), .int (nI t), .int ff, .int (s_val (sc M s) (nI t) ff), .int vv, .null])) hC hn hq) (Or.inl (livM hs hsd)) (a_up_i (by omega))) (Or.inl (livS (k := 10) (by omega) (by omega) hs)) (a_up_k (by decide))) (Or.inl (livS (k := 12) (by omega) (by omega) hs)) (a_up_k (by decide))
  rw [← e1, ← ea] at W
  rw [← ea]
  -- the new moment
  have hMk : Mk M' s (nm M s) := ⟨⟨t, ht, g19⟩, fun z => by
    rw [g18] at z
    rw [g20]
    rcases hcase with c | c | c
    · exact c.2.2.2
    · rw [c.1] at z; exact absurd z (by decide)
    · rw [c.1] at z; exact absurd z (by decide)⟩
  have h0 : ¬ nm M s = 0 := by omega
  have mt : mo_t M' s (nm M s) = nI t := by rw [mo_t, if_neg h0, g19]
  have mf : mo_f M' s (nm M s) = ff := by
    rw [mo_f, if_neg h0, g18, g20]
    rcases hcase with c | c | c
    · rw [if_pos c.1, c.2.1]
    · rw [c.1, c.2.1]; exact if_neg (by decide)
    · rw [c.1, c.2.1]; exact if_neg (by decide)
  have mn : mo_n M' s (nm M s) = vv := by
    rw [mo_n, if_neg h0, m_new, g18, g21]
    rcases hcase with c | c | c
    · rw [if_pos c.1, c.2.2.1]
    · rw [c.1, c.2.2]; rfl
    · rw [c.1, c.2.2]; rfl
  have hb' : ∀ k, 1 ≤ k → k < nm M' s → bf M' (60 * s + k) < k := fun k h1 h2 => by
    rw [enm] at h2
    by_cases hk : k = nm M s
    · rw [hk, ebm]; omega
    · rw [ebf _ (by omega)]
      exact (hJs.2.2.1 k h1 (by omega)).1
  have esk : sck M' s (sd M s) = sck M s (sd M s) := funext fun j => by
    unfold sck
    by_cases hj : j < 360
    · rw [if_pos hj, if_pos hj, est s _ _ _ hs hsd (by omega) (by omega)]
    · rw [if_neg hj, if_neg hj]
  have P1 := stp_fwd hb' h0 (by omega) (by omega) hMk
  rw [ebm, mt, mf, mn, esk] at P1
  obtain ⟨t2, ht2, hg2, e19, et2, ef2, hok2, -⟩ := hMk.get h0
  have htt : t2 = t := by rw [et2] at mt; exact (nI_eq (by omega) (by omega)).mp mt
  subst htt
  have mo : mo_o M' s (nm M s) = s_val (sc M s) (nI t2) ff := by
    rw [mo_o, if_neg h0, g19, nI_clamp (by omega), ebm, est s _ _ _ hs hsd ht hg2]
    rw [mf] at ef2 hok2
    exact (s_val_sc ht hg2 ef2 hok2).symm
  have h13 : ∀ i j, i < nS M → j < nm M i → 60 * i + j ≠ 60 * s + nm M s := fun i j hi hj z => by
    have h60 := (hJ i hi).2.1
    have his : i = s := by omega
    subst his
    omega
  refine cw_c W (liv_all (fun k hk => Or.inl (liv0 hk)) (fun i hi => by rw [eS] at hi; exact ⟨Or.inl (livS (by omega) (by omega) hi), Or.inl (livS (by omega) (by omega) hi), Or.inl (livS (by omega) (by omega) hi)⟩) (fun i j hi hj => ?_) (fun v hv => by rw [eV] at hv; exact ⟨Or.inl (livV (by omega) (by omega) hv), Or.inl (livV (by omega) (by omega) hv), Or.inl (livV (by omega) (by omega) hv), Or.inl (livV (by omega) (by omega) hv)⟩) (fun r hr => by rw [eR] at hr; exact Or.inl (livR hr))) (liv_all (fun k hk => ?_) (fun i hi => ?_) (fun i j hi hj => ?_) (fun v hv => ?_) (fun r hr => ?_))
  · rw [eS] at hi
    by_cases his : i = s
    · subst his
      rw [enm] at hj
      rcases Nat.lt_succ_iff_lt_or_eq.mp hj with z | z
      · exact Or.inl (livM hi z)
      · rw [z]; exact Or.inr ⟨rfl, rfl⟩
    · rw [enm' i his] at hj
      exact Or.inl (livM hi hj)
  · rw [c_up_k (by omega), c_up_k (by omega), c_up_k (by omega), c_up_k (by omega)]
    revert k
    refine le9 ?_ ?_ ?_ ?_ ?_ ?_ ?_ ?_ ?_ ?_
    · rw [cc, cc, cr_pen, cr_pen, fo 1 (by decide), fo 9 (by decide), fo 4 (by decide), fo 22 (by decide), fo 26 (by decide), eV, ak 1 _ (by decide), ak 2 _ (by decide), ak 3 _ (by decide), ak 4 _ (by decide), ak 5 _ (by decide), ak 6 _ (by decide), ak 14 _ (by decide), ak 10 _ (by decide)]
    · rw [cc, cc, fo 2 (by decide)]
    · rw [cc, cc, fo 3 (by decide)]
    · rw [cc, cc, eS, show ad' 10 = ad 10 from funext fun i => ak 10 i (by decide)]
    · rw [cc, cc, eV, show ad' 14 = ad 14 from funext fun i => ak 14 i (by decide)]
    · rw [cc, cc, eR, show ad' 18 = ad 18 from funext fun i => ak 18 i (by decide)]
    · rw [cc, cc, fo 27 (by decide), ak 7 _ (by decide), ak 8 _ (by decide), ak 9 _ (by decide)]
    · rw [cc, cc, fo 28 (by decide)]
    · rw [cc, cc, fo 29 (by decide)]
    · rw [cc, cc, fo 30 (by decide)]
  · rw [eS] at hi
    have h11 : c_up (c_up (c_up (c_up (cc Γ ad M) 13 (60 * s + nm M s) (.inr (1, [.int (M 13 s), .ref (ad 13 (60 * s + sd M s)), .int (nI t2), .int ff, .int (s_val (sc M s) (nI t2) ff), .int vv, .null]))) 13 (60 * s + sd M s) (.inr (1, [.int (nI (sd M s)), mo_b ad M s (sd M s), .int (mo_t M s (sd M s)), .int (mo_f M s (sd M s)), .int (mo_o M s (sd M s)), .int (mo_n M s (sd M s)), .ref q]))) 10 s (.inr (3, [.int (nI s), .int (M 10 s), .ref (ad 14 (bs M s)), .ref (ad 11 s), .ref q, .int (M 13 s + 1), .int (M 14 s), .int (M 15 s)]))) 12 s (.inl (Γ.2.1 0, 360, .inl (s_put (sc M s) (nI t2) ff vv))) 11 i = cc Γ ad' M' 11 i := by
      rw [c_up_k (by decide), c_up_k (by decide), c_up_k (by decide), c_up_k (by decide)]
      exact cc11 (ak 12 i (by decide))
    by_cases his : i = s
    · subst his
      refine ⟨?_, h11, ?_⟩
      · rw [c_up_k (by decide), c_up_s, cc, ebs, esd, ak 14 _ (by decide), ak 11 _ (by decide), as, fo 10 (by decide), f13, fo 14 (by decide), fo 15 (by decide), e13, nI_1]
      · rw [c_up_s, cc, sc_put M', esd, ← P1, sc_put]
    · refine ⟨?_, h11, ?_⟩
      · rw [c_up_k (by decide), c_up_i his, c_up_k (by decide), c_up_k (by decide)]
        exact cc10 (by rw [fo 10 (by decide)]) (by rw [fo 11 (by decide)]) (f12' i his) (f13' i his) (by rw [fo 14 (by decide)]) (by rw [fo 15 (by decide)]) (ak 14 _ (by decide)) (ak 11 _ (by decide)) (ai _ (h13 i _ hi (hJ i hi).1))
      · rw [c_up_i his, c_up_k (by decide), c_up_k (by decide), c_up_k (by decide)]
        exact cc12 (sc_cg (f12' i his) (fun t g h1 h2 => est i _ t g hi (hJ i hi).1 h1 h2))
  · rw [eS] at hi
    rw [c_up_k (by decide), c_up_k (by decide)]
    have hJi := hJ i hi
    have key : j < nm M i → 60 * i + j ≠ 60 * s + sd M s → cc Γ ad M 13 (60 * i + j) = cc Γ ad' M' 13 (60 * i + j) := fun hj hne => by
      have h9 := h13 i j hi hj
      have hm0 : ∀ k, k ∈ [16, 18, 19, 20, 21] → M' k (60 * i + j) = M k (60 * i + j) := fun k hk => fm' k hk _ h9
      refine cc13 (by have := hJi.2.1; omega) hm0 (f17 _ h9 hne) (mo_o_cg hm0 (fun hj0 => ?_)) (fun hj0 => ai _ (h13 i _ hi (by have := (hJi.2.2.1 j (by omega) hj).1; omega))) (fun hl => ai _ (h13 i _ hi (hJi.2.2.2 j hj hl)))
      obtain ⟨hbj, hmk⟩ := hJi.2.2.1 j (by omega) hj
      obtain ⟨t', ht', hg', e19', -⟩ := hmk.get hj0
      rw [e19', nI_clamp (by omega)]
      exact est i _ _ _ hi (by omega) ht' hg'
    by_cases hd : 60 * i + j = 60 * s + sd M s
    · have h60 := hJs.2.1
      have hj2 : j < nm M i + 1 := by
        by_cases his : i = s
        · subst his; rw [enm] at hj; exact hj
        · rw [enm' i his] at hj; omega
      have h60i := hJi.2.1
      rw [hd, c_up_s]
      have hne := h13 s _ hs hsd
      have hm0 : ∀ k, k ∈ [16, 18, 19, 20, 21] → M' k (60 * s + sd M s) = M k (60 * s + sd M s) := fun k hk => fm' k hk _ hne
      have x16 := hm0 16 (by decide)
      have x18 := hm0 18 (by decide)
      have x19 := hm0 19 (by decide)
      have x20 := hm0 20 (by decide)
      have x21 := hm0 21 (by decide)
      have y1 : mo_b ad' M' s (sd M s) = mo_b ad M s (sd M s) := by
        unfold mo_b
        by_cases h0 : sd M s = 0
        · rw [if_pos h0, if_pos h0]
        · rw [if_neg h0, if_neg h0, ebf _ hne, ai _ (h13 s _ hs (by have := (hJs.2.2.1 _ (by omega) hsd).1; omega))]
      have y2 : mo_t M' s (sd M s) = mo_t M s (sd M s) := by unfold mo_t; rw [x19]
      have y3 : mo_f M' s (sd M s) = mo_f M s (sd M s) := by unfold mo_f; rw [x18, x20]
      have y4 : mo_n M' s (sd M s) = mo_n M s (sd M s) := by unfold mo_n m_new; rw [x18, x21]
      have y6 : mo_l ad' M' s (sd M s) = .ref q := by rw [mo_l, f17a, if_neg (nI_pos (by omega)), nI_clamp (by omega), as]
      have y5 : mo_o M' s (sd M s) = mo_o M s (sd M s) := mo_o_cg hm0 (fun hj0 => by
        obtain ⟨hbj, hmk⟩ := hJs.2.2.1 _ (by omega) hsd
        obtain ⟨t', ht', hg', e19', -⟩ := hmk.get hj0
        rw [e19', nI_clamp (by omega)]
        exact est s _ _ _ hs (by omega) ht' hg')
      rw [cc, show (60 * s + sd M s) / 60 = s by omega, show (60 * s + sd M s) % 60 = sd M s by omega, y1, y2, y3, y4, y5, y6]
    · rw [c_up_i hd]
      by_cases hd2 : 60 * i + j = 60 * s + nm M s
      · rw [hd2, c_up_s, cc, show (60 * s + nm M s) / 60 = s by omega, show (60 * s + nm M s) % 60 = nm M s by omega, mt, mf, mn, mo, mo_b, if_neg h0, ebm, ai _ (h13 s _ hs hsd), mo_l, f17b, e13]
        rfl
      · rw [c_up_i hd2]
        refine key ?_ hd
        by_cases his : i = s
        · subst his; rw [enm] at hj; omega
        · rw [enm' i his] at hj; exact hj
  · rw [eV] at hv
    have evc : ∀ w, vc M' w = vc M w := fun w => by unfold vc; rw [fo 5 (by decide), fo 6 (by decide)]
    rw [c_up_k (by decide), c_up_k (by decide), c_up_k (by decide), c_up_k (by decide), c_up_k (by decide), c_up_k (by decide), c_up_k (by decide), c_up_k (by decide), c_up_k (by decide), c_up_k (by decide), c_up_k (by decide), c_up_k (by decide), c_up_k (by decide), c_up_k (by decide), c_up_k (by decide), c_up_k (by decide)]
    exact ⟨cc14 (by rw [fo 8 (by decide)]) (ak 15 _ (by decide)) (ak 17 _ (by decide)), cc15 (ak 16 _ (by decide)), cc16 (evc v), cc17 (og_cg v (fun w _ => evc w))⟩
  · rw [c_up_k (by decide), c_up_k (by decide), c_up_k (by decide), c_up_k (by decide)]
    exact cc18 (by rw [fo 23 (by decide)]) (by rw [fo 24 (by decide)]) (by rw [fo 25 (by decide)])
end MU2
