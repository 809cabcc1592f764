/-! THE LAW: its cases -/
section LW1
variable {p : Program} {l : Launch} {e : Env} {R : Room} {s : State} {m : MethodId} {args : Array Value} {below : List Frame} {meth : Method} {c : Code} {cc : ByteArray} {nL : Nat} {own : String} {ws : List Cond} {D : va_G} {cl : List vw_C} {tys : List (ClassId × FieldType)} {sts : List (String × Nat × String × Nat)} {aos : List Cond} {A : Nat → Prop} {Q : State → Prop} {cells slots pc : Nat} {lv : List (Nat × Value)} {st : List Value} {h : Pic}
theorem hg_slen (C : hp_C p s m args meth c cc nL own ws D cl tys sts aos A) {b L : Nat} {xs : Nat → Int32} (hX : va_X b L xs s s.heap) (hbl : b < s.heap.size) (hbA : ¬ A b) (hd : decode cc pc = .ok (.arraylength, 1)) (kk : hp_G p l e R s m args below meth c D cl A nL Q cells slots (pc + 1) lv (.int (nI L) :: st) h) : hp_G p l e R s m args below meth c D cl A nL Q cells slots pc lv (.ref b :: st) h :=
  fun H locs ls hP hS hl => va_slen C.1 C.2.1 hX hbl hbA hS hd (kk H locs ls hP hS hl)
theorem hg_sld (C : hp_C p s m args meth c cc nL own ws D cl tys sts aos A) {b L : Nat} {xs : Nat → Int32} (hX : va_X b L xs s s.heap) (hbl : b < s.heap.size) (hbA : ¬ A b) {i : Nat} (hi : i < L) (h31 : L < 2 ^ 31) (hd : decode cc pc = .ok (.iaload, 1)) (kk : hp_G p l e R s m args below meth c D cl A nL Q cells slots (pc + 1) lv (.int (xs i) :: st) h) : hp_G p l e R s m args below meth c D cl A nL Q cells slots pc lv (.int (nI i) :: .ref b :: st) h :=
  fun H locs ls hP hS hl => va_sld C.1 C.2.1 hX hbl hbA hS (vp_in_nI hi h31) hd (by rw [nI_clamp (by omega)]; exact kk H locs ls hP hS hl)
end LW1
abbrev OUTC (Γ : Gam) (g : Nat → Int64) : va_E := .inl (Γ.2.1 1, 1, .inr (.inl g))
/-- the two objects and the cell of answers, side by side -/
def LB (Γ : Gam) (x r ao : Nat) (ad : Nat → Nat → Nat) (aa : Nat → Nat) (M1 M2 : Mem) (hX hM : Pic) (g : Nat → Int64) (h : Pic) : Prop :=
  ad 0 0 = x ∧ cr_at Γ ad M1 hX ∧ rf_at Γ r aa M2 hM ∧ (∀ q y, hX q = some y → h q = some y) ∧ (∀ q y, hM q = some y → h q = some y) ∧ (∀ q y, hX q = some y → hM q = none) ∧ hX ao = none ∧ hM ao = none ∧ h ao = some (OUTC Γ g)
def LA (Γ : Gam) (x r ao : Nat) (M : Mem) (h : Pic) : Prop := ∃ (ad : Nat → Nat → Nat) (aa : Nat → Nat) (hX hM : Pic) (g : Nat → Int64), LB Γ x r ao ad aa M M hX hM g h
theorem LB_s {Γ : Gam} {x r ao : Nat} {ad : Nat → Nat → Nat} {aa : Nat → Nat} {M1 M2 : Mem} {hX hM : Pic} {g : Nat → Int64} {h : Pic} (H : LB Γ x r ao ad aa M1 M2 hX hM g h) : ∀ q y, hp_up hX ao (OUTC Γ g) q = some y → h q = some y := fun q y hy => by
  by_cases e : q = ao
  · rw [e, hp_up_s] at hy
    rw [e, H.2.2.2.2.2.2.2.2]
    exact hy
  · rw [hp_up_n e] at hy
    exact H.2.2.2.1 q y hy
theorem LB_w {Γ : Gam} {x r ao : Nat} {ad ad' : Nat → Nat → Nat} {aa : Nat → Nat} {M1 M2 M' : Mem} {hX hM u : Pic} {g g' : Nat → Int64} {h : Pic} (H : LB Γ x r ao ad aa M1 M2 hX hM g h) (ha' : ad' 0 0 = ad 0 0) (hcr : cr_at Γ ad' M' u) (hua : u ao = none) (hd : ∀ q y, hp_up u ao (OUTC Γ g') q = some y → hp_up hX ao (OUTC Γ g) q = none → h q = none) : LB Γ x r ao ad' aa M' M2 u hM g' (mrg (hp_up u ao (OUTC Γ g')) h (hp_up hX ao (OUTC Γ g))) := by
  obtain ⟨h1, h2, h3, h4, h5, h6, h7, h8, h9⟩ := H
  have nm : ∀ q y, hM q = some y → hp_up hX ao (OUTC Γ g) q = none := fun q y hy => by
    have e : q ≠ ao := fun z => by rw [z, h8] at hy; cases hy
    rw [hp_up_n e]
    cases hq : hX q with
    | none => rfl
    | some w => rw [h6 q w hq] at hy; cases hy
  have ne : ∀ q y, u q = some y → q ≠ ao := fun q y hy z => by rw [z, hua] at hy; cases hy
  refine ⟨ha'.trans h1, hcr, h3, fun q y hy => mrg_u (by rw [hp_up_n (ne q y hy)]; exact hy), fun q y hy => mrg_h hd (h5 q y hy) (nm q y hy), fun q y hy => ?_, hua, h8, mrg_u hp_up_s⟩
  cases hm : hM q with
  | none => rfl
  | some w =>
    have z := hd q y (by rw [hp_up_n (ne q y hy)]; exact hy) (nm q w hm)
    rw [h5 q w hm] at z
    cases z
theorem LB_r {Γ : Gam} {x r ao : Nat} {ad : Nat → Nat → Nat} {aa : Nat → Nat} {M1 M2 M' : Mem} {hX hM v : Pic} {g : Nat → Int64} {h : Pic} (H : LB Γ x r ao ad aa M1 M2 hX hM g h) (hrf : rf_at Γ r aa M' v) (hd : ∀ q y, v q = some y → hM q = none → h q = none) : LB Γ x r ao ad aa M1 M' hX v g (mrg v h hM) := by
  obtain ⟨h1, h2, h3, h4, h5, h6, h7, h8, h9⟩ := H
  refine ⟨h1, h2, hrf, fun q y hy => mrg_h hd (h4 q y hy) (h6 q y hy), fun q y hy => mrg_u hy, fun q y hy => ?_, h7, ?_, mrg_h hd h9 h8⟩
  · cases hv : v q with
    | none => rfl
    | some w =>
      have z := hd q w hv (h6 q y hy)
      rw [h4 q y hy] at z
      cases z
  · cases hv : v ao with
    | none => rfl
    | some w =>
      have z := hd ao w hv h8
      rw [h9] at z
      cases z
abbrev w_law : List Cond := Cond.initialized "ModelMergeLaw" :: kw_all
theorem lcmp_0 {a b : Int64} (h : a = b) : lg_cmp a b = 0 := by rw [h]; unfold lg_cmp; simp
set_option maxHeartbeats 4000000 in
set_option maxRecDepth 100000 in
theorem ct_La_session (l : Launch) (hl9 : l.stackTraces = false) (Γ : Gam) {p : Program} {e : Env} {s : State} {m : MethodId} {args : Array Value} {below : List Frame} {meth : Method} {c : Code} {A : Nat → Prop} {Q : State → Prop} (C : hp_C p s m args meth c b_La_law 7 "ModelMergeLaw" w_law Γ.1 kcl (ktys Γ.2.1) (ksts Γ.2.2) knws A) {x r ao b L : Nat} {xs : Nat → Int32} (hX0 : va_X b L xs s s.heap) (hbl : b < s.heap.size) (hbA : ¬ A b) {i : Nat} (hi : i + 5 ≤ L) (hL : L ≤ 2560) {M : Mem} (hI : Ivr M) {h : Pic} (hLA : LA Γ x r ao M h) {cells slots : Nat} (hc9 : cells + 10 ≤ 601024) (hs9 : slots + 800 ≤ 7293034) (kq : ∀ (M' : Mem) (h' : Pic), Ivr M' → LA Γ x r ao M' h' → hp_G p l e room_1 s m args below meth c Γ.1 kcl A 7 Q (cells + 10) (slots + 800) 1648 [(4, .int (nI i)), (0, .ref b), (1, .ref x), (2, .ref r), (3, .ref ao)] [] h') :
    hp_G p l e room_1 s m args below meth c Γ.1 kcl A 7 Q cells slots 140 [(4, .int (nI i)), (0, .ref b), (1, .ref x), (2, .ref r), (3, .ref ao)] [] h := by
  obtain ⟨ad, aa, hX, hM, g, H⟩ := hLA
  have hax := H.1
  subst hax
  obtain ⟨S9, eS⟩ : ∃ z, z = (sp_session M (xs (i + 1)) (xs (i + 2))) := ⟨_, rfl⟩
  have hIn : Ivr S9.2.2 := by rw [eS]; exact iv_session hI (xs (i + 1)) (xs (i + 2))
  have hcd0 : S9.2.2 0 0 = S9.1 := by rw [eS]; exact cd_session (xs (i + 1)) (xs (i + 2))
  refine hg_aload_n C 2 d_La_law_140 rfl rfl ?_
  refine hg_aload_n C 1 d_La_law_141 rfl rfl ?_
  refine hg_iload C 0 d_La_law_142 rfl ?_
  refine hg_iconst (v := 1) C d_La_law_144 (by decide) ?_
  refine hg_iadd C d_La_law_145 ?_
  refine hg_ti (show nI i + 1 = nI (i + 1) from nI_add i 1) ?_
  refine hg_sld (i := i + 1) C hX0 hbl hbA (by omega) (by omega) d_La_law_146 ?_
  refine hg_aload_n C 1 d_La_law_147 rfl rfl ?_
  refine hg_iload C 0 d_La_law_148 rfl ?_
  refine hg_iconst (v := 2) C d_La_law_150 (by decide) ?_
  refine hg_iadd C d_La_law_151 ?_
  refine hg_ti (show nI i + 2 = nI (i + 2) from nI_add i 2) ?_
  refine hg_sld (i := i + 2) C hX0 hbl hbA (by omega) (by omega) d_La_law_152 ?_
  refine hg_aload_n C 4 d_La_law_153 rfl rfl ?_
  refine hg_SXF (h1 := hp_up hX ao (OUTC Γ g)) C (LB_s H) (k_La_session l hl9 Γ hX ad M H.2.1 hI ao H.2.2.2.2.2.2.1 g (xs (i + 1)) (xs (i + 2))) (cw_La_88 C.2.2.2.2.1 rfl rfl ⟨Nat.le_of_ble_eq_true rfl, Nat.le_of_ble_eq_true rfl⟩) rfl rfl (Nat.le_of_ble_eq_true rfl) d_La_law_154 ⟨by show cells + 6 ≤ 601024; omega, by show slots + 388 ≤ 7293034; omega⟩ (fun r9 w9 hq hd => ?_)
  rw [← eS] at hq
  obtain ⟨rfl, u, ad', g', ha', hcr, hua, rfl, hg0⟩ := hq
  have H2 := LB_w H ha' hcr hua hd
  obtain ⟨h2, eh2⟩ : ∃ z, z = mrg (hp_up u ao (OUTC Γ g')) h (hp_up hX ao (OUTC Γ g)) := ⟨_, rfl⟩
  rw [← eh2] at H2
  refine hg_eq eh2.symm ?_
  refine hg_istore (lv' := [(5, .int S9.1), (4, .int (nI i)), (0, .ref b), (1, .ref (ad 0 0)), (2, .ref r), (3, .ref ao)]) C d_La_law_157 (by decide) rfl ?_
  refine hg_aload_n C 4 d_La_law_159 rfl rfl ?_
  refine hg_aload_n C 2 d_La_law_160 rfl rfl ?_
  refine hg_iload C 1 d_La_law_161 rfl ?_
  refine hg_iconst (v := 1) C d_La_law_163 (by decide) ?_
  refine hg_iadd C d_La_law_164 ?_
  refine hg_ti (show nI i + 1 = nI (i + 1) from nI_add i 1) ?_
  refine hg_sld (i := i + 1) C hX0 hbl hbA (by omega) (by omega) d_La_law_165 ?_
  refine hg_aload_n C 2 d_La_law_166 rfl rfl ?_
  refine hg_iload C 1 d_La_law_167 rfl ?_
  refine hg_iconst (v := 2) C d_La_law_169 (by decide) ?_
  refine hg_iadd C d_La_law_170 ?_
  refine hg_ti (show nI i + 2 = nI (i + 2) from nI_add i 2) ?_
  refine hg_sld (i := i + 2) C hX0 hbl hbA (by omega) (by omega) d_La_law_171 ?_
  refine hg_VNF (q := ("ModelMergeModel", T_Rf, 31)) (h1 := hM) C H2.2.2.2.2.1 (k_Rf_session l Γ hM r aa M H2.2.2.1 hI.1 (xs (i + 1)) (xs (i + 2))) (cw_La_93 C.2.2.2.2.1 rfl rfl ⟨Nat.le_of_ble_eq_true rfl, Nat.le_of_ble_eq_true rfl⟩) H2.2.2.1.1 rfl rfl rfl (Nat.le_of_ble_eq_true rfl) d_La_law_172 ⟨by show cells + 6 + 0 ≤ 601024; omega, by show slots + 388 + 0 ≤ 7293034; omega⟩ (fun r9 v9 hq hd => ?_)
  rw [← eS] at hq
  obtain ⟨rfl, hrf⟩ := hq
  have H3 := LB_r H2 hrf hd
  obtain ⟨h3, eh3⟩ : ∃ z, z = mrg v9 h2 hM := ⟨_, rfl⟩
  rw [← eh3] at H3
  refine hg_eq eh3.symm ?_
  refine hg_istore (lv' := [(6, .int S9.2.1), (5, .int S9.1), (4, .int (nI i)), (0, .ref b), (1, .ref (ad 0 0)), (2, .ref r), (3, .ref ao)]) C d_La_law_175 (by decide) rfl ?_
  refine hg_aload_n C 5 d_La_law_177 rfl rfl ?_
  refine hg_VNF (q := ("ModelMergeModel", T_Rf, 31)) (h1 := v9) C H3.2.2.2.2.1 (k_Rf_thrown l Γ v9 r aa S9.2.2 H3.2.2.1) (cw_La_94 C.2.2.2.2.1 rfl rfl ⟨Nat.le_of_ble_eq_true rfl, Nat.le_of_ble_eq_true rfl⟩) H3.2.2.1.1 rfl rfl rfl (Nat.le_of_ble_eq_true rfl) d_La_law_178 ⟨by show cells + 6 + 0 + 0 ≤ 601024; omega, by show slots + 388 + 0 + 0 ≤ 7293034; omega⟩ (fun r9 w9 hq _ => ?_)
  obtain ⟨rfl, rfl, -⟩ := hq
  refine hg_eq (mrg_self H3.2.2.2.2.1) ?_
  refine hg_ti hcd0 ?_
  have hcd : S9.1 = S9.1 := rfl
  refine hg_iload C 1 d_La_law_181 rfl ?_
  refine hg_icmp_eq C 188 d_La_law_183 (by decide) (fun _ => ?_) (fun z => absurd hcd z)
  refine hg_iload C 1 d_La_law_188 rfl ?_
  refine hg_if_ne C 205 d_La_law_190 (by decide) (fun _ => ?_) (fun z0 => ?_)
  · refine hg_goto C 1648 d_La_law_205 (by decide) ?_
    refine hg_lv (ks := [2, 3, 4, 5, 6]) (lv' := [(4, .int (nI i)), (0, .ref b), (1, .ref (ad 0 0)), (2, .ref r), (3, .ref ao)]) rfl ?_
    exact hg_widen (by omega) (by omega) (kq S9.2.2 h3 hIn ⟨ad', aa, u, _, g', H3⟩)
  · refine hg_aload_n C 6 d_La_law_193 rfl rfl ?_
    refine hg_iconst (v := 0) C d_La_law_194 (by decide) ?_
    refine hg_lald C 1 H3.2.2.2.2.2.2.2.2 rfl (show vp_in (nI 0) 1 from vp_in_nI (by omega) (by omega)) d_La_law_195 ?_
    refine hg_iload C 0 d_La_law_196 rfl ?_
    refine hg_i2l C d_La_law_198 rfl ?_
    refine hg_lcmp C d_La_law_199 ?_
    refine hg_ti (show lg_cmp (g' (0 : Int32).toNatClampNeg) _ = 0 from lcmp_0 (hg0 z0)) ?_
    refine hg_if_eq C 205 d_La_law_200 (by decide) (fun _ => ?_) (fun z => absurd (by decide) z)
    refine hg_goto C 1648 d_La_law_205 (by decide) ?_
    refine hg_lv (ks := [2, 3, 4, 5, 6]) (lv' := [(4, .int (nI i)), (0, .ref b), (1, .ref (ad 0 0)), (2, .ref r), (3, .ref ao)]) rfl ?_
    exact hg_widen (by omega) (by omega) (kq S9.2.2 h3 hIn ⟨ad', aa, u, _, g', H3⟩)
set_option maxHeartbeats 4000000 in
set_option maxRecDepth 100000 in
theorem ct_La_make (l : Launch) (hl9 : l.stackTraces = false) (Γ : Gam) {p : Program} {e : Env} {s : State} {m : MethodId} {args : Array Value} {below : List Frame} {meth : Method} {c : Code} {A : Nat → Prop} {Q : State → Prop} (C : hp_C p s m args meth c b_La_law 7 "ModelMergeLaw" w_law Γ.1 kcl (ktys Γ.2.1) (ksts Γ.2.2) knws A) {x r ao b L : Nat} {xs : Nat → Int32} (hX0 : va_X b L xs s s.heap) (hbl : b < s.heap.size) (hbA : ¬ A b) {i : Nat} (hi : i + 5 ≤ L) (hL : L ≤ 2560) {M : Mem} (hI : Ivr M) {h : Pic} (hLA : LA Γ x r ao M h) {cells slots : Nat} (hc9 : cells + 10 ≤ 601024) (hs9 : slots + 800 ≤ 7293034) (kq : ∀ (M' : Mem) (h' : Pic), Ivr M' → LA Γ x r ao M' h' → hp_G p l e room_1 s m args below meth c Γ.1 kcl A 7 Q (cells + 10) (slots + 800) 1648 [(4, .int (nI i)), (0, .ref b), (1, .ref x), (2, .ref r), (3, .ref ao)] [] h') :
    hp_G p l e room_1 s m args below meth c Γ.1 kcl A 7 Q cells slots 208 [(4, .int (nI i)), (0, .ref b), (1, .ref x), (2, .ref r), (3, .ref ao)] [] h := by
  obtain ⟨ad, aa, hX, hM, g, H⟩ := hLA
  have hax := H.1
  subst hax
  obtain ⟨S9, eS⟩ : ∃ z, z = (sp_make M (xs (i + 1)) (xs (i + 2))) := ⟨_, rfl⟩
  have hIn : Ivr S9.2.2 := by rw [eS]; exact iv_make hI (xs (i + 1)) (xs (i + 2))
  have hcd0 : S9.2.2 0 0 = S9.1 := by rw [eS]; exact cd_make (xs (i + 1)) (xs (i + 2))
  refine hg_aload_n C 2 d_La_law_208 rfl rfl ?_
  refine hg_aload_n C 1 d_La_law_209 rfl rfl ?_
  refine hg_iload C 0 d_La_law_210 rfl ?_
  refine hg_iconst (v := 1) C d_La_law_212 (by decide) ?_
  refine hg_iadd C d_La_law_213 ?_
  refine hg_ti (show nI i + 1 = nI (i + 1) from nI_add i 1) ?_
  refine hg_sld (i := i + 1) C hX0 hbl hbA (by omega) (by omega) d_La_law_214 ?_
  refine hg_aload_n C 1 d_La_law_215 rfl rfl ?_
  refine hg_iload C 0 d_La_law_216 rfl ?_
  refine hg_iconst (v := 2) C d_La_law_218 (by decide) ?_
  refine hg_iadd C d_La_law_219 ?_
  refine hg_ti (show nI i + 2 = nI (i + 2) from nI_add i 2) ?_
  refine hg_sld (i := i + 2) C hX0 hbl hbA (by omega) (by omega) d_La_law_220 ?_
  refine hg_aload_n C 4 d_La_law_221 rfl rfl ?_
  refine hg_SXF (h1 := hp_up hX ao (OUTC Γ g)) C (LB_s H) (k_La_make l hl9 Γ hX ad M H.2.1 hI ao H.2.2.2.2.2.2.1 g (xs (i + 1)) (xs (i + 2))) (cw_La_97 C.2.2.2.2.1 rfl rfl ⟨Nat.le_of_ble_eq_true rfl, Nat.le_of_ble_eq_true rfl⟩) rfl rfl (Nat.le_of_ble_eq_true rfl) d_La_law_222 ⟨by show cells + 4 ≤ 601024; omega, by show slots + 25 ≤ 7293034; omega⟩ (fun r9 w9 hq hd => ?_)
  rw [← eS] at hq
  obtain ⟨rfl, u, ad', g', ha', hcr, hua, rfl, hg0⟩ := hq
  have H2 := LB_w H ha' hcr hua hd
  obtain ⟨h2, eh2⟩ : ∃ z, z = mrg (hp_up u ao (OUTC Γ g')) h (hp_up hX ao (OUTC Γ g)) := ⟨_, rfl⟩
  rw [← eh2] at H2
  refine hg_eq eh2.symm ?_
  refine hg_istore (lv' := [(5, .int S9.1), (4, .int (nI i)), (0, .ref b), (1, .ref (ad 0 0)), (2, .ref r), (3, .ref ao)]) C d_La_law_225 (by decide) rfl ?_
  refine hg_aload_n C 4 d_La_law_227 rfl rfl ?_
  refine hg_aload_n C 2 d_La_law_228 rfl rfl ?_
  refine hg_iload C 1 d_La_law_229 rfl ?_
  refine hg_iconst (v := 1) C d_La_law_231 (by decide) ?_
  refine hg_iadd C d_La_law_232 ?_
  refine hg_ti (show nI i + 1 = nI (i + 1) from nI_add i 1) ?_
  refine hg_sld (i := i + 1) C hX0 hbl hbA (by omega) (by omega) d_La_law_233 ?_
  refine hg_aload_n C 2 d_La_law_234 rfl rfl ?_
  refine hg_iload C 1 d_La_law_235 rfl ?_
  refine hg_iconst (v := 2) C d_La_law_237 (by decide) ?_
  refine hg_iadd C d_La_law_238 ?_
  refine hg_ti (show nI i + 2 = nI (i + 2) from nI_add i 2) ?_
  refine hg_sld (i := i + 2) C hX0 hbl hbA (by omega) (by omega) d_La_law_239 ?_
  refine hg_VNF (q := ("ModelMergeModel", T_Rf, 31)) (h1 := hM) C H2.2.2.2.2.1 (k_Rf_make l Γ hM r aa M H2.2.2.1 hI.1 (xs (i + 1)) (xs (i + 2))) (cw_La_99 C.2.2.2.2.1 rfl rfl ⟨Nat.le_of_ble_eq_true rfl, Nat.le_of_ble_eq_true rfl⟩) H2.2.2.1.1 rfl rfl rfl (Nat.le_of_ble_eq_true rfl) d_La_law_240 ⟨by show cells + 4 + 0 ≤ 601024; omega, by show slots + 25 + 0 ≤ 7293034; omega⟩ (fun r9 v9 hq hd => ?_)
  rw [← eS] at hq
  obtain ⟨rfl, hrf⟩ := hq
  have H3 := LB_r H2 hrf hd
  obtain ⟨h3, eh3⟩ : ∃ z, z = mrg v9 h2 hM := ⟨_, rfl⟩
  rw [← eh3] at H3
  refine hg_eq eh3.symm ?_
  refine hg_istore (lv' := [(6, .int S9.2.1), (5, .int S9.1), (4, .int (nI i)), (0, .ref b), (1, .ref (ad 0 0)), (2, .ref r), (3, .ref ao)]) C d_La_law_243 (by decide) rfl ?_
  refine hg_aload_n C 5 d_La_law_245 rfl rfl ?_
  refine hg_VNF (q := ("ModelMergeModel", T_Rf, 31)) (h1 := v9) C H3.2.2.2.2.1 (k_Rf_thrown l Γ v9 r aa S9.2.2 H3.2.2.1) (cw_La_94 C.2.2.2.2.1 rfl rfl ⟨Nat.le_of_ble_eq_true rfl, Nat.le_of_ble_eq_true rfl⟩) H3.2.2.1.1 rfl rfl rfl (Nat.le_of_ble_eq_true rfl) d_La_law_246 ⟨by show cells + 4 + 0 + 0 ≤ 601024; omega, by show slots + 25 + 0 + 0 ≤ 7293034; omega⟩ (fun r9 w9 hq _ => ?_)
  obtain ⟨rfl, rfl, -⟩ := hq
  refine hg_eq (mrg_self H3.2.2.2.2.1) ?_
  refine hg_ti hcd0 ?_
  have hcd : S9.1 = S9.1 := rfl
  refine hg_iload C 1 d_La_law_249 rfl ?_
  refine hg_icmp_eq C 256 d_La_law_251 (by decide) (fun _ => ?_) (fun z => absurd hcd z)
  refine hg_iload C 1 d_La_law_256 rfl ?_
  refine hg_if_ne C 273 d_La_law_258 (by decide) (fun _ => ?_) (fun z0 => ?_)
  · refine hg_goto C 1648 d_La_law_273 (by decide) ?_
    refine hg_lv (ks := [2, 3, 4, 5, 6]) (lv' := [(4, .int (nI i)), (0, .ref b), (1, .ref (ad 0 0)), (2, .ref r), (3, .ref ao)]) rfl ?_
    exact hg_widen (by omega) (by omega) (kq S9.2.2 h3 hIn ⟨ad', aa, u, _, g', H3⟩)
  · refine hg_aload_n C 6 d_La_law_261 rfl rfl ?_
    refine hg_iconst (v := 0) C d_La_law_262 (by decide) ?_
    refine hg_lald C 1 H3.2.2.2.2.2.2.2.2 rfl (show vp_in (nI 0) 1 from vp_in_nI (by omega) (by omega)) d_La_law_263 ?_
    refine hg_iload C 0 d_La_law_264 rfl ?_
    refine hg_i2l C d_La_law_266 rfl ?_
    refine hg_lcmp C d_La_law_267 ?_
    refine hg_ti (show lg_cmp (g' (0 : Int32).toNatClampNeg) _ = 0 from lcmp_0 (hg0 z0)) ?_
    refine hg_if_eq C 273 d_La_law_268 (by decide) (fun _ => ?_) (fun z => absurd (by decide) z)
    refine hg_goto C 1648 d_La_law_273 (by decide) ?_
    refine hg_lv (ks := [2, 3, 4, 5, 6]) (lv' := [(4, .int (nI i)), (0, .ref b), (1, .ref (ad 0 0)), (2, .ref r), (3, .ref ao)]) rfl ?_
    exact hg_widen (by omega) (by omega) (kq S9.2.2 h3 hIn ⟨ad', aa, u, _, g', H3⟩)
set_option maxHeartbeats 4000000 in
set_option maxRecDepth 100000 in
theorem ct_La_set (l : Launch) (hl9 : l.stackTraces = false) (Γ : Gam) {p : Program} {e : Env} {s : State} {m : MethodId} {args : Array Value} {below : List Frame} {meth : Method} {c : Code} {A : Nat → Prop} {Q : State → Prop} (C : hp_C p s m args meth c b_La_law 7 "ModelMergeLaw" w_law Γ.1 kcl (ktys Γ.2.1) (ksts Γ.2.2) knws A) {x r ao b L : Nat} {xs : Nat → Int32} (hX0 : va_X b L xs s s.heap) (hbl : b < s.heap.size) (hbA : ¬ A b) {i : Nat} (hi : i + 5 ≤ L) (hL : L ≤ 2560) {M : Mem} (hI : Ivr M) {h : Pic} (hLA : LA Γ x r ao M h) {cells slots : Nat} (hc9 : cells + 10 ≤ 601024) (hs9 : slots + 800 ≤ 7293034) (kq : ∀ (M' : Mem) (h' : Pic), Ivr M' → LA Γ x r ao M' h' → hp_G p l e room_1 s m args below meth c Γ.1 kcl A 7 Q (cells + 10) (slots + 800) 1648 [(4, .int (nI i)), (0, .ref b), (1, .ref x), (2, .ref r), (3, .ref ao)] [] h') :
    hp_G p l e room_1 s m args below meth c Γ.1 kcl A 7 Q cells slots 276 [(4, .int (nI i)), (0, .ref b), (1, .ref x), (2, .ref r), (3, .ref ao)] [] h := by
  obtain ⟨ad, aa, hX, hM, g, H⟩ := hLA
  have hax := H.1
  subst hax
  obtain ⟨S9, eS⟩ : ∃ z, z = (sp_set M (xs (i + 1)) (xs (i + 2)) (xs (i + 3)) (xs (i + 4))) := ⟨_, rfl⟩
  have hIn : Ivr S9.2.2 := by rw [eS]; exact iv_set hI (xs (i + 1)) (xs (i + 2)) (xs (i + 3)) (xs (i + 4))
  have hcd0 : S9.2.2 0 0 = S9.1 := by rw [eS]; exact cd_set (xs (i + 1)) (xs (i + 2)) (xs (i + 3)) (xs (i + 4))
  refine hg_aload_n C 2 d_La_law_276 rfl rfl ?_
  refine hg_aload_n C 1 d_La_law_277 rfl rfl ?_
  refine hg_iload C 0 d_La_law_278 rfl ?_
  refine hg_iconst (v := 1) C d_La_law_280 (by decide) ?_
  refine hg_iadd C d_La_law_281 ?_
  refine hg_ti (show nI i + 1 = nI (i + 1) from nI_add i 1) ?_
  refine hg_sld (i := i + 1) C hX0 hbl hbA (by omega) (by omega) d_La_law_282 ?_
  refine hg_aload_n C 1 d_La_law_283 rfl rfl ?_
  refine hg_iload C 0 d_La_law_284 rfl ?_
  refine hg_iconst (v := 2) C d_La_law_286 (by decide) ?_
  refine hg_iadd C d_La_law_287 ?_
  refine hg_ti (show nI i + 2 = nI (i + 2) from nI_add i 2) ?_
  refine hg_sld (i := i + 2) C hX0 hbl hbA (by omega) (by omega) d_La_law_288 ?_
  refine hg_aload_n C 1 d_La_law_289 rfl rfl ?_
  refine hg_iload C 0 d_La_law_290 rfl ?_
  refine hg_iconst (v := 3) C d_La_law_292 (by decide) ?_
  refine hg_iadd C d_La_law_293 ?_
  refine hg_ti (show nI i + 3 = nI (i + 3) from nI_add i 3) ?_
  refine hg_sld (i := i + 3) C hX0 hbl hbA (by omega) (by omega) d_La_law_294 ?_
  refine hg_aload_n C 1 d_La_law_295 rfl rfl ?_
  refine hg_iload C 0 d_La_law_296 rfl ?_
  refine hg_iconst (v := 4) C d_La_law_298 (by decide) ?_
  refine hg_iadd C d_La_law_299 ?_
  refine hg_ti (show nI i + 4 = nI (i + 4) from nI_add i 4) ?_
  refine hg_sld (i := i + 4) C hX0 hbl hbA (by omega) (by omega) d_La_law_300 ?_
  refine hg_aload_n C 4 d_La_law_301 rfl rfl ?_
  refine hg_SXF (h1 := hp_up hX ao (OUTC Γ g)) C (LB_s H) (k_La_set l hl9 Γ hX ad M H.2.1 hI ao H.2.2.2.2.2.2.1 g (xs (i + 1)) (xs (i + 2)) (xs (i + 3)) (xs (i + 4))) (cw_La_100 C.2.2.2.2.1 rfl rfl ⟨Nat.le_of_ble_eq_true rfl, Nat.le_of_ble_eq_true rfl⟩) rfl rfl (Nat.le_of_ble_eq_true rfl) d_La_law_302 ⟨by show cells + 5 ≤ 601024; omega, by show slots + 31 ≤ 7293034; omega⟩ (fun r9 w9 hq hd => ?_)
  rw [← eS] at hq
  obtain ⟨rfl, u, ad', g', ha', hcr, hua, rfl, hg0⟩ := hq
  have H2 := LB_w H ha' hcr hua hd
  obtain ⟨h2, eh2⟩ : ∃ z, z = mrg (hp_up u ao (OUTC Γ g')) h (hp_up hX ao (OUTC Γ g)) := ⟨_, rfl⟩
  rw [← eh2] at H2
  refine hg_eq eh2.symm ?_
  refine hg_istore (lv' := [(5, .int S9.1), (4, .int (nI i)), (0, .ref b), (1, .ref (ad 0 0)), (2, .ref r), (3, .ref ao)]) C d_La_law_305 (by decide) rfl ?_
  refine hg_aload_n C 4 d_La_law_307 rfl rfl ?_
  refine hg_aload_n C 2 d_La_law_308 rfl rfl ?_
  refine hg_iload C 1 d_La_law_309 rfl ?_
  refine hg_iconst (v := 1) C d_La_law_311 (by decide) ?_
  refine hg_iadd C d_La_law_312 ?_
  refine hg_ti (show nI i + 1 = nI (i + 1) from nI_add i 1) ?_
  refine hg_sld (i := i + 1) C hX0 hbl hbA (by omega) (by omega) d_La_law_313 ?_
  refine hg_aload_n C 2 d_La_law_314 rfl rfl ?_
  refine hg_iload C 1 d_La_law_315 rfl ?_
  refine hg_iconst (v := 2) C d_La_law_317 (by decide) ?_
  refine hg_iadd C d_La_law_318 ?_
  refine hg_ti (show nI i + 2 = nI (i + 2) from nI_add i 2) ?_
  refine hg_sld (i := i + 2) C hX0 hbl hbA (by omega) (by omega) d_La_law_319 ?_
  refine hg_aload_n C 2 d_La_law_320 rfl rfl ?_
  refine hg_iload C 1 d_La_law_321 rfl ?_
  refine hg_iconst (v := 3) C d_La_law_323 (by decide) ?_
  refine hg_iadd C d_La_law_324 ?_
  refine hg_ti (show nI i + 3 = nI (i + 3) from nI_add i 3) ?_
  refine hg_sld (i := i + 3) C hX0 hbl hbA (by omega) (by omega) d_La_law_325 ?_
  refine hg_aload_n C 2 d_La_law_326 rfl rfl ?_
  refine hg_iload C 1 d_La_law_327 rfl ?_
  refine hg_iconst (v := 4) C d_La_law_329 (by decide) ?_
  refine hg_iadd C d_La_law_330 ?_
  refine hg_ti (show nI i + 4 = nI (i + 4) from nI_add i 4) ?_
  refine hg_sld (i := i + 4) C hX0 hbl hbA (by omega) (by omega) d_La_law_331 ?_
  refine hg_VNF (q := ("ModelMergeModel", T_Rf, 31)) (h1 := hM) C H2.2.2.2.2.1 (k_Rf_set l Γ hM r aa M H2.2.2.1 hI.1 (xs (i + 1)) (xs (i + 2)) (xs (i + 3)) (xs (i + 4))) (cw_La_103 C.2.2.2.2.1 rfl rfl ⟨Nat.le_of_ble_eq_true rfl, Nat.le_of_ble_eq_true rfl⟩) H2.2.2.1.1 rfl rfl rfl (Nat.le_of_ble_eq_true rfl) d_La_law_332 ⟨by show cells + 5 + 0 ≤ 601024; omega, by show slots + 31 + 0 ≤ 7293034; omega⟩ (fun r9 v9 hq hd => ?_)
  rw [← eS] at hq
  obtain ⟨rfl, hrf⟩ := hq
  have H3 := LB_r H2 hrf hd
  obtain ⟨h3, eh3⟩ : ∃ z, z = mrg v9 h2 hM := ⟨_, rfl⟩
  rw [← eh3] at H3
  refine hg_eq eh3.symm ?_
  refine hg_istore (lv' := [(6, .int S9.2.1), (5, .int S9.1), (4, .int (nI i)), (0, .ref b), (1, .ref (ad 0 0)), (2, .ref r), (3, .ref ao)]) C d_La_law_335 (by decide) rfl ?_
  refine hg_aload_n C 5 d_La_law_337 rfl rfl ?_
  refine hg_VNF (q := ("ModelMergeModel", T_Rf, 31)) (h1 := v9) C H3.2.2.2.2.1 (k_Rf_thrown l Γ v9 r aa S9.2.2 H3.2.2.1) (cw_La_94 C.2.2.2.2.1 rfl rfl ⟨Nat.le_of_ble_eq_true rfl, Nat.le_of_ble_eq_true rfl⟩) H3.2.2.1.1 rfl rfl rfl (Nat.le_of_ble_eq_true rfl) d_La_law_338 ⟨by show cells + 5 + 0 + 0 ≤ 601024; omega, by show slots + 31 + 0 + 0 ≤ 7293034; omega⟩ (fun r9 w9 hq _ => ?_)
  obtain ⟨rfl, rfl, -⟩ := hq
  refine hg_eq (mrg_self H3.2.2.2.2.1) ?_
  refine hg_ti hcd0 ?_
  have hcd : S9.1 = S9.1 := rfl
  refine hg_iload C 1 d_La_law_341 rfl ?_
  refine hg_icmp_eq C 348 d_La_law_343 (by decide) (fun _ => ?_) (fun z => absurd hcd z)
  refine hg_iload C 1 d_La_law_348 rfl ?_
  refine hg_if_ne C 365 d_La_law_350 (by decide) (fun _ => ?_) (fun z0 => ?_)
  · refine hg_goto C 1648 d_La_law_365 (by decide) ?_
    refine hg_lv (ks := [2, 3, 4, 5, 6]) (lv' := [(4, .int (nI i)), (0, .ref b), (1, .ref (ad 0 0)), (2, .ref r), (3, .ref ao)]) rfl ?_
    exact hg_widen (by omega) (by omega) (kq S9.2.2 h3 hIn ⟨ad', aa, u, _, g', H3⟩)
  · refine hg_aload_n C 6 d_La_law_353 rfl rfl ?_
    refine hg_iconst (v := 0) C d_La_law_354 (by decide) ?_
    refine hg_lald C 1 H3.2.2.2.2.2.2.2.2 rfl (show vp_in (nI 0) 1 from vp_in_nI (by omega) (by omega)) d_La_law_355 ?_
    refine hg_iload C 0 d_La_law_356 rfl ?_
    refine hg_i2l C d_La_law_358 rfl ?_
    refine hg_lcmp C d_La_law_359 ?_
    refine hg_ti (show lg_cmp (g' (0 : Int32).toNatClampNeg) _ = 0 from lcmp_0 (hg0 z0)) ?_
    refine hg_if_eq C 365 d_La_law_360 (by decide) (fun _ => ?_) (fun z => absurd (by decide) z)
    refine hg_goto C 1648 d_La_law_365 (by decide) ?_
    refine hg_lv (ks := [2, 3, 4, 5, 6]) (lv' := [(4, .int (nI i)), (0, .ref b), (1, .ref (ad 0 0)), (2, .ref r), (3, .ref ao)]) rfl ?_
    exact hg_widen (by omega) (by omega) (kq S9.2.2 h3 hIn ⟨ad', aa, u, _, g', H3⟩)
set_option maxHeartbeats 4000000 in
set_option maxRecDepth 100000 in
theorem ct_La_drop (l : Launch) (hl9 : l.stackTraces = false) (Γ : Gam) {p : Program} {e : Env} {s : State} {m : MethodId} {args : Array Value} {below : List Frame} {meth : Method} {c : Code} {A : Nat → Prop} {Q : State → Prop} (C : hp_C p s m args meth c b_La_law 7 "ModelMergeLaw" w_law Γ.1 kcl (ktys Γ.2.1) (ksts Γ.2.2) knws A) {x r ao b L : Nat} {xs : Nat → Int32} (hX0 : va_X b L xs s s.heap) (hbl : b < s.heap.size) (hbA : ¬ A b) {i : Nat} (hi : i + 5 ≤ L) (hL : L ≤ 2560) {M : Mem} (hI : Ivr M) {h : Pic} (hLA : LA Γ x r ao M h) {cells slots : Nat} (hc9 : cells + 10 ≤ 601024) (hs9 : slots + 800 ≤ 7293034) (kq : ∀ (M' : Mem) (h' : Pic), Ivr M' → LA Γ x r ao M' h' → hp_G p l e room_1 s m args below meth c Γ.1 kcl A 7 Q (cells + 10) (slots + 800) 1648 [(4, .int (nI i)), (0, .ref b), (1, .ref x), (2, .ref r), (3, .ref ao)] [] h') :
    hp_G p l e room_1 s m args below meth c Γ.1 kcl A 7 Q cells slots 368 [(4, .int (nI i)), (0, .ref b), (1, .ref x), (2, .ref r), (3, .ref ao)] [] h := by
  obtain ⟨ad, aa, hX, hM, g, H⟩ := hLA
  have hax := H.1
  subst hax
  obtain ⟨S9, eS⟩ : ∃ z, z = (sp_drop M (xs (i + 1)) (xs (i + 2))) := ⟨_, rfl⟩
  have hIn : Ivr S9.2.2 := by rw [eS]; exact iv_drop hI (xs (i + 1)) (xs (i + 2))
  have hcd0 : S9.2.2 0 0 = S9.1 := by rw [eS]; exact cd_drop (xs (i + 1)) (xs (i + 2))
  refine hg_aload_n C 2 d_La_law_368 rfl rfl ?_
  refine hg_aload_n C 1 d_La_law_369 rfl rfl ?_
  refine hg_iload C 0 d_La_law_370 rfl ?_
  refine hg_iconst (v := 1) C d_La_law_372 (by decide) ?_
  refine hg_iadd C d_La_law_373 ?_
  refine hg_ti (show nI i + 1 = nI (i + 1) from nI_add i 1) ?_
  refine hg_sld (i := i + 1) C hX0 hbl hbA (by omega) (by omega) d_La_law_374 ?_
  refine hg_aload_n C 1 d_La_law_375 rfl rfl ?_
  refine hg_iload C 0 d_La_law_376 rfl ?_
  refine hg_iconst (v := 2) C d_La_law_378 (by decide) ?_
  refine hg_iadd C d_La_law_379 ?_
  refine hg_ti (show nI i + 2 = nI (i + 2) from nI_add i 2) ?_
  refine hg_sld (i := i + 2) C hX0 hbl hbA (by omega) (by omega) d_La_law_380 ?_
  refine hg_aload_n C 4 d_La_law_381 rfl rfl ?_
  refine hg_SXF (h1 := hp_up hX ao (OUTC Γ g)) C (LB_s H) (k_La_drop l hl9 Γ hX ad M H.2.1 hI ao H.2.2.2.2.2.2.1 g (xs (i + 1)) (xs (i + 2))) (cw_La_104 C.2.2.2.2.1 rfl rfl ⟨Nat.le_of_ble_eq_true rfl, Nat.le_of_ble_eq_true rfl⟩) rfl rfl (Nat.le_of_ble_eq_true rfl) d_La_law_382 ⟨by show cells + 4 ≤ 601024; omega, by show slots + 25 ≤ 7293034; omega⟩ (fun r9 w9 hq hd => ?_)
  rw [← eS] at hq
  obtain ⟨rfl, u, ad', g', ha', hcr, hua, rfl, hg0⟩ := hq
  have H2 := LB_w H ha' hcr hua hd
  obtain ⟨h2, eh2⟩ : ∃ z, z = mrg (hp_up u ao (OUTC Γ g')) h (hp_up hX ao (OUTC Γ g)) := ⟨_, rfl⟩
  rw [← eh2] at H2
  refine hg_eq eh2.symm ?_
  refine hg_istore (lv' := [(5, .int S9.1), (4, .int (nI i)), (0, .ref b), (1, .ref (ad 0 0)), (2, .ref r), (3, .ref ao)]) C d_La_law_385 (by decide) rfl ?_
  refine hg_aload_n C 4 d_La_law_387 rfl rfl ?_
  refine hg_aload_n C 2 d_La_law_388 rfl rfl ?_
  refine hg_iload C 1 d_La_law_389 rfl ?_
  refine hg_iconst (v := 1) C d_La_law_391 (by decide) ?_
  refine hg_iadd C d_La_law_392 ?_
  refine hg_ti (show nI i + 1 = nI (i + 1) from nI_add i 1) ?_
  refine hg_sld (i := i + 1) C hX0 hbl hbA (by omega) (by omega) d_La_law_393 ?_
  refine hg_aload_n C 2 d_La_law_394 rfl rfl ?_
  refine hg_iload C 1 d_La_law_395 rfl ?_
  refine hg_iconst (v := 2) C d_La_law_397 (by decide) ?_
  refine hg_iadd C d_La_law_398 ?_
  refine hg_ti (show nI i + 2 = nI (i + 2) from nI_add i 2) ?_
  refine hg_sld (i := i + 2) C hX0 hbl hbA (by omega) (by omega) d_La_law_399 ?_
  refine hg_VNF (q := ("ModelMergeModel", T_Rf, 31)) (h1 := hM) C H2.2.2.2.2.1 (k_Rf_drop l Γ hM r aa M H2.2.2.1 hI.1 (xs (i + 1)) (xs (i + 2))) (cw_La_106 C.2.2.2.2.1 rfl rfl ⟨Nat.le_of_ble_eq_true rfl, Nat.le_of_ble_eq_true rfl⟩) H2.2.2.1.1 rfl rfl rfl (Nat.le_of_ble_eq_true rfl) d_La_law_400 ⟨by show cells + 4 + 0 ≤ 601024; omega, by show slots + 25 + 0 ≤ 7293034; omega⟩ (fun r9 v9 hq hd => ?_)
  rw [← eS] at hq
  obtain ⟨rfl, hrf⟩ := hq
  have H3 := LB_r H2 hrf hd
  obtain ⟨h3, eh3⟩ : ∃ z, z = mrg v9 h2 hM := ⟨_, rfl⟩
  rw [← eh3] at H3
  refine hg_eq eh3.symm ?_
  refine hg_istore (lv' := [(6, .int S9.2.1), (5, .int S9.1), (4, .int (nI i)), (0, .ref b), (1, .ref (ad 0 0)), (2, .ref r), (3, .ref ao)]) C d_La_law_403 (by decide) rfl ?_
  refine hg_aload_n C 5 d_La_law_405 rfl rfl ?_
  refine hg_VNF (q := ("ModelMergeModel", T_Rf, 31)) (h1 := v9) C H3.2.2.2.2.1 (k_Rf_thrown l Γ v9 r aa S9.2.2 H3.2.2.1) (cw_La_94 C.2.2.2.2.1 rfl rfl ⟨Nat.le_of_ble_eq_true rfl, Nat.le_of_ble_eq_true rfl⟩) H3.2.2.1.1 rfl rfl rfl (Nat.le_of_ble_eq_true rfl) d_La_law_406 ⟨by show cells + 4 + 0 + 0 ≤ 601024; omega, by show slots + 25 + 0 + 0 ≤ 7293034; omega⟩ (fun r9 w9 hq _ => ?_)
  obtain ⟨rfl, rfl, -⟩ := hq
  refine hg_eq (mrg_self H3.2.2.2.2.1) ?_
  refine hg_ti hcd0 ?_
  have hcd : S9.1 = S9.1 := rfl
  refine hg_iload C 1 d_La_law_409 rfl ?_
  refine hg_icmp_eq C 416 d_La_law_411 (by decide) (fun _ => ?_) (fun z => absurd hcd z)
  refine hg_iload C 1 d_La_law_416 rfl ?_
  refine hg_if_ne C 433 d_La_law_418 (by decide) (fun _ => ?_) (fun z0 => ?_)
  · refine hg_goto C 1648 d_La_law_433 (by decide) ?_
    refine hg_lv (ks := [2, 3, 4, 5, 6]) (lv' := [(4, .int (nI i)), (0, .ref b), (1, .ref (ad 0 0)), (2, .ref r), (3, .ref ao)]) rfl ?_
    exact hg_widen (by omega) (by omega) (kq S9.2.2 h3 hIn ⟨ad', aa, u, _, g', H3⟩)
  · refine hg_aload_n C 6 d_La_law_421 rfl rfl ?_
    refine hg_iconst (v := 0) C d_La_law_422 (by decide) ?_
    refine hg_lald C 1 H3.2.2.2.2.2.2.2.2 rfl (show vp_in (nI 0) 1 from vp_in_nI (by omega) (by omega)) d_La_law_423 ?_
    refine hg_iload C 0 d_La_law_424 rfl ?_
    refine hg_i2l C d_La_law_426 rfl ?_
    refine hg_lcmp C d_La_law_427 ?_
    refine hg_ti (show lg_cmp (g' (0 : Int32).toNatClampNeg) _ = 0 from lcmp_0 (hg0 z0)) ?_
    refine hg_if_eq C 433 d_La_law_428 (by decide) (fun _ => ?_) (fun z => absurd (by decide) z)
    refine hg_goto C 1648 d_La_law_433 (by decide) ?_
    refine hg_lv (ks := [2, 3, 4, 5, 6]) (lv' := [(4, .int (nI i)), (0, .ref b), (1, .ref (ad 0 0)), (2, .ref r), (3, .ref ao)]) rfl ?_
    exact hg_widen (by omega) (by omega) (kq S9.2.2 h3 hIn ⟨ad', aa, u, _, g', H3⟩)
set_option maxHeartbeats 4000000 in
set_option maxRecDepth 100000 in
theorem ct_La_undo (l : Launch) (hl9 : l.stackTraces = false) (Γ : Gam) {p : Program} {e : Env} {s : State} {m : MethodId} {args : Array Value} {below : List Frame} {meth : Method} {c : Code} {A : Nat → Prop} {Q : State → Prop} (C : hp_C p s m args meth c b_La_law 7 "ModelMergeLaw" w_law Γ.1 kcl (ktys Γ.2.1) (ksts Γ.2.2) knws A) {x r ao b L : Nat} {xs : Nat → Int32} (hX0 : va_X b L xs s s.heap) (hbl : b < s.heap.size) (hbA : ¬ A b) {i : Nat} (hi : i + 5 ≤ L) (hL : L ≤ 2560) {M : Mem} (hI : Ivr M) {h : Pic} (hLA : LA Γ x r ao M h) {cells slots : Nat} (hc9 : cells + 10 ≤ 601024) (hs9 : slots + 800 ≤ 7293034) (kq : ∀ (M' : Mem) (h' : Pic), Ivr M' → LA Γ x r ao M' h' → hp_G p l e room_1 s m args below meth c Γ.1 kcl A 7 Q (cells + 10) (slots + 800) 1648 [(4, .int (nI i)), (0, .ref b), (1, .ref x), (2, .ref r), (3, .ref ao)] [] h') :
    hp_G p l e room_1 s m args below meth c Γ.1 kcl A 7 Q cells slots 436 [(4, .int (nI i)), (0, .ref b), (1, .ref x), (2, .ref r), (3, .ref ao)] [] h := by
  obtain ⟨ad, aa, hX, hM, g, H⟩ := hLA
  have hax := H.1
  subst hax
  obtain ⟨S9, eS⟩ : ∃ z, z = (sp_undo M (xs (i + 1))) := ⟨_, rfl⟩
  have hIn : Ivr S9.2.2 := by rw [eS]; exact iv_undo hI (xs (i + 1))
  have hcd0 : S9.2.2 0 0 = S9.1 := by rw [eS]; exact cd_undo (xs (i + 1))
  refine hg_aload_n C 2 d_La_law_436 rfl rfl ?_
  refine hg_aload_n C 1 d_La_law_437 rfl rfl ?_
  refine hg_iload C 0 d_La_law_438 rfl ?_
  refine hg_iconst (v := 1) C d_La_law_440 (by decide) ?_
  refine hg_iadd C d_La_law_441 ?_
  refine hg_ti (show nI i + 1 = nI (i + 1) from nI_add i 1) ?_
  refine hg_sld (i := i + 1) C hX0 hbl hbA (by omega) (by omega) d_La_law_442 ?_
  refine hg_aload_n C 4 d_La_law_443 rfl rfl ?_
  refine hg_SXF (h1 := hp_up hX ao (OUTC Γ g)) C (LB_s H) (k_La_undo l hl9 Γ hX ad M H.2.1 hI ao H.2.2.2.2.2.2.1 g (xs (i + 1))) (cw_La_107 C.2.2.2.2.1 rfl rfl ⟨Nat.le_of_ble_eq_true rfl, Nat.le_of_ble_eq_true rfl⟩) rfl rfl (Nat.le_of_ble_eq_true rfl) d_La_law_444 ⟨by show cells + 2 ≤ 601024; omega, by show slots + 12 ≤ 7293034; omega⟩ (fun r9 w9 hq hd => ?_)
  rw [← eS] at hq
  obtain ⟨rfl, u, ad', g', ha', hcr, hua, rfl, hg0⟩ := hq
  have H2 := LB_w H ha' hcr hua hd
  obtain ⟨h2, eh2⟩ : ∃ z, z = mrg (hp_up u ao (OUTC Γ g')) h (hp_up hX ao (OUTC Γ g)) := ⟨_, rfl⟩
  rw [← eh2] at H2
  refine hg_eq eh2.symm ?_
  refine hg_istore (lv' := [(5, .int S9.1), (4, .int (nI i)), (0, .ref b), (1, .ref (ad 0 0)), (2, .ref r), (3, .ref ao)]) C d_La_law_447 (by decide) rfl ?_
  refine hg_aload_n C 4 d_La_law_449 rfl rfl ?_
  refine hg_aload_n C 2 d_La_law_450 rfl rfl ?_
  refine hg_iload C 1 d_La_law_451 rfl ?_
  refine hg_iconst (v := 1) C d_La_law_453 (by decide) ?_
  refine hg_iadd C d_La_law_454 ?_
  refine hg_ti (show nI i + 1 = nI (i + 1) from nI_add i 1) ?_
  refine hg_sld (i := i + 1) C hX0 hbl hbA (by omega) (by omega) d_La_law_455 ?_
  refine hg_VNF (q := ("ModelMergeModel", T_Rf, 31)) (h1 := hM) C H2.2.2.2.2.1 (k_Rf_undo l Γ hM r aa M H2.2.2.1 hI.1 (xs (i + 1))) (cw_La_110 C.2.2.2.2.1 rfl rfl ⟨Nat.le_of_ble_eq_true rfl, Nat.le_of_ble_eq_true rfl⟩) H2.2.2.1.1 rfl rfl rfl (Nat.le_of_ble_eq_true rfl) d_La_law_456 ⟨by show cells + 2 + 0 ≤ 601024; omega, by show slots + 12 + 0 ≤ 7293034; omega⟩ (fun r9 v9 hq hd => ?_)
  rw [← eS] at hq
  obtain ⟨rfl, hrf⟩ := hq
  have H3 := LB_r H2 hrf hd
  obtain ⟨h3, eh3⟩ : ∃ z, z = mrg v9 h2 hM := ⟨_, rfl⟩
  rw [← eh3] at H3
  refine hg_eq eh3.symm ?_
  refine hg_istore (lv' := [(6, .int S9.2.1), (5, .int S9.1), (4, .int (nI i)), (0, .ref b), (1, .ref (ad 0 0)), (2, .ref r), (3, .ref ao)]) C d_La_law_459 (by decide) rfl ?_
  refine hg_aload_n C 5 d_La_law_461 rfl rfl ?_
  refine hg_VNF (q := ("ModelMergeModel", T_Rf, 31)) (h1 := v9) C H3.2.2.2.2.1 (k_Rf_thrown l Γ v9 r aa S9.2.2 H3.2.2.1) (cw_La_94 C.2.2.2.2.1 rfl rfl ⟨Nat.le_of_ble_eq_true rfl, Nat.le_of_ble_eq_true rfl⟩) H3.2.2.1.1 rfl rfl rfl (Nat.le_of_ble_eq_true rfl) d_La_law_462 ⟨by show cells + 2 + 0 + 0 ≤ 601024; omega, by show slots + 12 + 0 + 0 ≤ 7293034; omega⟩ (fun r9 w9 hq _ => ?_)
  obtain ⟨rfl, rfl, -⟩ := hq
  refine hg_eq (mrg_self H3.2.2.2.2.1) ?_
  refine hg_ti hcd0 ?_
  have hcd : S9.1 = S9.1 := rfl
  refine hg_iload C 1 d_La_law_465 rfl ?_
  refine hg_icmp_eq C 472 d_La_law_467 (by decide) (fun _ => ?_) (fun z => absurd hcd z)
  refine hg_iload C 1 d_La_law_472 rfl ?_
  refine hg_if_ne C 489 d_La_law_474 (by decide) (fun _ => ?_) (fun z0 => ?_)
  · refine hg_goto C 1648 d_La_law_489 (by decide) ?_
    refine hg_lv (ks := [2, 3, 4, 5, 6]) (lv' := [(4, .int (nI i)), (0, .ref b), (1, .ref (ad 0 0)), (2, .ref r), (3, .ref ao)]) rfl ?_
    exact hg_widen (by omega) (by omega) (kq S9.2.2 h3 hIn ⟨ad', aa, u, _, g', H3⟩)
  · refine hg_aload_n C 6 d_La_law_477 rfl rfl ?_
    refine hg_iconst (v := 0) C d_La_law_478 (by decide) ?_
    refine hg_lald C 1 H3.2.2.2.2.2.2.2.2 rfl (show vp_in (nI 0) 1 from vp_in_nI (by omega) (by omega)) d_La_law_479 ?_
    refine hg_iload C 0 d_La_law_480 rfl ?_
    refine hg_i2l C d_La_law_482 rfl ?_
    refine hg_lcmp C d_La_law_483 ?_
    refine hg_ti (show lg_cmp (g' (0 : Int32).toNatClampNeg) _ = 0 from lcmp_0 (hg0 z0)) ?_
    refine hg_if_eq C 489 d_La_law_484 (by decide) (fun _ => ?_) (fun z => absurd (by decide) z)
    refine hg_goto C 1648 d_La_law_489 (by decide) ?_
    refine hg_lv (ks := [2, 3, 4, 5, 6]) (lv' := [(4, .int (nI i)), (0, .ref b), (1, .ref (ad 0 0)), (2, .ref r), (3, .ref ao)]) rfl ?_
    exact hg_widen (by omega) (by omega) (kq S9.2.2 h3 hIn ⟨ad', aa, u, _, g', H3⟩)
set_option maxHeartbeats 4000000 in
set_option maxRecDepth 100000 in
theorem ct_La_redo (l : Launch) (hl9 : l.stackTraces = false) (Γ : Gam) {p : Program} {e : Env} {s : State} {m : MethodId} {args : Array Value} {below : List Frame} {meth : Method} {c : Code} {A : Nat → Prop} {Q : State → Prop} (C : hp_C p s m args meth c b_La_law 7 "ModelMergeLaw" w_law Γ.1 kcl (ktys Γ.2.1) (ksts Γ.2.2) knws A) {x r ao b L : Nat} {xs : Nat → Int32} (hX0 : va_X b L xs s s.heap) (hbl : b < s.heap.size) (hbA : ¬ A b) {i : Nat} (hi : i + 5 ≤ L) (hL : L ≤ 2560) {M : Mem} (hI : Ivr M) {h : Pic} (hLA : LA Γ x r ao M h) {cells slots : Nat} (hc9 : cells + 10 ≤ 601024) (hs9 : slots + 800 ≤ 7293034) (kq : ∀ (M' : Mem) (h' : Pic), Ivr M' → LA Γ x r ao M' h' → hp_G p l e room_1 s m args below meth c Γ.1 kcl A 7 Q (cells + 10) (slots + 800) 1648 [(4, .int (nI i)), (0, .ref b), (1, .ref x), (2, .ref r), (3, .ref ao)] [] h') :
    hp_G p l e room_1 s m args below meth c Γ.1 kcl A 7 Q cells slots 492 [(4, .int (nI i)), (0, .ref b), (1, .ref x), (2, .ref r), (3, .ref ao)] [] h := by
  obtain ⟨ad, aa, hX, hM, g, H⟩ := hLA
  have hax := H.1
  subst hax
  obtain ⟨S9, eS⟩ : ∃ z, z = (sp_redo M (xs (i + 1))) := ⟨_, rfl⟩
  have hIn : Ivr S9.2.2 := by rw [eS]; exact iv_redo hI (xs (i + 1))
  have hcd0 : S9.2.2 0 0 = S9.1 := by rw [eS]; exact cd_redo (xs (i + 1))
  refine hg_aload_n C 2 d_La_law_492 rfl rfl ?_
  refine hg_aload_n C 1 d_La_law_493 rfl rfl ?_
  refine hg_iload C 0 d_La_law_494 rfl ?_
  refine hg_iconst (v := 1) C d_La_law_496 (by decide) ?_
  refine hg_iadd C d_La_law_497 ?_
  refine hg_ti (show nI i + 1 = nI (i + 1) from nI_add i 1) ?_
  refine hg_sld (i := i + 1) C hX0 hbl hbA (by omega) (by omega) d_La_law_498 ?_
  refine hg_aload_n C 4 d_La_law_499 rfl rfl ?_
  refine hg_SXF (h1 := hp_up hX ao (OUTC Γ g)) C (LB_s H) (k_La_redo l hl9 Γ hX ad M H.2.1 hI ao H.2.2.2.2.2.2.1 g (xs (i + 1))) (cw_La_111 C.2.2.2.2.1 rfl rfl ⟨Nat.le_of_ble_eq_true rfl, Nat.le_of_ble_eq_true rfl⟩) rfl rfl (Nat.le_of_ble_eq_true rfl) d_La_law_500 ⟨by show cells + 2 ≤ 601024; omega, by show slots + 12 ≤ 7293034; omega⟩ (fun r9 w9 hq hd => ?_)
  rw [← eS] at hq
  obtain ⟨rfl, u, ad', g', ha', hcr, hua, rfl, hg0⟩ := hq
  have H2 := LB_w H ha' hcr hua hd
  obtain ⟨h2, eh2⟩ : ∃ z, z = mrg (hp_up u ao (OUTC Γ g')) h (hp_up hX ao (OUTC Γ g)) := ⟨_, rfl⟩
  rw [← eh2] at H2
  refine hg_eq eh2.symm ?_
  refine hg_istore (lv' := [(5, .int S9.1), (4, .int (nI i)), (0, .ref b), (1, .ref (ad 0 0)), (2, .ref r), (3, .ref ao)]) C d_La_law_503 (by decide) rfl ?_
  refine hg_aload_n C 4 d_La_law_505 rfl rfl ?_
  refine hg_aload_n C 2 d_La_law_506 rfl rfl ?_
  refine hg_iload C 1 d_La_law_507 rfl ?_
  refine hg_iconst (v := 1) C d_La_law_509 (by decide) ?_
  refine hg_iadd C d_La_law_510 ?_
  refine hg_ti (show nI i + 1 = nI (i + 1) from nI_add i 1) ?_
  refine hg_sld (i := i + 1) C hX0 hbl hbA (by omega) (by omega) d_La_law_511 ?_
  refine hg_VNF (q := ("ModelMergeModel", T_Rf, 31)) (h1 := hM) C H2.2.2.2.2.1 (k_Rf_redo l Γ hM r aa M H2.2.2.1 hI.1 (xs (i + 1))) (cw_La_113 C.2.2.2.2.1 rfl rfl ⟨Nat.le_of_ble_eq_true rfl, Nat.le_of_ble_eq_true rfl⟩) H2.2.2.1.1 rfl rfl rfl (Nat.le_of_ble_eq_true rfl) d_La_law_512 ⟨by show cells + 2 + 0 ≤ 601024; omega, by show slots + 12 + 0 ≤ 7293034; omega⟩ (fun r9 v9 hq hd => ?_)
  rw [← eS] at hq
  obtain ⟨rfl, hrf⟩ := hq
  have H3 := LB_r H2 hrf hd
  obtain ⟨h3, eh3⟩ : ∃ z, z = mrg v9 h2 hM := ⟨_, rfl⟩
  rw [← eh3] at H3
  refine hg_eq eh3.symm ?_
  refine hg_istore (lv' := [(6, .int S9.2.1), (5, .int S9.1), (4, .int (nI i)), (0, .ref b), (1, .ref (ad 0 0)), (2, .ref r), (3, .ref ao)]) C d_La_law_515 (by decide) rfl ?_
  refine hg_aload_n C 5 d_La_law_517 rfl rfl ?_
  refine hg_VNF (q := ("ModelMergeModel", T_Rf, 31)) (h1 := v9) C H3.2.2.2.2.1 (k_Rf_thrown l Γ v9 r aa S9.2.2 H3.2.2.1) (cw_La_94 C.2.2.2.2.1 rfl rfl ⟨Nat.le_of_ble_eq_true rfl, Nat.le_of_ble_eq_true rfl⟩) H3.2.2.1.1 rfl rfl rfl (Nat.le_of_ble_eq_true rfl) d_La_law_518 ⟨by show cells + 2 + 0 + 0 ≤ 601024; omega, by show slots + 12 + 0 + 0 ≤ 7293034; omega⟩ (fun r9 w9 hq _ => ?_)
  obtain ⟨rfl, rfl, -⟩ := hq
  refine hg_eq (mrg_self H3.2.2.2.2.1) ?_
  refine hg_ti hcd0 ?_
  have hcd : S9.1 = S9.1 := rfl
  refine hg_iload C 1 d_La_law_521 rfl ?_
  refine hg_icmp_eq C 528 d_La_law_523 (by decide) (fun _ => ?_) (fun z => absurd hcd z)
  refine hg_iload C 1 d_La_law_528 rfl ?_
  refine hg_if_ne C 545 d_La_law_530 (by decide) (fun _ => ?_) (fun z0 => ?_)
  · refine hg_goto C 1648 d_La_law_545 (by decide) ?_
    refine hg_lv (ks := [2, 3, 4, 5, 6]) (lv' := [(4, .int (nI i)), (0, .ref b), (1, .ref (ad 0 0)), (2, .ref r), (3, .ref ao)]) rfl ?_
    exact hg_widen (by omega) (by omega) (kq S9.2.2 h3 hIn ⟨ad', aa, u, _, g', H3⟩)
  · refine hg_aload_n C 6 d_La_law_533 rfl rfl ?_
    refine hg_iconst (v := 0) C d_La_law_534 (by decide) ?_
    refine hg_lald C 1 H3.2.2.2.2.2.2.2.2 rfl (show vp_in (nI 0) 1 from vp_in_nI (by omega) (by omega)) d_La_law_535 ?_
    refine hg_iload C 0 d_La_law_536 rfl ?_
    refine hg_i2l C d_La_law_538 rfl ?_
    refine hg_lcmp C d_La_law_539 ?_
    refine hg_ti (show lg_cmp (g' (0 : Int32).toNatClampNeg) _ = 0 from lcmp_0 (hg0 z0)) ?_
    refine hg_if_eq C 545 d_La_law_540 (by decide) (fun _ => ?_) (fun z => absurd (by decide) z)
    refine hg_goto C 1648 d_La_law_545 (by decide) ?_
    refine hg_lv (ks := [2, 3, 4, 5, 6]) (lv' := [(4, .int (nI i)), (0, .ref b), (1, .ref (ad 0 0)), (2, .ref r), (3, .ref ao)]) rfl ?_
    exact hg_widen (by omega) (by omega) (kq S9.2.2 h3 hIn ⟨ad', aa, u, _, g', H3⟩)
set_option maxHeartbeats 4000000 in
set_option maxRecDepth 100000 in
theorem ct_La_lock (l : Launch) (hl9 : l.stackTraces = false) (Γ : Gam) {p : Program} {e : Env} {s : State} {m : MethodId} {args : Array Value} {below : List Frame} {meth : Method} {c : Code} {A : Nat → Prop} {Q : State → Prop} (C : hp_C p s m args meth c b_La_law 7 "ModelMergeLaw" w_law Γ.1 kcl (ktys Γ.2.1) (ksts Γ.2.2) knws A) {x r ao b L : Nat} {xs : Nat → Int32} (hX0 : va_X b L xs s s.heap) (hbl : b < s.heap.size) (hbA : ¬ A b) {i : Nat} (hi : i + 5 ≤ L) (hL : L ≤ 2560) {M : Mem} (hI : Ivr M) {h : Pic} (hLA : LA Γ x r ao M h) {cells slots : Nat} (hc9 : cells + 10 ≤ 601024) (hs9 : slots + 800 ≤ 7293034) (kq : ∀ (M' : Mem) (h' : Pic), Ivr M' → LA Γ x r ao M' h' → hp_G p l e room_1 s m args below meth c Γ.1 kcl A 7 Q (cells + 10) (slots + 800) 1648 [(4, .int (nI i)), (0, .ref b), (1, .ref x), (2, .ref r), (3, .ref ao)] [] h') :
    hp_G p l e room_1 s m args below meth c Γ.1 kcl A 7 Q cells slots 548 [(4, .int (nI i)), (0, .ref b), (1, .ref x), (2, .ref r), (3, .ref ao)] [] h := by
  obtain ⟨ad, aa, hX, hM, g, H⟩ := hLA
  have hax := H.1
  subst hax
  obtain ⟨S9, eS⟩ : ∃ z, z = (sp_lock M (xs (i + 1)) (xs (i + 2))) := ⟨_, rfl⟩
  have hIn : Ivr S9.2.2 := by rw [eS]; exact iv_lock hI (xs (i + 1)) (xs (i + 2))
  have hcd0 : S9.2.2 0 0 = S9.1 := by rw [eS]; exact cd_lock (xs (i + 1)) (xs (i + 2))
  refine hg_aload_n C 2 d_La_law_548 rfl rfl ?_
  refine hg_aload_n C 1 d_La_law_549 rfl rfl ?_
  refine hg_iload C 0 d_La_law_550 rfl ?_
  refine hg_iconst (v := 1) C d_La_law_552 (by decide) ?_
  refine hg_iadd C d_La_law_553 ?_
  refine hg_ti (show nI i + 1 = nI (i + 1) from nI_add i 1) ?_
  refine hg_sld (i := i + 1) C hX0 hbl hbA (by omega) (by omega) d_La_law_554 ?_
  refine hg_aload_n C 1 d_La_law_555 rfl rfl ?_
  refine hg_iload C 0 d_La_law_556 rfl ?_
  refine hg_iconst (v := 2) C d_La_law_558 (by decide) ?_
  refine hg_iadd C d_La_law_559 ?_
  refine hg_ti (show nI i + 2 = nI (i + 2) from nI_add i 2) ?_
  refine hg_sld (i := i + 2) C hX0 hbl hbA (by omega) (by omega) d_La_law_560 ?_
  refine hg_aload_n C 4 d_La_law_561 rfl rfl ?_
  refine hg_SXF (h1 := hp_up hX ao (OUTC Γ g)) C (LB_s H) (k_La_lock l hl9 Γ hX ad M H.2.1 hI ao H.2.2.2.2.2.2.1 g (xs (i + 1)) (xs (i + 2))) (cw_La_114 C.2.2.2.2.1 rfl rfl ⟨Nat.le_of_ble_eq_true rfl, Nat.le_of_ble_eq_true rfl⟩) rfl rfl (Nat.le_of_ble_eq_true rfl) d_La_law_562 ⟨by show cells + 2 ≤ 601024; omega, by show slots + 12 ≤ 7293034; omega⟩ (fun r9 w9 hq hd => ?_)
  rw [← eS] at hq
  obtain ⟨rfl, u, ad', g', ha', hcr, hua, rfl, hg0⟩ := hq
  have H2 := LB_w H ha' hcr hua hd
  obtain ⟨h2, eh2⟩ : ∃ z, z = mrg (hp_up u ao (OUTC Γ g')) h (hp_up hX ao (OUTC Γ g)) := ⟨_, rfl⟩
  rw [← eh2] at H2
  refine hg_eq eh2.symm ?_
  refine hg_istore (lv' := [(5, .int S9.1), (4, .int (nI i)), (0, .ref b), (1, .ref (ad 0 0)), (2, .ref r), (3, .ref ao)]) C d_La_law_565 (by decide) rfl ?_
  refine hg_aload_n C 4 d_La_law_567 rfl rfl ?_
  refine hg_aload_n C 2 d_La_law_568 rfl rfl ?_
  refine hg_iload C 1 d_La_law_569 rfl ?_
  refine hg_iconst (v := 1) C d_La_law_571 (by decide) ?_
  refine hg_iadd C d_La_law_572 ?_
  refine hg_ti (show nI i + 1 = nI (i + 1) from nI_add i 1) ?_
  refine hg_sld (i := i + 1) C hX0 hbl hbA (by omega) (by omega) d_La_law_573 ?_
  refine hg_aload_n C 2 d_La_law_574 rfl rfl ?_
  refine hg_iload C 1 d_La_law_575 rfl ?_
  refine hg_iconst (v := 2) C d_La_law_577 (by decide) ?_
  refine hg_iadd C d_La_law_578 ?_
  refine hg_ti (show nI i + 2 = nI (i + 2) from nI_add i 2) ?_
  refine hg_sld (i := i + 2) C hX0 hbl hbA (by omega) (by omega) d_La_law_579 ?_
  refine hg_VNF (q := ("ModelMergeModel", T_Rf, 31)) (h1 := hM) C H2.2.2.2.2.1 (k_Rf_lock l Γ hM r aa M H2.2.2.1 hI.1 (xs (i + 1)) (xs (i + 2))) (cw_La_116 C.2.2.2.2.1 rfl rfl ⟨Nat.le_of_ble_eq_true rfl, Nat.le_of_ble_eq_true rfl⟩) H2.2.2.1.1 rfl rfl rfl (Nat.le_of_ble_eq_true rfl) d_La_law_580 ⟨by show cells + 2 + 0 ≤ 601024; omega, by show slots + 12 + 0 ≤ 7293034; omega⟩ (fun r9 v9 hq hd => ?_)
  rw [← eS] at hq
  obtain ⟨rfl, hrf⟩ := hq
  have H3 := LB_r H2 hrf hd
  obtain ⟨h3, eh3⟩ : ∃ z, z = mrg v9 h2 hM := ⟨_, rfl⟩
  rw [← eh3] at H3
  refine hg_eq eh3.symm ?_
  refine hg_istore (lv' := [(6, .int S9.2.1), (5, .int S9.1), (4, .int (nI i)), (0, .ref b), (1, .ref (ad 0 0)), (2, .ref r), (3, .ref ao)]) C d_La_law_583 (by decide) rfl ?_
  refine hg_aload_n C 5 d_La_law_585 rfl rfl ?_
  refine hg_VNF (q := ("ModelMergeModel", T_Rf, 31)) (h1 := v9) C H3.2.2.2.2.1 (k_Rf_thrown l Γ v9 r aa S9.2.2 H3.2.2.1) (cw_La_94 C.2.2.2.2.1 rfl rfl ⟨Nat.le_of_ble_eq_true rfl, Nat.le_of_ble_eq_true rfl⟩) H3.2.2.1.1 rfl rfl rfl (Nat.le_of_ble_eq_true rfl) d_La_law_586 ⟨by show cells + 2 + 0 + 0 ≤ 601024; omega, by show slots + 12 + 0 + 0 ≤ 7293034; omega⟩ (fun r9 w9 hq _ => ?_)
  obtain ⟨rfl, rfl, -⟩ := hq
  refine hg_eq (mrg_self H3.2.2.2.2.1) ?_
  refine hg_ti hcd0 ?_
  have hcd : S9.1 = S9.1 := rfl
  refine hg_iload C 1 d_La_law_589 rfl ?_
  refine hg_icmp_eq C 596 d_La_law_591 (by decide) (fun _ => ?_) (fun z => absurd hcd z)
  refine hg_iload C 1 d_La_law_596 rfl ?_
  refine hg_if_ne C 613 d_La_law_598 (by decide) (fun _ => ?_) (fun z0 => ?_)
  · refine hg_goto C 1648 d_La_law_613 (by decide) ?_
    refine hg_lv (ks := [2, 3, 4, 5, 6]) (lv' := [(4, .int (nI i)), (0, .ref b), (1, .ref (ad 0 0)), (2, .ref r), (3, .ref ao)]) rfl ?_
    exact hg_widen (by omega) (by omega) (kq S9.2.2 h3 hIn ⟨ad', aa, u, _, g', H3⟩)
  · refine hg_aload_n C 6 d_La_law_601 rfl rfl ?_
    refine hg_iconst (v := 0) C d_La_law_602 (by decide) ?_
    refine hg_lald C 1 H3.2.2.2.2.2.2.2.2 rfl (show vp_in (nI 0) 1 from vp_in_nI (by omega) (by omega)) d_La_law_603 ?_
    refine hg_iload C 0 d_La_law_604 rfl ?_
    refine hg_i2l C d_La_law_606 rfl ?_
    refine hg_lcmp C d_La_law_607 ?_
    refine hg_ti (show lg_cmp (g' (0 : Int32).toNatClampNeg) _ = 0 from lcmp_0 (hg0 z0)) ?_
    refine hg_if_eq C 613 d_La_law_608 (by decide) (fun _ => ?_) (fun z => absurd (by decide) z)
    refine hg_goto C 1648 d_La_law_613 (by decide) ?_
    refine hg_lv (ks := [2, 3, 4, 5, 6]) (lv' := [(4, .int (nI i)), (0, .ref b), (1, .ref (ad 0 0)), (2, .ref r), (3, .ref ao)]) rfl ?_
    exact hg_widen (by omega) (by omega) (kq S9.2.2 h3 hIn ⟨ad', aa, u, _, g', H3⟩)
set_option maxHeartbeats 4000000 in
set_option maxRecDepth 100000 in
theorem ct_La_rule (l : Launch) (hl9 : l.stackTraces = false) (Γ : Gam) {p : Program} {e : Env} {s : State} {m : MethodId} {args : Array Value} {below : List Frame} {meth : Method} {c : Code} {A : Nat → Prop} {Q : State → Prop} (C : hp_C p s m args meth c b_La_law 7 "ModelMergeLaw" w_law Γ.1 kcl (ktys Γ.2.1) (ksts Γ.2.2) knws A) {x r ao b L : Nat} {xs : Nat → Int32} (hX0 : va_X b L xs s s.heap) (hbl : b < s.heap.size) (hbA : ¬ A b) {i : Nat} (hi : i + 5 ≤ L) (hL : L ≤ 2560) {M : Mem} (hI : Ivr M) {h : Pic} (hLA : LA Γ x r ao M h) {cells slots : Nat} (hc9 : cells + 10 ≤ 601024) (hs9 : slots + 800 ≤ 7293034) (kq : ∀ (M' : Mem) (h' : Pic), Ivr M' → LA Γ x r ao M' h' → hp_G p l e room_1 s m args below meth c Γ.1 kcl A 7 Q (cells + 10) (slots + 800) 1648 [(4, .int (nI i)), (0, .ref b), (1, .ref x), (2, .ref r), (3, .ref ao)] [] h') :
    hp_G p l e room_1 s m args below meth c Γ.1 kcl A 7 Q cells slots 616 [(4, .int (nI i)), (0, .ref b), (1, .ref x), (2, .ref r), (3, .ref ao)] [] h := by
  obtain ⟨ad, aa, hX, hM, g, H⟩ := hLA
  have hax := H.1
  subst hax
  obtain ⟨S9, eS⟩ : ∃ z, z = (sp_rule M (xs (i + 1)) (xs (i + 2)) (xs (i + 3))) := ⟨_, rfl⟩
  have hIn : Ivr S9.2.2 := by rw [eS]; exact iv_rule hI (xs (i + 1)) (xs (i + 2)) (xs (i + 3))
  have hcd0 : S9.2.2 0 0 = S9.1 := by rw [eS]; exact cd_rule (xs (i + 1)) (xs (i + 2)) (xs (i + 3))
  refine hg_aload_n C 2 d_La_law_616 rfl rfl ?_
  refine hg_aload_n C 1 d_La_law_617 rfl rfl ?_
  refine hg_iload C 0 d_La_law_618 rfl ?_
  refine hg_iconst (v := 1) C d_La_law_620 (by decide) ?_
  refine hg_iadd C d_La_law_621 ?_
  refine hg_ti (show nI i + 1 = nI (i + 1) from nI_add i 1) ?_
  refine hg_sld (i := i + 1) C hX0 hbl hbA (by omega) (by omega) d_La_law_622 ?_
  refine hg_aload_n C 1 d_La_law_623 rfl rfl ?_
  refine hg_iload C 0 d_La_law_624 rfl ?_
  refine hg_iconst (v := 2) C d_La_law_626 (by decide) ?_
  refine hg_iadd C d_La_law_627 ?_
  refine hg_ti (show nI i + 2 = nI (i + 2) from nI_add i 2) ?_
  refine hg_sld (i := i + 2) C hX0 hbl hbA (by omega) (by omega) d_La_law_628 ?_
  refine hg_aload_n C 1 d_La_law_629 rfl rfl ?_
  refine hg_iload C 0 d_La_law_630 rfl ?_
  refine hg_iconst (v := 3) C d_La_law_632 (by decide) ?_
  refine hg_iadd C d_La_law_633 ?_
  refine hg_ti (show nI i + 3 = nI (i + 3) from nI_add i 3) ?_
  refine hg_sld (i := i + 3) C hX0 hbl hbA (by omega) (by omega) d_La_law_634 ?_
  refine hg_aload_n C 4 d_La_law_635 rfl rfl ?_
  refine hg_SXF (h1 := hp_up hX ao (OUTC Γ g)) C (LB_s H) (k_La_rule l hl9 Γ hX ad M H.2.1 hI ao H.2.2.2.2.2.2.1 g (xs (i + 1)) (xs (i + 2)) (xs (i + 3))) (cw_La_117 C.2.2.2.2.1 rfl rfl ⟨Nat.le_of_ble_eq_true rfl, Nat.le_of_ble_eq_true rfl⟩) rfl rfl (Nat.le_of_ble_eq_true rfl) d_La_law_636 ⟨by show cells + 4 ≤ 601024; omega, by show slots + 24 ≤ 7293034; omega⟩ (fun r9 w9 hq hd => ?_)
  rw [← eS] at hq
  obtain ⟨rfl, u, ad', g', ha', hcr, hua, rfl, hg0⟩ := hq
  have H2 := LB_w H ha' hcr hua hd
  obtain ⟨h2, eh2⟩ : ∃ z, z = mrg (hp_up u ao (OUTC Γ g')) h (hp_up hX ao (OUTC Γ g)) := ⟨_, rfl⟩
  rw [← eh2] at H2
  refine hg_eq eh2.symm ?_
  refine hg_istore (lv' := [(5, .int S9.1), (4, .int (nI i)), (0, .ref b), (1, .ref (ad 0 0)), (2, .ref r), (3, .ref ao)]) C d_La_law_639 (by decide) rfl ?_
  refine hg_aload_n C 4 d_La_law_641 rfl rfl ?_
  refine hg_aload_n C 2 d_La_law_642 rfl rfl ?_
  refine hg_iload C 1 d_La_law_643 rfl ?_
  refine hg_iconst (v := 1) C d_La_law_645 (by decide) ?_
  refine hg_iadd C d_La_law_646 ?_
  refine hg_ti (show nI i + 1 = nI (i + 1) from nI_add i 1) ?_
  refine hg_sld (i := i + 1) C hX0 hbl hbA (by omega) (by omega) d_La_law_647 ?_
  refine hg_aload_n C 2 d_La_law_648 rfl rfl ?_
  refine hg_iload C 1 d_La_law_649 rfl ?_
  refine hg_iconst (v := 2) C d_La_law_651 (by decide) ?_
  refine hg_iadd C d_La_law_652 ?_
  refine hg_ti (show nI i + 2 = nI (i + 2) from nI_add i 2) ?_
  refine hg_sld (i := i + 2) C hX0 hbl hbA (by omega) (by omega) d_La_law_653 ?_
  refine hg_aload_n C 2 d_La_law_654 rfl rfl ?_
  refine hg_iload C 1 d_La_law_655 rfl ?_
  refine hg_iconst (v := 3) C d_La_law_657 (by decide) ?_
  refine hg_iadd C d_La_law_658 ?_
  refine hg_ti (show nI i + 3 = nI (i + 3) from nI_add i 3) ?_
  refine hg_sld (i := i + 3) C hX0 hbl hbA (by omega) (by omega) d_La_law_659 ?_
  refine hg_VNF (q := ("ModelMergeModel", T_Rf, 31)) (h1 := hM) C H2.2.2.2.2.1 (k_Rf_rule l Γ hM r aa M H2.2.2.1 hI.1 (xs (i + 1)) (xs (i + 2)) (xs (i + 3))) (cw_La_120 C.2.2.2.2.1 rfl rfl ⟨Nat.le_of_ble_eq_true rfl, Nat.le_of_ble_eq_true rfl⟩) H2.2.2.1.1 rfl rfl rfl (Nat.le_of_ble_eq_true rfl) d_La_law_660 ⟨by show cells + 4 + 0 ≤ 601024; omega, by show slots + 24 + 0 ≤ 7293034; omega⟩ (fun r9 v9 hq hd => ?_)
  rw [← eS] at hq
  obtain ⟨rfl, hrf⟩ := hq
  have H3 := LB_r H2 hrf hd
  obtain ⟨h3, eh3⟩ : ∃ z, z = mrg v9 h2 hM := ⟨_, rfl⟩
  rw [← eh3] at H3
  refine hg_eq eh3.symm ?_
  refine hg_istore (lv' := [(6, .int S9.2.1), (5, .int S9.1), (4, .int (nI i)), (0, .ref b), (1, .ref (ad 0 0)), (2, .ref r), (3, .ref ao)]) C d_La_law_663 (by decide) rfl ?_
  refine hg_aload_n C 5 d_La_law_665 rfl rfl ?_
  refine hg_VNF (q := ("ModelMergeModel", T_Rf, 31)) (h1 := v9) C H3.2.2.2.2.1 (k_Rf_thrown l Γ v9 r aa S9.2.2 H3.2.2.1) (cw_La_94 C.2.2.2.2.1 rfl rfl ⟨Nat.le_of_ble_eq_true rfl, Nat.le_of_ble_eq_true rfl⟩) H3.2.2.1.1 rfl rfl rfl (Nat.le_of_ble_eq_true rfl) d_La_law_666 ⟨by show cells + 4 + 0 + 0 ≤ 601024; omega, by show slots + 24 + 0 + 0 ≤ 7293034; omega⟩ (fun r9 w9 hq _ => ?_)
  obtain ⟨rfl, rfl, -⟩ := hq
  refine hg_eq (mrg_self H3.2.2.2.2.1) ?_
  refine hg_ti hcd0 ?_
  have hcd : S9.1 = S9.1 := rfl
  refine hg_iload C 1 d_La_law_669 rfl ?_
  refine hg_icmp_eq C 676 d_La_law_671 (by decide) (fun _ => ?_) (fun z => absurd hcd z)
  refine hg_iload C 1 d_La_law_676 rfl ?_
  refine hg_if_ne C 693 d_La_law_678 (by decide) (fun _ => ?_) (fun z0 => ?_)
  · refine hg_goto C 1648 d_La_law_693 (by decide) ?_
    refine hg_lv (ks := [2, 3, 4, 5, 6]) (lv' := [(4, .int (nI i)), (0, .ref b), (1, .ref (ad 0 0)), (2, .ref r), (3, .ref ao)]) rfl ?_
    exact hg_widen (by omega) (by omega) (kq S9.2.2 h3 hIn ⟨ad', aa, u, _, g', H3⟩)
  · refine hg_aload_n C 6 d_La_law_681 rfl rfl ?_
    refine hg_iconst (v := 0) C d_La_law_682 (by decide) ?_
    refine hg_lald C 1 H3.2.2.2.2.2.2.2.2 rfl (show vp_in (nI 0) 1 from vp_in_nI (by omega) (by omega)) d_La_law_683 ?_
    refine hg_iload C 0 d_La_law_684 rfl ?_
    refine hg_i2l C d_La_law_686 rfl ?_
    refine hg_lcmp C d_La_law_687 ?_
    refine hg_ti (show lg_cmp (g' (0 : Int32).toNatClampNeg) _ = 0 from lcmp_0 (hg0 z0)) ?_
    refine hg_if_eq C 693 d_La_law_688 (by decide) (fun _ => ?_) (fun z => absurd (by decide) z)
    refine hg_goto C 1648 d_La_law_693 (by decide) ?_
    refine hg_lv (ks := [2, 3, 4, 5, 6]) (lv' := [(4, .int (nI i)), (0, .ref b), (1, .ref (ad 0 0)), (2, .ref r), (3, .ref ao)]) rfl ?_
    exact hg_widen (by omega) (by omega) (kq S9.2.2 h3 hIn ⟨ad', aa, u, _, g', H3⟩)
set_option maxHeartbeats 4000000 in
set_option maxRecDepth 100000 in
theorem ct_La_join (l : Launch) (hl9 : l.stackTraces = false) (Γ : Gam) {p : Program} {e : Env} {s : State} {m : MethodId} {args : Array Value} {below : List Frame} {meth : Method} {c : Code} {A : Nat → Prop} {Q : State → Prop} (C : hp_C p s m args meth c b_La_law 7 "ModelMergeLaw" w_law Γ.1 kcl (ktys Γ.2.1) (ksts Γ.2.2) knws A) {x r ao b L : Nat} {xs : Nat → Int32} (hX0 : va_X b L xs s s.heap) (hbl : b < s.heap.size) (hbA : ¬ A b) {i : Nat} (hi : i + 5 ≤ L) (hL : L ≤ 2560) {M : Mem} (hI : Ivr M) {h : Pic} (hLA : LA Γ x r ao M h) {cells slots : Nat} (hc9 : cells + 10 ≤ 601024) (hs9 : slots + 800 ≤ 7293034) (kq : ∀ (M' : Mem) (h' : Pic), Ivr M' → LA Γ x r ao M' h' → hp_G p l e room_1 s m args below meth c Γ.1 kcl A 7 Q (cells + 10) (slots + 800) 1648 [(4, .int (nI i)), (0, .ref b), (1, .ref x), (2, .ref r), (3, .ref ao)] [] h') :
    hp_G p l e room_1 s m args below meth c Γ.1 kcl A 7 Q cells slots 696 [(4, .int (nI i)), (0, .ref b), (1, .ref x), (2, .ref r), (3, .ref ao)] [] h := by
  obtain ⟨ad, aa, hX, hM, g, H⟩ := hLA
  have hax := H.1
  subst hax
  obtain ⟨S9, eS⟩ : ∃ z, z = (sp_join M (xs (i + 1))) := ⟨_, rfl⟩
  have hIn : Ivr S9.2.2 := by rw [eS]; exact iv_join hI (xs (i + 1))
  have hcd0 : S9.2.2 0 0 = S9.1 := by rw [eS]; exact cd_join (xs (i + 1))
  refine hg_aload_n C 2 d_La_law_696 rfl rfl ?_
  refine hg_aload_n C 1 d_La_law_697 rfl rfl ?_
  refine hg_iload C 0 d_La_law_698 rfl ?_
  refine hg_iconst (v := 1) C d_La_law_700 (by decide) ?_
  refine hg_iadd C d_La_law_701 ?_
  refine hg_ti (show nI i + 1 = nI (i + 1) from nI_add i 1) ?_
  refine hg_sld (i := i + 1) C hX0 hbl hbA (by omega) (by omega) d_La_law_702 ?_
  refine hg_aload_n C 4 d_La_law_703 rfl rfl ?_
  refine hg_SXF (h1 := hp_up hX ao (OUTC Γ g)) C (LB_s H) (k_La_join l hl9 Γ hX ad M H.2.1 hI ao H.2.2.2.2.2.2.1 g (xs (i + 1))) (cw_La_121 C.2.2.2.2.1 rfl rfl ⟨Nat.le_of_ble_eq_true rfl, Nat.le_of_ble_eq_true rfl⟩) rfl rfl (Nat.le_of_ble_eq_true rfl) d_La_law_704 ⟨by show cells + 6 ≤ 601024; omega, by show slots + 677 ≤ 7293034; omega⟩ (fun r9 w9 hq hd => ?_)
  rw [← eS] at hq
  obtain ⟨rfl, u, ad', g', ha', hcr, hua, rfl, hg0⟩ := hq
  have H2 := LB_w H ha' hcr hua hd
  obtain ⟨h2, eh2⟩ : ∃ z, z = mrg (hp_up u ao (OUTC Γ g')) h (hp_up hX ao (OUTC Γ g)) := ⟨_, rfl⟩
  rw [← eh2] at H2
  refine hg_eq eh2.symm ?_
  refine hg_istore (lv' := [(5, .int S9.1), (4, .int (nI i)), (0, .ref b), (1, .ref (ad 0 0)), (2, .ref r), (3, .ref ao)]) C d_La_law_707 (by decide) rfl ?_
  refine hg_aload_n C 4 d_La_law_709 rfl rfl ?_
  refine hg_aload_n C 2 d_La_law_710 rfl rfl ?_
  refine hg_iload C 1 d_La_law_711 rfl ?_
  refine hg_iconst (v := 1) C d_La_law_713 (by decide) ?_
  refine hg_iadd C d_La_law_714 ?_
  refine hg_ti (show nI i + 1 = nI (i + 1) from nI_add i 1) ?_
  refine hg_sld (i := i + 1) C hX0 hbl hbA (by omega) (by omega) d_La_law_715 ?_
  refine hg_VNF (q := ("ModelMergeModel", T_Rf, 31)) (h1 := hM) C H2.2.2.2.2.1 (k_Rf_join l Γ hM r aa M H2.2.2.1 hI.1 hI.2.1 (xs (i + 1))) (cw_La_123 C.2.2.2.2.1 rfl rfl ⟨Nat.le_of_ble_eq_true rfl, Nat.le_of_ble_eq_true rfl⟩) H2.2.2.1.1 rfl rfl rfl (Nat.le_of_ble_eq_true rfl) d_La_law_716 ⟨by show cells + 6 + 0 ≤ 601024; omega, by show slots + 677 + 0 ≤ 7293034; omega⟩ (fun r9 v9 hq hd => ?_)
  rw [← eS] at hq
  obtain ⟨rfl, hrf⟩ := hq
  have H3 := LB_r H2 hrf hd
  obtain ⟨h3, eh3⟩ : ∃ z, z = mrg v9 h2 hM := ⟨_, rfl⟩
  rw [← eh3] at H3
  refine hg_eq eh3.symm ?_
  refine hg_istore (lv' := [(6, .int S9.2.1), (5, .int S9.1), (4, .int (nI i)), (0, .ref b), (1, .ref (ad 0 0)), (2, .ref r), (3, .ref ao)]) C d_La_law_719 (by decide) rfl ?_
  refine hg_aload_n C 5 d_La_law_721 rfl rfl ?_
  refine hg_VNF (q := ("ModelMergeModel", T_Rf, 31)) (h1 := v9) C H3.2.2.2.2.1 (k_Rf_thrown l Γ v9 r aa S9.2.2 H3.2.2.1) (cw_La_94 C.2.2.2.2.1 rfl rfl ⟨Nat.le_of_ble_eq_true rfl, Nat.le_of_ble_eq_true rfl⟩) H3.2.2.1.1 rfl rfl rfl (Nat.le_of_ble_eq_true rfl) d_La_law_722 ⟨by show cells + 6 + 0 + 0 ≤ 601024; omega, by show slots + 677 + 0 + 0 ≤ 7293034; omega⟩ (fun r9 w9 hq _ => ?_)
  obtain ⟨rfl, rfl, -⟩ := hq
  refine hg_eq (mrg_self H3.2.2.2.2.1) ?_
  refine hg_ti hcd0 ?_
  have hcd : S9.1 = S9.1 := rfl
  refine hg_iload C 1 d_La_law_725 rfl ?_
  refine hg_icmp_eq C 732 d_La_law_727 (by decide) (fun _ => ?_) (fun z => absurd hcd z)
  refine hg_iload C 1 d_La_law_732 rfl ?_
  refine hg_if_ne C 749 d_La_law_734 (by decide) (fun _ => ?_) (fun z0 => ?_)
  · refine hg_goto C 1648 d_La_law_749 (by decide) ?_
    refine hg_lv (ks := [2, 3, 4, 5, 6]) (lv' := [(4, .int (nI i)), (0, .ref b), (1, .ref (ad 0 0)), (2, .ref r), (3, .ref ao)]) rfl ?_
    exact hg_widen (by omega) (by omega) (kq S9.2.2 h3 hIn ⟨ad', aa, u, _, g', H3⟩)
  · refine hg_aload_n C 6 d_La_law_737 rfl rfl ?_
    refine hg_iconst (v := 0) C d_La_law_738 (by decide) ?_
    refine hg_lald C 1 H3.2.2.2.2.2.2.2.2 rfl (show vp_in (nI 0) 1 from vp_in_nI (by omega) (by omega)) d_La_law_739 ?_
    refine hg_iload C 0 d_La_law_740 rfl ?_
    refine hg_i2l C d_La_law_742 rfl ?_
    refine hg_lcmp C d_La_law_743 ?_
    refine hg_ti (show lg_cmp (g' (0 : Int32).toNatClampNeg) _ = 0 from lcmp_0 (hg0 z0)) ?_
    refine hg_if_eq C 749 d_La_law_744 (by decide) (fun _ => ?_) (fun z => absurd (by decide) z)
    refine hg_goto C 1648 d_La_law_749 (by decide) ?_
    refine hg_lv (ks := [2, 3, 4, 5, 6]) (lv' := [(4, .int (nI i)), (0, .ref b), (1, .ref (ad 0 0)), (2, .ref r), (3, .ref ao)]) rfl ?_
    exact hg_widen (by omega) (by omega) (kq S9.2.2 h3 hIn ⟨ad', aa, u, _, g', H3⟩)
set_option maxHeartbeats 4000000 in
set_option maxRecDepth 100000 in
theorem ct_La_conflict (l : Launch) (hl9 : l.stackTraces = false) (Γ : Gam) {p : Program} {e : Env} {s : State} {m : MethodId} {args : Array Value} {below : List Frame} {meth : Method} {c : Code} {A : Nat → Prop} {Q : State → Prop} (C : hp_C p s m args meth c b_La_law 7 "ModelMergeLaw" w_law Γ.1 kcl (ktys Γ.2.1) (ksts Γ.2.2) knws A) {x r ao b L : Nat} {xs : Nat → Int32} (hX0 : va_X b L xs s s.heap) (hbl : b < s.heap.size) (hbA : ¬ A b) {i : Nat} (hi : i + 5 ≤ L) (hL : L ≤ 2560) {M : Mem} (hI : Ivr M) {h : Pic} (hLA : LA Γ x r ao M h) {cells slots : Nat} (hc9 : cells + 10 ≤ 601024) (hs9 : slots + 800 ≤ 7293034) (kq : ∀ (M' : Mem) (h' : Pic), Ivr M' → LA Γ x r ao M' h' → hp_G p l e room_1 s m args below meth c Γ.1 kcl A 7 Q (cells + 10) (slots + 800) 1648 [(4, .int (nI i)), (0, .ref b), (1, .ref x), (2, .ref r), (3, .ref ao)] [] h') :
    hp_G p l e room_1 s m args below meth c Γ.1 kcl A 7 Q cells slots 752 [(4, .int (nI i)), (0, .ref b), (1, .ref x), (2, .ref r), (3, .ref ao)] [] h := by
  obtain ⟨ad, aa, hX, hM, g, H⟩ := hLA
  have hax := H.1
  subst hax
  obtain ⟨S9, eS⟩ : ∃ z, z = (sp_conflict M (xs (i + 1)) (xs (i + 2))) := ⟨_, rfl⟩
  have hIn : Ivr S9.2.2 := by rw [eS]; exact iv_conflict hI (xs (i + 1)) (xs (i + 2))
  have hcd0 : S9.2.2 0 0 = S9.1 := by rw [eS]; exact cd_conflict (xs (i + 1)) (xs (i + 2))
  refine hg_aload_n C 2 d_La_law_752 rfl rfl ?_
  refine hg_aload_n C 1 d_La_law_753 rfl rfl ?_
  refine hg_iload C 0 d_La_law_754 rfl ?_
  refine hg_iconst (v := 1) C d_La_law_756 (by decide) ?_
  refine hg_iadd C d_La_law_757 ?_
  refine hg_ti (show nI i + 1 = nI (i + 1) from nI_add i 1) ?_
  refine hg_sld (i := i + 1) C hX0 hbl hbA (by omega) (by omega) d_La_law_758 ?_
  refine hg_aload_n C 1 d_La_law_759 rfl rfl ?_
  refine hg_iload C 0 d_La_law_760 rfl ?_
  refine hg_iconst (v := 2) C d_La_law_762 (by decide) ?_
  refine hg_iadd C d_La_law_763 ?_
  refine hg_ti (show nI i + 2 = nI (i + 2) from nI_add i 2) ?_
  refine hg_sld (i := i + 2) C hX0 hbl hbA (by omega) (by omega) d_La_law_764 ?_
  refine hg_aload_n C 4 d_La_law_765 rfl rfl ?_
  refine hg_SXF (h1 := hp_up hX ao (OUTC Γ g)) C (LB_s H) (k_La_conflict l hl9 Γ hX ad M H.2.1 hI ao H.2.2.2.2.2.2.1 g (xs (i + 1)) (xs (i + 2))) (cw_La_124 C.2.2.2.2.1 rfl rfl ⟨Nat.le_of_ble_eq_true rfl, Nat.le_of_ble_eq_true rfl⟩) rfl rfl (Nat.le_of_ble_eq_true rfl) d_La_law_766 ⟨by show cells + 3 ≤ 601024; omega, by show slots + 18 ≤ 7293034; omega⟩ (fun r9 w9 hq hd => ?_)
  rw [← eS] at hq
  obtain ⟨rfl, u, ad', g', ha', hcr, hua, rfl, hg0⟩ := hq
  have H2 := LB_w H ha' hcr hua hd
  obtain ⟨h2, eh2⟩ : ∃ z, z = mrg (hp_up u ao (OUTC Γ g')) h (hp_up hX ao (OUTC Γ g)) := ⟨_, rfl⟩
  rw [← eh2] at H2
  refine hg_eq eh2.symm ?_
  refine hg_istore (lv' := [(5, .int S9.1), (4, .int (nI i)), (0, .ref b), (1, .ref (ad 0 0)), (2, .ref r), (3, .ref ao)]) C d_La_law_769 (by decide) rfl ?_
  refine hg_aload_n C 4 d_La_law_771 rfl rfl ?_
  refine hg_aload_n C 2 d_La_law_772 rfl rfl ?_
  refine hg_iload C 1 d_La_law_773 rfl ?_
  refine hg_iconst (v := 1) C d_La_law_775 (by decide) ?_
  refine hg_iadd C d_La_law_776 ?_
  refine hg_ti (show nI i + 1 = nI (i + 1) from nI_add i 1) ?_
  refine hg_sld (i := i + 1) C hX0 hbl hbA (by omega) (by omega) d_La_law_777 ?_
  refine hg_aload_n C 2 d_La_law_778 rfl rfl ?_
  refine hg_iload C 1 d_La_law_779 rfl ?_
  refine hg_iconst (v := 2) C d_La_law_781 (by decide) ?_
  refine hg_iadd C d_La_law_782 ?_
  refine hg_ti (show nI i + 2 = nI (i + 2) from nI_add i 2) ?_
  refine hg_sld (i := i + 2) C hX0 hbl hbA (by omega) (by omega) d_La_law_783 ?_
  refine hg_VNF (q := ("ModelMergeModel", T_Rf, 31)) (h1 := hM) C H2.2.2.2.2.1 (k_Rf_conflict l Γ hM r aa M H2.2.2.1 hI.1 hI.2.1 (xs (i + 1)) (xs (i + 2))) (cw_La_126 C.2.2.2.2.1 rfl rfl ⟨Nat.le_of_ble_eq_true rfl, Nat.le_of_ble_eq_true rfl⟩) H2.2.2.1.1 rfl rfl rfl (Nat.le_of_ble_eq_true rfl) d_La_law_784 ⟨by show cells + 3 + 0 ≤ 601024; omega, by show slots + 18 + 0 ≤ 7293034; omega⟩ (fun r9 v9 hq hd => ?_)
  rw [← eS] at hq
  obtain ⟨rfl, hrf⟩ := hq
  have H3 := LB_r H2 hrf hd
  obtain ⟨h3, eh3⟩ : ∃ z, z = mrg v9 h2 hM := ⟨_, rfl⟩
  rw [← eh3] at H3
  refine hg_eq eh3.symm ?_
  refine hg_istore (lv' := [(6, .int S9.2.1), (5, .int S9.1), (4, .int (nI i)), (0, .ref b), (1, .ref (ad 0 0)), (2, .ref r), (3, .ref ao)]) C d_La_law_787 (by decide) rfl ?_
  refine hg_aload_n C 5 d_La_law_789 rfl rfl ?_
  refine hg_VNF (q := ("ModelMergeModel", T_Rf, 31)) (h1 := v9) C H3.2.2.2.2.1 (k_Rf_thrown l Γ v9 r aa S9.2.2 H3.2.2.1) (cw_La_94 C.2.2.2.2.1 rfl rfl ⟨Nat.le_of_ble_eq_true rfl, Nat.le_of_ble_eq_true rfl⟩) H3.2.2.1.1 rfl rfl rfl (Nat.le_of_ble_eq_true rfl) d_La_law_790 ⟨by show cells + 3 + 0 + 0 ≤ 601024; omega, by show slots + 18 + 0 + 0 ≤ 7293034; omega⟩ (fun r9 w9 hq _ => ?_)
  obtain ⟨rfl, rfl, -⟩ := hq
  refine hg_eq (mrg_self H3.2.2.2.2.1) ?_
  refine hg_ti hcd0 ?_
  have hcd : S9.1 = S9.1 := rfl
  refine hg_iload C 1 d_La_law_793 rfl ?_
  refine hg_icmp_eq C 800 d_La_law_795 (by decide) (fun _ => ?_) (fun z => absurd hcd z)
  refine hg_iload C 1 d_La_law_800 rfl ?_
  refine hg_if_ne C 817 d_La_law_802 (by decide) (fun _ => ?_) (fun z0 => ?_)
  · refine hg_goto C 1648 d_La_law_817 (by decide) ?_
    refine hg_lv (ks := [2, 3, 4, 5, 6]) (lv' := [(4, .int (nI i)), (0, .ref b), (1, .ref (ad 0 0)), (2, .ref r), (3, .ref ao)]) rfl ?_
    exact hg_widen (by omega) (by omega) (kq S9.2.2 h3 hIn ⟨ad', aa, u, _, g', H3⟩)
  · refine hg_aload_n C 6 d_La_law_805 rfl rfl ?_
    refine hg_iconst (v := 0) C d_La_law_806 (by decide) ?_
    refine hg_lald C 1 H3.2.2.2.2.2.2.2.2 rfl (show vp_in (nI 0) 1 from vp_in_nI (by omega) (by omega)) d_La_law_807 ?_
    refine hg_iload C 0 d_La_law_808 rfl ?_
    refine hg_i2l C d_La_law_810 rfl ?_
    refine hg_lcmp C d_La_law_811 ?_
    refine hg_ti (show lg_cmp (g' (0 : Int32).toNatClampNeg) _ = 0 from lcmp_0 (hg0 z0)) ?_
    refine hg_if_eq C 817 d_La_law_812 (by decide) (fun _ => ?_) (fun z => absurd (by decide) z)
    refine hg_goto C 1648 d_La_law_817 (by decide) ?_
    refine hg_lv (ks := [2, 3, 4, 5, 6]) (lv' := [(4, .int (nI i)), (0, .ref b), (1, .ref (ad 0 0)), (2, .ref r), (3, .ref ao)]) rfl ?_
    exact hg_widen (by omega) (by omega) (kq S9.2.2 h3 hIn ⟨ad', aa, u, _, g', H3⟩)
set_option maxHeartbeats 4000000 in
set_option maxRecDepth 100000 in
theorem ct_La_settle (l : Launch) (hl9 : l.stackTraces = false) (Γ : Gam) {p : Program} {e : Env} {s : State} {m : MethodId} {args : Array Value} {below : List Frame} {meth : Method} {c : Code} {A : Nat → Prop} {Q : State → Prop} (C : hp_C p s m args meth c b_La_law 7 "ModelMergeLaw" w_law Γ.1 kcl (ktys Γ.2.1) (ksts Γ.2.2) knws A) {x r ao b L : Nat} {xs : Nat → Int32} (hX0 : va_X b L xs s s.heap) (hbl : b < s.heap.size) (hbA : ¬ A b) {i : Nat} (hi : i + 5 ≤ L) (hL : L ≤ 2560) {M : Mem} (hI : Ivr M) {h : Pic} (hLA : LA Γ x r ao M h) {cells slots : Nat} (hc9 : cells + 10 ≤ 601024) (hs9 : slots + 800 ≤ 7293034) (kq : ∀ (M' : Mem) (h' : Pic), Ivr M' → LA Γ x r ao M' h' → hp_G p l e room_1 s m args below meth c Γ.1 kcl A 7 Q (cells + 10) (slots + 800) 1648 [(4, .int (nI i)), (0, .ref b), (1, .ref x), (2, .ref r), (3, .ref ao)] [] h') :
    hp_G p l e room_1 s m args below meth c Γ.1 kcl A 7 Q cells slots 820 [(4, .int (nI i)), (0, .ref b), (1, .ref x), (2, .ref r), (3, .ref ao)] [] h := by
  obtain ⟨ad, aa, hX, hM, g, H⟩ := hLA
  have hax := H.1
  subst hax
  obtain ⟨S9, eS⟩ : ∃ z, z = (sp_settle M (xs (i + 1)) (xs (i + 2))) := ⟨_, rfl⟩
  have hIn : Ivr S9.2.2 := by rw [eS]; exact iv_settle hI (xs (i + 1)) (xs (i + 2))
  have hcd0 : S9.2.2 0 0 = S9.1 := by rw [eS]; exact cd_settle (xs (i + 1)) (xs (i + 2))
  refine hg_aload_n C 2 d_La_law_820 rfl rfl ?_
  refine hg_aload_n C 1 d_La_law_821 rfl rfl ?_
  refine hg_iload C 0 d_La_law_822 rfl ?_
  refine hg_iconst (v := 1) C d_La_law_824 (by decide) ?_
  refine hg_iadd C d_La_law_825 ?_
  refine hg_ti (show nI i + 1 = nI (i + 1) from nI_add i 1) ?_
  refine hg_sld (i := i + 1) C hX0 hbl hbA (by omega) (by omega) d_La_law_826 ?_
  refine hg_aload_n C 1 d_La_law_827 rfl rfl ?_
  refine hg_iload C 0 d_La_law_828 rfl ?_
  refine hg_iconst (v := 2) C d_La_law_830 (by decide) ?_
  refine hg_iadd C d_La_law_831 ?_
  refine hg_ti (show nI i + 2 = nI (i + 2) from nI_add i 2) ?_
  refine hg_sld (i := i + 2) C hX0 hbl hbA (by omega) (by omega) d_La_law_832 ?_
  refine hg_aload_n C 4 d_La_law_833 rfl rfl ?_
  refine hg_SXF (h1 := hp_up hX ao (OUTC Γ g)) C (LB_s H) (k_La_settle l hl9 Γ hX ad M H.2.1 hI ao H.2.2.2.2.2.2.1 g (xs (i + 1)) (xs (i + 2))) (cw_La_127 C.2.2.2.2.1 rfl rfl ⟨Nat.le_of_ble_eq_true rfl, Nat.le_of_ble_eq_true rfl⟩) rfl rfl (Nat.le_of_ble_eq_true rfl) d_La_law_834 ⟨by show cells + 7 ≤ 601024; omega, by show slots + 683 ≤ 7293034; omega⟩ (fun r9 w9 hq hd => ?_)
  rw [← eS] at hq
  obtain ⟨rfl, u, ad', g', ha', hcr, hua, rfl, hg0⟩ := hq
  have H2 := LB_w H ha' hcr hua hd
  obtain ⟨h2, eh2⟩ : ∃ z, z = mrg (hp_up u ao (OUTC Γ g')) h (hp_up hX ao (OUTC Γ g)) := ⟨_, rfl⟩
  rw [← eh2] at H2
  refine hg_eq eh2.symm ?_
  refine hg_istore (lv' := [(5, .int S9.1), (4, .int (nI i)), (0, .ref b), (1, .ref (ad 0 0)), (2, .ref r), (3, .ref ao)]) C d_La_law_837 (by decide) rfl ?_
  refine hg_aload_n C 4 d_La_law_839 rfl rfl ?_
  refine hg_aload_n C 2 d_La_law_840 rfl rfl ?_
  refine hg_iload C 1 d_La_law_841 rfl ?_
  refine hg_iconst (v := 1) C d_La_law_843 (by decide) ?_
  refine hg_iadd C d_La_law_844 ?_
  refine hg_ti (show nI i + 1 = nI (i + 1) from nI_add i 1) ?_
  refine hg_sld (i := i + 1) C hX0 hbl hbA (by omega) (by omega) d_La_law_845 ?_
  refine hg_aload_n C 2 d_La_law_846 rfl rfl ?_
  refine hg_iload C 1 d_La_law_847 rfl ?_
  refine hg_iconst (v := 2) C d_La_law_849 (by decide) ?_
  refine hg_iadd C d_La_law_850 ?_
  refine hg_ti (show nI i + 2 = nI (i + 2) from nI_add i 2) ?_
  refine hg_sld (i := i + 2) C hX0 hbl hbA (by omega) (by omega) d_La_law_851 ?_
  refine hg_VNF (q := ("ModelMergeModel", T_Rf, 31)) (h1 := hM) C H2.2.2.2.2.1 (k_Rf_settle l Γ hM r aa M H2.2.2.1 hI.1 hI.2.1 (xs (i + 1)) (xs (i + 2))) (cw_La_129 C.2.2.2.2.1 rfl rfl ⟨Nat.le_of_ble_eq_true rfl, Nat.le_of_ble_eq_true rfl⟩) H2.2.2.1.1 rfl rfl rfl (Nat.le_of_ble_eq_true rfl) d_La_law_852 ⟨by show cells + 7 + 0 ≤ 601024; omega, by show slots + 683 + 0 ≤ 7293034; omega⟩ (fun r9 v9 hq hd => ?_)
  rw [← eS] at hq
  obtain ⟨rfl, hrf⟩ := hq
  have H3 := LB_r H2 hrf hd
  obtain ⟨h3, eh3⟩ : ∃ z, z = mrg v9 h2 hM := ⟨_, rfl⟩
  rw [← eh3] at H3
  refine hg_eq eh3.symm ?_
  refine hg_istore (lv' := [(6, .int S9.2.1), (5, .int S9.1), (4, .int (nI i)), (0, .ref b), (1, .ref (ad 0 0)), (2, .ref r), (3, .ref ao)]) C d_La_law_855 (by decide) rfl ?_
  refine hg_aload_n C 5 d_La_law_857 rfl rfl ?_
  refine hg_VNF (q := ("ModelMergeModel", T_Rf, 31)) (h1 := v9) C H3.2.2.2.2.1 (k_Rf_thrown l Γ v9 r aa S9.2.2 H3.2.2.1) (cw_La_94 C.2.2.2.2.1 rfl rfl ⟨Nat.le_of_ble_eq_true rfl, Nat.le_of_ble_eq_true rfl⟩) H3.2.2.1.1 rfl rfl rfl (Nat.le_of_ble_eq_true rfl) d_La_law_858 ⟨by show cells + 7 + 0 + 0 ≤ 601024; omega, by show slots + 683 + 0 + 0 ≤ 7293034; omega⟩ (fun r9 w9 hq _ => ?_)
  obtain ⟨rfl, rfl, -⟩ := hq
  refine hg_eq (mrg_self H3.2.2.2.2.1) ?_
  refine hg_ti hcd0 ?_
  have hcd : S9.1 = S9.1 := rfl
  refine hg_iload C 1 d_La_law_861 rfl ?_
  refine hg_icmp_eq C 868 d_La_law_863 (by decide) (fun _ => ?_) (fun z => absurd hcd z)
  refine hg_iload C 1 d_La_law_868 rfl ?_
  refine hg_if_ne C 885 d_La_law_870 (by decide) (fun _ => ?_) (fun z0 => ?_)
  · refine hg_goto C 1648 d_La_law_885 (by decide) ?_
    refine hg_lv (ks := [2, 3, 4, 5, 6]) (lv' := [(4, .int (nI i)), (0, .ref b), (1, .ref (ad 0 0)), (2, .ref r), (3, .ref ao)]) rfl ?_
    exact hg_widen (by omega) (by omega) (kq S9.2.2 h3 hIn ⟨ad', aa, u, _, g', H3⟩)
  · refine hg_aload_n C 6 d_La_law_873 rfl rfl ?_
    refine hg_iconst (v := 0) C d_La_law_874 (by decide) ?_
    refine hg_lald C 1 H3.2.2.2.2.2.2.2.2 rfl (show vp_in (nI 0) 1 from vp_in_nI (by omega) (by omega)) d_La_law_875 ?_
    refine hg_iload C 0 d_La_law_876 rfl ?_
    refine hg_i2l C d_La_law_878 rfl ?_
    refine hg_lcmp C d_La_law_879 ?_
    refine hg_ti (show lg_cmp (g' (0 : Int32).toNatClampNeg) _ = 0 from lcmp_0 (hg0 z0)) ?_
    refine hg_if_eq C 885 d_La_law_880 (by decide) (fun _ => ?_) (fun z => absurd (by decide) z)
    refine hg_goto C 1648 d_La_law_885 (by decide) ?_
    refine hg_lv (ks := [2, 3, 4, 5, 6]) (lv' := [(4, .int (nI i)), (0, .ref b), (1, .ref (ad 0 0)), (2, .ref r), (3, .ref ao)]) rfl ?_
    exact hg_widen (by omega) (by omega) (kq S9.2.2 h3 hIn ⟨ad', aa, u, _, g', H3⟩)
set_option maxHeartbeats 4000000 in
set_option maxRecDepth 100000 in
theorem ct_La_giveUp (l : Launch) (hl9 : l.stackTraces = false) (Γ : Gam) {p : Program} {e : Env} {s : State} {m : MethodId} {args : Array Value} {below : List Frame} {meth : Method} {c : Code} {A : Nat → Prop} {Q : State → Prop} (C : hp_C p s m args meth c b_La_law 7 "ModelMergeLaw" w_law Γ.1 kcl (ktys Γ.2.1) (ksts Γ.2.2) knws A) {x r ao b L : Nat} {xs : Nat → Int32} (hX0 : va_X b L xs s s.heap) (hbl : b < s.heap.size) (hbA : ¬ A b) {i : Nat} (hi : i + 5 ≤ L) (hL : L ≤ 2560) {M : Mem} (hI : Ivr M) {h : Pic} (hLA : LA Γ x r ao M h) {cells slots : Nat} (hc9 : cells + 10 ≤ 601024) (hs9 : slots + 800 ≤ 7293034) (kq : ∀ (M' : Mem) (h' : Pic), Ivr M' → LA Γ x r ao M' h' → hp_G p l e room_1 s m args below meth c Γ.1 kcl A 7 Q (cells + 10) (slots + 800) 1648 [(4, .int (nI i)), (0, .ref b), (1, .ref x), (2, .ref r), (3, .ref ao)] [] h') :
    hp_G p l e room_1 s m args below meth c Γ.1 kcl A 7 Q cells slots 888 [(4, .int (nI i)), (0, .ref b), (1, .ref x), (2, .ref r), (3, .ref ao)] [] h := by
  obtain ⟨ad, aa, hX, hM, g, H⟩ := hLA
  have hax := H.1
  subst hax
  obtain ⟨S9, eS⟩ : ∃ z, z = (sp_giveUp M) := ⟨_, rfl⟩
  have hIn : Ivr S9.2.2 := by rw [eS]; exact iv_giveUp hI
  have hcd0 : S9.2.2 0 0 = S9.1 := by rw [eS]; exact cd_giveUp
  refine hg_aload_n C 2 d_La_law_888 rfl rfl ?_
  refine hg_aload_n C 4 d_La_law_889 rfl rfl ?_
  refine hg_SXF (h1 := hp_up hX ao (OUTC Γ g)) C (LB_s H) (k_La_giveUp l hl9 Γ hX ad M H.2.1 hI ao H.2.2.2.2.2.2.1 g) (cw_La_130 C.2.2.2.2.1 rfl rfl ⟨Nat.le_of_ble_eq_true rfl, Nat.le_of_ble_eq_true rfl⟩) rfl rfl (Nat.le_of_ble_eq_true rfl) d_La_law_890 ⟨by show cells + 1 ≤ 601024; omega, by show slots + 6 ≤ 7293034; omega⟩ (fun r9 w9 hq hd => ?_)
  rw [← eS] at hq
  obtain ⟨rfl, u, ad', g', ha', hcr, hua, rfl, hg0⟩ := hq
  have H2 := LB_w H ha' hcr hua hd
  obtain ⟨h2, eh2⟩ : ∃ z, z = mrg (hp_up u ao (OUTC Γ g')) h (hp_up hX ao (OUTC Γ g)) := ⟨_, rfl⟩
  rw [← eh2] at H2
  refine hg_eq eh2.symm ?_
  refine hg_istore (lv' := [(5, .int S9.1), (4, .int (nI i)), (0, .ref b), (1, .ref (ad 0 0)), (2, .ref r), (3, .ref ao)]) C d_La_law_893 (by decide) rfl ?_
  refine hg_aload_n C 4 d_La_law_895 rfl rfl ?_
  refine hg_VNF (q := ("ModelMergeModel", T_Rf, 31)) (h1 := hM) C H2.2.2.2.2.1 (k_Rf_giveUp l Γ hM r aa M H2.2.2.1 hI.1) (cw_La_133 C.2.2.2.2.1 rfl rfl ⟨Nat.le_of_ble_eq_true rfl, Nat.le_of_ble_eq_true rfl⟩) H2.2.2.1.1 rfl rfl rfl (Nat.le_of_ble_eq_true rfl) d_La_law_896 ⟨by show cells + 1 + 0 ≤ 601024; omega, by show slots + 6 + 0 ≤ 7293034; omega⟩ (fun r9 v9 hq hd => ?_)
  rw [← eS] at hq
  obtain ⟨rfl, hrf⟩ := hq
  have H3 := LB_r H2 hrf hd
  obtain ⟨h3, eh3⟩ : ∃ z, z = mrg v9 h2 hM := ⟨_, rfl⟩
  rw [← eh3] at H3
  refine hg_eq eh3.symm ?_
  refine hg_istore (lv' := [(6, .int S9.2.1), (5, .int S9.1), (4, .int (nI i)), (0, .ref b), (1, .ref (ad 0 0)), (2, .ref r), (3, .ref ao)]) C d_La_law_899 (by decide) rfl ?_
  refine hg_aload_n C 5 d_La_law_901 rfl rfl ?_
  refine hg_VNF (q := ("ModelMergeModel", T_Rf, 31)) (h1 := v9) C H3.2.2.2.2.1 (k_Rf_thrown l Γ v9 r aa S9.2.2 H3.2.2.1) (cw_La_94 C.2.2.2.2.1 rfl rfl ⟨Nat.le_of_ble_eq_true rfl, Nat.le_of_ble_eq_true rfl⟩) H3.2.2.1.1 rfl rfl rfl (Nat.le_of_ble_eq_true rfl) d_La_law_902 ⟨by show cells + 1 + 0 + 0 ≤ 601024; omega, by show slots + 6 + 0 + 0 ≤ 7293034; omega⟩ (fun r9 w9 hq _ => ?_)
  obtain ⟨rfl, rfl, -⟩ := hq
  refine hg_eq (mrg_self H3.2.2.2.2.1) ?_
  refine hg_ti hcd0 ?_
  have hcd : S9.1 = S9.1 := rfl
  refine hg_iload C 1 d_La_law_905 rfl ?_
  refine hg_icmp_eq C 912 d_La_law_907 (by decide) (fun _ => ?_) (fun z => absurd hcd z)
  refine hg_iload C 1 d_La_law_912 rfl ?_
  refine hg_if_ne C 929 d_La_law_914 (by decide) (fun _ => ?_) (fun z0 => ?_)
  · refine hg_goto C 1648 d_La_law_929 (by decide) ?_
    refine hg_lv (ks := [2, 3, 4, 5, 6]) (lv' := [(4, .int (nI i)), (0, .ref b), (1, .ref (ad 0 0)), (2, .ref r), (3, .ref ao)]) rfl ?_
    exact hg_widen (by omega) (by omega) (kq S9.2.2 h3 hIn ⟨ad', aa, u, _, g', H3⟩)
  · refine hg_aload_n C 6 d_La_law_917 rfl rfl ?_
    refine hg_iconst (v := 0) C d_La_law_918 (by decide) ?_
    refine hg_lald C 1 H3.2.2.2.2.2.2.2.2 rfl (show vp_in (nI 0) 1 from vp_in_nI (by omega) (by omega)) d_La_law_919 ?_
    refine hg_iload C 0 d_La_law_920 rfl ?_
    refine hg_i2l C d_La_law_922 rfl ?_
    refine hg_lcmp C d_La_law_923 ?_
    refine hg_ti (show lg_cmp (g' (0 : Int32).toNatClampNeg) _ = 0 from lcmp_0 (hg0 z0)) ?_
    refine hg_if_eq C 929 d_La_law_924 (by decide) (fun _ => ?_) (fun z => absurd (by decide) z)
    refine hg_goto C 1648 d_La_law_929 (by decide) ?_
    refine hg_lv (ks := [2, 3, 4, 5, 6]) (lv' := [(4, .int (nI i)), (0, .ref b), (1, .ref (ad 0 0)), (2, .ref r), (3, .ref ao)]) rfl ?_
    exact hg_widen (by omega) (by omega) (kq S9.2.2 h3 hIn ⟨ad', aa, u, _, g', H3⟩)
set_option maxHeartbeats 4000000 in
set_option maxRecDepth 100000 in
theorem ct_La_here (l : Launch) (hl9 : l.stackTraces = false) (Γ : Gam) {p : Program} {e : Env} {s : State} {m : MethodId} {args : Array Value} {below : List Frame} {meth : Method} {c : Code} {A : Nat → Prop} {Q : State → Prop} (C : hp_C p s m args meth c b_La_law 7 "ModelMergeLaw" w_law Γ.1 kcl (ktys Γ.2.1) (ksts Γ.2.2) knws A) {x r ao b L : Nat} {xs : Nat → Int32} (hX0 : va_X b L xs s s.heap) (hbl : b < s.heap.size) (hbA : ¬ A b) {i : Nat} (hi : i + 5 ≤ L) (hL : L ≤ 2560) {M : Mem} (hI : Ivr M) {h : Pic} (hLA : LA Γ x r ao M h) {cells slots : Nat} (hc9 : cells + 10 ≤ 601024) (hs9 : slots + 800 ≤ 7293034) (kq : ∀ (M' : Mem) (h' : Pic), Ivr M' → LA Γ x r ao M' h' → hp_G p l e room_1 s m args below meth c Γ.1 kcl A 7 Q (cells + 10) (slots + 800) 1648 [(4, .int (nI i)), (0, .ref b), (1, .ref x), (2, .ref r), (3, .ref ao)] [] h') :
    hp_G p l e room_1 s m args below meth c Γ.1 kcl A 7 Q cells slots 932 [(4, .int (nI i)), (0, .ref b), (1, .ref x), (2, .ref r), (3, .ref ao)] [] h := by
  obtain ⟨ad, aa, hX, hM, g, H⟩ := hLA
  have hax := H.1
  subst hax
  obtain ⟨S9, eS⟩ : ∃ z, z = (sp_here M (xs (i + 1)) (xs (i + 2))) := ⟨_, rfl⟩
  have hIn : Ivr S9.2.2 := by rw [eS]; exact iv_here hI (xs (i + 1)) (xs (i + 2))
  have hcd0 : S9.2.2 0 0 = S9.1 := by rw [eS]; exact cd_here (xs (i + 1)) (xs (i + 2))
  refine hg_aload_n C 2 d_La_law_932 rfl rfl ?_
  refine hg_aload_n C 1 d_La_law_933 rfl rfl ?_
  refine hg_iload C 0 d_La_law_934 rfl ?_
  refine hg_iconst (v := 1) C d_La_law_936 (by decide) ?_
  refine hg_iadd C d_La_law_937 ?_
  refine hg_ti (show nI i + 1 = nI (i + 1) from nI_add i 1) ?_
  refine hg_sld (i := i + 1) C hX0 hbl hbA (by omega) (by omega) d_La_law_938 ?_
  refine hg_aload_n C 1 d_La_law_939 rfl rfl ?_
  refine hg_iload C 0 d_La_law_940 rfl ?_
  refine hg_iconst (v := 2) C d_La_law_942 (by decide) ?_
  refine hg_iadd C d_La_law_943 ?_
  refine hg_ti (show nI i + 2 = nI (i + 2) from nI_add i 2) ?_
  refine hg_sld (i := i + 2) C hX0 hbl hbA (by omega) (by omega) d_La_law_944 ?_
  refine hg_aload_n C 4 d_La_law_945 rfl rfl ?_
  refine hg_SXF (h1 := hp_up hX ao (OUTC Γ g)) C (LB_s H) (k_La_here l hl9 Γ hX ad M H.2.1 hI ao H.2.2.2.2.2.2.1 g (xs (i + 1)) (xs (i + 2))) (cw_La_134 C.2.2.2.2.1 rfl rfl ⟨Nat.le_of_ble_eq_true rfl, Nat.le_of_ble_eq_true rfl⟩) rfl rfl (Nat.le_of_ble_eq_true rfl) d_La_law_946 ⟨by show cells + 2 ≤ 601024; omega, by show slots + 12 ≤ 7293034; omega⟩ (fun r9 w9 hq hd => ?_)
  rw [← eS] at hq
  obtain ⟨rfl, u, ad', g', ha', hcr, hua, rfl, hg0⟩ := hq
  have H2 := LB_w H ha' hcr hua hd
  obtain ⟨h2, eh2⟩ : ∃ z, z = mrg (hp_up u ao (OUTC Γ g')) h (hp_up hX ao (OUTC Γ g)) := ⟨_, rfl⟩
  rw [← eh2] at H2
  refine hg_eq eh2.symm ?_
  refine hg_istore (lv' := [(5, .int S9.1), (4, .int (nI i)), (0, .ref b), (1, .ref (ad 0 0)), (2, .ref r), (3, .ref ao)]) C d_La_law_949 (by decide) rfl ?_
  refine hg_aload_n C 4 d_La_law_951 rfl rfl ?_
  refine hg_aload_n C 2 d_La_law_952 rfl rfl ?_
  refine hg_iload C 1 d_La_law_953 rfl ?_
  refine hg_iconst (v := 1) C d_La_law_955 (by decide) ?_
  refine hg_iadd C d_La_law_956 ?_
  refine hg_ti (show nI i + 1 = nI (i + 1) from nI_add i 1) ?_
  refine hg_sld (i := i + 1) C hX0 hbl hbA (by omega) (by omega) d_La_law_957 ?_
  refine hg_aload_n C 2 d_La_law_958 rfl rfl ?_
  refine hg_iload C 1 d_La_law_959 rfl ?_
  refine hg_iconst (v := 2) C d_La_law_961 (by decide) ?_
  refine hg_iadd C d_La_law_962 ?_
  refine hg_ti (show nI i + 2 = nI (i + 2) from nI_add i 2) ?_
  refine hg_sld (i := i + 2) C hX0 hbl hbA (by omega) (by omega) d_La_law_963 ?_
  refine hg_VNF (q := ("ModelMergeModel", T_Rf, 31)) (h1 := hM) C H2.2.2.2.2.1 (k_Rf_here2 l Γ hM r aa M H2.2.2.1 hI.1 (xs (i + 1)) (xs (i + 2))) (cw_La_136 C.2.2.2.2.1 rfl rfl ⟨Nat.le_of_ble_eq_true rfl, Nat.le_of_ble_eq_true rfl⟩) H2.2.2.1.1 rfl rfl rfl (Nat.le_of_ble_eq_true rfl) d_La_law_964 ⟨by show cells + 2 + 0 ≤ 601024; omega, by show slots + 12 + 0 ≤ 7293034; omega⟩ (fun r9 v9 hq hd => ?_)
  rw [← eS] at hq
  obtain ⟨rfl, hrf⟩ := hq
  have H3 := LB_r H2 hrf hd
  obtain ⟨h3, eh3⟩ : ∃ z, z = mrg v9 h2 hM := ⟨_, rfl⟩
  rw [← eh3] at H3
  refine hg_eq eh3.symm ?_
  refine hg_istore (lv' := [(6, .int S9.2.1), (5, .int S9.1), (4, .int (nI i)), (0, .ref b), (1, .ref (ad 0 0)), (2, .ref r), (3, .ref ao)]) C d_La_law_967 (by decide) rfl ?_
  refine hg_aload_n C 5 d_La_law_969 rfl rfl ?_
  refine hg_VNF (q := ("ModelMergeModel", T_Rf, 31)) (h1 := v9) C H3.2.2.2.2.1 (k_Rf_thrown l Γ v9 r aa S9.2.2 H3.2.2.1) (cw_La_94 C.2.2.2.2.1 rfl rfl ⟨Nat.le_of_ble_eq_true rfl, Nat.le_of_ble_eq_true rfl⟩) H3.2.2.1.1 rfl rfl rfl (Nat.le_of_ble_eq_true rfl) d_La_law_970 ⟨by show cells + 2 + 0 + 0 ≤ 601024; omega, by show slots + 12 + 0 + 0 ≤ 7293034; omega⟩ (fun r9 w9 hq _ => ?_)
  obtain ⟨rfl, rfl, -⟩ := hq
  refine hg_eq (mrg_self H3.2.2.2.2.1) ?_
  refine hg_ti hcd0 ?_
  have hcd : S9.1 = S9.1 := rfl
  refine hg_iload C 1 d_La_law_973 rfl ?_
  refine hg_icmp_eq C 980 d_La_law_975 (by decide) (fun _ => ?_) (fun z => absurd hcd z)
  refine hg_iload C 1 d_La_law_980 rfl ?_
  refine hg_if_ne C 997 d_La_law_982 (by decide) (fun _ => ?_) (fun z0 => ?_)
  · refine hg_goto C 1648 d_La_law_997 (by decide) ?_
    refine hg_lv (ks := [2, 3, 4, 5, 6]) (lv' := [(4, .int (nI i)), (0, .ref b), (1, .ref (ad 0 0)), (2, .ref r), (3, .ref ao)]) rfl ?_
    exact hg_widen (by omega) (by omega) (kq S9.2.2 h3 hIn ⟨ad', aa, u, _, g', H3⟩)
  · refine hg_aload_n C 6 d_La_law_985 rfl rfl ?_
    refine hg_iconst (v := 0) C d_La_law_986 (by decide) ?_
    refine hg_lald C 1 H3.2.2.2.2.2.2.2.2 rfl (show vp_in (nI 0) 1 from vp_in_nI (by omega) (by omega)) d_La_law_987 ?_
    refine hg_iload C 0 d_La_law_988 rfl ?_
    refine hg_i2l C d_La_law_990 rfl ?_
    refine hg_lcmp C d_La_law_991 ?_
    refine hg_ti (show lg_cmp (g' (0 : Int32).toNatClampNeg) _ = 0 from lcmp_0 (hg0 z0)) ?_
    refine hg_if_eq C 997 d_La_law_992 (by decide) (fun _ => ?_) (fun z => absurd (by decide) z)
    refine hg_goto C 1648 d_La_law_997 (by decide) ?_
    refine hg_lv (ks := [2, 3, 4, 5, 6]) (lv' := [(4, .int (nI i)), (0, .ref b), (1, .ref (ad 0 0)), (2, .ref r), (3, .ref ao)]) rfl ?_
    exact hg_widen (by omega) (by omega) (kq S9.2.2 h3 hIn ⟨ad', aa, u, _, g', H3⟩)
set_option maxHeartbeats 4000000 in
set_option maxRecDepth 100000 in
theorem ct_La_now (l : Launch) (hl9 : l.stackTraces = false) (Γ : Gam) {p : Program} {e : Env} {s : State} {m : MethodId} {args : Array Value} {below : List Frame} {meth : Method} {c : Code} {A : Nat → Prop} {Q : State → Prop} (C : hp_C p s m args meth c b_La_law 7 "ModelMergeLaw" w_law Γ.1 kcl (ktys Γ.2.1) (ksts Γ.2.2) knws A) {x r ao b L : Nat} {xs : Nat → Int32} (hX0 : va_X b L xs s s.heap) (hbl : b < s.heap.size) (hbA : ¬ A b) {i : Nat} (hi : i + 5 ≤ L) (hL : L ≤ 2560) {M : Mem} (hI : Ivr M) {h : Pic} (hLA : LA Γ x r ao M h) {cells slots : Nat} (hc9 : cells + 10 ≤ 601024) (hs9 : slots + 800 ≤ 7293034) (kq : ∀ (M' : Mem) (h' : Pic), Ivr M' → LA Γ x r ao M' h' → hp_G p l e room_1 s m args below meth c Γ.1 kcl A 7 Q (cells + 10) (slots + 800) 1648 [(4, .int (nI i)), (0, .ref b), (1, .ref x), (2, .ref r), (3, .ref ao)] [] h') :
    hp_G p l e room_1 s m args below meth c Γ.1 kcl A 7 Q cells slots 1000 [(4, .int (nI i)), (0, .ref b), (1, .ref x), (2, .ref r), (3, .ref ao)] [] h := by
  obtain ⟨ad, aa, hX, hM, g, H⟩ := hLA
  have hax := H.1
  subst hax
  obtain ⟨S9, eS⟩ : ∃ z, z = (sp_now M (xs (i + 1)) (xs (i + 2)) (xs (i + 3))) := ⟨_, rfl⟩
  have hIn : Ivr S9.2.2 := by rw [eS]; exact iv_now hI (xs (i + 1)) (xs (i + 2)) (xs (i + 3))
  have hcd0 : S9.2.2 0 0 = S9.1 := by rw [eS]; exact cd_now (xs (i + 1)) (xs (i + 2)) (xs (i + 3))
  refine hg_aload_n C 2 d_La_law_1000 rfl rfl ?_
  refine hg_aload_n C 1 d_La_law_1001 rfl rfl ?_
  refine hg_iload C 0 d_La_law_1002 rfl ?_
  refine hg_iconst (v := 1) C d_La_law_1004 (by decide) ?_
  refine hg_iadd C d_La_law_1005 ?_
  refine hg_ti (show nI i + 1 = nI (i + 1) from nI_add i 1) ?_
  refine hg_sld (i := i + 1) C hX0 hbl hbA (by omega) (by omega) d_La_law_1006 ?_
  refine hg_aload_n C 1 d_La_law_1007 rfl rfl ?_
  refine hg_iload C 0 d_La_law_1008 rfl ?_
  refine hg_iconst (v := 2) C d_La_law_1010 (by decide) ?_
  refine hg_iadd C d_La_law_1011 ?_
  refine hg_ti (show nI i + 2 = nI (i + 2) from nI_add i 2) ?_
  refine hg_sld (i := i + 2) C hX0 hbl hbA (by omega) (by omega) d_La_law_1012 ?_
  refine hg_aload_n C 1 d_La_law_1013 rfl rfl ?_
  refine hg_iload C 0 d_La_law_1014 rfl ?_
  refine hg_iconst (v := 3) C d_La_law_1016 (by decide) ?_
  refine hg_iadd C d_La_law_1017 ?_
  refine hg_ti (show nI i + 3 = nI (i + 3) from nI_add i 3) ?_
  refine hg_sld (i := i + 3) C hX0 hbl hbA (by omega) (by omega) d_La_law_1018 ?_
  refine hg_aload_n C 4 d_La_law_1019 rfl rfl ?_
  refine hg_SXF (h1 := hp_up hX ao (OUTC Γ g)) C (LB_s H) (k_La_now l hl9 Γ hX ad M H.2.1 hI ao H.2.2.2.2.2.2.1 g (xs (i + 1)) (xs (i + 2)) (xs (i + 3))) (cw_La_137 C.2.2.2.2.1 rfl rfl ⟨Nat.le_of_ble_eq_true rfl, Nat.le_of_ble_eq_true rfl⟩) rfl rfl (Nat.le_of_ble_eq_true rfl) d_La_law_1020 ⟨by show cells + 4 ≤ 601024; omega, by show slots + 24 ≤ 7293034; omega⟩ (fun r9 w9 hq hd => ?_)
  rw [← eS] at hq
  obtain ⟨rfl, u, ad', g', ha', hcr, hua, rfl, hg0⟩ := hq
  have H2 := LB_w H ha' hcr hua hd
  obtain ⟨h2, eh2⟩ : ∃ z, z = mrg (hp_up u ao (OUTC Γ g')) h (hp_up hX ao (OUTC Γ g)) := ⟨_, rfl⟩
  rw [← eh2] at H2
  refine hg_eq eh2.symm ?_
  refine hg_istore (lv' := [(5, .int S9.1), (4, .int (nI i)), (0, .ref b), (1, .ref (ad 0 0)), (2, .ref r), (3, .ref ao)]) C d_La_law_1023 (by decide) rfl ?_
  refine hg_aload_n C 4 d_La_law_1025 rfl rfl ?_
  refine hg_aload_n C 2 d_La_law_1026 rfl rfl ?_
  refine hg_iload C 1 d_La_law_1027 rfl ?_
  refine hg_iconst (v := 1) C d_La_law_1029 (by decide) ?_
  refine hg_iadd C d_La_law_1030 ?_
  refine hg_ti (show nI i + 1 = nI (i + 1) from nI_add i 1) ?_
  refine hg_sld (i := i + 1) C hX0 hbl hbA (by omega) (by omega) d_La_law_1031 ?_
  refine hg_aload_n C 2 d_La_law_1032 rfl rfl ?_
  refine hg_iload C 1 d_La_law_1033 rfl ?_
  refine hg_iconst (v := 2) C d_La_law_1035 (by decide) ?_
  refine hg_iadd C d_La_law_1036 ?_
  refine hg_ti (show nI i + 2 = nI (i + 2) from nI_add i 2) ?_
  refine hg_sld (i := i + 2) C hX0 hbl hbA (by omega) (by omega) d_La_law_1037 ?_
  refine hg_aload_n C 2 d_La_law_1038 rfl rfl ?_
  refine hg_iload C 1 d_La_law_1039 rfl ?_
  refine hg_iconst (v := 3) C d_La_law_1041 (by decide) ?_
  refine hg_iadd C d_La_law_1042 ?_
  refine hg_ti (show nI i + 3 = nI (i + 3) from nI_add i 3) ?_
  refine hg_sld (i := i + 3) C hX0 hbl hbA (by omega) (by omega) d_La_law_1043 ?_
  refine hg_VNF (q := ("ModelMergeModel", T_Rf, 31)) (h1 := hM) C H2.2.2.2.2.1 (k_Rf_now l Γ hM r aa M H2.2.2.1 hI.1 hI.2.1 (xs (i + 1)) (xs (i + 2)) (xs (i + 3))) (cw_La_139 C.2.2.2.2.1 rfl rfl ⟨Nat.le_of_ble_eq_true rfl, Nat.le_of_ble_eq_true rfl⟩) H2.2.2.1.1 rfl rfl rfl (Nat.le_of_ble_eq_true rfl) d_La_law_1044 ⟨by show cells + 4 + 0 ≤ 601024; omega, by show slots + 24 + 0 ≤ 7293034; omega⟩ (fun r9 v9 hq hd => ?_)
  rw [← eS] at hq
  obtain ⟨rfl, hrf⟩ := hq
  have H3 := LB_r H2 hrf hd
  obtain ⟨h3, eh3⟩ : ∃ z, z = mrg v9 h2 hM := ⟨_, rfl⟩
  rw [← eh3] at H3
  refine hg_eq eh3.symm ?_
  refine hg_istore (lv' := [(6, .int S9.2.1), (5, .int S9.1), (4, .int (nI i)), (0, .ref b), (1, .ref (ad 0 0)), (2, .ref r), (3, .ref ao)]) C d_La_law_1047 (by decide) rfl ?_
  refine hg_aload_n C 5 d_La_law_1049 rfl rfl ?_
  refine hg_VNF (q := ("ModelMergeModel", T_Rf, 31)) (h1 := v9) C H3.2.2.2.2.1 (k_Rf_thrown l Γ v9 r aa S9.2.2 H3.2.2.1) (cw_La_94 C.2.2.2.2.1 rfl rfl ⟨Nat.le_of_ble_eq_true rfl, Nat.le_of_ble_eq_true rfl⟩) H3.2.2.1.1 rfl rfl rfl (Nat.le_of_ble_eq_true rfl) d_La_law_1050 ⟨by show cells + 4 + 0 + 0 ≤ 601024; omega, by show slots + 24 + 0 + 0 ≤ 7293034; omega⟩ (fun r9 w9 hq _ => ?_)
  obtain ⟨rfl, rfl, -⟩ := hq
  refine hg_eq (mrg_self H3.2.2.2.2.1) ?_
  refine hg_ti hcd0 ?_
  have hcd : S9.1 = S9.1 := rfl
  refine hg_iload C 1 d_La_law_1053 rfl ?_
  refine hg_icmp_eq C 1060 d_La_law_1055 (by decide) (fun _ => ?_) (fun z => absurd hcd z)
  refine hg_iload C 1 d_La_law_1060 rfl ?_
  refine hg_if_ne C 1077 d_La_law_1062 (by decide) (fun _ => ?_) (fun z0 => ?_)
  · refine hg_goto C 1648 d_La_law_1077 (by decide) ?_
    refine hg_lv (ks := [2, 3, 4, 5, 6]) (lv' := [(4, .int (nI i)), (0, .ref b), (1, .ref (ad 0 0)), (2, .ref r), (3, .ref ao)]) rfl ?_
    exact hg_widen (by omega) (by omega) (kq S9.2.2 h3 hIn ⟨ad', aa, u, _, g', H3⟩)
  · refine hg_aload_n C 6 d_La_law_1065 rfl rfl ?_
    refine hg_iconst (v := 0) C d_La_law_1066 (by decide) ?_
    refine hg_lald C 1 H3.2.2.2.2.2.2.2.2 rfl (show vp_in (nI 0) 1 from vp_in_nI (by omega) (by omega)) d_La_law_1067 ?_
    refine hg_iload C 0 d_La_law_1068 rfl ?_
    refine hg_i2l C d_La_law_1070 rfl ?_
    refine hg_lcmp C d_La_law_1071 ?_
    refine hg_ti (show lg_cmp (g' (0 : Int32).toNatClampNeg) _ = 0 from lcmp_0 (hg0 z0)) ?_
    refine hg_if_eq C 1077 d_La_law_1072 (by decide) (fun _ => ?_) (fun z => absurd (by decide) z)
    refine hg_goto C 1648 d_La_law_1077 (by decide) ?_
    refine hg_lv (ks := [2, 3, 4, 5, 6]) (lv' := [(4, .int (nI i)), (0, .ref b), (1, .ref (ad 0 0)), (2, .ref r), (3, .ref ao)]) rfl ?_
    exact hg_widen (by omega) (by omega) (kq S9.2.2 h3 hIn ⟨ad', aa, u, _, g', H3⟩)
set_option maxHeartbeats 4000000 in
set_option maxRecDepth 100000 in
theorem ct_La_there (l : Launch) (hl9 : l.stackTraces = false) (Γ : Gam) {p : Program} {e : Env} {s : State} {m : MethodId} {args : Array Value} {below : List Frame} {meth : Method} {c : Code} {A : Nat → Prop} {Q : State → Prop} (C : hp_C p s m args meth c b_La_law 7 "ModelMergeLaw" w_law Γ.1 kcl (ktys Γ.2.1) (ksts Γ.2.2) knws A) {x r ao b L : Nat} {xs : Nat → Int32} (hX0 : va_X b L xs s s.heap) (hbl : b < s.heap.size) (hbA : ¬ A b) {i : Nat} (hi : i + 5 ≤ L) (hL : L ≤ 2560) {M : Mem} (hI : Ivr M) {h : Pic} (hLA : LA Γ x r ao M h) {cells slots : Nat} (hc9 : cells + 10 ≤ 601024) (hs9 : slots + 800 ≤ 7293034) (kq : ∀ (M' : Mem) (h' : Pic), Ivr M' → LA Γ x r ao M' h' → hp_G p l e room_1 s m args below meth c Γ.1 kcl A 7 Q (cells + 10) (slots + 800) 1648 [(4, .int (nI i)), (0, .ref b), (1, .ref x), (2, .ref r), (3, .ref ao)] [] h') :
    hp_G p l e room_1 s m args below meth c Γ.1 kcl A 7 Q cells slots 1080 [(4, .int (nI i)), (0, .ref b), (1, .ref x), (2, .ref r), (3, .ref ao)] [] h := by
  obtain ⟨ad, aa, hX, hM, g, H⟩ := hLA
  have hax := H.1
  subst hax
  obtain ⟨S9, eS⟩ : ∃ z, z = (sp_there M (xs (i + 1)) (xs (i + 2)) (xs (i + 3))) := ⟨_, rfl⟩
  have hIn : Ivr S9.2.2 := by rw [eS]; exact iv_there hI (xs (i + 1)) (xs (i + 2)) (xs (i + 3))
  have hcd0 : S9.2.2 0 0 = S9.1 := by rw [eS]; exact cd_there (xs (i + 1)) (xs (i + 2)) (xs (i + 3))
  refine hg_aload_n C 2 d_La_law_1080 rfl rfl ?_
  refine hg_aload_n C 1 d_La_law_1081 rfl rfl ?_
  refine hg_iload C 0 d_La_law_1082 rfl ?_
  refine hg_iconst (v := 1) C d_La_law_1084 (by decide) ?_
  refine hg_iadd C d_La_law_1085 ?_
  refine hg_ti (show nI i + 1 = nI (i + 1) from nI_add i 1) ?_
  refine hg_sld (i := i + 1) C hX0 hbl hbA (by omega) (by omega) d_La_law_1086 ?_
  refine hg_aload_n C 1 d_La_law_1087 rfl rfl ?_
  refine hg_iload C 0 d_La_law_1088 rfl ?_
  refine hg_iconst (v := 2) C d_La_law_1090 (by decide) ?_
  refine hg_iadd C d_La_law_1091 ?_
  refine hg_ti (show nI i + 2 = nI (i + 2) from nI_add i 2) ?_
  refine hg_sld (i := i + 2) C hX0 hbl hbA (by omega) (by omega) d_La_law_1092 ?_
  refine hg_aload_n C 1 d_La_law_1093 rfl rfl ?_
  refine hg_iload C 0 d_La_law_1094 rfl ?_
  refine hg_iconst (v := 3) C d_La_law_1096 (by decide) ?_
  refine hg_iadd C d_La_law_1097 ?_
  refine hg_ti (show nI i + 3 = nI (i + 3) from nI_add i 3) ?_
  refine hg_sld (i := i + 3) C hX0 hbl hbA (by omega) (by omega) d_La_law_1098 ?_
  refine hg_aload_n C 4 d_La_law_1099 rfl rfl ?_
  refine hg_SXF (h1 := hp_up hX ao (OUTC Γ g)) C (LB_s H) (k_La_there l hl9 Γ hX ad M H.2.1 hI ao H.2.2.2.2.2.2.1 g (xs (i + 1)) (xs (i + 2)) (xs (i + 3))) (cw_La_140 C.2.2.2.2.1 rfl rfl ⟨Nat.le_of_ble_eq_true rfl, Nat.le_of_ble_eq_true rfl⟩) rfl rfl (Nat.le_of_ble_eq_true rfl) d_La_law_1100 ⟨by show cells + 3 ≤ 601024; omega, by show slots + 18 ≤ 7293034; omega⟩ (fun r9 w9 hq hd => ?_)
  rw [← eS] at hq
  obtain ⟨rfl, u, ad', g', ha', hcr, hua, rfl, hg0⟩ := hq
  have H2 := LB_w H ha' hcr hua hd
  obtain ⟨h2, eh2⟩ : ∃ z, z = mrg (hp_up u ao (OUTC Γ g')) h (hp_up hX ao (OUTC Γ g)) := ⟨_, rfl⟩
  rw [← eh2] at H2
  refine hg_eq eh2.symm ?_
  refine hg_istore (lv' := [(5, .int S9.1), (4, .int (nI i)), (0, .ref b), (1, .ref (ad 0 0)), (2, .ref r), (3, .ref ao)]) C d_La_law_1103 (by decide) rfl ?_
  refine hg_aload_n C 4 d_La_law_1105 rfl rfl ?_
  refine hg_aload_n C 2 d_La_law_1106 rfl rfl ?_
  refine hg_iload C 1 d_La_law_1107 rfl ?_
  refine hg_iconst (v := 1) C d_La_law_1109 (by decide) ?_
  refine hg_iadd C d_La_law_1110 ?_
  refine hg_ti (show nI i + 1 = nI (i + 1) from nI_add i 1) ?_
  refine hg_sld (i := i + 1) C hX0 hbl hbA (by omega) (by omega) d_La_law_1111 ?_
  refine hg_aload_n C 2 d_La_law_1112 rfl rfl ?_
  refine hg_iload C 1 d_La_law_1113 rfl ?_
  refine hg_iconst (v := 2) C d_La_law_1115 (by decide) ?_
  refine hg_iadd C d_La_law_1116 ?_
  refine hg_ti (show nI i + 2 = nI (i + 2) from nI_add i 2) ?_
  refine hg_sld (i := i + 2) C hX0 hbl hbA (by omega) (by omega) d_La_law_1117 ?_
  refine hg_aload_n C 2 d_La_law_1118 rfl rfl ?_
  refine hg_iload C 1 d_La_law_1119 rfl ?_
  refine hg_iconst (v := 3) C d_La_law_1121 (by decide) ?_
  refine hg_iadd C d_La_law_1122 ?_
  refine hg_ti (show nI i + 3 = nI (i + 3) from nI_add i 3) ?_
  refine hg_sld (i := i + 3) C hX0 hbl hbA (by omega) (by omega) d_La_law_1123 ?_
  refine hg_VNF (q := ("ModelMergeModel", T_Rf, 31)) (h1 := hM) C H2.2.2.2.2.1 (k_Rf_there l Γ hM r aa M H2.2.2.1 hI.1 (xs (i + 1)) (xs (i + 2)) (xs (i + 3))) (cw_La_142 C.2.2.2.2.1 rfl rfl ⟨Nat.le_of_ble_eq_true rfl, Nat.le_of_ble_eq_true rfl⟩) H2.2.2.1.1 rfl rfl rfl (Nat.le_of_ble_eq_true rfl) d_La_law_1124 ⟨by show cells + 3 + 0 ≤ 601024; omega, by show slots + 18 + 0 ≤ 7293034; omega⟩ (fun r9 v9 hq hd => ?_)
  rw [← eS] at hq
  obtain ⟨rfl, hrf⟩ := hq
  have H3 := LB_r H2 hrf hd
  obtain ⟨h3, eh3⟩ : ∃ z, z = mrg v9 h2 hM := ⟨_, rfl⟩
  rw [← eh3] at H3
  refine hg_eq eh3.symm ?_
  refine hg_istore (lv' := [(6, .int S9.2.1), (5, .int S9.1), (4, .int (nI i)), (0, .ref b), (1, .ref (ad 0 0)), (2, .ref r), (3, .ref ao)]) C d_La_law_1127 (by decide) rfl ?_
  refine hg_aload_n C 5 d_La_law_1129 rfl rfl ?_
  refine hg_VNF (q := ("ModelMergeModel", T_Rf, 31)) (h1 := v9) C H3.2.2.2.2.1 (k_Rf_thrown l Γ v9 r aa S9.2.2 H3.2.2.1) (cw_La_94 C.2.2.2.2.1 rfl rfl ⟨Nat.le_of_ble_eq_true rfl, Nat.le_of_ble_eq_true rfl⟩) H3.2.2.1.1 rfl rfl rfl (Nat.le_of_ble_eq_true rfl) d_La_law_1130 ⟨by show cells + 3 + 0 + 0 ≤ 601024; omega, by show slots + 18 + 0 + 0 ≤ 7293034; omega⟩ (fun r9 w9 hq _ => ?_)
  obtain ⟨rfl, rfl, -⟩ := hq
  refine hg_eq (mrg_self H3.2.2.2.2.1) ?_
  refine hg_ti hcd0 ?_
  have hcd : S9.1 = S9.1 := rfl
  refine hg_iload C 1 d_La_law_1133 rfl ?_
  refine hg_icmp_eq C 1140 d_La_law_1135 (by decide) (fun _ => ?_) (fun z => absurd hcd z)
  refine hg_iload C 1 d_La_law_1140 rfl ?_
  refine hg_if_ne C 1157 d_La_law_1142 (by decide) (fun _ => ?_) (fun z0 => ?_)
  · refine hg_goto C 1648 d_La_law_1157 (by decide) ?_
    refine hg_lv (ks := [2, 3, 4, 5, 6]) (lv' := [(4, .int (nI i)), (0, .ref b), (1, .ref (ad 0 0)), (2, .ref r), (3, .ref ao)]) rfl ?_
    exact hg_widen (by omega) (by omega) (kq S9.2.2 h3 hIn ⟨ad', aa, u, _, g', H3⟩)
  · refine hg_aload_n C 6 d_La_law_1145 rfl rfl ?_
    refine hg_iconst (v := 0) C d_La_law_1146 (by decide) ?_
    refine hg_lald C 1 H3.2.2.2.2.2.2.2.2 rfl (show vp_in (nI 0) 1 from vp_in_nI (by omega) (by omega)) d_La_law_1147 ?_
    refine hg_iload C 0 d_La_law_1148 rfl ?_
    refine hg_i2l C d_La_law_1150 rfl ?_
    refine hg_lcmp C d_La_law_1151 ?_
    refine hg_ti (show lg_cmp (g' (0 : Int32).toNatClampNeg) _ = 0 from lcmp_0 (hg0 z0)) ?_
    refine hg_if_eq C 1157 d_La_law_1152 (by decide) (fun _ => ?_) (fun z => absurd (by decide) z)
    refine hg_goto C 1648 d_La_law_1157 (by decide) ?_
    refine hg_lv (ks := [2, 3, 4, 5, 6]) (lv' := [(4, .int (nI i)), (0, .ref b), (1, .ref (ad 0 0)), (2, .ref r), (3, .ref ao)]) rfl ?_
    exact hg_widen (by omega) (by omega) (kq S9.2.2 h3 hIn ⟨ad', aa, u, _, g', H3⟩)
set_option maxHeartbeats 4000000 in
set_option maxRecDepth 100000 in
theorem ct_La_at (l : Launch) (hl9 : l.stackTraces = false) (Γ : Gam) {p : Program} {e : Env} {s : State} {m : MethodId} {args : Array Value} {below : List Frame} {meth : Method} {c : Code} {A : Nat → Prop} {Q : State → Prop} (C : hp_C p s m args meth c b_La_law 7 "ModelMergeLaw" w_law Γ.1 kcl (ktys Γ.2.1) (ksts Γ.2.2) knws A) {x r ao b L : Nat} {xs : Nat → Int32} (hX0 : va_X b L xs s s.heap) (hbl : b < s.heap.size) (hbA : ¬ A b) {i : Nat} (hi : i + 5 ≤ L) (hL : L ≤ 2560) {M : Mem} (hI : Ivr M) {h : Pic} (hLA : LA Γ x r ao M h) {cells slots : Nat} (hc9 : cells + 10 ≤ 601024) (hs9 : slots + 800 ≤ 7293034) (kq : ∀ (M' : Mem) (h' : Pic), Ivr M' → LA Γ x r ao M' h' → hp_G p l e room_1 s m args below meth c Γ.1 kcl A 7 Q (cells + 10) (slots + 800) 1648 [(4, .int (nI i)), (0, .ref b), (1, .ref x), (2, .ref r), (3, .ref ao)] [] h') :
    hp_G p l e room_1 s m args below meth c Γ.1 kcl A 7 Q cells slots 1160 [(4, .int (nI i)), (0, .ref b), (1, .ref x), (2, .ref r), (3, .ref ao)] [] h := by
  obtain ⟨ad, aa, hX, hM, g, H⟩ := hLA
  have hax := H.1
  subst hax
  obtain ⟨S9, eS⟩ : ∃ z, z = (sp_at M (xs (i + 1)) (xs (i + 2)) (xs (i + 3))) := ⟨_, rfl⟩
  have hIn : Ivr S9.2.2 := by rw [eS]; exact iv_at hI (xs (i + 1)) (xs (i + 2)) (xs (i + 3))
  have hcd0 : S9.2.2 0 0 = S9.1 := by rw [eS]; exact cd_at (xs (i + 1)) (xs (i + 2)) (xs (i + 3))
  refine hg_aload_n C 2 d_La_law_1160 rfl rfl ?_
  refine hg_aload_n C 1 d_La_law_1161 rfl rfl ?_
  refine hg_iload C 0 d_La_law_1162 rfl ?_
  refine hg_iconst (v := 1) C d_La_law_1164 (by decide) ?_
  refine hg_iadd C d_La_law_1165 ?_
  refine hg_ti (show nI i + 1 = nI (i + 1) from nI_add i 1) ?_
  refine hg_sld (i := i + 1) C hX0 hbl hbA (by omega) (by omega) d_La_law_1166 ?_
  refine hg_aload_n C 1 d_La_law_1167 rfl rfl ?_
  refine hg_iload C 0 d_La_law_1168 rfl ?_
  refine hg_iconst (v := 2) C d_La_law_1170 (by decide) ?_
  refine hg_iadd C d_La_law_1171 ?_
  refine hg_ti (show nI i + 2 = nI (i + 2) from nI_add i 2) ?_
  refine hg_sld (i := i + 2) C hX0 hbl hbA (by omega) (by omega) d_La_law_1172 ?_
  refine hg_aload_n C 1 d_La_law_1173 rfl rfl ?_
  refine hg_iload C 0 d_La_law_1174 rfl ?_
  refine hg_iconst (v := 3) C d_La_law_1176 (by decide) ?_
  refine hg_iadd C d_La_law_1177 ?_
  refine hg_ti (show nI i + 3 = nI (i + 3) from nI_add i 3) ?_
  refine hg_sld (i := i + 3) C hX0 hbl hbA (by omega) (by omega) d_La_law_1178 ?_
  refine hg_aload_n C 4 d_La_law_1179 rfl rfl ?_
  refine hg_SXF (h1 := hp_up hX ao (OUTC Γ g)) C (LB_s H) (k_La_at l hl9 Γ hX ad M H.2.1 hI ao H.2.2.2.2.2.2.1 g (xs (i + 1)) (xs (i + 2)) (xs (i + 3))) (cw_La_143 C.2.2.2.2.1 rfl rfl ⟨Nat.le_of_ble_eq_true rfl, Nat.le_of_ble_eq_true rfl⟩) rfl rfl (Nat.le_of_ble_eq_true rfl) d_La_law_1180 ⟨by show cells + 4 ≤ 601024; omega, by show slots + 24 ≤ 7293034; omega⟩ (fun r9 w9 hq hd => ?_)
  rw [← eS] at hq
  obtain ⟨rfl, u, ad', g', ha', hcr, hua, rfl, hg0⟩ := hq
  have H2 := LB_w H ha' hcr hua hd
  obtain ⟨h2, eh2⟩ : ∃ z, z = mrg (hp_up u ao (OUTC Γ g')) h (hp_up hX ao (OUTC Γ g)) := ⟨_, rfl⟩
  rw [← eh2] at H2
  refine hg_eq eh2.symm ?_
  refine hg_istore (lv' := [(5, .int S9.1), (4, .int (nI i)), (0, .ref b), (1, .ref (ad 0 0)), (2, .ref r), (3, .ref ao)]) C d_La_law_1183 (by decide) rfl ?_
  refine hg_aload_n C 4 d_La_law_1185 rfl rfl ?_
  refine hg_aload_n C 2 d_La_law_1186 rfl rfl ?_
  refine hg_iload C 1 d_La_law_1187 rfl ?_
  refine hg_iconst (v := 1) C d_La_law_1189 (by decide) ?_
  refine hg_iadd C d_La_law_1190 ?_
  refine hg_ti (show nI i + 1 = nI (i + 1) from nI_add i 1) ?_
  refine hg_sld (i := i + 1) C hX0 hbl hbA (by omega) (by omega) d_La_law_1191 ?_
  refine hg_aload_n C 2 d_La_law_1192 rfl rfl ?_
  refine hg_iload C 1 d_La_law_1193 rfl ?_
  refine hg_iconst (v := 2) C d_La_law_1195 (by decide) ?_
  refine hg_iadd C d_La_law_1196 ?_
  refine hg_ti (show nI i + 2 = nI (i + 2) from nI_add i 2) ?_
  refine hg_sld (i := i + 2) C hX0 hbl hbA (by omega) (by omega) d_La_law_1197 ?_
  refine hg_aload_n C 2 d_La_law_1198 rfl rfl ?_
  refine hg_iload C 1 d_La_law_1199 rfl ?_
  refine hg_iconst (v := 3) C d_La_law_1201 (by decide) ?_
  refine hg_iadd C d_La_law_1202 ?_
  refine hg_ti (show nI i + 3 = nI (i + 3) from nI_add i 3) ?_
  refine hg_sld (i := i + 3) C hX0 hbl hbA (by omega) (by omega) d_La_law_1203 ?_
  refine hg_VNF (q := ("ModelMergeModel", T_Rf, 31)) (h1 := hM) C H2.2.2.2.2.1 (k_Rf_at l Γ hM r aa M H2.2.2.1 hI.1 (xs (i + 1)) (xs (i + 2)) (xs (i + 3))) (cw_La_145 C.2.2.2.2.1 rfl rfl ⟨Nat.le_of_ble_eq_true rfl, Nat.le_of_ble_eq_true rfl⟩) H2.2.2.1.1 rfl rfl rfl (Nat.le_of_ble_eq_true rfl) d_La_law_1204 ⟨by show cells + 4 + 0 ≤ 601024; omega, by show slots + 24 + 0 ≤ 7293034; omega⟩ (fun r9 v9 hq hd => ?_)
  rw [← eS] at hq
  obtain ⟨rfl, hrf⟩ := hq
  have H3 := LB_r H2 hrf hd
  obtain ⟨h3, eh3⟩ : ∃ z, z = mrg v9 h2 hM := ⟨_, rfl⟩
  rw [← eh3] at H3
  refine hg_eq eh3.symm ?_
  refine hg_istore (lv' := [(6, .int S9.2.1), (5, .int S9.1), (4, .int (nI i)), (0, .ref b), (1, .ref (ad 0 0)), (2, .ref r), (3, .ref ao)]) C d_La_law_1207 (by decide) rfl ?_
  refine hg_aload_n C 5 d_La_law_1209 rfl rfl ?_
  refine hg_VNF (q := ("ModelMergeModel", T_Rf, 31)) (h1 := v9) C H3.2.2.2.2.1 (k_Rf_thrown l Γ v9 r aa S9.2.2 H3.2.2.1) (cw_La_94 C.2.2.2.2.1 rfl rfl ⟨Nat.le_of_ble_eq_true rfl, Nat.le_of_ble_eq_true rfl⟩) H3.2.2.1.1 rfl rfl rfl (Nat.le_of_ble_eq_true rfl) d_La_law_1210 ⟨by show cells + 4 + 0 + 0 ≤ 601024; omega, by show slots + 24 + 0 + 0 ≤ 7293034; omega⟩ (fun r9 w9 hq _ => ?_)
  obtain ⟨rfl, rfl, -⟩ := hq
  refine hg_eq (mrg_self H3.2.2.2.2.1) ?_
  refine hg_ti hcd0 ?_
  have hcd : S9.1 = S9.1 := rfl
  refine hg_iload C 1 d_La_law_1213 rfl ?_
  refine hg_icmp_eq C 1220 d_La_law_1215 (by decide) (fun _ => ?_) (fun z => absurd hcd z)
  refine hg_iload C 1 d_La_law_1220 rfl ?_
  refine hg_if_ne C 1237 d_La_law_1222 (by decide) (fun _ => ?_) (fun z0 => ?_)
  · refine hg_goto C 1648 d_La_law_1237 (by decide) ?_
    refine hg_lv (ks := [2, 3, 4, 5, 6]) (lv' := [(4, .int (nI i)), (0, .ref b), (1, .ref (ad 0 0)), (2, .ref r), (3, .ref ao)]) rfl ?_
    exact hg_widen (by omega) (by omega) (kq S9.2.2 h3 hIn ⟨ad', aa, u, _, g', H3⟩)
  · refine hg_aload_n C 6 d_La_law_1225 rfl rfl ?_
    refine hg_iconst (v := 0) C d_La_law_1226 (by decide) ?_
    refine hg_lald C 1 H3.2.2.2.2.2.2.2.2 rfl (show vp_in (nI 0) 1 from vp_in_nI (by omega) (by omega)) d_La_law_1227 ?_
    refine hg_iload C 0 d_La_law_1228 rfl ?_
    refine hg_i2l C d_La_law_1230 rfl ?_
    refine hg_lcmp C d_La_law_1231 ?_
    refine hg_ti (show lg_cmp (g' (0 : Int32).toNatClampNeg) _ = 0 from lcmp_0 (hg0 z0)) ?_
    refine hg_if_eq C 1237 d_La_law_1232 (by decide) (fun _ => ?_) (fun z => absurd (by decide) z)
    refine hg_goto C 1648 d_La_law_1237 (by decide) ?_
    refine hg_lv (ks := [2, 3, 4, 5, 6]) (lv' := [(4, .int (nI i)), (0, .ref b), (1, .ref (ad 0 0)), (2, .ref r), (3, .ref ao)]) rfl ?_
    exact hg_widen (by omega) (by omega) (kq S9.2.2 h3 hIn ⟨ad', aa, u, _, g', H3⟩)
set_option maxHeartbeats 4000000 in
set_option maxRecDepth 100000 in
theorem ct_La_since (l : Launch) (hl9 : l.stackTraces = false) (Γ : Gam) {p : Program} {e : Env} {s : State} {m : MethodId} {args : Array Value} {below : List Frame} {meth : Method} {c : Code} {A : Nat → Prop} {Q : State → Prop} (C : hp_C p s m args meth c b_La_law 7 "ModelMergeLaw" w_law Γ.1 kcl (ktys Γ.2.1) (ksts Γ.2.2) knws A) {x r ao b L : Nat} {xs : Nat → Int32} (hX0 : va_X b L xs s s.heap) (hbl : b < s.heap.size) (hbA : ¬ A b) {i : Nat} (hi : i + 5 ≤ L) (hL : L ≤ 2560) {M : Mem} (hI : Ivr M) {h : Pic} (hLA : LA Γ x r ao M h) {cells slots : Nat} (hc9 : cells + 10 ≤ 601024) (hs9 : slots + 800 ≤ 7293034) (kq : ∀ (M' : Mem) (h' : Pic), Ivr M' → LA Γ x r ao M' h' → hp_G p l e room_1 s m args below meth c Γ.1 kcl A 7 Q (cells + 10) (slots + 800) 1648 [(4, .int (nI i)), (0, .ref b), (1, .ref x), (2, .ref r), (3, .ref ao)] [] h') :
    hp_G p l e room_1 s m args below meth c Γ.1 kcl A 7 Q cells slots 1240 [(4, .int (nI i)), (0, .ref b), (1, .ref x), (2, .ref r), (3, .ref ao)] [] h := by
  obtain ⟨ad, aa, hX, hM, g, H⟩ := hLA
  have hax := H.1
  subst hax
  obtain ⟨S9, eS⟩ : ∃ z, z = (sp_since M (xs (i + 1)) (xs (i + 2)) (xs (i + 3))) := ⟨_, rfl⟩
  have hIn : Ivr S9.2.2 := by rw [eS]; exact iv_since hI (xs (i + 1)) (xs (i + 2)) (xs (i + 3))
  have hcd0 : S9.2.2 0 0 = S9.1 := by rw [eS]; exact cd_since (xs (i + 1)) (xs (i + 2)) (xs (i + 3))
  refine hg_aload_n C 2 d_La_law_1240 rfl rfl ?_
  refine hg_aload_n C 1 d_La_law_1241 rfl rfl ?_
  refine hg_iload C 0 d_La_law_1242 rfl ?_
  refine hg_iconst (v := 1) C d_La_law_1244 (by decide) ?_
  refine hg_iadd C d_La_law_1245 ?_
  refine hg_ti (show nI i + 1 = nI (i + 1) from nI_add i 1) ?_
  refine hg_sld (i := i + 1) C hX0 hbl hbA (by omega) (by omega) d_La_law_1246 ?_
  refine hg_aload_n C 1 d_La_law_1247 rfl rfl ?_
  refine hg_iload C 0 d_La_law_1248 rfl ?_
  refine hg_iconst (v := 2) C d_La_law_1250 (by decide) ?_
  refine hg_iadd C d_La_law_1251 ?_
  refine hg_ti (show nI i + 2 = nI (i + 2) from nI_add i 2) ?_
  refine hg_sld (i := i + 2) C hX0 hbl hbA (by omega) (by omega) d_La_law_1252 ?_
  refine hg_aload_n C 1 d_La_law_1253 rfl rfl ?_
  refine hg_iload C 0 d_La_law_1254 rfl ?_
  refine hg_iconst (v := 3) C d_La_law_1256 (by decide) ?_
  refine hg_iadd C d_La_law_1257 ?_
  refine hg_ti (show nI i + 3 = nI (i + 3) from nI_add i 3) ?_
  refine hg_sld (i := i + 3) C hX0 hbl hbA (by omega) (by omega) d_La_law_1258 ?_
  refine hg_aload_n C 4 d_La_law_1259 rfl rfl ?_
  refine hg_SXF (h1 := hp_up hX ao (OUTC Γ g)) C (LB_s H) (k_La_since l hl9 Γ hX ad M H.2.1 hI ao H.2.2.2.2.2.2.1 g (xs (i + 1)) (xs (i + 2)) (xs (i + 3))) (cw_La_146 C.2.2.2.2.1 rfl rfl ⟨Nat.le_of_ble_eq_true rfl, Nat.le_of_ble_eq_true rfl⟩) rfl rfl (Nat.le_of_ble_eq_true rfl) d_La_law_1260 ⟨by show cells + 4 ≤ 601024; omega, by show slots + 24 ≤ 7293034; omega⟩ (fun r9 w9 hq hd => ?_)
  rw [← eS] at hq
  obtain ⟨rfl, u, ad', g', ha', hcr, hua, rfl, hg0⟩ := hq
  have H2 := LB_w H ha' hcr hua hd
  obtain ⟨h2, eh2⟩ : ∃ z, z = mrg (hp_up u ao (OUTC Γ g')) h (hp_up hX ao (OUTC Γ g)) := ⟨_, rfl⟩
  rw [← eh2] at H2
  refine hg_eq eh2.symm ?_
  refine hg_istore (lv' := [(5, .int S9.1), (4, .int (nI i)), (0, .ref b), (1, .ref (ad 0 0)), (2, .ref r), (3, .ref ao)]) C d_La_law_1263 (by decide) rfl ?_
  refine hg_aload_n C 4 d_La_law_1265 rfl rfl ?_
  refine hg_aload_n C 2 d_La_law_1266 rfl rfl ?_
  refine hg_iload C 1 d_La_law_1267 rfl ?_
  refine hg_iconst (v := 1) C d_La_law_1269 (by decide) ?_
  refine hg_iadd C d_La_law_1270 ?_
  refine hg_ti (show nI i + 1 = nI (i + 1) from nI_add i 1) ?_
  refine hg_sld (i := i + 1) C hX0 hbl hbA (by omega) (by omega) d_La_law_1271 ?_
  refine hg_aload_n C 2 d_La_law_1272 rfl rfl ?_
  refine hg_iload C 1 d_La_law_1273 rfl ?_
  refine hg_iconst (v := 2) C d_La_law_1275 (by decide) ?_
  refine hg_iadd C d_La_law_1276 ?_
  refine hg_ti (show nI i + 2 = nI (i + 2) from nI_add i 2) ?_
  refine hg_sld (i := i + 2) C hX0 hbl hbA (by omega) (by omega) d_La_law_1277 ?_
  refine hg_aload_n C 2 d_La_law_1278 rfl rfl ?_
  refine hg_iload C 1 d_La_law_1279 rfl ?_
  refine hg_iconst (v := 3) C d_La_law_1281 (by decide) ?_
  refine hg_iadd C d_La_law_1282 ?_
  refine hg_ti (show nI i + 3 = nI (i + 3) from nI_add i 3) ?_
  refine hg_sld (i := i + 3) C hX0 hbl hbA (by omega) (by omega) d_La_law_1283 ?_
  refine hg_VNF (q := ("ModelMergeModel", T_Rf, 31)) (h1 := hM) C H2.2.2.2.2.1 (k_Rf_since l Γ hM r aa M H2.2.2.1 hI.1 (xs (i + 1)) (xs (i + 2)) (xs (i + 3))) (cw_La_148 C.2.2.2.2.1 rfl rfl ⟨Nat.le_of_ble_eq_true rfl, Nat.le_of_ble_eq_true rfl⟩) H2.2.2.1.1 rfl rfl rfl (Nat.le_of_ble_eq_true rfl) d_La_law_1284 ⟨by show cells + 4 + 0 ≤ 601024; omega, by show slots + 24 + 0 ≤ 7293034; omega⟩ (fun r9 v9 hq hd => ?_)
  rw [← eS] at hq
  obtain ⟨rfl, hrf⟩ := hq
  have H3 := LB_r H2 hrf hd
  obtain ⟨h3, eh3⟩ : ∃ z, z = mrg v9 h2 hM := ⟨_, rfl⟩
  rw [← eh3] at H3
  refine hg_eq eh3.symm ?_
  refine hg_istore (lv' := [(6, .int S9.2.1), (5, .int S9.1), (4, .int (nI i)), (0, .ref b), (1, .ref (ad 0 0)), (2, .ref r), (3, .ref ao)]) C d_La_law_1287 (by decide) rfl ?_
  refine hg_aload_n C 5 d_La_law_1289 rfl rfl ?_
  refine hg_VNF (q := ("ModelMergeModel", T_Rf, 31)) (h1 := v9) C H3.2.2.2.2.1 (k_Rf_thrown l Γ v9 r aa S9.2.2 H3.2.2.1) (cw_La_94 C.2.2.2.2.1 rfl rfl ⟨Nat.le_of_ble_eq_true rfl, Nat.le_of_ble_eq_true rfl⟩) H3.2.2.1.1 rfl rfl rfl (Nat.le_of_ble_eq_true rfl) d_La_law_1290 ⟨by show cells + 4 + 0 + 0 ≤ 601024; omega, by show slots + 24 + 0 + 0 ≤ 7293034; omega⟩ (fun r9 w9 hq _ => ?_)
  obtain ⟨rfl, rfl, -⟩ := hq
  refine hg_eq (mrg_self H3.2.2.2.2.1) ?_
  refine hg_ti hcd0 ?_
  have hcd : S9.1 = S9.1 := rfl
  refine hg_iload C 1 d_La_law_1293 rfl ?_
  refine hg_icmp_eq C 1300 d_La_law_1295 (by decide) (fun _ => ?_) (fun z => absurd hcd z)
  refine hg_iload C 1 d_La_law_1300 rfl ?_
  refine hg_if_ne C 1317 d_La_law_1302 (by decide) (fun _ => ?_) (fun z0 => ?_)
  · refine hg_goto C 1648 d_La_law_1317 (by decide) ?_
    refine hg_lv (ks := [2, 3, 4, 5, 6]) (lv' := [(4, .int (nI i)), (0, .ref b), (1, .ref (ad 0 0)), (2, .ref r), (3, .ref ao)]) rfl ?_
    exact hg_widen (by omega) (by omega) (kq S9.2.2 h3 hIn ⟨ad', aa, u, _, g', H3⟩)
  · refine hg_aload_n C 6 d_La_law_1305 rfl rfl ?_
    refine hg_iconst (v := 0) C d_La_law_1306 (by decide) ?_
    refine hg_lald C 1 H3.2.2.2.2.2.2.2.2 rfl (show vp_in (nI 0) 1 from vp_in_nI (by omega) (by omega)) d_La_law_1307 ?_
    refine hg_iload C 0 d_La_law_1308 rfl ?_
    refine hg_i2l C d_La_law_1310 rfl ?_
    refine hg_lcmp C d_La_law_1311 ?_
    refine hg_ti (show lg_cmp (g' (0 : Int32).toNatClampNeg) _ = 0 from lcmp_0 (hg0 z0)) ?_
    refine hg_if_eq C 1317 d_La_law_1312 (by decide) (fun _ => ?_) (fun z => absurd (by decide) z)
    refine hg_goto C 1648 d_La_law_1317 (by decide) ?_
    refine hg_lv (ks := [2, 3, 4, 5, 6]) (lv' := [(4, .int (nI i)), (0, .ref b), (1, .ref (ad 0 0)), (2, .ref r), (3, .ref ao)]) rfl ?_
    exact hg_widen (by omega) (by omega) (kq S9.2.2 h3 hIn ⟨ad', aa, u, _, g', H3⟩)
set_option maxHeartbeats 4000000 in
set_option maxRecDepth 100000 in
theorem ct_La_told (l : Launch) (hl9 : l.stackTraces = false) (Γ : Gam) {p : Program} {e : Env} {s : State} {m : MethodId} {args : Array Value} {below : List Frame} {meth : Method} {c : Code} {A : Nat → Prop} {Q : State → Prop} (C : hp_C p s m args meth c b_La_law 7 "ModelMergeLaw" w_law Γ.1 kcl (ktys Γ.2.1) (ksts Γ.2.2) knws A) {x r ao b L : Nat} {xs : Nat → Int32} (hX0 : va_X b L xs s s.heap) (hbl : b < s.heap.size) (hbA : ¬ A b) {i : Nat} (hi : i + 5 ≤ L) (hL : L ≤ 2560) {M : Mem} (hI : Ivr M) {h : Pic} (hLA : LA Γ x r ao M h) {cells slots : Nat} (hc9 : cells + 10 ≤ 601024) (hs9 : slots + 800 ≤ 7293034) (kq : ∀ (M' : Mem) (h' : Pic), Ivr M' → LA Γ x r ao M' h' → hp_G p l e room_1 s m args below meth c Γ.1 kcl A 7 Q (cells + 10) (slots + 800) 1648 [(4, .int (nI i)), (0, .ref b), (1, .ref x), (2, .ref r), (3, .ref ao)] [] h') :
    hp_G p l e room_1 s m args below meth c Γ.1 kcl A 7 Q cells slots 1320 [(4, .int (nI i)), (0, .ref b), (1, .ref x), (2, .ref r), (3, .ref ao)] [] h := by
  obtain ⟨ad, aa, hX, hM, g, H⟩ := hLA
  have hax := H.1
  subst hax
  obtain ⟨S9, eS⟩ : ∃ z, z = (sp_told M (xs (i + 1)) (xs (i + 2))) := ⟨_, rfl⟩
  have hIn : Ivr S9.2.2 := by rw [eS]; exact iv_told hI (xs (i + 1)) (xs (i + 2))
  have hcd0 : S9.2.2 0 0 = S9.1 := by rw [eS]; exact cd_told (xs (i + 1)) (xs (i + 2))
  refine hg_aload_n C 2 d_La_law_1320 rfl rfl ?_
  refine hg_aload_n C 1 d_La_law_1321 rfl rfl ?_
  refine hg_iload C 0 d_La_law_1322 rfl ?_
  refine hg_iconst (v := 1) C d_La_law_1324 (by decide) ?_
  refine hg_iadd C d_La_law_1325 ?_
  refine hg_ti (show nI i + 1 = nI (i + 1) from nI_add i 1) ?_
  refine hg_sld (i := i + 1) C hX0 hbl hbA (by omega) (by omega) d_La_law_1326 ?_
  refine hg_aload_n C 1 d_La_law_1327 rfl rfl ?_
  refine hg_iload C 0 d_La_law_1328 rfl ?_
  refine hg_iconst (v := 2) C d_La_law_1330 (by decide) ?_
  refine hg_iadd C d_La_law_1331 ?_
  refine hg_ti (show nI i + 2 = nI (i + 2) from nI_add i 2) ?_
  refine hg_sld (i := i + 2) C hX0 hbl hbA (by omega) (by omega) d_La_law_1332 ?_
  refine hg_aload_n C 4 d_La_law_1333 rfl rfl ?_
  refine hg_SXF (h1 := hp_up hX ao (OUTC Γ g)) C (LB_s H) (k_La_told l hl9 Γ hX ad M H.2.1 hI ao H.2.2.2.2.2.2.1 g (xs (i + 1)) (xs (i + 2))) (cw_La_149 C.2.2.2.2.1 rfl rfl ⟨Nat.le_of_ble_eq_true rfl, Nat.le_of_ble_eq_true rfl⟩) rfl rfl (Nat.le_of_ble_eq_true rfl) d_La_law_1334 ⟨by show cells + 2 ≤ 601024; omega, by show slots + 12 ≤ 7293034; omega⟩ (fun r9 w9 hq hd => ?_)
  rw [← eS] at hq
  obtain ⟨rfl, u, ad', g', ha', hcr, hua, rfl, hg0⟩ := hq
  have H2 := LB_w H ha' hcr hua hd
  obtain ⟨h2, eh2⟩ : ∃ z, z = mrg (hp_up u ao (OUTC Γ g')) h (hp_up hX ao (OUTC Γ g)) := ⟨_, rfl⟩
  rw [← eh2] at H2
  refine hg_eq eh2.symm ?_
  refine hg_istore (lv' := [(5, .int S9.1), (4, .int (nI i)), (0, .ref b), (1, .ref (ad 0 0)), (2, .ref r), (3, .ref ao)]) C d_La_law_1337 (by decide) rfl ?_
  refine hg_aload_n C 4 d_La_law_1339 rfl rfl ?_
  refine hg_aload_n C 2 d_La_law_1340 rfl rfl ?_
  refine hg_iload C 1 d_La_law_1341 rfl ?_
  refine hg_iconst (v := 1) C d_La_law_1343 (by decide) ?_
  refine hg_iadd C d_La_law_1344 ?_
  refine hg_ti (show nI i + 1 = nI (i + 1) from nI_add i 1) ?_
  refine hg_sld (i := i + 1) C hX0 hbl hbA (by omega) (by omega) d_La_law_1345 ?_
  refine hg_aload_n C 2 d_La_law_1346 rfl rfl ?_
  refine hg_iload C 1 d_La_law_1347 rfl ?_
  refine hg_iconst (v := 2) C d_La_law_1349 (by decide) ?_
  refine hg_iadd C d_La_law_1350 ?_
  refine hg_ti (show nI i + 2 = nI (i + 2) from nI_add i 2) ?_
  refine hg_sld (i := i + 2) C hX0 hbl hbA (by omega) (by omega) d_La_law_1351 ?_
  refine hg_VNF (q := ("ModelMergeModel", T_Rf, 31)) (h1 := hM) C H2.2.2.2.2.1 (k_Rf_told l Γ hM r aa M H2.2.2.1 hI.1 (xs (i + 1)) (xs (i + 2))) (cw_La_151 C.2.2.2.2.1 rfl rfl ⟨Nat.le_of_ble_eq_true rfl, Nat.le_of_ble_eq_true rfl⟩) H2.2.2.1.1 rfl rfl rfl (Nat.le_of_ble_eq_true rfl) d_La_law_1352 ⟨by show cells + 2 + 0 ≤ 601024; omega, by show slots + 12 + 0 ≤ 7293034; omega⟩ (fun r9 v9 hq hd => ?_)
  rw [← eS] at hq
  obtain ⟨rfl, hrf⟩ := hq
  have H3 := LB_r H2 hrf hd
  obtain ⟨h3, eh3⟩ : ∃ z, z = mrg v9 h2 hM := ⟨_, rfl⟩
  rw [← eh3] at H3
  refine hg_eq eh3.symm ?_
  refine hg_istore (lv' := [(6, .int S9.2.1), (5, .int S9.1), (4, .int (nI i)), (0, .ref b), (1, .ref (ad 0 0)), (2, .ref r), (3, .ref ao)]) C d_La_law_1355 (by decide) rfl ?_
  refine hg_aload_n C 5 d_La_law_1357 rfl rfl ?_
  refine hg_VNF (q := ("ModelMergeModel", T_Rf, 31)) (h1 := v9) C H3.2.2.2.2.1 (k_Rf_thrown l Γ v9 r aa S9.2.2 H3.2.2.1) (cw_La_94 C.2.2.2.2.1 rfl rfl ⟨Nat.le_of_ble_eq_true rfl, Nat.le_of_ble_eq_true rfl⟩) H3.2.2.1.1 rfl rfl rfl (Nat.le_of_ble_eq_true rfl) d_La_law_1358 ⟨by show cells + 2 + 0 + 0 ≤ 601024; omega, by show slots + 12 + 0 + 0 ≤ 7293034; omega⟩ (fun r9 w9 hq _ => ?_)
  obtain ⟨rfl, rfl, -⟩ := hq
  refine hg_eq (mrg_self H3.2.2.2.2.1) ?_
  refine hg_ti hcd0 ?_
  have hcd : S9.1 = S9.1 := rfl
  refine hg_iload C 1 d_La_law_1361 rfl ?_
  refine hg_icmp_eq C 1368 d_La_law_1363 (by decide) (fun _ => ?_) (fun z => absurd hcd z)
  refine hg_iload C 1 d_La_law_1368 rfl ?_
  refine hg_if_ne C 1385 d_La_law_1370 (by decide) (fun _ => ?_) (fun z0 => ?_)
  · refine hg_goto C 1648 d_La_law_1385 (by decide) ?_
    refine hg_lv (ks := [2, 3, 4, 5, 6]) (lv' := [(4, .int (nI i)), (0, .ref b), (1, .ref (ad 0 0)), (2, .ref r), (3, .ref ao)]) rfl ?_
    exact hg_widen (by omega) (by omega) (kq S9.2.2 h3 hIn ⟨ad', aa, u, _, g', H3⟩)
  · refine hg_aload_n C 6 d_La_law_1373 rfl rfl ?_
    refine hg_iconst (v := 0) C d_La_law_1374 (by decide) ?_
    refine hg_lald C 1 H3.2.2.2.2.2.2.2.2 rfl (show vp_in (nI 0) 1 from vp_in_nI (by omega) (by omega)) d_La_law_1375 ?_
    refine hg_iload C 0 d_La_law_1376 rfl ?_
    refine hg_i2l C d_La_law_1378 rfl ?_
    refine hg_lcmp C d_La_law_1379 ?_
    refine hg_ti (show lg_cmp (g' (0 : Int32).toNatClampNeg) _ = 0 from lcmp_0 (hg0 z0)) ?_
    refine hg_if_eq C 1385 d_La_law_1380 (by decide) (fun _ => ?_) (fun z => absurd (by decide) z)
    refine hg_goto C 1648 d_La_law_1385 (by decide) ?_
    refine hg_lv (ks := [2, 3, 4, 5, 6]) (lv' := [(4, .int (nI i)), (0, .ref b), (1, .ref (ad 0 0)), (2, .ref r), (3, .ref ao)]) rfl ?_
    exact hg_widen (by omega) (by omega) (kq S9.2.2 h3 hIn ⟨ad', aa, u, _, g', H3⟩)
set_option maxHeartbeats 4000000 in
set_option maxRecDepth 100000 in
theorem ct_La_author (l : Launch) (hl9 : l.stackTraces = false) (Γ : Gam) {p : Program} {e : Env} {s : State} {m : MethodId} {args : Array Value} {below : List Frame} {meth : Method} {c : Code} {A : Nat → Prop} {Q : State → Prop} (C : hp_C p s m args meth c b_La_law 7 "ModelMergeLaw" w_law Γ.1 kcl (ktys Γ.2.1) (ksts Γ.2.2) knws A) {x r ao b L : Nat} {xs : Nat → Int32} (hX0 : va_X b L xs s s.heap) (hbl : b < s.heap.size) (hbA : ¬ A b) {i : Nat} (hi : i + 5 ≤ L) (hL : L ≤ 2560) {M : Mem} (hI : Ivr M) {h : Pic} (hLA : LA Γ x r ao M h) {cells slots : Nat} (hc9 : cells + 10 ≤ 601024) (hs9 : slots + 800 ≤ 7293034) (kq : ∀ (M' : Mem) (h' : Pic), Ivr M' → LA Γ x r ao M' h' → hp_G p l e room_1 s m args below meth c Γ.1 kcl A 7 Q (cells + 10) (slots + 800) 1648 [(4, .int (nI i)), (0, .ref b), (1, .ref x), (2, .ref r), (3, .ref ao)] [] h') :
    hp_G p l e room_1 s m args below meth c Γ.1 kcl A 7 Q cells slots 1388 [(4, .int (nI i)), (0, .ref b), (1, .ref x), (2, .ref r), (3, .ref ao)] [] h := by
  obtain ⟨ad, aa, hX, hM, g, H⟩ := hLA
  have hax := H.1
  subst hax
  obtain ⟨S9, eS⟩ : ∃ z, z = (sp_author M (xs (i + 1))) := ⟨_, rfl⟩
  have hIn : Ivr S9.2.2 := by rw [eS]; exact iv_author hI (xs (i + 1))
  have hcd0 : S9.2.2 0 0 = S9.1 := by rw [eS]; exact cd_author (xs (i + 1))
  refine hg_aload_n C 2 d_La_law_1388 rfl rfl ?_
  refine hg_aload_n C 1 d_La_law_1389 rfl rfl ?_
  refine hg_iload C 0 d_La_law_1390 rfl ?_
  refine hg_iconst (v := 1) C d_La_law_1392 (by decide) ?_
  refine hg_iadd C d_La_law_1393 ?_
  refine hg_ti (show nI i + 1 = nI (i + 1) from nI_add i 1) ?_
  refine hg_sld (i := i + 1) C hX0 hbl hbA (by omega) (by omega) d_La_law_1394 ?_
  refine hg_aload_n C 4 d_La_law_1395 rfl rfl ?_
  refine hg_SXF (h1 := hp_up hX ao (OUTC Γ g)) C (LB_s H) (k_La_author l hl9 Γ hX ad M H.2.1 hI ao H.2.2.2.2.2.2.1 g (xs (i + 1))) (cw_La_152 C.2.2.2.2.1 rfl rfl ⟨Nat.le_of_ble_eq_true rfl, Nat.le_of_ble_eq_true rfl⟩) rfl rfl (Nat.le_of_ble_eq_true rfl) d_La_law_1396 ⟨by show cells + 2 ≤ 601024; omega, by show slots + 12 ≤ 7293034; omega⟩ (fun r9 w9 hq hd => ?_)
  rw [← eS] at hq
  obtain ⟨rfl, u, ad', g', ha', hcr, hua, rfl, hg0⟩ := hq
  have H2 := LB_w H ha' hcr hua hd
  obtain ⟨h2, eh2⟩ : ∃ z, z = mrg (hp_up u ao (OUTC Γ g')) h (hp_up hX ao (OUTC Γ g)) := ⟨_, rfl⟩
  rw [← eh2] at H2
  refine hg_eq eh2.symm ?_
  refine hg_istore (lv' := [(5, .int S9.1), (4, .int (nI i)), (0, .ref b), (1, .ref (ad 0 0)), (2, .ref r), (3, .ref ao)]) C d_La_law_1399 (by decide) rfl ?_
  refine hg_aload_n C 4 d_La_law_1401 rfl rfl ?_
  refine hg_aload_n C 2 d_La_law_1402 rfl rfl ?_
  refine hg_iload C 1 d_La_law_1403 rfl ?_
  refine hg_iconst (v := 1) C d_La_law_1405 (by decide) ?_
  refine hg_iadd C d_La_law_1406 ?_
  refine hg_ti (show nI i + 1 = nI (i + 1) from nI_add i 1) ?_
  refine hg_sld (i := i + 1) C hX0 hbl hbA (by omega) (by omega) d_La_law_1407 ?_
  refine hg_VNF (q := ("ModelMergeModel", T_Rf, 31)) (h1 := hM) C H2.2.2.2.2.1 (k_Rf_author l Γ hM r aa M H2.2.2.1 hI.1 (xs (i + 1))) (cw_La_154 C.2.2.2.2.1 rfl rfl ⟨Nat.le_of_ble_eq_true rfl, Nat.le_of_ble_eq_true rfl⟩) H2.2.2.1.1 rfl rfl rfl (Nat.le_of_ble_eq_true rfl) d_La_law_1408 ⟨by show cells + 2 + 0 ≤ 601024; omega, by show slots + 12 + 0 ≤ 7293034; omega⟩ (fun r9 v9 hq hd => ?_)
  rw [← eS] at hq
  obtain ⟨rfl, hrf⟩ := hq
  have H3 := LB_r H2 hrf hd
  obtain ⟨h3, eh3⟩ : ∃ z, z = mrg v9 h2 hM := ⟨_, rfl⟩
  rw [← eh3] at H3
  refine hg_eq eh3.symm ?_
  refine hg_istore (lv' := [(6, .int S9.2.1), (5, .int S9.1), (4, .int (nI i)), (0, .ref b), (1, .ref (ad 0 0)), (2, .ref r), (3, .ref ao)]) C d_La_law_1411 (by decide) rfl ?_
  refine hg_aload_n C 5 d_La_law_1413 rfl rfl ?_
  refine hg_VNF (q := ("ModelMergeModel", T_Rf, 31)) (h1 := v9) C H3.2.2.2.2.1 (k_Rf_thrown l Γ v9 r aa S9.2.2 H3.2.2.1) (cw_La_94 C.2.2.2.2.1 rfl rfl ⟨Nat.le_of_ble_eq_true rfl, Nat.le_of_ble_eq_true rfl⟩) H3.2.2.1.1 rfl rfl rfl (Nat.le_of_ble_eq_true rfl) d_La_law_1414 ⟨by show cells + 2 + 0 + 0 ≤ 601024; omega, by show slots + 12 + 0 + 0 ≤ 7293034; omega⟩ (fun r9 w9 hq _ => ?_)
  obtain ⟨rfl, rfl, -⟩ := hq
  refine hg_eq (mrg_self H3.2.2.2.2.1) ?_
  refine hg_ti hcd0 ?_
  have hcd : S9.1 = S9.1 := rfl
  refine hg_iload C 1 d_La_law_1417 rfl ?_
  refine hg_icmp_eq C 1424 d_La_law_1419 (by decide) (fun _ => ?_) (fun z => absurd hcd z)
  refine hg_iload C 1 d_La_law_1424 rfl ?_
  refine hg_if_ne C 1441 d_La_law_1426 (by decide) (fun _ => ?_) (fun z0 => ?_)
  · refine hg_goto C 1648 d_La_law_1441 (by decide) ?_
    refine hg_lv (ks := [2, 3, 4, 5, 6]) (lv' := [(4, .int (nI i)), (0, .ref b), (1, .ref (ad 0 0)), (2, .ref r), (3, .ref ao)]) rfl ?_
    exact hg_widen (by omega) (by omega) (kq S9.2.2 h3 hIn ⟨ad', aa, u, _, g', H3⟩)
  · refine hg_aload_n C 6 d_La_law_1429 rfl rfl ?_
    refine hg_iconst (v := 0) C d_La_law_1430 (by decide) ?_
    refine hg_lald C 1 H3.2.2.2.2.2.2.2.2 rfl (show vp_in (nI 0) 1 from vp_in_nI (by omega) (by omega)) d_La_law_1431 ?_
    refine hg_iload C 0 d_La_law_1432 rfl ?_
    refine hg_i2l C d_La_law_1434 rfl ?_
    refine hg_lcmp C d_La_law_1435 ?_
    refine hg_ti (show lg_cmp (g' (0 : Int32).toNatClampNeg) _ = 0 from lcmp_0 (hg0 z0)) ?_
    refine hg_if_eq C 1441 d_La_law_1436 (by decide) (fun _ => ?_) (fun z => absurd (by decide) z)
    refine hg_goto C 1648 d_La_law_1441 (by decide) ?_
    refine hg_lv (ks := [2, 3, 4, 5, 6]) (lv' := [(4, .int (nI i)), (0, .ref b), (1, .ref (ad 0 0)), (2, .ref r), (3, .ref ao)]) rfl ?_
    exact hg_widen (by omega) (by omega) (kq S9.2.2 h3 hIn ⟨ad', aa, u, _, g', H3⟩)
set_option maxHeartbeats 4000000 in
set_option maxRecDepth 100000 in
theorem ct_La_count (l : Launch) (hl9 : l.stackTraces = false) (Γ : Gam) {p : Program} {e : Env} {s : State} {m : MethodId} {args : Array Value} {below : List Frame} {meth : Method} {c : Code} {A : Nat → Prop} {Q : State → Prop} (C : hp_C p s m args meth c b_La_law 7 "ModelMergeLaw" w_law Γ.1 kcl (ktys Γ.2.1) (ksts Γ.2.2) knws A) {x r ao b L : Nat} {xs : Nat → Int32} (hX0 : va_X b L xs s s.heap) (hbl : b < s.heap.size) (hbA : ¬ A b) {i : Nat} (hi : i + 5 ≤ L) (hL : L ≤ 2560) {M : Mem} (hI : Ivr M) {h : Pic} (hLA : LA Γ x r ao M h) {cells slots : Nat} (hc9 : cells + 10 ≤ 601024) (hs9 : slots + 800 ≤ 7293034) (kq : ∀ (M' : Mem) (h' : Pic), Ivr M' → LA Γ x r ao M' h' → hp_G p l e room_1 s m args below meth c Γ.1 kcl A 7 Q (cells + 10) (slots + 800) 1648 [(4, .int (nI i)), (0, .ref b), (1, .ref x), (2, .ref r), (3, .ref ao)] [] h') :
    hp_G p l e room_1 s m args below meth c Γ.1 kcl A 7 Q cells slots 1444 [(4, .int (nI i)), (0, .ref b), (1, .ref x), (2, .ref r), (3, .ref ao)] [] h := by
  obtain ⟨ad, aa, hX, hM, g, H⟩ := hLA
  have hax := H.1
  subst hax
  obtain ⟨S9, eS⟩ : ∃ z, z = (sp_count M (xs (i + 1))) := ⟨_, rfl⟩
  have hIn : Ivr S9.2.2 := by rw [eS]; exact iv_count hI (xs (i + 1))
  have hcd0 : S9.2.2 0 0 = S9.1 := by rw [eS]; exact cd_count (xs (i + 1))
  refine hg_aload_n C 2 d_La_law_1444 rfl rfl ?_
  refine hg_aload_n C 1 d_La_law_1445 rfl rfl ?_
  refine hg_iload C 0 d_La_law_1446 rfl ?_
  refine hg_iconst (v := 1) C d_La_law_1448 (by decide) ?_
  refine hg_iadd C d_La_law_1449 ?_
  refine hg_ti (show nI i + 1 = nI (i + 1) from nI_add i 1) ?_
  refine hg_sld (i := i + 1) C hX0 hbl hbA (by omega) (by omega) d_La_law_1450 ?_
  refine hg_aload_n C 4 d_La_law_1451 rfl rfl ?_
  refine hg_SXF (h1 := hp_up hX ao (OUTC Γ g)) C (LB_s H) (k_La_count l hl9 Γ hX ad M H.2.1 hI ao H.2.2.2.2.2.2.1 g (xs (i + 1))) (cw_La_155 C.2.2.2.2.1 rfl rfl ⟨Nat.le_of_ble_eq_true rfl, Nat.le_of_ble_eq_true rfl⟩) rfl rfl (Nat.le_of_ble_eq_true rfl) d_La_law_1452 ⟨by show cells + 1 ≤ 601024; omega, by show slots + 6 ≤ 7293034; omega⟩ (fun r9 w9 hq hd => ?_)
  rw [← eS] at hq
  obtain ⟨rfl, u, ad', g', ha', hcr, hua, rfl, hg0⟩ := hq
  have H2 := LB_w H ha' hcr hua hd
  obtain ⟨h2, eh2⟩ : ∃ z, z = mrg (hp_up u ao (OUTC Γ g')) h (hp_up hX ao (OUTC Γ g)) := ⟨_, rfl⟩
  rw [← eh2] at H2
  refine hg_eq eh2.symm ?_
  refine hg_istore (lv' := [(5, .int S9.1), (4, .int (nI i)), (0, .ref b), (1, .ref (ad 0 0)), (2, .ref r), (3, .ref ao)]) C d_La_law_1455 (by decide) rfl ?_
  refine hg_aload_n C 4 d_La_law_1457 rfl rfl ?_
  refine hg_aload_n C 2 d_La_law_1458 rfl rfl ?_
  refine hg_iload C 1 d_La_law_1459 rfl ?_
  refine hg_iconst (v := 1) C d_La_law_1461 (by decide) ?_
  refine hg_iadd C d_La_law_1462 ?_
  refine hg_ti (show nI i + 1 = nI (i + 1) from nI_add i 1) ?_
  refine hg_sld (i := i + 1) C hX0 hbl hbA (by omega) (by omega) d_La_law_1463 ?_
  refine hg_VNF (q := ("ModelMergeModel", T_Rf, 31)) (h1 := hM) C H2.2.2.2.2.1 (k_Rf_count l Γ hM r aa M H2.2.2.1 hI.1 (xs (i + 1))) (cw_La_157 C.2.2.2.2.1 rfl rfl ⟨Nat.le_of_ble_eq_true rfl, Nat.le_of_ble_eq_true rfl⟩) H2.2.2.1.1 rfl rfl rfl (Nat.le_of_ble_eq_true rfl) d_La_law_1464 ⟨by show cells + 1 + 0 ≤ 601024; omega, by show slots + 6 + 0 ≤ 7293034; omega⟩ (fun r9 v9 hq hd => ?_)
  rw [← eS] at hq
  obtain ⟨rfl, hrf⟩ := hq
  have H3 := LB_r H2 hrf hd
  obtain ⟨h3, eh3⟩ : ∃ z, z = mrg v9 h2 hM := ⟨_, rfl⟩
  rw [← eh3] at H3
  refine hg_eq eh3.symm ?_
  refine hg_istore (lv' := [(6, .int S9.2.1), (5, .int S9.1), (4, .int (nI i)), (0, .ref b), (1, .ref (ad 0 0)), (2, .ref r), (3, .ref ao)]) C d_La_law_1467 (by decide) rfl ?_
  refine hg_aload_n C 5 d_La_law_1469 rfl rfl ?_
  refine hg_VNF (q := ("ModelMergeModel", T_Rf, 31)) (h1 := v9) C H3.2.2.2.2.1 (k_Rf_thrown l Γ v9 r aa S9.2.2 H3.2.2.1) (cw_La_94 C.2.2.2.2.1 rfl rfl ⟨Nat.le_of_ble_eq_true rfl, Nat.le_of_ble_eq_true rfl⟩) H3.2.2.1.1 rfl rfl rfl (Nat.le_of_ble_eq_true rfl) d_La_law_1470 ⟨by show cells + 1 + 0 + 0 ≤ 601024; omega, by show slots + 6 + 0 + 0 ≤ 7293034; omega⟩ (fun r9 w9 hq _ => ?_)
  obtain ⟨rfl, rfl, -⟩ := hq
  refine hg_eq (mrg_self H3.2.2.2.2.1) ?_
  refine hg_ti hcd0 ?_
  have hcd : S9.1 = S9.1 := rfl
  refine hg_iload C 1 d_La_law_1473 rfl ?_
  refine hg_icmp_eq C 1480 d_La_law_1475 (by decide) (fun _ => ?_) (fun z => absurd hcd z)
  refine hg_iload C 1 d_La_law_1480 rfl ?_
  refine hg_if_ne C 1497 d_La_law_1482 (by decide) (fun _ => ?_) (fun z0 => ?_)
  · refine hg_goto C 1648 d_La_law_1497 (by decide) ?_
    refine hg_lv (ks := [2, 3, 4, 5, 6]) (lv' := [(4, .int (nI i)), (0, .ref b), (1, .ref (ad 0 0)), (2, .ref r), (3, .ref ao)]) rfl ?_
    exact hg_widen (by omega) (by omega) (kq S9.2.2 h3 hIn ⟨ad', aa, u, _, g', H3⟩)
  · refine hg_aload_n C 6 d_La_law_1485 rfl rfl ?_
    refine hg_iconst (v := 0) C d_La_law_1486 (by decide) ?_
    refine hg_lald C 1 H3.2.2.2.2.2.2.2.2 rfl (show vp_in (nI 0) 1 from vp_in_nI (by omega) (by omega)) d_La_law_1487 ?_
    refine hg_iload C 0 d_La_law_1488 rfl ?_
    refine hg_i2l C d_La_law_1490 rfl ?_
    refine hg_lcmp C d_La_law_1491 ?_
    refine hg_ti (show lg_cmp (g' (0 : Int32).toNatClampNeg) _ = 0 from lcmp_0 (hg0 z0)) ?_
    refine hg_if_eq C 1497 d_La_law_1492 (by decide) (fun _ => ?_) (fun z => absurd (by decide) z)
    refine hg_goto C 1648 d_La_law_1497 (by decide) ?_
    refine hg_lv (ks := [2, 3, 4, 5, 6]) (lv' := [(4, .int (nI i)), (0, .ref b), (1, .ref (ad 0 0)), (2, .ref r), (3, .ref ao)]) rfl ?_
    exact hg_widen (by omega) (by omega) (kq S9.2.2 h3 hIn ⟨ad', aa, u, _, g', H3⟩)
set_option maxHeartbeats 4000000 in
set_option maxRecDepth 100000 in
theorem ct_La_differs (l : Launch) (hl9 : l.stackTraces = false) (Γ : Gam) {p : Program} {e : Env} {s : State} {m : MethodId} {args : Array Value} {below : List Frame} {meth : Method} {c : Code} {A : Nat → Prop} {Q : State → Prop} (C : hp_C p s m args meth c b_La_law 7 "ModelMergeLaw" w_law Γ.1 kcl (ktys Γ.2.1) (ksts Γ.2.2) knws A) {x r ao b L : Nat} {xs : Nat → Int32} (hX0 : va_X b L xs s s.heap) (hbl : b < s.heap.size) (hbA : ¬ A b) {i : Nat} (hi : i + 5 ≤ L) (hL : L ≤ 2560) {M : Mem} (hI : Ivr M) {h : Pic} (hLA : LA Γ x r ao M h) {cells slots : Nat} (hc9 : cells + 10 ≤ 601024) (hs9 : slots + 800 ≤ 7293034) (kq : ∀ (M' : Mem) (h' : Pic), Ivr M' → LA Γ x r ao M' h' → hp_G p l e room_1 s m args below meth c Γ.1 kcl A 7 Q (cells + 10) (slots + 800) 1648 [(4, .int (nI i)), (0, .ref b), (1, .ref x), (2, .ref r), (3, .ref ao)] [] h') :
    hp_G p l e room_1 s m args below meth c Γ.1 kcl A 7 Q cells slots 1500 [(4, .int (nI i)), (0, .ref b), (1, .ref x), (2, .ref r), (3, .ref ao)] [] h := by
  obtain ⟨ad, aa, hX, hM, g, H⟩ := hLA
  have hax := H.1
  subst hax
  obtain ⟨S9, eS⟩ : ∃ z, z = (sp_differs M (xs (i + 1)) (xs (i + 2)) (xs (i + 3))) := ⟨_, rfl⟩
  have hIn : Ivr S9.2.2 := by rw [eS]; exact iv_differs hI (xs (i + 1)) (xs (i + 2)) (xs (i + 3))
  have hcd0 : S9.2.2 0 0 = S9.1 := by rw [eS]; exact cd_differs (xs (i + 1)) (xs (i + 2)) (xs (i + 3))
  refine hg_aload_n C 2 d_La_law_1500 rfl rfl ?_
  refine hg_aload_n C 1 d_La_law_1501 rfl rfl ?_
  refine hg_iload C 0 d_La_law_1502 rfl ?_
  refine hg_iconst (v := 1) C d_La_law_1504 (by decide) ?_
  refine hg_iadd C d_La_law_1505 ?_
  refine hg_ti (show nI i + 1 = nI (i + 1) from nI_add i 1) ?_
  refine hg_sld (i := i + 1) C hX0 hbl hbA (by omega) (by omega) d_La_law_1506 ?_
  refine hg_aload_n C 1 d_La_law_1507 rfl rfl ?_
  refine hg_iload C 0 d_La_law_1508 rfl ?_
  refine hg_iconst (v := 2) C d_La_law_1510 (by decide) ?_
  refine hg_iadd C d_La_law_1511 ?_
  refine hg_ti (show nI i + 2 = nI (i + 2) from nI_add i 2) ?_
  refine hg_sld (i := i + 2) C hX0 hbl hbA (by omega) (by omega) d_La_law_1512 ?_
  refine hg_aload_n C 1 d_La_law_1513 rfl rfl ?_
  refine hg_iload C 0 d_La_law_1514 rfl ?_
  refine hg_iconst (v := 3) C d_La_law_1516 (by decide) ?_
  refine hg_iadd C d_La_law_1517 ?_
  refine hg_ti (show nI i + 3 = nI (i + 3) from nI_add i 3) ?_
  refine hg_sld (i := i + 3) C hX0 hbl hbA (by omega) (by omega) d_La_law_1518 ?_
  refine hg_aload_n C 4 d_La_law_1519 rfl rfl ?_
  refine hg_SXF (h1 := hp_up hX ao (OUTC Γ g)) C (LB_s H) (k_La_differs l hl9 Γ hX ad M H.2.1 hI ao H.2.2.2.2.2.2.1 g (xs (i + 1)) (xs (i + 2)) (xs (i + 3))) (cw_La_158 C.2.2.2.2.1 rfl rfl ⟨Nat.le_of_ble_eq_true rfl, Nat.le_of_ble_eq_true rfl⟩) rfl rfl (Nat.le_of_ble_eq_true rfl) d_La_law_1520 ⟨by show cells + 3 ≤ 601024; omega, by show slots + 18 ≤ 7293034; omega⟩ (fun r9 w9 hq hd => ?_)
  rw [← eS] at hq
  obtain ⟨rfl, u, ad', g', ha', hcr, hua, rfl, hg0⟩ := hq
  have H2 := LB_w H ha' hcr hua hd
  obtain ⟨h2, eh2⟩ : ∃ z, z = mrg (hp_up u ao (OUTC Γ g')) h (hp_up hX ao (OUTC Γ g)) := ⟨_, rfl⟩
  rw [← eh2] at H2
  refine hg_eq eh2.symm ?_
  refine hg_istore (lv' := [(5, .int S9.1), (4, .int (nI i)), (0, .ref b), (1, .ref (ad 0 0)), (2, .ref r), (3, .ref ao)]) C d_La_law_1523 (by decide) rfl ?_
  refine hg_aload_n C 4 d_La_law_1525 rfl rfl ?_
  refine hg_aload_n C 2 d_La_law_1526 rfl rfl ?_
  refine hg_iload C 1 d_La_law_1527 rfl ?_
  refine hg_iconst (v := 1) C d_La_law_1529 (by decide) ?_
  refine hg_iadd C d_La_law_1530 ?_
  refine hg_ti (show nI i + 1 = nI (i + 1) from nI_add i 1) ?_
  refine hg_sld (i := i + 1) C hX0 hbl hbA (by omega) (by omega) d_La_law_1531 ?_
  refine hg_aload_n C 2 d_La_law_1532 rfl rfl ?_
  refine hg_iload C 1 d_La_law_1533 rfl ?_
  refine hg_iconst (v := 2) C d_La_law_1535 (by decide) ?_
  refine hg_iadd C d_La_law_1536 ?_
  refine hg_ti (show nI i + 2 = nI (i + 2) from nI_add i 2) ?_
  refine hg_sld (i := i + 2) C hX0 hbl hbA (by omega) (by omega) d_La_law_1537 ?_
  refine hg_aload_n C 2 d_La_law_1538 rfl rfl ?_
  refine hg_iload C 1 d_La_law_1539 rfl ?_
  refine hg_iconst (v := 3) C d_La_law_1541 (by decide) ?_
  refine hg_iadd C d_La_law_1542 ?_
  refine hg_ti (show nI i + 3 = nI (i + 3) from nI_add i 3) ?_
  refine hg_sld (i := i + 3) C hX0 hbl hbA (by omega) (by omega) d_La_law_1543 ?_
  refine hg_VNF (q := ("ModelMergeModel", T_Rf, 31)) (h1 := hM) C H2.2.2.2.2.1 (k_Rf_differs l Γ hM r aa M H2.2.2.1 hI.1 (xs (i + 1)) (xs (i + 2)) (xs (i + 3))) (cw_La_160 C.2.2.2.2.1 rfl rfl ⟨Nat.le_of_ble_eq_true rfl, Nat.le_of_ble_eq_true rfl⟩) H2.2.2.1.1 rfl rfl rfl (Nat.le_of_ble_eq_true rfl) d_La_law_1544 ⟨by show cells + 3 + 0 ≤ 601024; omega, by show slots + 18 + 0 ≤ 7293034; omega⟩ (fun r9 v9 hq hd => ?_)
  rw [← eS] at hq
  obtain ⟨rfl, hrf⟩ := hq
  have H3 := LB_r H2 hrf hd
  obtain ⟨h3, eh3⟩ : ∃ z, z = mrg v9 h2 hM := ⟨_, rfl⟩
  rw [← eh3] at H3
  refine hg_eq eh3.symm ?_
  refine hg_istore (lv' := [(6, .int S9.2.1), (5, .int S9.1), (4, .int (nI i)), (0, .ref b), (1, .ref (ad 0 0)), (2, .ref r), (3, .ref ao)]) C d_La_law_1547 (by decide) rfl ?_
  refine hg_aload_n C 5 d_La_law_1549 rfl rfl ?_
  refine hg_VNF (q := ("ModelMergeModel", T_Rf, 31)) (h1 := v9) C H3.2.2.2.2.1 (k_Rf_thrown l Γ v9 r aa S9.2.2 H3.2.2.1) (cw_La_94 C.2.2.2.2.1 rfl rfl ⟨Nat.le_of_ble_eq_true rfl, Nat.le_of_ble_eq_true rfl⟩) H3.2.2.1.1 rfl rfl rfl (Nat.le_of_ble_eq_true rfl) d_La_law_1550 ⟨by show cells + 3 + 0 + 0 ≤ 601024; omega, by show slots + 18 + 0 + 0 ≤ 7293034; omega⟩ (fun r9 w9 hq _ => ?_)
  obtain ⟨rfl, rfl, -⟩ := hq
  refine hg_eq (mrg_self H3.2.2.2.2.1) ?_
  refine hg_ti hcd0 ?_
  have hcd : S9.1 = S9.1 := rfl
  refine hg_iload C 1 d_La_law_1553 rfl ?_
  refine hg_icmp_eq C 1560 d_La_law_1555 (by decide) (fun _ => ?_) (fun z => absurd hcd z)
  refine hg_iload C 1 d_La_law_1560 rfl ?_
  refine hg_if_ne C 1577 d_La_law_1562 (by decide) (fun _ => ?_) (fun z0 => ?_)
  · refine hg_goto C 1648 d_La_law_1577 (by decide) ?_
    refine hg_lv (ks := [2, 3, 4, 5, 6]) (lv' := [(4, .int (nI i)), (0, .ref b), (1, .ref (ad 0 0)), (2, .ref r), (3, .ref ao)]) rfl ?_
    exact hg_widen (by omega) (by omega) (kq S9.2.2 h3 hIn ⟨ad', aa, u, _, g', H3⟩)
  · refine hg_aload_n C 6 d_La_law_1565 rfl rfl ?_
    refine hg_iconst (v := 0) C d_La_law_1566 (by decide) ?_
    refine hg_lald C 1 H3.2.2.2.2.2.2.2.2 rfl (show vp_in (nI 0) 1 from vp_in_nI (by omega) (by omega)) d_La_law_1567 ?_
    refine hg_iload C 0 d_La_law_1568 rfl ?_
    refine hg_i2l C d_La_law_1570 rfl ?_
    refine hg_lcmp C d_La_law_1571 ?_
    refine hg_ti (show lg_cmp (g' (0 : Int32).toNatClampNeg) _ = 0 from lcmp_0 (hg0 z0)) ?_
    refine hg_if_eq C 1577 d_La_law_1572 (by decide) (fun _ => ?_) (fun z => absurd (by decide) z)
    refine hg_goto C 1648 d_La_law_1577 (by decide) ?_
    refine hg_lv (ks := [2, 3, 4, 5, 6]) (lv' := [(4, .int (nI i)), (0, .ref b), (1, .ref (ad 0 0)), (2, .ref r), (3, .ref ao)]) rfl ?_
    exact hg_widen (by omega) (by omega) (kq S9.2.2 h3 hIn ⟨ad', aa, u, _, g', H3⟩)
set_option maxHeartbeats 4000000 in
set_option maxRecDepth 100000 in
theorem ct_La_broken (l : Launch) (hl9 : l.stackTraces = false) (Γ : Gam) {p : Program} {e : Env} {s : State} {m : MethodId} {args : Array Value} {below : List Frame} {meth : Method} {c : Code} {A : Nat → Prop} {Q : State → Prop} (C : hp_C p s m args meth c b_La_law 7 "ModelMergeLaw" w_law Γ.1 kcl (ktys Γ.2.1) (ksts Γ.2.2) knws A) {x r ao b L : Nat} {xs : Nat → Int32} (hX0 : va_X b L xs s s.heap) (hbl : b < s.heap.size) (hbA : ¬ A b) {i : Nat} (hi : i + 5 ≤ L) (hL : L ≤ 2560) {M : Mem} (hI : Ivr M) {h : Pic} (hLA : LA Γ x r ao M h) {cells slots : Nat} (hc9 : cells + 10 ≤ 601024) (hs9 : slots + 800 ≤ 7293034) (kq : ∀ (M' : Mem) (h' : Pic), Ivr M' → LA Γ x r ao M' h' → hp_G p l e room_1 s m args below meth c Γ.1 kcl A 7 Q (cells + 10) (slots + 800) 1648 [(4, .int (nI i)), (0, .ref b), (1, .ref x), (2, .ref r), (3, .ref ao)] [] h') :
    hp_G p l e room_1 s m args below meth c Γ.1 kcl A 7 Q cells slots 1580 [(4, .int (nI i)), (0, .ref b), (1, .ref x), (2, .ref r), (3, .ref ao)] [] h := by
  obtain ⟨ad, aa, hX, hM, g, H⟩ := hLA
  have hax := H.1
  subst hax
  obtain ⟨S9, eS⟩ : ∃ z, z = (sp_broken M (xs (i + 1)) (xs (i + 2))) := ⟨_, rfl⟩
  have hIn : Ivr S9.2.2 := by rw [eS]; exact iv_broken hI (xs (i + 1)) (xs (i + 2))
  have hcd0 : S9.2.2 0 0 = S9.1 := by rw [eS]; exact cd_broken (xs (i + 1)) (xs (i + 2))
  refine hg_aload_n C 2 d_La_law_1580 rfl rfl ?_
  refine hg_aload_n C 1 d_La_law_1581 rfl rfl ?_
  refine hg_iload C 0 d_La_law_1582 rfl ?_
  refine hg_iconst (v := 1) C d_La_law_1584 (by decide) ?_
  refine hg_iadd C d_La_law_1585 ?_
  refine hg_ti (show nI i + 1 = nI (i + 1) from nI_add i 1) ?_
  refine hg_sld (i := i + 1) C hX0 hbl hbA (by omega) (by omega) d_La_law_1586 ?_
  refine hg_aload_n C 1 d_La_law_1587 rfl rfl ?_
  refine hg_iload C 0 d_La_law_1588 rfl ?_
  refine hg_iconst (v := 2) C d_La_law_1590 (by decide) ?_
  refine hg_iadd C d_La_law_1591 ?_
  refine hg_ti (show nI i + 2 = nI (i + 2) from nI_add i 2) ?_
  refine hg_sld (i := i + 2) C hX0 hbl hbA (by omega) (by omega) d_La_law_1592 ?_
  refine hg_aload_n C 4 d_La_law_1593 rfl rfl ?_
  refine hg_SXF (h1 := hp_up hX ao (OUTC Γ g)) C (LB_s H) (k_La_broken l hl9 Γ hX ad M H.2.1 hI ao H.2.2.2.2.2.2.1 g (xs (i + 1)) (xs (i + 2))) (cw_La_161 C.2.2.2.2.1 rfl rfl ⟨Nat.le_of_ble_eq_true rfl, Nat.le_of_ble_eq_true rfl⟩) rfl rfl (Nat.le_of_ble_eq_true rfl) d_La_law_1594 ⟨by show cells + 2 ≤ 601024; omega, by show slots + 12 ≤ 7293034; omega⟩ (fun r9 w9 hq hd => ?_)
  rw [← eS] at hq
  obtain ⟨rfl, u, ad', g', ha', hcr, hua, rfl, hg0⟩ := hq
  have H2 := LB_w H ha' hcr hua hd
  obtain ⟨h2, eh2⟩ : ∃ z, z = mrg (hp_up u ao (OUTC Γ g')) h (hp_up hX ao (OUTC Γ g)) := ⟨_, rfl⟩
  rw [← eh2] at H2
  refine hg_eq eh2.symm ?_
  refine hg_istore (lv' := [(5, .int S9.1), (4, .int (nI i)), (0, .ref b), (1, .ref (ad 0 0)), (2, .ref r), (3, .ref ao)]) C d_La_law_1597 (by decide) rfl ?_
  refine hg_aload_n C 4 d_La_law_1599 rfl rfl ?_
  refine hg_aload_n C 2 d_La_law_1600 rfl rfl ?_
  refine hg_iload C 1 d_La_law_1601 rfl ?_
  refine hg_iconst (v := 1) C d_La_law_1603 (by decide) ?_
  refine hg_iadd C d_La_law_1604 ?_
  refine hg_ti (show nI i + 1 = nI (i + 1) from nI_add i 1) ?_
  refine hg_sld (i := i + 1) C hX0 hbl hbA (by omega) (by omega) d_La_law_1605 ?_
  refine hg_aload_n C 2 d_La_law_1606 rfl rfl ?_
  refine hg_iload C 1 d_La_law_1607 rfl ?_
  refine hg_iconst (v := 2) C d_La_law_1609 (by decide) ?_
  refine hg_iadd C d_La_law_1610 ?_
  refine hg_ti (show nI i + 2 = nI (i + 2) from nI_add i 2) ?_
  refine hg_sld (i := i + 2) C hX0 hbl hbA (by omega) (by omega) d_La_law_1611 ?_
  refine hg_VNF (q := ("ModelMergeModel", T_Rf, 31)) (h1 := hM) C H2.2.2.2.2.1 (k_Rf_broken l Γ hM r aa M H2.2.2.1 hI.1 (xs (i + 1)) (xs (i + 2))) (cw_La_163 C.2.2.2.2.1 rfl rfl ⟨Nat.le_of_ble_eq_true rfl, Nat.le_of_ble_eq_true rfl⟩) H2.2.2.1.1 rfl rfl rfl (Nat.le_of_ble_eq_true rfl) d_La_law_1612 ⟨by show cells + 2 + 0 ≤ 601024; omega, by show slots + 12 + 0 ≤ 7293034; omega⟩ (fun r9 v9 hq hd => ?_)
  rw [← eS] at hq
  obtain ⟨rfl, hrf⟩ := hq
  have H3 := LB_r H2 hrf hd
  obtain ⟨h3, eh3⟩ : ∃ z, z = mrg v9 h2 hM := ⟨_, rfl⟩
  rw [← eh3] at H3
  refine hg_eq eh3.symm ?_
  refine hg_istore (lv' := [(6, .int S9.2.1), (5, .int S9.1), (4, .int (nI i)), (0, .ref b), (1, .ref (ad 0 0)), (2, .ref r), (3, .ref ao)]) C d_La_law_1615 (by decide) rfl ?_
  refine hg_aload_n C 5 d_La_law_1617 rfl rfl ?_
  refine hg_VNF (q := ("ModelMergeModel", T_Rf, 31)) (h1 := v9) C H3.2.2.2.2.1 (k_Rf_thrown l Γ v9 r aa S9.2.2 H3.2.2.1) (cw_La_94 C.2.2.2.2.1 rfl rfl ⟨Nat.le_of_ble_eq_true rfl, Nat.le_of_ble_eq_true rfl⟩) H3.2.2.1.1 rfl rfl rfl (Nat.le_of_ble_eq_true rfl) d_La_law_1618 ⟨by show cells + 2 + 0 + 0 ≤ 601024; omega, by show slots + 12 + 0 + 0 ≤ 7293034; omega⟩ (fun r9 w9 hq _ => ?_)
  obtain ⟨rfl, rfl, -⟩ := hq
  refine hg_eq (mrg_self H3.2.2.2.2.1) ?_
  refine hg_ti hcd0 ?_
  have hcd : S9.1 = S9.1 := rfl
  refine hg_iload C 1 d_La_law_1621 rfl ?_
  refine hg_icmp_eq C 1628 d_La_law_1623 (by decide) (fun _ => ?_) (fun z => absurd hcd z)
  refine hg_iload C 1 d_La_law_1628 rfl ?_
  refine hg_if_ne C 1645 d_La_law_1630 (by decide) (fun _ => ?_) (fun z0 => ?_)
  · refine hg_goto C 1648 d_La_law_1645 (by decide) ?_
    refine hg_lv (ks := [2, 3, 4, 5, 6]) (lv' := [(4, .int (nI i)), (0, .ref b), (1, .ref (ad 0 0)), (2, .ref r), (3, .ref ao)]) rfl ?_
    exact hg_widen (by omega) (by omega) (kq S9.2.2 h3 hIn ⟨ad', aa, u, _, g', H3⟩)
  · refine hg_aload_n C 6 d_La_law_1633 rfl rfl ?_
    refine hg_iconst (v := 0) C d_La_law_1634 (by decide) ?_
    refine hg_lald C 1 H3.2.2.2.2.2.2.2.2 rfl (show vp_in (nI 0) 1 from vp_in_nI (by omega) (by omega)) d_La_law_1635 ?_
    refine hg_iload C 0 d_La_law_1636 rfl ?_
    refine hg_i2l C d_La_law_1638 rfl ?_
    refine hg_lcmp C d_La_law_1639 ?_
    refine hg_ti (show lg_cmp (g' (0 : Int32).toNatClampNeg) _ = 0 from lcmp_0 (hg0 z0)) ?_
    refine hg_if_eq C 1645 d_La_law_1640 (by decide) (fun _ => ?_) (fun z => absurd (by decide) z)
    refine hg_goto C 1648 d_La_law_1645 (by decide) ?_
    refine hg_lv (ks := [2, 3, 4, 5, 6]) (lv' := [(4, .int (nI i)), (0, .ref b), (1, .ref (ad 0 0)), (2, .ref r), (3, .ref ao)]) rfl ?_
    exact hg_widen (by omega) (by omega) (kq S9.2.2 h3 hIn ⟨ad', aa, u, _, g', H3⟩)
