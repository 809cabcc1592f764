/-! THE CLASS: its picture by the model -/
section RFS
variable {p : Program} {l : Launch} {e : Env} {R : Room} {s : State} {m : MethodId} {args : Array Value} {below : List Frame} {meth : Method} {c : Code} {nL : Nat} {D : va_G} {cl : List vw_C} {A : Nat → Prop} {Q : State → Prop} {cells slots pc : Nat} {lv : List (Nat × Value)} {st : List Value} {h : Pic}
theorem hg_rs {x : Option Nat} {a : Nat} (hx : x = some a) (kk : hp_G p l e R s m args below meth c D cl A nL Q cells slots pc lv (.ref a :: st) h) : hp_G p l e R s m args below meth c D cl A nL Q cells slots pc lv (va_rf x :: st) h := by rw [hx]; exact kk
theorem hg_rn {x : Option Nat} (hx : x = none) (kk : hp_G p l e R s m args below meth c D cl A nL Q cells slots pc lv (.null :: st) h) : hp_G p l e R s m args below meth c D cl A nL Q cells slots pc lv (va_rf x :: st) h := by rw [hx]; exact kk
theorem hg_tr {a b : Nat} (hx : a = b) (kk : hp_G p l e R s m args below meth c D cl A nL Q cells slots pc lv (.ref b :: st) h) : hp_G p l e R s m args below meth c D cl A nL Q cells slots pc lv (.ref a :: st) h := hx ▸ kk
theorem hg_tv {a b : Value} (hx : a = b) (kk : hp_G p l e R s m args below meth c D cl A nL Q cells slots pc lv (b :: st) h) : hp_G p l e R s m args below meth c D cl A nL Q cells slots pc lv (a :: st) h := hx ▸ kk
end RFS
/-- a session's cells, a version's cells and origins -/
noncomputable def sc (M : Mem) (s : Nat) : Nat → Int32 := fun j => if j < 360 then stv M s (sd M s) (j / 6) (j % 6) else 0
def vc (M : Mem) (v : Nat) : Nat → Int32 := fun j => if j < 360 then (if j % 6 = 0 then M 5 (60 * v + j / 6) else M 6 (5 * (60 * v + j / 6) + (j % 6 - 1))) else 0
noncomputable def og (M : Mem) : Nat → Nat → Int32
  | 0 => fun _ => 0
  | v + 1 => v_tr (vc M v) (vc M (v + 1)) (og M v) (fun _ => 0) (nI v) (nI (v + 1)) (60 * 5)
def au (M : Mem) (v : Nat) : Int32 := if v = 0 then -1 else M 8 v
def cr_pen (ad : Nat → Nat → Nat) (M : Mem) : Value := if M 26 0 < 0 then .null else .ref (ad 10 (M 26 0).toNatClampNeg)
/-- a moment: which thing and field it changed, from what, to what -/
def mo_t (M : Mem) (s j : Nat) : Int32 := if j = 0 then -1 else M 19 (60 * s + j)
def mo_f (M : Mem) (s j : Nat) : Int32 := if j = 0 then -1 else if M 18 (60 * s + j) = 0 then M 20 (60 * s + j) else -1
def mo_g (M : Mem) (s j : Nat) : Nat := if M 18 (60 * s + j) = 0 then (M 20 (60 * s + j)).toNatClampNeg + 1 else 0
noncomputable def mo_o (M : Mem) (s j : Nat) : Int32 := if j = 0 then 0 else stv M s (bf M (60 * s + j)) (M 19 (60 * s + j)).toNatClampNeg (mo_g M s j)
def mo_n (M : Mem) (s j : Nat) : Int32 := if j = 0 then 0 else m_new M (60 * s + j)
def mo_b (ad : Nat → Nat → Nat) (M : Mem) (s j : Nat) : Value := if j = 0 then .null else .ref (ad 13 (60 * s + bf M (60 * s + j)))
def mo_l (ad : Nat → Nat → Nat) (M : Mem) (s j : Nat) : Value := if M 17 (60 * s + j) < 0 then .null else .ref (ad 13 (60 * s + (M 17 (60 * s + j)).toNatClampNeg))
noncomputable def cc (Γ : Gam) (ad : Nat → Nat → Nat) (M : Mem) (k i : Nat) : va_E := match k with
  | 0 => .inr (6, [.ref (ad 1 0), .ref (ad 2 0), .int (M 1 0), .ref (ad 3 0), .int (M 9 0), .ref (ad 4 0), .int (M 4 0), .ref (ad 14 (nV M - 1)), .ref (ad 5 0), .int (M 22 0), .ref (ad 6 0), cr_pen ad M])
  | 1 => .inl (Γ.2.1 0, 60, .inl (M 2))
  | 2 => .inl (Γ.2.1 0, 60, .inl (M 3))
  | 3 => .inl (Γ.2.1 3, 20, .inr (.inr (.inr (.inr (fun j => if j < nS M then some (ad 10 j) else none)))))
  | 4 => .inl (Γ.2.1 4, 40, .inr (.inr (.inr (.inr (fun j => if j < nV M then some (ad 14 j) else none)))))
  | 5 => .inl (Γ.2.1 5, 10, .inr (.inr (.inr (.inr (fun j => if j < nR M then some (ad 18 j) else none)))))
  | 6 => .inr (0, [.ref (ad 7 0), .ref (ad 8 0), .ref (ad 9 0), .int (M 27 0)])
  | 7 => .inl (Γ.2.1 0, 300, .inl (M 28))
  | 8 => .inl (Γ.2.1 0, 300, .inl (M 29))
  | 9 => .inl (Γ.2.1 0, 300, .inl (M 30))
  | 10 => .inr (3, [.int (nI i), .int (M 10 i), .ref (ad 14 (bs M i)), .ref (ad 11 i), .ref (ad 13 (60 * i + sd M i)), .int (M 13 i), .int (M 14 i), .int (M 15 i)])
  | 11 => .inr (4, [.ref (ad 12 i)])
  | 12 => .inl (Γ.2.1 0, 360, .inl (sc M i))
  | 13 => .inr (1, [.int (nI (i % 60)), mo_b ad M (i / 60) (i % 60), .int (mo_t M (i / 60) (i % 60)), .int (mo_f M (i / 60) (i % 60)), .int (mo_o M (i / 60) (i % 60)), .int (mo_n M (i / 60) (i % 60)), mo_l ad M (i / 60) (i % 60)])
  | 14 => .inr (5, [.int (nI i), .int (au M i), .ref (ad 15 i), .ref (ad 17 i)])
  | 15 => .inr (4, [.ref (ad 16 i)])
  | 16 => .inl (Γ.2.1 0, 360, .inl (vc M i))
  | 17 => .inl (Γ.2.1 0, 300, .inl (og M i))
  | _ => .inr (2, [.int (M 23 i), .int (M 24 i), .int (M 25 i)])
def liv (M : Mem) (k i : Nat) : Prop := (k ≤ 9 ∧ i = 0) ∨ (10 ≤ k ∧ k ≤ 12 ∧ i < nS M) ∨ (k = 13 ∧ ∃ s j, s < nS M ∧ j < nm M s ∧ i = 60 * s + j) ∨ (14 ≤ k ∧ k ≤ 17 ∧ i < nV M) ∨ (k = 18 ∧ i < nR M)
/-- the class's object with all that it reaches holds M -/
def cr_at (Γ : Gam) (ad : Nat → Nat → Nat) (M : Mem) (h : Pic) : Prop := (∀ k i, liv M k i → h (ad k i) = some (cc Γ ad M k i)) ∧ ∀ k i k' i', liv M k i → liv M k' i' → ad k i = ad k' i' → k = k' ∧ i = i'
section CRS
variable {Γ : Gam} {ad : Nat → Nat → Nat} {M : Mem} {h : Pic}
theorem liv0 {k : Nat} (hk : k ≤ 9) : liv M k 0 := Or.inl ⟨hk, rfl⟩
theorem livS {k s : Nat} (h1 : 10 ≤ k) (h2 : k ≤ 12) (hs : s < nS M) : liv M k s := Or.inr (Or.inl ⟨h1, h2, hs⟩)
theorem livM {s j : Nat} (hs : s < nS M) (hj : j < nm M s) : liv M 13 (60 * s + j) := Or.inr (Or.inr (Or.inl ⟨rfl, s, j, hs, hj, rfl⟩))
theorem livV {k v : Nat} (h1 : 14 ≤ k) (h2 : k ≤ 17) (hv : v < nV M) : liv M k v := Or.inr (Or.inr (Or.inr (Or.inl ⟨h1, h2, hv⟩)))
theorem livR {r : Nat} (hr : r < nR M) : liv M 18 r := Or.inr (Or.inr (Or.inr (Or.inr ⟨rfl, hr⟩)))
theorem cr_m (H : cr_at Γ ad M h) {s j : Nat} (hs : s < nS M) (hj : j < nm M s) (h60 : j < 60) : h (ad 13 (60 * s + j)) = some (.inr (1, [.int (nI j), mo_b ad M s j, .int (mo_t M s j), .int (mo_f M s j), .int (mo_o M s j), .int (mo_n M s j), mo_l ad M s j])) := by
  have e := H.1 13 _ (livM hs hj)
  rw [cc, show (60 * s + j) / 60 = s by omega, show (60 * s + j) % 60 = j by omega] at e
  exact e
end CRS
theorem s_val_sc {M : Mem} {s t : Nat} (ht : t < 60) {f : Int32} {g : Nat} (hg : g < 6) (hf : f - (-1) = nI g) (hok : s_ok (nI t) f) : s_val (sc M s) (nI t) f = stv M s (sd M s) t g := by
  rw [s_val_pos hok]
  have e : nI t * 6 + f - (-1) = nI (t * 6 + g) := by
    rw [Int32.sub_eq_add_neg, Int32.add_assoc, ← Int32.sub_eq_add_neg, hf, show (6 : Int32) = nI 6 from rfl, pk_mul, nI_add]
  rw [e, nI_clamp (by omega), sc, if_pos (by omega), show (t * 6 + g) / 6 = t by omega, show (t * 6 + g) % 6 = g by omega]
theorem s_ok_of {t f : Nat} (ht : t < 60) (hf : f < 5) : s_ok (nI t) (nI f) := ⟨nI_pos (by omega), nI_ge (b := 60) ht (by omega), fun z => absurd (Int32.lt_trans z (show (-1 : Int32) < 0 by decide)) (nI_pos (by omega)), nI_ge (b := 5) hf (by omega)⟩
theorem s_ok_w {t : Nat} (ht : t < 60) : s_ok (nI t) (-1) := ⟨nI_pos (by omega), nI_ge (b := 60) ht (by omega), by decide, by decide⟩
theorem fp_m1 (f : Nat) : nI f - (-1) = nI (f + 1) := by rw [Int32.sub_eq_add_neg, Int32.neg_neg]; exact nI_1 f
theorem sc_w {M : Mem} {s t : Nat} (ht : t < 60) : s_val (sc M s) (nI t) (-1) = stv M s (sd M s) t 0 := s_val_sc ht (by omega) (by decide) (s_ok_w ht)
theorem sc_f {M : Mem} {s t f : Nat} (ht : t < 60) (hf : f < 5) : s_val (sc M s) (nI t) (nI f) = stv M s (sd M s) t (f + 1) := s_val_sc ht (by omega) (fp_m1 f) (s_ok_of ht hf)
theorem s_val_vc {M : Mem} {v t : Nat} (ht : t < 60) {f : Int32} {g : Nat} (hg : g < 6) (hf : f - (-1) = nI g) (hok : s_ok (nI t) f) : s_val (vc M v) (nI t) f = if g = 0 then M 5 (60 * v + t) else M 6 (5 * (60 * v + t) + (g - 1)) := by
  rw [s_val_pos hok]
  have e : nI t * 6 + f - (-1) = nI (t * 6 + g) := by
    rw [Int32.sub_eq_add_neg, Int32.add_assoc, ← Int32.sub_eq_add_neg, hf, show (6 : Int32) = nI 6 from rfl, pk_mul, nI_add]
  rw [e, nI_clamp (by omega), vc, if_pos (by omega), show (t * 6 + g) / 6 = t by omega, show (t * 6 + g) % 6 = g by omega]
theorem vc_w {M : Mem} {v t : Nat} (ht : t < 60) : s_val (vc M v) (nI t) (-1) = M 5 (60 * v + t) := by rw [s_val_vc ht (g := 0) (by omega) (by decide) (s_ok_w ht), if_pos rfl]
theorem vc_f {M : Mem} {v t f : Nat} (ht : t < 60) (hf : f < 5) : s_val (vc M v) (nI t) (nI f) = M 6 (5 * (60 * v + t) + f) := by rw [s_val_vc ht (g := f + 1) (by omega) (fp_m1 f) (s_ok_of ht hf), if_neg (by omega)]; rfl
