/-! THE MODEL: the reference's own arrays and numbers, M (field by its place in the class) (index) -/
abbrev Mem : Type := Nat → Nat → Int32
def mset (M : Mem) (k i : Nat) (v : Int32) : Mem := fun j => if j = k then upd (M k) i v else M j
theorem mset_s {M : Mem} {k i : Nat} {v : Int32} : mset M k i v k = upd (M k) i v := if_pos rfl
theorem mset_n {M : Mem} {k i j : Nat} {v : Int32} (h : j ≠ k) : mset M k i v j = M j := if_neg h
/-- which fields are arrays; how long; of which array class -/
def rf_arr (k : Nat) : Bool := decide (k ∈ [2, 3, 5, 6, 7, 8, 10, 11, 12, 13, 14, 15, 16, 17, 18, 19, 20, 21, 23, 24, 25, 28, 29, 30])
def rf_len (k : Nat) : Nat := match k with
  | 2 => 60
  | 3 => 60
  | 5 => 2400
  | 6 => 12000
  | 7 => 12000
  | 8 => 40
  | 10 => 20
  | 11 => 20
  | 12 => 20
  | 13 => 20
  | 14 => 20
  | 15 => 20
  | 16 => 1200
  | 17 => 1200
  | 18 => 1200
  | 19 => 1200
  | 20 => 1200
  | 21 => 1200
  | 23 => 10
  | 24 => 10
  | 25 => 10
  | _ => 300
def rf_cls (k : Nat) : Nat := if k = 5 then 2 else 0
def rf_fs (aa : Nat → Nat) (M : Mem) : List Value := [.int (M 0 0), .int (M 1 0), .ref (aa 2), .ref (aa 3), .int (M 4 0), .ref (aa 5), .ref (aa 6), .ref (aa 7), .ref (aa 8), .int (M 9 0), .ref (aa 10), .ref (aa 11), .ref (aa 12), .ref (aa 13), .ref (aa 14), .ref (aa 15), .ref (aa 16), .ref (aa 17), .ref (aa 18), .ref (aa 19), .ref (aa 20), .ref (aa 21), .int (M 22 0), .ref (aa 23), .ref (aa 24), .ref (aa 25), .int (M 26 0), .int (M 27 0), .ref (aa 28), .ref (aa 29), .ref (aa 30)]
/-- the reference's object r with its arrays holds M -/
def rf_at (Γ : Gam) (r : Nat) (aa : Nat → Nat) (M : Mem) (h : Pic) : Prop :=
  h r = some (.inr (7, rf_fs aa M)) ∧ (∀ k, rf_arr k = true → h (aa k) = some (.inl (Γ.2.1 (rf_cls k), rf_len k, .inl (M k)))) ∧ ∀ j k, rf_arr j = true → rf_arr k = true → aa j = aa k → j = k
theorem rf_put {Γ : Gam} {r : Nat} {aa : Nat → Nat} {M : Mem} {h : Pic} (H : rf_at Γ r aa M h) (k i : Nat) (v : Int32) (hk : rf_arr k = true) : rf_at Γ r aa (mset M k i v) (hp_up h (aa k) (.inl (Γ.2.1 (rf_cls k), rf_len k, .inl (upd (M k) i v)))) := by
  obtain ⟨h1, h2, h3⟩ := H
  refine ⟨?_, fun j hj => ?_, h3⟩
  · rw [hp_up_n (fun z => by rw [z, h2 k hk] at h1; cases h1), h1]
    have e : rf_fs aa (mset M k i v) = rf_fs aa M := by
      have e0 : ∀ j, rf_arr j = false → mset M k i v j = M j := fun j hj => mset_n (fun z => by rw [z, hk] at hj; cases hj)
      unfold rf_fs
      rw [e0 0 (by decide), e0 1 (by decide), e0 4 (by decide), e0 9 (by decide), e0 22 (by decide), e0 26 (by decide), e0 27 (by decide)]
    rw [e]
  · by_cases hjk : j = k
    · subst hjk
      rw [hp_up_s, mset_s]
    · rw [hp_up_n (fun z => hjk (h3 j k hj hk z)), h2 j hj, mset_n hjk]
theorem rf_set {Γ : Gam} {r : Nat} {aa : Nat → Nat} {M : Mem} {h : Pic} (H : rf_at Γ r aa M h) (k : Nat) (v : Int32) (hk : rf_arr k = false) : rf_at Γ r aa (mset M k 0 v) (hp_up h r (.inr (7, rf_fs aa (mset M k 0 v)))) := by
  obtain ⟨h1, h2, h3⟩ := H
  refine ⟨hp_up_s, fun j hj => ?_, h3⟩
  rw [hp_up_n (fun z => by rw [← z, h2 j hj] at h1; cases h1), h2 j hj, mset_n (fun z => by rw [z, hk] at hj; cases hj)]
/-! numbers read off M -/
def nT (M : Mem) : Nat := (M 1 0).toNatClampNeg
def nV (M : Mem) : Nat := (M 4 0).toNatClampNeg
def nS (M : Mem) : Nat := (M 9 0).toNatClampNeg
def nR (M : Mem) : Nat := (M 22 0).toNatClampNeg
def nC (M : Mem) : Nat := (M 27 0).toNatClampNeg
def bs (M : Mem) (s : Nat) : Nat := (M 11 s).toNatClampNeg
def sd (M : Mem) (s : Nat) : Nat := (M 12 s).toNatClampNeg
def nm (M : Mem) (s : Nat) : Nat := (M 13 s).toNatClampNeg
def bf (M : Mem) (i : Nat) : Nat := (M 16 i).toNatClampNeg
/-! a session's state at its moments: a thing t, g = 0 whether it is there, g = f + 1 its field f -/
def m_base (M : Mem) (s t g : Nat) : Int32 := if g = 0 then M 5 (60 * bs M s + t) else M 6 (5 * (60 * bs M s + t) + (g - 1))
def m_hit (M : Mem) (i t g : Nat) : Prop := M 19 i = nI t ∧ ((g = 0 ∧ ¬ M 18 i = 0) ∨ (¬ g = 0 ∧ M 18 i = 0 ∧ M 20 i = nI (g - 1)))
def m_new (M : Mem) (i : Nat) : Int32 := if M 18 i = 0 then M 21 i else if M 18 i = 1 then 1 else 0
noncomputable def sv (M : Mem) (s t g : Nat) : Nat → Nat → Int32
  | 0, _ => m_base M s t g
  | n + 1, k => if k = 0 then m_base M s t g else @ite _ (m_hit M (60 * s + k) t g) (Classical.propDecidable _) (m_new M (60 * s + k)) (sv M s t g n (bf M (60 * s + k)))
/-- at moment k -/
noncomputable def stv (M : Mem) (s k t g : Nat) : Int32 := sv M s t g 60 k
/-! what is always so -/
def I_cnt (M : Mem) : Prop := (M 1 0 = nI (nT M) ∧ nT M ≤ 60) ∧ (M 4 0 = nI (nV M) ∧ 1 ≤ nV M ∧ nV M ≤ 40) ∧ (M 9 0 = nI (nS M) ∧ nS M ≤ 20) ∧ (M 22 0 = nI (nR M) ∧ nR M ≤ 10) ∧ (M 27 0 = nI (nC M) ∧ nC M ≤ 300)
def I_ses (M : Mem) : Prop := ∀ s, s < nS M → (M 11 s = nI (bs M s) ∧ bs M s < nV M) ∧ (M 12 s = nI (sd M s) ∧ sd M s < nm M s) ∧ (M 13 s = nI (nm M s) ∧ nm M s ≤ 60) ∧ (M 14 s = 0 ∨ M 14 s = 1 ∨ M 14 s = 2)
def I_def (M : Mem) : Prop := ∀ s, nS M ≤ s → M 12 s = 0 ∧ M 14 s = 0
def I_mom (M : Mem) : Prop := ∀ s, s < nS M → M 16 (60 * s) = -1 ∧ ∀ k, 1 ≤ k → k < nm M s → (M 16 (60 * s + k) = nI (bf M (60 * s + k)) ∧ bf M (60 * s + k) < k) ∧ (∃ t, t < nT M ∧ M 19 (60 * s + k) = nI t) ∧ (∃ f, f < 5 ∧ M 20 (60 * s + k) = nI f) ∧ (M 18 (60 * s + k) = 0 ∨ M 18 (60 * s + k) = 1 ∨ M 18 (60 * s + k) = 2)
def I_lat (M : Mem) : Prop := ∀ s, s < nS M → ∀ k, k < nm M s → M 17 (60 * s + k) = -1 ∨ ∃ j, M 17 (60 * s + k) = nI j ∧ 1 ≤ j ∧ j < nm M s ∧ bf M (60 * s + j) = k
def I_pen (M : Mem) : Prop := M 26 0 = -1 ∨ ∃ s, s < nS M ∧ M 26 0 = nI s ∧ M 14 s = 1 ∧ nV M < 40
def I_con (M : Mem) : Prop := ∀ k, k < nC M → (∃ t, t < nT M ∧ M 28 k = nI t) ∧ (M 29 k = -1 ∨ ∃ f, f < 5 ∧ M 29 k = nI f) ∧ (M 30 k = -1 ∨ M 30 k = 0 ∨ M 30 k = 1)
def I_ver (M : Mem) : Prop := ∀ v, v < nV M → ∀ t, t < 60 → (M 5 (60 * v + t) = 1 ∧ t < nT M) ∨ (M 5 (60 * v + t) = 0 ∧ ∀ f, f < 5 → M 6 (5 * (60 * v + t) + f) = 0)
/-- (a place that is left free) -/
def I_new (_ : Mem) : Prop := True
/-- versions that haven't come hold nothing -/
def I_nw (M : Mem) : Prop := ∀ v, nV M ≤ v → v < 40 → ∀ t, t < 60 → M 5 (60 * v + t) = 0 ∧ ∀ f, f < 5 → M 6 (5 * (60 * v + t) + f) = 0
def I_thg (M : Mem) : Prop := ∀ t, t < nT M → (M 3 t = -1 ∨ ∃ p, p < 10 ∧ M 3 t = nI p) ∧ ∃ k, k < 5 ∧ M 2 t = nI k
def I_rul (M : Mem) : Prop := ∀ r, r < nR M → (∃ k, k < 5 ∧ M 23 r = nI k) ∧ (∃ f, f < 5 ∧ M 24 r = nI f) ∧ ∃ k, k < 5 ∧ M 25 r = nI k
def Inv0 (M : Mem) : Prop := I_cnt M ∧ I_ses M ∧ I_def M ∧ I_mom M ∧ I_lat M ∧ I_pen M ∧ I_con M ∧ I_ver M ∧ I_new M ∧ I_thg M ∧ I_rul M
section TI
variable {p : Program} {l : Launch} {e : Env} {R : Room} {s : State} {m : MethodId} {args : Array Value} {below : List Frame} {meth : Method} {c : Code} {nL : Nat} {D : va_G} {cl : List vw_C} {A : Nat → Prop} {Q : State → Prop} {cells slots pc : Nat} {lv : List (Nat × Value)} {st : List Value} {h : Pic}
/-- another word for the number on top -/
theorem hg_ti {x y : Int32} (hxy : x = y) (kk : hp_G p l e R s m args below meth c D cl A nL Q cells slots pc lv (.int y :: st) h) : hp_G p l e R s m args below meth c D cl A nL Q cells slots pc lv (.int x :: st) h := hxy ▸ kk
end TI
