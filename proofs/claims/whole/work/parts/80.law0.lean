/-! THE LAW: bodies with handlers, catches, calls over a part of the picture -/
def mrg (u h h1 : Pic) : Pic := fun q => match u q, h1 q with
  | some x, _ => some x
  | none, none => h q
  | none, some _ => none
theorem mrg_u {u h h1 : Pic} {q : Nat} {x : va_E} (hu : u q = some x) : mrg u h h1 q = some x := by unfold mrg; rw [hu]
theorem mrg_n {u h h1 : Pic} {q : Nat} (hu : u q = none) (h1q : h1 q = none) : mrg u h h1 q = h q := by unfold mrg; rw [hu, h1q]
theorem mrg_h {u h h1 : Pic} {q : Nat} {x : va_E} (hd : ∀ q y, u q = some y → h1 q = none → h q = none) (hq : h q = some x) (h1q : h1 q = none) : mrg u h h1 q = some x := by
  cases hu : u q with
  | none => rw [mrg_n hu h1q, hq]
  | some y => rw [hd q y hu h1q] at hq; cases hq
theorem mrg_self {h h1 : Pic} (hs : ∀ q x, h1 q = some x → h q = some x) : mrg h1 h h1 = h := funext fun q => by
  cases hq : h1 q with
  | none => rw [mrg_n hq hq]
  | some x => rw [mrg_u hq, hs q x hq]
theorem mrg_up {u hX : Pic} {a : Nat} {z : va_E} (hx : hX a = none) (hu : u a = none) : mrg u (hp_up hX a z) hX = hp_up u a z := funext fun q => by
  by_cases e : q = a
  · rw [e, mrg_n hu hx, hp_up_s, hp_up_s]
  · rw [hp_up_n e]
    cases hq : u q with
    | some x => rw [mrg_u hq]
    | none =>
      cases h1 : hX q with
      | none => rw [mrg_n hq h1, hp_up_n e, h1]
      | some x => unfold mrg; rw [hq, h1]
section LW0
variable {p : Program} {l : Launch} {e : Env} {R : Room} {s : State} {m : MethodId} {args : Array Value} {below : List Frame} {meth : Method} {c : Code} {cc : ByteArray} {nL : Nat} {own : String} {ws : List Cond} {D : va_G} {cl : List vw_C} {tys : List (ClassId × FieldType)} {sts : List (String × Nat × String × Nat)} {aos : List Cond} {A : Nat → Prop} {Q : State → Prop} {cells slots pc : Nat} {lv : List (Nat × Value)} {st sf : List Value} {h h1 : Pic}
/-- a body with handlers -/
theorem hg_entryH {y : MethodName} {ws ws' : List Cond} {rm : Room} {av : List Value} {lv0 : List (Nat × Value)} {post : Option Value → Pic → Prop} {px : String → Pic → Prop} {mc ms maxL : Nat} {ret : Option FieldType} {D : va_G} {cl : List vw_C} {tys : List (ClassId × FieldType)} {sts : List (String × Nat × String × Nat)} {aos : List Cond} {h : Pic} {cc : ByteArray} {own : String} {hh : List (Nat × Nat × Nat × Nat)}
    (hy : plainName y.cls = true) (hw : ws = Cond.codeWith y cc maxL ret hh :: ws') (hown : y.cls = own) (hlen : (lg_sl av).length ≤ maxL) (hlv : lv_args 0 av = lv0)
    (body : ∀ (p : Program) (e : Env) (s : State) (m : MethodId) (args : Array Value) (below : List Frame) (meth : Method) (c : Code) (A : Nat → Prop), hp_C p s m args meth c cc maxL own ws D cl tys sts aos A → c.exceptionTable.toList = tableOf hh → meth.sig.returnType = ret →
      hp_G p l e rm s m args below meth c D cl A maxL (hp_MQ below D cl A post px args s mc ms) 0 0 0 lv0 [] h) : hp_M l y ws rm D cl tys sts aos av h post px mc ms := by
  intro sz
  refine vx_ofWH (cc := cc) (maxL := maxL) (ret := ret) (hh := hh) hy hw ?_
  intro p e s m args below meth c s₁ B hml hv
  obtain ⟨rfl, hsz, hP, hE⟩ := hv
  have hts := atoms_spec (ws := ws) B.pre
  have hown' : s.vm.findClass own = some m.cls := hown ▸ findClass_of_methodNamed B.named
  have ht := vx_table (x := y) B (hts (Cond.codeWith y cc maxL ret hh) (by rw [hw]; exact List.mem_cons_self))
  subst hsz
  have hl := lv_entry av (n := maxL) hlen
  rw [lg_entry_eq]
  rw [hlv] at hl
  exact body p e s m av.toArray below meth c (hp_A h s.heap.size) ⟨B.exec, B.bytes, hml, hown', hts, B.notSynchronized, hE, fun q hq => Or.inr hq⟩ ht B.returns s.heap [] _ hP va_S.rf hl
/-- an exception is caught here -/
theorem hg_catch {E name : String} {hpc : Nat} (C : hp_C p s m args meth c cc nL own ws D cl tys sts aos A) (pre : List ExceptionTableEntry) (x : ExceptionTableEntry) (suf : List ExceptionTableEntry) (hsplit : c.exceptionTable.toList = pre ++ x :: suf)
    (hpass : ∀ z ∈ pre, covers z pc = false ∨ (z.catchType ≠ 0 ∧ ∃ nm : String, (Cond.classLink own z.catchType nm).before args s = true ∧ va_Nc E nm s)) (hx : covers x pc = true) (h0 : x.catchType ≠ 0)
    (hlink : (Cond.classLink own x.catchType name).before args s = true) (hcast : (Cond.castable E name).before args s = true) (hpc' : x.handlerPc = hpc)
    (kk : ∀ q : Nat, hp_G p l e R s m args below meth c D cl A nL Q cells slots hpc lv [.ref q] h) : hp_T p l e R s m args below meth c D cl A nL Q cells slots pc lv st h E := fun H locs ls q ce hP hS hl h1 h2 h3 =>
  vx_catch C.2.2.2.1 pre x suf hsplit hpass hx h0 hlink hcast h1 h2 h3 (by rw [hpc']; exact kk q H locs ls hP hS hl)
theorem hp_kF {h1 u : Pic} {H : Heap} {H' : Heap} (hP : hp_P D cl A h H) (hsub : ∀ q x, h1 q = some x → h q = some x) (hb : hp_P D cl (hp_A h1 H.size) u H') (hA : ∀ q, hp_A h1 H.size q → A q) (k2 : ∀ q : Nat, q < H.size → ¬ hp_A h1 H.size q → H'[q]? = H[q]?) : hp_P D cl A (mrg u h h1) H' ∧ ∀ q y, u q = some y → h1 q = none → h q = none := by
  have hd : ∀ q y, u q = some y → h1 q = none → h q = none := fun q y hy hn => by
    rcases (hb q y hy).1 with ⟨e9, z⟩ | z
    · rw [hn] at z; cases z
    · cases hq : h q with
      | none => rfl
      | some w => exact absurd (hP.lt hq) (Nat.not_lt.mpr z)
  refine ⟨fun q x hx => ?_, hd⟩
  cases hu : u q with
  | some y =>
    rw [mrg_u hu] at hx
    cases hx
    exact (hb.wk hA) q _ hu
  | none =>
    cases h1q : h1 q with
    | some y =>
      unfold mrg at hx
      rw [hu, h1q] at hx
      cases hx
    | none =>
      rw [mrg_n hu h1q] at hx
      exact ⟨(hP q x hx).1, (hP q x hx).2.kept (k2 q (hP.lt hx) (fun z => z.elim (fun ⟨e9, z⟩ => by rw [h1q] at z; cases z) (fun z => absurd (hP.lt hx) (Nat.not_lt.mpr z))))⟩
theorem hg_callXF {av : List Value} {post : Option Value → Pic → Prop} {px : String → Pic → Prop} {mc ms : Nat} (C : hp_C p s m args meth c cc nL own ws D cl tys sts aos A) (hsub : ∀ q x, h1 q = some x → h q = some x)
    (hr : ∀ (H : Heap) (locs : List Loc) (ls : Array Slot), hp_P D cl A h1 H → va_S A s.heap H locs → lv_has ls nL lv → vx_Run p l e R s m args below meth c H locs cells slots mc ms (F0 m pc ls sf) st (hp_Qc D cl (hp_A h1 H.size) post av.toArray) (hp_Xc D cl (hp_A h1 H.size) px) (hp_A h1 H.size))
    (kk : ∀ (r : Option Value) (u : Pic), post r u → (∀ q y, u q = some y → h1 q = none → h q = none) → hp_G p l e R s m args below meth c D cl A nL Q (cells + mc) (slots + ms) (pc + 3) lv (r.toList ++ st) (mrg u h h1))
    (kx : ∀ (E : String) (u : Pic), px E u → (∀ q y, u q = some y → h1 q = none → h q = none) → hp_T p l e R s m args below meth c D cl A nL Q (cells + mc) (slots + ms) pc lv st (mrg u h h1) E) : hp_G p l e R s m args below meth c D cl A nL Q cells slots pc lv sf h := by
  intro H locs ls hP hS hl T hT X
  have hP1 : hp_P D cl A h1 H := fun q x hx => hP q x (hsub q x hx)
  have hA := hp_sub C hP1 hS
  rcases hr H locs ls hP1 hS hl T hT X with ⟨v, st₀, t, T', L, h0, X', hL, e1, e2, ⟨⟨r, u, hv, hp, hb⟩, hF⟩, stp⟩ | ⟨q, st₀, t, T', L, E, ce, h0, X', hL, e1, e2, ⟨⟨u, hp, hb⟩, hF⟩, hce, hcv, hcl, stp⟩
  · cases hv
    obtain ⟨k1, k2, k3⟩ := vx_keep h0 e1 hS (fun q _ z => hA q z) hA hL hF
    obtain ⟨m1, m2⟩ := hp_kF hP hsub (by rw [← e1] at hb; exact hb) hA k2
    obtain ⟨t2, a1, b1⟩ := kk v u hp m2 T'.heap (locs ++ L) ls m1 k3 hl T' rfl X'
    exact ⟨t2, stp t2 a1, b1⟩
  · obtain ⟨k1, k2, k3⟩ := vx_keep h0 e1 hS (fun q _ z => hA q z) hA hL hF
    obtain ⟨m1, m2⟩ := hp_kF hP hsub (by rw [← e1] at hb; exact hb) hA k2
    obtain ⟨t2, a1, b1⟩ := kx E u hp m2 T'.heap (locs ++ L) ls q ce m1 k3 hl (by rw [e1]; exact hce) hcv hcl T' rfl X'
    exact ⟨t2, stp.trans a1, b1⟩
theorem hg_callYF {av : List Value} {post : Option Value → Pic → Prop} {mc ms : Nat} (C : hp_C p s m args meth c cc nL own ws D cl tys sts aos A) (hsub : ∀ q x, h1 q = some x → h q = some x)
    (hr : ∀ (H : Heap) (locs : List Loc) (ls : Array Slot), hp_P D cl A h1 H → va_S A s.heap H locs → lv_has ls nL lv → va_Run p l e R s m args below meth c H locs cells slots mc ms (F0 m pc ls sf) st (hp_Qc D cl (hp_A h1 H.size) post av.toArray) (hp_A h1 H.size))
    (kk : ∀ (r : Option Value) (u : Pic), post r u → (∀ q y, u q = some y → h1 q = none → h q = none) → hp_G p l e R s m args below meth c D cl A nL Q (cells + mc) (slots + ms) (pc + 3) lv (r.toList ++ st) (mrg u h h1)) : hp_G p l e R s m args below meth c D cl A nL Q cells slots pc lv sf h := by
  intro H locs ls hP hS hl T hT X
  have hP1 : hp_P D cl A h1 H := fun q x hx => hP q x (hsub q x hx)
  have hA := hp_sub C hP1 hS
  obtain ⟨v, st₀, t, T', L, h0, X', hL, e1, e2, ⟨⟨r, u, hv, hp, hb⟩, hF⟩, stp⟩ := hr H locs ls hP1 hS hl T hT X
  cases hv
  obtain ⟨k1, k2, k3⟩ := vx_keep h0 e1 hS (fun q _ z => hA q z) hA hL hF
  obtain ⟨m1, m2⟩ := hp_kF hP hsub (by rw [← e1] at hb; exact hb) hA k2
  obtain ⟨t2, a1, b1⟩ := kk v u hp m2 T'.heap (locs ++ L) ls m1 k3 hl T' rfl X'
  exact ⟨t2, stp t2 a1, b1⟩
variable {y : MethodName} {bytes : ByteArray} {maxL mc ms n index : Nat} {ret : Option FieldType} {wy : List Cond} {rm : Room} {post : Option Value → Pic → Prop} {px : String → Pic → Prop} {As : List Value} {b : Nat}
/-- a call of a method that may throw, over a part of the picture -/
theorem hg_VF {ci : Nat} {fs : List Value} {q : vw_C} (C : hp_C p s m args meth c cc nL own ws D cl tys sts aos A) (hsub : ∀ q x, h1 q = some x → h q = some x) (hM : hp_M l y wy rm D cl tys sts aos (.ref b :: As) h1 post px mc ms) (cw : CallW R s args own q.1 index y bytes maxL ret wy rm mc ms n) (hb : h1 b = some (.inr (ci, fs))) (hc : cl[ci]? = some q) (hn : As.length = n) (hsf : sf = As.reverse ++ .ref b :: st) (hst : (st.map fun v => v.category).sum ≤ 8) (hd : decode cc pc = .ok (.invokevirtual index, 3)) (hf : cells + mc ≤ R.cells ∧ slots + ms ≤ R.slots)
    (kk : ∀ (r : Option Value) (u : Pic), post r u → (∀ q y, u q = some y → h1 q = none → h q = none) → hp_G p l e R s m args below meth c D cl A nL Q (cells + mc) (slots + ms) (pc + 3) lv (r.toList ++ st) (mrg u h h1))
    (kx : ∀ (E : String) (u : Pic), px E u → (∀ q y, u q = some y → h1 q = none → h q = none) → hp_T p l e R s m args below meth c D cl A nL Q (cells + mc) (slots + ms) pc lv st (mrg u h h1) E) : hp_G p l e R s m args below meth c D cl A nL Q cells slots pc lv sf h :=
  hg_callXF (av := .ref b :: As) C hsub (fun H locs ls hP hS hl => vx_runV ⟨C.1, C.2.1, C.2.2.1, C.2.2.2.1, C.2.2.2.2.1⟩ (hM H.size) cw ⟨hp_blind, hp_recv C hP hb hc, hp_pre C hP hS _⟩ rfl hn hl.1 hsf (lv_room hst) hd hf) kk kx
theorem hg_VNF {ci : Nat} {fs : List Value} {q : vw_C} (C : hp_C p s m args meth c cc nL own ws D cl tys sts aos A) (hsub : ∀ q x, h1 q = some x → h q = some x) (hM : hp_N l y wy rm D cl tys sts aos (.ref b :: As) h1 post mc ms) (cw : CallW R s args own q.1 index y bytes maxL ret wy rm mc ms n) (hb : h1 b = some (.inr (ci, fs))) (hc : cl[ci]? = some q) (hn : As.length = n) (hsf : sf = As.reverse ++ .ref b :: st) (hst : (st.map fun v => v.category).sum ≤ 8) (hd : decode cc pc = .ok (.invokevirtual index, 3)) (hf : cells + mc ≤ R.cells ∧ slots + ms ≤ R.slots)
    (kk : ∀ (r : Option Value) (u : Pic), post r u → (∀ q y, u q = some y → h1 q = none → h q = none) → hp_G p l e R s m args below meth c D cl A nL Q (cells + mc) (slots + ms) (pc + 3) lv (r.toList ++ st) (mrg u h h1)) : hp_G p l e R s m args below meth c D cl A nL Q cells slots pc lv sf h :=
  hg_callYF (av := .ref b :: As) C hsub (fun H locs ls hP hS hl => va_runV ⟨C.1, C.2.1, C.2.2.1, C.2.2.2.1, C.2.2.2.2.1⟩ (hM H.size) cw ⟨hp_blind, hp_recv C hP hb hc, hp_pre C hP hS _⟩ rfl hn hl.1 hsf (lv_room hst) hd hf) kk
theorem hg_INF (C : hp_C p s m args meth c cc nL own ws D cl tys sts aos A) (hsub : ∀ q x, h1 q = some x → h q = some x) (hM : hp_N l y wy rm D cl tys sts aos (.ref b :: As) h1 post mc ms) (cw : CallB R s args own index y bytes maxL none wy rm mc ms n ∧ y.name = "<init>" ∧ (Cond.instanceMethod y).before args s = true) (hn : As.length = n) (hsf : sf = As.reverse ++ .ref b :: st) (hst : (st.map fun v => v.category).sum ≤ 8) (hd : decode cc pc = .ok (.invokespecial index, 3)) (hf : cells + mc ≤ R.cells ∧ slots + ms ≤ R.slots)
    (kk : ∀ (r : Option Value) (u : Pic), post r u → (∀ q y, u q = some y → h1 q = none → h q = none) → hp_G p l e R s m args below meth c D cl A nL Q (cells + mc) (slots + ms) (pc + 3) lv (r.toList ++ st) (mrg u h h1)) : hp_G p l e R s m args below meth c D cl A nL Q cells slots pc lv sf h :=
  hg_callYF (av := .ref b :: As) C hsub (fun H locs ls hP hS hl => va_runI ⟨C.1, C.2.1, C.2.2.1, C.2.2.2.1, C.2.2.2.2.1⟩ (hM H.size) cw ⟨hp_blind, hp_pre C hP hS _⟩ rfl hn hl.1 hsf (lv_room hst) hd hf) kk
/-- a static call of a body with handlers that lets nothing out -/
theorem hg_SXF {hh : List (Nat × Nat × Nat × Nat)} (C : hp_C p s m args meth c cc nL own ws D cl tys sts aos A) (hsub : ∀ q x, h1 q = some x → h q = some x) (hM : hp_M l y wy rm D cl tys sts aos As h1 post (fun _ _ => False) mc ms) (cw : vx_CSW R s args own index y bytes maxL ret hh wy rm mc ms n) (hn : As.length = n) (hsf : sf = As.reverse ++ st) (hst : (st.map fun v => v.category).sum ≤ 8) (hd : decode cc pc = .ok (.invokestatic index, 3)) (hf : cells + mc ≤ R.cells ∧ slots + ms ≤ R.slots)
    (kk : ∀ (r : Option Value) (u : Pic), post r u → (∀ q y, u q = some y → h1 q = none → h q = none) → hp_G p l e R s m args below meth c D cl A nL Q (cells + mc) (slots + ms) (pc + 3) lv (r.toList ++ st) (mrg u h h1)) : hp_G p l e R s m args below meth c D cl A nL Q cells slots pc lv sf h :=
  hg_callXF (av := As) C hsub (fun H locs ls hP hS hl => vx_runSX ⟨C.1, C.2.1, C.2.2.1, C.2.2.2.1, C.2.2.2.2.1⟩ (hM H.size) cw ⟨hp_blind, hp_pre C hP hS As⟩ rfl hn hl.1 hsf (lv_room hst) hd hf) kk (fun _ _ z _ => z.elim)
end LW0
/-! the code of a call stands in the reference's memory -/
theorem gd_c {b1 b2 : Prop} {M : Mem} {x : Int32 × Mem} (h : b1 → b2 → x.2 0 0 = 0) : (gd b1 b2 M x).2.2 0 0 = (gd b1 b2 M x).1 := by
  unfold gd
  split
  · next a =>
    split
    · next b => exact h a b
    · rfl
  · rfl
theorem gd_n2 {b1 : Prop} {M : Mem} {x : Int32 × Mem} : ¬ (gd b1 True M x).1 = 2 := by
  unfold gd
  rw [if_pos trivial]
  split
  · exact fun z => absurd (show (0 : Int32) = 2 from z) (by decide)
  · exact fun z => absurd (show (1 : Int32) = 2 from z) (by decide)
theorem gd_012 {b1 b2 : Prop} {M : Mem} {x : Int32 × Mem} : (gd b1 b2 M x).1 = 0 ∨ (gd b1 b2 M x).1 = 1 ∨ (gd b1 b2 M x).1 = 2 := by
  unfold gd
  split
  · split
    · exact Or.inl rfl
    · exact Or.inr (Or.inr rfl)
  · exact Or.inr (Or.inl rfl)
section CDE
variable {M : Mem}
theorem cd_told (s w : Int32) : (sp_told M s w).2.2 0 0 = (sp_told M s w).1 := gd_c fun _ _ => rfl
theorem cd_author (v : Int32) : (sp_author M v).2.2 0 0 = (sp_author M v).1 := gd_c fun _ _ => rfl
theorem cd_count (w : Int32) : (sp_count M w).2.2 0 0 = (sp_count M w).1 := gd_c fun _ _ => rfl
theorem cd_here (s t : Int32) : (sp_here M s t).2.2 0 0 = (sp_here M s t).1 := gd_c fun _ _ => rfl
theorem cd_now (s t f : Int32) : (sp_now M s t f).2.2 0 0 = (sp_now M s t f).1 := gd_c fun _ _ => rfl
theorem cd_at (v t f : Int32) : (sp_at M v t f).2.2 0 0 = (sp_at M v t f).1 := gd_c fun _ _ => rfl
theorem cd_since (v t f : Int32) : (sp_since M v t f).2.2 0 0 = (sp_since M v t f).1 := gd_c fun _ _ => rfl
theorem cd_there (v t w : Int32) : (sp_there M v t w).2.2 0 0 = (sp_there M v t w).1 := gd_c fun _ _ => rfl
theorem cd_conflict (k w : Int32) : (sp_conflict M k w).2.2 0 0 = (sp_conflict M k w).1 := gd_c fun _ _ => rfl
theorem cd_differs (a b k : Int32) : (sp_differs M a b k).2.2 0 0 = (sp_differs M a b k).1 := gd_c fun _ _ => rfl
theorem cd_broken (v k : Int32) : (sp_broken M v k).2.2 0 0 = (sp_broken M v k).1 := gd_c fun _ _ => rfl
theorem cd_lock (t p : Int32) : (sp_lock M t p).2.2 0 0 = (sp_lock M t p).1 := gd_c fun _ _ => rfl
theorem cd_rule (k f g : Int32) : (sp_rule M k f g).2.2 0 0 = (sp_rule M k f g).1 := gd_c fun _ _ => rfl
theorem cd_giveUp : (sp_giveUp M).2.2 0 0 = (sp_giveUp M).1 := gd_c fun _ _ => rfl
theorem cd_session (p v : Int32) : (sp_session M p v).2.2 0 0 = (sp_session M p v).1 := gd_c fun _ _ => rfl
theorem cd_undo (s : Int32) : (sp_undo M s).2.2 0 0 = (sp_undo M s).1 := gd_c fun _ _ => rfl
theorem cd_redo (s : Int32) : (sp_redo M s).2.2 0 0 = (sp_redo M s).1 := gd_c fun _ _ => rfl
theorem chg_0 {N : Mem} {s t hw f v : Int32} (h : N 0 0 = 0) : (f_chg N s t hw f v).2 0 0 = 0 := by
  unfold f_chg
  split
  · exact h
  · exact h
theorem cd_set (s t f v : Int32) : (sp_set M s t f v).2.2 0 0 = (sp_set M s t f v).1 := gd_c fun _ _ => chg_0 rfl
theorem cd_drop (s t : Int32) : (sp_drop M s t).2.2 0 0 = (sp_drop M s t).1 := gd_c fun _ _ => chg_0 rfl
theorem cd_make (s k : Int32) : (sp_make M s k).2.2 0 0 = (sp_make M s k).1 := gd_c fun _ _ => by
  unfold f_make
  split
  · rfl
  · rfl
theorem cd_join (s : Int32) : (sp_join M s).2.2 0 0 = (sp_join M s).1 := gd_c fun _ _ => by
  have e0 : (mset M 0 0 0) 0 0 = 0 := rfl
  obtain ⟨N, eN⟩ : ∃ N, N = mset M 0 0 0 := ⟨_, rfl⟩
  rw [← eN] at e0 ⊢
  have hl : m_fd N s.toNatClampNeg (nT N) 0 = N 0 := lo.fd (N := N) (s := s.toNatClampNeg) (nT N) 0 (by decide)
  unfold f_join
  split
  · exact e0
  · split
    · exact e0
    · split
      · show m_fin _ _ 0 0 = 0
        rw [fin_o (by decide), hl, e0]
      · show (m_fd N s.toNatClampNeg (nT N)) 0 0 = 0
        rw [hl, e0]
theorem cd_settle (k v : Int32) : (sp_settle M k v).2.2 0 0 = (sp_settle M k v).1 := gd_c fun _ _ => by
  have e0 : (mset M 0 0 0) 0 0 = 0 := rfl
  obtain ⟨N, eN⟩ : ∃ N, N = mset M 0 0 0 := ⟨_, rfl⟩
  rw [← eN] at e0 ⊢
  unfold f_settle
  split
  · show m_fin _ _ 0 0 = 0
    rw [fin_o (by decide), mset_n (by decide), e0]
  · exact e0
end CDE
