/-! posts of a common form, and calls by them -/
abbrev IAE : String := "java/lang/IllegalArgumentException"
abbrev ISE : String := "java/lang/IllegalStateException"
/-- the answer is v, the picture is h, and P -/
abbrev pv (v : Value) (h : Pic) (P : Prop) : Option Value → Pic → Prop := fun r u => r = some v ∧ u = h ∧ P
abbrev pn (h : Pic) (P : Prop) : Option Value → Pic → Prop := fun r u => r = none ∧ u = h ∧ P
/-- a truth value -/
abbrev pb (h : Pic) (P : Prop) : Option Value → Pic → Prop := fun r u => (r = some (.int 1) ∧ u = h ∧ P) ∨ (r = some (.int 0) ∧ u = h ∧ ¬ P)
abbrev pe (E0 : String) (h : Pic) (P : Prop) : String → Pic → Prop := fun E u => E = E0 ∧ u = h ∧ P
abbrev p0 : String → Pic → Prop := fun _ _ => False
section HR
variable {p : Program} {l : Launch} {e : Env} {R : Room} {s : State} {m : MethodId} {args : Array Value} {below : List Frame} {meth : Method} {c : Code} {cc : ByteArray} {nL : Nat} {own : String} {ws : List Cond} {D : va_G} {cl : List vw_C} {tys : List (ClassId × FieldType)} {sts : List (String × Nat × String × Nat)} {aos : List Cond} {A : Nat → Prop} {Q : State → Prop} {cells slots pc : Nat} {lv lv' : List (Nat × Value)} {st sf : List Value} {h : Pic}
variable {y : MethodName} {bytes : ByteArray} {maxL mc ms n index : Nat} {ret : Option FieldType} {wy : List Cond} {rm : Room} {As : List Value} {b : Nat} {v : Value} {P X : Prop} {E0 : String}
theorem hg_SNv (C : hp_C p s m args meth c cc nL own ws D cl tys sts aos A) (hM : hp_N l y wy rm D cl tys sts aos As h (pv v h P) mc ms) (cw : CallB R s args own index y bytes maxL ret wy rm mc ms n ∧ (Cond.static y).before args s = true) (hn : As.length = n) (hsf : sf = As.reverse ++ st) (hst : (st.map fun v => v.category).sum ≤ 8) (hd : decode cc pc = .ok (.invokestatic index, 3)) (hf : cells + mc ≤ R.cells ∧ slots + ms ≤ R.slots)
    (kk : P → hp_G p l e R s m args below meth c D cl A nL Q (cells + mc) (slots + ms) (pc + 3) lv (v :: st) h) : hp_G p l e R s m args below meth c D cl A nL Q cells slots pc lv sf h :=
  hg_SN C hM cw hn hsf hst hd hf (fun r u hq => by obtain ⟨rfl, rfl, hp⟩ := hq; exact kk hp)
theorem hg_SNb (C : hp_C p s m args meth c cc nL own ws D cl tys sts aos A) (hM : hp_N l y wy rm D cl tys sts aos As h (pb h P) mc ms) (cw : CallB R s args own index y bytes maxL ret wy rm mc ms n ∧ (Cond.static y).before args s = true) (hn : As.length = n) (hsf : sf = As.reverse ++ st) (hst : (st.map fun v => v.category).sum ≤ 8) (hd : decode cc pc = .ok (.invokestatic index, 3)) (hf : cells + mc ≤ R.cells ∧ slots + ms ≤ R.slots)
    (k1 : P → hp_G p l e R s m args below meth c D cl A nL Q (cells + mc) (slots + ms) (pc + 3) lv (.int 1 :: st) h)
    (k0 : ¬ P → hp_G p l e R s m args below meth c D cl A nL Q (cells + mc) (slots + ms) (pc + 3) lv (.int 0 :: st) h) : hp_G p l e R s m args below meth c D cl A nL Q cells slots pc lv sf h :=
  hg_SN C hM cw hn hsf hst hd hf (fun r u hq => by
    rcases hq with ⟨rfl, rfl, hp⟩ | ⟨rfl, rfl, hp⟩
    · exact k1 hp
    · exact k0 hp)
theorem hg_Sn (C : hp_C p s m args meth c cc nL own ws D cl tys sts aos A) (hM : hp_M l y wy rm D cl tys sts aos As h (pn h P) (pe E0 h X) mc ms) (cw : CallB R s args own index y bytes maxL ret wy rm mc ms n ∧ (Cond.static y).before args s = true) (hn : As.length = n) (hsf : sf = As.reverse ++ st) (hst : (st.map fun v => v.category).sum ≤ 8) (hd : decode cc pc = .ok (.invokestatic index, 3)) (hf : cells + mc ≤ R.cells ∧ slots + ms ≤ R.slots)
    (kk : P → hp_G p l e R s m args below meth c D cl A nL Q (cells + mc) (slots + ms) (pc + 3) lv st h)
    (kx : X → hp_T p l e R s m args below meth c D cl A nL Q (cells + mc) (slots + ms) pc lv st h E0) : hp_G p l e R s m args below meth c D cl A nL Q cells slots pc lv sf h :=
  hg_S C hM cw hn hsf hst hd hf (fun r u hq => by obtain ⟨rfl, rfl, hp⟩ := hq; exact kk hp) (fun E u hq => by obtain ⟨rfl, rfl, hp⟩ := hq; exact kx hp)
variable {ci : Nat} {fs : List Value} {q : vw_C}
theorem hg_VNv (C : hp_C p s m args meth c cc nL own ws D cl tys sts aos A) (hM : hp_N l y wy rm D cl tys sts aos (.ref b :: As) h (pv v h P) mc ms) (cw : CallW R s args own q.1 index y bytes maxL ret wy rm mc ms n) (hb : h b = some (.inr (ci, fs))) (hc : cl[ci]? = some q) (hn : As.length = n) (hsf : sf = As.reverse ++ .ref b :: st) (hst : (st.map fun v => v.category).sum ≤ 8) (hd : decode cc pc = .ok (.invokevirtual index, 3)) (hf : cells + mc ≤ R.cells ∧ slots + ms ≤ R.slots)
    (kk : P → hp_G p l e R s m args below meth c D cl A nL Q (cells + mc) (slots + ms) (pc + 3) lv (v :: st) h) : hp_G p l e R s m args below meth c D cl A nL Q cells slots pc lv sf h :=
  hg_VN C hM cw hb hc hn hsf hst hd hf (fun r u hq => by obtain ⟨rfl, rfl, hp⟩ := hq; exact kk hp)
theorem hg_VNb (C : hp_C p s m args meth c cc nL own ws D cl tys sts aos A) (hM : hp_N l y wy rm D cl tys sts aos (.ref b :: As) h (pb h P) mc ms) (cw : CallW R s args own q.1 index y bytes maxL ret wy rm mc ms n) (hb : h b = some (.inr (ci, fs))) (hc : cl[ci]? = some q) (hn : As.length = n) (hsf : sf = As.reverse ++ .ref b :: st) (hst : (st.map fun v => v.category).sum ≤ 8) (hd : decode cc pc = .ok (.invokevirtual index, 3)) (hf : cells + mc ≤ R.cells ∧ slots + ms ≤ R.slots)
    (k1 : P → hp_G p l e R s m args below meth c D cl A nL Q (cells + mc) (slots + ms) (pc + 3) lv (.int 1 :: st) h)
    (k0 : ¬ P → hp_G p l e R s m args below meth c D cl A nL Q (cells + mc) (slots + ms) (pc + 3) lv (.int 0 :: st) h) : hp_G p l e R s m args below meth c D cl A nL Q cells slots pc lv sf h :=
  hg_VN C hM cw hb hc hn hsf hst hd hf (fun r u hq => by
    rcases hq with ⟨rfl, rfl, hp⟩ | ⟨rfl, rfl, hp⟩
    · exact k1 hp
    · exact k0 hp)
theorem hg_Vn (C : hp_C p s m args meth c cc nL own ws D cl tys sts aos A) (hM : hp_M l y wy rm D cl tys sts aos (.ref b :: As) h (pn h P) (pe E0 h X) mc ms) (cw : CallW R s args own q.1 index y bytes maxL ret wy rm mc ms n) (hb : h b = some (.inr (ci, fs))) (hc : cl[ci]? = some q) (hn : As.length = n) (hsf : sf = As.reverse ++ .ref b :: st) (hst : (st.map fun v => v.category).sum ≤ 8) (hd : decode cc pc = .ok (.invokevirtual index, 3)) (hf : cells + mc ≤ R.cells ∧ slots + ms ≤ R.slots)
    (kk : P → hp_G p l e R s m args below meth c D cl A nL Q (cells + mc) (slots + ms) (pc + 3) lv st h)
    (kx : X → hp_T p l e R s m args below meth c D cl A nL Q (cells + mc) (slots + ms) pc lv st h E0) : hp_G p l e R s m args below meth c D cl A nL Q cells slots pc lv sf h :=
  hg_V C hM cw hb hc hn hsf hst hd hf (fun r u hq => by obtain ⟨rfl, rfl, hp⟩ := hq; exact kk hp) (fun E u hq => by obtain ⟨rfl, rfl, hp⟩ := hq; exact kx hp)
theorem hg_Vv (C : hp_C p s m args meth c cc nL own ws D cl tys sts aos A) (hM : hp_M l y wy rm D cl tys sts aos (.ref b :: As) h (pv v h P) (pe E0 h X) mc ms) (cw : CallW R s args own q.1 index y bytes maxL ret wy rm mc ms n) (hb : h b = some (.inr (ci, fs))) (hc : cl[ci]? = some q) (hn : As.length = n) (hsf : sf = As.reverse ++ .ref b :: st) (hst : (st.map fun v => v.category).sum ≤ 8) (hd : decode cc pc = .ok (.invokevirtual index, 3)) (hf : cells + mc ≤ R.cells ∧ slots + ms ≤ R.slots)
    (kk : P → hp_G p l e R s m args below meth c D cl A nL Q (cells + mc) (slots + ms) (pc + 3) lv (v :: st) h)
    (kx : X → hp_T p l e R s m args below meth c D cl A nL Q (cells + mc) (slots + ms) pc lv st h E0) : hp_G p l e R s m args below meth c D cl A nL Q cells slots pc lv sf h :=
  hg_V C hM cw hb hc hn hsf hst hd hf (fun r u hq => by obtain ⟨rfl, rfl, hp⟩ := hq; exact kk hp) (fun E u hq => by obtain ⟨rfl, rfl, hp⟩ := hq; exact kx hp)
/-- a call that writes: what comes behind it by the post itself -/
theorem hg_VNw {post : Option Value → Pic → Prop} (C : hp_C p s m args meth c cc nL own ws D cl tys sts aos A) (hM : hp_N l y wy rm D cl tys sts aos (.ref b :: As) h post mc ms) (cw : CallW R s args own q.1 index y bytes maxL ret wy rm mc ms n) (hb : h b = some (.inr (ci, fs))) (hc : cl[ci]? = some q) (hn : As.length = n) (hsf : sf = As.reverse ++ .ref b :: st) (hst : (st.map fun v => v.category).sum ≤ 8) (hd : decode cc pc = .ok (.invokevirtual index, 3)) (hf : cells + mc ≤ R.cells ∧ slots + ms ≤ R.slots) (hv : ∀ (r : Option Value) (u : Pic), post r u → ∃ v, r = some v)
    (kk : ∀ (v : Value) (u : Pic), post (some v) u → hp_G p l e R s m args below meth c D cl A nL Q (cells + mc) (slots + ms) (pc + 3) lv (v :: st) u) : hp_G p l e R s m args below meth c D cl A nL Q cells slots pc lv sf h :=
  hg_VN C hM cw hb hc hn hsf hst hd hf (fun r u hq => by obtain ⟨v, rfl⟩ := hv r u hq; exact kk v u hq)
theorem hg_VNz {post : Pic → Prop} (C : hp_C p s m args meth c cc nL own ws D cl tys sts aos A) (hM : hp_N l y wy rm D cl tys sts aos (.ref b :: As) h (fun r u => r = none ∧ post u) mc ms) (cw : CallW R s args own q.1 index y bytes maxL ret wy rm mc ms n) (hb : h b = some (.inr (ci, fs))) (hc : cl[ci]? = some q) (hn : As.length = n) (hsf : sf = As.reverse ++ .ref b :: st) (hst : (st.map fun v => v.category).sum ≤ 8) (hd : decode cc pc = .ok (.invokevirtual index, 3)) (hf : cells + mc ≤ R.cells ∧ slots + ms ≤ R.slots)
    (kk : ∀ (u : Pic), post u → hp_G p l e R s m args below meth c D cl A nL Q (cells + mc) (slots + ms) (pc + 3) lv st u) : hp_G p l e R s m args below meth c D cl A nL Q cells slots pc lv sf h :=
  hg_VN C hM cw hb hc hn hsf hst hd hf (fun r u hq => by obtain ⟨rfl, hq⟩ := hq; exact kk u hq)
theorem hg_SNz {post : Pic → Prop} (C : hp_C p s m args meth c cc nL own ws D cl tys sts aos A) (hM : hp_N l y wy rm D cl tys sts aos As h (fun r u => r = none ∧ post u) mc ms) (cw : CallB R s args own index y bytes maxL ret wy rm mc ms n ∧ (Cond.static y).before args s = true) (hn : As.length = n) (hsf : sf = As.reverse ++ st) (hst : (st.map fun v => v.category).sum ≤ 8) (hd : decode cc pc = .ok (.invokestatic index, 3)) (hf : cells + mc ≤ R.cells ∧ slots + ms ≤ R.slots)
    (kk : ∀ (u : Pic), post u → hp_G p l e R s m args below meth c D cl A nL Q (cells + mc) (slots + ms) (pc + 3) lv st u) : hp_G p l e R s m args below meth c D cl A nL Q cells slots pc lv sf h :=
  hg_SN C hM cw hn hsf hst hd hf (fun r u hq => by obtain ⟨rfl, hq⟩ := hq; exact kk u hq)
theorem hg_Iz {post : Pic → Prop} (C : hp_C p s m args meth c cc nL own ws D cl tys sts aos A) (hM : hp_N l y wy rm D cl tys sts aos (.ref b :: As) h (fun r u => r = none ∧ post u) mc ms) (cw : CallB R s args own index y bytes maxL none wy rm mc ms n ∧ y.name = "<init>" ∧ (Cond.instanceMethod y).before args s = true) (hn : As.length = n) (hsf : sf = As.reverse ++ .ref b :: st) (hst : (st.map fun v => v.category).sum ≤ 8) (hd : decode cc pc = .ok (.invokespecial index, 3)) (hf : cells + mc ≤ R.cells ∧ slots + ms ≤ R.slots)
    (kk : ∀ (u : Pic), post u → hp_G p l e R s m args below meth c D cl A nL Q (cells + mc) (slots + ms) (pc + 3) lv st u) : hp_G p l e R s m args below meth c D cl A nL Q cells slots pc lv sf h :=
  hg_I C hM cw hn hsf hst hd hf (fun r u hq => by obtain ⟨rfl, hq⟩ := hq; exact kk u hq)
end HR
