/-! CONTRACTS over pictures, a method's entry, its ends, calls -/
def hp_Pre (D : va_G) (cl : List vw_C) (tys : List (ClassId × FieldType)) (sts : List (String × Nat × String × Nat)) (aos : List Cond) (av : List Value) (h : Pic) (sz : Nat) : Array Value → State → Prop :=
  va_Pc av (fun U => U.heap.size = sz ∧ hp_P D cl (hp_A h sz) h U.heap ∧ hp_E D cl tys sts aos (hp_A h sz) U)
def hp_Qc (D : va_G) (cl : List vw_C) (A : Nat → Prop) (post : Option Value → Pic → Prop) : Array Value → State → Outcome → State → Prop := fun _ st oc t =>
  (∃ (r : Option Value) (u : Pic), oc = .returned r ∧ post r u ∧ hp_P D cl A u t.heap) ∧ va_F A st t
def hp_Xc (D : va_G) (cl : List vw_C) (A : Nat → Prop) (px : String → Pic → Prop) : String → State → State → Prop := fun E st t =>
  (∃ u : Pic, px E u ∧ hp_P D cl A u t.heap) ∧ va_F A st t
/-- a contract: from the picture h, at the arguments av, the method returns with 'post answer picture', or throws E with 'px E picture'; nothing else changes -/
def hp_M (l : Launch) (y : MethodName) (ws : List Cond) (rm : Room) (D : va_G) (cl : List vw_C) (tys : List (ClassId × FieldType)) (sts : List (String × Nat × String × Nat)) (aos : List Cond) (av : List Value) (h : Pic) (post : Option Value → Pic → Prop) (px : String → Pic → Prop) (mc ms : Nat) : Prop :=
  ∀ sz : Nat, vx_Met l y ws rm (hp_Pre D cl tys sts aos av h sz) (hp_Qc D cl (hp_A h sz) post) (hp_Xc D cl (hp_A h sz) px) mc ms (hp_A h sz)
/-- .. of a method that never throws -/
def hp_N (l : Launch) (y : MethodName) (ws : List Cond) (rm : Room) (D : va_G) (cl : List vw_C) (tys : List (ClassId × FieldType)) (sts : List (String × Nat × String × Nat)) (aos : List Cond) (av : List Value) (h : Pic) (post : Option Value → Pic → Prop) (mc ms : Nat) : Prop :=
  ∀ sz : Nat, Met l y ws rm (hp_Pre D cl tys sts aos av h sz) (hp_Qc D cl (hp_A h sz) post) mc ms (hp_A h sz)
def hp_MQ (below : List Frame) (D : va_G) (cl : List vw_C) (A : Nat → Prop) (post : Option Value → Pic → Prop) (px : String → Pic → Prop) (args : Array Value) (s : State) (mc ms : Nat) : State → Prop :=
  vx_MQ below (hp_Qc D cl A post) (hp_Xc D cl A px) args s mc ms A
def hp_NQ (below : List Frame) (D : va_G) (cl : List vw_C) (A : Nat → Prop) (post : Option Value → Pic → Prop) (args : Array Value) (s : State) (mc ms : Nat) : State → Prop :=
  MQ below (hp_Qc D cl A post) args s mc ms A
theorem hp_E.calling {D : va_G} {cl : List vw_C} {tys : List (ClassId × FieldType)} {sts : List (String × Nat × String × Nat)} {aos : List Cond} {A : Nat → Prop} {U : State} (g : JFrame) (mk : MethodId) (a : Array Value) (h : hp_E D cl tys sts aos A U) : hp_E D cl tys sts aos A (U.calling g mk a) :=
  ⟨va_K.moved (u := U) (U := U.calling g mk a) (Vm.Alike.refl U.vm) h.1, vx_Zq.moved (u := U) (U := U.calling g mk a) (Vm.Alike.refl U.vm) h.2.1, vx_Zq.moved (u := U) (U := U.calling g mk a) (Vm.Alike.refl U.vm) h.2.2.1, fun q hq => vk_R.same (u := U) (U := U.calling g mk a) rfl (h.2.2.2.1 q hq), fun w hw => ⟨(h.2.2.2.2.1 w hw).1, hp_nk_warm (s := U) (U := U.calling g mk a) (h.2.2.2.2.1 w hw).1 (State.WarmedH.refl U) (h.2.2.2.2.1 w hw).2⟩, va_Nc.moved (u := U) (U := U.calling g mk a) (Vm.Alike.refl U.vm) h.2.2.2.2.2⟩
theorem hp_E.at {D : va_G} {cl : List vw_C} {tys : List (ClassId × FieldType)} {sts : List (String × Nat × String × Nat)} {aos : List Cond} {A B : Nat → Prop} {s U : State} {H : Heap} {locs : List Loc} (h : hp_E D cl tys sts aos A s) (hW : s.WarmedH U.vm) (hU : U.heap = H) (hS : va_S A s.heap H locs) (hAB : ∀ q, B q → A q) : hp_E D cl tys sts aos B U := by
  refine ⟨va_K.moved hW.alike h.1, ?_, ?_, fun q hq => vk_R.warm hW (h.2.2.2.1 q hq), fun w hw => ⟨(h.2.2.2.2.1 w hw).1, hp_nk_warm (h.2.2.2.2.1 w hw).1 hW (h.2.2.2.2.1 w hw).2⟩, va_Nc.moved hW.alike h.2.2.2.2.2⟩
  · rw [hU]; exact (vx_Zq.moved hW.alike (h.2.1.kept hS.2.1)).narrow hAB
  · rw [hU]; exact (vx_Zq.moved hW.alike (h.2.2.1.kept hS.2.1)).narrow hAB
theorem hp_blind {D : va_G} {cl : List vw_C} {tys : List (ClassId × FieldType)} {sts : List (String × Nat × String × Nat)} {aos : List Cond} {av : List Value} {h : Pic} {sz : Nat} : FrameBlind (hp_Pre D cl tys sts aos av h sz) := fun a U g mk q => by
  obtain ⟨q0, q1, q2, q3⟩ := q
  exact ⟨q0, q1, q2, q3.calling g mk a⟩
section HC
variable {p : Program} {l : Launch} {e : Env} {R : Room} {s : State} {m : MethodId} {args : Array Value} {below : List Frame} {meth : Method} {c : Code} {cc : ByteArray} {nL : Nat} {own : String} {ws : List Cond} {D : va_G} {cl : List vw_C} {tys : List (ClassId × FieldType)} {sts : List (String × Nat × String × Nat)} {aos : List Cond} {A : Nat → Prop} {Q : State → Prop} {cells slots pc : Nat} {lv lv' : List (Nat × Value)} {st sf : List Value} {h : Pic}
theorem hp_sub {H : Heap} {locs : List Loc} (C : hp_C p s m args meth c cc nL own ws D cl tys sts aos A) (hP : hp_P D cl A h H) (hS : va_S A s.heap H locs) : ∀ q, hp_A h H.size q → A q := by
  intro q hq
  rcases hq with ⟨x, hx⟩ | hq
  · exact (hP q x hx).1
  · exact C.2.2.2.2.2.2.2 q (Nat.le_trans hS.1 hq)
/-- less is known of the heap -/
theorem hg_less {h' : Pic} (hh : ∀ q x, h' q = some x → h q = some x) (kk : hp_G p l e R s m args below meth c D cl A nL Q cells slots pc lv st h') : hp_G p l e R s m args below meth c D cl A nL Q cells slots pc lv st h :=
  fun H locs ls hP hS hl => kk H locs ls (fun q x hx => hP q x (hh q x hx)) hS hl
theorem hg_eq {h' : Pic} (hh : h = h') (kk : hp_G p l e R s m args below meth c D cl A nL Q cells slots pc lv st h') : hp_G p l e R s m args below meth c D cl A nL Q cells slots pc lv st h := hh ▸ kk
theorem hg_lv {ks : List Nat} (hv : lv_pick lv ks = lv') (kk : hp_G p l e R s m args below meth c D cl A nL Q cells slots pc lv' st h) : hp_G p l e R s m args below meth c D cl A nL Q cells slots pc lv st h :=
  fun H locs ls hP hS hl => kk H locs ls hP hS (lv_sub hl ks hv)
theorem hg_widen {k n : Nat} (h1 : cells ≤ k) (h2 : slots ≤ n) (kk : hp_G p l e R s m args below meth c D cl A nL Q k n pc lv st h) : hp_G p l e R s m args below meth c D cl A nL Q cells slots pc lv st h :=
  fun H locs ls hP hS hl => W.widen h1 h2 (kk H locs ls hP hS hl)
/-- what is in the picture lies in the heap, and is the method's -/
theorem hg_know (kk : (∀ q x, h q = some x → A q) → hp_G p l e R s m args below meth c D cl A nL Q cells slots pc lv st h) : hp_G p l e R s m args below meth c D cl A nL Q cells slots pc lv st h :=
  fun H locs ls hP hS hl => kk (fun q x hx => (hP q x hx).1) H locs ls hP hS hl
/-- a method's body -/
theorem hg_entry {y : MethodName} {ws ws' : List Cond} {rm : Room} {av : List Value} {lv0 : List (Nat × Value)} {post : Option Value → Pic → Prop} {px : String → Pic → Prop} {mc ms maxL : Nat} {ret : Option FieldType} {D : va_G} {cl : List vw_C} {tys : List (ClassId × FieldType)} {sts : List (String × Nat × String × Nat)} {aos : List Cond} {h : Pic} {cc : ByteArray} {own : String}
    (hy : plainName y.cls = true) (hw : ws = Cond.code y cc maxL ret :: ws') (hown : y.cls = own) (hlen : (lg_sl av).length ≤ maxL) (hlv : lv_args 0 av = lv0)
    (body : ∀ (p : Program) (e : Env) (s : State) (m : MethodId) (args : Array Value) (below : List Frame) (meth : Method) (c : Code) (A : Nat → Prop), hp_C p s m args meth c cc maxL own ws D cl tys sts aos A → (∀ x ∈ c.exceptionTable.toList, False) → meth.sig.returnType = ret →
      hp_G p l e rm s m args below meth c D cl A maxL (hp_MQ below D cl A post px args s mc ms) 0 0 0 lv0 [] h) : hp_M l y ws rm D cl tys sts aos av h post px mc ms := by
  intro sz
  refine vx_ofW (cc := cc) (maxL := maxL) (ret := ret) hy hw ?_
  intro p e s m args below meth c s₁ B hml ht hv
  obtain ⟨rfl, hsz, hP, hE⟩ := hv
  have hts := atoms_spec (ws := ws) B.pre
  have hown' : s.vm.findClass own = some m.cls := hown ▸ findClass_of_methodNamed B.named
  subst hsz
  have hl := lv_entry av (n := maxL) hlen
  rw [lg_entry_eq]
  rw [hlv] at hl
  exact body p e s m av.toArray below meth c (hp_A h s.heap.size) ⟨B.exec, B.bytes, hml, hown', hts, B.notSynchronized, hE, fun q hq => Or.inr hq⟩ ht B.returns s.heap [] _ hP va_S.rf hl
theorem hg_entryN {y : MethodName} {ws ws' : List Cond} {rm : Room} {av : List Value} {lv0 : List (Nat × Value)} {post : Option Value → Pic → Prop} {mc ms maxL : Nat} {ret : Option FieldType} {D : va_G} {cl : List vw_C} {tys : List (ClassId × FieldType)} {sts : List (String × Nat × String × Nat)} {aos : List Cond} {h : Pic} {cc : ByteArray} {own : String}
    (hy : plainName y.cls = true) (hw : ws = Cond.code y cc maxL ret :: ws') (hown : y.cls = own) (hlen : (lg_sl av).length ≤ maxL) (hlv : lv_args 0 av = lv0)
    (body : ∀ (p : Program) (e : Env) (s : State) (m : MethodId) (args : Array Value) (below : List Frame) (meth : Method) (c : Code) (A : Nat → Prop), hp_C p s m args meth c cc maxL own ws D cl tys sts aos A → meth.name = y.name → meth.sig.returnType = ret →
      hp_G p l e rm s m args below meth c D cl A maxL (hp_NQ below D cl A post args s mc ms) 0 0 0 lv0 [] h) : hp_N l y ws rm D cl tys sts aos av h post mc ms := by
  intro sz
  refine Met.ofW (cc := cc) (maxL := maxL) (ret := ret) hy hw ?_
  intro p e s m args below meth c s₁ B hml hv
  obtain ⟨rfl, hsz, hP, hE⟩ := hv
  have hts := atoms_spec (ws := ws) B.pre
  have hown' : s.vm.findClass own = some m.cls := hown ▸ findClass_of_methodNamed B.named
  subst hsz
  have hl := lv_entry av (n := maxL) hlen
  rw [lg_entry_eq]
  rw [hlv] at hl
  exact body p e s m av.toArray below meth c (hp_A h s.heap.size) ⟨B.exec, B.bytes, hml, hown', hts, B.notSynchronized, hE, fun q hq => Or.inr hq⟩ (name_of_methodNamed B.named B.method).1 B.returns s.heap [] _ hP va_S.rf hl
/-- a method's ends -/
theorem hg_iretN {post : Option Value → Pic → Prop} {mc ms : Nat} {v : Int32} {ty : FieldType} (C : hp_C p s m args meth c cc nL own ws D cl tys sts aos A) (hr : meth.sig.returnType = some ty) (hn : narrow ty (.int v) = .int v) (hd : decode cc pc = .ok (.ireturn, 1)) (hc : cells ≤ mc) (hs : slots ≤ ms) (hq : post (some (.int v)) h) :
    hp_G p l e R s m args below meth c D cl A nL (hp_NQ below D cl A post args s mc ms) cells slots pc lv [.int v] h := fun H locs ls hP hS hl =>
  W.widen hc hs (W.zret C.1 C.2.1 hr hn (fun t ht _ => ⟨⟨_, h, rfl, hq, by rw [ht]; exact hP⟩, hS.F ht⟩) hS.2.2 hd C.2.2.2.2.2.1)
theorem hg_vretN {post : Option Value → Pic → Prop} {mc ms : Nat} (C : hp_C p s m args meth c cc nL own ws D cl tys sts aos A) (hr : meth.sig.returnType = none) (hd : decode cc pc = .ok (.return_, 1)) (hc : cells ≤ mc) (hs : slots ≤ ms) (hq : post none h) :
    hp_G p l e R s m args below meth c D cl A nL (hp_NQ below D cl A post args s mc ms) cells slots pc lv [] h := fun H locs ls hP hS hl =>
  W.widen hc hs (W.vret C.1 C.2.1 hr (fun t ht _ => ⟨⟨_, h, rfl, hq, by rw [ht]; exact hP⟩, hS.F ht⟩) hS.2.2 hd C.2.2.2.2.2.1)
theorem hg_aretN {post : Option Value → Pic → Prop} {mc ms : Nat} {v : Value} {n : String} (C : hp_C p s m args meth c cc nL own ws D cl tys sts aos A) (hr : meth.sig.returnType = some (.object n)) (hv : v = .null ∨ ∃ a, v = .ref a) (hd : decode cc pc = .ok (.areturn, 1)) (hc : cells ≤ mc) (hs : slots ≤ ms) (hq : post (some v) h) :
    hp_G p l e R s m args below meth c D cl A nL (hp_NQ below D cl A post args s mc ms) cells slots pc lv [v] h := fun H locs ls hP hS hl =>
  W.widen hc hs (W.aret C.1 C.2.1 hr (Or.inl ⟨n, rfl⟩) hv (fun t ht _ => ⟨⟨_, h, rfl, hq, by rw [ht]; exact hP⟩, hS.F ht⟩) hS.2.2 hd C.2.2.2.2.2.1)
theorem hg_N {post : Option Value → Pic → Prop} {px : String → Pic → Prop} {mc ms : Nat} (kk : hp_G p l e R s m args below meth c D cl A nL (hp_NQ below D cl A post args s mc ms) cells slots pc lv st h) : hp_G p l e R s m args below meth c D cl A nL (hp_MQ below D cl A post px args s mc ms) cells slots pc lv st h :=
  fun H locs ls hP hS hl => vx_ret (kk H locs ls hP hS hl)
theorem hg_iret {post : Option Value → Pic → Prop} {px : String → Pic → Prop} {mc ms : Nat} {v : Int32} {ty : FieldType} (C : hp_C p s m args meth c cc nL own ws D cl tys sts aos A) (hr : meth.sig.returnType = some ty) (hn : narrow ty (.int v) = .int v) (hd : decode cc pc = .ok (.ireturn, 1)) (hc : cells ≤ mc) (hs : slots ≤ ms) (hq : post (some (.int v)) h) :
    hp_G p l e R s m args below meth c D cl A nL (hp_MQ below D cl A post px args s mc ms) cells slots pc lv [.int v] h := hg_N (hg_iretN C hr hn hd hc hs hq)
theorem hg_vret {post : Option Value → Pic → Prop} {px : String → Pic → Prop} {mc ms : Nat} (C : hp_C p s m args meth c cc nL own ws D cl tys sts aos A) (hr : meth.sig.returnType = none) (hd : decode cc pc = .ok (.return_, 1)) (hc : cells ≤ mc) (hs : slots ≤ ms) (hq : post none h) :
    hp_G p l e R s m args below meth c D cl A nL (hp_MQ below D cl A post px args s mc ms) cells slots pc lv [] h := hg_N (hg_vretN C hr hd hc hs hq)
theorem hg_aret {post : Option Value → Pic → Prop} {px : String → Pic → Prop} {mc ms : Nat} {v : Value} {n : String} (C : hp_C p s m args meth c cc nL own ws D cl tys sts aos A) (hr : meth.sig.returnType = some (.object n)) (hv : v = .null ∨ ∃ a, v = .ref a) (hd : decode cc pc = .ok (.areturn, 1)) (hc : cells ≤ mc) (hs : slots ≤ ms) (hq : post (some v) h) :
    hp_G p l e R s m args below meth c D cl A nL (hp_MQ below D cl A post px args s mc ms) cells slots pc lv [v] h := hg_N (hg_aretN C hr hv hd hc hs hq)
/-- an exception goes on to the caller -/
theorem hg_out {post : Option Value → Pic → Prop} {px : String → Pic → Prop} {mc ms : Nat} {E : String} (C : hp_C p s m args meth c cc nL own ws D cl tys sts aos A) (hne : ∀ x ∈ c.exceptionTable.toList, False) (hc : cells ≤ mc) (hs : slots ≤ ms) (hq : px E h) :
    hp_T p l e R s m args below meth c D cl A nL (hp_MQ below D cl A post px args s mc ms) cells slots pc lv st h E := fun H locs ls q ce hP hS hl h1 h2 h3 =>
  vx_out (fun x hx => (hne x hx).elim) C.2.2.2.2.2.1 h1 h2 h3 (fun t ht _ => ⟨⟨h, hq, by rw [ht]; exact hP⟩, hS.F ht⟩) hS.2.2 hc hs
/-- a call of a method that may throw, by an instruction whose run is given -/
theorem hg_callX {av : List Value} {post : Option Value → Pic → Prop} {px : String → Pic → Prop} {mc ms : Nat} (C : hp_C p s m args meth c cc nL own ws D cl tys sts aos A)
    (hr : ∀ (H : Heap) (locs : List Loc) (ls : Array Slot), hp_P D cl A h H → va_S A s.heap H locs → lv_has ls nL lv → vx_Run p l e R s m args below meth c H locs cells slots mc ms (F0 m pc ls sf) st (hp_Qc D cl (hp_A h H.size) post av.toArray) (hp_Xc D cl (hp_A h H.size) px) (hp_A h H.size))
    (kk : ∀ (r : Option Value) (u : Pic), post r u → hp_G p l e R s m args below meth c D cl A nL Q (cells + mc) (slots + ms) (pc + 3) lv (r.toList ++ st) u)
    (kx : ∀ (E : String) (u : Pic), px E u → hp_T p l e R s m args below meth c D cl A nL Q (cells + mc) (slots + ms) pc lv st u E) : hp_G p l e R s m args below meth c D cl A nL Q cells slots pc lv sf h := by
  intro H locs ls hP hS hl T hT X
  have hsub := hp_sub C hP hS
  rcases hr H locs ls hP hS hl T hT X with ⟨v, st₀, t, T', L, h0, X', hL, e1, e2, ⟨⟨r, u, hv, hp, hb⟩, hF⟩, stp⟩ | ⟨q, st₀, t, T', L, E, ce, h0, X', hL, e1, e2, ⟨⟨u, hp, hb⟩, hF⟩, hce, hcv, hcl, stp⟩
  · cases hv
    obtain ⟨k1, k2, k3⟩ := vx_keep h0 e1 hS (fun q _ z => hsub q z) hsub hL hF
    obtain ⟨t2, a1, b1⟩ := kk v u hp T'.heap (locs ++ L) ls (by rw [e1]; exact hb.wk hsub) k3 hl T' rfl X'
    exact ⟨t2, stp t2 a1, b1⟩
  · obtain ⟨k1, k2, k3⟩ := vx_keep h0 e1 hS (fun q _ z => hsub q z) hsub hL hF
    obtain ⟨t2, a1, b1⟩ := kx E u hp T'.heap (locs ++ L) ls q ce (by rw [e1]; exact hb.wk hsub) k3 hl (by rw [e1]; exact hce) hcv hcl T' rfl X'
    exact ⟨t2, stp.trans a1, b1⟩
theorem hg_callY {av : List Value} {post : Option Value → Pic → Prop} {mc ms : Nat} (C : hp_C p s m args meth c cc nL own ws D cl tys sts aos A)
    (hr : ∀ (H : Heap) (locs : List Loc) (ls : Array Slot), hp_P D cl A h H → va_S A s.heap H locs → lv_has ls nL lv → va_Run p l e R s m args below meth c H locs cells slots mc ms (F0 m pc ls sf) st (hp_Qc D cl (hp_A h H.size) post av.toArray) (hp_A h H.size))
    (kk : ∀ (r : Option Value) (u : Pic), post r u → hp_G p l e R s m args below meth c D cl A nL Q (cells + mc) (slots + ms) (pc + 3) lv (r.toList ++ st) u) : hp_G p l e R s m args below meth c D cl A nL Q cells slots pc lv sf h := by
  intro H locs ls hP hS hl T hT X
  have hsub := hp_sub C hP hS
  obtain ⟨v, st₀, t, T', L, h0, X', hL, e1, e2, ⟨⟨r, u, hv, hp, hb⟩, hF⟩, stp⟩ := hr H locs ls hP hS hl T hT X
  cases hv
  obtain ⟨k1, k2, k3⟩ := vx_keep h0 e1 hS (fun q _ z => hsub q z) hsub hL hF
  obtain ⟨t2, a1, b1⟩ := kk v u hp T'.heap (locs ++ L) ls (by rw [e1]; exact hb.wk hsub) k3 hl T' rfl X'
  exact ⟨t2, stp t2 a1, b1⟩
variable {y : MethodName} {bytes : ByteArray} {maxL mc ms n index : Nat} {ret : Option FieldType} {wy : List Cond} {rm : Room} {post : Option Value → Pic → Prop} {px : String → Pic → Prop} {As : List Value} {C0 : String} {b : Nat}
theorem hp_pre (C : hp_C p s m args meth c cc nL own ws D cl tys sts aos A) {H : Heap} {locs : List Loc} (hP : hp_P D cl A h H) (hS : va_S A s.heap H locs) (av : List Value) : ∀ U : State, U.heap = H → s.WarmedH U.vm → hp_Pre D cl tys sts aos av h H.size av.toArray U := fun U hU hW =>
  ⟨rfl, by rw [hU], by rw [hU]; exact hP.self _, C.2.2.2.2.2.2.1.at hW hU hS (hp_sub C hP hS)⟩
theorem hp_recv (C : hp_C p s m args meth c cc nL own ws D cl tys sts aos A) {H : Heap} {ci : Nat} {fs : List Value} {q : vw_C} (hP : hp_P D cl A h H) (hb : h b = some (.inr (ci, fs))) (hc : cl[ci]? = some q) : ∃ cell : Cell, H[b]? = some cell ∧ cell.vm.isStatics = false ∧ s.vm.findClass q.1 = some cell.cls := by
  obtain ⟨q0, hq0⟩ := hP.ix hb
  exact va_recv C.2.2.2.2.2.2.1.1 hP.L hc hq0
theorem hg_S (C : hp_C p s m args meth c cc nL own ws D cl tys sts aos A) (hM : hp_M l y wy rm D cl tys sts aos As h post px mc ms) (cw : CallB R s args own index y bytes maxL ret wy rm mc ms n ∧ (Cond.static y).before args s = true) (hn : As.length = n) (hsf : sf = As.reverse ++ st) (hst : (st.map fun v => v.category).sum ≤ 8) (hd : decode cc pc = .ok (.invokestatic index, 3)) (hf : cells + mc ≤ R.cells ∧ slots + ms ≤ R.slots)
    (kk : ∀ (r : Option Value) (u : Pic), post r u → hp_G p l e R s m args below meth c D cl A nL Q (cells + mc) (slots + ms) (pc + 3) lv (r.toList ++ st) u)
    (kx : ∀ (E : String) (u : Pic), px E u → hp_T p l e R s m args below meth c D cl A nL Q (cells + mc) (slots + ms) pc lv st u E) : hp_G p l e R s m args below meth c D cl A nL Q cells slots pc lv sf h :=
  hg_callX C (fun H locs ls hP hS hl => vx_runS ⟨C.1, C.2.1, C.2.2.1, C.2.2.2.1, C.2.2.2.2.1⟩ (hM H.size) cw ⟨hp_blind, hp_pre C hP hS As⟩ rfl hn hl.1 hsf (lv_room hst) hd hf) kk kx
theorem hg_SN (C : hp_C p s m args meth c cc nL own ws D cl tys sts aos A) (hM : hp_N l y wy rm D cl tys sts aos As h post mc ms) (cw : CallB R s args own index y bytes maxL ret wy rm mc ms n ∧ (Cond.static y).before args s = true) (hn : As.length = n) (hsf : sf = As.reverse ++ st) (hst : (st.map fun v => v.category).sum ≤ 8) (hd : decode cc pc = .ok (.invokestatic index, 3)) (hf : cells + mc ≤ R.cells ∧ slots + ms ≤ R.slots)
    (kk : ∀ (r : Option Value) (u : Pic), post r u → hp_G p l e R s m args below meth c D cl A nL Q (cells + mc) (slots + ms) (pc + 3) lv (r.toList ++ st) u) : hp_G p l e R s m args below meth c D cl A nL Q cells slots pc lv sf h :=
  hg_callY C (fun H locs ls hP hS hl => va_runS ⟨C.1, C.2.1, C.2.2.1, C.2.2.2.1, C.2.2.2.2.1⟩ (hM H.size) cw ⟨hp_blind, hp_pre C hP hS As⟩ rfl hn hl.1 hsf (lv_room hst) hd hf) kk
theorem hg_V {ci : Nat} {fs : List Value} {q : vw_C} (C : hp_C p s m args meth c cc nL own ws D cl tys sts aos A) (hM : hp_M l y wy rm D cl tys sts aos (.ref b :: As) h post px mc ms) (cw : CallW R s args own q.1 index y bytes maxL ret wy rm mc ms n) (hb : h b = some (.inr (ci, fs))) (hc : cl[ci]? = some q) (hn : As.length = n) (hsf : sf = As.reverse ++ .ref b :: st) (hst : (st.map fun v => v.category).sum ≤ 8) (hd : decode cc pc = .ok (.invokevirtual index, 3)) (hf : cells + mc ≤ R.cells ∧ slots + ms ≤ R.slots)
    (kk : ∀ (r : Option Value) (u : Pic), post r u → hp_G p l e R s m args below meth c D cl A nL Q (cells + mc) (slots + ms) (pc + 3) lv (r.toList ++ st) u)
    (kx : ∀ (E : String) (u : Pic), px E u → hp_T p l e R s m args below meth c D cl A nL Q (cells + mc) (slots + ms) pc lv st u E) : hp_G p l e R s m args below meth c D cl A nL Q cells slots pc lv sf h :=
  hg_callX (av := .ref b :: As) C (fun H locs ls hP hS hl => vx_runV ⟨C.1, C.2.1, C.2.2.1, C.2.2.2.1, C.2.2.2.2.1⟩ (hM H.size) cw ⟨hp_blind, hp_recv C hP hb hc, hp_pre C hP hS _⟩ rfl hn hl.1 hsf (lv_room hst) hd hf) kk kx
theorem hg_VN {ci : Nat} {fs : List Value} {q : vw_C} (C : hp_C p s m args meth c cc nL own ws D cl tys sts aos A) (hM : hp_N l y wy rm D cl tys sts aos (.ref b :: As) h post mc ms) (cw : CallW R s args own q.1 index y bytes maxL ret wy rm mc ms n) (hb : h b = some (.inr (ci, fs))) (hc : cl[ci]? = some q) (hn : As.length = n) (hsf : sf = As.reverse ++ .ref b :: st) (hst : (st.map fun v => v.category).sum ≤ 8) (hd : decode cc pc = .ok (.invokevirtual index, 3)) (hf : cells + mc ≤ R.cells ∧ slots + ms ≤ R.slots)
    (kk : ∀ (r : Option Value) (u : Pic), post r u → hp_G p l e R s m args below meth c D cl A nL Q (cells + mc) (slots + ms) (pc + 3) lv (r.toList ++ st) u) : hp_G p l e R s m args below meth c D cl A nL Q cells slots pc lv sf h :=
  hg_callY (av := .ref b :: As) C (fun H locs ls hP hS hl => va_runV ⟨C.1, C.2.1, C.2.2.1, C.2.2.2.1, C.2.2.2.2.1⟩ (hM H.size) cw ⟨hp_blind, hp_recv C hP hb hc, hp_pre C hP hS _⟩ rfl hn hl.1 hsf (lv_room hst) hd hf) kk
theorem hg_I (C : hp_C p s m args meth c cc nL own ws D cl tys sts aos A) (hM : hp_N l y wy rm D cl tys sts aos (.ref b :: As) h post mc ms) (cw : CallB R s args own index y bytes maxL none wy rm mc ms n ∧ y.name = "<init>" ∧ (Cond.instanceMethod y).before args s = true) (hn : As.length = n) (hsf : sf = As.reverse ++ .ref b :: st) (hst : (st.map fun v => v.category).sum ≤ 8) (hd : decode cc pc = .ok (.invokespecial index, 3)) (hf : cells + mc ≤ R.cells ∧ slots + ms ≤ R.slots)
    (kk : ∀ (r : Option Value) (u : Pic), post r u → hp_G p l e R s m args below meth c D cl A nL Q (cells + mc) (slots + ms) (pc + 3) lv (r.toList ++ st) u) : hp_G p l e R s m args below meth c D cl A nL Q cells slots pc lv sf h :=
  hg_callY (av := .ref b :: As) C (fun H locs ls hP hS hl => va_runI ⟨C.1, C.2.1, C.2.2.1, C.2.2.2.1, C.2.2.2.2.1⟩ (hM H.size) cw ⟨hp_blind, hp_pre C hP hS _⟩ rfl hn hl.1 hsf (lv_room hst) hd hf) kk
end HC
