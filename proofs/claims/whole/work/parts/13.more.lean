/-! further rows over pictures: new arrays, System.arraycopy, Object's constructor, throw, catch, private constructors of a nest mate -/
section HM
variable {p : Program} {l : Launch} {e : Env} {R : Room} {s : State} {m : MethodId} {args : Array Value} {below : List Frame} {meth : Method} {c : Code} {cc : ByteArray} {nL : Nat} {own : String} {ws : List Cond} {D : va_G} {cl : List vw_C} {tys : List (ClassId × FieldType)} {sts : List (String × Nat × String × Nat)} {aos : List Cond} {A : Nat → Prop} {Q : State → Prop} {cells slots pc : Nat} {lv lv' : List (Nat × Value)} {st sf : List Value} {h : Pic}
theorem hg_newa {atype : ArrayType} {ty : FieldType} {cA : ClassId} {n : Int32} {N : Nat} {a0 : vp_A} (C : hp_C p s m args meth c cc nL own ws D cl tys sts aos A) (t0 : Nat) (harr : Cond.arrayClass (newarray.typeOf atype) ∈ ws) (hty : newarray.typeOf atype = ty) (hobj : ∀ z, ty ≠ .object z) (ht : tys[t0]? = some (cA, ty)) (ha : ∀ cA : ClassId, vp_cell cA a0 = arrV cA N (fun _ => defaultValue ty)) (hn : ¬ n < 0) (hN : n.toNatClampNeg = N) (hbytes : N * componentBytes ty ≤ 536870912) (hcells : cells + 1 ≤ R.cells) (hslots : slots + N ≤ R.slots) (hd : decode cc pc = .ok (.newarray atype, 2))
    (kk : ∀ q : Nat, h q = none → hp_G p l e R s m args below meth c D cl A nL Q (cells + 1) (slots + N) (pc + 2) lv (.ref q :: st) (hp_up h q (.inl (cA, a0)))) : hp_G p l e R s m args below meth c D cl A nL Q cells slots pc lv (.int n :: st) h := fun H locs ls hP hS hl => by
  refine va_newa C.1 C.2.1 (C.2.2.2.2.1 _ harr) hty C.2.2.2.2.2.2.1.1 hP.L (hP.LD _) hS C.2.2.2.2.2.2.2 ha hn hN hbytes hcells hslots hd (fun q cB H1 hK h1 h2 h3 => ?_)
  have e1 := (hK.2 tys.length (cB, ty) (by simp)).2
  have e2 := (C.2.2.2.2.2.2.1.1.2 t0 _ ht).2
  have hcc : cB = cA := by
    cases ty with
    | object z => exact absurd rfl (hobj z)
    | _ => exact Option.some.inj (Eq.trans (Eq.symm e1) e2)
  subst hcc
  obtain ⟨g1, g2⟩ := hP.push rfl h1 h2
  exact kk q g2 H1 locs ls g1 h3 hl
theorem hg_newq {C0 : String} {index : Nat} {cA : ClassId} {n : Int32} {N : Nat} (C : hp_C p s m args meth c cc nL own ws D cl tys sts aos A) (t0 : Nat) (hcl : Cond.classLink own index C0 ∈ ws) (hover : Cond.arrayOver (.object C0) ∈ aos) (ht : tys[t0]? = some (cA, .object C0)) (hn : ¬ n < 0) (hN : n.toNatClampNeg = N) (hbytes : N * 4 ≤ 536870912) (hcells : cells + 1 ≤ R.cells) (hslots : slots + N ≤ R.slots) (hd : decode cc pc = .ok (.anewarray index, 3))
    (kk : ∀ q : Nat, h q = none → hp_G p l e R s m args below meth c D cl A nL Q (cells + 1) (slots + N) (pc + 3) lv (.ref q :: st) (hp_up h q (.inl (cA, N, .inr (.inr (.inr (.inr (fun _ => none)))))))) : hp_G p l e R s m args below meth c D cl A nL Q cells slots pc lv (.int n :: st) h := fun H locs ls hP hS hl => by
  refine va_newq C.1 C.2.1 C.2.2.2.1 (C.2.2.2.2.1 _ hcl) (C.2.2.2.2.2.2.1.2.2.2.2.1 _ hover).2 C.2.2.2.2.2.2.1.1 hP.L (hP.LD _) hS C.2.2.2.2.2.2.2 hn hN hbytes hcells hslots hd (fun q cB H1 hK h1 h2 h3 => ?_)
  obtain ⟨k1, o1, -, -, -, e1⟩ := (hK.2 tys.length (cB, .object C0) (by simp)).2
  obtain ⟨k2, o2, -, -, -, e2⟩ := (C.2.2.2.2.2.2.1.1.2 t0 _ ht).2
  have hcc : cB = cA := Option.some.inj (e1.symm.trans e2)
  subst hcc
  obtain ⟨g1, g2⟩ := hP.push rfl h1 h2
  exact kk q g2 H1 locs ls g1 h3 hl
theorem hg_copyi {index : Nat} {a0 a : Nat} {cA : ClassId} {n0 n1 : Nat} {f g : Nat → Int32} {sp dp n : Int32} (C : hp_C p s m args meth c cc nL own ws D cl tys sts aos A) (t0 : Nat) (hlink : Cond.methodLink own index arraycopyName ∈ ws) (hnat : Cond.native arraycopyName ∈ ws) (hstat : Cond.static arraycopyName ∈ ws) (hini : Cond.initialized "java/lang/System" ∈ ws)
    (ha0 : h a0 = some (.inl (cA, n0, .inl f))) (ha1 : h a = some (.inl (cA, n1, .inl g))) (ht : tys[t0]? = some (cA, .int)) (h1 : ¬ sp < 0) (h2 : ¬ dp < 0) (h3 : ¬ n < 0) (h4 : sp.toNatClampNeg + n.toNatClampNeg ≤ n0) (h5 : dp.toNatClampNeg + n.toNatClampNeg ≤ n1) (hframes : 1 ≤ R.frames) (hlocals : (st.map fun v => v.category).sum + (nativeFrameWords "java/lang/System" "arraycopy" 5 + 11) ≤ R.locals) (hd : decode cc pc = .ok (.invokestatic index, 3))
    (kk : hp_G p l e R s m args below meth c D cl A nL Q cells slots (pc + 3) lv st (hp_up h a (.inl (cA, n1, .inl (va_cpy f g sp.toNatClampNeg dp.toNatClampNeg n.toNatClampNeg))))) : hp_G p l e R s m args below meth c D cl A nL Q cells slots pc lv (.int n :: .int dp :: .ref a :: .int sp :: .ref a0 :: st) h := fun H locs ls hP hS hl => by
  obtain ⟨q0, hq0⟩ := hP.ix ha0
  obtain ⟨q1, hq1⟩ := hP.ix ha1
  exact va_copyi C.1 C.2.1 (C.2.2.1.trans hl.1.symm) C.2.2.2.1 (C.2.2.2.2.1 _ hlink) (C.2.2.2.2.1 _ hnat) (C.2.2.2.2.1 _ hstat) (C.2.2.2.2.1 _ hini) C.2.2.2.2.2.2.1.1 hP.L (hP.LD _) hS q0 q1 t0 t0 hq0 hq1 ht ht rfl h1 h2 h3 h4 h5 (fun i _ => rfl) hframes hlocals hd (fun H1 locs1 g1 g2 g3 => kk H1 locs1 ls (hP.set hq1 g1 g2) g3 hl)
theorem hg_obj {idx a : Nat} (C : hp_C p s m args meth c cc nL own ws D cl tys sts aos A) (hlink : Cond.methodLink own idx Lib.objectInit ∈ ws) (hinst : Cond.instanceMethod Lib.objectInit ∈ ws) (hcode : Cond.code Lib.objectInit ⟨#[0xb1]⟩ 1 none ∈ ws) (hframes : 1 ≤ R.frames) (hlocals : (st.map fun v => v.category).sum + 12 ≤ R.locals) (hd : decode cc pc = .ok (.invokespecial idx, 3))
    (kk : hp_G p l e R s m args below meth c D cl A nL Q cells slots (pc + 3) lv st h) : hp_G p l e R s m args below meth c D cl A nL Q cells slots pc lv (.ref a :: st) h := fun H locs ls hP hS hl =>
  W.objInit C.1 C.2.1 C.2.2.2.1 (C.2.2.2.2.1 _ hlink) (C.2.2.2.2.1 _ hinst) (C.2.2.2.2.1 _ hcode) rfl (C.2.2.1 ▸ hl.1) rfl hd hframes (by show 2 * 0 + _ + 12 ≤ _; omega) (kk H locs ls hP hS hl)
/-- throw new E("text") -/
theorem hg_throw {cls text : String} {names : List String} {ik is ic sa mc ms : Nat} {post : Option Value → Pic → Prop} {px : String → Pic → Prop} (C : hp_C p s m args meth c cc nL own ws D cl tys sts aos A) (hne : ∀ x ∈ c.exceptionTable.toList, False) (hl : l.stackTraces = false) (hcls : Bundle.fit cls = true) (hnames : ∀ n ∈ names, Bundle.fit n = true) (hk : Cond.classLink own ik cls ∈ ws) (hini : Cond.initialized cls ∈ ws) (hstr : (own, is, text, sa) ∈ sts) (hat : ∀ w ∈ vx_atS own ic cls names, w ∈ ws ∨ (w ∈ aos ∧ w.onTables = true)) (hgood : ∀ w ∈ Cond.classLink own ik cls :: Cond.initialized cls :: vx_atS own ic cls names, vx_ot w = true)
    (d0 : decode cc pc = .ok (.new ik, 3)) (d3 : decode cc (pc + 3) = .ok (.dup, 1)) (d4 : decode cc (pc + 4) = .ok (.ldc is, 2)) (d6 : decode cc (pc + 6) = .ok (.invokespecial ic, 3)) (d9 : decode cc (pc + 9) = .ok (.athrow, 1))
    (hRframes : names.length + 3 < R.frames) (hRlocals : (st.map fun v => v.category).sum + (13 * (names.length + 1) + 43) ≤ R.locals) (hRcells : cells + 1 ≤ R.cells) (hRslots : slots + 6 ≤ R.slots) (hc : cells + 1 ≤ mc) (hs : slots + 6 ≤ ms) (hq : px cls h) :
    hp_G p l e R s m args below meth c D cl A nL (hp_MQ below D cl A post px args s mc ms) cells slots pc lv st h := fun H locs ls hP hS hlv =>
  vx_throwS C.1 C.2.1 hl C.2.2.2.1 hcls hnames (C.2.2.2.2.1 _ hk) (C.2.2.2.2.1 _ hini) (C.2.2.2.2.2.2.1.2.2.2.1 _ hstr) (fun w hw => by
      rcases hat w hw with h1 | ⟨h1, h2⟩
      · exact C.2.2.2.2.1 _ h1
      · exact va_tabs h2 rfl (C.2.2.2.2.2.2.1.2.2.2.2.1 _ h1).2) hgood C.2.2.2.2.2.2.1.2.1 C.2.2.2.2.2.2.1.2.2.1 hS (hlv.1.trans C.2.2.1.symm) d0 d3 d4 d6 d9 (fun x hx => (hne x hx).elim) hRframes hRlocals hRcells hRslots C.2.2.2.2.2.1
    (fun t ha hz hk => ⟨⟨h, hq, hP.kept (fun q x hx => hk q (hP.lt hx))⟩, Nat.le_trans hS.1 hz, fun q h1 h2 => (hk q (Nat.lt_of_lt_of_le h1 hS.1)).trans (hS.2.1 q h1 h2)⟩) hS.2.2 hc hs
end HM
