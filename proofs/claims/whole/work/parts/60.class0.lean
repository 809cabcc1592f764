/-! THE CLASS: its picture by the model; throws -/
theorem at_IAE : ∀ w ∈ vx_atS "ModelMerge" 187 IAE ["java/lang/RuntimeException", "java/lang/Exception"], w ∈ kw_all ∨ (w ∈ knws ∧ w.onTables = true) := by decide +kernel
theorem at_ISE : ∀ w ∈ vx_atS "ModelMerge" 80 ISE ["java/lang/RuntimeException", "java/lang/Exception"], w ∈ kw_all ∨ (w ∈ knws ∧ w.onTables = true) := by decide +kernel
theorem gw_IAE : ∀ w ∈ Cond.classLink "ModelMerge" 183 IAE :: Cond.initialized IAE :: vx_atS "ModelMerge" 187 IAE ["java/lang/RuntimeException", "java/lang/Exception"], vx_ot w = true := by decide +kernel
theorem gw_ISE : ∀ w ∈ Cond.classLink "ModelMerge" 76 ISE :: Cond.initialized ISE :: vx_atS "ModelMerge" 80 ISE ["java/lang/RuntimeException", "java/lang/Exception"], vx_ot w = true := by decide +kernel
section THR
variable {p : Program} {l : Launch} {e : Env} {R : Room} {s : State} {m : MethodId} {args : Array Value} {below : List Frame} {meth : Method} {c : Code} {cc : ByteArray} {nL : Nat} {c0 : Cond} {D : va_G} {cl : List vw_C} {tys : List (ClassId × FieldType)} {sts : List (String × Nat × String × Nat)} {A : Nat → Prop} {cells slots pc : Nat} {lv : List (Nat × Value)} {st : List Value} {h : Pic} {is sa mc ms : Nat} {text : String} {post : Option Value → Pic → Prop} {px : String → Pic → Prop}
theorem th_IAE (C : hp_C p s m args meth c cc nL "ModelMerge" (c0 :: kw_all) D cl tys sts knws A) (hne : ∀ x ∈ c.exceptionTable.toList, False) (hl : l.stackTraces = false) (hstr : ("ModelMerge", is, text, sa) ∈ sts)
    (d0 : decode cc pc = .ok (.new 183, 3)) (d3 : decode cc (pc + 3) = .ok (.dup, 1)) (d4 : decode cc (pc + 4) = .ok (.ldc is, 2)) (d6 : decode cc (pc + 6) = .ok (.invokespecial 187, 3)) (d9 : decode cc (pc + 9) = .ok (.athrow, 1))
    (hRframes : 5 < R.frames) (hRlocals : (st.map fun v => v.category).sum + 82 ≤ R.locals) (hRcells : cells + 1 ≤ R.cells) (hRslots : slots + 6 ≤ R.slots) (hc : cells + 1 ≤ mc) (hs : slots + 6 ≤ ms) (hq : px IAE h) :
    hp_G p l e R s m args below meth c D cl A nL (hp_MQ below D cl A post px args s mc ms) cells slots pc lv st h :=
  hg_throw (names := ["java/lang/RuntimeException", "java/lang/Exception"]) C hne hl (by decide +kernel) (by decide +kernel) (kc kw131) (kc kw9) hstr (fun w hw => (at_IAE w hw).elim (fun z => Or.inl (kc z)) Or.inr) gw_IAE d0 d3 d4 d6 d9 hRframes hRlocals hRcells hRslots hc hs hq
theorem th_ISE (C : hp_C p s m args meth c cc nL "ModelMerge" (c0 :: kw_all) D cl tys sts knws A) (hne : ∀ x ∈ c.exceptionTable.toList, False) (hl : l.stackTraces = false) (hstr : ("ModelMerge", is, text, sa) ∈ sts)
    (d0 : decode cc pc = .ok (.new 76, 3)) (d3 : decode cc (pc + 3) = .ok (.dup, 1)) (d4 : decode cc (pc + 4) = .ok (.ldc is, 2)) (d6 : decode cc (pc + 6) = .ok (.invokespecial 80, 3)) (d9 : decode cc (pc + 9) = .ok (.athrow, 1))
    (hRframes : 5 < R.frames) (hRlocals : (st.map fun v => v.category).sum + 82 ≤ R.locals) (hRcells : cells + 1 ≤ R.cells) (hRslots : slots + 6 ≤ R.slots) (hc : cells + 1 ≤ mc) (hs : slots + 6 ≤ ms) (hq : px ISE h) :
    hp_G p l e R s m args below meth c D cl A nL (hp_MQ below D cl A post px args s mc ms) cells slots pc lv st h :=
  hg_throw (names := ["java/lang/RuntimeException", "java/lang/Exception"]) C hne hl (by decide +kernel) (by decide +kernel) (kc kw203) (kc kw10) hstr (fun w hw => (at_ISE w hw).elim (fun z => Or.inl (kc z)) Or.inr) gw_ISE d0 d3 d4 d6 d9 hRframes hRlocals hRcells hRslots hc hs hq
end THR
abbrev rm_MM_checkBelow : Room := { frames := 6, cells := 1, slots := 6, locals := 90 }
set_option maxHeartbeats 4000000 in
set_option maxRecDepth 100000 in
theorem k_MM_checkBelow (l : Launch) (hl9 : l.stackTraces = false) (Γ : Gam) (h : Pic) (x n : Int32) : kM l Γ y_MM_checkBelow w_MM_checkBelow rm_MM_checkBelow [.int x, .int n] h (pn h (inr x n)) (pe IAE h (¬ inr x n)) 1 6 := by
  refine hg_entry (own := "ModelMerge") (cc := b_MM_checkBelow) (maxL := 2) (ret := none) (lv0 := [(0, .int x), (1, .int n)]) (by decide) rfl rfl (Nat.le_of_ble_eq_true rfl) rfl ?_
  intro p e s m args below meth c A C hne hr
  refine hg_iload_n C 0 d_MM_checkBelow_0 rfl rfl ?_
  refine hg_if_lt C 9 d_MM_checkBelow_1 (by decide) (fun c1 => ?_) (fun c1 => ?_)
  · exact th_IAE (is := 231) (text := "a number is out of its bounds") (sa := Γ.2.2 0) C hne hl9 (List.mem_of_getElem? (i := 0) rfl) d_MM_checkBelow_9 d_MM_checkBelow_12 d_MM_checkBelow_13 d_MM_checkBelow_15 d_MM_checkBelow_18 (Nat.le_of_ble_eq_true rfl) (Nat.le_of_ble_eq_true rfl) (Nat.le_of_ble_eq_true rfl) (Nat.le_of_ble_eq_true rfl) (Nat.le_of_ble_eq_true rfl) (Nat.le_of_ble_eq_true rfl) (⟨rfl, rfl, fun z => z.1 c1⟩)
  · refine hg_iload_n C 0 d_MM_checkBelow_4 rfl rfl ?_
    refine hg_iload_n C 1 d_MM_checkBelow_5 rfl rfl ?_
    refine hg_icmp_lt C 19 d_MM_checkBelow_6 (by decide) (fun c6 => ?_) (fun c6 => ?_)
    · exact hg_vret C hr d_MM_checkBelow_19 (Nat.le_of_ble_eq_true rfl) (Nat.le_of_ble_eq_true rfl) (⟨rfl, rfl, c1, Int32.not_le.mpr c6⟩)
    · exact th_IAE (is := 231) (text := "a number is out of its bounds") (sa := Γ.2.2 0) C hne hl9 (List.mem_of_getElem? (i := 0) rfl) d_MM_checkBelow_9 d_MM_checkBelow_12 d_MM_checkBelow_13 d_MM_checkBelow_15 d_MM_checkBelow_18 (Nat.le_of_ble_eq_true rfl) (Nat.le_of_ble_eq_true rfl) (Nat.le_of_ble_eq_true rfl) (Nat.le_of_ble_eq_true rfl) (Nat.le_of_ble_eq_true rfl) (Nat.le_of_ble_eq_true rfl) (⟨rfl, rfl, fun z => z.2 (Int32.not_lt.mp c6)⟩)
abbrev rm_MM_checkNotNegative : Room := { frames := 6, cells := 1, slots := 6, locals := 90 }
set_option maxHeartbeats 4000000 in
set_option maxRecDepth 100000 in
theorem k_MM_checkNotNegative (l : Launch) (hl9 : l.stackTraces = false) (Γ : Gam) (h : Pic) (x : Int32) : kM l Γ y_MM_checkNotNegative w_MM_checkNotNegative rm_MM_checkNotNegative [.int x] h (pn h (¬ x < 0)) (pe IAE h (x < 0)) 1 6 := by
  refine hg_entry (own := "ModelMerge") (cc := b_MM_checkNotNegative) (maxL := 1) (ret := none) (lv0 := [(0, .int x)]) (by decide) rfl rfl (Nat.le_of_ble_eq_true rfl) rfl ?_
  intro p e s m args below meth c A C hne hr
  refine hg_iload_n C 0 d_MM_checkNotNegative_0 rfl rfl ?_
  refine hg_if_ge C 14 d_MM_checkNotNegative_1 (by decide) (fun c1 => ?_) (fun c1 => ?_)
  · exact hg_vret C hr d_MM_checkNotNegative_14 (Nat.le_of_ble_eq_true rfl) (Nat.le_of_ble_eq_true rfl) (⟨rfl, rfl, Int32.not_lt.mpr c1⟩)
  · exact th_IAE (is := 233) (text := "k is below 0") (sa := Γ.2.2 7) C hne hl9 (List.mem_of_getElem? (i := 7) rfl) d_MM_checkNotNegative_4 d_MM_checkNotNegative_7 d_MM_checkNotNegative_8 d_MM_checkNotNegative_10 d_MM_checkNotNegative_13 (Nat.le_of_ble_eq_true rfl) (Nat.le_of_ble_eq_true rfl) (Nat.le_of_ble_eq_true rfl) (Nat.le_of_ble_eq_true rfl) (Nat.le_of_ble_eq_true rfl) (Nat.le_of_ble_eq_true rfl) (⟨rfl, rfl, Int32.not_le.mp c1⟩)
abbrev rm_MM_checkSide : Room := { frames := 6, cells := 1, slots := 6, locals := 90 }
set_option maxHeartbeats 4000000 in
set_option maxRecDepth 100000 in
theorem k_MM_checkSide (l : Launch) (hl9 : l.stackTraces = false) (Γ : Gam) (h : Pic) (x : Int32) : kM l Γ y_MM_checkSide w_MM_checkSide rm_MM_checkSide [.int x] h (pn h (x = 0 ∨ x = 1)) (pe IAE h (¬ (x = 0 ∨ x = 1))) 1 6 := by
  refine hg_entry (own := "ModelMerge") (cc := b_MM_checkSide) (maxL := 1) (ret := none) (lv0 := [(0, .int x)]) (by decide) rfl rfl (Nat.le_of_ble_eq_true rfl) rfl ?_
  intro p e s m args below meth c A C hne hr
  refine hg_iload_n C 0 d_MM_checkSide_0 rfl rfl ?_
  refine hg_if_eq C 19 d_MM_checkSide_1 (by decide) (fun c1 => ?_) (fun c1 => ?_)
  · exact hg_vret C hr d_MM_checkSide_19 (Nat.le_of_ble_eq_true rfl) (Nat.le_of_ble_eq_true rfl) (⟨rfl, rfl, Or.inl c1⟩)
  · refine hg_iload_n C 0 d_MM_checkSide_4 rfl rfl ?_
    refine hg_iconst (v := 1) C d_MM_checkSide_5 (by decide) ?_
    refine hg_icmp_eq C 19 d_MM_checkSide_6 (by decide) (fun c6 => ?_) (fun c6 => ?_)
    · exact hg_vret C hr d_MM_checkSide_19 (Nat.le_of_ble_eq_true rfl) (Nat.le_of_ble_eq_true rfl) (⟨rfl, rfl, Or.inr c6⟩)
    · exact th_IAE (is := 235) (text := "a side is 0 or 1") (sa := Γ.2.2 9) C hne hl9 (List.mem_of_getElem? (i := 9) rfl) d_MM_checkSide_9 d_MM_checkSide_12 d_MM_checkSide_13 d_MM_checkSide_15 d_MM_checkSide_18 (Nat.le_of_ble_eq_true rfl) (Nat.le_of_ble_eq_true rfl) (Nat.le_of_ble_eq_true rfl) (Nat.le_of_ble_eq_true rfl) (Nat.le_of_ble_eq_true rfl) (Nat.le_of_ble_eq_true rfl) (⟨rfl, rfl, fun z => z.elim c1 c6⟩)
