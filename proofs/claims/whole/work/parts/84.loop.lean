/-! THE CLAIM OUT OF ONE WALK OF THE LAW'S BODY. Your part is whole_start (and what it stands on); all else here is the same for every law, but numbers. -/
def R_law : String := "ModelMergeLaw"
def lw_P (b : Addr) (xs : List Int32) (args : Array Value) (s : State) : Prop := args = #[.ref b] ∧ s.IntsAt b xs ∧ xs.length ≤ 2560 ∧ (Jvm.Cond.and given_1 narrow_1).before args s = true
def lw_Q (_ : Array Value) (s : State) (o : Outcome) (t : State) : Prop := o = .returned (some (.int 1)) ∧ Framed s o t [] 601024 7293034
def lw_Z (below : List Frame) (a : Array Value) (s : State) : State → Prop := fun t => ∃ o, t.status = .running ∧ Ended t below o ∧ lw_Q a s o t
/-- the law's own end, with 1 on the stack, nothing written that was there before, its room as the claim has it -/
theorem lw_ret {p : Program} {l : Launch} {e : Env} {s : State} {m : MethodId} {below : List Frame} {meth : Method} {c : Code} {b : Nat} (hx : p.tables.exec = Jvm.exec) (hb : c.code = code) (hr : meth.sig.returnType = ret) (hlocks : meth.locks = false) {pc : Nat} {H : Heap} {ls : Array Slot} (hdg : decode code pc = .ok (.ireturn, 1)) : W p l e room_1 s m #[Value.ref b] below meth c H [] 601024 7293034 (lw_Z below #[Value.ref b] s) (F0 m pc ls [.int 1]) := by
  intro T hT X
  obtain ⟨fs, hret, hrun, hended, hW, hframe⟩ := X.leave (v := some (.int 1)) (hlocks := hlocks) (fun h => by rw [hr] at h; cases h)
  have hmeth' : T.vm.method? m = some meth := X.method'
  refine ⟨T.setFrames fs, ?_, .returned (some (.int 1)), hrun, hended, rfl, ⟨_, rfl⟩, hW, hframe⟩
  jvm_step X.here [X.here.top, hx, hb, hdg, hmeth', hr, ret, narrow_b1]
  (try refine ⟨rfl, ?_⟩); (try refine ⟨rfl, ?_⟩)
  first | (intro acts; rw [hret _ acts rfl rfl rfl]) | rw [hret _ _ rfl rfl rfl]
  exact Steps.refl _
/-- what holds at the law's entry: the machine, the code, the tables' words (any of lw_tbl by 'hts w (by decide +kernel)'), the script of L ints xs at the cell b, what the Statement gives of the start (any of its parts by flat_of_before) -/
def lw_At (p : Program) (s : State) (m : MethodId) (meth : Method) (c : Code) (b L : Nat) (xs : Nat → Int32) : Prop :=
  p.tables.exec = Jvm.exec ∧ c.code = code ∧ meth.sig.returnType = ret ∧ c.maxLocals = 7 ∧ s.vm.findClass R_law = some m.cls ∧ (∀ w ∈ lw_tbl, w.before #[Value.ref b] s = true) ∧ va_X b L xs s s.heap ∧ b < s.heap.size ∧ meth.locks = false ∧ (Jvm.Cond.and given_1 narrow_1).before #[Value.ref b] s = true
section LW2
variable {p : Program} {l : Launch} {e : Env} {s : State} {m : MethodId} {below : List Frame} {meth : Method} {c : Code} {own : String} {ws : List Cond} {D : va_G} {cl : List vw_C} {tys : List (ClassId × FieldType)} {sts : List (String × Nat × String × Nat)} {aos : List Cond} {cells slots pc : Nat} {lv : List (Nat × Value)} {h : Pic} {b : Nat}
theorem hg_endL (C : hp_C p s m #[Value.ref b] meth c b_La_law 7 own ws D cl tys sts aos (fun q => s.heap.size ≤ q)) (hr : meth.sig.returnType = ret) (hc : cells ≤ 601024) (hs : slots ≤ 7293034) (hd : decode code pc = .ok (.ireturn, 1)) : hp_G p l e room_1 s m #[Value.ref b] below meth c D cl (fun q => s.heap.size ≤ q) 7 (lw_Z below #[Value.ref b] s) cells slots pc lv [.int 1] h :=
  fun H locs ls hP hS hl => va_forget (fun q hq => hS.2.2 q hq) (W.widen hc hs (lw_ret C.1 C.2.1 hr C.2.2.2.2.2.1 hd))
end LW2
theorem gt_5 {L i : Nat} (hL : L ≤ 2560) (hi : i ≤ 2560) (h : ¬ nI L - 5 < nI i) : i + 5 ≤ L := by
  have e : (nI L - 5).toInt = (L : Int) - 5 := pk_sub_toInt (b := 5) (by omega) (by omega)
  rw [Int32.lt_iff_toInt_lt, e, nI_toInt (by omega)] at h
  omega
theorem sw_22 (v : Int32) : (v.toInt < 0 ∨ 21 < v.toInt) ∨ ∃ j : Nat, j < 22 ∧ v = nI j := by
  by_cases h1 : v.toInt < 0
  · exact Or.inl (Or.inl h1)
  · by_cases h2 : 21 < v.toInt
    · exact Or.inl (Or.inr h2)
    · refine Or.inr ⟨v.toInt.toNat, by omega, ?_⟩
      apply Int32.toInt_inj.mp
      rw [nI_toInt (by omega)]
      omega
set_option maxHeartbeats 8000000 in
set_option maxRecDepth 100000 in
theorem lp_La (l : Launch) (hl9 : l.stackTraces = false) (Γ : Gam) {p : Program} {e : Env} {s : State} {m : MethodId} {below : List Frame} {meth : Method} {c : Code} {b : Nat} (C : hp_C p s m #[Value.ref b] meth c b_La_law 7 "ModelMergeLaw" w_law Γ.1 kcl (ktys Γ.2.1) (ksts Γ.2.2) knws (fun q => s.heap.size ≤ q)) {x r ao L : Nat} {xs : Nat → Int32} (hX0 : va_X b L xs s s.heap) (hbl : b < s.heap.size) (hbA : ¬ s.heap.size ≤ b) (hL : L ≤ 2560) (hr : meth.sig.returnType = ret) :
    ∀ (n9 k : Nat) (M : Mem) (h : Pic), Ivr M → LA Γ x r ao M h → 5 * k ≤ 2560 → 513 ≤ k + n9 → hp_G p l e room_1 s m #[Value.ref b] below meth c Γ.1 kcl (fun q => s.heap.size ≤ q) 7 (lw_Z below #[Value.ref b] s) (80 + 10 * k) (60000 + 800 * k) 23 [(4, .int (nI (5 * k))), (0, .ref b), (1, .ref x), (2, .ref r), (3, .ref ao)] [] h := by
  intro n9
  induction n9 with
  | zero =>
    intro k M h hI hLA hk hm
    exact absurd hm (by omega)
  | succ n9 ih =>
    intro k M h hI hLA hk hm
    refine hg_iload C 0 d_La_law_23 rfl ?_
    refine hg_aload_n C 1 d_La_law_25 rfl rfl ?_
    refine hg_slen C hX0 hbl hbA d_La_law_26 ?_
    refine hg_iconst (v := 5) C d_La_law_27 (by decide) ?_
    refine hg_isub C d_La_law_28 ?_
    refine hg_icmp_gt C 1654 d_La_law_29 (by decide) (fun _ => ?_) (fun c29 => ?_)
    · refine hg_iconst (v := 1) C d_La_law_1654 (by decide) ?_
      exact hg_endL C hr (by omega) (by omega) d_La_law_1655
    · have hi : 5 * k + 5 ≤ L := gt_5 hL hk c29
      have kq : ∀ (M' : Mem) (h' : Pic), Ivr M' → LA Γ x r ao M' h' → hp_G p l e room_1 s m #[Value.ref b] below meth c Γ.1 kcl (fun q => s.heap.size ≤ q) 7 (lw_Z below #[Value.ref b] s) (80 + 10 * k + 10) (60000 + 800 * k + 800) 1648 [(4, .int (nI (5 * k))), (0, .ref b), (1, .ref x), (2, .ref r), (3, .ref ao)] [] h' := fun M' h' hI' hL' => by
        refine hg_iinc (v := nI (5 * (k + 1))) (lv' := [(4, .int (nI (5 * (k + 1)))), (0, .ref b), (1, .ref x), (2, .ref r), (3, .ref ao)]) C 0 d_La_law_1648 rfl (show nI (5 * k) + 5 = nI (5 * (k + 1)) from (nI_add (5 * k) 5).trans (congrArg nI (by omega))) (by decide) rfl ?_
        refine hg_goto C 23 d_La_law_1651 (by decide) ?_
        exact hg_widen (by omega) (by omega) (ih (k + 1) M' h' hI' hL' (by omega) (by omega))
      refine hg_aload_n C 1 d_La_law_32 rfl rfl ?_
      refine hg_iload C 0 d_La_law_33 rfl ?_
      refine hg_sld (i := 5 * k) C hX0 hbl hbA (by omega) (by omega) d_La_law_35 ?_
      refine hg_bipush (v := 31) C d_La_law_36 (by decide) ?_
      refine hg_iand C d_La_law_38 ?_
      rcases sw_22 (xs (5 * k) &&& 31) with hv | ⟨j, hj, hv⟩
      · refine hg_tableOut C 1648 d_La_law_39 hv (by decide) ?_
        exact hg_widen (by omega) (by omega) (kq M h hI hLA)
      · refine hg_ti hv ?_
        rcases (show j = 0 ∨ j = 1 ∨ j = 2 ∨ j = 3 ∨ j = 4 ∨ j = 5 ∨ j = 6 ∨ j = 7 ∨ j = 8 ∨ j = 9 ∨ j = 10 ∨ j = 11 ∨ j = 12 ∨ j = 13 ∨ j = 14 ∨ j = 15 ∨ j = 16 ∨ j = 17 ∨ j = 18 ∨ j = 19 ∨ j = 20 ∨ j = 21 by omega) with rfl | rfl | rfl | rfl | rfl | rfl | rfl | rfl | rfl | rfl | rfl | rfl | rfl | rfl | rfl | rfl | rfl | rfl | rfl | rfl | rfl | rfl
        · refine hg_tableIn C 140 d_La_law_39 (by decide) (by decide) rfl (by decide) ?_
          exact ct_La_session l hl9 Γ C hX0 hbl hbA hi hL hI hLA (by omega) (by omega) kq
        · refine hg_tableIn C 208 d_La_law_39 (by decide) (by decide) rfl (by decide) ?_
          exact ct_La_make l hl9 Γ C hX0 hbl hbA hi hL hI hLA (by omega) (by omega) kq
        · refine hg_tableIn C 276 d_La_law_39 (by decide) (by decide) rfl (by decide) ?_
          exact ct_La_set l hl9 Γ C hX0 hbl hbA hi hL hI hLA (by omega) (by omega) kq
        · refine hg_tableIn C 368 d_La_law_39 (by decide) (by decide) rfl (by decide) ?_
          exact ct_La_drop l hl9 Γ C hX0 hbl hbA hi hL hI hLA (by omega) (by omega) kq
        · refine hg_tableIn C 436 d_La_law_39 (by decide) (by decide) rfl (by decide) ?_
          exact ct_La_undo l hl9 Γ C hX0 hbl hbA hi hL hI hLA (by omega) (by omega) kq
        · refine hg_tableIn C 492 d_La_law_39 (by decide) (by decide) rfl (by decide) ?_
          exact ct_La_redo l hl9 Γ C hX0 hbl hbA hi hL hI hLA (by omega) (by omega) kq
        · refine hg_tableIn C 548 d_La_law_39 (by decide) (by decide) rfl (by decide) ?_
          exact ct_La_lock l hl9 Γ C hX0 hbl hbA hi hL hI hLA (by omega) (by omega) kq
        · refine hg_tableIn C 616 d_La_law_39 (by decide) (by decide) rfl (by decide) ?_
          exact ct_La_rule l hl9 Γ C hX0 hbl hbA hi hL hI hLA (by omega) (by omega) kq
        · refine hg_tableIn C 696 d_La_law_39 (by decide) (by decide) rfl (by decide) ?_
          exact ct_La_join l hl9 Γ C hX0 hbl hbA hi hL hI hLA (by omega) (by omega) kq
        · refine hg_tableIn C 752 d_La_law_39 (by decide) (by decide) rfl (by decide) ?_
          exact ct_La_conflict l hl9 Γ C hX0 hbl hbA hi hL hI hLA (by omega) (by omega) kq
        · refine hg_tableIn C 820 d_La_law_39 (by decide) (by decide) rfl (by decide) ?_
          exact ct_La_settle l hl9 Γ C hX0 hbl hbA hi hL hI hLA (by omega) (by omega) kq
        · refine hg_tableIn C 888 d_La_law_39 (by decide) (by decide) rfl (by decide) ?_
          exact ct_La_giveUp l hl9 Γ C hX0 hbl hbA hi hL hI hLA (by omega) (by omega) kq
        · refine hg_tableIn C 932 d_La_law_39 (by decide) (by decide) rfl (by decide) ?_
          exact ct_La_here l hl9 Γ C hX0 hbl hbA hi hL hI hLA (by omega) (by omega) kq
        · refine hg_tableIn C 1000 d_La_law_39 (by decide) (by decide) rfl (by decide) ?_
          exact ct_La_now l hl9 Γ C hX0 hbl hbA hi hL hI hLA (by omega) (by omega) kq
        · refine hg_tableIn C 1080 d_La_law_39 (by decide) (by decide) rfl (by decide) ?_
          exact ct_La_there l hl9 Γ C hX0 hbl hbA hi hL hI hLA (by omega) (by omega) kq
        · refine hg_tableIn C 1160 d_La_law_39 (by decide) (by decide) rfl (by decide) ?_
          exact ct_La_at l hl9 Γ C hX0 hbl hbA hi hL hI hLA (by omega) (by omega) kq
        · refine hg_tableIn C 1240 d_La_law_39 (by decide) (by decide) rfl (by decide) ?_
          exact ct_La_since l hl9 Γ C hX0 hbl hbA hi hL hI hLA (by omega) (by omega) kq
        · refine hg_tableIn C 1320 d_La_law_39 (by decide) (by decide) rfl (by decide) ?_
          exact ct_La_told l hl9 Γ C hX0 hbl hbA hi hL hI hLA (by omega) (by omega) kq
        · refine hg_tableIn C 1388 d_La_law_39 (by decide) (by decide) rfl (by decide) ?_
          exact ct_La_author l hl9 Γ C hX0 hbl hbA hi hL hI hLA (by omega) (by omega) kq
        · refine hg_tableIn C 1444 d_La_law_39 (by decide) (by decide) rfl (by decide) ?_
          exact ct_La_count l hl9 Γ C hX0 hbl hbA hi hL hI hLA (by omega) (by omega) kq
        · refine hg_tableIn C 1500 d_La_law_39 (by decide) (by decide) rfl (by decide) ?_
          exact ct_La_differs l hl9 Γ C hX0 hbl hbA hi hL hI hLA (by omega) (by omega) kq
        · refine hg_tableIn C 1580 d_La_law_39 (by decide) (by decide) rfl (by decide) ?_
          exact ct_La_broken l hl9 Γ C hX0 hbl hbA hi hL hI hLA (by omega) (by omega) kq
