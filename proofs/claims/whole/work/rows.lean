section
-- ===== PART A: goes FIRST, ahead of the names: the tables' words, and 'selects' of the private methods out of them =====
/-- a private method of a class that the tables say can be made, by its rows of tables_1 -/
def lw_okq (q : MethodName × Nat) : Prop := (q.1.cls ≠ "java/lang/invoke/MethodHandle" ∧ q.1.cls ≠ "java/lang/invoke/VarHandle") ∧ Cond.instantiable q.1.cls q.2 ∈ tables_1 ∧ Cond.privateMethod q.1 ∈ tables_1 ∧ Cond.instanceMethod q.1 ∈ tables_1
theorem lw_p0 : lw_okq (⟨"java/lang/Throwable", "fillInStackTrace", "(I)Ljava/lang/Throwable;"⟩, 6) := ⟨⟨by decide +kernel, by decide +kernel⟩, List.mem_of_getElem? (i := 169) (by decide +kernel), List.mem_of_getElem? (i := 167) (by decide +kernel), List.mem_of_getElem? (i := 168) (by decide +kernel)⟩
theorem lw_p1 : lw_okq (⟨"ModelMerge", "versionOf", "(I)LModelMerge$Version;"⟩, 12) := ⟨⟨by decide +kernel, by decide +kernel⟩, List.mem_of_getElem? (i := 16) (by decide +kernel), List.mem_of_getElem? (i := 199) (by decide +kernel), List.mem_of_getElem? (i := 200) (by decide +kernel)⟩
theorem lw_p2 : lw_okq (⟨"ModelMerge", "sessionOf", "(I)LModelMerge$Session;"⟩, 12) := ⟨⟨by decide +kernel, by decide +kernel⟩, List.mem_of_getElem? (i := 16) (by decide +kernel), List.mem_of_getElem? (i := 310) (by decide +kernel), List.mem_of_getElem? (i := 311) (by decide +kernel)⟩
theorem lw_p3 : lw_okq (⟨"ModelMerge", "changeThing", "(IIII)I"⟩, 12) := ⟨⟨by decide +kernel, by decide +kernel⟩, List.mem_of_getElem? (i := 16) (by decide +kernel), List.mem_of_getElem? (i := 352) (by decide +kernel), List.mem_of_getElem? (i := 353) (by decide +kernel)⟩
theorem lw_p4 : lw_okq (⟨"ModelMerge", "checkThing", "(I)V"⟩, 12) := ⟨⟨by decide +kernel, by decide +kernel⟩, List.mem_of_getElem? (i := 16) (by decide +kernel), List.mem_of_getElem? (i := 356) (by decide +kernel), List.mem_of_getElem? (i := 357) (by decide +kernel)⟩
theorem lw_p5 : lw_okq (⟨"ModelMerge", "isThing", "(I)Z"⟩, 12) := ⟨⟨by decide +kernel, by decide +kernel⟩, List.mem_of_getElem? (i := 16) (by decide +kernel), List.mem_of_getElem? (i := 360) (by decide +kernel), List.mem_of_getElem? (i := 361) (by decide +kernel)⟩
theorem lw_p6 : lw_okq (⟨"ModelMerge", "lockerOf", "(I)I"⟩, 12) := ⟨⟨by decide +kernel, by decide +kernel⟩, List.mem_of_getElem? (i := 16) (by decide +kernel), List.mem_of_getElem? (i := 370) (by decide +kernel), List.mem_of_getElem? (i := 371) (by decide +kernel)⟩
theorem lw_p7 : lw_okq (⟨"ModelMerge", "findConflicts", "(LModelMerge$Session;)V"⟩, 12) := ⟨⟨by decide +kernel, by decide +kernel⟩, List.mem_of_getElem? (i := 16) (by decide +kernel), List.mem_of_getElem? (i := 440) (by decide +kernel), List.mem_of_getElem? (i := 441) (by decide +kernel)⟩
theorem lw_p8 : lw_okq (⟨"ModelMerge", "findFieldConflicts", "(LModelMerge$State;LModelMerge$State;LModelMerge$State;I)V"⟩, 12) := ⟨⟨by decide +kernel, by decide +kernel⟩, List.mem_of_getElem? (i := 16) (by decide +kernel), List.mem_of_getElem? (i := 456) (by decide +kernel), List.mem_of_getElem? (i := 457) (by decide +kernel)⟩
theorem lw_p9 : lw_okq (⟨"ModelMerge", "finishJoining", "(LModelMerge$Session;)V"⟩, 12) := ⟨⟨by decide +kernel, by decide +kernel⟩, List.mem_of_getElem? (i := 16) (by decide +kernel), List.mem_of_getElem? (i := 460) (by decide +kernel), List.mem_of_getElem? (i := 461) (by decide +kernel)⟩
theorem lw_p10 : lw_okq (⟨"ModelMerge", "joinedState", "(LModelMerge$Session;)LModelMerge$State;"⟩, 12) := ⟨⟨by decide +kernel, by decide +kernel⟩, List.mem_of_getElem? (i := 16) (by decide +kernel), List.mem_of_getElem? (i := 464) (by decide +kernel), List.mem_of_getElem? (i := 465) (by decide +kernel)⟩
theorem lw_p11 : lw_okq (⟨"ModelMerge", "joinThing", "(LModelMerge$State;LModelMerge$State;LModelMerge$State;I)V"⟩, 12) := ⟨⟨by decide +kernel, by decide +kernel⟩, List.mem_of_getElem? (i := 16) (by decide +kernel), List.mem_of_getElem? (i := 468) (by decide +kernel), List.mem_of_getElem? (i := 469) (by decide +kernel)⟩
theorem lw_p12 : lw_okq (⟨"ModelMerge$Conflicts", "isKnown", "(I)Z"⟩, 4) := ⟨⟨by decide +kernel, by decide +kernel⟩, List.mem_of_getElem? (i := 30) (by decide +kernel), List.mem_of_getElem? (i := 483) (by decide +kernel), List.mem_of_getElem? (i := 484) (by decide +kernel)⟩
theorem lw_p13 : lw_okq (⟨"ModelMerge", "pendingWithConflict", "(I)LModelMerge$Session;"⟩, 12) := ⟨⟨by decide +kernel, by decide +kernel⟩, List.mem_of_getElem? (i := 16) (by decide +kernel), List.mem_of_getElem? (i := 515) (by decide +kernel), List.mem_of_getElem? (i := 516) (by decide +kernel)⟩
theorem lw_p14 : lw_okq (⟨"ModelMerge", "checkField", "(LModelMerge$State;II)V"⟩, 12) := ⟨⟨by decide +kernel, by decide +kernel⟩, List.mem_of_getElem? (i := 16) (by decide +kernel), List.mem_of_getElem? (i := 565) (by decide +kernel), List.mem_of_getElem? (i := 566) (by decide +kernel)⟩
theorem lw_p15 : lw_okq (⟨"ModelMerge", "kindOf", "(I)I"⟩, 12) := ⟨⟨by decide +kernel, by decide +kernel⟩, List.mem_of_getElem? (i := 16) (by decide +kernel), List.mem_of_getElem? (i := 577) (by decide +kernel), List.mem_of_getElem? (i := 578) (by decide +kernel)⟩
def lw_privs_1 : List (MethodName × Nat) := [(⟨"java/lang/Throwable", "fillInStackTrace", "(I)Ljava/lang/Throwable;"⟩, 6), (⟨"ModelMerge", "versionOf", "(I)LModelMerge$Version;"⟩, 12), (⟨"ModelMerge", "sessionOf", "(I)LModelMerge$Session;"⟩, 12), (⟨"ModelMerge", "changeThing", "(IIII)I"⟩, 12), (⟨"ModelMerge", "checkThing", "(I)V"⟩, 12), (⟨"ModelMerge", "isThing", "(I)Z"⟩, 12), (⟨"ModelMerge", "lockerOf", "(I)I"⟩, 12), (⟨"ModelMerge", "findConflicts", "(LModelMerge$Session;)V"⟩, 12), (⟨"ModelMerge", "findFieldConflicts", "(LModelMerge$State;LModelMerge$State;LModelMerge$State;I)V"⟩, 12), (⟨"ModelMerge", "finishJoining", "(LModelMerge$Session;)V"⟩, 12), (⟨"ModelMerge", "joinedState", "(LModelMerge$Session;)LModelMerge$State;"⟩, 12), (⟨"ModelMerge", "joinThing", "(LModelMerge$State;LModelMerge$State;LModelMerge$State;I)V"⟩, 12), (⟨"ModelMerge$Conflicts", "isKnown", "(I)Z"⟩, 4), (⟨"ModelMerge", "pendingWithConflict", "(I)LModelMerge$Session;"⟩, 12), (⟨"ModelMerge", "checkField", "(LModelMerge$State;II)V"⟩, 12), (⟨"ModelMerge", "kindOf", "(I)I"⟩, 12)]
theorem lw_r1 : ∀ q ∈ lw_privs_1, lw_okq q := List.forall_mem_cons.mpr ⟨lw_p0, List.forall_mem_cons.mpr ⟨lw_p1, List.forall_mem_cons.mpr ⟨lw_p2, List.forall_mem_cons.mpr ⟨lw_p3, List.forall_mem_cons.mpr ⟨lw_p4, List.forall_mem_cons.mpr ⟨lw_p5, List.forall_mem_cons.mpr ⟨lw_p6, List.forall_mem_cons.mpr ⟨lw_p7, List.forall_mem_cons.mpr ⟨lw_p8, List.forall_mem_cons.mpr ⟨lw_p9, List.forall_mem_cons.mpr ⟨lw_p10, List.forall_mem_cons.mpr ⟨lw_p11, List.forall_mem_cons.mpr ⟨lw_p12, List.forall_mem_cons.mpr ⟨lw_p13, List.forall_mem_cons.mpr ⟨lw_p14, List.forall_mem_cons.mpr ⟨lw_p15, fun _ h => absurd h List.not_mem_nil⟩⟩⟩⟩⟩⟩⟩⟩⟩⟩⟩⟩⟩⟩⟩⟩
theorem lw_p16 : lw_okq (⟨"ModelMerge", "isBroken", "(LModelMerge$Rule;LModelMerge$State;I)Z"⟩, 12) := ⟨⟨by decide +kernel, by decide +kernel⟩, List.mem_of_getElem? (i := 16) (by decide +kernel), List.mem_of_getElem? (i := 642) (by decide +kernel), List.mem_of_getElem? (i := 643) (by decide +kernel)⟩
theorem lw_p17 : lw_okq (⟨"ModelMergeModel", "goes", "(ZZ)Z"⟩, 31) := ⟨⟨by decide +kernel, by decide +kernel⟩, List.mem_of_getElem? (i := 646) (by decide +kernel), List.mem_of_getElem? (i := 758) (by decide +kernel), List.mem_of_getElem? (i := 759) (by decide +kernel)⟩
theorem lw_p18 : lw_okq (⟨"ModelMergeModel", "isOpen", "(I)Z"⟩, 31) := ⟨⟨by decide +kernel, by decide +kernel⟩, List.mem_of_getElem? (i := 646) (by decide +kernel), List.mem_of_getElem? (i := 766) (by decide +kernel), List.mem_of_getElem? (i := 767) (by decide +kernel)⟩
theorem lw_p19 : lw_okq (⟨"ModelMergeModel", "change", "(IIIII)I"⟩, 31) := ⟨⟨by decide +kernel, by decide +kernel⟩, List.mem_of_getElem? (i := 646) (by decide +kernel), List.mem_of_getElem? (i := 770) (by decide +kernel), List.mem_of_getElem? (i := 771) (by decide +kernel)⟩
theorem lw_p20 : lw_okq (⟨"ModelMergeModel", "barred", "(II)I"⟩, 31) := ⟨⟨by decide +kernel, by decide +kernel⟩, List.mem_of_getElem? (i := 646) (by decide +kernel), List.mem_of_getElem? (i := 778) (by decide +kernel), List.mem_of_getElem? (i := 779) (by decide +kernel)⟩
theorem lw_p21 : lw_okq (⟨"ModelMergeModel", "isHere", "(II)Z"⟩, 31) := ⟨⟨by decide +kernel, by decide +kernel⟩, List.mem_of_getElem? (i := 646) (by decide +kernel), List.mem_of_getElem? (i := 782) (by decide +kernel), List.mem_of_getElem? (i := 783) (by decide +kernel)⟩
theorem lw_p22 : lw_okq (⟨"ModelMergeModel", "isAt", "(III)Z"⟩, 31) := ⟨⟨by decide +kernel, by decide +kernel⟩, List.mem_of_getElem? (i := 646) (by decide +kernel), List.mem_of_getElem? (i := 786) (by decide +kernel), List.mem_of_getElem? (i := 787) (by decide +kernel)⟩
theorem lw_p23 : lw_okq (⟨"ModelMergeModel", "find", "(II)V"⟩, 31) := ⟨⟨by decide +kernel, by decide +kernel⟩, List.mem_of_getElem? (i := 646) (by decide +kernel), List.mem_of_getElem? (i := 814) (by decide +kernel), List.mem_of_getElem? (i := 815) (by decide +kernel)⟩
theorem lw_p24 : lw_okq (⟨"ModelMergeModel", "mine", "(I)I"⟩, 31) := ⟨⟨by decide +kernel, by decide +kernel⟩, List.mem_of_getElem? (i := 646) (by decide +kernel), List.mem_of_getElem? (i := 818) (by decide +kernel), List.mem_of_getElem? (i := 819) (by decide +kernel)⟩
theorem lw_p25 : lw_okq (⟨"ModelMergeModel", "here", "(III)I"⟩, 31) := ⟨⟨by decide +kernel, by decide +kernel⟩, List.mem_of_getElem? (i := 646) (by decide +kernel), List.mem_of_getElem? (i := 822) (by decide +kernel), List.mem_of_getElem? (i := 823) (by decide +kernel)⟩
theorem lw_p26 : lw_okq (⟨"ModelMergeModel", "valueAt", "(IIII)I"⟩, 31) := ⟨⟨by decide +kernel, by decide +kernel⟩, List.mem_of_getElem? (i := 646) (by decide +kernel), List.mem_of_getElem? (i := 826) (by decide +kernel), List.mem_of_getElem? (i := 827) (by decide +kernel)⟩
theorem lw_p27 : lw_okq (⟨"ModelMergeModel", "finish", "(I)V"⟩, 31) := ⟨⟨by decide +kernel, by decide +kernel⟩, List.mem_of_getElem? (i := 646) (by decide +kernel), List.mem_of_getElem? (i := 830) (by decide +kernel), List.mem_of_getElem? (i := 831) (by decide +kernel)⟩
theorem lw_p28 : lw_okq (⟨"ModelMergeModel", "merge", "(II)V"⟩, 31) := ⟨⟨by decide +kernel, by decide +kernel⟩, List.mem_of_getElem? (i := 646) (by decide +kernel), List.mem_of_getElem? (i := 834) (by decide +kernel), List.mem_of_getElem? (i := 835) (by decide +kernel)⟩
theorem lw_p29 : lw_okq (⟨"ModelMergeModel", "sideOf", "(II)I"⟩, 31) := ⟨⟨by decide +kernel, by decide +kernel⟩, List.mem_of_getElem? (i := 646) (by decide +kernel), List.mem_of_getElem? (i := 838) (by decide +kernel), List.mem_of_getElem? (i := 839) (by decide +kernel)⟩
theorem lw_p30 : lw_okq (⟨"ModelMergeModel", "take", "(IIZ)V"⟩, 31) := ⟨⟨by decide +kernel, by decide +kernel⟩, List.mem_of_getElem? (i := 646) (by decide +kernel), List.mem_of_getElem? (i := 842) (by decide +kernel), List.mem_of_getElem? (i := 843) (by decide +kernel)⟩
theorem lw_p31 : lw_okq (⟨"ModelMergeModel", "isThere", "(II)Z"⟩, 31) := ⟨⟨by decide +kernel, by decide +kernel⟩, List.mem_of_getElem? (i := 646) (by decide +kernel), List.mem_of_getElem? (i := 870) (by decide +kernel), List.mem_of_getElem? (i := 871) (by decide +kernel)⟩
def lw_privs_2 : List (MethodName × Nat) := [(⟨"ModelMerge", "isBroken", "(LModelMerge$Rule;LModelMerge$State;I)Z"⟩, 12), (⟨"ModelMergeModel", "goes", "(ZZ)Z"⟩, 31), (⟨"ModelMergeModel", "isOpen", "(I)Z"⟩, 31), (⟨"ModelMergeModel", "change", "(IIIII)I"⟩, 31), (⟨"ModelMergeModel", "barred", "(II)I"⟩, 31), (⟨"ModelMergeModel", "isHere", "(II)Z"⟩, 31), (⟨"ModelMergeModel", "isAt", "(III)Z"⟩, 31), (⟨"ModelMergeModel", "find", "(II)V"⟩, 31), (⟨"ModelMergeModel", "mine", "(I)I"⟩, 31), (⟨"ModelMergeModel", "here", "(III)I"⟩, 31), (⟨"ModelMergeModel", "valueAt", "(IIII)I"⟩, 31), (⟨"ModelMergeModel", "finish", "(I)V"⟩, 31), (⟨"ModelMergeModel", "merge", "(II)V"⟩, 31), (⟨"ModelMergeModel", "sideOf", "(II)I"⟩, 31), (⟨"ModelMergeModel", "take", "(IIZ)V"⟩, 31), (⟨"ModelMergeModel", "isThere", "(II)Z"⟩, 31)]
theorem lw_r2 : ∀ q ∈ lw_privs_2, lw_okq q := List.forall_mem_cons.mpr ⟨lw_p16, List.forall_mem_cons.mpr ⟨lw_p17, List.forall_mem_cons.mpr ⟨lw_p18, List.forall_mem_cons.mpr ⟨lw_p19, List.forall_mem_cons.mpr ⟨lw_p20, List.forall_mem_cons.mpr ⟨lw_p21, List.forall_mem_cons.mpr ⟨lw_p22, List.forall_mem_cons.mpr ⟨lw_p23, List.forall_mem_cons.mpr ⟨lw_p24, List.forall_mem_cons.mpr ⟨lw_p25, List.forall_mem_cons.mpr ⟨lw_p26, List.forall_mem_cons.mpr ⟨lw_p27, List.forall_mem_cons.mpr ⟨lw_p28, List.forall_mem_cons.mpr ⟨lw_p29, List.forall_mem_cons.mpr ⟨lw_p30, List.forall_mem_cons.mpr ⟨lw_p31, fun _ h => absurd h List.not_mem_nil⟩⟩⟩⟩⟩⟩⟩⟩⟩⟩⟩⟩⟩⟩⟩⟩
def lw_privs : List (MethodName × Nat) := lw_privs_1 ++ (lw_privs_2)
def lw_tbl : List Cond := k2_sels lw_privs ++ tables_1
theorem lw_privs_ok : ∀ q ∈ lw_privs, lw_okq q := by
  show ∀ q ∈ lw_privs_1 ++ (lw_privs_2), lw_okq q
  exact List.forall_mem_append.mpr ⟨lw_r1, lw_r2⟩
end
section
/-! ===== BEGIN words of one list among another's, by their places ===== -/
theorem goodIn_r {big : List Cond} (ws : List Cond) (ps : List Nat) (hp : ws = ps.filterMap (fun i => big[i]?)) (h : ws.all goodWord = true) : GoodIn big ws := by
  intro w hw
  have h1 := List.all_eq_true.mp h w hw
  rw [hp] at hw
  obtain ⟨i, -, hi⟩ := List.mem_filterMap.mp hw
  have hm : w ∈ big := by first | exact List.mem_of_getElem? hi | exact List.getElem?_mem hi
  exact ⟨hm, good_of_word h1⟩
theorem goodIn_app {big a b : List Cond} (ha : GoodIn big a) (hb : GoodIn big b) : GoodIn big (a ++ b) := fun w h => (List.mem_append.mp h).elim (ha w) (hb w)
theorem goodIn_ca {big a b : List Cond} {c : Cond} (ha : GoodIn big (c :: a)) (hb : GoodIn big b) : GoodIn big (c :: (a ++ b)) := fun w h => (List.mem_cons.mp h).elim (fun e => ha w (List.mem_cons.mpr (Or.inl e))) (fun h => (List.mem_append.mp h).elim (fun h => ha w (List.mem_cons.mpr (Or.inr h))) (hb w))
theorem goodIn_sub {big ws : List Cond} (hm : ∀ w ∈ ws, w ∈ big) (h : ws.all goodWord = true) : GoodIn big ws := fun w hw => ⟨hm w hw, good_of_word (List.all_eq_true.mp h w hw)⟩
/-! ===== END ===== -/

/-! ===== BEGIN exceptions that leave a method, and their catching by the caller (launches without stack traces) ===== -/
section VXA
/-! The laws vx_back, vx_callV, vx_callS, vx_callSW, vx_throw0, vx_throwS follow proofs of the library, with one case more: JvmDerived/Free/Laws.lean (Back.of_free), Shelf42/LK1.lean (callV, callS), Shelf/KitTraced.lean (throwNew0V, throwNewS). -/

/-- where a method has thrown q: the class by its name, the cell, what was written, the world -/
def vx_T (XC : String → State → State → Prop) (st : State) (q : Addr) (t : State) (mc ms : Nat) (free : Addr → Prop) : Prop :=
  ∃ (E : String) (ce : Cell) (L : List Loc), XC E st t ∧ t.heap[q]? = some ce ∧ ce.vm = .none ∧ st.vm.findClass E = some ce.cls ∧ st.WarmedH t.vm ∧ st.sameButNew ({ t with vm := st.vm } : State) L mc ms ∧ ∀ z ∈ L, free z.base
def vx_Q (Qc : Array Value → State → Outcome → State → Prop) (XC : String → State → State → Prop) (mc ms : Nat) (free : Addr → Prop) : Array Value → State → Outcome → State → Prop := fun a st o t =>
  (Qc a st o t ∧ ∃ L, FrameEnd st o t L mc ms ∧ ∀ q ∈ L, free q.base) ∨ ∃ q, o = .threw q ∧ vx_T XC st q t mc ms free
/-- a callee that returns or throws -/
def vx_Met (l : Launch) (y : MethodName) (ws : List Cond) (rm : Room) (Pc : Array Value → State → Prop) (Qc : Array Value → State → Outcome → State → Prop) (XC : String → State → State → Prop) (mc ms : Nat) (free : Addr → Prop) : Prop :=
  MetFree l y (headSpec ws rm) Pc (fun _ _ _ _ _ => True) (vx_Q Qc XC mc ms free)
def vx_Post (XC : String → State → State → Prop) (mc ms : Nat) (free : Addr → Prop) : Pt → Array Value → Addr → Pt → Prop := fun A a q B =>
  ∃ (g : JFrame) (mk : MethodId) (t : State) (L : List Loc) (E : String) (ce : Cell), B.U.heap = t.heap ∧ B.U.vm = t.vm ∧ XC E (A.U.calling g mk a) t ∧ t.heap[q]? = some ce ∧ ce.vm = .none ∧ A.U.vm.findClass E = some ce.cls ∧ B.locs = A.locs ++ L ∧ (∀ z ∈ L, free z.base) ∧ B.cells = A.cells + mc ∧ B.slots = A.slots + ms
def vx_Back (l : Launch) (R : Room) (p : Program) (e : Env) (below : List Frame) (s : State) (sargs : Array Value) (y : MethodName) (len W9 : Nat)
    (Pre : Pt → Array Value → Prop) (Post : Pt → Array Value → Option Value → Pt → Prop) (PostX : Pt → Array Value → Addr → Pt → Prop) : Prop :=
  ∀ (m : MethodId) (meth : Method) (c : Code) (A : Pt) (g : JFrame) (ig : Instr) (mk : MethodId) (a : Array Value),
    Stand p l e R s m sargs below meth c A.U A.locs A.cells A.slots → g.method = m → g.locals.size = c.maxLocals → decode c.code g.pc = .ok (ig, len) →
    2 * g.monitorRoom + (g.stack.map fun v => v.category).sum ≤ W9 → A.U.methodNamed? y = some mk → Pre A a →
    (∃ (v : Option Value) (B : Pt), Stand p l e R s m sargs below meth c B.U B.locs B.cells B.slots ∧ Post A a v B ∧
      Steps p.tables e below (doInvoke e (A.U.setTop g) [] mk a).1 (B.U.setTop { g with pc := g.pc + len, stack := v.toList ++ g.stack })) ∨
    (∃ (q : Addr) (B : Pt), Stand p l e R s m sargs below meth c B.U B.locs B.cells B.slots ∧ PostX A a q B ∧
      Steps p.tables e below (doInvoke e (A.U.setTop g) [] mk a).1 ((B.U.setTop g).pushFrame (.throwing q)))
section Payer
variable {l : Launch} {R : Room} {p : Program} {e : Env} {below : List Frame} {s : State} {sargs : Array Value} {y : MethodName} {len W9 : Nat}
theorem vx_back {ws : List Cond} {rm : Room} {Pc : Array Value → State → Prop} {Qc : Array Value → State → Outcome → State → Prop} {XC : String → State → State → Prop} {mc ms : Nat} {free : Addr → Prop} {bytes : ByteArray} {maxL : Nat} {ret : Option FieldType}
    (hM : vx_Met l y ws rm Pc Qc XC mc ms free) (hblind : FrameBlind Pc) (hrc : rm.cells = mc) (hrs : rm.slots = ms)
    (hframes : rm.frames + 1 ≤ R.frames) (hlocals : W9 + (maxL + 11) + rm.locals ≤ R.locals)
    (hws : ∀ w ∈ ws, ∀ a' U, s.WarmedH U.vm → w.before a' U = true) (hcode : Cond.code y bytes maxL ret ∈ ws) (hinit : ∀ a' U, s.WarmedH U.vm → (Cond.initialized y.cls).before a' U = true) :
    vx_Back l R p e below s sargs y len W9 (PreOf R mc ms Pc) (PostOf Qc mc ms free) (vx_Post XC mc ms free) := by
  intro m meth c A g ig mk a X hg hsize hdg hW hn hp
  have h1 : (headSpec ws rm).pre.before a A.U = true := atoms_intro fun w hw => hws w hw _ _ X.warmed
  have h2 : (Cond.code y bytes maxL ret).before a A.U = true := hws _ hcode _ _ X.warmed
  have h3 : (Cond.initialized y.cls).before a A.U = true := hinit _ _ X.warmed
  have h4 : A.cells + (headSpec ws rm).room.cells ≤ R.cells := by rw [show (headSpec ws rm).room.cells = mc from hrc]; exact hp.1
  have h5 : A.slots + (headSpec ws rm).room.slots ≤ R.slots := by rw [show (headSpec ws rm).room.slots = ms from hrs]; exact hp.2.1
  have hPc : Pc a (A.U.calling g mk a) := hblind _ _ _ _ hp.2.2
  obtain ⟨U, Ls, c0, s0⟩ := A
  dsimp only [Pt.U, Pt.locs, Pt.cells, Pt.slots] at h1 h2 h3 h4 h5 X hn hPc ⊢
  obtain ⟨methY, cY, hmY, hcY, -, hlY, -, -, -, -⟩ := Cond.code_spec hn h2
  obtain ⟨kY, hkY, -⟩ := className_of_methodNamed hn
  have hinitY : kY.init = .initialized := Cond.initialized_spec (findClass_of_methodNamed hn) hkY h3
  have h : At U g.method c below := by rw [hg]; exact X.here
  have hlocals9 : W9 + (maxL + 11) + (headSpec ws rm).room.locals ≤ R.locals := hlocals
  have happ : (headSpec ws rm).appliesLoose y e.platform (U.calling g mk a) = true :=
    Spec.appliesLoose_calling (g := g) h hdg hn hkY hinitY
      (X.room_calling (g := g) (R' := (headSpec ws rm).room) hsize hmY hcY hframes (by rw [hlY]; omega) h4 h5) h1
  obtain ⟨mid, hmid⟩ := h.above
  have hfr : (U.setTop g).frames = (.java g :: mid) ++ below := by rw [State.frames_setTop' g h.top, hmid]; rfl
  obtain ⟨o, s₂, hsteps, -, hend, hq⟩ := Steps.callFree hM p X.admits X.cas X.clock (acts := []) hfr happ hPc trivial
  have hq' : vx_Q Qc XC mc ms free a (U.calling g mk a) o s₂ := hq
  rw [State.frames_setTop' g h.top] at hend
  obtain ⟨g₀, hg0⟩ := Option.isSome_iff_exists.mp h.top
  obtain ⟨r, hr⟩ := State.topJava?_eq_some.mp hg0
  have hr' : (({ U with heap := s₂.heap, slotsUsed := s₂.slotsUsed } : State).setVm s₂.vm).frames = .java g₀ :: r := hr
  rcases hq' with ⟨hqc, L, hfe, hL⟩ | ⟨q, rfl, E, ce, L, hx, hce, hcv, hcl, hW₂, hsm, hL⟩
  · obtain ⟨⟨v, rfl⟩, hW₂, e2, q2, q3, q4, q5, q6⟩ := id hfe
    have e3 : s₂ = ({ (U.calling g mk a).setFrames s₂.frames with heap := s₂.heap, slotsUsed := s₂.slotsUsed } : State).setVm s₂.vm := by
      have : s₂ = ({ s₂ with vm := (U.calling g mk a).vm } : State).setVm s₂.vm := rfl
      rw [e2] at this
      exact this
    obtain ⟨c₂, i₂, len₂, hc₂, hd₂, hf₂⟩ := hend
    have hW' : U.WarmedH s₂.vm := hW₂
    have hcc : c₂ = c := by
      have h1 : s₂.code? g.method = U.code? g.method := by
        rw [State.code?_eq, State.code?_eq, hW'.alike.method?]
      exact Option.some.inj (hc₂.symm.trans (h1.trans h.code))
    subst hcc
    have hlen : len₂ = len := by rw [hdg] at hd₂; cases hd₂; rfl
    subst hlen
    have hs₂ : s₂ = (({ U with heap := s₂.heap, slotsUsed := s₂.slotsUsed } : State).setVm s₂.vm).setTop { g with pc := g.pc + len₂, stack := v.toList ++ g.stack } := by
      refine e3.trans ?_
      rw [hf₂, State.calling_eq h.top, State.setFrames_setFrames, State.setTop_of_frames _ hr', hr]
      rfl
    have hsame : U.sameButNew ({ U with heap := s₂.heap, slotsUsed := s₂.slotsUsed } : State) L mc ms := by
      refine ⟨?_, q2, q3, q4, q5, q6⟩
      obtain ⟨t, ht, -⟩ := State.frames_cons hr
      show ({ U with heap := s₂.heap, slotsUsed := s₂.slotsUsed } : State) = { U.setFrames U.frames with heap := s₂.heap, slotsUsed := s₂.slotsUsed }
      rw [State.setFrames_self ht]
    subst hg
    refine Or.inl ⟨v, ⟨(({ U with heap := s₂.heap, slotsUsed := s₂.slotsUsed } : State).setVm s₂.vm), Ls ++ L, c0 + mc, s0 + ms⟩,
      ⟨X.admits, X.cas, X.clock, X.frames, X.room, X.hears, X.method, X.code, (X.here.setHeapUsed s₂.heap s₂.slotsUsed).setVm hW'.alike, X.tail, State.WarmedH.trans X.warmed hW', X.limits, X.bytes, X.same.trans (hsame.setVm s.vm)⟩,
      ⟨g, mk, s₂, L, rfl, rfl, hqc, rfl, hL, rfl, rfl⟩, ?_⟩
    show Steps p.tables e below _ ((({ U with heap := s₂.heap, slotsUsed := s₂.slotsUsed } : State).setVm s₂.vm).setTop { g with pc := g.pc + len₂, stack := v.toList ++ g.stack })
    rw [← hs₂]
    exact hsteps
  · obtain ⟨e2, q2, q3, q4, q5, q6⟩ := id hsm
    have e3 : s₂ = ({ (U.calling g mk a).setFrames s₂.frames with heap := s₂.heap, slotsUsed := s₂.slotsUsed } : State).setVm s₂.vm := by
      have : s₂ = ({ s₂ with vm := (U.calling g mk a).vm } : State).setVm s₂.vm := rfl
      rw [e2] at this
      exact this
    have hf₂ : s₂.frames = .throwing q :: .java g :: U.frames.tail := hend
    have hW' : U.WarmedH s₂.vm := hW₂
    have hs₂ : s₂ = ((({ U with heap := s₂.heap, slotsUsed := s₂.slotsUsed } : State).setVm s₂.vm).setTop g).pushFrame (.throwing q) := by
      refine e3.trans ?_
      rw [hf₂, State.calling_eq h.top, State.setFrames_setFrames, State.pushFrame, State.frames_setTop _ hr', State.setTop_of_frames _ hr', State.setFrames_setFrames, hr]
      rfl
    have hsame : U.sameButNew ({ U with heap := s₂.heap, slotsUsed := s₂.slotsUsed } : State) L mc ms := by
      refine ⟨?_, q2, q3, q4, q5, q6⟩
      obtain ⟨t, ht, -⟩ := State.frames_cons hr
      show ({ U with heap := s₂.heap, slotsUsed := s₂.slotsUsed } : State) = { U.setFrames U.frames with heap := s₂.heap, slotsUsed := s₂.slotsUsed }
      rw [State.setFrames_self ht]
    subst hg
    refine Or.inr ⟨q, ⟨(({ U with heap := s₂.heap, slotsUsed := s₂.slotsUsed } : State).setVm s₂.vm), Ls ++ L, c0 + mc, s0 + ms⟩,
      ⟨X.admits, X.cas, X.clock, X.frames, X.room, X.hears, X.method, X.code, (X.here.setHeapUsed s₂.heap s₂.slotsUsed).setVm hW'.alike, X.tail, State.WarmedH.trans X.warmed hW', X.limits, X.bytes, X.same.trans (hsame.setVm s.vm)⟩,
      ⟨g, mk, s₂, L, E, ce, rfl, rfl, hx, hce, hcv, hcl, rfl, hL, rfl, rfl⟩, ?_⟩
    show Steps p.tables e below _ (((({ U with heap := s₂.heap, slotsUsed := s₂.slotsUsed } : State).setVm s₂.vm).setTop g).pushFrame (.throwing q))
    rw [← hs₂]
    exact hsteps
end Payer
section Calls
variable {p : Program} {l : Launch} {e : Env} {R : Room} {s : State} {m : MethodId} {args : Array Value} {below : List Frame} {meth : Method} {c : Code} {T : State} {locs : List Loc} {cells slots : Nat}
theorem vx_callV (X : Stand p l e R s m args below meth c T locs cells slots) (hexec : p.tables.exec = Jvm.exec) {own C : String} {index : Nat} {y : MethodName} {bytes : ByteArray} {maxL : Nat} {ret : Option FieldType}
    (hown : s.vm.findClass own = some m.cls) (hlink : (Cond.methodLink own index y).before args s = true) (hinst : (Cond.instanceMethod y).before args s = true) (hsel : (Cond.selects C y y).before args s = true)
    (hcode : (Cond.code y bytes maxL ret).before args s = true) (hy : y.cls ≠ "java/lang/invoke/MethodHandle" ∧ y.cls ≠ "java/lang/invoke/VarHandle")
    {W9 : Nat} {Pre : Pt → Array Value → Prop} {Post : Pt → Array Value → Option Value → Pt → Prop} {PostX : Pt → Array Value → Addr → Pt → Prop} (hK : vx_Back l R p e below s args y 3 W9 Pre Post PostX)
    {b : Addr} {cellB : Cell} (hcell : T.heap[b]? = some cellB) (hobj : cellB.vm.isStatics = false) (hcls : s.vm.findClass C = some cellB.cls)
    {g : JFrame} (hg : g.method = m) (hsize : g.locals.size = c.maxLocals) {argsL rest : List Value} (hlen : ∀ sig, parseMethodDescriptor y.desc = some sig → argsL.length = sig.parameters.length)
    (hstack : g.stack = argsL.reverse ++ .ref b :: rest) (hW : 2 * g.monitorRoom + (rest.map fun v => v.category).sum ≤ W9) (hdg : decode c.code g.pc = .ok (.invokevirtual index, 3))
    (hpre : ∀ vm₁, s.WarmedH vm₁ → Pre ⟨T.setVm vm₁, locs, cells, slots⟩ (Value.ref b :: argsL).toArray) :
    (∃ (v : Option Value) (vm₁ : Vm) (B : Pt), s.WarmedH vm₁ ∧ Stand p l e R s m args below meth c B.U B.locs B.cells B.slots ∧ Post ⟨T.setVm vm₁, locs, cells, slots⟩ (Value.ref b :: argsL).toArray v B ∧
      ∀ target, Steps p.tables e below (B.U.setTop { g with pc := g.pc + 3, stack := v.toList ++ rest }) target → Steps p.tables e below (T.setTop g) target) ∨
    (∃ (q : Addr) (vm₁ : Vm) (B : Pt), s.WarmedH vm₁ ∧ Stand p l e R s m args below meth c B.U B.locs B.cells B.slots ∧ PostX ⟨T.setVm vm₁, locs, cells, slots⟩ (Value.ref b :: argsL).toArray q B ∧
      Steps p.tables e below (T.setTop g) ((B.U.setTop { g with stack := rest }).pushFrame (.throwing q))) := by
  obtain ⟨mk, methM, hnamed, hmethM, hstM, habM⟩ := Cond.instanceMethod_spec hinst
  obtain ⟨methM', cM, hmethM', -, -, -, -, -, -, hsigM⟩ := Cond.code_spec hnamed hcode
  cases hmethM.symm.trans hmethM'
  obtain ⟨c2, r2, m2, q1, q2, q3, q4, kP, hkP, hkPi⟩ := Cond.selects_spec hsel
  cases hcls.symm.trans q1
  cases (State.methodFound?_of_named hnamed hy).symm.trans q2
  cases hnamed.symm.trans q3
  have hselP : selectMethod e.platform s.vm cellB.cls mk = .method mk := by rw [Launch.admits_selectMethod X.admits]; exact q4
  obtain ⟨vm₁, X₁, hstep₁⟩ := X.invokevirtual hexec hown hlink hnamed hmethM hstM hkP hkPi hy (a := b) (cell := cellB) hcell
    (fun z h => by rw [h] at hobj; cases hobj) hselP hmethM habM hkP hkPi (g := g) hg (argsL := argsL) (rest := rest) (hlen _ hsigM) hstack hdg
  rcases hK m meth c ⟨T.setVm vm₁, locs, cells, slots⟩ { g with stack := rest } (.invokevirtual index) mk (Value.ref b :: argsL).toArray X₁ hg hsize hdg hW (X₁.named hnamed) (hpre vm₁ X₁.warmed) with ⟨v, B, X', hpost, hsteps⟩ | ⟨q, B, X', hpost, hsteps⟩
  · exact Or.inl ⟨v, vm₁, B, X₁.warmed, X', hpost, fun target h => hstep₁ _ fun acts => by rw [doInvoke_state]; exact hsteps.trans h⟩
  · exact Or.inr ⟨q, vm₁, B, X₁.warmed, X', hpost, hstep₁ _ fun acts => by rw [doInvoke_state]; exact hsteps⟩
theorem vx_callS (X : Stand p l e R s m args below meth c T locs cells slots) (hexec : p.tables.exec = Jvm.exec) {own : String} {index : Nat} {y : MethodName} {bytes : ByteArray} {maxL : Nat} {ret : Option FieldType}
    (hown : s.vm.findClass own = some m.cls) (hlink : (Cond.methodLink own index y).before args s = true) (hstat : (Cond.static y).before args s = true) (hinit : (Cond.initialized y.cls).before args s = true)
    (hcode : (Cond.code y bytes maxL ret).before args s = true) (hy : y.cls ≠ "java/lang/invoke/MethodHandle" ∧ y.cls ≠ "java/lang/invoke/VarHandle")
    {W9 : Nat} {Pre : Pt → Array Value → Prop} {Post : Pt → Array Value → Option Value → Pt → Prop} {PostX : Pt → Array Value → Addr → Pt → Prop} (hK : vx_Back l R p e below s args y 3 W9 Pre Post PostX)
    {g : JFrame} (hg : g.method = m) (hsize : g.locals.size = c.maxLocals) {argsL rest : List Value} (hlen : ∀ sig, parseMethodDescriptor y.desc = some sig → argsL.length = sig.parameters.length)
    (hstack : g.stack = argsL.reverse ++ rest) (hW : 2 * g.monitorRoom + (rest.map fun v => v.category).sum ≤ W9) (hdg : decode c.code g.pc = .ok (.invokestatic index, 3))
    (hpre : ∀ vm₁, s.WarmedH vm₁ → Pre ⟨T.setVm vm₁, locs, cells, slots⟩ argsL.toArray) :
    (∃ (v : Option Value) (vm₁ : Vm) (B : Pt), s.WarmedH vm₁ ∧ Stand p l e R s m args below meth c B.U B.locs B.cells B.slots ∧ Post ⟨T.setVm vm₁, locs, cells, slots⟩ argsL.toArray v B ∧
      ∀ target, Steps p.tables e below (B.U.setTop { g with pc := g.pc + 3, stack := v.toList ++ rest }) target → Steps p.tables e below (T.setTop g) target) ∨
    (∃ (q : Addr) (vm₁ : Vm) (B : Pt), s.WarmedH vm₁ ∧ Stand p l e R s m args below meth c B.U B.locs B.cells B.slots ∧ PostX ⟨T.setVm vm₁, locs, cells, slots⟩ argsL.toArray q B ∧
      Steps p.tables e below (T.setTop g) ((B.U.setTop { g with stack := rest }).pushFrame (.throwing q))) := by
  obtain ⟨mk, hnamed⟩ := Cond.code_named hcode
  obtain ⟨methM, cM, hmethM, -, -, -, -, -, -, hsigM⟩ := Cond.code_spec hnamed hcode
  have hstatic : methM.isStatic = true := Cond.static_spec hnamed hmethM hstat
  obtain ⟨kP, hkP, -⟩ := className_of_methodNamed hnamed
  have hinitP : kP.init = .initialized := Cond.initialized_spec (findClass_of_methodNamed hnamed) hkP hinit
  obtain ⟨vm₁, X₁, hstep₁⟩ := X.invokestatic hexec hown hlink hnamed hmethM hstatic hkP hinitP hy (g := g) hg (argsL := argsL) (rest := rest) (hlen _ hsigM) hstack hdg
  rcases hK m meth c ⟨T.setVm vm₁, locs, cells, slots⟩ { g with stack := rest } (.invokestatic index) mk argsL.toArray X₁ hg hsize hdg hW (X₁.named hnamed) (hpre vm₁ X₁.warmed) with ⟨v, B, X', hpost, hsteps⟩ | ⟨q, B, X', hpost, hsteps⟩
  · exact Or.inl ⟨v, vm₁, B, X₁.warmed, X', hpost, fun target h => hstep₁ _ fun acts => by rw [doInvoke_state]; exact hsteps.trans h⟩
  · exact Or.inr ⟨q, vm₁, B, X₁.warmed, X', hpost, hstep₁ _ fun acts => by rw [doInvoke_state]; exact hsteps⟩
end Calls
theorem vx_cls {s : State} {T : State} {vm₁ : Vm} {E : String} {k : ClassId} (hW : s.WarmedH vm₁) (h : (T.setVm vm₁).vm.findClass E = some k) : s.vm.findClass E = some k := by
  have h1 : vm₁.findClass E = some k := h
  rw [hW.alike.findClass] at h1
  exact h1
/-- the method's frame g, with q thrown over it -/
def vx_W (p : Program) (l : Launch) (e : Env) (R : Room) (s : State) (m : MethodId) (args : Array Value) (below : List Frame) (meth : Method) (c : Code) (H : Heap) (locs : List Loc) (cells slots : Nat) (Q : State → Prop) (g : JFrame) (q : Addr) : Prop :=
  ∀ T : State, T.heap = H → Stand p l e R s m args below meth c T locs cells slots → ∃ t, Steps p.tables e below ((T.setTop g).pushFrame (.throwing q)) t ∧ Q t
def vx_Run (p : Program) (l : Launch) (e : Env) (R : Room) (s : State) (m : MethodId) (args : Array Value) (below : List Frame) (meth : Method) (c : Code) (H : Heap) (locs : List Loc) (cells slots mc ms : Nat) (g : JFrame) (rest : List Value) (Qa : State → Outcome → State → Prop) (XC : String → State → State → Prop) (free : Addr → Prop) : Prop :=
  ∀ T : State, T.heap = H → Stand p l e R s m args below meth c T locs cells slots →
    (∃ (v : Option Value) (st₀ t T' : State) (L : List Loc), st₀.heap = H ∧ Stand p l e R s m args below meth c T' (locs ++ L) (cells + mc) (slots + ms) ∧ (∀ q ∈ L, free q.base) ∧ T'.heap = t.heap ∧ T'.vm = t.vm ∧ Qa st₀ (.returned v) t ∧
      Goes p e below T g T' { g with pc := g.pc + 3, stack := v.toList ++ rest }) ∨
    (∃ (q : Addr) (st₀ t T' : State) (L : List Loc) (E : String) (ce : Cell), st₀.heap = H ∧ Stand p l e R s m args below meth c T' (locs ++ L) (cells + mc) (slots + ms) ∧ (∀ z ∈ L, free z.base) ∧ T'.heap = t.heap ∧ T'.vm = t.vm ∧ XC E st₀ t ∧ t.heap[q]? = some ce ∧ ce.vm = .none ∧ s.vm.findClass E = some ce.cls ∧
      Steps p.tables e below (T.setTop g) ((T'.setTop { g with stack := rest }).pushFrame (.throwing q)))
def vx_X {S : Type} (px : S → Prop) (B : String → S → State → Prop) (A : Nat → Prop) : String → State → State → Prop := fun E st t => ∃ u : S, px u ∧ B E u t ∧ va_F A st t
section Runs
variable {p : Program} {l : Launch} {e : Env} {R : Room} {s : State} {m : MethodId} {args : Array Value} {below : List Frame} {meth : Method} {c : Code} {H : Heap} {locs : List Loc} {cells slots : Nat}
variable {y : MethodName} {bytes cc : ByteArray} {maxL nL mc ms n index : Nat} {ret : Option FieldType} {ws : List Cond} {rm : Room} {Pc : Array Value → State → Prop} {Qc : Array Value → State → Outcome → State → Prop} {XC : String → State → State → Prop} {free : Addr → Prop} {Ts : List Cond} {own C : String} {b : Addr} {As rest : List Value} {g : JFrame}
theorem vx_callBack (cb : CallB R s args own index y bytes maxL ret ws rm mc ms n) (hM : vx_Met l y ws rm Pc Qc XC mc ms free) (hbl : FrameBlind Pc) : vx_Back l R p e below s args y 3 8 (PreOf R mc ms Pc) (PostOf Qc mc ms free) (vx_Post XC mc ms free) := by
  obtain ⟨hrc, hrs, hfr, hlo, hws, hcw, -, hini, -⟩ := cb
  exact vx_back (bytes := bytes) (maxL := maxL) (ret := ret) hM hbl hrc hrs hfr hlo hws hcw (fun a' U hW => word_at hW (Or.inl (by first | rfl | simp [Cond.onTables, Cond.keeps, Cond.steady])) hini)
theorem vx_runV (S : CallFix p m c cc nL s args Ts own) (hM : vx_Met l y ws rm Pc Qc XC mc ms free) (cw : CallW R s args own C index y bytes maxL ret ws rm mc ms n) (hp : PreV s H C b Pc As)
    (hg : g.method = m) (hn : As.length = n) (hsize : g.locals.size = nL) (hstack : g.stack = As.reverse ++ .ref b :: rest) (hW : 2 * g.monitorRoom + (rest.map fun v => v.category).sum ≤ 8) (hdg : decode cc g.pc = .ok (.invokevirtual index, 3)) (hf : cells + mc ≤ R.cells ∧ slots + ms ≤ R.slots) :
    vx_Run p l e R s m args below meth c H locs cells slots mc ms g rest (Qc (Value.ref b :: As).toArray) XC free := by
  have hK : vx_Back l R p e below s args y 3 8 (PreOf R mc ms Pc) (PostOf Qc mc ms free) (vx_Post XC mc ms free) := vx_callBack cw.1 hM hp.1
  obtain ⟨⟨-, -, -, -, -, -, hcode, -, hy, hlen, hl⟩, hin, hse⟩ := cw
  obtain ⟨hx, hb, hml, ho, -⟩ := S
  obtain ⟨-, ⟨cellB, hcB, hoB, hclB⟩, hPc⟩ := hp
  intro T hT X
  rcases vx_callV X hx (C := C) (bytes := bytes) (maxL := maxL) (ret := ret) ho hl hin hse hcode hy hK (by rw [hT]; exact hcB) hoB hclB hg (hsize.trans hml.symm) (argsL := As) (rest := rest) (fun sig h => hn.trans (hlen sig h)) hstack hW (by rw [hb]; exact hdg)
    (fun vm₁ hW₁ => ⟨hf.1, hf.2, hPc (T.setVm vm₁) hT hW₁⟩) with ⟨v, vm₁, ⟨U', l2, c2, s2⟩, hW₁, X', ⟨g', mk, t, L, e1, e2, hq, h1, hL, h2, h3⟩, st⟩ | ⟨q, vm₁, ⟨U', l2, c2, s2⟩, hW₁, X', ⟨g', mk, t, L, E, ce, e1, e2, hq, hce, hcv, hcl, h1, hL, h2, h3⟩, st⟩
  · dsimp only [Pt.U, Pt.locs, Pt.cells, Pt.slots] at X' e1 e2 h1 h2 h3 st
    subst h1; subst h2; subst h3
    exact Or.inl ⟨v, (T.setVm vm₁).calling g' mk (Value.ref b :: As).toArray, t, U', L, hT, X', hL, e1, e2, hq, st⟩
  · dsimp only [Pt.U, Pt.locs, Pt.cells, Pt.slots] at X' e1 e2 h1 h2 h3 st hcl
    subst h1; subst h2; subst h3
    exact Or.inr ⟨q, (T.setVm vm₁).calling g' mk (Value.ref b :: As).toArray, t, U', L, E, ce, hT, X', hL, e1, e2, hq, hce, hcv, vx_cls hW₁ hcl, st⟩
theorem vx_runS (S : CallFix p m c cc nL s args Ts own) (hM : vx_Met l y ws rm Pc Qc XC mc ms free) (cw : CallB R s args own index y bytes maxL ret ws rm mc ms n ∧ (Cond.static y).before args s = true) (hp : PreS s H Pc As)
    (hg : g.method = m) (hn : As.length = n) (hsize : g.locals.size = nL) (hstack : g.stack = As.reverse ++ rest) (hW : 2 * g.monitorRoom + (rest.map fun v => v.category).sum ≤ 8) (hdg : decode cc g.pc = .ok (.invokestatic index, 3)) (hf : cells + mc ≤ R.cells ∧ slots + ms ≤ R.slots) :
    vx_Run p l e R s m args below meth c H locs cells slots mc ms g rest (Qc As.toArray) XC free := by
  have hK : vx_Back l R p e below s args y 3 8 (PreOf R mc ms Pc) (PostOf Qc mc ms free) (vx_Post XC mc ms free) := vx_callBack cw.1 hM hp.1
  obtain ⟨⟨-, -, -, -, -, -, hcode, hini, hy, hlen, hl⟩, hstt⟩ := cw
  obtain ⟨hx, hb, hml, ho, -⟩ := S
  intro T hT X
  rcases vx_callS X hx (bytes := bytes) (maxL := maxL) (ret := ret) ho hl hstt hini hcode hy hK hg (hsize.trans hml.symm) (argsL := As) (rest := rest) (fun sig h => hn.trans (hlen sig h)) hstack hW (by rw [hb]; exact hdg)
    (fun vm₁ hW₁ => ⟨hf.1, hf.2, hp.2 (T.setVm vm₁) hT hW₁⟩) with ⟨v, vm₁, ⟨U', l2, c2, s2⟩, hW₁, X', ⟨g', mk, t, L, e1, e2, hq, h1, hL, h2, h3⟩, st⟩ | ⟨q, vm₁, ⟨U', l2, c2, s2⟩, hW₁, X', ⟨g', mk, t, L, E, ce, e1, e2, hq, hce, hcv, hcl, h1, hL, h2, h3⟩, st⟩
  · dsimp only [Pt.U, Pt.locs, Pt.cells, Pt.slots] at X' e1 e2 h1 h2 h3 st
    subst h1; subst h2; subst h3
    exact Or.inl ⟨v, (T.setVm vm₁).calling g' mk As.toArray, t, U', L, hT, X', hL, e1, e2, hq, st⟩
  · dsimp only [Pt.U, Pt.locs, Pt.cells, Pt.slots] at X' e1 e2 h1 h2 h3 st hcl
    subst h1; subst h2; subst h3
    exact Or.inr ⟨q, (T.setVm vm₁).calling g' mk As.toArray, t, U', L, E, ce, hT, X', hL, e1, e2, hq, hce, hcv, vx_cls hW₁ hcl, st⟩
end Runs
section Rows
variable {p : Program} {l : Launch} {e : Env} {R : Room} {s : State} {m : MethodId} {args : Array Value} {below : List Frame} {meth : Method} {c : Code} {H : Heap} {locs : List Loc} {cells slots : Nat} {Q : State → Prop}
variable {mc ms : Nat} {free : Addr → Prop} {A0 A1 : Nat → Prop} {H0 : Heap} {a : Array Value} {pc : Nat} {ls : Array Slot} {st0 rest : List Value}
theorem vx_keep {st₀ t T' : State} {L : List Loc} (h0 : st₀.heap = H) (e1 : T'.heap = t.heap) (hS : va_S A0 H0 H locs) (hA : ∀ q, q < H.size → A1 q → A0 q) (hf : ∀ q, free q → A0 q) (hL : ∀ q ∈ L, free q.base) (hF : va_F A1 st₀ t) :
    H.size ≤ T'.heap.size ∧ (∀ q : Nat, q < H.size → ¬ A1 q → T'.heap[q]? = H[q]?) ∧ va_S A0 H0 T'.heap (locs ++ L) := by
  obtain ⟨hz, hk⟩ := hF
  rw [h0] at hz hk
  exact ⟨by rw [e1]; exact hz, fun q h1 h2 => by rw [e1]; exact hk q h1 h2,
    ⟨Nat.le_trans hS.1 (by rw [e1]; exact hz), fun q h1 h2 => by rw [e1, hk q (Nat.lt_of_lt_of_le h1 hS.1) (fun z => h2 (hA q (Nat.lt_of_lt_of_le h1 hS.1) z))]; exact hS.2.1 q h1 h2, fun q hq => by
      rcases List.mem_append.mp hq with h | h
      · exact hS.2.2 q h
      · exact hf _ (hL q h)⟩⟩
theorem vx_calli {S SX : Type} {post : Int32 → S → Prop} {px : SX → Prop} {B : S → State → Prop} {BX : String → SX → State → Prop} {AX : Nat → Prop} (hr : vx_Run p l e R s m args below meth c H locs cells slots mc ms (F0 m pc ls st0) rest (va_Qi post B A1 a) (vx_X px BX AX) free) (hS : va_S A0 H0 H locs) (hA : ∀ q, q < H.size → A1 q → A0 q) (hf : ∀ q, free q → A0 q) (hAX : ∀ q, q < H.size → AX q → A0 q)
    (kx : ∀ (E : String) (ce : Cell) (q9 : Addr) (u : SX) (t : State) (H1 : Heap) (locs1 : List Loc), t.heap = H1 → s.vm.Alike t.vm → px u → BX E u t → H.size ≤ H1.size → (∀ q : Nat, q < H.size → ¬ AX q → H1[q]? = H[q]?) → va_S A0 H0 H1 locs1 → H1[q9]? = some ce → ce.vm = .none → s.vm.findClass E = some ce.cls → vx_W p l e R s m args below meth c H1 locs1 (cells + mc) (slots + ms) Q (F0 m pc ls rest) q9)
    (kk : ∀ (r : Int32) (u : S) (t : State) (H1 : Heap) (locs1 : List Loc), t.heap = H1 → s.vm.Alike t.vm → post r u → B u t → H.size ≤ H1.size → (∀ q : Nat, q < H.size → ¬ A1 q → H1[q]? = H[q]?) → va_S A0 H0 H1 locs1 → W p l e R s m args below meth c H1 locs1 (cells + mc) (slots + ms) Q (F0 m (pc + 3) ls (.int r :: rest))) : W p l e R s m args below meth c H locs cells slots Q (F0 m pc ls st0) := by
  intro T hT X
  rcases hr T hT X with ⟨v, st₀, t, T', L, h0, X', hL, e1, e2, ⟨⟨r, u, hv, hp, hb⟩, hF⟩, st⟩ | ⟨q, st₀, t, T', L, E, ce, h0, X', hL, e1, e2, ⟨u, hp, hb, hF⟩, hce, hcv, hcl, st⟩
  · cases hv
    obtain ⟨k1, k2, k3⟩ := vx_keep h0 e1 hS hA hf hL hF
    obtain ⟨t2, a1, b1⟩ := kk r u t T'.heap (locs ++ L) e1.symm (by rw [← e2]; exact X'.warmed.alike) hp hb k1 k2 k3 T' rfl X'
    exact ⟨t2, st t2 a1, b1⟩
  · obtain ⟨k1, k2, k3⟩ := vx_keep h0 e1 hS hAX hf hL hF
    obtain ⟨t2, a1, b1⟩ := kx E ce q u t T'.heap (locs ++ L) e1.symm (by rw [← e2]; exact X'.warmed.alike) hp hb k1 k2 k3 (by rw [e1]; exact hce) hcv hcl T' rfl X'
    exact ⟨t2, st.trans a1, b1⟩
theorem vx_calll {S SX : Type} {post : Int64 → S → Prop} {px : SX → Prop} {B : S → State → Prop} {BX : String → SX → State → Prop} {AX : Nat → Prop} (hr : vx_Run p l e R s m args below meth c H locs cells slots mc ms (F0 m pc ls st0) rest (va_Ql post B A1 a) (vx_X px BX AX) free) (hS : va_S A0 H0 H locs) (hA : ∀ q, q < H.size → A1 q → A0 q) (hf : ∀ q, free q → A0 q) (hAX : ∀ q, q < H.size → AX q → A0 q)
    (kx : ∀ (E : String) (ce : Cell) (q9 : Addr) (u : SX) (t : State) (H1 : Heap) (locs1 : List Loc), t.heap = H1 → s.vm.Alike t.vm → px u → BX E u t → H.size ≤ H1.size → (∀ q : Nat, q < H.size → ¬ AX q → H1[q]? = H[q]?) → va_S A0 H0 H1 locs1 → H1[q9]? = some ce → ce.vm = .none → s.vm.findClass E = some ce.cls → vx_W p l e R s m args below meth c H1 locs1 (cells + mc) (slots + ms) Q (F0 m pc ls rest) q9)
    (kk : ∀ (r : Int64) (u : S) (t : State) (H1 : Heap) (locs1 : List Loc), t.heap = H1 → s.vm.Alike t.vm → post r u → B u t → H.size ≤ H1.size → (∀ q : Nat, q < H.size → ¬ A1 q → H1[q]? = H[q]?) → va_S A0 H0 H1 locs1 → W p l e R s m args below meth c H1 locs1 (cells + mc) (slots + ms) Q (F0 m (pc + 3) ls (.long r :: rest))) : W p l e R s m args below meth c H locs cells slots Q (F0 m pc ls st0) := by
  intro T hT X
  rcases hr T hT X with ⟨v, st₀, t, T', L, h0, X', hL, e1, e2, ⟨⟨r, u, hv, hp, hb⟩, hF⟩, st⟩ | ⟨q, st₀, t, T', L, E, ce, h0, X', hL, e1, e2, ⟨u, hp, hb, hF⟩, hce, hcv, hcl, st⟩
  · cases hv
    obtain ⟨k1, k2, k3⟩ := vx_keep h0 e1 hS hA hf hL hF
    obtain ⟨t2, a1, b1⟩ := kk r u t T'.heap (locs ++ L) e1.symm (by rw [← e2]; exact X'.warmed.alike) hp hb k1 k2 k3 T' rfl X'
    exact ⟨t2, st t2 a1, b1⟩
  · obtain ⟨k1, k2, k3⟩ := vx_keep h0 e1 hS hAX hf hL hF
    obtain ⟨t2, a1, b1⟩ := kx E ce q u t T'.heap (locs ++ L) e1.symm (by rw [← e2]; exact X'.warmed.alike) hp hb k1 k2 k3 (by rw [e1]; exact hce) hcv hcl T' rfl X'
    exact ⟨t2, st.trans a1, b1⟩
theorem vx_callf {S SX : Type} {post : UInt32 → S → Prop} {px : SX → Prop} {B : S → State → Prop} {BX : String → SX → State → Prop} {AX : Nat → Prop} (hr : vx_Run p l e R s m args below meth c H locs cells slots mc ms (F0 m pc ls st0) rest (va_Qf post B A1 a) (vx_X px BX AX) free) (hS : va_S A0 H0 H locs) (hA : ∀ q, q < H.size → A1 q → A0 q) (hf : ∀ q, free q → A0 q) (hAX : ∀ q, q < H.size → AX q → A0 q)
    (kx : ∀ (E : String) (ce : Cell) (q9 : Addr) (u : SX) (t : State) (H1 : Heap) (locs1 : List Loc), t.heap = H1 → s.vm.Alike t.vm → px u → BX E u t → H.size ≤ H1.size → (∀ q : Nat, q < H.size → ¬ AX q → H1[q]? = H[q]?) → va_S A0 H0 H1 locs1 → H1[q9]? = some ce → ce.vm = .none → s.vm.findClass E = some ce.cls → vx_W p l e R s m args below meth c H1 locs1 (cells + mc) (slots + ms) Q (F0 m pc ls rest) q9)
    (kk : ∀ (r : UInt32) (u : S) (t : State) (H1 : Heap) (locs1 : List Loc), t.heap = H1 → s.vm.Alike t.vm → post r u → B u t → H.size ≤ H1.size → (∀ q : Nat, q < H.size → ¬ A1 q → H1[q]? = H[q]?) → va_S A0 H0 H1 locs1 → W p l e R s m args below meth c H1 locs1 (cells + mc) (slots + ms) Q (F0 m (pc + 3) ls (.float r :: rest))) : W p l e R s m args below meth c H locs cells slots Q (F0 m pc ls st0) := by
  intro T hT X
  rcases hr T hT X with ⟨v, st₀, t, T', L, h0, X', hL, e1, e2, ⟨⟨r, u, hv, hp, hb⟩, hF⟩, st⟩ | ⟨q, st₀, t, T', L, E, ce, h0, X', hL, e1, e2, ⟨u, hp, hb, hF⟩, hce, hcv, hcl, st⟩
  · cases hv
    obtain ⟨k1, k2, k3⟩ := vx_keep h0 e1 hS hA hf hL hF
    obtain ⟨t2, a1, b1⟩ := kk r u t T'.heap (locs ++ L) e1.symm (by rw [← e2]; exact X'.warmed.alike) hp hb k1 k2 k3 T' rfl X'
    exact ⟨t2, st t2 a1, b1⟩
  · obtain ⟨k1, k2, k3⟩ := vx_keep h0 e1 hS hAX hf hL hF
    obtain ⟨t2, a1, b1⟩ := kx E ce q u t T'.heap (locs ++ L) e1.symm (by rw [← e2]; exact X'.warmed.alike) hp hb k1 k2 k3 (by rw [e1]; exact hce) hcv hcl T' rfl X'
    exact ⟨t2, st.trans a1, b1⟩
theorem vx_calld {S SX : Type} {post : UInt64 → S → Prop} {px : SX → Prop} {B : S → State → Prop} {BX : String → SX → State → Prop} {AX : Nat → Prop} (hr : vx_Run p l e R s m args below meth c H locs cells slots mc ms (F0 m pc ls st0) rest (va_Qd post B A1 a) (vx_X px BX AX) free) (hS : va_S A0 H0 H locs) (hA : ∀ q, q < H.size → A1 q → A0 q) (hf : ∀ q, free q → A0 q) (hAX : ∀ q, q < H.size → AX q → A0 q)
    (kx : ∀ (E : String) (ce : Cell) (q9 : Addr) (u : SX) (t : State) (H1 : Heap) (locs1 : List Loc), t.heap = H1 → s.vm.Alike t.vm → px u → BX E u t → H.size ≤ H1.size → (∀ q : Nat, q < H.size → ¬ AX q → H1[q]? = H[q]?) → va_S A0 H0 H1 locs1 → H1[q9]? = some ce → ce.vm = .none → s.vm.findClass E = some ce.cls → vx_W p l e R s m args below meth c H1 locs1 (cells + mc) (slots + ms) Q (F0 m pc ls rest) q9)
    (kk : ∀ (r : UInt64) (u : S) (t : State) (H1 : Heap) (locs1 : List Loc), t.heap = H1 → s.vm.Alike t.vm → post r u → B u t → H.size ≤ H1.size → (∀ q : Nat, q < H.size → ¬ A1 q → H1[q]? = H[q]?) → va_S A0 H0 H1 locs1 → W p l e R s m args below meth c H1 locs1 (cells + mc) (slots + ms) Q (F0 m (pc + 3) ls (.double r :: rest))) : W p l e R s m args below meth c H locs cells slots Q (F0 m pc ls st0) := by
  intro T hT X
  rcases hr T hT X with ⟨v, st₀, t, T', L, h0, X', hL, e1, e2, ⟨⟨r, u, hv, hp, hb⟩, hF⟩, st⟩ | ⟨q, st₀, t, T', L, E, ce, h0, X', hL, e1, e2, ⟨u, hp, hb, hF⟩, hce, hcv, hcl, st⟩
  · cases hv
    obtain ⟨k1, k2, k3⟩ := vx_keep h0 e1 hS hA hf hL hF
    obtain ⟨t2, a1, b1⟩ := kk r u t T'.heap (locs ++ L) e1.symm (by rw [← e2]; exact X'.warmed.alike) hp hb k1 k2 k3 T' rfl X'
    exact ⟨t2, st t2 a1, b1⟩
  · obtain ⟨k1, k2, k3⟩ := vx_keep h0 e1 hS hAX hf hL hF
    obtain ⟨t2, a1, b1⟩ := kx E ce q u t T'.heap (locs ++ L) e1.symm (by rw [← e2]; exact X'.warmed.alike) hp hb k1 k2 k3 (by rw [e1]; exact hce) hcv hcl T' rfl X'
    exact ⟨t2, st.trans a1, b1⟩
theorem vx_callv {S SX : Type} {post : S → Prop} {px : SX → Prop} {B : S → State → Prop} {BX : String → SX → State → Prop} {AX : Nat → Prop} (hr : vx_Run p l e R s m args below meth c H locs cells slots mc ms (F0 m pc ls st0) rest (va_Qv post B A1 a) (vx_X px BX AX) free) (hS : va_S A0 H0 H locs) (hA : ∀ q, q < H.size → A1 q → A0 q) (hf : ∀ q, free q → A0 q) (hAX : ∀ q, q < H.size → AX q → A0 q)
    (kx : ∀ (E : String) (ce : Cell) (q9 : Addr) (u : SX) (t : State) (H1 : Heap) (locs1 : List Loc), t.heap = H1 → s.vm.Alike t.vm → px u → BX E u t → H.size ≤ H1.size → (∀ q : Nat, q < H.size → ¬ AX q → H1[q]? = H[q]?) → va_S A0 H0 H1 locs1 → H1[q9]? = some ce → ce.vm = .none → s.vm.findClass E = some ce.cls → vx_W p l e R s m args below meth c H1 locs1 (cells + mc) (slots + ms) Q (F0 m pc ls rest) q9)
    (kk : ∀ (u : S) (t : State) (H1 : Heap) (locs1 : List Loc), t.heap = H1 → s.vm.Alike t.vm → post u → B u t → H.size ≤ H1.size → (∀ q : Nat, q < H.size → ¬ A1 q → H1[q]? = H[q]?) → va_S A0 H0 H1 locs1 → W p l e R s m args below meth c H1 locs1 (cells + mc) (slots + ms) Q (F0 m (pc + 3) ls (rest))) : W p l e R s m args below meth c H locs cells slots Q (F0 m pc ls st0) := by
  intro T hT X
  rcases hr T hT X with ⟨v, st₀, t, T', L, h0, X', hL, e1, e2, ⟨⟨u, hv, hp, hb⟩, hF⟩, st⟩ | ⟨q, st₀, t, T', L, E, ce, h0, X', hL, e1, e2, ⟨u, hp, hb, hF⟩, hce, hcv, hcl, st⟩
  · cases hv
    obtain ⟨k1, k2, k3⟩ := vx_keep h0 e1 hS hA hf hL hF
    obtain ⟨t2, a1, b1⟩ := kk u t T'.heap (locs ++ L) e1.symm (by rw [← e2]; exact X'.warmed.alike) hp hb k1 k2 k3 T' rfl X'
    exact ⟨t2, st t2 a1, b1⟩
  · obtain ⟨k1, k2, k3⟩ := vx_keep h0 e1 hS hAX hf hL hF
    obtain ⟨t2, a1, b1⟩ := kx E ce q u t T'.heap (locs ++ L) e1.symm (by rw [← e2]; exact X'.warmed.alike) hp hb k1 k2 k3 (by rw [e1]; exact hce) hcv hcl T' rfl X'
    exact ⟨t2, st.trans a1, b1⟩
/-- caught by the row x of this method's table; the rows ahead don't take it -/
theorem vx_catch {own name : String} {E : String} {ce : Cell} {q : Addr} (hown : s.vm.findClass own = some m.cls) (pre : List ExceptionTableEntry) (x : ExceptionTableEntry) (suf : List ExceptionTableEntry) (hsplit : c.exceptionTable.toList = pre ++ x :: suf)
    (hpass : ∀ z ∈ pre, covers z pc = false ∨ (z.catchType ≠ 0 ∧ ∃ nm : String, (Cond.classLink own z.catchType nm).before args s = true ∧ va_Nc E nm s)) (hx : covers x pc = true) (h0 : x.catchType ≠ 0)
    (hlink : (Cond.classLink own x.catchType name).before args s = true) (hcast : (Cond.castable E name).before args s = true) (hcell : H[q]? = some ce) (hv : ce.vm = .none) (hcl : s.vm.findClass E = some ce.cls)
    (kk : W p l e R s m args below meth c H locs cells slots Q (F0 m x.handlerPc ls [.ref q])) : vx_W p l e R s m args below meth c H locs cells slots Q (F0 m pc ls rest) q := by
  intro T hT X
  have hpl : e.platform.magicAccessors = ({} : Platform).magicAccessors := by rw [X.admits.platform]
  obtain ⟨c3, c4, hc3, hc4, hasg⟩ := Cond.castable_spec hcast
  cases Option.some.inj (hc3.symm.trans hcl)
  obtain ⟨c5, hc5, hcl5⟩ := Cond.classLink_spec hown hlink e.platform hpl
  cases Option.some.inj (hc4.symm.trans hc5)
  obtain ⟨vm', X', st⟩ := X.thenCaughtThrough q (g := F0 m pc ls rest) rfl (Steps.refl _) (by rw [hT]; exact hcell) (by rw [hv]; rfl) (by obtain ⟨k9, h9, -⟩ := Vm.findClass_spec hcl; exact ⟨k9, h9⟩) pre x suf hsplit
    (fun z hz => by
      rcases hpass z hz with h | ⟨hz0, nm, hl1, hn1⟩
      · exact Or.inl h
      · obtain ⟨c6, hc6, hcl6⟩ := Cond.classLink_spec hown hl1 e.platform hpl
        obtain ⟨a8, b8, h1, h2, h3⟩ := hn1
        cases Option.some.inj (h1.symm.trans hcl)
        cases Option.some.inj (h2.symm.trans hc6)
        exact Or.inr ⟨hz0, _, hcl6, h3⟩) hx (Or.inr ⟨h0, c4, hcl5, hasg⟩)
  obtain ⟨t, a1, b1⟩ := kk (T.setVm vm') hT X'
  exact ⟨t, st.trans a1, b1⟩
end Rows
section Ends
variable {p : Program} {l : Launch} {e : Env} {R : Room} {s : State} {m : MethodId} {args : Array Value} {below : List Frame} {meth : Method} {c : Code} {H : Heap} {locs : List Loc} {cells slots : Nat} {Q : State → Prop}
variable {mc ms : Nat} {free : Addr → Prop} {A0 A1 : Nat → Prop} {H0 : Heap} {a : Array Value} {ls : Array Slot} {st0 rest : List Value}
variable {Qc : Array Value → State → Outcome → State → Prop} {XC : String → State → State → Prop}
/-- what a body that may throw owes at its end -/
def vx_MQ (below : List Frame) (Qc : Array Value → State → Outcome → State → Prop) (XC : String → State → State → Prop) (a : Array Value) (s : State) (mc ms : Nat) (free : Addr → Prop) : State → Prop := fun t =>
  ∃ o, t.status = .running ∧ Ended t below o ∧ vx_Q Qc XC mc ms free a s o t
theorem vx_ret {g : JFrame} {mc ms : Nat} (k : W p l e R s m args below meth c H locs cells slots (MQ below Qc args s mc ms free) g) : W p l e R s m args below meth c H locs cells slots (vx_MQ below Qc XC args s mc ms free) g := by
  intro T hT X
  obtain ⟨t, a1, o, b1, b2, b3, b4⟩ := k T hT X
  exact ⟨t, a1, o, b1, b2, Or.inl ⟨b3, b4⟩⟩
/-- not caught here: it goes on to the caller -/
theorem vx_widen {g : JFrame} {q : Addr} {k n : Nat} (h1 : cells ≤ k) (h2 : slots ≤ n) (kk : vx_W p l e R s m args below meth c H locs k n Q g q) : vx_W p l e R s m args below meth c H locs cells slots Q g q := fun T hT X => kk T hT (stand_widen X h1 h2)
theorem vx_out {pc : Nat} {E : String} {ce : Cell} {q : Addr} {mc ms : Nat} (hout : ∀ x ∈ c.exceptionTable.toList, covers x pc = false) (hlocks : meth.locks = false) (hcell : H[q]? = some ce) (hv : ce.vm = .none) (hcl : s.vm.findClass E = some ce.cls)
    (hx : ∀ t : State, t.heap = H → s.vm.Alike t.vm → XC E s t) (hf : ∀ z ∈ locs, free z.base) (hc : cells ≤ mc) (hs : slots ≤ ms) :
    vx_W p l e R s m args below meth c H locs cells slots (vx_MQ below Qc XC args s mc ms free) (F0 m pc ls rest) q := by
  intro T hT X
  obtain ⟨st1, hrun, hend, hW, hsm⟩ := X.leaveThrown q (g := F0 m pc ls rest) rfl rfl rfl hout hlocks
  have hcell9 : (T.setFrames (.throwing q :: below)).heap[q]? = some ce := by
    show T.heap[q]? = some ce
    rw [hT]; exact hcell
  exact ⟨_, st1, .threw q, hrun, hend, Or.inr ⟨q, rfl, E, ce, locs, hx _ hT hW.alike, hcell9, hv, hcl, hW, hsm.mono hc hs, hf⟩⟩
theorem vx_frame {U : State} {k n : Nat} (h : s.sameButNew ({ U with vm := s.vm } : State) locs k n) : s.heap.size ≤ U.heap.size ∧ ∀ q : Nat, q < s.heap.size → (∀ z ∈ locs, z.base ≠ q) → U.heap[q]? = s.heap[q]? := by
  obtain ⟨-, h2, -, -, -, h6⟩ := h
  refine ⟨h2, fun q hq hz => ?_⟩
  obtain ⟨c9, e1, e2, e3, e4⟩ := h6 q _ (Array.getElem?_eq_getElem hq)
  have hs : c9.slots = (s.heap[q]).slots := Array.ext_getElem? fun i => e4 i fun hm => hz _ hm rfl
  have h9 : c9 = s.heap[q] := by
    rw [hs] at e2
    exact e2
  have e5 : U.heap[q]? = some c9 := e1
  rw [e5, h9, Array.getElem?_eq_getElem hq]
/-- the words of a throw but the four that speak of the heap -/
def vx_no (w : Cond) : Bool := decide (w ≠ .isRef (.static Bundle.tN "UNASSIGNED_STACK" Bundle.steD)) && decide (w ≠ .isRef (.static Bundle.tN "SUPPRESSED_SENTINEL" Bundle.listD)) && decide (w ≠ .laysStatic Bundle.tN "UNASSIGNED_STACK" Bundle.steD) && decide (w ≠ .laysStatic Bundle.tN "SUPPRESSED_SENTINEL" Bundle.listD)
def vx_at0 (own : String) (ic : Nat) (X : String) (names : List String) : List Cond := (Bundle.ownAtoms0 own ic X names).filter vx_no
def vx_atS (own : String) (ic : Nat) (X : String) (names : List String) : List Cond := (Bundle.ownAtoms own ic X names).filter vx_no
/-- a word that the tables alone decide, or a good one -/
def vx_ot (w : Cond) : Bool := w.onTables || goodWord w
theorem vx_ot_at {args a' : Array Value} {s U : State} {w : Cond} (hW : s.WarmedH U.vm) (hvm : s.vm = U.vm) (hg : vx_ot w = true) (h : w.before args s = true) : w.before a' U = true := by
  simp only [vx_ot, Bool.or_eq_true] at hg
  rcases hg with hg | hg
  · exact va_tabs hg hvm h
  · exact word_at hW (good_of_word hg) h
/-- a list's words: the good ones out of the method's own list, the others by premises of their own -/
theorem vx_hat {args : Array Value} {s : State} {L B : List Cond} (h1 : ∀ w ∈ L.filter goodWord, w.before args s = true) (h2 : ∀ w ∈ L.filter (fun w => !goodWord w), w ∈ B) (h3 : ∀ w ∈ B, w.before args s = true) : ∀ w ∈ L, w.before args s = true := by
  intro w hw
  by_cases g : goodWord w = true
  · exact h1 w (List.mem_filter.mpr ⟨hw, g⟩)
  · refine h3 w (h2 w (List.mem_filter.mpr ⟨hw, ?_⟩))
    show (!goodWord w) = true
    cases hgw : goodWord w
    · rfl
    · exact absurd hgw g
theorem vx_c {args : Array Value} {s : State} {w : Cond} {B : List Cond} (h : w.before args s = true) (t : ∀ w ∈ B, w.before args s = true) : ∀ w' ∈ w :: B, w'.before args s = true := fun w' h' => (List.mem_cons.mp h').elim (fun e => by rw [e]; exact h) (t w')
theorem vx_n {args : Array Value} {s : State} : ∀ w ∈ ([] : List Cond), w.before args s = true := fun _ h => nomatch h
theorem vx_own {args : Array Value} {s : State} {L : List Cond} (h1 : ∀ w ∈ L.filter vx_no, w.before args s = true)
    (hU : (Cond.isRef (.static Bundle.tN "UNASSIGNED_STACK" Bundle.steD)).before args s = true) (hN : (Cond.isRef (.static Bundle.tN "SUPPRESSED_SENTINEL" Bundle.listD)).before args s = true)
    (lU : (Cond.laysStatic Bundle.tN "UNASSIGNED_STACK" Bundle.steD).before args s = true) (lN : (Cond.laysStatic Bundle.tN "SUPPRESSED_SENTINEL" Bundle.listD).before args s = true) : ∀ w ∈ L, w.before args s = true := by
  intro w hw
  by_cases e1 : w = .isRef (.static Bundle.tN "UNASSIGNED_STACK" Bundle.steD)
  · rw [e1]; exact hU
  · by_cases e2 : w = .isRef (.static Bundle.tN "SUPPRESSED_SENTINEL" Bundle.listD)
    · rw [e2]; exact hN
    · by_cases e3 : w = .laysStatic Bundle.tN "UNASSIGNED_STACK" Bundle.steD
      · rw [e3]; exact lU
      · by_cases e4 : w = .laysStatic Bundle.tN "SUPPRESSED_SENTINEL" Bundle.listD
        · rw [e4]; exact lN
        · exact h1 w (List.mem_filter.mpr ⟨hw, by unfold vx_no; rw [decide_eq_true e1, decide_eq_true e2, decide_eq_true e3, decide_eq_true e4]; rfl⟩)
/-- where a static field lies, its class's statics cell in H -/
def vx_L (C n d : String) (A : Nat → Prop) (U : State) (H : Heap) : Prop := ∃ (c : ClassId) (k : Class) (i : Nat) (f : Field) (a : Nat) (cell : Cell), U.vm.findClass C = some c ∧ U.fieldFound? C n d = some (c, k, i, f) ∧ f.isStatic = true ∧ k.statics = some a ∧ H[a]? = some cell ∧ cell.vm.isStatics = true ∧ cell.cls = c ∧ f.slot < cell.slots.size ∧ k.staticTypes[f.slot]? = some f.type ∧ ¬ A a
theorem vx_L.moved {C n d : String} {A : Nat → Prop} {u U : State} {H : Heap} (hvm : u.vm.Alike U.vm) (h : vx_L C n d A u H) : vx_L C n d A U H := by
  obtain ⟨c, k, i, f, a, cell, h1, h2, h3, h4, h5, h6, h7, h8, h9, h10⟩ := h
  obtain ⟨k', hi', he⟩ := State.fieldFound?_setVm hvm h2
  exact ⟨c, k', i, f, a, cell, by rw [hvm.findClass]; exact h1, hi', h3, by rw [he]; exact h4, h5, h6, h7, h8, by rw [he]; exact h9, h10⟩
theorem vx_L.kept {C n d : String} {A : Nat → Prop} {U : State} {H H1 : Heap} (h : vx_L C n d A U H) (hq : ∀ a : Nat, a < H.size → ¬ A a → H1[a]? = H[a]?) : vx_L C n d A U H1 := by
  obtain ⟨c, k, i, f, a, cell, h1, h2, h3, h4, h5, h6, h7, h8, h9, h10⟩ := h
  exact ⟨c, k, i, f, a, cell, h1, h2, h3, h4, by rw [hq a (Array.getElem?_eq_some_iff.mp h5).1 h10]; exact h5, h6, h7, h8, h9, h10⟩
theorem vx_L.narrow {C n d : String} {A B : Nat → Prop} {U : State} {H : Heap} (h : vx_L C n d A U H) (hAB : ∀ q, B q → A q) : vx_L C n d B U H := by
  obtain ⟨c, k, i, f, a, cell, h1, h2, h3, h4, h5, h6, h7, h8, h9, h10⟩ := h
  exact ⟨c, k, i, f, a, cell, h1, h2, h3, h4, h5, h6, h7, h8, h9, fun z => h10 (hAB _ z)⟩
theorem vx_L.word {C n d : String} {A : Nat → Prop} {s : State} {args : Array Value} (h : vx_L C n d A s s.heap) : (Cond.laysStatic C n d).before args s = true := by
  obtain ⟨c, k, i, f, a, cell, h1, h2, h3, h4, h5, h6, h7, h8, h9, -⟩ := h
  show (Cond.laysStatic C n d).holds args s none s [] = true
  exact Cond.laysStatic_of h1 h2 h3 h4 h5 h6 h7 h8 h9
/-- .. and what it holds: null or some reference -/
def vx_Zq (C n d : String) (A : Nat → Prop) (U : State) (H : Heap) : Prop := va_Zq C n d A U H ∧ vx_L C n d A U H
theorem vx_Zq.moved {C n d : String} {A : Nat → Prop} {u U : State} {H : Heap} (hvm : u.vm.Alike U.vm) (h : vx_Zq C n d A u H) : vx_Zq C n d A U H := ⟨va_Zq.moved hvm h.1, vx_L.moved hvm h.2⟩
theorem vx_Zq.kept {C n d : String} {A : Nat → Prop} {U : State} {H H1 : Heap} (h : vx_Zq C n d A U H) (hq : ∀ a : Nat, a < H.size → ¬ A a → H1[a]? = H[a]?) : vx_Zq C n d A U H1 := ⟨va_Zq.kept h.1 hq, vx_L.kept h.2 hq⟩
theorem vx_Zq.narrow {C n d : String} {A B : Nat → Prop} {U : State} {H : Heap} (h : vx_Zq C n d A U H) (hAB : ∀ q, B q → A q) : vx_Zq C n d B U H := ⟨va_Zq.narrow h.1 hAB, vx_L.narrow h.2 hAB⟩
theorem vx_Zqof {args : Array Value} {s : State} {C n d : String} {A : Nat → Prop} (hl : (Cond.laysStatic C n d).before args s = true) (hini : (Cond.initialized C).before args s = true) (h : (Cond.isRef (.static C n d)).before args s = true) (hA : ∀ a : Nat, a < s.heap.size → ¬ A a) : vx_Zq C n d A s s.heap := by
  refine ⟨va_Zqof hl hini h hA, ?_⟩
  obtain ⟨c, k, i, f, a, cell, h1, h2, h3, h4, h5, h6, h7, h8, h9⟩ := Cond.laysStatic_spec hl
  exact ⟨c, k, i, f, a, cell, h1, h2, h3, h4, h5, h6, h7, h8, h9, hA a (Array.getElem?_eq_some_iff.mp h5).1⟩
theorem vx_isRef {C n d : String} {v : Value} {A : Nat → Prop} {s : State} {args : Array Value} (h : va_Z C n d v A s s.heap) (hv : v.isRef = true) : (Cond.isRef (.static C n d)).before args s = true := by
  obtain ⟨cf, kf, fi, f, a, cell, h1, h2, h3, h4, h5, h6, h7, -⟩ := h
  have he : (Term.static C n d).eval args s none [] s = some v := by
    simp [Term.eval, State.fieldNamed?, h1, h2, h4, h5, h6, h7]
  simp only [Cond.before, Cond.holds, Cond.value, he]
  cases v <;> simp_all [Value.isRef]
theorem vx_isRefq {C n d : String} {A : Nat → Prop} {s : State} {args : Array Value} (h : va_Zq C n d A s s.heap) : (Cond.isRef (.static C n d)).before args s = true := by
  rcases h with h | ⟨t, h⟩
  · exact vx_isRef h rfl
  · exact vx_isRef h rfl
/-- the same frame, seen from here: as if the method were called anew in this heap -/
theorem vx_rebase {T : State} (X : Stand p l e R s m args below meth c T locs cells slots) {R' : Room} (hf : R'.frames ≤ R.frames) (hl : R'.locals ≤ R.locals) (hc : cells + R'.cells ≤ R.cells) (hs : slots + R'.slots ≤ R.slots) :
    Stand p l e R' ((T.setVm s.vm).setFrames (.invoking m args :: below)) m args below meth c T [] 0 0 := by
  have htop : (T.setVm s.vm).topJava?.isSome := X.here.top
  have hF : ((T.setVm s.vm).setFrames (.invoking m args :: below)).frames = .invoking m args :: below := State.frames_setFrames _ (State.cur_lt_of_top htop)
  obtain ⟨g₀, hg0⟩ := Option.isSome_iff_exists.mp htop
  obtain ⟨r, hr⟩ := State.topJava?_eq_some.mp hg0
  have hl9 : e.platform.stackLimits (T.setVm s.vm).me = e.platform.stackLimits s.me := X.limits
  have hb9 : (T.setVm s.vm).me.stackBytes = s.me.stackBytes := X.bytes
  refine ⟨X.admits, X.cas, X.clock, hF, ?_, X.hears, X.method, X.code, X.here, X.tail, X.warmed, ?_, ?_, ?_⟩
  · have h := X.room
    have hU : ((T.setVm s.vm).setFrames (.invoking m args :: below)).localsInUse = s.localsInUse := by
      rw [State.localsInUse_invoking hF (meth := meth) (c := c) X.method X.code, State.localsInUse_invoking X.frames X.method X.code]
    simp only [State.hasRoom, Bool.and_eq_true, decide_eq_true_eq] at h ⊢
    obtain ⟨⟨⟨⟨h1, h2, h3, h4, h5, h6⟩, h7⟩, h8⟩, h9⟩ := h
    rw [X.frames, List.length_cons] at h2 h3
    have q1 := X.heapSize
    have q2 := X.used
    simp only [hF, hU, List.length_cons, State.stackLimits_setFrames, State.stackBytes_setFrames, hl9, hb9]
    refine ⟨⟨⟨⟨by omega, by omega, by omega, by omega, by omega, h6⟩, ?_⟩, ?_⟩, X.book⟩
    · show T.heap.size + R'.cells ≤ e.platform.maxCells
      omega
    · show T.slotsUsed + R'.slots ≤ e.platform.maxSlots
      omega
  · rw [State.stackLimits_setFrames]; rfl
  · rw [State.stackBytes_setFrames]; rfl
  · refine ⟨?_, Nat.le_refl _, Nat.le_refl _, ?_, ?_, fun a c9 h9 => ⟨c9, h9, rfl, rfl, fun _ _ => rfl⟩⟩
    · obtain ⟨t, ht, -⟩ := State.frames_cons hr
      show T.setVm s.vm = { ((T.setVm s.vm).setFrames (.invoking m args :: below)).setFrames (T.setVm s.vm).frames with heap := T.heap, slotsUsed := T.slotsUsed }
      rw [State.setFrames_setFrames, State.setFrames_self ht]
      rfl
    · show T.slotsUsed = T.slotsUsed + ((T.heap.toList.drop T.heap.size).map (·.slots.size)).sum
      rw [List.drop_eq_nil_of_le (Nat.le_of_eq Array.length_toList)]
      rfl
    · show ((T.heap.toList.drop T.heap.size).map (·.slots.size)).sum ≤ 0
      rw [List.drop_eq_nil_of_le (Nat.le_of_eq Array.length_toList)]
      exact Nat.le_refl _
/-- 'throw new E()': new; dup; invokespecial; athrow -/
theorem vx_throw0 {cc : ByteArray} {pc : Nat} (hexec : p.tables.exec = Jvm.exec) (hb : c.code = cc) (hl : l.stackTraces = false) {own cls : String} {names : List String} {ik ic mc ms : Nat} {A : Nat → Prop}
    (hown : s.vm.findClass own = some m.cls) (hcls : Bundle.fit cls = true) (hnames : ∀ n ∈ names, Bundle.fit n = true)
    (hk : (Cond.classLink own ik cls).before args s = true) (hini : (Cond.initialized cls).before args s = true) (hat : ∀ w ∈ vx_at0 own ic cls names, w.before args s = true)
    (hgood : ∀ w ∈ Cond.classLink own ik cls :: Cond.initialized cls :: vx_at0 own ic cls names, vx_ot w = true)
    (hU : vx_Zq Bundle.tN "UNASSIGNED_STACK" Bundle.steD A s s.heap) (hN : vx_Zq Bundle.tN "SUPPRESSED_SENTINEL" Bundle.listD A s s.heap) (hS : va_S A s.heap H locs) (hsize : ls.size = c.maxLocals)
    (d0 : decode cc pc = .ok (.new ik, 3)) (d3 : decode cc (pc + 3) = .ok (.dup, 1)) (d4 : decode cc (pc + 4) = .ok (.invokespecial ic, 3)) (d7 : decode cc (pc + 7) = .ok (.athrow, 1))
    (hout : ∀ x ∈ c.exceptionTable.toList, covers x (pc + 7) = false)
    (hRframes : names.length + 3 < R.frames) (hRlocals : (rest.map fun v => v.category).sum + (13 * (names.length + 1) + 42) ≤ R.locals) (hRcells : cells + 1 ≤ R.cells) (hRslots : slots + 6 ≤ R.slots) (hlocks : meth.locks = false)
    (hx : ∀ t : State, s.vm.Alike t.vm → H.size ≤ t.heap.size → (∀ q : Nat, q < H.size → t.heap[q]? = H[q]?) → XC cls s t)
    (hf : ∀ z ∈ locs, free z.base) (hc : cells + 1 ≤ mc) (hs : slots + 6 ≤ ms) :
    W p l e R s m args below meth c H locs cells slots (vx_MQ below Qc XC args s mc ms free) (F0 m pc ls rest) := by
  intro T hT X
  have htr : e.platform.stackTraces = false := (show e.platform.stackTraces = l.stackTraces by rw [X.admits.platform]).trans hl
  have Y := vx_rebase X (R' := { frames := R.frames, locals := R.locals, cells := 1, slots := 6 }) (Nat.le_refl _) (Nat.le_refl _) hRcells hRslots
  obtain ⟨s', hA⟩ : ∃ z, z = (T.setVm s.vm).setFrames (.invoking m args :: below) := ⟨_, rfl⟩
  rw [← hA] at Y
  have hvm : s'.vm = s.vm := by rw [hA]; rfl
  have hhp : s'.heap = H := by rw [hA]; exact hT
  have hW0 : s.WarmedH s'.vm := by rw [hvm]; exact State.WarmedH.refl s
  have hat' : ∀ w ∈ vx_at0 own ic cls names, w.before args s' = true := fun w hw => vx_ot_at hW0 hvm.symm (hgood w (List.mem_cons_of_mem _ (List.mem_cons_of_mem _ hw))) (hat w hw)
  have hk' : (Cond.classLink own ik cls).before args s' = true := vx_ot_at hW0 hvm.symm (hgood _ List.mem_cons_self) hk
  have hini' : (Cond.initialized cls).before args s' = true := vx_ot_at hW0 hvm.symm (hgood _ (List.mem_cons_of_mem _ List.mem_cons_self)) hini
  have hU' : vx_Zq Bundle.tN "UNASSIGNED_STACK" Bundle.steD A s' s'.heap := by rw [hhp]; exact vx_Zq.moved hW0.alike (hU.kept hS.2.1)
  have hN' : vx_Zq Bundle.tN "SUPPRESSED_SENTINEL" Bundle.listD A s' s'.heap := by rw [hhp]; exact vx_Zq.moved hW0.alike (hN.kept hS.2.1)
  have h : ∀ w ∈ Bundle.ownAtoms0 own ic cls names, w.before args s' = true := vx_own hat' (vx_isRefq hU'.1) (vx_isRefq hN'.1) hU'.2.word hN'.2.word
  have hown' : s'.vm.findClass own = some m.cls := by rw [hvm]; exact hown
  have hins : (Cond.instantiable cls 6).before args s' = true := h _ (by simp [Bundle.ownAtoms0])
  obtain ⟨vm₁, cX, kX, hfX, hkX, -, -, X₁, st1⟩ := Y.newCold hexec (own := own) (C := cls) (index := ik) (n := 6) hown' hk' hins hini'
    (g := F0 m pc ls rest) rfl (by rw [hb]; exact d0) (Nat.le_refl _) (Nat.le_refl _)
  generalize hT1 : (T.setVm vm₁).pushCell { cls := cX, slots := kX.instanceTypes.map defaultValue, vm := .none } = T1 at X₁ st1
  have hcat : (Value.ref T.heap.size).category = 1 := rfl
  have hcellA : T1.heap[T.heap.size]? = some (freshCell cX kX) := by rw [← hT1]; exact State.heap_pushCell_size _ _
  have d3' : decode c.code (pc + 3) = .ok (.dup, 1) := by rw [hb]; exact d3
  obtain ⟨U, hsteps, hrun, hend, hW, hsame, ce, hce, hO⟩ := X₁.ctorThrow0 hexec htr (own := own) (cls := cls) (names := names) (ic := ic) hown' hcls hnames h (fun x hx => nomatch hx) hfX hkX hcellA (by rw [hhp, hT]; exact Nat.le_refl _)
    (g := { method := m, pc := pc + 4, locals := ls, stack := .ref T.heap.size :: .ref T.heap.size :: rest, locked := none }) rfl hsize rfl rfl (rest := rest) rfl
    (by rw [hb]; exact d4) (by rw [hb]; exact d7) hout hRframes (by simp only [List.map_cons, List.sum_cons, hcat]; omega) hlocks
  obtain ⟨f1, f2⟩ := vx_frame hsame
  rw [hhp] at f1 f2
  have hWs : s.WarmedH U.vm := State.WarmedH.trans hW0 hW
  have hcl : s.vm.findClass cls = some ce.cls := by
    have h9 := hO.cls
    rw [hvm] at h9
    exact h9
  have hall : s.sameButNew ({ U with vm := s.vm } : State) locs mc ms := by
    subst hA
    obtain ⟨e1, e2⟩ := hsame
    rw [State.setFrames_setFrames] at e1
    have h2 : (T.setVm s.vm).sameButNew ({ U with vm := s.vm } : State) [] (0 + 1) (0 + 6) := ⟨e1, e2⟩
    have h3 := X.same.trans h2
    rw [List.append_nil] at h3
    exact h3.mono hc hs
  refine ⟨U, ?_, .threw T.heap.size, hrun, hend, Or.inr ⟨T.heap.size, rfl, cls, ce, locs, hx U hWs.alike f1 (fun q hq => f2 q hq (fun z hz => nomatch hz)), hce, hO.vm, hcl, hWs, hall, hf⟩⟩
  refine st1 _ ?_
  show Steps p.tables e below (T1.setTop { method := m, pc := pc + 3, locals := ls, stack := .ref T.heap.size :: rest, locked := none }) _
  jvm_step X₁.here [X₁.here.top, hexec, d3', Value.category]
  exact hsteps
/-- 'throw new E("text")': new; dup; ldc; invokespecial; athrow -/
theorem vx_throwS {cc : ByteArray} {pc : Nat} (hexec : p.tables.exec = Jvm.exec) (hb : c.code = cc) (hl : l.stackTraces = false) {own cls text : String} {names : List String} {ik is ic mc ms sa : Nat} {A : Nat → Prop}
    (hown : s.vm.findClass own = some m.cls) (hcls : Bundle.fit cls = true) (hnames : ∀ n ∈ names, Bundle.fit n = true)
    (hk : (Cond.classLink own ik cls).before args s = true) (hini : (Cond.initialized cls).before args s = true) (hstr : vk_R own is text sa s) (hat : ∀ w ∈ vx_atS own ic cls names, w.before args s = true)
    (hgood : ∀ w ∈ Cond.classLink own ik cls :: Cond.initialized cls :: vx_atS own ic cls names, vx_ot w = true)
    (hU : vx_Zq Bundle.tN "UNASSIGNED_STACK" Bundle.steD A s s.heap) (hN : vx_Zq Bundle.tN "SUPPRESSED_SENTINEL" Bundle.listD A s s.heap) (hS : va_S A s.heap H locs) (hsize : ls.size = c.maxLocals)
    (d0 : decode cc pc = .ok (.new ik, 3)) (d3 : decode cc (pc + 3) = .ok (.dup, 1)) (d4 : decode cc (pc + 4) = .ok (.ldc is, 2)) (d6 : decode cc (pc + 6) = .ok (.invokespecial ic, 3)) (d9 : decode cc (pc + 9) = .ok (.athrow, 1))
    (hout : ∀ x ∈ c.exceptionTable.toList, covers x (pc + 9) = false)
    (hRframes : names.length + 3 < R.frames) (hRlocals : (rest.map fun v => v.category).sum + (13 * (names.length + 1) + 43) ≤ R.locals) (hRcells : cells + 1 ≤ R.cells) (hRslots : slots + 6 ≤ R.slots) (hlocks : meth.locks = false)
    (hx : ∀ t : State, s.vm.Alike t.vm → H.size ≤ t.heap.size → (∀ q : Nat, q < H.size → t.heap[q]? = H[q]?) → XC cls s t)
    (hf : ∀ z ∈ locs, free z.base) (hc : cells + 1 ≤ mc) (hs : slots + 6 ≤ ms) :
    W p l e R s m args below meth c H locs cells slots (vx_MQ below Qc XC args s mc ms free) (F0 m pc ls rest) := by
  intro T hT X
  have htr : e.platform.stackTraces = false := (show e.platform.stackTraces = l.stackTraces by rw [X.admits.platform]).trans hl
  have Y := vx_rebase X (R' := { frames := R.frames, locals := R.locals, cells := 1, slots := 6 }) (Nat.le_refl _) (Nat.le_refl _) hRcells hRslots
  obtain ⟨s', hA⟩ : ∃ z, z = (T.setVm s.vm).setFrames (.invoking m args :: below) := ⟨_, rfl⟩
  rw [← hA] at Y
  have hvm : s'.vm = s.vm := by rw [hA]; rfl
  have hhp : s'.heap = H := by rw [hA]; exact hT
  have hW0 : s.WarmedH s'.vm := by rw [hvm]; exact State.WarmedH.refl s
  have hat' : ∀ w ∈ vx_atS own ic cls names, w.before args s' = true := fun w hw => vx_ot_at hW0 hvm.symm (hgood w (List.mem_cons_of_mem _ (List.mem_cons_of_mem _ hw))) (hat w hw)
  have hk' : (Cond.classLink own ik cls).before args s' = true := vx_ot_at hW0 hvm.symm (hgood _ List.mem_cons_self) hk
  have hini' : (Cond.initialized cls).before args s' = true := vx_ot_at hW0 hvm.symm (hgood _ (List.mem_cons_of_mem _ List.mem_cons_self)) hini
  have hU' : vx_Zq Bundle.tN "UNASSIGNED_STACK" Bundle.steD A s' s'.heap := by rw [hhp]; exact vx_Zq.moved hW0.alike (hU.kept hS.2.1)
  have hN' : vx_Zq Bundle.tN "SUPPRESSED_SENTINEL" Bundle.listD A s' s'.heap := by rw [hhp]; exact vx_Zq.moved hW0.alike (hN.kept hS.2.1)
  have h : ∀ w ∈ Bundle.ownAtoms own ic cls names, w.before args s' = true := vx_own hat' (vx_isRefq hU'.1) (vx_isRefq hN'.1) hU'.2.word hN'.2.word
  have hown' : s'.vm.findClass own = some m.cls := by rw [hvm]; exact hown
  have hins : (Cond.instantiable cls 6).before args s' = true := h _ (by simp [Bundle.ownAtoms])
  obtain ⟨vm₁, cX, kX, hfX, hkX, -, -, X₁, st1⟩ := Y.newCold hexec (own := own) (C := cls) (index := ik) (n := 6) hown' hk' hins hini'
    (g := F0 m pc ls rest) rfl (by rw [hb]; exact d0) (Nat.le_refl _) (Nat.le_refl _)
  generalize hT1 : (T.setVm vm₁).pushCell { cls := cX, slots := kX.instanceTypes.map defaultValue, vm := .none } = T1 at X₁ st1
  have hcat : (Value.ref T.heap.size).category = 1 := rfl
  have hcellA : T1.heap[T.heap.size]? = some (freshCell cX kX) := by rw [← hT1]; exact State.heap_pushCell_size _ _
  have d3' : decode c.code (pc + 3) = .ok (.dup, 1) := by rw [hb]; exact d3
  have d4' : decode c.code (pc + 4) = .ok (.ldc is, 2) := by rw [hb]; exact d4
  have hstr' : vk_R own is text sa s' := vk_R.warm hW0 hstr
  obtain ⟨U, hsteps, hrun, hend, hW, hsame, ce, hce, hO⟩ := X₁.ctorThrowS hexec htr (own := own) (cls := cls) (names := names) (ic := ic) hown' hcls hnames h (fun x hx => nomatch hx) hfX hkX hcellA (by rw [hhp, hT]; exact Nat.le_refl _) (msg := .ref sa) rfl
    (g := { method := m, pc := pc + 6, locals := ls, stack := .ref sa :: .ref T.heap.size :: .ref T.heap.size :: rest, locked := none }) rfl hsize rfl rfl (rest := rest) rfl
    (by rw [hb]; exact d6) (by rw [hb]; exact d9) hout hRframes (by simp only [List.map_cons, List.sum_cons, hcat]; omega) hlocks
  obtain ⟨f1, f2⟩ := vx_frame hsame
  rw [hhp] at f1 f2
  have hWs : s.WarmedH U.vm := State.WarmedH.trans hW0 hW
  have hcl : s.vm.findClass cls = some ce.cls := by
    have h9 := hO.cls
    rw [hvm] at h9
    exact h9
  have hall : s.sameButNew ({ U with vm := s.vm } : State) locs mc ms := by
    subst hA
    obtain ⟨e1, e2⟩ := hsame
    rw [State.setFrames_setFrames] at e1
    have h2 : (T.setVm s.vm).sameButNew ({ U with vm := s.vm } : State) [] (0 + 1) (0 + 6) := ⟨e1, e2⟩
    have h3 := X.same.trans h2
    rw [List.append_nil] at h3
    exact h3.mono hc hs
  refine ⟨U, ?_, .threw T.heap.size, hrun, hend, Or.inr ⟨T.heap.size, rfl, cls, ce, locs, hx U hWs.alike f1 (fun q hq => f2 q hq (fun z hz => nomatch hz)), hce, hO.vm, hcl, hWs, hall, hf⟩⟩
  refine st1 _ ?_
  show Steps p.tables e below (T1.setTop { method := m, pc := pc + 3, locals := ls, stack := .ref T.heap.size :: rest, locked := none }) _
  jvm_step X₁.here [X₁.here.top, hexec, d3', Value.category]
  exact X₁.ldcString hexec (own := own) (text := text) (index := is) (a := sa) hown' hstr'.1 hstr'.2
    (g := { method := m, pc := pc + 4, locals := ls, stack := .ref T.heap.size :: .ref T.heap.size :: rest, locked := none }) rfl d4' _ hsteps
/-- 'throw new E("text")', the text by a wide index -/
theorem vx_throwSW {cc : ByteArray} {pc : Nat} (hexec : p.tables.exec = Jvm.exec) (hb : c.code = cc) (hl : l.stackTraces = false) {own cls text : String} {names : List String} {ik is ic mc ms sa : Nat} {A : Nat → Prop}
    (hown : s.vm.findClass own = some m.cls) (hcls : Bundle.fit cls = true) (hnames : ∀ n ∈ names, Bundle.fit n = true)
    (hk : (Cond.classLink own ik cls).before args s = true) (hini : (Cond.initialized cls).before args s = true) (hstr : vk_R own is text sa s) (hat : ∀ w ∈ vx_atS own ic cls names, w.before args s = true)
    (hgood : ∀ w ∈ Cond.classLink own ik cls :: Cond.initialized cls :: vx_atS own ic cls names, vx_ot w = true)
    (hU : vx_Zq Bundle.tN "UNASSIGNED_STACK" Bundle.steD A s s.heap) (hN : vx_Zq Bundle.tN "SUPPRESSED_SENTINEL" Bundle.listD A s s.heap) (hS : va_S A s.heap H locs) (hsize : ls.size = c.maxLocals)
    (d0 : decode cc pc = .ok (.new ik, 3)) (d3 : decode cc (pc + 3) = .ok (.dup, 1)) (d4 : decode cc (pc + 4) = .ok (.ldc_w is, 3)) (d7 : decode cc (pc + 7) = .ok (.invokespecial ic, 3)) (d10 : decode cc (pc + 10) = .ok (.athrow, 1))
    (hout : ∀ x ∈ c.exceptionTable.toList, covers x (pc + 10) = false)
    (hRframes : names.length + 3 < R.frames) (hRlocals : (rest.map fun v => v.category).sum + (13 * (names.length + 1) + 43) ≤ R.locals) (hRcells : cells + 1 ≤ R.cells) (hRslots : slots + 6 ≤ R.slots) (hlocks : meth.locks = false)
    (hx : ∀ t : State, s.vm.Alike t.vm → H.size ≤ t.heap.size → (∀ q : Nat, q < H.size → t.heap[q]? = H[q]?) → XC cls s t)
    (hf : ∀ z ∈ locs, free z.base) (hc : cells + 1 ≤ mc) (hs : slots + 6 ≤ ms) :
    W p l e R s m args below meth c H locs cells slots (vx_MQ below Qc XC args s mc ms free) (F0 m pc ls rest) := by
  intro T hT X
  have htr : e.platform.stackTraces = false := (show e.platform.stackTraces = l.stackTraces by rw [X.admits.platform]).trans hl
  have Y := vx_rebase X (R' := { frames := R.frames, locals := R.locals, cells := 1, slots := 6 }) (Nat.le_refl _) (Nat.le_refl _) hRcells hRslots
  obtain ⟨s', hA⟩ : ∃ z, z = (T.setVm s.vm).setFrames (.invoking m args :: below) := ⟨_, rfl⟩
  rw [← hA] at Y
  have hvm : s'.vm = s.vm := by rw [hA]; rfl
  have hhp : s'.heap = H := by rw [hA]; exact hT
  have hW0 : s.WarmedH s'.vm := by rw [hvm]; exact State.WarmedH.refl s
  have hat' : ∀ w ∈ vx_atS own ic cls names, w.before args s' = true := fun w hw => vx_ot_at hW0 hvm.symm (hgood w (List.mem_cons_of_mem _ (List.mem_cons_of_mem _ hw))) (hat w hw)
  have hk' : (Cond.classLink own ik cls).before args s' = true := vx_ot_at hW0 hvm.symm (hgood _ List.mem_cons_self) hk
  have hini' : (Cond.initialized cls).before args s' = true := vx_ot_at hW0 hvm.symm (hgood _ (List.mem_cons_of_mem _ List.mem_cons_self)) hini
  have hU' : vx_Zq Bundle.tN "UNASSIGNED_STACK" Bundle.steD A s' s'.heap := by rw [hhp]; exact vx_Zq.moved hW0.alike (hU.kept hS.2.1)
  have hN' : vx_Zq Bundle.tN "SUPPRESSED_SENTINEL" Bundle.listD A s' s'.heap := by rw [hhp]; exact vx_Zq.moved hW0.alike (hN.kept hS.2.1)
  have h : ∀ w ∈ Bundle.ownAtoms own ic cls names, w.before args s' = true := vx_own hat' (vx_isRefq hU'.1) (vx_isRefq hN'.1) hU'.2.word hN'.2.word
  have hown' : s'.vm.findClass own = some m.cls := by rw [hvm]; exact hown
  have hins : (Cond.instantiable cls 6).before args s' = true := h _ (by simp [Bundle.ownAtoms])
  obtain ⟨vm₁, cX, kX, hfX, hkX, -, -, X₁, st1⟩ := Y.newCold hexec (own := own) (C := cls) (index := ik) (n := 6) hown' hk' hins hini'
    (g := F0 m pc ls rest) rfl (by rw [hb]; exact d0) (Nat.le_refl _) (Nat.le_refl _)
  generalize hT1 : (T.setVm vm₁).pushCell { cls := cX, slots := kX.instanceTypes.map defaultValue, vm := .none } = T1 at X₁ st1
  have hcat : (Value.ref T.heap.size).category = 1 := rfl
  have hcellA : T1.heap[T.heap.size]? = some (freshCell cX kX) := by rw [← hT1]; exact State.heap_pushCell_size _ _
  have d3' : decode c.code (pc + 3) = .ok (.dup, 1) := by rw [hb]; exact d3
  have d4' : decode c.code (pc + 4) = .ok (.ldc_w is, 3) := by rw [hb]; exact d4
  have hstr' : vk_R own is text sa s' := vk_R.warm hW0 hstr
  obtain ⟨U, hsteps, hrun, hend, hW, hsame, ce, hce, hO⟩ := X₁.ctorThrowS hexec htr (own := own) (cls := cls) (names := names) (ic := ic) hown' hcls hnames h (fun x hx => nomatch hx) hfX hkX hcellA (by rw [hhp, hT]; exact Nat.le_refl _) (msg := .ref sa) rfl
    (g := { method := m, pc := pc + 7, locals := ls, stack := .ref sa :: .ref T.heap.size :: .ref T.heap.size :: rest, locked := none }) rfl hsize rfl rfl (rest := rest) rfl
    (by rw [hb]; exact d7) (by rw [hb]; exact d10) hout hRframes (by simp only [List.map_cons, List.sum_cons, hcat]; omega) hlocks
  obtain ⟨f1, f2⟩ := vx_frame hsame
  rw [hhp] at f1 f2
  have hWs : s.WarmedH U.vm := State.WarmedH.trans hW0 hW
  have hcl : s.vm.findClass cls = some ce.cls := by
    have h9 := hO.cls
    rw [hvm] at h9
    exact h9
  have hall : s.sameButNew ({ U with vm := s.vm } : State) locs mc ms := by
    subst hA
    obtain ⟨e1, e2⟩ := hsame
    rw [State.setFrames_setFrames] at e1
    have h2 : (T.setVm s.vm).sameButNew ({ U with vm := s.vm } : State) [] (0 + 1) (0 + 6) := ⟨e1, e2⟩
    have h3 := X.same.trans h2
    rw [List.append_nil] at h3
    exact h3.mono hc hs
  refine ⟨U, ?_, .threw T.heap.size, hrun, hend, Or.inr ⟨T.heap.size, rfl, cls, ce, locs, hx U hWs.alike f1 (fun q hq => f2 q hq (fun z hz => nomatch hz)), hce, hO.vm, hcl, hWs, hall, hf⟩⟩
  refine st1 _ ?_
  show Steps p.tables e below (T1.setTop { method := m, pc := pc + 3, locals := ls, stack := .ref T.heap.size :: rest, locked := none }) _
  jvm_step X₁.here [X₁.here.top, hexec, d3', Value.category]
  exact X₁.ldcStringW hexec (own := own) (text := text) (index := is) (a := sa) hown' hstr'.1 hstr'.2
    (g := { method := m, pc := pc + 4, locals := ls, stack := .ref T.heap.size :: .ref T.heap.size :: rest, locked := none }) rfl d4' _ hsteps
end Ends
section Bodies
variable {l : Launch}
theorem vx_ofW {y : MethodName} {ws ws' : List Cond} {rm : Room} {Pc : Array Value → State → Prop} {Qc : Array Value → State → Outcome → State → Prop} {XC : String → State → State → Prop} {mc ms : Nat} {free : Addr → Prop} {cc : ByteArray} {maxL : Nat} {ret : Option FieldType}
    (hy : plainName y.cls = true) (hw : ws = Cond.code y cc maxL ret :: ws')
    (body : ∀ p e s m args below meth c s₁, BodyLoose p l y (headSpec ws rm) cc maxL ret e s m args below meth c s₁ → c.maxLocals = maxL → (∀ x ∈ c.exceptionTable.toList, False) → Pc args s →
      W p l e (headSpec ws rm).room s m args below meth c s.heap [] 0 0 (vx_MQ below Qc XC args s mc ms free) (entryFrame m args maxL)) : vx_Met l y ws rm Pc Qc XC mc ms free := by
  refine MetFree.of_bodyS (code := cc) (maxLocals := maxL) (ret := ret) hy ?_ ?_
  · intro args s m h hn
    obtain ⟨meth, c, h1, h2, h3, h4, h5, h6, -, -⟩ := Cond.code_spec hn (atoms_spec (ws := ws) h _ (by rw [hw]; exact List.mem_cons_self))
    exact ⟨meth, c, h1, h2, h3, h4, h5, h6⟩
  · intro p e s m args below meth c s₁ B hml hP _
    have hh0 : s₁.heap = s.heap := by rw [B.state]; rfl
    have ht : ∀ x ∈ c.exceptionTable.toList, False := by
      obtain ⟨meth9, c9, h1, h2, -, -, -, -, h7, -⟩ := Cond.code_spec B.named (atoms_spec (ws := ws) B.pre _ (by rw [hw]; exact List.mem_cons_self))
      cases Option.some.inj (h1.symm.trans B.method)
      cases Option.some.inj (h2.symm.trans (Stand.of_body B).code)
      intro x hx
      rw [Array.isEmpty_iff.mp h7] at hx
      cases hx
    obtain ⟨t, a1, o, b1, b2, b3⟩ := body p e s m args below meth c s₁ B hml ht hP s₁ hh0 (Stand.of_body B)
    exact ⟨t, o, a1, b1, b2, b3⟩
/-- the table of a body with handlers -/
theorem vx_table {p : Program} {x y : MethodName} {S : Spec} {cc bytes : ByteArray} {maxL maxL' : Nat} {ret ret' : Option FieldType} {e : Env} {s s₁ : State} {m : MethodId} {args : Array Value} {below : List Frame} {meth : Method} {c : Code} {hh : List (Nat × Nat × Nat × Nat)}
    (B : BodyLoose p l y S cc maxL ret e s m args below meth c s₁) (h : (Cond.codeWith y bytes maxL' ret' hh).before args s = true) : c.exceptionTable.toList = tableOf hh := by
  obtain ⟨m9, meth9, c9, hn9, h1, h2, -, -, h6, -⟩ := Cond.codeWith_spec h
  cases Option.some.inj (hn9.symm.trans B.named)
  cases Option.some.inj (h1.symm.trans B.method)
  cases Option.some.inj (h2.symm.trans (Stand.of_body B).code)
  rw [← h6, table_eq]
end Bodies
end VXA
/-! ===== END ===== -/
/-! ===== BEGIN a static call of a method with an exception table ===== -/
section VXS
variable {p : Program} {l : Launch} {e : Env} {R : Room} {s : State} {m : MethodId} {args : Array Value} {below : List Frame} {meth : Method} {c : Code} {T : State} {H : Heap} {locs : List Loc} {cells slots : Nat}
abbrev vx_CSW (R : Room) (s : State) (args : Array Value) (own : String) (index : Nat) (y : MethodName) (bytes : ByteArray) (maxL : Nat) (ret : Option FieldType) (hh : List (Nat × Nat × Nat × Nat)) (ws : List Cond) (rm : Room) (mc ms n : Nat) : Prop :=
  (rm.cells = mc ∧ rm.slots = ms ∧ rm.frames + 1 ≤ R.frames ∧ 8 + (maxL + 11) + rm.locals ≤ R.locals ∧ (∀ w ∈ ws, ∀ (a' : Array Value) (U : State), s.WarmedH U.vm → w.before a' U = true) ∧ Cond.codeWith y bytes maxL ret hh ∈ ws) ∧
  (Cond.codeWith y bytes maxL ret hh).before args s = true ∧ (Cond.initialized y.cls).before args s = true ∧ (y.cls ≠ "java/lang/invoke/MethodHandle" ∧ y.cls ≠ "java/lang/invoke/VarHandle") ∧
  (∀ sig, parseMethodDescriptor y.desc = some sig → n = sig.parameters.length) ∧ (Cond.methodLink own index y).before args s = true ∧ (Cond.static y).before args s = true
theorem vx_cwSW {own : String} {index maxL mc ms : Nat} {y : MethodName} {bytes : ByteArray} {ret : Option FieldType} {hh : List (Nat × Nat × Nat × Nat)} {Ts ws ws' : List Cond} {rm : Room} (n : Nat) (ht : ∀ w ∈ Ts, w.before args s = true) (hT : GoodIn Ts (va_wsS own index y ws)) (hw : ws = Cond.codeWith y bytes maxL ret hh :: ws') (hrc : rm.cells = mc) (hrs : rm.slots = ms)
    (hd : y.cls ≠ "java/lang/invoke/MethodHandle" ∧ y.cls ≠ "java/lang/invoke/VarHandle" ∧ (parseMethodDescriptor y.desc).map (fun d => d.parameters.length) = some n) (hR : rm.frames + 1 ≤ R.frames ∧ 8 + (maxL + 11) + rm.locals ≤ R.locals) :
    vx_CSW R s args own index y bytes maxL ret hh ws rm mc ms n := by
  have ok : ∀ w ∈ va_wsS own index y ws, w.before args s = true := fun w h => ht w (hT w h).1
  have hG : GoodIn Ts ws := fun w h => hT w (by unfold va_wsS; exact List.mem_append_right _ h)
  have hc : Cond.codeWith y bytes maxL ret hh ∈ ws := by rw [hw]; exact List.mem_cons_self
  refine ⟨⟨hrc, hrs, hR.1, hR.2, pay_in ht hG, hc⟩, ht _ (hG _ hc).1, ok _ (by simp [va_wsS]), ⟨hd.1, hd.2.1⟩, fun sig h => ?_, ok _ (by simp [va_wsS]), ok _ (by simp [va_wsS])⟩
  have h2 := hd.2.2
  rw [h] at h2
  exact (Option.some.inj h2).symm
theorem vx_callSW (X : Stand p l e R s m args below meth c T locs cells slots) (hexec : p.tables.exec = Jvm.exec) {own : String} {index : Nat} {y : MethodName} {bytes : ByteArray} {maxL : Nat} {ret : Option FieldType} {hh : List (Nat × Nat × Nat × Nat)}
    (hown : s.vm.findClass own = some m.cls) (hlink : (Cond.methodLink own index y).before args s = true) (hstat : (Cond.static y).before args s = true) (hinit : (Cond.initialized y.cls).before args s = true)
    (hcode : (Cond.codeWith y bytes maxL ret hh).before args s = true) (hy : y.cls ≠ "java/lang/invoke/MethodHandle" ∧ y.cls ≠ "java/lang/invoke/VarHandle")
    {W9 : Nat} {Pre : Pt → Array Value → Prop} {Post : Pt → Array Value → Option Value → Pt → Prop} (hK : Back l R p e below s args y 3 W9 Pre Post)
    {g : JFrame} (hg : g.method = m) (hsize : g.locals.size = c.maxLocals) {argsL rest : List Value} (hlen : ∀ sig, parseMethodDescriptor y.desc = some sig → argsL.length = sig.parameters.length)
    (hstack : g.stack = argsL.reverse ++ rest) (hW : 2 * g.monitorRoom + (rest.map fun v => v.category).sum ≤ W9) (hdg : decode c.code g.pc = .ok (.invokestatic index, 3))
    (hpre : ∀ vm₁, s.WarmedH vm₁ → Pre ⟨T.setVm vm₁, locs, cells, slots⟩ argsL.toArray) :
    ∃ (v : Option Value) (vm₁ : Vm) (B : Pt), s.WarmedH vm₁ ∧ Stand p l e R s m args below meth c B.U B.locs B.cells B.slots ∧ Post ⟨T.setVm vm₁, locs, cells, slots⟩ argsL.toArray v B ∧
      ∀ target, Steps p.tables e below (B.U.setTop { g with pc := g.pc + 3, stack := v.toList ++ rest }) target → Steps p.tables e below (T.setTop g) target := by
  obtain ⟨mk, methM, cM, hnamed, hmethM, -, -, -, -, -, -, hsigM⟩ := Cond.codeWith_spec hcode
  have hstatic : methM.isStatic = true := Cond.static_spec hnamed hmethM hstat
  obtain ⟨kP, hkP, -⟩ := className_of_methodNamed hnamed
  have hinitP : kP.init = .initialized := Cond.initialized_spec (findClass_of_methodNamed hnamed) hkP hinit
  obtain ⟨vm₁, X₁, hstep₁⟩ := X.invokestatic hexec hown hlink hnamed hmethM hstatic hkP hinitP hy (g := g) hg (argsL := argsL) (rest := rest) (hlen _ hsigM) hstack hdg
  obtain ⟨v, B, X', hpost, hsteps⟩ := hK m meth c ⟨T.setVm vm₁, locs, cells, slots⟩ { g with stack := rest } (.invokestatic index) mk argsL.toArray X₁ hg hsize hdg hW (X₁.named hnamed) (hpre vm₁ X₁.warmed)
  exact ⟨v, vm₁, B, X₁.warmed, X', hpost, fun target h => hstep₁ _ fun acts => by rw [doInvoke_state]; exact hsteps.trans h⟩
theorem vx_runSW {y : MethodName} {bytes cc : ByteArray} {maxL nL mc ms n index : Nat} {ret : Option FieldType} {hh : List (Nat × Nat × Nat × Nat)} {ws : List Cond} {rm : Room} {Pc : Array Value → State → Prop} {Qc : Array Value → State → Outcome → State → Prop} {free : Addr → Prop} {Ts : List Cond} {own : String} {As rest : List Value} {g : JFrame}
    (S : CallFix p m c cc nL s args Ts own) (hM : Met l y ws rm Pc Qc mc ms free) (cw : vx_CSW R s args own index y bytes maxL ret hh ws rm mc ms n) (hp : PreS s H Pc As)
    (hg : g.method = m) (hn : As.length = n) (hsize : g.locals.size = nL) (hstack : g.stack = As.reverse ++ rest) (hW : 2 * g.monitorRoom + (rest.map fun v => v.category).sum ≤ 8) (hdg : decode cc g.pc = .ok (.invokestatic index, 3)) (hf : cells + mc ≤ R.cells ∧ slots + ms ≤ R.slots) :
    va_Run p l e R s m args below meth c H locs cells slots mc ms g rest (Qc As.toArray) (free) := by
  obtain ⟨⟨hrc, hrs, hfr, hlo, hws, hcw⟩, hcode, hini, hy, hlen, hl, hstt⟩ := cw
  have hK : Back l R p e below s args y 3 8 (PreOf R mc ms Pc) (PostOf Qc mc ms free) := va_backW (hh := hh) (bytes := bytes) (maxL := maxL) (ret := ret) hM hp.1 hrc hrs hfr hlo hws hcw (fun a' U hW => word_at hW (Or.inl (by first | rfl | simp [Cond.onTables, Cond.keeps, Cond.steady])) hini)
  obtain ⟨hx, hb, hml, ho, -⟩ := S
  intro T hT X
  obtain ⟨v, vm₁, ⟨U', l2, c2, s2⟩, hW₁, X', ⟨g', mk, t, L, e1, e2, hq, h1, hL, h2, h3⟩, st⟩ := vx_callSW X hx (hh := hh) (bytes := bytes) (maxL := maxL) (ret := ret) ho hl hstt hini hcode hy hK hg (hsize.trans hml.symm) (argsL := As) (rest := rest) (fun sig h => hn.trans (hlen sig h)) hstack hW (by rw [hb]; exact hdg)
    (fun vm₁ hW₁ => ⟨hf.1, hf.2, hp.2 (T.setVm vm₁) hT hW₁⟩)
  dsimp only [Pt.U, Pt.locs, Pt.cells, Pt.slots] at X' e1 e2 h1 h2 h3 st
  subst h1; subst h2; subst h3
  exact ⟨v, (T.setVm vm₁).calling g' mk As.toArray, t, U', L, hT, X', hL, e1, e2, hq, st⟩
/-- not caught here, past rows that name other classes: it goes on to the caller -/
theorem vx_outP {p : Program} {l : Launch} {e : Env} {R : Room} {s : State} {m : MethodId} {args : Array Value} {below : List Frame} {meth : Method} {c : Code} {H : Heap} {locs : List Loc} {cells slots : Nat} {free : Addr → Prop} {ls : Array Slot} {rest : List Value} {Qc : Array Value → State → Outcome → State → Prop} {XC : String → State → State → Prop}
    {pc : Nat} {own E : String} {ce : Cell} {q : Addr} {mc ms : Nat} (hown : s.vm.findClass own = some m.cls) (hlocks : meth.locks = false)
    (hpass : ∀ z ∈ c.exceptionTable.toList, covers z pc = false ∨ (z.catchType ≠ 0 ∧ ∃ nm : String, (Cond.classLink own z.catchType nm).before args s = true ∧ va_Nc E nm s)) (hcell : H[q]? = some ce) (hv : ce.vm = .none) (hcl : s.vm.findClass E = some ce.cls)
    (hx : ∀ t : State, t.heap = H → s.vm.Alike t.vm → XC E s t) (hf : ∀ z ∈ locs, free z.base) (hc : cells ≤ mc) (hs : slots ≤ ms) :
    vx_W p l e R s m args below meth c H locs cells slots (vx_MQ below Qc XC args s mc ms free) (F0 m pc ls rest) q := by
  intro T hT X
  have hpl : e.platform.magicAccessors = ({} : Platform).magicAccessors := by rw [X.admits.platform]
  obtain ⟨vm', hW', X', st⟩ := X.outThrough hlocks q (g := F0 m pc ls rest) rfl rfl rfl (cell := ce) (by rw [hT]; exact hcell) (by rw [hv]; rfl)
    (by obtain ⟨k9, h9, -⟩ := Vm.findClass_spec hcl; exact ⟨k9, h9⟩) (fun z hz => by
      rcases hpass z hz with h | ⟨hz0, nm, hl1, hn1⟩
      · exact Or.inl h
      · obtain ⟨c6, hc6, hcl6⟩ := Cond.classLink_spec hown hl1 e.platform hpl
        obtain ⟨a8, b8, h1, h2, h3⟩ := hn1
        cases Option.some.inj (h1.symm.trans hcl)
        cases Option.some.inj (h2.symm.trans hc6)
        exact Or.inr ⟨hz0, _, hcl6, h3⟩)
  obtain ⟨g₀, hfr⟩ := X'.frames_eq
  have hcell9 : ((T.setVm vm').setFrames (.throwing q :: below)).heap[q]? = some ce := by
    show T.heap[q]? = some ce
    rw [hT]; exact hcell
  have hend : Ended ((T.setVm vm').setFrames (.throwing q :: below)) below (.threw q) := State.frames_setFrames _ (State.cur_lt_of_frames hfr)
  refine ⟨(T.setVm vm').setFrames (.throwing q :: below), ?_, .threw q, X'.here.running, hend, Or.inr ⟨q, rfl, E, ce, locs, hx _ hT (X'.ends _).1.alike, hcell9, hv, hcl, (X'.ends _).1, (X'.ends _).2.mono hc hs, hf⟩⟩
  rw [X.pushThrowing_eq]
  exact st
/-- a thing of a world lies in the heap -/
theorem vx_lt {D : va_G} {cl : List vw_C} {ws : va_W} {H1 : Heap} (h : va_P D cl ws H1) {k : Nat} {q : Nat × va_E} (hk : ws[k]? = some q) : q.1 < H1.size := (h k q hk).lt
end VXS
/-! ===== END ===== -/
/-! ===== BEGIN methods with a table of their own: called by a name, returning or throwing ===== -/
section VXH
/-! vx_backW, vx_callVX, vx_callSX, vx_callVW, vx_runVW, vx_runVX, vx_runSX, vx_ofWH follow the same proofs as their sisters above (Free/Laws.lean, Shelf42/LK1.lean); vx_outP calls Shelf42/NT130.lean (outThrough). -/
section
variable {l : Launch} {R : Room} {p : Program} {e : Env} {below : List Frame} {s : State} {sargs : Array Value} {y : MethodName} {len W9 : Nat}
theorem vx_backW {ws : List Cond} {rm : Room} {Pc : Array Value → State → Prop} {Qc : Array Value → State → Outcome → State → Prop} {XC : String → State → State → Prop} {mc ms : Nat} {free : Addr → Prop} {bytes : ByteArray} {maxL : Nat} {ret : Option FieldType} {hh : List (Nat × Nat × Nat × Nat)}
    (hM : vx_Met l y ws rm Pc Qc XC mc ms free) (hblind : FrameBlind Pc) (hrc : rm.cells = mc) (hrs : rm.slots = ms)
    (hframes : rm.frames + 1 ≤ R.frames) (hlocals : W9 + (maxL + 11) + rm.locals ≤ R.locals)
    (hws : ∀ w ∈ ws, ∀ a' U, s.WarmedH U.vm → w.before a' U = true) (hcode : Cond.codeWith y bytes maxL ret hh ∈ ws) (hinit : ∀ a' U, s.WarmedH U.vm → (Cond.initialized y.cls).before a' U = true) :
    vx_Back l R p e below s sargs y len W9 (PreOf R mc ms Pc) (PostOf Qc mc ms free) (vx_Post XC mc ms free) := by
  intro m meth c A g ig mk a X hg hsize hdg hW hn hp
  have h1 : (headSpec ws rm).pre.before a A.U = true := atoms_intro fun w hw => hws w hw _ _ X.warmed
  have h2 : (Cond.codeWith y bytes maxL ret hh).before a A.U = true := hws _ hcode _ _ X.warmed
  have h3 : (Cond.initialized y.cls).before a A.U = true := hinit _ _ X.warmed
  have h4 : A.cells + (headSpec ws rm).room.cells ≤ R.cells := by rw [show (headSpec ws rm).room.cells = mc from hrc]; exact hp.1
  have h5 : A.slots + (headSpec ws rm).room.slots ≤ R.slots := by rw [show (headSpec ws rm).room.slots = ms from hrs]; exact hp.2.1
  have hPc : Pc a (A.U.calling g mk a) := hblind _ _ _ _ hp.2.2
  obtain ⟨U, Ls, c0, s0⟩ := A
  dsimp only [Pt.U, Pt.locs, Pt.cells, Pt.slots] at h1 h2 h3 h4 h5 X hn hPc ⊢
  obtain ⟨m9, methY, cY, hn9, hmY, hcY, -, hlY, -⟩ := Cond.codeWith_spec h2
  cases Option.some.inj (hn9.symm.trans hn)
  obtain ⟨kY, hkY, -⟩ := className_of_methodNamed hn
  have hinitY : kY.init = .initialized := Cond.initialized_spec (findClass_of_methodNamed hn) hkY h3
  have h : At U g.method c below := by rw [hg]; exact X.here
  have hlocals9 : W9 + (maxL + 11) + (headSpec ws rm).room.locals ≤ R.locals := hlocals
  have happ : (headSpec ws rm).appliesLoose y e.platform (U.calling g mk a) = true :=
    Spec.appliesLoose_calling (g := g) h hdg hn hkY hinitY
      (X.room_calling (g := g) (R' := (headSpec ws rm).room) hsize hmY hcY hframes (by rw [hlY]; omega) h4 h5) h1
  obtain ⟨mid, hmid⟩ := h.above
  have hfr : (U.setTop g).frames = (.java g :: mid) ++ below := by rw [State.frames_setTop' g h.top, hmid]; rfl
  obtain ⟨o, s₂, hsteps, -, hend, hq⟩ := Steps.callFree hM p X.admits X.cas X.clock (acts := []) hfr happ hPc trivial
  have hq' : vx_Q Qc XC mc ms free a (U.calling g mk a) o s₂ := hq
  rw [State.frames_setTop' g h.top] at hend
  obtain ⟨g₀, hg0⟩ := Option.isSome_iff_exists.mp h.top
  obtain ⟨r, hr⟩ := State.topJava?_eq_some.mp hg0
  have hr' : (({ U with heap := s₂.heap, slotsUsed := s₂.slotsUsed } : State).setVm s₂.vm).frames = .java g₀ :: r := hr
  rcases hq' with ⟨hqc, L, hfe, hL⟩ | ⟨q, rfl, E, ce, L, hx, hce, hcv, hcl, hW₂, hsm, hL⟩
  · obtain ⟨⟨v, rfl⟩, hW₂, e2, q2, q3, q4, q5, q6⟩ := id hfe
    have e3 : s₂ = ({ (U.calling g mk a).setFrames s₂.frames with heap := s₂.heap, slotsUsed := s₂.slotsUsed } : State).setVm s₂.vm := by
      have : s₂ = ({ s₂ with vm := (U.calling g mk a).vm } : State).setVm s₂.vm := rfl
      rw [e2] at this
      exact this
    obtain ⟨c₂, i₂, len₂, hc₂, hd₂, hf₂⟩ := hend
    have hW' : U.WarmedH s₂.vm := hW₂
    have hcc : c₂ = c := by
      have h1 : s₂.code? g.method = U.code? g.method := by
        rw [State.code?_eq, State.code?_eq, hW'.alike.method?]
      exact Option.some.inj (hc₂.symm.trans (h1.trans h.code))
    subst hcc
    have hlen : len₂ = len := by rw [hdg] at hd₂; cases hd₂; rfl
    subst hlen
    have hs₂ : s₂ = (({ U with heap := s₂.heap, slotsUsed := s₂.slotsUsed } : State).setVm s₂.vm).setTop { g with pc := g.pc + len₂, stack := v.toList ++ g.stack } := by
      refine e3.trans ?_
      rw [hf₂, State.calling_eq h.top, State.setFrames_setFrames, State.setTop_of_frames _ hr', hr]
      rfl
    have hsame : U.sameButNew ({ U with heap := s₂.heap, slotsUsed := s₂.slotsUsed } : State) L mc ms := by
      refine ⟨?_, q2, q3, q4, q5, q6⟩
      obtain ⟨t, ht, -⟩ := State.frames_cons hr
      show ({ U with heap := s₂.heap, slotsUsed := s₂.slotsUsed } : State) = { U.setFrames U.frames with heap := s₂.heap, slotsUsed := s₂.slotsUsed }
      rw [State.setFrames_self ht]
    subst hg
    refine Or.inl ⟨v, ⟨(({ U with heap := s₂.heap, slotsUsed := s₂.slotsUsed } : State).setVm s₂.vm), Ls ++ L, c0 + mc, s0 + ms⟩,
      ⟨X.admits, X.cas, X.clock, X.frames, X.room, X.hears, X.method, X.code, (X.here.setHeapUsed s₂.heap s₂.slotsUsed).setVm hW'.alike, X.tail, State.WarmedH.trans X.warmed hW', X.limits, X.bytes, X.same.trans (hsame.setVm s.vm)⟩,
      ⟨g, mk, s₂, L, rfl, rfl, hqc, rfl, hL, rfl, rfl⟩, ?_⟩
    show Steps p.tables e below _ ((({ U with heap := s₂.heap, slotsUsed := s₂.slotsUsed } : State).setVm s₂.vm).setTop { g with pc := g.pc + len₂, stack := v.toList ++ g.stack })
    rw [← hs₂]
    exact hsteps
  · obtain ⟨e2, q2, q3, q4, q5, q6⟩ := id hsm
    have e3 : s₂ = ({ (U.calling g mk a).setFrames s₂.frames with heap := s₂.heap, slotsUsed := s₂.slotsUsed } : State).setVm s₂.vm := by
      have : s₂ = ({ s₂ with vm := (U.calling g mk a).vm } : State).setVm s₂.vm := rfl
      rw [e2] at this
      exact this
    have hf₂ : s₂.frames = .throwing q :: .java g :: U.frames.tail := hend
    have hW' : U.WarmedH s₂.vm := hW₂
    have hs₂ : s₂ = ((({ U with heap := s₂.heap, slotsUsed := s₂.slotsUsed } : State).setVm s₂.vm).setTop g).pushFrame (.throwing q) := by
      refine e3.trans ?_
      rw [hf₂, State.calling_eq h.top, State.setFrames_setFrames, State.pushFrame, State.frames_setTop _ hr', State.setTop_of_frames _ hr', State.setFrames_setFrames, hr]
      rfl
    have hsame : U.sameButNew ({ U with heap := s₂.heap, slotsUsed := s₂.slotsUsed } : State) L mc ms := by
      refine ⟨?_, q2, q3, q4, q5, q6⟩
      obtain ⟨t, ht, -⟩ := State.frames_cons hr
      show ({ U with heap := s₂.heap, slotsUsed := s₂.slotsUsed } : State) = { U.setFrames U.frames with heap := s₂.heap, slotsUsed := s₂.slotsUsed }
      rw [State.setFrames_self ht]
    subst hg
    refine Or.inr ⟨q, ⟨(({ U with heap := s₂.heap, slotsUsed := s₂.slotsUsed } : State).setVm s₂.vm), Ls ++ L, c0 + mc, s0 + ms⟩,
      ⟨X.admits, X.cas, X.clock, X.frames, X.room, X.hears, X.method, X.code, (X.here.setHeapUsed s₂.heap s₂.slotsUsed).setVm hW'.alike, X.tail, State.WarmedH.trans X.warmed hW', X.limits, X.bytes, X.same.trans (hsame.setVm s.vm)⟩,
      ⟨g, mk, s₂, L, E, ce, rfl, rfl, hx, hce, hcv, hcl, rfl, hL, rfl, rfl⟩, ?_⟩
    show Steps p.tables e below _ (((({ U with heap := s₂.heap, slotsUsed := s₂.slotsUsed } : State).setVm s₂.vm).setTop g).pushFrame (.throwing q))
    rw [← hs₂]
    exact hsteps
end
variable {p : Program} {l : Launch} {e : Env} {R : Room} {s : State} {m : MethodId} {args : Array Value} {below : List Frame} {meth : Method} {c : Code} {T : State} {H : Heap} {locs : List Loc} {cells slots : Nat}
theorem vx_callVX (X : Stand p l e R s m args below meth c T locs cells slots) (hexec : p.tables.exec = Jvm.exec) {own C : String} {index : Nat} {y : MethodName} {bytes : ByteArray} {maxL : Nat} {ret : Option FieldType} {hh : List (Nat × Nat × Nat × Nat)}
    (hown : s.vm.findClass own = some m.cls) (hlink : (Cond.methodLink own index y).before args s = true) (hinst : (Cond.instanceMethod y).before args s = true) (hsel : (Cond.selects C y y).before args s = true)
    (hcode : (Cond.codeWith y bytes maxL ret hh).before args s = true) (hy : y.cls ≠ "java/lang/invoke/MethodHandle" ∧ y.cls ≠ "java/lang/invoke/VarHandle")
    {W9 : Nat} {Pre : Pt → Array Value → Prop} {Post : Pt → Array Value → Option Value → Pt → Prop} {PostX : Pt → Array Value → Addr → Pt → Prop} (hK : vx_Back l R p e below s args y 3 W9 Pre Post PostX)
    {b : Addr} {cellB : Cell} (hcell : T.heap[b]? = some cellB) (hobj : cellB.vm.isStatics = false) (hcls : s.vm.findClass C = some cellB.cls)
    {g : JFrame} (hg : g.method = m) (hsize : g.locals.size = c.maxLocals) {argsL rest : List Value} (hlen : ∀ sig, parseMethodDescriptor y.desc = some sig → argsL.length = sig.parameters.length)
    (hstack : g.stack = argsL.reverse ++ .ref b :: rest) (hW : 2 * g.monitorRoom + (rest.map fun v => v.category).sum ≤ W9) (hdg : decode c.code g.pc = .ok (.invokevirtual index, 3))
    (hpre : ∀ vm₁, s.WarmedH vm₁ → Pre ⟨T.setVm vm₁, locs, cells, slots⟩ (Value.ref b :: argsL).toArray) :
    (∃ (v : Option Value) (vm₁ : Vm) (B : Pt), s.WarmedH vm₁ ∧ Stand p l e R s m args below meth c B.U B.locs B.cells B.slots ∧ Post ⟨T.setVm vm₁, locs, cells, slots⟩ (Value.ref b :: argsL).toArray v B ∧
      ∀ target, Steps p.tables e below (B.U.setTop { g with pc := g.pc + 3, stack := v.toList ++ rest }) target → Steps p.tables e below (T.setTop g) target) ∨
    (∃ (q : Addr) (vm₁ : Vm) (B : Pt), s.WarmedH vm₁ ∧ Stand p l e R s m args below meth c B.U B.locs B.cells B.slots ∧ PostX ⟨T.setVm vm₁, locs, cells, slots⟩ (Value.ref b :: argsL).toArray q B ∧
      Steps p.tables e below (T.setTop g) ((B.U.setTop { g with stack := rest }).pushFrame (.throwing q))) := by
  obtain ⟨mk, methM, hnamed, hmethM, hstM, habM⟩ := Cond.instanceMethod_spec hinst
  obtain ⟨m8, methM', cM, hn8, hmethM', -, -, -, -, -, -, hsigM⟩ := Cond.codeWith_spec hcode
  cases Option.some.inj (hn8.symm.trans hnamed)
  cases hmethM.symm.trans hmethM'
  obtain ⟨c2, r2, m2, q1, q2, q3, q4, kP, hkP, hkPi⟩ := Cond.selects_spec hsel
  cases hcls.symm.trans q1
  cases (State.methodFound?_of_named hnamed hy).symm.trans q2
  cases hnamed.symm.trans q3
  have hselP : selectMethod e.platform s.vm cellB.cls mk = .method mk := by rw [Launch.admits_selectMethod X.admits]; exact q4
  obtain ⟨vm₁, X₁, hstep₁⟩ := X.invokevirtual hexec hown hlink hnamed hmethM hstM hkP hkPi hy (a := b) (cell := cellB) hcell
    (fun z h => by rw [h] at hobj; cases hobj) hselP hmethM habM hkP hkPi (g := g) hg (argsL := argsL) (rest := rest) (hlen _ hsigM) hstack hdg
  rcases hK m meth c ⟨T.setVm vm₁, locs, cells, slots⟩ { g with stack := rest } (.invokevirtual index) mk (Value.ref b :: argsL).toArray X₁ hg hsize hdg hW (X₁.named hnamed) (hpre vm₁ X₁.warmed) with ⟨v, B, X', hpost, hsteps⟩ | ⟨q, B, X', hpost, hsteps⟩
  · exact Or.inl ⟨v, vm₁, B, X₁.warmed, X', hpost, fun target h => hstep₁ _ fun acts => by rw [doInvoke_state]; exact hsteps.trans h⟩
  · exact Or.inr ⟨q, vm₁, B, X₁.warmed, X', hpost, hstep₁ _ fun acts => by rw [doInvoke_state]; exact hsteps⟩
theorem vx_callSX (X : Stand p l e R s m args below meth c T locs cells slots) (hexec : p.tables.exec = Jvm.exec) {own : String} {index : Nat} {y : MethodName} {bytes : ByteArray} {maxL : Nat} {ret : Option FieldType} {hh : List (Nat × Nat × Nat × Nat)}
    (hown : s.vm.findClass own = some m.cls) (hlink : (Cond.methodLink own index y).before args s = true) (hstat : (Cond.static y).before args s = true) (hinit : (Cond.initialized y.cls).before args s = true)
    (hcode : (Cond.codeWith y bytes maxL ret hh).before args s = true) (hy : y.cls ≠ "java/lang/invoke/MethodHandle" ∧ y.cls ≠ "java/lang/invoke/VarHandle")
    {W9 : Nat} {Pre : Pt → Array Value → Prop} {Post : Pt → Array Value → Option Value → Pt → Prop} {PostX : Pt → Array Value → Addr → Pt → Prop} (hK : vx_Back l R p e below s args y 3 W9 Pre Post PostX)
    {g : JFrame} (hg : g.method = m) (hsize : g.locals.size = c.maxLocals) {argsL rest : List Value} (hlen : ∀ sig, parseMethodDescriptor y.desc = some sig → argsL.length = sig.parameters.length)
    (hstack : g.stack = argsL.reverse ++ rest) (hW : 2 * g.monitorRoom + (rest.map fun v => v.category).sum ≤ W9) (hdg : decode c.code g.pc = .ok (.invokestatic index, 3))
    (hpre : ∀ vm₁, s.WarmedH vm₁ → Pre ⟨T.setVm vm₁, locs, cells, slots⟩ argsL.toArray) :
    (∃ (v : Option Value) (vm₁ : Vm) (B : Pt), s.WarmedH vm₁ ∧ Stand p l e R s m args below meth c B.U B.locs B.cells B.slots ∧ Post ⟨T.setVm vm₁, locs, cells, slots⟩ argsL.toArray v B ∧
      ∀ target, Steps p.tables e below (B.U.setTop { g with pc := g.pc + 3, stack := v.toList ++ rest }) target → Steps p.tables e below (T.setTop g) target) ∨
    (∃ (q : Addr) (vm₁ : Vm) (B : Pt), s.WarmedH vm₁ ∧ Stand p l e R s m args below meth c B.U B.locs B.cells B.slots ∧ PostX ⟨T.setVm vm₁, locs, cells, slots⟩ argsL.toArray q B ∧
      Steps p.tables e below (T.setTop g) ((B.U.setTop { g with stack := rest }).pushFrame (.throwing q))) := by
  obtain ⟨mk, methM, cM, hnamed, hmethM, -, -, -, -, -, -, hsigM⟩ := Cond.codeWith_spec hcode
  have hstatic : methM.isStatic = true := Cond.static_spec hnamed hmethM hstat
  obtain ⟨kP, hkP, -⟩ := className_of_methodNamed hnamed
  have hinitP : kP.init = .initialized := Cond.initialized_spec (findClass_of_methodNamed hnamed) hkP hinit
  obtain ⟨vm₁, X₁, hstep₁⟩ := X.invokestatic hexec hown hlink hnamed hmethM hstatic hkP hinitP hy (g := g) hg (argsL := argsL) (rest := rest) (hlen _ hsigM) hstack hdg
  rcases hK m meth c ⟨T.setVm vm₁, locs, cells, slots⟩ { g with stack := rest } (.invokestatic index) mk argsL.toArray X₁ hg hsize hdg hW (X₁.named hnamed) (hpre vm₁ X₁.warmed) with ⟨v, B, X', hpost, hsteps⟩ | ⟨q, B, X', hpost, hsteps⟩
  · exact Or.inl ⟨v, vm₁, B, X₁.warmed, X', hpost, fun target h => hstep₁ _ fun acts => by rw [doInvoke_state]; exact hsteps.trans h⟩
  · exact Or.inr ⟨q, vm₁, B, X₁.warmed, X', hpost, hstep₁ _ fun acts => by rw [doInvoke_state]; exact hsteps⟩
theorem vx_callVW (X : Stand p l e R s m args below meth c T locs cells slots) (hexec : p.tables.exec = Jvm.exec) {own C : String} {index : Nat} {y : MethodName} {bytes : ByteArray} {maxL : Nat} {ret : Option FieldType} {hh : List (Nat × Nat × Nat × Nat)}
    (hown : s.vm.findClass own = some m.cls) (hlink : (Cond.methodLink own index y).before args s = true) (hinst : (Cond.instanceMethod y).before args s = true) (hsel : (Cond.selects C y y).before args s = true)
    (hcode : (Cond.codeWith y bytes maxL ret hh).before args s = true) (hy : y.cls ≠ "java/lang/invoke/MethodHandle" ∧ y.cls ≠ "java/lang/invoke/VarHandle")
    {W9 : Nat} {Pre : Pt → Array Value → Prop} {Post : Pt → Array Value → Option Value → Pt → Prop} (hK : Back l R p e below s args y 3 W9 Pre Post)
    {b : Addr} {cellB : Cell} (hcell : T.heap[b]? = some cellB) (hobj : cellB.vm.isStatics = false) (hcls : s.vm.findClass C = some cellB.cls)
    {g : JFrame} (hg : g.method = m) (hsize : g.locals.size = c.maxLocals) {argsL rest : List Value} (hlen : ∀ sig, parseMethodDescriptor y.desc = some sig → argsL.length = sig.parameters.length)
    (hstack : g.stack = argsL.reverse ++ .ref b :: rest) (hW : 2 * g.monitorRoom + (rest.map fun v => v.category).sum ≤ W9) (hdg : decode c.code g.pc = .ok (.invokevirtual index, 3))
    (hpre : ∀ vm₁, s.WarmedH vm₁ → Pre ⟨T.setVm vm₁, locs, cells, slots⟩ (Value.ref b :: argsL).toArray) :
    ∃ (v : Option Value) (vm₁ : Vm) (B : Pt), s.WarmedH vm₁ ∧ Stand p l e R s m args below meth c B.U B.locs B.cells B.slots ∧ Post ⟨T.setVm vm₁, locs, cells, slots⟩ (Value.ref b :: argsL).toArray v B ∧
      ∀ target, Steps p.tables e below (B.U.setTop { g with pc := g.pc + 3, stack := v.toList ++ rest }) target → Steps p.tables e below (T.setTop g) target := by
  obtain ⟨mk, methM, hnamed, hmethM, hstM, habM⟩ := Cond.instanceMethod_spec hinst
  obtain ⟨m8, methM', cM, hn8, hmethM', -, -, -, -, -, -, hsigM⟩ := Cond.codeWith_spec hcode
  cases Option.some.inj (hn8.symm.trans hnamed)
  cases hmethM.symm.trans hmethM'
  obtain ⟨c2, r2, m2, q1, q2, q3, q4, kP, hkP, hkPi⟩ := Cond.selects_spec hsel
  cases hcls.symm.trans q1
  cases (State.methodFound?_of_named hnamed hy).symm.trans q2
  cases hnamed.symm.trans q3
  have hselP : selectMethod e.platform s.vm cellB.cls mk = .method mk := by rw [Launch.admits_selectMethod X.admits]; exact q4
  obtain ⟨vm₁, X₁, hstep₁⟩ := X.invokevirtual hexec hown hlink hnamed hmethM hstM hkP hkPi hy (a := b) (cell := cellB) hcell
    (fun z h => by rw [h] at hobj; cases hobj) hselP hmethM habM hkP hkPi (g := g) hg (argsL := argsL) (rest := rest) (hlen _ hsigM) hstack hdg
  obtain ⟨v, B, X', hpost, hsteps⟩ := hK m meth c ⟨T.setVm vm₁, locs, cells, slots⟩ { g with stack := rest } (.invokevirtual index) mk (Value.ref b :: argsL).toArray X₁ hg hsize hdg hW (X₁.named hnamed) (hpre vm₁ X₁.warmed)
  exact ⟨v, vm₁, B, X₁.warmed, X', hpost, fun target h => hstep₁ _ fun acts => by rw [doInvoke_state]; exact hsteps.trans h⟩
abbrev vx_CVW (R : Room) (s : State) (args : Array Value) (own C : String) (index : Nat) (y : MethodName) (bytes : ByteArray) (maxL : Nat) (ret : Option FieldType) (hh : List (Nat × Nat × Nat × Nat)) (ws : List Cond) (rm : Room) (mc ms n : Nat) : Prop :=
  (rm.cells = mc ∧ rm.slots = ms ∧ rm.frames + 1 ≤ R.frames ∧ 8 + (maxL + 11) + rm.locals ≤ R.locals ∧ (∀ w ∈ ws, ∀ (a' : Array Value) (U : State), s.WarmedH U.vm → w.before a' U = true) ∧ Cond.codeWith y bytes maxL ret hh ∈ ws) ∧
  (Cond.codeWith y bytes maxL ret hh).before args s = true ∧ (Cond.initialized y.cls).before args s = true ∧ (y.cls ≠ "java/lang/invoke/MethodHandle" ∧ y.cls ≠ "java/lang/invoke/VarHandle") ∧
  (∀ sig, parseMethodDescriptor y.desc = some sig → n = sig.parameters.length) ∧ (Cond.methodLink own index y).before args s = true ∧ (Cond.instanceMethod y).before args s = true ∧ (Cond.selects C y y).before args s = true
theorem vx_cwVW {own C : String} {index maxL mc ms : Nat} {y : MethodName} {bytes : ByteArray} {ret : Option FieldType} {hh : List (Nat × Nat × Nat × Nat)} {Ts ws ws' : List Cond} {rm : Room} (n : Nat) (ht : ∀ w ∈ Ts, w.before args s = true) (hT : GoodIn Ts (wsV own index C y ws)) (hw : ws = Cond.codeWith y bytes maxL ret hh :: ws') (hrc : rm.cells = mc) (hrs : rm.slots = ms)
    (hd : y.cls = C ∧ y.cls ≠ "java/lang/invoke/MethodHandle" ∧ y.cls ≠ "java/lang/invoke/VarHandle" ∧ (parseMethodDescriptor y.desc).map (fun d => d.parameters.length) = some n) (hR : rm.frames + 1 ≤ R.frames ∧ 8 + (maxL + 11) + rm.locals ≤ R.locals) :
    vx_CVW R s args own C index y bytes maxL ret hh ws rm mc ms n := by
  obtain ⟨hC, hd⟩ := hd
  subst hC
  have ok : ∀ w ∈ wsV own index y.cls y ws, w.before args s = true := fun w h => ht w (hT w h).1
  have hG : GoodIn Ts ws := fun w h => hT w (by unfold wsV; exact List.mem_append_right _ h)
  have hc : Cond.codeWith y bytes maxL ret hh ∈ ws := by rw [hw]; exact List.mem_cons_self
  refine ⟨⟨hrc, hrs, hR.1, hR.2, pay_in ht hG, hc⟩, ht _ (hG _ hc).1, ok _ (by simp [wsV]), ⟨hd.1, hd.2.1⟩, fun sig h => ?_, ok _ (by simp [wsV]), ok _ (by simp [wsV]), ok _ (by simp [wsV])⟩
  have h2 := hd.2.2
  rw [h] at h2
  exact (Option.some.inj h2).symm
theorem vx_runVW {y : MethodName} {bytes cc : ByteArray} {maxL nL mc ms n index : Nat} {ret : Option FieldType} {hh : List (Nat × Nat × Nat × Nat)} {ws : List Cond} {rm : Room} {Pc : Array Value → State → Prop} {Qc : Array Value → State → Outcome → State → Prop} {free : Addr → Prop} {Ts : List Cond} {own C : String} {b : Addr} {As rest : List Value} {g : JFrame}
    (S : CallFix p m c cc nL s args Ts own) (hM : Met l y ws rm Pc Qc mc ms free) (cw : vx_CVW R s args own C index y bytes maxL ret hh ws rm mc ms n) (hp : PreV s H C b Pc As)
    (hg : g.method = m) (hn : As.length = n) (hsize : g.locals.size = nL) (hstack : g.stack = As.reverse ++ .ref b :: rest) (hW : 2 * g.monitorRoom + (rest.map fun v => v.category).sum ≤ 8) (hdg : decode cc g.pc = .ok (.invokevirtual index, 3)) (hf : cells + mc ≤ R.cells ∧ slots + ms ≤ R.slots) :
    va_Run p l e R s m args below meth c H locs cells slots mc ms g rest (Qc (Value.ref b :: As).toArray) free := by
  obtain ⟨⟨hrc, hrs, hfr, hlo, hws, hcw⟩, hcode, hini, hy, hlen, hl, hin, hse⟩ := cw
  have hK : Back l R p e below s args y 3 8 (PreOf R mc ms Pc) (PostOf Qc mc ms free) := va_backW (hh := hh) (bytes := bytes) (maxL := maxL) (ret := ret) hM hp.1 hrc hrs hfr hlo hws hcw (fun a' U hW => word_at hW (Or.inl (by first | rfl | simp [Cond.onTables, Cond.keeps, Cond.steady])) hini)
  obtain ⟨hx, hb, hml, ho, -⟩ := S
  obtain ⟨-, ⟨cellB, hcB, hoB, hclB⟩, hPc⟩ := hp
  intro T hT X
  obtain ⟨v, vm₁, ⟨U', l2, c2, s2⟩, hW₁, X', ⟨g', mk, t, L, e1, e2, hq, h1, hL, h2, h3⟩, st⟩ := vx_callVW X hx (C := C) (hh := hh) (bytes := bytes) (maxL := maxL) (ret := ret) ho hl hin hse hcode hy hK (by rw [hT]; exact hcB) hoB hclB hg (hsize.trans hml.symm) (argsL := As) (rest := rest) (fun sig h => hn.trans (hlen sig h)) hstack hW (by rw [hb]; exact hdg)
    (fun vm₁ hW₁ => ⟨hf.1, hf.2, hPc (T.setVm vm₁) hT hW₁⟩)
  dsimp only [Pt.U, Pt.locs, Pt.cells, Pt.slots] at X' e1 e2 h1 h2 h3 st
  subst h1; subst h2; subst h3
  exact ⟨v, (T.setVm vm₁).calling g' mk (Value.ref b :: As).toArray, t, U', L, hT, X', hL, e1, e2, hq, st⟩
section
variable {y : MethodName} {bytes cc : ByteArray} {maxL nL mc ms n index : Nat} {ret : Option FieldType} {ws : List Cond} {rm : Room} {Pc : Array Value → State → Prop} {Qc : Array Value → State → Outcome → State → Prop} {XC : String → State → State → Prop} {free : Addr → Prop} {Ts : List Cond} {own C : String} {b : Addr} {As rest : List Value} {g : JFrame}
theorem vx_runVX {hh : List (Nat × Nat × Nat × Nat)} (S : CallFix p m c cc nL s args Ts own) (hM : vx_Met l y ws rm Pc Qc XC mc ms free) (cw : vx_CVW R s args own C index y bytes maxL ret hh ws rm mc ms n) (hp : PreV s H C b Pc As)
    (hg : g.method = m) (hn : As.length = n) (hsize : g.locals.size = nL) (hstack : g.stack = As.reverse ++ .ref b :: rest) (hW : 2 * g.monitorRoom + (rest.map fun v => v.category).sum ≤ 8) (hdg : decode cc g.pc = .ok (.invokevirtual index, 3)) (hf : cells + mc ≤ R.cells ∧ slots + ms ≤ R.slots) :
    vx_Run p l e R s m args below meth c H locs cells slots mc ms g rest (Qc (Value.ref b :: As).toArray) XC free := by
  obtain ⟨⟨hrc, hrs, hfr, hlo, hws, hcw⟩, hcode, hini, hy, hlen, hl, hin, hse⟩ := cw
  have hK : vx_Back l R p e below s args y 3 8 (PreOf R mc ms Pc) (PostOf Qc mc ms free) (vx_Post XC mc ms free) := vx_backW (hh := hh) (bytes := bytes) (maxL := maxL) (ret := ret) hM hp.1 hrc hrs hfr hlo hws hcw (fun a' U hW => word_at hW (Or.inl (by first | rfl | simp [Cond.onTables, Cond.keeps, Cond.steady])) hini)
  obtain ⟨hx, hb, hml, ho, -⟩ := S
  obtain ⟨-, ⟨cellB, hcB, hoB, hclB⟩, hPc⟩ := hp
  intro T hT X
  rcases vx_callVX X hx (C := C) (hh := hh) (bytes := bytes) (maxL := maxL) (ret := ret) ho hl hin hse hcode hy hK (by rw [hT]; exact hcB) hoB hclB hg (hsize.trans hml.symm) (argsL := As) (rest := rest) (fun sig h => hn.trans (hlen sig h)) hstack hW (by rw [hb]; exact hdg)
    (fun vm₁ hW₁ => ⟨hf.1, hf.2, hPc (T.setVm vm₁) hT hW₁⟩) with ⟨v, vm₁, ⟨U', l2, c2, s2⟩, hW₁, X', ⟨g', mk, t, L, e1, e2, hq, h1, hL, h2, h3⟩, st⟩ | ⟨q, vm₁, ⟨U', l2, c2, s2⟩, hW₁, X', ⟨g', mk, t, L, E, ce, e1, e2, hq, hce, hcv, hcl, h1, hL, h2, h3⟩, st⟩
  · dsimp only [Pt.U, Pt.locs, Pt.cells, Pt.slots] at X' e1 e2 h1 h2 h3 st
    subst h1; subst h2; subst h3
    exact Or.inl ⟨v, (T.setVm vm₁).calling g' mk (Value.ref b :: As).toArray, t, U', L, hT, X', hL, e1, e2, hq, st⟩
  · dsimp only [Pt.U, Pt.locs, Pt.cells, Pt.slots] at X' e1 e2 h1 h2 h3 st hcl
    subst h1; subst h2; subst h3
    exact Or.inr ⟨q, (T.setVm vm₁).calling g' mk (Value.ref b :: As).toArray, t, U', L, E, ce, hT, X', hL, e1, e2, hq, hce, hcv, vx_cls hW₁ hcl, st⟩
theorem vx_runSX {hh : List (Nat × Nat × Nat × Nat)} (S : CallFix p m c cc nL s args Ts own) (hM : vx_Met l y ws rm Pc Qc XC mc ms free) (cw : vx_CSW R s args own index y bytes maxL ret hh ws rm mc ms n) (hp : PreS s H Pc As)
    (hg : g.method = m) (hn : As.length = n) (hsize : g.locals.size = nL) (hstack : g.stack = As.reverse ++ rest) (hW : 2 * g.monitorRoom + (rest.map fun v => v.category).sum ≤ 8) (hdg : decode cc g.pc = .ok (.invokestatic index, 3)) (hf : cells + mc ≤ R.cells ∧ slots + ms ≤ R.slots) :
    vx_Run p l e R s m args below meth c H locs cells slots mc ms g rest (Qc As.toArray) XC free := by
  obtain ⟨⟨hrc, hrs, hfr, hlo, hws, hcw⟩, hcode, hini, hy, hlen, hl, hstt⟩ := cw
  have hK : vx_Back l R p e below s args y 3 8 (PreOf R mc ms Pc) (PostOf Qc mc ms free) (vx_Post XC mc ms free) := vx_backW (hh := hh) (bytes := bytes) (maxL := maxL) (ret := ret) hM hp.1 hrc hrs hfr hlo hws hcw (fun a' U hW => word_at hW (Or.inl (by first | rfl | simp [Cond.onTables, Cond.keeps, Cond.steady])) hini)
  obtain ⟨hx, hb, hml, ho, -⟩ := S
  intro T hT X
  rcases vx_callSX X hx (hh := hh) (bytes := bytes) (maxL := maxL) (ret := ret) ho hl hstt hini hcode hy hK hg (hsize.trans hml.symm) (argsL := As) (rest := rest) (fun sig h => hn.trans (hlen sig h)) hstack hW (by rw [hb]; exact hdg)
    (fun vm₁ hW₁ => ⟨hf.1, hf.2, hp.2 (T.setVm vm₁) hT hW₁⟩) with ⟨v, vm₁, ⟨U', l2, c2, s2⟩, hW₁, X', ⟨g', mk, t, L, e1, e2, hq, h1, hL, h2, h3⟩, st⟩ | ⟨q, vm₁, ⟨U', l2, c2, s2⟩, hW₁, X', ⟨g', mk, t, L, E, ce, e1, e2, hq, hce, hcv, hcl, h1, hL, h2, h3⟩, st⟩
  · dsimp only [Pt.U, Pt.locs, Pt.cells, Pt.slots] at X' e1 e2 h1 h2 h3 st
    subst h1; subst h2; subst h3
    exact Or.inl ⟨v, (T.setVm vm₁).calling g' mk As.toArray, t, U', L, hT, X', hL, e1, e2, hq, st⟩
  · dsimp only [Pt.U, Pt.locs, Pt.cells, Pt.slots] at X' e1 e2 h1 h2 h3 st hcl
    subst h1; subst h2; subst h3
    exact Or.inr ⟨q, (T.setVm vm₁).calling g' mk As.toArray, t, U', L, E, ce, hT, X', hL, e1, e2, hq, hce, hcv, vx_cls hW₁ hcl, st⟩
end
end VXH
theorem vx_ofWH {l : Launch} {y : MethodName} {ws ws' : List Cond} {rm : Room} {Pc : Array Value → State → Prop} {Qc : Array Value → State → Outcome → State → Prop} {XC : String → State → State → Prop} {mc ms : Nat} {free : Addr → Prop} {cc : ByteArray} {maxL : Nat} {ret : Option FieldType} {hh : List (Nat × Nat × Nat × Nat)}
    (hy : plainName y.cls = true) (hw : ws = Cond.codeWith y cc maxL ret hh :: ws')
    (body : ∀ p e s m args below meth c s₁, BodyLoose p l y (headSpec ws rm) cc maxL ret e s m args below meth c s₁ → c.maxLocals = maxL → Pc args s →
      W p l e (headSpec ws rm).room s m args below meth c s.heap [] 0 0 (vx_MQ below Qc XC args s mc ms free) (entryFrame m args maxL)) : vx_Met l y ws rm Pc Qc XC mc ms free := by
  refine MetFree.of_bodyS (code := cc) (maxLocals := maxL) (ret := ret) hy ?_ ?_
  · intro args s m h hn
    obtain ⟨m9, meth, c, hn9, h1, h2, h3, h4, -, h5, h6, -⟩ := Cond.codeWith_spec (atoms_spec (ws := ws) h _ (by rw [hw]; exact List.mem_cons_self))
    cases hn.symm.trans hn9
    exact ⟨meth, c, h1, h2, h3, h4, h5, h6⟩
  · intro p e s m args below meth c s₁ B hml hP _
    have hh0 : s₁.heap = s.heap := by rw [B.state]; rfl
    obtain ⟨t, a1, o, b1, b2, b3⟩ := body p e s m args below meth c s₁ B hml hP s₁ hh0 (Stand.of_body B)
    exact ⟨t, o, a1, b1, b2, b3⟩
/-! ===== END ===== -/
end
section
/-! PICTURES: a heap's part as a partial function from addresses to cells; the walk's goal with heap, locations and slots hidden. -/
abbrev Pic : Type := Nat → Option va_E
def hp_L (h : Pic) (n : Nat) : va_W := (List.range n).filterMap (fun q => (h q).map (fun e => (q, e)))
def hp_P (D : va_G) (cl : List vw_C) (A : Nat → Prop) (h : Pic) (H : Heap) : Prop := ∀ (q : Nat) (e : va_E), h q = some e → A q ∧ va_at D cl (q, e) H
def hp_up (h : Pic) (a : Nat) (e : va_E) : Pic := fun q => if q = a then some e else h q
/-- which cells a method may change: its picture's, and those that it makes -/
def hp_A (h : Pic) (sz : Nat) : Nat → Prop := fun q => (∃ e, h q = some e) ∨ sz ≤ q
theorem hp_up_s {h : Pic} {a : Nat} {e : va_E} : hp_up h a e a = some e := if_pos rfl
theorem hp_up_n {h : Pic} {a q : Nat} {e : va_E} (hq : q ≠ a) : hp_up h a e q = h q := if_neg hq
theorem hp_up_g {h : Pic} {a q : Nat} {e x : va_E} (hx : h q = some x) (hq : q ≠ a) : hp_up h a e q = some x := (if_neg hq).trans hx
theorem hp_L_mem {h : Pic} {n : Nat} {q : Nat × va_E} (hq : q ∈ hp_L h n) : q.1 < n ∧ h q.1 = some q.2 := by
  obtain ⟨x, hx, he⟩ := List.mem_filterMap.mp hq
  cases hhx : h x with
  | none =>
    rw [hhx] at he
    cases he
  | some e =>
    rw [hhx] at he
    have he' : some (x, e) = some q := he
    cases he'
    exact ⟨List.mem_range.mp hx, hhx⟩
theorem hp_L_at {h : Pic} {n a : Nat} {e : va_E} (ha : h a = some e) (hn : a < n) : ∃ k : Nat, (hp_L h n)[k]? = some (a, e) :=
  List.getElem?_of_mem (List.mem_filterMap.mpr ⟨a, List.mem_range.mpr hn, by rw [ha]; rfl⟩)
theorem hp_L_succ (h : Pic) (n : Nat) : hp_L h (n + 1) = hp_L h n ++ (match h n with | none => [] | some e => [(n, e)]) := by
  unfold hp_L
  rw [List.range_succ, List.filterMap_append]
  congr 1
  cases hn : h n with
  | none => simp [hn]
  | some e => simp [hn]
theorem hp_L_inj (h : Pic) : ∀ (n i j : Nat) (p q : Nat × va_E), (hp_L h n)[i]? = some p → (hp_L h n)[j]? = some q → p.1 = q.1 → i = j
  | 0, i, j, p, q, hi, _, _ => by simp [hp_L] at hi
  | n + 1, i, j, p, q, hi, hj, hpq => by
    rw [hp_L_succ] at hi hj
    have key : ∀ (k : Nat) (r : Nat × va_E), (hp_L h n ++ (match h n with | none => [] | some e => [(n, e)]))[k]? = some r → ((hp_L h n)[k]? = some r ∧ r.1 < n) ∨ (k = (hp_L h n).length ∧ r.1 = n) := by
      intro k r hk
      by_cases hl : k < (hp_L h n).length
      · rw [List.getElem?_append_left hl] at hk
        exact Or.inl ⟨hk, (hp_L_mem (List.mem_of_getElem? hk)).1⟩
      · rw [List.getElem?_append_right (by omega)] at hk
        cases hn : h n with
        | none => rw [hn] at hk; simp at hk
        | some e =>
          rw [hn] at hk
          have hz : k - (hp_L h n).length < 1 := (List.getElem?_eq_some_iff.mp hk).1
          rw [show k - (hp_L h n).length = 0 by omega] at hk
          have hk' : some (n, e) = some r := hk
          cases hk'
          exact Or.inr ⟨by omega, rfl⟩
    rcases key i p hi with ⟨a1, b1⟩ | ⟨a1, b1⟩ <;> rcases key j q hj with ⟨a2, b2⟩ | ⟨a2, b2⟩
    · exact hp_L_inj h n i j p q a1 a2 hpq
    · omega
    · omega
    · omega
section HP0
variable {D : va_G} {cl : List vw_C} {A B : Nat → Prop} {h : Pic} {H H1 : Heap} {a : Nat} {e e0 : va_E}
theorem hp_P.lt (hP : hp_P D cl A h H) (ha : h a = some e) : a < H.size := (hP a e ha).2.lt
theorem hp_P.L (hP : hp_P D cl A h H) : va_P D cl (hp_L h H.size) H := fun k q hk => (hP q.1 q.2 (hp_L_mem (List.mem_of_getElem? hk)).2).2
theorem hp_P.LD (hP : hp_P D cl A h H) (n : Nat) : va_D A (hp_L h n) := ⟨fun i j p q hi hj hpq => hp_L_inj h n i j p q hi hj hpq, fun k q hk => (hP q.1 q.2 (hp_L_mem (List.mem_of_getElem? hk)).2).1⟩
theorem hp_P.ix (hP : hp_P D cl A h H) (ha : h a = some e) : ∃ k : Nat, (hp_L h H.size)[k]? = some (a, e) := hp_L_at ha (hP.lt ha)
theorem hp_P.wk (hP : hp_P D cl A h H) (hAB : ∀ q, A q → B q) : hp_P D cl B h H := fun q e hq => ⟨hAB q (hP q e hq).1, (hP q e hq).2⟩
theorem hp_P.kept (hP : hp_P D cl A h H) (hq : ∀ q e, h q = some e → H1[q]? = H[q]?) : hp_P D cl A h H1 := fun q e hh => ⟨(hP q e hh).1, (hP q e hh).2.kept (hq q e hh)⟩
/-- a cell of the list is set: the picture is -/
theorem hp_P.set {k : Nat} (hP : hp_P D cl A h H) (hk : (hp_L h H.size)[k]? = some (a, e0)) (h1 : va_P D cl ((hp_L h H.size).set k (a, e)) H1) (hd : va_D A ((hp_L h H.size).set k (a, e))) : hp_P D cl A (hp_up h a e) H1 := by
  have hl := (List.getElem?_eq_some_iff.mp hk).1
  have hs : ((hp_L h H.size).set k (a, e))[k]? = some (a, e) := List.getElem?_set_self hl
  intro q x hx
  by_cases hq : q = a
  · subst hq
    rw [hp_up_s] at hx
    cases hx
    exact ⟨hd.2 k _ hs, h1 k _ hs⟩
  · rw [hp_up_n hq] at hx
    obtain ⟨j, hj⟩ := hP.ix hx
    have hjk : k ≠ j := fun z => by
      subst z
      rw [hk] at hj
      cases hj
      exact hq rfl
    have hj' : ((hp_L h H.size).set k (a, e))[j]? = some (q, x) := by rw [List.getElem?_set_ne hjk]; exact hj
    exact ⟨hd.2 j _ hj', h1 j _ hj'⟩
/-- a cell comes -/
theorem hp_P.push {n : Nat} (hP : hp_P D cl A h H) (hn : n = H.size) (h1 : va_P D cl (hp_L h n ++ [(a, e)]) H1) (hd : va_D A (hp_L h n ++ [(a, e)])) : hp_P D cl A (hp_up h a e) H1 ∧ h a = none := by
  subst hn
  have hs : (hp_L h H.size ++ [(a, e)])[(hp_L h H.size).length]? = some (a, e) := by simp
  have hfresh : h a = none := by
    cases hh : h a with
    | none => rfl
    | some x =>
      obtain ⟨j, hj⟩ := hP.ix hh
      have hjl := (List.getElem?_eq_some_iff.mp hj).1
      have hj' : (hp_L h H.size ++ [(a, e)])[j]? = some (a, x) := by rw [List.getElem?_append_left hjl]; exact hj
      have := hd.1 j _ _ _ hj' hs rfl
      omega
  refine ⟨fun q x hx => ?_, hfresh⟩
  by_cases hq : q = a
  · subst hq
    rw [hp_up_s] at hx
    cases hx
    exact ⟨hd.2 _ _ hs, h1 _ _ hs⟩
  · rw [hp_up_n hq] at hx
    obtain ⟨j, hj⟩ := hP.ix hx
    have hjl := (List.getElem?_eq_some_iff.mp hj).1
    have hj' : (hp_L h H.size ++ [(a, e)])[j]? = some (q, x) := by rw [List.getElem?_append_left hjl]; exact hj
    exact ⟨hd.2 j _ hj', h1 j _ hj'⟩
theorem hp_P.self (hP : hp_P D cl A h H) (sz : Nat) : hp_P D cl (hp_A h sz) h H := fun q x hx => ⟨Or.inl ⟨x, hx⟩, (hP q x hx).2⟩
end HP0
end
section
/-! ROWS over pictures: heap, locations and slots are hidden in the goal -/
/-- words that stay, though they are none of the kit's good ones -/
def hp_nk : Cond → Bool
  | .castable _ _ => true
  | .declares _ => true
  | .arrayOver (.object _) => true
  | .methodLinkNest _ _ _ _ => true
  | _ => false
theorem hp_nk_warm {w : Cond} {s U : State} (h : hp_nk w = true) (hW : s.WarmedH U.vm) (hz : va_Nw w s) : va_Nw w U := by
  cases w with
  | castable a b => exact va_Nw.warmC hW hz
  | declares x => exact va_Nw.warmD hW hz
  | arrayOver t =>
    cases t with
    | object n => exact va_AO.moved hW.alike hz
    | _ => cases h
  | methodLinkNest a b c d => exact va_Nw.warmM hW hz
  | _ => cases h
/-- what stays as it is around all methods: the tables, and the two statics that a throw reads -/
def hp_E (D : va_G) (cl : List vw_C) (tys : List (ClassId × FieldType)) (sts : List (String × Nat × String × Nat)) (aos : List Cond) (A : Nat → Prop) (U : State) : Prop :=
  va_K D cl tys U ∧ vx_Zq Bundle.tN "UNASSIGNED_STACK" Bundle.steD A U U.heap ∧ vx_Zq Bundle.tN "SUPPRESSED_SENTINEL" Bundle.listD A U U.heap ∧ (∀ q ∈ sts, vk_R q.1 q.2.1 q.2.2.1 q.2.2.2 U) ∧ (∀ w ∈ aos, hp_nk w = true ∧ va_Nw w U) ∧ va_Nc "java/lang/IllegalStateException" "java/lang/IllegalArgumentException" U
/-- a body's fixed things -/
def hp_C (p : Program) (s : State) (m : MethodId) (args : Array Value) (meth : Method) (c : Code) (cc : ByteArray) (nL : Nat) (own : String) (ws : List Cond) (D : va_G) (cl : List vw_C) (tys : List (ClassId × FieldType)) (sts : List (String × Nat × String × Nat)) (aos : List Cond) (A : Nat → Prop) : Prop :=
  p.tables.exec = Jvm.exec ∧ c.code = cc ∧ c.maxLocals = nL ∧ s.vm.findClass own = some m.cls ∧ (∀ w ∈ ws, w.before args s = true) ∧ meth.locks = false ∧ hp_E D cl tys sts aos A s ∧ (∀ q, s.heap.size ≤ q → A q)
/-- the walk's goal -/
def hp_G (p : Program) (l : Launch) (e : Env) (R : Room) (s : State) (m : MethodId) (args : Array Value) (below : List Frame) (meth : Method) (c : Code) (D : va_G) (cl : List vw_C) (A : Nat → Prop) (nL : Nat) (Q : State → Prop) (cells slots pc : Nat) (lv : List (Nat × Value)) (st : List Value) (h : Pic) : Prop :=
  ∀ (H : Heap) (locs : List Loc) (ls : Array Slot), hp_P D cl A h H → va_S A s.heap H locs → lv_has ls nL lv → W p l e R s m args below meth c H locs cells slots Q (F0 m pc ls st)
/-- .. with an exception of class E thrown over the frame -/
def hp_T (p : Program) (l : Launch) (e : Env) (R : Room) (s : State) (m : MethodId) (args : Array Value) (below : List Frame) (meth : Method) (c : Code) (D : va_G) (cl : List vw_C) (A : Nat → Prop) (nL : Nat) (Q : State → Prop) (cells slots pc : Nat) (lv : List (Nat × Value)) (st : List Value) (h : Pic) (E : String) : Prop :=
  ∀ (H : Heap) (locs : List Loc) (ls : Array Slot) (q : Addr) (ce : Cell), hp_P D cl A h H → va_S A s.heap H locs → lv_has ls nL lv → H[q]? = some ce → ce.vm = .none → s.vm.findClass E = some ce.cls → vx_W p l e R s m args below meth c H locs cells slots Q (F0 m pc ls st) q
section HG
variable {p : Program} {l : Launch} {e : Env} {R : Room} {s : State} {m : MethodId} {args : Array Value} {below : List Frame} {meth : Method} {c : Code} {cc : ByteArray} {nL : Nat} {own : String} {ws : List Cond} {D : va_G} {cl : List vw_C} {tys : List (ClassId × FieldType)} {sts : List (String × Nat × String × Nat)} {aos : List Cond} {A : Nat → Prop} {Q : State → Prop} {cells slots pc : Nat} {lv lv' : List (Nat × Value)} {st : List Value} {h : Pic}
theorem hg_iconst (C : hp_C p s m args meth c cc nL own ws D cl tys sts aos A) {n : Int} {v : Int32} (hd : decode cc pc = .ok (.iconst n, 1)) (hv : Int32.ofInt n = v) (kk : hp_G p l e R s m args below meth c D cl A nL Q cells slots (pc + 1) lv (.int v :: st) h) : hp_G p l e R s m args below meth c D cl A nL Q cells slots pc lv st h :=
  fun H locs ls hP hS hl => lv_iconst C.1 C.2.1 hd hv (kk H locs ls hP hS hl)
theorem hg_bipush (C : hp_C p s m args meth c cc nL own ws D cl tys sts aos A) {n : Int} {v : Int32} (hd : decode cc pc = .ok (.bipush n, 2)) (hv : (Int8.ofInt n).toInt32 = v) (kk : hp_G p l e R s m args below meth c D cl A nL Q cells slots (pc + 2) lv (.int v :: st) h) : hp_G p l e R s m args below meth c D cl A nL Q cells slots pc lv st h :=
  fun H locs ls hP hS hl => lv_bipush C.1 C.2.1 hd hv (kk H locs ls hP hS hl)
theorem hg_sipush (C : hp_C p s m args meth c cc nL own ws D cl tys sts aos A) {n : Int} {v : Int32} (hd : decode cc pc = .ok (.sipush n, 3)) (hv : (Int16.ofInt n).toInt32 = v) (kk : hp_G p l e R s m args below meth c D cl A nL Q cells slots (pc + 3) lv (.int v :: st) h) : hp_G p l e R s m args below meth c D cl A nL Q cells slots pc lv st h :=
  fun H locs ls hP hS hl => lv_sipush C.1 C.2.1 hd hv (kk H locs ls hP hS hl)
theorem hg_null (C : hp_C p s m args meth c cc nL own ws D cl tys sts aos A)  (hd : decode cc pc = .ok (.aconst_null, 1)) (kk : hp_G p l e R s m args below meth c D cl A nL Q cells slots (pc + 1) lv (.null :: st) h) : hp_G p l e R s m args below meth c D cl A nL Q cells slots pc lv st h :=
  fun H locs ls hP hS hl => lv_null C.1 C.2.1 hd (kk H locs ls hP hS hl)
theorem hg_iload_n (C : hp_C p s m args meth c cc nL own ws D cl tys sts aos A) {k : Fin 4} (j : Nat) {i : Nat} {x : Int32} (hd : decode cc pc = .ok (.iload_n k, 1)) (hi : (k : Nat) = i) (hj : lv[j]? = some (i, .int x)) (kk : hp_G p l e R s m args below meth c D cl A nL Q cells slots (pc + 1) lv (.int x :: st) h) : hp_G p l e R s m args below meth c D cl A nL Q cells slots pc lv st h :=
  fun H locs ls hP hS hl => lv_iload_n C.1 C.2.1 hd hi (lv_at hl j hj) (kk H locs ls hP hS hl)
theorem hg_iload (C : hp_C p s m args meth c cc nL own ws D cl tys sts aos A) (j : Nat) {i : Nat} {x : Int32} (hd : decode cc pc = .ok (.iload i, 2)) (hj : lv[j]? = some (i, .int x)) (kk : hp_G p l e R s m args below meth c D cl A nL Q cells slots (pc + 2) lv (.int x :: st) h) : hp_G p l e R s m args below meth c D cl A nL Q cells slots pc lv st h :=
  fun H locs ls hP hS hl => lv_iload C.1 C.2.1 hd (lv_at hl j hj) (kk H locs ls hP hS hl)
theorem hg_lload_n (C : hp_C p s m args meth c cc nL own ws D cl tys sts aos A) {k : Fin 4} (j : Nat) {i : Nat} {x : Int64} (hd : decode cc pc = .ok (.lload_n k, 1)) (hi : (k : Nat) = i) (hj : lv[j]? = some (i, .long x)) (kk : hp_G p l e R s m args below meth c D cl A nL Q cells slots (pc + 1) lv (.long x :: st) h) : hp_G p l e R s m args below meth c D cl A nL Q cells slots pc lv st h :=
  fun H locs ls hP hS hl => lv_lload_n C.1 C.2.1 hd hi (lv_at hl j hj) (kk H locs ls hP hS hl)
theorem hg_lload (C : hp_C p s m args meth c cc nL own ws D cl tys sts aos A) (j : Nat) {i : Nat} {x : Int64} (hd : decode cc pc = .ok (.lload i, 2)) (hj : lv[j]? = some (i, .long x)) (kk : hp_G p l e R s m args below meth c D cl A nL Q cells slots (pc + 2) lv (.long x :: st) h) : hp_G p l e R s m args below meth c D cl A nL Q cells slots pc lv st h :=
  fun H locs ls hP hS hl => lv_lload C.1 C.2.1 hd (lv_at hl j hj) (kk H locs ls hP hS hl)
theorem hg_aload_n (C : hp_C p s m args meth c cc nL own ws D cl tys sts aos A) {k : Fin 4} (j : Nat) {i : Nat} {x : Nat} (hd : decode cc pc = .ok (.aload_n k, 1)) (hi : (k : Nat) = i) (hj : lv[j]? = some (i, .ref x)) (kk : hp_G p l e R s m args below meth c D cl A nL Q cells slots (pc + 1) lv (.ref x :: st) h) : hp_G p l e R s m args below meth c D cl A nL Q cells slots pc lv st h :=
  fun H locs ls hP hS hl => lv_aload_n C.1 C.2.1 hd hi (lv_at hl j hj) (kk H locs ls hP hS hl)
theorem hg_aload (C : hp_C p s m args meth c cc nL own ws D cl tys sts aos A) (j : Nat) {i : Nat} {x : Nat} (hd : decode cc pc = .ok (.aload i, 2)) (hj : lv[j]? = some (i, .ref x)) (kk : hp_G p l e R s m args below meth c D cl A nL Q cells slots (pc + 2) lv (.ref x :: st) h) : hp_G p l e R s m args below meth c D cl A nL Q cells slots pc lv st h :=
  fun H locs ls hP hS hl => lv_aload C.1 C.2.1 hd (lv_at hl j hj) (kk H locs ls hP hS hl)
theorem hg_aload_nN (C : hp_C p s m args meth c cc nL own ws D cl tys sts aos A) {k : Fin 4} (j : Nat) {i : Nat} (hd : decode cc pc = .ok (.aload_n k, 1)) (hi : (k : Nat) = i) (hj : lv[j]? = some (i, .null)) (kk : hp_G p l e R s m args below meth c D cl A nL Q cells slots (pc + 1) lv (.null :: st) h) : hp_G p l e R s m args below meth c D cl A nL Q cells slots pc lv st h :=
  fun H locs ls hP hS hl => lv_aload_nN C.1 C.2.1 hd hi (lv_at hl j hj) (kk H locs ls hP hS hl)
theorem hg_aloadN (C : hp_C p s m args meth c cc nL own ws D cl tys sts aos A) (j : Nat) {i : Nat} (hd : decode cc pc = .ok (.aload i, 2)) (hj : lv[j]? = some (i, .null)) (kk : hp_G p l e R s m args below meth c D cl A nL Q cells slots (pc + 2) lv (.null :: st) h) : hp_G p l e R s m args below meth c D cl A nL Q cells slots pc lv st h :=
  fun H locs ls hP hS hl => lv_aloadN C.1 C.2.1 hd (lv_at hl j hj) (kk H locs ls hP hS hl)
theorem hg_istore_n (C : hp_C p s m args meth c cc nL own ws D cl tys sts aos A) {k : Fin 4} {i : Nat} {x : Int32} (hd : decode cc pc = .ok (.istore_n k, 1)) (hi : (k : Nat) = i) (hn : i < nL) (hv : (i, Value.int x) :: lv.filter (fun q => !(q.1 == i) && !(q.1 + 1 == i && q.2.category == 2)) = lv') (kk : hp_G p l e R s m args below meth c D cl A nL Q cells slots (pc + 1) lv' st h) : hp_G p l e R s m args below meth c D cl A nL Q cells slots pc lv (.int x :: st) h :=
  fun H locs ls hP hS hl => lv_istore_n C.1 C.2.1 hd hi hl hn hv (fun ls' hl' => kk H locs ls' hP hS hl')
theorem hg_istore (C : hp_C p s m args meth c cc nL own ws D cl tys sts aos A) {i : Nat} {x : Int32} (hd : decode cc pc = .ok (.istore i, 2)) (hn : i < nL) (hv : (i, Value.int x) :: lv.filter (fun q => !(q.1 == i) && !(q.1 + 1 == i && q.2.category == 2)) = lv') (kk : hp_G p l e R s m args below meth c D cl A nL Q cells slots (pc + 2) lv' st h) : hp_G p l e R s m args below meth c D cl A nL Q cells slots pc lv (.int x :: st) h :=
  fun H locs ls hP hS hl => lv_istore C.1 C.2.1 hd hl hn hv (fun ls' hl' => kk H locs ls' hP hS hl')
theorem hg_astore_n (C : hp_C p s m args meth c cc nL own ws D cl tys sts aos A) {k : Fin 4} {i : Nat} {x : Nat} (hd : decode cc pc = .ok (.astore_n k, 1)) (hi : (k : Nat) = i) (hn : i < nL) (hv : (i, Value.ref x) :: lv.filter (fun q => !(q.1 == i) && !(q.1 + 1 == i && q.2.category == 2)) = lv') (kk : hp_G p l e R s m args below meth c D cl A nL Q cells slots (pc + 1) lv' st h) : hp_G p l e R s m args below meth c D cl A nL Q cells slots pc lv (.ref x :: st) h :=
  fun H locs ls hP hS hl => lv_astore_n C.1 C.2.1 hd hi hl hn hv (fun ls' hl' => kk H locs ls' hP hS hl')
theorem hg_astore (C : hp_C p s m args meth c cc nL own ws D cl tys sts aos A) {i : Nat} {x : Nat} (hd : decode cc pc = .ok (.astore i, 2)) (hn : i < nL) (hv : (i, Value.ref x) :: lv.filter (fun q => !(q.1 == i) && !(q.1 + 1 == i && q.2.category == 2)) = lv') (kk : hp_G p l e R s m args below meth c D cl A nL Q cells slots (pc + 2) lv' st h) : hp_G p l e R s m args below meth c D cl A nL Q cells slots pc lv (.ref x :: st) h :=
  fun H locs ls hP hS hl => lv_astore C.1 C.2.1 hd hl hn hv (fun ls' hl' => kk H locs ls' hP hS hl')
theorem hg_astore_nN (C : hp_C p s m args meth c cc nL own ws D cl tys sts aos A) {k : Fin 4} {i : Nat}  (hd : decode cc pc = .ok (.astore_n k, 1)) (hi : (k : Nat) = i) (hn : i < nL) (hv : (i, Value.null) :: lv.filter (fun q => !(q.1 == i) && !(q.1 + 1 == i && q.2.category == 2)) = lv') (kk : hp_G p l e R s m args below meth c D cl A nL Q cells slots (pc + 1) lv' st h) : hp_G p l e R s m args below meth c D cl A nL Q cells slots pc lv (.null :: st) h :=
  fun H locs ls hP hS hl => lv_astore_nN C.1 C.2.1 hd hi hl hn hv (fun ls' hl' => kk H locs ls' hP hS hl')
theorem hg_astoreN (C : hp_C p s m args meth c cc nL own ws D cl tys sts aos A) {i : Nat}  (hd : decode cc pc = .ok (.astore i, 2)) (hn : i < nL) (hv : (i, Value.null) :: lv.filter (fun q => !(q.1 == i) && !(q.1 + 1 == i && q.2.category == 2)) = lv') (kk : hp_G p l e R s m args below meth c D cl A nL Q cells slots (pc + 2) lv' st h) : hp_G p l e R s m args below meth c D cl A nL Q cells slots pc lv (.null :: st) h :=
  fun H locs ls hP hS hl => lv_astoreN C.1 C.2.1 hd hl hn hv (fun ls' hl' => kk H locs ls' hP hS hl')
theorem hg_iinc (C : hp_C p s m args meth c cc nL own ws D cl tys sts aos A) (j : Nat) {i : Nat} {n : Int} {x v : Int32} (hd : decode cc pc = .ok (.iinc i n, 3)) (hj : lv[j]? = some (i, .int x)) (hw : x + Int32.ofInt n = v) (hn : i < nL) (hv : (i, Value.int v) :: lv.filter (fun q => !(q.1 == i) && !(q.1 + 1 == i && q.2.category == 2)) = lv') (kk : hp_G p l e R s m args below meth c D cl A nL Q cells slots (pc + 3) lv' st h) : hp_G p l e R s m args below meth c D cl A nL Q cells slots pc lv st h :=
  fun H locs ls hP hS hl => lv_iinc C.1 C.2.1 hd hl hj hw hn hv (fun ls' hl' => kk H locs ls' hP hS hl')
theorem hg_iadd (C : hp_C p s m args meth c cc nL own ws D cl tys sts aos A) {x y : Int32} (hd : decode cc pc = .ok (.iadd, 1)) (kk : hp_G p l e R s m args below meth c D cl A nL Q cells slots (pc + 1) lv (.int (x + y) :: st) h) : hp_G p l e R s m args below meth c D cl A nL Q cells slots pc lv (.int y :: .int x :: st) h :=
  fun H locs ls hP hS hl => lv_iadd C.1 C.2.1 hd (kk H locs ls hP hS hl)
theorem hg_isub (C : hp_C p s m args meth c cc nL own ws D cl tys sts aos A) {x y : Int32} (hd : decode cc pc = .ok (.isub, 1)) (kk : hp_G p l e R s m args below meth c D cl A nL Q cells slots (pc + 1) lv (.int (x - y) :: st) h) : hp_G p l e R s m args below meth c D cl A nL Q cells slots pc lv (.int y :: .int x :: st) h :=
  fun H locs ls hP hS hl => lv_isub C.1 C.2.1 hd (kk H locs ls hP hS hl)
theorem hg_imul (C : hp_C p s m args meth c cc nL own ws D cl tys sts aos A) {x y : Int32} (hd : decode cc pc = .ok (.imul, 1)) (kk : hp_G p l e R s m args below meth c D cl A nL Q cells slots (pc + 1) lv (.int (x * y) :: st) h) : hp_G p l e R s m args below meth c D cl A nL Q cells slots pc lv (.int y :: .int x :: st) h :=
  fun H locs ls hP hS hl => lv_imul C.1 C.2.1 hd (kk H locs ls hP hS hl)
theorem hg_iand (C : hp_C p s m args meth c cc nL own ws D cl tys sts aos A) {x y : Int32} (hd : decode cc pc = .ok (.iand, 1)) (kk : hp_G p l e R s m args below meth c D cl A nL Q cells slots (pc + 1) lv (.int (x &&& y) :: st) h) : hp_G p l e R s m args below meth c D cl A nL Q cells slots pc lv (.int y :: .int x :: st) h :=
  fun H locs ls hP hS hl => lv_iand C.1 C.2.1 hd (kk H locs ls hP hS hl)
theorem hg_i2l (C : hp_C p s m args meth c cc nL own ws D cl tys sts aos A) {x : Int32} {v : Int64} (hd : decode cc pc = .ok (.i2l, 1)) (hv : x.toInt64 = v) (kk : hp_G p l e R s m args below meth c D cl A nL Q cells slots (pc + 1) lv (.long v :: st) h) : hp_G p l e R s m args below meth c D cl A nL Q cells slots pc lv (.int x :: st) h :=
  fun H locs ls hP hS hl => lv_i2l C.1 C.2.1 hd hv (kk H locs ls hP hS hl)
theorem hg_lcmp (C : hp_C p s m args meth c cc nL own ws D cl tys sts aos A) {x y : Int64} (hd : decode cc pc = .ok (.lcmp, 1)) (kk : hp_G p l e R s m args below meth c D cl A nL Q cells slots (pc + 1) lv (.int (lg_cmp x y) :: st) h) : hp_G p l e R s m args below meth c D cl A nL Q cells slots pc lv (.long y :: .long x :: st) h :=
  fun H locs ls hP hS hl => W.lcmp C.1 C.2.1 hd (kk H locs ls hP hS hl)
theorem hg_dup (C : hp_C p s m args meth c cc nL own ws D cl tys sts aos A) {va : Value} (hd : decode cc pc = .ok (.dup, 1)) (hva : va.category = 1) (kk : hp_G p l e R s m args below meth c D cl A nL Q cells slots (pc + 1) lv (va :: va :: st) h) : hp_G p l e R s m args below meth c D cl A nL Q cells slots pc lv (va :: st) h :=
  fun H locs ls hP hS hl => lv_dup C.1 C.2.1 hd hva (kk H locs ls hP hS hl)
theorem hg_pop (C : hp_C p s m args meth c cc nL own ws D cl tys sts aos A) {va : Value} (hd : decode cc pc = .ok (.pop, 1)) (hva : va.category = 1) (kk : hp_G p l e R s m args below meth c D cl A nL Q cells slots (pc + 1) lv st h) : hp_G p l e R s m args below meth c D cl A nL Q cells slots pc lv (va :: st) h :=
  fun H locs ls hP hS hl => lv_pop C.1 C.2.1 hd hva (kk H locs ls hP hS hl)
theorem hg_dup_x1 (C : hp_C p s m args meth c cc nL own ws D cl tys sts aos A) {va vb : Value} (hd : decode cc pc = .ok (.dup_x1, 1)) (hva : va.category = 1) (hvb : vb.category = 1) (kk : hp_G p l e R s m args below meth c D cl A nL Q cells slots (pc + 1) lv (va :: vb :: va :: st) h) : hp_G p l e R s m args below meth c D cl A nL Q cells slots pc lv (va :: vb :: st) h :=
  fun H locs ls hP hS hl => lv_dup_x1 C.1 C.2.1 hd hva hvb (kk H locs ls hP hS hl)
theorem hg_dup2 (C : hp_C p s m args meth c cc nL own ws D cl tys sts aos A) {va vb : Value} (hd : decode cc pc = .ok (.dup2, 1)) (hva : va.category = 1) (hvb : vb.category = 1) (kk : hp_G p l e R s m args below meth c D cl A nL Q cells slots (pc + 1) lv (va :: vb :: va :: vb :: st) h) : hp_G p l e R s m args below meth c D cl A nL Q cells slots pc lv (va :: vb :: st) h :=
  fun H locs ls hP hS hl => lv_dup2_11 C.1 C.2.1 hd hva hvb (kk H locs ls hP hS hl)
theorem hg_topi (C : hp_C p s m args meth c cc nL own ws D cl tys sts aos A) {x : Int32}  (kk : ∀ y : Int32, y = x → hp_G p l e R s m args below meth c D cl A nL Q cells slots pc lv (.int y :: st) h) : hp_G p l e R s m args below meth c D cl A nL Q cells slots pc lv (.int x :: st) h :=
  fun H locs ls hP hS hl => kk x rfl H locs ls hP hS hl
theorem hg_if_eq (C : hp_C p s m args meth c cc nL own ws D cl tys sts aos A) {x : Int32} {off : Int} (tgt : Nat) (hd : decode cc pc = .ok (.ifCond .eq off, 3)) (ht : (pc : Int) + off = (tgt : Int)) (kt : x = 0 → hp_G p l e R s m args below meth c D cl A nL Q cells slots tgt lv st h) (kf : ¬ x = 0 → hp_G p l e R s m args below meth c D cl A nL Q cells slots (pc + 3) lv st h) : hp_G p l e R s m args below meth c D cl A nL Q cells slots pc lv (.int x :: st) h :=
  fun H locs ls hP hS hl => lv_if_eq C.1 C.2.1 hd ht (fun z => kt z H locs ls hP hS hl) (fun z => kf z H locs ls hP hS hl)
theorem hg_icmp_eq (C : hp_C p s m args meth c cc nL own ws D cl tys sts aos A) {x y : Int32} {off : Int} (tgt : Nat) (hd : decode cc pc = .ok (.if_icmp .eq off, 3)) (ht : (pc : Int) + off = (tgt : Int)) (kt : x = y → hp_G p l e R s m args below meth c D cl A nL Q cells slots tgt lv st h) (kf : ¬ x = y → hp_G p l e R s m args below meth c D cl A nL Q cells slots (pc + 3) lv st h) : hp_G p l e R s m args below meth c D cl A nL Q cells slots pc lv (.int y :: .int x :: st) h :=
  fun H locs ls hP hS hl => lv_icmp_eq C.1 C.2.1 hd ht (fun z => kt z H locs ls hP hS hl) (fun z => kf z H locs ls hP hS hl)
theorem hg_if_ne (C : hp_C p s m args meth c cc nL own ws D cl tys sts aos A) {x : Int32} {off : Int} (tgt : Nat) (hd : decode cc pc = .ok (.ifCond .ne off, 3)) (ht : (pc : Int) + off = (tgt : Int)) (kt : ¬ x = 0 → hp_G p l e R s m args below meth c D cl A nL Q cells slots tgt lv st h) (kf : x = 0 → hp_G p l e R s m args below meth c D cl A nL Q cells slots (pc + 3) lv st h) : hp_G p l e R s m args below meth c D cl A nL Q cells slots pc lv (.int x :: st) h :=
  fun H locs ls hP hS hl => lv_if_ne C.1 C.2.1 hd ht (fun z => kt z H locs ls hP hS hl) (fun z => kf z H locs ls hP hS hl)
theorem hg_icmp_ne (C : hp_C p s m args meth c cc nL own ws D cl tys sts aos A) {x y : Int32} {off : Int} (tgt : Nat) (hd : decode cc pc = .ok (.if_icmp .ne off, 3)) (ht : (pc : Int) + off = (tgt : Int)) (kt : ¬ x = y → hp_G p l e R s m args below meth c D cl A nL Q cells slots tgt lv st h) (kf : x = y → hp_G p l e R s m args below meth c D cl A nL Q cells slots (pc + 3) lv st h) : hp_G p l e R s m args below meth c D cl A nL Q cells slots pc lv (.int y :: .int x :: st) h :=
  fun H locs ls hP hS hl => lv_icmp_ne C.1 C.2.1 hd ht (fun z => kt z H locs ls hP hS hl) (fun z => kf z H locs ls hP hS hl)
theorem hg_if_lt (C : hp_C p s m args meth c cc nL own ws D cl tys sts aos A) {x : Int32} {off : Int} (tgt : Nat) (hd : decode cc pc = .ok (.ifCond .lt off, 3)) (ht : (pc : Int) + off = (tgt : Int)) (kt : x < 0 → hp_G p l e R s m args below meth c D cl A nL Q cells slots tgt lv st h) (kf : ¬ x < 0 → hp_G p l e R s m args below meth c D cl A nL Q cells slots (pc + 3) lv st h) : hp_G p l e R s m args below meth c D cl A nL Q cells slots pc lv (.int x :: st) h :=
  fun H locs ls hP hS hl => lv_if_lt C.1 C.2.1 hd ht (fun z => kt z H locs ls hP hS hl) (fun z => kf z H locs ls hP hS hl)
theorem hg_icmp_lt (C : hp_C p s m args meth c cc nL own ws D cl tys sts aos A) {x y : Int32} {off : Int} (tgt : Nat) (hd : decode cc pc = .ok (.if_icmp .lt off, 3)) (ht : (pc : Int) + off = (tgt : Int)) (kt : x < y → hp_G p l e R s m args below meth c D cl A nL Q cells slots tgt lv st h) (kf : ¬ x < y → hp_G p l e R s m args below meth c D cl A nL Q cells slots (pc + 3) lv st h) : hp_G p l e R s m args below meth c D cl A nL Q cells slots pc lv (.int y :: .int x :: st) h :=
  fun H locs ls hP hS hl => lv_icmp_lt C.1 C.2.1 hd ht (fun z => kt z H locs ls hP hS hl) (fun z => kf z H locs ls hP hS hl)
theorem hg_if_ge (C : hp_C p s m args meth c cc nL own ws D cl tys sts aos A) {x : Int32} {off : Int} (tgt : Nat) (hd : decode cc pc = .ok (.ifCond .ge off, 3)) (ht : (pc : Int) + off = (tgt : Int)) (kt : 0 ≤ x → hp_G p l e R s m args below meth c D cl A nL Q cells slots tgt lv st h) (kf : ¬ 0 ≤ x → hp_G p l e R s m args below meth c D cl A nL Q cells slots (pc + 3) lv st h) : hp_G p l e R s m args below meth c D cl A nL Q cells slots pc lv (.int x :: st) h :=
  fun H locs ls hP hS hl => lv_if_ge C.1 C.2.1 hd ht (fun z => kt z H locs ls hP hS hl) (fun z => kf z H locs ls hP hS hl)
theorem hg_icmp_ge (C : hp_C p s m args meth c cc nL own ws D cl tys sts aos A) {x y : Int32} {off : Int} (tgt : Nat) (hd : decode cc pc = .ok (.if_icmp .ge off, 3)) (ht : (pc : Int) + off = (tgt : Int)) (kt : y ≤ x → hp_G p l e R s m args below meth c D cl A nL Q cells slots tgt lv st h) (kf : ¬ y ≤ x → hp_G p l e R s m args below meth c D cl A nL Q cells slots (pc + 3) lv st h) : hp_G p l e R s m args below meth c D cl A nL Q cells slots pc lv (.int y :: .int x :: st) h :=
  fun H locs ls hP hS hl => lv_icmp_ge C.1 C.2.1 hd ht (fun z => kt z H locs ls hP hS hl) (fun z => kf z H locs ls hP hS hl)
theorem hg_if_gt (C : hp_C p s m args meth c cc nL own ws D cl tys sts aos A) {x : Int32} {off : Int} (tgt : Nat) (hd : decode cc pc = .ok (.ifCond .gt off, 3)) (ht : (pc : Int) + off = (tgt : Int)) (kt : 0 < x → hp_G p l e R s m args below meth c D cl A nL Q cells slots tgt lv st h) (kf : ¬ 0 < x → hp_G p l e R s m args below meth c D cl A nL Q cells slots (pc + 3) lv st h) : hp_G p l e R s m args below meth c D cl A nL Q cells slots pc lv (.int x :: st) h :=
  fun H locs ls hP hS hl => lv_if_gt C.1 C.2.1 hd ht (fun z => kt z H locs ls hP hS hl) (fun z => kf z H locs ls hP hS hl)
theorem hg_icmp_gt (C : hp_C p s m args meth c cc nL own ws D cl tys sts aos A) {x y : Int32} {off : Int} (tgt : Nat) (hd : decode cc pc = .ok (.if_icmp .gt off, 3)) (ht : (pc : Int) + off = (tgt : Int)) (kt : y < x → hp_G p l e R s m args below meth c D cl A nL Q cells slots tgt lv st h) (kf : ¬ y < x → hp_G p l e R s m args below meth c D cl A nL Q cells slots (pc + 3) lv st h) : hp_G p l e R s m args below meth c D cl A nL Q cells slots pc lv (.int y :: .int x :: st) h :=
  fun H locs ls hP hS hl => lv_icmp_gt C.1 C.2.1 hd ht (fun z => kt z H locs ls hP hS hl) (fun z => kf z H locs ls hP hS hl)
theorem hg_if_le (C : hp_C p s m args meth c cc nL own ws D cl tys sts aos A) {x : Int32} {off : Int} (tgt : Nat) (hd : decode cc pc = .ok (.ifCond .le off, 3)) (ht : (pc : Int) + off = (tgt : Int)) (kt : x ≤ 0 → hp_G p l e R s m args below meth c D cl A nL Q cells slots tgt lv st h) (kf : ¬ x ≤ 0 → hp_G p l e R s m args below meth c D cl A nL Q cells slots (pc + 3) lv st h) : hp_G p l e R s m args below meth c D cl A nL Q cells slots pc lv (.int x :: st) h :=
  fun H locs ls hP hS hl => lv_if_le C.1 C.2.1 hd ht (fun z => kt z H locs ls hP hS hl) (fun z => kf z H locs ls hP hS hl)
theorem hg_icmp_le (C : hp_C p s m args meth c cc nL own ws D cl tys sts aos A) {x y : Int32} {off : Int} (tgt : Nat) (hd : decode cc pc = .ok (.if_icmp .le off, 3)) (ht : (pc : Int) + off = (tgt : Int)) (kt : x ≤ y → hp_G p l e R s m args below meth c D cl A nL Q cells slots tgt lv st h) (kf : ¬ x ≤ y → hp_G p l e R s m args below meth c D cl A nL Q cells slots (pc + 3) lv st h) : hp_G p l e R s m args below meth c D cl A nL Q cells slots pc lv (.int y :: .int x :: st) h :=
  fun H locs ls hP hS hl => lv_icmp_le C.1 C.2.1 hd ht (fun z => kt z H locs ls hP hS hl) (fun z => kf z H locs ls hP hS hl)
theorem hg_ifnull (C : hp_C p s m args meth c cc nL own ws D cl tys sts aos A) {x : Nat} {off : Int} (hd : decode cc pc = .ok (.ifnull off, 3)) (kk : hp_G p l e R s m args below meth c D cl A nL Q cells slots (pc + 3) lv st h) : hp_G p l e R s m args below meth c D cl A nL Q cells slots pc lv (.ref x :: st) h :=
  fun H locs ls hP hS hl => lv_ifnull C.1 C.2.1 hd (kk H locs ls hP hS hl)
theorem hg_ifnullN (C : hp_C p s m args meth c cc nL own ws D cl tys sts aos A) {off : Int} (tgt : Nat) (hd : decode cc pc = .ok (.ifnull off, 3)) (ht : (pc : Int) + off = (tgt : Int)) (kk : hp_G p l e R s m args below meth c D cl A nL Q cells slots tgt lv st h) : hp_G p l e R s m args below meth c D cl A nL Q cells slots pc lv (.null :: st) h :=
  fun H locs ls hP hS hl => lv_ifnullN C.1 C.2.1 hd ht (kk H locs ls hP hS hl)
theorem hg_ifnonnull (C : hp_C p s m args meth c cc nL own ws D cl tys sts aos A) {x : Nat} {off : Int} (tgt : Nat) (hd : decode cc pc = .ok (.ifnonnull off, 3)) (ht : (pc : Int) + off = (tgt : Int)) (kk : hp_G p l e R s m args below meth c D cl A nL Q cells slots tgt lv st h) : hp_G p l e R s m args below meth c D cl A nL Q cells slots pc lv (.ref x :: st) h :=
  fun H locs ls hP hS hl => lv_ifnonnull C.1 C.2.1 hd ht (kk H locs ls hP hS hl)
theorem hg_ifnonnullN (C : hp_C p s m args meth c cc nL own ws D cl tys sts aos A) {off : Int} (hd : decode cc pc = .ok (.ifnonnull off, 3)) (kk : hp_G p l e R s m args below meth c D cl A nL Q cells slots (pc + 3) lv st h) : hp_G p l e R s m args below meth c D cl A nL Q cells slots pc lv (.null :: st) h :=
  fun H locs ls hP hS hl => lv_ifnonnullN C.1 C.2.1 hd (kk H locs ls hP hS hl)
theorem hg_goto (C : hp_C p s m args meth c cc nL own ws D cl tys sts aos A) {off : Int} (tgt : Nat) (hd : decode cc pc = .ok (.goto off, 3)) (ht : (pc : Int) + off = (tgt : Int)) (kk : hp_G p l e R s m args below meth c D cl A nL Q cells slots tgt lv st h) : hp_G p l e R s m args below meth c D cl A nL Q cells slots pc lv st h :=
  fun H locs ls hP hS hl => lv_goto C.1 C.2.1 hd ht (kk H locs ls hP hS hl)
theorem hg_tableOut (C : hp_C p s m args meth c cc nL own ws D cl tys sts aos A) {dflt lo hi : Int} {offs : Array Int} {len : Nat} {x : Int32} (tgt : Nat) (hd : decode cc pc = .ok (.tableswitch dflt lo hi offs, len)) (hx : x.toInt < lo ∨ hi < x.toInt) (ht : (pc : Int) + dflt = (tgt : Int)) (kk : hp_G p l e R s m args below meth c D cl A nL Q cells slots tgt lv st h) : hp_G p l e R s m args below meth c D cl A nL Q cells slots pc lv (.int x :: st) h :=
  fun H locs ls hP hS hl => lv_tableOut C.1 C.2.1 hd hx ht (kk H locs ls hP hS hl)
theorem hg_tableIn (C : hp_C p s m args meth c cc nL own ws D cl tys sts aos A) {dflt lo hi : Int} {offs : Array Int} {len : Nat} {x : Int32} {off : Int} (tgt : Nat) (hd : decode cc pc = .ok (.tableswitch dflt lo hi offs, len)) (h1 : ¬ x.toInt < lo) (h2 : ¬ hi < x.toInt) (ho : offs[(x.toInt - lo).toNat]? = some off) (ht : (pc : Int) + off = (tgt : Int)) (kk : hp_G p l e R s m args below meth c D cl A nL Q cells slots tgt lv st h) : hp_G p l e R s m args below meth c D cl A nL Q cells slots pc lv (.int x :: st) h :=
  fun H locs ls hP hS hl => lv_tableIn C.1 C.2.1 hd h1 h2 ho ht (kk H locs ls hP hS hl)
theorem hg_get (C : hp_C p s m args meth c cc nL own ws D cl tys sts aos A) {ref C0 : String} {T : u_T} {N ci index a : Nat} {fs : List Value} {v : Value} (hin : ∀ w ∈ u_ws C0 T N, w ∈ ws) (ha : h a = some (.inr (ci, fs))) (hc : cl[ci]? = some (C0, T, N)) (k : Nat) (hk : k < N) (hlink : Cond.fieldLink own index ref (T k).2.1 (T k).2.2.1 ∈ ws) (hsame : (T k).1 = ref) (hv : fs[k]? = some v) (hd : decode cc pc = .ok (.getfield index, 3)) (kk : hp_G p l e R s m args below meth c D cl A nL Q cells slots (pc + 3) lv (v :: st) h) : hp_G p l e R s m args below meth c D cl A nL Q cells slots pc lv (.ref a :: st) h :=
  fun H locs ls hP hS hl => by
  obtain ⟨q0, hq0⟩ := hP.ix ha
  exact va_get C.1 C.2.1 C.2.2.2.2.1 hin C.2.2.2.1 C.2.2.2.2.2.2.1.1 hP.L q0 hq0 hc k hk (C.2.2.2.2.1 _ hlink) (fun _ h9 => hsame ▸ h9) hv hd (kk H locs ls hP hS hl)
theorem hg_iald (C : hp_C p s m args meth c cc nL own ws D cl tys sts aos A) (t0 : Nat) {cA : ClassId} {n a : Nat} {f : Nat → Int32} {i : Int32} (ha : h a = some (.inl (cA, n, .inl f))) (ht : tys[t0]? = some (cA, .int)) (hin : vp_in i n) (hd : decode cc pc = .ok (.iaload, 1)) (kk : hp_G p l e R s m args below meth c D cl A nL Q cells slots (pc + 1) lv (.int (f i.toNatClampNeg) :: st) h) : hp_G p l e R s m args below meth c D cl A nL Q cells slots pc lv (.int i :: .ref a :: st) h :=
  fun H locs ls hP hS hl => by
  obtain ⟨q0, hq0⟩ := hP.ix ha
  exact va_iald C.1 C.2.1 C.2.2.2.2.2.2.1.1 hP.L q0 t0 hq0 ht hin hd (kk H locs ls hP hS hl)
theorem hg_zald (C : hp_C p s m args meth c cc nL own ws D cl tys sts aos A) (t0 : Nat) {cA : ClassId} {n a : Nat} {f : Nat → Int32} {i : Int32} (ha : h a = some (.inl (cA, n, .inl f))) (ht : tys[t0]? = some (cA, .boolean)) (hin : vp_in i n) (hd : decode cc pc = .ok (.baload, 1)) (kk : hp_G p l e R s m args below meth c D cl A nL Q cells slots (pc + 1) lv (.int (f i.toNatClampNeg) :: st) h) : hp_G p l e R s m args below meth c D cl A nL Q cells slots pc lv (.int i :: .ref a :: st) h :=
  fun H locs ls hP hS hl => by
  obtain ⟨q0, hq0⟩ := hP.ix ha
  exact va_zald C.1 C.2.1 C.2.2.2.2.2.2.1.1 hP.L q0 t0 hq0 ht hin hd (kk H locs ls hP hS hl)
theorem hg_zast (C : hp_C p s m args meth c cc nL own ws D cl tys sts aos A) (t0 : Nat) {cA : ClassId} {n a : Nat} {f : Nat → Int32} {i x : Int32} (ha : h a = some (.inl (cA, n, .inl f))) (ht : tys[t0]? = some (cA, .boolean)) (hin : vp_in i n) (hd : decode cc pc = .ok (.bastore, 1)) (kk : hp_G p l e R s m args below meth c D cl A nL Q cells slots (pc + 1) lv st (hp_up h a (.inl (cA, n, .inl (upd f i.toNatClampNeg (vp_nar .boolean x)))))) : hp_G p l e R s m args below meth c D cl A nL Q cells slots pc lv (.int x :: .int i :: .ref a :: st) h :=
  fun H locs ls hP hS hl => by
  obtain ⟨q0, hq0⟩ := hP.ix ha
  exact va_zast C.1 C.2.1 C.2.2.2.2.2.2.1.1 hP.L (hP.LD _) hS q0 t0 hq0 ht hin hd (fun H1 locs1 h1 h2 h3 => kk H1 locs1 ls (hP.set hq0 h1 h2) h3 hl)
theorem hg_lald (C : hp_C p s m args meth c cc nL own ws D cl tys sts aos A) (t0 : Nat) {cA : ClassId} {n a : Nat} {f : Nat → Int64} {i : Int32} (ha : h a = some (.inl (cA, n, .inr (.inl f)))) (ht : tys[t0]? = some (cA, .long)) (hin : vp_in i n) (hd : decode cc pc = .ok (.laload, 1)) (kk : hp_G p l e R s m args below meth c D cl A nL Q cells slots (pc + 1) lv (.long (f i.toNatClampNeg) :: st) h) : hp_G p l e R s m args below meth c D cl A nL Q cells slots pc lv (.int i :: .ref a :: st) h :=
  fun H locs ls hP hS hl => by
  obtain ⟨q0, hq0⟩ := hP.ix ha
  exact va_lald C.1 C.2.1 C.2.2.2.2.2.2.1.1 hP.L q0 t0 hq0 ht hin hd (kk H locs ls hP hS hl)
theorem hg_aald (C : hp_C p s m args meth c cc nL own ws D cl tys sts aos A) (t0 : Nat) {cA : ClassId} {C0 : String} {n a : Nat} {f : Nat → Option Nat} {i : Int32} (ha : h a = some (.inl (cA, n, .inr (.inr (.inr (.inr f)))))) (ht : tys[t0]? = some (cA, .object C0)) (hin : vp_in i n) (hd : decode cc pc = .ok (.aaload, 1)) (kk : hp_G p l e R s m args below meth c D cl A nL Q cells slots (pc + 1) lv (va_rf (f i.toNatClampNeg) :: st) h) : hp_G p l e R s m args below meth c D cl A nL Q cells slots pc lv (.int i :: .ref a :: st) h :=
  fun H locs ls hP hS hl => by
  obtain ⟨q0, hq0⟩ := hP.ix ha
  exact va_aldq C.1 C.2.1 C.2.2.2.2.2.2.1.1 hP.L q0 t0 hq0 ht hin hd (kk H locs ls hP hS hl)
theorem hg_alen (C : hp_C p s m args meth c cc nL own ws D cl tys sts aos A) (t0 : Nat) {cA : ClassId} {x : vp_A} {a : Nat} {ty : FieldType} {v : Int32} (ha : h a = some (.inl (cA, x))) (ht : tys[t0]? = some (cA, ty)) (hv : Int32.ofNat x.1 = v) (hd : decode cc pc = .ok (.arraylength, 1)) (kk : hp_G p l e R s m args below meth c D cl A nL Q cells slots (pc + 1) lv (.int v :: st) h) : hp_G p l e R s m args below meth c D cl A nL Q cells slots pc lv (.ref a :: st) h :=
  fun H locs ls hP hS hl => by
  obtain ⟨q0, hq0⟩ := hP.ix ha
  exact va_alen C.1 C.2.1 C.2.2.2.2.2.2.1.1 hP.L q0 t0 hq0 ht hv hd (kk H locs ls hP hS hl)
theorem hg_put (C : hp_C p s m args meth c cc nL own ws D cl tys sts aos A) {ref C0 : String} {T : u_T} {N ci index a : Nat} {fs : List Value} {v : Value} {ty : FieldType} (ty0 : Nat → FieldType) (hin : ∀ w ∈ u_ws C0 T N, w ∈ ws) (hty : ∀ k, k < N → parseFieldDescriptor (T k).2.2.1 = some (ty0 k)) (hnm : ∀ a, a < N → ∀ b, b < N → a ≠ b → (T a).2.1 ≠ (T b).2.1) (ha : h a = some (.inr (ci, fs))) (hc : cl[ci]? = some (C0, T, N)) (k : Nat) (hk : k < N) (hlink : Cond.fieldLink own index ref (T k).2.1 (T k).2.2.1 ∈ ws) (hsame : (T k).1 = ref) (hfin : (T k).2.2.2 = false) (hpd : parseFieldDescriptor (T k).2.2.1 = some ty) (hn : narrow ty v = v) (hfit : fits ty v = true) (hlen : k < fs.length) {fs' : List Value} (hfs : fs.set k v = fs') (hd : decode cc pc = .ok (.putfield index, 3)) (kk : hp_G p l e R s m args below meth c D cl A nL Q cells slots (pc + 3) lv st (hp_up h a (.inr (ci, fs')))) : hp_G p l e R s m args below meth c D cl A nL Q cells slots pc lv (v :: .ref a :: st) h :=
  fun H locs ls hP hS hl => by
  subst hfs
  obtain ⟨q0, hq0⟩ := hP.ix ha
  exact va_put C.1 C.2.1 C.2.2.2.2.1 hin ty0 hty hnm C.2.2.2.1 C.2.2.2.2.2.2.1.1 hP.L (hP.LD _) hS q0 hq0 hc k hk (C.2.2.2.2.1 _ hlink) (fun _ h9 => hsame ▸ h9) hfin hpd hn hfit hlen hd (fun H1 locs1 h1 h2 h3 => kk H1 locs1 ls (hP.set hq0 h1 h2) h3 hl)
theorem hg_putF (C : hp_C p s m args meth c cc nL own ws D cl tys sts aos A) {ref C0 : String} {T : u_T} {N ci index a : Nat} {fs : List Value} {v : Value} {ty : FieldType} (ty0 : Nat → FieldType) (hin : ∀ w ∈ u_ws C0 T N, w ∈ ws) (hty : ∀ k, k < N → parseFieldDescriptor (T k).2.2.1 = some (ty0 k)) (hnm : ∀ a, a < N → ∀ b, b < N → a ≠ b → (T a).2.1 ≠ (T b).2.1) (ha : h a = some (.inr (ci, fs))) (hc : cl[ci]? = some (C0, T, N)) (k : Nat) (hk : k < N) (hlink : Cond.fieldLink own index ref (T k).2.1 (T k).2.2.1 ∈ ws) (hsame : (T k).1 = ref) (hfin : (T k).2.2.2 = true) (hin2 : meth.name = "<init>") (hdecl : (T k).1 = own) (hpd : parseFieldDescriptor (T k).2.2.1 = some ty) (hn : narrow ty v = v) (hfit : fits ty v = true) (hlen : k < fs.length) {fs' : List Value} (hfs : fs.set k v = fs') (hd : decode cc pc = .ok (.putfield index, 3)) (kk : hp_G p l e R s m args below meth c D cl A nL Q cells slots (pc + 3) lv st (hp_up h a (.inr (ci, fs')))) : hp_G p l e R s m args below meth c D cl A nL Q cells slots pc lv (v :: .ref a :: st) h :=
  fun H locs ls hP hS hl => by
  subst hfs
  obtain ⟨q0, hq0⟩ := hP.ix ha
  exact va_putF C.1 C.2.1 C.2.2.2.2.1 hin ty0 hty hnm C.2.2.2.1 C.2.2.2.2.2.2.1.1 hP.L (hP.LD _) hS q0 hq0 hc k hk (C.2.2.2.2.1 _ hlink) (fun _ h9 => hsame ▸ h9) hfin hin2 hdecl hpd hn hfit hlen hd (fun H1 locs1 h1 h2 h3 => kk H1 locs1 ls (hP.set hq0 h1 h2) h3 hl)
theorem hg_iast (C : hp_C p s m args meth c cc nL own ws D cl tys sts aos A) (t0 : Nat) {cA : ClassId} {n a : Nat} {f : Nat → Int32} {i x : Int32} (ha : h a = some (.inl (cA, n, .inl f))) (ht : tys[t0]? = some (cA, .int)) (hin : vp_in i n) (hd : decode cc pc = .ok (.iastore, 1)) (kk : hp_G p l e R s m args below meth c D cl A nL Q cells slots (pc + 1) lv st (hp_up h a (.inl (cA, n, .inl (upd f i.toNatClampNeg x))))) : hp_G p l e R s m args below meth c D cl A nL Q cells slots pc lv (.int x :: .int i :: .ref a :: st) h :=
  fun H locs ls hP hS hl => by
  obtain ⟨q0, hq0⟩ := hP.ix ha
  exact va_iast C.1 C.2.1 C.2.2.2.2.2.2.1.1 hP.L (hP.LD _) hS q0 t0 hq0 ht hin hd (fun H1 locs1 h1 h2 h3 => kk H1 locs1 ls (hP.set hq0 h1 h2) h3 hl)
theorem hg_last (C : hp_C p s m args meth c cc nL own ws D cl tys sts aos A) (t0 : Nat) {cA : ClassId} {n a : Nat} {f : Nat → Int64} {i : Int32} {x : Int64} (ha : h a = some (.inl (cA, n, .inr (.inl f)))) (ht : tys[t0]? = some (cA, .long)) (hin : vp_in i n) (hd : decode cc pc = .ok (.lastore, 1)) (kk : hp_G p l e R s m args below meth c D cl A nL Q cells slots (pc + 1) lv st (hp_up h a (.inl (cA, n, .inr (.inl (vp_updL f i.toNatClampNeg x)))))) : hp_G p l e R s m args below meth c D cl A nL Q cells slots pc lv (.long x :: .int i :: .ref a :: st) h :=
  fun H locs ls hP hS hl => by
  obtain ⟨q0, hq0⟩ := hP.ix ha
  exact va_last C.1 C.2.1 C.2.2.2.2.2.2.1.1 hP.L (hP.LD _) hS q0 t0 hq0 ht hin hd (fun H1 locs1 h1 h2 h3 => kk H1 locs1 ls (hP.set hq0 h1 h2) h3 hl)
theorem hg_aast (C : hp_C p s m args meth c cc nL own ws D cl tys sts aos A) (t0 ci : Nat) {cA : ClassId} {r : vw_C} {n v a : Nat} {vs : List Value} {f : Nat → Option Nat} {i : Int32} (ha : h a = some (.inl (cA, n, .inr (.inr (.inr (.inr f)))))) (ht : tys[t0]? = some (cA, .object r.1)) (hv : h v = some (.inr (ci, vs))) (hc : cl[ci]? = some r) (hin : vp_in i n) (hd : decode cc pc = .ok (.aastore, 1)) (kk : hp_G p l e R s m args below meth c D cl A nL Q cells slots (pc + 1) lv st (hp_up h a (.inl (cA, n, .inr (.inr (.inr (.inr (va_up f i.toNatClampNeg (some v))))))))) : hp_G p l e R s m args below meth c D cl A nL Q cells slots pc lv (.ref v :: .int i :: .ref a :: st) h :=
  fun H locs ls hP hS hl => by
  obtain ⟨q0, hq0⟩ := hP.ix ha
  obtain ⟨q1, hq1⟩ := hP.ix hv
  exact va_astq C.1 C.2.1 C.2.2.2.2.2.2.1.1 hP.L (hP.LD _) hS q0 t0 q1 ci hq0 ht hq1 hc hin hd (fun H1 locs1 h1 h2 h3 => kk H1 locs1 ls (hP.set hq0 h1 h2) h3 hl)
theorem hg_new (C : hp_C p s m args meth c cc nL own ws D cl tys sts aos A) {C0 : String} {T : u_T} {N ci index : Nat} (ty : Nat → FieldType) (hin : ∀ w ∈ u_ws C0 T N, w ∈ ws) (hty : ∀ k, k < N → parseFieldDescriptor (T k).2.2.1 = some (ty k)) (hcl : Cond.classLink own index C0 ∈ ws) (hinst : Cond.instantiable C0 N ∈ ws) (hini : Cond.initialized C0 ∈ ws) (hc : cl[ci]? = some (C0, T, N)) {fs : List Value} (hfs : ∀ j, j < N → defaultValue (ty j) = vp_V fs j) (hcells : cells + 1 ≤ R.cells) (hslots : slots + N ≤ R.slots) (hd : decode cc pc = .ok (.new index, 3))
    (kk : ∀ q : Nat, h q = none → hp_G p l e R s m args below meth c D cl A nL Q (cells + 1) (slots + N) (pc + 3) lv (.ref q :: st) (hp_up h q (.inr (ci, fs)))) : hp_G p l e R s m args below meth c D cl A nL Q cells slots pc lv st h := fun H locs ls hP hS hl =>
  va_new C.1 C.2.1 C.2.2.2.2.1 hin ty hty C.2.2.2.1 (C.2.2.2.2.1 _ hcl) (C.2.2.2.2.1 _ hinst) (C.2.2.2.2.1 _ hini) C.2.2.2.2.2.2.1.1 hP.L (hP.LD _) hS C.2.2.2.2.2.2.2 hc hfs hcells hslots hd (fun q H1 h1 h2 h3 => by
    obtain ⟨g1, g2⟩ := hP.push rfl h1 h2
    exact kk q g2 H1 locs ls g1 h3 hl)
end HG
end
section
/-! CONTRACTS over pictures, a method's entry, its ends, calls -/
def hp_Pre (D : va_G) (cl : List vw_C) (tys : List (ClassId × FieldType)) (sts : List (String × Nat × String × Nat)) (aos : List Cond) (av : List Value) (h : Pic) (sz : Nat) : Array Value → State → Prop :=
  va_Pc av (fun U => U.heap.size = sz ∧ hp_P D cl (hp_A h sz) h U.heap ∧ hp_E D cl tys sts aos (hp_A h sz) U)
def hp_Qc (D : va_G) (cl : List vw_C) (A : Nat → Prop) (post : Option Value → Pic → Prop) : Array Value → State → Outcome → State → Prop := fun _ st oc t =>
  (∃ (r : Option Value) (u : Pic), oc = .returned r ∧ post r u ∧ hp_P D cl A u t.heap) ∧ va_F A st t
def hp_Xc (D : va_G) (cl : List vw_C) (A : Nat → Prop) (px : String → Pic → Prop) : String → State → State → Prop := fun E st t =>
  (∃ u : Pic, px E u ∧ hp_P D cl A u t.heap) ∧ va_F A st t
/-- a contract: from the picture h, at the arguments av, the method returns with 'post answer picture', or throws E with 'px E picture'; nothing else changes -/
def hp_M (l : Launch) (y : MethodName) (ws : List Cond) (rm : Room) (D : va_G) (cl : List vw_C) (tys : List (ClassId × FieldType)) (sts : List (String × Nat × String × Nat)) (aos : List Cond) (av : List Value) (h : Pic) (post : Option Value → Pic → Prop) (px : String → Pic → Prop) (mc ms : Nat) : Prop :=
  ∀ sz : Nat, vx_Met l y ws rm (hp_Pre D cl tys sts aos av h sz) (hp_Qc D cl (hp_A h sz) post) (hp_Xc D cl (hp_A h sz) px) mc ms (hp_A h sz)
/-- .. of a method that never throws -/
def hp_N (l : Launch) (y : MethodName) (ws : List Cond) (rm : Room) (D : va_G) (cl : List vw_C) (tys : List (ClassId × FieldType)) (sts : List (String × Nat × String × Nat)) (aos : List Cond) (av : List Value) (h : Pic) (post : Option Value → Pic → Prop) (mc ms : Nat) : Prop :=
  ∀ sz : Nat, Met l y ws rm (hp_Pre D cl tys sts aos av h sz) (hp_Qc D cl (hp_A h sz) post) mc ms (hp_A h sz)
def hp_MQ (below : List Frame) (D : va_G) (cl : List vw_C) (A : Nat → Prop) (post : Option Value → Pic → Prop) (px : String → Pic → Prop) (args : Array Value) (s : State) (mc ms : Nat) : State → Prop :=
  vx_MQ below (hp_Qc D cl A post) (hp_Xc D cl A px) args s mc ms A
def hp_NQ (below : List Frame) (D : va_G) (cl : List vw_C) (A : Nat → Prop) (post : Option Value → Pic → Prop) (args : Array Value) (s : State) (mc ms : Nat) : State → Prop :=
  MQ below (hp_Qc D cl A post) args s mc ms A
theorem hp_E.calling {D : va_G} {cl : List vw_C} {tys : List (ClassId × FieldType)} {sts : List (String × Nat × String × Nat)} {aos : List Cond} {A : Nat → Prop} {U : State} (g : JFrame) (mk : MethodId) (a : Array Value) (h : hp_E D cl tys sts aos A U) : hp_E D cl tys sts aos A (U.calling g mk a) :=
  ⟨va_K.moved (u := U) (U := U.calling g mk a) (Vm.Alike.refl U.vm) h.1, vx_Zq.moved (u := U) (U := U.calling g mk a) (Vm.Alike.refl U.vm) h.2.1, vx_Zq.moved (u := U) (U := U.calling g mk a) (Vm.Alike.refl U.vm) h.2.2.1, fun q hq => vk_R.same (u := U) (U := U.calling g mk a) rfl (h.2.2.2.1 q hq), fun w hw => ⟨(h.2.2.2.2.1 w hw).1, hp_nk_warm (s := U) (U := U.calling g mk a) (h.2.2.2.2.1 w hw).1 (State.WarmedH.refl U) (h.2.2.2.2.1 w hw).2⟩, va_Nc.moved (u := U) (U := U.calling g mk a) (Vm.Alike.refl U.vm) h.2.2.2.2.2⟩
theorem hp_E.at {D : va_G} {cl : List vw_C} {tys : List (ClassId × FieldType)} {sts : List (String × Nat × String × Nat)} {aos : List Cond} {A B : Nat → Prop} {s U : State} {H : Heap} {locs : List Loc} (h : hp_E D cl tys sts aos A s) (hW : s.WarmedH U.vm) (hU : U.heap = H) (hS : va_S A s.heap H locs) (hAB : ∀ q, B q → A q) : hp_E D cl tys sts aos B U := by
  refine ⟨va_K.moved hW.alike h.1, ?_, ?_, fun q hq => vk_R.warm hW (h.2.2.2.1 q hq), fun w hw => ⟨(h.2.2.2.2.1 w hw).1, hp_nk_warm (h.2.2.2.2.1 w hw).1 hW (h.2.2.2.2.1 w hw).2⟩, va_Nc.moved hW.alike h.2.2.2.2.2⟩
  · rw [hU]; exact (vx_Zq.moved hW.alike (h.2.1.kept hS.2.1)).narrow hAB
  · rw [hU]; exact (vx_Zq.moved hW.alike (h.2.2.1.kept hS.2.1)).narrow hAB
theorem hp_blind {D : va_G} {cl : List vw_C} {tys : List (ClassId × FieldType)} {sts : List (String × Nat × String × Nat)} {aos : List Cond} {av : List Value} {h : Pic} {sz : Nat} : FrameBlind (hp_Pre D cl tys sts aos av h sz) := fun a U g mk q => by
  obtain ⟨q0, q1, q2, q3⟩ := q
  exact ⟨q0, q1, q2, q3.calling g mk a⟩
section HC
variable {p : Program} {l : Launch} {e : Env} {R : Room} {s : State} {m : MethodId} {args : Array Value} {below : List Frame} {meth : Method} {c : Code} {cc : ByteArray} {nL : Nat} {own : String} {ws : List Cond} {D : va_G} {cl : List vw_C} {tys : List (ClassId × FieldType)} {sts : List (String × Nat × String × Nat)} {aos : List Cond} {A : Nat → Prop} {Q : State → Prop} {cells slots pc : Nat} {lv lv' : List (Nat × Value)} {st sf : List Value} {h : Pic}
theorem hp_sub {H : Heap} {locs : List Loc} (C : hp_C p s m args meth c cc nL own ws D cl tys sts aos A) (hP : hp_P D cl A h H) (hS : va_S A s.heap H locs) : ∀ q, hp_A h H.size q → A q := by
  intro q hq
  rcases hq with ⟨x, hx⟩ | hq
  · exact (hP q x hx).1
  · exact C.2.2.2.2.2.2.2 q (Nat.le_trans hS.1 hq)
/-- less is known of the heap -/
theorem hg_less {h' : Pic} (hh : ∀ q x, h' q = some x → h q = some x) (kk : hp_G p l e R s m args below meth c D cl A nL Q cells slots pc lv st h') : hp_G p l e R s m args below meth c D cl A nL Q cells slots pc lv st h :=
  fun H locs ls hP hS hl => kk H locs ls (fun q x hx => hP q x (hh q x hx)) hS hl
theorem hg_eq {h' : Pic} (hh : h = h') (kk : hp_G p l e R s m args below meth c D cl A nL Q cells slots pc lv st h') : hp_G p l e R s m args below meth c D cl A nL Q cells slots pc lv st h := hh ▸ kk
theorem hg_lv {ks : List Nat} (hv : lv_pick lv ks = lv') (kk : hp_G p l e R s m args below meth c D cl A nL Q cells slots pc lv' st h) : hp_G p l e R s m args below meth c D cl A nL Q cells slots pc lv st h :=
  fun H locs ls hP hS hl => kk H locs ls hP hS (lv_sub hl ks hv)
theorem hg_widen {k n : Nat} (h1 : cells ≤ k) (h2 : slots ≤ n) (kk : hp_G p l e R s m args below meth c D cl A nL Q k n pc lv st h) : hp_G p l e R s m args below meth c D cl A nL Q cells slots pc lv st h :=
  fun H locs ls hP hS hl => W.widen h1 h2 (kk H locs ls hP hS hl)
/-- what is in the picture lies in the heap, and is the method's -/
theorem hg_know (kk : (∀ q x, h q = some x → A q) → hp_G p l e R s m args below meth c D cl A nL Q cells slots pc lv st h) : hp_G p l e R s m args below meth c D cl A nL Q cells slots pc lv st h :=
  fun H locs ls hP hS hl => kk (fun q x hx => (hP q x hx).1) H locs ls hP hS hl
/-- a method's body -/
theorem hg_entry {y : MethodName} {ws ws' : List Cond} {rm : Room} {av : List Value} {lv0 : List (Nat × Value)} {post : Option Value → Pic → Prop} {px : String → Pic → Prop} {mc ms maxL : Nat} {ret : Option FieldType} {D : va_G} {cl : List vw_C} {tys : List (ClassId × FieldType)} {sts : List (String × Nat × String × Nat)} {aos : List Cond} {h : Pic} {cc : ByteArray} {own : String}
    (hy : plainName y.cls = true) (hw : ws = Cond.code y cc maxL ret :: ws') (hown : y.cls = own) (hlen : (lg_sl av).length ≤ maxL) (hlv : lv_args 0 av = lv0)
    (body : ∀ (p : Program) (e : Env) (s : State) (m : MethodId) (args : Array Value) (below : List Frame) (meth : Method) (c : Code) (A : Nat → Prop), hp_C p s m args meth c cc maxL own ws D cl tys sts aos A → (∀ x ∈ c.exceptionTable.toList, False) → meth.sig.returnType = ret →
      hp_G p l e rm s m args below meth c D cl A maxL (hp_MQ below D cl A post px args s mc ms) 0 0 0 lv0 [] h) : hp_M l y ws rm D cl tys sts aos av h post px mc ms := by
  intro sz
  refine vx_ofW (cc := cc) (maxL := maxL) (ret := ret) hy hw ?_
  intro p e s m args below meth c s₁ B hml ht hv
  obtain ⟨rfl, hsz, hP, hE⟩ := hv
  have hts := atoms_spec (ws := ws) B.pre
  have hown' : s.vm.findClass own = some m.cls := hown ▸ findClass_of_methodNamed B.named
  subst hsz
  have hl := lv_entry av (n := maxL) hlen
  rw [lg_entry_eq]
  rw [hlv] at hl
  exact body p e s m av.toArray below meth c (hp_A h s.heap.size) ⟨B.exec, B.bytes, hml, hown', hts, B.notSynchronized, hE, fun q hq => Or.inr hq⟩ ht B.returns s.heap [] _ hP va_S.rf hl
theorem hg_entryN {y : MethodName} {ws ws' : List Cond} {rm : Room} {av : List Value} {lv0 : List (Nat × Value)} {post : Option Value → Pic → Prop} {mc ms maxL : Nat} {ret : Option FieldType} {D : va_G} {cl : List vw_C} {tys : List (ClassId × FieldType)} {sts : List (String × Nat × String × Nat)} {aos : List Cond} {h : Pic} {cc : ByteArray} {own : String}
    (hy : plainName y.cls = true) (hw : ws = Cond.code y cc maxL ret :: ws') (hown : y.cls = own) (hlen : (lg_sl av).length ≤ maxL) (hlv : lv_args 0 av = lv0)
    (body : ∀ (p : Program) (e : Env) (s : State) (m : MethodId) (args : Array Value) (below : List Frame) (meth : Method) (c : Code) (A : Nat → Prop), hp_C p s m args meth c cc maxL own ws D cl tys sts aos A → meth.name = y.name → meth.sig.returnType = ret →
      hp_G p l e rm s m args below meth c D cl A maxL (hp_NQ below D cl A post args s mc ms) 0 0 0 lv0 [] h) : hp_N l y ws rm D cl tys sts aos av h post mc ms := by
  intro sz
  refine Met.ofW (cc := cc) (maxL := maxL) (ret := ret) hy hw ?_
  intro p e s m args below meth c s₁ B hml hv
  obtain ⟨rfl, hsz, hP, hE⟩ := hv
  have hts := atoms_spec (ws := ws) B.pre
  have hown' : s.vm.findClass own = some m.cls := hown ▸ findClass_of_methodNamed B.named
  subst hsz
  have hl := lv_entry av (n := maxL) hlen
  rw [lg_entry_eq]
  rw [hlv] at hl
  exact body p e s m av.toArray below meth c (hp_A h s.heap.size) ⟨B.exec, B.bytes, hml, hown', hts, B.notSynchronized, hE, fun q hq => Or.inr hq⟩ (name_of_methodNamed B.named B.method).1 B.returns s.heap [] _ hP va_S.rf hl
/-- a method's ends -/
theorem hg_iretN {post : Option Value → Pic → Prop} {mc ms : Nat} {v : Int32} {ty : FieldType} (C : hp_C p s m args meth c cc nL own ws D cl tys sts aos A) (hr : meth.sig.returnType = some ty) (hn : narrow ty (.int v) = .int v) (hd : decode cc pc = .ok (.ireturn, 1)) (hc : cells ≤ mc) (hs : slots ≤ ms) (hq : post (some (.int v)) h) :
    hp_G p l e R s m args below meth c D cl A nL (hp_NQ below D cl A post args s mc ms) cells slots pc lv [.int v] h := fun H locs ls hP hS hl =>
  W.widen hc hs (W.zret C.1 C.2.1 hr hn (fun t ht _ => ⟨⟨_, h, rfl, hq, by rw [ht]; exact hP⟩, hS.F ht⟩) hS.2.2 hd C.2.2.2.2.2.1)
theorem hg_vretN {post : Option Value → Pic → Prop} {mc ms : Nat} (C : hp_C p s m args meth c cc nL own ws D cl tys sts aos A) (hr : meth.sig.returnType = none) (hd : decode cc pc = .ok (.return_, 1)) (hc : cells ≤ mc) (hs : slots ≤ ms) (hq : post none h) :
    hp_G p l e R s m args below meth c D cl A nL (hp_NQ below D cl A post args s mc ms) cells slots pc lv [] h := fun H locs ls hP hS hl =>
  W.widen hc hs (W.vret C.1 C.2.1 hr (fun t ht _ => ⟨⟨_, h, rfl, hq, by rw [ht]; exact hP⟩, hS.F ht⟩) hS.2.2 hd C.2.2.2.2.2.1)
theorem hg_aretN {post : Option Value → Pic → Prop} {mc ms : Nat} {v : Value} {n : String} (C : hp_C p s m args meth c cc nL own ws D cl tys sts aos A) (hr : meth.sig.returnType = some (.object n)) (hv : v = .null ∨ ∃ a, v = .ref a) (hd : decode cc pc = .ok (.areturn, 1)) (hc : cells ≤ mc) (hs : slots ≤ ms) (hq : post (some v) h) :
    hp_G p l e R s m args below meth c D cl A nL (hp_NQ below D cl A post args s mc ms) cells slots pc lv [v] h := fun H locs ls hP hS hl =>
  W.widen hc hs (W.aret C.1 C.2.1 hr (Or.inl ⟨n, rfl⟩) hv (fun t ht _ => ⟨⟨_, h, rfl, hq, by rw [ht]; exact hP⟩, hS.F ht⟩) hS.2.2 hd C.2.2.2.2.2.1)
theorem hg_N {post : Option Value → Pic → Prop} {px : String → Pic → Prop} {mc ms : Nat} (kk : hp_G p l e R s m args below meth c D cl A nL (hp_NQ below D cl A post args s mc ms) cells slots pc lv st h) : hp_G p l e R s m args below meth c D cl A nL (hp_MQ below D cl A post px args s mc ms) cells slots pc lv st h :=
  fun H locs ls hP hS hl => vx_ret (kk H locs ls hP hS hl)
theorem hg_iret {post : Option Value → Pic → Prop} {px : String → Pic → Prop} {mc ms : Nat} {v : Int32} {ty : FieldType} (C : hp_C p s m args meth c cc nL own ws D cl tys sts aos A) (hr : meth.sig.returnType = some ty) (hn : narrow ty (.int v) = .int v) (hd : decode cc pc = .ok (.ireturn, 1)) (hc : cells ≤ mc) (hs : slots ≤ ms) (hq : post (some (.int v)) h) :
    hp_G p l e R s m args below meth c D cl A nL (hp_MQ below D cl A post px args s mc ms) cells slots pc lv [.int v] h := hg_N (hg_iretN C hr hn hd hc hs hq)
theorem hg_vret {post : Option Value → Pic → Prop} {px : String → Pic → Prop} {mc ms : Nat} (C : hp_C p s m args meth c cc nL own ws D cl tys sts aos A) (hr : meth.sig.returnType = none) (hd : decode cc pc = .ok (.return_, 1)) (hc : cells ≤ mc) (hs : slots ≤ ms) (hq : post none h) :
    hp_G p l e R s m args below meth c D cl A nL (hp_MQ below D cl A post px args s mc ms) cells slots pc lv [] h := hg_N (hg_vretN C hr hd hc hs hq)
theorem hg_aret {post : Option Value → Pic → Prop} {px : String → Pic → Prop} {mc ms : Nat} {v : Value} {n : String} (C : hp_C p s m args meth c cc nL own ws D cl tys sts aos A) (hr : meth.sig.returnType = some (.object n)) (hv : v = .null ∨ ∃ a, v = .ref a) (hd : decode cc pc = .ok (.areturn, 1)) (hc : cells ≤ mc) (hs : slots ≤ ms) (hq : post (some v) h) :
    hp_G p l e R s m args below meth c D cl A nL (hp_MQ below D cl A post px args s mc ms) cells slots pc lv [v] h := hg_N (hg_aretN C hr hv hd hc hs hq)
/-- an exception goes on to the caller -/
theorem hg_out {post : Option Value → Pic → Prop} {px : String → Pic → Prop} {mc ms : Nat} {E : String} (C : hp_C p s m args meth c cc nL own ws D cl tys sts aos A) (hne : ∀ x ∈ c.exceptionTable.toList, False) (hc : cells ≤ mc) (hs : slots ≤ ms) (hq : px E h) :
    hp_T p l e R s m args below meth c D cl A nL (hp_MQ below D cl A post px args s mc ms) cells slots pc lv st h E := fun H locs ls q ce hP hS hl h1 h2 h3 =>
  vx_out (fun x hx => (hne x hx).elim) C.2.2.2.2.2.1 h1 h2 h3 (fun t ht _ => ⟨⟨h, hq, by rw [ht]; exact hP⟩, hS.F ht⟩) hS.2.2 hc hs
/-- a call of a method that may throw, by an instruction whose run is given -/
theorem hg_callX {av : List Value} {post : Option Value → Pic → Prop} {px : String → Pic → Prop} {mc ms : Nat} (C : hp_C p s m args meth c cc nL own ws D cl tys sts aos A)
    (hr : ∀ (H : Heap) (locs : List Loc) (ls : Array Slot), hp_P D cl A h H → va_S A s.heap H locs → lv_has ls nL lv → vx_Run p l e R s m args below meth c H locs cells slots mc ms (F0 m pc ls sf) st (hp_Qc D cl (hp_A h H.size) post av.toArray) (hp_Xc D cl (hp_A h H.size) px) (hp_A h H.size))
    (kk : ∀ (r : Option Value) (u : Pic), post r u → hp_G p l e R s m args below meth c D cl A nL Q (cells + mc) (slots + ms) (pc + 3) lv (r.toList ++ st) u)
    (kx : ∀ (E : String) (u : Pic), px E u → hp_T p l e R s m args below meth c D cl A nL Q (cells + mc) (slots + ms) pc lv st u E) : hp_G p l e R s m args below meth c D cl A nL Q cells slots pc lv sf h := by
  intro H locs ls hP hS hl T hT X
  have hsub := hp_sub C hP hS
  rcases hr H locs ls hP hS hl T hT X with ⟨v, st₀, t, T', L, h0, X', hL, e1, e2, ⟨⟨r, u, hv, hp, hb⟩, hF⟩, stp⟩ | ⟨q, st₀, t, T', L, E, ce, h0, X', hL, e1, e2, ⟨⟨u, hp, hb⟩, hF⟩, hce, hcv, hcl, stp⟩
  · cases hv
    obtain ⟨k1, k2, k3⟩ := vx_keep h0 e1 hS (fun q _ z => hsub q z) hsub hL hF
    obtain ⟨t2, a1, b1⟩ := kk v u hp T'.heap (locs ++ L) ls (by rw [e1]; exact hb.wk hsub) k3 hl T' rfl X'
    exact ⟨t2, stp t2 a1, b1⟩
  · obtain ⟨k1, k2, k3⟩ := vx_keep h0 e1 hS (fun q _ z => hsub q z) hsub hL hF
    obtain ⟨t2, a1, b1⟩ := kx E u hp T'.heap (locs ++ L) ls q ce (by rw [e1]; exact hb.wk hsub) k3 hl (by rw [e1]; exact hce) hcv hcl T' rfl X'
    exact ⟨t2, stp.trans a1, b1⟩
theorem hg_callY {av : List Value} {post : Option Value → Pic → Prop} {mc ms : Nat} (C : hp_C p s m args meth c cc nL own ws D cl tys sts aos A)
    (hr : ∀ (H : Heap) (locs : List Loc) (ls : Array Slot), hp_P D cl A h H → va_S A s.heap H locs → lv_has ls nL lv → va_Run p l e R s m args below meth c H locs cells slots mc ms (F0 m pc ls sf) st (hp_Qc D cl (hp_A h H.size) post av.toArray) (hp_A h H.size))
    (kk : ∀ (r : Option Value) (u : Pic), post r u → hp_G p l e R s m args below meth c D cl A nL Q (cells + mc) (slots + ms) (pc + 3) lv (r.toList ++ st) u) : hp_G p l e R s m args below meth c D cl A nL Q cells slots pc lv sf h := by
  intro H locs ls hP hS hl T hT X
  have hsub := hp_sub C hP hS
  obtain ⟨v, st₀, t, T', L, h0, X', hL, e1, e2, ⟨⟨r, u, hv, hp, hb⟩, hF⟩, stp⟩ := hr H locs ls hP hS hl T hT X
  cases hv
  obtain ⟨k1, k2, k3⟩ := vx_keep h0 e1 hS (fun q _ z => hsub q z) hsub hL hF
  obtain ⟨t2, a1, b1⟩ := kk v u hp T'.heap (locs ++ L) ls (by rw [e1]; exact hb.wk hsub) k3 hl T' rfl X'
  exact ⟨t2, stp t2 a1, b1⟩
variable {y : MethodName} {bytes : ByteArray} {maxL mc ms n index : Nat} {ret : Option FieldType} {wy : List Cond} {rm : Room} {post : Option Value → Pic → Prop} {px : String → Pic → Prop} {As : List Value} {C0 : String} {b : Nat}
theorem hp_pre (C : hp_C p s m args meth c cc nL own ws D cl tys sts aos A) {H : Heap} {locs : List Loc} (hP : hp_P D cl A h H) (hS : va_S A s.heap H locs) (av : List Value) : ∀ U : State, U.heap = H → s.WarmedH U.vm → hp_Pre D cl tys sts aos av h H.size av.toArray U := fun U hU hW =>
  ⟨rfl, by rw [hU], by rw [hU]; exact hP.self _, C.2.2.2.2.2.2.1.at hW hU hS (hp_sub C hP hS)⟩
theorem hp_recv (C : hp_C p s m args meth c cc nL own ws D cl tys sts aos A) {H : Heap} {ci : Nat} {fs : List Value} {q : vw_C} (hP : hp_P D cl A h H) (hb : h b = some (.inr (ci, fs))) (hc : cl[ci]? = some q) : ∃ cell : Cell, H[b]? = some cell ∧ cell.vm.isStatics = false ∧ s.vm.findClass q.1 = some cell.cls := by
  obtain ⟨q0, hq0⟩ := hP.ix hb
  exact va_recv C.2.2.2.2.2.2.1.1 hP.L hc hq0
theorem hg_S (C : hp_C p s m args meth c cc nL own ws D cl tys sts aos A) (hM : hp_M l y wy rm D cl tys sts aos As h post px mc ms) (cw : CallB R s args own index y bytes maxL ret wy rm mc ms n ∧ (Cond.static y).before args s = true) (hn : As.length = n) (hsf : sf = As.reverse ++ st) (hst : (st.map fun v => v.category).sum ≤ 8) (hd : decode cc pc = .ok (.invokestatic index, 3)) (hf : cells + mc ≤ R.cells ∧ slots + ms ≤ R.slots)
    (kk : ∀ (r : Option Value) (u : Pic), post r u → hp_G p l e R s m args below meth c D cl A nL Q (cells + mc) (slots + ms) (pc + 3) lv (r.toList ++ st) u)
    (kx : ∀ (E : String) (u : Pic), px E u → hp_T p l e R s m args below meth c D cl A nL Q (cells + mc) (slots + ms) pc lv st u E) : hp_G p l e R s m args below meth c D cl A nL Q cells slots pc lv sf h :=
  hg_callX C (fun H locs ls hP hS hl => vx_runS ⟨C.1, C.2.1, C.2.2.1, C.2.2.2.1, C.2.2.2.2.1⟩ (hM H.size) cw ⟨hp_blind, hp_pre C hP hS As⟩ rfl hn hl.1 hsf (lv_room hst) hd hf) kk kx
theorem hg_SN (C : hp_C p s m args meth c cc nL own ws D cl tys sts aos A) (hM : hp_N l y wy rm D cl tys sts aos As h post mc ms) (cw : CallB R s args own index y bytes maxL ret wy rm mc ms n ∧ (Cond.static y).before args s = true) (hn : As.length = n) (hsf : sf = As.reverse ++ st) (hst : (st.map fun v => v.category).sum ≤ 8) (hd : decode cc pc = .ok (.invokestatic index, 3)) (hf : cells + mc ≤ R.cells ∧ slots + ms ≤ R.slots)
    (kk : ∀ (r : Option Value) (u : Pic), post r u → hp_G p l e R s m args below meth c D cl A nL Q (cells + mc) (slots + ms) (pc + 3) lv (r.toList ++ st) u) : hp_G p l e R s m args below meth c D cl A nL Q cells slots pc lv sf h :=
  hg_callY C (fun H locs ls hP hS hl => va_runS ⟨C.1, C.2.1, C.2.2.1, C.2.2.2.1, C.2.2.2.2.1⟩ (hM H.size) cw ⟨hp_blind, hp_pre C hP hS As⟩ rfl hn hl.1 hsf (lv_room hst) hd hf) kk
theorem hg_V {ci : Nat} {fs : List Value} {q : vw_C} (C : hp_C p s m args meth c cc nL own ws D cl tys sts aos A) (hM : hp_M l y wy rm D cl tys sts aos (.ref b :: As) h post px mc ms) (cw : CallW R s args own q.1 index y bytes maxL ret wy rm mc ms n) (hb : h b = some (.inr (ci, fs))) (hc : cl[ci]? = some q) (hn : As.length = n) (hsf : sf = As.reverse ++ .ref b :: st) (hst : (st.map fun v => v.category).sum ≤ 8) (hd : decode cc pc = .ok (.invokevirtual index, 3)) (hf : cells + mc ≤ R.cells ∧ slots + ms ≤ R.slots)
    (kk : ∀ (r : Option Value) (u : Pic), post r u → hp_G p l e R s m args below meth c D cl A nL Q (cells + mc) (slots + ms) (pc + 3) lv (r.toList ++ st) u)
    (kx : ∀ (E : String) (u : Pic), px E u → hp_T p l e R s m args below meth c D cl A nL Q (cells + mc) (slots + ms) pc lv st u E) : hp_G p l e R s m args below meth c D cl A nL Q cells slots pc lv sf h :=
  hg_callX (av := .ref b :: As) C (fun H locs ls hP hS hl => vx_runV ⟨C.1, C.2.1, C.2.2.1, C.2.2.2.1, C.2.2.2.2.1⟩ (hM H.size) cw ⟨hp_blind, hp_recv C hP hb hc, hp_pre C hP hS _⟩ rfl hn hl.1 hsf (lv_room hst) hd hf) kk kx
theorem hg_VN {ci : Nat} {fs : List Value} {q : vw_C} (C : hp_C p s m args meth c cc nL own ws D cl tys sts aos A) (hM : hp_N l y wy rm D cl tys sts aos (.ref b :: As) h post mc ms) (cw : CallW R s args own q.1 index y bytes maxL ret wy rm mc ms n) (hb : h b = some (.inr (ci, fs))) (hc : cl[ci]? = some q) (hn : As.length = n) (hsf : sf = As.reverse ++ .ref b :: st) (hst : (st.map fun v => v.category).sum ≤ 8) (hd : decode cc pc = .ok (.invokevirtual index, 3)) (hf : cells + mc ≤ R.cells ∧ slots + ms ≤ R.slots)
    (kk : ∀ (r : Option Value) (u : Pic), post r u → hp_G p l e R s m args below meth c D cl A nL Q (cells + mc) (slots + ms) (pc + 3) lv (r.toList ++ st) u) : hp_G p l e R s m args below meth c D cl A nL Q cells slots pc lv sf h :=
  hg_callY (av := .ref b :: As) C (fun H locs ls hP hS hl => va_runV ⟨C.1, C.2.1, C.2.2.1, C.2.2.2.1, C.2.2.2.2.1⟩ (hM H.size) cw ⟨hp_blind, hp_recv C hP hb hc, hp_pre C hP hS _⟩ rfl hn hl.1 hsf (lv_room hst) hd hf) kk
theorem hg_I (C : hp_C p s m args meth c cc nL own ws D cl tys sts aos A) (hM : hp_N l y wy rm D cl tys sts aos (.ref b :: As) h post mc ms) (cw : CallB R s args own index y bytes maxL none wy rm mc ms n ∧ y.name = "<init>" ∧ (Cond.instanceMethod y).before args s = true) (hn : As.length = n) (hsf : sf = As.reverse ++ .ref b :: st) (hst : (st.map fun v => v.category).sum ≤ 8) (hd : decode cc pc = .ok (.invokespecial index, 3)) (hf : cells + mc ≤ R.cells ∧ slots + ms ≤ R.slots)
    (kk : ∀ (r : Option Value) (u : Pic), post r u → hp_G p l e R s m args below meth c D cl A nL Q (cells + mc) (slots + ms) (pc + 3) lv (r.toList ++ st) u) : hp_G p l e R s m args below meth c D cl A nL Q cells slots pc lv sf h :=
  hg_callY (av := .ref b :: As) C (fun H locs ls hP hS hl => va_runI ⟨C.1, C.2.1, C.2.2.1, C.2.2.2.1, C.2.2.2.2.1⟩ (hM H.size) cw ⟨hp_blind, hp_pre C hP hS _⟩ rfl hn hl.1 hsf (lv_room hst) hd hf) kk
end HC
end
section
/-! further rows over pictures: new arrays, System.arraycopy, Object's constructor, throw, catch, private constructors of a nest mate -/
section HM
variable {p : Program} {l : Launch} {e : Env} {R : Room} {s : State} {m : MethodId} {args : Array Value} {below : List Frame} {meth : Method} {c : Code} {cc : ByteArray} {nL : Nat} {own : String} {ws : List Cond} {D : va_G} {cl : List vw_C} {tys : List (ClassId × FieldType)} {sts : List (String × Nat × String × Nat)} {aos : List Cond} {A : Nat → Prop} {Q : State → Prop} {cells slots pc : Nat} {lv lv' : List (Nat × Value)} {st sf : List Value} {h : Pic}
theorem hg_newa {atype : ArrayType} {ty : FieldType} {cA : ClassId} {n : Int32} {N : Nat} {a0 : vp_A} (C : hp_C p s m args meth c cc nL own ws D cl tys sts aos A) (t0 : Nat) (harr : Cond.arrayClass (newarray.typeOf atype) ∈ ws) (hty : newarray.typeOf atype = ty) (hobj : ∀ z, ty ≠ .object z) (ht : tys[t0]? = some (cA, ty)) (ha : ∀ cA : ClassId, vp_cell cA a0 = arrV cA N (fun _ => defaultValue ty)) (hn : ¬ n < 0) (hN : n.toNatClampNeg = N) (hbytes : N * componentBytes ty ≤ 536870912) (hcells : cells + 1 ≤ R.cells) (hslots : slots + N ≤ R.slots) (hd : decode cc pc = .ok (.newarray atype, 2))
    (kk : ∀ q : Nat, h q = none → hp_G p l e R s m args below meth c D cl A nL Q (cells + 1) (slots + N) (pc + 2) lv (.ref q :: st) (hp_up h q (.inl (cA, a0)))) : hp_G p l e R s m args below meth c D cl A nL Q cells slots pc lv (.int n :: st) h := fun H locs ls hP hS hl => by
  refine va_newa C.1 C.2.1 (C.2.2.2.2.1 _ harr) hty C.2.2.2.2.2.2.1.1 hP.L (hP.LD _) hS C.2.2.2.2.2.2.2 ha hn hN hbytes hcells hslots hd (fun q cB H1 hK h1 h2 h3 => ?_)
  have e1 := (hK.2 tys.length (cB, ty) (by simp)).2
  have e2 := (C.2.2.2.2.2.2.1.1.2 t0 _ ht).2
  have hcc : cB = cA := by
    cases ty with
    | object z => exact absurd rfl (hobj z)
    | _ => exact Option.some.inj (Eq.trans (Eq.symm e1) e2)
  subst hcc
  obtain ⟨g1, g2⟩ := hP.push rfl h1 h2
  exact kk q g2 H1 locs ls g1 h3 hl
theorem hg_newq {C0 : String} {index : Nat} {cA : ClassId} {n : Int32} {N : Nat} (C : hp_C p s m args meth c cc nL own ws D cl tys sts aos A) (t0 : Nat) (hcl : Cond.classLink own index C0 ∈ ws) (hover : Cond.arrayOver (.object C0) ∈ aos) (ht : tys[t0]? = some (cA, .object C0)) (hn : ¬ n < 0) (hN : n.toNatClampNeg = N) (hbytes : N * 4 ≤ 536870912) (hcells : cells + 1 ≤ R.cells) (hslots : slots + N ≤ R.slots) (hd : decode cc pc = .ok (.anewarray index, 3))
    (kk : ∀ q : Nat, h q = none → hp_G p l e R s m args below meth c D cl A nL Q (cells + 1) (slots + N) (pc + 3) lv (.ref q :: st) (hp_up h q (.inl (cA, N, .inr (.inr (.inr (.inr (fun _ => none)))))))) : hp_G p l e R s m args below meth c D cl A nL Q cells slots pc lv (.int n :: st) h := fun H locs ls hP hS hl => by
  refine va_newq C.1 C.2.1 C.2.2.2.1 (C.2.2.2.2.1 _ hcl) (C.2.2.2.2.2.2.1.2.2.2.2.1 _ hover).2 C.2.2.2.2.2.2.1.1 hP.L (hP.LD _) hS C.2.2.2.2.2.2.2 hn hN hbytes hcells hslots hd (fun q cB H1 hK h1 h2 h3 => ?_)
  obtain ⟨k1, o1, -, -, -, e1⟩ := (hK.2 tys.length (cB, .object C0) (by simp)).2
  obtain ⟨k2, o2, -, -, -, e2⟩ := (C.2.2.2.2.2.2.1.1.2 t0 _ ht).2
  have hcc : cB = cA := Option.some.inj (e1.symm.trans e2)
  subst hcc
  obtain ⟨g1, g2⟩ := hP.push rfl h1 h2
  exact kk q g2 H1 locs ls g1 h3 hl
theorem hg_copyi {index : Nat} {a0 a : Nat} {cA : ClassId} {n0 n1 : Nat} {f g : Nat → Int32} {sp dp n : Int32} (C : hp_C p s m args meth c cc nL own ws D cl tys sts aos A) (t0 : Nat) (hlink : Cond.methodLink own index arraycopyName ∈ ws) (hnat : Cond.native arraycopyName ∈ ws) (hstat : Cond.static arraycopyName ∈ ws) (hini : Cond.initialized "java/lang/System" ∈ ws)
    (ha0 : h a0 = some (.inl (cA, n0, .inl f))) (ha1 : h a = some (.inl (cA, n1, .inl g))) (ht : tys[t0]? = some (cA, .int)) (h1 : ¬ sp < 0) (h2 : ¬ dp < 0) (h3 : ¬ n < 0) (h4 : sp.toNatClampNeg + n.toNatClampNeg ≤ n0) (h5 : dp.toNatClampNeg + n.toNatClampNeg ≤ n1) (hframes : 1 ≤ R.frames) (hlocals : (st.map fun v => v.category).sum + (nativeFrameWords "java/lang/System" "arraycopy" 5 + 11) ≤ R.locals) (hd : decode cc pc = .ok (.invokestatic index, 3))
    (kk : hp_G p l e R s m args below meth c D cl A nL Q cells slots (pc + 3) lv st (hp_up h a (.inl (cA, n1, .inl (va_cpy f g sp.toNatClampNeg dp.toNatClampNeg n.toNatClampNeg))))) : hp_G p l e R s m args below meth c D cl A nL Q cells slots pc lv (.int n :: .int dp :: .ref a :: .int sp :: .ref a0 :: st) h := fun H locs ls hP hS hl => by
  obtain ⟨q0, hq0⟩ := hP.ix ha0
  obtain ⟨q1, hq1⟩ := hP.ix ha1
  exact va_copyi C.1 C.2.1 (C.2.2.1.trans hl.1.symm) C.2.2.2.1 (C.2.2.2.2.1 _ hlink) (C.2.2.2.2.1 _ hnat) (C.2.2.2.2.1 _ hstat) (C.2.2.2.2.1 _ hini) C.2.2.2.2.2.2.1.1 hP.L (hP.LD _) hS q0 q1 t0 t0 hq0 hq1 ht ht rfl h1 h2 h3 h4 h5 (fun i _ => rfl) hframes hlocals hd (fun H1 locs1 g1 g2 g3 => kk H1 locs1 ls (hP.set hq1 g1 g2) g3 hl)
theorem hg_obj {idx a : Nat} (C : hp_C p s m args meth c cc nL own ws D cl tys sts aos A) (hlink : Cond.methodLink own idx Lib.objectInit ∈ ws) (hinst : Cond.instanceMethod Lib.objectInit ∈ ws) (hcode : Cond.code Lib.objectInit ⟨#[0xb1]⟩ 1 none ∈ ws) (hframes : 1 ≤ R.frames) (hlocals : (st.map fun v => v.category).sum + 12 ≤ R.locals) (hd : decode cc pc = .ok (.invokespecial idx, 3))
    (kk : hp_G p l e R s m args below meth c D cl A nL Q cells slots (pc + 3) lv st h) : hp_G p l e R s m args below meth c D cl A nL Q cells slots pc lv (.ref a :: st) h := fun H locs ls hP hS hl =>
  W.objInit C.1 C.2.1 C.2.2.2.1 (C.2.2.2.2.1 _ hlink) (C.2.2.2.2.1 _ hinst) (C.2.2.2.2.1 _ hcode) rfl (C.2.2.1 ▸ hl.1) rfl hd hframes (by show 2 * 0 + _ + 12 ≤ _; omega) (kk H locs ls hP hS hl)
/-- throw new E("text") -/
theorem hg_throw {cls text : String} {names : List String} {ik is ic sa mc ms : Nat} {post : Option Value → Pic → Prop} {px : String → Pic → Prop} (C : hp_C p s m args meth c cc nL own ws D cl tys sts aos A) (hne : ∀ x ∈ c.exceptionTable.toList, False) (hl : l.stackTraces = false) (hcls : Bundle.fit cls = true) (hnames : ∀ n ∈ names, Bundle.fit n = true) (hk : Cond.classLink own ik cls ∈ ws) (hini : Cond.initialized cls ∈ ws) (hstr : (own, is, text, sa) ∈ sts) (hat : ∀ w ∈ vx_atS own ic cls names, w ∈ ws ∨ (w ∈ aos ∧ w.onTables = true)) (hgood : ∀ w ∈ Cond.classLink own ik cls :: Cond.initialized cls :: vx_atS own ic cls names, vx_ot w = true)
    (d0 : decode cc pc = .ok (.new ik, 3)) (d3 : decode cc (pc + 3) = .ok (.dup, 1)) (d4 : decode cc (pc + 4) = .ok (.ldc is, 2)) (d6 : decode cc (pc + 6) = .ok (.invokespecial ic, 3)) (d9 : decode cc (pc + 9) = .ok (.athrow, 1))
    (hRframes : names.length + 3 < R.frames) (hRlocals : (st.map fun v => v.category).sum + (13 * (names.length + 1) + 43) ≤ R.locals) (hRcells : cells + 1 ≤ R.cells) (hRslots : slots + 6 ≤ R.slots) (hc : cells + 1 ≤ mc) (hs : slots + 6 ≤ ms) (hq : px cls h) :
    hp_G p l e R s m args below meth c D cl A nL (hp_MQ below D cl A post px args s mc ms) cells slots pc lv st h := fun H locs ls hP hS hlv =>
  vx_throwS C.1 C.2.1 hl C.2.2.2.1 hcls hnames (C.2.2.2.2.1 _ hk) (C.2.2.2.2.1 _ hini) (C.2.2.2.2.2.2.1.2.2.2.1 _ hstr) (fun w hw => by
      rcases hat w hw with h1 | ⟨h1, h2⟩
      · exact C.2.2.2.2.1 _ h1
      · exact va_tabs h2 rfl (C.2.2.2.2.2.2.1.2.2.2.2.1 _ h1).2) hgood C.2.2.2.2.2.2.1.2.1 C.2.2.2.2.2.2.1.2.2.1 hS (hlv.1.trans C.2.2.1.symm) d0 d3 d4 d6 d9 (fun x hx => (hne x hx).elim) hRframes hRlocals hRcells hRslots C.2.2.2.2.2.1
    (fun t ha hz hk => ⟨⟨h, hq, hP.kept (fun q x hx => hk q (hP.lt hx))⟩, Nat.le_trans hS.1 hz, fun q h1 h2 => (hk q (Nat.lt_of_lt_of_le h1 hS.1)).trans (hS.2.1 q h1 h2)⟩) hS.2.2 hc hs
end HM
end
section
/-! NAMES: classes, words, methods (by program, wip/whole/gen/mk_names.py) -/
def kw_all : List Cond := lw_tbl.filter goodWord
theorem kw_t (i : Nat) {w : Cond} (h : tables_1[i]? = some w) (hg : goodWord w = true) : w ∈ kw_all := List.mem_filter.mpr ⟨List.mem_append_right _ (List.mem_of_getElem? h), hg⟩
theorem kw_s (i : Nat) {w : Cond} (h : (k2_sels lw_privs)[i]? = some w) (hg : goodWord w = true) : w ∈ kw_all := List.mem_filter.mpr ⟨List.mem_append_left _ (List.mem_of_getElem? h), hg⟩
theorem kc {c0 w : Cond} (h : w ∈ kw_all) : w ∈ c0 :: kw_all := List.mem_cons_of_mem _ h
theorem kw_good {c0 : Cond} : GoodIn (c0 :: kw_all) kw_all := fun w h => ⟨List.mem_cons_of_mem _ h, good_of_word (List.mem_filter.mp h).2⟩
theorem kw_one {c0 w : Cond} (h : w ∈ kw_all) : w ∈ c0 :: kw_all ∧ ((w.onTables && w.keeps) = true ∨ ∃ ty, w = .arrayClass ty) := kw_good w h
theorem kw_ws {c0 c1 : Cond} (h : c1 ∈ kw_all) : GoodIn (c0 :: kw_all) (c1 :: kw_all) := fun w hw => (List.mem_cons.mp hw).elim (fun e => e ▸ kw_one h) (fun h => kw_good w h)
theorem kw_V {c0 c1 : Cond} {own C : String} {idx : Nat} {y : MethodName} (h1 : Cond.methodLink own idx y ∈ kw_all) (h2 : Cond.instanceMethod y ∈ kw_all) (h3 : Cond.selects C y y ∈ kw_all) (h4 : Cond.initialized C ∈ kw_all) (h5 : c1 ∈ kw_all) : GoodIn (c0 :: kw_all) (wsV own idx C y (c1 :: kw_all)) := fun w hw => by
  rcases List.mem_append.mp hw with h | h
  · simp only [List.mem_cons, List.not_mem_nil, or_false] at h
    rcases h with rfl | rfl | rfl | rfl
    · exact kw_one h1
    · exact kw_one h2
    · exact kw_one h3
    · exact kw_one h4
  · exact kw_ws h5 w h
theorem kw_S {c0 c1 : Cond} {own : String} {idx : Nat} {y : MethodName} (h1 : Cond.methodLink own idx y ∈ kw_all) (h2 : Cond.static y ∈ kw_all) (h4 : Cond.initialized own ∈ kw_all) (h5 : c1 ∈ kw_all) : GoodIn (c0 :: kw_all) (wsS own idx y (c1 :: kw_all)) := fun w hw => by
  rcases List.mem_append.mp hw with h | h
  · simp only [List.mem_cons, List.not_mem_nil, or_false] at h
    rcases h with rfl | rfl | rfl
    · exact kw_one h1
    · exact kw_one h2
    · exact kw_one h4
  · exact kw_ws h5 w h
theorem kw_Sa {c0 c1 : Cond} {own : String} {idx : Nat} {y : MethodName} (h1 : Cond.methodLink own idx y ∈ kw_all) (h2 : Cond.static y ∈ kw_all) (h4 : Cond.initialized y.cls ∈ kw_all) (h5 : c1 ∈ kw_all) : GoodIn (c0 :: kw_all) (va_wsS own idx y (c1 :: kw_all)) := fun w hw => by
  rcases List.mem_append.mp hw with h | h
  · simp only [List.mem_cons, List.not_mem_nil, or_false] at h
    rcases h with rfl | rfl | rfl
    · exact kw_one h1
    · exact kw_one h2
    · exact kw_one h4
  · exact kw_ws h5 w h
theorem kw_list {ws : List Cond} (ps : List Nat) (hp : ws = ps.filterMap (fun i => tables_1[i]?)) (h : ws.all goodWord = true) : ∀ w ∈ ws, w ∈ kw_all := fun w hw => by
  have h1 := List.all_eq_true.mp h w hw
  rw [hp] at hw
  obtain ⟨i, -, hi⟩ := List.mem_filterMap.mp hw
  exact kw_t i hi h1
def T_Cf : u_T := fun k => match k with
  | 0 => ("ModelMerge$Conflicts", "things", "[I", true)
  | 1 => ("ModelMerge$Conflicts", "fields", "[I", true)
  | 2 => ("ModelMerge$Conflicts", "sides", "[I", true)
  | _ => ("ModelMerge$Conflicts", "size", "I", false)
def t_Cf : Nat → FieldType := fun k => match k with
  | 0 => .array .int
  | 1 => .array .int
  | 2 => .array .int
  | _ => .int
theorem n_Cf : ∀ a, a < 4 → ∀ b, b < 4 → a ≠ b → (T_Cf a).2.1 ≠ (T_Cf b).2.1 := by decide +kernel
theorem t_Cf_ok : ∀ k, k < 4 → parseFieldDescriptor (T_Cf k).2.2.1 = some (t_Cf k) := by decide +kernel
theorem i_Cf : ∀ w ∈ u_ws "ModelMerge$Conflicts" T_Cf 4, w ∈ kw_all := kw_list [40, 42, 44, 46] (by decide +kernel) (by decide +kernel)
def T_Mo : u_T := fun k => match k with
  | 0 => ("ModelMerge$Moment", "number", "I", true)
  | 1 => ("ModelMerge$Moment", "before", "LModelMerge$Moment;", true)
  | 2 => ("ModelMerge$Moment", "thing", "I", true)
  | 3 => ("ModelMerge$Moment", "field", "I", true)
  | 4 => ("ModelMerge$Moment", "oldValue", "I", true)
  | 5 => ("ModelMerge$Moment", "newValue", "I", true)
  | _ => ("ModelMerge$Moment", "lastBehind", "LModelMerge$Moment;", false)
def t_Mo : Nat → FieldType := fun k => match k with
  | 0 => .int
  | 1 => .object "ModelMerge$Moment"
  | 2 => .int
  | 3 => .int
  | 4 => .int
  | 5 => .int
  | _ => .object "ModelMerge$Moment"
theorem n_Mo : ∀ a, a < 7 → ∀ b, b < 7 → a ≠ b → (T_Mo a).2.1 ≠ (T_Mo b).2.1 := by decide +kernel
theorem t_Mo_ok : ∀ k, k < 7 → parseFieldDescriptor (T_Mo k).2.2.1 = some (t_Mo k) := by decide +kernel
theorem i_Mo : ∀ w ∈ u_ws "ModelMerge$Moment" T_Mo 7, w ∈ kw_all := kw_list [247, 249, 251, 253, 255, 257, 259] (by decide +kernel) (by decide +kernel)
def T_Ru : u_T := fun k => match k with
  | 0 => ("ModelMerge$Rule", "kind", "I", true)
  | 1 => ("ModelMerge$Rule", "field", "I", true)
  | _ => ("ModelMerge$Rule", "other", "I", true)
def t_Ru : Nat → FieldType := fun k => match k with
  | 0 => .int
  | 1 => .int
  | _ => .int
theorem n_Ru : ∀ a, a < 3 → ∀ b, b < 3 → a ≠ b → (T_Ru a).2.1 ≠ (T_Ru b).2.1 := by decide +kernel
theorem t_Ru_ok : ∀ k, k < 3 → parseFieldDescriptor (T_Ru k).2.2.1 = some (t_Ru k) := by decide +kernel
theorem i_Ru : ∀ w ∈ u_ws "ModelMerge$Rule" T_Ru 3, w ∈ kw_all := kw_list [425, 427, 429] (by decide +kernel) (by decide +kernel)
def T_Se : u_T := fun k => match k with
  | 0 => ("ModelMerge$Session", "number", "I", true)
  | 1 => ("ModelMerge$Session", "person", "I", true)
  | 2 => ("ModelMerge$Session", "base", "LModelMerge$Version;", true)
  | 3 => ("ModelMerge$Session", "state", "LModelMerge$State;", true)
  | 4 => ("ModelMerge$Session", "standing", "LModelMerge$Moment;", false)
  | 5 => ("ModelMerge$Session", "momentCount", "I", false)
  | 6 => ("ModelMerge$Session", "phase", "I", false)
  | _ => ("ModelMerge$Session", "madeVersion", "I", false)
def t_Se : Nat → FieldType := fun k => match k with
  | 0 => .int
  | 1 => .int
  | 2 => .object "ModelMerge$Version"
  | 3 => .object "ModelMerge$State"
  | 4 => .object "ModelMerge$Moment"
  | 5 => .int
  | 6 => .int
  | _ => .int
theorem n_Se : ∀ a, a < 8 → ∀ b, b < 8 → a ≠ b → (T_Se a).2.1 ≠ (T_Se b).2.1 := by decide +kernel
theorem t_Se_ok : ∀ k, k < 8 → parseFieldDescriptor (T_Se k).2.2.1 = some (t_Se k) := by decide +kernel
theorem i_Se : ∀ w ∈ u_ws "ModelMerge$Session" T_Se 8, w ∈ kw_all := kw_list [285, 287, 289, 291, 293, 295, 297, 299] (by decide +kernel) (by decide +kernel)
def T_St : u_T := fun k => match k with
  | _ => ("ModelMerge$State", "cells", "[I", true)
def t_St : Nat → FieldType := fun k => match k with
  | _ => .array .int
theorem n_St : ∀ a, a < 1 → ∀ b, b < 1 → a ≠ b → (T_St a).2.1 ≠ (T_St b).2.1 := by decide +kernel
theorem t_St_ok : ∀ k, k < 1 → parseFieldDescriptor (T_St k).2.2.1 = some (t_St k) := by decide +kernel
theorem i_St : ∀ w ∈ u_ws "ModelMerge$State" T_St 1, w ∈ kw_all := kw_list [58] (by decide +kernel) (by decide +kernel)
def T_Ve : u_T := fun k => match k with
  | 0 => ("ModelMerge$Version", "number", "I", true)
  | 1 => ("ModelMerge$Version", "madeBy", "I", true)
  | 2 => ("ModelMerge$Version", "state", "LModelMerge$State;", true)
  | _ => ("ModelMerge$Version", "origins", "[I", true)
def t_Ve : Nat → FieldType := fun k => match k with
  | 0 => .int
  | 1 => .int
  | 2 => .object "ModelMerge$State"
  | _ => .array .int
theorem n_Ve : ∀ a, a < 4 → ∀ b, b < 4 → a ≠ b → (T_Ve a).2.1 ≠ (T_Ve b).2.1 := by decide +kernel
theorem t_Ve_ok : ∀ k, k < 4 → parseFieldDescriptor (T_Ve k).2.2.1 = some (t_Ve k) := by decide +kernel
theorem i_Ve : ∀ w ∈ u_ws "ModelMerge$Version" T_Ve 4, w ∈ kw_all := kw_list [73, 75, 77, 79] (by decide +kernel) (by decide +kernel)
def T_MM : u_T := fun k => match k with
  | 0 => ("ModelMerge", "kinds", "[I", true)
  | 1 => ("ModelMerge", "lockers", "[I", true)
  | 2 => ("ModelMerge", "thingCount", "I", false)
  | 3 => ("ModelMerge", "sessions", "[LModelMerge$Session;", true)
  | 4 => ("ModelMerge", "sessionCount", "I", false)
  | 5 => ("ModelMerge", "versions", "[LModelMerge$Version;", true)
  | 6 => ("ModelMerge", "versionCount", "I", false)
  | 7 => ("ModelMerge", "latest", "LModelMerge$Version;", false)
  | 8 => ("ModelMerge", "rules", "[LModelMerge$Rule;", true)
  | 9 => ("ModelMerge", "ruleCount", "I", false)
  | 10 => ("ModelMerge", "conflicts", "LModelMerge$Conflicts;", true)
  | _ => ("ModelMerge", "pending", "LModelMerge$Session;", false)
def t_MM : Nat → FieldType := fun k => match k with
  | 0 => .array .int
  | 1 => .array .int
  | 2 => .int
  | 3 => .array (.object "ModelMerge$Session")
  | 4 => .int
  | 5 => .array (.object "ModelMerge$Version")
  | 6 => .int
  | 7 => .object "ModelMerge$Version"
  | 8 => .array (.object "ModelMerge$Rule")
  | 9 => .int
  | 10 => .object "ModelMerge$Conflicts"
  | _ => .object "ModelMerge$Session"
theorem n_MM : ∀ a, a < 12 → ∀ b, b < 12 → a ≠ b → (T_MM a).2.1 ≠ (T_MM b).2.1 := by decide +kernel
theorem t_MM_ok : ∀ k, k < 12 → parseFieldDescriptor (T_MM k).2.2.1 = some (t_MM k) := by decide +kernel
theorem i_MM : ∀ w ∈ u_ws "ModelMerge" T_MM 12, w ∈ kw_all := kw_list [94, 96, 98, 100, 102, 104, 106, 108, 110, 112, 114, 116] (by decide +kernel) (by decide +kernel)
def T_Rf : u_T := fun k => match k with
  | 0 => ("ModelMergeModel", "code", "I", false)
  | 1 => ("ModelMergeModel", "things", "I", false)
  | 2 => ("ModelMergeModel", "kind", "[I", true)
  | 3 => ("ModelMergeModel", "lock", "[I", true)
  | 4 => ("ModelMergeModel", "versions", "I", false)
  | 5 => ("ModelMergeModel", "there", "[Z", true)
  | 6 => ("ModelMergeModel", "field", "[I", true)
  | 7 => ("ModelMergeModel", "since", "[I", true)
  | 8 => ("ModelMergeModel", "author", "[I", true)
  | 9 => ("ModelMergeModel", "sessions", "I", false)
  | 10 => ("ModelMergeModel", "person", "[I", true)
  | 11 => ("ModelMergeModel", "base", "[I", true)
  | 12 => ("ModelMergeModel", "stands", "[I", true)
  | 13 => ("ModelMergeModel", "moments", "[I", true)
  | 14 => ("ModelMergeModel", "life", "[I", true)
  | 15 => ("ModelMergeModel", "made", "[I", true)
  | 16 => ("ModelMergeModel", "before", "[I", true)
  | 17 => ("ModelMergeModel", "latest", "[I", true)
  | 18 => ("ModelMergeModel", "how", "[I", true)
  | 19 => ("ModelMergeModel", "thing", "[I", true)
  | 20 => ("ModelMergeModel", "which", "[I", true)
  | 21 => ("ModelMergeModel", "value", "[I", true)
  | 22 => ("ModelMergeModel", "rules", "I", false)
  | 23 => ("ModelMergeModel", "ruleKind", "[I", true)
  | 24 => ("ModelMergeModel", "ruleField", "[I", true)
  | 25 => ("ModelMergeModel", "ruleOther", "[I", true)
  | 26 => ("ModelMergeModel", "pending", "I", false)
  | 27 => ("ModelMergeModel", "conflicts", "I", false)
  | 28 => ("ModelMergeModel", "conflictThing", "[I", true)
  | 29 => ("ModelMergeModel", "conflictField", "[I", true)
  | _ => ("ModelMergeModel", "side", "[I", true)
def t_Rf : Nat → FieldType := fun k => match k with
  | 0 => .int
  | 1 => .int
  | 2 => .array .int
  | 3 => .array .int
  | 4 => .int
  | 5 => .array .boolean
  | 6 => .array .int
  | 7 => .array .int
  | 8 => .array .int
  | 9 => .int
  | 10 => .array .int
  | 11 => .array .int
  | 12 => .array .int
  | 13 => .array .int
  | 14 => .array .int
  | 15 => .array .int
  | 16 => .array .int
  | 17 => .array .int
  | 18 => .array .int
  | 19 => .array .int
  | 20 => .array .int
  | 21 => .array .int
  | 22 => .int
  | 23 => .array .int
  | 24 => .array .int
  | 25 => .array .int
  | 26 => .int
  | 27 => .int
  | 28 => .array .int
  | 29 => .array .int
  | _ => .array .int
theorem n_Rf : ∀ a, a < 31 → ∀ b, b < 31 → a ≠ b → (T_Rf a).2.1 ≠ (T_Rf b).2.1 := by decide +kernel
theorem t_Rf_ok : ∀ k, k < 31 → parseFieldDescriptor (T_Rf k).2.2.1 = some (t_Rf k) := by decide +kernel
theorem i_Rf : ∀ w ∈ u_ws "ModelMergeModel" T_Rf 31, w ∈ kw_all := kw_list [682, 684, 686, 688, 690, 692, 694, 696, 698, 700, 702, 704, 706, 708, 710, 712, 714, 716, 718, 720, 722, 724, 726, 728, 730, 732, 734, 736, 738, 740, 742] (by decide +kernel) (by decide +kernel)
abbrev kcl : List vw_C := [("ModelMerge$Conflicts", T_Cf, 4), ("ModelMerge$Moment", T_Mo, 7), ("ModelMerge$Rule", T_Ru, 3), ("ModelMerge$Session", T_Se, 8), ("ModelMerge$State", T_St, 1), ("ModelMerge$Version", T_Ve, 4), ("ModelMerge", T_MM, 12), ("ModelMergeModel", T_Rf, 31)]
abbrev ktys (ca : Nat → ClassId) : List (ClassId × FieldType) := [(ca 0, .int), (ca 1, .long), (ca 2, .boolean), (ca 3, .object "ModelMerge$Session"), (ca 4, .object "ModelMerge$Version"), (ca 5, .object "ModelMerge$Rule")]
abbrev ksts (sa : Nat → Nat) : List (String × Nat × String × Nat) := [("ModelMerge", 231, "a number is out of its bounds", sa 0), ("ModelMerge", 252, "there is no such version", sa 1), ("ModelMerge", 78, "there are 20 sessions", sa 2), ("ModelMerge", 250, "there is no such session", sa 3), ("ModelMerge", 248, "the session is not open", sa 4), ("ModelMerge", 241, "there is no such thing", sa 5), ("ModelMerge", 121, "there are 10 rules", sa 6), ("ModelMerge", 233, "k is below 0", sa 7), ("ModelMerge", 168, "no session is pending", sa 8), ("ModelMerge", 235, "a side is 0 or 1", sa 9), ("ModelMerge", 246, "the thing is not there", sa 10), ("ModelMerge", 185, "what is 0, 1 or 2", sa 11), ("ModelMerge", 211, "what is 0 to 5", sa 12), ("ModelMerge", 216, "no session made version 0", sa 13), ("ModelMerge", 218, "what is 0 to 3", sa 14)]
def knws : List Cond := [.arrayOver (.object "ModelMerge$Session"), .arrayOver (.object "ModelMerge$Version"), .arrayOver (.object "ModelMerge$Rule"), .methodLinkNest "ModelMerge" 49 ⟨"ModelMerge$Conflicts", "<init>", "()V"⟩ "ModelMerge", .methodLinkNest "ModelMerge" 60 ⟨"ModelMerge$State", "<init>", "()V"⟩ "ModelMerge", .castable "java/lang/IllegalArgumentException" "java/lang/IllegalArgumentException", .declares ⟨"java/lang/RuntimeException", "<init>", "()V"⟩, .declares ⟨"java/lang/RuntimeException", "<init>", "(Ljava/lang/String;)V"⟩, .declares ⟨"java/lang/Exception", "<init>", "()V"⟩, .declares ⟨"java/lang/Exception", "<init>", "(Ljava/lang/String;)V"⟩, .declares ⟨"java/lang/Throwable", "<init>", "()V"⟩, .declares ⟨"java/lang/Throwable", "<init>", "(Ljava/lang/String;)V"⟩, .castable "java/lang/IllegalStateException" "java/lang/IllegalStateException", .methodLinkNest "ModelMerge$Session" 11 ⟨"ModelMerge$State", "<init>", "()V"⟩ "ModelMerge"]
theorem kw0 : (.initialized "ModelMergeLaw" : Cond) ∈ kw_all := kw_t 0 (by decide +kernel) (by decide +kernel)
theorem kw1 : (.initialized "ModelMerge" : Cond) ∈ kw_all := kw_t 1 (by decide +kernel) (by decide +kernel)
theorem kw2 : (.initialized "ModelMerge$Conflicts" : Cond) ∈ kw_all := kw_t 2 (by decide +kernel) (by decide +kernel)
theorem kw3 : (.initialized "ModelMerge$Version" : Cond) ∈ kw_all := kw_t 3 (by decide +kernel) (by decide +kernel)
theorem kw4 : (.initialized "ModelMerge$State" : Cond) ∈ kw_all := kw_t 4 (by decide +kernel) (by decide +kernel)
theorem kw5 : (.initialized "ModelMergeModel" : Cond) ∈ kw_all := kw_t 5 (by decide +kernel) (by decide +kernel)
theorem kw6 : (.initialized "java/lang/Throwable" : Cond) ∈ kw_all := kw_t 6 (by decide +kernel) (by decide +kernel)
theorem kw7 : (.initialized "java/lang/Exception" : Cond) ∈ kw_all := kw_t 7 (by decide +kernel) (by decide +kernel)
theorem kw8 : (.initialized "java/lang/RuntimeException" : Cond) ∈ kw_all := kw_t 8 (by decide +kernel) (by decide +kernel)
theorem kw9 : (.initialized "java/lang/IllegalArgumentException" : Cond) ∈ kw_all := kw_t 9 (by decide +kernel) (by decide +kernel)
theorem kw10 : (.initialized "java/lang/IllegalStateException" : Cond) ∈ kw_all := kw_t 10 (by decide +kernel) (by decide +kernel)
theorem kw11 : (.initialized "ModelMerge$Session" : Cond) ∈ kw_all := kw_t 11 (by decide +kernel) (by decide +kernel)
theorem kw12 : (.initialized "ModelMerge$Moment" : Cond) ∈ kw_all := kw_t 12 (by decide +kernel) (by decide +kernel)
theorem kw13 : (.initialized "java/lang/System" : Cond) ∈ kw_all := kw_t 13 (by decide +kernel) (by decide +kernel)
theorem kw14 : (.initialized "ModelMerge$Rule" : Cond) ∈ kw_all := kw_t 14 (by decide +kernel) (by decide +kernel)
theorem kw15 : (.classLink "ModelMergeLaw" 8 "ModelMerge" : Cond) ∈ kw_all := kw_t 15 (by decide +kernel) (by decide +kernel)
theorem kw16 : (.instantiable "ModelMerge" 12 : Cond) ∈ kw_all := kw_t 16 (by decide +kernel) (by decide +kernel)
theorem kw17 : (.methodLink "ModelMergeLaw" 84 ⟨"ModelMerge", "<init>", "()V"⟩ : Cond) ∈ kw_all := kw_t 17 (by decide +kernel) (by decide +kernel)
theorem kw18 : (.instanceMethod ⟨"ModelMerge", "<init>", "()V"⟩ : Cond) ∈ kw_all := kw_t 18 (by decide +kernel) (by decide +kernel)
theorem kw20 : (.methodLink "ModelMerge" 3 ⟨"java/lang/Object", "<init>", "()V"⟩ : Cond) ∈ kw_all := kw_t 20 (by decide +kernel) (by decide +kernel)
theorem kw21 : (.instanceMethod ⟨"java/lang/Object", "<init>", "()V"⟩ : Cond) ∈ kw_all := kw_t 21 (by decide +kernel) (by decide +kernel)
theorem kw23 : (.classLink "ModelMerge" 20 "ModelMerge$Session" : Cond) ∈ kw_all := kw_t 23 (by decide +kernel) (by decide +kernel)
theorem kw25 : (.classLink "ModelMerge" 29 "ModelMerge$Version" : Cond) ∈ kw_all := kw_t 25 (by decide +kernel) (by decide +kernel)
theorem kw27 : (.classLink "ModelMerge" 38 "ModelMerge$Rule" : Cond) ∈ kw_all := kw_t 27 (by decide +kernel) (by decide +kernel)
theorem kw29 : (.classLink "ModelMerge" 47 "ModelMerge$Conflicts" : Cond) ∈ kw_all := kw_t 29 (by decide +kernel) (by decide +kernel)
theorem kw30 : (.instantiable "ModelMerge$Conflicts" 4 : Cond) ∈ kw_all := kw_t 30 (by decide +kernel) (by decide +kernel)
theorem kw32 : (.instanceMethod ⟨"ModelMerge$Conflicts", "<init>", "()V"⟩ : Cond) ∈ kw_all := kw_t 32 (by decide +kernel) (by decide +kernel)
theorem kw34 : (.methodLink "ModelMerge$Conflicts" 3 ⟨"java/lang/Object", "<init>", "()V"⟩ : Cond) ∈ kw_all := kw_t 34 (by decide +kernel) (by decide +kernel)
theorem kw35 : (.fieldLink "ModelMerge$Conflicts" 11 "ModelMerge$Conflicts" "things" "[I" : Cond) ∈ kw_all := kw_t 35 (by decide +kernel) (by decide +kernel)
theorem kw36 : (.fieldLink "ModelMerge$Conflicts" 15 "ModelMerge$Conflicts" "fields" "[I" : Cond) ∈ kw_all := kw_t 36 (by decide +kernel) (by decide +kernel)
theorem kw37 : (.fieldLink "ModelMerge$Conflicts" 18 "ModelMerge$Conflicts" "sides" "[I" : Cond) ∈ kw_all := kw_t 37 (by decide +kernel) (by decide +kernel)
theorem kw38 : (.fieldLink "ModelMerge$Conflicts" 21 "ModelMerge$Conflicts" "size" "I" : Cond) ∈ kw_all := kw_t 38 (by decide +kernel) (by decide +kernel)
theorem kw39 : (.fieldLink "ModelMerge" 129 "ModelMerge$Conflicts" "size" "I" : Cond) ∈ kw_all := kw_t 39 (by decide +kernel) (by decide +kernel)
theorem kw49 : (.arrayClass .int : Cond) ∈ kw_all := kw_t 49 (by decide +kernel) (by decide +kernel)
theorem kw50 : (.instantiable "ModelMerge$Version" 4 : Cond) ∈ kw_all := kw_t 50 (by decide +kernel) (by decide +kernel)
theorem kw51 : (.classLink "ModelMerge" 58 "ModelMerge$State" : Cond) ∈ kw_all := kw_t 51 (by decide +kernel) (by decide +kernel)
theorem kw52 : (.instantiable "ModelMerge$State" 1 : Cond) ∈ kw_all := kw_t 52 (by decide +kernel) (by decide +kernel)
theorem kw54 : (.instanceMethod ⟨"ModelMerge$State", "<init>", "()V"⟩ : Cond) ∈ kw_all := kw_t 54 (by decide +kernel) (by decide +kernel)
theorem kw56 : (.methodLink "ModelMerge$State" 3 ⟨"java/lang/Object", "<init>", "()V"⟩ : Cond) ∈ kw_all := kw_t 56 (by decide +kernel) (by decide +kernel)
theorem kw57 : (.fieldLink "ModelMerge$State" 9 "ModelMerge$State" "cells" "[I" : Cond) ∈ kw_all := kw_t 57 (by decide +kernel) (by decide +kernel)
theorem kw61 : (.methodLink "ModelMerge" 61 ⟨"ModelMerge$Version", "<init>", "(IILModelMerge$State;)V"⟩ : Cond) ∈ kw_all := kw_t 61 (by decide +kernel) (by decide +kernel)
theorem kw62 : (.instanceMethod ⟨"ModelMerge$Version", "<init>", "(IILModelMerge$State;)V"⟩ : Cond) ∈ kw_all := kw_t 62 (by decide +kernel) (by decide +kernel)
theorem kw64 : (.methodLink "ModelMerge$Version" 3 ⟨"java/lang/Object", "<init>", "()V"⟩ : Cond) ∈ kw_all := kw_t 64 (by decide +kernel) (by decide +kernel)
theorem kw65 : (.fieldLink "ModelMerge$Version" 15 "ModelMerge$Version" "number" "I" : Cond) ∈ kw_all := kw_t 65 (by decide +kernel) (by decide +kernel)
theorem kw66 : (.fieldLink "ModelMerge" 197 "ModelMerge$Version" "number" "I" : Cond) ∈ kw_all := kw_t 66 (by decide +kernel) (by decide +kernel)
theorem kw67 : (.fieldLink "ModelMerge$Version" 19 "ModelMerge$Version" "madeBy" "I" : Cond) ∈ kw_all := kw_t 67 (by decide +kernel) (by decide +kernel)
theorem kw68 : (.fieldLink "ModelMerge" 213 "ModelMerge$Version" "madeBy" "I" : Cond) ∈ kw_all := kw_t 68 (by decide +kernel) (by decide +kernel)
theorem kw69 : (.fieldLink "ModelMerge$Version" 22 "ModelMerge$Version" "state" "LModelMerge$State;" : Cond) ∈ kw_all := kw_t 69 (by decide +kernel) (by decide +kernel)
theorem kw70 : (.fieldLink "ModelMerge$Session" 47 "ModelMerge$Version" "state" "LModelMerge$State;" : Cond) ∈ kw_all := kw_t 70 (by decide +kernel) (by decide +kernel)
theorem kw71 : (.fieldLink "ModelMerge" 147 "ModelMerge$Version" "state" "LModelMerge$State;" : Cond) ∈ kw_all := kw_t 71 (by decide +kernel) (by decide +kernel)
theorem kw72 : (.fieldLink "ModelMerge$Version" 9 "ModelMerge$Version" "origins" "[I" : Cond) ∈ kw_all := kw_t 72 (by decide +kernel) (by decide +kernel)
theorem kw82 : (.fieldLink "ModelMerge" 9 "ModelMerge" "kinds" "[I" : Cond) ∈ kw_all := kw_t 82 (by decide +kernel) (by decide +kernel)
theorem kw83 : (.fieldLink "ModelMerge" 13 "ModelMerge" "lockers" "[I" : Cond) ∈ kw_all := kw_t 83 (by decide +kernel) (by decide +kernel)
theorem kw84 : (.fieldLink "ModelMerge" 16 "ModelMerge" "thingCount" "I" : Cond) ∈ kw_all := kw_t 84 (by decide +kernel) (by decide +kernel)
theorem kw85 : (.fieldLink "ModelMerge" 22 "ModelMerge" "sessions" "[LModelMerge$Session;" : Cond) ∈ kw_all := kw_t 85 (by decide +kernel) (by decide +kernel)
theorem kw86 : (.fieldLink "ModelMerge" 26 "ModelMerge" "sessionCount" "I" : Cond) ∈ kw_all := kw_t 86 (by decide +kernel) (by decide +kernel)
theorem kw87 : (.fieldLink "ModelMerge" 31 "ModelMerge" "versions" "[LModelMerge$Version;" : Cond) ∈ kw_all := kw_t 87 (by decide +kernel) (by decide +kernel)
theorem kw88 : (.fieldLink "ModelMerge" 35 "ModelMerge" "versionCount" "I" : Cond) ∈ kw_all := kw_t 88 (by decide +kernel) (by decide +kernel)
theorem kw89 : (.fieldLink "ModelMerge" 64 "ModelMerge" "latest" "LModelMerge$Version;" : Cond) ∈ kw_all := kw_t 89 (by decide +kernel) (by decide +kernel)
theorem kw90 : (.fieldLink "ModelMerge" 40 "ModelMerge" "rules" "[LModelMerge$Rule;" : Cond) ∈ kw_all := kw_t 90 (by decide +kernel) (by decide +kernel)
theorem kw91 : (.fieldLink "ModelMerge" 44 "ModelMerge" "ruleCount" "I" : Cond) ∈ kw_all := kw_t 91 (by decide +kernel) (by decide +kernel)
theorem kw92 : (.fieldLink "ModelMerge" 50 "ModelMerge" "conflicts" "LModelMerge$Conflicts;" : Cond) ∈ kw_all := kw_t 92 (by decide +kernel) (by decide +kernel)
theorem kw93 : (.fieldLink "ModelMerge" 54 "ModelMerge" "pending" "LModelMerge$Session;" : Cond) ∈ kw_all := kw_t 93 (by decide +kernel) (by decide +kernel)
theorem kw119 : (.methodLink "ModelMergeLaw" 88 ⟨"ModelMergeLaw", "session", "(LModelMerge;II[J)I"⟩ : Cond) ∈ kw_all := kw_t 119 (by decide +kernel) (by decide +kernel)
theorem kw120 : (.static ⟨"ModelMergeLaw", "session", "(LModelMerge;II[J)I"⟩ : Cond) ∈ kw_all := kw_t 120 (by decide +kernel) (by decide +kernel)
theorem kw122 : (.classLink "ModelMergeLaw" 13 "java/lang/IllegalArgumentException" : Cond) ∈ kw_all := kw_t 122 (by decide +kernel) (by decide +kernel)
theorem kw123 : (.classLink "ModelMergeLaw" 15 "java/lang/IllegalStateException" : Cond) ∈ kw_all := kw_t 123 (by decide +kernel) (by decide +kernel)
theorem kw124 : (.methodLink "ModelMergeLaw" 7 ⟨"ModelMerge", "session", "(II)I"⟩ : Cond) ∈ kw_all := kw_t 124 (by decide +kernel) (by decide +kernel)
theorem kw125 : (.instanceMethod ⟨"ModelMerge", "session", "(II)I"⟩ : Cond) ∈ kw_all := kw_t 125 (by decide +kernel) (by decide +kernel)
theorem kw126 : (.selects "ModelMerge" ⟨"ModelMerge", "session", "(II)I"⟩ ⟨"ModelMerge", "session", "(II)I"⟩ : Cond) ∈ kw_all := kw_t 126 (by decide +kernel) (by decide +kernel)
theorem kw128 : (.methodLink "ModelMerge" 68 ⟨"ModelMerge", "checkBelow", "(II)V"⟩ : Cond) ∈ kw_all := kw_t 128 (by decide +kernel) (by decide +kernel)
theorem kw129 : (.static ⟨"ModelMerge", "checkBelow", "(II)V"⟩ : Cond) ∈ kw_all := kw_t 129 (by decide +kernel) (by decide +kernel)
theorem kw131 : (.classLink "ModelMerge" 183 "java/lang/IllegalArgumentException" : Cond) ∈ kw_all := kw_t 131 (by decide +kernel) (by decide +kernel)
theorem kw132 : (.instantiable "java/lang/IllegalArgumentException" 6 : Cond) ∈ kw_all := kw_t 132 (by decide +kernel) (by decide +kernel)
theorem kw140 : (.selects "java/lang/IllegalArgumentException" ⟨"java/lang/Throwable", "fillInStackTrace", "(I)Ljava/lang/Throwable;"⟩ ⟨"java/lang/Throwable", "fillInStackTrace", "(I)Ljava/lang/Throwable;"⟩ : Cond) ∈ kw_all := kw_t 140 (by decide +kernel) (by decide +kernel)
theorem kw141 : (.selects "java/lang/IllegalArgumentException" ⟨"java/lang/Throwable", "fillInStackTrace", "()Ljava/lang/Throwable;"⟩ ⟨"java/lang/Throwable", "fillInStackTrace", "()Ljava/lang/Throwable;"⟩ : Cond) ∈ kw_all := kw_t 141 (by decide +kernel) (by decide +kernel)
theorem kw152 : (.fieldLink "java/lang/Throwable" 198 "java/lang/Throwable" "backtrace" "Ljava/lang/Object;" : Cond) ∈ kw_all := kw_t 152 (by decide +kernel) (by decide +kernel)
theorem kw154 : (.instanceMethod ⟨"java/lang/Throwable", "<init>", "()V"⟩ : Cond) ∈ kw_all := kw_t 154 (by decide +kernel) (by decide +kernel)
theorem kw156 : (.methodLink "java/lang/Throwable" 1 ⟨"java/lang/Object", "<init>", "()V"⟩ : Cond) ∈ kw_all := kw_t 156 (by decide +kernel) (by decide +kernel)
theorem kw157 : (.fieldLink "java/lang/Throwable" 13 "java/lang/Throwable" "UNASSIGNED_STACK" "[Ljava/lang/StackTraceElement;" : Cond) ∈ kw_all := kw_t 157 (by decide +kernel) (by decide +kernel)
theorem kw159 : (.fieldLink "java/lang/Throwable" 20 "java/lang/Throwable" "SUPPRESSED_SENTINEL" "Ljava/util/List;" : Cond) ∈ kw_all := kw_t 159 (by decide +kernel) (by decide +kernel)
theorem kw161 : (.methodLink "java/lang/Throwable" 27 ⟨"java/lang/Throwable", "fillInStackTrace", "()Ljava/lang/Throwable;"⟩ : Cond) ∈ kw_all := kw_t 161 (by decide +kernel) (by decide +kernel)
theorem kw162 : (.instanceMethod ⟨"java/lang/Throwable", "fillInStackTrace", "()Ljava/lang/Throwable;"⟩ : Cond) ∈ kw_all := kw_t 162 (by decide +kernel) (by decide +kernel)
theorem kw164 : (.selects "java/lang/IllegalStateException" ⟨"java/lang/Throwable", "fillInStackTrace", "()Ljava/lang/Throwable;"⟩ ⟨"java/lang/Throwable", "fillInStackTrace", "()Ljava/lang/Throwable;"⟩ : Cond) ∈ kw_all := kw_t 164 (by decide +kernel) (by decide +kernel)
theorem kw166 : (.methodLink "java/lang/Throwable" 202 ⟨"java/lang/Throwable", "fillInStackTrace", "(I)Ljava/lang/Throwable;"⟩ : Cond) ∈ kw_all := kw_t 166 (by decide +kernel) (by decide +kernel)
theorem kw168 : (.instanceMethod ⟨"java/lang/Throwable", "fillInStackTrace", "(I)Ljava/lang/Throwable;"⟩ : Cond) ∈ kw_all := kw_t 168 (by decide +kernel) (by decide +kernel)
theorem kw169 : (.instantiable "java/lang/Throwable" 6 : Cond) ∈ kw_all := kw_t 169 (by decide +kernel) (by decide +kernel)
theorem kw170 : (.native ⟨"java/lang/Throwable", "fillInStackTrace", "(I)Ljava/lang/Throwable;"⟩ : Cond) ∈ kw_all := kw_t 170 (by decide +kernel) (by decide +kernel)
theorem kw172 : (.methodLink "ModelMerge" 187 ⟨"java/lang/IllegalArgumentException", "<init>", "(Ljava/lang/String;)V"⟩ : Cond) ∈ kw_all := kw_t 172 (by decide +kernel) (by decide +kernel)
theorem kw173 : (.instanceMethod ⟨"java/lang/IllegalArgumentException", "<init>", "(Ljava/lang/String;)V"⟩ : Cond) ∈ kw_all := kw_t 173 (by decide +kernel) (by decide +kernel)
theorem kw175 : (.methodLink "java/lang/IllegalArgumentException" 7 ⟨"java/lang/RuntimeException", "<init>", "(Ljava/lang/String;)V"⟩ : Cond) ∈ kw_all := kw_t 175 (by decide +kernel) (by decide +kernel)
theorem kw176 : (.instanceMethod ⟨"java/lang/RuntimeException", "<init>", "(Ljava/lang/String;)V"⟩ : Cond) ∈ kw_all := kw_t 176 (by decide +kernel) (by decide +kernel)
theorem kw178 : (.methodLink "java/lang/RuntimeException" 7 ⟨"java/lang/Exception", "<init>", "(Ljava/lang/String;)V"⟩ : Cond) ∈ kw_all := kw_t 178 (by decide +kernel) (by decide +kernel)
theorem kw179 : (.instanceMethod ⟨"java/lang/Exception", "<init>", "(Ljava/lang/String;)V"⟩ : Cond) ∈ kw_all := kw_t 179 (by decide +kernel) (by decide +kernel)
theorem kw181 : (.methodLink "java/lang/Exception" 7 ⟨"java/lang/Throwable", "<init>", "(Ljava/lang/String;)V"⟩ : Cond) ∈ kw_all := kw_t 181 (by decide +kernel) (by decide +kernel)
theorem kw182 : (.instanceMethod ⟨"java/lang/Throwable", "<init>", "(Ljava/lang/String;)V"⟩ : Cond) ∈ kw_all := kw_t 182 (by decide +kernel) (by decide +kernel)
theorem kw185 : (.fieldLink "java/lang/Throwable" 31 "java/lang/Throwable" "detailMessage" "Ljava/lang/String;" : Cond) ∈ kw_all := kw_t 185 (by decide +kernel) (by decide +kernel)
theorem kw186 : (.fieldLink "java/lang/Throwable" 7 "java/lang/Throwable" "cause" "Ljava/lang/Throwable;" : Cond) ∈ kw_all := kw_t 186 (by decide +kernel) (by decide +kernel)
theorem kw187 : (.fieldLink "java/lang/Throwable" 17 "java/lang/Throwable" "stackTrace" "[Ljava/lang/StackTraceElement;" : Cond) ∈ kw_all := kw_t 187 (by decide +kernel) (by decide +kernel)
theorem kw188 : (.fieldLink "java/lang/Throwable" 24 "java/lang/Throwable" "suppressedExceptions" "Ljava/util/List;" : Cond) ∈ kw_all := kw_t 188 (by decide +kernel) (by decide +kernel)
theorem kw197 : (.arrayClass .byte : Cond) ∈ kw_all := kw_t 197 (by decide +kernel) (by decide +kernel)
theorem kw198 : (.methodLink "ModelMerge" 72 ⟨"ModelMerge", "versionOf", "(I)LModelMerge$Version;"⟩ : Cond) ∈ kw_all := kw_t 198 (by decide +kernel) (by decide +kernel)
theorem kw200 : (.instanceMethod ⟨"ModelMerge", "versionOf", "(I)LModelMerge$Version;"⟩ : Cond) ∈ kw_all := kw_t 200 (by decide +kernel) (by decide +kernel)
theorem kw203 : (.classLink "ModelMerge" 76 "java/lang/IllegalStateException" : Cond) ∈ kw_all := kw_t 203 (by decide +kernel) (by decide +kernel)
theorem kw204 : (.instantiable "java/lang/IllegalStateException" 6 : Cond) ∈ kw_all := kw_t 204 (by decide +kernel) (by decide +kernel)
theorem kw206 : (.selects "java/lang/IllegalStateException" ⟨"java/lang/Throwable", "fillInStackTrace", "(I)Ljava/lang/Throwable;"⟩ ⟨"java/lang/Throwable", "fillInStackTrace", "(I)Ljava/lang/Throwable;"⟩ : Cond) ∈ kw_all := kw_t 206 (by decide +kernel) (by decide +kernel)
theorem kw213 : (.methodLink "ModelMerge" 80 ⟨"java/lang/IllegalStateException", "<init>", "(Ljava/lang/String;)V"⟩ : Cond) ∈ kw_all := kw_t 213 (by decide +kernel) (by decide +kernel)
theorem kw214 : (.instanceMethod ⟨"java/lang/IllegalStateException", "<init>", "(Ljava/lang/String;)V"⟩ : Cond) ∈ kw_all := kw_t 214 (by decide +kernel) (by decide +kernel)
theorem kw216 : (.methodLink "java/lang/IllegalStateException" 7 ⟨"java/lang/RuntimeException", "<init>", "(Ljava/lang/String;)V"⟩ : Cond) ∈ kw_all := kw_t 216 (by decide +kernel) (by decide +kernel)
theorem kw219 : (.instantiable "ModelMerge$Session" 8 : Cond) ∈ kw_all := kw_t 219 (by decide +kernel) (by decide +kernel)
theorem kw220 : (.methodLink "ModelMerge" 83 ⟨"ModelMerge$Session", "<init>", "(IILModelMerge$Version;)V"⟩ : Cond) ∈ kw_all := kw_t 220 (by decide +kernel) (by decide +kernel)
theorem kw221 : (.instanceMethod ⟨"ModelMerge$Session", "<init>", "(IILModelMerge$Version;)V"⟩ : Cond) ∈ kw_all := kw_t 221 (by decide +kernel) (by decide +kernel)
theorem kw223 : (.methodLink "ModelMerge$Session" 3 ⟨"java/lang/Object", "<init>", "()V"⟩ : Cond) ∈ kw_all := kw_t 223 (by decide +kernel) (by decide +kernel)
theorem kw224 : (.classLink "ModelMerge$Session" 9 "ModelMerge$State" : Cond) ∈ kw_all := kw_t 224 (by decide +kernel) (by decide +kernel)
theorem kw226 : (.classLink "ModelMerge$Session" 18 "ModelMerge$Moment" : Cond) ∈ kw_all := kw_t 226 (by decide +kernel) (by decide +kernel)
theorem kw227 : (.instantiable "ModelMerge$Moment" 7 : Cond) ∈ kw_all := kw_t 227 (by decide +kernel) (by decide +kernel)
theorem kw228 : (.methodLink "ModelMerge$Session" 20 ⟨"ModelMerge$Moment", "<init>", "(ILModelMerge$Moment;IIII)V"⟩ : Cond) ∈ kw_all := kw_t 228 (by decide +kernel) (by decide +kernel)
theorem kw229 : (.instanceMethod ⟨"ModelMerge$Moment", "<init>", "(ILModelMerge$Moment;IIII)V"⟩ : Cond) ∈ kw_all := kw_t 229 (by decide +kernel) (by decide +kernel)
theorem kw231 : (.methodLink "ModelMerge$Moment" 1 ⟨"java/lang/Object", "<init>", "()V"⟩ : Cond) ∈ kw_all := kw_t 231 (by decide +kernel) (by decide +kernel)
theorem kw232 : (.fieldLink "ModelMerge$Moment" 13 "ModelMerge$Moment" "number" "I" : Cond) ∈ kw_all := kw_t 232 (by decide +kernel) (by decide +kernel)
theorem kw233 : (.fieldLink "ModelMerge$Session" 78 "ModelMerge$Moment" "number" "I" : Cond) ∈ kw_all := kw_t 233 (by decide +kernel) (by decide +kernel)
theorem kw234 : (.fieldLink "ModelMerge" 202 "ModelMerge$Moment" "number" "I" : Cond) ∈ kw_all := kw_t 234 (by decide +kernel) (by decide +kernel)
theorem kw235 : (.fieldLink "ModelMerge$Moment" 17 "ModelMerge$Moment" "before" "LModelMerge$Moment;" : Cond) ∈ kw_all := kw_t 235 (by decide +kernel) (by decide +kernel)
theorem kw236 : (.fieldLink "ModelMerge$Session" 79 "ModelMerge$Moment" "before" "LModelMerge$Moment;" : Cond) ∈ kw_all := kw_t 236 (by decide +kernel) (by decide +kernel)
theorem kw237 : (.fieldLink "ModelMerge$Moment" 20 "ModelMerge$Moment" "thing" "I" : Cond) ∈ kw_all := kw_t 237 (by decide +kernel) (by decide +kernel)
theorem kw238 : (.fieldLink "ModelMerge$Session" 65 "ModelMerge$Moment" "thing" "I" : Cond) ∈ kw_all := kw_t 238 (by decide +kernel) (by decide +kernel)
theorem kw239 : (.fieldLink "ModelMerge$Moment" 23 "ModelMerge$Moment" "field" "I" : Cond) ∈ kw_all := kw_t 239 (by decide +kernel) (by decide +kernel)
theorem kw240 : (.fieldLink "ModelMerge$Session" 68 "ModelMerge$Moment" "field" "I" : Cond) ∈ kw_all := kw_t 240 (by decide +kernel) (by decide +kernel)
theorem kw241 : (.fieldLink "ModelMerge$Moment" 26 "ModelMerge$Moment" "oldValue" "I" : Cond) ∈ kw_all := kw_t 241 (by decide +kernel) (by decide +kernel)
theorem kw242 : (.fieldLink "ModelMerge$Session" 82 "ModelMerge$Moment" "oldValue" "I" : Cond) ∈ kw_all := kw_t 242 (by decide +kernel) (by decide +kernel)
theorem kw243 : (.fieldLink "ModelMerge$Moment" 29 "ModelMerge$Moment" "newValue" "I" : Cond) ∈ kw_all := kw_t 243 (by decide +kernel) (by decide +kernel)
theorem kw244 : (.fieldLink "ModelMerge$Session" 71 "ModelMerge$Moment" "newValue" "I" : Cond) ∈ kw_all := kw_t 244 (by decide +kernel) (by decide +kernel)
theorem kw245 : (.fieldLink "ModelMerge$Moment" 7 "ModelMerge$Moment" "lastBehind" "LModelMerge$Moment;" : Cond) ∈ kw_all := kw_t 245 (by decide +kernel) (by decide +kernel)
theorem kw246 : (.fieldLink "ModelMerge$Session" 58 "ModelMerge$Moment" "lastBehind" "LModelMerge$Moment;" : Cond) ∈ kw_all := kw_t 246 (by decide +kernel) (by decide +kernel)
theorem kw262 : (.methodLink "ModelMerge$Session" 50 ⟨"ModelMerge$State", "copyAll", "(LModelMerge$State;)V"⟩ : Cond) ∈ kw_all := kw_t 262 (by decide +kernel) (by decide +kernel)
theorem kw263 : (.instanceMethod ⟨"ModelMerge$State", "copyAll", "(LModelMerge$State;)V"⟩ : Cond) ∈ kw_all := kw_t 263 (by decide +kernel) (by decide +kernel)
theorem kw264 : (.selects "ModelMerge$State" ⟨"ModelMerge$State", "copyAll", "(LModelMerge$State;)V"⟩ ⟨"ModelMerge$State", "copyAll", "(LModelMerge$State;)V"⟩ : Cond) ∈ kw_all := kw_t 264 (by decide +kernel) (by decide +kernel)
theorem kw266 : (.methodLink "ModelMerge$State" 34 ⟨"java/lang/System", "arraycopy", "(Ljava/lang/Object;ILjava/lang/Object;II)V"⟩ : Cond) ∈ kw_all := kw_t 266 (by decide +kernel) (by decide +kernel)
theorem kw267 : (.static ⟨"java/lang/System", "arraycopy", "(Ljava/lang/Object;ILjava/lang/Object;II)V"⟩ : Cond) ∈ kw_all := kw_t 267 (by decide +kernel) (by decide +kernel)
theorem kw268 : (.native ⟨"java/lang/System", "arraycopy", "(Ljava/lang/Object;ILjava/lang/Object;II)V"⟩ : Cond) ∈ kw_all := kw_t 268 (by decide +kernel) (by decide +kernel)
theorem kw269 : (.fieldLink "ModelMerge$Session" 37 "ModelMerge$Session" "number" "I" : Cond) ∈ kw_all := kw_t 269 (by decide +kernel) (by decide +kernel)
theorem kw270 : (.fieldLink "ModelMerge" 170 "ModelMerge$Session" "number" "I" : Cond) ∈ kw_all := kw_t 270 (by decide +kernel) (by decide +kernel)
theorem kw271 : (.fieldLink "ModelMerge$Session" 40 "ModelMerge$Session" "person" "I" : Cond) ∈ kw_all := kw_t 271 (by decide +kernel) (by decide +kernel)
theorem kw272 : (.fieldLink "ModelMerge" 191 "ModelMerge$Session" "person" "I" : Cond) ∈ kw_all := kw_t 272 (by decide +kernel) (by decide +kernel)
theorem kw273 : (.fieldLink "ModelMerge$Session" 43 "ModelMerge$Session" "base" "LModelMerge$Version;" : Cond) ∈ kw_all := kw_t 273 (by decide +kernel) (by decide +kernel)
theorem kw274 : (.fieldLink "ModelMerge" 194 "ModelMerge$Session" "base" "LModelMerge$Version;" : Cond) ∈ kw_all := kw_t 274 (by decide +kernel) (by decide +kernel)
theorem kw275 : (.fieldLink "ModelMerge$Session" 12 "ModelMerge$Session" "state" "LModelMerge$State;" : Cond) ∈ kw_all := kw_t 275 (by decide +kernel) (by decide +kernel)
theorem kw276 : (.fieldLink "ModelMerge" 155 "ModelMerge$Session" "state" "LModelMerge$State;" : Cond) ∈ kw_all := kw_t 276 (by decide +kernel) (by decide +kernel)
theorem kw277 : (.fieldLink "ModelMerge$Session" 23 "ModelMerge$Session" "standing" "LModelMerge$Moment;" : Cond) ∈ kw_all := kw_t 277 (by decide +kernel) (by decide +kernel)
theorem kw278 : (.fieldLink "ModelMerge" 198 "ModelMerge$Session" "standing" "LModelMerge$Moment;" : Cond) ∈ kw_all := kw_t 278 (by decide +kernel) (by decide +kernel)
theorem kw279 : (.fieldLink "ModelMerge$Session" 27 "ModelMerge$Session" "momentCount" "I" : Cond) ∈ kw_all := kw_t 279 (by decide +kernel) (by decide +kernel)
theorem kw280 : (.fieldLink "ModelMerge" 205 "ModelMerge$Session" "momentCount" "I" : Cond) ∈ kw_all := kw_t 280 (by decide +kernel) (by decide +kernel)
theorem kw281 : (.fieldLink "ModelMerge$Session" 31 "ModelMerge$Session" "phase" "I" : Cond) ∈ kw_all := kw_t 281 (by decide +kernel) (by decide +kernel)
theorem kw282 : (.fieldLink "ModelMerge" 135 "ModelMerge$Session" "phase" "I" : Cond) ∈ kw_all := kw_t 282 (by decide +kernel) (by decide +kernel)
theorem kw283 : (.fieldLink "ModelMerge$Session" 34 "ModelMerge$Session" "madeVersion" "I" : Cond) ∈ kw_all := kw_t 283 (by decide +kernel) (by decide +kernel)
theorem kw284 : (.fieldLink "ModelMerge" 208 "ModelMerge$Session" "madeVersion" "I" : Cond) ∈ kw_all := kw_t 284 (by decide +kernel) (by decide +kernel)
theorem kw302 : (.methodLink "ModelMergeLaw" 97 ⟨"ModelMergeLaw", "make", "(LModelMerge;II[J)I"⟩ : Cond) ∈ kw_all := kw_t 302 (by decide +kernel) (by decide +kernel)
theorem kw303 : (.static ⟨"ModelMergeLaw", "make", "(LModelMerge;II[J)I"⟩ : Cond) ∈ kw_all := kw_t 303 (by decide +kernel) (by decide +kernel)
theorem kw305 : (.methodLink "ModelMergeLaw" 17 ⟨"ModelMerge", "make", "(II)I"⟩ : Cond) ∈ kw_all := kw_t 305 (by decide +kernel) (by decide +kernel)
theorem kw306 : (.instanceMethod ⟨"ModelMerge", "make", "(II)I"⟩ : Cond) ∈ kw_all := kw_t 306 (by decide +kernel) (by decide +kernel)
theorem kw307 : (.selects "ModelMerge" ⟨"ModelMerge", "make", "(II)I"⟩ ⟨"ModelMerge", "make", "(II)I"⟩ : Cond) ∈ kw_all := kw_t 307 (by decide +kernel) (by decide +kernel)
theorem kw309 : (.methodLink "ModelMerge" 86 ⟨"ModelMerge", "sessionOf", "(I)LModelMerge$Session;"⟩ : Cond) ∈ kw_all := kw_t 309 (by decide +kernel) (by decide +kernel)
theorem kw311 : (.instanceMethod ⟨"ModelMerge", "sessionOf", "(I)LModelMerge$Session;"⟩ : Cond) ∈ kw_all := kw_t 311 (by decide +kernel) (by decide +kernel)
theorem kw314 : (.methodLink "ModelMerge" 90 ⟨"ModelMerge", "checkOpen", "(LModelMerge$Session;)V"⟩ : Cond) ∈ kw_all := kw_t 314 (by decide +kernel) (by decide +kernel)
theorem kw315 : (.static ⟨"ModelMerge", "checkOpen", "(LModelMerge$Session;)V"⟩ : Cond) ∈ kw_all := kw_t 315 (by decide +kernel) (by decide +kernel)
theorem kw318 : (.methodLink "ModelMerge" 94 ⟨"ModelMerge$Session", "isFull", "()Z"⟩ : Cond) ∈ kw_all := kw_t 318 (by decide +kernel) (by decide +kernel)
theorem kw319 : (.instanceMethod ⟨"ModelMerge$Session", "isFull", "()Z"⟩ : Cond) ∈ kw_all := kw_t 319 (by decide +kernel) (by decide +kernel)
theorem kw320 : (.selects "ModelMerge$Session" ⟨"ModelMerge$Session", "isFull", "()Z"⟩ ⟨"ModelMerge$Session", "isFull", "()Z"⟩ : Cond) ∈ kw_all := kw_t 320 (by decide +kernel) (by decide +kernel)
theorem kw322 : (.methodLink "ModelMerge" 98 ⟨"ModelMerge$Session", "change", "(III)I"⟩ : Cond) ∈ kw_all := kw_t 322 (by decide +kernel) (by decide +kernel)
theorem kw323 : (.instanceMethod ⟨"ModelMerge$Session", "change", "(III)I"⟩ : Cond) ∈ kw_all := kw_t 323 (by decide +kernel) (by decide +kernel)
theorem kw324 : (.selects "ModelMerge$Session" ⟨"ModelMerge$Session", "change", "(III)I"⟩ ⟨"ModelMerge$Session", "change", "(III)I"⟩ : Cond) ∈ kw_all := kw_t 324 (by decide +kernel) (by decide +kernel)
theorem kw326 : (.methodLink "ModelMerge$Session" 54 ⟨"ModelMerge$State", "value", "(II)I"⟩ : Cond) ∈ kw_all := kw_t 326 (by decide +kernel) (by decide +kernel)
theorem kw327 : (.instanceMethod ⟨"ModelMerge$State", "value", "(II)I"⟩ : Cond) ∈ kw_all := kw_t 327 (by decide +kernel) (by decide +kernel)
theorem kw328 : (.selects "ModelMerge$State" ⟨"ModelMerge$State", "value", "(II)I"⟩ ⟨"ModelMerge$State", "value", "(II)I"⟩ : Cond) ∈ kw_all := kw_t 328 (by decide +kernel) (by decide +kernel)
theorem kw330 : (.methodLink "ModelMerge$State" 19 ⟨"ModelMerge$State", "isCell", "(II)Z"⟩ : Cond) ∈ kw_all := kw_t 330 (by decide +kernel) (by decide +kernel)
theorem kw331 : (.static ⟨"ModelMerge$State", "isCell", "(II)Z"⟩ : Cond) ∈ kw_all := kw_t 331 (by decide +kernel) (by decide +kernel)
theorem kw333 : (.methodLink "ModelMerge$State" 23 ⟨"ModelMerge$State", "cellOf", "(II)I"⟩ : Cond) ∈ kw_all := kw_t 333 (by decide +kernel) (by decide +kernel)
theorem kw334 : (.static ⟨"ModelMerge$State", "cellOf", "(II)I"⟩ : Cond) ∈ kw_all := kw_t 334 (by decide +kernel) (by decide +kernel)
theorem kw336 : (.methodLink "ModelMerge$Session" 61 ⟨"ModelMerge$Session", "stepForward", "()I"⟩ : Cond) ∈ kw_all := kw_t 336 (by decide +kernel) (by decide +kernel)
theorem kw337 : (.instanceMethod ⟨"ModelMerge$Session", "stepForward", "()I"⟩ : Cond) ∈ kw_all := kw_t 337 (by decide +kernel) (by decide +kernel)
theorem kw338 : (.selects "ModelMerge$Session" ⟨"ModelMerge$Session", "stepForward", "()I"⟩ ⟨"ModelMerge$Session", "stepForward", "()I"⟩ : Cond) ∈ kw_all := kw_t 338 (by decide +kernel) (by decide +kernel)
theorem kw340 : (.methodLink "ModelMerge$Session" 74 ⟨"ModelMerge$State", "put", "(III)V"⟩ : Cond) ∈ kw_all := kw_t 340 (by decide +kernel) (by decide +kernel)
theorem kw341 : (.instanceMethod ⟨"ModelMerge$State", "put", "(III)V"⟩ : Cond) ∈ kw_all := kw_t 341 (by decide +kernel) (by decide +kernel)
theorem kw342 : (.selects "ModelMerge$State" ⟨"ModelMerge$State", "put", "(III)V"⟩ ⟨"ModelMerge$State", "put", "(III)V"⟩ : Cond) ∈ kw_all := kw_t 342 (by decide +kernel) (by decide +kernel)
theorem kw344 : (.methodLink "ModelMergeLaw" 100 ⟨"ModelMergeLaw", "set", "(LModelMerge;IIII[J)I"⟩ : Cond) ∈ kw_all := kw_t 344 (by decide +kernel) (by decide +kernel)
theorem kw345 : (.static ⟨"ModelMergeLaw", "set", "(LModelMerge;IIII[J)I"⟩ : Cond) ∈ kw_all := kw_t 345 (by decide +kernel) (by decide +kernel)
theorem kw347 : (.methodLink "ModelMergeLaw" 20 ⟨"ModelMerge", "set", "(IIII)I"⟩ : Cond) ∈ kw_all := kw_t 347 (by decide +kernel) (by decide +kernel)
theorem kw348 : (.instanceMethod ⟨"ModelMerge", "set", "(IIII)I"⟩ : Cond) ∈ kw_all := kw_t 348 (by decide +kernel) (by decide +kernel)
theorem kw349 : (.selects "ModelMerge" ⟨"ModelMerge", "set", "(IIII)I"⟩ ⟨"ModelMerge", "set", "(IIII)I"⟩ : Cond) ∈ kw_all := kw_t 349 (by decide +kernel) (by decide +kernel)
theorem kw351 : (.methodLink "ModelMerge" 102 ⟨"ModelMerge", "changeThing", "(IIII)I"⟩ : Cond) ∈ kw_all := kw_t 351 (by decide +kernel) (by decide +kernel)
theorem kw353 : (.instanceMethod ⟨"ModelMerge", "changeThing", "(IIII)I"⟩ : Cond) ∈ kw_all := kw_t 353 (by decide +kernel) (by decide +kernel)
theorem kw355 : (.methodLink "ModelMerge" 113 ⟨"ModelMerge", "checkThing", "(I)V"⟩ : Cond) ∈ kw_all := kw_t 355 (by decide +kernel) (by decide +kernel)
theorem kw357 : (.instanceMethod ⟨"ModelMerge", "checkThing", "(I)V"⟩ : Cond) ∈ kw_all := kw_t 357 (by decide +kernel) (by decide +kernel)
theorem kw359 : (.methodLink "ModelMerge" 237 ⟨"ModelMerge", "isThing", "(I)Z"⟩ : Cond) ∈ kw_all := kw_t 359 (by decide +kernel) (by decide +kernel)
theorem kw361 : (.instanceMethod ⟨"ModelMerge", "isThing", "(I)Z"⟩ : Cond) ∈ kw_all := kw_t 361 (by decide +kernel) (by decide +kernel)
theorem kw364 : (.methodLink "ModelMerge" 243 ⟨"ModelMerge$State", "has", "(I)Z"⟩ : Cond) ∈ kw_all := kw_t 364 (by decide +kernel) (by decide +kernel)
theorem kw365 : (.instanceMethod ⟨"ModelMerge$State", "has", "(I)Z"⟩ : Cond) ∈ kw_all := kw_t 365 (by decide +kernel) (by decide +kernel)
theorem kw366 : (.selects "ModelMerge$State" ⟨"ModelMerge$State", "has", "(I)Z"⟩ ⟨"ModelMerge$State", "has", "(I)Z"⟩ : Cond) ∈ kw_all := kw_t 366 (by decide +kernel) (by decide +kernel)
theorem kw368 : (.methodLink "ModelMerge$State" 15 ⟨"ModelMerge$State", "value", "(II)I"⟩ : Cond) ∈ kw_all := kw_t 368 (by decide +kernel) (by decide +kernel)
theorem kw369 : (.methodLink "ModelMerge" 117 ⟨"ModelMerge", "lockerOf", "(I)I"⟩ : Cond) ∈ kw_all := kw_t 369 (by decide +kernel) (by decide +kernel)
theorem kw371 : (.instanceMethod ⟨"ModelMerge", "lockerOf", "(I)I"⟩ : Cond) ∈ kw_all := kw_t 371 (by decide +kernel) (by decide +kernel)
theorem kw373 : (.methodLink "ModelMergeLaw" 104 ⟨"ModelMergeLaw", "drop", "(LModelMerge;II[J)I"⟩ : Cond) ∈ kw_all := kw_t 373 (by decide +kernel) (by decide +kernel)
theorem kw374 : (.static ⟨"ModelMergeLaw", "drop", "(LModelMerge;II[J)I"⟩ : Cond) ∈ kw_all := kw_t 374 (by decide +kernel) (by decide +kernel)
theorem kw376 : (.methodLink "ModelMergeLaw" 24 ⟨"ModelMerge", "drop", "(II)I"⟩ : Cond) ∈ kw_all := kw_t 376 (by decide +kernel) (by decide +kernel)
theorem kw377 : (.instanceMethod ⟨"ModelMerge", "drop", "(II)I"⟩ : Cond) ∈ kw_all := kw_t 377 (by decide +kernel) (by decide +kernel)
theorem kw378 : (.selects "ModelMerge" ⟨"ModelMerge", "drop", "(II)I"⟩ ⟨"ModelMerge", "drop", "(II)I"⟩ : Cond) ∈ kw_all := kw_t 378 (by decide +kernel) (by decide +kernel)
theorem kw380 : (.methodLink "ModelMergeLaw" 107 ⟨"ModelMergeLaw", "undo", "(LModelMerge;I[J)I"⟩ : Cond) ∈ kw_all := kw_t 380 (by decide +kernel) (by decide +kernel)
theorem kw381 : (.static ⟨"ModelMergeLaw", "undo", "(LModelMerge;I[J)I"⟩ : Cond) ∈ kw_all := kw_t 381 (by decide +kernel) (by decide +kernel)
theorem kw383 : (.methodLink "ModelMergeLaw" 27 ⟨"ModelMerge", "undo", "(I)I"⟩ : Cond) ∈ kw_all := kw_t 383 (by decide +kernel) (by decide +kernel)
theorem kw384 : (.instanceMethod ⟨"ModelMerge", "undo", "(I)I"⟩ : Cond) ∈ kw_all := kw_t 384 (by decide +kernel) (by decide +kernel)
theorem kw385 : (.selects "ModelMerge" ⟨"ModelMerge", "undo", "(I)I"⟩ ⟨"ModelMerge", "undo", "(I)I"⟩ : Cond) ∈ kw_all := kw_t 385 (by decide +kernel) (by decide +kernel)
theorem kw387 : (.methodLink "ModelMerge" 106 ⟨"ModelMerge$Session", "stepBack", "()I"⟩ : Cond) ∈ kw_all := kw_t 387 (by decide +kernel) (by decide +kernel)
theorem kw388 : (.instanceMethod ⟨"ModelMerge$Session", "stepBack", "()I"⟩ : Cond) ∈ kw_all := kw_t 388 (by decide +kernel) (by decide +kernel)
theorem kw389 : (.selects "ModelMerge$Session" ⟨"ModelMerge$Session", "stepBack", "()I"⟩ ⟨"ModelMerge$Session", "stepBack", "()I"⟩ : Cond) ∈ kw_all := kw_t 389 (by decide +kernel) (by decide +kernel)
theorem kw391 : (.methodLink "ModelMergeLaw" 111 ⟨"ModelMergeLaw", "redo", "(LModelMerge;I[J)I"⟩ : Cond) ∈ kw_all := kw_t 391 (by decide +kernel) (by decide +kernel)
theorem kw392 : (.static ⟨"ModelMergeLaw", "redo", "(LModelMerge;I[J)I"⟩ : Cond) ∈ kw_all := kw_t 392 (by decide +kernel) (by decide +kernel)
theorem kw394 : (.methodLink "ModelMergeLaw" 31 ⟨"ModelMerge", "redo", "(I)I"⟩ : Cond) ∈ kw_all := kw_t 394 (by decide +kernel) (by decide +kernel)
theorem kw395 : (.instanceMethod ⟨"ModelMerge", "redo", "(I)I"⟩ : Cond) ∈ kw_all := kw_t 395 (by decide +kernel) (by decide +kernel)
theorem kw396 : (.selects "ModelMerge" ⟨"ModelMerge", "redo", "(I)I"⟩ ⟨"ModelMerge", "redo", "(I)I"⟩ : Cond) ∈ kw_all := kw_t 396 (by decide +kernel) (by decide +kernel)
theorem kw398 : (.methodLink "ModelMerge" 110 ⟨"ModelMerge$Session", "stepForward", "()I"⟩ : Cond) ∈ kw_all := kw_t 398 (by decide +kernel) (by decide +kernel)
theorem kw399 : (.methodLink "ModelMergeLaw" 114 ⟨"ModelMergeLaw", "lock", "(LModelMerge;II[J)I"⟩ : Cond) ∈ kw_all := kw_t 399 (by decide +kernel) (by decide +kernel)
theorem kw400 : (.static ⟨"ModelMergeLaw", "lock", "(LModelMerge;II[J)I"⟩ : Cond) ∈ kw_all := kw_t 400 (by decide +kernel) (by decide +kernel)
theorem kw402 : (.methodLink "ModelMergeLaw" 34 ⟨"ModelMerge", "lock", "(II)I"⟩ : Cond) ∈ kw_all := kw_t 402 (by decide +kernel) (by decide +kernel)
theorem kw403 : (.instanceMethod ⟨"ModelMerge", "lock", "(II)I"⟩ : Cond) ∈ kw_all := kw_t 403 (by decide +kernel) (by decide +kernel)
theorem kw404 : (.selects "ModelMerge" ⟨"ModelMerge", "lock", "(II)I"⟩ ⟨"ModelMerge", "lock", "(II)I"⟩ : Cond) ∈ kw_all := kw_t 404 (by decide +kernel) (by decide +kernel)
theorem kw406 : (.methodLink "ModelMergeLaw" 117 ⟨"ModelMergeLaw", "rule", "(LModelMerge;III[J)I"⟩ : Cond) ∈ kw_all := kw_t 406 (by decide +kernel) (by decide +kernel)
theorem kw407 : (.static ⟨"ModelMergeLaw", "rule", "(LModelMerge;III[J)I"⟩ : Cond) ∈ kw_all := kw_t 407 (by decide +kernel) (by decide +kernel)
theorem kw409 : (.methodLink "ModelMergeLaw" 37 ⟨"ModelMerge", "rule", "(III)I"⟩ : Cond) ∈ kw_all := kw_t 409 (by decide +kernel) (by decide +kernel)
theorem kw410 : (.instanceMethod ⟨"ModelMerge", "rule", "(III)I"⟩ : Cond) ∈ kw_all := kw_t 410 (by decide +kernel) (by decide +kernel)
theorem kw411 : (.selects "ModelMerge" ⟨"ModelMerge", "rule", "(III)I"⟩ ⟨"ModelMerge", "rule", "(III)I"⟩ : Cond) ∈ kw_all := kw_t 411 (by decide +kernel) (by decide +kernel)
theorem kw414 : (.instantiable "ModelMerge$Rule" 3 : Cond) ∈ kw_all := kw_t 414 (by decide +kernel) (by decide +kernel)
theorem kw415 : (.methodLink "ModelMerge" 123 ⟨"ModelMerge$Rule", "<init>", "(III)V"⟩ : Cond) ∈ kw_all := kw_t 415 (by decide +kernel) (by decide +kernel)
theorem kw416 : (.instanceMethod ⟨"ModelMerge$Rule", "<init>", "(III)V"⟩ : Cond) ∈ kw_all := kw_t 416 (by decide +kernel) (by decide +kernel)
theorem kw418 : (.methodLink "ModelMerge$Rule" 1 ⟨"java/lang/Object", "<init>", "()V"⟩ : Cond) ∈ kw_all := kw_t 418 (by decide +kernel) (by decide +kernel)
theorem kw419 : (.fieldLink "ModelMerge$Rule" 7 "ModelMerge$Rule" "kind" "I" : Cond) ∈ kw_all := kw_t 419 (by decide +kernel) (by decide +kernel)
theorem kw420 : (.fieldLink "ModelMerge" 254 "ModelMerge$Rule" "kind" "I" : Cond) ∈ kw_all := kw_t 420 (by decide +kernel) (by decide +kernel)
theorem kw421 : (.fieldLink "ModelMerge$Rule" 13 "ModelMerge$Rule" "field" "I" : Cond) ∈ kw_all := kw_t 421 (by decide +kernel) (by decide +kernel)
theorem kw422 : (.fieldLink "ModelMerge" 257 "ModelMerge$Rule" "field" "I" : Cond) ∈ kw_all := kw_t 422 (by decide +kernel) (by decide +kernel)
theorem kw423 : (.fieldLink "ModelMerge$Rule" 16 "ModelMerge$Rule" "other" "I" : Cond) ∈ kw_all := kw_t 423 (by decide +kernel) (by decide +kernel)
theorem kw424 : (.fieldLink "ModelMerge" 260 "ModelMerge$Rule" "other" "I" : Cond) ∈ kw_all := kw_t 424 (by decide +kernel) (by decide +kernel)
theorem kw432 : (.methodLink "ModelMergeLaw" 121 ⟨"ModelMergeLaw", "join", "(LModelMerge;I[J)I"⟩ : Cond) ∈ kw_all := kw_t 432 (by decide +kernel) (by decide +kernel)
theorem kw433 : (.static ⟨"ModelMergeLaw", "join", "(LModelMerge;I[J)I"⟩ : Cond) ∈ kw_all := kw_t 433 (by decide +kernel) (by decide +kernel)
theorem kw435 : (.methodLink "ModelMergeLaw" 41 ⟨"ModelMerge", "join", "(I)I"⟩ : Cond) ∈ kw_all := kw_t 435 (by decide +kernel) (by decide +kernel)
theorem kw436 : (.instanceMethod ⟨"ModelMerge", "join", "(I)I"⟩ : Cond) ∈ kw_all := kw_t 436 (by decide +kernel) (by decide +kernel)
theorem kw437 : (.selects "ModelMerge" ⟨"ModelMerge", "join", "(I)I"⟩ ⟨"ModelMerge", "join", "(I)I"⟩ : Cond) ∈ kw_all := kw_t 437 (by decide +kernel) (by decide +kernel)
theorem kw439 : (.methodLink "ModelMerge" 126 ⟨"ModelMerge", "findConflicts", "(LModelMerge$Session;)V"⟩ : Cond) ∈ kw_all := kw_t 439 (by decide +kernel) (by decide +kernel)
theorem kw441 : (.instanceMethod ⟨"ModelMerge", "findConflicts", "(LModelMerge$Session;)V"⟩ : Cond) ∈ kw_all := kw_t 441 (by decide +kernel) (by decide +kernel)
theorem kw443 : (.methodLink "ModelMerge" 263 ⟨"ModelMerge$Conflicts", "clear", "()V"⟩ : Cond) ∈ kw_all := kw_t 443 (by decide +kernel) (by decide +kernel)
theorem kw444 : (.instanceMethod ⟨"ModelMerge$Conflicts", "clear", "()V"⟩ : Cond) ∈ kw_all := kw_t 444 (by decide +kernel) (by decide +kernel)
theorem kw445 : (.selects "ModelMerge$Conflicts" ⟨"ModelMerge$Conflicts", "clear", "()V"⟩ ⟨"ModelMerge$Conflicts", "clear", "()V"⟩ : Cond) ∈ kw_all := kw_t 445 (by decide +kernel) (by decide +kernel)
theorem kw447 : (.methodLink "ModelMerge" 266 ⟨"ModelMerge", "isDroppedAndChanged", "(LModelMerge$State;LModelMerge$State;LModelMerge$State;I)Z"⟩ : Cond) ∈ kw_all := kw_t 447 (by decide +kernel) (by decide +kernel)
theorem kw448 : (.static ⟨"ModelMerge", "isDroppedAndChanged", "(LModelMerge$State;LModelMerge$State;LModelMerge$State;I)Z"⟩ : Cond) ∈ kw_all := kw_t 448 (by decide +kernel) (by decide +kernel)
theorem kw450 : (.methodLink "ModelMerge" 151 ⟨"ModelMerge$State", "value", "(II)I"⟩ : Cond) ∈ kw_all := kw_t 450 (by decide +kernel) (by decide +kernel)
theorem kw451 : (.methodLink "ModelMerge" 270 ⟨"ModelMerge$Conflicts", "add", "(II)V"⟩ : Cond) ∈ kw_all := kw_t 451 (by decide +kernel) (by decide +kernel)
theorem kw452 : (.instanceMethod ⟨"ModelMerge$Conflicts", "add", "(II)V"⟩ : Cond) ∈ kw_all := kw_t 452 (by decide +kernel) (by decide +kernel)
theorem kw453 : (.selects "ModelMerge$Conflicts" ⟨"ModelMerge$Conflicts", "add", "(II)V"⟩ ⟨"ModelMerge$Conflicts", "add", "(II)V"⟩ : Cond) ∈ kw_all := kw_t 453 (by decide +kernel) (by decide +kernel)
theorem kw455 : (.methodLink "ModelMerge" 273 ⟨"ModelMerge", "findFieldConflicts", "(LModelMerge$State;LModelMerge$State;LModelMerge$State;I)V"⟩ : Cond) ∈ kw_all := kw_t 455 (by decide +kernel) (by decide +kernel)
theorem kw457 : (.instanceMethod ⟨"ModelMerge", "findFieldConflicts", "(LModelMerge$State;LModelMerge$State;LModelMerge$State;I)V"⟩ : Cond) ∈ kw_all := kw_t 457 (by decide +kernel) (by decide +kernel)
theorem kw459 : (.methodLink "ModelMerge" 132 ⟨"ModelMerge", "finishJoining", "(LModelMerge$Session;)V"⟩ : Cond) ∈ kw_all := kw_t 459 (by decide +kernel) (by decide +kernel)
theorem kw461 : (.instanceMethod ⟨"ModelMerge", "finishJoining", "(LModelMerge$Session;)V"⟩ : Cond) ∈ kw_all := kw_t 461 (by decide +kernel) (by decide +kernel)
theorem kw463 : (.methodLink "ModelMerge" 277 ⟨"ModelMerge", "joinedState", "(LModelMerge$Session;)LModelMerge$State;"⟩ : Cond) ∈ kw_all := kw_t 463 (by decide +kernel) (by decide +kernel)
theorem kw465 : (.instanceMethod ⟨"ModelMerge", "joinedState", "(LModelMerge$Session;)LModelMerge$State;"⟩ : Cond) ∈ kw_all := kw_t 465 (by decide +kernel) (by decide +kernel)
theorem kw467 : (.methodLink "ModelMerge" 285 ⟨"ModelMerge", "joinThing", "(LModelMerge$State;LModelMerge$State;LModelMerge$State;I)V"⟩ : Cond) ∈ kw_all := kw_t 467 (by decide +kernel) (by decide +kernel)
theorem kw469 : (.instanceMethod ⟨"ModelMerge", "joinThing", "(LModelMerge$State;LModelMerge$State;LModelMerge$State;I)V"⟩ : Cond) ∈ kw_all := kw_t 469 (by decide +kernel) (by decide +kernel)
theorem kw471 : (.methodLink "ModelMerge" 292 ⟨"ModelMerge$State", "put", "(III)V"⟩ : Cond) ∈ kw_all := kw_t 471 (by decide +kernel) (by decide +kernel)
theorem kw472 : (.methodLink "ModelMerge" 295 ⟨"ModelMerge$State", "copyThing", "(LModelMerge$State;I)V"⟩ : Cond) ∈ kw_all := kw_t 472 (by decide +kernel) (by decide +kernel)
theorem kw473 : (.instanceMethod ⟨"ModelMerge$State", "copyThing", "(LModelMerge$State;I)V"⟩ : Cond) ∈ kw_all := kw_t 473 (by decide +kernel) (by decide +kernel)
theorem kw474 : (.selects "ModelMerge$State" ⟨"ModelMerge$State", "copyThing", "(LModelMerge$State;I)V"⟩ ⟨"ModelMerge$State", "copyThing", "(LModelMerge$State;I)V"⟩ : Cond) ∈ kw_all := kw_t 474 (by decide +kernel) (by decide +kernel)
theorem kw476 : (.methodLink "ModelMerge$State" 26 ⟨"ModelMerge$State", "has", "(I)Z"⟩ : Cond) ∈ kw_all := kw_t 476 (by decide +kernel) (by decide +kernel)
theorem kw477 : (.methodLink "ModelMerge$State" 30 ⟨"ModelMerge$State", "put", "(III)V"⟩ : Cond) ∈ kw_all := kw_t 477 (by decide +kernel) (by decide +kernel)
theorem kw478 : (.methodLink "ModelMerge" 156 ⟨"ModelMerge$Conflicts", "sideOf", "(I)I"⟩ : Cond) ∈ kw_all := kw_t 478 (by decide +kernel) (by decide +kernel)
theorem kw479 : (.instanceMethod ⟨"ModelMerge$Conflicts", "sideOf", "(I)I"⟩ : Cond) ∈ kw_all := kw_t 479 (by decide +kernel) (by decide +kernel)
theorem kw480 : (.selects "ModelMerge$Conflicts" ⟨"ModelMerge$Conflicts", "sideOf", "(I)I"⟩ ⟨"ModelMerge$Conflicts", "sideOf", "(I)I"⟩ : Cond) ∈ kw_all := kw_t 480 (by decide +kernel) (by decide +kernel)
theorem kw482 : (.methodLink "ModelMerge$Conflicts" 25 ⟨"ModelMerge$Conflicts", "isKnown", "(I)Z"⟩ : Cond) ∈ kw_all := kw_t 482 (by decide +kernel) (by decide +kernel)
theorem kw484 : (.instanceMethod ⟨"ModelMerge$Conflicts", "isKnown", "(I)Z"⟩ : Cond) ∈ kw_all := kw_t 484 (by decide +kernel) (by decide +kernel)
theorem kw486 : (.methodLink "ModelMerge" 141 ⟨"ModelMerge$Conflicts", "thingOf", "(I)I"⟩ : Cond) ∈ kw_all := kw_t 486 (by decide +kernel) (by decide +kernel)
theorem kw487 : (.instanceMethod ⟨"ModelMerge$Conflicts", "thingOf", "(I)I"⟩ : Cond) ∈ kw_all := kw_t 487 (by decide +kernel) (by decide +kernel)
theorem kw488 : (.selects "ModelMerge$Conflicts" ⟨"ModelMerge$Conflicts", "thingOf", "(I)I"⟩ ⟨"ModelMerge$Conflicts", "thingOf", "(I)I"⟩ : Cond) ∈ kw_all := kw_t 488 (by decide +kernel) (by decide +kernel)
theorem kw490 : (.methodLink "ModelMerge" 144 ⟨"ModelMerge$Conflicts", "fieldOf", "(I)I"⟩ : Cond) ∈ kw_all := kw_t 490 (by decide +kernel) (by decide +kernel)
theorem kw491 : (.instanceMethod ⟨"ModelMerge$Conflicts", "fieldOf", "(I)I"⟩ : Cond) ∈ kw_all := kw_t 491 (by decide +kernel) (by decide +kernel)
theorem kw492 : (.selects "ModelMerge$Conflicts" ⟨"ModelMerge$Conflicts", "fieldOf", "(I)I"⟩ ⟨"ModelMerge$Conflicts", "fieldOf", "(I)I"⟩ : Cond) ∈ kw_all := kw_t 492 (by decide +kernel) (by decide +kernel)
theorem kw494 : (.methodLink "ModelMerge" 288 ⟨"ModelMerge", "applySettling", "(LModelMerge$State;LModelMerge$State;II)V"⟩ : Cond) ∈ kw_all := kw_t 494 (by decide +kernel) (by decide +kernel)
theorem kw495 : (.static ⟨"ModelMerge", "applySettling", "(LModelMerge$State;LModelMerge$State;II)V"⟩ : Cond) ∈ kw_all := kw_t 495 (by decide +kernel) (by decide +kernel)
theorem kw497 : (.methodLink "ModelMerge" 281 ⟨"ModelMerge$Version", "traceOrigins", "(LModelMerge$Version;)V"⟩ : Cond) ∈ kw_all := kw_t 497 (by decide +kernel) (by decide +kernel)
theorem kw498 : (.instanceMethod ⟨"ModelMerge$Version", "traceOrigins", "(LModelMerge$Version;)V"⟩ : Cond) ∈ kw_all := kw_t 498 (by decide +kernel) (by decide +kernel)
theorem kw499 : (.selects "ModelMerge$Version" ⟨"ModelMerge$Version", "traceOrigins", "(LModelMerge$Version;)V"⟩ ⟨"ModelMerge$Version", "traceOrigins", "(LModelMerge$Version;)V"⟩ : Cond) ∈ kw_all := kw_t 499 (by decide +kernel) (by decide +kernel)
theorem kw501 : (.methodLink "ModelMerge$Version" 26 ⟨"ModelMerge$State", "has", "(I)Z"⟩ : Cond) ∈ kw_all := kw_t 501 (by decide +kernel) (by decide +kernel)
theorem kw502 : (.methodLink "ModelMerge$Version" 32 ⟨"ModelMerge$State", "value", "(II)I"⟩ : Cond) ∈ kw_all := kw_t 502 (by decide +kernel) (by decide +kernel)
theorem kw503 : (.methodLink "ModelMerge$Version" 36 ⟨"ModelMerge$Version", "origin", "(II)I"⟩ : Cond) ∈ kw_all := kw_t 503 (by decide +kernel) (by decide +kernel)
theorem kw504 : (.instanceMethod ⟨"ModelMerge$Version", "origin", "(II)I"⟩ : Cond) ∈ kw_all := kw_t 504 (by decide +kernel) (by decide +kernel)
theorem kw505 : (.selects "ModelMerge$Version" ⟨"ModelMerge$Version", "origin", "(II)I"⟩ ⟨"ModelMerge$Version", "origin", "(II)I"⟩ : Cond) ∈ kw_all := kw_t 505 (by decide +kernel) (by decide +kernel)
theorem kw507 : (.methodLink "ModelMergeLaw" 124 ⟨"ModelMergeLaw", "conflict", "(LModelMerge;II[J)I"⟩ : Cond) ∈ kw_all := kw_t 507 (by decide +kernel) (by decide +kernel)
theorem kw508 : (.static ⟨"ModelMergeLaw", "conflict", "(LModelMerge;II[J)I"⟩ : Cond) ∈ kw_all := kw_t 508 (by decide +kernel) (by decide +kernel)
theorem kw510 : (.methodLink "ModelMergeLaw" 44 ⟨"ModelMerge", "conflict", "(II)I"⟩ : Cond) ∈ kw_all := kw_t 510 (by decide +kernel) (by decide +kernel)
theorem kw511 : (.instanceMethod ⟨"ModelMerge", "conflict", "(II)I"⟩ : Cond) ∈ kw_all := kw_t 511 (by decide +kernel) (by decide +kernel)
theorem kw512 : (.selects "ModelMerge" ⟨"ModelMerge", "conflict", "(II)I"⟩ ⟨"ModelMerge", "conflict", "(II)I"⟩ : Cond) ∈ kw_all := kw_t 512 (by decide +kernel) (by decide +kernel)
theorem kw514 : (.methodLink "ModelMerge" 138 ⟨"ModelMerge", "pendingWithConflict", "(I)LModelMerge$Session;"⟩ : Cond) ∈ kw_all := kw_t 514 (by decide +kernel) (by decide +kernel)
theorem kw516 : (.instanceMethod ⟨"ModelMerge", "pendingWithConflict", "(I)LModelMerge$Session;"⟩ : Cond) ∈ kw_all := kw_t 516 (by decide +kernel) (by decide +kernel)
theorem kw518 : (.methodLink "ModelMerge" 220 ⟨"ModelMerge", "checkNotNegative", "(I)V"⟩ : Cond) ∈ kw_all := kw_t 518 (by decide +kernel) (by decide +kernel)
theorem kw519 : (.static ⟨"ModelMerge", "checkNotNegative", "(I)V"⟩ : Cond) ∈ kw_all := kw_t 519 (by decide +kernel) (by decide +kernel)
theorem kw523 : (.methodLink "ModelMergeLaw" 127 ⟨"ModelMergeLaw", "settle", "(LModelMerge;II[J)I"⟩ : Cond) ∈ kw_all := kw_t 523 (by decide +kernel) (by decide +kernel)
theorem kw524 : (.static ⟨"ModelMergeLaw", "settle", "(LModelMerge;II[J)I"⟩ : Cond) ∈ kw_all := kw_t 524 (by decide +kernel) (by decide +kernel)
theorem kw526 : (.methodLink "ModelMergeLaw" 47 ⟨"ModelMerge", "settle", "(II)I"⟩ : Cond) ∈ kw_all := kw_t 526 (by decide +kernel) (by decide +kernel)
theorem kw527 : (.instanceMethod ⟨"ModelMerge", "settle", "(II)I"⟩ : Cond) ∈ kw_all := kw_t 527 (by decide +kernel) (by decide +kernel)
theorem kw528 : (.selects "ModelMerge" ⟨"ModelMerge", "settle", "(II)I"⟩ ⟨"ModelMerge", "settle", "(II)I"⟩ : Cond) ∈ kw_all := kw_t 528 (by decide +kernel) (by decide +kernel)
theorem kw530 : (.methodLink "ModelMerge" 159 ⟨"ModelMerge", "checkSide", "(I)V"⟩ : Cond) ∈ kw_all := kw_t 530 (by decide +kernel) (by decide +kernel)
theorem kw531 : (.static ⟨"ModelMerge", "checkSide", "(I)V"⟩ : Cond) ∈ kw_all := kw_t 531 (by decide +kernel) (by decide +kernel)
theorem kw534 : (.methodLink "ModelMerge" 162 ⟨"ModelMerge$Conflicts", "choose", "(II)V"⟩ : Cond) ∈ kw_all := kw_t 534 (by decide +kernel) (by decide +kernel)
theorem kw535 : (.instanceMethod ⟨"ModelMerge$Conflicts", "choose", "(II)V"⟩ : Cond) ∈ kw_all := kw_t 535 (by decide +kernel) (by decide +kernel)
theorem kw536 : (.selects "ModelMerge$Conflicts" ⟨"ModelMerge$Conflicts", "choose", "(II)V"⟩ ⟨"ModelMerge$Conflicts", "choose", "(II)V"⟩ : Cond) ∈ kw_all := kw_t 536 (by decide +kernel) (by decide +kernel)
theorem kw538 : (.methodLink "ModelMerge" 165 ⟨"ModelMerge$Conflicts", "countUnsettled", "()I"⟩ : Cond) ∈ kw_all := kw_t 538 (by decide +kernel) (by decide +kernel)
theorem kw539 : (.instanceMethod ⟨"ModelMerge$Conflicts", "countUnsettled", "()I"⟩ : Cond) ∈ kw_all := kw_t 539 (by decide +kernel) (by decide +kernel)
theorem kw540 : (.selects "ModelMerge$Conflicts" ⟨"ModelMerge$Conflicts", "countUnsettled", "()I"⟩ ⟨"ModelMerge$Conflicts", "countUnsettled", "()I"⟩ : Cond) ∈ kw_all := kw_t 540 (by decide +kernel) (by decide +kernel)
theorem kw542 : (.methodLink "ModelMerge$Conflicts" 29 ⟨"ModelMerge$Conflicts", "sideOf", "(I)I"⟩ : Cond) ∈ kw_all := kw_t 542 (by decide +kernel) (by decide +kernel)
theorem kw543 : (.methodLink "ModelMergeLaw" 130 ⟨"ModelMergeLaw", "giveUp", "(LModelMerge;[J)I"⟩ : Cond) ∈ kw_all := kw_t 543 (by decide +kernel) (by decide +kernel)
theorem kw544 : (.static ⟨"ModelMergeLaw", "giveUp", "(LModelMerge;[J)I"⟩ : Cond) ∈ kw_all := kw_t 544 (by decide +kernel) (by decide +kernel)
theorem kw546 : (.methodLink "ModelMergeLaw" 50 ⟨"ModelMerge", "giveUp", "()I"⟩ : Cond) ∈ kw_all := kw_t 546 (by decide +kernel) (by decide +kernel)
theorem kw547 : (.instanceMethod ⟨"ModelMerge", "giveUp", "()I"⟩ : Cond) ∈ kw_all := kw_t 547 (by decide +kernel) (by decide +kernel)
theorem kw548 : (.selects "ModelMerge" ⟨"ModelMerge", "giveUp", "()I"⟩ ⟨"ModelMerge", "giveUp", "()I"⟩ : Cond) ∈ kw_all := kw_t 548 (by decide +kernel) (by decide +kernel)
theorem kw550 : (.methodLink "ModelMergeLaw" 134 ⟨"ModelMergeLaw", "here", "(LModelMerge;II[J)I"⟩ : Cond) ∈ kw_all := kw_t 550 (by decide +kernel) (by decide +kernel)
theorem kw551 : (.static ⟨"ModelMergeLaw", "here", "(LModelMerge;II[J)I"⟩ : Cond) ∈ kw_all := kw_t 551 (by decide +kernel) (by decide +kernel)
theorem kw553 : (.methodLink "ModelMergeLaw" 54 ⟨"ModelMerge", "here", "(II)I"⟩ : Cond) ∈ kw_all := kw_t 553 (by decide +kernel) (by decide +kernel)
theorem kw554 : (.instanceMethod ⟨"ModelMerge", "here", "(II)I"⟩ : Cond) ∈ kw_all := kw_t 554 (by decide +kernel) (by decide +kernel)
theorem kw555 : (.selects "ModelMerge" ⟨"ModelMerge", "here", "(II)I"⟩ ⟨"ModelMerge", "here", "(II)I"⟩ : Cond) ∈ kw_all := kw_t 555 (by decide +kernel) (by decide +kernel)
theorem kw557 : (.methodLink "ModelMergeLaw" 137 ⟨"ModelMergeLaw", "now", "(LModelMerge;III[J)I"⟩ : Cond) ∈ kw_all := kw_t 557 (by decide +kernel) (by decide +kernel)
theorem kw558 : (.static ⟨"ModelMergeLaw", "now", "(LModelMerge;III[J)I"⟩ : Cond) ∈ kw_all := kw_t 558 (by decide +kernel) (by decide +kernel)
theorem kw560 : (.methodLink "ModelMergeLaw" 57 ⟨"ModelMerge", "now", "(III)I"⟩ : Cond) ∈ kw_all := kw_t 560 (by decide +kernel) (by decide +kernel)
theorem kw561 : (.instanceMethod ⟨"ModelMerge", "now", "(III)I"⟩ : Cond) ∈ kw_all := kw_t 561 (by decide +kernel) (by decide +kernel)
theorem kw562 : (.selects "ModelMerge" ⟨"ModelMerge", "now", "(III)I"⟩ ⟨"ModelMerge", "now", "(III)I"⟩ : Cond) ∈ kw_all := kw_t 562 (by decide +kernel) (by decide +kernel)
theorem kw564 : (.methodLink "ModelMerge" 173 ⟨"ModelMerge", "checkField", "(LModelMerge$State;II)V"⟩ : Cond) ∈ kw_all := kw_t 564 (by decide +kernel) (by decide +kernel)
theorem kw566 : (.instanceMethod ⟨"ModelMerge", "checkField", "(LModelMerge$State;II)V"⟩ : Cond) ∈ kw_all := kw_t 566 (by decide +kernel) (by decide +kernel)
theorem kw569 : (.methodLink "ModelMergeLaw" 140 ⟨"ModelMergeLaw", "there", "(LModelMerge;III[J)I"⟩ : Cond) ∈ kw_all := kw_t 569 (by decide +kernel) (by decide +kernel)
theorem kw570 : (.static ⟨"ModelMergeLaw", "there", "(LModelMerge;III[J)I"⟩ : Cond) ∈ kw_all := kw_t 570 (by decide +kernel) (by decide +kernel)
theorem kw572 : (.methodLink "ModelMergeLaw" 60 ⟨"ModelMerge", "there", "(III)I"⟩ : Cond) ∈ kw_all := kw_t 572 (by decide +kernel) (by decide +kernel)
theorem kw573 : (.instanceMethod ⟨"ModelMerge", "there", "(III)I"⟩ : Cond) ∈ kw_all := kw_t 573 (by decide +kernel) (by decide +kernel)
theorem kw574 : (.selects "ModelMerge" ⟨"ModelMerge", "there", "(III)I"⟩ ⟨"ModelMerge", "there", "(III)I"⟩ : Cond) ∈ kw_all := kw_t 574 (by decide +kernel) (by decide +kernel)
theorem kw576 : (.methodLink "ModelMerge" 177 ⟨"ModelMerge", "kindOf", "(I)I"⟩ : Cond) ∈ kw_all := kw_t 576 (by decide +kernel) (by decide +kernel)
theorem kw578 : (.instanceMethod ⟨"ModelMerge", "kindOf", "(I)I"⟩ : Cond) ∈ kw_all := kw_t 578 (by decide +kernel) (by decide +kernel)
theorem kw580 : (.methodLink "ModelMerge" 180 ⟨"ModelMerge$Version", "countNewFields", "(I)I"⟩ : Cond) ∈ kw_all := kw_t 580 (by decide +kernel) (by decide +kernel)
theorem kw581 : (.instanceMethod ⟨"ModelMerge$Version", "countNewFields", "(I)I"⟩ : Cond) ∈ kw_all := kw_t 581 (by decide +kernel) (by decide +kernel)
theorem kw582 : (.selects "ModelMerge$Version" ⟨"ModelMerge$Version", "countNewFields", "(I)I"⟩ ⟨"ModelMerge$Version", "countNewFields", "(I)I"⟩ : Cond) ∈ kw_all := kw_t 582 (by decide +kernel) (by decide +kernel)
theorem kw585 : (.methodLink "ModelMergeLaw" 143 ⟨"ModelMergeLaw", "at", "(LModelMerge;III[J)I"⟩ : Cond) ∈ kw_all := kw_t 585 (by decide +kernel) (by decide +kernel)
theorem kw586 : (.static ⟨"ModelMergeLaw", "at", "(LModelMerge;III[J)I"⟩ : Cond) ∈ kw_all := kw_t 586 (by decide +kernel) (by decide +kernel)
theorem kw588 : (.methodLink "ModelMergeLaw" 63 ⟨"ModelMerge", "at", "(III)I"⟩ : Cond) ∈ kw_all := kw_t 588 (by decide +kernel) (by decide +kernel)
theorem kw589 : (.instanceMethod ⟨"ModelMerge", "at", "(III)I"⟩ : Cond) ∈ kw_all := kw_t 589 (by decide +kernel) (by decide +kernel)
theorem kw590 : (.selects "ModelMerge" ⟨"ModelMerge", "at", "(III)I"⟩ ⟨"ModelMerge", "at", "(III)I"⟩ : Cond) ∈ kw_all := kw_t 590 (by decide +kernel) (by decide +kernel)
theorem kw592 : (.methodLink "ModelMergeLaw" 146 ⟨"ModelMergeLaw", "since", "(LModelMerge;III[J)I"⟩ : Cond) ∈ kw_all := kw_t 592 (by decide +kernel) (by decide +kernel)
theorem kw593 : (.static ⟨"ModelMergeLaw", "since", "(LModelMerge;III[J)I"⟩ : Cond) ∈ kw_all := kw_t 593 (by decide +kernel) (by decide +kernel)
theorem kw595 : (.methodLink "ModelMergeLaw" 66 ⟨"ModelMerge", "since", "(III)I"⟩ : Cond) ∈ kw_all := kw_t 595 (by decide +kernel) (by decide +kernel)
theorem kw596 : (.instanceMethod ⟨"ModelMerge", "since", "(III)I"⟩ : Cond) ∈ kw_all := kw_t 596 (by decide +kernel) (by decide +kernel)
theorem kw597 : (.selects "ModelMerge" ⟨"ModelMerge", "since", "(III)I"⟩ ⟨"ModelMerge", "since", "(III)I"⟩ : Cond) ∈ kw_all := kw_t 597 (by decide +kernel) (by decide +kernel)
theorem kw599 : (.methodLink "ModelMerge" 188 ⟨"ModelMerge$Version", "origin", "(II)I"⟩ : Cond) ∈ kw_all := kw_t 599 (by decide +kernel) (by decide +kernel)
theorem kw600 : (.methodLink "ModelMergeLaw" 149 ⟨"ModelMergeLaw", "told", "(LModelMerge;II[J)I"⟩ : Cond) ∈ kw_all := kw_t 600 (by decide +kernel) (by decide +kernel)
theorem kw601 : (.static ⟨"ModelMergeLaw", "told", "(LModelMerge;II[J)I"⟩ : Cond) ∈ kw_all := kw_t 601 (by decide +kernel) (by decide +kernel)
theorem kw603 : (.methodLink "ModelMergeLaw" 69 ⟨"ModelMerge", "told", "(II)I"⟩ : Cond) ∈ kw_all := kw_t 603 (by decide +kernel) (by decide +kernel)
theorem kw604 : (.instanceMethod ⟨"ModelMerge", "told", "(II)I"⟩ : Cond) ∈ kw_all := kw_t 604 (by decide +kernel) (by decide +kernel)
theorem kw605 : (.selects "ModelMerge" ⟨"ModelMerge", "told", "(II)I"⟩ ⟨"ModelMerge", "told", "(II)I"⟩ : Cond) ∈ kw_all := kw_t 605 (by decide +kernel) (by decide +kernel)
theorem kw608 : (.methodLink "ModelMergeLaw" 152 ⟨"ModelMergeLaw", "author", "(LModelMerge;I[J)I"⟩ : Cond) ∈ kw_all := kw_t 608 (by decide +kernel) (by decide +kernel)
theorem kw609 : (.static ⟨"ModelMergeLaw", "author", "(LModelMerge;I[J)I"⟩ : Cond) ∈ kw_all := kw_t 609 (by decide +kernel) (by decide +kernel)
theorem kw611 : (.methodLink "ModelMergeLaw" 72 ⟨"ModelMerge", "author", "(I)I"⟩ : Cond) ∈ kw_all := kw_t 611 (by decide +kernel) (by decide +kernel)
theorem kw612 : (.instanceMethod ⟨"ModelMerge", "author", "(I)I"⟩ : Cond) ∈ kw_all := kw_t 612 (by decide +kernel) (by decide +kernel)
theorem kw613 : (.selects "ModelMerge" ⟨"ModelMerge", "author", "(I)I"⟩ ⟨"ModelMerge", "author", "(I)I"⟩ : Cond) ∈ kw_all := kw_t 613 (by decide +kernel) (by decide +kernel)
theorem kw616 : (.methodLink "ModelMergeLaw" 155 ⟨"ModelMergeLaw", "count", "(LModelMerge;I[J)I"⟩ : Cond) ∈ kw_all := kw_t 616 (by decide +kernel) (by decide +kernel)
theorem kw617 : (.static ⟨"ModelMergeLaw", "count", "(LModelMerge;I[J)I"⟩ : Cond) ∈ kw_all := kw_t 617 (by decide +kernel) (by decide +kernel)
theorem kw619 : (.methodLink "ModelMergeLaw" 75 ⟨"ModelMerge", "count", "(I)I"⟩ : Cond) ∈ kw_all := kw_t 619 (by decide +kernel) (by decide +kernel)
theorem kw620 : (.instanceMethod ⟨"ModelMerge", "count", "(I)I"⟩ : Cond) ∈ kw_all := kw_t 620 (by decide +kernel) (by decide +kernel)
theorem kw621 : (.selects "ModelMerge" ⟨"ModelMerge", "count", "(I)I"⟩ ⟨"ModelMerge", "count", "(I)I"⟩ : Cond) ∈ kw_all := kw_t 621 (by decide +kernel) (by decide +kernel)
theorem kw624 : (.methodLink "ModelMergeLaw" 158 ⟨"ModelMergeLaw", "differs", "(LModelMerge;III[J)I"⟩ : Cond) ∈ kw_all := kw_t 624 (by decide +kernel) (by decide +kernel)
theorem kw625 : (.static ⟨"ModelMergeLaw", "differs", "(LModelMerge;III[J)I"⟩ : Cond) ∈ kw_all := kw_t 625 (by decide +kernel) (by decide +kernel)
theorem kw627 : (.methodLink "ModelMergeLaw" 78 ⟨"ModelMerge", "differs", "(III)I"⟩ : Cond) ∈ kw_all := kw_t 627 (by decide +kernel) (by decide +kernel)
theorem kw628 : (.instanceMethod ⟨"ModelMerge", "differs", "(III)I"⟩ : Cond) ∈ kw_all := kw_t 628 (by decide +kernel) (by decide +kernel)
theorem kw629 : (.selects "ModelMerge" ⟨"ModelMerge", "differs", "(III)I"⟩ ⟨"ModelMerge", "differs", "(III)I"⟩ : Cond) ∈ kw_all := kw_t 629 (by decide +kernel) (by decide +kernel)
theorem kw631 : (.methodLink "ModelMerge" 223 ⟨"ModelMerge", "isDifference", "(LModelMerge$State;LModelMerge$State;II)Z"⟩ : Cond) ∈ kw_all := kw_t 631 (by decide +kernel) (by decide +kernel)
theorem kw632 : (.static ⟨"ModelMerge", "isDifference", "(LModelMerge$State;LModelMerge$State;II)Z"⟩ : Cond) ∈ kw_all := kw_t 632 (by decide +kernel) (by decide +kernel)
theorem kw634 : (.methodLink "ModelMergeLaw" 161 ⟨"ModelMergeLaw", "broken", "(LModelMerge;II[J)I"⟩ : Cond) ∈ kw_all := kw_t 634 (by decide +kernel) (by decide +kernel)
theorem kw635 : (.static ⟨"ModelMergeLaw", "broken", "(LModelMerge;II[J)I"⟩ : Cond) ∈ kw_all := kw_t 635 (by decide +kernel) (by decide +kernel)
theorem kw637 : (.methodLink "ModelMergeLaw" 81 ⟨"ModelMerge", "broken", "(II)I"⟩ : Cond) ∈ kw_all := kw_t 637 (by decide +kernel) (by decide +kernel)
theorem kw638 : (.instanceMethod ⟨"ModelMerge", "broken", "(II)I"⟩ : Cond) ∈ kw_all := kw_t 638 (by decide +kernel) (by decide +kernel)
theorem kw639 : (.selects "ModelMerge" ⟨"ModelMerge", "broken", "(II)I"⟩ ⟨"ModelMerge", "broken", "(II)I"⟩ : Cond) ∈ kw_all := kw_t 639 (by decide +kernel) (by decide +kernel)
theorem kw641 : (.methodLink "ModelMerge" 227 ⟨"ModelMerge", "isBroken", "(LModelMerge$Rule;LModelMerge$State;I)Z"⟩ : Cond) ∈ kw_all := kw_t 641 (by decide +kernel) (by decide +kernel)
theorem kw643 : (.instanceMethod ⟨"ModelMerge", "isBroken", "(LModelMerge$Rule;LModelMerge$State;I)Z"⟩ : Cond) ∈ kw_all := kw_t 643 (by decide +kernel) (by decide +kernel)
theorem kw645 : (.classLink "ModelMergeLaw" 85 "ModelMergeModel" : Cond) ∈ kw_all := kw_t 645 (by decide +kernel) (by decide +kernel)
theorem kw646 : (.instantiable "ModelMergeModel" 31 : Cond) ∈ kw_all := kw_t 646 (by decide +kernel) (by decide +kernel)
theorem kw647 : (.methodLink "ModelMergeLaw" 87 ⟨"ModelMergeModel", "<init>", "()V"⟩ : Cond) ∈ kw_all := kw_t 647 (by decide +kernel) (by decide +kernel)
theorem kw648 : (.instanceMethod ⟨"ModelMergeModel", "<init>", "()V"⟩ : Cond) ∈ kw_all := kw_t 648 (by decide +kernel) (by decide +kernel)
theorem kw650 : (.methodLink "ModelMergeModel" 1 ⟨"java/lang/Object", "<init>", "()V"⟩ : Cond) ∈ kw_all := kw_t 650 (by decide +kernel) (by decide +kernel)
theorem kw651 : (.fieldLink "ModelMergeModel" 90 "ModelMergeModel" "code" "I" : Cond) ∈ kw_all := kw_t 651 (by decide +kernel) (by decide +kernel)
theorem kw652 : (.fieldLink "ModelMergeModel" 116 "ModelMergeModel" "things" "I" : Cond) ∈ kw_all := kw_t 652 (by decide +kernel) (by decide +kernel)
theorem kw653 : (.fieldLink "ModelMergeModel" 7 "ModelMergeModel" "kind" "[I" : Cond) ∈ kw_all := kw_t 653 (by decide +kernel) (by decide +kernel)
theorem kw654 : (.fieldLink "ModelMergeModel" 13 "ModelMergeModel" "lock" "[I" : Cond) ∈ kw_all := kw_t 654 (by decide +kernel) (by decide +kernel)
theorem kw655 : (.fieldLink "ModelMergeModel" 16 "ModelMergeModel" "versions" "I" : Cond) ∈ kw_all := kw_t 655 (by decide +kernel) (by decide +kernel)
theorem kw656 : (.fieldLink "ModelMergeModel" 20 "ModelMergeModel" "there" "[Z" : Cond) ∈ kw_all := kw_t 656 (by decide +kernel) (by decide +kernel)
theorem kw657 : (.fieldLink "ModelMergeModel" 24 "ModelMergeModel" "field" "[I" : Cond) ∈ kw_all := kw_t 657 (by decide +kernel) (by decide +kernel)
theorem kw658 : (.fieldLink "ModelMergeModel" 27 "ModelMergeModel" "since" "[I" : Cond) ∈ kw_all := kw_t 658 (by decide +kernel) (by decide +kernel)
theorem kw659 : (.fieldLink "ModelMergeModel" 30 "ModelMergeModel" "author" "[I" : Cond) ∈ kw_all := kw_t 659 (by decide +kernel) (by decide +kernel)
theorem kw660 : (.fieldLink "ModelMergeModel" 105 "ModelMergeModel" "sessions" "I" : Cond) ∈ kw_all := kw_t 660 (by decide +kernel) (by decide +kernel)
theorem kw661 : (.fieldLink "ModelMergeModel" 33 "ModelMergeModel" "person" "[I" : Cond) ∈ kw_all := kw_t 661 (by decide +kernel) (by decide +kernel)
theorem kw662 : (.fieldLink "ModelMergeModel" 36 "ModelMergeModel" "base" "[I" : Cond) ∈ kw_all := kw_t 662 (by decide +kernel) (by decide +kernel)
theorem kw663 : (.fieldLink "ModelMergeModel" 39 "ModelMergeModel" "stands" "[I" : Cond) ∈ kw_all := kw_t 663 (by decide +kernel) (by decide +kernel)
theorem kw664 : (.fieldLink "ModelMergeModel" 42 "ModelMergeModel" "moments" "[I" : Cond) ∈ kw_all := kw_t 664 (by decide +kernel) (by decide +kernel)
theorem kw665 : (.fieldLink "ModelMergeModel" 45 "ModelMergeModel" "life" "[I" : Cond) ∈ kw_all := kw_t 665 (by decide +kernel) (by decide +kernel)
theorem kw666 : (.fieldLink "ModelMergeModel" 48 "ModelMergeModel" "made" "[I" : Cond) ∈ kw_all := kw_t 666 (by decide +kernel) (by decide +kernel)
theorem kw667 : (.fieldLink "ModelMergeModel" 51 "ModelMergeModel" "before" "[I" : Cond) ∈ kw_all := kw_t 667 (by decide +kernel) (by decide +kernel)
theorem kw668 : (.fieldLink "ModelMergeModel" 54 "ModelMergeModel" "latest" "[I" : Cond) ∈ kw_all := kw_t 668 (by decide +kernel) (by decide +kernel)
theorem kw669 : (.fieldLink "ModelMergeModel" 57 "ModelMergeModel" "how" "[I" : Cond) ∈ kw_all := kw_t 669 (by decide +kernel) (by decide +kernel)
theorem kw670 : (.fieldLink "ModelMergeModel" 60 "ModelMergeModel" "thing" "[I" : Cond) ∈ kw_all := kw_t 670 (by decide +kernel) (by decide +kernel)
theorem kw671 : (.fieldLink "ModelMergeModel" 63 "ModelMergeModel" "which" "[I" : Cond) ∈ kw_all := kw_t 671 (by decide +kernel) (by decide +kernel)
theorem kw672 : (.fieldLink "ModelMergeModel" 66 "ModelMergeModel" "value" "[I" : Cond) ∈ kw_all := kw_t 672 (by decide +kernel) (by decide +kernel)
theorem kw673 : (.fieldLink "ModelMergeModel" 130 "ModelMergeModel" "rules" "I" : Cond) ∈ kw_all := kw_t 673 (by decide +kernel) (by decide +kernel)
theorem kw674 : (.fieldLink "ModelMergeModel" 69 "ModelMergeModel" "ruleKind" "[I" : Cond) ∈ kw_all := kw_t 674 (by decide +kernel) (by decide +kernel)
theorem kw675 : (.fieldLink "ModelMergeModel" 72 "ModelMergeModel" "ruleField" "[I" : Cond) ∈ kw_all := kw_t 675 (by decide +kernel) (by decide +kernel)
theorem kw676 : (.fieldLink "ModelMergeModel" 75 "ModelMergeModel" "ruleOther" "[I" : Cond) ∈ kw_all := kw_t 676 (by decide +kernel) (by decide +kernel)
theorem kw677 : (.fieldLink "ModelMergeModel" 78 "ModelMergeModel" "pending" "I" : Cond) ∈ kw_all := kw_t 677 (by decide +kernel) (by decide +kernel)
theorem kw678 : (.fieldLink "ModelMergeModel" 141 "ModelMergeModel" "conflicts" "I" : Cond) ∈ kw_all := kw_t 678 (by decide +kernel) (by decide +kernel)
theorem kw679 : (.fieldLink "ModelMergeModel" 81 "ModelMergeModel" "conflictThing" "[I" : Cond) ∈ kw_all := kw_t 679 (by decide +kernel) (by decide +kernel)
theorem kw680 : (.fieldLink "ModelMergeModel" 84 "ModelMergeModel" "conflictField" "[I" : Cond) ∈ kw_all := kw_t 680 (by decide +kernel) (by decide +kernel)
theorem kw681 : (.fieldLink "ModelMergeModel" 87 "ModelMergeModel" "side" "[I" : Cond) ∈ kw_all := kw_t 681 (by decide +kernel) (by decide +kernel)
theorem kw745 : (.arrayClass .boolean : Cond) ∈ kw_all := kw_t 745 (by decide +kernel) (by decide +kernel)
theorem kw746 : (.methodLink "ModelMergeLaw" 94 ⟨"ModelMergeModel", "thrown", "()I"⟩ : Cond) ∈ kw_all := kw_t 746 (by decide +kernel) (by decide +kernel)
theorem kw747 : (.instanceMethod ⟨"ModelMergeModel", "thrown", "()I"⟩ : Cond) ∈ kw_all := kw_t 747 (by decide +kernel) (by decide +kernel)
theorem kw748 : (.selects "ModelMergeModel" ⟨"ModelMergeModel", "thrown", "()I"⟩ ⟨"ModelMergeModel", "thrown", "()I"⟩ : Cond) ∈ kw_all := kw_t 748 (by decide +kernel) (by decide +kernel)
theorem kw750 : (.methodLink "ModelMergeLaw" 93 ⟨"ModelMergeModel", "session", "(II)I"⟩ : Cond) ∈ kw_all := kw_t 750 (by decide +kernel) (by decide +kernel)
theorem kw751 : (.instanceMethod ⟨"ModelMergeModel", "session", "(II)I"⟩ : Cond) ∈ kw_all := kw_t 751 (by decide +kernel) (by decide +kernel)
theorem kw752 : (.selects "ModelMergeModel" ⟨"ModelMergeModel", "session", "(II)I"⟩ ⟨"ModelMergeModel", "session", "(II)I"⟩ : Cond) ∈ kw_all := kw_t 752 (by decide +kernel) (by decide +kernel)
theorem kw754 : (.methodLink "ModelMergeModel" 101 ⟨"ModelMergeModel", "isIn", "(II)Z"⟩ : Cond) ∈ kw_all := kw_t 754 (by decide +kernel) (by decide +kernel)
theorem kw755 : (.static ⟨"ModelMergeModel", "isIn", "(II)Z"⟩ : Cond) ∈ kw_all := kw_t 755 (by decide +kernel) (by decide +kernel)
theorem kw757 : (.methodLink "ModelMergeModel" 108 ⟨"ModelMergeModel", "goes", "(ZZ)Z"⟩ : Cond) ∈ kw_all := kw_t 757 (by decide +kernel) (by decide +kernel)
theorem kw759 : (.instanceMethod ⟨"ModelMergeModel", "goes", "(ZZ)Z"⟩ : Cond) ∈ kw_all := kw_t 759 (by decide +kernel) (by decide +kernel)
theorem kw761 : (.methodLink "ModelMergeLaw" 99 ⟨"ModelMergeModel", "make", "(II)I"⟩ : Cond) ∈ kw_all := kw_t 761 (by decide +kernel) (by decide +kernel)
theorem kw762 : (.instanceMethod ⟨"ModelMergeModel", "make", "(II)I"⟩ : Cond) ∈ kw_all := kw_t 762 (by decide +kernel) (by decide +kernel)
theorem kw763 : (.selects "ModelMergeModel" ⟨"ModelMergeModel", "make", "(II)I"⟩ ⟨"ModelMergeModel", "make", "(II)I"⟩ : Cond) ∈ kw_all := kw_t 763 (by decide +kernel) (by decide +kernel)
theorem kw765 : (.methodLink "ModelMergeModel" 112 ⟨"ModelMergeModel", "isOpen", "(I)Z"⟩ : Cond) ∈ kw_all := kw_t 765 (by decide +kernel) (by decide +kernel)
theorem kw767 : (.instanceMethod ⟨"ModelMergeModel", "isOpen", "(I)Z"⟩ : Cond) ∈ kw_all := kw_t 767 (by decide +kernel) (by decide +kernel)
theorem kw769 : (.methodLink "ModelMergeModel" 119 ⟨"ModelMergeModel", "change", "(IIIII)I"⟩ : Cond) ∈ kw_all := kw_t 769 (by decide +kernel) (by decide +kernel)
theorem kw771 : (.instanceMethod ⟨"ModelMergeModel", "change", "(IIIII)I"⟩ : Cond) ∈ kw_all := kw_t 771 (by decide +kernel) (by decide +kernel)
theorem kw773 : (.methodLink "ModelMergeLaw" 103 ⟨"ModelMergeModel", "set", "(IIII)I"⟩ : Cond) ∈ kw_all := kw_t 773 (by decide +kernel) (by decide +kernel)
theorem kw774 : (.instanceMethod ⟨"ModelMergeModel", "set", "(IIII)I"⟩ : Cond) ∈ kw_all := kw_t 774 (by decide +kernel) (by decide +kernel)
theorem kw775 : (.selects "ModelMergeModel" ⟨"ModelMergeModel", "set", "(IIII)I"⟩ ⟨"ModelMergeModel", "set", "(IIII)I"⟩ : Cond) ∈ kw_all := kw_t 775 (by decide +kernel) (by decide +kernel)
theorem kw777 : (.methodLink "ModelMergeModel" 126 ⟨"ModelMergeModel", "barred", "(II)I"⟩ : Cond) ∈ kw_all := kw_t 777 (by decide +kernel) (by decide +kernel)
theorem kw779 : (.instanceMethod ⟨"ModelMergeModel", "barred", "(II)I"⟩ : Cond) ∈ kw_all := kw_t 779 (by decide +kernel) (by decide +kernel)
theorem kw781 : (.methodLink "ModelMergeModel" 123 ⟨"ModelMergeModel", "isHere", "(II)Z"⟩ : Cond) ∈ kw_all := kw_t 781 (by decide +kernel) (by decide +kernel)
theorem kw783 : (.instanceMethod ⟨"ModelMergeModel", "isHere", "(II)Z"⟩ : Cond) ∈ kw_all := kw_t 783 (by decide +kernel) (by decide +kernel)
theorem kw785 : (.methodLink "ModelMergeModel" 93 ⟨"ModelMergeModel", "isAt", "(III)Z"⟩ : Cond) ∈ kw_all := kw_t 785 (by decide +kernel) (by decide +kernel)
theorem kw787 : (.instanceMethod ⟨"ModelMergeModel", "isAt", "(III)Z"⟩ : Cond) ∈ kw_all := kw_t 787 (by decide +kernel) (by decide +kernel)
theorem kw789 : (.methodLink "ModelMergeLaw" 106 ⟨"ModelMergeModel", "drop", "(II)I"⟩ : Cond) ∈ kw_all := kw_t 789 (by decide +kernel) (by decide +kernel)
theorem kw790 : (.instanceMethod ⟨"ModelMergeModel", "drop", "(II)I"⟩ : Cond) ∈ kw_all := kw_t 790 (by decide +kernel) (by decide +kernel)
theorem kw791 : (.selects "ModelMergeModel" ⟨"ModelMergeModel", "drop", "(II)I"⟩ ⟨"ModelMergeModel", "drop", "(II)I"⟩ : Cond) ∈ kw_all := kw_t 791 (by decide +kernel) (by decide +kernel)
theorem kw793 : (.methodLink "ModelMergeLaw" 110 ⟨"ModelMergeModel", "undo", "(I)I"⟩ : Cond) ∈ kw_all := kw_t 793 (by decide +kernel) (by decide +kernel)
theorem kw794 : (.instanceMethod ⟨"ModelMergeModel", "undo", "(I)I"⟩ : Cond) ∈ kw_all := kw_t 794 (by decide +kernel) (by decide +kernel)
theorem kw795 : (.selects "ModelMergeModel" ⟨"ModelMergeModel", "undo", "(I)I"⟩ ⟨"ModelMergeModel", "undo", "(I)I"⟩ : Cond) ∈ kw_all := kw_t 795 (by decide +kernel) (by decide +kernel)
theorem kw797 : (.methodLink "ModelMergeLaw" 113 ⟨"ModelMergeModel", "redo", "(I)I"⟩ : Cond) ∈ kw_all := kw_t 797 (by decide +kernel) (by decide +kernel)
theorem kw798 : (.instanceMethod ⟨"ModelMergeModel", "redo", "(I)I"⟩ : Cond) ∈ kw_all := kw_t 798 (by decide +kernel) (by decide +kernel)
theorem kw799 : (.selects "ModelMergeModel" ⟨"ModelMergeModel", "redo", "(I)I"⟩ ⟨"ModelMergeModel", "redo", "(I)I"⟩ : Cond) ∈ kw_all := kw_t 799 (by decide +kernel) (by decide +kernel)
theorem kw801 : (.methodLink "ModelMergeLaw" 116 ⟨"ModelMergeModel", "lock", "(II)I"⟩ : Cond) ∈ kw_all := kw_t 801 (by decide +kernel) (by decide +kernel)
theorem kw802 : (.instanceMethod ⟨"ModelMergeModel", "lock", "(II)I"⟩ : Cond) ∈ kw_all := kw_t 802 (by decide +kernel) (by decide +kernel)
theorem kw803 : (.selects "ModelMergeModel" ⟨"ModelMergeModel", "lock", "(II)I"⟩ ⟨"ModelMergeModel", "lock", "(II)I"⟩ : Cond) ∈ kw_all := kw_t 803 (by decide +kernel) (by decide +kernel)
theorem kw805 : (.methodLink "ModelMergeLaw" 120 ⟨"ModelMergeModel", "rule", "(III)I"⟩ : Cond) ∈ kw_all := kw_t 805 (by decide +kernel) (by decide +kernel)
theorem kw806 : (.instanceMethod ⟨"ModelMergeModel", "rule", "(III)I"⟩ : Cond) ∈ kw_all := kw_t 806 (by decide +kernel) (by decide +kernel)
theorem kw807 : (.selects "ModelMergeModel" ⟨"ModelMergeModel", "rule", "(III)I"⟩ ⟨"ModelMergeModel", "rule", "(III)I"⟩ : Cond) ∈ kw_all := kw_t 807 (by decide +kernel) (by decide +kernel)
theorem kw809 : (.methodLink "ModelMergeLaw" 123 ⟨"ModelMergeModel", "join", "(I)I"⟩ : Cond) ∈ kw_all := kw_t 809 (by decide +kernel) (by decide +kernel)
theorem kw810 : (.instanceMethod ⟨"ModelMergeModel", "join", "(I)I"⟩ : Cond) ∈ kw_all := kw_t 810 (by decide +kernel) (by decide +kernel)
theorem kw811 : (.selects "ModelMergeModel" ⟨"ModelMergeModel", "join", "(I)I"⟩ ⟨"ModelMergeModel", "join", "(I)I"⟩ : Cond) ∈ kw_all := kw_t 811 (by decide +kernel) (by decide +kernel)
theorem kw813 : (.methodLink "ModelMergeModel" 155 ⟨"ModelMergeModel", "find", "(II)V"⟩ : Cond) ∈ kw_all := kw_t 813 (by decide +kernel) (by decide +kernel)
theorem kw815 : (.instanceMethod ⟨"ModelMergeModel", "find", "(II)V"⟩ : Cond) ∈ kw_all := kw_t 815 (by decide +kernel) (by decide +kernel)
theorem kw817 : (.methodLink "ModelMergeModel" 133 ⟨"ModelMergeModel", "mine", "(I)I"⟩ : Cond) ∈ kw_all := kw_t 817 (by decide +kernel) (by decide +kernel)
theorem kw819 : (.instanceMethod ⟨"ModelMergeModel", "mine", "(I)I"⟩ : Cond) ∈ kw_all := kw_t 819 (by decide +kernel) (by decide +kernel)
theorem kw821 : (.methodLink "ModelMergeModel" 137 ⟨"ModelMergeModel", "here", "(III)I"⟩ : Cond) ∈ kw_all := kw_t 821 (by decide +kernel) (by decide +kernel)
theorem kw823 : (.instanceMethod ⟨"ModelMergeModel", "here", "(III)I"⟩ : Cond) ∈ kw_all := kw_t 823 (by decide +kernel) (by decide +kernel)
theorem kw825 : (.methodLink "ModelMergeModel" 97 ⟨"ModelMergeModel", "valueAt", "(IIII)I"⟩ : Cond) ∈ kw_all := kw_t 825 (by decide +kernel) (by decide +kernel)
theorem kw827 : (.instanceMethod ⟨"ModelMergeModel", "valueAt", "(IIII)I"⟩ : Cond) ∈ kw_all := kw_t 827 (by decide +kernel) (by decide +kernel)
theorem kw829 : (.methodLink "ModelMergeModel" 158 ⟨"ModelMergeModel", "finish", "(I)V"⟩ : Cond) ∈ kw_all := kw_t 829 (by decide +kernel) (by decide +kernel)
theorem kw831 : (.instanceMethod ⟨"ModelMergeModel", "finish", "(I)V"⟩ : Cond) ∈ kw_all := kw_t 831 (by decide +kernel) (by decide +kernel)
theorem kw833 : (.methodLink "ModelMergeModel" 151 ⟨"ModelMergeModel", "merge", "(II)V"⟩ : Cond) ∈ kw_all := kw_t 833 (by decide +kernel) (by decide +kernel)
theorem kw835 : (.instanceMethod ⟨"ModelMergeModel", "merge", "(II)V"⟩ : Cond) ∈ kw_all := kw_t 835 (by decide +kernel) (by decide +kernel)
theorem kw837 : (.methodLink "ModelMergeModel" 144 ⟨"ModelMergeModel", "sideOf", "(II)I"⟩ : Cond) ∈ kw_all := kw_t 837 (by decide +kernel) (by decide +kernel)
theorem kw839 : (.instanceMethod ⟨"ModelMergeModel", "sideOf", "(II)I"⟩ : Cond) ∈ kw_all := kw_t 839 (by decide +kernel) (by decide +kernel)
theorem kw841 : (.methodLink "ModelMergeModel" 147 ⟨"ModelMergeModel", "take", "(IIZ)V"⟩ : Cond) ∈ kw_all := kw_t 841 (by decide +kernel) (by decide +kernel)
theorem kw843 : (.instanceMethod ⟨"ModelMergeModel", "take", "(IIZ)V"⟩ : Cond) ∈ kw_all := kw_t 843 (by decide +kernel) (by decide +kernel)
theorem kw845 : (.methodLink "ModelMergeLaw" 126 ⟨"ModelMergeModel", "conflict", "(II)I"⟩ : Cond) ∈ kw_all := kw_t 845 (by decide +kernel) (by decide +kernel)
theorem kw846 : (.instanceMethod ⟨"ModelMergeModel", "conflict", "(II)I"⟩ : Cond) ∈ kw_all := kw_t 846 (by decide +kernel) (by decide +kernel)
theorem kw847 : (.selects "ModelMergeModel" ⟨"ModelMergeModel", "conflict", "(II)I"⟩ ⟨"ModelMergeModel", "conflict", "(II)I"⟩ : Cond) ∈ kw_all := kw_t 847 (by decide +kernel) (by decide +kernel)
theorem kw849 : (.methodLink "ModelMergeLaw" 129 ⟨"ModelMergeModel", "settle", "(II)I"⟩ : Cond) ∈ kw_all := kw_t 849 (by decide +kernel) (by decide +kernel)
theorem kw850 : (.instanceMethod ⟨"ModelMergeModel", "settle", "(II)I"⟩ : Cond) ∈ kw_all := kw_t 850 (by decide +kernel) (by decide +kernel)
theorem kw851 : (.selects "ModelMergeModel" ⟨"ModelMergeModel", "settle", "(II)I"⟩ ⟨"ModelMergeModel", "settle", "(II)I"⟩ : Cond) ∈ kw_all := kw_t 851 (by decide +kernel) (by decide +kernel)
theorem kw853 : (.methodLink "ModelMergeLaw" 133 ⟨"ModelMergeModel", "giveUp", "()I"⟩ : Cond) ∈ kw_all := kw_t 853 (by decide +kernel) (by decide +kernel)
theorem kw854 : (.instanceMethod ⟨"ModelMergeModel", "giveUp", "()I"⟩ : Cond) ∈ kw_all := kw_t 854 (by decide +kernel) (by decide +kernel)
theorem kw855 : (.selects "ModelMergeModel" ⟨"ModelMergeModel", "giveUp", "()I"⟩ ⟨"ModelMergeModel", "giveUp", "()I"⟩ : Cond) ∈ kw_all := kw_t 855 (by decide +kernel) (by decide +kernel)
theorem kw857 : (.methodLink "ModelMergeLaw" 136 ⟨"ModelMergeModel", "here", "(II)I"⟩ : Cond) ∈ kw_all := kw_t 857 (by decide +kernel) (by decide +kernel)
theorem kw858 : (.instanceMethod ⟨"ModelMergeModel", "here", "(II)I"⟩ : Cond) ∈ kw_all := kw_t 858 (by decide +kernel) (by decide +kernel)
theorem kw859 : (.selects "ModelMergeModel" ⟨"ModelMergeModel", "here", "(II)I"⟩ ⟨"ModelMergeModel", "here", "(II)I"⟩ : Cond) ∈ kw_all := kw_t 859 (by decide +kernel) (by decide +kernel)
theorem kw861 : (.methodLink "ModelMergeLaw" 139 ⟨"ModelMergeModel", "now", "(III)I"⟩ : Cond) ∈ kw_all := kw_t 861 (by decide +kernel) (by decide +kernel)
theorem kw862 : (.instanceMethod ⟨"ModelMergeModel", "now", "(III)I"⟩ : Cond) ∈ kw_all := kw_t 862 (by decide +kernel) (by decide +kernel)
theorem kw863 : (.selects "ModelMergeModel" ⟨"ModelMergeModel", "now", "(III)I"⟩ ⟨"ModelMergeModel", "now", "(III)I"⟩ : Cond) ∈ kw_all := kw_t 863 (by decide +kernel) (by decide +kernel)
theorem kw865 : (.methodLink "ModelMergeLaw" 142 ⟨"ModelMergeModel", "there", "(III)I"⟩ : Cond) ∈ kw_all := kw_t 865 (by decide +kernel) (by decide +kernel)
theorem kw866 : (.instanceMethod ⟨"ModelMergeModel", "there", "(III)I"⟩ : Cond) ∈ kw_all := kw_t 866 (by decide +kernel) (by decide +kernel)
theorem kw867 : (.selects "ModelMergeModel" ⟨"ModelMergeModel", "there", "(III)I"⟩ ⟨"ModelMergeModel", "there", "(III)I"⟩ : Cond) ∈ kw_all := kw_t 867 (by decide +kernel) (by decide +kernel)
theorem kw869 : (.methodLink "ModelMergeModel" 162 ⟨"ModelMergeModel", "isThere", "(II)Z"⟩ : Cond) ∈ kw_all := kw_t 869 (by decide +kernel) (by decide +kernel)
theorem kw871 : (.instanceMethod ⟨"ModelMergeModel", "isThere", "(II)Z"⟩ : Cond) ∈ kw_all := kw_t 871 (by decide +kernel) (by decide +kernel)
theorem kw873 : (.methodLink "ModelMergeLaw" 145 ⟨"ModelMergeModel", "at", "(III)I"⟩ : Cond) ∈ kw_all := kw_t 873 (by decide +kernel) (by decide +kernel)
theorem kw874 : (.instanceMethod ⟨"ModelMergeModel", "at", "(III)I"⟩ : Cond) ∈ kw_all := kw_t 874 (by decide +kernel) (by decide +kernel)
theorem kw875 : (.selects "ModelMergeModel" ⟨"ModelMergeModel", "at", "(III)I"⟩ ⟨"ModelMergeModel", "at", "(III)I"⟩ : Cond) ∈ kw_all := kw_t 875 (by decide +kernel) (by decide +kernel)
theorem kw877 : (.methodLink "ModelMergeLaw" 148 ⟨"ModelMergeModel", "since", "(III)I"⟩ : Cond) ∈ kw_all := kw_t 877 (by decide +kernel) (by decide +kernel)
theorem kw878 : (.instanceMethod ⟨"ModelMergeModel", "since", "(III)I"⟩ : Cond) ∈ kw_all := kw_t 878 (by decide +kernel) (by decide +kernel)
theorem kw879 : (.selects "ModelMergeModel" ⟨"ModelMergeModel", "since", "(III)I"⟩ ⟨"ModelMergeModel", "since", "(III)I"⟩ : Cond) ∈ kw_all := kw_t 879 (by decide +kernel) (by decide +kernel)
theorem kw881 : (.methodLink "ModelMergeLaw" 151 ⟨"ModelMergeModel", "told", "(II)I"⟩ : Cond) ∈ kw_all := kw_t 881 (by decide +kernel) (by decide +kernel)
theorem kw882 : (.instanceMethod ⟨"ModelMergeModel", "told", "(II)I"⟩ : Cond) ∈ kw_all := kw_t 882 (by decide +kernel) (by decide +kernel)
theorem kw883 : (.selects "ModelMergeModel" ⟨"ModelMergeModel", "told", "(II)I"⟩ ⟨"ModelMergeModel", "told", "(II)I"⟩ : Cond) ∈ kw_all := kw_t 883 (by decide +kernel) (by decide +kernel)
theorem kw885 : (.methodLink "ModelMergeLaw" 154 ⟨"ModelMergeModel", "author", "(I)I"⟩ : Cond) ∈ kw_all := kw_t 885 (by decide +kernel) (by decide +kernel)
theorem kw886 : (.instanceMethod ⟨"ModelMergeModel", "author", "(I)I"⟩ : Cond) ∈ kw_all := kw_t 886 (by decide +kernel) (by decide +kernel)
theorem kw887 : (.selects "ModelMergeModel" ⟨"ModelMergeModel", "author", "(I)I"⟩ ⟨"ModelMergeModel", "author", "(I)I"⟩ : Cond) ∈ kw_all := kw_t 887 (by decide +kernel) (by decide +kernel)
theorem kw889 : (.methodLink "ModelMergeLaw" 157 ⟨"ModelMergeModel", "count", "(I)I"⟩ : Cond) ∈ kw_all := kw_t 889 (by decide +kernel) (by decide +kernel)
theorem kw890 : (.instanceMethod ⟨"ModelMergeModel", "count", "(I)I"⟩ : Cond) ∈ kw_all := kw_t 890 (by decide +kernel) (by decide +kernel)
theorem kw891 : (.selects "ModelMergeModel" ⟨"ModelMergeModel", "count", "(I)I"⟩ ⟨"ModelMergeModel", "count", "(I)I"⟩ : Cond) ∈ kw_all := kw_t 891 (by decide +kernel) (by decide +kernel)
theorem kw893 : (.methodLink "ModelMergeLaw" 160 ⟨"ModelMergeModel", "differs", "(III)I"⟩ : Cond) ∈ kw_all := kw_t 893 (by decide +kernel) (by decide +kernel)
theorem kw894 : (.instanceMethod ⟨"ModelMergeModel", "differs", "(III)I"⟩ : Cond) ∈ kw_all := kw_t 894 (by decide +kernel) (by decide +kernel)
theorem kw895 : (.selects "ModelMergeModel" ⟨"ModelMergeModel", "differs", "(III)I"⟩ ⟨"ModelMergeModel", "differs", "(III)I"⟩ : Cond) ∈ kw_all := kw_t 895 (by decide +kernel) (by decide +kernel)
theorem kw897 : (.methodLink "ModelMergeLaw" 163 ⟨"ModelMergeModel", "broken", "(II)I"⟩ : Cond) ∈ kw_all := kw_t 897 (by decide +kernel) (by decide +kernel)
theorem kw898 : (.instanceMethod ⟨"ModelMergeModel", "broken", "(II)I"⟩ : Cond) ∈ kw_all := kw_t 898 (by decide +kernel) (by decide +kernel)
theorem kw899 : (.selects "ModelMergeModel" ⟨"ModelMergeModel", "broken", "(II)I"⟩ ⟨"ModelMergeModel", "broken", "(II)I"⟩ : Cond) ∈ kw_all := kw_t 899 (by decide +kernel) (by decide +kernel)
theorem kw901 : (.arrayClass .long : Cond) ∈ kw_all := kw_t 901 (by decide +kernel) (by decide +kernel)
theorem kwobj : Cond.code Lib.objectInit ⟨#[0xb1]⟩ 1 none ∈ kw_all := kw_t 22 (by decide +kernel) (by decide +kernel)
theorem kws0 : (.selects "java/lang/Throwable" ⟨"java/lang/Throwable", "fillInStackTrace", "(I)Ljava/lang/Throwable;"⟩ ⟨"java/lang/Throwable", "fillInStackTrace", "(I)Ljava/lang/Throwable;"⟩ : Cond) ∈ kw_all := kw_s 0 (by decide +kernel) (by decide +kernel)
theorem kws1 : (.selects "ModelMerge" ⟨"ModelMerge", "versionOf", "(I)LModelMerge$Version;"⟩ ⟨"ModelMerge", "versionOf", "(I)LModelMerge$Version;"⟩ : Cond) ∈ kw_all := kw_s 1 (by decide +kernel) (by decide +kernel)
theorem kws2 : (.selects "ModelMerge" ⟨"ModelMerge", "sessionOf", "(I)LModelMerge$Session;"⟩ ⟨"ModelMerge", "sessionOf", "(I)LModelMerge$Session;"⟩ : Cond) ∈ kw_all := kw_s 2 (by decide +kernel) (by decide +kernel)
theorem kws3 : (.selects "ModelMerge" ⟨"ModelMerge", "changeThing", "(IIII)I"⟩ ⟨"ModelMerge", "changeThing", "(IIII)I"⟩ : Cond) ∈ kw_all := kw_s 3 (by decide +kernel) (by decide +kernel)
theorem kws4 : (.selects "ModelMerge" ⟨"ModelMerge", "checkThing", "(I)V"⟩ ⟨"ModelMerge", "checkThing", "(I)V"⟩ : Cond) ∈ kw_all := kw_s 4 (by decide +kernel) (by decide +kernel)
theorem kws5 : (.selects "ModelMerge" ⟨"ModelMerge", "isThing", "(I)Z"⟩ ⟨"ModelMerge", "isThing", "(I)Z"⟩ : Cond) ∈ kw_all := kw_s 5 (by decide +kernel) (by decide +kernel)
theorem kws6 : (.selects "ModelMerge" ⟨"ModelMerge", "lockerOf", "(I)I"⟩ ⟨"ModelMerge", "lockerOf", "(I)I"⟩ : Cond) ∈ kw_all := kw_s 6 (by decide +kernel) (by decide +kernel)
theorem kws7 : (.selects "ModelMerge" ⟨"ModelMerge", "findConflicts", "(LModelMerge$Session;)V"⟩ ⟨"ModelMerge", "findConflicts", "(LModelMerge$Session;)V"⟩ : Cond) ∈ kw_all := kw_s 7 (by decide +kernel) (by decide +kernel)
theorem kws8 : (.selects "ModelMerge" ⟨"ModelMerge", "findFieldConflicts", "(LModelMerge$State;LModelMerge$State;LModelMerge$State;I)V"⟩ ⟨"ModelMerge", "findFieldConflicts", "(LModelMerge$State;LModelMerge$State;LModelMerge$State;I)V"⟩ : Cond) ∈ kw_all := kw_s 8 (by decide +kernel) (by decide +kernel)
theorem kws9 : (.selects "ModelMerge" ⟨"ModelMerge", "finishJoining", "(LModelMerge$Session;)V"⟩ ⟨"ModelMerge", "finishJoining", "(LModelMerge$Session;)V"⟩ : Cond) ∈ kw_all := kw_s 9 (by decide +kernel) (by decide +kernel)
theorem kws10 : (.selects "ModelMerge" ⟨"ModelMerge", "joinedState", "(LModelMerge$Session;)LModelMerge$State;"⟩ ⟨"ModelMerge", "joinedState", "(LModelMerge$Session;)LModelMerge$State;"⟩ : Cond) ∈ kw_all := kw_s 10 (by decide +kernel) (by decide +kernel)
theorem kws11 : (.selects "ModelMerge" ⟨"ModelMerge", "joinThing", "(LModelMerge$State;LModelMerge$State;LModelMerge$State;I)V"⟩ ⟨"ModelMerge", "joinThing", "(LModelMerge$State;LModelMerge$State;LModelMerge$State;I)V"⟩ : Cond) ∈ kw_all := kw_s 11 (by decide +kernel) (by decide +kernel)
theorem kws12 : (.selects "ModelMerge$Conflicts" ⟨"ModelMerge$Conflicts", "isKnown", "(I)Z"⟩ ⟨"ModelMerge$Conflicts", "isKnown", "(I)Z"⟩ : Cond) ∈ kw_all := kw_s 12 (by decide +kernel) (by decide +kernel)
theorem kws13 : (.selects "ModelMerge" ⟨"ModelMerge", "pendingWithConflict", "(I)LModelMerge$Session;"⟩ ⟨"ModelMerge", "pendingWithConflict", "(I)LModelMerge$Session;"⟩ : Cond) ∈ kw_all := kw_s 13 (by decide +kernel) (by decide +kernel)
theorem kws14 : (.selects "ModelMerge" ⟨"ModelMerge", "checkField", "(LModelMerge$State;II)V"⟩ ⟨"ModelMerge", "checkField", "(LModelMerge$State;II)V"⟩ : Cond) ∈ kw_all := kw_s 14 (by decide +kernel) (by decide +kernel)
theorem kws15 : (.selects "ModelMerge" ⟨"ModelMerge", "kindOf", "(I)I"⟩ ⟨"ModelMerge", "kindOf", "(I)I"⟩ : Cond) ∈ kw_all := kw_s 15 (by decide +kernel) (by decide +kernel)
theorem kws16 : (.selects "ModelMerge" ⟨"ModelMerge", "isBroken", "(LModelMerge$Rule;LModelMerge$State;I)Z"⟩ ⟨"ModelMerge", "isBroken", "(LModelMerge$Rule;LModelMerge$State;I)Z"⟩ : Cond) ∈ kw_all := kw_s 16 (by decide +kernel) (by decide +kernel)
theorem kws17 : (.selects "ModelMergeModel" ⟨"ModelMergeModel", "goes", "(ZZ)Z"⟩ ⟨"ModelMergeModel", "goes", "(ZZ)Z"⟩ : Cond) ∈ kw_all := kw_s 17 (by decide +kernel) (by decide +kernel)
theorem kws18 : (.selects "ModelMergeModel" ⟨"ModelMergeModel", "isOpen", "(I)Z"⟩ ⟨"ModelMergeModel", "isOpen", "(I)Z"⟩ : Cond) ∈ kw_all := kw_s 18 (by decide +kernel) (by decide +kernel)
theorem kws19 : (.selects "ModelMergeModel" ⟨"ModelMergeModel", "change", "(IIIII)I"⟩ ⟨"ModelMergeModel", "change", "(IIIII)I"⟩ : Cond) ∈ kw_all := kw_s 19 (by decide +kernel) (by decide +kernel)
theorem kws20 : (.selects "ModelMergeModel" ⟨"ModelMergeModel", "barred", "(II)I"⟩ ⟨"ModelMergeModel", "barred", "(II)I"⟩ : Cond) ∈ kw_all := kw_s 20 (by decide +kernel) (by decide +kernel)
theorem kws21 : (.selects "ModelMergeModel" ⟨"ModelMergeModel", "isHere", "(II)Z"⟩ ⟨"ModelMergeModel", "isHere", "(II)Z"⟩ : Cond) ∈ kw_all := kw_s 21 (by decide +kernel) (by decide +kernel)
theorem kws22 : (.selects "ModelMergeModel" ⟨"ModelMergeModel", "isAt", "(III)Z"⟩ ⟨"ModelMergeModel", "isAt", "(III)Z"⟩ : Cond) ∈ kw_all := kw_s 22 (by decide +kernel) (by decide +kernel)
theorem kws23 : (.selects "ModelMergeModel" ⟨"ModelMergeModel", "find", "(II)V"⟩ ⟨"ModelMergeModel", "find", "(II)V"⟩ : Cond) ∈ kw_all := kw_s 23 (by decide +kernel) (by decide +kernel)
theorem kws24 : (.selects "ModelMergeModel" ⟨"ModelMergeModel", "mine", "(I)I"⟩ ⟨"ModelMergeModel", "mine", "(I)I"⟩ : Cond) ∈ kw_all := kw_s 24 (by decide +kernel) (by decide +kernel)
theorem kws25 : (.selects "ModelMergeModel" ⟨"ModelMergeModel", "here", "(III)I"⟩ ⟨"ModelMergeModel", "here", "(III)I"⟩ : Cond) ∈ kw_all := kw_s 25 (by decide +kernel) (by decide +kernel)
theorem kws26 : (.selects "ModelMergeModel" ⟨"ModelMergeModel", "valueAt", "(IIII)I"⟩ ⟨"ModelMergeModel", "valueAt", "(IIII)I"⟩ : Cond) ∈ kw_all := kw_s 26 (by decide +kernel) (by decide +kernel)
theorem kws27 : (.selects "ModelMergeModel" ⟨"ModelMergeModel", "finish", "(I)V"⟩ ⟨"ModelMergeModel", "finish", "(I)V"⟩ : Cond) ∈ kw_all := kw_s 27 (by decide +kernel) (by decide +kernel)
theorem kws28 : (.selects "ModelMergeModel" ⟨"ModelMergeModel", "merge", "(II)V"⟩ ⟨"ModelMergeModel", "merge", "(II)V"⟩ : Cond) ∈ kw_all := kw_s 28 (by decide +kernel) (by decide +kernel)
theorem kws29 : (.selects "ModelMergeModel" ⟨"ModelMergeModel", "sideOf", "(II)I"⟩ ⟨"ModelMergeModel", "sideOf", "(II)I"⟩ : Cond) ∈ kw_all := kw_s 29 (by decide +kernel) (by decide +kernel)
theorem kws30 : (.selects "ModelMergeModel" ⟨"ModelMergeModel", "take", "(IIZ)V"⟩ ⟨"ModelMergeModel", "take", "(IIZ)V"⟩ : Cond) ∈ kw_all := kw_s 30 (by decide +kernel) (by decide +kernel)
theorem kws31 : (.selects "ModelMergeModel" ⟨"ModelMergeModel", "isThere", "(II)Z"⟩ ⟨"ModelMergeModel", "isThere", "(II)Z"⟩ : Cond) ∈ kw_all := kw_s 31 (by decide +kernel) (by decide +kernel)
end
section
abbrev b_MM_init : ByteArray := prog_1_method_1_code
abbrev y_MM_init : MethodName := ⟨"ModelMerge", "<init>", "()V"⟩
abbrev w_MM_init : List Cond := Cond.code y_MM_init b_MM_init 1 none :: kw_all
theorem kcode_MM_init : Cond.code y_MM_init b_MM_init 1 none ∈ kw_all := kw_t 19 (by decide +kernel) (by decide +kernel)
abbrev b_MM_session : ByteArray := prog_1_method_2_code
abbrev y_MM_session : MethodName := ⟨"ModelMerge", "session", "(II)I"⟩
abbrev w_MM_session : List Cond := Cond.code y_MM_session b_MM_session 5 (some .int) :: kw_all
theorem kcode_MM_session : Cond.code y_MM_session b_MM_session 5 (some .int) ∈ kw_all := kw_t 127 (by decide +kernel) (by decide +kernel)
abbrev b_MM_make : ByteArray := prog_1_method_3_code
abbrev y_MM_make : MethodName := ⟨"ModelMerge", "make", "(II)I"⟩
abbrev w_MM_make : List Cond := Cond.code y_MM_make b_MM_make 5 (some .int) :: kw_all
theorem kcode_MM_make : Cond.code y_MM_make b_MM_make 5 (some .int) ∈ kw_all := kw_t 308 (by decide +kernel) (by decide +kernel)
abbrev b_MM_set : ByteArray := prog_1_method_4_code
abbrev y_MM_set : MethodName := ⟨"ModelMerge", "set", "(IIII)I"⟩
abbrev w_MM_set : List Cond := Cond.code y_MM_set b_MM_set 5 (some .int) :: kw_all
theorem kcode_MM_set : Cond.code y_MM_set b_MM_set 5 (some .int) ∈ kw_all := kw_t 350 (by decide +kernel) (by decide +kernel)
abbrev b_MM_drop : ByteArray := prog_1_method_5_code
abbrev y_MM_drop : MethodName := ⟨"ModelMerge", "drop", "(II)I"⟩
abbrev w_MM_drop : List Cond := Cond.code y_MM_drop b_MM_drop 3 (some .int) :: kw_all
theorem kcode_MM_drop : Cond.code y_MM_drop b_MM_drop 3 (some .int) ∈ kw_all := kw_t 379 (by decide +kernel) (by decide +kernel)
abbrev b_MM_undo : ByteArray := prog_1_method_6_code
abbrev y_MM_undo : MethodName := ⟨"ModelMerge", "undo", "(I)I"⟩
abbrev w_MM_undo : List Cond := Cond.code y_MM_undo b_MM_undo 3 (some .int) :: kw_all
theorem kcode_MM_undo : Cond.code y_MM_undo b_MM_undo 3 (some .int) ∈ kw_all := kw_t 386 (by decide +kernel) (by decide +kernel)
abbrev b_MM_redo : ByteArray := prog_1_method_7_code
abbrev y_MM_redo : MethodName := ⟨"ModelMerge", "redo", "(I)I"⟩
abbrev w_MM_redo : List Cond := Cond.code y_MM_redo b_MM_redo 3 (some .int) :: kw_all
theorem kcode_MM_redo : Cond.code y_MM_redo b_MM_redo 3 (some .int) ∈ kw_all := kw_t 397 (by decide +kernel) (by decide +kernel)
abbrev b_MM_lock : ByteArray := prog_1_method_8_code
abbrev y_MM_lock : MethodName := ⟨"ModelMerge", "lock", "(II)I"⟩
abbrev w_MM_lock : List Cond := Cond.code y_MM_lock b_MM_lock 4 (some .int) :: kw_all
theorem kcode_MM_lock : Cond.code y_MM_lock b_MM_lock 4 (some .int) ∈ kw_all := kw_t 405 (by decide +kernel) (by decide +kernel)
abbrev b_MM_rule : ByteArray := prog_1_method_9_code
abbrev y_MM_rule : MethodName := ⟨"ModelMerge", "rule", "(III)I"⟩
abbrev w_MM_rule : List Cond := Cond.code y_MM_rule b_MM_rule 5 (some .int) :: kw_all
theorem kcode_MM_rule : Cond.code y_MM_rule b_MM_rule 5 (some .int) ∈ kw_all := kw_t 412 (by decide +kernel) (by decide +kernel)
abbrev b_MM_join : ByteArray := prog_1_method_10_code
abbrev y_MM_join : MethodName := ⟨"ModelMerge", "join", "(I)I"⟩
abbrev w_MM_join : List Cond := Cond.code y_MM_join b_MM_join 3 (some .int) :: kw_all
theorem kcode_MM_join : Cond.code y_MM_join b_MM_join 3 (some .int) ∈ kw_all := kw_t 438 (by decide +kernel) (by decide +kernel)
abbrev b_MM_conflict : ByteArray := prog_1_method_11_code
abbrev y_MM_conflict : MethodName := ⟨"ModelMerge", "conflict", "(II)I"⟩
abbrev w_MM_conflict : List Cond := Cond.code y_MM_conflict b_MM_conflict 6 (some .int) :: kw_all
theorem kcode_MM_conflict : Cond.code y_MM_conflict b_MM_conflict 6 (some .int) ∈ kw_all := kw_t 513 (by decide +kernel) (by decide +kernel)
abbrev b_MM_settle : ByteArray := prog_1_method_12_code
abbrev y_MM_settle : MethodName := ⟨"ModelMerge", "settle", "(II)I"⟩
abbrev w_MM_settle : List Cond := Cond.code y_MM_settle b_MM_settle 5 (some .int) :: kw_all
theorem kcode_MM_settle : Cond.code y_MM_settle b_MM_settle 5 (some .int) ∈ kw_all := kw_t 529 (by decide +kernel) (by decide +kernel)
abbrev b_MM_giveUp : ByteArray := prog_1_method_13_code
abbrev y_MM_giveUp : MethodName := ⟨"ModelMerge", "giveUp", "()I"⟩
abbrev w_MM_giveUp : List Cond := Cond.code y_MM_giveUp b_MM_giveUp 2 (some .int) :: kw_all
theorem kcode_MM_giveUp : Cond.code y_MM_giveUp b_MM_giveUp 2 (some .int) ∈ kw_all := kw_t 549 (by decide +kernel) (by decide +kernel)
abbrev b_MM_here : ByteArray := prog_1_method_14_code
abbrev y_MM_here : MethodName := ⟨"ModelMerge", "here", "(II)I"⟩
abbrev w_MM_here : List Cond := Cond.code y_MM_here b_MM_here 4 (some .int) :: kw_all
theorem kcode_MM_here : Cond.code y_MM_here b_MM_here 4 (some .int) ∈ kw_all := kw_t 556 (by decide +kernel) (by decide +kernel)
abbrev b_MM_now : ByteArray := prog_1_method_15_code
abbrev y_MM_now : MethodName := ⟨"ModelMerge", "now", "(III)I"⟩
abbrev w_MM_now : List Cond := Cond.code y_MM_now b_MM_now 5 (some .int) :: kw_all
theorem kcode_MM_now : Cond.code y_MM_now b_MM_now 5 (some .int) ∈ kw_all := kw_t 563 (by decide +kernel) (by decide +kernel)
abbrev b_MM_there : ByteArray := prog_1_method_16_code
abbrev y_MM_there : MethodName := ⟨"ModelMerge", "there", "(III)I"⟩
abbrev w_MM_there : List Cond := Cond.code y_MM_there b_MM_there 5 (some .int) :: kw_all
theorem kcode_MM_there : Cond.code y_MM_there b_MM_there 5 (some .int) ∈ kw_all := kw_t 575 (by decide +kernel) (by decide +kernel)
abbrev b_MM_at : ByteArray := prog_1_method_17_code
abbrev y_MM_at : MethodName := ⟨"ModelMerge", "at", "(III)I"⟩
abbrev w_MM_at : List Cond := Cond.code y_MM_at b_MM_at 5 (some .int) :: kw_all
theorem kcode_MM_at : Cond.code y_MM_at b_MM_at 5 (some .int) ∈ kw_all := kw_t 591 (by decide +kernel) (by decide +kernel)
abbrev b_MM_since : ByteArray := prog_1_method_18_code
abbrev y_MM_since : MethodName := ⟨"ModelMerge", "since", "(III)I"⟩
abbrev w_MM_since : List Cond := Cond.code y_MM_since b_MM_since 5 (some .int) :: kw_all
theorem kcode_MM_since : Cond.code y_MM_since b_MM_since 5 (some .int) ∈ kw_all := kw_t 598 (by decide +kernel) (by decide +kernel)
abbrev b_MM_told : ByteArray := prog_1_method_19_code
abbrev y_MM_told : MethodName := ⟨"ModelMerge", "told", "(II)I"⟩
abbrev w_MM_told : List Cond := Cond.code y_MM_told b_MM_told 4 (some .int) :: kw_all
theorem kcode_MM_told : Cond.code y_MM_told b_MM_told 4 (some .int) ∈ kw_all := kw_t 606 (by decide +kernel) (by decide +kernel)
abbrev b_MM_author : ByteArray := prog_1_method_20_code
abbrev y_MM_author : MethodName := ⟨"ModelMerge", "author", "(I)I"⟩
abbrev w_MM_author : List Cond := Cond.code y_MM_author b_MM_author 3 (some .int) :: kw_all
theorem kcode_MM_author : Cond.code y_MM_author b_MM_author 3 (some .int) ∈ kw_all := kw_t 614 (by decide +kernel) (by decide +kernel)
abbrev b_MM_count : ByteArray := prog_1_method_21_code
abbrev y_MM_count : MethodName := ⟨"ModelMerge", "count", "(I)I"⟩
abbrev w_MM_count : List Cond := Cond.code y_MM_count b_MM_count 2 (some .int) :: kw_all
theorem kcode_MM_count : Cond.code y_MM_count b_MM_count 2 (some .int) ∈ kw_all := kw_t 622 (by decide +kernel) (by decide +kernel)
abbrev b_MM_differs : ByteArray := prog_1_method_22_code
abbrev y_MM_differs : MethodName := ⟨"ModelMerge", "differs", "(III)I"⟩
abbrev w_MM_differs : List Cond := Cond.code y_MM_differs b_MM_differs 9 (some .int) :: kw_all
theorem kcode_MM_differs : Cond.code y_MM_differs b_MM_differs 9 (some .int) ∈ kw_all := kw_t 630 (by decide +kernel) (by decide +kernel)
abbrev b_MM_broken : ByteArray := prog_1_method_23_code
abbrev y_MM_broken : MethodName := ⟨"ModelMerge", "broken", "(II)I"⟩
abbrev w_MM_broken : List Cond := Cond.code y_MM_broken b_MM_broken 7 (some .int) :: kw_all
theorem kcode_MM_broken : Cond.code y_MM_broken b_MM_broken 7 (some .int) ∈ kw_all := kw_t 640 (by decide +kernel) (by decide +kernel)
abbrev b_MM_checkBelow : ByteArray := prog_1_method_24_code
abbrev y_MM_checkBelow : MethodName := ⟨"ModelMerge", "checkBelow", "(II)V"⟩
abbrev w_MM_checkBelow : List Cond := Cond.code y_MM_checkBelow b_MM_checkBelow 2 none :: kw_all
theorem kcode_MM_checkBelow : Cond.code y_MM_checkBelow b_MM_checkBelow 2 none ∈ kw_all := kw_t 130 (by decide +kernel) (by decide +kernel)
abbrev b_MM_checkNotNegative : ByteArray := prog_1_method_25_code
abbrev y_MM_checkNotNegative : MethodName := ⟨"ModelMerge", "checkNotNegative", "(I)V"⟩
abbrev w_MM_checkNotNegative : List Cond := Cond.code y_MM_checkNotNegative b_MM_checkNotNegative 1 none :: kw_all
theorem kcode_MM_checkNotNegative : Cond.code y_MM_checkNotNegative b_MM_checkNotNegative 1 none ∈ kw_all := kw_t 520 (by decide +kernel) (by decide +kernel)
abbrev b_MM_checkSide : ByteArray := prog_1_method_26_code
abbrev y_MM_checkSide : MethodName := ⟨"ModelMerge", "checkSide", "(I)V"⟩
abbrev w_MM_checkSide : List Cond := Cond.code y_MM_checkSide b_MM_checkSide 1 none :: kw_all
theorem kcode_MM_checkSide : Cond.code y_MM_checkSide b_MM_checkSide 1 none ∈ kw_all := kw_t 532 (by decide +kernel) (by decide +kernel)
abbrev b_MM_checkThing : ByteArray := prog_1_method_27_code
abbrev y_MM_checkThing : MethodName := ⟨"ModelMerge", "checkThing", "(I)V"⟩
abbrev w_MM_checkThing : List Cond := Cond.code y_MM_checkThing b_MM_checkThing 2 none :: kw_all
theorem kcode_MM_checkThing : Cond.code y_MM_checkThing b_MM_checkThing 2 none ∈ kw_all := kw_t 358 (by decide +kernel) (by decide +kernel)
abbrev b_MM_checkField : ByteArray := prog_1_method_28_code
abbrev y_MM_checkField : MethodName := ⟨"ModelMerge", "checkField", "(LModelMerge$State;II)V"⟩
abbrev w_MM_checkField : List Cond := Cond.code y_MM_checkField b_MM_checkField 4 none :: kw_all
theorem kcode_MM_checkField : Cond.code y_MM_checkField b_MM_checkField 4 none ∈ kw_all := kw_t 567 (by decide +kernel) (by decide +kernel)
abbrev b_MM_checkOpen : ByteArray := prog_1_method_29_code
abbrev y_MM_checkOpen : MethodName := ⟨"ModelMerge", "checkOpen", "(LModelMerge$Session;)V"⟩
abbrev w_MM_checkOpen : List Cond := Cond.code y_MM_checkOpen b_MM_checkOpen 1 none :: kw_all
theorem kcode_MM_checkOpen : Cond.code y_MM_checkOpen b_MM_checkOpen 1 none ∈ kw_all := kw_t 316 (by decide +kernel) (by decide +kernel)
abbrev b_MM_sessionOf : ByteArray := prog_1_method_30_code
abbrev y_MM_sessionOf : MethodName := ⟨"ModelMerge", "sessionOf", "(I)LModelMerge$Session;"⟩
abbrev w_MM_sessionOf : List Cond := Cond.code y_MM_sessionOf b_MM_sessionOf 3 (some (.object "ModelMerge$Session")) :: kw_all
theorem kcode_MM_sessionOf : Cond.code y_MM_sessionOf b_MM_sessionOf 3 (some (.object "ModelMerge$Session")) ∈ kw_all := kw_t 312 (by decide +kernel) (by decide +kernel)
abbrev b_MM_versionOf : ByteArray := prog_1_method_31_code
abbrev y_MM_versionOf : MethodName := ⟨"ModelMerge", "versionOf", "(I)LModelMerge$Version;"⟩
abbrev w_MM_versionOf : List Cond := Cond.code y_MM_versionOf b_MM_versionOf 3 (some (.object "ModelMerge$Version")) :: kw_all
theorem kcode_MM_versionOf : Cond.code y_MM_versionOf b_MM_versionOf 3 (some (.object "ModelMerge$Version")) ∈ kw_all := kw_t 201 (by decide +kernel) (by decide +kernel)
abbrev b_MM_pendingWithConflict : ByteArray := prog_1_method_32_code
abbrev y_MM_pendingWithConflict : MethodName := ⟨"ModelMerge", "pendingWithConflict", "(I)LModelMerge$Session;"⟩
abbrev w_MM_pendingWithConflict : List Cond := Cond.code y_MM_pendingWithConflict b_MM_pendingWithConflict 3 (some (.object "ModelMerge$Session")) :: kw_all
theorem kcode_MM_pendingWithConflict : Cond.code y_MM_pendingWithConflict b_MM_pendingWithConflict 3 (some (.object "ModelMerge$Session")) ∈ kw_all := kw_t 517 (by decide +kernel) (by decide +kernel)
abbrev b_MM_isThing : ByteArray := prog_1_method_33_code
abbrev y_MM_isThing : MethodName := ⟨"ModelMerge", "isThing", "(I)Z"⟩
abbrev w_MM_isThing : List Cond := Cond.code y_MM_isThing b_MM_isThing 2 (some .boolean) :: kw_all
theorem kcode_MM_isThing : Cond.code y_MM_isThing b_MM_isThing 2 (some .boolean) ∈ kw_all := kw_t 362 (by decide +kernel) (by decide +kernel)
abbrev b_MM_kindOf : ByteArray := prog_1_method_34_code
abbrev y_MM_kindOf : MethodName := ⟨"ModelMerge", "kindOf", "(I)I"⟩
abbrev w_MM_kindOf : List Cond := Cond.code y_MM_kindOf b_MM_kindOf 2 (some .int) :: kw_all
theorem kcode_MM_kindOf : Cond.code y_MM_kindOf b_MM_kindOf 2 (some .int) ∈ kw_all := kw_t 579 (by decide +kernel) (by decide +kernel)
abbrev b_MM_lockerOf : ByteArray := prog_1_method_35_code
abbrev y_MM_lockerOf : MethodName := ⟨"ModelMerge", "lockerOf", "(I)I"⟩
abbrev w_MM_lockerOf : List Cond := Cond.code y_MM_lockerOf b_MM_lockerOf 2 (some .int) :: kw_all
theorem kcode_MM_lockerOf : Cond.code y_MM_lockerOf b_MM_lockerOf 2 (some .int) ∈ kw_all := kw_t 372 (by decide +kernel) (by decide +kernel)
abbrev b_MM_changeThing : ByteArray := prog_1_method_36_code
abbrev y_MM_changeThing : MethodName := ⟨"ModelMerge", "changeThing", "(IIII)I"⟩
abbrev w_MM_changeThing : List Cond := Cond.code y_MM_changeThing b_MM_changeThing 7 (some .int) :: kw_all
theorem kcode_MM_changeThing : Cond.code y_MM_changeThing b_MM_changeThing 7 (some .int) ∈ kw_all := kw_t 354 (by decide +kernel) (by decide +kernel)
abbrev b_MM_isDifference : ByteArray := prog_1_method_37_code
abbrev y_MM_isDifference : MethodName := ⟨"ModelMerge", "isDifference", "(LModelMerge$State;LModelMerge$State;II)Z"⟩
abbrev w_MM_isDifference : List Cond := Cond.code y_MM_isDifference b_MM_isDifference 4 (some .boolean) :: kw_all
theorem kcode_MM_isDifference : Cond.code y_MM_isDifference b_MM_isDifference 4 (some .boolean) ∈ kw_all := kw_t 633 (by decide +kernel) (by decide +kernel)
abbrev b_MM_isBroken : ByteArray := prog_1_method_38_code
abbrev y_MM_isBroken : MethodName := ⟨"ModelMerge", "isBroken", "(LModelMerge$Rule;LModelMerge$State;I)Z"⟩
abbrev w_MM_isBroken : List Cond := Cond.code y_MM_isBroken b_MM_isBroken 5 (some .boolean) :: kw_all
theorem kcode_MM_isBroken : Cond.code y_MM_isBroken b_MM_isBroken 5 (some .boolean) ∈ kw_all := kw_t 644 (by decide +kernel) (by decide +kernel)
abbrev b_MM_findConflicts : ByteArray := prog_1_method_39_code
abbrev y_MM_findConflicts : MethodName := ⟨"ModelMerge", "findConflicts", "(LModelMerge$Session;)V"⟩
abbrev w_MM_findConflicts : List Cond := Cond.code y_MM_findConflicts b_MM_findConflicts 6 none :: kw_all
theorem kcode_MM_findConflicts : Cond.code y_MM_findConflicts b_MM_findConflicts 6 none ∈ kw_all := kw_t 442 (by decide +kernel) (by decide +kernel)
abbrev b_MM_findFieldConflicts : ByteArray := prog_1_method_40_code
abbrev y_MM_findFieldConflicts : MethodName := ⟨"ModelMerge", "findFieldConflicts", "(LModelMerge$State;LModelMerge$State;LModelMerge$State;I)V"⟩
abbrev w_MM_findFieldConflicts : List Cond := Cond.code y_MM_findFieldConflicts b_MM_findFieldConflicts 9 none :: kw_all
theorem kcode_MM_findFieldConflicts : Cond.code y_MM_findFieldConflicts b_MM_findFieldConflicts 9 none ∈ kw_all := kw_t 458 (by decide +kernel) (by decide +kernel)
abbrev b_MM_isDroppedAndChanged : ByteArray := prog_1_method_41_code
abbrev y_MM_isDroppedAndChanged : MethodName := ⟨"ModelMerge", "isDroppedAndChanged", "(LModelMerge$State;LModelMerge$State;LModelMerge$State;I)Z"⟩
abbrev w_MM_isDroppedAndChanged : List Cond := Cond.code y_MM_isDroppedAndChanged b_MM_isDroppedAndChanged 6 (some .boolean) :: kw_all
theorem kcode_MM_isDroppedAndChanged : Cond.code y_MM_isDroppedAndChanged b_MM_isDroppedAndChanged 6 (some .boolean) ∈ kw_all := kw_t 449 (by decide +kernel) (by decide +kernel)
abbrev b_MM_finishJoining : ByteArray := prog_1_method_42_code
abbrev y_MM_finishJoining : MethodName := ⟨"ModelMerge", "finishJoining", "(LModelMerge$Session;)V"⟩
abbrev w_MM_finishJoining : List Cond := Cond.code y_MM_finishJoining b_MM_finishJoining 4 none :: kw_all
theorem kcode_MM_finishJoining : Cond.code y_MM_finishJoining b_MM_finishJoining 4 none ∈ kw_all := kw_t 462 (by decide +kernel) (by decide +kernel)
abbrev b_MM_joinedState : ByteArray := prog_1_method_43_code
abbrev y_MM_joinedState : MethodName := ⟨"ModelMerge", "joinedState", "(LModelMerge$Session;)LModelMerge$State;"⟩
abbrev w_MM_joinedState : List Cond := Cond.code y_MM_joinedState b_MM_joinedState 5 (some (.object "ModelMerge$State")) :: kw_all
theorem kcode_MM_joinedState : Cond.code y_MM_joinedState b_MM_joinedState 5 (some (.object "ModelMerge$State")) ∈ kw_all := kw_t 466 (by decide +kernel) (by decide +kernel)
abbrev b_MM_joinThing : ByteArray := prog_1_method_44_code
abbrev y_MM_joinThing : MethodName := ⟨"ModelMerge", "joinThing", "(LModelMerge$State;LModelMerge$State;LModelMerge$State;I)V"⟩
abbrev w_MM_joinThing : List Cond := Cond.code y_MM_joinThing b_MM_joinThing 9 none :: kw_all
theorem kcode_MM_joinThing : Cond.code y_MM_joinThing b_MM_joinThing 9 none ∈ kw_all := kw_t 470 (by decide +kernel) (by decide +kernel)
abbrev b_MM_applySettling : ByteArray := prog_1_method_45_code
abbrev y_MM_applySettling : MethodName := ⟨"ModelMerge", "applySettling", "(LModelMerge$State;LModelMerge$State;II)V"⟩
abbrev w_MM_applySettling : List Cond := Cond.code y_MM_applySettling b_MM_applySettling 4 none :: kw_all
theorem kcode_MM_applySettling : Cond.code y_MM_applySettling b_MM_applySettling 4 none ∈ kw_all := kw_t 496 (by decide +kernel) (by decide +kernel)
abbrev b_Rf_init : ByteArray := prog_9_method_1_code
abbrev y_Rf_init : MethodName := ⟨"ModelMergeModel", "<init>", "()V"⟩
abbrev w_Rf_init : List Cond := Cond.code y_Rf_init b_Rf_init 1 none :: kw_all
theorem kcode_Rf_init : Cond.code y_Rf_init b_Rf_init 1 none ∈ kw_all := kw_t 649 (by decide +kernel) (by decide +kernel)
abbrev b_Rf_thrown : ByteArray := prog_9_method_2_code
abbrev y_Rf_thrown : MethodName := ⟨"ModelMergeModel", "thrown", "()I"⟩
abbrev w_Rf_thrown : List Cond := Cond.code y_Rf_thrown b_Rf_thrown 1 (some .int) :: kw_all
theorem kcode_Rf_thrown : Cond.code y_Rf_thrown b_Rf_thrown 1 (some .int) ∈ kw_all := kw_t 749 (by decide +kernel) (by decide +kernel)
abbrev b_Rf_goes : ByteArray := prog_9_method_3_code
abbrev y_Rf_goes : MethodName := ⟨"ModelMergeModel", "goes", "(ZZ)Z"⟩
abbrev w_Rf_goes : List Cond := Cond.code y_Rf_goes b_Rf_goes 3 (some .boolean) :: kw_all
theorem kcode_Rf_goes : Cond.code y_Rf_goes b_Rf_goes 3 (some .boolean) ∈ kw_all := kw_t 760 (by decide +kernel) (by decide +kernel)
abbrev b_Rf_isIn : ByteArray := prog_9_method_4_code
abbrev y_Rf_isIn : MethodName := ⟨"ModelMergeModel", "isIn", "(II)Z"⟩
abbrev w_Rf_isIn : List Cond := Cond.code y_Rf_isIn b_Rf_isIn 2 (some .boolean) :: kw_all
theorem kcode_Rf_isIn : Cond.code y_Rf_isIn b_Rf_isIn 2 (some .boolean) ∈ kw_all := kw_t 756 (by decide +kernel) (by decide +kernel)
abbrev b_Rf_isAt : ByteArray := prog_9_method_5_code
abbrev y_Rf_isAt : MethodName := ⟨"ModelMergeModel", "isAt", "(III)Z"⟩
abbrev w_Rf_isAt : List Cond := Cond.code y_Rf_isAt b_Rf_isAt 6 (some .boolean) :: kw_all
theorem kcode_Rf_isAt : Cond.code y_Rf_isAt b_Rf_isAt 6 (some .boolean) ∈ kw_all := kw_t 788 (by decide +kernel) (by decide +kernel)
abbrev b_Rf_valueAt : ByteArray := prog_9_method_6_code
abbrev y_Rf_valueAt : MethodName := ⟨"ModelMergeModel", "valueAt", "(IIII)I"⟩
abbrev w_Rf_valueAt : List Cond := Cond.code y_Rf_valueAt b_Rf_valueAt 7 (some .int) :: kw_all
theorem kcode_Rf_valueAt : Cond.code y_Rf_valueAt b_Rf_valueAt 7 (some .int) ∈ kw_all := kw_t 828 (by decide +kernel) (by decide +kernel)
abbrev b_Rf_isHere : ByteArray := prog_9_method_7_code
abbrev y_Rf_isHere : MethodName := ⟨"ModelMergeModel", "isHere", "(II)Z"⟩
abbrev w_Rf_isHere : List Cond := Cond.code y_Rf_isHere b_Rf_isHere 3 (some .boolean) :: kw_all
theorem kcode_Rf_isHere : Cond.code y_Rf_isHere b_Rf_isHere 3 (some .boolean) ∈ kw_all := kw_t 784 (by decide +kernel) (by decide +kernel)
abbrev b_Rf_here1 : ByteArray := prog_9_method_8_code
abbrev y_Rf_here1 : MethodName := ⟨"ModelMergeModel", "here", "(III)I"⟩
abbrev w_Rf_here1 : List Cond := Cond.code y_Rf_here1 b_Rf_here1 4 (some .int) :: kw_all
theorem kcode_Rf_here1 : Cond.code y_Rf_here1 b_Rf_here1 4 (some .int) ∈ kw_all := kw_t 824 (by decide +kernel) (by decide +kernel)
abbrev b_Rf_change : ByteArray := prog_9_method_9_code
abbrev y_Rf_change : MethodName := ⟨"ModelMergeModel", "change", "(IIIII)I"⟩
abbrev w_Rf_change : List Cond := Cond.code y_Rf_change b_Rf_change 8 (some .int) :: kw_all
theorem kcode_Rf_change : Cond.code y_Rf_change b_Rf_change 8 (some .int) ∈ kw_all := kw_t 772 (by decide +kernel) (by decide +kernel)
abbrev b_Rf_session : ByteArray := prog_9_method_10_code
abbrev y_Rf_session : MethodName := ⟨"ModelMergeModel", "session", "(II)I"⟩
abbrev w_Rf_session : List Cond := Cond.code y_Rf_session b_Rf_session 3 (some .int) :: kw_all
theorem kcode_Rf_session : Cond.code y_Rf_session b_Rf_session 3 (some .int) ∈ kw_all := kw_t 753 (by decide +kernel) (by decide +kernel)
abbrev b_Rf_isOpen : ByteArray := prog_9_method_11_code
abbrev y_Rf_isOpen : MethodName := ⟨"ModelMergeModel", "isOpen", "(I)Z"⟩
abbrev w_Rf_isOpen : List Cond := Cond.code y_Rf_isOpen b_Rf_isOpen 2 (some .boolean) :: kw_all
theorem kcode_Rf_isOpen : Cond.code y_Rf_isOpen b_Rf_isOpen 2 (some .boolean) ∈ kw_all := kw_t 768 (by decide +kernel) (by decide +kernel)
abbrev b_Rf_make : ByteArray := prog_9_method_12_code
abbrev y_Rf_make : MethodName := ⟨"ModelMergeModel", "make", "(II)I"⟩
abbrev w_Rf_make : List Cond := Cond.code y_Rf_make b_Rf_make 4 (some .int) :: kw_all
theorem kcode_Rf_make : Cond.code y_Rf_make b_Rf_make 4 (some .int) ∈ kw_all := kw_t 764 (by decide +kernel) (by decide +kernel)
abbrev b_Rf_barred : ByteArray := prog_9_method_13_code
abbrev y_Rf_barred : MethodName := ⟨"ModelMergeModel", "barred", "(II)I"⟩
abbrev w_Rf_barred : List Cond := Cond.code y_Rf_barred b_Rf_barred 4 (some .int) :: kw_all
theorem kcode_Rf_barred : Cond.code y_Rf_barred b_Rf_barred 4 (some .int) ∈ kw_all := kw_t 780 (by decide +kernel) (by decide +kernel)
abbrev b_Rf_set : ByteArray := prog_9_method_14_code
abbrev y_Rf_set : MethodName := ⟨"ModelMergeModel", "set", "(IIII)I"⟩
abbrev w_Rf_set : List Cond := Cond.code y_Rf_set b_Rf_set 6 (some .int) :: kw_all
theorem kcode_Rf_set : Cond.code y_Rf_set b_Rf_set 6 (some .int) ∈ kw_all := kw_t 776 (by decide +kernel) (by decide +kernel)
abbrev b_Rf_drop : ByteArray := prog_9_method_15_code
abbrev y_Rf_drop : MethodName := ⟨"ModelMergeModel", "drop", "(II)I"⟩
abbrev w_Rf_drop : List Cond := Cond.code y_Rf_drop b_Rf_drop 4 (some .int) :: kw_all
theorem kcode_Rf_drop : Cond.code y_Rf_drop b_Rf_drop 4 (some .int) ∈ kw_all := kw_t 792 (by decide +kernel) (by decide +kernel)
abbrev b_Rf_undo : ByteArray := prog_9_method_16_code
abbrev y_Rf_undo : MethodName := ⟨"ModelMergeModel", "undo", "(I)I"⟩
abbrev w_Rf_undo : List Cond := Cond.code y_Rf_undo b_Rf_undo 3 (some .int) :: kw_all
theorem kcode_Rf_undo : Cond.code y_Rf_undo b_Rf_undo 3 (some .int) ∈ kw_all := kw_t 796 (by decide +kernel) (by decide +kernel)
abbrev b_Rf_redo : ByteArray := prog_9_method_17_code
abbrev y_Rf_redo : MethodName := ⟨"ModelMergeModel", "redo", "(I)I"⟩
abbrev w_Rf_redo : List Cond := Cond.code y_Rf_redo b_Rf_redo 3 (some .int) :: kw_all
theorem kcode_Rf_redo : Cond.code y_Rf_redo b_Rf_redo 3 (some .int) ∈ kw_all := kw_t 800 (by decide +kernel) (by decide +kernel)
abbrev b_Rf_lock : ByteArray := prog_9_method_18_code
abbrev y_Rf_lock : MethodName := ⟨"ModelMergeModel", "lock", "(II)I"⟩
abbrev w_Rf_lock : List Cond := Cond.code y_Rf_lock b_Rf_lock 4 (some .int) :: kw_all
theorem kcode_Rf_lock : Cond.code y_Rf_lock b_Rf_lock 4 (some .int) ∈ kw_all := kw_t 804 (by decide +kernel) (by decide +kernel)
abbrev b_Rf_rule : ByteArray := prog_9_method_19_code
abbrev y_Rf_rule : MethodName := ⟨"ModelMergeModel", "rule", "(III)I"⟩
abbrev w_Rf_rule : List Cond := Cond.code y_Rf_rule b_Rf_rule 4 (some .int) :: kw_all
theorem kcode_Rf_rule : Cond.code y_Rf_rule b_Rf_rule 4 (some .int) ∈ kw_all := kw_t 808 (by decide +kernel) (by decide +kernel)
abbrev b_Rf_mine : ByteArray := prog_9_method_20_code
abbrev y_Rf_mine : MethodName := ⟨"ModelMergeModel", "mine", "(I)I"⟩
abbrev w_Rf_mine : List Cond := Cond.code y_Rf_mine b_Rf_mine 2 (some .int) :: kw_all
theorem kcode_Rf_mine : Cond.code y_Rf_mine b_Rf_mine 2 (some .int) ∈ kw_all := kw_t 820 (by decide +kernel) (by decide +kernel)
abbrev b_Rf_find : ByteArray := prog_9_method_21_code
abbrev y_Rf_find : MethodName := ⟨"ModelMergeModel", "find", "(II)V"⟩
abbrev w_Rf_find : List Cond := Cond.code y_Rf_find b_Rf_find 14 none :: kw_all
theorem kcode_Rf_find : Cond.code y_Rf_find b_Rf_find 14 none ∈ kw_all := kw_t 816 (by decide +kernel) (by decide +kernel)
abbrev b_Rf_sideOf : ByteArray := prog_9_method_22_code
abbrev y_Rf_sideOf : MethodName := ⟨"ModelMergeModel", "sideOf", "(II)I"⟩
abbrev w_Rf_sideOf : List Cond := Cond.code y_Rf_sideOf b_Rf_sideOf 5 (some .int) :: kw_all
theorem kcode_Rf_sideOf : Cond.code y_Rf_sideOf b_Rf_sideOf 5 (some .int) ∈ kw_all := kw_t 840 (by decide +kernel) (by decide +kernel)
abbrev b_Rf_take : ByteArray := prog_9_method_23_code
abbrev y_Rf_take : MethodName := ⟨"ModelMergeModel", "take", "(IIZ)V"⟩
abbrev w_Rf_take : List Cond := Cond.code y_Rf_take b_Rf_take 6 none :: kw_all
theorem kcode_Rf_take : Cond.code y_Rf_take b_Rf_take 6 none ∈ kw_all := kw_t 844 (by decide +kernel) (by decide +kernel)
abbrev b_Rf_merge : ByteArray := prog_9_method_24_code
abbrev y_Rf_merge : MethodName := ⟨"ModelMergeModel", "merge", "(II)V"⟩
abbrev w_Rf_merge : List Cond := Cond.code y_Rf_merge b_Rf_merge 12 none :: kw_all
theorem kcode_Rf_merge : Cond.code y_Rf_merge b_Rf_merge 12 none ∈ kw_all := kw_t 836 (by decide +kernel) (by decide +kernel)
abbrev b_Rf_finish : ByteArray := prog_9_method_25_code
abbrev y_Rf_finish : MethodName := ⟨"ModelMergeModel", "finish", "(I)V"⟩
abbrev w_Rf_finish : List Cond := Cond.code y_Rf_finish b_Rf_finish 3 none :: kw_all
theorem kcode_Rf_finish : Cond.code y_Rf_finish b_Rf_finish 3 none ∈ kw_all := kw_t 832 (by decide +kernel) (by decide +kernel)
abbrev b_Rf_join : ByteArray := prog_9_method_26_code
abbrev y_Rf_join : MethodName := ⟨"ModelMergeModel", "join", "(I)I"⟩
abbrev w_Rf_join : List Cond := Cond.code y_Rf_join b_Rf_join 3 (some .int) :: kw_all
theorem kcode_Rf_join : Cond.code y_Rf_join b_Rf_join 3 (some .int) ∈ kw_all := kw_t 812 (by decide +kernel) (by decide +kernel)
abbrev b_Rf_conflict : ByteArray := prog_9_method_27_code
abbrev y_Rf_conflict : MethodName := ⟨"ModelMergeModel", "conflict", "(II)I"⟩
abbrev w_Rf_conflict : List Cond := Cond.code y_Rf_conflict b_Rf_conflict 6 (some .int) :: kw_all
theorem kcode_Rf_conflict : Cond.code y_Rf_conflict b_Rf_conflict 6 (some .int) ∈ kw_all := kw_t 848 (by decide +kernel) (by decide +kernel)
abbrev b_Rf_settle : ByteArray := prog_9_method_28_code
abbrev y_Rf_settle : MethodName := ⟨"ModelMergeModel", "settle", "(II)I"⟩
abbrev w_Rf_settle : List Cond := Cond.code y_Rf_settle b_Rf_settle 5 (some .int) :: kw_all
theorem kcode_Rf_settle : Cond.code y_Rf_settle b_Rf_settle 5 (some .int) ∈ kw_all := kw_t 852 (by decide +kernel) (by decide +kernel)
abbrev b_Rf_giveUp : ByteArray := prog_9_method_29_code
abbrev y_Rf_giveUp : MethodName := ⟨"ModelMergeModel", "giveUp", "()I"⟩
abbrev w_Rf_giveUp : List Cond := Cond.code y_Rf_giveUp b_Rf_giveUp 2 (some .int) :: kw_all
theorem kcode_Rf_giveUp : Cond.code y_Rf_giveUp b_Rf_giveUp 2 (some .int) ∈ kw_all := kw_t 856 (by decide +kernel) (by decide +kernel)
abbrev b_Rf_here2 : ByteArray := prog_9_method_30_code
abbrev y_Rf_here2 : MethodName := ⟨"ModelMergeModel", "here", "(II)I"⟩
abbrev w_Rf_here2 : List Cond := Cond.code y_Rf_here2 b_Rf_here2 3 (some .int) :: kw_all
theorem kcode_Rf_here2 : Cond.code y_Rf_here2 b_Rf_here2 3 (some .int) ∈ kw_all := kw_t 860 (by decide +kernel) (by decide +kernel)
abbrev b_Rf_now : ByteArray := prog_9_method_31_code
abbrev y_Rf_now : MethodName := ⟨"ModelMergeModel", "now", "(III)I"⟩
abbrev w_Rf_now : List Cond := Cond.code y_Rf_now b_Rf_now 5 (some .int) :: kw_all
theorem kcode_Rf_now : Cond.code y_Rf_now b_Rf_now 5 (some .int) ∈ kw_all := kw_t 864 (by decide +kernel) (by decide +kernel)
abbrev b_Rf_isThere : ByteArray := prog_9_method_32_code
abbrev y_Rf_isThere : MethodName := ⟨"ModelMergeModel", "isThere", "(II)Z"⟩
abbrev w_Rf_isThere : List Cond := Cond.code y_Rf_isThere b_Rf_isThere 3 (some .boolean) :: kw_all
theorem kcode_Rf_isThere : Cond.code y_Rf_isThere b_Rf_isThere 3 (some .boolean) ∈ kw_all := kw_t 872 (by decide +kernel) (by decide +kernel)
abbrev b_Rf_there : ByteArray := prog_9_method_33_code
abbrev y_Rf_there : MethodName := ⟨"ModelMergeModel", "there", "(III)I"⟩
abbrev w_Rf_there : List Cond := Cond.code y_Rf_there b_Rf_there 7 (some .int) :: kw_all
theorem kcode_Rf_there : Cond.code y_Rf_there b_Rf_there 7 (some .int) ∈ kw_all := kw_t 868 (by decide +kernel) (by decide +kernel)
abbrev b_Rf_at : ByteArray := prog_9_method_34_code
abbrev y_Rf_at : MethodName := ⟨"ModelMergeModel", "at", "(III)I"⟩
abbrev w_Rf_at : List Cond := Cond.code y_Rf_at b_Rf_at 4 (some .int) :: kw_all
theorem kcode_Rf_at : Cond.code y_Rf_at b_Rf_at 4 (some .int) ∈ kw_all := kw_t 876 (by decide +kernel) (by decide +kernel)
abbrev b_Rf_since : ByteArray := prog_9_method_35_code
abbrev y_Rf_since : MethodName := ⟨"ModelMergeModel", "since", "(III)I"⟩
abbrev w_Rf_since : List Cond := Cond.code y_Rf_since b_Rf_since 4 (some .int) :: kw_all
theorem kcode_Rf_since : Cond.code y_Rf_since b_Rf_since 4 (some .int) ∈ kw_all := kw_t 880 (by decide +kernel) (by decide +kernel)
abbrev b_Rf_told : ByteArray := prog_9_method_36_code
abbrev y_Rf_told : MethodName := ⟨"ModelMergeModel", "told", "(II)I"⟩
abbrev w_Rf_told : List Cond := Cond.code y_Rf_told b_Rf_told 3 (some .int) :: kw_all
theorem kcode_Rf_told : Cond.code y_Rf_told b_Rf_told 3 (some .int) ∈ kw_all := kw_t 884 (by decide +kernel) (by decide +kernel)
abbrev b_Rf_author : ByteArray := prog_9_method_37_code
abbrev y_Rf_author : MethodName := ⟨"ModelMergeModel", "author", "(I)I"⟩
abbrev w_Rf_author : List Cond := Cond.code y_Rf_author b_Rf_author 2 (some .int) :: kw_all
theorem kcode_Rf_author : Cond.code y_Rf_author b_Rf_author 2 (some .int) ∈ kw_all := kw_t 888 (by decide +kernel) (by decide +kernel)
abbrev b_Rf_count : ByteArray := prog_9_method_38_code
abbrev y_Rf_count : MethodName := ⟨"ModelMergeModel", "count", "(I)I"⟩
abbrev w_Rf_count : List Cond := Cond.code y_Rf_count b_Rf_count 2 (some .int) :: kw_all
theorem kcode_Rf_count : Cond.code y_Rf_count b_Rf_count 2 (some .int) ∈ kw_all := kw_t 892 (by decide +kernel) (by decide +kernel)
abbrev b_Rf_differs : ByteArray := prog_9_method_39_code
abbrev y_Rf_differs : MethodName := ⟨"ModelMergeModel", "differs", "(III)I"⟩
abbrev w_Rf_differs : List Cond := Cond.code y_Rf_differs b_Rf_differs 10 (some .int) :: kw_all
theorem kcode_Rf_differs : Cond.code y_Rf_differs b_Rf_differs 10 (some .int) ∈ kw_all := kw_t 896 (by decide +kernel) (by decide +kernel)
abbrev b_Rf_broken : ByteArray := prog_9_method_40_code
abbrev y_Rf_broken : MethodName := ⟨"ModelMergeModel", "broken", "(II)I"⟩
abbrev w_Rf_broken : List Cond := Cond.code y_Rf_broken b_Rf_broken 8 (some .int) :: kw_all
theorem kcode_Rf_broken : Cond.code y_Rf_broken b_Rf_broken 8 (some .int) ∈ kw_all := kw_t 900 (by decide +kernel) (by decide +kernel)
abbrev b_Cf_init : ByteArray := prog_2_method_1_code
abbrev y_Cf_init : MethodName := ⟨"ModelMerge$Conflicts", "<init>", "()V"⟩
abbrev w_Cf_init : List Cond := Cond.code y_Cf_init b_Cf_init 1 none :: kw_all
theorem kcode_Cf_init : Cond.code y_Cf_init b_Cf_init 1 none ∈ kw_all := kw_t 33 (by decide +kernel) (by decide +kernel)
abbrev b_Cf_clear : ByteArray := prog_2_method_2_code
abbrev y_Cf_clear : MethodName := ⟨"ModelMerge$Conflicts", "clear", "()V"⟩
abbrev w_Cf_clear : List Cond := Cond.code y_Cf_clear b_Cf_clear 1 none :: kw_all
theorem kcode_Cf_clear : Cond.code y_Cf_clear b_Cf_clear 1 none ∈ kw_all := kw_t 446 (by decide +kernel) (by decide +kernel)
abbrev b_Cf_add : ByteArray := prog_2_method_3_code
abbrev y_Cf_add : MethodName := ⟨"ModelMerge$Conflicts", "add", "(II)V"⟩
abbrev w_Cf_add : List Cond := Cond.code y_Cf_add b_Cf_add 3 none :: kw_all
theorem kcode_Cf_add : Cond.code y_Cf_add b_Cf_add 3 none ∈ kw_all := kw_t 454 (by decide +kernel) (by decide +kernel)
abbrev b_Cf_choose : ByteArray := prog_2_method_4_code
abbrev y_Cf_choose : MethodName := ⟨"ModelMerge$Conflicts", "choose", "(II)V"⟩
abbrev w_Cf_choose : List Cond := Cond.code y_Cf_choose b_Cf_choose 3 none :: kw_all
theorem kcode_Cf_choose : Cond.code y_Cf_choose b_Cf_choose 3 none ∈ kw_all := kw_t 537 (by decide +kernel) (by decide +kernel)
abbrev b_Cf_thingOf : ByteArray := prog_2_method_5_code
abbrev y_Cf_thingOf : MethodName := ⟨"ModelMerge$Conflicts", "thingOf", "(I)I"⟩
abbrev w_Cf_thingOf : List Cond := Cond.code y_Cf_thingOf b_Cf_thingOf 2 (some .int) :: kw_all
theorem kcode_Cf_thingOf : Cond.code y_Cf_thingOf b_Cf_thingOf 2 (some .int) ∈ kw_all := kw_t 489 (by decide +kernel) (by decide +kernel)
abbrev b_Cf_fieldOf : ByteArray := prog_2_method_6_code
abbrev y_Cf_fieldOf : MethodName := ⟨"ModelMerge$Conflicts", "fieldOf", "(I)I"⟩
abbrev w_Cf_fieldOf : List Cond := Cond.code y_Cf_fieldOf b_Cf_fieldOf 2 (some .int) :: kw_all
theorem kcode_Cf_fieldOf : Cond.code y_Cf_fieldOf b_Cf_fieldOf 2 (some .int) ∈ kw_all := kw_t 493 (by decide +kernel) (by decide +kernel)
abbrev b_Cf_sideOf : ByteArray := prog_2_method_7_code
abbrev y_Cf_sideOf : MethodName := ⟨"ModelMerge$Conflicts", "sideOf", "(I)I"⟩
abbrev w_Cf_sideOf : List Cond := Cond.code y_Cf_sideOf b_Cf_sideOf 2 (some .int) :: kw_all
theorem kcode_Cf_sideOf : Cond.code y_Cf_sideOf b_Cf_sideOf 2 (some .int) ∈ kw_all := kw_t 481 (by decide +kernel) (by decide +kernel)
abbrev b_Cf_countUnsettled : ByteArray := prog_2_method_8_code
abbrev y_Cf_countUnsettled : MethodName := ⟨"ModelMerge$Conflicts", "countUnsettled", "()I"⟩
abbrev w_Cf_countUnsettled : List Cond := Cond.code y_Cf_countUnsettled b_Cf_countUnsettled 3 (some .int) :: kw_all
theorem kcode_Cf_countUnsettled : Cond.code y_Cf_countUnsettled b_Cf_countUnsettled 3 (some .int) ∈ kw_all := kw_t 541 (by decide +kernel) (by decide +kernel)
abbrev b_Cf_isKnown : ByteArray := prog_2_method_9_code
abbrev y_Cf_isKnown : MethodName := ⟨"ModelMerge$Conflicts", "isKnown", "(I)Z"⟩
abbrev w_Cf_isKnown : List Cond := Cond.code y_Cf_isKnown b_Cf_isKnown 2 (some .boolean) :: kw_all
theorem kcode_Cf_isKnown : Cond.code y_Cf_isKnown b_Cf_isKnown 2 (some .boolean) ∈ kw_all := kw_t 485 (by decide +kernel) (by decide +kernel)
abbrev b_Mo_init : ByteArray := prog_3_method_1_code
abbrev y_Mo_init : MethodName := ⟨"ModelMerge$Moment", "<init>", "(ILModelMerge$Moment;IIII)V"⟩
abbrev w_Mo_init : List Cond := Cond.code y_Mo_init b_Mo_init 7 none :: kw_all
theorem kcode_Mo_init : Cond.code y_Mo_init b_Mo_init 7 none ∈ kw_all := kw_t 230 (by decide +kernel) (by decide +kernel)
abbrev b_Ru_init : ByteArray := prog_4_method_1_code
abbrev y_Ru_init : MethodName := ⟨"ModelMerge$Rule", "<init>", "(III)V"⟩
abbrev w_Ru_init : List Cond := Cond.code y_Ru_init b_Ru_init 4 none :: kw_all
theorem kcode_Ru_init : Cond.code y_Ru_init b_Ru_init 4 none ∈ kw_all := kw_t 417 (by decide +kernel) (by decide +kernel)
abbrev b_Se_init : ByteArray := prog_5_method_1_code
abbrev y_Se_init : MethodName := ⟨"ModelMerge$Session", "<init>", "(IILModelMerge$Version;)V"⟩
abbrev w_Se_init : List Cond := Cond.code y_Se_init b_Se_init 4 none :: kw_all
theorem kcode_Se_init : Cond.code y_Se_init b_Se_init 4 none ∈ kw_all := kw_t 222 (by decide +kernel) (by decide +kernel)
abbrev b_Se_isFull : ByteArray := prog_5_method_2_code
abbrev y_Se_isFull : MethodName := ⟨"ModelMerge$Session", "isFull", "()Z"⟩
abbrev w_Se_isFull : List Cond := Cond.code y_Se_isFull b_Se_isFull 1 (some .boolean) :: kw_all
theorem kcode_Se_isFull : Cond.code y_Se_isFull b_Se_isFull 1 (some .boolean) ∈ kw_all := kw_t 321 (by decide +kernel) (by decide +kernel)
abbrev b_Se_change : ByteArray := prog_5_method_3_code
abbrev y_Se_change : MethodName := ⟨"ModelMerge$Session", "change", "(III)I"⟩
abbrev w_Se_change : List Cond := Cond.code y_Se_change b_Se_change 6 (some .int) :: kw_all
theorem kcode_Se_change : Cond.code y_Se_change b_Se_change 6 (some .int) ∈ kw_all := kw_t 325 (by decide +kernel) (by decide +kernel)
abbrev b_Se_stepForward : ByteArray := prog_5_method_4_code
abbrev y_Se_stepForward : MethodName := ⟨"ModelMerge$Session", "stepForward", "()I"⟩
abbrev w_Se_stepForward : List Cond := Cond.code y_Se_stepForward b_Se_stepForward 2 (some .int) :: kw_all
theorem kcode_Se_stepForward : Cond.code y_Se_stepForward b_Se_stepForward 2 (some .int) ∈ kw_all := kw_t 339 (by decide +kernel) (by decide +kernel)
abbrev b_Se_stepBack : ByteArray := prog_5_method_5_code
abbrev y_Se_stepBack : MethodName := ⟨"ModelMerge$Session", "stepBack", "()I"⟩
abbrev w_Se_stepBack : List Cond := Cond.code y_Se_stepBack b_Se_stepBack 3 (some .int) :: kw_all
theorem kcode_Se_stepBack : Cond.code y_Se_stepBack b_Se_stepBack 3 (some .int) ∈ kw_all := kw_t 390 (by decide +kernel) (by decide +kernel)
abbrev b_St_init : ByteArray := prog_6_method_1_code
abbrev y_St_init : MethodName := ⟨"ModelMerge$State", "<init>", "()V"⟩
abbrev w_St_init : List Cond := Cond.code y_St_init b_St_init 1 none :: kw_all
theorem kcode_St_init : Cond.code y_St_init b_St_init 1 none ∈ kw_all := kw_t 55 (by decide +kernel) (by decide +kernel)
abbrev b_St_has : ByteArray := prog_6_method_2_code
abbrev y_St_has : MethodName := ⟨"ModelMerge$State", "has", "(I)Z"⟩
abbrev w_St_has : List Cond := Cond.code y_St_has b_St_has 2 (some .boolean) :: kw_all
theorem kcode_St_has : Cond.code y_St_has b_St_has 2 (some .boolean) ∈ kw_all := kw_t 367 (by decide +kernel) (by decide +kernel)
abbrev b_St_value : ByteArray := prog_6_method_3_code
abbrev y_St_value : MethodName := ⟨"ModelMerge$State", "value", "(II)I"⟩
abbrev w_St_value : List Cond := Cond.code y_St_value b_St_value 3 (some .int) :: kw_all
theorem kcode_St_value : Cond.code y_St_value b_St_value 3 (some .int) ∈ kw_all := kw_t 329 (by decide +kernel) (by decide +kernel)
abbrev b_St_put : ByteArray := prog_6_method_4_code
abbrev y_St_put : MethodName := ⟨"ModelMerge$State", "put", "(III)V"⟩
abbrev w_St_put : List Cond := Cond.code y_St_put b_St_put 4 none :: kw_all
theorem kcode_St_put : Cond.code y_St_put b_St_put 4 none ∈ kw_all := kw_t 343 (by decide +kernel) (by decide +kernel)
abbrev b_St_copyThing : ByteArray := prog_6_method_5_code
abbrev y_St_copyThing : MethodName := ⟨"ModelMerge$State", "copyThing", "(LModelMerge$State;I)V"⟩
abbrev w_St_copyThing : List Cond := Cond.code y_St_copyThing b_St_copyThing 5 none :: kw_all
theorem kcode_St_copyThing : Cond.code y_St_copyThing b_St_copyThing 5 none ∈ kw_all := kw_t 475 (by decide +kernel) (by decide +kernel)
abbrev b_St_copyAll : ByteArray := prog_6_method_6_code
abbrev y_St_copyAll : MethodName := ⟨"ModelMerge$State", "copyAll", "(LModelMerge$State;)V"⟩
abbrev w_St_copyAll : List Cond := Cond.code y_St_copyAll b_St_copyAll 2 none :: kw_all
theorem kcode_St_copyAll : Cond.code y_St_copyAll b_St_copyAll 2 none ∈ kw_all := kw_t 265 (by decide +kernel) (by decide +kernel)
abbrev b_St_isCell : ByteArray := prog_6_method_7_code
abbrev y_St_isCell : MethodName := ⟨"ModelMerge$State", "isCell", "(II)Z"⟩
abbrev w_St_isCell : List Cond := Cond.code y_St_isCell b_St_isCell 2 (some .boolean) :: kw_all
theorem kcode_St_isCell : Cond.code y_St_isCell b_St_isCell 2 (some .boolean) ∈ kw_all := kw_t 332 (by decide +kernel) (by decide +kernel)
abbrev b_St_cellOf : ByteArray := prog_6_method_8_code
abbrev y_St_cellOf : MethodName := ⟨"ModelMerge$State", "cellOf", "(II)I"⟩
abbrev w_St_cellOf : List Cond := Cond.code y_St_cellOf b_St_cellOf 2 (some .int) :: kw_all
theorem kcode_St_cellOf : Cond.code y_St_cellOf b_St_cellOf 2 (some .int) ∈ kw_all := kw_t 335 (by decide +kernel) (by decide +kernel)
abbrev b_Ve_init : ByteArray := prog_7_method_1_code
abbrev y_Ve_init : MethodName := ⟨"ModelMerge$Version", "<init>", "(IILModelMerge$State;)V"⟩
abbrev w_Ve_init : List Cond := Cond.code y_Ve_init b_Ve_init 4 none :: kw_all
theorem kcode_Ve_init : Cond.code y_Ve_init b_Ve_init 4 none ∈ kw_all := kw_t 63 (by decide +kernel) (by decide +kernel)
abbrev b_Ve_traceOrigins : ByteArray := prog_7_method_2_code
abbrev y_Ve_traceOrigins : MethodName := ⟨"ModelMerge$Version", "traceOrigins", "(LModelMerge$Version;)V"⟩
abbrev w_Ve_traceOrigins : List Cond := Cond.code y_Ve_traceOrigins b_Ve_traceOrigins 6 none :: kw_all
theorem kcode_Ve_traceOrigins : Cond.code y_Ve_traceOrigins b_Ve_traceOrigins 6 none ∈ kw_all := kw_t 500 (by decide +kernel) (by decide +kernel)
abbrev b_Ve_origin : ByteArray := prog_7_method_3_code
abbrev y_Ve_origin : MethodName := ⟨"ModelMerge$Version", "origin", "(II)I"⟩
abbrev w_Ve_origin : List Cond := Cond.code y_Ve_origin b_Ve_origin 4 (some .int) :: kw_all
theorem kcode_Ve_origin : Cond.code y_Ve_origin b_Ve_origin 4 (some .int) ∈ kw_all := kw_t 506 (by decide +kernel) (by decide +kernel)
abbrev b_Ve_countNewFields : ByteArray := prog_7_method_4_code
abbrev y_Ve_countNewFields : MethodName := ⟨"ModelMerge$Version", "countNewFields", "(I)I"⟩
abbrev w_Ve_countNewFields : List Cond := Cond.code y_Ve_countNewFields b_Ve_countNewFields 4 (some .int) :: kw_all
theorem kcode_Ve_countNewFields : Cond.code y_Ve_countNewFields b_Ve_countNewFields 4 (some .int) ∈ kw_all := kw_t 583 (by decide +kernel) (by decide +kernel)
abbrev b_La_session : ByteArray := method_3_code
abbrev y_La_session : MethodName := ⟨"ModelMergeLaw", "session", "(LModelMerge;II[J)I"⟩
abbrev w_La_session : List Cond := Cond.codeWith y_La_session b_La_session 5 (some .int) [(0, 10, 13, 13), (0, 10, 17, 15)] :: kw_all
theorem kcode_La_session : Cond.codeWith y_La_session b_La_session 5 (some .int) [(0, 10, 13, 13), (0, 10, 17, 15)] ∈ kw_all := kw_t 121 (by decide +kernel) (by decide +kernel)
abbrev b_La_make : ByteArray := method_4_code
abbrev y_La_make : MethodName := ⟨"ModelMergeLaw", "make", "(LModelMerge;II[J)I"⟩
abbrev w_La_make : List Cond := Cond.codeWith y_La_make b_La_make 5 (some .int) [(0, 10, 13, 13), (0, 10, 17, 15)] :: kw_all
theorem kcode_La_make : Cond.codeWith y_La_make b_La_make 5 (some .int) [(0, 10, 13, 13), (0, 10, 17, 15)] ∈ kw_all := kw_t 304 (by decide +kernel) (by decide +kernel)
abbrev b_La_set : ByteArray := method_5_code
abbrev y_La_set : MethodName := ⟨"ModelMergeLaw", "set", "(LModelMerge;IIII[J)I"⟩
abbrev w_La_set : List Cond := Cond.codeWith y_La_set b_La_set 7 (some .int) [(0, 14, 17, 13), (0, 14, 21, 15)] :: kw_all
theorem kcode_La_set : Cond.codeWith y_La_set b_La_set 7 (some .int) [(0, 14, 17, 13), (0, 14, 21, 15)] ∈ kw_all := kw_t 346 (by decide +kernel) (by decide +kernel)
abbrev b_La_drop : ByteArray := method_6_code
abbrev y_La_drop : MethodName := ⟨"ModelMergeLaw", "drop", "(LModelMerge;II[J)I"⟩
abbrev w_La_drop : List Cond := Cond.codeWith y_La_drop b_La_drop 5 (some .int) [(0, 10, 13, 13), (0, 10, 17, 15)] :: kw_all
theorem kcode_La_drop : Cond.codeWith y_La_drop b_La_drop 5 (some .int) [(0, 10, 13, 13), (0, 10, 17, 15)] ∈ kw_all := kw_t 375 (by decide +kernel) (by decide +kernel)
abbrev b_La_undo : ByteArray := method_7_code
abbrev y_La_undo : MethodName := ⟨"ModelMergeLaw", "undo", "(LModelMerge;I[J)I"⟩
abbrev w_La_undo : List Cond := Cond.codeWith y_La_undo b_La_undo 4 (some .int) [(0, 9, 12, 13), (0, 9, 15, 15)] :: kw_all
theorem kcode_La_undo : Cond.codeWith y_La_undo b_La_undo 4 (some .int) [(0, 9, 12, 13), (0, 9, 15, 15)] ∈ kw_all := kw_t 382 (by decide +kernel) (by decide +kernel)
abbrev b_La_redo : ByteArray := method_8_code
abbrev y_La_redo : MethodName := ⟨"ModelMergeLaw", "redo", "(LModelMerge;I[J)I"⟩
abbrev w_La_redo : List Cond := Cond.codeWith y_La_redo b_La_redo 4 (some .int) [(0, 9, 12, 13), (0, 9, 15, 15)] :: kw_all
theorem kcode_La_redo : Cond.codeWith y_La_redo b_La_redo 4 (some .int) [(0, 9, 12, 13), (0, 9, 15, 15)] ∈ kw_all := kw_t 393 (by decide +kernel) (by decide +kernel)
abbrev b_La_lock : ByteArray := method_9_code
abbrev y_La_lock : MethodName := ⟨"ModelMergeLaw", "lock", "(LModelMerge;II[J)I"⟩
abbrev w_La_lock : List Cond := Cond.codeWith y_La_lock b_La_lock 5 (some .int) [(0, 10, 13, 13)] :: kw_all
theorem kcode_La_lock : Cond.codeWith y_La_lock b_La_lock 5 (some .int) [(0, 10, 13, 13)] ∈ kw_all := kw_t 401 (by decide +kernel) (by decide +kernel)
abbrev b_La_rule : ByteArray := method_10_code
abbrev y_La_rule : MethodName := ⟨"ModelMergeLaw", "rule", "(LModelMerge;III[J)I"⟩
abbrev w_La_rule : List Cond := Cond.codeWith y_La_rule b_La_rule 6 (some .int) [(0, 12, 15, 13), (0, 12, 19, 15)] :: kw_all
theorem kcode_La_rule : Cond.codeWith y_La_rule b_La_rule 6 (some .int) [(0, 12, 15, 13), (0, 12, 19, 15)] ∈ kw_all := kw_t 408 (by decide +kernel) (by decide +kernel)
abbrev b_La_join : ByteArray := method_11_code
abbrev y_La_join : MethodName := ⟨"ModelMergeLaw", "join", "(LModelMerge;I[J)I"⟩
abbrev w_La_join : List Cond := Cond.codeWith y_La_join b_La_join 4 (some .int) [(0, 9, 12, 13), (0, 9, 15, 15)] :: kw_all
theorem kcode_La_join : Cond.codeWith y_La_join b_La_join 4 (some .int) [(0, 9, 12, 13), (0, 9, 15, 15)] ∈ kw_all := kw_t 434 (by decide +kernel) (by decide +kernel)
abbrev b_La_conflict : ByteArray := method_12_code
abbrev y_La_conflict : MethodName := ⟨"ModelMergeLaw", "conflict", "(LModelMerge;II[J)I"⟩
abbrev w_La_conflict : List Cond := Cond.codeWith y_La_conflict b_La_conflict 5 (some .int) [(0, 10, 13, 13), (0, 10, 17, 15)] :: kw_all
theorem kcode_La_conflict : Cond.codeWith y_La_conflict b_La_conflict 5 (some .int) [(0, 10, 13, 13), (0, 10, 17, 15)] ∈ kw_all := kw_t 509 (by decide +kernel) (by decide +kernel)
abbrev b_La_settle : ByteArray := method_13_code
abbrev y_La_settle : MethodName := ⟨"ModelMergeLaw", "settle", "(LModelMerge;II[J)I"⟩
abbrev w_La_settle : List Cond := Cond.codeWith y_La_settle b_La_settle 5 (some .int) [(0, 10, 13, 13), (0, 10, 17, 15)] :: kw_all
theorem kcode_La_settle : Cond.codeWith y_La_settle b_La_settle 5 (some .int) [(0, 10, 13, 13), (0, 10, 17, 15)] ∈ kw_all := kw_t 525 (by decide +kernel) (by decide +kernel)
abbrev b_La_giveUp : ByteArray := method_14_code
abbrev y_La_giveUp : MethodName := ⟨"ModelMergeLaw", "giveUp", "(LModelMerge;[J)I"⟩
abbrev w_La_giveUp : List Cond := Cond.codeWith y_La_giveUp b_La_giveUp 3 (some .int) [(0, 8, 11, 15)] :: kw_all
theorem kcode_La_giveUp : Cond.codeWith y_La_giveUp b_La_giveUp 3 (some .int) [(0, 8, 11, 15)] ∈ kw_all := kw_t 545 (by decide +kernel) (by decide +kernel)
abbrev b_La_here : ByteArray := method_15_code
abbrev y_La_here : MethodName := ⟨"ModelMergeLaw", "here", "(LModelMerge;II[J)I"⟩
abbrev w_La_here : List Cond := Cond.codeWith y_La_here b_La_here 5 (some .int) [(0, 10, 13, 13)] :: kw_all
theorem kcode_La_here : Cond.codeWith y_La_here b_La_here 5 (some .int) [(0, 10, 13, 13)] ∈ kw_all := kw_t 552 (by decide +kernel) (by decide +kernel)
abbrev b_La_now : ByteArray := method_16_code
abbrev y_La_now : MethodName := ⟨"ModelMergeLaw", "now", "(LModelMerge;III[J)I"⟩
abbrev w_La_now : List Cond := Cond.codeWith y_La_now b_La_now 6 (some .int) [(0, 12, 15, 13)] :: kw_all
theorem kcode_La_now : Cond.codeWith y_La_now b_La_now 6 (some .int) [(0, 12, 15, 13)] ∈ kw_all := kw_t 559 (by decide +kernel) (by decide +kernel)
abbrev b_La_there : ByteArray := method_17_code
abbrev y_La_there : MethodName := ⟨"ModelMergeLaw", "there", "(LModelMerge;III[J)I"⟩
abbrev w_La_there : List Cond := Cond.codeWith y_La_there b_La_there 6 (some .int) [(0, 12, 15, 13)] :: kw_all
theorem kcode_La_there : Cond.codeWith y_La_there b_La_there 6 (some .int) [(0, 12, 15, 13)] ∈ kw_all := kw_t 571 (by decide +kernel) (by decide +kernel)
abbrev b_La_at : ByteArray := method_18_code
abbrev y_La_at : MethodName := ⟨"ModelMergeLaw", "at", "(LModelMerge;III[J)I"⟩
abbrev w_La_at : List Cond := Cond.codeWith y_La_at b_La_at 6 (some .int) [(0, 12, 15, 13)] :: kw_all
theorem kcode_La_at : Cond.codeWith y_La_at b_La_at 6 (some .int) [(0, 12, 15, 13)] ∈ kw_all := kw_t 587 (by decide +kernel) (by decide +kernel)
abbrev b_La_since : ByteArray := method_19_code
abbrev y_La_since : MethodName := ⟨"ModelMergeLaw", "since", "(LModelMerge;III[J)I"⟩
abbrev w_La_since : List Cond := Cond.codeWith y_La_since b_La_since 6 (some .int) [(0, 12, 15, 13)] :: kw_all
theorem kcode_La_since : Cond.codeWith y_La_since b_La_since 6 (some .int) [(0, 12, 15, 13)] ∈ kw_all := kw_t 594 (by decide +kernel) (by decide +kernel)
abbrev b_La_told : ByteArray := method_20_code
abbrev y_La_told : MethodName := ⟨"ModelMergeLaw", "told", "(LModelMerge;II[J)I"⟩
abbrev w_La_told : List Cond := Cond.codeWith y_La_told b_La_told 5 (some .int) [(0, 10, 13, 13)] :: kw_all
theorem kcode_La_told : Cond.codeWith y_La_told b_La_told 5 (some .int) [(0, 10, 13, 13)] ∈ kw_all := kw_t 602 (by decide +kernel) (by decide +kernel)
abbrev b_La_author : ByteArray := method_21_code
abbrev y_La_author : MethodName := ⟨"ModelMergeLaw", "author", "(LModelMerge;I[J)I"⟩
abbrev w_La_author : List Cond := Cond.codeWith y_La_author b_La_author 4 (some .int) [(0, 9, 12, 13)] :: kw_all
theorem kcode_La_author : Cond.codeWith y_La_author b_La_author 4 (some .int) [(0, 9, 12, 13)] ∈ kw_all := kw_t 610 (by decide +kernel) (by decide +kernel)
abbrev b_La_count : ByteArray := method_22_code
abbrev y_La_count : MethodName := ⟨"ModelMergeLaw", "count", "(LModelMerge;I[J)I"⟩
abbrev w_La_count : List Cond := Cond.codeWith y_La_count b_La_count 4 (some .int) [(0, 9, 12, 13)] :: kw_all
theorem kcode_La_count : Cond.codeWith y_La_count b_La_count 4 (some .int) [(0, 9, 12, 13)] ∈ kw_all := kw_t 618 (by decide +kernel) (by decide +kernel)
abbrev b_La_differs : ByteArray := method_23_code
abbrev y_La_differs : MethodName := ⟨"ModelMergeLaw", "differs", "(LModelMerge;III[J)I"⟩
abbrev w_La_differs : List Cond := Cond.codeWith y_La_differs b_La_differs 6 (some .int) [(0, 12, 15, 13)] :: kw_all
theorem kcode_La_differs : Cond.codeWith y_La_differs b_La_differs 6 (some .int) [(0, 12, 15, 13)] ∈ kw_all := kw_t 626 (by decide +kernel) (by decide +kernel)
abbrev b_La_broken : ByteArray := method_24_code
abbrev y_La_broken : MethodName := ⟨"ModelMergeLaw", "broken", "(LModelMerge;II[J)I"⟩
abbrev w_La_broken : List Cond := Cond.codeWith y_La_broken b_La_broken 5 (some .int) [(0, 10, 13, 13)] :: kw_all
theorem kcode_La_broken : Cond.codeWith y_La_broken b_La_broken 5 (some .int) [(0, 10, 13, 13)] ∈ kw_all := kw_t 636 (by decide +kernel) (by decide +kernel)
abbrev b_La_law : ByteArray := code
end
section
theorem d_MM_init_0 : decode b_MM_init 0 = .ok (.aload_n 0, 1) := by decide +kernel
theorem d_MM_init_1 : decode b_MM_init 1 = .ok (.invokespecial 3, 3) := by decide +kernel
theorem d_MM_init_4 : decode b_MM_init 4 = .ok (.aload_n 0, 1) := by decide +kernel
theorem d_MM_init_5 : decode b_MM_init 5 = .ok (.bipush 60, 2) := by decide +kernel
theorem d_MM_init_7 : decode b_MM_init 7 = .ok (.newarray .int, 2) := by decide +kernel
theorem d_MM_init_9 : decode b_MM_init 9 = .ok (.putfield 9, 3) := by decide +kernel
theorem d_MM_init_12 : decode b_MM_init 12 = .ok (.aload_n 0, 1) := by decide +kernel
theorem d_MM_init_13 : decode b_MM_init 13 = .ok (.bipush 60, 2) := by decide +kernel
theorem d_MM_init_15 : decode b_MM_init 15 = .ok (.newarray .int, 2) := by decide +kernel
theorem d_MM_init_17 : decode b_MM_init 17 = .ok (.putfield 13, 3) := by decide +kernel
theorem d_MM_init_20 : decode b_MM_init 20 = .ok (.aload_n 0, 1) := by decide +kernel
theorem d_MM_init_21 : decode b_MM_init 21 = .ok (.iconst 0, 1) := by decide +kernel
theorem d_MM_init_22 : decode b_MM_init 22 = .ok (.putfield 16, 3) := by decide +kernel
theorem d_MM_init_25 : decode b_MM_init 25 = .ok (.aload_n 0, 1) := by decide +kernel
theorem d_MM_init_26 : decode b_MM_init 26 = .ok (.bipush 20, 2) := by decide +kernel
theorem d_MM_init_28 : decode b_MM_init 28 = .ok (.anewarray 20, 3) := by decide +kernel
theorem d_MM_init_31 : decode b_MM_init 31 = .ok (.putfield 22, 3) := by decide +kernel
theorem d_MM_init_34 : decode b_MM_init 34 = .ok (.aload_n 0, 1) := by decide +kernel
theorem d_MM_init_35 : decode b_MM_init 35 = .ok (.iconst 0, 1) := by decide +kernel
theorem d_MM_init_36 : decode b_MM_init 36 = .ok (.putfield 26, 3) := by decide +kernel
theorem d_MM_init_39 : decode b_MM_init 39 = .ok (.aload_n 0, 1) := by decide +kernel
theorem d_MM_init_40 : decode b_MM_init 40 = .ok (.bipush 40, 2) := by decide +kernel
theorem d_MM_init_42 : decode b_MM_init 42 = .ok (.anewarray 29, 3) := by decide +kernel
theorem d_MM_init_45 : decode b_MM_init 45 = .ok (.putfield 31, 3) := by decide +kernel
theorem d_MM_init_48 : decode b_MM_init 48 = .ok (.aload_n 0, 1) := by decide +kernel
theorem d_MM_init_49 : decode b_MM_init 49 = .ok (.iconst 0, 1) := by decide +kernel
theorem d_MM_init_50 : decode b_MM_init 50 = .ok (.putfield 35, 3) := by decide +kernel
theorem d_MM_init_53 : decode b_MM_init 53 = .ok (.aload_n 0, 1) := by decide +kernel
theorem d_MM_init_54 : decode b_MM_init 54 = .ok (.bipush 10, 2) := by decide +kernel
theorem d_MM_init_56 : decode b_MM_init 56 = .ok (.anewarray 38, 3) := by decide +kernel
theorem d_MM_init_59 : decode b_MM_init 59 = .ok (.putfield 40, 3) := by decide +kernel
theorem d_MM_init_62 : decode b_MM_init 62 = .ok (.aload_n 0, 1) := by decide +kernel
theorem d_MM_init_63 : decode b_MM_init 63 = .ok (.iconst 0, 1) := by decide +kernel
theorem d_MM_init_64 : decode b_MM_init 64 = .ok (.putfield 44, 3) := by decide +kernel
theorem d_MM_init_67 : decode b_MM_init 67 = .ok (.aload_n 0, 1) := by decide +kernel
theorem d_MM_init_68 : decode b_MM_init 68 = .ok (.new 47, 3) := by decide +kernel
theorem d_MM_init_71 : decode b_MM_init 71 = .ok (.dup, 1) := by decide +kernel
theorem d_MM_init_72 : decode b_MM_init 72 = .ok (.invokespecial 49, 3) := by decide +kernel
theorem d_MM_init_75 : decode b_MM_init 75 = .ok (.putfield 50, 3) := by decide +kernel
theorem d_MM_init_78 : decode b_MM_init 78 = .ok (.aload_n 0, 1) := by decide +kernel
theorem d_MM_init_79 : decode b_MM_init 79 = .ok (.aconst_null, 1) := by decide +kernel
theorem d_MM_init_80 : decode b_MM_init 80 = .ok (.putfield 54, 3) := by decide +kernel
theorem d_MM_init_83 : decode b_MM_init 83 = .ok (.aload_n 0, 1) := by decide +kernel
theorem d_MM_init_84 : decode b_MM_init 84 = .ok (.new 29, 3) := by decide +kernel
theorem d_MM_init_87 : decode b_MM_init 87 = .ok (.dup, 1) := by decide +kernel
theorem d_MM_init_88 : decode b_MM_init 88 = .ok (.iconst 0, 1) := by decide +kernel
theorem d_MM_init_89 : decode b_MM_init 89 = .ok (.iconst (-1), 1) := by decide +kernel
theorem d_MM_init_90 : decode b_MM_init 90 = .ok (.new 58, 3) := by decide +kernel
theorem d_MM_init_93 : decode b_MM_init 93 = .ok (.dup, 1) := by decide +kernel
theorem d_MM_init_94 : decode b_MM_init 94 = .ok (.invokespecial 60, 3) := by decide +kernel
theorem d_MM_init_97 : decode b_MM_init 97 = .ok (.invokespecial 61, 3) := by decide +kernel
theorem d_MM_init_100 : decode b_MM_init 100 = .ok (.putfield 64, 3) := by decide +kernel
theorem d_MM_init_103 : decode b_MM_init 103 = .ok (.aload_n 0, 1) := by decide +kernel
theorem d_MM_init_104 : decode b_MM_init 104 = .ok (.getfield 31, 3) := by decide +kernel
theorem d_MM_init_107 : decode b_MM_init 107 = .ok (.iconst 0, 1) := by decide +kernel
theorem d_MM_init_108 : decode b_MM_init 108 = .ok (.aload_n 0, 1) := by decide +kernel
theorem d_MM_init_109 : decode b_MM_init 109 = .ok (.getfield 64, 3) := by decide +kernel
theorem d_MM_init_112 : decode b_MM_init 112 = .ok (.aastore, 1) := by decide +kernel
theorem d_MM_init_113 : decode b_MM_init 113 = .ok (.aload_n 0, 1) := by decide +kernel
theorem d_MM_init_114 : decode b_MM_init 114 = .ok (.iconst 1, 1) := by decide +kernel
theorem d_MM_init_115 : decode b_MM_init 115 = .ok (.putfield 35, 3) := by decide +kernel
theorem d_MM_init_118 : decode b_MM_init 118 = .ok (.return_, 1) := by decide +kernel
theorem d_MM_session_0 : decode b_MM_session 0 = .ok (.iload_n 1, 1) := by decide +kernel
theorem d_MM_session_1 : decode b_MM_session 1 = .ok (.bipush 10, 2) := by decide +kernel
theorem d_MM_session_3 : decode b_MM_session 3 = .ok (.invokestatic 68, 3) := by decide +kernel
theorem d_MM_session_6 : decode b_MM_session 6 = .ok (.aload_n 0, 1) := by decide +kernel
theorem d_MM_session_7 : decode b_MM_session 7 = .ok (.iload_n 2, 1) := by decide +kernel
theorem d_MM_session_8 : decode b_MM_session 8 = .ok (.invokevirtual 72, 3) := by decide +kernel
theorem d_MM_session_11 : decode b_MM_session 11 = .ok (.astore_n 3, 1) := by decide +kernel
theorem d_MM_session_12 : decode b_MM_session 12 = .ok (.aload_n 0, 1) := by decide +kernel
theorem d_MM_session_13 : decode b_MM_session 13 = .ok (.getfield 26, 3) := by decide +kernel
theorem d_MM_session_16 : decode b_MM_session 16 = .ok (.bipush 20, 2) := by decide +kernel
theorem d_MM_session_18 : decode b_MM_session 18 = .ok (.if_icmp .lt 13, 3) := by decide +kernel
theorem d_MM_session_21 : decode b_MM_session 21 = .ok (.new 76, 3) := by decide +kernel
theorem d_MM_session_24 : decode b_MM_session 24 = .ok (.dup, 1) := by decide +kernel
theorem d_MM_session_25 : decode b_MM_session 25 = .ok (.ldc 78, 2) := by decide +kernel
theorem d_MM_session_27 : decode b_MM_session 27 = .ok (.invokespecial 80, 3) := by decide +kernel
theorem d_MM_session_30 : decode b_MM_session 30 = .ok (.athrow, 1) := by decide +kernel
theorem d_MM_session_31 : decode b_MM_session 31 = .ok (.aload_n 0, 1) := by decide +kernel
theorem d_MM_session_32 : decode b_MM_session 32 = .ok (.getfield 26, 3) := by decide +kernel
theorem d_MM_session_35 : decode b_MM_session 35 = .ok (.istore 4, 2) := by decide +kernel
theorem d_MM_session_37 : decode b_MM_session 37 = .ok (.aload_n 0, 1) := by decide +kernel
theorem d_MM_session_38 : decode b_MM_session 38 = .ok (.getfield 22, 3) := by decide +kernel
theorem d_MM_session_41 : decode b_MM_session 41 = .ok (.iload 4, 2) := by decide +kernel
theorem d_MM_session_43 : decode b_MM_session 43 = .ok (.new 20, 3) := by decide +kernel
theorem d_MM_session_46 : decode b_MM_session 46 = .ok (.dup, 1) := by decide +kernel
theorem d_MM_session_47 : decode b_MM_session 47 = .ok (.iload 4, 2) := by decide +kernel
theorem d_MM_session_49 : decode b_MM_session 49 = .ok (.iload_n 1, 1) := by decide +kernel
theorem d_MM_session_50 : decode b_MM_session 50 = .ok (.aload_n 3, 1) := by decide +kernel
theorem d_MM_session_51 : decode b_MM_session 51 = .ok (.invokespecial 83, 3) := by decide +kernel
theorem d_MM_session_54 : decode b_MM_session 54 = .ok (.aastore, 1) := by decide +kernel
theorem d_MM_session_55 : decode b_MM_session 55 = .ok (.aload_n 0, 1) := by decide +kernel
theorem d_MM_session_56 : decode b_MM_session 56 = .ok (.dup, 1) := by decide +kernel
theorem d_MM_session_57 : decode b_MM_session 57 = .ok (.getfield 26, 3) := by decide +kernel
theorem d_MM_session_60 : decode b_MM_session 60 = .ok (.iconst 1, 1) := by decide +kernel
theorem d_MM_session_61 : decode b_MM_session 61 = .ok (.iadd, 1) := by decide +kernel
theorem d_MM_session_62 : decode b_MM_session 62 = .ok (.putfield 26, 3) := by decide +kernel
theorem d_MM_session_65 : decode b_MM_session 65 = .ok (.iload 4, 2) := by decide +kernel
theorem d_MM_session_67 : decode b_MM_session 67 = .ok (.ireturn, 1) := by decide +kernel
theorem d_MM_make_0 : decode b_MM_make 0 = .ok (.aload_n 0, 1) := by decide +kernel
theorem d_MM_make_1 : decode b_MM_make 1 = .ok (.iload_n 1, 1) := by decide +kernel
theorem d_MM_make_2 : decode b_MM_make 2 = .ok (.invokevirtual 86, 3) := by decide +kernel
theorem d_MM_make_5 : decode b_MM_make 5 = .ok (.astore_n 3, 1) := by decide +kernel
theorem d_MM_make_6 : decode b_MM_make 6 = .ok (.iload_n 2, 1) := by decide +kernel
theorem d_MM_make_7 : decode b_MM_make 7 = .ok (.iconst 5, 1) := by decide +kernel
theorem d_MM_make_8 : decode b_MM_make 8 = .ok (.invokestatic 68, 3) := by decide +kernel
theorem d_MM_make_11 : decode b_MM_make 11 = .ok (.aload_n 3, 1) := by decide +kernel
theorem d_MM_make_12 : decode b_MM_make 12 = .ok (.invokestatic 90, 3) := by decide +kernel
theorem d_MM_make_15 : decode b_MM_make 15 = .ok (.aload_n 0, 1) := by decide +kernel
theorem d_MM_make_16 : decode b_MM_make 16 = .ok (.getfield 16, 3) := by decide +kernel
theorem d_MM_make_19 : decode b_MM_make 19 = .ok (.bipush 60, 2) := by decide +kernel
theorem d_MM_make_21 : decode b_MM_make 21 = .ok (.if_icmp .ge 10, 3) := by decide +kernel
theorem d_MM_make_24 : decode b_MM_make 24 = .ok (.aload_n 3, 1) := by decide +kernel
theorem d_MM_make_25 : decode b_MM_make 25 = .ok (.invokevirtual 94, 3) := by decide +kernel
theorem d_MM_make_28 : decode b_MM_make 28 = .ok (.ifCond .eq 6, 3) := by decide +kernel
theorem d_MM_make_31 : decode b_MM_make 31 = .ok (.bipush (-4), 2) := by decide +kernel
theorem d_MM_make_33 : decode b_MM_make 33 = .ok (.ireturn, 1) := by decide +kernel
theorem d_MM_make_34 : decode b_MM_make 34 = .ok (.aload_n 0, 1) := by decide +kernel
theorem d_MM_make_35 : decode b_MM_make 35 = .ok (.getfield 16, 3) := by decide +kernel
theorem d_MM_make_38 : decode b_MM_make 38 = .ok (.istore 4, 2) := by decide +kernel
theorem d_MM_make_40 : decode b_MM_make 40 = .ok (.aload_n 0, 1) := by decide +kernel
theorem d_MM_make_41 : decode b_MM_make 41 = .ok (.getfield 9, 3) := by decide +kernel
theorem d_MM_make_44 : decode b_MM_make 44 = .ok (.iload 4, 2) := by decide +kernel
theorem d_MM_make_46 : decode b_MM_make 46 = .ok (.iload_n 2, 1) := by decide +kernel
theorem d_MM_make_47 : decode b_MM_make 47 = .ok (.iastore, 1) := by decide +kernel
theorem d_MM_make_48 : decode b_MM_make 48 = .ok (.aload_n 0, 1) := by decide +kernel
theorem d_MM_make_49 : decode b_MM_make 49 = .ok (.getfield 13, 3) := by decide +kernel
theorem d_MM_make_52 : decode b_MM_make 52 = .ok (.iload 4, 2) := by decide +kernel
theorem d_MM_make_54 : decode b_MM_make 54 = .ok (.iconst (-1), 1) := by decide +kernel
theorem d_MM_make_55 : decode b_MM_make 55 = .ok (.iastore, 1) := by decide +kernel
theorem d_MM_make_56 : decode b_MM_make 56 = .ok (.aload_n 0, 1) := by decide +kernel
theorem d_MM_make_57 : decode b_MM_make 57 = .ok (.dup, 1) := by decide +kernel
theorem d_MM_make_58 : decode b_MM_make 58 = .ok (.getfield 16, 3) := by decide +kernel
theorem d_MM_make_61 : decode b_MM_make 61 = .ok (.iconst 1, 1) := by decide +kernel
theorem d_MM_make_62 : decode b_MM_make 62 = .ok (.iadd, 1) := by decide +kernel
theorem d_MM_make_63 : decode b_MM_make 63 = .ok (.putfield 16, 3) := by decide +kernel
theorem d_MM_make_66 : decode b_MM_make 66 = .ok (.aload_n 3, 1) := by decide +kernel
theorem d_MM_make_67 : decode b_MM_make 67 = .ok (.iload 4, 2) := by decide +kernel
theorem d_MM_make_69 : decode b_MM_make 69 = .ok (.iconst (-1), 1) := by decide +kernel
theorem d_MM_make_70 : decode b_MM_make 70 = .ok (.iconst 1, 1) := by decide +kernel
theorem d_MM_make_71 : decode b_MM_make 71 = .ok (.invokevirtual 98, 3) := by decide +kernel
theorem d_MM_make_74 : decode b_MM_make 74 = .ok (.pop, 1) := by decide +kernel
theorem d_MM_make_75 : decode b_MM_make 75 = .ok (.iload 4, 2) := by decide +kernel
theorem d_MM_make_77 : decode b_MM_make 77 = .ok (.ireturn, 1) := by decide +kernel
theorem d_MM_set_0 : decode b_MM_set 0 = .ok (.iload_n 3, 1) := by decide +kernel
theorem d_MM_set_1 : decode b_MM_set 1 = .ok (.iconst 5, 1) := by decide +kernel
theorem d_MM_set_2 : decode b_MM_set 2 = .ok (.invokestatic 68, 3) := by decide +kernel
theorem d_MM_set_5 : decode b_MM_set 5 = .ok (.aload_n 0, 1) := by decide +kernel
theorem d_MM_set_6 : decode b_MM_set 6 = .ok (.iload_n 1, 1) := by decide +kernel
theorem d_MM_set_7 : decode b_MM_set 7 = .ok (.iload_n 2, 1) := by decide +kernel
theorem d_MM_set_8 : decode b_MM_set 8 = .ok (.iload_n 3, 1) := by decide +kernel
theorem d_MM_set_9 : decode b_MM_set 9 = .ok (.iload 4, 2) := by decide +kernel
theorem d_MM_set_11 : decode b_MM_set 11 = .ok (.invokevirtual 102, 3) := by decide +kernel
theorem d_MM_set_14 : decode b_MM_set 14 = .ok (.ireturn, 1) := by decide +kernel
theorem d_MM_drop_0 : decode b_MM_drop 0 = .ok (.aload_n 0, 1) := by decide +kernel
theorem d_MM_drop_1 : decode b_MM_drop 1 = .ok (.iload_n 1, 1) := by decide +kernel
theorem d_MM_drop_2 : decode b_MM_drop 2 = .ok (.iload_n 2, 1) := by decide +kernel
theorem d_MM_drop_3 : decode b_MM_drop 3 = .ok (.iconst (-1), 1) := by decide +kernel
theorem d_MM_drop_4 : decode b_MM_drop 4 = .ok (.iconst 0, 1) := by decide +kernel
theorem d_MM_drop_5 : decode b_MM_drop 5 = .ok (.invokevirtual 102, 3) := by decide +kernel
theorem d_MM_drop_8 : decode b_MM_drop 8 = .ok (.ireturn, 1) := by decide +kernel
theorem d_MM_undo_0 : decode b_MM_undo 0 = .ok (.aload_n 0, 1) := by decide +kernel
theorem d_MM_undo_1 : decode b_MM_undo 1 = .ok (.iload_n 1, 1) := by decide +kernel
theorem d_MM_undo_2 : decode b_MM_undo 2 = .ok (.invokevirtual 86, 3) := by decide +kernel
theorem d_MM_undo_5 : decode b_MM_undo 5 = .ok (.astore_n 2, 1) := by decide +kernel
theorem d_MM_undo_6 : decode b_MM_undo 6 = .ok (.aload_n 2, 1) := by decide +kernel
theorem d_MM_undo_7 : decode b_MM_undo 7 = .ok (.invokestatic 90, 3) := by decide +kernel
theorem d_MM_undo_10 : decode b_MM_undo 10 = .ok (.aload_n 2, 1) := by decide +kernel
theorem d_MM_undo_11 : decode b_MM_undo 11 = .ok (.invokevirtual 106, 3) := by decide +kernel
theorem d_MM_undo_14 : decode b_MM_undo 14 = .ok (.ireturn, 1) := by decide +kernel
theorem d_MM_redo_0 : decode b_MM_redo 0 = .ok (.aload_n 0, 1) := by decide +kernel
theorem d_MM_redo_1 : decode b_MM_redo 1 = .ok (.iload_n 1, 1) := by decide +kernel
theorem d_MM_redo_2 : decode b_MM_redo 2 = .ok (.invokevirtual 86, 3) := by decide +kernel
theorem d_MM_redo_5 : decode b_MM_redo 5 = .ok (.astore_n 2, 1) := by decide +kernel
theorem d_MM_redo_6 : decode b_MM_redo 6 = .ok (.aload_n 2, 1) := by decide +kernel
theorem d_MM_redo_7 : decode b_MM_redo 7 = .ok (.invokestatic 90, 3) := by decide +kernel
theorem d_MM_redo_10 : decode b_MM_redo 10 = .ok (.aload_n 2, 1) := by decide +kernel
theorem d_MM_redo_11 : decode b_MM_redo 11 = .ok (.invokevirtual 110, 3) := by decide +kernel
theorem d_MM_redo_14 : decode b_MM_redo 14 = .ok (.ireturn, 1) := by decide +kernel
theorem d_MM_lock_0 : decode b_MM_lock 0 = .ok (.aload_n 0, 1) := by decide +kernel
theorem d_MM_lock_1 : decode b_MM_lock 1 = .ok (.iload_n 1, 1) := by decide +kernel
theorem d_MM_lock_2 : decode b_MM_lock 2 = .ok (.invokevirtual 113, 3) := by decide +kernel
theorem d_MM_lock_5 : decode b_MM_lock 5 = .ok (.iload_n 2, 1) := by decide +kernel
theorem d_MM_lock_6 : decode b_MM_lock 6 = .ok (.iconst (-1), 1) := by decide +kernel
theorem d_MM_lock_7 : decode b_MM_lock 7 = .ok (.if_icmp .eq 9, 3) := by decide +kernel
theorem d_MM_lock_10 : decode b_MM_lock 10 = .ok (.iload_n 2, 1) := by decide +kernel
theorem d_MM_lock_11 : decode b_MM_lock 11 = .ok (.bipush 10, 2) := by decide +kernel
theorem d_MM_lock_13 : decode b_MM_lock 13 = .ok (.invokestatic 68, 3) := by decide +kernel
theorem d_MM_lock_16 : decode b_MM_lock 16 = .ok (.aload_n 0, 1) := by decide +kernel
theorem d_MM_lock_17 : decode b_MM_lock 17 = .ok (.iload_n 1, 1) := by decide +kernel
theorem d_MM_lock_18 : decode b_MM_lock 18 = .ok (.invokevirtual 117, 3) := by decide +kernel
theorem d_MM_lock_21 : decode b_MM_lock 21 = .ok (.istore_n 3, 1) := by decide +kernel
theorem d_MM_lock_22 : decode b_MM_lock 22 = .ok (.aload_n 0, 1) := by decide +kernel
theorem d_MM_lock_23 : decode b_MM_lock 23 = .ok (.getfield 13, 3) := by decide +kernel
theorem d_MM_lock_26 : decode b_MM_lock 26 = .ok (.iload_n 1, 1) := by decide +kernel
theorem d_MM_lock_27 : decode b_MM_lock 27 = .ok (.iload_n 2, 1) := by decide +kernel
theorem d_MM_lock_28 : decode b_MM_lock 28 = .ok (.iastore, 1) := by decide +kernel
theorem d_MM_lock_29 : decode b_MM_lock 29 = .ok (.iload_n 3, 1) := by decide +kernel
theorem d_MM_lock_30 : decode b_MM_lock 30 = .ok (.ireturn, 1) := by decide +kernel
theorem d_MM_rule_0 : decode b_MM_rule 0 = .ok (.iload_n 1, 1) := by decide +kernel
theorem d_MM_rule_1 : decode b_MM_rule 1 = .ok (.iconst 5, 1) := by decide +kernel
theorem d_MM_rule_2 : decode b_MM_rule 2 = .ok (.invokestatic 68, 3) := by decide +kernel
theorem d_MM_rule_5 : decode b_MM_rule 5 = .ok (.iload_n 2, 1) := by decide +kernel
theorem d_MM_rule_6 : decode b_MM_rule 6 = .ok (.iconst 5, 1) := by decide +kernel
theorem d_MM_rule_7 : decode b_MM_rule 7 = .ok (.invokestatic 68, 3) := by decide +kernel
theorem d_MM_rule_10 : decode b_MM_rule 10 = .ok (.iload_n 3, 1) := by decide +kernel
theorem d_MM_rule_11 : decode b_MM_rule 11 = .ok (.iconst 5, 1) := by decide +kernel
theorem d_MM_rule_12 : decode b_MM_rule 12 = .ok (.invokestatic 68, 3) := by decide +kernel
theorem d_MM_rule_15 : decode b_MM_rule 15 = .ok (.aload_n 0, 1) := by decide +kernel
theorem d_MM_rule_16 : decode b_MM_rule 16 = .ok (.getfield 44, 3) := by decide +kernel
theorem d_MM_rule_19 : decode b_MM_rule 19 = .ok (.bipush 10, 2) := by decide +kernel
theorem d_MM_rule_21 : decode b_MM_rule 21 = .ok (.if_icmp .lt 13, 3) := by decide +kernel
theorem d_MM_rule_24 : decode b_MM_rule 24 = .ok (.new 76, 3) := by decide +kernel
theorem d_MM_rule_27 : decode b_MM_rule 27 = .ok (.dup, 1) := by decide +kernel
theorem d_MM_rule_28 : decode b_MM_rule 28 = .ok (.ldc 121, 2) := by decide +kernel
theorem d_MM_rule_30 : decode b_MM_rule 30 = .ok (.invokespecial 80, 3) := by decide +kernel
theorem d_MM_rule_33 : decode b_MM_rule 33 = .ok (.athrow, 1) := by decide +kernel
theorem d_MM_rule_34 : decode b_MM_rule 34 = .ok (.aload_n 0, 1) := by decide +kernel
theorem d_MM_rule_35 : decode b_MM_rule 35 = .ok (.getfield 44, 3) := by decide +kernel
theorem d_MM_rule_38 : decode b_MM_rule 38 = .ok (.istore 4, 2) := by decide +kernel
theorem d_MM_rule_40 : decode b_MM_rule 40 = .ok (.aload_n 0, 1) := by decide +kernel
theorem d_MM_rule_41 : decode b_MM_rule 41 = .ok (.getfield 40, 3) := by decide +kernel
theorem d_MM_rule_44 : decode b_MM_rule 44 = .ok (.iload 4, 2) := by decide +kernel
theorem d_MM_rule_46 : decode b_MM_rule 46 = .ok (.new 38, 3) := by decide +kernel
theorem d_MM_rule_49 : decode b_MM_rule 49 = .ok (.dup, 1) := by decide +kernel
theorem d_MM_rule_50 : decode b_MM_rule 50 = .ok (.iload_n 1, 1) := by decide +kernel
theorem d_MM_rule_51 : decode b_MM_rule 51 = .ok (.iload_n 2, 1) := by decide +kernel
theorem d_MM_rule_52 : decode b_MM_rule 52 = .ok (.iload_n 3, 1) := by decide +kernel
theorem d_MM_rule_53 : decode b_MM_rule 53 = .ok (.invokespecial 123, 3) := by decide +kernel
theorem d_MM_rule_56 : decode b_MM_rule 56 = .ok (.aastore, 1) := by decide +kernel
theorem d_MM_rule_57 : decode b_MM_rule 57 = .ok (.aload_n 0, 1) := by decide +kernel
theorem d_MM_rule_58 : decode b_MM_rule 58 = .ok (.dup, 1) := by decide +kernel
theorem d_MM_rule_59 : decode b_MM_rule 59 = .ok (.getfield 44, 3) := by decide +kernel
theorem d_MM_rule_62 : decode b_MM_rule 62 = .ok (.iconst 1, 1) := by decide +kernel
theorem d_MM_rule_63 : decode b_MM_rule 63 = .ok (.iadd, 1) := by decide +kernel
theorem d_MM_rule_64 : decode b_MM_rule 64 = .ok (.putfield 44, 3) := by decide +kernel
theorem d_MM_rule_67 : decode b_MM_rule 67 = .ok (.iload 4, 2) := by decide +kernel
theorem d_MM_rule_69 : decode b_MM_rule 69 = .ok (.ireturn, 1) := by decide +kernel
theorem d_MM_join_0 : decode b_MM_join 0 = .ok (.aload_n 0, 1) := by decide +kernel
theorem d_MM_join_1 : decode b_MM_join 1 = .ok (.iload_n 1, 1) := by decide +kernel
theorem d_MM_join_2 : decode b_MM_join 2 = .ok (.invokevirtual 86, 3) := by decide +kernel
theorem d_MM_join_5 : decode b_MM_join 5 = .ok (.astore_n 2, 1) := by decide +kernel
theorem d_MM_join_6 : decode b_MM_join 6 = .ok (.aload_n 2, 1) := by decide +kernel
theorem d_MM_join_7 : decode b_MM_join 7 = .ok (.invokestatic 90, 3) := by decide +kernel
theorem d_MM_join_10 : decode b_MM_join 10 = .ok (.aload_n 0, 1) := by decide +kernel
theorem d_MM_join_11 : decode b_MM_join 11 = .ok (.getfield 54, 3) := by decide +kernel
theorem d_MM_join_14 : decode b_MM_join 14 = .ok (.ifnull 6, 3) := by decide +kernel
theorem d_MM_join_17 : decode b_MM_join 17 = .ok (.bipush (-5), 2) := by decide +kernel
theorem d_MM_join_19 : decode b_MM_join 19 = .ok (.ireturn, 1) := by decide +kernel
theorem d_MM_join_20 : decode b_MM_join 20 = .ok (.aload_n 0, 1) := by decide +kernel
theorem d_MM_join_21 : decode b_MM_join 21 = .ok (.getfield 35, 3) := by decide +kernel
theorem d_MM_join_24 : decode b_MM_join 24 = .ok (.bipush 40, 2) := by decide +kernel
theorem d_MM_join_26 : decode b_MM_join 26 = .ok (.if_icmp .lt 6, 3) := by decide +kernel
theorem d_MM_join_29 : decode b_MM_join 29 = .ok (.bipush (-4), 2) := by decide +kernel
theorem d_MM_join_31 : decode b_MM_join 31 = .ok (.ireturn, 1) := by decide +kernel
theorem d_MM_join_32 : decode b_MM_join 32 = .ok (.aload_n 0, 1) := by decide +kernel
theorem d_MM_join_33 : decode b_MM_join 33 = .ok (.aload_n 2, 1) := by decide +kernel
theorem d_MM_join_34 : decode b_MM_join 34 = .ok (.invokevirtual 126, 3) := by decide +kernel
theorem d_MM_join_37 : decode b_MM_join 37 = .ok (.aload_n 0, 1) := by decide +kernel
theorem d_MM_join_38 : decode b_MM_join 38 = .ok (.getfield 50, 3) := by decide +kernel
theorem d_MM_join_41 : decode b_MM_join 41 = .ok (.getfield 129, 3) := by decide +kernel
theorem d_MM_join_44 : decode b_MM_join 44 = .ok (.ifCond .ne 10, 3) := by decide +kernel
theorem d_MM_join_47 : decode b_MM_join 47 = .ok (.aload_n 0, 1) := by decide +kernel
theorem d_MM_join_48 : decode b_MM_join 48 = .ok (.aload_n 2, 1) := by decide +kernel
theorem d_MM_join_49 : decode b_MM_join 49 = .ok (.invokevirtual 132, 3) := by decide +kernel
theorem d_MM_join_52 : decode b_MM_join 52 = .ok (.iconst 0, 1) := by decide +kernel
theorem d_MM_join_53 : decode b_MM_join 53 = .ok (.ireturn, 1) := by decide +kernel
theorem d_MM_join_54 : decode b_MM_join 54 = .ok (.aload_n 2, 1) := by decide +kernel
theorem d_MM_join_55 : decode b_MM_join 55 = .ok (.iconst 1, 1) := by decide +kernel
theorem d_MM_join_56 : decode b_MM_join 56 = .ok (.putfield 135, 3) := by decide +kernel
theorem d_MM_join_59 : decode b_MM_join 59 = .ok (.aload_n 0, 1) := by decide +kernel
theorem d_MM_join_60 : decode b_MM_join 60 = .ok (.aload_n 2, 1) := by decide +kernel
theorem d_MM_join_61 : decode b_MM_join 61 = .ok (.putfield 54, 3) := by decide +kernel
theorem d_MM_join_64 : decode b_MM_join 64 = .ok (.aload_n 0, 1) := by decide +kernel
theorem d_MM_join_65 : decode b_MM_join 65 = .ok (.getfield 50, 3) := by decide +kernel
theorem d_MM_join_68 : decode b_MM_join 68 = .ok (.getfield 129, 3) := by decide +kernel
theorem d_MM_join_71 : decode b_MM_join 71 = .ok (.ireturn, 1) := by decide +kernel
theorem d_MM_conflict_0 : decode b_MM_conflict 0 = .ok (.iload_n 2, 1) := by decide +kernel
theorem d_MM_conflict_1 : decode b_MM_conflict 1 = .ok (.iconst 5, 1) := by decide +kernel
theorem d_MM_conflict_2 : decode b_MM_conflict 2 = .ok (.invokestatic 68, 3) := by decide +kernel
theorem d_MM_conflict_5 : decode b_MM_conflict 5 = .ok (.aload_n 0, 1) := by decide +kernel
theorem d_MM_conflict_6 : decode b_MM_conflict 6 = .ok (.iload_n 1, 1) := by decide +kernel
theorem d_MM_conflict_7 : decode b_MM_conflict 7 = .ok (.invokevirtual 138, 3) := by decide +kernel
theorem d_MM_conflict_10 : decode b_MM_conflict 10 = .ok (.astore_n 3, 1) := by decide +kernel
theorem d_MM_conflict_11 : decode b_MM_conflict 11 = .ok (.aload_n 0, 1) := by decide +kernel
theorem d_MM_conflict_12 : decode b_MM_conflict 12 = .ok (.getfield 50, 3) := by decide +kernel
theorem d_MM_conflict_15 : decode b_MM_conflict 15 = .ok (.iload_n 1, 1) := by decide +kernel
theorem d_MM_conflict_16 : decode b_MM_conflict 16 = .ok (.invokevirtual 141, 3) := by decide +kernel
theorem d_MM_conflict_19 : decode b_MM_conflict 19 = .ok (.istore 4, 2) := by decide +kernel
theorem d_MM_conflict_21 : decode b_MM_conflict 21 = .ok (.aload_n 0, 1) := by decide +kernel
theorem d_MM_conflict_22 : decode b_MM_conflict 22 = .ok (.getfield 50, 3) := by decide +kernel
theorem d_MM_conflict_25 : decode b_MM_conflict 25 = .ok (.iload_n 1, 1) := by decide +kernel
theorem d_MM_conflict_26 : decode b_MM_conflict 26 = .ok (.invokevirtual 144, 3) := by decide +kernel
theorem d_MM_conflict_29 : decode b_MM_conflict 29 = .ok (.istore 5, 2) := by decide +kernel
theorem d_MM_conflict_31 : decode b_MM_conflict 31 = .ok (.iload_n 2, 1) := by decide +kernel
theorem d_MM_conflict_32 : decode b_MM_conflict 32 = .ok (.tableswitch 65 0 3 #[32, 35, 38, 53], 32) := by decide +kernel
theorem d_MM_conflict_64 : decode b_MM_conflict 64 = .ok (.iload 4, 2) := by decide +kernel
theorem d_MM_conflict_66 : decode b_MM_conflict 66 = .ok (.ireturn, 1) := by decide +kernel
theorem d_MM_conflict_67 : decode b_MM_conflict 67 = .ok (.iload 5, 2) := by decide +kernel
theorem d_MM_conflict_69 : decode b_MM_conflict 69 = .ok (.ireturn, 1) := by decide +kernel
theorem d_MM_conflict_70 : decode b_MM_conflict 70 = .ok (.aload_n 0, 1) := by decide +kernel
theorem d_MM_conflict_71 : decode b_MM_conflict 71 = .ok (.getfield 64, 3) := by decide +kernel
theorem d_MM_conflict_74 : decode b_MM_conflict 74 = .ok (.getfield 147, 3) := by decide +kernel
theorem d_MM_conflict_77 : decode b_MM_conflict 77 = .ok (.iload 4, 2) := by decide +kernel
theorem d_MM_conflict_79 : decode b_MM_conflict 79 = .ok (.iload 5, 2) := by decide +kernel
theorem d_MM_conflict_81 : decode b_MM_conflict 81 = .ok (.invokevirtual 151, 3) := by decide +kernel
theorem d_MM_conflict_84 : decode b_MM_conflict 84 = .ok (.ireturn, 1) := by decide +kernel
theorem d_MM_conflict_85 : decode b_MM_conflict 85 = .ok (.aload_n 3, 1) := by decide +kernel
theorem d_MM_conflict_86 : decode b_MM_conflict 86 = .ok (.getfield 155, 3) := by decide +kernel
theorem d_MM_conflict_89 : decode b_MM_conflict 89 = .ok (.iload 4, 2) := by decide +kernel
theorem d_MM_conflict_91 : decode b_MM_conflict 91 = .ok (.iload 5, 2) := by decide +kernel
theorem d_MM_conflict_93 : decode b_MM_conflict 93 = .ok (.invokevirtual 151, 3) := by decide +kernel
theorem d_MM_conflict_96 : decode b_MM_conflict 96 = .ok (.ireturn, 1) := by decide +kernel
theorem d_MM_conflict_97 : decode b_MM_conflict 97 = .ok (.aload_n 0, 1) := by decide +kernel
theorem d_MM_conflict_98 : decode b_MM_conflict 98 = .ok (.getfield 50, 3) := by decide +kernel
theorem d_MM_conflict_101 : decode b_MM_conflict 101 = .ok (.iload_n 1, 1) := by decide +kernel
theorem d_MM_conflict_102 : decode b_MM_conflict 102 = .ok (.invokevirtual 156, 3) := by decide +kernel
theorem d_MM_conflict_105 : decode b_MM_conflict 105 = .ok (.ireturn, 1) := by decide +kernel
theorem d_MM_settle_0 : decode b_MM_settle 0 = .ok (.iload_n 2, 1) := by decide +kernel
theorem d_MM_settle_1 : decode b_MM_settle 1 = .ok (.invokestatic 159, 3) := by decide +kernel
theorem d_MM_settle_4 : decode b_MM_settle 4 = .ok (.aload_n 0, 1) := by decide +kernel
theorem d_MM_settle_5 : decode b_MM_settle 5 = .ok (.iload_n 1, 1) := by decide +kernel
theorem d_MM_settle_6 : decode b_MM_settle 6 = .ok (.invokevirtual 138, 3) := by decide +kernel
theorem d_MM_settle_9 : decode b_MM_settle 9 = .ok (.astore_n 3, 1) := by decide +kernel
theorem d_MM_settle_10 : decode b_MM_settle 10 = .ok (.aload_n 0, 1) := by decide +kernel
theorem d_MM_settle_11 : decode b_MM_settle 11 = .ok (.getfield 50, 3) := by decide +kernel
theorem d_MM_settle_14 : decode b_MM_settle 14 = .ok (.iload_n 1, 1) := by decide +kernel
theorem d_MM_settle_15 : decode b_MM_settle 15 = .ok (.iload_n 2, 1) := by decide +kernel
theorem d_MM_settle_16 : decode b_MM_settle 16 = .ok (.invokevirtual 162, 3) := by decide +kernel
theorem d_MM_settle_19 : decode b_MM_settle 19 = .ok (.aload_n 0, 1) := by decide +kernel
theorem d_MM_settle_20 : decode b_MM_settle 20 = .ok (.getfield 50, 3) := by decide +kernel
theorem d_MM_settle_23 : decode b_MM_settle 23 = .ok (.invokevirtual 165, 3) := by decide +kernel
theorem d_MM_settle_26 : decode b_MM_settle 26 = .ok (.istore 4, 2) := by decide +kernel
theorem d_MM_settle_28 : decode b_MM_settle 28 = .ok (.iload 4, 2) := by decide +kernel
theorem d_MM_settle_30 : decode b_MM_settle 30 = .ok (.ifCond .ne 8, 3) := by decide +kernel
theorem d_MM_settle_33 : decode b_MM_settle 33 = .ok (.aload_n 0, 1) := by decide +kernel
theorem d_MM_settle_34 : decode b_MM_settle 34 = .ok (.aload_n 3, 1) := by decide +kernel
theorem d_MM_settle_35 : decode b_MM_settle 35 = .ok (.invokevirtual 132, 3) := by decide +kernel
theorem d_MM_settle_38 : decode b_MM_settle 38 = .ok (.iload 4, 2) := by decide +kernel
theorem d_MM_settle_40 : decode b_MM_settle 40 = .ok (.ireturn, 1) := by decide +kernel
theorem d_MM_giveUp_0 : decode b_MM_giveUp 0 = .ok (.aload_n 0, 1) := by decide +kernel
theorem d_MM_giveUp_1 : decode b_MM_giveUp 1 = .ok (.getfield 54, 3) := by decide +kernel
theorem d_MM_giveUp_4 : decode b_MM_giveUp 4 = .ok (.astore_n 1, 1) := by decide +kernel
theorem d_MM_giveUp_5 : decode b_MM_giveUp 5 = .ok (.aload_n 1, 1) := by decide +kernel
theorem d_MM_giveUp_6 : decode b_MM_giveUp 6 = .ok (.ifnonnull 13, 3) := by decide +kernel
theorem d_MM_giveUp_9 : decode b_MM_giveUp 9 = .ok (.new 76, 3) := by decide +kernel
theorem d_MM_giveUp_12 : decode b_MM_giveUp 12 = .ok (.dup, 1) := by decide +kernel
theorem d_MM_giveUp_13 : decode b_MM_giveUp 13 = .ok (.ldc 168, 2) := by decide +kernel
theorem d_MM_giveUp_15 : decode b_MM_giveUp 15 = .ok (.invokespecial 80, 3) := by decide +kernel
theorem d_MM_giveUp_18 : decode b_MM_giveUp 18 = .ok (.athrow, 1) := by decide +kernel
theorem d_MM_giveUp_19 : decode b_MM_giveUp 19 = .ok (.aload_n 1, 1) := by decide +kernel
theorem d_MM_giveUp_20 : decode b_MM_giveUp 20 = .ok (.iconst 0, 1) := by decide +kernel
theorem d_MM_giveUp_21 : decode b_MM_giveUp 21 = .ok (.putfield 135, 3) := by decide +kernel
theorem d_MM_giveUp_24 : decode b_MM_giveUp 24 = .ok (.aload_n 0, 1) := by decide +kernel
theorem d_MM_giveUp_25 : decode b_MM_giveUp 25 = .ok (.aconst_null, 1) := by decide +kernel
theorem d_MM_giveUp_26 : decode b_MM_giveUp 26 = .ok (.putfield 54, 3) := by decide +kernel
theorem d_MM_giveUp_29 : decode b_MM_giveUp 29 = .ok (.aload_n 1, 1) := by decide +kernel
theorem d_MM_giveUp_30 : decode b_MM_giveUp 30 = .ok (.getfield 170, 3) := by decide +kernel
theorem d_MM_giveUp_33 : decode b_MM_giveUp 33 = .ok (.ireturn, 1) := by decide +kernel
theorem d_MM_here_0 : decode b_MM_here 0 = .ok (.aload_n 0, 1) := by decide +kernel
theorem d_MM_here_1 : decode b_MM_here 1 = .ok (.iload_n 1, 1) := by decide +kernel
theorem d_MM_here_2 : decode b_MM_here 2 = .ok (.invokevirtual 86, 3) := by decide +kernel
theorem d_MM_here_5 : decode b_MM_here 5 = .ok (.astore_n 3, 1) := by decide +kernel
theorem d_MM_here_6 : decode b_MM_here 6 = .ok (.aload_n 0, 1) := by decide +kernel
theorem d_MM_here_7 : decode b_MM_here 7 = .ok (.iload_n 2, 1) := by decide +kernel
theorem d_MM_here_8 : decode b_MM_here 8 = .ok (.invokevirtual 113, 3) := by decide +kernel
theorem d_MM_here_11 : decode b_MM_here 11 = .ok (.aload_n 3, 1) := by decide +kernel
theorem d_MM_here_12 : decode b_MM_here 12 = .ok (.getfield 155, 3) := by decide +kernel
theorem d_MM_here_15 : decode b_MM_here 15 = .ok (.iload_n 2, 1) := by decide +kernel
theorem d_MM_here_16 : decode b_MM_here 16 = .ok (.iconst (-1), 1) := by decide +kernel
theorem d_MM_here_17 : decode b_MM_here 17 = .ok (.invokevirtual 151, 3) := by decide +kernel
theorem d_MM_here_20 : decode b_MM_here 20 = .ok (.ireturn, 1) := by decide +kernel
theorem d_MM_now_0 : decode b_MM_now 0 = .ok (.aload_n 0, 1) := by decide +kernel
theorem d_MM_now_1 : decode b_MM_now 1 = .ok (.iload_n 1, 1) := by decide +kernel
theorem d_MM_now_2 : decode b_MM_now 2 = .ok (.invokevirtual 86, 3) := by decide +kernel
theorem d_MM_now_5 : decode b_MM_now 5 = .ok (.astore 4, 2) := by decide +kernel
theorem d_MM_now_7 : decode b_MM_now 7 = .ok (.aload_n 0, 1) := by decide +kernel
theorem d_MM_now_8 : decode b_MM_now 8 = .ok (.aload 4, 2) := by decide +kernel
theorem d_MM_now_10 : decode b_MM_now 10 = .ok (.getfield 155, 3) := by decide +kernel
theorem d_MM_now_13 : decode b_MM_now 13 = .ok (.iload_n 2, 1) := by decide +kernel
theorem d_MM_now_14 : decode b_MM_now 14 = .ok (.iload_n 3, 1) := by decide +kernel
theorem d_MM_now_15 : decode b_MM_now 15 = .ok (.invokevirtual 173, 3) := by decide +kernel
theorem d_MM_now_18 : decode b_MM_now 18 = .ok (.aload 4, 2) := by decide +kernel
theorem d_MM_now_20 : decode b_MM_now 20 = .ok (.getfield 155, 3) := by decide +kernel
theorem d_MM_now_23 : decode b_MM_now 23 = .ok (.iload_n 2, 1) := by decide +kernel
theorem d_MM_now_24 : decode b_MM_now 24 = .ok (.iload_n 3, 1) := by decide +kernel
theorem d_MM_now_25 : decode b_MM_now 25 = .ok (.invokevirtual 151, 3) := by decide +kernel
theorem d_MM_now_28 : decode b_MM_now 28 = .ok (.ireturn, 1) := by decide +kernel
theorem d_MM_there_0 : decode b_MM_there 0 = .ok (.aload_n 0, 1) := by decide +kernel
theorem d_MM_there_1 : decode b_MM_there 1 = .ok (.iload_n 1, 1) := by decide +kernel
theorem d_MM_there_2 : decode b_MM_there 2 = .ok (.invokevirtual 72, 3) := by decide +kernel
theorem d_MM_there_5 : decode b_MM_there 5 = .ok (.astore 4, 2) := by decide +kernel
theorem d_MM_there_7 : decode b_MM_there 7 = .ok (.aload_n 0, 1) := by decide +kernel
theorem d_MM_there_8 : decode b_MM_there 8 = .ok (.iload_n 2, 1) := by decide +kernel
theorem d_MM_there_9 : decode b_MM_there 9 = .ok (.invokevirtual 113, 3) := by decide +kernel
theorem d_MM_there_12 : decode b_MM_there 12 = .ok (.iload_n 3, 1) := by decide +kernel
theorem d_MM_there_13 : decode b_MM_there 13 = .ok (.tableswitch 51 0 2 #[27, 38, 44], 27) := by decide +kernel
theorem d_MM_there_40 : decode b_MM_there 40 = .ok (.aload 4, 2) := by decide +kernel
theorem d_MM_there_42 : decode b_MM_there 42 = .ok (.getfield 147, 3) := by decide +kernel
theorem d_MM_there_45 : decode b_MM_there 45 = .ok (.iload_n 2, 1) := by decide +kernel
theorem d_MM_there_46 : decode b_MM_there 46 = .ok (.iconst (-1), 1) := by decide +kernel
theorem d_MM_there_47 : decode b_MM_there 47 = .ok (.invokevirtual 151, 3) := by decide +kernel
theorem d_MM_there_50 : decode b_MM_there 50 = .ok (.ireturn, 1) := by decide +kernel
theorem d_MM_there_51 : decode b_MM_there 51 = .ok (.aload_n 0, 1) := by decide +kernel
theorem d_MM_there_52 : decode b_MM_there 52 = .ok (.iload_n 2, 1) := by decide +kernel
theorem d_MM_there_53 : decode b_MM_there 53 = .ok (.invokevirtual 177, 3) := by decide +kernel
theorem d_MM_there_56 : decode b_MM_there 56 = .ok (.ireturn, 1) := by decide +kernel
theorem d_MM_there_57 : decode b_MM_there 57 = .ok (.aload 4, 2) := by decide +kernel
theorem d_MM_there_59 : decode b_MM_there 59 = .ok (.iload_n 2, 1) := by decide +kernel
theorem d_MM_there_60 : decode b_MM_there 60 = .ok (.invokevirtual 180, 3) := by decide +kernel
theorem d_MM_there_63 : decode b_MM_there 63 = .ok (.ireturn, 1) := by decide +kernel
theorem d_MM_there_64 : decode b_MM_there 64 = .ok (.new 183, 3) := by decide +kernel
theorem d_MM_there_67 : decode b_MM_there 67 = .ok (.dup, 1) := by decide +kernel
theorem d_MM_there_68 : decode b_MM_there 68 = .ok (.ldc 185, 2) := by decide +kernel
theorem d_MM_there_70 : decode b_MM_there 70 = .ok (.invokespecial 187, 3) := by decide +kernel
theorem d_MM_there_73 : decode b_MM_there 73 = .ok (.athrow, 1) := by decide +kernel
theorem d_MM_at_0 : decode b_MM_at 0 = .ok (.aload_n 0, 1) := by decide +kernel
theorem d_MM_at_1 : decode b_MM_at 1 = .ok (.iload_n 1, 1) := by decide +kernel
theorem d_MM_at_2 : decode b_MM_at 2 = .ok (.invokevirtual 72, 3) := by decide +kernel
theorem d_MM_at_5 : decode b_MM_at 5 = .ok (.astore 4, 2) := by decide +kernel
theorem d_MM_at_7 : decode b_MM_at 7 = .ok (.aload_n 0, 1) := by decide +kernel
theorem d_MM_at_8 : decode b_MM_at 8 = .ok (.aload 4, 2) := by decide +kernel
theorem d_MM_at_10 : decode b_MM_at 10 = .ok (.getfield 147, 3) := by decide +kernel
theorem d_MM_at_13 : decode b_MM_at 13 = .ok (.iload_n 2, 1) := by decide +kernel
theorem d_MM_at_14 : decode b_MM_at 14 = .ok (.iload_n 3, 1) := by decide +kernel
theorem d_MM_at_15 : decode b_MM_at 15 = .ok (.invokevirtual 173, 3) := by decide +kernel
theorem d_MM_at_18 : decode b_MM_at 18 = .ok (.aload 4, 2) := by decide +kernel
theorem d_MM_at_20 : decode b_MM_at 20 = .ok (.getfield 147, 3) := by decide +kernel
theorem d_MM_at_23 : decode b_MM_at 23 = .ok (.iload_n 2, 1) := by decide +kernel
theorem d_MM_at_24 : decode b_MM_at 24 = .ok (.iload_n 3, 1) := by decide +kernel
theorem d_MM_at_25 : decode b_MM_at 25 = .ok (.invokevirtual 151, 3) := by decide +kernel
theorem d_MM_at_28 : decode b_MM_at 28 = .ok (.ireturn, 1) := by decide +kernel
theorem d_MM_since_0 : decode b_MM_since 0 = .ok (.aload_n 0, 1) := by decide +kernel
theorem d_MM_since_1 : decode b_MM_since 1 = .ok (.iload_n 1, 1) := by decide +kernel
theorem d_MM_since_2 : decode b_MM_since 2 = .ok (.invokevirtual 72, 3) := by decide +kernel
theorem d_MM_since_5 : decode b_MM_since 5 = .ok (.astore 4, 2) := by decide +kernel
theorem d_MM_since_7 : decode b_MM_since 7 = .ok (.aload_n 0, 1) := by decide +kernel
theorem d_MM_since_8 : decode b_MM_since 8 = .ok (.aload 4, 2) := by decide +kernel
theorem d_MM_since_10 : decode b_MM_since 10 = .ok (.getfield 147, 3) := by decide +kernel
theorem d_MM_since_13 : decode b_MM_since 13 = .ok (.iload_n 2, 1) := by decide +kernel
theorem d_MM_since_14 : decode b_MM_since 14 = .ok (.iload_n 3, 1) := by decide +kernel
theorem d_MM_since_15 : decode b_MM_since 15 = .ok (.invokevirtual 173, 3) := by decide +kernel
theorem d_MM_since_18 : decode b_MM_since 18 = .ok (.aload 4, 2) := by decide +kernel
theorem d_MM_since_20 : decode b_MM_since 20 = .ok (.iload_n 2, 1) := by decide +kernel
theorem d_MM_since_21 : decode b_MM_since 21 = .ok (.iload_n 3, 1) := by decide +kernel
theorem d_MM_since_22 : decode b_MM_since 22 = .ok (.invokevirtual 188, 3) := by decide +kernel
theorem d_MM_since_25 : decode b_MM_since 25 = .ok (.ireturn, 1) := by decide +kernel
theorem d_MM_told_0 : decode b_MM_told 0 = .ok (.aload_n 0, 1) := by decide +kernel
theorem d_MM_told_1 : decode b_MM_told 1 = .ok (.iload_n 1, 1) := by decide +kernel
theorem d_MM_told_2 : decode b_MM_told 2 = .ok (.invokevirtual 86, 3) := by decide +kernel
theorem d_MM_told_5 : decode b_MM_told 5 = .ok (.astore_n 3, 1) := by decide +kernel
theorem d_MM_told_6 : decode b_MM_told 6 = .ok (.iload_n 2, 1) := by decide +kernel
theorem d_MM_told_7 : decode b_MM_told 7 = .ok (.tableswitch 73 0 5 #[37, 42, 47, 55, 63, 68], 37) := by decide +kernel
theorem d_MM_told_44 : decode b_MM_told 44 = .ok (.aload_n 3, 1) := by decide +kernel
theorem d_MM_told_45 : decode b_MM_told 45 = .ok (.getfield 135, 3) := by decide +kernel
theorem d_MM_told_48 : decode b_MM_told 48 = .ok (.ireturn, 1) := by decide +kernel
theorem d_MM_told_49 : decode b_MM_told 49 = .ok (.aload_n 3, 1) := by decide +kernel
theorem d_MM_told_50 : decode b_MM_told 50 = .ok (.getfield 191, 3) := by decide +kernel
theorem d_MM_told_53 : decode b_MM_told 53 = .ok (.ireturn, 1) := by decide +kernel
theorem d_MM_told_54 : decode b_MM_told 54 = .ok (.aload_n 3, 1) := by decide +kernel
theorem d_MM_told_55 : decode b_MM_told 55 = .ok (.getfield 194, 3) := by decide +kernel
theorem d_MM_told_58 : decode b_MM_told 58 = .ok (.getfield 197, 3) := by decide +kernel
theorem d_MM_told_61 : decode b_MM_told 61 = .ok (.ireturn, 1) := by decide +kernel
theorem d_MM_told_62 : decode b_MM_told 62 = .ok (.aload_n 3, 1) := by decide +kernel
theorem d_MM_told_63 : decode b_MM_told 63 = .ok (.getfield 198, 3) := by decide +kernel
theorem d_MM_told_66 : decode b_MM_told 66 = .ok (.getfield 202, 3) := by decide +kernel
theorem d_MM_told_69 : decode b_MM_told 69 = .ok (.ireturn, 1) := by decide +kernel
theorem d_MM_told_70 : decode b_MM_told 70 = .ok (.aload_n 3, 1) := by decide +kernel
theorem d_MM_told_71 : decode b_MM_told 71 = .ok (.getfield 205, 3) := by decide +kernel
theorem d_MM_told_74 : decode b_MM_told 74 = .ok (.ireturn, 1) := by decide +kernel
theorem d_MM_told_75 : decode b_MM_told 75 = .ok (.aload_n 3, 1) := by decide +kernel
theorem d_MM_told_76 : decode b_MM_told 76 = .ok (.getfield 208, 3) := by decide +kernel
theorem d_MM_told_79 : decode b_MM_told 79 = .ok (.ireturn, 1) := by decide +kernel
theorem d_MM_told_80 : decode b_MM_told 80 = .ok (.new 183, 3) := by decide +kernel
theorem d_MM_told_83 : decode b_MM_told 83 = .ok (.dup, 1) := by decide +kernel
theorem d_MM_told_84 : decode b_MM_told 84 = .ok (.ldc 211, 2) := by decide +kernel
theorem d_MM_told_86 : decode b_MM_told 86 = .ok (.invokespecial 187, 3) := by decide +kernel
theorem d_MM_told_89 : decode b_MM_told 89 = .ok (.athrow, 1) := by decide +kernel
theorem d_MM_author_0 : decode b_MM_author 0 = .ok (.aload_n 0, 1) := by decide +kernel
theorem d_MM_author_1 : decode b_MM_author 1 = .ok (.iload_n 1, 1) := by decide +kernel
theorem d_MM_author_2 : decode b_MM_author 2 = .ok (.invokevirtual 72, 3) := by decide +kernel
theorem d_MM_author_5 : decode b_MM_author 5 = .ok (.astore_n 2, 1) := by decide +kernel
theorem d_MM_author_6 : decode b_MM_author 6 = .ok (.aload_n 2, 1) := by decide +kernel
theorem d_MM_author_7 : decode b_MM_author 7 = .ok (.getfield 213, 3) := by decide +kernel
theorem d_MM_author_10 : decode b_MM_author 10 = .ok (.iconst (-1), 1) := by decide +kernel
theorem d_MM_author_11 : decode b_MM_author 11 = .ok (.if_icmp .ne 13, 3) := by decide +kernel
theorem d_MM_author_14 : decode b_MM_author 14 = .ok (.new 183, 3) := by decide +kernel
theorem d_MM_author_17 : decode b_MM_author 17 = .ok (.dup, 1) := by decide +kernel
theorem d_MM_author_18 : decode b_MM_author 18 = .ok (.ldc 216, 2) := by decide +kernel
theorem d_MM_author_20 : decode b_MM_author 20 = .ok (.invokespecial 187, 3) := by decide +kernel
theorem d_MM_author_23 : decode b_MM_author 23 = .ok (.athrow, 1) := by decide +kernel
theorem d_MM_author_24 : decode b_MM_author 24 = .ok (.aload_n 2, 1) := by decide +kernel
theorem d_MM_author_25 : decode b_MM_author 25 = .ok (.getfield 213, 3) := by decide +kernel
theorem d_MM_author_28 : decode b_MM_author 28 = .ok (.ireturn, 1) := by decide +kernel
theorem d_MM_count_0 : decode b_MM_count 0 = .ok (.iload_n 1, 1) := by decide +kernel
theorem d_MM_count_1 : decode b_MM_count 1 = .ok (.tableswitch 51 0 3 #[31, 36, 41, 46], 31) := by decide +kernel
theorem d_MM_count_32 : decode b_MM_count 32 = .ok (.aload_n 0, 1) := by decide +kernel
theorem d_MM_count_33 : decode b_MM_count 33 = .ok (.getfield 35, 3) := by decide +kernel
theorem d_MM_count_36 : decode b_MM_count 36 = .ok (.ireturn, 1) := by decide +kernel
theorem d_MM_count_37 : decode b_MM_count 37 = .ok (.aload_n 0, 1) := by decide +kernel
theorem d_MM_count_38 : decode b_MM_count 38 = .ok (.getfield 16, 3) := by decide +kernel
theorem d_MM_count_41 : decode b_MM_count 41 = .ok (.ireturn, 1) := by decide +kernel
theorem d_MM_count_42 : decode b_MM_count 42 = .ok (.aload_n 0, 1) := by decide +kernel
theorem d_MM_count_43 : decode b_MM_count 43 = .ok (.getfield 26, 3) := by decide +kernel
theorem d_MM_count_46 : decode b_MM_count 46 = .ok (.ireturn, 1) := by decide +kernel
theorem d_MM_count_47 : decode b_MM_count 47 = .ok (.aload_n 0, 1) := by decide +kernel
theorem d_MM_count_48 : decode b_MM_count 48 = .ok (.getfield 44, 3) := by decide +kernel
theorem d_MM_count_51 : decode b_MM_count 51 = .ok (.ireturn, 1) := by decide +kernel
theorem d_MM_count_52 : decode b_MM_count 52 = .ok (.new 183, 3) := by decide +kernel
theorem d_MM_count_55 : decode b_MM_count 55 = .ok (.dup, 1) := by decide +kernel
theorem d_MM_count_56 : decode b_MM_count 56 = .ok (.ldc 218, 2) := by decide +kernel
theorem d_MM_count_58 : decode b_MM_count 58 = .ok (.invokespecial 187, 3) := by decide +kernel
theorem d_MM_count_61 : decode b_MM_count 61 = .ok (.athrow, 1) := by decide +kernel
theorem d_MM_differs_0 : decode b_MM_differs 0 = .ok (.aload_n 0, 1) := by decide +kernel
theorem d_MM_differs_1 : decode b_MM_differs 1 = .ok (.iload_n 1, 1) := by decide +kernel
theorem d_MM_differs_2 : decode b_MM_differs 2 = .ok (.invokevirtual 72, 3) := by decide +kernel
theorem d_MM_differs_5 : decode b_MM_differs 5 = .ok (.getfield 147, 3) := by decide +kernel
theorem d_MM_differs_8 : decode b_MM_differs 8 = .ok (.astore 4, 2) := by decide +kernel
theorem d_MM_differs_10 : decode b_MM_differs 10 = .ok (.aload_n 0, 1) := by decide +kernel
theorem d_MM_differs_11 : decode b_MM_differs 11 = .ok (.iload_n 2, 1) := by decide +kernel
theorem d_MM_differs_12 : decode b_MM_differs 12 = .ok (.invokevirtual 72, 3) := by decide +kernel
theorem d_MM_differs_15 : decode b_MM_differs 15 = .ok (.getfield 147, 3) := by decide +kernel
theorem d_MM_differs_18 : decode b_MM_differs 18 = .ok (.astore 5, 2) := by decide +kernel
theorem d_MM_differs_20 : decode b_MM_differs 20 = .ok (.iload_n 3, 1) := by decide +kernel
theorem d_MM_differs_21 : decode b_MM_differs 21 = .ok (.invokestatic 220, 3) := by decide +kernel
theorem d_MM_differs_24 : decode b_MM_differs 24 = .ok (.iload_n 3, 1) := by decide +kernel
theorem d_MM_differs_25 : decode b_MM_differs 25 = .ok (.istore 6, 2) := by decide +kernel
theorem d_MM_differs_27 : decode b_MM_differs 27 = .ok (.iconst 0, 1) := by decide +kernel
theorem d_MM_differs_28 : decode b_MM_differs 28 = .ok (.istore 7, 2) := by decide +kernel
theorem d_MM_differs_30 : decode b_MM_differs 30 = .ok (.iload 7, 2) := by decide +kernel
theorem d_MM_differs_32 : decode b_MM_differs 32 = .ok (.aload_n 0, 1) := by decide +kernel
theorem d_MM_differs_33 : decode b_MM_differs 33 = .ok (.getfield 16, 3) := by decide +kernel
theorem d_MM_differs_36 : decode b_MM_differs 36 = .ok (.if_icmp .ge 54, 3) := by decide +kernel
theorem d_MM_differs_39 : decode b_MM_differs 39 = .ok (.iconst 0, 1) := by decide +kernel
theorem d_MM_differs_40 : decode b_MM_differs 40 = .ok (.istore 8, 2) := by decide +kernel
theorem d_MM_differs_42 : decode b_MM_differs 42 = .ok (.iload 8, 2) := by decide +kernel
theorem d_MM_differs_44 : decode b_MM_differs 44 = .ok (.iconst 5, 1) := by decide +kernel
theorem d_MM_differs_45 : decode b_MM_differs 45 = .ok (.if_icmp .ge 39, 3) := by decide +kernel
theorem d_MM_differs_48 : decode b_MM_differs 48 = .ok (.aload 4, 2) := by decide +kernel
theorem d_MM_differs_50 : decode b_MM_differs 50 = .ok (.aload 5, 2) := by decide +kernel
theorem d_MM_differs_52 : decode b_MM_differs 52 = .ok (.iload 7, 2) := by decide +kernel
theorem d_MM_differs_54 : decode b_MM_differs 54 = .ok (.iload 8, 2) := by decide +kernel
theorem d_MM_differs_56 : decode b_MM_differs 56 = .ok (.invokestatic 223, 3) := by decide +kernel
theorem d_MM_differs_59 : decode b_MM_differs 59 = .ok (.ifCond .eq 19, 3) := by decide +kernel
theorem d_MM_differs_62 : decode b_MM_differs 62 = .ok (.iload 6, 2) := by decide +kernel
theorem d_MM_differs_64 : decode b_MM_differs 64 = .ok (.ifCond .ne 11, 3) := by decide +kernel
theorem d_MM_differs_67 : decode b_MM_differs 67 = .ok (.iconst 5, 1) := by decide +kernel
theorem d_MM_differs_68 : decode b_MM_differs 68 = .ok (.iload 7, 2) := by decide +kernel
theorem d_MM_differs_70 : decode b_MM_differs 70 = .ok (.imul, 1) := by decide +kernel
theorem d_MM_differs_71 : decode b_MM_differs 71 = .ok (.iload 8, 2) := by decide +kernel
theorem d_MM_differs_73 : decode b_MM_differs 73 = .ok (.iadd, 1) := by decide +kernel
theorem d_MM_differs_74 : decode b_MM_differs 74 = .ok (.ireturn, 1) := by decide +kernel
theorem d_MM_differs_75 : decode b_MM_differs 75 = .ok (.iinc 6 (-1), 3) := by decide +kernel
theorem d_MM_differs_78 : decode b_MM_differs 78 = .ok (.iinc 8 1, 3) := by decide +kernel
theorem d_MM_differs_81 : decode b_MM_differs 81 = .ok (.goto (-39), 3) := by decide +kernel
theorem d_MM_differs_84 : decode b_MM_differs 84 = .ok (.iinc 7 1, 3) := by decide +kernel
theorem d_MM_differs_87 : decode b_MM_differs 87 = .ok (.goto (-57), 3) := by decide +kernel
theorem d_MM_differs_90 : decode b_MM_differs 90 = .ok (.iconst (-1), 1) := by decide +kernel
theorem d_MM_differs_91 : decode b_MM_differs 91 = .ok (.ireturn, 1) := by decide +kernel
theorem d_MM_broken_0 : decode b_MM_broken 0 = .ok (.aload_n 0, 1) := by decide +kernel
theorem d_MM_broken_1 : decode b_MM_broken 1 = .ok (.iload_n 1, 1) := by decide +kernel
theorem d_MM_broken_2 : decode b_MM_broken 2 = .ok (.invokevirtual 72, 3) := by decide +kernel
theorem d_MM_broken_5 : decode b_MM_broken 5 = .ok (.getfield 147, 3) := by decide +kernel
theorem d_MM_broken_8 : decode b_MM_broken 8 = .ok (.astore_n 3, 1) := by decide +kernel
theorem d_MM_broken_9 : decode b_MM_broken 9 = .ok (.iload_n 2, 1) := by decide +kernel
theorem d_MM_broken_10 : decode b_MM_broken 10 = .ok (.invokestatic 220, 3) := by decide +kernel
theorem d_MM_broken_13 : decode b_MM_broken 13 = .ok (.iload_n 2, 1) := by decide +kernel
theorem d_MM_broken_14 : decode b_MM_broken 14 = .ok (.istore 4, 2) := by decide +kernel
theorem d_MM_broken_16 : decode b_MM_broken 16 = .ok (.iconst 0, 1) := by decide +kernel
theorem d_MM_broken_17 : decode b_MM_broken 17 = .ok (.istore 5, 2) := by decide +kernel
theorem d_MM_broken_19 : decode b_MM_broken 19 = .ok (.iload 5, 2) := by decide +kernel
theorem d_MM_broken_21 : decode b_MM_broken 21 = .ok (.aload_n 0, 1) := by decide +kernel
theorem d_MM_broken_22 : decode b_MM_broken 22 = .ok (.getfield 44, 3) := by decide +kernel
theorem d_MM_broken_25 : decode b_MM_broken 25 = .ok (.if_icmp .ge 68, 3) := by decide +kernel
theorem d_MM_broken_28 : decode b_MM_broken 28 = .ok (.iload 5, 2) := by decide +kernel
theorem d_MM_broken_30 : decode b_MM_broken 30 = .ok (.bipush 10, 2) := by decide +kernel
theorem d_MM_broken_32 : decode b_MM_broken 32 = .ok (.if_icmp .ge 61, 3) := by decide +kernel
theorem d_MM_broken_35 : decode b_MM_broken 35 = .ok (.iconst 0, 1) := by decide +kernel
theorem d_MM_broken_36 : decode b_MM_broken 36 = .ok (.istore 6, 2) := by decide +kernel
theorem d_MM_broken_38 : decode b_MM_broken 38 = .ok (.iload 6, 2) := by decide +kernel
theorem d_MM_broken_40 : decode b_MM_broken 40 = .ok (.aload_n 0, 1) := by decide +kernel
theorem d_MM_broken_41 : decode b_MM_broken 41 = .ok (.getfield 16, 3) := by decide +kernel
theorem d_MM_broken_44 : decode b_MM_broken 44 = .ok (.if_icmp .ge 43, 3) := by decide +kernel
theorem d_MM_broken_47 : decode b_MM_broken 47 = .ok (.aload_n 0, 1) := by decide +kernel
theorem d_MM_broken_48 : decode b_MM_broken 48 = .ok (.aload_n 0, 1) := by decide +kernel
theorem d_MM_broken_49 : decode b_MM_broken 49 = .ok (.getfield 40, 3) := by decide +kernel
theorem d_MM_broken_52 : decode b_MM_broken 52 = .ok (.iload 5, 2) := by decide +kernel
theorem d_MM_broken_54 : decode b_MM_broken 54 = .ok (.aaload, 1) := by decide +kernel
theorem d_MM_broken_55 : decode b_MM_broken 55 = .ok (.aload_n 3, 1) := by decide +kernel
theorem d_MM_broken_56 : decode b_MM_broken 56 = .ok (.iload 6, 2) := by decide +kernel
theorem d_MM_broken_58 : decode b_MM_broken 58 = .ok (.invokevirtual 227, 3) := by decide +kernel
theorem d_MM_broken_61 : decode b_MM_broken 61 = .ok (.ifCond .eq 20, 3) := by decide +kernel
theorem d_MM_broken_64 : decode b_MM_broken 64 = .ok (.iload 4, 2) := by decide +kernel
theorem d_MM_broken_66 : decode b_MM_broken 66 = .ok (.ifCond .ne 12, 3) := by decide +kernel
theorem d_MM_broken_69 : decode b_MM_broken 69 = .ok (.bipush 60, 2) := by decide +kernel
theorem d_MM_broken_71 : decode b_MM_broken 71 = .ok (.iload 5, 2) := by decide +kernel
theorem d_MM_broken_73 : decode b_MM_broken 73 = .ok (.imul, 1) := by decide +kernel
theorem d_MM_broken_74 : decode b_MM_broken 74 = .ok (.iload 6, 2) := by decide +kernel
theorem d_MM_broken_76 : decode b_MM_broken 76 = .ok (.iadd, 1) := by decide +kernel
theorem d_MM_broken_77 : decode b_MM_broken 77 = .ok (.ireturn, 1) := by decide +kernel
theorem d_MM_broken_78 : decode b_MM_broken 78 = .ok (.iinc 4 (-1), 3) := by decide +kernel
theorem d_MM_broken_81 : decode b_MM_broken 81 = .ok (.iinc 6 1, 3) := by decide +kernel
theorem d_MM_broken_84 : decode b_MM_broken 84 = .ok (.goto (-46), 3) := by decide +kernel
theorem d_MM_broken_87 : decode b_MM_broken 87 = .ok (.iinc 5 1, 3) := by decide +kernel
theorem d_MM_broken_90 : decode b_MM_broken 90 = .ok (.goto (-71), 3) := by decide +kernel
theorem d_MM_broken_93 : decode b_MM_broken 93 = .ok (.iconst (-1), 1) := by decide +kernel
theorem d_MM_broken_94 : decode b_MM_broken 94 = .ok (.ireturn, 1) := by decide +kernel
theorem d_MM_checkBelow_0 : decode b_MM_checkBelow 0 = .ok (.iload_n 0, 1) := by decide +kernel
theorem d_MM_checkBelow_1 : decode b_MM_checkBelow 1 = .ok (.ifCond .lt 8, 3) := by decide +kernel
theorem d_MM_checkBelow_4 : decode b_MM_checkBelow 4 = .ok (.iload_n 0, 1) := by decide +kernel
theorem d_MM_checkBelow_5 : decode b_MM_checkBelow 5 = .ok (.iload_n 1, 1) := by decide +kernel
theorem d_MM_checkBelow_6 : decode b_MM_checkBelow 6 = .ok (.if_icmp .lt 13, 3) := by decide +kernel
theorem d_MM_checkBelow_9 : decode b_MM_checkBelow 9 = .ok (.new 183, 3) := by decide +kernel
theorem d_MM_checkBelow_12 : decode b_MM_checkBelow 12 = .ok (.dup, 1) := by decide +kernel
theorem d_MM_checkBelow_13 : decode b_MM_checkBelow 13 = .ok (.ldc 231, 2) := by decide +kernel
theorem d_MM_checkBelow_15 : decode b_MM_checkBelow 15 = .ok (.invokespecial 187, 3) := by decide +kernel
theorem d_MM_checkBelow_18 : decode b_MM_checkBelow 18 = .ok (.athrow, 1) := by decide +kernel
theorem d_MM_checkBelow_19 : decode b_MM_checkBelow 19 = .ok (.return_, 1) := by decide +kernel
theorem d_MM_checkNotNegative_0 : decode b_MM_checkNotNegative 0 = .ok (.iload_n 0, 1) := by decide +kernel
theorem d_MM_checkNotNegative_1 : decode b_MM_checkNotNegative 1 = .ok (.ifCond .ge 13, 3) := by decide +kernel
theorem d_MM_checkNotNegative_4 : decode b_MM_checkNotNegative 4 = .ok (.new 183, 3) := by decide +kernel
theorem d_MM_checkNotNegative_7 : decode b_MM_checkNotNegative 7 = .ok (.dup, 1) := by decide +kernel
theorem d_MM_checkNotNegative_8 : decode b_MM_checkNotNegative 8 = .ok (.ldc 233, 2) := by decide +kernel
theorem d_MM_checkNotNegative_10 : decode b_MM_checkNotNegative 10 = .ok (.invokespecial 187, 3) := by decide +kernel
theorem d_MM_checkNotNegative_13 : decode b_MM_checkNotNegative 13 = .ok (.athrow, 1) := by decide +kernel
theorem d_MM_checkNotNegative_14 : decode b_MM_checkNotNegative 14 = .ok (.return_, 1) := by decide +kernel
theorem d_MM_checkSide_0 : decode b_MM_checkSide 0 = .ok (.iload_n 0, 1) := by decide +kernel
theorem d_MM_checkSide_1 : decode b_MM_checkSide 1 = .ok (.ifCond .eq 18, 3) := by decide +kernel
theorem d_MM_checkSide_4 : decode b_MM_checkSide 4 = .ok (.iload_n 0, 1) := by decide +kernel
theorem d_MM_checkSide_5 : decode b_MM_checkSide 5 = .ok (.iconst 1, 1) := by decide +kernel
theorem d_MM_checkSide_6 : decode b_MM_checkSide 6 = .ok (.if_icmp .eq 13, 3) := by decide +kernel
theorem d_MM_checkSide_9 : decode b_MM_checkSide 9 = .ok (.new 183, 3) := by decide +kernel
theorem d_MM_checkSide_12 : decode b_MM_checkSide 12 = .ok (.dup, 1) := by decide +kernel
theorem d_MM_checkSide_13 : decode b_MM_checkSide 13 = .ok (.ldc 235, 2) := by decide +kernel
theorem d_MM_checkSide_15 : decode b_MM_checkSide 15 = .ok (.invokespecial 187, 3) := by decide +kernel
theorem d_MM_checkSide_18 : decode b_MM_checkSide 18 = .ok (.athrow, 1) := by decide +kernel
theorem d_MM_checkSide_19 : decode b_MM_checkSide 19 = .ok (.return_, 1) := by decide +kernel
theorem d_MM_checkThing_0 : decode b_MM_checkThing 0 = .ok (.aload_n 0, 1) := by decide +kernel
theorem d_MM_checkThing_1 : decode b_MM_checkThing 1 = .ok (.iload_n 1, 1) := by decide +kernel
theorem d_MM_checkThing_2 : decode b_MM_checkThing 2 = .ok (.invokevirtual 237, 3) := by decide +kernel
theorem d_MM_checkThing_5 : decode b_MM_checkThing 5 = .ok (.ifCond .ne 13, 3) := by decide +kernel
theorem d_MM_checkThing_8 : decode b_MM_checkThing 8 = .ok (.new 183, 3) := by decide +kernel
theorem d_MM_checkThing_11 : decode b_MM_checkThing 11 = .ok (.dup, 1) := by decide +kernel
theorem d_MM_checkThing_12 : decode b_MM_checkThing 12 = .ok (.ldc 241, 2) := by decide +kernel
theorem d_MM_checkThing_14 : decode b_MM_checkThing 14 = .ok (.invokespecial 187, 3) := by decide +kernel
theorem d_MM_checkThing_17 : decode b_MM_checkThing 17 = .ok (.athrow, 1) := by decide +kernel
theorem d_MM_checkThing_18 : decode b_MM_checkThing 18 = .ok (.return_, 1) := by decide +kernel
theorem d_MM_checkField_0 : decode b_MM_checkField 0 = .ok (.aload_n 0, 1) := by decide +kernel
theorem d_MM_checkField_1 : decode b_MM_checkField 1 = .ok (.iload_n 2, 1) := by decide +kernel
theorem d_MM_checkField_2 : decode b_MM_checkField 2 = .ok (.invokevirtual 113, 3) := by decide +kernel
theorem d_MM_checkField_5 : decode b_MM_checkField 5 = .ok (.iload_n 3, 1) := by decide +kernel
theorem d_MM_checkField_6 : decode b_MM_checkField 6 = .ok (.iconst 5, 1) := by decide +kernel
theorem d_MM_checkField_7 : decode b_MM_checkField 7 = .ok (.invokestatic 68, 3) := by decide +kernel
theorem d_MM_checkField_10 : decode b_MM_checkField 10 = .ok (.aload_n 1, 1) := by decide +kernel
theorem d_MM_checkField_11 : decode b_MM_checkField 11 = .ok (.iload_n 2, 1) := by decide +kernel
theorem d_MM_checkField_12 : decode b_MM_checkField 12 = .ok (.invokevirtual 243, 3) := by decide +kernel
theorem d_MM_checkField_15 : decode b_MM_checkField 15 = .ok (.ifCond .ne 13, 3) := by decide +kernel
theorem d_MM_checkField_18 : decode b_MM_checkField 18 = .ok (.new 183, 3) := by decide +kernel
theorem d_MM_checkField_21 : decode b_MM_checkField 21 = .ok (.dup, 1) := by decide +kernel
theorem d_MM_checkField_22 : decode b_MM_checkField 22 = .ok (.ldc 246, 2) := by decide +kernel
theorem d_MM_checkField_24 : decode b_MM_checkField 24 = .ok (.invokespecial 187, 3) := by decide +kernel
theorem d_MM_checkField_27 : decode b_MM_checkField 27 = .ok (.athrow, 1) := by decide +kernel
theorem d_MM_checkField_28 : decode b_MM_checkField 28 = .ok (.return_, 1) := by decide +kernel
theorem d_MM_checkOpen_0 : decode b_MM_checkOpen 0 = .ok (.aload_n 0, 1) := by decide +kernel
theorem d_MM_checkOpen_1 : decode b_MM_checkOpen 1 = .ok (.getfield 135, 3) := by decide +kernel
theorem d_MM_checkOpen_4 : decode b_MM_checkOpen 4 = .ok (.ifCond .eq 13, 3) := by decide +kernel
theorem d_MM_checkOpen_7 : decode b_MM_checkOpen 7 = .ok (.new 76, 3) := by decide +kernel
theorem d_MM_checkOpen_10 : decode b_MM_checkOpen 10 = .ok (.dup, 1) := by decide +kernel
theorem d_MM_checkOpen_11 : decode b_MM_checkOpen 11 = .ok (.ldc 248, 2) := by decide +kernel
theorem d_MM_checkOpen_13 : decode b_MM_checkOpen 13 = .ok (.invokespecial 80, 3) := by decide +kernel
theorem d_MM_checkOpen_16 : decode b_MM_checkOpen 16 = .ok (.athrow, 1) := by decide +kernel
theorem d_MM_checkOpen_17 : decode b_MM_checkOpen 17 = .ok (.return_, 1) := by decide +kernel
theorem d_MM_sessionOf_0 : decode b_MM_sessionOf 0 = .ok (.iload_n 1, 1) := by decide +kernel
theorem d_MM_sessionOf_1 : decode b_MM_sessionOf 1 = .ok (.ifCond .lt 18, 3) := by decide +kernel
theorem d_MM_sessionOf_4 : decode b_MM_sessionOf 4 = .ok (.iload_n 1, 1) := by decide +kernel
theorem d_MM_sessionOf_5 : decode b_MM_sessionOf 5 = .ok (.bipush 20, 2) := by decide +kernel
theorem d_MM_sessionOf_7 : decode b_MM_sessionOf 7 = .ok (.if_icmp .ge 12, 3) := by decide +kernel
theorem d_MM_sessionOf_10 : decode b_MM_sessionOf 10 = .ok (.aload_n 0, 1) := by decide +kernel
theorem d_MM_sessionOf_11 : decode b_MM_sessionOf 11 = .ok (.getfield 22, 3) := by decide +kernel
theorem d_MM_sessionOf_14 : decode b_MM_sessionOf 14 = .ok (.iload_n 1, 1) := by decide +kernel
theorem d_MM_sessionOf_15 : decode b_MM_sessionOf 15 = .ok (.aaload, 1) := by decide +kernel
theorem d_MM_sessionOf_16 : decode b_MM_sessionOf 16 = .ok (.goto 4, 3) := by decide +kernel
theorem d_MM_sessionOf_19 : decode b_MM_sessionOf 19 = .ok (.aconst_null, 1) := by decide +kernel
theorem d_MM_sessionOf_20 : decode b_MM_sessionOf 20 = .ok (.astore_n 2, 1) := by decide +kernel
theorem d_MM_sessionOf_21 : decode b_MM_sessionOf 21 = .ok (.aload_n 2, 1) := by decide +kernel
theorem d_MM_sessionOf_22 : decode b_MM_sessionOf 22 = .ok (.ifnonnull 13, 3) := by decide +kernel
theorem d_MM_sessionOf_25 : decode b_MM_sessionOf 25 = .ok (.new 183, 3) := by decide +kernel
theorem d_MM_sessionOf_28 : decode b_MM_sessionOf 28 = .ok (.dup, 1) := by decide +kernel
theorem d_MM_sessionOf_29 : decode b_MM_sessionOf 29 = .ok (.ldc 250, 2) := by decide +kernel
theorem d_MM_sessionOf_31 : decode b_MM_sessionOf 31 = .ok (.invokespecial 187, 3) := by decide +kernel
theorem d_MM_sessionOf_34 : decode b_MM_sessionOf 34 = .ok (.athrow, 1) := by decide +kernel
theorem d_MM_sessionOf_35 : decode b_MM_sessionOf 35 = .ok (.aload_n 2, 1) := by decide +kernel
theorem d_MM_sessionOf_36 : decode b_MM_sessionOf 36 = .ok (.areturn, 1) := by decide +kernel
end
section
theorem d_MM_versionOf_0 : decode b_MM_versionOf 0 = .ok (.iload_n 1, 1) := by decide +kernel
theorem d_MM_versionOf_1 : decode b_MM_versionOf 1 = .ok (.ifCond .lt 18, 3) := by decide +kernel
theorem d_MM_versionOf_4 : decode b_MM_versionOf 4 = .ok (.iload_n 1, 1) := by decide +kernel
theorem d_MM_versionOf_5 : decode b_MM_versionOf 5 = .ok (.bipush 40, 2) := by decide +kernel
theorem d_MM_versionOf_7 : decode b_MM_versionOf 7 = .ok (.if_icmp .ge 12, 3) := by decide +kernel
theorem d_MM_versionOf_10 : decode b_MM_versionOf 10 = .ok (.aload_n 0, 1) := by decide +kernel
theorem d_MM_versionOf_11 : decode b_MM_versionOf 11 = .ok (.getfield 31, 3) := by decide +kernel
theorem d_MM_versionOf_14 : decode b_MM_versionOf 14 = .ok (.iload_n 1, 1) := by decide +kernel
theorem d_MM_versionOf_15 : decode b_MM_versionOf 15 = .ok (.aaload, 1) := by decide +kernel
theorem d_MM_versionOf_16 : decode b_MM_versionOf 16 = .ok (.goto 4, 3) := by decide +kernel
theorem d_MM_versionOf_19 : decode b_MM_versionOf 19 = .ok (.aconst_null, 1) := by decide +kernel
theorem d_MM_versionOf_20 : decode b_MM_versionOf 20 = .ok (.astore_n 2, 1) := by decide +kernel
theorem d_MM_versionOf_21 : decode b_MM_versionOf 21 = .ok (.aload_n 2, 1) := by decide +kernel
theorem d_MM_versionOf_22 : decode b_MM_versionOf 22 = .ok (.ifnonnull 13, 3) := by decide +kernel
theorem d_MM_versionOf_25 : decode b_MM_versionOf 25 = .ok (.new 183, 3) := by decide +kernel
theorem d_MM_versionOf_28 : decode b_MM_versionOf 28 = .ok (.dup, 1) := by decide +kernel
theorem d_MM_versionOf_29 : decode b_MM_versionOf 29 = .ok (.ldc 252, 2) := by decide +kernel
theorem d_MM_versionOf_31 : decode b_MM_versionOf 31 = .ok (.invokespecial 187, 3) := by decide +kernel
theorem d_MM_versionOf_34 : decode b_MM_versionOf 34 = .ok (.athrow, 1) := by decide +kernel
theorem d_MM_versionOf_35 : decode b_MM_versionOf 35 = .ok (.aload_n 2, 1) := by decide +kernel
theorem d_MM_versionOf_36 : decode b_MM_versionOf 36 = .ok (.areturn, 1) := by decide +kernel
theorem d_MM_pendingWithConflict_0 : decode b_MM_pendingWithConflict 0 = .ok (.iload_n 1, 1) := by decide +kernel
theorem d_MM_pendingWithConflict_1 : decode b_MM_pendingWithConflict 1 = .ok (.invokestatic 220, 3) := by decide +kernel
theorem d_MM_pendingWithConflict_4 : decode b_MM_pendingWithConflict 4 = .ok (.aload_n 0, 1) := by decide +kernel
theorem d_MM_pendingWithConflict_5 : decode b_MM_pendingWithConflict 5 = .ok (.getfield 54, 3) := by decide +kernel
theorem d_MM_pendingWithConflict_8 : decode b_MM_pendingWithConflict 8 = .ok (.astore_n 2, 1) := by decide +kernel
theorem d_MM_pendingWithConflict_9 : decode b_MM_pendingWithConflict 9 = .ok (.aload_n 2, 1) := by decide +kernel
theorem d_MM_pendingWithConflict_10 : decode b_MM_pendingWithConflict 10 = .ok (.ifnonnull 13, 3) := by decide +kernel
theorem d_MM_pendingWithConflict_13 : decode b_MM_pendingWithConflict 13 = .ok (.new 76, 3) := by decide +kernel
theorem d_MM_pendingWithConflict_16 : decode b_MM_pendingWithConflict 16 = .ok (.dup, 1) := by decide +kernel
theorem d_MM_pendingWithConflict_17 : decode b_MM_pendingWithConflict 17 = .ok (.ldc 168, 2) := by decide +kernel
theorem d_MM_pendingWithConflict_19 : decode b_MM_pendingWithConflict 19 = .ok (.invokespecial 80, 3) := by decide +kernel
theorem d_MM_pendingWithConflict_22 : decode b_MM_pendingWithConflict 22 = .ok (.athrow, 1) := by decide +kernel
theorem d_MM_pendingWithConflict_23 : decode b_MM_pendingWithConflict 23 = .ok (.iload_n 1, 1) := by decide +kernel
theorem d_MM_pendingWithConflict_24 : decode b_MM_pendingWithConflict 24 = .ok (.aload_n 0, 1) := by decide +kernel
theorem d_MM_pendingWithConflict_25 : decode b_MM_pendingWithConflict 25 = .ok (.getfield 50, 3) := by decide +kernel
theorem d_MM_pendingWithConflict_28 : decode b_MM_pendingWithConflict 28 = .ok (.getfield 129, 3) := by decide +kernel
theorem d_MM_pendingWithConflict_31 : decode b_MM_pendingWithConflict 31 = .ok (.invokestatic 68, 3) := by decide +kernel
theorem d_MM_pendingWithConflict_34 : decode b_MM_pendingWithConflict 34 = .ok (.aload_n 2, 1) := by decide +kernel
theorem d_MM_pendingWithConflict_35 : decode b_MM_pendingWithConflict 35 = .ok (.areturn, 1) := by decide +kernel
theorem d_MM_isThing_0 : decode b_MM_isThing 0 = .ok (.iload_n 1, 1) := by decide +kernel
theorem d_MM_isThing_1 : decode b_MM_isThing 1 = .ok (.ifCond .lt 21, 3) := by decide +kernel
theorem d_MM_isThing_4 : decode b_MM_isThing 4 = .ok (.iload_n 1, 1) := by decide +kernel
theorem d_MM_isThing_5 : decode b_MM_isThing 5 = .ok (.aload_n 0, 1) := by decide +kernel
theorem d_MM_isThing_6 : decode b_MM_isThing 6 = .ok (.getfield 16, 3) := by decide +kernel
theorem d_MM_isThing_9 : decode b_MM_isThing 9 = .ok (.if_icmp .ge 13, 3) := by decide +kernel
theorem d_MM_isThing_12 : decode b_MM_isThing 12 = .ok (.iload_n 1, 1) := by decide +kernel
theorem d_MM_isThing_13 : decode b_MM_isThing 13 = .ok (.bipush 60, 2) := by decide +kernel
theorem d_MM_isThing_15 : decode b_MM_isThing 15 = .ok (.if_icmp .ge 7, 3) := by decide +kernel
theorem d_MM_isThing_18 : decode b_MM_isThing 18 = .ok (.iconst 1, 1) := by decide +kernel
theorem d_MM_isThing_19 : decode b_MM_isThing 19 = .ok (.goto 4, 3) := by decide +kernel
theorem d_MM_isThing_22 : decode b_MM_isThing 22 = .ok (.iconst 0, 1) := by decide +kernel
theorem d_MM_isThing_23 : decode b_MM_isThing 23 = .ok (.ireturn, 1) := by decide +kernel
theorem d_MM_kindOf_0 : decode b_MM_kindOf 0 = .ok (.aload_n 0, 1) := by decide +kernel
theorem d_MM_kindOf_1 : decode b_MM_kindOf 1 = .ok (.iload_n 1, 1) := by decide +kernel
theorem d_MM_kindOf_2 : decode b_MM_kindOf 2 = .ok (.invokevirtual 237, 3) := by decide +kernel
theorem d_MM_kindOf_5 : decode b_MM_kindOf 5 = .ok (.ifCond .eq 12, 3) := by decide +kernel
theorem d_MM_kindOf_8 : decode b_MM_kindOf 8 = .ok (.aload_n 0, 1) := by decide +kernel
theorem d_MM_kindOf_9 : decode b_MM_kindOf 9 = .ok (.getfield 9, 3) := by decide +kernel
theorem d_MM_kindOf_12 : decode b_MM_kindOf 12 = .ok (.iload_n 1, 1) := by decide +kernel
theorem d_MM_kindOf_13 : decode b_MM_kindOf 13 = .ok (.iaload, 1) := by decide +kernel
theorem d_MM_kindOf_14 : decode b_MM_kindOf 14 = .ok (.goto 4, 3) := by decide +kernel
theorem d_MM_kindOf_17 : decode b_MM_kindOf 17 = .ok (.iconst (-1), 1) := by decide +kernel
theorem d_MM_kindOf_18 : decode b_MM_kindOf 18 = .ok (.ireturn, 1) := by decide +kernel
theorem d_MM_lockerOf_0 : decode b_MM_lockerOf 0 = .ok (.aload_n 0, 1) := by decide +kernel
theorem d_MM_lockerOf_1 : decode b_MM_lockerOf 1 = .ok (.iload_n 1, 1) := by decide +kernel
theorem d_MM_lockerOf_2 : decode b_MM_lockerOf 2 = .ok (.invokevirtual 237, 3) := by decide +kernel
theorem d_MM_lockerOf_5 : decode b_MM_lockerOf 5 = .ok (.ifCond .eq 12, 3) := by decide +kernel
theorem d_MM_lockerOf_8 : decode b_MM_lockerOf 8 = .ok (.aload_n 0, 1) := by decide +kernel
theorem d_MM_lockerOf_9 : decode b_MM_lockerOf 9 = .ok (.getfield 13, 3) := by decide +kernel
theorem d_MM_lockerOf_12 : decode b_MM_lockerOf 12 = .ok (.iload_n 1, 1) := by decide +kernel
theorem d_MM_lockerOf_13 : decode b_MM_lockerOf 13 = .ok (.iaload, 1) := by decide +kernel
theorem d_MM_lockerOf_14 : decode b_MM_lockerOf 14 = .ok (.goto 4, 3) := by decide +kernel
theorem d_MM_lockerOf_17 : decode b_MM_lockerOf 17 = .ok (.iconst (-1), 1) := by decide +kernel
theorem d_MM_lockerOf_18 : decode b_MM_lockerOf 18 = .ok (.ireturn, 1) := by decide +kernel
theorem d_MM_changeThing_0 : decode b_MM_changeThing 0 = .ok (.aload_n 0, 1) := by decide +kernel
theorem d_MM_changeThing_1 : decode b_MM_changeThing 1 = .ok (.iload_n 1, 1) := by decide +kernel
theorem d_MM_changeThing_2 : decode b_MM_changeThing 2 = .ok (.invokevirtual 86, 3) := by decide +kernel
theorem d_MM_changeThing_5 : decode b_MM_changeThing 5 = .ok (.astore 5, 2) := by decide +kernel
theorem d_MM_changeThing_7 : decode b_MM_changeThing 7 = .ok (.aload_n 0, 1) := by decide +kernel
theorem d_MM_changeThing_8 : decode b_MM_changeThing 8 = .ok (.iload_n 2, 1) := by decide +kernel
theorem d_MM_changeThing_9 : decode b_MM_changeThing 9 = .ok (.invokevirtual 113, 3) := by decide +kernel
theorem d_MM_changeThing_12 : decode b_MM_changeThing 12 = .ok (.aload 5, 2) := by decide +kernel
theorem d_MM_changeThing_14 : decode b_MM_changeThing 14 = .ok (.invokestatic 90, 3) := by decide +kernel
theorem d_MM_changeThing_17 : decode b_MM_changeThing 17 = .ok (.aload 5, 2) := by decide +kernel
theorem d_MM_changeThing_19 : decode b_MM_changeThing 19 = .ok (.getfield 155, 3) := by decide +kernel
theorem d_MM_changeThing_22 : decode b_MM_changeThing 22 = .ok (.iload_n 2, 1) := by decide +kernel
theorem d_MM_changeThing_23 : decode b_MM_changeThing 23 = .ok (.invokevirtual 243, 3) := by decide +kernel
theorem d_MM_changeThing_26 : decode b_MM_changeThing 26 = .ok (.ifCond .ne 6, 3) := by decide +kernel
theorem d_MM_changeThing_29 : decode b_MM_changeThing 29 = .ok (.bipush (-3), 2) := by decide +kernel
theorem d_MM_changeThing_31 : decode b_MM_changeThing 31 = .ok (.ireturn, 1) := by decide +kernel
theorem d_MM_changeThing_32 : decode b_MM_changeThing 32 = .ok (.aload_n 0, 1) := by decide +kernel
theorem d_MM_changeThing_33 : decode b_MM_changeThing 33 = .ok (.iload_n 2, 1) := by decide +kernel
theorem d_MM_changeThing_34 : decode b_MM_changeThing 34 = .ok (.invokevirtual 117, 3) := by decide +kernel
theorem d_MM_changeThing_37 : decode b_MM_changeThing 37 = .ok (.istore 6, 2) := by decide +kernel
theorem d_MM_changeThing_39 : decode b_MM_changeThing 39 = .ok (.iload 6, 2) := by decide +kernel
theorem d_MM_changeThing_41 : decode b_MM_changeThing 41 = .ok (.iconst (-1), 1) := by decide +kernel
theorem d_MM_changeThing_42 : decode b_MM_changeThing 42 = .ok (.if_icmp .eq 16, 3) := by decide +kernel
theorem d_MM_changeThing_45 : decode b_MM_changeThing 45 = .ok (.iload 6, 2) := by decide +kernel
theorem d_MM_changeThing_47 : decode b_MM_changeThing 47 = .ok (.aload 5, 2) := by decide +kernel
theorem d_MM_changeThing_49 : decode b_MM_changeThing 49 = .ok (.getfield 191, 3) := by decide +kernel
theorem d_MM_changeThing_52 : decode b_MM_changeThing 52 = .ok (.if_icmp .eq 6, 3) := by decide +kernel
theorem d_MM_changeThing_55 : decode b_MM_changeThing 55 = .ok (.bipush (-2), 2) := by decide +kernel
theorem d_MM_changeThing_57 : decode b_MM_changeThing 57 = .ok (.ireturn, 1) := by decide +kernel
theorem d_MM_changeThing_58 : decode b_MM_changeThing 58 = .ok (.aload 5, 2) := by decide +kernel
theorem d_MM_changeThing_60 : decode b_MM_changeThing 60 = .ok (.invokevirtual 94, 3) := by decide +kernel
theorem d_MM_changeThing_63 : decode b_MM_changeThing 63 = .ok (.ifCond .eq 6, 3) := by decide +kernel
theorem d_MM_changeThing_66 : decode b_MM_changeThing 66 = .ok (.bipush (-4), 2) := by decide +kernel
theorem d_MM_changeThing_68 : decode b_MM_changeThing 68 = .ok (.ireturn, 1) := by decide +kernel
theorem d_MM_changeThing_69 : decode b_MM_changeThing 69 = .ok (.aload 5, 2) := by decide +kernel
theorem d_MM_changeThing_71 : decode b_MM_changeThing 71 = .ok (.iload_n 2, 1) := by decide +kernel
theorem d_MM_changeThing_72 : decode b_MM_changeThing 72 = .ok (.iload_n 3, 1) := by decide +kernel
theorem d_MM_changeThing_73 : decode b_MM_changeThing 73 = .ok (.iload 4, 2) := by decide +kernel
theorem d_MM_changeThing_75 : decode b_MM_changeThing 75 = .ok (.invokevirtual 98, 3) := by decide +kernel
theorem d_MM_changeThing_78 : decode b_MM_changeThing 78 = .ok (.ireturn, 1) := by decide +kernel
theorem d_MM_isDifference_0 : decode b_MM_isDifference 0 = .ok (.aload_n 0, 1) := by decide +kernel
theorem d_MM_isDifference_1 : decode b_MM_isDifference 1 = .ok (.iload_n 2, 1) := by decide +kernel
theorem d_MM_isDifference_2 : decode b_MM_isDifference 2 = .ok (.invokevirtual 243, 3) := by decide +kernel
theorem d_MM_isDifference_5 : decode b_MM_isDifference 5 = .ok (.aload_n 1, 1) := by decide +kernel
theorem d_MM_isDifference_6 : decode b_MM_isDifference 6 = .ok (.iload_n 2, 1) := by decide +kernel
theorem d_MM_isDifference_7 : decode b_MM_isDifference 7 = .ok (.invokevirtual 243, 3) := by decide +kernel
theorem d_MM_isDifference_10 : decode b_MM_isDifference 10 = .ok (.if_icmp .eq 13, 3) := by decide +kernel
theorem d_MM_isDifference_13 : decode b_MM_isDifference 13 = .ok (.iload_n 3, 1) := by decide +kernel
theorem d_MM_isDifference_14 : decode b_MM_isDifference 14 = .ok (.ifCond .ne 7, 3) := by decide +kernel
theorem d_MM_isDifference_17 : decode b_MM_isDifference 17 = .ok (.iconst 1, 1) := by decide +kernel
theorem d_MM_isDifference_18 : decode b_MM_isDifference 18 = .ok (.goto 4, 3) := by decide +kernel
theorem d_MM_isDifference_21 : decode b_MM_isDifference 21 = .ok (.iconst 0, 1) := by decide +kernel
theorem d_MM_isDifference_22 : decode b_MM_isDifference 22 = .ok (.ireturn, 1) := by decide +kernel
theorem d_MM_isDifference_23 : decode b_MM_isDifference 23 = .ok (.aload_n 0, 1) := by decide +kernel
theorem d_MM_isDifference_24 : decode b_MM_isDifference 24 = .ok (.iload_n 2, 1) := by decide +kernel
theorem d_MM_isDifference_25 : decode b_MM_isDifference 25 = .ok (.invokevirtual 243, 3) := by decide +kernel
theorem d_MM_isDifference_28 : decode b_MM_isDifference 28 = .ok (.ifCond .eq 22, 3) := by decide +kernel
theorem d_MM_isDifference_31 : decode b_MM_isDifference 31 = .ok (.aload_n 0, 1) := by decide +kernel
theorem d_MM_isDifference_32 : decode b_MM_isDifference 32 = .ok (.iload_n 2, 1) := by decide +kernel
theorem d_MM_isDifference_33 : decode b_MM_isDifference 33 = .ok (.iload_n 3, 1) := by decide +kernel
theorem d_MM_isDifference_34 : decode b_MM_isDifference 34 = .ok (.invokevirtual 151, 3) := by decide +kernel
theorem d_MM_isDifference_37 : decode b_MM_isDifference 37 = .ok (.aload_n 1, 1) := by decide +kernel
theorem d_MM_isDifference_38 : decode b_MM_isDifference 38 = .ok (.iload_n 2, 1) := by decide +kernel
theorem d_MM_isDifference_39 : decode b_MM_isDifference 39 = .ok (.iload_n 3, 1) := by decide +kernel
theorem d_MM_isDifference_40 : decode b_MM_isDifference 40 = .ok (.invokevirtual 151, 3) := by decide +kernel
theorem d_MM_isDifference_43 : decode b_MM_isDifference 43 = .ok (.if_icmp .eq 7, 3) := by decide +kernel
theorem d_MM_isDifference_46 : decode b_MM_isDifference 46 = .ok (.iconst 1, 1) := by decide +kernel
theorem d_MM_isDifference_47 : decode b_MM_isDifference 47 = .ok (.goto 4, 3) := by decide +kernel
theorem d_MM_isDifference_50 : decode b_MM_isDifference 50 = .ok (.iconst 0, 1) := by decide +kernel
theorem d_MM_isDifference_51 : decode b_MM_isDifference 51 = .ok (.ireturn, 1) := by decide +kernel
theorem d_MM_isBroken_0 : decode b_MM_isBroken 0 = .ok (.aload_n 1, 1) := by decide +kernel
theorem d_MM_isBroken_1 : decode b_MM_isBroken 1 = .ok (.ifnull 23, 3) := by decide +kernel
theorem d_MM_isBroken_4 : decode b_MM_isBroken 4 = .ok (.aload_n 2, 1) := by decide +kernel
theorem d_MM_isBroken_5 : decode b_MM_isBroken 5 = .ok (.iload_n 3, 1) := by decide +kernel
theorem d_MM_isBroken_6 : decode b_MM_isBroken 6 = .ok (.invokevirtual 243, 3) := by decide +kernel
theorem d_MM_isBroken_9 : decode b_MM_isBroken 9 = .ok (.ifCond .eq 15, 3) := by decide +kernel
theorem d_MM_isBroken_12 : decode b_MM_isBroken 12 = .ok (.aload_n 0, 1) := by decide +kernel
theorem d_MM_isBroken_13 : decode b_MM_isBroken 13 = .ok (.iload_n 3, 1) := by decide +kernel
theorem d_MM_isBroken_14 : decode b_MM_isBroken 14 = .ok (.invokevirtual 177, 3) := by decide +kernel
theorem d_MM_isBroken_17 : decode b_MM_isBroken 17 = .ok (.aload_n 1, 1) := by decide +kernel
theorem d_MM_isBroken_18 : decode b_MM_isBroken 18 = .ok (.getfield 254, 3) := by decide +kernel
theorem d_MM_isBroken_21 : decode b_MM_isBroken 21 = .ok (.if_icmp .eq 5, 3) := by decide +kernel
theorem d_MM_isBroken_24 : decode b_MM_isBroken 24 = .ok (.iconst 0, 1) := by decide +kernel
theorem d_MM_isBroken_25 : decode b_MM_isBroken 25 = .ok (.ireturn, 1) := by decide +kernel
theorem d_MM_isBroken_26 : decode b_MM_isBroken 26 = .ok (.aload_n 2, 1) := by decide +kernel
theorem d_MM_isBroken_27 : decode b_MM_isBroken 27 = .ok (.iload_n 3, 1) := by decide +kernel
theorem d_MM_isBroken_28 : decode b_MM_isBroken 28 = .ok (.aload_n 1, 1) := by decide +kernel
theorem d_MM_isBroken_29 : decode b_MM_isBroken 29 = .ok (.getfield 257, 3) := by decide +kernel
theorem d_MM_isBroken_32 : decode b_MM_isBroken 32 = .ok (.invokevirtual 151, 3) := by decide +kernel
theorem d_MM_isBroken_35 : decode b_MM_isBroken 35 = .ok (.istore 4, 2) := by decide +kernel
theorem d_MM_isBroken_37 : decode b_MM_isBroken 37 = .ok (.aload_n 2, 1) := by decide +kernel
theorem d_MM_isBroken_38 : decode b_MM_isBroken 38 = .ok (.iload 4, 2) := by decide +kernel
theorem d_MM_isBroken_40 : decode b_MM_isBroken 40 = .ok (.invokevirtual 243, 3) := by decide +kernel
theorem d_MM_isBroken_43 : decode b_MM_isBroken 43 = .ok (.ifCond .eq 16, 3) := by decide +kernel
theorem d_MM_isBroken_46 : decode b_MM_isBroken 46 = .ok (.aload_n 0, 1) := by decide +kernel
theorem d_MM_isBroken_47 : decode b_MM_isBroken 47 = .ok (.iload 4, 2) := by decide +kernel
theorem d_MM_isBroken_49 : decode b_MM_isBroken 49 = .ok (.invokevirtual 177, 3) := by decide +kernel
theorem d_MM_isBroken_52 : decode b_MM_isBroken 52 = .ok (.aload_n 1, 1) := by decide +kernel
theorem d_MM_isBroken_53 : decode b_MM_isBroken 53 = .ok (.getfield 260, 3) := by decide +kernel
theorem d_MM_isBroken_56 : decode b_MM_isBroken 56 = .ok (.if_icmp .eq 7, 3) := by decide +kernel
theorem d_MM_isBroken_59 : decode b_MM_isBroken 59 = .ok (.iconst 1, 1) := by decide +kernel
theorem d_MM_isBroken_60 : decode b_MM_isBroken 60 = .ok (.goto 4, 3) := by decide +kernel
theorem d_MM_isBroken_63 : decode b_MM_isBroken 63 = .ok (.iconst 0, 1) := by decide +kernel
theorem d_MM_isBroken_64 : decode b_MM_isBroken 64 = .ok (.ireturn, 1) := by decide +kernel
theorem d_MM_findConflicts_0 : decode b_MM_findConflicts 0 = .ok (.aload_n 1, 1) := by decide +kernel
theorem d_MM_findConflicts_1 : decode b_MM_findConflicts 1 = .ok (.getfield 194, 3) := by decide +kernel
theorem d_MM_findConflicts_4 : decode b_MM_findConflicts 4 = .ok (.getfield 147, 3) := by decide +kernel
theorem d_MM_findConflicts_7 : decode b_MM_findConflicts 7 = .ok (.astore_n 2, 1) := by decide +kernel
theorem d_MM_findConflicts_8 : decode b_MM_findConflicts 8 = .ok (.aload_n 0, 1) := by decide +kernel
theorem d_MM_findConflicts_9 : decode b_MM_findConflicts 9 = .ok (.getfield 64, 3) := by decide +kernel
theorem d_MM_findConflicts_12 : decode b_MM_findConflicts 12 = .ok (.getfield 147, 3) := by decide +kernel
theorem d_MM_findConflicts_15 : decode b_MM_findConflicts 15 = .ok (.astore_n 3, 1) := by decide +kernel
theorem d_MM_findConflicts_16 : decode b_MM_findConflicts 16 = .ok (.aload_n 1, 1) := by decide +kernel
theorem d_MM_findConflicts_17 : decode b_MM_findConflicts 17 = .ok (.getfield 155, 3) := by decide +kernel
theorem d_MM_findConflicts_20 : decode b_MM_findConflicts 20 = .ok (.astore 4, 2) := by decide +kernel
theorem d_MM_findConflicts_22 : decode b_MM_findConflicts 22 = .ok (.aload_n 0, 1) := by decide +kernel
theorem d_MM_findConflicts_23 : decode b_MM_findConflicts 23 = .ok (.getfield 50, 3) := by decide +kernel
theorem d_MM_findConflicts_26 : decode b_MM_findConflicts 26 = .ok (.invokevirtual 263, 3) := by decide +kernel
theorem d_MM_findConflicts_29 : decode b_MM_findConflicts 29 = .ok (.iconst 0, 1) := by decide +kernel
theorem d_MM_findConflicts_30 : decode b_MM_findConflicts 30 = .ok (.istore 5, 2) := by decide +kernel
theorem d_MM_findConflicts_32 : decode b_MM_findConflicts 32 = .ok (.iload 5, 2) := by decide +kernel
theorem d_MM_findConflicts_34 : decode b_MM_findConflicts 34 = .ok (.aload_n 0, 1) := by decide +kernel
theorem d_MM_findConflicts_35 : decode b_MM_findConflicts 35 = .ok (.getfield 16, 3) := by decide +kernel
theorem d_MM_findConflicts_38 : decode b_MM_findConflicts 38 = .ok (.if_icmp .ge 63, 3) := by decide +kernel
theorem d_MM_findConflicts_41 : decode b_MM_findConflicts 41 = .ok (.aload_n 2, 1) := by decide +kernel
theorem d_MM_findConflicts_42 : decode b_MM_findConflicts 42 = .ok (.aload_n 3, 1) := by decide +kernel
theorem d_MM_findConflicts_43 : decode b_MM_findConflicts 43 = .ok (.aload 4, 2) := by decide +kernel
theorem d_MM_findConflicts_45 : decode b_MM_findConflicts 45 = .ok (.iload 5, 2) := by decide +kernel
theorem d_MM_findConflicts_47 : decode b_MM_findConflicts 47 = .ok (.invokestatic 266, 3) := by decide +kernel
theorem d_MM_findConflicts_50 : decode b_MM_findConflicts 50 = .ok (.ifCond .eq 16, 3) := by decide +kernel
theorem d_MM_findConflicts_53 : decode b_MM_findConflicts 53 = .ok (.aload_n 0, 1) := by decide +kernel
theorem d_MM_findConflicts_54 : decode b_MM_findConflicts 54 = .ok (.getfield 50, 3) := by decide +kernel
theorem d_MM_findConflicts_57 : decode b_MM_findConflicts 57 = .ok (.iload 5, 2) := by decide +kernel
theorem d_MM_findConflicts_59 : decode b_MM_findConflicts 59 = .ok (.iconst (-1), 1) := by decide +kernel
theorem d_MM_findConflicts_60 : decode b_MM_findConflicts 60 = .ok (.invokevirtual 270, 3) := by decide +kernel
theorem d_MM_findConflicts_63 : decode b_MM_findConflicts 63 = .ok (.goto 32, 3) := by decide +kernel
theorem d_MM_findConflicts_66 : decode b_MM_findConflicts 66 = .ok (.aload_n 3, 1) := by decide +kernel
theorem d_MM_findConflicts_67 : decode b_MM_findConflicts 67 = .ok (.iload 5, 2) := by decide +kernel
theorem d_MM_findConflicts_69 : decode b_MM_findConflicts 69 = .ok (.invokevirtual 243, 3) := by decide +kernel
theorem d_MM_findConflicts_72 : decode b_MM_findConflicts 72 = .ok (.ifCond .eq 23, 3) := by decide +kernel
theorem d_MM_findConflicts_75 : decode b_MM_findConflicts 75 = .ok (.aload 4, 2) := by decide +kernel
theorem d_MM_findConflicts_77 : decode b_MM_findConflicts 77 = .ok (.iload 5, 2) := by decide +kernel
theorem d_MM_findConflicts_79 : decode b_MM_findConflicts 79 = .ok (.invokevirtual 243, 3) := by decide +kernel
theorem d_MM_findConflicts_82 : decode b_MM_findConflicts 82 = .ok (.ifCond .eq 13, 3) := by decide +kernel
theorem d_MM_findConflicts_85 : decode b_MM_findConflicts 85 = .ok (.aload_n 0, 1) := by decide +kernel
theorem d_MM_findConflicts_86 : decode b_MM_findConflicts 86 = .ok (.aload_n 2, 1) := by decide +kernel
theorem d_MM_findConflicts_87 : decode b_MM_findConflicts 87 = .ok (.aload_n 3, 1) := by decide +kernel
theorem d_MM_findConflicts_88 : decode b_MM_findConflicts 88 = .ok (.aload 4, 2) := by decide +kernel
theorem d_MM_findConflicts_90 : decode b_MM_findConflicts 90 = .ok (.iload 5, 2) := by decide +kernel
theorem d_MM_findConflicts_92 : decode b_MM_findConflicts 92 = .ok (.invokevirtual 273, 3) := by decide +kernel
theorem d_MM_findConflicts_95 : decode b_MM_findConflicts 95 = .ok (.iinc 5 1, 3) := by decide +kernel
theorem d_MM_findConflicts_98 : decode b_MM_findConflicts 98 = .ok (.goto (-66), 3) := by decide +kernel
theorem d_MM_findConflicts_101 : decode b_MM_findConflicts 101 = .ok (.return_, 1) := by decide +kernel
theorem d_MM_findFieldConflicts_0 : decode b_MM_findFieldConflicts 0 = .ok (.iconst 0, 1) := by decide +kernel
theorem d_MM_findFieldConflicts_1 : decode b_MM_findFieldConflicts 1 = .ok (.istore 5, 2) := by decide +kernel
theorem d_MM_findFieldConflicts_3 : decode b_MM_findFieldConflicts 3 = .ok (.iload 5, 2) := by decide +kernel
theorem d_MM_findFieldConflicts_5 : decode b_MM_findFieldConflicts 5 = .ok (.iconst 5, 1) := by decide +kernel
theorem d_MM_findFieldConflicts_6 : decode b_MM_findFieldConflicts 6 = .ok (.if_icmp .ge 71, 3) := by decide +kernel
theorem d_MM_findFieldConflicts_9 : decode b_MM_findFieldConflicts 9 = .ok (.aload_n 1, 1) := by decide +kernel
theorem d_MM_findFieldConflicts_10 : decode b_MM_findFieldConflicts 10 = .ok (.iload 4, 2) := by decide +kernel
theorem d_MM_findFieldConflicts_12 : decode b_MM_findFieldConflicts 12 = .ok (.iload 5, 2) := by decide +kernel
theorem d_MM_findFieldConflicts_14 : decode b_MM_findFieldConflicts 14 = .ok (.invokevirtual 151, 3) := by decide +kernel
theorem d_MM_findFieldConflicts_17 : decode b_MM_findFieldConflicts 17 = .ok (.istore 6, 2) := by decide +kernel
theorem d_MM_findFieldConflicts_19 : decode b_MM_findFieldConflicts 19 = .ok (.aload_n 2, 1) := by decide +kernel
theorem d_MM_findFieldConflicts_20 : decode b_MM_findFieldConflicts 20 = .ok (.iload 4, 2) := by decide +kernel
theorem d_MM_findFieldConflicts_22 : decode b_MM_findFieldConflicts 22 = .ok (.iload 5, 2) := by decide +kernel
theorem d_MM_findFieldConflicts_24 : decode b_MM_findFieldConflicts 24 = .ok (.invokevirtual 151, 3) := by decide +kernel
theorem d_MM_findFieldConflicts_27 : decode b_MM_findFieldConflicts 27 = .ok (.istore 7, 2) := by decide +kernel
theorem d_MM_findFieldConflicts_29 : decode b_MM_findFieldConflicts 29 = .ok (.aload_n 3, 1) := by decide +kernel
theorem d_MM_findFieldConflicts_30 : decode b_MM_findFieldConflicts 30 = .ok (.iload 4, 2) := by decide +kernel
theorem d_MM_findFieldConflicts_32 : decode b_MM_findFieldConflicts 32 = .ok (.iload 5, 2) := by decide +kernel
theorem d_MM_findFieldConflicts_34 : decode b_MM_findFieldConflicts 34 = .ok (.invokevirtual 151, 3) := by decide +kernel
theorem d_MM_findFieldConflicts_37 : decode b_MM_findFieldConflicts 37 = .ok (.istore 8, 2) := by decide +kernel
theorem d_MM_findFieldConflicts_39 : decode b_MM_findFieldConflicts 39 = .ok (.iload 7, 2) := by decide +kernel
theorem d_MM_findFieldConflicts_41 : decode b_MM_findFieldConflicts 41 = .ok (.iload 6, 2) := by decide +kernel
theorem d_MM_findFieldConflicts_43 : decode b_MM_findFieldConflicts 43 = .ok (.if_icmp .eq 28, 3) := by decide +kernel
theorem d_MM_findFieldConflicts_46 : decode b_MM_findFieldConflicts 46 = .ok (.iload 8, 2) := by decide +kernel
theorem d_MM_findFieldConflicts_48 : decode b_MM_findFieldConflicts 48 = .ok (.iload 6, 2) := by decide +kernel
theorem d_MM_findFieldConflicts_50 : decode b_MM_findFieldConflicts 50 = .ok (.if_icmp .eq 21, 3) := by decide +kernel
theorem d_MM_findFieldConflicts_53 : decode b_MM_findFieldConflicts 53 = .ok (.iload 7, 2) := by decide +kernel
theorem d_MM_findFieldConflicts_55 : decode b_MM_findFieldConflicts 55 = .ok (.iload 8, 2) := by decide +kernel
theorem d_MM_findFieldConflicts_57 : decode b_MM_findFieldConflicts 57 = .ok (.if_icmp .eq 14, 3) := by decide +kernel
theorem d_MM_findFieldConflicts_60 : decode b_MM_findFieldConflicts 60 = .ok (.aload_n 0, 1) := by decide +kernel
theorem d_MM_findFieldConflicts_61 : decode b_MM_findFieldConflicts 61 = .ok (.getfield 50, 3) := by decide +kernel
theorem d_MM_findFieldConflicts_64 : decode b_MM_findFieldConflicts 64 = .ok (.iload 4, 2) := by decide +kernel
theorem d_MM_findFieldConflicts_66 : decode b_MM_findFieldConflicts 66 = .ok (.iload 5, 2) := by decide +kernel
theorem d_MM_findFieldConflicts_68 : decode b_MM_findFieldConflicts 68 = .ok (.invokevirtual 270, 3) := by decide +kernel
theorem d_MM_findFieldConflicts_71 : decode b_MM_findFieldConflicts 71 = .ok (.iinc 5 1, 3) := by decide +kernel
theorem d_MM_findFieldConflicts_74 : decode b_MM_findFieldConflicts 74 = .ok (.goto (-71), 3) := by decide +kernel
theorem d_MM_findFieldConflicts_77 : decode b_MM_findFieldConflicts 77 = .ok (.return_, 1) := by decide +kernel
theorem d_MM_isDroppedAndChanged_0 : decode b_MM_isDroppedAndChanged 0 = .ok (.aload_n 0, 1) := by decide +kernel
theorem d_MM_isDroppedAndChanged_1 : decode b_MM_isDroppedAndChanged 1 = .ok (.iload_n 3, 1) := by decide +kernel
theorem d_MM_isDroppedAndChanged_2 : decode b_MM_isDroppedAndChanged 2 = .ok (.invokevirtual 243, 3) := by decide +kernel
theorem d_MM_isDroppedAndChanged_5 : decode b_MM_isDroppedAndChanged 5 = .ok (.ifCond .eq 16, 3) := by decide +kernel
theorem d_MM_isDroppedAndChanged_8 : decode b_MM_isDroppedAndChanged 8 = .ok (.aload_n 1, 1) := by decide +kernel
theorem d_MM_isDroppedAndChanged_9 : decode b_MM_isDroppedAndChanged 9 = .ok (.iload_n 3, 1) := by decide +kernel
theorem d_MM_isDroppedAndChanged_10 : decode b_MM_isDroppedAndChanged 10 = .ok (.invokevirtual 243, 3) := by decide +kernel
theorem d_MM_isDroppedAndChanged_13 : decode b_MM_isDroppedAndChanged 13 = .ok (.aload_n 2, 1) := by decide +kernel
theorem d_MM_isDroppedAndChanged_14 : decode b_MM_isDroppedAndChanged 14 = .ok (.iload_n 3, 1) := by decide +kernel
theorem d_MM_isDroppedAndChanged_15 : decode b_MM_isDroppedAndChanged 15 = .ok (.invokevirtual 243, 3) := by decide +kernel
theorem d_MM_isDroppedAndChanged_18 : decode b_MM_isDroppedAndChanged 18 = .ok (.if_icmp .ne 5, 3) := by decide +kernel
theorem d_MM_isDroppedAndChanged_21 : decode b_MM_isDroppedAndChanged 21 = .ok (.iconst 0, 1) := by decide +kernel
theorem d_MM_isDroppedAndChanged_22 : decode b_MM_isDroppedAndChanged 22 = .ok (.ireturn, 1) := by decide +kernel
theorem d_MM_isDroppedAndChanged_23 : decode b_MM_isDroppedAndChanged 23 = .ok (.aload_n 1, 1) := by decide +kernel
theorem d_MM_isDroppedAndChanged_24 : decode b_MM_isDroppedAndChanged 24 = .ok (.iload_n 3, 1) := by decide +kernel
theorem d_MM_isDroppedAndChanged_25 : decode b_MM_isDroppedAndChanged 25 = .ok (.invokevirtual 243, 3) := by decide +kernel
theorem d_MM_isDroppedAndChanged_28 : decode b_MM_isDroppedAndChanged 28 = .ok (.ifCond .eq 7, 3) := by decide +kernel
theorem d_MM_isDroppedAndChanged_31 : decode b_MM_isDroppedAndChanged 31 = .ok (.aload_n 1, 1) := by decide +kernel
theorem d_MM_isDroppedAndChanged_32 : decode b_MM_isDroppedAndChanged 32 = .ok (.goto 4, 3) := by decide +kernel
theorem d_MM_isDroppedAndChanged_35 : decode b_MM_isDroppedAndChanged 35 = .ok (.aload_n 2, 1) := by decide +kernel
theorem d_MM_isDroppedAndChanged_36 : decode b_MM_isDroppedAndChanged 36 = .ok (.astore 4, 2) := by decide +kernel
theorem d_MM_isDroppedAndChanged_38 : decode b_MM_isDroppedAndChanged 38 = .ok (.iconst 0, 1) := by decide +kernel
theorem d_MM_isDroppedAndChanged_39 : decode b_MM_isDroppedAndChanged 39 = .ok (.istore 5, 2) := by decide +kernel
theorem d_MM_isDroppedAndChanged_41 : decode b_MM_isDroppedAndChanged 41 = .ok (.iload 5, 2) := by decide +kernel
theorem d_MM_isDroppedAndChanged_43 : decode b_MM_isDroppedAndChanged 43 = .ok (.iconst 5, 1) := by decide +kernel
theorem d_MM_isDroppedAndChanged_44 : decode b_MM_isDroppedAndChanged 44 = .ok (.if_icmp .ge 29, 3) := by decide +kernel
theorem d_MM_isDroppedAndChanged_47 : decode b_MM_isDroppedAndChanged 47 = .ok (.aload 4, 2) := by decide +kernel
theorem d_MM_isDroppedAndChanged_49 : decode b_MM_isDroppedAndChanged 49 = .ok (.iload_n 3, 1) := by decide +kernel
theorem d_MM_isDroppedAndChanged_50 : decode b_MM_isDroppedAndChanged 50 = .ok (.iload 5, 2) := by decide +kernel
theorem d_MM_isDroppedAndChanged_52 : decode b_MM_isDroppedAndChanged 52 = .ok (.invokevirtual 151, 3) := by decide +kernel
theorem d_MM_isDroppedAndChanged_55 : decode b_MM_isDroppedAndChanged 55 = .ok (.aload_n 0, 1) := by decide +kernel
theorem d_MM_isDroppedAndChanged_56 : decode b_MM_isDroppedAndChanged 56 = .ok (.iload_n 3, 1) := by decide +kernel
theorem d_MM_isDroppedAndChanged_57 : decode b_MM_isDroppedAndChanged 57 = .ok (.iload 5, 2) := by decide +kernel
theorem d_MM_isDroppedAndChanged_59 : decode b_MM_isDroppedAndChanged 59 = .ok (.invokevirtual 151, 3) := by decide +kernel
theorem d_MM_isDroppedAndChanged_62 : decode b_MM_isDroppedAndChanged 62 = .ok (.if_icmp .eq 5, 3) := by decide +kernel
theorem d_MM_isDroppedAndChanged_65 : decode b_MM_isDroppedAndChanged 65 = .ok (.iconst 1, 1) := by decide +kernel
theorem d_MM_isDroppedAndChanged_66 : decode b_MM_isDroppedAndChanged 66 = .ok (.ireturn, 1) := by decide +kernel
theorem d_MM_isDroppedAndChanged_67 : decode b_MM_isDroppedAndChanged 67 = .ok (.iinc 5 1, 3) := by decide +kernel
theorem d_MM_isDroppedAndChanged_70 : decode b_MM_isDroppedAndChanged 70 = .ok (.goto (-29), 3) := by decide +kernel
theorem d_MM_isDroppedAndChanged_73 : decode b_MM_isDroppedAndChanged 73 = .ok (.iconst 0, 1) := by decide +kernel
theorem d_MM_isDroppedAndChanged_74 : decode b_MM_isDroppedAndChanged 74 = .ok (.ireturn, 1) := by decide +kernel
theorem d_MM_finishJoining_0 : decode b_MM_finishJoining 0 = .ok (.aload_n 0, 1) := by decide +kernel
theorem d_MM_finishJoining_1 : decode b_MM_finishJoining 1 = .ok (.getfield 35, 3) := by decide +kernel
theorem d_MM_finishJoining_4 : decode b_MM_finishJoining 4 = .ok (.bipush 40, 2) := by decide +kernel
theorem d_MM_finishJoining_6 : decode b_MM_finishJoining 6 = .ok (.if_icmp .lt 4, 3) := by decide +kernel
theorem d_MM_finishJoining_9 : decode b_MM_finishJoining 9 = .ok (.return_, 1) := by decide +kernel
theorem d_MM_finishJoining_10 : decode b_MM_finishJoining 10 = .ok (.aload_n 0, 1) := by decide +kernel
theorem d_MM_finishJoining_11 : decode b_MM_finishJoining 11 = .ok (.getfield 35, 3) := by decide +kernel
theorem d_MM_finishJoining_14 : decode b_MM_finishJoining 14 = .ok (.istore_n 2, 1) := by decide +kernel
theorem d_MM_finishJoining_15 : decode b_MM_finishJoining 15 = .ok (.new 29, 3) := by decide +kernel
theorem d_MM_finishJoining_18 : decode b_MM_finishJoining 18 = .ok (.dup, 1) := by decide +kernel
theorem d_MM_finishJoining_19 : decode b_MM_finishJoining 19 = .ok (.iload_n 2, 1) := by decide +kernel
theorem d_MM_finishJoining_20 : decode b_MM_finishJoining 20 = .ok (.aload_n 1, 1) := by decide +kernel
theorem d_MM_finishJoining_21 : decode b_MM_finishJoining 21 = .ok (.getfield 170, 3) := by decide +kernel
theorem d_MM_finishJoining_24 : decode b_MM_finishJoining 24 = .ok (.aload_n 0, 1) := by decide +kernel
theorem d_MM_finishJoining_25 : decode b_MM_finishJoining 25 = .ok (.aload_n 1, 1) := by decide +kernel
theorem d_MM_finishJoining_26 : decode b_MM_finishJoining 26 = .ok (.invokevirtual 277, 3) := by decide +kernel
theorem d_MM_finishJoining_29 : decode b_MM_finishJoining 29 = .ok (.invokespecial 61, 3) := by decide +kernel
theorem d_MM_finishJoining_32 : decode b_MM_finishJoining 32 = .ok (.astore_n 3, 1) := by decide +kernel
theorem d_MM_finishJoining_33 : decode b_MM_finishJoining 33 = .ok (.aload_n 3, 1) := by decide +kernel
theorem d_MM_finishJoining_34 : decode b_MM_finishJoining 34 = .ok (.aload_n 0, 1) := by decide +kernel
theorem d_MM_finishJoining_35 : decode b_MM_finishJoining 35 = .ok (.getfield 64, 3) := by decide +kernel
theorem d_MM_finishJoining_38 : decode b_MM_finishJoining 38 = .ok (.invokevirtual 281, 3) := by decide +kernel
theorem d_MM_finishJoining_41 : decode b_MM_finishJoining 41 = .ok (.aload_n 0, 1) := by decide +kernel
theorem d_MM_finishJoining_42 : decode b_MM_finishJoining 42 = .ok (.getfield 31, 3) := by decide +kernel
theorem d_MM_finishJoining_45 : decode b_MM_finishJoining 45 = .ok (.iload_n 2, 1) := by decide +kernel
theorem d_MM_finishJoining_46 : decode b_MM_finishJoining 46 = .ok (.aload_n 3, 1) := by decide +kernel
theorem d_MM_finishJoining_47 : decode b_MM_finishJoining 47 = .ok (.aastore, 1) := by decide +kernel
theorem d_MM_finishJoining_48 : decode b_MM_finishJoining 48 = .ok (.aload_n 0, 1) := by decide +kernel
theorem d_MM_finishJoining_49 : decode b_MM_finishJoining 49 = .ok (.dup, 1) := by decide +kernel
theorem d_MM_finishJoining_50 : decode b_MM_finishJoining 50 = .ok (.getfield 35, 3) := by decide +kernel
theorem d_MM_finishJoining_53 : decode b_MM_finishJoining 53 = .ok (.iconst 1, 1) := by decide +kernel
theorem d_MM_finishJoining_54 : decode b_MM_finishJoining 54 = .ok (.iadd, 1) := by decide +kernel
theorem d_MM_finishJoining_55 : decode b_MM_finishJoining 55 = .ok (.putfield 35, 3) := by decide +kernel
theorem d_MM_finishJoining_58 : decode b_MM_finishJoining 58 = .ok (.aload_n 0, 1) := by decide +kernel
theorem d_MM_finishJoining_59 : decode b_MM_finishJoining 59 = .ok (.aload_n 3, 1) := by decide +kernel
theorem d_MM_finishJoining_60 : decode b_MM_finishJoining 60 = .ok (.putfield 64, 3) := by decide +kernel
theorem d_MM_finishJoining_63 : decode b_MM_finishJoining 63 = .ok (.aload_n 1, 1) := by decide +kernel
theorem d_MM_finishJoining_64 : decode b_MM_finishJoining 64 = .ok (.iconst 2, 1) := by decide +kernel
theorem d_MM_finishJoining_65 : decode b_MM_finishJoining 65 = .ok (.putfield 135, 3) := by decide +kernel
theorem d_MM_finishJoining_68 : decode b_MM_finishJoining 68 = .ok (.aload_n 1, 1) := by decide +kernel
theorem d_MM_finishJoining_69 : decode b_MM_finishJoining 69 = .ok (.iload_n 2, 1) := by decide +kernel
theorem d_MM_finishJoining_70 : decode b_MM_finishJoining 70 = .ok (.putfield 208, 3) := by decide +kernel
theorem d_MM_finishJoining_73 : decode b_MM_finishJoining 73 = .ok (.aload_n 0, 1) := by decide +kernel
theorem d_MM_finishJoining_74 : decode b_MM_finishJoining 74 = .ok (.aconst_null, 1) := by decide +kernel
theorem d_MM_finishJoining_75 : decode b_MM_finishJoining 75 = .ok (.putfield 54, 3) := by decide +kernel
theorem d_MM_finishJoining_78 : decode b_MM_finishJoining 78 = .ok (.return_, 1) := by decide +kernel
theorem d_MM_joinedState_0 : decode b_MM_joinedState 0 = .ok (.new 58, 3) := by decide +kernel
theorem d_MM_joinedState_3 : decode b_MM_joinedState 3 = .ok (.dup, 1) := by decide +kernel
theorem d_MM_joinedState_4 : decode b_MM_joinedState 4 = .ok (.invokespecial 60, 3) := by decide +kernel
theorem d_MM_joinedState_7 : decode b_MM_joinedState 7 = .ok (.astore_n 2, 1) := by decide +kernel
theorem d_MM_joinedState_8 : decode b_MM_joinedState 8 = .ok (.iconst 0, 1) := by decide +kernel
theorem d_MM_joinedState_9 : decode b_MM_joinedState 9 = .ok (.istore_n 3, 1) := by decide +kernel
theorem d_MM_joinedState_10 : decode b_MM_joinedState 10 = .ok (.iload_n 3, 1) := by decide +kernel
theorem d_MM_joinedState_11 : decode b_MM_joinedState 11 = .ok (.aload_n 0, 1) := by decide +kernel
theorem d_MM_joinedState_12 : decode b_MM_joinedState 12 = .ok (.getfield 16, 3) := by decide +kernel
theorem d_MM_joinedState_15 : decode b_MM_joinedState 15 = .ok (.if_icmp .ge 26, 3) := by decide +kernel
theorem d_MM_joinedState_18 : decode b_MM_joinedState 18 = .ok (.aload_n 0, 1) := by decide +kernel
theorem d_MM_joinedState_19 : decode b_MM_joinedState 19 = .ok (.aload_n 2, 1) := by decide +kernel
theorem d_MM_joinedState_20 : decode b_MM_joinedState 20 = .ok (.aload_n 1, 1) := by decide +kernel
theorem d_MM_joinedState_21 : decode b_MM_joinedState 21 = .ok (.getfield 194, 3) := by decide +kernel
theorem d_MM_joinedState_24 : decode b_MM_joinedState 24 = .ok (.getfield 147, 3) := by decide +kernel
theorem d_MM_joinedState_27 : decode b_MM_joinedState 27 = .ok (.aload_n 1, 1) := by decide +kernel
theorem d_MM_joinedState_28 : decode b_MM_joinedState 28 = .ok (.getfield 155, 3) := by decide +kernel
theorem d_MM_joinedState_31 : decode b_MM_joinedState 31 = .ok (.iload_n 3, 1) := by decide +kernel
theorem d_MM_joinedState_32 : decode b_MM_joinedState 32 = .ok (.invokevirtual 285, 3) := by decide +kernel
theorem d_MM_joinedState_35 : decode b_MM_joinedState 35 = .ok (.iinc 3 1, 3) := by decide +kernel
theorem d_MM_joinedState_38 : decode b_MM_joinedState 38 = .ok (.goto (-28), 3) := by decide +kernel
theorem d_MM_joinedState_41 : decode b_MM_joinedState 41 = .ok (.iconst 0, 1) := by decide +kernel
theorem d_MM_joinedState_42 : decode b_MM_joinedState 42 = .ok (.istore_n 3, 1) := by decide +kernel
theorem d_MM_joinedState_43 : decode b_MM_joinedState 43 = .ok (.iload_n 3, 1) := by decide +kernel
theorem d_MM_joinedState_44 : decode b_MM_joinedState 44 = .ok (.aload_n 0, 1) := by decide +kernel
theorem d_MM_joinedState_45 : decode b_MM_joinedState 45 = .ok (.getfield 50, 3) := by decide +kernel
theorem d_MM_joinedState_48 : decode b_MM_joinedState 48 = .ok (.getfield 129, 3) := by decide +kernel
theorem d_MM_joinedState_51 : decode b_MM_joinedState 51 = .ok (.if_icmp .ge 59, 3) := by decide +kernel
theorem d_MM_joinedState_54 : decode b_MM_joinedState 54 = .ok (.aload_n 0, 1) := by decide +kernel
theorem d_MM_joinedState_55 : decode b_MM_joinedState 55 = .ok (.getfield 50, 3) := by decide +kernel
theorem d_MM_joinedState_58 : decode b_MM_joinedState 58 = .ok (.iload_n 3, 1) := by decide +kernel
theorem d_MM_joinedState_59 : decode b_MM_joinedState 59 = .ok (.invokevirtual 156, 3) := by decide +kernel
theorem d_MM_joinedState_62 : decode b_MM_joinedState 62 = .ok (.iconst 1, 1) := by decide +kernel
theorem d_MM_joinedState_63 : decode b_MM_joinedState 63 = .ok (.if_icmp .ne 10, 3) := by decide +kernel
theorem d_MM_joinedState_66 : decode b_MM_joinedState 66 = .ok (.aload_n 1, 1) := by decide +kernel
theorem d_MM_joinedState_67 : decode b_MM_joinedState 67 = .ok (.getfield 155, 3) := by decide +kernel
theorem d_MM_joinedState_70 : decode b_MM_joinedState 70 = .ok (.goto 10, 3) := by decide +kernel
theorem d_MM_joinedState_73 : decode b_MM_joinedState 73 = .ok (.aload_n 0, 1) := by decide +kernel
theorem d_MM_joinedState_74 : decode b_MM_joinedState 74 = .ok (.getfield 64, 3) := by decide +kernel
theorem d_MM_joinedState_77 : decode b_MM_joinedState 77 = .ok (.getfield 147, 3) := by decide +kernel
theorem d_MM_joinedState_80 : decode b_MM_joinedState 80 = .ok (.astore 4, 2) := by decide +kernel
theorem d_MM_joinedState_82 : decode b_MM_joinedState 82 = .ok (.aload_n 2, 1) := by decide +kernel
theorem d_MM_joinedState_83 : decode b_MM_joinedState 83 = .ok (.aload 4, 2) := by decide +kernel
theorem d_MM_joinedState_85 : decode b_MM_joinedState 85 = .ok (.aload_n 0, 1) := by decide +kernel
theorem d_MM_joinedState_86 : decode b_MM_joinedState 86 = .ok (.getfield 50, 3) := by decide +kernel
theorem d_MM_joinedState_89 : decode b_MM_joinedState 89 = .ok (.iload_n 3, 1) := by decide +kernel
theorem d_MM_joinedState_90 : decode b_MM_joinedState 90 = .ok (.invokevirtual 141, 3) := by decide +kernel
theorem d_MM_joinedState_93 : decode b_MM_joinedState 93 = .ok (.aload_n 0, 1) := by decide +kernel
theorem d_MM_joinedState_94 : decode b_MM_joinedState 94 = .ok (.getfield 50, 3) := by decide +kernel
theorem d_MM_joinedState_97 : decode b_MM_joinedState 97 = .ok (.iload_n 3, 1) := by decide +kernel
theorem d_MM_joinedState_98 : decode b_MM_joinedState 98 = .ok (.invokevirtual 144, 3) := by decide +kernel
theorem d_MM_joinedState_101 : decode b_MM_joinedState 101 = .ok (.invokestatic 288, 3) := by decide +kernel
theorem d_MM_joinedState_104 : decode b_MM_joinedState 104 = .ok (.iinc 3 1, 3) := by decide +kernel
theorem d_MM_joinedState_107 : decode b_MM_joinedState 107 = .ok (.goto (-64), 3) := by decide +kernel
theorem d_MM_joinedState_110 : decode b_MM_joinedState 110 = .ok (.aload_n 2, 1) := by decide +kernel
theorem d_MM_joinedState_111 : decode b_MM_joinedState 111 = .ok (.areturn, 1) := by decide +kernel
theorem d_MM_joinThing_0 : decode b_MM_joinThing 0 = .ok (.aload_n 0, 1) := by decide +kernel
theorem d_MM_joinThing_1 : decode b_MM_joinThing 1 = .ok (.getfield 64, 3) := by decide +kernel
theorem d_MM_joinThing_4 : decode b_MM_joinThing 4 = .ok (.getfield 147, 3) := by decide +kernel
theorem d_MM_joinThing_7 : decode b_MM_joinThing 7 = .ok (.astore 5, 2) := by decide +kernel
theorem d_MM_joinThing_9 : decode b_MM_joinThing 9 = .ok (.aload 5, 2) := by decide +kernel
theorem d_MM_joinThing_11 : decode b_MM_joinThing 11 = .ok (.iload 4, 2) := by decide +kernel
theorem d_MM_joinThing_13 : decode b_MM_joinThing 13 = .ok (.invokevirtual 243, 3) := by decide +kernel
theorem d_MM_joinThing_16 : decode b_MM_joinThing 16 = .ok (.ifCond .eq 95, 3) := by decide +kernel
theorem d_MM_joinThing_19 : decode b_MM_joinThing 19 = .ok (.aload_n 3, 1) := by decide +kernel
theorem d_MM_joinThing_20 : decode b_MM_joinThing 20 = .ok (.iload 4, 2) := by decide +kernel
theorem d_MM_joinThing_22 : decode b_MM_joinThing 22 = .ok (.invokevirtual 243, 3) := by decide +kernel
theorem d_MM_joinThing_25 : decode b_MM_joinThing 25 = .ok (.ifCond .eq 86, 3) := by decide +kernel
theorem d_MM_joinThing_28 : decode b_MM_joinThing 28 = .ok (.aload_n 1, 1) := by decide +kernel
theorem d_MM_joinThing_29 : decode b_MM_joinThing 29 = .ok (.iload 4, 2) := by decide +kernel
theorem d_MM_joinThing_31 : decode b_MM_joinThing 31 = .ok (.iconst (-1), 1) := by decide +kernel
theorem d_MM_joinThing_32 : decode b_MM_joinThing 32 = .ok (.iconst 1, 1) := by decide +kernel
theorem d_MM_joinThing_33 : decode b_MM_joinThing 33 = .ok (.invokevirtual 292, 3) := by decide +kernel
theorem d_MM_joinThing_36 : decode b_MM_joinThing 36 = .ok (.iconst 0, 1) := by decide +kernel
theorem d_MM_joinThing_37 : decode b_MM_joinThing 37 = .ok (.istore 6, 2) := by decide +kernel
theorem d_MM_joinThing_39 : decode b_MM_joinThing 39 = .ok (.iload 6, 2) := by decide +kernel
theorem d_MM_joinThing_41 : decode b_MM_joinThing 41 = .ok (.iconst 5, 1) := by decide +kernel
theorem d_MM_joinThing_42 : decode b_MM_joinThing 42 = .ok (.if_icmp .ge 66, 3) := by decide +kernel
theorem d_MM_joinThing_45 : decode b_MM_joinThing 45 = .ok (.aload_n 3, 1) := by decide +kernel
theorem d_MM_joinThing_46 : decode b_MM_joinThing 46 = .ok (.iload 4, 2) := by decide +kernel
theorem d_MM_joinThing_48 : decode b_MM_joinThing 48 = .ok (.iload 6, 2) := by decide +kernel
theorem d_MM_joinThing_50 : decode b_MM_joinThing 50 = .ok (.invokevirtual 151, 3) := by decide +kernel
theorem d_MM_joinThing_53 : decode b_MM_joinThing 53 = .ok (.istore 7, 2) := by decide +kernel
theorem d_MM_joinThing_55 : decode b_MM_joinThing 55 = .ok (.iload 7, 2) := by decide +kernel
theorem d_MM_joinThing_57 : decode b_MM_joinThing 57 = .ok (.aload_n 2, 1) := by decide +kernel
theorem d_MM_joinThing_58 : decode b_MM_joinThing 58 = .ok (.iload 4, 2) := by decide +kernel
theorem d_MM_joinThing_60 : decode b_MM_joinThing 60 = .ok (.iload 6, 2) := by decide +kernel
theorem d_MM_joinThing_62 : decode b_MM_joinThing 62 = .ok (.invokevirtual 151, 3) := by decide +kernel
theorem d_MM_joinThing_65 : decode b_MM_joinThing 65 = .ok (.if_icmp .eq 7, 3) := by decide +kernel
theorem d_MM_joinThing_68 : decode b_MM_joinThing 68 = .ok (.iconst 1, 1) := by decide +kernel
theorem d_MM_joinThing_69 : decode b_MM_joinThing 69 = .ok (.goto 4, 3) := by decide +kernel
theorem d_MM_joinThing_72 : decode b_MM_joinThing 72 = .ok (.iconst 0, 1) := by decide +kernel
theorem d_MM_joinThing_73 : decode b_MM_joinThing 73 = .ok (.istore 8, 2) := by decide +kernel
theorem d_MM_joinThing_75 : decode b_MM_joinThing 75 = .ok (.aload_n 1, 1) := by decide +kernel
theorem d_MM_joinThing_76 : decode b_MM_joinThing 76 = .ok (.iload 4, 2) := by decide +kernel
theorem d_MM_joinThing_78 : decode b_MM_joinThing 78 = .ok (.iload 6, 2) := by decide +kernel
theorem d_MM_joinThing_80 : decode b_MM_joinThing 80 = .ok (.iload 8, 2) := by decide +kernel
theorem d_MM_joinThing_82 : decode b_MM_joinThing 82 = .ok (.ifCond .eq 8, 3) := by decide +kernel
theorem d_MM_joinThing_85 : decode b_MM_joinThing 85 = .ok (.iload 7, 2) := by decide +kernel
theorem d_MM_joinThing_87 : decode b_MM_joinThing 87 = .ok (.goto 12, 3) := by decide +kernel
theorem d_MM_joinThing_90 : decode b_MM_joinThing 90 = .ok (.aload 5, 2) := by decide +kernel
theorem d_MM_joinThing_92 : decode b_MM_joinThing 92 = .ok (.iload 4, 2) := by decide +kernel
theorem d_MM_joinThing_94 : decode b_MM_joinThing 94 = .ok (.iload 6, 2) := by decide +kernel
theorem d_MM_joinThing_96 : decode b_MM_joinThing 96 = .ok (.invokevirtual 151, 3) := by decide +kernel
theorem d_MM_joinThing_99 : decode b_MM_joinThing 99 = .ok (.invokevirtual 292, 3) := by decide +kernel
theorem d_MM_joinThing_102 : decode b_MM_joinThing 102 = .ok (.iinc 6 1, 3) := by decide +kernel
theorem d_MM_joinThing_105 : decode b_MM_joinThing 105 = .ok (.goto (-66), 3) := by decide +kernel
theorem d_MM_joinThing_108 : decode b_MM_joinThing 108 = .ok (.goto 30, 3) := by decide +kernel
theorem d_MM_joinThing_111 : decode b_MM_joinThing 111 = .ok (.aload_n 1, 1) := by decide +kernel
theorem d_MM_joinThing_112 : decode b_MM_joinThing 112 = .ok (.aload_n 3, 1) := by decide +kernel
theorem d_MM_joinThing_113 : decode b_MM_joinThing 113 = .ok (.iload 4, 2) := by decide +kernel
theorem d_MM_joinThing_115 : decode b_MM_joinThing 115 = .ok (.invokevirtual 243, 3) := by decide +kernel
theorem d_MM_joinThing_118 : decode b_MM_joinThing 118 = .ok (.aload_n 2, 1) := by decide +kernel
theorem d_MM_joinThing_119 : decode b_MM_joinThing 119 = .ok (.iload 4, 2) := by decide +kernel
theorem d_MM_joinThing_121 : decode b_MM_joinThing 121 = .ok (.invokevirtual 243, 3) := by decide +kernel
theorem d_MM_joinThing_124 : decode b_MM_joinThing 124 = .ok (.if_icmp .eq 7, 3) := by decide +kernel
theorem d_MM_joinThing_127 : decode b_MM_joinThing 127 = .ok (.aload_n 3, 1) := by decide +kernel
theorem d_MM_joinThing_128 : decode b_MM_joinThing 128 = .ok (.goto 5, 3) := by decide +kernel
theorem d_MM_joinThing_131 : decode b_MM_joinThing 131 = .ok (.aload 5, 2) := by decide +kernel
theorem d_MM_joinThing_133 : decode b_MM_joinThing 133 = .ok (.iload 4, 2) := by decide +kernel
theorem d_MM_joinThing_135 : decode b_MM_joinThing 135 = .ok (.invokevirtual 295, 3) := by decide +kernel
theorem d_MM_joinThing_138 : decode b_MM_joinThing 138 = .ok (.return_, 1) := by decide +kernel
theorem d_MM_applySettling_0 : decode b_MM_applySettling 0 = .ok (.iload_n 3, 1) := by decide +kernel
theorem d_MM_applySettling_1 : decode b_MM_applySettling 1 = .ok (.iconst (-1), 1) := by decide +kernel
theorem d_MM_applySettling_2 : decode b_MM_applySettling 2 = .ok (.if_icmp .ne 12, 3) := by decide +kernel
theorem d_MM_applySettling_5 : decode b_MM_applySettling 5 = .ok (.aload_n 0, 1) := by decide +kernel
theorem d_MM_applySettling_6 : decode b_MM_applySettling 6 = .ok (.aload_n 1, 1) := by decide +kernel
theorem d_MM_applySettling_7 : decode b_MM_applySettling 7 = .ok (.iload_n 2, 1) := by decide +kernel
theorem d_MM_applySettling_8 : decode b_MM_applySettling 8 = .ok (.invokevirtual 295, 3) := by decide +kernel
theorem d_MM_applySettling_11 : decode b_MM_applySettling 11 = .ok (.goto 15, 3) := by decide +kernel
theorem d_MM_applySettling_14 : decode b_MM_applySettling 14 = .ok (.aload_n 0, 1) := by decide +kernel
theorem d_MM_applySettling_15 : decode b_MM_applySettling 15 = .ok (.iload_n 2, 1) := by decide +kernel
theorem d_MM_applySettling_16 : decode b_MM_applySettling 16 = .ok (.iload_n 3, 1) := by decide +kernel
theorem d_MM_applySettling_17 : decode b_MM_applySettling 17 = .ok (.aload_n 1, 1) := by decide +kernel
theorem d_MM_applySettling_18 : decode b_MM_applySettling 18 = .ok (.iload_n 2, 1) := by decide +kernel
theorem d_MM_applySettling_19 : decode b_MM_applySettling 19 = .ok (.iload_n 3, 1) := by decide +kernel
theorem d_MM_applySettling_20 : decode b_MM_applySettling 20 = .ok (.invokevirtual 151, 3) := by decide +kernel
theorem d_MM_applySettling_23 : decode b_MM_applySettling 23 = .ok (.invokevirtual 292, 3) := by decide +kernel
theorem d_MM_applySettling_26 : decode b_MM_applySettling 26 = .ok (.return_, 1) := by decide +kernel
theorem d_Rf_init_0 : decode b_Rf_init 0 = .ok (.aload_n 0, 1) := by decide +kernel
theorem d_Rf_init_1 : decode b_Rf_init 1 = .ok (.invokespecial 1, 3) := by decide +kernel
theorem d_Rf_init_4 : decode b_Rf_init 4 = .ok (.aload_n 0, 1) := by decide +kernel
theorem d_Rf_init_5 : decode b_Rf_init 5 = .ok (.bipush 60, 2) := by decide +kernel
theorem d_Rf_init_7 : decode b_Rf_init 7 = .ok (.newarray .int, 2) := by decide +kernel
theorem d_Rf_init_9 : decode b_Rf_init 9 = .ok (.putfield 7, 3) := by decide +kernel
theorem d_Rf_init_12 : decode b_Rf_init 12 = .ok (.aload_n 0, 1) := by decide +kernel
theorem d_Rf_init_13 : decode b_Rf_init 13 = .ok (.bipush 60, 2) := by decide +kernel
theorem d_Rf_init_15 : decode b_Rf_init 15 = .ok (.newarray .int, 2) := by decide +kernel
theorem d_Rf_init_17 : decode b_Rf_init 17 = .ok (.putfield 13, 3) := by decide +kernel
theorem d_Rf_init_20 : decode b_Rf_init 20 = .ok (.aload_n 0, 1) := by decide +kernel
theorem d_Rf_init_21 : decode b_Rf_init 21 = .ok (.iconst 1, 1) := by decide +kernel
theorem d_Rf_init_22 : decode b_Rf_init 22 = .ok (.putfield 16, 3) := by decide +kernel
theorem d_Rf_init_25 : decode b_Rf_init 25 = .ok (.aload_n 0, 1) := by decide +kernel
theorem d_Rf_init_26 : decode b_Rf_init 26 = .ok (.sipush 2400, 3) := by decide +kernel
theorem d_Rf_init_29 : decode b_Rf_init 29 = .ok (.newarray .boolean, 2) := by decide +kernel
theorem d_Rf_init_31 : decode b_Rf_init 31 = .ok (.putfield 20, 3) := by decide +kernel
theorem d_Rf_init_34 : decode b_Rf_init 34 = .ok (.aload_n 0, 1) := by decide +kernel
theorem d_Rf_init_35 : decode b_Rf_init 35 = .ok (.sipush 12000, 3) := by decide +kernel
theorem d_Rf_init_38 : decode b_Rf_init 38 = .ok (.newarray .int, 2) := by decide +kernel
theorem d_Rf_init_40 : decode b_Rf_init 40 = .ok (.putfield 24, 3) := by decide +kernel
theorem d_Rf_init_43 : decode b_Rf_init 43 = .ok (.aload_n 0, 1) := by decide +kernel
theorem d_Rf_init_44 : decode b_Rf_init 44 = .ok (.sipush 12000, 3) := by decide +kernel
theorem d_Rf_init_47 : decode b_Rf_init 47 = .ok (.newarray .int, 2) := by decide +kernel
theorem d_Rf_init_49 : decode b_Rf_init 49 = .ok (.putfield 27, 3) := by decide +kernel
theorem d_Rf_init_52 : decode b_Rf_init 52 = .ok (.aload_n 0, 1) := by decide +kernel
theorem d_Rf_init_53 : decode b_Rf_init 53 = .ok (.bipush 40, 2) := by decide +kernel
theorem d_Rf_init_55 : decode b_Rf_init 55 = .ok (.newarray .int, 2) := by decide +kernel
theorem d_Rf_init_57 : decode b_Rf_init 57 = .ok (.putfield 30, 3) := by decide +kernel
theorem d_Rf_init_60 : decode b_Rf_init 60 = .ok (.aload_n 0, 1) := by decide +kernel
theorem d_Rf_init_61 : decode b_Rf_init 61 = .ok (.bipush 20, 2) := by decide +kernel
theorem d_Rf_init_63 : decode b_Rf_init 63 = .ok (.newarray .int, 2) := by decide +kernel
theorem d_Rf_init_65 : decode b_Rf_init 65 = .ok (.putfield 33, 3) := by decide +kernel
theorem d_Rf_init_68 : decode b_Rf_init 68 = .ok (.aload_n 0, 1) := by decide +kernel
theorem d_Rf_init_69 : decode b_Rf_init 69 = .ok (.bipush 20, 2) := by decide +kernel
theorem d_Rf_init_71 : decode b_Rf_init 71 = .ok (.newarray .int, 2) := by decide +kernel
theorem d_Rf_init_73 : decode b_Rf_init 73 = .ok (.putfield 36, 3) := by decide +kernel
theorem d_Rf_init_76 : decode b_Rf_init 76 = .ok (.aload_n 0, 1) := by decide +kernel
theorem d_Rf_init_77 : decode b_Rf_init 77 = .ok (.bipush 20, 2) := by decide +kernel
theorem d_Rf_init_79 : decode b_Rf_init 79 = .ok (.newarray .int, 2) := by decide +kernel
theorem d_Rf_init_81 : decode b_Rf_init 81 = .ok (.putfield 39, 3) := by decide +kernel
theorem d_Rf_init_84 : decode b_Rf_init 84 = .ok (.aload_n 0, 1) := by decide +kernel
theorem d_Rf_init_85 : decode b_Rf_init 85 = .ok (.bipush 20, 2) := by decide +kernel
theorem d_Rf_init_87 : decode b_Rf_init 87 = .ok (.newarray .int, 2) := by decide +kernel
theorem d_Rf_init_89 : decode b_Rf_init 89 = .ok (.putfield 42, 3) := by decide +kernel
theorem d_Rf_init_92 : decode b_Rf_init 92 = .ok (.aload_n 0, 1) := by decide +kernel
theorem d_Rf_init_93 : decode b_Rf_init 93 = .ok (.bipush 20, 2) := by decide +kernel
theorem d_Rf_init_95 : decode b_Rf_init 95 = .ok (.newarray .int, 2) := by decide +kernel
theorem d_Rf_init_97 : decode b_Rf_init 97 = .ok (.putfield 45, 3) := by decide +kernel
theorem d_Rf_init_100 : decode b_Rf_init 100 = .ok (.aload_n 0, 1) := by decide +kernel
theorem d_Rf_init_101 : decode b_Rf_init 101 = .ok (.bipush 20, 2) := by decide +kernel
theorem d_Rf_init_103 : decode b_Rf_init 103 = .ok (.newarray .int, 2) := by decide +kernel
theorem d_Rf_init_105 : decode b_Rf_init 105 = .ok (.putfield 48, 3) := by decide +kernel
theorem d_Rf_init_108 : decode b_Rf_init 108 = .ok (.aload_n 0, 1) := by decide +kernel
theorem d_Rf_init_109 : decode b_Rf_init 109 = .ok (.sipush 1200, 3) := by decide +kernel
theorem d_Rf_init_112 : decode b_Rf_init 112 = .ok (.newarray .int, 2) := by decide +kernel
theorem d_Rf_init_114 : decode b_Rf_init 114 = .ok (.putfield 51, 3) := by decide +kernel
theorem d_Rf_init_117 : decode b_Rf_init 117 = .ok (.aload_n 0, 1) := by decide +kernel
theorem d_Rf_init_118 : decode b_Rf_init 118 = .ok (.sipush 1200, 3) := by decide +kernel
theorem d_Rf_init_121 : decode b_Rf_init 121 = .ok (.newarray .int, 2) := by decide +kernel
theorem d_Rf_init_123 : decode b_Rf_init 123 = .ok (.putfield 54, 3) := by decide +kernel
theorem d_Rf_init_126 : decode b_Rf_init 126 = .ok (.aload_n 0, 1) := by decide +kernel
theorem d_Rf_init_127 : decode b_Rf_init 127 = .ok (.sipush 1200, 3) := by decide +kernel
theorem d_Rf_init_130 : decode b_Rf_init 130 = .ok (.newarray .int, 2) := by decide +kernel
theorem d_Rf_init_132 : decode b_Rf_init 132 = .ok (.putfield 57, 3) := by decide +kernel
theorem d_Rf_init_135 : decode b_Rf_init 135 = .ok (.aload_n 0, 1) := by decide +kernel
theorem d_Rf_init_136 : decode b_Rf_init 136 = .ok (.sipush 1200, 3) := by decide +kernel
theorem d_Rf_init_139 : decode b_Rf_init 139 = .ok (.newarray .int, 2) := by decide +kernel
theorem d_Rf_init_141 : decode b_Rf_init 141 = .ok (.putfield 60, 3) := by decide +kernel
theorem d_Rf_init_144 : decode b_Rf_init 144 = .ok (.aload_n 0, 1) := by decide +kernel
theorem d_Rf_init_145 : decode b_Rf_init 145 = .ok (.sipush 1200, 3) := by decide +kernel
theorem d_Rf_init_148 : decode b_Rf_init 148 = .ok (.newarray .int, 2) := by decide +kernel
theorem d_Rf_init_150 : decode b_Rf_init 150 = .ok (.putfield 63, 3) := by decide +kernel
theorem d_Rf_init_153 : decode b_Rf_init 153 = .ok (.aload_n 0, 1) := by decide +kernel
theorem d_Rf_init_154 : decode b_Rf_init 154 = .ok (.sipush 1200, 3) := by decide +kernel
theorem d_Rf_init_157 : decode b_Rf_init 157 = .ok (.newarray .int, 2) := by decide +kernel
theorem d_Rf_init_159 : decode b_Rf_init 159 = .ok (.putfield 66, 3) := by decide +kernel
theorem d_Rf_init_162 : decode b_Rf_init 162 = .ok (.aload_n 0, 1) := by decide +kernel
theorem d_Rf_init_163 : decode b_Rf_init 163 = .ok (.bipush 10, 2) := by decide +kernel
theorem d_Rf_init_165 : decode b_Rf_init 165 = .ok (.newarray .int, 2) := by decide +kernel
theorem d_Rf_init_167 : decode b_Rf_init 167 = .ok (.putfield 69, 3) := by decide +kernel
theorem d_Rf_init_170 : decode b_Rf_init 170 = .ok (.aload_n 0, 1) := by decide +kernel
theorem d_Rf_init_171 : decode b_Rf_init 171 = .ok (.bipush 10, 2) := by decide +kernel
theorem d_Rf_init_173 : decode b_Rf_init 173 = .ok (.newarray .int, 2) := by decide +kernel
theorem d_Rf_init_175 : decode b_Rf_init 175 = .ok (.putfield 72, 3) := by decide +kernel
theorem d_Rf_init_178 : decode b_Rf_init 178 = .ok (.aload_n 0, 1) := by decide +kernel
theorem d_Rf_init_179 : decode b_Rf_init 179 = .ok (.bipush 10, 2) := by decide +kernel
theorem d_Rf_init_181 : decode b_Rf_init 181 = .ok (.newarray .int, 2) := by decide +kernel
theorem d_Rf_init_183 : decode b_Rf_init 183 = .ok (.putfield 75, 3) := by decide +kernel
theorem d_Rf_init_186 : decode b_Rf_init 186 = .ok (.aload_n 0, 1) := by decide +kernel
theorem d_Rf_init_187 : decode b_Rf_init 187 = .ok (.iconst (-1), 1) := by decide +kernel
theorem d_Rf_init_188 : decode b_Rf_init 188 = .ok (.putfield 78, 3) := by decide +kernel
theorem d_Rf_init_191 : decode b_Rf_init 191 = .ok (.aload_n 0, 1) := by decide +kernel
theorem d_Rf_init_192 : decode b_Rf_init 192 = .ok (.sipush 300, 3) := by decide +kernel
theorem d_Rf_init_195 : decode b_Rf_init 195 = .ok (.newarray .int, 2) := by decide +kernel
theorem d_Rf_init_197 : decode b_Rf_init 197 = .ok (.putfield 81, 3) := by decide +kernel
theorem d_Rf_init_200 : decode b_Rf_init 200 = .ok (.aload_n 0, 1) := by decide +kernel
theorem d_Rf_init_201 : decode b_Rf_init 201 = .ok (.sipush 300, 3) := by decide +kernel
theorem d_Rf_init_204 : decode b_Rf_init 204 = .ok (.newarray .int, 2) := by decide +kernel
theorem d_Rf_init_206 : decode b_Rf_init 206 = .ok (.putfield 84, 3) := by decide +kernel
theorem d_Rf_init_209 : decode b_Rf_init 209 = .ok (.aload_n 0, 1) := by decide +kernel
theorem d_Rf_init_210 : decode b_Rf_init 210 = .ok (.sipush 300, 3) := by decide +kernel
theorem d_Rf_init_213 : decode b_Rf_init 213 = .ok (.newarray .int, 2) := by decide +kernel
theorem d_Rf_init_215 : decode b_Rf_init 215 = .ok (.putfield 87, 3) := by decide +kernel
theorem d_Rf_init_218 : decode b_Rf_init 218 = .ok (.return_, 1) := by decide +kernel
theorem d_Rf_thrown_0 : decode b_Rf_thrown 0 = .ok (.aload_n 0, 1) := by decide +kernel
theorem d_Rf_thrown_1 : decode b_Rf_thrown 1 = .ok (.getfield 90, 3) := by decide +kernel
theorem d_Rf_thrown_4 : decode b_Rf_thrown 4 = .ok (.ireturn, 1) := by decide +kernel
theorem d_Rf_goes_0 : decode b_Rf_goes 0 = .ok (.aload_n 0, 1) := by decide +kernel
theorem d_Rf_goes_1 : decode b_Rf_goes 1 = .ok (.iload_n 1, 1) := by decide +kernel
theorem d_Rf_goes_2 : decode b_Rf_goes 2 = .ok (.ifCond .ne 7, 3) := by decide +kernel
theorem d_Rf_goes_5 : decode b_Rf_goes 5 = .ok (.iconst 1, 1) := by decide +kernel
theorem d_Rf_goes_6 : decode b_Rf_goes 6 = .ok (.goto 12, 3) := by decide +kernel
theorem d_Rf_goes_9 : decode b_Rf_goes 9 = .ok (.iload_n 2, 1) := by decide +kernel
theorem d_Rf_goes_10 : decode b_Rf_goes 10 = .ok (.ifCond .ne 7, 3) := by decide +kernel
theorem d_Rf_goes_13 : decode b_Rf_goes 13 = .ok (.iconst 2, 1) := by decide +kernel
theorem d_Rf_goes_14 : decode b_Rf_goes 14 = .ok (.goto 4, 3) := by decide +kernel
theorem d_Rf_goes_17 : decode b_Rf_goes 17 = .ok (.iconst 0, 1) := by decide +kernel
theorem d_Rf_goes_18 : decode b_Rf_goes 18 = .ok (.putfield 90, 3) := by decide +kernel
theorem d_Rf_goes_21 : decode b_Rf_goes 21 = .ok (.aload_n 0, 1) := by decide +kernel
theorem d_Rf_goes_22 : decode b_Rf_goes 22 = .ok (.getfield 90, 3) := by decide +kernel
theorem d_Rf_goes_25 : decode b_Rf_goes 25 = .ok (.ifCond .ne 7, 3) := by decide +kernel
theorem d_Rf_goes_28 : decode b_Rf_goes 28 = .ok (.iconst 1, 1) := by decide +kernel
theorem d_Rf_goes_29 : decode b_Rf_goes 29 = .ok (.goto 4, 3) := by decide +kernel
theorem d_Rf_goes_32 : decode b_Rf_goes 32 = .ok (.iconst 0, 1) := by decide +kernel
theorem d_Rf_goes_33 : decode b_Rf_goes 33 = .ok (.ireturn, 1) := by decide +kernel
theorem d_Rf_isIn_0 : decode b_Rf_isIn 0 = .ok (.iload_n 0, 1) := by decide +kernel
theorem d_Rf_isIn_1 : decode b_Rf_isIn 1 = .ok (.ifCond .lt 12, 3) := by decide +kernel
theorem d_Rf_isIn_4 : decode b_Rf_isIn 4 = .ok (.iload_n 0, 1) := by decide +kernel
theorem d_Rf_isIn_5 : decode b_Rf_isIn 5 = .ok (.iload_n 1, 1) := by decide +kernel
theorem d_Rf_isIn_6 : decode b_Rf_isIn 6 = .ok (.if_icmp .ge 7, 3) := by decide +kernel
theorem d_Rf_isIn_9 : decode b_Rf_isIn 9 = .ok (.iconst 1, 1) := by decide +kernel
theorem d_Rf_isIn_10 : decode b_Rf_isIn 10 = .ok (.goto 4, 3) := by decide +kernel
theorem d_Rf_isIn_13 : decode b_Rf_isIn 13 = .ok (.iconst 0, 1) := by decide +kernel
theorem d_Rf_isIn_14 : decode b_Rf_isIn 14 = .ok (.ireturn, 1) := by decide +kernel
theorem d_Rf_isAt_0 : decode b_Rf_isAt 0 = .ok (.iload_n 2, 1) := by decide +kernel
theorem d_Rf_isAt_1 : decode b_Rf_isAt 1 = .ok (.istore 4, 2) := by decide +kernel
theorem d_Rf_isAt_3 : decode b_Rf_isAt 3 = .ok (.iload 4, 2) := by decide +kernel
theorem d_Rf_isAt_5 : decode b_Rf_isAt 5 = .ok (.ifCond .le 67, 3) := by decide +kernel
theorem d_Rf_isAt_8 : decode b_Rf_isAt 8 = .ok (.bipush 60, 2) := by decide +kernel
theorem d_Rf_isAt_10 : decode b_Rf_isAt 10 = .ok (.iload_n 1, 1) := by decide +kernel
theorem d_Rf_isAt_11 : decode b_Rf_isAt 11 = .ok (.imul, 1) := by decide +kernel
theorem d_Rf_isAt_12 : decode b_Rf_isAt 12 = .ok (.iload 4, 2) := by decide +kernel
theorem d_Rf_isAt_14 : decode b_Rf_isAt 14 = .ok (.iadd, 1) := by decide +kernel
theorem d_Rf_isAt_15 : decode b_Rf_isAt 15 = .ok (.istore 5, 2) := by decide +kernel
theorem d_Rf_isAt_17 : decode b_Rf_isAt 17 = .ok (.aload_n 0, 1) := by decide +kernel
theorem d_Rf_isAt_18 : decode b_Rf_isAt 18 = .ok (.getfield 60, 3) := by decide +kernel
theorem d_Rf_isAt_21 : decode b_Rf_isAt 21 = .ok (.iload 5, 2) := by decide +kernel
theorem d_Rf_isAt_23 : decode b_Rf_isAt 23 = .ok (.iaload, 1) := by decide +kernel
theorem d_Rf_isAt_24 : decode b_Rf_isAt 24 = .ok (.iload_n 3, 1) := by decide +kernel
theorem d_Rf_isAt_25 : decode b_Rf_isAt 25 = .ok (.if_icmp .ne 30, 3) := by decide +kernel
theorem d_Rf_isAt_28 : decode b_Rf_isAt 28 = .ok (.aload_n 0, 1) := by decide +kernel
theorem d_Rf_isAt_29 : decode b_Rf_isAt 29 = .ok (.getfield 57, 3) := by decide +kernel
theorem d_Rf_isAt_32 : decode b_Rf_isAt 32 = .ok (.iload 5, 2) := by decide +kernel
theorem d_Rf_isAt_34 : decode b_Rf_isAt 34 = .ok (.iaload, 1) := by decide +kernel
theorem d_Rf_isAt_35 : decode b_Rf_isAt 35 = .ok (.ifCond .le 20, 3) := by decide +kernel
theorem d_Rf_isAt_38 : decode b_Rf_isAt 38 = .ok (.aload_n 0, 1) := by decide +kernel
theorem d_Rf_isAt_39 : decode b_Rf_isAt 39 = .ok (.getfield 57, 3) := by decide +kernel
theorem d_Rf_isAt_42 : decode b_Rf_isAt 42 = .ok (.iload 5, 2) := by decide +kernel
theorem d_Rf_isAt_44 : decode b_Rf_isAt 44 = .ok (.iaload, 1) := by decide +kernel
theorem d_Rf_isAt_45 : decode b_Rf_isAt 45 = .ok (.iconst 1, 1) := by decide +kernel
theorem d_Rf_isAt_46 : decode b_Rf_isAt 46 = .ok (.if_icmp .ne 7, 3) := by decide +kernel
theorem d_Rf_isAt_49 : decode b_Rf_isAt 49 = .ok (.iconst 1, 1) := by decide +kernel
theorem d_Rf_isAt_50 : decode b_Rf_isAt 50 = .ok (.goto 4, 3) := by decide +kernel
theorem d_Rf_isAt_53 : decode b_Rf_isAt 53 = .ok (.iconst 0, 1) := by decide +kernel
theorem d_Rf_isAt_54 : decode b_Rf_isAt 54 = .ok (.ireturn, 1) := by decide +kernel
theorem d_Rf_isAt_55 : decode b_Rf_isAt 55 = .ok (.aload_n 0, 1) := by decide +kernel
theorem d_Rf_isAt_56 : decode b_Rf_isAt 56 = .ok (.getfield 51, 3) := by decide +kernel
theorem d_Rf_isAt_59 : decode b_Rf_isAt 59 = .ok (.bipush 60, 2) := by decide +kernel
theorem d_Rf_isAt_61 : decode b_Rf_isAt 61 = .ok (.iload_n 1, 1) := by decide +kernel
theorem d_Rf_isAt_62 : decode b_Rf_isAt 62 = .ok (.imul, 1) := by decide +kernel
theorem d_Rf_isAt_63 : decode b_Rf_isAt 63 = .ok (.iload 4, 2) := by decide +kernel
theorem d_Rf_isAt_65 : decode b_Rf_isAt 65 = .ok (.iadd, 1) := by decide +kernel
theorem d_Rf_isAt_66 : decode b_Rf_isAt 66 = .ok (.iaload, 1) := by decide +kernel
theorem d_Rf_isAt_67 : decode b_Rf_isAt 67 = .ok (.istore 4, 2) := by decide +kernel
theorem d_Rf_isAt_69 : decode b_Rf_isAt 69 = .ok (.goto (-66), 3) := by decide +kernel
theorem d_Rf_isAt_72 : decode b_Rf_isAt 72 = .ok (.aload_n 0, 1) := by decide +kernel
theorem d_Rf_isAt_73 : decode b_Rf_isAt 73 = .ok (.getfield 20, 3) := by decide +kernel
theorem d_Rf_isAt_76 : decode b_Rf_isAt 76 = .ok (.bipush 60, 2) := by decide +kernel
theorem d_Rf_isAt_78 : decode b_Rf_isAt 78 = .ok (.aload_n 0, 1) := by decide +kernel
theorem d_Rf_isAt_79 : decode b_Rf_isAt 79 = .ok (.getfield 36, 3) := by decide +kernel
theorem d_Rf_isAt_82 : decode b_Rf_isAt 82 = .ok (.iload_n 1, 1) := by decide +kernel
theorem d_Rf_isAt_83 : decode b_Rf_isAt 83 = .ok (.iaload, 1) := by decide +kernel
theorem d_Rf_isAt_84 : decode b_Rf_isAt 84 = .ok (.imul, 1) := by decide +kernel
theorem d_Rf_isAt_85 : decode b_Rf_isAt 85 = .ok (.iload_n 3, 1) := by decide +kernel
theorem d_Rf_isAt_86 : decode b_Rf_isAt 86 = .ok (.iadd, 1) := by decide +kernel
theorem d_Rf_isAt_87 : decode b_Rf_isAt 87 = .ok (.baload, 1) := by decide +kernel
theorem d_Rf_isAt_88 : decode b_Rf_isAt 88 = .ok (.ireturn, 1) := by decide +kernel
end
section
theorem d_Rf_valueAt_0 : decode b_Rf_valueAt 0 = .ok (.iload_n 2, 1) := by decide +kernel
theorem d_Rf_valueAt_1 : decode b_Rf_valueAt 1 = .ok (.istore 5, 2) := by decide +kernel
theorem d_Rf_valueAt_3 : decode b_Rf_valueAt 3 = .ok (.iload 5, 2) := by decide +kernel
theorem d_Rf_valueAt_5 : decode b_Rf_valueAt 5 = .ok (.ifCond .le 96, 3) := by decide +kernel
theorem d_Rf_valueAt_8 : decode b_Rf_valueAt 8 = .ok (.bipush 60, 2) := by decide +kernel
theorem d_Rf_valueAt_10 : decode b_Rf_valueAt 10 = .ok (.iload_n 1, 1) := by decide +kernel
theorem d_Rf_valueAt_11 : decode b_Rf_valueAt 11 = .ok (.imul, 1) := by decide +kernel
theorem d_Rf_valueAt_12 : decode b_Rf_valueAt 12 = .ok (.iload 5, 2) := by decide +kernel
theorem d_Rf_valueAt_14 : decode b_Rf_valueAt 14 = .ok (.iadd, 1) := by decide +kernel
theorem d_Rf_valueAt_15 : decode b_Rf_valueAt 15 = .ok (.istore 6, 2) := by decide +kernel
theorem d_Rf_valueAt_17 : decode b_Rf_valueAt 17 = .ok (.aload_n 0, 1) := by decide +kernel
theorem d_Rf_valueAt_18 : decode b_Rf_valueAt 18 = .ok (.getfield 60, 3) := by decide +kernel
theorem d_Rf_valueAt_21 : decode b_Rf_valueAt 21 = .ok (.iload 6, 2) := by decide +kernel
theorem d_Rf_valueAt_23 : decode b_Rf_valueAt 23 = .ok (.iaload, 1) := by decide +kernel
theorem d_Rf_valueAt_24 : decode b_Rf_valueAt 24 = .ok (.iload_n 3, 1) := by decide +kernel
theorem d_Rf_valueAt_25 : decode b_Rf_valueAt 25 = .ok (.if_icmp .ne 59, 3) := by decide +kernel
theorem d_Rf_valueAt_28 : decode b_Rf_valueAt 28 = .ok (.aload_n 0, 1) := by decide +kernel
theorem d_Rf_valueAt_29 : decode b_Rf_valueAt 29 = .ok (.getfield 57, 3) := by decide +kernel
theorem d_Rf_valueAt_32 : decode b_Rf_valueAt 32 = .ok (.iload 6, 2) := by decide +kernel
theorem d_Rf_valueAt_34 : decode b_Rf_valueAt 34 = .ok (.iaload, 1) := by decide +kernel
theorem d_Rf_valueAt_35 : decode b_Rf_valueAt 35 = .ok (.iconst 1, 1) := by decide +kernel
theorem d_Rf_valueAt_36 : decode b_Rf_valueAt 36 = .ok (.if_icmp .eq 25, 3) := by decide +kernel
theorem d_Rf_valueAt_39 : decode b_Rf_valueAt 39 = .ok (.aload_n 0, 1) := by decide +kernel
theorem d_Rf_valueAt_40 : decode b_Rf_valueAt 40 = .ok (.getfield 57, 3) := by decide +kernel
theorem d_Rf_valueAt_43 : decode b_Rf_valueAt 43 = .ok (.iload 6, 2) := by decide +kernel
theorem d_Rf_valueAt_45 : decode b_Rf_valueAt 45 = .ok (.iaload, 1) := by decide +kernel
theorem d_Rf_valueAt_46 : decode b_Rf_valueAt 46 = .ok (.ifCond .ne 38, 3) := by decide +kernel
theorem d_Rf_valueAt_49 : decode b_Rf_valueAt 49 = .ok (.aload_n 0, 1) := by decide +kernel
theorem d_Rf_valueAt_50 : decode b_Rf_valueAt 50 = .ok (.getfield 63, 3) := by decide +kernel
theorem d_Rf_valueAt_53 : decode b_Rf_valueAt 53 = .ok (.iload 6, 2) := by decide +kernel
theorem d_Rf_valueAt_55 : decode b_Rf_valueAt 55 = .ok (.iaload, 1) := by decide +kernel
theorem d_Rf_valueAt_56 : decode b_Rf_valueAt 56 = .ok (.iload 4, 2) := by decide +kernel
theorem d_Rf_valueAt_58 : decode b_Rf_valueAt 58 = .ok (.if_icmp .ne 26, 3) := by decide +kernel
theorem d_Rf_valueAt_61 : decode b_Rf_valueAt 61 = .ok (.aload_n 0, 1) := by decide +kernel
theorem d_Rf_valueAt_62 : decode b_Rf_valueAt 62 = .ok (.getfield 57, 3) := by decide +kernel
theorem d_Rf_valueAt_65 : decode b_Rf_valueAt 65 = .ok (.iload 6, 2) := by decide +kernel
theorem d_Rf_valueAt_67 : decode b_Rf_valueAt 67 = .ok (.iaload, 1) := by decide +kernel
theorem d_Rf_valueAt_68 : decode b_Rf_valueAt 68 = .ok (.iconst 1, 1) := by decide +kernel
theorem d_Rf_valueAt_69 : decode b_Rf_valueAt 69 = .ok (.if_icmp .ne 7, 3) := by decide +kernel
theorem d_Rf_valueAt_72 : decode b_Rf_valueAt 72 = .ok (.iconst 0, 1) := by decide +kernel
theorem d_Rf_valueAt_73 : decode b_Rf_valueAt 73 = .ok (.goto 10, 3) := by decide +kernel
theorem d_Rf_valueAt_76 : decode b_Rf_valueAt 76 = .ok (.aload_n 0, 1) := by decide +kernel
theorem d_Rf_valueAt_77 : decode b_Rf_valueAt 77 = .ok (.getfield 66, 3) := by decide +kernel
theorem d_Rf_valueAt_80 : decode b_Rf_valueAt 80 = .ok (.iload 6, 2) := by decide +kernel
theorem d_Rf_valueAt_82 : decode b_Rf_valueAt 82 = .ok (.iaload, 1) := by decide +kernel
theorem d_Rf_valueAt_83 : decode b_Rf_valueAt 83 = .ok (.ireturn, 1) := by decide +kernel
theorem d_Rf_valueAt_84 : decode b_Rf_valueAt 84 = .ok (.aload_n 0, 1) := by decide +kernel
theorem d_Rf_valueAt_85 : decode b_Rf_valueAt 85 = .ok (.getfield 51, 3) := by decide +kernel
theorem d_Rf_valueAt_88 : decode b_Rf_valueAt 88 = .ok (.bipush 60, 2) := by decide +kernel
theorem d_Rf_valueAt_90 : decode b_Rf_valueAt 90 = .ok (.iload_n 1, 1) := by decide +kernel
theorem d_Rf_valueAt_91 : decode b_Rf_valueAt 91 = .ok (.imul, 1) := by decide +kernel
theorem d_Rf_valueAt_92 : decode b_Rf_valueAt 92 = .ok (.iload 5, 2) := by decide +kernel
theorem d_Rf_valueAt_94 : decode b_Rf_valueAt 94 = .ok (.iadd, 1) := by decide +kernel
theorem d_Rf_valueAt_95 : decode b_Rf_valueAt 95 = .ok (.iaload, 1) := by decide +kernel
theorem d_Rf_valueAt_96 : decode b_Rf_valueAt 96 = .ok (.istore 5, 2) := by decide +kernel
theorem d_Rf_valueAt_98 : decode b_Rf_valueAt 98 = .ok (.goto (-95), 3) := by decide +kernel
theorem d_Rf_valueAt_101 : decode b_Rf_valueAt 101 = .ok (.aload_n 0, 1) := by decide +kernel
theorem d_Rf_valueAt_102 : decode b_Rf_valueAt 102 = .ok (.getfield 24, 3) := by decide +kernel
theorem d_Rf_valueAt_105 : decode b_Rf_valueAt 105 = .ok (.iconst 5, 1) := by decide +kernel
theorem d_Rf_valueAt_106 : decode b_Rf_valueAt 106 = .ok (.bipush 60, 2) := by decide +kernel
theorem d_Rf_valueAt_108 : decode b_Rf_valueAt 108 = .ok (.aload_n 0, 1) := by decide +kernel
theorem d_Rf_valueAt_109 : decode b_Rf_valueAt 109 = .ok (.getfield 36, 3) := by decide +kernel
theorem d_Rf_valueAt_112 : decode b_Rf_valueAt 112 = .ok (.iload_n 1, 1) := by decide +kernel
theorem d_Rf_valueAt_113 : decode b_Rf_valueAt 113 = .ok (.iaload, 1) := by decide +kernel
theorem d_Rf_valueAt_114 : decode b_Rf_valueAt 114 = .ok (.imul, 1) := by decide +kernel
theorem d_Rf_valueAt_115 : decode b_Rf_valueAt 115 = .ok (.iload_n 3, 1) := by decide +kernel
theorem d_Rf_valueAt_116 : decode b_Rf_valueAt 116 = .ok (.iadd, 1) := by decide +kernel
theorem d_Rf_valueAt_117 : decode b_Rf_valueAt 117 = .ok (.imul, 1) := by decide +kernel
theorem d_Rf_valueAt_118 : decode b_Rf_valueAt 118 = .ok (.iload 4, 2) := by decide +kernel
theorem d_Rf_valueAt_120 : decode b_Rf_valueAt 120 = .ok (.iadd, 1) := by decide +kernel
theorem d_Rf_valueAt_121 : decode b_Rf_valueAt 121 = .ok (.iaload, 1) := by decide +kernel
theorem d_Rf_valueAt_122 : decode b_Rf_valueAt 122 = .ok (.ireturn, 1) := by decide +kernel
theorem d_Rf_isHere_0 : decode b_Rf_isHere 0 = .ok (.aload_n 0, 1) := by decide +kernel
theorem d_Rf_isHere_1 : decode b_Rf_isHere 1 = .ok (.iload_n 1, 1) := by decide +kernel
theorem d_Rf_isHere_2 : decode b_Rf_isHere 2 = .ok (.aload_n 0, 1) := by decide +kernel
theorem d_Rf_isHere_3 : decode b_Rf_isHere 3 = .ok (.getfield 39, 3) := by decide +kernel
theorem d_Rf_isHere_6 : decode b_Rf_isHere 6 = .ok (.iload_n 1, 1) := by decide +kernel
theorem d_Rf_isHere_7 : decode b_Rf_isHere 7 = .ok (.iaload, 1) := by decide +kernel
theorem d_Rf_isHere_8 : decode b_Rf_isHere 8 = .ok (.iload_n 2, 1) := by decide +kernel
theorem d_Rf_isHere_9 : decode b_Rf_isHere 9 = .ok (.invokevirtual 93, 3) := by decide +kernel
theorem d_Rf_isHere_12 : decode b_Rf_isHere 12 = .ok (.ireturn, 1) := by decide +kernel
theorem d_Rf_here1_0 : decode b_Rf_here1 0 = .ok (.aload_n 0, 1) := by decide +kernel
theorem d_Rf_here1_1 : decode b_Rf_here1 1 = .ok (.iload_n 1, 1) := by decide +kernel
theorem d_Rf_here1_2 : decode b_Rf_here1 2 = .ok (.aload_n 0, 1) := by decide +kernel
theorem d_Rf_here1_3 : decode b_Rf_here1 3 = .ok (.getfield 39, 3) := by decide +kernel
theorem d_Rf_here1_6 : decode b_Rf_here1 6 = .ok (.iload_n 1, 1) := by decide +kernel
theorem d_Rf_here1_7 : decode b_Rf_here1 7 = .ok (.iaload, 1) := by decide +kernel
theorem d_Rf_here1_8 : decode b_Rf_here1 8 = .ok (.iload_n 2, 1) := by decide +kernel
theorem d_Rf_here1_9 : decode b_Rf_here1 9 = .ok (.iload_n 3, 1) := by decide +kernel
theorem d_Rf_here1_10 : decode b_Rf_here1 10 = .ok (.invokevirtual 97, 3) := by decide +kernel
theorem d_Rf_here1_13 : decode b_Rf_here1 13 = .ok (.ireturn, 1) := by decide +kernel
theorem d_Rf_change_0 : decode b_Rf_change 0 = .ok (.aload_n 0, 1) := by decide +kernel
theorem d_Rf_change_1 : decode b_Rf_change 1 = .ok (.getfield 42, 3) := by decide +kernel
theorem d_Rf_change_4 : decode b_Rf_change 4 = .ok (.iload_n 1, 1) := by decide +kernel
theorem d_Rf_change_5 : decode b_Rf_change 5 = .ok (.iaload, 1) := by decide +kernel
theorem d_Rf_change_6 : decode b_Rf_change 6 = .ok (.istore 6, 2) := by decide +kernel
theorem d_Rf_change_8 : decode b_Rf_change 8 = .ok (.bipush 60, 2) := by decide +kernel
theorem d_Rf_change_10 : decode b_Rf_change 10 = .ok (.iload_n 1, 1) := by decide +kernel
theorem d_Rf_change_11 : decode b_Rf_change 11 = .ok (.imul, 1) := by decide +kernel
theorem d_Rf_change_12 : decode b_Rf_change 12 = .ok (.iload 6, 2) := by decide +kernel
theorem d_Rf_change_14 : decode b_Rf_change 14 = .ok (.iadd, 1) := by decide +kernel
theorem d_Rf_change_15 : decode b_Rf_change 15 = .ok (.istore 7, 2) := by decide +kernel
theorem d_Rf_change_17 : decode b_Rf_change 17 = .ok (.aload_n 0, 1) := by decide +kernel
theorem d_Rf_change_18 : decode b_Rf_change 18 = .ok (.getfield 51, 3) := by decide +kernel
theorem d_Rf_change_21 : decode b_Rf_change 21 = .ok (.iload 7, 2) := by decide +kernel
theorem d_Rf_change_23 : decode b_Rf_change 23 = .ok (.aload_n 0, 1) := by decide +kernel
theorem d_Rf_change_24 : decode b_Rf_change 24 = .ok (.getfield 39, 3) := by decide +kernel
theorem d_Rf_change_27 : decode b_Rf_change 27 = .ok (.iload_n 1, 1) := by decide +kernel
theorem d_Rf_change_28 : decode b_Rf_change 28 = .ok (.iaload, 1) := by decide +kernel
theorem d_Rf_change_29 : decode b_Rf_change 29 = .ok (.iastore, 1) := by decide +kernel
theorem d_Rf_change_30 : decode b_Rf_change 30 = .ok (.aload_n 0, 1) := by decide +kernel
theorem d_Rf_change_31 : decode b_Rf_change 31 = .ok (.getfield 54, 3) := by decide +kernel
theorem d_Rf_change_34 : decode b_Rf_change 34 = .ok (.iload 7, 2) := by decide +kernel
theorem d_Rf_change_36 : decode b_Rf_change 36 = .ok (.iconst (-1), 1) := by decide +kernel
theorem d_Rf_change_37 : decode b_Rf_change 37 = .ok (.iastore, 1) := by decide +kernel
theorem d_Rf_change_38 : decode b_Rf_change 38 = .ok (.aload_n 0, 1) := by decide +kernel
theorem d_Rf_change_39 : decode b_Rf_change 39 = .ok (.getfield 57, 3) := by decide +kernel
theorem d_Rf_change_42 : decode b_Rf_change 42 = .ok (.iload 7, 2) := by decide +kernel
theorem d_Rf_change_44 : decode b_Rf_change 44 = .ok (.iload_n 2, 1) := by decide +kernel
theorem d_Rf_change_45 : decode b_Rf_change 45 = .ok (.iastore, 1) := by decide +kernel
theorem d_Rf_change_46 : decode b_Rf_change 46 = .ok (.aload_n 0, 1) := by decide +kernel
theorem d_Rf_change_47 : decode b_Rf_change 47 = .ok (.getfield 60, 3) := by decide +kernel
theorem d_Rf_change_50 : decode b_Rf_change 50 = .ok (.iload 7, 2) := by decide +kernel
theorem d_Rf_change_52 : decode b_Rf_change 52 = .ok (.iload_n 3, 1) := by decide +kernel
theorem d_Rf_change_53 : decode b_Rf_change 53 = .ok (.iastore, 1) := by decide +kernel
theorem d_Rf_change_54 : decode b_Rf_change 54 = .ok (.aload_n 0, 1) := by decide +kernel
theorem d_Rf_change_55 : decode b_Rf_change 55 = .ok (.getfield 63, 3) := by decide +kernel
theorem d_Rf_change_58 : decode b_Rf_change 58 = .ok (.iload 7, 2) := by decide +kernel
theorem d_Rf_change_60 : decode b_Rf_change 60 = .ok (.iload 4, 2) := by decide +kernel
theorem d_Rf_change_62 : decode b_Rf_change 62 = .ok (.iastore, 1) := by decide +kernel
theorem d_Rf_change_63 : decode b_Rf_change 63 = .ok (.aload_n 0, 1) := by decide +kernel
theorem d_Rf_change_64 : decode b_Rf_change 64 = .ok (.getfield 66, 3) := by decide +kernel
theorem d_Rf_change_67 : decode b_Rf_change 67 = .ok (.iload 7, 2) := by decide +kernel
theorem d_Rf_change_69 : decode b_Rf_change 69 = .ok (.iload 5, 2) := by decide +kernel
theorem d_Rf_change_71 : decode b_Rf_change 71 = .ok (.iastore, 1) := by decide +kernel
theorem d_Rf_change_72 : decode b_Rf_change 72 = .ok (.aload_n 0, 1) := by decide +kernel
theorem d_Rf_change_73 : decode b_Rf_change 73 = .ok (.getfield 54, 3) := by decide +kernel
theorem d_Rf_change_76 : decode b_Rf_change 76 = .ok (.bipush 60, 2) := by decide +kernel
theorem d_Rf_change_78 : decode b_Rf_change 78 = .ok (.iload_n 1, 1) := by decide +kernel
theorem d_Rf_change_79 : decode b_Rf_change 79 = .ok (.imul, 1) := by decide +kernel
theorem d_Rf_change_80 : decode b_Rf_change 80 = .ok (.aload_n 0, 1) := by decide +kernel
theorem d_Rf_change_81 : decode b_Rf_change 81 = .ok (.getfield 39, 3) := by decide +kernel
theorem d_Rf_change_84 : decode b_Rf_change 84 = .ok (.iload_n 1, 1) := by decide +kernel
theorem d_Rf_change_85 : decode b_Rf_change 85 = .ok (.iaload, 1) := by decide +kernel
theorem d_Rf_change_86 : decode b_Rf_change 86 = .ok (.iadd, 1) := by decide +kernel
theorem d_Rf_change_87 : decode b_Rf_change 87 = .ok (.iload 6, 2) := by decide +kernel
theorem d_Rf_change_89 : decode b_Rf_change 89 = .ok (.iastore, 1) := by decide +kernel
theorem d_Rf_change_90 : decode b_Rf_change 90 = .ok (.aload_n 0, 1) := by decide +kernel
theorem d_Rf_change_91 : decode b_Rf_change 91 = .ok (.getfield 42, 3) := by decide +kernel
theorem d_Rf_change_94 : decode b_Rf_change 94 = .ok (.iload_n 1, 1) := by decide +kernel
theorem d_Rf_change_95 : decode b_Rf_change 95 = .ok (.dup2, 1) := by decide +kernel
theorem d_Rf_change_96 : decode b_Rf_change 96 = .ok (.iaload, 1) := by decide +kernel
theorem d_Rf_change_97 : decode b_Rf_change 97 = .ok (.iconst 1, 1) := by decide +kernel
theorem d_Rf_change_98 : decode b_Rf_change 98 = .ok (.iadd, 1) := by decide +kernel
theorem d_Rf_change_99 : decode b_Rf_change 99 = .ok (.iastore, 1) := by decide +kernel
theorem d_Rf_change_100 : decode b_Rf_change 100 = .ok (.aload_n 0, 1) := by decide +kernel
theorem d_Rf_change_101 : decode b_Rf_change 101 = .ok (.getfield 39, 3) := by decide +kernel
theorem d_Rf_change_104 : decode b_Rf_change 104 = .ok (.iload_n 1, 1) := by decide +kernel
theorem d_Rf_change_105 : decode b_Rf_change 105 = .ok (.iload 6, 2) := by decide +kernel
theorem d_Rf_change_107 : decode b_Rf_change 107 = .ok (.iastore, 1) := by decide +kernel
theorem d_Rf_change_108 : decode b_Rf_change 108 = .ok (.iload 6, 2) := by decide +kernel
theorem d_Rf_change_110 : decode b_Rf_change 110 = .ok (.ireturn, 1) := by decide +kernel
theorem d_Rf_session_0 : decode b_Rf_session 0 = .ok (.aload_n 0, 1) := by decide +kernel
theorem d_Rf_session_1 : decode b_Rf_session 1 = .ok (.iload_n 1, 1) := by decide +kernel
theorem d_Rf_session_2 : decode b_Rf_session 2 = .ok (.bipush 10, 2) := by decide +kernel
theorem d_Rf_session_4 : decode b_Rf_session 4 = .ok (.invokestatic 101, 3) := by decide +kernel
theorem d_Rf_session_7 : decode b_Rf_session 7 = .ok (.ifCond .eq 18, 3) := by decide +kernel
theorem d_Rf_session_10 : decode b_Rf_session 10 = .ok (.iload_n 2, 1) := by decide +kernel
theorem d_Rf_session_11 : decode b_Rf_session 11 = .ok (.aload_n 0, 1) := by decide +kernel
theorem d_Rf_session_12 : decode b_Rf_session 12 = .ok (.getfield 16, 3) := by decide +kernel
theorem d_Rf_session_15 : decode b_Rf_session 15 = .ok (.invokestatic 101, 3) := by decide +kernel
theorem d_Rf_session_18 : decode b_Rf_session 18 = .ok (.ifCond .eq 7, 3) := by decide +kernel
theorem d_Rf_session_21 : decode b_Rf_session 21 = .ok (.iconst 1, 1) := by decide +kernel
theorem d_Rf_session_22 : decode b_Rf_session 22 = .ok (.goto 4, 3) := by decide +kernel
theorem d_Rf_session_25 : decode b_Rf_session 25 = .ok (.iconst 0, 1) := by decide +kernel
theorem d_Rf_session_26 : decode b_Rf_session 26 = .ok (.aload_n 0, 1) := by decide +kernel
theorem d_Rf_session_27 : decode b_Rf_session 27 = .ok (.getfield 105, 3) := by decide +kernel
theorem d_Rf_session_30 : decode b_Rf_session 30 = .ok (.bipush 20, 2) := by decide +kernel
theorem d_Rf_session_32 : decode b_Rf_session 32 = .ok (.if_icmp .ge 7, 3) := by decide +kernel
theorem d_Rf_session_35 : decode b_Rf_session 35 = .ok (.iconst 1, 1) := by decide +kernel
theorem d_Rf_session_36 : decode b_Rf_session 36 = .ok (.goto 4, 3) := by decide +kernel
theorem d_Rf_session_39 : decode b_Rf_session 39 = .ok (.iconst 0, 1) := by decide +kernel
theorem d_Rf_session_40 : decode b_Rf_session 40 = .ok (.invokevirtual 108, 3) := by decide +kernel
theorem d_Rf_session_43 : decode b_Rf_session 43 = .ok (.ifCond .ne 5, 3) := by decide +kernel
theorem d_Rf_session_46 : decode b_Rf_session 46 = .ok (.iconst 0, 1) := by decide +kernel
theorem d_Rf_session_47 : decode b_Rf_session 47 = .ok (.ireturn, 1) := by decide +kernel
theorem d_Rf_session_48 : decode b_Rf_session 48 = .ok (.aload_n 0, 1) := by decide +kernel
theorem d_Rf_session_49 : decode b_Rf_session 49 = .ok (.getfield 33, 3) := by decide +kernel
theorem d_Rf_session_52 : decode b_Rf_session 52 = .ok (.aload_n 0, 1) := by decide +kernel
theorem d_Rf_session_53 : decode b_Rf_session 53 = .ok (.getfield 105, 3) := by decide +kernel
theorem d_Rf_session_56 : decode b_Rf_session 56 = .ok (.iload_n 1, 1) := by decide +kernel
theorem d_Rf_session_57 : decode b_Rf_session 57 = .ok (.iastore, 1) := by decide +kernel
theorem d_Rf_session_58 : decode b_Rf_session 58 = .ok (.aload_n 0, 1) := by decide +kernel
theorem d_Rf_session_59 : decode b_Rf_session 59 = .ok (.getfield 36, 3) := by decide +kernel
theorem d_Rf_session_62 : decode b_Rf_session 62 = .ok (.aload_n 0, 1) := by decide +kernel
theorem d_Rf_session_63 : decode b_Rf_session 63 = .ok (.getfield 105, 3) := by decide +kernel
theorem d_Rf_session_66 : decode b_Rf_session 66 = .ok (.iload_n 2, 1) := by decide +kernel
theorem d_Rf_session_67 : decode b_Rf_session 67 = .ok (.iastore, 1) := by decide +kernel
theorem d_Rf_session_68 : decode b_Rf_session 68 = .ok (.aload_n 0, 1) := by decide +kernel
theorem d_Rf_session_69 : decode b_Rf_session 69 = .ok (.getfield 42, 3) := by decide +kernel
theorem d_Rf_session_72 : decode b_Rf_session 72 = .ok (.aload_n 0, 1) := by decide +kernel
theorem d_Rf_session_73 : decode b_Rf_session 73 = .ok (.getfield 105, 3) := by decide +kernel
theorem d_Rf_session_76 : decode b_Rf_session 76 = .ok (.iconst 1, 1) := by decide +kernel
theorem d_Rf_session_77 : decode b_Rf_session 77 = .ok (.iastore, 1) := by decide +kernel
theorem d_Rf_session_78 : decode b_Rf_session 78 = .ok (.aload_n 0, 1) := by decide +kernel
theorem d_Rf_session_79 : decode b_Rf_session 79 = .ok (.getfield 51, 3) := by decide +kernel
theorem d_Rf_session_82 : decode b_Rf_session 82 = .ok (.bipush 60, 2) := by decide +kernel
theorem d_Rf_session_84 : decode b_Rf_session 84 = .ok (.aload_n 0, 1) := by decide +kernel
theorem d_Rf_session_85 : decode b_Rf_session 85 = .ok (.getfield 105, 3) := by decide +kernel
theorem d_Rf_session_88 : decode b_Rf_session 88 = .ok (.imul, 1) := by decide +kernel
theorem d_Rf_session_89 : decode b_Rf_session 89 = .ok (.iconst (-1), 1) := by decide +kernel
theorem d_Rf_session_90 : decode b_Rf_session 90 = .ok (.iastore, 1) := by decide +kernel
theorem d_Rf_session_91 : decode b_Rf_session 91 = .ok (.aload_n 0, 1) := by decide +kernel
theorem d_Rf_session_92 : decode b_Rf_session 92 = .ok (.getfield 54, 3) := by decide +kernel
theorem d_Rf_session_95 : decode b_Rf_session 95 = .ok (.bipush 60, 2) := by decide +kernel
theorem d_Rf_session_97 : decode b_Rf_session 97 = .ok (.aload_n 0, 1) := by decide +kernel
theorem d_Rf_session_98 : decode b_Rf_session 98 = .ok (.getfield 105, 3) := by decide +kernel
theorem d_Rf_session_101 : decode b_Rf_session 101 = .ok (.imul, 1) := by decide +kernel
theorem d_Rf_session_102 : decode b_Rf_session 102 = .ok (.iconst (-1), 1) := by decide +kernel
theorem d_Rf_session_103 : decode b_Rf_session 103 = .ok (.iastore, 1) := by decide +kernel
theorem d_Rf_session_104 : decode b_Rf_session 104 = .ok (.aload_n 0, 1) := by decide +kernel
theorem d_Rf_session_105 : decode b_Rf_session 105 = .ok (.getfield 48, 3) := by decide +kernel
theorem d_Rf_session_108 : decode b_Rf_session 108 = .ok (.aload_n 0, 1) := by decide +kernel
theorem d_Rf_session_109 : decode b_Rf_session 109 = .ok (.getfield 105, 3) := by decide +kernel
theorem d_Rf_session_112 : decode b_Rf_session 112 = .ok (.iconst (-1), 1) := by decide +kernel
theorem d_Rf_session_113 : decode b_Rf_session 113 = .ok (.iastore, 1) := by decide +kernel
theorem d_Rf_session_114 : decode b_Rf_session 114 = .ok (.aload_n 0, 1) := by decide +kernel
theorem d_Rf_session_115 : decode b_Rf_session 115 = .ok (.dup, 1) := by decide +kernel
theorem d_Rf_session_116 : decode b_Rf_session 116 = .ok (.getfield 105, 3) := by decide +kernel
theorem d_Rf_session_119 : decode b_Rf_session 119 = .ok (.iconst 1, 1) := by decide +kernel
theorem d_Rf_session_120 : decode b_Rf_session 120 = .ok (.iadd, 1) := by decide +kernel
theorem d_Rf_session_121 : decode b_Rf_session 121 = .ok (.putfield 105, 3) := by decide +kernel
theorem d_Rf_session_124 : decode b_Rf_session 124 = .ok (.aload_n 0, 1) := by decide +kernel
theorem d_Rf_session_125 : decode b_Rf_session 125 = .ok (.getfield 105, 3) := by decide +kernel
theorem d_Rf_session_128 : decode b_Rf_session 128 = .ok (.iconst 1, 1) := by decide +kernel
theorem d_Rf_session_129 : decode b_Rf_session 129 = .ok (.isub, 1) := by decide +kernel
theorem d_Rf_session_130 : decode b_Rf_session 130 = .ok (.ireturn, 1) := by decide +kernel
theorem d_Rf_isOpen_0 : decode b_Rf_isOpen 0 = .ok (.iload_n 1, 1) := by decide +kernel
theorem d_Rf_isOpen_1 : decode b_Rf_isOpen 1 = .ok (.aload_n 0, 1) := by decide +kernel
theorem d_Rf_isOpen_2 : decode b_Rf_isOpen 2 = .ok (.getfield 105, 3) := by decide +kernel
theorem d_Rf_isOpen_5 : decode b_Rf_isOpen 5 = .ok (.invokestatic 101, 3) := by decide +kernel
theorem d_Rf_isOpen_8 : decode b_Rf_isOpen 8 = .ok (.ifCond .eq 16, 3) := by decide +kernel
theorem d_Rf_isOpen_11 : decode b_Rf_isOpen 11 = .ok (.aload_n 0, 1) := by decide +kernel
theorem d_Rf_isOpen_12 : decode b_Rf_isOpen 12 = .ok (.getfield 45, 3) := by decide +kernel
theorem d_Rf_isOpen_15 : decode b_Rf_isOpen 15 = .ok (.iload_n 1, 1) := by decide +kernel
theorem d_Rf_isOpen_16 : decode b_Rf_isOpen 16 = .ok (.iaload, 1) := by decide +kernel
theorem d_Rf_isOpen_17 : decode b_Rf_isOpen 17 = .ok (.ifCond .ne 7, 3) := by decide +kernel
theorem d_Rf_isOpen_20 : decode b_Rf_isOpen 20 = .ok (.iconst 1, 1) := by decide +kernel
theorem d_Rf_isOpen_21 : decode b_Rf_isOpen 21 = .ok (.goto 4, 3) := by decide +kernel
theorem d_Rf_isOpen_24 : decode b_Rf_isOpen 24 = .ok (.iconst 0, 1) := by decide +kernel
theorem d_Rf_isOpen_25 : decode b_Rf_isOpen 25 = .ok (.ireturn, 1) := by decide +kernel
theorem d_Rf_make_0 : decode b_Rf_make 0 = .ok (.aload_n 0, 1) := by decide +kernel
theorem d_Rf_make_1 : decode b_Rf_make 1 = .ok (.iload_n 1, 1) := by decide +kernel
theorem d_Rf_make_2 : decode b_Rf_make 2 = .ok (.aload_n 0, 1) := by decide +kernel
theorem d_Rf_make_3 : decode b_Rf_make 3 = .ok (.getfield 105, 3) := by decide +kernel
theorem d_Rf_make_6 : decode b_Rf_make 6 = .ok (.invokestatic 101, 3) := by decide +kernel
theorem d_Rf_make_9 : decode b_Rf_make 9 = .ok (.ifCond .eq 15, 3) := by decide +kernel
theorem d_Rf_make_12 : decode b_Rf_make 12 = .ok (.iload_n 2, 1) := by decide +kernel
theorem d_Rf_make_13 : decode b_Rf_make 13 = .ok (.iconst 5, 1) := by decide +kernel
theorem d_Rf_make_14 : decode b_Rf_make 14 = .ok (.invokestatic 101, 3) := by decide +kernel
theorem d_Rf_make_17 : decode b_Rf_make 17 = .ok (.ifCond .eq 7, 3) := by decide +kernel
theorem d_Rf_make_20 : decode b_Rf_make 20 = .ok (.iconst 1, 1) := by decide +kernel
theorem d_Rf_make_21 : decode b_Rf_make 21 = .ok (.goto 4, 3) := by decide +kernel
theorem d_Rf_make_24 : decode b_Rf_make 24 = .ok (.iconst 0, 1) := by decide +kernel
theorem d_Rf_make_25 : decode b_Rf_make 25 = .ok (.aload_n 0, 1) := by decide +kernel
theorem d_Rf_make_26 : decode b_Rf_make 26 = .ok (.iload_n 1, 1) := by decide +kernel
theorem d_Rf_make_27 : decode b_Rf_make 27 = .ok (.invokevirtual 112, 3) := by decide +kernel
theorem d_Rf_make_30 : decode b_Rf_make 30 = .ok (.invokevirtual 108, 3) := by decide +kernel
theorem d_Rf_make_33 : decode b_Rf_make 33 = .ok (.ifCond .ne 5, 3) := by decide +kernel
theorem d_Rf_make_36 : decode b_Rf_make 36 = .ok (.iconst 0, 1) := by decide +kernel
theorem d_Rf_make_37 : decode b_Rf_make 37 = .ok (.ireturn, 1) := by decide +kernel
theorem d_Rf_make_38 : decode b_Rf_make 38 = .ok (.aload_n 0, 1) := by decide +kernel
theorem d_Rf_make_39 : decode b_Rf_make 39 = .ok (.getfield 116, 3) := by decide +kernel
theorem d_Rf_make_42 : decode b_Rf_make 42 = .ok (.bipush 60, 2) := by decide +kernel
theorem d_Rf_make_44 : decode b_Rf_make 44 = .ok (.if_icmp .eq 14, 3) := by decide +kernel
theorem d_Rf_make_47 : decode b_Rf_make 47 = .ok (.aload_n 0, 1) := by decide +kernel
theorem d_Rf_make_48 : decode b_Rf_make 48 = .ok (.getfield 42, 3) := by decide +kernel
theorem d_Rf_make_51 : decode b_Rf_make 51 = .ok (.iload_n 1, 1) := by decide +kernel
theorem d_Rf_make_52 : decode b_Rf_make 52 = .ok (.iaload, 1) := by decide +kernel
theorem d_Rf_make_53 : decode b_Rf_make 53 = .ok (.bipush 60, 2) := by decide +kernel
theorem d_Rf_make_55 : decode b_Rf_make 55 = .ok (.if_icmp .ne 6, 3) := by decide +kernel
theorem d_Rf_make_58 : decode b_Rf_make 58 = .ok (.bipush (-4), 2) := by decide +kernel
theorem d_Rf_make_60 : decode b_Rf_make 60 = .ok (.ireturn, 1) := by decide +kernel
theorem d_Rf_make_61 : decode b_Rf_make 61 = .ok (.aload_n 0, 1) := by decide +kernel
theorem d_Rf_make_62 : decode b_Rf_make 62 = .ok (.getfield 7, 3) := by decide +kernel
theorem d_Rf_make_65 : decode b_Rf_make 65 = .ok (.aload_n 0, 1) := by decide +kernel
theorem d_Rf_make_66 : decode b_Rf_make 66 = .ok (.getfield 116, 3) := by decide +kernel
theorem d_Rf_make_69 : decode b_Rf_make 69 = .ok (.iload_n 2, 1) := by decide +kernel
theorem d_Rf_make_70 : decode b_Rf_make 70 = .ok (.iastore, 1) := by decide +kernel
theorem d_Rf_make_71 : decode b_Rf_make 71 = .ok (.aload_n 0, 1) := by decide +kernel
theorem d_Rf_make_72 : decode b_Rf_make 72 = .ok (.getfield 13, 3) := by decide +kernel
theorem d_Rf_make_75 : decode b_Rf_make 75 = .ok (.aload_n 0, 1) := by decide +kernel
theorem d_Rf_make_76 : decode b_Rf_make 76 = .ok (.getfield 116, 3) := by decide +kernel
theorem d_Rf_make_79 : decode b_Rf_make 79 = .ok (.iconst (-1), 1) := by decide +kernel
theorem d_Rf_make_80 : decode b_Rf_make 80 = .ok (.iastore, 1) := by decide +kernel
theorem d_Rf_make_81 : decode b_Rf_make 81 = .ok (.aload_n 0, 1) := by decide +kernel
theorem d_Rf_make_82 : decode b_Rf_make 82 = .ok (.dup, 1) := by decide +kernel
theorem d_Rf_make_83 : decode b_Rf_make 83 = .ok (.getfield 116, 3) := by decide +kernel
theorem d_Rf_make_86 : decode b_Rf_make 86 = .ok (.iconst 1, 1) := by decide +kernel
theorem d_Rf_make_87 : decode b_Rf_make 87 = .ok (.iadd, 1) := by decide +kernel
theorem d_Rf_make_88 : decode b_Rf_make 88 = .ok (.putfield 116, 3) := by decide +kernel
theorem d_Rf_make_91 : decode b_Rf_make 91 = .ok (.aload_n 0, 1) := by decide +kernel
theorem d_Rf_make_92 : decode b_Rf_make 92 = .ok (.iload_n 1, 1) := by decide +kernel
theorem d_Rf_make_93 : decode b_Rf_make 93 = .ok (.iconst 1, 1) := by decide +kernel
theorem d_Rf_make_94 : decode b_Rf_make 94 = .ok (.aload_n 0, 1) := by decide +kernel
theorem d_Rf_make_95 : decode b_Rf_make 95 = .ok (.getfield 116, 3) := by decide +kernel
theorem d_Rf_make_98 : decode b_Rf_make 98 = .ok (.iconst 1, 1) := by decide +kernel
theorem d_Rf_make_99 : decode b_Rf_make 99 = .ok (.isub, 1) := by decide +kernel
theorem d_Rf_make_100 : decode b_Rf_make 100 = .ok (.iconst 0, 1) := by decide +kernel
theorem d_Rf_make_101 : decode b_Rf_make 101 = .ok (.iconst 0, 1) := by decide +kernel
theorem d_Rf_make_102 : decode b_Rf_make 102 = .ok (.invokevirtual 119, 3) := by decide +kernel
theorem d_Rf_make_105 : decode b_Rf_make 105 = .ok (.istore_n 3, 1) := by decide +kernel
theorem d_Rf_make_106 : decode b_Rf_make 106 = .ok (.aload_n 0, 1) := by decide +kernel
theorem d_Rf_make_107 : decode b_Rf_make 107 = .ok (.getfield 116, 3) := by decide +kernel
theorem d_Rf_make_110 : decode b_Rf_make 110 = .ok (.iconst 1, 1) := by decide +kernel
theorem d_Rf_make_111 : decode b_Rf_make 111 = .ok (.isub, 1) := by decide +kernel
theorem d_Rf_make_112 : decode b_Rf_make 112 = .ok (.ireturn, 1) := by decide +kernel
theorem d_Rf_barred_0 : decode b_Rf_barred 0 = .ok (.aload_n 0, 1) := by decide +kernel
theorem d_Rf_barred_1 : decode b_Rf_barred 1 = .ok (.iload_n 1, 1) := by decide +kernel
theorem d_Rf_barred_2 : decode b_Rf_barred 2 = .ok (.iload_n 2, 1) := by decide +kernel
theorem d_Rf_barred_3 : decode b_Rf_barred 3 = .ok (.invokevirtual 123, 3) := by decide +kernel
theorem d_Rf_barred_6 : decode b_Rf_barred 6 = .ok (.ifCond .ne 6, 3) := by decide +kernel
theorem d_Rf_barred_9 : decode b_Rf_barred 9 = .ok (.bipush (-3), 2) := by decide +kernel
theorem d_Rf_barred_11 : decode b_Rf_barred 11 = .ok (.ireturn, 1) := by decide +kernel
theorem d_Rf_barred_12 : decode b_Rf_barred 12 = .ok (.aload_n 0, 1) := by decide +kernel
theorem d_Rf_barred_13 : decode b_Rf_barred 13 = .ok (.getfield 13, 3) := by decide +kernel
theorem d_Rf_barred_16 : decode b_Rf_barred 16 = .ok (.iload_n 2, 1) := by decide +kernel
theorem d_Rf_barred_17 : decode b_Rf_barred 17 = .ok (.iaload, 1) := by decide +kernel
theorem d_Rf_barred_18 : decode b_Rf_barred 18 = .ok (.ifCond .lt 22, 3) := by decide +kernel
theorem d_Rf_barred_21 : decode b_Rf_barred 21 = .ok (.aload_n 0, 1) := by decide +kernel
theorem d_Rf_barred_22 : decode b_Rf_barred 22 = .ok (.getfield 13, 3) := by decide +kernel
theorem d_Rf_barred_25 : decode b_Rf_barred 25 = .ok (.iload_n 2, 1) := by decide +kernel
theorem d_Rf_barred_26 : decode b_Rf_barred 26 = .ok (.iaload, 1) := by decide +kernel
theorem d_Rf_barred_27 : decode b_Rf_barred 27 = .ok (.aload_n 0, 1) := by decide +kernel
theorem d_Rf_barred_28 : decode b_Rf_barred 28 = .ok (.getfield 33, 3) := by decide +kernel
theorem d_Rf_barred_31 : decode b_Rf_barred 31 = .ok (.iload_n 1, 1) := by decide +kernel
theorem d_Rf_barred_32 : decode b_Rf_barred 32 = .ok (.iaload, 1) := by decide +kernel
theorem d_Rf_barred_33 : decode b_Rf_barred 33 = .ok (.if_icmp .eq 7, 3) := by decide +kernel
theorem d_Rf_barred_36 : decode b_Rf_barred 36 = .ok (.iconst 1, 1) := by decide +kernel
theorem d_Rf_barred_37 : decode b_Rf_barred 37 = .ok (.goto 4, 3) := by decide +kernel
theorem d_Rf_barred_40 : decode b_Rf_barred 40 = .ok (.iconst 0, 1) := by decide +kernel
theorem d_Rf_barred_41 : decode b_Rf_barred 41 = .ok (.istore_n 3, 1) := by decide +kernel
theorem d_Rf_barred_42 : decode b_Rf_barred 42 = .ok (.iload_n 3, 1) := by decide +kernel
theorem d_Rf_barred_43 : decode b_Rf_barred 43 = .ok (.ifCond .eq 8, 3) := by decide +kernel
theorem d_Rf_barred_46 : decode b_Rf_barred 46 = .ok (.bipush (-2), 2) := by decide +kernel
theorem d_Rf_barred_48 : decode b_Rf_barred 48 = .ok (.goto 20, 3) := by decide +kernel
theorem d_Rf_barred_51 : decode b_Rf_barred 51 = .ok (.aload_n 0, 1) := by decide +kernel
theorem d_Rf_barred_52 : decode b_Rf_barred 52 = .ok (.getfield 42, 3) := by decide +kernel
theorem d_Rf_barred_55 : decode b_Rf_barred 55 = .ok (.iload_n 1, 1) := by decide +kernel
theorem d_Rf_barred_56 : decode b_Rf_barred 56 = .ok (.iaload, 1) := by decide +kernel
theorem d_Rf_barred_57 : decode b_Rf_barred 57 = .ok (.bipush 60, 2) := by decide +kernel
theorem d_Rf_barred_59 : decode b_Rf_barred 59 = .ok (.if_icmp .ne 8, 3) := by decide +kernel
theorem d_Rf_barred_62 : decode b_Rf_barred 62 = .ok (.bipush (-4), 2) := by decide +kernel
theorem d_Rf_barred_64 : decode b_Rf_barred 64 = .ok (.goto 4, 3) := by decide +kernel
theorem d_Rf_barred_67 : decode b_Rf_barred 67 = .ok (.iconst 0, 1) := by decide +kernel
theorem d_Rf_barred_68 : decode b_Rf_barred 68 = .ok (.ireturn, 1) := by decide +kernel
theorem d_Rf_set_0 : decode b_Rf_set 0 = .ok (.aload_n 0, 1) := by decide +kernel
theorem d_Rf_set_1 : decode b_Rf_set 1 = .ok (.iload_n 1, 1) := by decide +kernel
theorem d_Rf_set_2 : decode b_Rf_set 2 = .ok (.aload_n 0, 1) := by decide +kernel
theorem d_Rf_set_3 : decode b_Rf_set 3 = .ok (.getfield 105, 3) := by decide +kernel
theorem d_Rf_set_6 : decode b_Rf_set 6 = .ok (.invokestatic 101, 3) := by decide +kernel
theorem d_Rf_set_9 : decode b_Rf_set 9 = .ok (.ifCond .eq 26, 3) := by decide +kernel
theorem d_Rf_set_12 : decode b_Rf_set 12 = .ok (.iload_n 2, 1) := by decide +kernel
theorem d_Rf_set_13 : decode b_Rf_set 13 = .ok (.aload_n 0, 1) := by decide +kernel
theorem d_Rf_set_14 : decode b_Rf_set 14 = .ok (.getfield 116, 3) := by decide +kernel
theorem d_Rf_set_17 : decode b_Rf_set 17 = .ok (.invokestatic 101, 3) := by decide +kernel
theorem d_Rf_set_20 : decode b_Rf_set 20 = .ok (.ifCond .eq 15, 3) := by decide +kernel
theorem d_Rf_set_23 : decode b_Rf_set 23 = .ok (.iload_n 3, 1) := by decide +kernel
theorem d_Rf_set_24 : decode b_Rf_set 24 = .ok (.iconst 5, 1) := by decide +kernel
theorem d_Rf_set_25 : decode b_Rf_set 25 = .ok (.invokestatic 101, 3) := by decide +kernel
theorem d_Rf_set_28 : decode b_Rf_set 28 = .ok (.ifCond .eq 7, 3) := by decide +kernel
theorem d_Rf_set_31 : decode b_Rf_set 31 = .ok (.iconst 1, 1) := by decide +kernel
theorem d_Rf_set_32 : decode b_Rf_set 32 = .ok (.goto 4, 3) := by decide +kernel
theorem d_Rf_set_35 : decode b_Rf_set 35 = .ok (.iconst 0, 1) := by decide +kernel
theorem d_Rf_set_36 : decode b_Rf_set 36 = .ok (.aload_n 0, 1) := by decide +kernel
theorem d_Rf_set_37 : decode b_Rf_set 37 = .ok (.iload_n 1, 1) := by decide +kernel
theorem d_Rf_set_38 : decode b_Rf_set 38 = .ok (.invokevirtual 112, 3) := by decide +kernel
theorem d_Rf_set_41 : decode b_Rf_set 41 = .ok (.invokevirtual 108, 3) := by decide +kernel
theorem d_Rf_set_44 : decode b_Rf_set 44 = .ok (.ifCond .ne 5, 3) := by decide +kernel
theorem d_Rf_set_47 : decode b_Rf_set 47 = .ok (.iconst 0, 1) := by decide +kernel
theorem d_Rf_set_48 : decode b_Rf_set 48 = .ok (.ireturn, 1) := by decide +kernel
theorem d_Rf_set_49 : decode b_Rf_set 49 = .ok (.aload_n 0, 1) := by decide +kernel
theorem d_Rf_set_50 : decode b_Rf_set 50 = .ok (.iload_n 1, 1) := by decide +kernel
theorem d_Rf_set_51 : decode b_Rf_set 51 = .ok (.iload_n 2, 1) := by decide +kernel
theorem d_Rf_set_52 : decode b_Rf_set 52 = .ok (.invokevirtual 126, 3) := by decide +kernel
theorem d_Rf_set_55 : decode b_Rf_set 55 = .ok (.istore 5, 2) := by decide +kernel
theorem d_Rf_set_57 : decode b_Rf_set 57 = .ok (.iload 5, 2) := by decide +kernel
theorem d_Rf_set_59 : decode b_Rf_set 59 = .ok (.ifCond .ge 8, 3) := by decide +kernel
theorem d_Rf_set_62 : decode b_Rf_set 62 = .ok (.iload 5, 2) := by decide +kernel
theorem d_Rf_set_64 : decode b_Rf_set 64 = .ok (.goto 13, 3) := by decide +kernel
theorem d_Rf_set_67 : decode b_Rf_set 67 = .ok (.aload_n 0, 1) := by decide +kernel
theorem d_Rf_set_68 : decode b_Rf_set 68 = .ok (.iload_n 1, 1) := by decide +kernel
theorem d_Rf_set_69 : decode b_Rf_set 69 = .ok (.iconst 0, 1) := by decide +kernel
theorem d_Rf_set_70 : decode b_Rf_set 70 = .ok (.iload_n 2, 1) := by decide +kernel
theorem d_Rf_set_71 : decode b_Rf_set 71 = .ok (.iload_n 3, 1) := by decide +kernel
theorem d_Rf_set_72 : decode b_Rf_set 72 = .ok (.iload 4, 2) := by decide +kernel
theorem d_Rf_set_74 : decode b_Rf_set 74 = .ok (.invokevirtual 119, 3) := by decide +kernel
theorem d_Rf_set_77 : decode b_Rf_set 77 = .ok (.ireturn, 1) := by decide +kernel
theorem d_Rf_drop_0 : decode b_Rf_drop 0 = .ok (.aload_n 0, 1) := by decide +kernel
theorem d_Rf_drop_1 : decode b_Rf_drop 1 = .ok (.iload_n 1, 1) := by decide +kernel
theorem d_Rf_drop_2 : decode b_Rf_drop 2 = .ok (.aload_n 0, 1) := by decide +kernel
theorem d_Rf_drop_3 : decode b_Rf_drop 3 = .ok (.getfield 105, 3) := by decide +kernel
theorem d_Rf_drop_6 : decode b_Rf_drop 6 = .ok (.invokestatic 101, 3) := by decide +kernel
theorem d_Rf_drop_9 : decode b_Rf_drop 9 = .ok (.ifCond .eq 18, 3) := by decide +kernel
theorem d_Rf_drop_12 : decode b_Rf_drop 12 = .ok (.iload_n 2, 1) := by decide +kernel
theorem d_Rf_drop_13 : decode b_Rf_drop 13 = .ok (.aload_n 0, 1) := by decide +kernel
theorem d_Rf_drop_14 : decode b_Rf_drop 14 = .ok (.getfield 116, 3) := by decide +kernel
theorem d_Rf_drop_17 : decode b_Rf_drop 17 = .ok (.invokestatic 101, 3) := by decide +kernel
theorem d_Rf_drop_20 : decode b_Rf_drop 20 = .ok (.ifCond .eq 7, 3) := by decide +kernel
theorem d_Rf_drop_23 : decode b_Rf_drop 23 = .ok (.iconst 1, 1) := by decide +kernel
theorem d_Rf_drop_24 : decode b_Rf_drop 24 = .ok (.goto 4, 3) := by decide +kernel
theorem d_Rf_drop_27 : decode b_Rf_drop 27 = .ok (.iconst 0, 1) := by decide +kernel
theorem d_Rf_drop_28 : decode b_Rf_drop 28 = .ok (.aload_n 0, 1) := by decide +kernel
theorem d_Rf_drop_29 : decode b_Rf_drop 29 = .ok (.iload_n 1, 1) := by decide +kernel
theorem d_Rf_drop_30 : decode b_Rf_drop 30 = .ok (.invokevirtual 112, 3) := by decide +kernel
theorem d_Rf_drop_33 : decode b_Rf_drop 33 = .ok (.invokevirtual 108, 3) := by decide +kernel
theorem d_Rf_drop_36 : decode b_Rf_drop 36 = .ok (.ifCond .ne 5, 3) := by decide +kernel
theorem d_Rf_drop_39 : decode b_Rf_drop 39 = .ok (.iconst 0, 1) := by decide +kernel
theorem d_Rf_drop_40 : decode b_Rf_drop 40 = .ok (.ireturn, 1) := by decide +kernel
theorem d_Rf_drop_41 : decode b_Rf_drop 41 = .ok (.aload_n 0, 1) := by decide +kernel
theorem d_Rf_drop_42 : decode b_Rf_drop 42 = .ok (.iload_n 1, 1) := by decide +kernel
theorem d_Rf_drop_43 : decode b_Rf_drop 43 = .ok (.iload_n 2, 1) := by decide +kernel
theorem d_Rf_drop_44 : decode b_Rf_drop 44 = .ok (.invokevirtual 126, 3) := by decide +kernel
theorem d_Rf_drop_47 : decode b_Rf_drop 47 = .ok (.istore_n 3, 1) := by decide +kernel
theorem d_Rf_drop_48 : decode b_Rf_drop 48 = .ok (.iload_n 3, 1) := by decide +kernel
theorem d_Rf_drop_49 : decode b_Rf_drop 49 = .ok (.ifCond .ge 7, 3) := by decide +kernel
theorem d_Rf_drop_52 : decode b_Rf_drop 52 = .ok (.iload_n 3, 1) := by decide +kernel
theorem d_Rf_drop_53 : decode b_Rf_drop 53 = .ok (.goto 12, 3) := by decide +kernel
theorem d_Rf_drop_56 : decode b_Rf_drop 56 = .ok (.aload_n 0, 1) := by decide +kernel
theorem d_Rf_drop_57 : decode b_Rf_drop 57 = .ok (.iload_n 1, 1) := by decide +kernel
theorem d_Rf_drop_58 : decode b_Rf_drop 58 = .ok (.iconst 2, 1) := by decide +kernel
theorem d_Rf_drop_59 : decode b_Rf_drop 59 = .ok (.iload_n 2, 1) := by decide +kernel
theorem d_Rf_drop_60 : decode b_Rf_drop 60 = .ok (.iconst 0, 1) := by decide +kernel
theorem d_Rf_drop_61 : decode b_Rf_drop 61 = .ok (.iconst 0, 1) := by decide +kernel
theorem d_Rf_drop_62 : decode b_Rf_drop 62 = .ok (.invokevirtual 119, 3) := by decide +kernel
theorem d_Rf_drop_65 : decode b_Rf_drop 65 = .ok (.ireturn, 1) := by decide +kernel
theorem d_Rf_undo_0 : decode b_Rf_undo 0 = .ok (.aload_n 0, 1) := by decide +kernel
theorem d_Rf_undo_1 : decode b_Rf_undo 1 = .ok (.iload_n 1, 1) := by decide +kernel
theorem d_Rf_undo_2 : decode b_Rf_undo 2 = .ok (.aload_n 0, 1) := by decide +kernel
theorem d_Rf_undo_3 : decode b_Rf_undo 3 = .ok (.getfield 105, 3) := by decide +kernel
theorem d_Rf_undo_6 : decode b_Rf_undo 6 = .ok (.invokestatic 101, 3) := by decide +kernel
theorem d_Rf_undo_9 : decode b_Rf_undo 9 = .ok (.aload_n 0, 1) := by decide +kernel
theorem d_Rf_undo_10 : decode b_Rf_undo 10 = .ok (.iload_n 1, 1) := by decide +kernel
theorem d_Rf_undo_11 : decode b_Rf_undo 11 = .ok (.invokevirtual 112, 3) := by decide +kernel
theorem d_Rf_undo_14 : decode b_Rf_undo 14 = .ok (.invokevirtual 108, 3) := by decide +kernel
theorem d_Rf_undo_17 : decode b_Rf_undo 17 = .ok (.ifCond .ne 5, 3) := by decide +kernel
theorem d_Rf_undo_20 : decode b_Rf_undo 20 = .ok (.iconst 0, 1) := by decide +kernel
theorem d_Rf_undo_21 : decode b_Rf_undo 21 = .ok (.ireturn, 1) := by decide +kernel
theorem d_Rf_undo_22 : decode b_Rf_undo 22 = .ok (.aload_n 0, 1) := by decide +kernel
theorem d_Rf_undo_23 : decode b_Rf_undo 23 = .ok (.getfield 51, 3) := by decide +kernel
theorem d_Rf_undo_26 : decode b_Rf_undo 26 = .ok (.bipush 60, 2) := by decide +kernel
theorem d_Rf_undo_28 : decode b_Rf_undo 28 = .ok (.iload_n 1, 1) := by decide +kernel
theorem d_Rf_undo_29 : decode b_Rf_undo 29 = .ok (.imul, 1) := by decide +kernel
theorem d_Rf_undo_30 : decode b_Rf_undo 30 = .ok (.aload_n 0, 1) := by decide +kernel
theorem d_Rf_undo_31 : decode b_Rf_undo 31 = .ok (.getfield 39, 3) := by decide +kernel
theorem d_Rf_undo_34 : decode b_Rf_undo 34 = .ok (.iload_n 1, 1) := by decide +kernel
theorem d_Rf_undo_35 : decode b_Rf_undo 35 = .ok (.iaload, 1) := by decide +kernel
theorem d_Rf_undo_36 : decode b_Rf_undo 36 = .ok (.iadd, 1) := by decide +kernel
theorem d_Rf_undo_37 : decode b_Rf_undo 37 = .ok (.iaload, 1) := by decide +kernel
theorem d_Rf_undo_38 : decode b_Rf_undo 38 = .ok (.istore_n 2, 1) := by decide +kernel
theorem d_Rf_undo_39 : decode b_Rf_undo 39 = .ok (.aload_n 0, 1) := by decide +kernel
theorem d_Rf_undo_40 : decode b_Rf_undo 40 = .ok (.getfield 39, 3) := by decide +kernel
theorem d_Rf_undo_43 : decode b_Rf_undo 43 = .ok (.iload_n 1, 1) := by decide +kernel
theorem d_Rf_undo_44 : decode b_Rf_undo 44 = .ok (.iload_n 2, 1) := by decide +kernel
theorem d_Rf_undo_45 : decode b_Rf_undo 45 = .ok (.ifCond .ge 12, 3) := by decide +kernel
theorem d_Rf_undo_48 : decode b_Rf_undo 48 = .ok (.aload_n 0, 1) := by decide +kernel
theorem d_Rf_undo_49 : decode b_Rf_undo 49 = .ok (.getfield 39, 3) := by decide +kernel
theorem d_Rf_undo_52 : decode b_Rf_undo 52 = .ok (.iload_n 1, 1) := by decide +kernel
theorem d_Rf_undo_53 : decode b_Rf_undo 53 = .ok (.iaload, 1) := by decide +kernel
theorem d_Rf_undo_54 : decode b_Rf_undo 54 = .ok (.goto 4, 3) := by decide +kernel
theorem d_Rf_undo_57 : decode b_Rf_undo 57 = .ok (.iload_n 2, 1) := by decide +kernel
theorem d_Rf_undo_58 : decode b_Rf_undo 58 = .ok (.iastore, 1) := by decide +kernel
theorem d_Rf_undo_59 : decode b_Rf_undo 59 = .ok (.iload_n 2, 1) := by decide +kernel
theorem d_Rf_undo_60 : decode b_Rf_undo 60 = .ok (.ireturn, 1) := by decide +kernel
theorem d_Rf_redo_0 : decode b_Rf_redo 0 = .ok (.aload_n 0, 1) := by decide +kernel
theorem d_Rf_redo_1 : decode b_Rf_redo 1 = .ok (.iload_n 1, 1) := by decide +kernel
theorem d_Rf_redo_2 : decode b_Rf_redo 2 = .ok (.aload_n 0, 1) := by decide +kernel
theorem d_Rf_redo_3 : decode b_Rf_redo 3 = .ok (.getfield 105, 3) := by decide +kernel
theorem d_Rf_redo_6 : decode b_Rf_redo 6 = .ok (.invokestatic 101, 3) := by decide +kernel
theorem d_Rf_redo_9 : decode b_Rf_redo 9 = .ok (.aload_n 0, 1) := by decide +kernel
theorem d_Rf_redo_10 : decode b_Rf_redo 10 = .ok (.iload_n 1, 1) := by decide +kernel
theorem d_Rf_redo_11 : decode b_Rf_redo 11 = .ok (.invokevirtual 112, 3) := by decide +kernel
theorem d_Rf_redo_14 : decode b_Rf_redo 14 = .ok (.invokevirtual 108, 3) := by decide +kernel
theorem d_Rf_redo_17 : decode b_Rf_redo 17 = .ok (.ifCond .ne 5, 3) := by decide +kernel
theorem d_Rf_redo_20 : decode b_Rf_redo 20 = .ok (.iconst 0, 1) := by decide +kernel
theorem d_Rf_redo_21 : decode b_Rf_redo 21 = .ok (.ireturn, 1) := by decide +kernel
theorem d_Rf_redo_22 : decode b_Rf_redo 22 = .ok (.aload_n 0, 1) := by decide +kernel
theorem d_Rf_redo_23 : decode b_Rf_redo 23 = .ok (.getfield 54, 3) := by decide +kernel
theorem d_Rf_redo_26 : decode b_Rf_redo 26 = .ok (.bipush 60, 2) := by decide +kernel
theorem d_Rf_redo_28 : decode b_Rf_redo 28 = .ok (.iload_n 1, 1) := by decide +kernel
theorem d_Rf_redo_29 : decode b_Rf_redo 29 = .ok (.imul, 1) := by decide +kernel
theorem d_Rf_redo_30 : decode b_Rf_redo 30 = .ok (.aload_n 0, 1) := by decide +kernel
theorem d_Rf_redo_31 : decode b_Rf_redo 31 = .ok (.getfield 39, 3) := by decide +kernel
theorem d_Rf_redo_34 : decode b_Rf_redo 34 = .ok (.iload_n 1, 1) := by decide +kernel
theorem d_Rf_redo_35 : decode b_Rf_redo 35 = .ok (.iaload, 1) := by decide +kernel
theorem d_Rf_redo_36 : decode b_Rf_redo 36 = .ok (.iadd, 1) := by decide +kernel
theorem d_Rf_redo_37 : decode b_Rf_redo 37 = .ok (.iaload, 1) := by decide +kernel
theorem d_Rf_redo_38 : decode b_Rf_redo 38 = .ok (.istore_n 2, 1) := by decide +kernel
theorem d_Rf_redo_39 : decode b_Rf_redo 39 = .ok (.aload_n 0, 1) := by decide +kernel
theorem d_Rf_redo_40 : decode b_Rf_redo 40 = .ok (.getfield 39, 3) := by decide +kernel
theorem d_Rf_redo_43 : decode b_Rf_redo 43 = .ok (.iload_n 1, 1) := by decide +kernel
theorem d_Rf_redo_44 : decode b_Rf_redo 44 = .ok (.iload_n 2, 1) := by decide +kernel
theorem d_Rf_redo_45 : decode b_Rf_redo 45 = .ok (.ifCond .ge 12, 3) := by decide +kernel
theorem d_Rf_redo_48 : decode b_Rf_redo 48 = .ok (.aload_n 0, 1) := by decide +kernel
theorem d_Rf_redo_49 : decode b_Rf_redo 49 = .ok (.getfield 39, 3) := by decide +kernel
theorem d_Rf_redo_52 : decode b_Rf_redo 52 = .ok (.iload_n 1, 1) := by decide +kernel
theorem d_Rf_redo_53 : decode b_Rf_redo 53 = .ok (.iaload, 1) := by decide +kernel
theorem d_Rf_redo_54 : decode b_Rf_redo 54 = .ok (.goto 4, 3) := by decide +kernel
theorem d_Rf_redo_57 : decode b_Rf_redo 57 = .ok (.iload_n 2, 1) := by decide +kernel
theorem d_Rf_redo_58 : decode b_Rf_redo 58 = .ok (.iastore, 1) := by decide +kernel
theorem d_Rf_redo_59 : decode b_Rf_redo 59 = .ok (.iload_n 2, 1) := by decide +kernel
theorem d_Rf_redo_60 : decode b_Rf_redo 60 = .ok (.ireturn, 1) := by decide +kernel
theorem d_Rf_lock_0 : decode b_Rf_lock 0 = .ok (.aload_n 0, 1) := by decide +kernel
theorem d_Rf_lock_1 : decode b_Rf_lock 1 = .ok (.iload_n 1, 1) := by decide +kernel
theorem d_Rf_lock_2 : decode b_Rf_lock 2 = .ok (.aload_n 0, 1) := by decide +kernel
theorem d_Rf_lock_3 : decode b_Rf_lock 3 = .ok (.getfield 116, 3) := by decide +kernel
theorem d_Rf_lock_6 : decode b_Rf_lock 6 = .ok (.invokestatic 101, 3) := by decide +kernel
theorem d_Rf_lock_9 : decode b_Rf_lock 9 = .ok (.ifCond .eq 21, 3) := by decide +kernel
theorem d_Rf_lock_12 : decode b_Rf_lock 12 = .ok (.iload_n 2, 1) := by decide +kernel
theorem d_Rf_lock_13 : decode b_Rf_lock 13 = .ok (.iconst (-1), 1) := by decide +kernel
theorem d_Rf_lock_14 : decode b_Rf_lock 14 = .ok (.if_icmp .eq 12, 3) := by decide +kernel
theorem d_Rf_lock_17 : decode b_Rf_lock 17 = .ok (.iload_n 2, 1) := by decide +kernel
theorem d_Rf_lock_18 : decode b_Rf_lock 18 = .ok (.bipush 10, 2) := by decide +kernel
theorem d_Rf_lock_20 : decode b_Rf_lock 20 = .ok (.invokestatic 101, 3) := by decide +kernel
theorem d_Rf_lock_23 : decode b_Rf_lock 23 = .ok (.ifCond .eq 7, 3) := by decide +kernel
theorem d_Rf_lock_26 : decode b_Rf_lock 26 = .ok (.iconst 1, 1) := by decide +kernel
theorem d_Rf_lock_27 : decode b_Rf_lock 27 = .ok (.goto 4, 3) := by decide +kernel
theorem d_Rf_lock_30 : decode b_Rf_lock 30 = .ok (.iconst 0, 1) := by decide +kernel
theorem d_Rf_lock_31 : decode b_Rf_lock 31 = .ok (.iconst 1, 1) := by decide +kernel
theorem d_Rf_lock_32 : decode b_Rf_lock 32 = .ok (.invokevirtual 108, 3) := by decide +kernel
theorem d_Rf_lock_35 : decode b_Rf_lock 35 = .ok (.ifCond .ne 5, 3) := by decide +kernel
theorem d_Rf_lock_38 : decode b_Rf_lock 38 = .ok (.iconst 0, 1) := by decide +kernel
theorem d_Rf_lock_39 : decode b_Rf_lock 39 = .ok (.ireturn, 1) := by decide +kernel
theorem d_Rf_lock_40 : decode b_Rf_lock 40 = .ok (.aload_n 0, 1) := by decide +kernel
theorem d_Rf_lock_41 : decode b_Rf_lock 41 = .ok (.getfield 13, 3) := by decide +kernel
theorem d_Rf_lock_44 : decode b_Rf_lock 44 = .ok (.iload_n 1, 1) := by decide +kernel
theorem d_Rf_lock_45 : decode b_Rf_lock 45 = .ok (.iaload, 1) := by decide +kernel
theorem d_Rf_lock_46 : decode b_Rf_lock 46 = .ok (.istore_n 3, 1) := by decide +kernel
theorem d_Rf_lock_47 : decode b_Rf_lock 47 = .ok (.aload_n 0, 1) := by decide +kernel
theorem d_Rf_lock_48 : decode b_Rf_lock 48 = .ok (.getfield 13, 3) := by decide +kernel
theorem d_Rf_lock_51 : decode b_Rf_lock 51 = .ok (.iload_n 1, 1) := by decide +kernel
theorem d_Rf_lock_52 : decode b_Rf_lock 52 = .ok (.iload_n 2, 1) := by decide +kernel
theorem d_Rf_lock_53 : decode b_Rf_lock 53 = .ok (.iastore, 1) := by decide +kernel
theorem d_Rf_lock_54 : decode b_Rf_lock 54 = .ok (.iload_n 3, 1) := by decide +kernel
theorem d_Rf_lock_55 : decode b_Rf_lock 55 = .ok (.ireturn, 1) := by decide +kernel
theorem d_Rf_rule_0 : decode b_Rf_rule 0 = .ok (.aload_n 0, 1) := by decide +kernel
theorem d_Rf_rule_1 : decode b_Rf_rule 1 = .ok (.iload_n 1, 1) := by decide +kernel
theorem d_Rf_rule_2 : decode b_Rf_rule 2 = .ok (.iconst 5, 1) := by decide +kernel
theorem d_Rf_rule_3 : decode b_Rf_rule 3 = .ok (.invokestatic 101, 3) := by decide +kernel
theorem d_Rf_rule_6 : decode b_Rf_rule 6 = .ok (.ifCond .eq 23, 3) := by decide +kernel
theorem d_Rf_rule_9 : decode b_Rf_rule 9 = .ok (.iload_n 2, 1) := by decide +kernel
theorem d_Rf_rule_10 : decode b_Rf_rule 10 = .ok (.iconst 5, 1) := by decide +kernel
theorem d_Rf_rule_11 : decode b_Rf_rule 11 = .ok (.invokestatic 101, 3) := by decide +kernel
theorem d_Rf_rule_14 : decode b_Rf_rule 14 = .ok (.ifCond .eq 15, 3) := by decide +kernel
theorem d_Rf_rule_17 : decode b_Rf_rule 17 = .ok (.iload_n 3, 1) := by decide +kernel
theorem d_Rf_rule_18 : decode b_Rf_rule 18 = .ok (.iconst 5, 1) := by decide +kernel
theorem d_Rf_rule_19 : decode b_Rf_rule 19 = .ok (.invokestatic 101, 3) := by decide +kernel
theorem d_Rf_rule_22 : decode b_Rf_rule 22 = .ok (.ifCond .eq 7, 3) := by decide +kernel
theorem d_Rf_rule_25 : decode b_Rf_rule 25 = .ok (.iconst 1, 1) := by decide +kernel
theorem d_Rf_rule_26 : decode b_Rf_rule 26 = .ok (.goto 4, 3) := by decide +kernel
theorem d_Rf_rule_29 : decode b_Rf_rule 29 = .ok (.iconst 0, 1) := by decide +kernel
theorem d_Rf_rule_30 : decode b_Rf_rule 30 = .ok (.aload_n 0, 1) := by decide +kernel
theorem d_Rf_rule_31 : decode b_Rf_rule 31 = .ok (.getfield 130, 3) := by decide +kernel
theorem d_Rf_rule_34 : decode b_Rf_rule 34 = .ok (.bipush 10, 2) := by decide +kernel
theorem d_Rf_rule_36 : decode b_Rf_rule 36 = .ok (.if_icmp .ge 7, 3) := by decide +kernel
theorem d_Rf_rule_39 : decode b_Rf_rule 39 = .ok (.iconst 1, 1) := by decide +kernel
theorem d_Rf_rule_40 : decode b_Rf_rule 40 = .ok (.goto 4, 3) := by decide +kernel
theorem d_Rf_rule_43 : decode b_Rf_rule 43 = .ok (.iconst 0, 1) := by decide +kernel
theorem d_Rf_rule_44 : decode b_Rf_rule 44 = .ok (.invokevirtual 108, 3) := by decide +kernel
theorem d_Rf_rule_47 : decode b_Rf_rule 47 = .ok (.ifCond .ne 5, 3) := by decide +kernel
theorem d_Rf_rule_50 : decode b_Rf_rule 50 = .ok (.iconst 0, 1) := by decide +kernel
theorem d_Rf_rule_51 : decode b_Rf_rule 51 = .ok (.ireturn, 1) := by decide +kernel
theorem d_Rf_rule_52 : decode b_Rf_rule 52 = .ok (.aload_n 0, 1) := by decide +kernel
theorem d_Rf_rule_53 : decode b_Rf_rule 53 = .ok (.getfield 69, 3) := by decide +kernel
theorem d_Rf_rule_56 : decode b_Rf_rule 56 = .ok (.aload_n 0, 1) := by decide +kernel
theorem d_Rf_rule_57 : decode b_Rf_rule 57 = .ok (.getfield 130, 3) := by decide +kernel
theorem d_Rf_rule_60 : decode b_Rf_rule 60 = .ok (.iload_n 1, 1) := by decide +kernel
theorem d_Rf_rule_61 : decode b_Rf_rule 61 = .ok (.iastore, 1) := by decide +kernel
theorem d_Rf_rule_62 : decode b_Rf_rule 62 = .ok (.aload_n 0, 1) := by decide +kernel
theorem d_Rf_rule_63 : decode b_Rf_rule 63 = .ok (.getfield 72, 3) := by decide +kernel
theorem d_Rf_rule_66 : decode b_Rf_rule 66 = .ok (.aload_n 0, 1) := by decide +kernel
theorem d_Rf_rule_67 : decode b_Rf_rule 67 = .ok (.getfield 130, 3) := by decide +kernel
theorem d_Rf_rule_70 : decode b_Rf_rule 70 = .ok (.iload_n 2, 1) := by decide +kernel
theorem d_Rf_rule_71 : decode b_Rf_rule 71 = .ok (.iastore, 1) := by decide +kernel
theorem d_Rf_rule_72 : decode b_Rf_rule 72 = .ok (.aload_n 0, 1) := by decide +kernel
theorem d_Rf_rule_73 : decode b_Rf_rule 73 = .ok (.getfield 75, 3) := by decide +kernel
theorem d_Rf_rule_76 : decode b_Rf_rule 76 = .ok (.aload_n 0, 1) := by decide +kernel
theorem d_Rf_rule_77 : decode b_Rf_rule 77 = .ok (.getfield 130, 3) := by decide +kernel
theorem d_Rf_rule_80 : decode b_Rf_rule 80 = .ok (.iload_n 3, 1) := by decide +kernel
theorem d_Rf_rule_81 : decode b_Rf_rule 81 = .ok (.iastore, 1) := by decide +kernel
theorem d_Rf_rule_82 : decode b_Rf_rule 82 = .ok (.aload_n 0, 1) := by decide +kernel
theorem d_Rf_rule_83 : decode b_Rf_rule 83 = .ok (.dup, 1) := by decide +kernel
theorem d_Rf_rule_84 : decode b_Rf_rule 84 = .ok (.getfield 130, 3) := by decide +kernel
theorem d_Rf_rule_87 : decode b_Rf_rule 87 = .ok (.iconst 1, 1) := by decide +kernel
theorem d_Rf_rule_88 : decode b_Rf_rule 88 = .ok (.iadd, 1) := by decide +kernel
theorem d_Rf_rule_89 : decode b_Rf_rule 89 = .ok (.putfield 130, 3) := by decide +kernel
theorem d_Rf_rule_92 : decode b_Rf_rule 92 = .ok (.aload_n 0, 1) := by decide +kernel
theorem d_Rf_rule_93 : decode b_Rf_rule 93 = .ok (.getfield 130, 3) := by decide +kernel
theorem d_Rf_rule_96 : decode b_Rf_rule 96 = .ok (.iconst 1, 1) := by decide +kernel
theorem d_Rf_rule_97 : decode b_Rf_rule 97 = .ok (.isub, 1) := by decide +kernel
theorem d_Rf_rule_98 : decode b_Rf_rule 98 = .ok (.ireturn, 1) := by decide +kernel
theorem d_Rf_mine_0 : decode b_Rf_mine 0 = .ok (.bipush 60, 2) := by decide +kernel
theorem d_Rf_mine_2 : decode b_Rf_mine 2 = .ok (.aload_n 0, 1) := by decide +kernel
theorem d_Rf_mine_3 : decode b_Rf_mine 3 = .ok (.getfield 16, 3) := by decide +kernel
theorem d_Rf_mine_6 : decode b_Rf_mine 6 = .ok (.iconst 1, 1) := by decide +kernel
theorem d_Rf_mine_7 : decode b_Rf_mine 7 = .ok (.isub, 1) := by decide +kernel
theorem d_Rf_mine_8 : decode b_Rf_mine 8 = .ok (.imul, 1) := by decide +kernel
theorem d_Rf_mine_9 : decode b_Rf_mine 9 = .ok (.iload_n 1, 1) := by decide +kernel
theorem d_Rf_mine_10 : decode b_Rf_mine 10 = .ok (.iadd, 1) := by decide +kernel
theorem d_Rf_mine_11 : decode b_Rf_mine 11 = .ok (.ireturn, 1) := by decide +kernel
end
section
theorem d_Rf_find_0 : decode b_Rf_find 0 = .ok (.bipush 60, 2) := by decide +kernel
theorem d_Rf_find_2 : decode b_Rf_find 2 = .ok (.aload_n 0, 1) := by decide +kernel
theorem d_Rf_find_3 : decode b_Rf_find 3 = .ok (.getfield 36, 3) := by decide +kernel
theorem d_Rf_find_6 : decode b_Rf_find 6 = .ok (.iload_n 1, 1) := by decide +kernel
theorem d_Rf_find_7 : decode b_Rf_find 7 = .ok (.iaload, 1) := by decide +kernel
theorem d_Rf_find_8 : decode b_Rf_find 8 = .ok (.imul, 1) := by decide +kernel
theorem d_Rf_find_9 : decode b_Rf_find 9 = .ok (.iload_n 2, 1) := by decide +kernel
theorem d_Rf_find_10 : decode b_Rf_find 10 = .ok (.iadd, 1) := by decide +kernel
theorem d_Rf_find_11 : decode b_Rf_find 11 = .ok (.istore_n 3, 1) := by decide +kernel
theorem d_Rf_find_12 : decode b_Rf_find 12 = .ok (.aload_n 0, 1) := by decide +kernel
theorem d_Rf_find_13 : decode b_Rf_find 13 = .ok (.getfield 20, 3) := by decide +kernel
theorem d_Rf_find_16 : decode b_Rf_find 16 = .ok (.aload_n 0, 1) := by decide +kernel
theorem d_Rf_find_17 : decode b_Rf_find 17 = .ok (.iload_n 2, 1) := by decide +kernel
theorem d_Rf_find_18 : decode b_Rf_find 18 = .ok (.invokevirtual 133, 3) := by decide +kernel
theorem d_Rf_find_21 : decode b_Rf_find 21 = .ok (.baload, 1) := by decide +kernel
theorem d_Rf_find_22 : decode b_Rf_find 22 = .ok (.istore 4, 2) := by decide +kernel
theorem d_Rf_find_24 : decode b_Rf_find 24 = .ok (.aload_n 0, 1) := by decide +kernel
theorem d_Rf_find_25 : decode b_Rf_find 25 = .ok (.iload_n 1, 1) := by decide +kernel
theorem d_Rf_find_26 : decode b_Rf_find 26 = .ok (.iload_n 2, 1) := by decide +kernel
theorem d_Rf_find_27 : decode b_Rf_find 27 = .ok (.invokevirtual 123, 3) := by decide +kernel
theorem d_Rf_find_30 : decode b_Rf_find 30 = .ok (.istore 5, 2) := by decide +kernel
theorem d_Rf_find_32 : decode b_Rf_find 32 = .ok (.aload_n 0, 1) := by decide +kernel
theorem d_Rf_find_33 : decode b_Rf_find 33 = .ok (.getfield 20, 3) := by decide +kernel
theorem d_Rf_find_36 : decode b_Rf_find 36 = .ok (.iload_n 3, 1) := by decide +kernel
theorem d_Rf_find_37 : decode b_Rf_find 37 = .ok (.baload, 1) := by decide +kernel
theorem d_Rf_find_38 : decode b_Rf_find 38 = .ok (.ifCond .ne 4, 3) := by decide +kernel
theorem d_Rf_find_41 : decode b_Rf_find 41 = .ok (.return_, 1) := by decide +kernel
theorem d_Rf_find_42 : decode b_Rf_find 42 = .ok (.iconst 0, 1) := by decide +kernel
theorem d_Rf_find_43 : decode b_Rf_find 43 = .ok (.istore 6, 2) := by decide +kernel
theorem d_Rf_find_45 : decode b_Rf_find 45 = .ok (.iconst 0, 1) := by decide +kernel
theorem d_Rf_find_46 : decode b_Rf_find 46 = .ok (.istore 7, 2) := by decide +kernel
theorem d_Rf_find_48 : decode b_Rf_find 48 = .ok (.iconst 0, 1) := by decide +kernel
theorem d_Rf_find_49 : decode b_Rf_find 49 = .ok (.istore 8, 2) := by decide +kernel
theorem d_Rf_find_51 : decode b_Rf_find 51 = .ok (.iload 8, 2) := by decide +kernel
theorem d_Rf_find_53 : decode b_Rf_find 53 = .ok (.iconst 5, 1) := by decide +kernel
theorem d_Rf_find_54 : decode b_Rf_find 54 = .ok (.if_icmp .ge 179, 3) := by decide +kernel
theorem d_Rf_find_57 : decode b_Rf_find 57 = .ok (.aload_n 0, 1) := by decide +kernel
theorem d_Rf_find_58 : decode b_Rf_find 58 = .ok (.getfield 24, 3) := by decide +kernel
theorem d_Rf_find_61 : decode b_Rf_find 61 = .ok (.iconst 5, 1) := by decide +kernel
theorem d_Rf_find_62 : decode b_Rf_find 62 = .ok (.iload_n 3, 1) := by decide +kernel
theorem d_Rf_find_63 : decode b_Rf_find 63 = .ok (.imul, 1) := by decide +kernel
theorem d_Rf_find_64 : decode b_Rf_find 64 = .ok (.iload 8, 2) := by decide +kernel
theorem d_Rf_find_66 : decode b_Rf_find 66 = .ok (.iadd, 1) := by decide +kernel
theorem d_Rf_find_67 : decode b_Rf_find 67 = .ok (.iaload, 1) := by decide +kernel
theorem d_Rf_find_68 : decode b_Rf_find 68 = .ok (.istore 9, 2) := by decide +kernel
theorem d_Rf_find_70 : decode b_Rf_find 70 = .ok (.aload_n 0, 1) := by decide +kernel
theorem d_Rf_find_71 : decode b_Rf_find 71 = .ok (.getfield 24, 3) := by decide +kernel
theorem d_Rf_find_74 : decode b_Rf_find 74 = .ok (.iconst 5, 1) := by decide +kernel
theorem d_Rf_find_75 : decode b_Rf_find 75 = .ok (.aload_n 0, 1) := by decide +kernel
theorem d_Rf_find_76 : decode b_Rf_find 76 = .ok (.iload_n 2, 1) := by decide +kernel
theorem d_Rf_find_77 : decode b_Rf_find 77 = .ok (.invokevirtual 133, 3) := by decide +kernel
theorem d_Rf_find_80 : decode b_Rf_find 80 = .ok (.imul, 1) := by decide +kernel
theorem d_Rf_find_81 : decode b_Rf_find 81 = .ok (.iload 8, 2) := by decide +kernel
theorem d_Rf_find_83 : decode b_Rf_find 83 = .ok (.iadd, 1) := by decide +kernel
theorem d_Rf_find_84 : decode b_Rf_find 84 = .ok (.iaload, 1) := by decide +kernel
theorem d_Rf_find_85 : decode b_Rf_find 85 = .ok (.istore 10, 2) := by decide +kernel
theorem d_Rf_find_87 : decode b_Rf_find 87 = .ok (.aload_n 0, 1) := by decide +kernel
theorem d_Rf_find_88 : decode b_Rf_find 88 = .ok (.iload_n 1, 1) := by decide +kernel
theorem d_Rf_find_89 : decode b_Rf_find 89 = .ok (.iload_n 2, 1) := by decide +kernel
theorem d_Rf_find_90 : decode b_Rf_find 90 = .ok (.iload 8, 2) := by decide +kernel
theorem d_Rf_find_92 : decode b_Rf_find 92 = .ok (.invokevirtual 137, 3) := by decide +kernel
theorem d_Rf_find_95 : decode b_Rf_find 95 = .ok (.istore 11, 2) := by decide +kernel
theorem d_Rf_find_97 : decode b_Rf_find 97 = .ok (.iload 4, 2) := by decide +kernel
theorem d_Rf_find_99 : decode b_Rf_find 99 = .ok (.ifCond .eq 14, 3) := by decide +kernel
theorem d_Rf_find_102 : decode b_Rf_find 102 = .ok (.iload 10, 2) := by decide +kernel
theorem d_Rf_find_104 : decode b_Rf_find 104 = .ok (.iload 9, 2) := by decide +kernel
theorem d_Rf_find_106 : decode b_Rf_find 106 = .ok (.if_icmp .eq 7, 3) := by decide +kernel
theorem d_Rf_find_109 : decode b_Rf_find 109 = .ok (.iconst 1, 1) := by decide +kernel
theorem d_Rf_find_110 : decode b_Rf_find 110 = .ok (.goto 4, 3) := by decide +kernel
theorem d_Rf_find_113 : decode b_Rf_find 113 = .ok (.iconst 0, 1) := by decide +kernel
theorem d_Rf_find_114 : decode b_Rf_find 114 = .ok (.istore 12, 2) := by decide +kernel
theorem d_Rf_find_116 : decode b_Rf_find 116 = .ok (.iload 5, 2) := by decide +kernel
theorem d_Rf_find_118 : decode b_Rf_find 118 = .ok (.ifCond .eq 14, 3) := by decide +kernel
theorem d_Rf_find_121 : decode b_Rf_find 121 = .ok (.iload 11, 2) := by decide +kernel
theorem d_Rf_find_123 : decode b_Rf_find 123 = .ok (.iload 9, 2) := by decide +kernel
theorem d_Rf_find_125 : decode b_Rf_find 125 = .ok (.if_icmp .eq 7, 3) := by decide +kernel
theorem d_Rf_find_128 : decode b_Rf_find 128 = .ok (.iconst 1, 1) := by decide +kernel
theorem d_Rf_find_129 : decode b_Rf_find 129 = .ok (.goto 4, 3) := by decide +kernel
theorem d_Rf_find_132 : decode b_Rf_find 132 = .ok (.iconst 0, 1) := by decide +kernel
theorem d_Rf_find_133 : decode b_Rf_find 133 = .ok (.istore 13, 2) := by decide +kernel
theorem d_Rf_find_135 : decode b_Rf_find 135 = .ok (.iload 6, 2) := by decide +kernel
theorem d_Rf_find_137 : decode b_Rf_find 137 = .ok (.ifCond .ne 8, 3) := by decide +kernel
theorem d_Rf_find_140 : decode b_Rf_find 140 = .ok (.iload 12, 2) := by decide +kernel
theorem d_Rf_find_142 : decode b_Rf_find 142 = .ok (.ifCond .eq 7, 3) := by decide +kernel
theorem d_Rf_find_145 : decode b_Rf_find 145 = .ok (.iconst 1, 1) := by decide +kernel
theorem d_Rf_find_146 : decode b_Rf_find 146 = .ok (.goto 4, 3) := by decide +kernel
theorem d_Rf_find_149 : decode b_Rf_find 149 = .ok (.iconst 0, 1) := by decide +kernel
theorem d_Rf_find_150 : decode b_Rf_find 150 = .ok (.istore 6, 2) := by decide +kernel
theorem d_Rf_find_152 : decode b_Rf_find 152 = .ok (.iload 7, 2) := by decide +kernel
theorem d_Rf_find_154 : decode b_Rf_find 154 = .ok (.ifCond .ne 8, 3) := by decide +kernel
theorem d_Rf_find_157 : decode b_Rf_find 157 = .ok (.iload 13, 2) := by decide +kernel
theorem d_Rf_find_159 : decode b_Rf_find 159 = .ok (.ifCond .eq 7, 3) := by decide +kernel
theorem d_Rf_find_162 : decode b_Rf_find 162 = .ok (.iconst 1, 1) := by decide +kernel
theorem d_Rf_find_163 : decode b_Rf_find 163 = .ok (.goto 4, 3) := by decide +kernel
theorem d_Rf_find_166 : decode b_Rf_find 166 = .ok (.iconst 0, 1) := by decide +kernel
theorem d_Rf_find_167 : decode b_Rf_find 167 = .ok (.istore 7, 2) := by decide +kernel
theorem d_Rf_find_169 : decode b_Rf_find 169 = .ok (.iload 12, 2) := by decide +kernel
theorem d_Rf_find_171 : decode b_Rf_find 171 = .ok (.ifCond .eq 56, 3) := by decide +kernel
theorem d_Rf_find_174 : decode b_Rf_find 174 = .ok (.iload 13, 2) := by decide +kernel
theorem d_Rf_find_176 : decode b_Rf_find 176 = .ok (.ifCond .eq 51, 3) := by decide +kernel
theorem d_Rf_find_179 : decode b_Rf_find 179 = .ok (.iload 10, 2) := by decide +kernel
theorem d_Rf_find_181 : decode b_Rf_find 181 = .ok (.iload 11, 2) := by decide +kernel
theorem d_Rf_find_183 : decode b_Rf_find 183 = .ok (.if_icmp .eq 44, 3) := by decide +kernel
theorem d_Rf_find_186 : decode b_Rf_find 186 = .ok (.aload_n 0, 1) := by decide +kernel
theorem d_Rf_find_187 : decode b_Rf_find 187 = .ok (.getfield 81, 3) := by decide +kernel
theorem d_Rf_find_190 : decode b_Rf_find 190 = .ok (.aload_n 0, 1) := by decide +kernel
theorem d_Rf_find_191 : decode b_Rf_find 191 = .ok (.getfield 141, 3) := by decide +kernel
theorem d_Rf_find_194 : decode b_Rf_find 194 = .ok (.iload_n 2, 1) := by decide +kernel
theorem d_Rf_find_195 : decode b_Rf_find 195 = .ok (.iastore, 1) := by decide +kernel
theorem d_Rf_find_196 : decode b_Rf_find 196 = .ok (.aload_n 0, 1) := by decide +kernel
theorem d_Rf_find_197 : decode b_Rf_find 197 = .ok (.getfield 84, 3) := by decide +kernel
theorem d_Rf_find_200 : decode b_Rf_find 200 = .ok (.aload_n 0, 1) := by decide +kernel
theorem d_Rf_find_201 : decode b_Rf_find 201 = .ok (.getfield 141, 3) := by decide +kernel
theorem d_Rf_find_204 : decode b_Rf_find 204 = .ok (.iload 8, 2) := by decide +kernel
theorem d_Rf_find_206 : decode b_Rf_find 206 = .ok (.iastore, 1) := by decide +kernel
theorem d_Rf_find_207 : decode b_Rf_find 207 = .ok (.aload_n 0, 1) := by decide +kernel
theorem d_Rf_find_208 : decode b_Rf_find 208 = .ok (.getfield 87, 3) := by decide +kernel
theorem d_Rf_find_211 : decode b_Rf_find 211 = .ok (.aload_n 0, 1) := by decide +kernel
theorem d_Rf_find_212 : decode b_Rf_find 212 = .ok (.getfield 141, 3) := by decide +kernel
theorem d_Rf_find_215 : decode b_Rf_find 215 = .ok (.iconst (-1), 1) := by decide +kernel
theorem d_Rf_find_216 : decode b_Rf_find 216 = .ok (.iastore, 1) := by decide +kernel
theorem d_Rf_find_217 : decode b_Rf_find 217 = .ok (.aload_n 0, 1) := by decide +kernel
theorem d_Rf_find_218 : decode b_Rf_find 218 = .ok (.dup, 1) := by decide +kernel
theorem d_Rf_find_219 : decode b_Rf_find 219 = .ok (.getfield 141, 3) := by decide +kernel
theorem d_Rf_find_222 : decode b_Rf_find 222 = .ok (.iconst 1, 1) := by decide +kernel
theorem d_Rf_find_223 : decode b_Rf_find 223 = .ok (.iadd, 1) := by decide +kernel
theorem d_Rf_find_224 : decode b_Rf_find 224 = .ok (.putfield 141, 3) := by decide +kernel
theorem d_Rf_find_227 : decode b_Rf_find 227 = .ok (.iinc 8 1, 3) := by decide +kernel
theorem d_Rf_find_230 : decode b_Rf_find 230 = .ok (.goto (-179), 3) := by decide +kernel
theorem d_Rf_find_233 : decode b_Rf_find 233 = .ok (.iload 4, 2) := by decide +kernel
theorem d_Rf_find_235 : decode b_Rf_find 235 = .ok (.iload 5, 2) := by decide +kernel
theorem d_Rf_find_237 : decode b_Rf_find 237 = .ok (.if_icmp .eq 61, 3) := by decide +kernel
theorem d_Rf_find_240 : decode b_Rf_find 240 = .ok (.iload 4, 2) := by decide +kernel
theorem d_Rf_find_242 : decode b_Rf_find 242 = .ok (.ifCond .eq 11, 3) := by decide +kernel
theorem d_Rf_find_245 : decode b_Rf_find 245 = .ok (.iload 6, 2) := by decide +kernel
theorem d_Rf_find_247 : decode b_Rf_find 247 = .ok (.ifCond .eq 51, 3) := by decide +kernel
theorem d_Rf_find_250 : decode b_Rf_find 250 = .ok (.goto 8, 3) := by decide +kernel
theorem d_Rf_find_253 : decode b_Rf_find 253 = .ok (.iload 7, 2) := by decide +kernel
theorem d_Rf_find_255 : decode b_Rf_find 255 = .ok (.ifCond .eq 43, 3) := by decide +kernel
theorem d_Rf_find_258 : decode b_Rf_find 258 = .ok (.aload_n 0, 1) := by decide +kernel
theorem d_Rf_find_259 : decode b_Rf_find 259 = .ok (.getfield 81, 3) := by decide +kernel
theorem d_Rf_find_262 : decode b_Rf_find 262 = .ok (.aload_n 0, 1) := by decide +kernel
theorem d_Rf_find_263 : decode b_Rf_find 263 = .ok (.getfield 141, 3) := by decide +kernel
theorem d_Rf_find_266 : decode b_Rf_find 266 = .ok (.iload_n 2, 1) := by decide +kernel
theorem d_Rf_find_267 : decode b_Rf_find 267 = .ok (.iastore, 1) := by decide +kernel
theorem d_Rf_find_268 : decode b_Rf_find 268 = .ok (.aload_n 0, 1) := by decide +kernel
theorem d_Rf_find_269 : decode b_Rf_find 269 = .ok (.getfield 84, 3) := by decide +kernel
theorem d_Rf_find_272 : decode b_Rf_find 272 = .ok (.aload_n 0, 1) := by decide +kernel
theorem d_Rf_find_273 : decode b_Rf_find 273 = .ok (.getfield 141, 3) := by decide +kernel
theorem d_Rf_find_276 : decode b_Rf_find 276 = .ok (.iconst (-1), 1) := by decide +kernel
theorem d_Rf_find_277 : decode b_Rf_find 277 = .ok (.iastore, 1) := by decide +kernel
theorem d_Rf_find_278 : decode b_Rf_find 278 = .ok (.aload_n 0, 1) := by decide +kernel
theorem d_Rf_find_279 : decode b_Rf_find 279 = .ok (.getfield 87, 3) := by decide +kernel
theorem d_Rf_find_282 : decode b_Rf_find 282 = .ok (.aload_n 0, 1) := by decide +kernel
theorem d_Rf_find_283 : decode b_Rf_find 283 = .ok (.getfield 141, 3) := by decide +kernel
theorem d_Rf_find_286 : decode b_Rf_find 286 = .ok (.iconst (-1), 1) := by decide +kernel
theorem d_Rf_find_287 : decode b_Rf_find 287 = .ok (.iastore, 1) := by decide +kernel
theorem d_Rf_find_288 : decode b_Rf_find 288 = .ok (.aload_n 0, 1) := by decide +kernel
theorem d_Rf_find_289 : decode b_Rf_find 289 = .ok (.dup, 1) := by decide +kernel
theorem d_Rf_find_290 : decode b_Rf_find 290 = .ok (.getfield 141, 3) := by decide +kernel
theorem d_Rf_find_293 : decode b_Rf_find 293 = .ok (.iconst 1, 1) := by decide +kernel
theorem d_Rf_find_294 : decode b_Rf_find 294 = .ok (.iadd, 1) := by decide +kernel
theorem d_Rf_find_295 : decode b_Rf_find 295 = .ok (.putfield 141, 3) := by decide +kernel
theorem d_Rf_find_298 : decode b_Rf_find 298 = .ok (.return_, 1) := by decide +kernel
theorem d_Rf_sideOf_0 : decode b_Rf_sideOf 0 = .ok (.iconst (-1), 1) := by decide +kernel
theorem d_Rf_sideOf_1 : decode b_Rf_sideOf 1 = .ok (.istore_n 3, 1) := by decide +kernel
theorem d_Rf_sideOf_2 : decode b_Rf_sideOf 2 = .ok (.iconst 0, 1) := by decide +kernel
theorem d_Rf_sideOf_3 : decode b_Rf_sideOf 3 = .ok (.istore 4, 2) := by decide +kernel
theorem d_Rf_sideOf_5 : decode b_Rf_sideOf 5 = .ok (.iload 4, 2) := by decide +kernel
theorem d_Rf_sideOf_7 : decode b_Rf_sideOf 7 = .ok (.aload_n 0, 1) := by decide +kernel
theorem d_Rf_sideOf_8 : decode b_Rf_sideOf 8 = .ok (.getfield 141, 3) := by decide +kernel
theorem d_Rf_sideOf_11 : decode b_Rf_sideOf 11 = .ok (.if_icmp .ge 43, 3) := by decide +kernel
theorem d_Rf_sideOf_14 : decode b_Rf_sideOf 14 = .ok (.aload_n 0, 1) := by decide +kernel
theorem d_Rf_sideOf_15 : decode b_Rf_sideOf 15 = .ok (.getfield 81, 3) := by decide +kernel
theorem d_Rf_sideOf_18 : decode b_Rf_sideOf 18 = .ok (.iload 4, 2) := by decide +kernel
theorem d_Rf_sideOf_20 : decode b_Rf_sideOf 20 = .ok (.iaload, 1) := by decide +kernel
theorem d_Rf_sideOf_21 : decode b_Rf_sideOf 21 = .ok (.iload_n 1, 1) := by decide +kernel
theorem d_Rf_sideOf_22 : decode b_Rf_sideOf 22 = .ok (.if_icmp .ne 24, 3) := by decide +kernel
theorem d_Rf_sideOf_25 : decode b_Rf_sideOf 25 = .ok (.aload_n 0, 1) := by decide +kernel
theorem d_Rf_sideOf_26 : decode b_Rf_sideOf 26 = .ok (.getfield 84, 3) := by decide +kernel
theorem d_Rf_sideOf_29 : decode b_Rf_sideOf 29 = .ok (.iload 4, 2) := by decide +kernel
theorem d_Rf_sideOf_31 : decode b_Rf_sideOf 31 = .ok (.iaload, 1) := by decide +kernel
theorem d_Rf_sideOf_32 : decode b_Rf_sideOf 32 = .ok (.iload_n 2, 1) := by decide +kernel
theorem d_Rf_sideOf_33 : decode b_Rf_sideOf 33 = .ok (.if_icmp .ne 13, 3) := by decide +kernel
theorem d_Rf_sideOf_36 : decode b_Rf_sideOf 36 = .ok (.aload_n 0, 1) := by decide +kernel
theorem d_Rf_sideOf_37 : decode b_Rf_sideOf 37 = .ok (.getfield 87, 3) := by decide +kernel
theorem d_Rf_sideOf_40 : decode b_Rf_sideOf 40 = .ok (.iload 4, 2) := by decide +kernel
theorem d_Rf_sideOf_42 : decode b_Rf_sideOf 42 = .ok (.iaload, 1) := by decide +kernel
theorem d_Rf_sideOf_43 : decode b_Rf_sideOf 43 = .ok (.goto 4, 3) := by decide +kernel
theorem d_Rf_sideOf_46 : decode b_Rf_sideOf 46 = .ok (.iload_n 3, 1) := by decide +kernel
theorem d_Rf_sideOf_47 : decode b_Rf_sideOf 47 = .ok (.istore_n 3, 1) := by decide +kernel
theorem d_Rf_sideOf_48 : decode b_Rf_sideOf 48 = .ok (.iinc 4 1, 3) := by decide +kernel
theorem d_Rf_sideOf_51 : decode b_Rf_sideOf 51 = .ok (.goto (-46), 3) := by decide +kernel
theorem d_Rf_sideOf_54 : decode b_Rf_sideOf 54 = .ok (.iload_n 3, 1) := by decide +kernel
theorem d_Rf_sideOf_55 : decode b_Rf_sideOf 55 = .ok (.ireturn, 1) := by decide +kernel
theorem d_Rf_take_0 : decode b_Rf_take 0 = .ok (.bipush 60, 2) := by decide +kernel
theorem d_Rf_take_2 : decode b_Rf_take 2 = .ok (.aload_n 0, 1) := by decide +kernel
theorem d_Rf_take_3 : decode b_Rf_take 3 = .ok (.getfield 16, 3) := by decide +kernel
theorem d_Rf_take_6 : decode b_Rf_take 6 = .ok (.imul, 1) := by decide +kernel
theorem d_Rf_take_7 : decode b_Rf_take 7 = .ok (.iload_n 2, 1) := by decide +kernel
theorem d_Rf_take_8 : decode b_Rf_take 8 = .ok (.iadd, 1) := by decide +kernel
theorem d_Rf_take_9 : decode b_Rf_take 9 = .ok (.istore 4, 2) := by decide +kernel
theorem d_Rf_take_11 : decode b_Rf_take 11 = .ok (.aload_n 0, 1) := by decide +kernel
theorem d_Rf_take_12 : decode b_Rf_take 12 = .ok (.getfield 20, 3) := by decide +kernel
theorem d_Rf_take_15 : decode b_Rf_take 15 = .ok (.iload 4, 2) := by decide +kernel
theorem d_Rf_take_17 : decode b_Rf_take 17 = .ok (.iconst 1, 1) := by decide +kernel
theorem d_Rf_take_18 : decode b_Rf_take 18 = .ok (.bastore, 1) := by decide +kernel
theorem d_Rf_take_19 : decode b_Rf_take 19 = .ok (.iconst 0, 1) := by decide +kernel
theorem d_Rf_take_20 : decode b_Rf_take 20 = .ok (.istore 5, 2) := by decide +kernel
theorem d_Rf_take_22 : decode b_Rf_take 22 = .ok (.iload 5, 2) := by decide +kernel
theorem d_Rf_take_24 : decode b_Rf_take 24 = .ok (.iconst 5, 1) := by decide +kernel
theorem d_Rf_take_25 : decode b_Rf_take 25 = .ok (.if_icmp .ge 89, 3) := by decide +kernel
theorem d_Rf_take_28 : decode b_Rf_take 28 = .ok (.aload_n 0, 1) := by decide +kernel
theorem d_Rf_take_29 : decode b_Rf_take 29 = .ok (.getfield 24, 3) := by decide +kernel
theorem d_Rf_take_32 : decode b_Rf_take 32 = .ok (.iconst 5, 1) := by decide +kernel
theorem d_Rf_take_33 : decode b_Rf_take 33 = .ok (.iload 4, 2) := by decide +kernel
theorem d_Rf_take_35 : decode b_Rf_take 35 = .ok (.imul, 1) := by decide +kernel
theorem d_Rf_take_36 : decode b_Rf_take 36 = .ok (.iload 5, 2) := by decide +kernel
theorem d_Rf_take_38 : decode b_Rf_take 38 = .ok (.iadd, 1) := by decide +kernel
theorem d_Rf_take_39 : decode b_Rf_take 39 = .ok (.iload_n 3, 1) := by decide +kernel
theorem d_Rf_take_40 : decode b_Rf_take 40 = .ok (.ifCond .eq 14, 3) := by decide +kernel
theorem d_Rf_take_43 : decode b_Rf_take 43 = .ok (.aload_n 0, 1) := by decide +kernel
theorem d_Rf_take_44 : decode b_Rf_take 44 = .ok (.iload_n 1, 1) := by decide +kernel
theorem d_Rf_take_45 : decode b_Rf_take 45 = .ok (.iload_n 2, 1) := by decide +kernel
theorem d_Rf_take_46 : decode b_Rf_take 46 = .ok (.iload 5, 2) := by decide +kernel
theorem d_Rf_take_48 : decode b_Rf_take 48 = .ok (.invokevirtual 137, 3) := by decide +kernel
theorem d_Rf_take_51 : decode b_Rf_take 51 = .ok (.goto 18, 3) := by decide +kernel
theorem d_Rf_take_54 : decode b_Rf_take 54 = .ok (.aload_n 0, 1) := by decide +kernel
theorem d_Rf_take_55 : decode b_Rf_take 55 = .ok (.getfield 24, 3) := by decide +kernel
theorem d_Rf_take_58 : decode b_Rf_take 58 = .ok (.iconst 5, 1) := by decide +kernel
theorem d_Rf_take_59 : decode b_Rf_take 59 = .ok (.aload_n 0, 1) := by decide +kernel
theorem d_Rf_take_60 : decode b_Rf_take 60 = .ok (.iload_n 2, 1) := by decide +kernel
theorem d_Rf_take_61 : decode b_Rf_take 61 = .ok (.invokevirtual 133, 3) := by decide +kernel
theorem d_Rf_take_64 : decode b_Rf_take 64 = .ok (.imul, 1) := by decide +kernel
theorem d_Rf_take_65 : decode b_Rf_take 65 = .ok (.iload 5, 2) := by decide +kernel
theorem d_Rf_take_67 : decode b_Rf_take 67 = .ok (.iadd, 1) := by decide +kernel
theorem d_Rf_take_68 : decode b_Rf_take 68 = .ok (.iaload, 1) := by decide +kernel
theorem d_Rf_take_69 : decode b_Rf_take 69 = .ok (.iastore, 1) := by decide +kernel
theorem d_Rf_take_70 : decode b_Rf_take 70 = .ok (.aload_n 0, 1) := by decide +kernel
theorem d_Rf_take_71 : decode b_Rf_take 71 = .ok (.getfield 27, 3) := by decide +kernel
theorem d_Rf_take_74 : decode b_Rf_take 74 = .ok (.iconst 5, 1) := by decide +kernel
theorem d_Rf_take_75 : decode b_Rf_take 75 = .ok (.iload 4, 2) := by decide +kernel
theorem d_Rf_take_77 : decode b_Rf_take 77 = .ok (.imul, 1) := by decide +kernel
theorem d_Rf_take_78 : decode b_Rf_take 78 = .ok (.iload 5, 2) := by decide +kernel
theorem d_Rf_take_80 : decode b_Rf_take 80 = .ok (.iadd, 1) := by decide +kernel
theorem d_Rf_take_81 : decode b_Rf_take 81 = .ok (.iload_n 3, 1) := by decide +kernel
theorem d_Rf_take_82 : decode b_Rf_take 82 = .ok (.ifCond .eq 10, 3) := by decide +kernel
theorem d_Rf_take_85 : decode b_Rf_take 85 = .ok (.aload_n 0, 1) := by decide +kernel
theorem d_Rf_take_86 : decode b_Rf_take 86 = .ok (.getfield 16, 3) := by decide +kernel
theorem d_Rf_take_89 : decode b_Rf_take 89 = .ok (.goto 18, 3) := by decide +kernel
theorem d_Rf_take_92 : decode b_Rf_take 92 = .ok (.aload_n 0, 1) := by decide +kernel
theorem d_Rf_take_93 : decode b_Rf_take 93 = .ok (.getfield 27, 3) := by decide +kernel
theorem d_Rf_take_96 : decode b_Rf_take 96 = .ok (.iconst 5, 1) := by decide +kernel
theorem d_Rf_take_97 : decode b_Rf_take 97 = .ok (.aload_n 0, 1) := by decide +kernel
theorem d_Rf_take_98 : decode b_Rf_take 98 = .ok (.iload_n 2, 1) := by decide +kernel
theorem d_Rf_take_99 : decode b_Rf_take 99 = .ok (.invokevirtual 133, 3) := by decide +kernel
theorem d_Rf_take_102 : decode b_Rf_take 102 = .ok (.imul, 1) := by decide +kernel
theorem d_Rf_take_103 : decode b_Rf_take 103 = .ok (.iload 5, 2) := by decide +kernel
theorem d_Rf_take_105 : decode b_Rf_take 105 = .ok (.iadd, 1) := by decide +kernel
theorem d_Rf_take_106 : decode b_Rf_take 106 = .ok (.iaload, 1) := by decide +kernel
theorem d_Rf_take_107 : decode b_Rf_take 107 = .ok (.iastore, 1) := by decide +kernel
theorem d_Rf_take_108 : decode b_Rf_take 108 = .ok (.iinc 5 1, 3) := by decide +kernel
theorem d_Rf_take_111 : decode b_Rf_take 111 = .ok (.goto (-89), 3) := by decide +kernel
theorem d_Rf_take_114 : decode b_Rf_take 114 = .ok (.return_, 1) := by decide +kernel
theorem d_Rf_merge_0 : decode b_Rf_merge 0 = .ok (.bipush 60, 2) := by decide +kernel
theorem d_Rf_merge_2 : decode b_Rf_merge 2 = .ok (.aload_n 0, 1) := by decide +kernel
theorem d_Rf_merge_3 : decode b_Rf_merge 3 = .ok (.getfield 36, 3) := by decide +kernel
theorem d_Rf_merge_6 : decode b_Rf_merge 6 = .ok (.iload_n 1, 1) := by decide +kernel
theorem d_Rf_merge_7 : decode b_Rf_merge 7 = .ok (.iaload, 1) := by decide +kernel
theorem d_Rf_merge_8 : decode b_Rf_merge 8 = .ok (.imul, 1) := by decide +kernel
theorem d_Rf_merge_9 : decode b_Rf_merge 9 = .ok (.iload_n 2, 1) := by decide +kernel
theorem d_Rf_merge_10 : decode b_Rf_merge 10 = .ok (.iadd, 1) := by decide +kernel
theorem d_Rf_merge_11 : decode b_Rf_merge 11 = .ok (.istore_n 3, 1) := by decide +kernel
theorem d_Rf_merge_12 : decode b_Rf_merge 12 = .ok (.bipush 60, 2) := by decide +kernel
theorem d_Rf_merge_14 : decode b_Rf_merge 14 = .ok (.aload_n 0, 1) := by decide +kernel
theorem d_Rf_merge_15 : decode b_Rf_merge 15 = .ok (.getfield 16, 3) := by decide +kernel
theorem d_Rf_merge_18 : decode b_Rf_merge 18 = .ok (.imul, 1) := by decide +kernel
theorem d_Rf_merge_19 : decode b_Rf_merge 19 = .ok (.iload_n 2, 1) := by decide +kernel
theorem d_Rf_merge_20 : decode b_Rf_merge 20 = .ok (.iadd, 1) := by decide +kernel
theorem d_Rf_merge_21 : decode b_Rf_merge 21 = .ok (.istore 4, 2) := by decide +kernel
theorem d_Rf_merge_23 : decode b_Rf_merge 23 = .ok (.aload_n 0, 1) := by decide +kernel
theorem d_Rf_merge_24 : decode b_Rf_merge 24 = .ok (.getfield 20, 3) := by decide +kernel
theorem d_Rf_merge_27 : decode b_Rf_merge 27 = .ok (.aload_n 0, 1) := by decide +kernel
theorem d_Rf_merge_28 : decode b_Rf_merge 28 = .ok (.iload_n 2, 1) := by decide +kernel
theorem d_Rf_merge_29 : decode b_Rf_merge 29 = .ok (.invokevirtual 133, 3) := by decide +kernel
theorem d_Rf_merge_32 : decode b_Rf_merge 32 = .ok (.baload, 1) := by decide +kernel
theorem d_Rf_merge_33 : decode b_Rf_merge 33 = .ok (.istore 5, 2) := by decide +kernel
theorem d_Rf_merge_35 : decode b_Rf_merge 35 = .ok (.aload_n 0, 1) := by decide +kernel
theorem d_Rf_merge_36 : decode b_Rf_merge 36 = .ok (.iload_n 1, 1) := by decide +kernel
theorem d_Rf_merge_37 : decode b_Rf_merge 37 = .ok (.iload_n 2, 1) := by decide +kernel
theorem d_Rf_merge_38 : decode b_Rf_merge 38 = .ok (.invokevirtual 123, 3) := by decide +kernel
theorem d_Rf_merge_41 : decode b_Rf_merge 41 = .ok (.istore 6, 2) := by decide +kernel
theorem d_Rf_merge_43 : decode b_Rf_merge 43 = .ok (.aload_n 0, 1) := by decide +kernel
theorem d_Rf_merge_44 : decode b_Rf_merge 44 = .ok (.getfield 20, 3) := by decide +kernel
theorem d_Rf_merge_47 : decode b_Rf_merge 47 = .ok (.iload 4, 2) := by decide +kernel
theorem d_Rf_merge_49 : decode b_Rf_merge 49 = .ok (.iconst 0, 1) := by decide +kernel
theorem d_Rf_merge_50 : decode b_Rf_merge 50 = .ok (.bastore, 1) := by decide +kernel
theorem d_Rf_merge_51 : decode b_Rf_merge 51 = .ok (.iload 5, 2) := by decide +kernel
theorem d_Rf_merge_53 : decode b_Rf_merge 53 = .ok (.ifCond .eq 8, 3) := by decide +kernel
theorem d_Rf_merge_56 : decode b_Rf_merge 56 = .ok (.iload 6, 2) := by decide +kernel
theorem d_Rf_merge_58 : decode b_Rf_merge 58 = .ok (.ifCond .ne 91, 3) := by decide +kernel
theorem d_Rf_merge_61 : decode b_Rf_merge 61 = .ok (.aload_n 0, 1) := by decide +kernel
theorem d_Rf_merge_62 : decode b_Rf_merge 62 = .ok (.iload_n 2, 1) := by decide +kernel
theorem d_Rf_merge_63 : decode b_Rf_merge 63 = .ok (.iconst (-1), 1) := by decide +kernel
theorem d_Rf_merge_64 : decode b_Rf_merge 64 = .ok (.invokevirtual 144, 3) := by decide +kernel
theorem d_Rf_merge_67 : decode b_Rf_merge 67 = .ok (.istore 7, 2) := by decide +kernel
theorem d_Rf_merge_69 : decode b_Rf_merge 69 = .ok (.aload_n 0, 1) := by decide +kernel
theorem d_Rf_merge_70 : decode b_Rf_merge 70 = .ok (.getfield 20, 3) := by decide +kernel
theorem d_Rf_merge_73 : decode b_Rf_merge 73 = .ok (.iload_n 3, 1) := by decide +kernel
theorem d_Rf_merge_74 : decode b_Rf_merge 74 = .ok (.baload, 1) := by decide +kernel
theorem d_Rf_merge_75 : decode b_Rf_merge 75 = .ok (.ifCond .eq 8, 3) := by decide +kernel
theorem d_Rf_merge_78 : decode b_Rf_merge 78 = .ok (.iload 7, 2) := by decide +kernel
theorem d_Rf_merge_80 : decode b_Rf_merge 80 = .ok (.ifCond .lt 7, 3) := by decide +kernel
theorem d_Rf_merge_83 : decode b_Rf_merge 83 = .ok (.iconst 1, 1) := by decide +kernel
theorem d_Rf_merge_84 : decode b_Rf_merge 84 = .ok (.goto 4, 3) := by decide +kernel
theorem d_Rf_merge_87 : decode b_Rf_merge 87 = .ok (.iconst 0, 1) := by decide +kernel
theorem d_Rf_merge_88 : decode b_Rf_merge 88 = .ok (.istore 8, 2) := by decide +kernel
theorem d_Rf_merge_90 : decode b_Rf_merge 90 = .ok (.aload_n 0, 1) := by decide +kernel
theorem d_Rf_merge_91 : decode b_Rf_merge 91 = .ok (.getfield 20, 3) := by decide +kernel
theorem d_Rf_merge_94 : decode b_Rf_merge 94 = .ok (.iload_n 3, 1) := by decide +kernel
theorem d_Rf_merge_95 : decode b_Rf_merge 95 = .ok (.baload, 1) := by decide +kernel
theorem d_Rf_merge_96 : decode b_Rf_merge 96 = .ok (.ifCond .eq 17, 3) := by decide +kernel
theorem d_Rf_merge_99 : decode b_Rf_merge 99 = .ok (.iload 7, 2) := by decide +kernel
theorem d_Rf_merge_101 : decode b_Rf_merge 101 = .ok (.iconst 1, 1) := by decide +kernel
theorem d_Rf_merge_102 : decode b_Rf_merge 102 = .ok (.if_icmp .ne 7, 3) := by decide +kernel
theorem d_Rf_merge_105 : decode b_Rf_merge 105 = .ok (.iconst 1, 1) := by decide +kernel
theorem d_Rf_merge_106 : decode b_Rf_merge 106 = .ok (.goto 9, 3) := by decide +kernel
theorem d_Rf_merge_109 : decode b_Rf_merge 109 = .ok (.iconst 0, 1) := by decide +kernel
theorem d_Rf_merge_110 : decode b_Rf_merge 110 = .ok (.goto 5, 3) := by decide +kernel
theorem d_Rf_merge_113 : decode b_Rf_merge 113 = .ok (.iload 6, 2) := by decide +kernel
theorem d_Rf_merge_115 : decode b_Rf_merge 115 = .ok (.istore 9, 2) := by decide +kernel
theorem d_Rf_merge_117 : decode b_Rf_merge 117 = .ok (.iload 8, 2) := by decide +kernel
theorem d_Rf_merge_119 : decode b_Rf_merge 119 = .ok (.ifCond .eq 29, 3) := by decide +kernel
theorem d_Rf_merge_122 : decode b_Rf_merge 122 = .ok (.iload 9, 2) := by decide +kernel
theorem d_Rf_merge_124 : decode b_Rf_merge 124 = .ok (.ifCond .eq 11, 3) := by decide +kernel
theorem d_Rf_merge_127 : decode b_Rf_merge 127 = .ok (.iload 6, 2) := by decide +kernel
theorem d_Rf_merge_129 : decode b_Rf_merge 129 = .ok (.ifCond .eq 19, 3) := by decide +kernel
theorem d_Rf_merge_132 : decode b_Rf_merge 132 = .ok (.goto 8, 3) := by decide +kernel
theorem d_Rf_merge_135 : decode b_Rf_merge 135 = .ok (.iload 5, 2) := by decide +kernel
theorem d_Rf_merge_137 : decode b_Rf_merge 137 = .ok (.ifCond .eq 11, 3) := by decide +kernel
theorem d_Rf_merge_140 : decode b_Rf_merge 140 = .ok (.aload_n 0, 1) := by decide +kernel
theorem d_Rf_merge_141 : decode b_Rf_merge 141 = .ok (.iload_n 1, 1) := by decide +kernel
theorem d_Rf_merge_142 : decode b_Rf_merge 142 = .ok (.iload_n 2, 1) := by decide +kernel
theorem d_Rf_merge_143 : decode b_Rf_merge 143 = .ok (.iload 9, 2) := by decide +kernel
theorem d_Rf_merge_145 : decode b_Rf_merge 145 = .ok (.invokevirtual 147, 3) := by decide +kernel
theorem d_Rf_merge_148 : decode b_Rf_merge 148 = .ok (.return_, 1) := by decide +kernel
theorem d_Rf_merge_149 : decode b_Rf_merge 149 = .ok (.aload_n 0, 1) := by decide +kernel
theorem d_Rf_merge_150 : decode b_Rf_merge 150 = .ok (.getfield 20, 3) := by decide +kernel
theorem d_Rf_merge_153 : decode b_Rf_merge 153 = .ok (.iload 4, 2) := by decide +kernel
theorem d_Rf_merge_155 : decode b_Rf_merge 155 = .ok (.iconst 1, 1) := by decide +kernel
theorem d_Rf_merge_156 : decode b_Rf_merge 156 = .ok (.bastore, 1) := by decide +kernel
theorem d_Rf_merge_157 : decode b_Rf_merge 157 = .ok (.iconst 0, 1) := by decide +kernel
theorem d_Rf_merge_158 : decode b_Rf_merge 158 = .ok (.istore 7, 2) := by decide +kernel
theorem d_Rf_merge_160 : decode b_Rf_merge 160 = .ok (.iload 7, 2) := by decide +kernel
theorem d_Rf_merge_162 : decode b_Rf_merge 162 = .ok (.iconst 5, 1) := by decide +kernel
theorem d_Rf_merge_163 : decode b_Rf_merge 163 = .ok (.if_icmp .ge 157, 3) := by decide +kernel
theorem d_Rf_merge_166 : decode b_Rf_merge 166 = .ok (.aload_n 0, 1) := by decide +kernel
theorem d_Rf_merge_167 : decode b_Rf_merge 167 = .ok (.iload_n 2, 1) := by decide +kernel
theorem d_Rf_merge_168 : decode b_Rf_merge 168 = .ok (.iload 7, 2) := by decide +kernel
theorem d_Rf_merge_170 : decode b_Rf_merge 170 = .ok (.invokevirtual 144, 3) := by decide +kernel
theorem d_Rf_merge_173 : decode b_Rf_merge 173 = .ok (.istore 8, 2) := by decide +kernel
theorem d_Rf_merge_175 : decode b_Rf_merge 175 = .ok (.aload_n 0, 1) := by decide +kernel
theorem d_Rf_merge_176 : decode b_Rf_merge 176 = .ok (.getfield 24, 3) := by decide +kernel
theorem d_Rf_merge_179 : decode b_Rf_merge 179 = .ok (.iconst 5, 1) := by decide +kernel
theorem d_Rf_merge_180 : decode b_Rf_merge 180 = .ok (.aload_n 0, 1) := by decide +kernel
theorem d_Rf_merge_181 : decode b_Rf_merge 181 = .ok (.iload_n 2, 1) := by decide +kernel
theorem d_Rf_merge_182 : decode b_Rf_merge 182 = .ok (.invokevirtual 133, 3) := by decide +kernel
theorem d_Rf_merge_185 : decode b_Rf_merge 185 = .ok (.imul, 1) := by decide +kernel
theorem d_Rf_merge_186 : decode b_Rf_merge 186 = .ok (.iload 7, 2) := by decide +kernel
theorem d_Rf_merge_188 : decode b_Rf_merge 188 = .ok (.iadd, 1) := by decide +kernel
theorem d_Rf_merge_189 : decode b_Rf_merge 189 = .ok (.iaload, 1) := by decide +kernel
theorem d_Rf_merge_190 : decode b_Rf_merge 190 = .ok (.istore 9, 2) := by decide +kernel
theorem d_Rf_merge_192 : decode b_Rf_merge 192 = .ok (.aload_n 0, 1) := by decide +kernel
theorem d_Rf_merge_193 : decode b_Rf_merge 193 = .ok (.iload_n 1, 1) := by decide +kernel
theorem d_Rf_merge_194 : decode b_Rf_merge 194 = .ok (.iload_n 2, 1) := by decide +kernel
theorem d_Rf_merge_195 : decode b_Rf_merge 195 = .ok (.iload 7, 2) := by decide +kernel
theorem d_Rf_merge_197 : decode b_Rf_merge 197 = .ok (.invokevirtual 137, 3) := by decide +kernel
theorem d_Rf_merge_200 : decode b_Rf_merge 200 = .ok (.istore 10, 2) := by decide +kernel
theorem d_Rf_merge_202 : decode b_Rf_merge 202 = .ok (.iload 8, 2) := by decide +kernel
theorem d_Rf_merge_204 : decode b_Rf_merge 204 = .ok (.ifCond .ge 27, 3) := by decide +kernel
theorem d_Rf_merge_207 : decode b_Rf_merge 207 = .ok (.iload 10, 2) := by decide +kernel
theorem d_Rf_merge_209 : decode b_Rf_merge 209 = .ok (.aload_n 0, 1) := by decide +kernel
theorem d_Rf_merge_210 : decode b_Rf_merge 210 = .ok (.getfield 24, 3) := by decide +kernel
theorem d_Rf_merge_213 : decode b_Rf_merge 213 = .ok (.iconst 5, 1) := by decide +kernel
theorem d_Rf_merge_214 : decode b_Rf_merge 214 = .ok (.iload_n 3, 1) := by decide +kernel
theorem d_Rf_merge_215 : decode b_Rf_merge 215 = .ok (.imul, 1) := by decide +kernel
theorem d_Rf_merge_216 : decode b_Rf_merge 216 = .ok (.iload 7, 2) := by decide +kernel
theorem d_Rf_merge_218 : decode b_Rf_merge 218 = .ok (.iadd, 1) := by decide +kernel
theorem d_Rf_merge_219 : decode b_Rf_merge 219 = .ok (.iaload, 1) := by decide +kernel
theorem d_Rf_merge_220 : decode b_Rf_merge 220 = .ok (.if_icmp .eq 7, 3) := by decide +kernel
theorem d_Rf_merge_223 : decode b_Rf_merge 223 = .ok (.iconst 1, 1) := by decide +kernel
theorem d_Rf_merge_224 : decode b_Rf_merge 224 = .ok (.goto 18, 3) := by decide +kernel
theorem d_Rf_merge_227 : decode b_Rf_merge 227 = .ok (.iconst 0, 1) := by decide +kernel
theorem d_Rf_merge_228 : decode b_Rf_merge 228 = .ok (.goto 14, 3) := by decide +kernel
theorem d_Rf_merge_231 : decode b_Rf_merge 231 = .ok (.iload 8, 2) := by decide +kernel
theorem d_Rf_merge_233 : decode b_Rf_merge 233 = .ok (.iconst 1, 1) := by decide +kernel
theorem d_Rf_merge_234 : decode b_Rf_merge 234 = .ok (.if_icmp .ne 7, 3) := by decide +kernel
theorem d_Rf_merge_237 : decode b_Rf_merge 237 = .ok (.iconst 1, 1) := by decide +kernel
theorem d_Rf_merge_238 : decode b_Rf_merge 238 = .ok (.goto 4, 3) := by decide +kernel
theorem d_Rf_merge_241 : decode b_Rf_merge 241 = .ok (.iconst 0, 1) := by decide +kernel
theorem d_Rf_merge_242 : decode b_Rf_merge 242 = .ok (.istore 11, 2) := by decide +kernel
theorem d_Rf_merge_244 : decode b_Rf_merge 244 = .ok (.aload_n 0, 1) := by decide +kernel
theorem d_Rf_merge_245 : decode b_Rf_merge 245 = .ok (.getfield 24, 3) := by decide +kernel
theorem d_Rf_merge_248 : decode b_Rf_merge 248 = .ok (.iconst 5, 1) := by decide +kernel
theorem d_Rf_merge_249 : decode b_Rf_merge 249 = .ok (.iload 4, 2) := by decide +kernel
theorem d_Rf_merge_251 : decode b_Rf_merge 251 = .ok (.imul, 1) := by decide +kernel
theorem d_Rf_merge_252 : decode b_Rf_merge 252 = .ok (.iload 7, 2) := by decide +kernel
theorem d_Rf_merge_254 : decode b_Rf_merge 254 = .ok (.iadd, 1) := by decide +kernel
theorem d_Rf_merge_255 : decode b_Rf_merge 255 = .ok (.iload 11, 2) := by decide +kernel
theorem d_Rf_merge_257 : decode b_Rf_merge 257 = .ok (.ifCond .eq 8, 3) := by decide +kernel
theorem d_Rf_merge_260 : decode b_Rf_merge 260 = .ok (.iload 10, 2) := by decide +kernel
theorem d_Rf_merge_262 : decode b_Rf_merge 262 = .ok (.goto 5, 3) := by decide +kernel
theorem d_Rf_merge_265 : decode b_Rf_merge 265 = .ok (.iload 9, 2) := by decide +kernel
theorem d_Rf_merge_267 : decode b_Rf_merge 267 = .ok (.iastore, 1) := by decide +kernel
theorem d_Rf_merge_268 : decode b_Rf_merge 268 = .ok (.aload_n 0, 1) := by decide +kernel
theorem d_Rf_merge_269 : decode b_Rf_merge 269 = .ok (.getfield 27, 3) := by decide +kernel
theorem d_Rf_merge_272 : decode b_Rf_merge 272 = .ok (.iconst 5, 1) := by decide +kernel
theorem d_Rf_merge_273 : decode b_Rf_merge 273 = .ok (.iload 4, 2) := by decide +kernel
theorem d_Rf_merge_275 : decode b_Rf_merge 275 = .ok (.imul, 1) := by decide +kernel
theorem d_Rf_merge_276 : decode b_Rf_merge 276 = .ok (.iload 7, 2) := by decide +kernel
theorem d_Rf_merge_278 : decode b_Rf_merge 278 = .ok (.iadd, 1) := by decide +kernel
theorem d_Rf_merge_279 : decode b_Rf_merge 279 = .ok (.iload 11, 2) := by decide +kernel
theorem d_Rf_merge_281 : decode b_Rf_merge 281 = .ok (.ifCond .eq 17, 3) := by decide +kernel
theorem d_Rf_merge_284 : decode b_Rf_merge 284 = .ok (.iload 10, 2) := by decide +kernel
theorem d_Rf_merge_286 : decode b_Rf_merge 286 = .ok (.iload 9, 2) := by decide +kernel
theorem d_Rf_merge_288 : decode b_Rf_merge 288 = .ok (.if_icmp .eq 10, 3) := by decide +kernel
theorem d_Rf_merge_291 : decode b_Rf_merge 291 = .ok (.aload_n 0, 1) := by decide +kernel
theorem d_Rf_merge_292 : decode b_Rf_merge 292 = .ok (.getfield 16, 3) := by decide +kernel
theorem d_Rf_merge_295 : decode b_Rf_merge 295 = .ok (.goto 18, 3) := by decide +kernel
theorem d_Rf_merge_298 : decode b_Rf_merge 298 = .ok (.aload_n 0, 1) := by decide +kernel
theorem d_Rf_merge_299 : decode b_Rf_merge 299 = .ok (.getfield 27, 3) := by decide +kernel
theorem d_Rf_merge_302 : decode b_Rf_merge 302 = .ok (.iconst 5, 1) := by decide +kernel
theorem d_Rf_merge_303 : decode b_Rf_merge 303 = .ok (.aload_n 0, 1) := by decide +kernel
theorem d_Rf_merge_304 : decode b_Rf_merge 304 = .ok (.iload_n 2, 1) := by decide +kernel
theorem d_Rf_merge_305 : decode b_Rf_merge 305 = .ok (.invokevirtual 133, 3) := by decide +kernel
theorem d_Rf_merge_308 : decode b_Rf_merge 308 = .ok (.imul, 1) := by decide +kernel
theorem d_Rf_merge_309 : decode b_Rf_merge 309 = .ok (.iload 7, 2) := by decide +kernel
theorem d_Rf_merge_311 : decode b_Rf_merge 311 = .ok (.iadd, 1) := by decide +kernel
theorem d_Rf_merge_312 : decode b_Rf_merge 312 = .ok (.iaload, 1) := by decide +kernel
theorem d_Rf_merge_313 : decode b_Rf_merge 313 = .ok (.iastore, 1) := by decide +kernel
theorem d_Rf_merge_314 : decode b_Rf_merge 314 = .ok (.iinc 7 1, 3) := by decide +kernel
theorem d_Rf_merge_317 : decode b_Rf_merge 317 = .ok (.goto (-157), 3) := by decide +kernel
theorem d_Rf_merge_320 : decode b_Rf_merge 320 = .ok (.return_, 1) := by decide +kernel
theorem d_Rf_finish_0 : decode b_Rf_finish 0 = .ok (.iconst 0, 1) := by decide +kernel
theorem d_Rf_finish_1 : decode b_Rf_finish 1 = .ok (.istore_n 2, 1) := by decide +kernel
theorem d_Rf_finish_2 : decode b_Rf_finish 2 = .ok (.iload_n 2, 1) := by decide +kernel
theorem d_Rf_finish_3 : decode b_Rf_finish 3 = .ok (.bipush 60, 2) := by decide +kernel
theorem d_Rf_finish_5 : decode b_Rf_finish 5 = .ok (.if_icmp .ge 24, 3) := by decide +kernel
theorem d_Rf_finish_8 : decode b_Rf_finish 8 = .ok (.aload_n 0, 1) := by decide +kernel
theorem d_Rf_finish_9 : decode b_Rf_finish 9 = .ok (.getfield 20, 3) := by decide +kernel
theorem d_Rf_finish_12 : decode b_Rf_finish 12 = .ok (.bipush 60, 2) := by decide +kernel
theorem d_Rf_finish_14 : decode b_Rf_finish 14 = .ok (.aload_n 0, 1) := by decide +kernel
theorem d_Rf_finish_15 : decode b_Rf_finish 15 = .ok (.getfield 16, 3) := by decide +kernel
theorem d_Rf_finish_18 : decode b_Rf_finish 18 = .ok (.imul, 1) := by decide +kernel
theorem d_Rf_finish_19 : decode b_Rf_finish 19 = .ok (.iload_n 2, 1) := by decide +kernel
theorem d_Rf_finish_20 : decode b_Rf_finish 20 = .ok (.iadd, 1) := by decide +kernel
theorem d_Rf_finish_21 : decode b_Rf_finish 21 = .ok (.iconst 0, 1) := by decide +kernel
theorem d_Rf_finish_22 : decode b_Rf_finish 22 = .ok (.bastore, 1) := by decide +kernel
theorem d_Rf_finish_23 : decode b_Rf_finish 23 = .ok (.iinc 2 1, 3) := by decide +kernel
theorem d_Rf_finish_26 : decode b_Rf_finish 26 = .ok (.goto (-24), 3) := by decide +kernel
theorem d_Rf_finish_29 : decode b_Rf_finish 29 = .ok (.iconst 0, 1) := by decide +kernel
theorem d_Rf_finish_30 : decode b_Rf_finish 30 = .ok (.istore_n 2, 1) := by decide +kernel
theorem d_Rf_finish_31 : decode b_Rf_finish 31 = .ok (.iload_n 2, 1) := by decide +kernel
theorem d_Rf_finish_32 : decode b_Rf_finish 32 = .ok (.aload_n 0, 1) := by decide +kernel
theorem d_Rf_finish_33 : decode b_Rf_finish 33 = .ok (.getfield 116, 3) := by decide +kernel
theorem d_Rf_finish_36 : decode b_Rf_finish 36 = .ok (.if_icmp .ge 15, 3) := by decide +kernel
theorem d_Rf_finish_39 : decode b_Rf_finish 39 = .ok (.aload_n 0, 1) := by decide +kernel
theorem d_Rf_finish_40 : decode b_Rf_finish 40 = .ok (.iload_n 1, 1) := by decide +kernel
theorem d_Rf_finish_41 : decode b_Rf_finish 41 = .ok (.iload_n 2, 1) := by decide +kernel
theorem d_Rf_finish_42 : decode b_Rf_finish 42 = .ok (.invokevirtual 151, 3) := by decide +kernel
theorem d_Rf_finish_45 : decode b_Rf_finish 45 = .ok (.iinc 2 1, 3) := by decide +kernel
theorem d_Rf_finish_48 : decode b_Rf_finish 48 = .ok (.goto (-17), 3) := by decide +kernel
theorem d_Rf_finish_51 : decode b_Rf_finish 51 = .ok (.aload_n 0, 1) := by decide +kernel
theorem d_Rf_finish_52 : decode b_Rf_finish 52 = .ok (.getfield 30, 3) := by decide +kernel
theorem d_Rf_finish_55 : decode b_Rf_finish 55 = .ok (.aload_n 0, 1) := by decide +kernel
theorem d_Rf_finish_56 : decode b_Rf_finish 56 = .ok (.getfield 16, 3) := by decide +kernel
theorem d_Rf_finish_59 : decode b_Rf_finish 59 = .ok (.iload_n 1, 1) := by decide +kernel
theorem d_Rf_finish_60 : decode b_Rf_finish 60 = .ok (.iastore, 1) := by decide +kernel
theorem d_Rf_finish_61 : decode b_Rf_finish 61 = .ok (.aload_n 0, 1) := by decide +kernel
theorem d_Rf_finish_62 : decode b_Rf_finish 62 = .ok (.getfield 48, 3) := by decide +kernel
theorem d_Rf_finish_65 : decode b_Rf_finish 65 = .ok (.iload_n 1, 1) := by decide +kernel
theorem d_Rf_finish_66 : decode b_Rf_finish 66 = .ok (.aload_n 0, 1) := by decide +kernel
theorem d_Rf_finish_67 : decode b_Rf_finish 67 = .ok (.getfield 16, 3) := by decide +kernel
theorem d_Rf_finish_70 : decode b_Rf_finish 70 = .ok (.iastore, 1) := by decide +kernel
theorem d_Rf_finish_71 : decode b_Rf_finish 71 = .ok (.aload_n 0, 1) := by decide +kernel
theorem d_Rf_finish_72 : decode b_Rf_finish 72 = .ok (.getfield 45, 3) := by decide +kernel
theorem d_Rf_finish_75 : decode b_Rf_finish 75 = .ok (.iload_n 1, 1) := by decide +kernel
theorem d_Rf_finish_76 : decode b_Rf_finish 76 = .ok (.iconst 2, 1) := by decide +kernel
theorem d_Rf_finish_77 : decode b_Rf_finish 77 = .ok (.iastore, 1) := by decide +kernel
theorem d_Rf_finish_78 : decode b_Rf_finish 78 = .ok (.aload_n 0, 1) := by decide +kernel
theorem d_Rf_finish_79 : decode b_Rf_finish 79 = .ok (.dup, 1) := by decide +kernel
theorem d_Rf_finish_80 : decode b_Rf_finish 80 = .ok (.getfield 16, 3) := by decide +kernel
theorem d_Rf_finish_83 : decode b_Rf_finish 83 = .ok (.iconst 1, 1) := by decide +kernel
theorem d_Rf_finish_84 : decode b_Rf_finish 84 = .ok (.iadd, 1) := by decide +kernel
theorem d_Rf_finish_85 : decode b_Rf_finish 85 = .ok (.putfield 16, 3) := by decide +kernel
theorem d_Rf_finish_88 : decode b_Rf_finish 88 = .ok (.aload_n 0, 1) := by decide +kernel
theorem d_Rf_finish_89 : decode b_Rf_finish 89 = .ok (.iconst (-1), 1) := by decide +kernel
theorem d_Rf_finish_90 : decode b_Rf_finish 90 = .ok (.putfield 78, 3) := by decide +kernel
theorem d_Rf_finish_93 : decode b_Rf_finish 93 = .ok (.return_, 1) := by decide +kernel
theorem d_Rf_join_0 : decode b_Rf_join 0 = .ok (.aload_n 0, 1) := by decide +kernel
theorem d_Rf_join_1 : decode b_Rf_join 1 = .ok (.iload_n 1, 1) := by decide +kernel
theorem d_Rf_join_2 : decode b_Rf_join 2 = .ok (.aload_n 0, 1) := by decide +kernel
theorem d_Rf_join_3 : decode b_Rf_join 3 = .ok (.getfield 105, 3) := by decide +kernel
theorem d_Rf_join_6 : decode b_Rf_join 6 = .ok (.invokestatic 101, 3) := by decide +kernel
theorem d_Rf_join_9 : decode b_Rf_join 9 = .ok (.aload_n 0, 1) := by decide +kernel
theorem d_Rf_join_10 : decode b_Rf_join 10 = .ok (.iload_n 1, 1) := by decide +kernel
theorem d_Rf_join_11 : decode b_Rf_join 11 = .ok (.invokevirtual 112, 3) := by decide +kernel
theorem d_Rf_join_14 : decode b_Rf_join 14 = .ok (.invokevirtual 108, 3) := by decide +kernel
theorem d_Rf_join_17 : decode b_Rf_join 17 = .ok (.ifCond .ne 5, 3) := by decide +kernel
theorem d_Rf_join_20 : decode b_Rf_join 20 = .ok (.iconst 0, 1) := by decide +kernel
theorem d_Rf_join_21 : decode b_Rf_join 21 = .ok (.ireturn, 1) := by decide +kernel
theorem d_Rf_join_22 : decode b_Rf_join 22 = .ok (.aload_n 0, 1) := by decide +kernel
theorem d_Rf_join_23 : decode b_Rf_join 23 = .ok (.getfield 78, 3) := by decide +kernel
theorem d_Rf_join_26 : decode b_Rf_join 26 = .ok (.ifCond .ge 12, 3) := by decide +kernel
theorem d_Rf_join_29 : decode b_Rf_join 29 = .ok (.aload_n 0, 1) := by decide +kernel
theorem d_Rf_join_30 : decode b_Rf_join 30 = .ok (.getfield 16, 3) := by decide +kernel
theorem d_Rf_join_33 : decode b_Rf_join 33 = .ok (.bipush 40, 2) := by decide +kernel
theorem d_Rf_join_35 : decode b_Rf_join 35 = .ok (.if_icmp .ne 18, 3) := by decide +kernel
theorem d_Rf_join_38 : decode b_Rf_join 38 = .ok (.aload_n 0, 1) := by decide +kernel
theorem d_Rf_join_39 : decode b_Rf_join 39 = .ok (.getfield 78, 3) := by decide +kernel
theorem d_Rf_join_42 : decode b_Rf_join 42 = .ok (.ifCond .lt 8, 3) := by decide +kernel
theorem d_Rf_join_45 : decode b_Rf_join 45 = .ok (.bipush (-5), 2) := by decide +kernel
theorem d_Rf_join_47 : decode b_Rf_join 47 = .ok (.goto 5, 3) := by decide +kernel
theorem d_Rf_join_50 : decode b_Rf_join 50 = .ok (.bipush (-4), 2) := by decide +kernel
theorem d_Rf_join_52 : decode b_Rf_join 52 = .ok (.ireturn, 1) := by decide +kernel
theorem d_Rf_join_53 : decode b_Rf_join 53 = .ok (.aload_n 0, 1) := by decide +kernel
theorem d_Rf_join_54 : decode b_Rf_join 54 = .ok (.iconst 0, 1) := by decide +kernel
theorem d_Rf_join_55 : decode b_Rf_join 55 = .ok (.putfield 141, 3) := by decide +kernel
theorem d_Rf_join_58 : decode b_Rf_join 58 = .ok (.iconst 0, 1) := by decide +kernel
theorem d_Rf_join_59 : decode b_Rf_join 59 = .ok (.istore_n 2, 1) := by decide +kernel
theorem d_Rf_join_60 : decode b_Rf_join 60 = .ok (.iload_n 2, 1) := by decide +kernel
theorem d_Rf_join_61 : decode b_Rf_join 61 = .ok (.aload_n 0, 1) := by decide +kernel
theorem d_Rf_join_62 : decode b_Rf_join 62 = .ok (.getfield 116, 3) := by decide +kernel
theorem d_Rf_join_65 : decode b_Rf_join 65 = .ok (.if_icmp .ge 15, 3) := by decide +kernel
theorem d_Rf_join_68 : decode b_Rf_join 68 = .ok (.aload_n 0, 1) := by decide +kernel
theorem d_Rf_join_69 : decode b_Rf_join 69 = .ok (.iload_n 1, 1) := by decide +kernel
theorem d_Rf_join_70 : decode b_Rf_join 70 = .ok (.iload_n 2, 1) := by decide +kernel
theorem d_Rf_join_71 : decode b_Rf_join 71 = .ok (.invokevirtual 155, 3) := by decide +kernel
theorem d_Rf_join_74 : decode b_Rf_join 74 = .ok (.iinc 2 1, 3) := by decide +kernel
theorem d_Rf_join_77 : decode b_Rf_join 77 = .ok (.goto (-17), 3) := by decide +kernel
theorem d_Rf_join_80 : decode b_Rf_join 80 = .ok (.aload_n 0, 1) := by decide +kernel
theorem d_Rf_join_81 : decode b_Rf_join 81 = .ok (.getfield 141, 3) := by decide +kernel
theorem d_Rf_join_84 : decode b_Rf_join 84 = .ok (.ifCond .ne 10, 3) := by decide +kernel
theorem d_Rf_join_87 : decode b_Rf_join 87 = .ok (.aload_n 0, 1) := by decide +kernel
theorem d_Rf_join_88 : decode b_Rf_join 88 = .ok (.iload_n 1, 1) := by decide +kernel
theorem d_Rf_join_89 : decode b_Rf_join 89 = .ok (.invokevirtual 158, 3) := by decide +kernel
theorem d_Rf_join_92 : decode b_Rf_join 92 = .ok (.iconst 0, 1) := by decide +kernel
theorem d_Rf_join_93 : decode b_Rf_join 93 = .ok (.ireturn, 1) := by decide +kernel
theorem d_Rf_join_94 : decode b_Rf_join 94 = .ok (.aload_n 0, 1) := by decide +kernel
theorem d_Rf_join_95 : decode b_Rf_join 95 = .ok (.getfield 45, 3) := by decide +kernel
theorem d_Rf_join_98 : decode b_Rf_join 98 = .ok (.iload_n 1, 1) := by decide +kernel
theorem d_Rf_join_99 : decode b_Rf_join 99 = .ok (.iconst 1, 1) := by decide +kernel
theorem d_Rf_join_100 : decode b_Rf_join 100 = .ok (.iastore, 1) := by decide +kernel
theorem d_Rf_join_101 : decode b_Rf_join 101 = .ok (.aload_n 0, 1) := by decide +kernel
theorem d_Rf_join_102 : decode b_Rf_join 102 = .ok (.iload_n 1, 1) := by decide +kernel
theorem d_Rf_join_103 : decode b_Rf_join 103 = .ok (.putfield 78, 3) := by decide +kernel
theorem d_Rf_join_106 : decode b_Rf_join 106 = .ok (.aload_n 0, 1) := by decide +kernel
theorem d_Rf_join_107 : decode b_Rf_join 107 = .ok (.getfield 141, 3) := by decide +kernel
theorem d_Rf_join_110 : decode b_Rf_join 110 = .ok (.ireturn, 1) := by decide +kernel
theorem d_Rf_conflict_0 : decode b_Rf_conflict 0 = .ok (.aload_n 0, 1) := by decide +kernel
theorem d_Rf_conflict_1 : decode b_Rf_conflict 1 = .ok (.iload_n 1, 1) := by decide +kernel
theorem d_Rf_conflict_2 : decode b_Rf_conflict 2 = .ok (.ifCond .lt 30, 3) := by decide +kernel
theorem d_Rf_conflict_5 : decode b_Rf_conflict 5 = .ok (.aload_n 0, 1) := by decide +kernel
theorem d_Rf_conflict_6 : decode b_Rf_conflict 6 = .ok (.getfield 78, 3) := by decide +kernel
theorem d_Rf_conflict_9 : decode b_Rf_conflict 9 = .ok (.ifCond .lt 11, 3) := by decide +kernel
theorem d_Rf_conflict_12 : decode b_Rf_conflict 12 = .ok (.iload_n 1, 1) := by decide +kernel
theorem d_Rf_conflict_13 : decode b_Rf_conflict 13 = .ok (.aload_n 0, 1) := by decide +kernel
theorem d_Rf_conflict_14 : decode b_Rf_conflict 14 = .ok (.getfield 141, 3) := by decide +kernel
theorem d_Rf_conflict_17 : decode b_Rf_conflict 17 = .ok (.if_icmp .ge 15, 3) := by decide +kernel
theorem d_Rf_conflict_20 : decode b_Rf_conflict 20 = .ok (.iload_n 2, 1) := by decide +kernel
theorem d_Rf_conflict_21 : decode b_Rf_conflict 21 = .ok (.iconst 5, 1) := by decide +kernel
theorem d_Rf_conflict_22 : decode b_Rf_conflict 22 = .ok (.invokestatic 101, 3) := by decide +kernel
theorem d_Rf_conflict_25 : decode b_Rf_conflict 25 = .ok (.ifCond .eq 7, 3) := by decide +kernel
theorem d_Rf_conflict_28 : decode b_Rf_conflict 28 = .ok (.iconst 1, 1) := by decide +kernel
theorem d_Rf_conflict_29 : decode b_Rf_conflict 29 = .ok (.goto 4, 3) := by decide +kernel
theorem d_Rf_conflict_32 : decode b_Rf_conflict 32 = .ok (.iconst 0, 1) := by decide +kernel
theorem d_Rf_conflict_33 : decode b_Rf_conflict 33 = .ok (.aload_n 0, 1) := by decide +kernel
theorem d_Rf_conflict_34 : decode b_Rf_conflict 34 = .ok (.getfield 78, 3) := by decide +kernel
theorem d_Rf_conflict_37 : decode b_Rf_conflict 37 = .ok (.ifCond .lt 7, 3) := by decide +kernel
theorem d_Rf_conflict_40 : decode b_Rf_conflict 40 = .ok (.iconst 1, 1) := by decide +kernel
theorem d_Rf_conflict_41 : decode b_Rf_conflict 41 = .ok (.goto 4, 3) := by decide +kernel
theorem d_Rf_conflict_44 : decode b_Rf_conflict 44 = .ok (.iconst 0, 1) := by decide +kernel
theorem d_Rf_conflict_45 : decode b_Rf_conflict 45 = .ok (.invokevirtual 108, 3) := by decide +kernel
theorem d_Rf_conflict_48 : decode b_Rf_conflict 48 = .ok (.ifCond .ne 5, 3) := by decide +kernel
theorem d_Rf_conflict_51 : decode b_Rf_conflict 51 = .ok (.iconst 0, 1) := by decide +kernel
theorem d_Rf_conflict_52 : decode b_Rf_conflict 52 = .ok (.ireturn, 1) := by decide +kernel
theorem d_Rf_conflict_53 : decode b_Rf_conflict 53 = .ok (.aload_n 0, 1) := by decide +kernel
theorem d_Rf_conflict_54 : decode b_Rf_conflict 54 = .ok (.getfield 81, 3) := by decide +kernel
theorem d_Rf_conflict_57 : decode b_Rf_conflict 57 = .ok (.iload_n 1, 1) := by decide +kernel
theorem d_Rf_conflict_58 : decode b_Rf_conflict 58 = .ok (.iaload, 1) := by decide +kernel
theorem d_Rf_conflict_59 : decode b_Rf_conflict 59 = .ok (.istore_n 3, 1) := by decide +kernel
theorem d_Rf_conflict_60 : decode b_Rf_conflict 60 = .ok (.aload_n 0, 1) := by decide +kernel
theorem d_Rf_conflict_61 : decode b_Rf_conflict 61 = .ok (.getfield 84, 3) := by decide +kernel
theorem d_Rf_conflict_64 : decode b_Rf_conflict 64 = .ok (.iload_n 1, 1) := by decide +kernel
theorem d_Rf_conflict_65 : decode b_Rf_conflict 65 = .ok (.iaload, 1) := by decide +kernel
theorem d_Rf_conflict_66 : decode b_Rf_conflict 66 = .ok (.istore 4, 2) := by decide +kernel
theorem d_Rf_conflict_68 : decode b_Rf_conflict 68 = .ok (.iload 4, 2) := by decide +kernel
theorem d_Rf_conflict_70 : decode b_Rf_conflict 70 = .ok (.ifCond .ge 7, 3) := by decide +kernel
theorem d_Rf_conflict_73 : decode b_Rf_conflict 73 = .ok (.iconst 1, 1) := by decide +kernel
theorem d_Rf_conflict_74 : decode b_Rf_conflict 74 = .ok (.goto 4, 3) := by decide +kernel
theorem d_Rf_conflict_77 : decode b_Rf_conflict 77 = .ok (.iconst 0, 1) := by decide +kernel
theorem d_Rf_conflict_78 : decode b_Rf_conflict 78 = .ok (.istore 5, 2) := by decide +kernel
theorem d_Rf_conflict_80 : decode b_Rf_conflict 80 = .ok (.iload_n 2, 1) := by decide +kernel
theorem d_Rf_conflict_81 : decode b_Rf_conflict 81 = .ok (.tableswitch 115 0 3 #[31, 33, 36, 78], 31) := by decide +kernel
theorem d_Rf_conflict_112 : decode b_Rf_conflict 112 = .ok (.iload_n 3, 1) := by decide +kernel
theorem d_Rf_conflict_113 : decode b_Rf_conflict 113 = .ok (.ireturn, 1) := by decide +kernel
theorem d_Rf_conflict_114 : decode b_Rf_conflict 114 = .ok (.iload 4, 2) := by decide +kernel
theorem d_Rf_conflict_116 : decode b_Rf_conflict 116 = .ok (.ireturn, 1) := by decide +kernel
theorem d_Rf_conflict_117 : decode b_Rf_conflict 117 = .ok (.iload 5, 2) := by decide +kernel
theorem d_Rf_conflict_119 : decode b_Rf_conflict 119 = .ok (.ifCond .eq 24, 3) := by decide +kernel
theorem d_Rf_conflict_122 : decode b_Rf_conflict 122 = .ok (.aload_n 0, 1) := by decide +kernel
theorem d_Rf_conflict_123 : decode b_Rf_conflict 123 = .ok (.getfield 20, 3) := by decide +kernel
theorem d_Rf_conflict_126 : decode b_Rf_conflict 126 = .ok (.aload_n 0, 1) := by decide +kernel
theorem d_Rf_conflict_127 : decode b_Rf_conflict 127 = .ok (.iload_n 3, 1) := by decide +kernel
theorem d_Rf_conflict_128 : decode b_Rf_conflict 128 = .ok (.invokevirtual 133, 3) := by decide +kernel
theorem d_Rf_conflict_131 : decode b_Rf_conflict 131 = .ok (.baload, 1) := by decide +kernel
theorem d_Rf_conflict_132 : decode b_Rf_conflict 132 = .ok (.ifCond .eq 7, 3) := by decide +kernel
theorem d_Rf_conflict_135 : decode b_Rf_conflict 135 = .ok (.iconst 1, 1) := by decide +kernel
theorem d_Rf_conflict_136 : decode b_Rf_conflict 136 = .ok (.goto 22, 3) := by decide +kernel
theorem d_Rf_conflict_139 : decode b_Rf_conflict 139 = .ok (.iconst 0, 1) := by decide +kernel
theorem d_Rf_conflict_140 : decode b_Rf_conflict 140 = .ok (.goto 18, 3) := by decide +kernel
theorem d_Rf_conflict_143 : decode b_Rf_conflict 143 = .ok (.aload_n 0, 1) := by decide +kernel
theorem d_Rf_conflict_144 : decode b_Rf_conflict 144 = .ok (.getfield 24, 3) := by decide +kernel
theorem d_Rf_conflict_147 : decode b_Rf_conflict 147 = .ok (.iconst 5, 1) := by decide +kernel
theorem d_Rf_conflict_148 : decode b_Rf_conflict 148 = .ok (.aload_n 0, 1) := by decide +kernel
theorem d_Rf_conflict_149 : decode b_Rf_conflict 149 = .ok (.iload_n 3, 1) := by decide +kernel
theorem d_Rf_conflict_150 : decode b_Rf_conflict 150 = .ok (.invokevirtual 133, 3) := by decide +kernel
theorem d_Rf_conflict_153 : decode b_Rf_conflict 153 = .ok (.imul, 1) := by decide +kernel
theorem d_Rf_conflict_154 : decode b_Rf_conflict 154 = .ok (.iload 4, 2) := by decide +kernel
theorem d_Rf_conflict_156 : decode b_Rf_conflict 156 = .ok (.iadd, 1) := by decide +kernel
theorem d_Rf_conflict_157 : decode b_Rf_conflict 157 = .ok (.iaload, 1) := by decide +kernel
theorem d_Rf_conflict_158 : decode b_Rf_conflict 158 = .ok (.ireturn, 1) := by decide +kernel
theorem d_Rf_conflict_159 : decode b_Rf_conflict 159 = .ok (.iload 5, 2) := by decide +kernel
theorem d_Rf_conflict_161 : decode b_Rf_conflict 161 = .ok (.ifCond .eq 23, 3) := by decide +kernel
theorem d_Rf_conflict_164 : decode b_Rf_conflict 164 = .ok (.aload_n 0, 1) := by decide +kernel
theorem d_Rf_conflict_165 : decode b_Rf_conflict 165 = .ok (.aload_n 0, 1) := by decide +kernel
theorem d_Rf_conflict_166 : decode b_Rf_conflict 166 = .ok (.getfield 78, 3) := by decide +kernel
theorem d_Rf_conflict_169 : decode b_Rf_conflict 169 = .ok (.iload_n 3, 1) := by decide +kernel
theorem d_Rf_conflict_170 : decode b_Rf_conflict 170 = .ok (.invokevirtual 123, 3) := by decide +kernel
theorem d_Rf_conflict_173 : decode b_Rf_conflict 173 = .ok (.ifCond .eq 7, 3) := by decide +kernel
theorem d_Rf_conflict_176 : decode b_Rf_conflict 176 = .ok (.iconst 1, 1) := by decide +kernel
theorem d_Rf_conflict_177 : decode b_Rf_conflict 177 = .ok (.goto 18, 3) := by decide +kernel
theorem d_Rf_conflict_180 : decode b_Rf_conflict 180 = .ok (.iconst 0, 1) := by decide +kernel
theorem d_Rf_conflict_181 : decode b_Rf_conflict 181 = .ok (.goto 14, 3) := by decide +kernel
theorem d_Rf_conflict_184 : decode b_Rf_conflict 184 = .ok (.aload_n 0, 1) := by decide +kernel
theorem d_Rf_conflict_185 : decode b_Rf_conflict 185 = .ok (.aload_n 0, 1) := by decide +kernel
theorem d_Rf_conflict_186 : decode b_Rf_conflict 186 = .ok (.getfield 78, 3) := by decide +kernel
theorem d_Rf_conflict_189 : decode b_Rf_conflict 189 = .ok (.iload_n 3, 1) := by decide +kernel
theorem d_Rf_conflict_190 : decode b_Rf_conflict 190 = .ok (.iload 4, 2) := by decide +kernel
theorem d_Rf_conflict_192 : decode b_Rf_conflict 192 = .ok (.invokevirtual 137, 3) := by decide +kernel
theorem d_Rf_conflict_195 : decode b_Rf_conflict 195 = .ok (.ireturn, 1) := by decide +kernel
theorem d_Rf_conflict_196 : decode b_Rf_conflict 196 = .ok (.aload_n 0, 1) := by decide +kernel
theorem d_Rf_conflict_197 : decode b_Rf_conflict 197 = .ok (.getfield 87, 3) := by decide +kernel
theorem d_Rf_conflict_200 : decode b_Rf_conflict 200 = .ok (.iload_n 1, 1) := by decide +kernel
theorem d_Rf_conflict_201 : decode b_Rf_conflict 201 = .ok (.iaload, 1) := by decide +kernel
theorem d_Rf_conflict_202 : decode b_Rf_conflict 202 = .ok (.ireturn, 1) := by decide +kernel
end
section
theorem d_Rf_settle_0 : decode b_Rf_settle 0 = .ok (.aload_n 0, 1) := by decide +kernel
theorem d_Rf_settle_1 : decode b_Rf_settle 1 = .ok (.iload_n 1, 1) := by decide +kernel
theorem d_Rf_settle_2 : decode b_Rf_settle 2 = .ok (.ifCond .lt 30, 3) := by decide +kernel
theorem d_Rf_settle_5 : decode b_Rf_settle 5 = .ok (.aload_n 0, 1) := by decide +kernel
theorem d_Rf_settle_6 : decode b_Rf_settle 6 = .ok (.getfield 78, 3) := by decide +kernel
theorem d_Rf_settle_9 : decode b_Rf_settle 9 = .ok (.ifCond .lt 11, 3) := by decide +kernel
theorem d_Rf_settle_12 : decode b_Rf_settle 12 = .ok (.iload_n 1, 1) := by decide +kernel
theorem d_Rf_settle_13 : decode b_Rf_settle 13 = .ok (.aload_n 0, 1) := by decide +kernel
theorem d_Rf_settle_14 : decode b_Rf_settle 14 = .ok (.getfield 141, 3) := by decide +kernel
theorem d_Rf_settle_17 : decode b_Rf_settle 17 = .ok (.if_icmp .ge 15, 3) := by decide +kernel
theorem d_Rf_settle_20 : decode b_Rf_settle 20 = .ok (.iload_n 2, 1) := by decide +kernel
theorem d_Rf_settle_21 : decode b_Rf_settle 21 = .ok (.iconst 2, 1) := by decide +kernel
theorem d_Rf_settle_22 : decode b_Rf_settle 22 = .ok (.invokestatic 101, 3) := by decide +kernel
theorem d_Rf_settle_25 : decode b_Rf_settle 25 = .ok (.ifCond .eq 7, 3) := by decide +kernel
theorem d_Rf_settle_28 : decode b_Rf_settle 28 = .ok (.iconst 1, 1) := by decide +kernel
theorem d_Rf_settle_29 : decode b_Rf_settle 29 = .ok (.goto 4, 3) := by decide +kernel
theorem d_Rf_settle_32 : decode b_Rf_settle 32 = .ok (.iconst 0, 1) := by decide +kernel
theorem d_Rf_settle_33 : decode b_Rf_settle 33 = .ok (.aload_n 0, 1) := by decide +kernel
theorem d_Rf_settle_34 : decode b_Rf_settle 34 = .ok (.getfield 78, 3) := by decide +kernel
theorem d_Rf_settle_37 : decode b_Rf_settle 37 = .ok (.ifCond .lt 7, 3) := by decide +kernel
theorem d_Rf_settle_40 : decode b_Rf_settle 40 = .ok (.iconst 1, 1) := by decide +kernel
theorem d_Rf_settle_41 : decode b_Rf_settle 41 = .ok (.goto 4, 3) := by decide +kernel
theorem d_Rf_settle_44 : decode b_Rf_settle 44 = .ok (.iconst 0, 1) := by decide +kernel
theorem d_Rf_settle_45 : decode b_Rf_settle 45 = .ok (.invokevirtual 108, 3) := by decide +kernel
theorem d_Rf_settle_48 : decode b_Rf_settle 48 = .ok (.ifCond .ne 5, 3) := by decide +kernel
theorem d_Rf_settle_51 : decode b_Rf_settle 51 = .ok (.iconst 0, 1) := by decide +kernel
theorem d_Rf_settle_52 : decode b_Rf_settle 52 = .ok (.ireturn, 1) := by decide +kernel
theorem d_Rf_settle_53 : decode b_Rf_settle 53 = .ok (.aload_n 0, 1) := by decide +kernel
theorem d_Rf_settle_54 : decode b_Rf_settle 54 = .ok (.getfield 87, 3) := by decide +kernel
theorem d_Rf_settle_57 : decode b_Rf_settle 57 = .ok (.iload_n 1, 1) := by decide +kernel
theorem d_Rf_settle_58 : decode b_Rf_settle 58 = .ok (.iload_n 2, 1) := by decide +kernel
theorem d_Rf_settle_59 : decode b_Rf_settle 59 = .ok (.iastore, 1) := by decide +kernel
theorem d_Rf_settle_60 : decode b_Rf_settle 60 = .ok (.iconst 0, 1) := by decide +kernel
theorem d_Rf_settle_61 : decode b_Rf_settle 61 = .ok (.istore_n 3, 1) := by decide +kernel
theorem d_Rf_settle_62 : decode b_Rf_settle 62 = .ok (.iconst 0, 1) := by decide +kernel
theorem d_Rf_settle_63 : decode b_Rf_settle 63 = .ok (.istore 4, 2) := by decide +kernel
theorem d_Rf_settle_65 : decode b_Rf_settle 65 = .ok (.iload 4, 2) := by decide +kernel
theorem d_Rf_settle_67 : decode b_Rf_settle 67 = .ok (.aload_n 0, 1) := by decide +kernel
theorem d_Rf_settle_68 : decode b_Rf_settle 68 = .ok (.getfield 141, 3) := by decide +kernel
theorem d_Rf_settle_71 : decode b_Rf_settle 71 = .ok (.if_icmp .ge 27, 3) := by decide +kernel
theorem d_Rf_settle_74 : decode b_Rf_settle 74 = .ok (.iload_n 3, 1) := by decide +kernel
theorem d_Rf_settle_75 : decode b_Rf_settle 75 = .ok (.aload_n 0, 1) := by decide +kernel
theorem d_Rf_settle_76 : decode b_Rf_settle 76 = .ok (.getfield 87, 3) := by decide +kernel
theorem d_Rf_settle_79 : decode b_Rf_settle 79 = .ok (.iload 4, 2) := by decide +kernel
theorem d_Rf_settle_81 : decode b_Rf_settle 81 = .ok (.iaload, 1) := by decide +kernel
theorem d_Rf_settle_82 : decode b_Rf_settle 82 = .ok (.ifCond .ge 7, 3) := by decide +kernel
theorem d_Rf_settle_85 : decode b_Rf_settle 85 = .ok (.iconst 1, 1) := by decide +kernel
theorem d_Rf_settle_86 : decode b_Rf_settle 86 = .ok (.goto 4, 3) := by decide +kernel
theorem d_Rf_settle_89 : decode b_Rf_settle 89 = .ok (.iconst 0, 1) := by decide +kernel
theorem d_Rf_settle_90 : decode b_Rf_settle 90 = .ok (.iadd, 1) := by decide +kernel
theorem d_Rf_settle_91 : decode b_Rf_settle 91 = .ok (.istore_n 3, 1) := by decide +kernel
theorem d_Rf_settle_92 : decode b_Rf_settle 92 = .ok (.iinc 4 1, 3) := by decide +kernel
theorem d_Rf_settle_95 : decode b_Rf_settle 95 = .ok (.goto (-30), 3) := by decide +kernel
theorem d_Rf_settle_98 : decode b_Rf_settle 98 = .ok (.iload_n 3, 1) := by decide +kernel
theorem d_Rf_settle_99 : decode b_Rf_settle 99 = .ok (.ifCond .ne 11, 3) := by decide +kernel
theorem d_Rf_settle_102 : decode b_Rf_settle 102 = .ok (.aload_n 0, 1) := by decide +kernel
theorem d_Rf_settle_103 : decode b_Rf_settle 103 = .ok (.aload_n 0, 1) := by decide +kernel
theorem d_Rf_settle_104 : decode b_Rf_settle 104 = .ok (.getfield 78, 3) := by decide +kernel
theorem d_Rf_settle_107 : decode b_Rf_settle 107 = .ok (.invokevirtual 158, 3) := by decide +kernel
theorem d_Rf_settle_110 : decode b_Rf_settle 110 = .ok (.iload_n 3, 1) := by decide +kernel
theorem d_Rf_settle_111 : decode b_Rf_settle 111 = .ok (.ireturn, 1) := by decide +kernel
theorem d_Rf_giveUp_0 : decode b_Rf_giveUp 0 = .ok (.aload_n 0, 1) := by decide +kernel
theorem d_Rf_giveUp_1 : decode b_Rf_giveUp 1 = .ok (.aload_n 0, 1) := by decide +kernel
theorem d_Rf_giveUp_2 : decode b_Rf_giveUp 2 = .ok (.getfield 78, 3) := by decide +kernel
theorem d_Rf_giveUp_5 : decode b_Rf_giveUp 5 = .ok (.ifCond .ge 7, 3) := by decide +kernel
theorem d_Rf_giveUp_8 : decode b_Rf_giveUp 8 = .ok (.iconst 1, 1) := by decide +kernel
theorem d_Rf_giveUp_9 : decode b_Rf_giveUp 9 = .ok (.goto 4, 3) := by decide +kernel
theorem d_Rf_giveUp_12 : decode b_Rf_giveUp 12 = .ok (.iconst 0, 1) := by decide +kernel
theorem d_Rf_giveUp_13 : decode b_Rf_giveUp 13 = .ok (.putfield 90, 3) := by decide +kernel
theorem d_Rf_giveUp_16 : decode b_Rf_giveUp 16 = .ok (.aload_n 0, 1) := by decide +kernel
theorem d_Rf_giveUp_17 : decode b_Rf_giveUp 17 = .ok (.getfield 90, 3) := by decide +kernel
theorem d_Rf_giveUp_20 : decode b_Rf_giveUp 20 = .ok (.ifCond .le 5, 3) := by decide +kernel
theorem d_Rf_giveUp_23 : decode b_Rf_giveUp 23 = .ok (.iconst 0, 1) := by decide +kernel
theorem d_Rf_giveUp_24 : decode b_Rf_giveUp 24 = .ok (.ireturn, 1) := by decide +kernel
theorem d_Rf_giveUp_25 : decode b_Rf_giveUp 25 = .ok (.aload_n 0, 1) := by decide +kernel
theorem d_Rf_giveUp_26 : decode b_Rf_giveUp 26 = .ok (.getfield 78, 3) := by decide +kernel
theorem d_Rf_giveUp_29 : decode b_Rf_giveUp 29 = .ok (.istore_n 1, 1) := by decide +kernel
theorem d_Rf_giveUp_30 : decode b_Rf_giveUp 30 = .ok (.aload_n 0, 1) := by decide +kernel
theorem d_Rf_giveUp_31 : decode b_Rf_giveUp 31 = .ok (.getfield 45, 3) := by decide +kernel
theorem d_Rf_giveUp_34 : decode b_Rf_giveUp 34 = .ok (.iload_n 1, 1) := by decide +kernel
theorem d_Rf_giveUp_35 : decode b_Rf_giveUp 35 = .ok (.iconst 0, 1) := by decide +kernel
theorem d_Rf_giveUp_36 : decode b_Rf_giveUp 36 = .ok (.iastore, 1) := by decide +kernel
theorem d_Rf_giveUp_37 : decode b_Rf_giveUp 37 = .ok (.aload_n 0, 1) := by decide +kernel
theorem d_Rf_giveUp_38 : decode b_Rf_giveUp 38 = .ok (.iconst (-1), 1) := by decide +kernel
theorem d_Rf_giveUp_39 : decode b_Rf_giveUp 39 = .ok (.putfield 78, 3) := by decide +kernel
theorem d_Rf_giveUp_42 : decode b_Rf_giveUp 42 = .ok (.iload_n 1, 1) := by decide +kernel
theorem d_Rf_giveUp_43 : decode b_Rf_giveUp 43 = .ok (.ireturn, 1) := by decide +kernel
theorem d_Rf_here2_0 : decode b_Rf_here2 0 = .ok (.aload_n 0, 1) := by decide +kernel
theorem d_Rf_here2_1 : decode b_Rf_here2 1 = .ok (.iload_n 1, 1) := by decide +kernel
theorem d_Rf_here2_2 : decode b_Rf_here2 2 = .ok (.aload_n 0, 1) := by decide +kernel
theorem d_Rf_here2_3 : decode b_Rf_here2 3 = .ok (.getfield 105, 3) := by decide +kernel
theorem d_Rf_here2_6 : decode b_Rf_here2 6 = .ok (.invokestatic 101, 3) := by decide +kernel
theorem d_Rf_here2_9 : decode b_Rf_here2 9 = .ok (.ifCond .eq 18, 3) := by decide +kernel
theorem d_Rf_here2_12 : decode b_Rf_here2 12 = .ok (.iload_n 2, 1) := by decide +kernel
theorem d_Rf_here2_13 : decode b_Rf_here2 13 = .ok (.aload_n 0, 1) := by decide +kernel
theorem d_Rf_here2_14 : decode b_Rf_here2 14 = .ok (.getfield 116, 3) := by decide +kernel
theorem d_Rf_here2_17 : decode b_Rf_here2 17 = .ok (.invokestatic 101, 3) := by decide +kernel
theorem d_Rf_here2_20 : decode b_Rf_here2 20 = .ok (.ifCond .eq 7, 3) := by decide +kernel
theorem d_Rf_here2_23 : decode b_Rf_here2 23 = .ok (.iconst 1, 1) := by decide +kernel
theorem d_Rf_here2_24 : decode b_Rf_here2 24 = .ok (.goto 4, 3) := by decide +kernel
theorem d_Rf_here2_27 : decode b_Rf_here2 27 = .ok (.iconst 0, 1) := by decide +kernel
theorem d_Rf_here2_28 : decode b_Rf_here2 28 = .ok (.iconst 1, 1) := by decide +kernel
theorem d_Rf_here2_29 : decode b_Rf_here2 29 = .ok (.invokevirtual 108, 3) := by decide +kernel
theorem d_Rf_here2_32 : decode b_Rf_here2 32 = .ok (.ifCond .eq 16, 3) := by decide +kernel
theorem d_Rf_here2_35 : decode b_Rf_here2 35 = .ok (.aload_n 0, 1) := by decide +kernel
theorem d_Rf_here2_36 : decode b_Rf_here2 36 = .ok (.iload_n 1, 1) := by decide +kernel
theorem d_Rf_here2_37 : decode b_Rf_here2 37 = .ok (.iload_n 2, 1) := by decide +kernel
theorem d_Rf_here2_38 : decode b_Rf_here2 38 = .ok (.invokevirtual 123, 3) := by decide +kernel
theorem d_Rf_here2_41 : decode b_Rf_here2 41 = .ok (.ifCond .eq 7, 3) := by decide +kernel
theorem d_Rf_here2_44 : decode b_Rf_here2 44 = .ok (.iconst 1, 1) := by decide +kernel
theorem d_Rf_here2_45 : decode b_Rf_here2 45 = .ok (.goto 4, 3) := by decide +kernel
theorem d_Rf_here2_48 : decode b_Rf_here2 48 = .ok (.iconst 0, 1) := by decide +kernel
theorem d_Rf_here2_49 : decode b_Rf_here2 49 = .ok (.ireturn, 1) := by decide +kernel
theorem d_Rf_now_0 : decode b_Rf_now 0 = .ok (.iload_n 1, 1) := by decide +kernel
theorem d_Rf_now_1 : decode b_Rf_now 1 = .ok (.aload_n 0, 1) := by decide +kernel
theorem d_Rf_now_2 : decode b_Rf_now 2 = .ok (.getfield 105, 3) := by decide +kernel
theorem d_Rf_now_5 : decode b_Rf_now 5 = .ok (.invokestatic 101, 3) := by decide +kernel
theorem d_Rf_now_8 : decode b_Rf_now 8 = .ok (.ifCond .eq 26, 3) := by decide +kernel
theorem d_Rf_now_11 : decode b_Rf_now 11 = .ok (.iload_n 2, 1) := by decide +kernel
theorem d_Rf_now_12 : decode b_Rf_now 12 = .ok (.aload_n 0, 1) := by decide +kernel
theorem d_Rf_now_13 : decode b_Rf_now 13 = .ok (.getfield 116, 3) := by decide +kernel
theorem d_Rf_now_16 : decode b_Rf_now 16 = .ok (.invokestatic 101, 3) := by decide +kernel
theorem d_Rf_now_19 : decode b_Rf_now 19 = .ok (.ifCond .eq 15, 3) := by decide +kernel
theorem d_Rf_now_22 : decode b_Rf_now 22 = .ok (.iload_n 3, 1) := by decide +kernel
theorem d_Rf_now_23 : decode b_Rf_now 23 = .ok (.iconst 5, 1) := by decide +kernel
theorem d_Rf_now_24 : decode b_Rf_now 24 = .ok (.invokestatic 101, 3) := by decide +kernel
theorem d_Rf_now_27 : decode b_Rf_now 27 = .ok (.ifCond .eq 7, 3) := by decide +kernel
theorem d_Rf_now_30 : decode b_Rf_now 30 = .ok (.iconst 1, 1) := by decide +kernel
theorem d_Rf_now_31 : decode b_Rf_now 31 = .ok (.goto 4, 3) := by decide +kernel
theorem d_Rf_now_34 : decode b_Rf_now 34 = .ok (.iconst 0, 1) := by decide +kernel
theorem d_Rf_now_35 : decode b_Rf_now 35 = .ok (.istore 4, 2) := by decide +kernel
theorem d_Rf_now_37 : decode b_Rf_now 37 = .ok (.aload_n 0, 1) := by decide +kernel
theorem d_Rf_now_38 : decode b_Rf_now 38 = .ok (.iload 4, 2) := by decide +kernel
theorem d_Rf_now_40 : decode b_Rf_now 40 = .ok (.ifCond .eq 16, 3) := by decide +kernel
theorem d_Rf_now_43 : decode b_Rf_now 43 = .ok (.aload_n 0, 1) := by decide +kernel
theorem d_Rf_now_44 : decode b_Rf_now 44 = .ok (.iload_n 1, 1) := by decide +kernel
theorem d_Rf_now_45 : decode b_Rf_now 45 = .ok (.iload_n 2, 1) := by decide +kernel
theorem d_Rf_now_46 : decode b_Rf_now 46 = .ok (.invokevirtual 123, 3) := by decide +kernel
theorem d_Rf_now_49 : decode b_Rf_now 49 = .ok (.ifCond .eq 7, 3) := by decide +kernel
theorem d_Rf_now_52 : decode b_Rf_now 52 = .ok (.iconst 1, 1) := by decide +kernel
theorem d_Rf_now_53 : decode b_Rf_now 53 = .ok (.goto 4, 3) := by decide +kernel
theorem d_Rf_now_56 : decode b_Rf_now 56 = .ok (.iconst 0, 1) := by decide +kernel
theorem d_Rf_now_57 : decode b_Rf_now 57 = .ok (.iconst 1, 1) := by decide +kernel
theorem d_Rf_now_58 : decode b_Rf_now 58 = .ok (.invokevirtual 108, 3) := by decide +kernel
theorem d_Rf_now_61 : decode b_Rf_now 61 = .ok (.ifCond .eq 13, 3) := by decide +kernel
theorem d_Rf_now_64 : decode b_Rf_now 64 = .ok (.aload_n 0, 1) := by decide +kernel
theorem d_Rf_now_65 : decode b_Rf_now 65 = .ok (.iload_n 1, 1) := by decide +kernel
theorem d_Rf_now_66 : decode b_Rf_now 66 = .ok (.iload_n 2, 1) := by decide +kernel
theorem d_Rf_now_67 : decode b_Rf_now 67 = .ok (.iload_n 3, 1) := by decide +kernel
theorem d_Rf_now_68 : decode b_Rf_now 68 = .ok (.invokevirtual 137, 3) := by decide +kernel
theorem d_Rf_now_71 : decode b_Rf_now 71 = .ok (.goto 4, 3) := by decide +kernel
theorem d_Rf_now_74 : decode b_Rf_now 74 = .ok (.iconst 0, 1) := by decide +kernel
theorem d_Rf_now_75 : decode b_Rf_now 75 = .ok (.ireturn, 1) := by decide +kernel
theorem d_Rf_isThere_0 : decode b_Rf_isThere 0 = .ok (.iload_n 1, 1) := by decide +kernel
theorem d_Rf_isThere_1 : decode b_Rf_isThere 1 = .ok (.aload_n 0, 1) := by decide +kernel
theorem d_Rf_isThere_2 : decode b_Rf_isThere 2 = .ok (.getfield 16, 3) := by decide +kernel
theorem d_Rf_isThere_5 : decode b_Rf_isThere 5 = .ok (.invokestatic 101, 3) := by decide +kernel
theorem d_Rf_isThere_8 : decode b_Rf_isThere 8 = .ok (.ifCond .eq 32, 3) := by decide +kernel
theorem d_Rf_isThere_11 : decode b_Rf_isThere 11 = .ok (.iload_n 2, 1) := by decide +kernel
theorem d_Rf_isThere_12 : decode b_Rf_isThere 12 = .ok (.aload_n 0, 1) := by decide +kernel
theorem d_Rf_isThere_13 : decode b_Rf_isThere 13 = .ok (.getfield 116, 3) := by decide +kernel
theorem d_Rf_isThere_16 : decode b_Rf_isThere 16 = .ok (.invokestatic 101, 3) := by decide +kernel
theorem d_Rf_isThere_19 : decode b_Rf_isThere 19 = .ok (.ifCond .eq 21, 3) := by decide +kernel
theorem d_Rf_isThere_22 : decode b_Rf_isThere 22 = .ok (.aload_n 0, 1) := by decide +kernel
theorem d_Rf_isThere_23 : decode b_Rf_isThere 23 = .ok (.getfield 20, 3) := by decide +kernel
theorem d_Rf_isThere_26 : decode b_Rf_isThere 26 = .ok (.bipush 60, 2) := by decide +kernel
theorem d_Rf_isThere_28 : decode b_Rf_isThere 28 = .ok (.iload_n 1, 1) := by decide +kernel
theorem d_Rf_isThere_29 : decode b_Rf_isThere 29 = .ok (.imul, 1) := by decide +kernel
theorem d_Rf_isThere_30 : decode b_Rf_isThere 30 = .ok (.iload_n 2, 1) := by decide +kernel
theorem d_Rf_isThere_31 : decode b_Rf_isThere 31 = .ok (.iadd, 1) := by decide +kernel
theorem d_Rf_isThere_32 : decode b_Rf_isThere 32 = .ok (.baload, 1) := by decide +kernel
theorem d_Rf_isThere_33 : decode b_Rf_isThere 33 = .ok (.ifCond .eq 7, 3) := by decide +kernel
theorem d_Rf_isThere_36 : decode b_Rf_isThere 36 = .ok (.iconst 1, 1) := by decide +kernel
theorem d_Rf_isThere_37 : decode b_Rf_isThere 37 = .ok (.goto 4, 3) := by decide +kernel
theorem d_Rf_isThere_40 : decode b_Rf_isThere 40 = .ok (.iconst 0, 1) := by decide +kernel
theorem d_Rf_isThere_41 : decode b_Rf_isThere 41 = .ok (.ireturn, 1) := by decide +kernel
theorem d_Rf_there_0 : decode b_Rf_there 0 = .ok (.aload_n 0, 1) := by decide +kernel
theorem d_Rf_there_1 : decode b_Rf_there 1 = .ok (.iload_n 1, 1) := by decide +kernel
theorem d_Rf_there_2 : decode b_Rf_there 2 = .ok (.aload_n 0, 1) := by decide +kernel
theorem d_Rf_there_3 : decode b_Rf_there 3 = .ok (.getfield 16, 3) := by decide +kernel
theorem d_Rf_there_6 : decode b_Rf_there 6 = .ok (.invokestatic 101, 3) := by decide +kernel
theorem d_Rf_there_9 : decode b_Rf_there 9 = .ok (.ifCond .eq 26, 3) := by decide +kernel
theorem d_Rf_there_12 : decode b_Rf_there 12 = .ok (.iload_n 2, 1) := by decide +kernel
theorem d_Rf_there_13 : decode b_Rf_there 13 = .ok (.aload_n 0, 1) := by decide +kernel
theorem d_Rf_there_14 : decode b_Rf_there 14 = .ok (.getfield 116, 3) := by decide +kernel
theorem d_Rf_there_17 : decode b_Rf_there 17 = .ok (.invokestatic 101, 3) := by decide +kernel
theorem d_Rf_there_20 : decode b_Rf_there 20 = .ok (.ifCond .eq 15, 3) := by decide +kernel
theorem d_Rf_there_23 : decode b_Rf_there 23 = .ok (.iload_n 3, 1) := by decide +kernel
theorem d_Rf_there_24 : decode b_Rf_there 24 = .ok (.iconst 3, 1) := by decide +kernel
theorem d_Rf_there_25 : decode b_Rf_there 25 = .ok (.invokestatic 101, 3) := by decide +kernel
theorem d_Rf_there_28 : decode b_Rf_there 28 = .ok (.ifCond .eq 7, 3) := by decide +kernel
theorem d_Rf_there_31 : decode b_Rf_there 31 = .ok (.iconst 1, 1) := by decide +kernel
theorem d_Rf_there_32 : decode b_Rf_there 32 = .ok (.goto 4, 3) := by decide +kernel
theorem d_Rf_there_35 : decode b_Rf_there 35 = .ok (.iconst 0, 1) := by decide +kernel
theorem d_Rf_there_36 : decode b_Rf_there 36 = .ok (.iconst 1, 1) := by decide +kernel
theorem d_Rf_there_37 : decode b_Rf_there 37 = .ok (.invokevirtual 108, 3) := by decide +kernel
theorem d_Rf_there_40 : decode b_Rf_there 40 = .ok (.ifCond .ne 5, 3) := by decide +kernel
theorem d_Rf_there_43 : decode b_Rf_there 43 = .ok (.iconst 0, 1) := by decide +kernel
theorem d_Rf_there_44 : decode b_Rf_there 44 = .ok (.ireturn, 1) := by decide +kernel
theorem d_Rf_there_45 : decode b_Rf_there 45 = .ok (.iload_n 3, 1) := by decide +kernel
theorem d_Rf_there_46 : decode b_Rf_there 46 = .ok (.iconst 2, 1) := by decide +kernel
theorem d_Rf_there_47 : decode b_Rf_there 47 = .ok (.if_icmp .ge 32, 3) := by decide +kernel
theorem d_Rf_there_50 : decode b_Rf_there 50 = .ok (.iload_n 3, 1) := by decide +kernel
theorem d_Rf_there_51 : decode b_Rf_there 51 = .ok (.iconst 1, 1) := by decide +kernel
theorem d_Rf_there_52 : decode b_Rf_there 52 = .ok (.if_icmp .ne 12, 3) := by decide +kernel
theorem d_Rf_there_55 : decode b_Rf_there 55 = .ok (.aload_n 0, 1) := by decide +kernel
theorem d_Rf_there_56 : decode b_Rf_there 56 = .ok (.getfield 7, 3) := by decide +kernel
theorem d_Rf_there_59 : decode b_Rf_there 59 = .ok (.iload_n 2, 1) := by decide +kernel
theorem d_Rf_there_60 : decode b_Rf_there 60 = .ok (.iaload, 1) := by decide +kernel
theorem d_Rf_there_61 : decode b_Rf_there 61 = .ok (.goto 17, 3) := by decide +kernel
theorem d_Rf_there_64 : decode b_Rf_there 64 = .ok (.aload_n 0, 1) := by decide +kernel
theorem d_Rf_there_65 : decode b_Rf_there 65 = .ok (.iload_n 1, 1) := by decide +kernel
theorem d_Rf_there_66 : decode b_Rf_there 66 = .ok (.iload_n 2, 1) := by decide +kernel
theorem d_Rf_there_67 : decode b_Rf_there 67 = .ok (.invokevirtual 162, 3) := by decide +kernel
theorem d_Rf_there_70 : decode b_Rf_there 70 = .ok (.ifCond .eq 7, 3) := by decide +kernel
theorem d_Rf_there_73 : decode b_Rf_there 73 = .ok (.iconst 1, 1) := by decide +kernel
theorem d_Rf_there_74 : decode b_Rf_there 74 = .ok (.goto 4, 3) := by decide +kernel
theorem d_Rf_there_77 : decode b_Rf_there 77 = .ok (.iconst 0, 1) := by decide +kernel
theorem d_Rf_there_78 : decode b_Rf_there 78 = .ok (.ireturn, 1) := by decide +kernel
theorem d_Rf_there_79 : decode b_Rf_there 79 = .ok (.iconst 0, 1) := by decide +kernel
theorem d_Rf_there_80 : decode b_Rf_there 80 = .ok (.istore 4, 2) := by decide +kernel
theorem d_Rf_there_82 : decode b_Rf_there 82 = .ok (.iconst 0, 1) := by decide +kernel
theorem d_Rf_there_83 : decode b_Rf_there 83 = .ok (.istore 5, 2) := by decide +kernel
theorem d_Rf_there_85 : decode b_Rf_there 85 = .ok (.iload 5, 2) := by decide +kernel
theorem d_Rf_there_87 : decode b_Rf_there 87 = .ok (.iconst 5, 1) := by decide +kernel
theorem d_Rf_there_88 : decode b_Rf_there 88 = .ok (.if_icmp .ge 89, 3) := by decide +kernel
theorem d_Rf_there_91 : decode b_Rf_there 91 = .ok (.aload_n 0, 1) := by decide +kernel
theorem d_Rf_there_92 : decode b_Rf_there 92 = .ok (.iload_n 1, 1) := by decide +kernel
theorem d_Rf_there_93 : decode b_Rf_there 93 = .ok (.iload_n 2, 1) := by decide +kernel
theorem d_Rf_there_94 : decode b_Rf_there 94 = .ok (.invokevirtual 162, 3) := by decide +kernel
theorem d_Rf_there_97 : decode b_Rf_there 97 = .ok (.ifCond .eq 80, 3) := by decide +kernel
theorem d_Rf_there_100 : decode b_Rf_there 100 = .ok (.aload_n 0, 1) := by decide +kernel
theorem d_Rf_there_101 : decode b_Rf_there 101 = .ok (.iload_n 1, 1) := by decide +kernel
theorem d_Rf_there_102 : decode b_Rf_there 102 = .ok (.iconst 1, 1) := by decide +kernel
theorem d_Rf_there_103 : decode b_Rf_there 103 = .ok (.isub, 1) := by decide +kernel
theorem d_Rf_there_104 : decode b_Rf_there 104 = .ok (.iload_n 2, 1) := by decide +kernel
theorem d_Rf_there_105 : decode b_Rf_there 105 = .ok (.invokevirtual 162, 3) := by decide +kernel
theorem d_Rf_there_108 : decode b_Rf_there 108 = .ok (.ifCond .eq 45, 3) := by decide +kernel
theorem d_Rf_there_111 : decode b_Rf_there 111 = .ok (.aload_n 0, 1) := by decide +kernel
theorem d_Rf_there_112 : decode b_Rf_there 112 = .ok (.getfield 24, 3) := by decide +kernel
theorem d_Rf_there_115 : decode b_Rf_there 115 = .ok (.iconst 5, 1) := by decide +kernel
theorem d_Rf_there_116 : decode b_Rf_there 116 = .ok (.bipush 60, 2) := by decide +kernel
theorem d_Rf_there_118 : decode b_Rf_there 118 = .ok (.iload_n 1, 1) := by decide +kernel
theorem d_Rf_there_119 : decode b_Rf_there 119 = .ok (.imul, 1) := by decide +kernel
theorem d_Rf_there_120 : decode b_Rf_there 120 = .ok (.bipush 60, 2) := by decide +kernel
theorem d_Rf_there_122 : decode b_Rf_there 122 = .ok (.isub, 1) := by decide +kernel
theorem d_Rf_there_123 : decode b_Rf_there 123 = .ok (.iload_n 2, 1) := by decide +kernel
theorem d_Rf_there_124 : decode b_Rf_there 124 = .ok (.iadd, 1) := by decide +kernel
theorem d_Rf_there_125 : decode b_Rf_there 125 = .ok (.imul, 1) := by decide +kernel
theorem d_Rf_there_126 : decode b_Rf_there 126 = .ok (.iload 5, 2) := by decide +kernel
theorem d_Rf_there_128 : decode b_Rf_there 128 = .ok (.iadd, 1) := by decide +kernel
theorem d_Rf_there_129 : decode b_Rf_there 129 = .ok (.iaload, 1) := by decide +kernel
theorem d_Rf_there_130 : decode b_Rf_there 130 = .ok (.aload_n 0, 1) := by decide +kernel
theorem d_Rf_there_131 : decode b_Rf_there 131 = .ok (.getfield 24, 3) := by decide +kernel
theorem d_Rf_there_134 : decode b_Rf_there 134 = .ok (.iconst 5, 1) := by decide +kernel
theorem d_Rf_there_135 : decode b_Rf_there 135 = .ok (.bipush 60, 2) := by decide +kernel
theorem d_Rf_there_137 : decode b_Rf_there 137 = .ok (.iload_n 1, 1) := by decide +kernel
theorem d_Rf_there_138 : decode b_Rf_there 138 = .ok (.imul, 1) := by decide +kernel
theorem d_Rf_there_139 : decode b_Rf_there 139 = .ok (.iload_n 2, 1) := by decide +kernel
theorem d_Rf_there_140 : decode b_Rf_there 140 = .ok (.iadd, 1) := by decide +kernel
theorem d_Rf_there_141 : decode b_Rf_there 141 = .ok (.imul, 1) := by decide +kernel
theorem d_Rf_there_142 : decode b_Rf_there 142 = .ok (.iload 5, 2) := by decide +kernel
theorem d_Rf_there_144 : decode b_Rf_there 144 = .ok (.iadd, 1) := by decide +kernel
theorem d_Rf_there_145 : decode b_Rf_there 145 = .ok (.iaload, 1) := by decide +kernel
theorem d_Rf_there_146 : decode b_Rf_there 146 = .ok (.if_icmp .ne 7, 3) := by decide +kernel
theorem d_Rf_there_149 : decode b_Rf_there 149 = .ok (.iconst 1, 1) := by decide +kernel
theorem d_Rf_there_150 : decode b_Rf_there 150 = .ok (.goto 4, 3) := by decide +kernel
theorem d_Rf_there_153 : decode b_Rf_there 153 = .ok (.iconst 0, 1) := by decide +kernel
theorem d_Rf_there_154 : decode b_Rf_there 154 = .ok (.istore 6, 2) := by decide +kernel
theorem d_Rf_there_156 : decode b_Rf_there 156 = .ok (.iload 4, 2) := by decide +kernel
theorem d_Rf_there_158 : decode b_Rf_there 158 = .ok (.iload 6, 2) := by decide +kernel
theorem d_Rf_there_160 : decode b_Rf_there 160 = .ok (.ifCond .eq 7, 3) := by decide +kernel
theorem d_Rf_there_163 : decode b_Rf_there 163 = .ok (.iconst 0, 1) := by decide +kernel
theorem d_Rf_there_164 : decode b_Rf_there 164 = .ok (.goto 4, 3) := by decide +kernel
theorem d_Rf_there_167 : decode b_Rf_there 167 = .ok (.iconst 1, 1) := by decide +kernel
theorem d_Rf_there_168 : decode b_Rf_there 168 = .ok (.iadd, 1) := by decide +kernel
theorem d_Rf_there_169 : decode b_Rf_there 169 = .ok (.istore 4, 2) := by decide +kernel
theorem d_Rf_there_171 : decode b_Rf_there 171 = .ok (.iinc 5 1, 3) := by decide +kernel
theorem d_Rf_there_174 : decode b_Rf_there 174 = .ok (.goto (-89), 3) := by decide +kernel
theorem d_Rf_there_177 : decode b_Rf_there 177 = .ok (.iload 4, 2) := by decide +kernel
theorem d_Rf_there_179 : decode b_Rf_there 179 = .ok (.ireturn, 1) := by decide +kernel
theorem d_Rf_at_0 : decode b_Rf_at 0 = .ok (.aload_n 0, 1) := by decide +kernel
theorem d_Rf_at_1 : decode b_Rf_at 1 = .ok (.aload_n 0, 1) := by decide +kernel
theorem d_Rf_at_2 : decode b_Rf_at 2 = .ok (.iload_n 1, 1) := by decide +kernel
theorem d_Rf_at_3 : decode b_Rf_at 3 = .ok (.iload_n 2, 1) := by decide +kernel
theorem d_Rf_at_4 : decode b_Rf_at 4 = .ok (.invokevirtual 162, 3) := by decide +kernel
theorem d_Rf_at_7 : decode b_Rf_at 7 = .ok (.ifCond .eq 15, 3) := by decide +kernel
theorem d_Rf_at_10 : decode b_Rf_at 10 = .ok (.iload_n 3, 1) := by decide +kernel
theorem d_Rf_at_11 : decode b_Rf_at 11 = .ok (.iconst 5, 1) := by decide +kernel
theorem d_Rf_at_12 : decode b_Rf_at 12 = .ok (.invokestatic 101, 3) := by decide +kernel
theorem d_Rf_at_15 : decode b_Rf_at 15 = .ok (.ifCond .eq 7, 3) := by decide +kernel
theorem d_Rf_at_18 : decode b_Rf_at 18 = .ok (.iconst 1, 1) := by decide +kernel
theorem d_Rf_at_19 : decode b_Rf_at 19 = .ok (.goto 4, 3) := by decide +kernel
theorem d_Rf_at_22 : decode b_Rf_at 22 = .ok (.iconst 0, 1) := by decide +kernel
theorem d_Rf_at_23 : decode b_Rf_at 23 = .ok (.iconst 1, 1) := by decide +kernel
theorem d_Rf_at_24 : decode b_Rf_at 24 = .ok (.invokevirtual 108, 3) := by decide +kernel
theorem d_Rf_at_27 : decode b_Rf_at 27 = .ok (.ifCond .eq 21, 3) := by decide +kernel
theorem d_Rf_at_30 : decode b_Rf_at 30 = .ok (.aload_n 0, 1) := by decide +kernel
theorem d_Rf_at_31 : decode b_Rf_at 31 = .ok (.getfield 24, 3) := by decide +kernel
theorem d_Rf_at_34 : decode b_Rf_at 34 = .ok (.iconst 5, 1) := by decide +kernel
theorem d_Rf_at_35 : decode b_Rf_at 35 = .ok (.bipush 60, 2) := by decide +kernel
theorem d_Rf_at_37 : decode b_Rf_at 37 = .ok (.iload_n 1, 1) := by decide +kernel
theorem d_Rf_at_38 : decode b_Rf_at 38 = .ok (.imul, 1) := by decide +kernel
theorem d_Rf_at_39 : decode b_Rf_at 39 = .ok (.iload_n 2, 1) := by decide +kernel
theorem d_Rf_at_40 : decode b_Rf_at 40 = .ok (.iadd, 1) := by decide +kernel
theorem d_Rf_at_41 : decode b_Rf_at 41 = .ok (.imul, 1) := by decide +kernel
theorem d_Rf_at_42 : decode b_Rf_at 42 = .ok (.iload_n 3, 1) := by decide +kernel
theorem d_Rf_at_43 : decode b_Rf_at 43 = .ok (.iadd, 1) := by decide +kernel
theorem d_Rf_at_44 : decode b_Rf_at 44 = .ok (.iaload, 1) := by decide +kernel
theorem d_Rf_at_45 : decode b_Rf_at 45 = .ok (.goto 4, 3) := by decide +kernel
theorem d_Rf_at_48 : decode b_Rf_at 48 = .ok (.iconst 0, 1) := by decide +kernel
theorem d_Rf_at_49 : decode b_Rf_at 49 = .ok (.ireturn, 1) := by decide +kernel
theorem d_Rf_since_0 : decode b_Rf_since 0 = .ok (.aload_n 0, 1) := by decide +kernel
theorem d_Rf_since_1 : decode b_Rf_since 1 = .ok (.aload_n 0, 1) := by decide +kernel
theorem d_Rf_since_2 : decode b_Rf_since 2 = .ok (.iload_n 1, 1) := by decide +kernel
theorem d_Rf_since_3 : decode b_Rf_since 3 = .ok (.iload_n 2, 1) := by decide +kernel
theorem d_Rf_since_4 : decode b_Rf_since 4 = .ok (.invokevirtual 162, 3) := by decide +kernel
theorem d_Rf_since_7 : decode b_Rf_since 7 = .ok (.ifCond .eq 15, 3) := by decide +kernel
theorem d_Rf_since_10 : decode b_Rf_since 10 = .ok (.iload_n 3, 1) := by decide +kernel
theorem d_Rf_since_11 : decode b_Rf_since 11 = .ok (.iconst 5, 1) := by decide +kernel
theorem d_Rf_since_12 : decode b_Rf_since 12 = .ok (.invokestatic 101, 3) := by decide +kernel
theorem d_Rf_since_15 : decode b_Rf_since 15 = .ok (.ifCond .eq 7, 3) := by decide +kernel
theorem d_Rf_since_18 : decode b_Rf_since 18 = .ok (.iconst 1, 1) := by decide +kernel
theorem d_Rf_since_19 : decode b_Rf_since 19 = .ok (.goto 4, 3) := by decide +kernel
theorem d_Rf_since_22 : decode b_Rf_since 22 = .ok (.iconst 0, 1) := by decide +kernel
theorem d_Rf_since_23 : decode b_Rf_since 23 = .ok (.iconst 1, 1) := by decide +kernel
theorem d_Rf_since_24 : decode b_Rf_since 24 = .ok (.invokevirtual 108, 3) := by decide +kernel
theorem d_Rf_since_27 : decode b_Rf_since 27 = .ok (.ifCond .eq 21, 3) := by decide +kernel
theorem d_Rf_since_30 : decode b_Rf_since 30 = .ok (.aload_n 0, 1) := by decide +kernel
theorem d_Rf_since_31 : decode b_Rf_since 31 = .ok (.getfield 27, 3) := by decide +kernel
theorem d_Rf_since_34 : decode b_Rf_since 34 = .ok (.iconst 5, 1) := by decide +kernel
theorem d_Rf_since_35 : decode b_Rf_since 35 = .ok (.bipush 60, 2) := by decide +kernel
theorem d_Rf_since_37 : decode b_Rf_since 37 = .ok (.iload_n 1, 1) := by decide +kernel
theorem d_Rf_since_38 : decode b_Rf_since 38 = .ok (.imul, 1) := by decide +kernel
theorem d_Rf_since_39 : decode b_Rf_since 39 = .ok (.iload_n 2, 1) := by decide +kernel
theorem d_Rf_since_40 : decode b_Rf_since 40 = .ok (.iadd, 1) := by decide +kernel
theorem d_Rf_since_41 : decode b_Rf_since 41 = .ok (.imul, 1) := by decide +kernel
theorem d_Rf_since_42 : decode b_Rf_since 42 = .ok (.iload_n 3, 1) := by decide +kernel
theorem d_Rf_since_43 : decode b_Rf_since 43 = .ok (.iadd, 1) := by decide +kernel
theorem d_Rf_since_44 : decode b_Rf_since 44 = .ok (.iaload, 1) := by decide +kernel
theorem d_Rf_since_45 : decode b_Rf_since 45 = .ok (.goto 4, 3) := by decide +kernel
theorem d_Rf_since_48 : decode b_Rf_since 48 = .ok (.iconst 0, 1) := by decide +kernel
theorem d_Rf_since_49 : decode b_Rf_since 49 = .ok (.ireturn, 1) := by decide +kernel
theorem d_Rf_told_0 : decode b_Rf_told 0 = .ok (.aload_n 0, 1) := by decide +kernel
theorem d_Rf_told_1 : decode b_Rf_told 1 = .ok (.iload_n 1, 1) := by decide +kernel
theorem d_Rf_told_2 : decode b_Rf_told 2 = .ok (.aload_n 0, 1) := by decide +kernel
theorem d_Rf_told_3 : decode b_Rf_told 3 = .ok (.getfield 105, 3) := by decide +kernel
theorem d_Rf_told_6 : decode b_Rf_told 6 = .ok (.invokestatic 101, 3) := by decide +kernel
theorem d_Rf_told_9 : decode b_Rf_told 9 = .ok (.ifCond .eq 16, 3) := by decide +kernel
theorem d_Rf_told_12 : decode b_Rf_told 12 = .ok (.iload_n 2, 1) := by decide +kernel
theorem d_Rf_told_13 : decode b_Rf_told 13 = .ok (.bipush 6, 2) := by decide +kernel
theorem d_Rf_told_15 : decode b_Rf_told 15 = .ok (.invokestatic 101, 3) := by decide +kernel
theorem d_Rf_told_18 : decode b_Rf_told 18 = .ok (.ifCond .eq 7, 3) := by decide +kernel
theorem d_Rf_told_21 : decode b_Rf_told 21 = .ok (.iconst 1, 1) := by decide +kernel
theorem d_Rf_told_22 : decode b_Rf_told 22 = .ok (.goto 4, 3) := by decide +kernel
theorem d_Rf_told_25 : decode b_Rf_told 25 = .ok (.iconst 0, 1) := by decide +kernel
theorem d_Rf_told_26 : decode b_Rf_told 26 = .ok (.iconst 1, 1) := by decide +kernel
theorem d_Rf_told_27 : decode b_Rf_told 27 = .ok (.invokevirtual 108, 3) := by decide +kernel
theorem d_Rf_told_30 : decode b_Rf_told 30 = .ok (.ifCond .ne 5, 3) := by decide +kernel
theorem d_Rf_told_33 : decode b_Rf_told 33 = .ok (.iconst 0, 1) := by decide +kernel
theorem d_Rf_told_34 : decode b_Rf_told 34 = .ok (.ireturn, 1) := by decide +kernel
theorem d_Rf_told_35 : decode b_Rf_told 35 = .ok (.iload_n 2, 1) := by decide +kernel
theorem d_Rf_told_36 : decode b_Rf_told 36 = .ok (.ifCond .ne 12, 3) := by decide +kernel
theorem d_Rf_told_39 : decode b_Rf_told 39 = .ok (.aload_n 0, 1) := by decide +kernel
theorem d_Rf_told_40 : decode b_Rf_told 40 = .ok (.getfield 45, 3) := by decide +kernel
theorem d_Rf_told_43 : decode b_Rf_told 43 = .ok (.iload_n 1, 1) := by decide +kernel
theorem d_Rf_told_44 : decode b_Rf_told 44 = .ok (.iaload, 1) := by decide +kernel
theorem d_Rf_told_45 : decode b_Rf_told 45 = .ok (.goto 65, 3) := by decide +kernel
theorem d_Rf_told_48 : decode b_Rf_told 48 = .ok (.iload_n 2, 1) := by decide +kernel
theorem d_Rf_told_49 : decode b_Rf_told 49 = .ok (.iconst 1, 1) := by decide +kernel
theorem d_Rf_told_50 : decode b_Rf_told 50 = .ok (.if_icmp .ne 12, 3) := by decide +kernel
theorem d_Rf_told_53 : decode b_Rf_told 53 = .ok (.aload_n 0, 1) := by decide +kernel
theorem d_Rf_told_54 : decode b_Rf_told 54 = .ok (.getfield 33, 3) := by decide +kernel
theorem d_Rf_told_57 : decode b_Rf_told 57 = .ok (.iload_n 1, 1) := by decide +kernel
theorem d_Rf_told_58 : decode b_Rf_told 58 = .ok (.iaload, 1) := by decide +kernel
theorem d_Rf_told_59 : decode b_Rf_told 59 = .ok (.goto 51, 3) := by decide +kernel
theorem d_Rf_told_62 : decode b_Rf_told 62 = .ok (.iload_n 2, 1) := by decide +kernel
theorem d_Rf_told_63 : decode b_Rf_told 63 = .ok (.iconst 2, 1) := by decide +kernel
theorem d_Rf_told_64 : decode b_Rf_told 64 = .ok (.if_icmp .ne 12, 3) := by decide +kernel
theorem d_Rf_told_67 : decode b_Rf_told 67 = .ok (.aload_n 0, 1) := by decide +kernel
theorem d_Rf_told_68 : decode b_Rf_told 68 = .ok (.getfield 36, 3) := by decide +kernel
theorem d_Rf_told_71 : decode b_Rf_told 71 = .ok (.iload_n 1, 1) := by decide +kernel
theorem d_Rf_told_72 : decode b_Rf_told 72 = .ok (.iaload, 1) := by decide +kernel
theorem d_Rf_told_73 : decode b_Rf_told 73 = .ok (.goto 37, 3) := by decide +kernel
theorem d_Rf_told_76 : decode b_Rf_told 76 = .ok (.iload_n 2, 1) := by decide +kernel
theorem d_Rf_told_77 : decode b_Rf_told 77 = .ok (.iconst 3, 1) := by decide +kernel
theorem d_Rf_told_78 : decode b_Rf_told 78 = .ok (.if_icmp .ne 12, 3) := by decide +kernel
theorem d_Rf_told_81 : decode b_Rf_told 81 = .ok (.aload_n 0, 1) := by decide +kernel
theorem d_Rf_told_82 : decode b_Rf_told 82 = .ok (.getfield 39, 3) := by decide +kernel
theorem d_Rf_told_85 : decode b_Rf_told 85 = .ok (.iload_n 1, 1) := by decide +kernel
theorem d_Rf_told_86 : decode b_Rf_told 86 = .ok (.iaload, 1) := by decide +kernel
theorem d_Rf_told_87 : decode b_Rf_told 87 = .ok (.goto 23, 3) := by decide +kernel
theorem d_Rf_told_90 : decode b_Rf_told 90 = .ok (.iload_n 2, 1) := by decide +kernel
theorem d_Rf_told_91 : decode b_Rf_told 91 = .ok (.iconst 4, 1) := by decide +kernel
theorem d_Rf_told_92 : decode b_Rf_told 92 = .ok (.if_icmp .ne 12, 3) := by decide +kernel
theorem d_Rf_told_95 : decode b_Rf_told 95 = .ok (.aload_n 0, 1) := by decide +kernel
theorem d_Rf_told_96 : decode b_Rf_told 96 = .ok (.getfield 42, 3) := by decide +kernel
theorem d_Rf_told_99 : decode b_Rf_told 99 = .ok (.iload_n 1, 1) := by decide +kernel
theorem d_Rf_told_100 : decode b_Rf_told 100 = .ok (.iaload, 1) := by decide +kernel
theorem d_Rf_told_101 : decode b_Rf_told 101 = .ok (.goto 9, 3) := by decide +kernel
theorem d_Rf_told_104 : decode b_Rf_told 104 = .ok (.aload_n 0, 1) := by decide +kernel
theorem d_Rf_told_105 : decode b_Rf_told 105 = .ok (.getfield 48, 3) := by decide +kernel
theorem d_Rf_told_108 : decode b_Rf_told 108 = .ok (.iload_n 1, 1) := by decide +kernel
theorem d_Rf_told_109 : decode b_Rf_told 109 = .ok (.iaload, 1) := by decide +kernel
theorem d_Rf_told_110 : decode b_Rf_told 110 = .ok (.ireturn, 1) := by decide +kernel
theorem d_Rf_author_0 : decode b_Rf_author 0 = .ok (.aload_n 0, 1) := by decide +kernel
theorem d_Rf_author_1 : decode b_Rf_author 1 = .ok (.iload_n 1, 1) := by decide +kernel
theorem d_Rf_author_2 : decode b_Rf_author 2 = .ok (.ifCond .le 15, 3) := by decide +kernel
theorem d_Rf_author_5 : decode b_Rf_author 5 = .ok (.iload_n 1, 1) := by decide +kernel
theorem d_Rf_author_6 : decode b_Rf_author 6 = .ok (.aload_n 0, 1) := by decide +kernel
theorem d_Rf_author_7 : decode b_Rf_author 7 = .ok (.getfield 16, 3) := by decide +kernel
theorem d_Rf_author_10 : decode b_Rf_author 10 = .ok (.if_icmp .ge 7, 3) := by decide +kernel
theorem d_Rf_author_13 : decode b_Rf_author 13 = .ok (.iconst 1, 1) := by decide +kernel
theorem d_Rf_author_14 : decode b_Rf_author 14 = .ok (.goto 4, 3) := by decide +kernel
theorem d_Rf_author_17 : decode b_Rf_author 17 = .ok (.iconst 0, 1) := by decide +kernel
theorem d_Rf_author_18 : decode b_Rf_author 18 = .ok (.iconst 1, 1) := by decide +kernel
theorem d_Rf_author_19 : decode b_Rf_author 19 = .ok (.invokevirtual 108, 3) := by decide +kernel
theorem d_Rf_author_22 : decode b_Rf_author 22 = .ok (.ifCond .eq 12, 3) := by decide +kernel
theorem d_Rf_author_25 : decode b_Rf_author 25 = .ok (.aload_n 0, 1) := by decide +kernel
theorem d_Rf_author_26 : decode b_Rf_author 26 = .ok (.getfield 30, 3) := by decide +kernel
theorem d_Rf_author_29 : decode b_Rf_author 29 = .ok (.iload_n 1, 1) := by decide +kernel
theorem d_Rf_author_30 : decode b_Rf_author 30 = .ok (.iaload, 1) := by decide +kernel
theorem d_Rf_author_31 : decode b_Rf_author 31 = .ok (.goto 4, 3) := by decide +kernel
theorem d_Rf_author_34 : decode b_Rf_author 34 = .ok (.iconst 0, 1) := by decide +kernel
theorem d_Rf_author_35 : decode b_Rf_author 35 = .ok (.ireturn, 1) := by decide +kernel
theorem d_Rf_count_0 : decode b_Rf_count 0 = .ok (.aload_n 0, 1) := by decide +kernel
theorem d_Rf_count_1 : decode b_Rf_count 1 = .ok (.iload_n 1, 1) := by decide +kernel
theorem d_Rf_count_2 : decode b_Rf_count 2 = .ok (.iconst 4, 1) := by decide +kernel
theorem d_Rf_count_3 : decode b_Rf_count 3 = .ok (.invokestatic 101, 3) := by decide +kernel
theorem d_Rf_count_6 : decode b_Rf_count 6 = .ok (.iconst 1, 1) := by decide +kernel
theorem d_Rf_count_7 : decode b_Rf_count 7 = .ok (.invokevirtual 108, 3) := by decide +kernel
theorem d_Rf_count_10 : decode b_Rf_count 10 = .ok (.ifCond .ne 5, 3) := by decide +kernel
theorem d_Rf_count_13 : decode b_Rf_count 13 = .ok (.iconst 0, 1) := by decide +kernel
theorem d_Rf_count_14 : decode b_Rf_count 14 = .ok (.ireturn, 1) := by decide +kernel
theorem d_Rf_count_15 : decode b_Rf_count 15 = .ok (.iload_n 1, 1) := by decide +kernel
theorem d_Rf_count_16 : decode b_Rf_count 16 = .ok (.ifCond .ne 10, 3) := by decide +kernel
theorem d_Rf_count_19 : decode b_Rf_count 19 = .ok (.aload_n 0, 1) := by decide +kernel
theorem d_Rf_count_20 : decode b_Rf_count 20 = .ok (.getfield 16, 3) := by decide +kernel
theorem d_Rf_count_23 : decode b_Rf_count 23 = .ok (.goto 31, 3) := by decide +kernel
theorem d_Rf_count_26 : decode b_Rf_count 26 = .ok (.iload_n 1, 1) := by decide +kernel
theorem d_Rf_count_27 : decode b_Rf_count 27 = .ok (.iconst 1, 1) := by decide +kernel
theorem d_Rf_count_28 : decode b_Rf_count 28 = .ok (.if_icmp .ne 10, 3) := by decide +kernel
theorem d_Rf_count_31 : decode b_Rf_count 31 = .ok (.aload_n 0, 1) := by decide +kernel
theorem d_Rf_count_32 : decode b_Rf_count 32 = .ok (.getfield 116, 3) := by decide +kernel
theorem d_Rf_count_35 : decode b_Rf_count 35 = .ok (.goto 19, 3) := by decide +kernel
theorem d_Rf_count_38 : decode b_Rf_count 38 = .ok (.iload_n 1, 1) := by decide +kernel
theorem d_Rf_count_39 : decode b_Rf_count 39 = .ok (.iconst 2, 1) := by decide +kernel
theorem d_Rf_count_40 : decode b_Rf_count 40 = .ok (.if_icmp .ne 10, 3) := by decide +kernel
theorem d_Rf_count_43 : decode b_Rf_count 43 = .ok (.aload_n 0, 1) := by decide +kernel
theorem d_Rf_count_44 : decode b_Rf_count 44 = .ok (.getfield 105, 3) := by decide +kernel
theorem d_Rf_count_47 : decode b_Rf_count 47 = .ok (.goto 7, 3) := by decide +kernel
theorem d_Rf_count_50 : decode b_Rf_count 50 = .ok (.aload_n 0, 1) := by decide +kernel
theorem d_Rf_count_51 : decode b_Rf_count 51 = .ok (.getfield 130, 3) := by decide +kernel
theorem d_Rf_count_54 : decode b_Rf_count 54 = .ok (.ireturn, 1) := by decide +kernel
theorem d_Rf_differs_0 : decode b_Rf_differs 0 = .ok (.aload_n 0, 1) := by decide +kernel
theorem d_Rf_differs_1 : decode b_Rf_differs 1 = .ok (.iload_n 1, 1) := by decide +kernel
theorem d_Rf_differs_2 : decode b_Rf_differs 2 = .ok (.aload_n 0, 1) := by decide +kernel
theorem d_Rf_differs_3 : decode b_Rf_differs 3 = .ok (.getfield 16, 3) := by decide +kernel
theorem d_Rf_differs_6 : decode b_Rf_differs 6 = .ok (.invokestatic 101, 3) := by decide +kernel
theorem d_Rf_differs_9 : decode b_Rf_differs 9 = .ok (.ifCond .eq 22, 3) := by decide +kernel
theorem d_Rf_differs_12 : decode b_Rf_differs 12 = .ok (.iload_n 2, 1) := by decide +kernel
theorem d_Rf_differs_13 : decode b_Rf_differs 13 = .ok (.aload_n 0, 1) := by decide +kernel
theorem d_Rf_differs_14 : decode b_Rf_differs 14 = .ok (.getfield 16, 3) := by decide +kernel
theorem d_Rf_differs_17 : decode b_Rf_differs 17 = .ok (.invokestatic 101, 3) := by decide +kernel
theorem d_Rf_differs_20 : decode b_Rf_differs 20 = .ok (.ifCond .eq 11, 3) := by decide +kernel
theorem d_Rf_differs_23 : decode b_Rf_differs 23 = .ok (.iload_n 3, 1) := by decide +kernel
theorem d_Rf_differs_24 : decode b_Rf_differs 24 = .ok (.ifCond .lt 7, 3) := by decide +kernel
theorem d_Rf_differs_27 : decode b_Rf_differs 27 = .ok (.iconst 1, 1) := by decide +kernel
theorem d_Rf_differs_28 : decode b_Rf_differs 28 = .ok (.goto 4, 3) := by decide +kernel
theorem d_Rf_differs_31 : decode b_Rf_differs 31 = .ok (.iconst 0, 1) := by decide +kernel
theorem d_Rf_differs_32 : decode b_Rf_differs 32 = .ok (.iconst 1, 1) := by decide +kernel
theorem d_Rf_differs_33 : decode b_Rf_differs 33 = .ok (.invokevirtual 108, 3) := by decide +kernel
theorem d_Rf_differs_36 : decode b_Rf_differs 36 = .ok (.ifCond .ne 5, 3) := by decide +kernel
theorem d_Rf_differs_39 : decode b_Rf_differs 39 = .ok (.iconst 0, 1) := by decide +kernel
theorem d_Rf_differs_40 : decode b_Rf_differs 40 = .ok (.ireturn, 1) := by decide +kernel
theorem d_Rf_differs_41 : decode b_Rf_differs 41 = .ok (.iconst 0, 1) := by decide +kernel
theorem d_Rf_differs_42 : decode b_Rf_differs 42 = .ok (.istore 4, 2) := by decide +kernel
theorem d_Rf_differs_44 : decode b_Rf_differs 44 = .ok (.iconst 0, 1) := by decide +kernel
theorem d_Rf_differs_45 : decode b_Rf_differs 45 = .ok (.istore 5, 2) := by decide +kernel
theorem d_Rf_differs_47 : decode b_Rf_differs 47 = .ok (.iload 5, 2) := by decide +kernel
theorem d_Rf_differs_49 : decode b_Rf_differs 49 = .ok (.aload_n 0, 1) := by decide +kernel
theorem d_Rf_differs_50 : decode b_Rf_differs 50 = .ok (.getfield 116, 3) := by decide +kernel
theorem d_Rf_differs_53 : decode b_Rf_differs 53 = .ok (.if_icmp .ge 133, 3) := by decide +kernel
theorem d_Rf_differs_56 : decode b_Rf_differs 56 = .ok (.aload_n 0, 1) := by decide +kernel
theorem d_Rf_differs_57 : decode b_Rf_differs 57 = .ok (.iload_n 1, 1) := by decide +kernel
theorem d_Rf_differs_58 : decode b_Rf_differs 58 = .ok (.iload 5, 2) := by decide +kernel
theorem d_Rf_differs_60 : decode b_Rf_differs 60 = .ok (.invokevirtual 162, 3) := by decide +kernel
theorem d_Rf_differs_63 : decode b_Rf_differs 63 = .ok (.istore 6, 2) := by decide +kernel
theorem d_Rf_differs_65 : decode b_Rf_differs 65 = .ok (.aload_n 0, 1) := by decide +kernel
theorem d_Rf_differs_66 : decode b_Rf_differs 66 = .ok (.iload_n 2, 1) := by decide +kernel
theorem d_Rf_differs_67 : decode b_Rf_differs 67 = .ok (.iload 5, 2) := by decide +kernel
theorem d_Rf_differs_69 : decode b_Rf_differs 69 = .ok (.invokevirtual 162, 3) := by decide +kernel
theorem d_Rf_differs_72 : decode b_Rf_differs 72 = .ok (.istore 7, 2) := by decide +kernel
theorem d_Rf_differs_74 : decode b_Rf_differs 74 = .ok (.iconst 0, 1) := by decide +kernel
theorem d_Rf_differs_75 : decode b_Rf_differs 75 = .ok (.istore 8, 2) := by decide +kernel
theorem d_Rf_differs_77 : decode b_Rf_differs 77 = .ok (.iload 8, 2) := by decide +kernel
theorem d_Rf_differs_79 : decode b_Rf_differs 79 = .ok (.iconst 5, 1) := by decide +kernel
theorem d_Rf_differs_80 : decode b_Rf_differs 80 = .ok (.if_icmp .ge 100, 3) := by decide +kernel
theorem d_Rf_differs_83 : decode b_Rf_differs 83 = .ok (.aload_n 0, 1) := by decide +kernel
theorem d_Rf_differs_84 : decode b_Rf_differs 84 = .ok (.getfield 24, 3) := by decide +kernel
theorem d_Rf_differs_87 : decode b_Rf_differs 87 = .ok (.iconst 5, 1) := by decide +kernel
theorem d_Rf_differs_88 : decode b_Rf_differs 88 = .ok (.bipush 60, 2) := by decide +kernel
theorem d_Rf_differs_90 : decode b_Rf_differs 90 = .ok (.iload_n 1, 1) := by decide +kernel
theorem d_Rf_differs_91 : decode b_Rf_differs 91 = .ok (.imul, 1) := by decide +kernel
theorem d_Rf_differs_92 : decode b_Rf_differs 92 = .ok (.iload 5, 2) := by decide +kernel
theorem d_Rf_differs_94 : decode b_Rf_differs 94 = .ok (.iadd, 1) := by decide +kernel
theorem d_Rf_differs_95 : decode b_Rf_differs 95 = .ok (.imul, 1) := by decide +kernel
theorem d_Rf_differs_96 : decode b_Rf_differs 96 = .ok (.iload 8, 2) := by decide +kernel
theorem d_Rf_differs_98 : decode b_Rf_differs 98 = .ok (.iadd, 1) := by decide +kernel
theorem d_Rf_differs_99 : decode b_Rf_differs 99 = .ok (.iaload, 1) := by decide +kernel
theorem d_Rf_differs_100 : decode b_Rf_differs 100 = .ok (.aload_n 0, 1) := by decide +kernel
theorem d_Rf_differs_101 : decode b_Rf_differs 101 = .ok (.getfield 24, 3) := by decide +kernel
theorem d_Rf_differs_104 : decode b_Rf_differs 104 = .ok (.iconst 5, 1) := by decide +kernel
theorem d_Rf_differs_105 : decode b_Rf_differs 105 = .ok (.bipush 60, 2) := by decide +kernel
theorem d_Rf_differs_107 : decode b_Rf_differs 107 = .ok (.iload_n 2, 1) := by decide +kernel
theorem d_Rf_differs_108 : decode b_Rf_differs 108 = .ok (.imul, 1) := by decide +kernel
theorem d_Rf_differs_109 : decode b_Rf_differs 109 = .ok (.iload 5, 2) := by decide +kernel
theorem d_Rf_differs_111 : decode b_Rf_differs 111 = .ok (.iadd, 1) := by decide +kernel
theorem d_Rf_differs_112 : decode b_Rf_differs 112 = .ok (.imul, 1) := by decide +kernel
theorem d_Rf_differs_113 : decode b_Rf_differs 113 = .ok (.iload 8, 2) := by decide +kernel
theorem d_Rf_differs_115 : decode b_Rf_differs 115 = .ok (.iadd, 1) := by decide +kernel
theorem d_Rf_differs_116 : decode b_Rf_differs 116 = .ok (.iaload, 1) := by decide +kernel
theorem d_Rf_differs_117 : decode b_Rf_differs 117 = .ok (.if_icmp .eq 7, 3) := by decide +kernel
theorem d_Rf_differs_120 : decode b_Rf_differs 120 = .ok (.iconst 1, 1) := by decide +kernel
theorem d_Rf_differs_121 : decode b_Rf_differs 121 = .ok (.goto 4, 3) := by decide +kernel
theorem d_Rf_differs_124 : decode b_Rf_differs 124 = .ok (.iconst 0, 1) := by decide +kernel
theorem d_Rf_differs_125 : decode b_Rf_differs 125 = .ok (.istore 9, 2) := by decide +kernel
theorem d_Rf_differs_127 : decode b_Rf_differs 127 = .ok (.iload 6, 2) := by decide +kernel
theorem d_Rf_differs_129 : decode b_Rf_differs 129 = .ok (.ifCond .eq 16, 3) := by decide +kernel
theorem d_Rf_differs_132 : decode b_Rf_differs 132 = .ok (.iload 7, 2) := by decide +kernel
theorem d_Rf_differs_134 : decode b_Rf_differs 134 = .ok (.ifCond .eq 11, 3) := by decide +kernel
theorem d_Rf_differs_137 : decode b_Rf_differs 137 = .ok (.iload 9, 2) := by decide +kernel
theorem d_Rf_differs_139 : decode b_Rf_differs 139 = .ok (.ifCond .eq 35, 3) := by decide +kernel
theorem d_Rf_differs_142 : decode b_Rf_differs 142 = .ok (.goto 15, 3) := by decide +kernel
theorem d_Rf_differs_145 : decode b_Rf_differs 145 = .ok (.iload 6, 2) := by decide +kernel
theorem d_Rf_differs_147 : decode b_Rf_differs 147 = .ok (.iload 7, 2) := by decide +kernel
theorem d_Rf_differs_149 : decode b_Rf_differs 149 = .ok (.if_icmp .eq 25, 3) := by decide +kernel
theorem d_Rf_differs_152 : decode b_Rf_differs 152 = .ok (.iload 8, 2) := by decide +kernel
theorem d_Rf_differs_154 : decode b_Rf_differs 154 = .ok (.ifCond .ne 20, 3) := by decide +kernel
theorem d_Rf_differs_157 : decode b_Rf_differs 157 = .ok (.iload 4, 2) := by decide +kernel
theorem d_Rf_differs_159 : decode b_Rf_differs 159 = .ok (.iload_n 3, 1) := by decide +kernel
theorem d_Rf_differs_160 : decode b_Rf_differs 160 = .ok (.if_icmp .ne 11, 3) := by decide +kernel
theorem d_Rf_differs_163 : decode b_Rf_differs 163 = .ok (.iconst 5, 1) := by decide +kernel
theorem d_Rf_differs_164 : decode b_Rf_differs 164 = .ok (.iload 5, 2) := by decide +kernel
theorem d_Rf_differs_166 : decode b_Rf_differs 166 = .ok (.imul, 1) := by decide +kernel
theorem d_Rf_differs_167 : decode b_Rf_differs 167 = .ok (.iload 8, 2) := by decide +kernel
theorem d_Rf_differs_169 : decode b_Rf_differs 169 = .ok (.iadd, 1) := by decide +kernel
theorem d_Rf_differs_170 : decode b_Rf_differs 170 = .ok (.ireturn, 1) := by decide +kernel
theorem d_Rf_differs_171 : decode b_Rf_differs 171 = .ok (.iinc 4 1, 3) := by decide +kernel
theorem d_Rf_differs_174 : decode b_Rf_differs 174 = .ok (.iinc 8 1, 3) := by decide +kernel
theorem d_Rf_differs_177 : decode b_Rf_differs 177 = .ok (.goto (-100), 3) := by decide +kernel
theorem d_Rf_differs_180 : decode b_Rf_differs 180 = .ok (.iinc 5 1, 3) := by decide +kernel
theorem d_Rf_differs_183 : decode b_Rf_differs 183 = .ok (.goto (-136), 3) := by decide +kernel
theorem d_Rf_differs_186 : decode b_Rf_differs 186 = .ok (.iconst (-1), 1) := by decide +kernel
theorem d_Rf_differs_187 : decode b_Rf_differs 187 = .ok (.ireturn, 1) := by decide +kernel
theorem d_Rf_broken_0 : decode b_Rf_broken 0 = .ok (.aload_n 0, 1) := by decide +kernel
theorem d_Rf_broken_1 : decode b_Rf_broken 1 = .ok (.iload_n 1, 1) := by decide +kernel
theorem d_Rf_broken_2 : decode b_Rf_broken 2 = .ok (.aload_n 0, 1) := by decide +kernel
theorem d_Rf_broken_3 : decode b_Rf_broken 3 = .ok (.getfield 16, 3) := by decide +kernel
theorem d_Rf_broken_6 : decode b_Rf_broken 6 = .ok (.invokestatic 101, 3) := by decide +kernel
theorem d_Rf_broken_9 : decode b_Rf_broken 9 = .ok (.ifCond .eq 11, 3) := by decide +kernel
theorem d_Rf_broken_12 : decode b_Rf_broken 12 = .ok (.iload_n 2, 1) := by decide +kernel
theorem d_Rf_broken_13 : decode b_Rf_broken 13 = .ok (.ifCond .lt 7, 3) := by decide +kernel
theorem d_Rf_broken_16 : decode b_Rf_broken 16 = .ok (.iconst 1, 1) := by decide +kernel
theorem d_Rf_broken_17 : decode b_Rf_broken 17 = .ok (.goto 4, 3) := by decide +kernel
theorem d_Rf_broken_20 : decode b_Rf_broken 20 = .ok (.iconst 0, 1) := by decide +kernel
theorem d_Rf_broken_21 : decode b_Rf_broken 21 = .ok (.iconst 1, 1) := by decide +kernel
theorem d_Rf_broken_22 : decode b_Rf_broken 22 = .ok (.invokevirtual 108, 3) := by decide +kernel
theorem d_Rf_broken_25 : decode b_Rf_broken 25 = .ok (.ifCond .ne 5, 3) := by decide +kernel
theorem d_Rf_broken_28 : decode b_Rf_broken 28 = .ok (.iconst 0, 1) := by decide +kernel
theorem d_Rf_broken_29 : decode b_Rf_broken 29 = .ok (.ireturn, 1) := by decide +kernel
theorem d_Rf_broken_30 : decode b_Rf_broken 30 = .ok (.iconst 0, 1) := by decide +kernel
theorem d_Rf_broken_31 : decode b_Rf_broken 31 = .ok (.istore_n 3, 1) := by decide +kernel
theorem d_Rf_broken_32 : decode b_Rf_broken 32 = .ok (.iconst 0, 1) := by decide +kernel
theorem d_Rf_broken_33 : decode b_Rf_broken 33 = .ok (.istore 4, 2) := by decide +kernel
theorem d_Rf_broken_35 : decode b_Rf_broken 35 = .ok (.iload 4, 2) := by decide +kernel
theorem d_Rf_broken_37 : decode b_Rf_broken 37 = .ok (.aload_n 0, 1) := by decide +kernel
theorem d_Rf_broken_38 : decode b_Rf_broken 38 = .ok (.getfield 130, 3) := by decide +kernel
theorem d_Rf_broken_41 : decode b_Rf_broken 41 = .ok (.if_icmp .ge 144, 3) := by decide +kernel
theorem d_Rf_broken_44 : decode b_Rf_broken 44 = .ok (.iconst 0, 1) := by decide +kernel
theorem d_Rf_broken_45 : decode b_Rf_broken 45 = .ok (.istore 5, 2) := by decide +kernel
theorem d_Rf_broken_47 : decode b_Rf_broken 47 = .ok (.iload 5, 2) := by decide +kernel
theorem d_Rf_broken_49 : decode b_Rf_broken 49 = .ok (.aload_n 0, 1) := by decide +kernel
theorem d_Rf_broken_50 : decode b_Rf_broken 50 = .ok (.getfield 116, 3) := by decide +kernel
theorem d_Rf_broken_53 : decode b_Rf_broken 53 = .ok (.if_icmp .ge 126, 3) := by decide +kernel
theorem d_Rf_broken_56 : decode b_Rf_broken 56 = .ok (.aload_n 0, 1) := by decide +kernel
theorem d_Rf_broken_57 : decode b_Rf_broken 57 = .ok (.getfield 7, 3) := by decide +kernel
theorem d_Rf_broken_60 : decode b_Rf_broken 60 = .ok (.iload 5, 2) := by decide +kernel
theorem d_Rf_broken_62 : decode b_Rf_broken 62 = .ok (.iaload, 1) := by decide +kernel
theorem d_Rf_broken_63 : decode b_Rf_broken 63 = .ok (.aload_n 0, 1) := by decide +kernel
theorem d_Rf_broken_64 : decode b_Rf_broken 64 = .ok (.getfield 69, 3) := by decide +kernel
theorem d_Rf_broken_67 : decode b_Rf_broken 67 = .ok (.iload 4, 2) := by decide +kernel
theorem d_Rf_broken_69 : decode b_Rf_broken 69 = .ok (.iaload, 1) := by decide +kernel
theorem d_Rf_broken_70 : decode b_Rf_broken 70 = .ok (.if_icmp .ne 103, 3) := by decide +kernel
theorem d_Rf_broken_73 : decode b_Rf_broken 73 = .ok (.aload_n 0, 1) := by decide +kernel
theorem d_Rf_broken_74 : decode b_Rf_broken 74 = .ok (.iload_n 1, 1) := by decide +kernel
theorem d_Rf_broken_75 : decode b_Rf_broken 75 = .ok (.iload 5, 2) := by decide +kernel
theorem d_Rf_broken_77 : decode b_Rf_broken 77 = .ok (.invokevirtual 162, 3) := by decide +kernel
theorem d_Rf_broken_80 : decode b_Rf_broken 80 = .ok (.ifCond .eq 93, 3) := by decide +kernel
theorem d_Rf_broken_83 : decode b_Rf_broken 83 = .ok (.aload_n 0, 1) := by decide +kernel
theorem d_Rf_broken_84 : decode b_Rf_broken 84 = .ok (.getfield 24, 3) := by decide +kernel
theorem d_Rf_broken_87 : decode b_Rf_broken 87 = .ok (.iconst 5, 1) := by decide +kernel
theorem d_Rf_broken_88 : decode b_Rf_broken 88 = .ok (.bipush 60, 2) := by decide +kernel
theorem d_Rf_broken_90 : decode b_Rf_broken 90 = .ok (.iload_n 1, 1) := by decide +kernel
theorem d_Rf_broken_91 : decode b_Rf_broken 91 = .ok (.imul, 1) := by decide +kernel
theorem d_Rf_broken_92 : decode b_Rf_broken 92 = .ok (.iload 5, 2) := by decide +kernel
theorem d_Rf_broken_94 : decode b_Rf_broken 94 = .ok (.iadd, 1) := by decide +kernel
theorem d_Rf_broken_95 : decode b_Rf_broken 95 = .ok (.imul, 1) := by decide +kernel
theorem d_Rf_broken_96 : decode b_Rf_broken 96 = .ok (.aload_n 0, 1) := by decide +kernel
theorem d_Rf_broken_97 : decode b_Rf_broken 97 = .ok (.getfield 72, 3) := by decide +kernel
theorem d_Rf_broken_100 : decode b_Rf_broken 100 = .ok (.iload 4, 2) := by decide +kernel
theorem d_Rf_broken_102 : decode b_Rf_broken 102 = .ok (.iaload, 1) := by decide +kernel
theorem d_Rf_broken_103 : decode b_Rf_broken 103 = .ok (.iadd, 1) := by decide +kernel
theorem d_Rf_broken_104 : decode b_Rf_broken 104 = .ok (.iaload, 1) := by decide +kernel
theorem d_Rf_broken_105 : decode b_Rf_broken 105 = .ok (.istore 6, 2) := by decide +kernel
theorem d_Rf_broken_107 : decode b_Rf_broken 107 = .ok (.aload_n 0, 1) := by decide +kernel
theorem d_Rf_broken_108 : decode b_Rf_broken 108 = .ok (.iload_n 1, 1) := by decide +kernel
theorem d_Rf_broken_109 : decode b_Rf_broken 109 = .ok (.iload 6, 2) := by decide +kernel
theorem d_Rf_broken_111 : decode b_Rf_broken 111 = .ok (.invokevirtual 162, 3) := by decide +kernel
theorem d_Rf_broken_114 : decode b_Rf_broken 114 = .ok (.ifCond .eq 24, 3) := by decide +kernel
theorem d_Rf_broken_117 : decode b_Rf_broken 117 = .ok (.aload_n 0, 1) := by decide +kernel
theorem d_Rf_broken_118 : decode b_Rf_broken 118 = .ok (.getfield 7, 3) := by decide +kernel
theorem d_Rf_broken_121 : decode b_Rf_broken 121 = .ok (.iload 6, 2) := by decide +kernel
theorem d_Rf_broken_123 : decode b_Rf_broken 123 = .ok (.iaload, 1) := by decide +kernel
theorem d_Rf_broken_124 : decode b_Rf_broken 124 = .ok (.aload_n 0, 1) := by decide +kernel
theorem d_Rf_broken_125 : decode b_Rf_broken 125 = .ok (.getfield 75, 3) := by decide +kernel
theorem d_Rf_broken_128 : decode b_Rf_broken 128 = .ok (.iload 4, 2) := by decide +kernel
theorem d_Rf_broken_130 : decode b_Rf_broken 130 = .ok (.iaload, 1) := by decide +kernel
theorem d_Rf_broken_131 : decode b_Rf_broken 131 = .ok (.if_icmp .ne 7, 3) := by decide +kernel
theorem d_Rf_broken_134 : decode b_Rf_broken 134 = .ok (.iconst 1, 1) := by decide +kernel
theorem d_Rf_broken_135 : decode b_Rf_broken 135 = .ok (.goto 4, 3) := by decide +kernel
theorem d_Rf_broken_138 : decode b_Rf_broken 138 = .ok (.iconst 0, 1) := by decide +kernel
theorem d_Rf_broken_139 : decode b_Rf_broken 139 = .ok (.istore 7, 2) := by decide +kernel
theorem d_Rf_broken_141 : decode b_Rf_broken 141 = .ok (.iload 7, 2) := by decide +kernel
theorem d_Rf_broken_143 : decode b_Rf_broken 143 = .ok (.ifCond .ne 17, 3) := by decide +kernel
theorem d_Rf_broken_146 : decode b_Rf_broken 146 = .ok (.iload_n 3, 1) := by decide +kernel
theorem d_Rf_broken_147 : decode b_Rf_broken 147 = .ok (.iload_n 2, 1) := by decide +kernel
theorem d_Rf_broken_148 : decode b_Rf_broken 148 = .ok (.if_icmp .ne 12, 3) := by decide +kernel
theorem d_Rf_broken_151 : decode b_Rf_broken 151 = .ok (.bipush 60, 2) := by decide +kernel
theorem d_Rf_broken_153 : decode b_Rf_broken 153 = .ok (.iload 4, 2) := by decide +kernel
theorem d_Rf_broken_155 : decode b_Rf_broken 155 = .ok (.imul, 1) := by decide +kernel
theorem d_Rf_broken_156 : decode b_Rf_broken 156 = .ok (.iload 5, 2) := by decide +kernel
theorem d_Rf_broken_158 : decode b_Rf_broken 158 = .ok (.iadd, 1) := by decide +kernel
theorem d_Rf_broken_159 : decode b_Rf_broken 159 = .ok (.ireturn, 1) := by decide +kernel
theorem d_Rf_broken_160 : decode b_Rf_broken 160 = .ok (.iload_n 3, 1) := by decide +kernel
theorem d_Rf_broken_161 : decode b_Rf_broken 161 = .ok (.iload 7, 2) := by decide +kernel
theorem d_Rf_broken_163 : decode b_Rf_broken 163 = .ok (.ifCond .eq 7, 3) := by decide +kernel
theorem d_Rf_broken_166 : decode b_Rf_broken 166 = .ok (.iconst 0, 1) := by decide +kernel
theorem d_Rf_broken_167 : decode b_Rf_broken 167 = .ok (.goto 4, 3) := by decide +kernel
theorem d_Rf_broken_170 : decode b_Rf_broken 170 = .ok (.iconst 1, 1) := by decide +kernel
theorem d_Rf_broken_171 : decode b_Rf_broken 171 = .ok (.iadd, 1) := by decide +kernel
theorem d_Rf_broken_172 : decode b_Rf_broken 172 = .ok (.istore_n 3, 1) := by decide +kernel
theorem d_Rf_broken_173 : decode b_Rf_broken 173 = .ok (.iinc 5 1, 3) := by decide +kernel
theorem d_Rf_broken_176 : decode b_Rf_broken 176 = .ok (.goto (-129), 3) := by decide +kernel
theorem d_Rf_broken_179 : decode b_Rf_broken 179 = .ok (.iinc 4 1, 3) := by decide +kernel
theorem d_Rf_broken_182 : decode b_Rf_broken 182 = .ok (.goto (-147), 3) := by decide +kernel
theorem d_Rf_broken_185 : decode b_Rf_broken 185 = .ok (.iconst (-1), 1) := by decide +kernel
theorem d_Rf_broken_186 : decode b_Rf_broken 186 = .ok (.ireturn, 1) := by decide +kernel
theorem d_Cf_init_0 : decode b_Cf_init 0 = .ok (.aload_n 0, 1) := by decide +kernel
theorem d_Cf_init_1 : decode b_Cf_init 1 = .ok (.invokespecial 3, 3) := by decide +kernel
theorem d_Cf_init_4 : decode b_Cf_init 4 = .ok (.aload_n 0, 1) := by decide +kernel
theorem d_Cf_init_5 : decode b_Cf_init 5 = .ok (.sipush 300, 3) := by decide +kernel
theorem d_Cf_init_8 : decode b_Cf_init 8 = .ok (.newarray .int, 2) := by decide +kernel
theorem d_Cf_init_10 : decode b_Cf_init 10 = .ok (.putfield 11, 3) := by decide +kernel
theorem d_Cf_init_13 : decode b_Cf_init 13 = .ok (.aload_n 0, 1) := by decide +kernel
theorem d_Cf_init_14 : decode b_Cf_init 14 = .ok (.sipush 300, 3) := by decide +kernel
theorem d_Cf_init_17 : decode b_Cf_init 17 = .ok (.newarray .int, 2) := by decide +kernel
theorem d_Cf_init_19 : decode b_Cf_init 19 = .ok (.putfield 15, 3) := by decide +kernel
theorem d_Cf_init_22 : decode b_Cf_init 22 = .ok (.aload_n 0, 1) := by decide +kernel
theorem d_Cf_init_23 : decode b_Cf_init 23 = .ok (.sipush 300, 3) := by decide +kernel
theorem d_Cf_init_26 : decode b_Cf_init 26 = .ok (.newarray .int, 2) := by decide +kernel
theorem d_Cf_init_28 : decode b_Cf_init 28 = .ok (.putfield 18, 3) := by decide +kernel
theorem d_Cf_init_31 : decode b_Cf_init 31 = .ok (.aload_n 0, 1) := by decide +kernel
theorem d_Cf_init_32 : decode b_Cf_init 32 = .ok (.iconst 0, 1) := by decide +kernel
theorem d_Cf_init_33 : decode b_Cf_init 33 = .ok (.putfield 21, 3) := by decide +kernel
theorem d_Cf_init_36 : decode b_Cf_init 36 = .ok (.return_, 1) := by decide +kernel
theorem d_Cf_clear_0 : decode b_Cf_clear 0 = .ok (.aload_n 0, 1) := by decide +kernel
theorem d_Cf_clear_1 : decode b_Cf_clear 1 = .ok (.iconst 0, 1) := by decide +kernel
theorem d_Cf_clear_2 : decode b_Cf_clear 2 = .ok (.putfield 21, 3) := by decide +kernel
theorem d_Cf_clear_5 : decode b_Cf_clear 5 = .ok (.return_, 1) := by decide +kernel
end
section
theorem d_Cf_add_0 : decode b_Cf_add 0 = .ok (.aload_n 0, 1) := by decide +kernel
theorem d_Cf_add_1 : decode b_Cf_add 1 = .ok (.getfield 21, 3) := by decide +kernel
theorem d_Cf_add_4 : decode b_Cf_add 4 = .ok (.sipush 300, 3) := by decide +kernel
theorem d_Cf_add_7 : decode b_Cf_add 7 = .ok (.if_icmp .ge 43, 3) := by decide +kernel
theorem d_Cf_add_10 : decode b_Cf_add 10 = .ok (.aload_n 0, 1) := by decide +kernel
theorem d_Cf_add_11 : decode b_Cf_add 11 = .ok (.getfield 11, 3) := by decide +kernel
theorem d_Cf_add_14 : decode b_Cf_add 14 = .ok (.aload_n 0, 1) := by decide +kernel
theorem d_Cf_add_15 : decode b_Cf_add 15 = .ok (.getfield 21, 3) := by decide +kernel
theorem d_Cf_add_18 : decode b_Cf_add 18 = .ok (.iload_n 1, 1) := by decide +kernel
theorem d_Cf_add_19 : decode b_Cf_add 19 = .ok (.iastore, 1) := by decide +kernel
theorem d_Cf_add_20 : decode b_Cf_add 20 = .ok (.aload_n 0, 1) := by decide +kernel
theorem d_Cf_add_21 : decode b_Cf_add 21 = .ok (.getfield 15, 3) := by decide +kernel
theorem d_Cf_add_24 : decode b_Cf_add 24 = .ok (.aload_n 0, 1) := by decide +kernel
theorem d_Cf_add_25 : decode b_Cf_add 25 = .ok (.getfield 21, 3) := by decide +kernel
theorem d_Cf_add_28 : decode b_Cf_add 28 = .ok (.iload_n 2, 1) := by decide +kernel
theorem d_Cf_add_29 : decode b_Cf_add 29 = .ok (.iastore, 1) := by decide +kernel
theorem d_Cf_add_30 : decode b_Cf_add 30 = .ok (.aload_n 0, 1) := by decide +kernel
theorem d_Cf_add_31 : decode b_Cf_add 31 = .ok (.getfield 18, 3) := by decide +kernel
theorem d_Cf_add_34 : decode b_Cf_add 34 = .ok (.aload_n 0, 1) := by decide +kernel
theorem d_Cf_add_35 : decode b_Cf_add 35 = .ok (.getfield 21, 3) := by decide +kernel
theorem d_Cf_add_38 : decode b_Cf_add 38 = .ok (.iconst (-1), 1) := by decide +kernel
theorem d_Cf_add_39 : decode b_Cf_add 39 = .ok (.iastore, 1) := by decide +kernel
theorem d_Cf_add_40 : decode b_Cf_add 40 = .ok (.aload_n 0, 1) := by decide +kernel
theorem d_Cf_add_41 : decode b_Cf_add 41 = .ok (.dup, 1) := by decide +kernel
theorem d_Cf_add_42 : decode b_Cf_add 42 = .ok (.getfield 21, 3) := by decide +kernel
theorem d_Cf_add_45 : decode b_Cf_add 45 = .ok (.iconst 1, 1) := by decide +kernel
theorem d_Cf_add_46 : decode b_Cf_add 46 = .ok (.iadd, 1) := by decide +kernel
theorem d_Cf_add_47 : decode b_Cf_add 47 = .ok (.putfield 21, 3) := by decide +kernel
theorem d_Cf_add_50 : decode b_Cf_add 50 = .ok (.return_, 1) := by decide +kernel
theorem d_Cf_choose_0 : decode b_Cf_choose 0 = .ok (.aload_n 0, 1) := by decide +kernel
theorem d_Cf_choose_1 : decode b_Cf_choose 1 = .ok (.iload_n 1, 1) := by decide +kernel
theorem d_Cf_choose_2 : decode b_Cf_choose 2 = .ok (.invokevirtual 25, 3) := by decide +kernel
theorem d_Cf_choose_5 : decode b_Cf_choose 5 = .ok (.ifCond .eq 10, 3) := by decide +kernel
theorem d_Cf_choose_8 : decode b_Cf_choose 8 = .ok (.aload_n 0, 1) := by decide +kernel
theorem d_Cf_choose_9 : decode b_Cf_choose 9 = .ok (.getfield 18, 3) := by decide +kernel
theorem d_Cf_choose_12 : decode b_Cf_choose 12 = .ok (.iload_n 1, 1) := by decide +kernel
theorem d_Cf_choose_13 : decode b_Cf_choose 13 = .ok (.iload_n 2, 1) := by decide +kernel
theorem d_Cf_choose_14 : decode b_Cf_choose 14 = .ok (.iastore, 1) := by decide +kernel
theorem d_Cf_choose_15 : decode b_Cf_choose 15 = .ok (.return_, 1) := by decide +kernel
theorem d_Cf_thingOf_0 : decode b_Cf_thingOf 0 = .ok (.aload_n 0, 1) := by decide +kernel
theorem d_Cf_thingOf_1 : decode b_Cf_thingOf 1 = .ok (.iload_n 1, 1) := by decide +kernel
theorem d_Cf_thingOf_2 : decode b_Cf_thingOf 2 = .ok (.invokevirtual 25, 3) := by decide +kernel
theorem d_Cf_thingOf_5 : decode b_Cf_thingOf 5 = .ok (.ifCond .eq 12, 3) := by decide +kernel
theorem d_Cf_thingOf_8 : decode b_Cf_thingOf 8 = .ok (.aload_n 0, 1) := by decide +kernel
theorem d_Cf_thingOf_9 : decode b_Cf_thingOf 9 = .ok (.getfield 11, 3) := by decide +kernel
theorem d_Cf_thingOf_12 : decode b_Cf_thingOf 12 = .ok (.iload_n 1, 1) := by decide +kernel
theorem d_Cf_thingOf_13 : decode b_Cf_thingOf 13 = .ok (.iaload, 1) := by decide +kernel
theorem d_Cf_thingOf_14 : decode b_Cf_thingOf 14 = .ok (.goto 4, 3) := by decide +kernel
theorem d_Cf_thingOf_17 : decode b_Cf_thingOf 17 = .ok (.iconst (-1), 1) := by decide +kernel
theorem d_Cf_thingOf_18 : decode b_Cf_thingOf 18 = .ok (.ireturn, 1) := by decide +kernel
theorem d_Cf_fieldOf_0 : decode b_Cf_fieldOf 0 = .ok (.aload_n 0, 1) := by decide +kernel
theorem d_Cf_fieldOf_1 : decode b_Cf_fieldOf 1 = .ok (.iload_n 1, 1) := by decide +kernel
theorem d_Cf_fieldOf_2 : decode b_Cf_fieldOf 2 = .ok (.invokevirtual 25, 3) := by decide +kernel
theorem d_Cf_fieldOf_5 : decode b_Cf_fieldOf 5 = .ok (.ifCond .eq 12, 3) := by decide +kernel
theorem d_Cf_fieldOf_8 : decode b_Cf_fieldOf 8 = .ok (.aload_n 0, 1) := by decide +kernel
theorem d_Cf_fieldOf_9 : decode b_Cf_fieldOf 9 = .ok (.getfield 15, 3) := by decide +kernel
theorem d_Cf_fieldOf_12 : decode b_Cf_fieldOf 12 = .ok (.iload_n 1, 1) := by decide +kernel
theorem d_Cf_fieldOf_13 : decode b_Cf_fieldOf 13 = .ok (.iaload, 1) := by decide +kernel
theorem d_Cf_fieldOf_14 : decode b_Cf_fieldOf 14 = .ok (.goto 4, 3) := by decide +kernel
theorem d_Cf_fieldOf_17 : decode b_Cf_fieldOf 17 = .ok (.iconst (-1), 1) := by decide +kernel
theorem d_Cf_fieldOf_18 : decode b_Cf_fieldOf 18 = .ok (.ireturn, 1) := by decide +kernel
theorem d_Cf_sideOf_0 : decode b_Cf_sideOf 0 = .ok (.aload_n 0, 1) := by decide +kernel
theorem d_Cf_sideOf_1 : decode b_Cf_sideOf 1 = .ok (.iload_n 1, 1) := by decide +kernel
theorem d_Cf_sideOf_2 : decode b_Cf_sideOf 2 = .ok (.invokevirtual 25, 3) := by decide +kernel
theorem d_Cf_sideOf_5 : decode b_Cf_sideOf 5 = .ok (.ifCond .eq 12, 3) := by decide +kernel
theorem d_Cf_sideOf_8 : decode b_Cf_sideOf 8 = .ok (.aload_n 0, 1) := by decide +kernel
theorem d_Cf_sideOf_9 : decode b_Cf_sideOf 9 = .ok (.getfield 18, 3) := by decide +kernel
theorem d_Cf_sideOf_12 : decode b_Cf_sideOf 12 = .ok (.iload_n 1, 1) := by decide +kernel
theorem d_Cf_sideOf_13 : decode b_Cf_sideOf 13 = .ok (.iaload, 1) := by decide +kernel
theorem d_Cf_sideOf_14 : decode b_Cf_sideOf 14 = .ok (.goto 4, 3) := by decide +kernel
theorem d_Cf_sideOf_17 : decode b_Cf_sideOf 17 = .ok (.iconst (-1), 1) := by decide +kernel
theorem d_Cf_sideOf_18 : decode b_Cf_sideOf 18 = .ok (.ireturn, 1) := by decide +kernel
theorem d_Cf_countUnsettled_0 : decode b_Cf_countUnsettled 0 = .ok (.iconst 0, 1) := by decide +kernel
theorem d_Cf_countUnsettled_1 : decode b_Cf_countUnsettled 1 = .ok (.istore_n 1, 1) := by decide +kernel
theorem d_Cf_countUnsettled_2 : decode b_Cf_countUnsettled 2 = .ok (.iconst 0, 1) := by decide +kernel
theorem d_Cf_countUnsettled_3 : decode b_Cf_countUnsettled 3 = .ok (.istore_n 2, 1) := by decide +kernel
theorem d_Cf_countUnsettled_4 : decode b_Cf_countUnsettled 4 = .ok (.iload_n 2, 1) := by decide +kernel
theorem d_Cf_countUnsettled_5 : decode b_Cf_countUnsettled 5 = .ok (.aload_n 0, 1) := by decide +kernel
theorem d_Cf_countUnsettled_6 : decode b_Cf_countUnsettled 6 = .ok (.getfield 21, 3) := by decide +kernel
theorem d_Cf_countUnsettled_9 : decode b_Cf_countUnsettled 9 = .ok (.if_icmp .ge 21, 3) := by decide +kernel
theorem d_Cf_countUnsettled_12 : decode b_Cf_countUnsettled 12 = .ok (.aload_n 0, 1) := by decide +kernel
theorem d_Cf_countUnsettled_13 : decode b_Cf_countUnsettled 13 = .ok (.iload_n 2, 1) := by decide +kernel
theorem d_Cf_countUnsettled_14 : decode b_Cf_countUnsettled 14 = .ok (.invokevirtual 29, 3) := by decide +kernel
theorem d_Cf_countUnsettled_17 : decode b_Cf_countUnsettled 17 = .ok (.iconst (-1), 1) := by decide +kernel
theorem d_Cf_countUnsettled_18 : decode b_Cf_countUnsettled 18 = .ok (.if_icmp .ne 6, 3) := by decide +kernel
theorem d_Cf_countUnsettled_21 : decode b_Cf_countUnsettled 21 = .ok (.iinc 1 1, 3) := by decide +kernel
theorem d_Cf_countUnsettled_24 : decode b_Cf_countUnsettled 24 = .ok (.iinc 2 1, 3) := by decide +kernel
theorem d_Cf_countUnsettled_27 : decode b_Cf_countUnsettled 27 = .ok (.goto (-23), 3) := by decide +kernel
theorem d_Cf_countUnsettled_30 : decode b_Cf_countUnsettled 30 = .ok (.iload_n 1, 1) := by decide +kernel
theorem d_Cf_countUnsettled_31 : decode b_Cf_countUnsettled 31 = .ok (.ireturn, 1) := by decide +kernel
theorem d_Cf_isKnown_0 : decode b_Cf_isKnown 0 = .ok (.iload_n 1, 1) := by decide +kernel
theorem d_Cf_isKnown_1 : decode b_Cf_isKnown 1 = .ok (.ifCond .lt 22, 3) := by decide +kernel
theorem d_Cf_isKnown_4 : decode b_Cf_isKnown 4 = .ok (.iload_n 1, 1) := by decide +kernel
theorem d_Cf_isKnown_5 : decode b_Cf_isKnown 5 = .ok (.aload_n 0, 1) := by decide +kernel
theorem d_Cf_isKnown_6 : decode b_Cf_isKnown 6 = .ok (.getfield 21, 3) := by decide +kernel
theorem d_Cf_isKnown_9 : decode b_Cf_isKnown 9 = .ok (.if_icmp .ge 14, 3) := by decide +kernel
theorem d_Cf_isKnown_12 : decode b_Cf_isKnown 12 = .ok (.iload_n 1, 1) := by decide +kernel
theorem d_Cf_isKnown_13 : decode b_Cf_isKnown 13 = .ok (.sipush 300, 3) := by decide +kernel
theorem d_Cf_isKnown_16 : decode b_Cf_isKnown 16 = .ok (.if_icmp .ge 7, 3) := by decide +kernel
theorem d_Cf_isKnown_19 : decode b_Cf_isKnown 19 = .ok (.iconst 1, 1) := by decide +kernel
theorem d_Cf_isKnown_20 : decode b_Cf_isKnown 20 = .ok (.goto 4, 3) := by decide +kernel
theorem d_Cf_isKnown_23 : decode b_Cf_isKnown 23 = .ok (.iconst 0, 1) := by decide +kernel
theorem d_Cf_isKnown_24 : decode b_Cf_isKnown 24 = .ok (.ireturn, 1) := by decide +kernel
theorem d_Mo_init_0 : decode b_Mo_init 0 = .ok (.aload_n 0, 1) := by decide +kernel
theorem d_Mo_init_1 : decode b_Mo_init 1 = .ok (.invokespecial 1, 3) := by decide +kernel
theorem d_Mo_init_4 : decode b_Mo_init 4 = .ok (.aload_n 0, 1) := by decide +kernel
theorem d_Mo_init_5 : decode b_Mo_init 5 = .ok (.aconst_null, 1) := by decide +kernel
theorem d_Mo_init_6 : decode b_Mo_init 6 = .ok (.putfield 7, 3) := by decide +kernel
theorem d_Mo_init_9 : decode b_Mo_init 9 = .ok (.aload_n 0, 1) := by decide +kernel
theorem d_Mo_init_10 : decode b_Mo_init 10 = .ok (.iload_n 1, 1) := by decide +kernel
theorem d_Mo_init_11 : decode b_Mo_init 11 = .ok (.putfield 13, 3) := by decide +kernel
theorem d_Mo_init_14 : decode b_Mo_init 14 = .ok (.aload_n 0, 1) := by decide +kernel
theorem d_Mo_init_15 : decode b_Mo_init 15 = .ok (.aload_n 2, 1) := by decide +kernel
theorem d_Mo_init_16 : decode b_Mo_init 16 = .ok (.putfield 17, 3) := by decide +kernel
theorem d_Mo_init_19 : decode b_Mo_init 19 = .ok (.aload_n 0, 1) := by decide +kernel
theorem d_Mo_init_20 : decode b_Mo_init 20 = .ok (.iload_n 3, 1) := by decide +kernel
theorem d_Mo_init_21 : decode b_Mo_init 21 = .ok (.putfield 20, 3) := by decide +kernel
theorem d_Mo_init_24 : decode b_Mo_init 24 = .ok (.aload_n 0, 1) := by decide +kernel
theorem d_Mo_init_25 : decode b_Mo_init 25 = .ok (.iload 4, 2) := by decide +kernel
theorem d_Mo_init_27 : decode b_Mo_init 27 = .ok (.putfield 23, 3) := by decide +kernel
theorem d_Mo_init_30 : decode b_Mo_init 30 = .ok (.aload_n 0, 1) := by decide +kernel
theorem d_Mo_init_31 : decode b_Mo_init 31 = .ok (.iload 5, 2) := by decide +kernel
theorem d_Mo_init_33 : decode b_Mo_init 33 = .ok (.putfield 26, 3) := by decide +kernel
theorem d_Mo_init_36 : decode b_Mo_init 36 = .ok (.aload_n 0, 1) := by decide +kernel
theorem d_Mo_init_37 : decode b_Mo_init 37 = .ok (.iload 6, 2) := by decide +kernel
theorem d_Mo_init_39 : decode b_Mo_init 39 = .ok (.putfield 29, 3) := by decide +kernel
theorem d_Mo_init_42 : decode b_Mo_init 42 = .ok (.return_, 1) := by decide +kernel
theorem d_Ru_init_0 : decode b_Ru_init 0 = .ok (.aload_n 0, 1) := by decide +kernel
theorem d_Ru_init_1 : decode b_Ru_init 1 = .ok (.invokespecial 1, 3) := by decide +kernel
theorem d_Ru_init_4 : decode b_Ru_init 4 = .ok (.aload_n 0, 1) := by decide +kernel
theorem d_Ru_init_5 : decode b_Ru_init 5 = .ok (.iload_n 1, 1) := by decide +kernel
theorem d_Ru_init_6 : decode b_Ru_init 6 = .ok (.putfield 7, 3) := by decide +kernel
theorem d_Ru_init_9 : decode b_Ru_init 9 = .ok (.aload_n 0, 1) := by decide +kernel
theorem d_Ru_init_10 : decode b_Ru_init 10 = .ok (.iload_n 2, 1) := by decide +kernel
theorem d_Ru_init_11 : decode b_Ru_init 11 = .ok (.putfield 13, 3) := by decide +kernel
theorem d_Ru_init_14 : decode b_Ru_init 14 = .ok (.aload_n 0, 1) := by decide +kernel
theorem d_Ru_init_15 : decode b_Ru_init 15 = .ok (.iload_n 3, 1) := by decide +kernel
theorem d_Ru_init_16 : decode b_Ru_init 16 = .ok (.putfield 16, 3) := by decide +kernel
theorem d_Ru_init_19 : decode b_Ru_init 19 = .ok (.return_, 1) := by decide +kernel
theorem d_Se_init_0 : decode b_Se_init 0 = .ok (.aload_n 0, 1) := by decide +kernel
theorem d_Se_init_1 : decode b_Se_init 1 = .ok (.invokespecial 3, 3) := by decide +kernel
theorem d_Se_init_4 : decode b_Se_init 4 = .ok (.aload_n 0, 1) := by decide +kernel
theorem d_Se_init_5 : decode b_Se_init 5 = .ok (.new 9, 3) := by decide +kernel
theorem d_Se_init_8 : decode b_Se_init 8 = .ok (.dup, 1) := by decide +kernel
theorem d_Se_init_9 : decode b_Se_init 9 = .ok (.invokespecial 11, 3) := by decide +kernel
theorem d_Se_init_12 : decode b_Se_init 12 = .ok (.putfield 12, 3) := by decide +kernel
theorem d_Se_init_15 : decode b_Se_init 15 = .ok (.aload_n 0, 1) := by decide +kernel
theorem d_Se_init_16 : decode b_Se_init 16 = .ok (.new 18, 3) := by decide +kernel
theorem d_Se_init_19 : decode b_Se_init 19 = .ok (.dup, 1) := by decide +kernel
theorem d_Se_init_20 : decode b_Se_init 20 = .ok (.iconst 0, 1) := by decide +kernel
theorem d_Se_init_21 : decode b_Se_init 21 = .ok (.aconst_null, 1) := by decide +kernel
theorem d_Se_init_22 : decode b_Se_init 22 = .ok (.iconst (-1), 1) := by decide +kernel
theorem d_Se_init_23 : decode b_Se_init 23 = .ok (.iconst (-1), 1) := by decide +kernel
theorem d_Se_init_24 : decode b_Se_init 24 = .ok (.iconst 0, 1) := by decide +kernel
theorem d_Se_init_25 : decode b_Se_init 25 = .ok (.iconst 0, 1) := by decide +kernel
theorem d_Se_init_26 : decode b_Se_init 26 = .ok (.invokespecial 20, 3) := by decide +kernel
theorem d_Se_init_29 : decode b_Se_init 29 = .ok (.putfield 23, 3) := by decide +kernel
theorem d_Se_init_32 : decode b_Se_init 32 = .ok (.aload_n 0, 1) := by decide +kernel
theorem d_Se_init_33 : decode b_Se_init 33 = .ok (.iconst 1, 1) := by decide +kernel
theorem d_Se_init_34 : decode b_Se_init 34 = .ok (.putfield 27, 3) := by decide +kernel
theorem d_Se_init_37 : decode b_Se_init 37 = .ok (.aload_n 0, 1) := by decide +kernel
theorem d_Se_init_38 : decode b_Se_init 38 = .ok (.iconst 0, 1) := by decide +kernel
theorem d_Se_init_39 : decode b_Se_init 39 = .ok (.putfield 31, 3) := by decide +kernel
theorem d_Se_init_42 : decode b_Se_init 42 = .ok (.aload_n 0, 1) := by decide +kernel
theorem d_Se_init_43 : decode b_Se_init 43 = .ok (.iconst (-1), 1) := by decide +kernel
theorem d_Se_init_44 : decode b_Se_init 44 = .ok (.putfield 34, 3) := by decide +kernel
theorem d_Se_init_47 : decode b_Se_init 47 = .ok (.aload_n 0, 1) := by decide +kernel
theorem d_Se_init_48 : decode b_Se_init 48 = .ok (.iload_n 1, 1) := by decide +kernel
theorem d_Se_init_49 : decode b_Se_init 49 = .ok (.putfield 37, 3) := by decide +kernel
theorem d_Se_init_52 : decode b_Se_init 52 = .ok (.aload_n 0, 1) := by decide +kernel
theorem d_Se_init_53 : decode b_Se_init 53 = .ok (.iload_n 2, 1) := by decide +kernel
theorem d_Se_init_54 : decode b_Se_init 54 = .ok (.putfield 40, 3) := by decide +kernel
theorem d_Se_init_57 : decode b_Se_init 57 = .ok (.aload_n 0, 1) := by decide +kernel
theorem d_Se_init_58 : decode b_Se_init 58 = .ok (.aload_n 3, 1) := by decide +kernel
theorem d_Se_init_59 : decode b_Se_init 59 = .ok (.putfield 43, 3) := by decide +kernel
theorem d_Se_init_62 : decode b_Se_init 62 = .ok (.aload_n 0, 1) := by decide +kernel
theorem d_Se_init_63 : decode b_Se_init 63 = .ok (.getfield 12, 3) := by decide +kernel
theorem d_Se_init_66 : decode b_Se_init 66 = .ok (.aload_n 3, 1) := by decide +kernel
theorem d_Se_init_67 : decode b_Se_init 67 = .ok (.getfield 47, 3) := by decide +kernel
theorem d_Se_init_70 : decode b_Se_init 70 = .ok (.invokevirtual 50, 3) := by decide +kernel
theorem d_Se_init_73 : decode b_Se_init 73 = .ok (.return_, 1) := by decide +kernel
theorem d_Se_isFull_0 : decode b_Se_isFull 0 = .ok (.aload_n 0, 1) := by decide +kernel
theorem d_Se_isFull_1 : decode b_Se_isFull 1 = .ok (.getfield 27, 3) := by decide +kernel
theorem d_Se_isFull_4 : decode b_Se_isFull 4 = .ok (.bipush 60, 2) := by decide +kernel
theorem d_Se_isFull_6 : decode b_Se_isFull 6 = .ok (.if_icmp .lt 7, 3) := by decide +kernel
theorem d_Se_isFull_9 : decode b_Se_isFull 9 = .ok (.iconst 1, 1) := by decide +kernel
theorem d_Se_isFull_10 : decode b_Se_isFull 10 = .ok (.goto 4, 3) := by decide +kernel
theorem d_Se_isFull_13 : decode b_Se_isFull 13 = .ok (.iconst 0, 1) := by decide +kernel
theorem d_Se_isFull_14 : decode b_Se_isFull 14 = .ok (.ireturn, 1) := by decide +kernel
theorem d_Se_change_0 : decode b_Se_change 0 = .ok (.aload_n 0, 1) := by decide +kernel
theorem d_Se_change_1 : decode b_Se_change 1 = .ok (.getfield 12, 3) := by decide +kernel
theorem d_Se_change_4 : decode b_Se_change 4 = .ok (.iload_n 1, 1) := by decide +kernel
theorem d_Se_change_5 : decode b_Se_change 5 = .ok (.iload_n 2, 1) := by decide +kernel
theorem d_Se_change_6 : decode b_Se_change 6 = .ok (.invokevirtual 54, 3) := by decide +kernel
theorem d_Se_change_9 : decode b_Se_change 9 = .ok (.istore 4, 2) := by decide +kernel
theorem d_Se_change_11 : decode b_Se_change 11 = .ok (.new 18, 3) := by decide +kernel
theorem d_Se_change_14 : decode b_Se_change 14 = .ok (.dup, 1) := by decide +kernel
theorem d_Se_change_15 : decode b_Se_change 15 = .ok (.aload_n 0, 1) := by decide +kernel
theorem d_Se_change_16 : decode b_Se_change 16 = .ok (.getfield 27, 3) := by decide +kernel
theorem d_Se_change_19 : decode b_Se_change 19 = .ok (.aload_n 0, 1) := by decide +kernel
theorem d_Se_change_20 : decode b_Se_change 20 = .ok (.getfield 23, 3) := by decide +kernel
theorem d_Se_change_23 : decode b_Se_change 23 = .ok (.iload_n 1, 1) := by decide +kernel
theorem d_Se_change_24 : decode b_Se_change 24 = .ok (.iload_n 2, 1) := by decide +kernel
theorem d_Se_change_25 : decode b_Se_change 25 = .ok (.iload 4, 2) := by decide +kernel
theorem d_Se_change_27 : decode b_Se_change 27 = .ok (.iload_n 3, 1) := by decide +kernel
theorem d_Se_change_28 : decode b_Se_change 28 = .ok (.invokespecial 20, 3) := by decide +kernel
theorem d_Se_change_31 : decode b_Se_change 31 = .ok (.astore 5, 2) := by decide +kernel
theorem d_Se_change_33 : decode b_Se_change 33 = .ok (.aload_n 0, 1) := by decide +kernel
theorem d_Se_change_34 : decode b_Se_change 34 = .ok (.getfield 23, 3) := by decide +kernel
theorem d_Se_change_37 : decode b_Se_change 37 = .ok (.aload 5, 2) := by decide +kernel
theorem d_Se_change_39 : decode b_Se_change 39 = .ok (.putfield 58, 3) := by decide +kernel
theorem d_Se_change_42 : decode b_Se_change 42 = .ok (.aload_n 0, 1) := by decide +kernel
theorem d_Se_change_43 : decode b_Se_change 43 = .ok (.dup, 1) := by decide +kernel
theorem d_Se_change_44 : decode b_Se_change 44 = .ok (.getfield 27, 3) := by decide +kernel
theorem d_Se_change_47 : decode b_Se_change 47 = .ok (.iconst 1, 1) := by decide +kernel
theorem d_Se_change_48 : decode b_Se_change 48 = .ok (.iadd, 1) := by decide +kernel
theorem d_Se_change_49 : decode b_Se_change 49 = .ok (.putfield 27, 3) := by decide +kernel
theorem d_Se_change_52 : decode b_Se_change 52 = .ok (.aload_n 0, 1) := by decide +kernel
theorem d_Se_change_53 : decode b_Se_change 53 = .ok (.invokevirtual 61, 3) := by decide +kernel
theorem d_Se_change_56 : decode b_Se_change 56 = .ok (.ireturn, 1) := by decide +kernel
theorem d_Se_stepForward_0 : decode b_Se_stepForward 0 = .ok (.aload_n 0, 1) := by decide +kernel
theorem d_Se_stepForward_1 : decode b_Se_stepForward 1 = .ok (.getfield 23, 3) := by decide +kernel
theorem d_Se_stepForward_4 : decode b_Se_stepForward 4 = .ok (.getfield 58, 3) := by decide +kernel
theorem d_Se_stepForward_7 : decode b_Se_stepForward 7 = .ok (.astore_n 1, 1) := by decide +kernel
theorem d_Se_stepForward_8 : decode b_Se_stepForward 8 = .ok (.aload_n 1, 1) := by decide +kernel
theorem d_Se_stepForward_9 : decode b_Se_stepForward 9 = .ok (.ifnonnull 5, 3) := by decide +kernel
theorem d_Se_stepForward_12 : decode b_Se_stepForward 12 = .ok (.iconst (-1), 1) := by decide +kernel
theorem d_Se_stepForward_13 : decode b_Se_stepForward 13 = .ok (.ireturn, 1) := by decide +kernel
theorem d_Se_stepForward_14 : decode b_Se_stepForward 14 = .ok (.aload_n 0, 1) := by decide +kernel
theorem d_Se_stepForward_15 : decode b_Se_stepForward 15 = .ok (.getfield 12, 3) := by decide +kernel
theorem d_Se_stepForward_18 : decode b_Se_stepForward 18 = .ok (.aload_n 1, 1) := by decide +kernel
theorem d_Se_stepForward_19 : decode b_Se_stepForward 19 = .ok (.getfield 65, 3) := by decide +kernel
theorem d_Se_stepForward_22 : decode b_Se_stepForward 22 = .ok (.aload_n 1, 1) := by decide +kernel
theorem d_Se_stepForward_23 : decode b_Se_stepForward 23 = .ok (.getfield 68, 3) := by decide +kernel
theorem d_Se_stepForward_26 : decode b_Se_stepForward 26 = .ok (.aload_n 1, 1) := by decide +kernel
theorem d_Se_stepForward_27 : decode b_Se_stepForward 27 = .ok (.getfield 71, 3) := by decide +kernel
theorem d_Se_stepForward_30 : decode b_Se_stepForward 30 = .ok (.invokevirtual 74, 3) := by decide +kernel
theorem d_Se_stepForward_33 : decode b_Se_stepForward 33 = .ok (.aload_n 0, 1) := by decide +kernel
theorem d_Se_stepForward_34 : decode b_Se_stepForward 34 = .ok (.aload_n 1, 1) := by decide +kernel
theorem d_Se_stepForward_35 : decode b_Se_stepForward 35 = .ok (.putfield 23, 3) := by decide +kernel
theorem d_Se_stepForward_38 : decode b_Se_stepForward 38 = .ok (.aload_n 1, 1) := by decide +kernel
theorem d_Se_stepForward_39 : decode b_Se_stepForward 39 = .ok (.getfield 78, 3) := by decide +kernel
theorem d_Se_stepForward_42 : decode b_Se_stepForward 42 = .ok (.ireturn, 1) := by decide +kernel
theorem d_Se_stepBack_0 : decode b_Se_stepBack 0 = .ok (.aload_n 0, 1) := by decide +kernel
theorem d_Se_stepBack_1 : decode b_Se_stepBack 1 = .ok (.getfield 23, 3) := by decide +kernel
theorem d_Se_stepBack_4 : decode b_Se_stepBack 4 = .ok (.astore_n 1, 1) := by decide +kernel
theorem d_Se_stepBack_5 : decode b_Se_stepBack 5 = .ok (.aload_n 1, 1) := by decide +kernel
theorem d_Se_stepBack_6 : decode b_Se_stepBack 6 = .ok (.getfield 79, 3) := by decide +kernel
theorem d_Se_stepBack_9 : decode b_Se_stepBack 9 = .ok (.astore_n 2, 1) := by decide +kernel
theorem d_Se_stepBack_10 : decode b_Se_stepBack 10 = .ok (.aload_n 2, 1) := by decide +kernel
theorem d_Se_stepBack_11 : decode b_Se_stepBack 11 = .ok (.ifnonnull 5, 3) := by decide +kernel
theorem d_Se_stepBack_14 : decode b_Se_stepBack 14 = .ok (.iconst (-1), 1) := by decide +kernel
theorem d_Se_stepBack_15 : decode b_Se_stepBack 15 = .ok (.ireturn, 1) := by decide +kernel
theorem d_Se_stepBack_16 : decode b_Se_stepBack 16 = .ok (.aload_n 0, 1) := by decide +kernel
theorem d_Se_stepBack_17 : decode b_Se_stepBack 17 = .ok (.getfield 12, 3) := by decide +kernel
theorem d_Se_stepBack_20 : decode b_Se_stepBack 20 = .ok (.aload_n 1, 1) := by decide +kernel
theorem d_Se_stepBack_21 : decode b_Se_stepBack 21 = .ok (.getfield 65, 3) := by decide +kernel
theorem d_Se_stepBack_24 : decode b_Se_stepBack 24 = .ok (.aload_n 1, 1) := by decide +kernel
theorem d_Se_stepBack_25 : decode b_Se_stepBack 25 = .ok (.getfield 68, 3) := by decide +kernel
theorem d_Se_stepBack_28 : decode b_Se_stepBack 28 = .ok (.aload_n 1, 1) := by decide +kernel
theorem d_Se_stepBack_29 : decode b_Se_stepBack 29 = .ok (.getfield 82, 3) := by decide +kernel
theorem d_Se_stepBack_32 : decode b_Se_stepBack 32 = .ok (.invokevirtual 74, 3) := by decide +kernel
theorem d_Se_stepBack_35 : decode b_Se_stepBack 35 = .ok (.aload_n 0, 1) := by decide +kernel
theorem d_Se_stepBack_36 : decode b_Se_stepBack 36 = .ok (.aload_n 2, 1) := by decide +kernel
theorem d_Se_stepBack_37 : decode b_Se_stepBack 37 = .ok (.putfield 23, 3) := by decide +kernel
theorem d_Se_stepBack_40 : decode b_Se_stepBack 40 = .ok (.aload_n 2, 1) := by decide +kernel
theorem d_Se_stepBack_41 : decode b_Se_stepBack 41 = .ok (.getfield 78, 3) := by decide +kernel
theorem d_Se_stepBack_44 : decode b_Se_stepBack 44 = .ok (.ireturn, 1) := by decide +kernel
theorem d_St_init_0 : decode b_St_init 0 = .ok (.aload_n 0, 1) := by decide +kernel
theorem d_St_init_1 : decode b_St_init 1 = .ok (.invokespecial 3, 3) := by decide +kernel
theorem d_St_init_4 : decode b_St_init 4 = .ok (.aload_n 0, 1) := by decide +kernel
theorem d_St_init_5 : decode b_St_init 5 = .ok (.sipush 360, 3) := by decide +kernel
theorem d_St_init_8 : decode b_St_init 8 = .ok (.newarray .int, 2) := by decide +kernel
theorem d_St_init_10 : decode b_St_init 10 = .ok (.putfield 9, 3) := by decide +kernel
theorem d_St_init_13 : decode b_St_init 13 = .ok (.return_, 1) := by decide +kernel
theorem d_St_has_0 : decode b_St_has 0 = .ok (.aload_n 0, 1) := by decide +kernel
theorem d_St_has_1 : decode b_St_has 1 = .ok (.iload_n 1, 1) := by decide +kernel
theorem d_St_has_2 : decode b_St_has 2 = .ok (.iconst (-1), 1) := by decide +kernel
theorem d_St_has_3 : decode b_St_has 3 = .ok (.invokevirtual 15, 3) := by decide +kernel
theorem d_St_has_6 : decode b_St_has 6 = .ok (.iconst 1, 1) := by decide +kernel
theorem d_St_has_7 : decode b_St_has 7 = .ok (.if_icmp .ne 7, 3) := by decide +kernel
theorem d_St_has_10 : decode b_St_has 10 = .ok (.iconst 1, 1) := by decide +kernel
theorem d_St_has_11 : decode b_St_has 11 = .ok (.goto 4, 3) := by decide +kernel
theorem d_St_has_14 : decode b_St_has 14 = .ok (.iconst 0, 1) := by decide +kernel
theorem d_St_has_15 : decode b_St_has 15 = .ok (.ireturn, 1) := by decide +kernel
theorem d_St_value_0 : decode b_St_value 0 = .ok (.iload_n 1, 1) := by decide +kernel
theorem d_St_value_1 : decode b_St_value 1 = .ok (.iload_n 2, 1) := by decide +kernel
theorem d_St_value_2 : decode b_St_value 2 = .ok (.invokestatic 19, 3) := by decide +kernel
theorem d_St_value_5 : decode b_St_value 5 = .ok (.ifCond .eq 16, 3) := by decide +kernel
theorem d_St_value_8 : decode b_St_value 8 = .ok (.aload_n 0, 1) := by decide +kernel
theorem d_St_value_9 : decode b_St_value 9 = .ok (.getfield 9, 3) := by decide +kernel
theorem d_St_value_12 : decode b_St_value 12 = .ok (.iload_n 1, 1) := by decide +kernel
theorem d_St_value_13 : decode b_St_value 13 = .ok (.iload_n 2, 1) := by decide +kernel
theorem d_St_value_14 : decode b_St_value 14 = .ok (.invokestatic 23, 3) := by decide +kernel
theorem d_St_value_17 : decode b_St_value 17 = .ok (.iaload, 1) := by decide +kernel
theorem d_St_value_18 : decode b_St_value 18 = .ok (.goto 4, 3) := by decide +kernel
theorem d_St_value_21 : decode b_St_value 21 = .ok (.iconst 0, 1) := by decide +kernel
theorem d_St_value_22 : decode b_St_value 22 = .ok (.ireturn, 1) := by decide +kernel
theorem d_St_put_0 : decode b_St_put 0 = .ok (.iload_n 1, 1) := by decide +kernel
theorem d_St_put_1 : decode b_St_put 1 = .ok (.iload_n 2, 1) := by decide +kernel
theorem d_St_put_2 : decode b_St_put 2 = .ok (.invokestatic 19, 3) := by decide +kernel
theorem d_St_put_5 : decode b_St_put 5 = .ok (.ifCond .eq 14, 3) := by decide +kernel
theorem d_St_put_8 : decode b_St_put 8 = .ok (.aload_n 0, 1) := by decide +kernel
theorem d_St_put_9 : decode b_St_put 9 = .ok (.getfield 9, 3) := by decide +kernel
theorem d_St_put_12 : decode b_St_put 12 = .ok (.iload_n 1, 1) := by decide +kernel
theorem d_St_put_13 : decode b_St_put 13 = .ok (.iload_n 2, 1) := by decide +kernel
theorem d_St_put_14 : decode b_St_put 14 = .ok (.invokestatic 23, 3) := by decide +kernel
theorem d_St_put_17 : decode b_St_put 17 = .ok (.iload_n 3, 1) := by decide +kernel
theorem d_St_put_18 : decode b_St_put 18 = .ok (.iastore, 1) := by decide +kernel
theorem d_St_put_19 : decode b_St_put 19 = .ok (.return_, 1) := by decide +kernel
theorem d_St_copyThing_0 : decode b_St_copyThing 0 = .ok (.aload_n 1, 1) := by decide +kernel
theorem d_St_copyThing_1 : decode b_St_copyThing 1 = .ok (.iload_n 2, 1) := by decide +kernel
theorem d_St_copyThing_2 : decode b_St_copyThing 2 = .ok (.invokevirtual 26, 3) := by decide +kernel
theorem d_St_copyThing_5 : decode b_St_copyThing 5 = .ok (.istore_n 3, 1) := by decide +kernel
theorem d_St_copyThing_6 : decode b_St_copyThing 6 = .ok (.iconst (-1), 1) := by decide +kernel
theorem d_St_copyThing_7 : decode b_St_copyThing 7 = .ok (.istore 4, 2) := by decide +kernel
theorem d_St_copyThing_9 : decode b_St_copyThing 9 = .ok (.iload 4, 2) := by decide +kernel
theorem d_St_copyThing_11 : decode b_St_copyThing 11 = .ok (.iconst 5, 1) := by decide +kernel
theorem d_St_copyThing_12 : decode b_St_copyThing 12 = .ok (.if_icmp .ge 31, 3) := by decide +kernel
theorem d_St_copyThing_15 : decode b_St_copyThing 15 = .ok (.aload_n 0, 1) := by decide +kernel
theorem d_St_copyThing_16 : decode b_St_copyThing 16 = .ok (.iload_n 2, 1) := by decide +kernel
theorem d_St_copyThing_17 : decode b_St_copyThing 17 = .ok (.iload 4, 2) := by decide +kernel
theorem d_St_copyThing_19 : decode b_St_copyThing 19 = .ok (.iload_n 3, 1) := by decide +kernel
theorem d_St_copyThing_20 : decode b_St_copyThing 20 = .ok (.ifCond .eq 13, 3) := by decide +kernel
theorem d_St_copyThing_23 : decode b_St_copyThing 23 = .ok (.aload_n 1, 1) := by decide +kernel
theorem d_St_copyThing_24 : decode b_St_copyThing 24 = .ok (.iload_n 2, 1) := by decide +kernel
theorem d_St_copyThing_25 : decode b_St_copyThing 25 = .ok (.iload 4, 2) := by decide +kernel
theorem d_St_copyThing_27 : decode b_St_copyThing 27 = .ok (.invokevirtual 15, 3) := by decide +kernel
theorem d_St_copyThing_30 : decode b_St_copyThing 30 = .ok (.goto 4, 3) := by decide +kernel
theorem d_St_copyThing_33 : decode b_St_copyThing 33 = .ok (.iconst 0, 1) := by decide +kernel
theorem d_St_copyThing_34 : decode b_St_copyThing 34 = .ok (.invokevirtual 30, 3) := by decide +kernel
theorem d_St_copyThing_37 : decode b_St_copyThing 37 = .ok (.iinc 4 1, 3) := by decide +kernel
theorem d_St_copyThing_40 : decode b_St_copyThing 40 = .ok (.goto (-31), 3) := by decide +kernel
theorem d_St_copyThing_43 : decode b_St_copyThing 43 = .ok (.return_, 1) := by decide +kernel
theorem d_St_copyAll_0 : decode b_St_copyAll 0 = .ok (.aload_n 1, 1) := by decide +kernel
theorem d_St_copyAll_1 : decode b_St_copyAll 1 = .ok (.getfield 9, 3) := by decide +kernel
theorem d_St_copyAll_4 : decode b_St_copyAll 4 = .ok (.iconst 0, 1) := by decide +kernel
theorem d_St_copyAll_5 : decode b_St_copyAll 5 = .ok (.aload_n 0, 1) := by decide +kernel
theorem d_St_copyAll_6 : decode b_St_copyAll 6 = .ok (.getfield 9, 3) := by decide +kernel
theorem d_St_copyAll_9 : decode b_St_copyAll 9 = .ok (.iconst 0, 1) := by decide +kernel
theorem d_St_copyAll_10 : decode b_St_copyAll 10 = .ok (.sipush 360, 3) := by decide +kernel
theorem d_St_copyAll_13 : decode b_St_copyAll 13 = .ok (.invokestatic 34, 3) := by decide +kernel
theorem d_St_copyAll_16 : decode b_St_copyAll 16 = .ok (.return_, 1) := by decide +kernel
theorem d_St_isCell_0 : decode b_St_isCell 0 = .ok (.iload_n 0, 1) := by decide +kernel
theorem d_St_isCell_1 : decode b_St_isCell 1 = .ok (.ifCond .lt 23, 3) := by decide +kernel
theorem d_St_isCell_4 : decode b_St_isCell 4 = .ok (.iload_n 0, 1) := by decide +kernel
theorem d_St_isCell_5 : decode b_St_isCell 5 = .ok (.bipush 60, 2) := by decide +kernel
theorem d_St_isCell_7 : decode b_St_isCell 7 = .ok (.if_icmp .ge 17, 3) := by decide +kernel
theorem d_St_isCell_10 : decode b_St_isCell 10 = .ok (.iload_n 1, 1) := by decide +kernel
theorem d_St_isCell_11 : decode b_St_isCell 11 = .ok (.iconst (-1), 1) := by decide +kernel
theorem d_St_isCell_12 : decode b_St_isCell 12 = .ok (.if_icmp .lt 12, 3) := by decide +kernel
theorem d_St_isCell_15 : decode b_St_isCell 15 = .ok (.iload_n 1, 1) := by decide +kernel
theorem d_St_isCell_16 : decode b_St_isCell 16 = .ok (.iconst 5, 1) := by decide +kernel
theorem d_St_isCell_17 : decode b_St_isCell 17 = .ok (.if_icmp .ge 7, 3) := by decide +kernel
theorem d_St_isCell_20 : decode b_St_isCell 20 = .ok (.iconst 1, 1) := by decide +kernel
theorem d_St_isCell_21 : decode b_St_isCell 21 = .ok (.goto 4, 3) := by decide +kernel
theorem d_St_isCell_24 : decode b_St_isCell 24 = .ok (.iconst 0, 1) := by decide +kernel
theorem d_St_isCell_25 : decode b_St_isCell 25 = .ok (.ireturn, 1) := by decide +kernel
theorem d_St_cellOf_0 : decode b_St_cellOf 0 = .ok (.iload_n 0, 1) := by decide +kernel
theorem d_St_cellOf_1 : decode b_St_cellOf 1 = .ok (.bipush 6, 2) := by decide +kernel
theorem d_St_cellOf_3 : decode b_St_cellOf 3 = .ok (.imul, 1) := by decide +kernel
theorem d_St_cellOf_4 : decode b_St_cellOf 4 = .ok (.iload_n 1, 1) := by decide +kernel
theorem d_St_cellOf_5 : decode b_St_cellOf 5 = .ok (.iadd, 1) := by decide +kernel
theorem d_St_cellOf_6 : decode b_St_cellOf 6 = .ok (.iconst (-1), 1) := by decide +kernel
theorem d_St_cellOf_7 : decode b_St_cellOf 7 = .ok (.isub, 1) := by decide +kernel
theorem d_St_cellOf_8 : decode b_St_cellOf 8 = .ok (.ireturn, 1) := by decide +kernel
theorem d_Ve_init_0 : decode b_Ve_init 0 = .ok (.aload_n 0, 1) := by decide +kernel
theorem d_Ve_init_1 : decode b_Ve_init 1 = .ok (.invokespecial 3, 3) := by decide +kernel
theorem d_Ve_init_4 : decode b_Ve_init 4 = .ok (.aload_n 0, 1) := by decide +kernel
theorem d_Ve_init_5 : decode b_Ve_init 5 = .ok (.sipush 300, 3) := by decide +kernel
theorem d_Ve_init_8 : decode b_Ve_init 8 = .ok (.newarray .int, 2) := by decide +kernel
theorem d_Ve_init_10 : decode b_Ve_init 10 = .ok (.putfield 9, 3) := by decide +kernel
theorem d_Ve_init_13 : decode b_Ve_init 13 = .ok (.aload_n 0, 1) := by decide +kernel
theorem d_Ve_init_14 : decode b_Ve_init 14 = .ok (.iload_n 1, 1) := by decide +kernel
theorem d_Ve_init_15 : decode b_Ve_init 15 = .ok (.putfield 15, 3) := by decide +kernel
theorem d_Ve_init_18 : decode b_Ve_init 18 = .ok (.aload_n 0, 1) := by decide +kernel
theorem d_Ve_init_19 : decode b_Ve_init 19 = .ok (.iload_n 2, 1) := by decide +kernel
theorem d_Ve_init_20 : decode b_Ve_init 20 = .ok (.putfield 19, 3) := by decide +kernel
theorem d_Ve_init_23 : decode b_Ve_init 23 = .ok (.aload_n 0, 1) := by decide +kernel
theorem d_Ve_init_24 : decode b_Ve_init 24 = .ok (.aload_n 3, 1) := by decide +kernel
theorem d_Ve_init_25 : decode b_Ve_init 25 = .ok (.putfield 22, 3) := by decide +kernel
theorem d_Ve_init_28 : decode b_Ve_init 28 = .ok (.return_, 1) := by decide +kernel
theorem d_Ve_traceOrigins_0 : decode b_Ve_traceOrigins 0 = .ok (.iconst 0, 1) := by decide +kernel
theorem d_Ve_traceOrigins_1 : decode b_Ve_traceOrigins 1 = .ok (.istore_n 2, 1) := by decide +kernel
theorem d_Ve_traceOrigins_2 : decode b_Ve_traceOrigins 2 = .ok (.iload_n 2, 1) := by decide +kernel
theorem d_Ve_traceOrigins_3 : decode b_Ve_traceOrigins 3 = .ok (.bipush 60, 2) := by decide +kernel
theorem d_Ve_traceOrigins_5 : decode b_Ve_traceOrigins 5 = .ok (.if_icmp .ge 97, 3) := by decide +kernel
theorem d_Ve_traceOrigins_8 : decode b_Ve_traceOrigins 8 = .ok (.aload_n 1, 1) := by decide +kernel
theorem d_Ve_traceOrigins_9 : decode b_Ve_traceOrigins 9 = .ok (.getfield 22, 3) := by decide +kernel
theorem d_Ve_traceOrigins_12 : decode b_Ve_traceOrigins 12 = .ok (.iload_n 2, 1) := by decide +kernel
theorem d_Ve_traceOrigins_13 : decode b_Ve_traceOrigins 13 = .ok (.invokevirtual 26, 3) := by decide +kernel
theorem d_Ve_traceOrigins_16 : decode b_Ve_traceOrigins 16 = .ok (.istore_n 3, 1) := by decide +kernel
theorem d_Ve_traceOrigins_17 : decode b_Ve_traceOrigins 17 = .ok (.iconst 0, 1) := by decide +kernel
theorem d_Ve_traceOrigins_18 : decode b_Ve_traceOrigins 18 = .ok (.istore 4, 2) := by decide +kernel
theorem d_Ve_traceOrigins_20 : decode b_Ve_traceOrigins 20 = .ok (.iload 4, 2) := by decide +kernel
theorem d_Ve_traceOrigins_22 : decode b_Ve_traceOrigins 22 = .ok (.iconst 5, 1) := by decide +kernel
theorem d_Ve_traceOrigins_23 : decode b_Ve_traceOrigins 23 = .ok (.if_icmp .ge 73, 3) := by decide +kernel
theorem d_Ve_traceOrigins_26 : decode b_Ve_traceOrigins 26 = .ok (.iload_n 3, 1) := by decide +kernel
theorem d_Ve_traceOrigins_27 : decode b_Ve_traceOrigins 27 = .ok (.ifCond .eq 30, 3) := by decide +kernel
theorem d_Ve_traceOrigins_30 : decode b_Ve_traceOrigins 30 = .ok (.aload_n 1, 1) := by decide +kernel
theorem d_Ve_traceOrigins_31 : decode b_Ve_traceOrigins 31 = .ok (.getfield 22, 3) := by decide +kernel
theorem d_Ve_traceOrigins_34 : decode b_Ve_traceOrigins 34 = .ok (.iload_n 2, 1) := by decide +kernel
theorem d_Ve_traceOrigins_35 : decode b_Ve_traceOrigins 35 = .ok (.iload 4, 2) := by decide +kernel
theorem d_Ve_traceOrigins_37 : decode b_Ve_traceOrigins 37 = .ok (.invokevirtual 32, 3) := by decide +kernel
theorem d_Ve_traceOrigins_40 : decode b_Ve_traceOrigins 40 = .ok (.aload_n 0, 1) := by decide +kernel
theorem d_Ve_traceOrigins_41 : decode b_Ve_traceOrigins 41 = .ok (.getfield 22, 3) := by decide +kernel
theorem d_Ve_traceOrigins_44 : decode b_Ve_traceOrigins 44 = .ok (.iload_n 2, 1) := by decide +kernel
theorem d_Ve_traceOrigins_45 : decode b_Ve_traceOrigins 45 = .ok (.iload 4, 2) := by decide +kernel
theorem d_Ve_traceOrigins_47 : decode b_Ve_traceOrigins 47 = .ok (.invokevirtual 32, 3) := by decide +kernel
theorem d_Ve_traceOrigins_50 : decode b_Ve_traceOrigins 50 = .ok (.if_icmp .ne 7, 3) := by decide +kernel
theorem d_Ve_traceOrigins_53 : decode b_Ve_traceOrigins 53 = .ok (.iconst 1, 1) := by decide +kernel
theorem d_Ve_traceOrigins_54 : decode b_Ve_traceOrigins 54 = .ok (.goto 4, 3) := by decide +kernel
theorem d_Ve_traceOrigins_57 : decode b_Ve_traceOrigins 57 = .ok (.iconst 0, 1) := by decide +kernel
theorem d_Ve_traceOrigins_58 : decode b_Ve_traceOrigins 58 = .ok (.istore 5, 2) := by decide +kernel
theorem d_Ve_traceOrigins_60 : decode b_Ve_traceOrigins 60 = .ok (.aload_n 0, 1) := by decide +kernel
theorem d_Ve_traceOrigins_61 : decode b_Ve_traceOrigins 61 = .ok (.getfield 9, 3) := by decide +kernel
theorem d_Ve_traceOrigins_64 : decode b_Ve_traceOrigins 64 = .ok (.iload_n 2, 1) := by decide +kernel
theorem d_Ve_traceOrigins_65 : decode b_Ve_traceOrigins 65 = .ok (.iconst 5, 1) := by decide +kernel
theorem d_Ve_traceOrigins_66 : decode b_Ve_traceOrigins 66 = .ok (.imul, 1) := by decide +kernel
theorem d_Ve_traceOrigins_67 : decode b_Ve_traceOrigins 67 = .ok (.iload 4, 2) := by decide +kernel
theorem d_Ve_traceOrigins_69 : decode b_Ve_traceOrigins 69 = .ok (.iadd, 1) := by decide +kernel
theorem d_Ve_traceOrigins_70 : decode b_Ve_traceOrigins 70 = .ok (.iload 5, 2) := by decide +kernel
theorem d_Ve_traceOrigins_72 : decode b_Ve_traceOrigins 72 = .ok (.ifCond .eq 13, 3) := by decide +kernel
theorem d_Ve_traceOrigins_75 : decode b_Ve_traceOrigins 75 = .ok (.aload_n 1, 1) := by decide +kernel
theorem d_Ve_traceOrigins_76 : decode b_Ve_traceOrigins 76 = .ok (.iload_n 2, 1) := by decide +kernel
theorem d_Ve_traceOrigins_77 : decode b_Ve_traceOrigins 77 = .ok (.iload 4, 2) := by decide +kernel
theorem d_Ve_traceOrigins_79 : decode b_Ve_traceOrigins 79 = .ok (.invokevirtual 36, 3) := by decide +kernel
theorem d_Ve_traceOrigins_82 : decode b_Ve_traceOrigins 82 = .ok (.goto 7, 3) := by decide +kernel
theorem d_Ve_traceOrigins_85 : decode b_Ve_traceOrigins 85 = .ok (.aload_n 0, 1) := by decide +kernel
theorem d_Ve_traceOrigins_86 : decode b_Ve_traceOrigins 86 = .ok (.getfield 15, 3) := by decide +kernel
theorem d_Ve_traceOrigins_89 : decode b_Ve_traceOrigins 89 = .ok (.iastore, 1) := by decide +kernel
theorem d_Ve_traceOrigins_90 : decode b_Ve_traceOrigins 90 = .ok (.iinc 4 1, 3) := by decide +kernel
theorem d_Ve_traceOrigins_93 : decode b_Ve_traceOrigins 93 = .ok (.goto (-73), 3) := by decide +kernel
theorem d_Ve_traceOrigins_96 : decode b_Ve_traceOrigins 96 = .ok (.iinc 2 1, 3) := by decide +kernel
theorem d_Ve_traceOrigins_99 : decode b_Ve_traceOrigins 99 = .ok (.goto (-97), 3) := by decide +kernel
theorem d_Ve_traceOrigins_102 : decode b_Ve_traceOrigins 102 = .ok (.return_, 1) := by decide +kernel
theorem d_Ve_origin_0 : decode b_Ve_origin 0 = .ok (.iload_n 1, 1) := by decide +kernel
theorem d_Ve_origin_1 : decode b_Ve_origin 1 = .ok (.ifCond .lt 22, 3) := by decide +kernel
theorem d_Ve_origin_4 : decode b_Ve_origin 4 = .ok (.iload_n 1, 1) := by decide +kernel
theorem d_Ve_origin_5 : decode b_Ve_origin 5 = .ok (.bipush 60, 2) := by decide +kernel
theorem d_Ve_origin_7 : decode b_Ve_origin 7 = .ok (.if_icmp .ge 16, 3) := by decide +kernel
theorem d_Ve_origin_10 : decode b_Ve_origin 10 = .ok (.iload_n 2, 1) := by decide +kernel
theorem d_Ve_origin_11 : decode b_Ve_origin 11 = .ok (.ifCond .lt 12, 3) := by decide +kernel
theorem d_Ve_origin_14 : decode b_Ve_origin 14 = .ok (.iload_n 2, 1) := by decide +kernel
theorem d_Ve_origin_15 : decode b_Ve_origin 15 = .ok (.iconst 5, 1) := by decide +kernel
theorem d_Ve_origin_16 : decode b_Ve_origin 16 = .ok (.if_icmp .ge 7, 3) := by decide +kernel
theorem d_Ve_origin_19 : decode b_Ve_origin 19 = .ok (.iconst 1, 1) := by decide +kernel
theorem d_Ve_origin_20 : decode b_Ve_origin 20 = .ok (.goto 4, 3) := by decide +kernel
theorem d_Ve_origin_23 : decode b_Ve_origin 23 = .ok (.iconst 0, 1) := by decide +kernel
theorem d_Ve_origin_24 : decode b_Ve_origin 24 = .ok (.istore_n 3, 1) := by decide +kernel
theorem d_Ve_origin_25 : decode b_Ve_origin 25 = .ok (.iload_n 3, 1) := by decide +kernel
theorem d_Ve_origin_26 : decode b_Ve_origin 26 = .ok (.ifCond .eq 16, 3) := by decide +kernel
theorem d_Ve_origin_29 : decode b_Ve_origin 29 = .ok (.aload_n 0, 1) := by decide +kernel
theorem d_Ve_origin_30 : decode b_Ve_origin 30 = .ok (.getfield 9, 3) := by decide +kernel
theorem d_Ve_origin_33 : decode b_Ve_origin 33 = .ok (.iload_n 1, 1) := by decide +kernel
theorem d_Ve_origin_34 : decode b_Ve_origin 34 = .ok (.iconst 5, 1) := by decide +kernel
theorem d_Ve_origin_35 : decode b_Ve_origin 35 = .ok (.imul, 1) := by decide +kernel
theorem d_Ve_origin_36 : decode b_Ve_origin 36 = .ok (.iload_n 2, 1) := by decide +kernel
theorem d_Ve_origin_37 : decode b_Ve_origin 37 = .ok (.iadd, 1) := by decide +kernel
theorem d_Ve_origin_38 : decode b_Ve_origin 38 = .ok (.iaload, 1) := by decide +kernel
theorem d_Ve_origin_39 : decode b_Ve_origin 39 = .ok (.goto 7, 3) := by decide +kernel
theorem d_Ve_origin_42 : decode b_Ve_origin 42 = .ok (.aload_n 0, 1) := by decide +kernel
theorem d_Ve_origin_43 : decode b_Ve_origin 43 = .ok (.getfield 15, 3) := by decide +kernel
theorem d_Ve_origin_46 : decode b_Ve_origin 46 = .ok (.ireturn, 1) := by decide +kernel
theorem d_Ve_countNewFields_0 : decode b_Ve_countNewFields 0 = .ok (.iconst 0, 1) := by decide +kernel
theorem d_Ve_countNewFields_1 : decode b_Ve_countNewFields 1 = .ok (.istore_n 2, 1) := by decide +kernel
theorem d_Ve_countNewFields_2 : decode b_Ve_countNewFields 2 = .ok (.iconst 0, 1) := by decide +kernel
theorem d_Ve_countNewFields_3 : decode b_Ve_countNewFields 3 = .ok (.istore_n 3, 1) := by decide +kernel
theorem d_Ve_countNewFields_4 : decode b_Ve_countNewFields 4 = .ok (.iload_n 3, 1) := by decide +kernel
theorem d_Ve_countNewFields_5 : decode b_Ve_countNewFields 5 = .ok (.iconst 5, 1) := by decide +kernel
theorem d_Ve_countNewFields_6 : decode b_Ve_countNewFields 6 = .ok (.if_icmp .ge 36, 3) := by decide +kernel
theorem d_Ve_countNewFields_9 : decode b_Ve_countNewFields 9 = .ok (.aload_n 0, 1) := by decide +kernel
theorem d_Ve_countNewFields_10 : decode b_Ve_countNewFields 10 = .ok (.getfield 22, 3) := by decide +kernel
theorem d_Ve_countNewFields_13 : decode b_Ve_countNewFields 13 = .ok (.iload_n 1, 1) := by decide +kernel
theorem d_Ve_countNewFields_14 : decode b_Ve_countNewFields 14 = .ok (.invokevirtual 26, 3) := by decide +kernel
theorem d_Ve_countNewFields_17 : decode b_Ve_countNewFields 17 = .ok (.ifCond .eq 19, 3) := by decide +kernel
theorem d_Ve_countNewFields_20 : decode b_Ve_countNewFields 20 = .ok (.aload_n 0, 1) := by decide +kernel
theorem d_Ve_countNewFields_21 : decode b_Ve_countNewFields 21 = .ok (.iload_n 1, 1) := by decide +kernel
theorem d_Ve_countNewFields_22 : decode b_Ve_countNewFields 22 = .ok (.iload_n 3, 1) := by decide +kernel
theorem d_Ve_countNewFields_23 : decode b_Ve_countNewFields 23 = .ok (.invokevirtual 36, 3) := by decide +kernel
theorem d_Ve_countNewFields_26 : decode b_Ve_countNewFields 26 = .ok (.aload_n 0, 1) := by decide +kernel
theorem d_Ve_countNewFields_27 : decode b_Ve_countNewFields 27 = .ok (.getfield 15, 3) := by decide +kernel
theorem d_Ve_countNewFields_30 : decode b_Ve_countNewFields 30 = .ok (.if_icmp .ne 6, 3) := by decide +kernel
theorem d_Ve_countNewFields_33 : decode b_Ve_countNewFields 33 = .ok (.iinc 2 1, 3) := by decide +kernel
theorem d_Ve_countNewFields_36 : decode b_Ve_countNewFields 36 = .ok (.iinc 3 1, 3) := by decide +kernel
theorem d_Ve_countNewFields_39 : decode b_Ve_countNewFields 39 = .ok (.goto (-35), 3) := by decide +kernel
theorem d_Ve_countNewFields_42 : decode b_Ve_countNewFields 42 = .ok (.iload_n 2, 1) := by decide +kernel
theorem d_Ve_countNewFields_43 : decode b_Ve_countNewFields 43 = .ok (.ireturn, 1) := by decide +kernel
theorem d_La_session_0 : decode b_La_session 0 = .ok (.aload_n 3, 1) := by decide +kernel
theorem d_La_session_1 : decode b_La_session 1 = .ok (.iconst 0, 1) := by decide +kernel
theorem d_La_session_2 : decode b_La_session 2 = .ok (.aload_n 0, 1) := by decide +kernel
theorem d_La_session_3 : decode b_La_session 3 = .ok (.iload_n 1, 1) := by decide +kernel
theorem d_La_session_4 : decode b_La_session 4 = .ok (.iload_n 2, 1) := by decide +kernel
theorem d_La_session_5 : decode b_La_session 5 = .ok (.invokevirtual 7, 3) := by decide +kernel
theorem d_La_session_8 : decode b_La_session 8 = .ok (.i2l, 1) := by decide +kernel
theorem d_La_session_9 : decode b_La_session 9 = .ok (.lastore, 1) := by decide +kernel
theorem d_La_session_10 : decode b_La_session 10 = .ok (.goto 11, 3) := by decide +kernel
theorem d_La_session_13 : decode b_La_session 13 = .ok (.astore 4, 2) := by decide +kernel
theorem d_La_session_15 : decode b_La_session 15 = .ok (.iconst 1, 1) := by decide +kernel
theorem d_La_session_16 : decode b_La_session 16 = .ok (.ireturn, 1) := by decide +kernel
theorem d_La_session_17 : decode b_La_session 17 = .ok (.astore 4, 2) := by decide +kernel
theorem d_La_session_19 : decode b_La_session 19 = .ok (.iconst 2, 1) := by decide +kernel
theorem d_La_session_20 : decode b_La_session 20 = .ok (.ireturn, 1) := by decide +kernel
theorem d_La_session_21 : decode b_La_session 21 = .ok (.iconst 0, 1) := by decide +kernel
theorem d_La_session_22 : decode b_La_session 22 = .ok (.ireturn, 1) := by decide +kernel
theorem d_La_make_0 : decode b_La_make 0 = .ok (.aload_n 3, 1) := by decide +kernel
theorem d_La_make_1 : decode b_La_make 1 = .ok (.iconst 0, 1) := by decide +kernel
theorem d_La_make_2 : decode b_La_make 2 = .ok (.aload_n 0, 1) := by decide +kernel
theorem d_La_make_3 : decode b_La_make 3 = .ok (.iload_n 1, 1) := by decide +kernel
theorem d_La_make_4 : decode b_La_make 4 = .ok (.iload_n 2, 1) := by decide +kernel
theorem d_La_make_5 : decode b_La_make 5 = .ok (.invokevirtual 17, 3) := by decide +kernel
theorem d_La_make_8 : decode b_La_make 8 = .ok (.i2l, 1) := by decide +kernel
theorem d_La_make_9 : decode b_La_make 9 = .ok (.lastore, 1) := by decide +kernel
theorem d_La_make_10 : decode b_La_make 10 = .ok (.goto 11, 3) := by decide +kernel
theorem d_La_make_13 : decode b_La_make 13 = .ok (.astore 4, 2) := by decide +kernel
theorem d_La_make_15 : decode b_La_make 15 = .ok (.iconst 1, 1) := by decide +kernel
theorem d_La_make_16 : decode b_La_make 16 = .ok (.ireturn, 1) := by decide +kernel
theorem d_La_make_17 : decode b_La_make 17 = .ok (.astore 4, 2) := by decide +kernel
theorem d_La_make_19 : decode b_La_make 19 = .ok (.iconst 2, 1) := by decide +kernel
theorem d_La_make_20 : decode b_La_make 20 = .ok (.ireturn, 1) := by decide +kernel
theorem d_La_make_21 : decode b_La_make 21 = .ok (.iconst 0, 1) := by decide +kernel
theorem d_La_make_22 : decode b_La_make 22 = .ok (.ireturn, 1) := by decide +kernel
theorem d_La_set_0 : decode b_La_set 0 = .ok (.aload 5, 2) := by decide +kernel
theorem d_La_set_2 : decode b_La_set 2 = .ok (.iconst 0, 1) := by decide +kernel
theorem d_La_set_3 : decode b_La_set 3 = .ok (.aload_n 0, 1) := by decide +kernel
theorem d_La_set_4 : decode b_La_set 4 = .ok (.iload_n 1, 1) := by decide +kernel
theorem d_La_set_5 : decode b_La_set 5 = .ok (.iload_n 2, 1) := by decide +kernel
theorem d_La_set_6 : decode b_La_set 6 = .ok (.iload_n 3, 1) := by decide +kernel
theorem d_La_set_7 : decode b_La_set 7 = .ok (.iload 4, 2) := by decide +kernel
theorem d_La_set_9 : decode b_La_set 9 = .ok (.invokevirtual 20, 3) := by decide +kernel
theorem d_La_set_12 : decode b_La_set 12 = .ok (.i2l, 1) := by decide +kernel
theorem d_La_set_13 : decode b_La_set 13 = .ok (.lastore, 1) := by decide +kernel
theorem d_La_set_14 : decode b_La_set 14 = .ok (.goto 11, 3) := by decide +kernel
theorem d_La_set_17 : decode b_La_set 17 = .ok (.astore 6, 2) := by decide +kernel
theorem d_La_set_19 : decode b_La_set 19 = .ok (.iconst 1, 1) := by decide +kernel
theorem d_La_set_20 : decode b_La_set 20 = .ok (.ireturn, 1) := by decide +kernel
theorem d_La_set_21 : decode b_La_set 21 = .ok (.astore 6, 2) := by decide +kernel
theorem d_La_set_23 : decode b_La_set 23 = .ok (.iconst 2, 1) := by decide +kernel
theorem d_La_set_24 : decode b_La_set 24 = .ok (.ireturn, 1) := by decide +kernel
theorem d_La_set_25 : decode b_La_set 25 = .ok (.iconst 0, 1) := by decide +kernel
theorem d_La_set_26 : decode b_La_set 26 = .ok (.ireturn, 1) := by decide +kernel
theorem d_La_drop_0 : decode b_La_drop 0 = .ok (.aload_n 3, 1) := by decide +kernel
theorem d_La_drop_1 : decode b_La_drop 1 = .ok (.iconst 0, 1) := by decide +kernel
theorem d_La_drop_2 : decode b_La_drop 2 = .ok (.aload_n 0, 1) := by decide +kernel
theorem d_La_drop_3 : decode b_La_drop 3 = .ok (.iload_n 1, 1) := by decide +kernel
theorem d_La_drop_4 : decode b_La_drop 4 = .ok (.iload_n 2, 1) := by decide +kernel
theorem d_La_drop_5 : decode b_La_drop 5 = .ok (.invokevirtual 24, 3) := by decide +kernel
theorem d_La_drop_8 : decode b_La_drop 8 = .ok (.i2l, 1) := by decide +kernel
theorem d_La_drop_9 : decode b_La_drop 9 = .ok (.lastore, 1) := by decide +kernel
theorem d_La_drop_10 : decode b_La_drop 10 = .ok (.goto 11, 3) := by decide +kernel
theorem d_La_drop_13 : decode b_La_drop 13 = .ok (.astore 4, 2) := by decide +kernel
theorem d_La_drop_15 : decode b_La_drop 15 = .ok (.iconst 1, 1) := by decide +kernel
theorem d_La_drop_16 : decode b_La_drop 16 = .ok (.ireturn, 1) := by decide +kernel
theorem d_La_drop_17 : decode b_La_drop 17 = .ok (.astore 4, 2) := by decide +kernel
theorem d_La_drop_19 : decode b_La_drop 19 = .ok (.iconst 2, 1) := by decide +kernel
theorem d_La_drop_20 : decode b_La_drop 20 = .ok (.ireturn, 1) := by decide +kernel
theorem d_La_drop_21 : decode b_La_drop 21 = .ok (.iconst 0, 1) := by decide +kernel
theorem d_La_drop_22 : decode b_La_drop 22 = .ok (.ireturn, 1) := by decide +kernel
theorem d_La_undo_0 : decode b_La_undo 0 = .ok (.aload_n 2, 1) := by decide +kernel
theorem d_La_undo_1 : decode b_La_undo 1 = .ok (.iconst 0, 1) := by decide +kernel
theorem d_La_undo_2 : decode b_La_undo 2 = .ok (.aload_n 0, 1) := by decide +kernel
theorem d_La_undo_3 : decode b_La_undo 3 = .ok (.iload_n 1, 1) := by decide +kernel
theorem d_La_undo_4 : decode b_La_undo 4 = .ok (.invokevirtual 27, 3) := by decide +kernel
theorem d_La_undo_7 : decode b_La_undo 7 = .ok (.i2l, 1) := by decide +kernel
theorem d_La_undo_8 : decode b_La_undo 8 = .ok (.lastore, 1) := by decide +kernel
theorem d_La_undo_9 : decode b_La_undo 9 = .ok (.goto 9, 3) := by decide +kernel
theorem d_La_undo_12 : decode b_La_undo 12 = .ok (.astore_n 3, 1) := by decide +kernel
theorem d_La_undo_13 : decode b_La_undo 13 = .ok (.iconst 1, 1) := by decide +kernel
theorem d_La_undo_14 : decode b_La_undo 14 = .ok (.ireturn, 1) := by decide +kernel
theorem d_La_undo_15 : decode b_La_undo 15 = .ok (.astore_n 3, 1) := by decide +kernel
theorem d_La_undo_16 : decode b_La_undo 16 = .ok (.iconst 2, 1) := by decide +kernel
theorem d_La_undo_17 : decode b_La_undo 17 = .ok (.ireturn, 1) := by decide +kernel
theorem d_La_undo_18 : decode b_La_undo 18 = .ok (.iconst 0, 1) := by decide +kernel
theorem d_La_undo_19 : decode b_La_undo 19 = .ok (.ireturn, 1) := by decide +kernel
theorem d_La_redo_0 : decode b_La_redo 0 = .ok (.aload_n 2, 1) := by decide +kernel
theorem d_La_redo_1 : decode b_La_redo 1 = .ok (.iconst 0, 1) := by decide +kernel
theorem d_La_redo_2 : decode b_La_redo 2 = .ok (.aload_n 0, 1) := by decide +kernel
theorem d_La_redo_3 : decode b_La_redo 3 = .ok (.iload_n 1, 1) := by decide +kernel
theorem d_La_redo_4 : decode b_La_redo 4 = .ok (.invokevirtual 31, 3) := by decide +kernel
theorem d_La_redo_7 : decode b_La_redo 7 = .ok (.i2l, 1) := by decide +kernel
theorem d_La_redo_8 : decode b_La_redo 8 = .ok (.lastore, 1) := by decide +kernel
theorem d_La_redo_9 : decode b_La_redo 9 = .ok (.goto 9, 3) := by decide +kernel
theorem d_La_redo_12 : decode b_La_redo 12 = .ok (.astore_n 3, 1) := by decide +kernel
theorem d_La_redo_13 : decode b_La_redo 13 = .ok (.iconst 1, 1) := by decide +kernel
theorem d_La_redo_14 : decode b_La_redo 14 = .ok (.ireturn, 1) := by decide +kernel
theorem d_La_redo_15 : decode b_La_redo 15 = .ok (.astore_n 3, 1) := by decide +kernel
theorem d_La_redo_16 : decode b_La_redo 16 = .ok (.iconst 2, 1) := by decide +kernel
theorem d_La_redo_17 : decode b_La_redo 17 = .ok (.ireturn, 1) := by decide +kernel
theorem d_La_redo_18 : decode b_La_redo 18 = .ok (.iconst 0, 1) := by decide +kernel
theorem d_La_redo_19 : decode b_La_redo 19 = .ok (.ireturn, 1) := by decide +kernel
theorem d_La_lock_0 : decode b_La_lock 0 = .ok (.aload_n 3, 1) := by decide +kernel
theorem d_La_lock_1 : decode b_La_lock 1 = .ok (.iconst 0, 1) := by decide +kernel
theorem d_La_lock_2 : decode b_La_lock 2 = .ok (.aload_n 0, 1) := by decide +kernel
theorem d_La_lock_3 : decode b_La_lock 3 = .ok (.iload_n 1, 1) := by decide +kernel
theorem d_La_lock_4 : decode b_La_lock 4 = .ok (.iload_n 2, 1) := by decide +kernel
theorem d_La_lock_5 : decode b_La_lock 5 = .ok (.invokevirtual 34, 3) := by decide +kernel
theorem d_La_lock_8 : decode b_La_lock 8 = .ok (.i2l, 1) := by decide +kernel
theorem d_La_lock_9 : decode b_La_lock 9 = .ok (.lastore, 1) := by decide +kernel
theorem d_La_lock_10 : decode b_La_lock 10 = .ok (.goto 7, 3) := by decide +kernel
theorem d_La_lock_13 : decode b_La_lock 13 = .ok (.astore 4, 2) := by decide +kernel
theorem d_La_lock_15 : decode b_La_lock 15 = .ok (.iconst 1, 1) := by decide +kernel
theorem d_La_lock_16 : decode b_La_lock 16 = .ok (.ireturn, 1) := by decide +kernel
theorem d_La_lock_17 : decode b_La_lock 17 = .ok (.iconst 0, 1) := by decide +kernel
theorem d_La_lock_18 : decode b_La_lock 18 = .ok (.ireturn, 1) := by decide +kernel
theorem d_La_rule_0 : decode b_La_rule 0 = .ok (.aload 4, 2) := by decide +kernel
theorem d_La_rule_2 : decode b_La_rule 2 = .ok (.iconst 0, 1) := by decide +kernel
theorem d_La_rule_3 : decode b_La_rule 3 = .ok (.aload_n 0, 1) := by decide +kernel
theorem d_La_rule_4 : decode b_La_rule 4 = .ok (.iload_n 1, 1) := by decide +kernel
theorem d_La_rule_5 : decode b_La_rule 5 = .ok (.iload_n 2, 1) := by decide +kernel
theorem d_La_rule_6 : decode b_La_rule 6 = .ok (.iload_n 3, 1) := by decide +kernel
theorem d_La_rule_7 : decode b_La_rule 7 = .ok (.invokevirtual 37, 3) := by decide +kernel
theorem d_La_rule_10 : decode b_La_rule 10 = .ok (.i2l, 1) := by decide +kernel
theorem d_La_rule_11 : decode b_La_rule 11 = .ok (.lastore, 1) := by decide +kernel
theorem d_La_rule_12 : decode b_La_rule 12 = .ok (.goto 11, 3) := by decide +kernel
theorem d_La_rule_15 : decode b_La_rule 15 = .ok (.astore 5, 2) := by decide +kernel
theorem d_La_rule_17 : decode b_La_rule 17 = .ok (.iconst 1, 1) := by decide +kernel
theorem d_La_rule_18 : decode b_La_rule 18 = .ok (.ireturn, 1) := by decide +kernel
theorem d_La_rule_19 : decode b_La_rule 19 = .ok (.astore 5, 2) := by decide +kernel
theorem d_La_rule_21 : decode b_La_rule 21 = .ok (.iconst 2, 1) := by decide +kernel
theorem d_La_rule_22 : decode b_La_rule 22 = .ok (.ireturn, 1) := by decide +kernel
theorem d_La_rule_23 : decode b_La_rule 23 = .ok (.iconst 0, 1) := by decide +kernel
theorem d_La_rule_24 : decode b_La_rule 24 = .ok (.ireturn, 1) := by decide +kernel
theorem d_La_join_0 : decode b_La_join 0 = .ok (.aload_n 2, 1) := by decide +kernel
theorem d_La_join_1 : decode b_La_join 1 = .ok (.iconst 0, 1) := by decide +kernel
theorem d_La_join_2 : decode b_La_join 2 = .ok (.aload_n 0, 1) := by decide +kernel
theorem d_La_join_3 : decode b_La_join 3 = .ok (.iload_n 1, 1) := by decide +kernel
theorem d_La_join_4 : decode b_La_join 4 = .ok (.invokevirtual 41, 3) := by decide +kernel
theorem d_La_join_7 : decode b_La_join 7 = .ok (.i2l, 1) := by decide +kernel
theorem d_La_join_8 : decode b_La_join 8 = .ok (.lastore, 1) := by decide +kernel
theorem d_La_join_9 : decode b_La_join 9 = .ok (.goto 9, 3) := by decide +kernel
theorem d_La_join_12 : decode b_La_join 12 = .ok (.astore_n 3, 1) := by decide +kernel
theorem d_La_join_13 : decode b_La_join 13 = .ok (.iconst 1, 1) := by decide +kernel
theorem d_La_join_14 : decode b_La_join 14 = .ok (.ireturn, 1) := by decide +kernel
theorem d_La_join_15 : decode b_La_join 15 = .ok (.astore_n 3, 1) := by decide +kernel
theorem d_La_join_16 : decode b_La_join 16 = .ok (.iconst 2, 1) := by decide +kernel
theorem d_La_join_17 : decode b_La_join 17 = .ok (.ireturn, 1) := by decide +kernel
theorem d_La_join_18 : decode b_La_join 18 = .ok (.iconst 0, 1) := by decide +kernel
theorem d_La_join_19 : decode b_La_join 19 = .ok (.ireturn, 1) := by decide +kernel
theorem d_La_conflict_0 : decode b_La_conflict 0 = .ok (.aload_n 3, 1) := by decide +kernel
theorem d_La_conflict_1 : decode b_La_conflict 1 = .ok (.iconst 0, 1) := by decide +kernel
theorem d_La_conflict_2 : decode b_La_conflict 2 = .ok (.aload_n 0, 1) := by decide +kernel
theorem d_La_conflict_3 : decode b_La_conflict 3 = .ok (.iload_n 1, 1) := by decide +kernel
theorem d_La_conflict_4 : decode b_La_conflict 4 = .ok (.iload_n 2, 1) := by decide +kernel
theorem d_La_conflict_5 : decode b_La_conflict 5 = .ok (.invokevirtual 44, 3) := by decide +kernel
theorem d_La_conflict_8 : decode b_La_conflict 8 = .ok (.i2l, 1) := by decide +kernel
theorem d_La_conflict_9 : decode b_La_conflict 9 = .ok (.lastore, 1) := by decide +kernel
theorem d_La_conflict_10 : decode b_La_conflict 10 = .ok (.goto 11, 3) := by decide +kernel
theorem d_La_conflict_13 : decode b_La_conflict 13 = .ok (.astore 4, 2) := by decide +kernel
theorem d_La_conflict_15 : decode b_La_conflict 15 = .ok (.iconst 1, 1) := by decide +kernel
theorem d_La_conflict_16 : decode b_La_conflict 16 = .ok (.ireturn, 1) := by decide +kernel
theorem d_La_conflict_17 : decode b_La_conflict 17 = .ok (.astore 4, 2) := by decide +kernel
theorem d_La_conflict_19 : decode b_La_conflict 19 = .ok (.iconst 2, 1) := by decide +kernel
theorem d_La_conflict_20 : decode b_La_conflict 20 = .ok (.ireturn, 1) := by decide +kernel
theorem d_La_conflict_21 : decode b_La_conflict 21 = .ok (.iconst 0, 1) := by decide +kernel
theorem d_La_conflict_22 : decode b_La_conflict 22 = .ok (.ireturn, 1) := by decide +kernel
theorem d_La_settle_0 : decode b_La_settle 0 = .ok (.aload_n 3, 1) := by decide +kernel
theorem d_La_settle_1 : decode b_La_settle 1 = .ok (.iconst 0, 1) := by decide +kernel
theorem d_La_settle_2 : decode b_La_settle 2 = .ok (.aload_n 0, 1) := by decide +kernel
theorem d_La_settle_3 : decode b_La_settle 3 = .ok (.iload_n 1, 1) := by decide +kernel
theorem d_La_settle_4 : decode b_La_settle 4 = .ok (.iload_n 2, 1) := by decide +kernel
theorem d_La_settle_5 : decode b_La_settle 5 = .ok (.invokevirtual 47, 3) := by decide +kernel
theorem d_La_settle_8 : decode b_La_settle 8 = .ok (.i2l, 1) := by decide +kernel
theorem d_La_settle_9 : decode b_La_settle 9 = .ok (.lastore, 1) := by decide +kernel
theorem d_La_settle_10 : decode b_La_settle 10 = .ok (.goto 11, 3) := by decide +kernel
theorem d_La_settle_13 : decode b_La_settle 13 = .ok (.astore 4, 2) := by decide +kernel
theorem d_La_settle_15 : decode b_La_settle 15 = .ok (.iconst 1, 1) := by decide +kernel
theorem d_La_settle_16 : decode b_La_settle 16 = .ok (.ireturn, 1) := by decide +kernel
theorem d_La_settle_17 : decode b_La_settle 17 = .ok (.astore 4, 2) := by decide +kernel
theorem d_La_settle_19 : decode b_La_settle 19 = .ok (.iconst 2, 1) := by decide +kernel
theorem d_La_settle_20 : decode b_La_settle 20 = .ok (.ireturn, 1) := by decide +kernel
theorem d_La_settle_21 : decode b_La_settle 21 = .ok (.iconst 0, 1) := by decide +kernel
theorem d_La_settle_22 : decode b_La_settle 22 = .ok (.ireturn, 1) := by decide +kernel
theorem d_La_giveUp_0 : decode b_La_giveUp 0 = .ok (.aload_n 1, 1) := by decide +kernel
theorem d_La_giveUp_1 : decode b_La_giveUp 1 = .ok (.iconst 0, 1) := by decide +kernel
theorem d_La_giveUp_2 : decode b_La_giveUp 2 = .ok (.aload_n 0, 1) := by decide +kernel
theorem d_La_giveUp_3 : decode b_La_giveUp 3 = .ok (.invokevirtual 50, 3) := by decide +kernel
theorem d_La_giveUp_6 : decode b_La_giveUp 6 = .ok (.i2l, 1) := by decide +kernel
theorem d_La_giveUp_7 : decode b_La_giveUp 7 = .ok (.lastore, 1) := by decide +kernel
theorem d_La_giveUp_8 : decode b_La_giveUp 8 = .ok (.goto 6, 3) := by decide +kernel
theorem d_La_giveUp_11 : decode b_La_giveUp 11 = .ok (.astore_n 2, 1) := by decide +kernel
theorem d_La_giveUp_12 : decode b_La_giveUp 12 = .ok (.iconst 1, 1) := by decide +kernel
theorem d_La_giveUp_13 : decode b_La_giveUp 13 = .ok (.ireturn, 1) := by decide +kernel
theorem d_La_giveUp_14 : decode b_La_giveUp 14 = .ok (.iconst 0, 1) := by decide +kernel
theorem d_La_giveUp_15 : decode b_La_giveUp 15 = .ok (.ireturn, 1) := by decide +kernel
theorem d_La_here_0 : decode b_La_here 0 = .ok (.aload_n 3, 1) := by decide +kernel
theorem d_La_here_1 : decode b_La_here 1 = .ok (.iconst 0, 1) := by decide +kernel
theorem d_La_here_2 : decode b_La_here 2 = .ok (.aload_n 0, 1) := by decide +kernel
theorem d_La_here_3 : decode b_La_here 3 = .ok (.iload_n 1, 1) := by decide +kernel
theorem d_La_here_4 : decode b_La_here 4 = .ok (.iload_n 2, 1) := by decide +kernel
theorem d_La_here_5 : decode b_La_here 5 = .ok (.invokevirtual 54, 3) := by decide +kernel
theorem d_La_here_8 : decode b_La_here 8 = .ok (.i2l, 1) := by decide +kernel
theorem d_La_here_9 : decode b_La_here 9 = .ok (.lastore, 1) := by decide +kernel
theorem d_La_here_10 : decode b_La_here 10 = .ok (.goto 7, 3) := by decide +kernel
theorem d_La_here_13 : decode b_La_here 13 = .ok (.astore 4, 2) := by decide +kernel
theorem d_La_here_15 : decode b_La_here 15 = .ok (.iconst 1, 1) := by decide +kernel
theorem d_La_here_16 : decode b_La_here 16 = .ok (.ireturn, 1) := by decide +kernel
theorem d_La_here_17 : decode b_La_here 17 = .ok (.iconst 0, 1) := by decide +kernel
theorem d_La_here_18 : decode b_La_here 18 = .ok (.ireturn, 1) := by decide +kernel
end
section
theorem d_La_now_0 : decode b_La_now 0 = .ok (.aload 4, 2) := by decide +kernel
theorem d_La_now_2 : decode b_La_now 2 = .ok (.iconst 0, 1) := by decide +kernel
theorem d_La_now_3 : decode b_La_now 3 = .ok (.aload_n 0, 1) := by decide +kernel
theorem d_La_now_4 : decode b_La_now 4 = .ok (.iload_n 1, 1) := by decide +kernel
theorem d_La_now_5 : decode b_La_now 5 = .ok (.iload_n 2, 1) := by decide +kernel
theorem d_La_now_6 : decode b_La_now 6 = .ok (.iload_n 3, 1) := by decide +kernel
theorem d_La_now_7 : decode b_La_now 7 = .ok (.invokevirtual 57, 3) := by decide +kernel
theorem d_La_now_10 : decode b_La_now 10 = .ok (.i2l, 1) := by decide +kernel
theorem d_La_now_11 : decode b_La_now 11 = .ok (.lastore, 1) := by decide +kernel
theorem d_La_now_12 : decode b_La_now 12 = .ok (.goto 7, 3) := by decide +kernel
theorem d_La_now_15 : decode b_La_now 15 = .ok (.astore 5, 2) := by decide +kernel
theorem d_La_now_17 : decode b_La_now 17 = .ok (.iconst 1, 1) := by decide +kernel
theorem d_La_now_18 : decode b_La_now 18 = .ok (.ireturn, 1) := by decide +kernel
theorem d_La_now_19 : decode b_La_now 19 = .ok (.iconst 0, 1) := by decide +kernel
theorem d_La_now_20 : decode b_La_now 20 = .ok (.ireturn, 1) := by decide +kernel
theorem d_La_there_0 : decode b_La_there 0 = .ok (.aload 4, 2) := by decide +kernel
theorem d_La_there_2 : decode b_La_there 2 = .ok (.iconst 0, 1) := by decide +kernel
theorem d_La_there_3 : decode b_La_there 3 = .ok (.aload_n 0, 1) := by decide +kernel
theorem d_La_there_4 : decode b_La_there 4 = .ok (.iload_n 1, 1) := by decide +kernel
theorem d_La_there_5 : decode b_La_there 5 = .ok (.iload_n 2, 1) := by decide +kernel
theorem d_La_there_6 : decode b_La_there 6 = .ok (.iload_n 3, 1) := by decide +kernel
theorem d_La_there_7 : decode b_La_there 7 = .ok (.invokevirtual 60, 3) := by decide +kernel
theorem d_La_there_10 : decode b_La_there 10 = .ok (.i2l, 1) := by decide +kernel
theorem d_La_there_11 : decode b_La_there 11 = .ok (.lastore, 1) := by decide +kernel
theorem d_La_there_12 : decode b_La_there 12 = .ok (.goto 7, 3) := by decide +kernel
theorem d_La_there_15 : decode b_La_there 15 = .ok (.astore 5, 2) := by decide +kernel
theorem d_La_there_17 : decode b_La_there 17 = .ok (.iconst 1, 1) := by decide +kernel
theorem d_La_there_18 : decode b_La_there 18 = .ok (.ireturn, 1) := by decide +kernel
theorem d_La_there_19 : decode b_La_there 19 = .ok (.iconst 0, 1) := by decide +kernel
theorem d_La_there_20 : decode b_La_there 20 = .ok (.ireturn, 1) := by decide +kernel
theorem d_La_at_0 : decode b_La_at 0 = .ok (.aload 4, 2) := by decide +kernel
theorem d_La_at_2 : decode b_La_at 2 = .ok (.iconst 0, 1) := by decide +kernel
theorem d_La_at_3 : decode b_La_at 3 = .ok (.aload_n 0, 1) := by decide +kernel
theorem d_La_at_4 : decode b_La_at 4 = .ok (.iload_n 1, 1) := by decide +kernel
theorem d_La_at_5 : decode b_La_at 5 = .ok (.iload_n 2, 1) := by decide +kernel
theorem d_La_at_6 : decode b_La_at 6 = .ok (.iload_n 3, 1) := by decide +kernel
theorem d_La_at_7 : decode b_La_at 7 = .ok (.invokevirtual 63, 3) := by decide +kernel
theorem d_La_at_10 : decode b_La_at 10 = .ok (.i2l, 1) := by decide +kernel
theorem d_La_at_11 : decode b_La_at 11 = .ok (.lastore, 1) := by decide +kernel
theorem d_La_at_12 : decode b_La_at 12 = .ok (.goto 7, 3) := by decide +kernel
theorem d_La_at_15 : decode b_La_at 15 = .ok (.astore 5, 2) := by decide +kernel
theorem d_La_at_17 : decode b_La_at 17 = .ok (.iconst 1, 1) := by decide +kernel
theorem d_La_at_18 : decode b_La_at 18 = .ok (.ireturn, 1) := by decide +kernel
theorem d_La_at_19 : decode b_La_at 19 = .ok (.iconst 0, 1) := by decide +kernel
theorem d_La_at_20 : decode b_La_at 20 = .ok (.ireturn, 1) := by decide +kernel
theorem d_La_since_0 : decode b_La_since 0 = .ok (.aload 4, 2) := by decide +kernel
theorem d_La_since_2 : decode b_La_since 2 = .ok (.iconst 0, 1) := by decide +kernel
theorem d_La_since_3 : decode b_La_since 3 = .ok (.aload_n 0, 1) := by decide +kernel
theorem d_La_since_4 : decode b_La_since 4 = .ok (.iload_n 1, 1) := by decide +kernel
theorem d_La_since_5 : decode b_La_since 5 = .ok (.iload_n 2, 1) := by decide +kernel
theorem d_La_since_6 : decode b_La_since 6 = .ok (.iload_n 3, 1) := by decide +kernel
theorem d_La_since_7 : decode b_La_since 7 = .ok (.invokevirtual 66, 3) := by decide +kernel
theorem d_La_since_10 : decode b_La_since 10 = .ok (.i2l, 1) := by decide +kernel
theorem d_La_since_11 : decode b_La_since 11 = .ok (.lastore, 1) := by decide +kernel
theorem d_La_since_12 : decode b_La_since 12 = .ok (.goto 7, 3) := by decide +kernel
theorem d_La_since_15 : decode b_La_since 15 = .ok (.astore 5, 2) := by decide +kernel
theorem d_La_since_17 : decode b_La_since 17 = .ok (.iconst 1, 1) := by decide +kernel
theorem d_La_since_18 : decode b_La_since 18 = .ok (.ireturn, 1) := by decide +kernel
theorem d_La_since_19 : decode b_La_since 19 = .ok (.iconst 0, 1) := by decide +kernel
theorem d_La_since_20 : decode b_La_since 20 = .ok (.ireturn, 1) := by decide +kernel
theorem d_La_told_0 : decode b_La_told 0 = .ok (.aload_n 3, 1) := by decide +kernel
theorem d_La_told_1 : decode b_La_told 1 = .ok (.iconst 0, 1) := by decide +kernel
theorem d_La_told_2 : decode b_La_told 2 = .ok (.aload_n 0, 1) := by decide +kernel
theorem d_La_told_3 : decode b_La_told 3 = .ok (.iload_n 1, 1) := by decide +kernel
theorem d_La_told_4 : decode b_La_told 4 = .ok (.iload_n 2, 1) := by decide +kernel
theorem d_La_told_5 : decode b_La_told 5 = .ok (.invokevirtual 69, 3) := by decide +kernel
theorem d_La_told_8 : decode b_La_told 8 = .ok (.i2l, 1) := by decide +kernel
theorem d_La_told_9 : decode b_La_told 9 = .ok (.lastore, 1) := by decide +kernel
theorem d_La_told_10 : decode b_La_told 10 = .ok (.goto 7, 3) := by decide +kernel
theorem d_La_told_13 : decode b_La_told 13 = .ok (.astore 4, 2) := by decide +kernel
theorem d_La_told_15 : decode b_La_told 15 = .ok (.iconst 1, 1) := by decide +kernel
theorem d_La_told_16 : decode b_La_told 16 = .ok (.ireturn, 1) := by decide +kernel
theorem d_La_told_17 : decode b_La_told 17 = .ok (.iconst 0, 1) := by decide +kernel
theorem d_La_told_18 : decode b_La_told 18 = .ok (.ireturn, 1) := by decide +kernel
theorem d_La_author_0 : decode b_La_author 0 = .ok (.aload_n 2, 1) := by decide +kernel
theorem d_La_author_1 : decode b_La_author 1 = .ok (.iconst 0, 1) := by decide +kernel
theorem d_La_author_2 : decode b_La_author 2 = .ok (.aload_n 0, 1) := by decide +kernel
theorem d_La_author_3 : decode b_La_author 3 = .ok (.iload_n 1, 1) := by decide +kernel
theorem d_La_author_4 : decode b_La_author 4 = .ok (.invokevirtual 72, 3) := by decide +kernel
theorem d_La_author_7 : decode b_La_author 7 = .ok (.i2l, 1) := by decide +kernel
theorem d_La_author_8 : decode b_La_author 8 = .ok (.lastore, 1) := by decide +kernel
theorem d_La_author_9 : decode b_La_author 9 = .ok (.goto 6, 3) := by decide +kernel
theorem d_La_author_12 : decode b_La_author 12 = .ok (.astore_n 3, 1) := by decide +kernel
theorem d_La_author_13 : decode b_La_author 13 = .ok (.iconst 1, 1) := by decide +kernel
theorem d_La_author_14 : decode b_La_author 14 = .ok (.ireturn, 1) := by decide +kernel
theorem d_La_author_15 : decode b_La_author 15 = .ok (.iconst 0, 1) := by decide +kernel
theorem d_La_author_16 : decode b_La_author 16 = .ok (.ireturn, 1) := by decide +kernel
theorem d_La_count_0 : decode b_La_count 0 = .ok (.aload_n 2, 1) := by decide +kernel
theorem d_La_count_1 : decode b_La_count 1 = .ok (.iconst 0, 1) := by decide +kernel
theorem d_La_count_2 : decode b_La_count 2 = .ok (.aload_n 0, 1) := by decide +kernel
theorem d_La_count_3 : decode b_La_count 3 = .ok (.iload_n 1, 1) := by decide +kernel
theorem d_La_count_4 : decode b_La_count 4 = .ok (.invokevirtual 75, 3) := by decide +kernel
theorem d_La_count_7 : decode b_La_count 7 = .ok (.i2l, 1) := by decide +kernel
theorem d_La_count_8 : decode b_La_count 8 = .ok (.lastore, 1) := by decide +kernel
theorem d_La_count_9 : decode b_La_count 9 = .ok (.goto 6, 3) := by decide +kernel
theorem d_La_count_12 : decode b_La_count 12 = .ok (.astore_n 3, 1) := by decide +kernel
theorem d_La_count_13 : decode b_La_count 13 = .ok (.iconst 1, 1) := by decide +kernel
theorem d_La_count_14 : decode b_La_count 14 = .ok (.ireturn, 1) := by decide +kernel
theorem d_La_count_15 : decode b_La_count 15 = .ok (.iconst 0, 1) := by decide +kernel
theorem d_La_count_16 : decode b_La_count 16 = .ok (.ireturn, 1) := by decide +kernel
theorem d_La_differs_0 : decode b_La_differs 0 = .ok (.aload 4, 2) := by decide +kernel
theorem d_La_differs_2 : decode b_La_differs 2 = .ok (.iconst 0, 1) := by decide +kernel
theorem d_La_differs_3 : decode b_La_differs 3 = .ok (.aload_n 0, 1) := by decide +kernel
theorem d_La_differs_4 : decode b_La_differs 4 = .ok (.iload_n 1, 1) := by decide +kernel
theorem d_La_differs_5 : decode b_La_differs 5 = .ok (.iload_n 2, 1) := by decide +kernel
theorem d_La_differs_6 : decode b_La_differs 6 = .ok (.iload_n 3, 1) := by decide +kernel
theorem d_La_differs_7 : decode b_La_differs 7 = .ok (.invokevirtual 78, 3) := by decide +kernel
theorem d_La_differs_10 : decode b_La_differs 10 = .ok (.i2l, 1) := by decide +kernel
theorem d_La_differs_11 : decode b_La_differs 11 = .ok (.lastore, 1) := by decide +kernel
theorem d_La_differs_12 : decode b_La_differs 12 = .ok (.goto 7, 3) := by decide +kernel
theorem d_La_differs_15 : decode b_La_differs 15 = .ok (.astore 5, 2) := by decide +kernel
theorem d_La_differs_17 : decode b_La_differs 17 = .ok (.iconst 1, 1) := by decide +kernel
theorem d_La_differs_18 : decode b_La_differs 18 = .ok (.ireturn, 1) := by decide +kernel
theorem d_La_differs_19 : decode b_La_differs 19 = .ok (.iconst 0, 1) := by decide +kernel
theorem d_La_differs_20 : decode b_La_differs 20 = .ok (.ireturn, 1) := by decide +kernel
theorem d_La_broken_0 : decode b_La_broken 0 = .ok (.aload_n 3, 1) := by decide +kernel
theorem d_La_broken_1 : decode b_La_broken 1 = .ok (.iconst 0, 1) := by decide +kernel
theorem d_La_broken_2 : decode b_La_broken 2 = .ok (.aload_n 0, 1) := by decide +kernel
theorem d_La_broken_3 : decode b_La_broken 3 = .ok (.iload_n 1, 1) := by decide +kernel
theorem d_La_broken_4 : decode b_La_broken 4 = .ok (.iload_n 2, 1) := by decide +kernel
theorem d_La_broken_5 : decode b_La_broken 5 = .ok (.invokevirtual 81, 3) := by decide +kernel
theorem d_La_broken_8 : decode b_La_broken 8 = .ok (.i2l, 1) := by decide +kernel
theorem d_La_broken_9 : decode b_La_broken 9 = .ok (.lastore, 1) := by decide +kernel
theorem d_La_broken_10 : decode b_La_broken 10 = .ok (.goto 7, 3) := by decide +kernel
theorem d_La_broken_13 : decode b_La_broken 13 = .ok (.astore 4, 2) := by decide +kernel
theorem d_La_broken_15 : decode b_La_broken 15 = .ok (.iconst 1, 1) := by decide +kernel
theorem d_La_broken_16 : decode b_La_broken 16 = .ok (.ireturn, 1) := by decide +kernel
theorem d_La_broken_17 : decode b_La_broken 17 = .ok (.iconst 0, 1) := by decide +kernel
theorem d_La_broken_18 : decode b_La_broken 18 = .ok (.ireturn, 1) := by decide +kernel
end
section
theorem d_La_law_0 : decode b_La_law 0 = .ok (.new 8, 3) := by decide +kernel
theorem d_La_law_3 : decode b_La_law 3 = .ok (.dup, 1) := by decide +kernel
theorem d_La_law_4 : decode b_La_law 4 = .ok (.invokespecial 84, 3) := by decide +kernel
theorem d_La_law_7 : decode b_La_law 7 = .ok (.astore_n 1, 1) := by decide +kernel
theorem d_La_law_8 : decode b_La_law 8 = .ok (.new 85, 3) := by decide +kernel
theorem d_La_law_11 : decode b_La_law 11 = .ok (.dup, 1) := by decide +kernel
theorem d_La_law_12 : decode b_La_law 12 = .ok (.invokespecial 87, 3) := by decide +kernel
theorem d_La_law_15 : decode b_La_law 15 = .ok (.astore_n 2, 1) := by decide +kernel
theorem d_La_law_16 : decode b_La_law 16 = .ok (.iconst 1, 1) := by decide +kernel
theorem d_La_law_17 : decode b_La_law 17 = .ok (.newarray .long, 2) := by decide +kernel
theorem d_La_law_19 : decode b_La_law 19 = .ok (.astore_n 3, 1) := by decide +kernel
theorem d_La_law_20 : decode b_La_law 20 = .ok (.iconst 0, 1) := by decide +kernel
theorem d_La_law_21 : decode b_La_law 21 = .ok (.istore 4, 2) := by decide +kernel
theorem d_La_law_23 : decode b_La_law 23 = .ok (.iload 4, 2) := by decide +kernel
theorem d_La_law_25 : decode b_La_law 25 = .ok (.aload_n 0, 1) := by decide +kernel
theorem d_La_law_26 : decode b_La_law 26 = .ok (.arraylength, 1) := by decide +kernel
theorem d_La_law_27 : decode b_La_law 27 = .ok (.iconst 5, 1) := by decide +kernel
theorem d_La_law_28 : decode b_La_law 28 = .ok (.isub, 1) := by decide +kernel
theorem d_La_law_29 : decode b_La_law 29 = .ok (.if_icmp .gt 1625, 3) := by decide +kernel
theorem d_La_law_32 : decode b_La_law 32 = .ok (.aload_n 0, 1) := by decide +kernel
theorem d_La_law_33 : decode b_La_law 33 = .ok (.iload 4, 2) := by decide +kernel
theorem d_La_law_35 : decode b_La_law 35 = .ok (.iaload, 1) := by decide +kernel
theorem d_La_law_36 : decode b_La_law 36 = .ok (.bipush 31, 2) := by decide +kernel
theorem d_La_law_38 : decode b_La_law 38 = .ok (.iand, 1) := by decide +kernel
theorem d_La_law_39 : decode b_La_law 39 = .ok (.tableswitch 1609 0 21 #[101, 169, 237, 329, 397, 453, 509, 577, 657, 713, 781, 849, 893, 961, 1041, 1121, 1201, 1281, 1349, 1405, 1461, 1541], 101) := by decide +kernel
theorem d_La_law_140 : decode b_La_law 140 = .ok (.aload_n 1, 1) := by decide +kernel
theorem d_La_law_141 : decode b_La_law 141 = .ok (.aload_n 0, 1) := by decide +kernel
theorem d_La_law_142 : decode b_La_law 142 = .ok (.iload 4, 2) := by decide +kernel
theorem d_La_law_144 : decode b_La_law 144 = .ok (.iconst 1, 1) := by decide +kernel
theorem d_La_law_145 : decode b_La_law 145 = .ok (.iadd, 1) := by decide +kernel
theorem d_La_law_146 : decode b_La_law 146 = .ok (.iaload, 1) := by decide +kernel
theorem d_La_law_147 : decode b_La_law 147 = .ok (.aload_n 0, 1) := by decide +kernel
theorem d_La_law_148 : decode b_La_law 148 = .ok (.iload 4, 2) := by decide +kernel
theorem d_La_law_150 : decode b_La_law 150 = .ok (.iconst 2, 1) := by decide +kernel
theorem d_La_law_151 : decode b_La_law 151 = .ok (.iadd, 1) := by decide +kernel
theorem d_La_law_152 : decode b_La_law 152 = .ok (.iaload, 1) := by decide +kernel
theorem d_La_law_153 : decode b_La_law 153 = .ok (.aload_n 3, 1) := by decide +kernel
theorem d_La_law_154 : decode b_La_law 154 = .ok (.invokestatic 88, 3) := by decide +kernel
theorem d_La_law_157 : decode b_La_law 157 = .ok (.istore 5, 2) := by decide +kernel
theorem d_La_law_159 : decode b_La_law 159 = .ok (.aload_n 2, 1) := by decide +kernel
theorem d_La_law_160 : decode b_La_law 160 = .ok (.aload_n 0, 1) := by decide +kernel
theorem d_La_law_161 : decode b_La_law 161 = .ok (.iload 4, 2) := by decide +kernel
theorem d_La_law_163 : decode b_La_law 163 = .ok (.iconst 1, 1) := by decide +kernel
theorem d_La_law_164 : decode b_La_law 164 = .ok (.iadd, 1) := by decide +kernel
theorem d_La_law_165 : decode b_La_law 165 = .ok (.iaload, 1) := by decide +kernel
theorem d_La_law_166 : decode b_La_law 166 = .ok (.aload_n 0, 1) := by decide +kernel
theorem d_La_law_167 : decode b_La_law 167 = .ok (.iload 4, 2) := by decide +kernel
theorem d_La_law_169 : decode b_La_law 169 = .ok (.iconst 2, 1) := by decide +kernel
theorem d_La_law_170 : decode b_La_law 170 = .ok (.iadd, 1) := by decide +kernel
theorem d_La_law_171 : decode b_La_law 171 = .ok (.iaload, 1) := by decide +kernel
theorem d_La_law_172 : decode b_La_law 172 = .ok (.invokevirtual 93, 3) := by decide +kernel
theorem d_La_law_175 : decode b_La_law 175 = .ok (.istore 6, 2) := by decide +kernel
theorem d_La_law_177 : decode b_La_law 177 = .ok (.aload_n 2, 1) := by decide +kernel
theorem d_La_law_178 : decode b_La_law 178 = .ok (.invokevirtual 94, 3) := by decide +kernel
theorem d_La_law_181 : decode b_La_law 181 = .ok (.iload 5, 2) := by decide +kernel
theorem d_La_law_183 : decode b_La_law 183 = .ok (.if_icmp .eq 5, 3) := by decide +kernel
theorem d_La_law_186 : decode b_La_law 186 = .ok (.iconst 0, 1) := by decide +kernel
theorem d_La_law_187 : decode b_La_law 187 = .ok (.ireturn, 1) := by decide +kernel
theorem d_La_law_188 : decode b_La_law 188 = .ok (.iload 5, 2) := by decide +kernel
theorem d_La_law_190 : decode b_La_law 190 = .ok (.ifCond .ne 15, 3) := by decide +kernel
theorem d_La_law_193 : decode b_La_law 193 = .ok (.aload_n 3, 1) := by decide +kernel
theorem d_La_law_194 : decode b_La_law 194 = .ok (.iconst 0, 1) := by decide +kernel
theorem d_La_law_195 : decode b_La_law 195 = .ok (.laload, 1) := by decide +kernel
theorem d_La_law_196 : decode b_La_law 196 = .ok (.iload 6, 2) := by decide +kernel
theorem d_La_law_198 : decode b_La_law 198 = .ok (.i2l, 1) := by decide +kernel
theorem d_La_law_199 : decode b_La_law 199 = .ok (.lcmp, 1) := by decide +kernel
theorem d_La_law_200 : decode b_La_law 200 = .ok (.ifCond .eq 5, 3) := by decide +kernel
theorem d_La_law_203 : decode b_La_law 203 = .ok (.iconst 0, 1) := by decide +kernel
theorem d_La_law_204 : decode b_La_law 204 = .ok (.ireturn, 1) := by decide +kernel
theorem d_La_law_205 : decode b_La_law 205 = .ok (.goto 1443, 3) := by decide +kernel
theorem d_La_law_208 : decode b_La_law 208 = .ok (.aload_n 1, 1) := by decide +kernel
theorem d_La_law_209 : decode b_La_law 209 = .ok (.aload_n 0, 1) := by decide +kernel
theorem d_La_law_210 : decode b_La_law 210 = .ok (.iload 4, 2) := by decide +kernel
theorem d_La_law_212 : decode b_La_law 212 = .ok (.iconst 1, 1) := by decide +kernel
theorem d_La_law_213 : decode b_La_law 213 = .ok (.iadd, 1) := by decide +kernel
theorem d_La_law_214 : decode b_La_law 214 = .ok (.iaload, 1) := by decide +kernel
theorem d_La_law_215 : decode b_La_law 215 = .ok (.aload_n 0, 1) := by decide +kernel
theorem d_La_law_216 : decode b_La_law 216 = .ok (.iload 4, 2) := by decide +kernel
theorem d_La_law_218 : decode b_La_law 218 = .ok (.iconst 2, 1) := by decide +kernel
theorem d_La_law_219 : decode b_La_law 219 = .ok (.iadd, 1) := by decide +kernel
theorem d_La_law_220 : decode b_La_law 220 = .ok (.iaload, 1) := by decide +kernel
theorem d_La_law_221 : decode b_La_law 221 = .ok (.aload_n 3, 1) := by decide +kernel
theorem d_La_law_222 : decode b_La_law 222 = .ok (.invokestatic 97, 3) := by decide +kernel
theorem d_La_law_225 : decode b_La_law 225 = .ok (.istore 5, 2) := by decide +kernel
theorem d_La_law_227 : decode b_La_law 227 = .ok (.aload_n 2, 1) := by decide +kernel
theorem d_La_law_228 : decode b_La_law 228 = .ok (.aload_n 0, 1) := by decide +kernel
theorem d_La_law_229 : decode b_La_law 229 = .ok (.iload 4, 2) := by decide +kernel
theorem d_La_law_231 : decode b_La_law 231 = .ok (.iconst 1, 1) := by decide +kernel
theorem d_La_law_232 : decode b_La_law 232 = .ok (.iadd, 1) := by decide +kernel
theorem d_La_law_233 : decode b_La_law 233 = .ok (.iaload, 1) := by decide +kernel
theorem d_La_law_234 : decode b_La_law 234 = .ok (.aload_n 0, 1) := by decide +kernel
theorem d_La_law_235 : decode b_La_law 235 = .ok (.iload 4, 2) := by decide +kernel
theorem d_La_law_237 : decode b_La_law 237 = .ok (.iconst 2, 1) := by decide +kernel
theorem d_La_law_238 : decode b_La_law 238 = .ok (.iadd, 1) := by decide +kernel
theorem d_La_law_239 : decode b_La_law 239 = .ok (.iaload, 1) := by decide +kernel
theorem d_La_law_240 : decode b_La_law 240 = .ok (.invokevirtual 99, 3) := by decide +kernel
theorem d_La_law_243 : decode b_La_law 243 = .ok (.istore 6, 2) := by decide +kernel
theorem d_La_law_245 : decode b_La_law 245 = .ok (.aload_n 2, 1) := by decide +kernel
theorem d_La_law_246 : decode b_La_law 246 = .ok (.invokevirtual 94, 3) := by decide +kernel
theorem d_La_law_249 : decode b_La_law 249 = .ok (.iload 5, 2) := by decide +kernel
theorem d_La_law_251 : decode b_La_law 251 = .ok (.if_icmp .eq 5, 3) := by decide +kernel
theorem d_La_law_254 : decode b_La_law 254 = .ok (.iconst 0, 1) := by decide +kernel
theorem d_La_law_255 : decode b_La_law 255 = .ok (.ireturn, 1) := by decide +kernel
theorem d_La_law_256 : decode b_La_law 256 = .ok (.iload 5, 2) := by decide +kernel
theorem d_La_law_258 : decode b_La_law 258 = .ok (.ifCond .ne 15, 3) := by decide +kernel
theorem d_La_law_261 : decode b_La_law 261 = .ok (.aload_n 3, 1) := by decide +kernel
theorem d_La_law_262 : decode b_La_law 262 = .ok (.iconst 0, 1) := by decide +kernel
theorem d_La_law_263 : decode b_La_law 263 = .ok (.laload, 1) := by decide +kernel
theorem d_La_law_264 : decode b_La_law 264 = .ok (.iload 6, 2) := by decide +kernel
theorem d_La_law_266 : decode b_La_law 266 = .ok (.i2l, 1) := by decide +kernel
theorem d_La_law_267 : decode b_La_law 267 = .ok (.lcmp, 1) := by decide +kernel
theorem d_La_law_268 : decode b_La_law 268 = .ok (.ifCond .eq 5, 3) := by decide +kernel
theorem d_La_law_271 : decode b_La_law 271 = .ok (.iconst 0, 1) := by decide +kernel
theorem d_La_law_272 : decode b_La_law 272 = .ok (.ireturn, 1) := by decide +kernel
theorem d_La_law_273 : decode b_La_law 273 = .ok (.goto 1375, 3) := by decide +kernel
theorem d_La_law_276 : decode b_La_law 276 = .ok (.aload_n 1, 1) := by decide +kernel
theorem d_La_law_277 : decode b_La_law 277 = .ok (.aload_n 0, 1) := by decide +kernel
theorem d_La_law_278 : decode b_La_law 278 = .ok (.iload 4, 2) := by decide +kernel
theorem d_La_law_280 : decode b_La_law 280 = .ok (.iconst 1, 1) := by decide +kernel
theorem d_La_law_281 : decode b_La_law 281 = .ok (.iadd, 1) := by decide +kernel
theorem d_La_law_282 : decode b_La_law 282 = .ok (.iaload, 1) := by decide +kernel
theorem d_La_law_283 : decode b_La_law 283 = .ok (.aload_n 0, 1) := by decide +kernel
theorem d_La_law_284 : decode b_La_law 284 = .ok (.iload 4, 2) := by decide +kernel
theorem d_La_law_286 : decode b_La_law 286 = .ok (.iconst 2, 1) := by decide +kernel
theorem d_La_law_287 : decode b_La_law 287 = .ok (.iadd, 1) := by decide +kernel
theorem d_La_law_288 : decode b_La_law 288 = .ok (.iaload, 1) := by decide +kernel
theorem d_La_law_289 : decode b_La_law 289 = .ok (.aload_n 0, 1) := by decide +kernel
theorem d_La_law_290 : decode b_La_law 290 = .ok (.iload 4, 2) := by decide +kernel
theorem d_La_law_292 : decode b_La_law 292 = .ok (.iconst 3, 1) := by decide +kernel
theorem d_La_law_293 : decode b_La_law 293 = .ok (.iadd, 1) := by decide +kernel
theorem d_La_law_294 : decode b_La_law 294 = .ok (.iaload, 1) := by decide +kernel
theorem d_La_law_295 : decode b_La_law 295 = .ok (.aload_n 0, 1) := by decide +kernel
theorem d_La_law_296 : decode b_La_law 296 = .ok (.iload 4, 2) := by decide +kernel
theorem d_La_law_298 : decode b_La_law 298 = .ok (.iconst 4, 1) := by decide +kernel
theorem d_La_law_299 : decode b_La_law 299 = .ok (.iadd, 1) := by decide +kernel
theorem d_La_law_300 : decode b_La_law 300 = .ok (.iaload, 1) := by decide +kernel
theorem d_La_law_301 : decode b_La_law 301 = .ok (.aload_n 3, 1) := by decide +kernel
theorem d_La_law_302 : decode b_La_law 302 = .ok (.invokestatic 100, 3) := by decide +kernel
theorem d_La_law_305 : decode b_La_law 305 = .ok (.istore 5, 2) := by decide +kernel
theorem d_La_law_307 : decode b_La_law 307 = .ok (.aload_n 2, 1) := by decide +kernel
theorem d_La_law_308 : decode b_La_law 308 = .ok (.aload_n 0, 1) := by decide +kernel
theorem d_La_law_309 : decode b_La_law 309 = .ok (.iload 4, 2) := by decide +kernel
theorem d_La_law_311 : decode b_La_law 311 = .ok (.iconst 1, 1) := by decide +kernel
theorem d_La_law_312 : decode b_La_law 312 = .ok (.iadd, 1) := by decide +kernel
theorem d_La_law_313 : decode b_La_law 313 = .ok (.iaload, 1) := by decide +kernel
theorem d_La_law_314 : decode b_La_law 314 = .ok (.aload_n 0, 1) := by decide +kernel
theorem d_La_law_315 : decode b_La_law 315 = .ok (.iload 4, 2) := by decide +kernel
theorem d_La_law_317 : decode b_La_law 317 = .ok (.iconst 2, 1) := by decide +kernel
theorem d_La_law_318 : decode b_La_law 318 = .ok (.iadd, 1) := by decide +kernel
theorem d_La_law_319 : decode b_La_law 319 = .ok (.iaload, 1) := by decide +kernel
theorem d_La_law_320 : decode b_La_law 320 = .ok (.aload_n 0, 1) := by decide +kernel
theorem d_La_law_321 : decode b_La_law 321 = .ok (.iload 4, 2) := by decide +kernel
theorem d_La_law_323 : decode b_La_law 323 = .ok (.iconst 3, 1) := by decide +kernel
theorem d_La_law_324 : decode b_La_law 324 = .ok (.iadd, 1) := by decide +kernel
theorem d_La_law_325 : decode b_La_law 325 = .ok (.iaload, 1) := by decide +kernel
theorem d_La_law_326 : decode b_La_law 326 = .ok (.aload_n 0, 1) := by decide +kernel
theorem d_La_law_327 : decode b_La_law 327 = .ok (.iload 4, 2) := by decide +kernel
theorem d_La_law_329 : decode b_La_law 329 = .ok (.iconst 4, 1) := by decide +kernel
theorem d_La_law_330 : decode b_La_law 330 = .ok (.iadd, 1) := by decide +kernel
theorem d_La_law_331 : decode b_La_law 331 = .ok (.iaload, 1) := by decide +kernel
theorem d_La_law_332 : decode b_La_law 332 = .ok (.invokevirtual 103, 3) := by decide +kernel
theorem d_La_law_335 : decode b_La_law 335 = .ok (.istore 6, 2) := by decide +kernel
theorem d_La_law_337 : decode b_La_law 337 = .ok (.aload_n 2, 1) := by decide +kernel
theorem d_La_law_338 : decode b_La_law 338 = .ok (.invokevirtual 94, 3) := by decide +kernel
theorem d_La_law_341 : decode b_La_law 341 = .ok (.iload 5, 2) := by decide +kernel
theorem d_La_law_343 : decode b_La_law 343 = .ok (.if_icmp .eq 5, 3) := by decide +kernel
theorem d_La_law_346 : decode b_La_law 346 = .ok (.iconst 0, 1) := by decide +kernel
theorem d_La_law_347 : decode b_La_law 347 = .ok (.ireturn, 1) := by decide +kernel
theorem d_La_law_348 : decode b_La_law 348 = .ok (.iload 5, 2) := by decide +kernel
theorem d_La_law_350 : decode b_La_law 350 = .ok (.ifCond .ne 15, 3) := by decide +kernel
theorem d_La_law_353 : decode b_La_law 353 = .ok (.aload_n 3, 1) := by decide +kernel
theorem d_La_law_354 : decode b_La_law 354 = .ok (.iconst 0, 1) := by decide +kernel
theorem d_La_law_355 : decode b_La_law 355 = .ok (.laload, 1) := by decide +kernel
theorem d_La_law_356 : decode b_La_law 356 = .ok (.iload 6, 2) := by decide +kernel
theorem d_La_law_358 : decode b_La_law 358 = .ok (.i2l, 1) := by decide +kernel
theorem d_La_law_359 : decode b_La_law 359 = .ok (.lcmp, 1) := by decide +kernel
theorem d_La_law_360 : decode b_La_law 360 = .ok (.ifCond .eq 5, 3) := by decide +kernel
theorem d_La_law_363 : decode b_La_law 363 = .ok (.iconst 0, 1) := by decide +kernel
theorem d_La_law_364 : decode b_La_law 364 = .ok (.ireturn, 1) := by decide +kernel
theorem d_La_law_365 : decode b_La_law 365 = .ok (.goto 1283, 3) := by decide +kernel
theorem d_La_law_368 : decode b_La_law 368 = .ok (.aload_n 1, 1) := by decide +kernel
theorem d_La_law_369 : decode b_La_law 369 = .ok (.aload_n 0, 1) := by decide +kernel
theorem d_La_law_370 : decode b_La_law 370 = .ok (.iload 4, 2) := by decide +kernel
theorem d_La_law_372 : decode b_La_law 372 = .ok (.iconst 1, 1) := by decide +kernel
theorem d_La_law_373 : decode b_La_law 373 = .ok (.iadd, 1) := by decide +kernel
theorem d_La_law_374 : decode b_La_law 374 = .ok (.iaload, 1) := by decide +kernel
theorem d_La_law_375 : decode b_La_law 375 = .ok (.aload_n 0, 1) := by decide +kernel
theorem d_La_law_376 : decode b_La_law 376 = .ok (.iload 4, 2) := by decide +kernel
theorem d_La_law_378 : decode b_La_law 378 = .ok (.iconst 2, 1) := by decide +kernel
theorem d_La_law_379 : decode b_La_law 379 = .ok (.iadd, 1) := by decide +kernel
theorem d_La_law_380 : decode b_La_law 380 = .ok (.iaload, 1) := by decide +kernel
theorem d_La_law_381 : decode b_La_law 381 = .ok (.aload_n 3, 1) := by decide +kernel
theorem d_La_law_382 : decode b_La_law 382 = .ok (.invokestatic 104, 3) := by decide +kernel
theorem d_La_law_385 : decode b_La_law 385 = .ok (.istore 5, 2) := by decide +kernel
theorem d_La_law_387 : decode b_La_law 387 = .ok (.aload_n 2, 1) := by decide +kernel
theorem d_La_law_388 : decode b_La_law 388 = .ok (.aload_n 0, 1) := by decide +kernel
theorem d_La_law_389 : decode b_La_law 389 = .ok (.iload 4, 2) := by decide +kernel
theorem d_La_law_391 : decode b_La_law 391 = .ok (.iconst 1, 1) := by decide +kernel
theorem d_La_law_392 : decode b_La_law 392 = .ok (.iadd, 1) := by decide +kernel
theorem d_La_law_393 : decode b_La_law 393 = .ok (.iaload, 1) := by decide +kernel
theorem d_La_law_394 : decode b_La_law 394 = .ok (.aload_n 0, 1) := by decide +kernel
theorem d_La_law_395 : decode b_La_law 395 = .ok (.iload 4, 2) := by decide +kernel
theorem d_La_law_397 : decode b_La_law 397 = .ok (.iconst 2, 1) := by decide +kernel
theorem d_La_law_398 : decode b_La_law 398 = .ok (.iadd, 1) := by decide +kernel
theorem d_La_law_399 : decode b_La_law 399 = .ok (.iaload, 1) := by decide +kernel
theorem d_La_law_400 : decode b_La_law 400 = .ok (.invokevirtual 106, 3) := by decide +kernel
theorem d_La_law_403 : decode b_La_law 403 = .ok (.istore 6, 2) := by decide +kernel
theorem d_La_law_405 : decode b_La_law 405 = .ok (.aload_n 2, 1) := by decide +kernel
theorem d_La_law_406 : decode b_La_law 406 = .ok (.invokevirtual 94, 3) := by decide +kernel
theorem d_La_law_409 : decode b_La_law 409 = .ok (.iload 5, 2) := by decide +kernel
theorem d_La_law_411 : decode b_La_law 411 = .ok (.if_icmp .eq 5, 3) := by decide +kernel
theorem d_La_law_414 : decode b_La_law 414 = .ok (.iconst 0, 1) := by decide +kernel
theorem d_La_law_415 : decode b_La_law 415 = .ok (.ireturn, 1) := by decide +kernel
theorem d_La_law_416 : decode b_La_law 416 = .ok (.iload 5, 2) := by decide +kernel
theorem d_La_law_418 : decode b_La_law 418 = .ok (.ifCond .ne 15, 3) := by decide +kernel
theorem d_La_law_421 : decode b_La_law 421 = .ok (.aload_n 3, 1) := by decide +kernel
theorem d_La_law_422 : decode b_La_law 422 = .ok (.iconst 0, 1) := by decide +kernel
theorem d_La_law_423 : decode b_La_law 423 = .ok (.laload, 1) := by decide +kernel
theorem d_La_law_424 : decode b_La_law 424 = .ok (.iload 6, 2) := by decide +kernel
theorem d_La_law_426 : decode b_La_law 426 = .ok (.i2l, 1) := by decide +kernel
theorem d_La_law_427 : decode b_La_law 427 = .ok (.lcmp, 1) := by decide +kernel
theorem d_La_law_428 : decode b_La_law 428 = .ok (.ifCond .eq 5, 3) := by decide +kernel
theorem d_La_law_431 : decode b_La_law 431 = .ok (.iconst 0, 1) := by decide +kernel
theorem d_La_law_432 : decode b_La_law 432 = .ok (.ireturn, 1) := by decide +kernel
theorem d_La_law_433 : decode b_La_law 433 = .ok (.goto 1215, 3) := by decide +kernel
theorem d_La_law_436 : decode b_La_law 436 = .ok (.aload_n 1, 1) := by decide +kernel
theorem d_La_law_437 : decode b_La_law 437 = .ok (.aload_n 0, 1) := by decide +kernel
theorem d_La_law_438 : decode b_La_law 438 = .ok (.iload 4, 2) := by decide +kernel
theorem d_La_law_440 : decode b_La_law 440 = .ok (.iconst 1, 1) := by decide +kernel
theorem d_La_law_441 : decode b_La_law 441 = .ok (.iadd, 1) := by decide +kernel
theorem d_La_law_442 : decode b_La_law 442 = .ok (.iaload, 1) := by decide +kernel
theorem d_La_law_443 : decode b_La_law 443 = .ok (.aload_n 3, 1) := by decide +kernel
theorem d_La_law_444 : decode b_La_law 444 = .ok (.invokestatic 107, 3) := by decide +kernel
theorem d_La_law_447 : decode b_La_law 447 = .ok (.istore 5, 2) := by decide +kernel
theorem d_La_law_449 : decode b_La_law 449 = .ok (.aload_n 2, 1) := by decide +kernel
theorem d_La_law_450 : decode b_La_law 450 = .ok (.aload_n 0, 1) := by decide +kernel
theorem d_La_law_451 : decode b_La_law 451 = .ok (.iload 4, 2) := by decide +kernel
theorem d_La_law_453 : decode b_La_law 453 = .ok (.iconst 1, 1) := by decide +kernel
theorem d_La_law_454 : decode b_La_law 454 = .ok (.iadd, 1) := by decide +kernel
theorem d_La_law_455 : decode b_La_law 455 = .ok (.iaload, 1) := by decide +kernel
theorem d_La_law_456 : decode b_La_law 456 = .ok (.invokevirtual 110, 3) := by decide +kernel
theorem d_La_law_459 : decode b_La_law 459 = .ok (.istore 6, 2) := by decide +kernel
theorem d_La_law_461 : decode b_La_law 461 = .ok (.aload_n 2, 1) := by decide +kernel
theorem d_La_law_462 : decode b_La_law 462 = .ok (.invokevirtual 94, 3) := by decide +kernel
theorem d_La_law_465 : decode b_La_law 465 = .ok (.iload 5, 2) := by decide +kernel
theorem d_La_law_467 : decode b_La_law 467 = .ok (.if_icmp .eq 5, 3) := by decide +kernel
theorem d_La_law_470 : decode b_La_law 470 = .ok (.iconst 0, 1) := by decide +kernel
theorem d_La_law_471 : decode b_La_law 471 = .ok (.ireturn, 1) := by decide +kernel
theorem d_La_law_472 : decode b_La_law 472 = .ok (.iload 5, 2) := by decide +kernel
theorem d_La_law_474 : decode b_La_law 474 = .ok (.ifCond .ne 15, 3) := by decide +kernel
theorem d_La_law_477 : decode b_La_law 477 = .ok (.aload_n 3, 1) := by decide +kernel
theorem d_La_law_478 : decode b_La_law 478 = .ok (.iconst 0, 1) := by decide +kernel
theorem d_La_law_479 : decode b_La_law 479 = .ok (.laload, 1) := by decide +kernel
theorem d_La_law_480 : decode b_La_law 480 = .ok (.iload 6, 2) := by decide +kernel
theorem d_La_law_482 : decode b_La_law 482 = .ok (.i2l, 1) := by decide +kernel
theorem d_La_law_483 : decode b_La_law 483 = .ok (.lcmp, 1) := by decide +kernel
theorem d_La_law_484 : decode b_La_law 484 = .ok (.ifCond .eq 5, 3) := by decide +kernel
theorem d_La_law_487 : decode b_La_law 487 = .ok (.iconst 0, 1) := by decide +kernel
theorem d_La_law_488 : decode b_La_law 488 = .ok (.ireturn, 1) := by decide +kernel
theorem d_La_law_489 : decode b_La_law 489 = .ok (.goto 1159, 3) := by decide +kernel
theorem d_La_law_492 : decode b_La_law 492 = .ok (.aload_n 1, 1) := by decide +kernel
theorem d_La_law_493 : decode b_La_law 493 = .ok (.aload_n 0, 1) := by decide +kernel
theorem d_La_law_494 : decode b_La_law 494 = .ok (.iload 4, 2) := by decide +kernel
theorem d_La_law_496 : decode b_La_law 496 = .ok (.iconst 1, 1) := by decide +kernel
theorem d_La_law_497 : decode b_La_law 497 = .ok (.iadd, 1) := by decide +kernel
theorem d_La_law_498 : decode b_La_law 498 = .ok (.iaload, 1) := by decide +kernel
theorem d_La_law_499 : decode b_La_law 499 = .ok (.aload_n 3, 1) := by decide +kernel
theorem d_La_law_500 : decode b_La_law 500 = .ok (.invokestatic 111, 3) := by decide +kernel
theorem d_La_law_503 : decode b_La_law 503 = .ok (.istore 5, 2) := by decide +kernel
theorem d_La_law_505 : decode b_La_law 505 = .ok (.aload_n 2, 1) := by decide +kernel
theorem d_La_law_506 : decode b_La_law 506 = .ok (.aload_n 0, 1) := by decide +kernel
theorem d_La_law_507 : decode b_La_law 507 = .ok (.iload 4, 2) := by decide +kernel
theorem d_La_law_509 : decode b_La_law 509 = .ok (.iconst 1, 1) := by decide +kernel
theorem d_La_law_510 : decode b_La_law 510 = .ok (.iadd, 1) := by decide +kernel
theorem d_La_law_511 : decode b_La_law 511 = .ok (.iaload, 1) := by decide +kernel
theorem d_La_law_512 : decode b_La_law 512 = .ok (.invokevirtual 113, 3) := by decide +kernel
theorem d_La_law_515 : decode b_La_law 515 = .ok (.istore 6, 2) := by decide +kernel
theorem d_La_law_517 : decode b_La_law 517 = .ok (.aload_n 2, 1) := by decide +kernel
theorem d_La_law_518 : decode b_La_law 518 = .ok (.invokevirtual 94, 3) := by decide +kernel
theorem d_La_law_521 : decode b_La_law 521 = .ok (.iload 5, 2) := by decide +kernel
theorem d_La_law_523 : decode b_La_law 523 = .ok (.if_icmp .eq 5, 3) := by decide +kernel
theorem d_La_law_526 : decode b_La_law 526 = .ok (.iconst 0, 1) := by decide +kernel
theorem d_La_law_527 : decode b_La_law 527 = .ok (.ireturn, 1) := by decide +kernel
theorem d_La_law_528 : decode b_La_law 528 = .ok (.iload 5, 2) := by decide +kernel
theorem d_La_law_530 : decode b_La_law 530 = .ok (.ifCond .ne 15, 3) := by decide +kernel
theorem d_La_law_533 : decode b_La_law 533 = .ok (.aload_n 3, 1) := by decide +kernel
theorem d_La_law_534 : decode b_La_law 534 = .ok (.iconst 0, 1) := by decide +kernel
theorem d_La_law_535 : decode b_La_law 535 = .ok (.laload, 1) := by decide +kernel
theorem d_La_law_536 : decode b_La_law 536 = .ok (.iload 6, 2) := by decide +kernel
theorem d_La_law_538 : decode b_La_law 538 = .ok (.i2l, 1) := by decide +kernel
theorem d_La_law_539 : decode b_La_law 539 = .ok (.lcmp, 1) := by decide +kernel
theorem d_La_law_540 : decode b_La_law 540 = .ok (.ifCond .eq 5, 3) := by decide +kernel
theorem d_La_law_543 : decode b_La_law 543 = .ok (.iconst 0, 1) := by decide +kernel
theorem d_La_law_544 : decode b_La_law 544 = .ok (.ireturn, 1) := by decide +kernel
theorem d_La_law_545 : decode b_La_law 545 = .ok (.goto 1103, 3) := by decide +kernel
theorem d_La_law_548 : decode b_La_law 548 = .ok (.aload_n 1, 1) := by decide +kernel
theorem d_La_law_549 : decode b_La_law 549 = .ok (.aload_n 0, 1) := by decide +kernel
theorem d_La_law_550 : decode b_La_law 550 = .ok (.iload 4, 2) := by decide +kernel
theorem d_La_law_552 : decode b_La_law 552 = .ok (.iconst 1, 1) := by decide +kernel
theorem d_La_law_553 : decode b_La_law 553 = .ok (.iadd, 1) := by decide +kernel
theorem d_La_law_554 : decode b_La_law 554 = .ok (.iaload, 1) := by decide +kernel
theorem d_La_law_555 : decode b_La_law 555 = .ok (.aload_n 0, 1) := by decide +kernel
theorem d_La_law_556 : decode b_La_law 556 = .ok (.iload 4, 2) := by decide +kernel
theorem d_La_law_558 : decode b_La_law 558 = .ok (.iconst 2, 1) := by decide +kernel
theorem d_La_law_559 : decode b_La_law 559 = .ok (.iadd, 1) := by decide +kernel
theorem d_La_law_560 : decode b_La_law 560 = .ok (.iaload, 1) := by decide +kernel
theorem d_La_law_561 : decode b_La_law 561 = .ok (.aload_n 3, 1) := by decide +kernel
theorem d_La_law_562 : decode b_La_law 562 = .ok (.invokestatic 114, 3) := by decide +kernel
theorem d_La_law_565 : decode b_La_law 565 = .ok (.istore 5, 2) := by decide +kernel
theorem d_La_law_567 : decode b_La_law 567 = .ok (.aload_n 2, 1) := by decide +kernel
theorem d_La_law_568 : decode b_La_law 568 = .ok (.aload_n 0, 1) := by decide +kernel
theorem d_La_law_569 : decode b_La_law 569 = .ok (.iload 4, 2) := by decide +kernel
theorem d_La_law_571 : decode b_La_law 571 = .ok (.iconst 1, 1) := by decide +kernel
theorem d_La_law_572 : decode b_La_law 572 = .ok (.iadd, 1) := by decide +kernel
theorem d_La_law_573 : decode b_La_law 573 = .ok (.iaload, 1) := by decide +kernel
theorem d_La_law_574 : decode b_La_law 574 = .ok (.aload_n 0, 1) := by decide +kernel
theorem d_La_law_575 : decode b_La_law 575 = .ok (.iload 4, 2) := by decide +kernel
theorem d_La_law_577 : decode b_La_law 577 = .ok (.iconst 2, 1) := by decide +kernel
theorem d_La_law_578 : decode b_La_law 578 = .ok (.iadd, 1) := by decide +kernel
theorem d_La_law_579 : decode b_La_law 579 = .ok (.iaload, 1) := by decide +kernel
theorem d_La_law_580 : decode b_La_law 580 = .ok (.invokevirtual 116, 3) := by decide +kernel
theorem d_La_law_583 : decode b_La_law 583 = .ok (.istore 6, 2) := by decide +kernel
theorem d_La_law_585 : decode b_La_law 585 = .ok (.aload_n 2, 1) := by decide +kernel
theorem d_La_law_586 : decode b_La_law 586 = .ok (.invokevirtual 94, 3) := by decide +kernel
theorem d_La_law_589 : decode b_La_law 589 = .ok (.iload 5, 2) := by decide +kernel
theorem d_La_law_591 : decode b_La_law 591 = .ok (.if_icmp .eq 5, 3) := by decide +kernel
theorem d_La_law_594 : decode b_La_law 594 = .ok (.iconst 0, 1) := by decide +kernel
theorem d_La_law_595 : decode b_La_law 595 = .ok (.ireturn, 1) := by decide +kernel
theorem d_La_law_596 : decode b_La_law 596 = .ok (.iload 5, 2) := by decide +kernel
theorem d_La_law_598 : decode b_La_law 598 = .ok (.ifCond .ne 15, 3) := by decide +kernel
theorem d_La_law_601 : decode b_La_law 601 = .ok (.aload_n 3, 1) := by decide +kernel
theorem d_La_law_602 : decode b_La_law 602 = .ok (.iconst 0, 1) := by decide +kernel
theorem d_La_law_603 : decode b_La_law 603 = .ok (.laload, 1) := by decide +kernel
theorem d_La_law_604 : decode b_La_law 604 = .ok (.iload 6, 2) := by decide +kernel
theorem d_La_law_606 : decode b_La_law 606 = .ok (.i2l, 1) := by decide +kernel
theorem d_La_law_607 : decode b_La_law 607 = .ok (.lcmp, 1) := by decide +kernel
theorem d_La_law_608 : decode b_La_law 608 = .ok (.ifCond .eq 5, 3) := by decide +kernel
theorem d_La_law_611 : decode b_La_law 611 = .ok (.iconst 0, 1) := by decide +kernel
theorem d_La_law_612 : decode b_La_law 612 = .ok (.ireturn, 1) := by decide +kernel
theorem d_La_law_613 : decode b_La_law 613 = .ok (.goto 1035, 3) := by decide +kernel
theorem d_La_law_616 : decode b_La_law 616 = .ok (.aload_n 1, 1) := by decide +kernel
theorem d_La_law_617 : decode b_La_law 617 = .ok (.aload_n 0, 1) := by decide +kernel
theorem d_La_law_618 : decode b_La_law 618 = .ok (.iload 4, 2) := by decide +kernel
theorem d_La_law_620 : decode b_La_law 620 = .ok (.iconst 1, 1) := by decide +kernel
theorem d_La_law_621 : decode b_La_law 621 = .ok (.iadd, 1) := by decide +kernel
theorem d_La_law_622 : decode b_La_law 622 = .ok (.iaload, 1) := by decide +kernel
theorem d_La_law_623 : decode b_La_law 623 = .ok (.aload_n 0, 1) := by decide +kernel
theorem d_La_law_624 : decode b_La_law 624 = .ok (.iload 4, 2) := by decide +kernel
theorem d_La_law_626 : decode b_La_law 626 = .ok (.iconst 2, 1) := by decide +kernel
theorem d_La_law_627 : decode b_La_law 627 = .ok (.iadd, 1) := by decide +kernel
theorem d_La_law_628 : decode b_La_law 628 = .ok (.iaload, 1) := by decide +kernel
theorem d_La_law_629 : decode b_La_law 629 = .ok (.aload_n 0, 1) := by decide +kernel
theorem d_La_law_630 : decode b_La_law 630 = .ok (.iload 4, 2) := by decide +kernel
theorem d_La_law_632 : decode b_La_law 632 = .ok (.iconst 3, 1) := by decide +kernel
theorem d_La_law_633 : decode b_La_law 633 = .ok (.iadd, 1) := by decide +kernel
theorem d_La_law_634 : decode b_La_law 634 = .ok (.iaload, 1) := by decide +kernel
theorem d_La_law_635 : decode b_La_law 635 = .ok (.aload_n 3, 1) := by decide +kernel
theorem d_La_law_636 : decode b_La_law 636 = .ok (.invokestatic 117, 3) := by decide +kernel
theorem d_La_law_639 : decode b_La_law 639 = .ok (.istore 5, 2) := by decide +kernel
theorem d_La_law_641 : decode b_La_law 641 = .ok (.aload_n 2, 1) := by decide +kernel
theorem d_La_law_642 : decode b_La_law 642 = .ok (.aload_n 0, 1) := by decide +kernel
theorem d_La_law_643 : decode b_La_law 643 = .ok (.iload 4, 2) := by decide +kernel
theorem d_La_law_645 : decode b_La_law 645 = .ok (.iconst 1, 1) := by decide +kernel
theorem d_La_law_646 : decode b_La_law 646 = .ok (.iadd, 1) := by decide +kernel
theorem d_La_law_647 : decode b_La_law 647 = .ok (.iaload, 1) := by decide +kernel
theorem d_La_law_648 : decode b_La_law 648 = .ok (.aload_n 0, 1) := by decide +kernel
theorem d_La_law_649 : decode b_La_law 649 = .ok (.iload 4, 2) := by decide +kernel
theorem d_La_law_651 : decode b_La_law 651 = .ok (.iconst 2, 1) := by decide +kernel
theorem d_La_law_652 : decode b_La_law 652 = .ok (.iadd, 1) := by decide +kernel
theorem d_La_law_653 : decode b_La_law 653 = .ok (.iaload, 1) := by decide +kernel
theorem d_La_law_654 : decode b_La_law 654 = .ok (.aload_n 0, 1) := by decide +kernel
theorem d_La_law_655 : decode b_La_law 655 = .ok (.iload 4, 2) := by decide +kernel
theorem d_La_law_657 : decode b_La_law 657 = .ok (.iconst 3, 1) := by decide +kernel
theorem d_La_law_658 : decode b_La_law 658 = .ok (.iadd, 1) := by decide +kernel
theorem d_La_law_659 : decode b_La_law 659 = .ok (.iaload, 1) := by decide +kernel
theorem d_La_law_660 : decode b_La_law 660 = .ok (.invokevirtual 120, 3) := by decide +kernel
theorem d_La_law_663 : decode b_La_law 663 = .ok (.istore 6, 2) := by decide +kernel
theorem d_La_law_665 : decode b_La_law 665 = .ok (.aload_n 2, 1) := by decide +kernel
theorem d_La_law_666 : decode b_La_law 666 = .ok (.invokevirtual 94, 3) := by decide +kernel
theorem d_La_law_669 : decode b_La_law 669 = .ok (.iload 5, 2) := by decide +kernel
theorem d_La_law_671 : decode b_La_law 671 = .ok (.if_icmp .eq 5, 3) := by decide +kernel
theorem d_La_law_674 : decode b_La_law 674 = .ok (.iconst 0, 1) := by decide +kernel
theorem d_La_law_675 : decode b_La_law 675 = .ok (.ireturn, 1) := by decide +kernel
theorem d_La_law_676 : decode b_La_law 676 = .ok (.iload 5, 2) := by decide +kernel
theorem d_La_law_678 : decode b_La_law 678 = .ok (.ifCond .ne 15, 3) := by decide +kernel
theorem d_La_law_681 : decode b_La_law 681 = .ok (.aload_n 3, 1) := by decide +kernel
theorem d_La_law_682 : decode b_La_law 682 = .ok (.iconst 0, 1) := by decide +kernel
theorem d_La_law_683 : decode b_La_law 683 = .ok (.laload, 1) := by decide +kernel
theorem d_La_law_684 : decode b_La_law 684 = .ok (.iload 6, 2) := by decide +kernel
theorem d_La_law_686 : decode b_La_law 686 = .ok (.i2l, 1) := by decide +kernel
theorem d_La_law_687 : decode b_La_law 687 = .ok (.lcmp, 1) := by decide +kernel
theorem d_La_law_688 : decode b_La_law 688 = .ok (.ifCond .eq 5, 3) := by decide +kernel
theorem d_La_law_691 : decode b_La_law 691 = .ok (.iconst 0, 1) := by decide +kernel
theorem d_La_law_692 : decode b_La_law 692 = .ok (.ireturn, 1) := by decide +kernel
theorem d_La_law_693 : decode b_La_law 693 = .ok (.goto 955, 3) := by decide +kernel
theorem d_La_law_696 : decode b_La_law 696 = .ok (.aload_n 1, 1) := by decide +kernel
theorem d_La_law_697 : decode b_La_law 697 = .ok (.aload_n 0, 1) := by decide +kernel
theorem d_La_law_698 : decode b_La_law 698 = .ok (.iload 4, 2) := by decide +kernel
theorem d_La_law_700 : decode b_La_law 700 = .ok (.iconst 1, 1) := by decide +kernel
theorem d_La_law_701 : decode b_La_law 701 = .ok (.iadd, 1) := by decide +kernel
theorem d_La_law_702 : decode b_La_law 702 = .ok (.iaload, 1) := by decide +kernel
theorem d_La_law_703 : decode b_La_law 703 = .ok (.aload_n 3, 1) := by decide +kernel
theorem d_La_law_704 : decode b_La_law 704 = .ok (.invokestatic 121, 3) := by decide +kernel
theorem d_La_law_707 : decode b_La_law 707 = .ok (.istore 5, 2) := by decide +kernel
theorem d_La_law_709 : decode b_La_law 709 = .ok (.aload_n 2, 1) := by decide +kernel
theorem d_La_law_710 : decode b_La_law 710 = .ok (.aload_n 0, 1) := by decide +kernel
theorem d_La_law_711 : decode b_La_law 711 = .ok (.iload 4, 2) := by decide +kernel
theorem d_La_law_713 : decode b_La_law 713 = .ok (.iconst 1, 1) := by decide +kernel
theorem d_La_law_714 : decode b_La_law 714 = .ok (.iadd, 1) := by decide +kernel
theorem d_La_law_715 : decode b_La_law 715 = .ok (.iaload, 1) := by decide +kernel
theorem d_La_law_716 : decode b_La_law 716 = .ok (.invokevirtual 123, 3) := by decide +kernel
theorem d_La_law_719 : decode b_La_law 719 = .ok (.istore 6, 2) := by decide +kernel
theorem d_La_law_721 : decode b_La_law 721 = .ok (.aload_n 2, 1) := by decide +kernel
theorem d_La_law_722 : decode b_La_law 722 = .ok (.invokevirtual 94, 3) := by decide +kernel
theorem d_La_law_725 : decode b_La_law 725 = .ok (.iload 5, 2) := by decide +kernel
theorem d_La_law_727 : decode b_La_law 727 = .ok (.if_icmp .eq 5, 3) := by decide +kernel
theorem d_La_law_730 : decode b_La_law 730 = .ok (.iconst 0, 1) := by decide +kernel
theorem d_La_law_731 : decode b_La_law 731 = .ok (.ireturn, 1) := by decide +kernel
theorem d_La_law_732 : decode b_La_law 732 = .ok (.iload 5, 2) := by decide +kernel
theorem d_La_law_734 : decode b_La_law 734 = .ok (.ifCond .ne 15, 3) := by decide +kernel
theorem d_La_law_737 : decode b_La_law 737 = .ok (.aload_n 3, 1) := by decide +kernel
theorem d_La_law_738 : decode b_La_law 738 = .ok (.iconst 0, 1) := by decide +kernel
theorem d_La_law_739 : decode b_La_law 739 = .ok (.laload, 1) := by decide +kernel
theorem d_La_law_740 : decode b_La_law 740 = .ok (.iload 6, 2) := by decide +kernel
theorem d_La_law_742 : decode b_La_law 742 = .ok (.i2l, 1) := by decide +kernel
theorem d_La_law_743 : decode b_La_law 743 = .ok (.lcmp, 1) := by decide +kernel
theorem d_La_law_744 : decode b_La_law 744 = .ok (.ifCond .eq 5, 3) := by decide +kernel
theorem d_La_law_747 : decode b_La_law 747 = .ok (.iconst 0, 1) := by decide +kernel
theorem d_La_law_748 : decode b_La_law 748 = .ok (.ireturn, 1) := by decide +kernel
theorem d_La_law_749 : decode b_La_law 749 = .ok (.goto 899, 3) := by decide +kernel
theorem d_La_law_752 : decode b_La_law 752 = .ok (.aload_n 1, 1) := by decide +kernel
theorem d_La_law_753 : decode b_La_law 753 = .ok (.aload_n 0, 1) := by decide +kernel
theorem d_La_law_754 : decode b_La_law 754 = .ok (.iload 4, 2) := by decide +kernel
theorem d_La_law_756 : decode b_La_law 756 = .ok (.iconst 1, 1) := by decide +kernel
theorem d_La_law_757 : decode b_La_law 757 = .ok (.iadd, 1) := by decide +kernel
theorem d_La_law_758 : decode b_La_law 758 = .ok (.iaload, 1) := by decide +kernel
theorem d_La_law_759 : decode b_La_law 759 = .ok (.aload_n 0, 1) := by decide +kernel
theorem d_La_law_760 : decode b_La_law 760 = .ok (.iload 4, 2) := by decide +kernel
theorem d_La_law_762 : decode b_La_law 762 = .ok (.iconst 2, 1) := by decide +kernel
theorem d_La_law_763 : decode b_La_law 763 = .ok (.iadd, 1) := by decide +kernel
theorem d_La_law_764 : decode b_La_law 764 = .ok (.iaload, 1) := by decide +kernel
theorem d_La_law_765 : decode b_La_law 765 = .ok (.aload_n 3, 1) := by decide +kernel
theorem d_La_law_766 : decode b_La_law 766 = .ok (.invokestatic 124, 3) := by decide +kernel
theorem d_La_law_769 : decode b_La_law 769 = .ok (.istore 5, 2) := by decide +kernel
theorem d_La_law_771 : decode b_La_law 771 = .ok (.aload_n 2, 1) := by decide +kernel
theorem d_La_law_772 : decode b_La_law 772 = .ok (.aload_n 0, 1) := by decide +kernel
theorem d_La_law_773 : decode b_La_law 773 = .ok (.iload 4, 2) := by decide +kernel
theorem d_La_law_775 : decode b_La_law 775 = .ok (.iconst 1, 1) := by decide +kernel
theorem d_La_law_776 : decode b_La_law 776 = .ok (.iadd, 1) := by decide +kernel
theorem d_La_law_777 : decode b_La_law 777 = .ok (.iaload, 1) := by decide +kernel
theorem d_La_law_778 : decode b_La_law 778 = .ok (.aload_n 0, 1) := by decide +kernel
theorem d_La_law_779 : decode b_La_law 779 = .ok (.iload 4, 2) := by decide +kernel
theorem d_La_law_781 : decode b_La_law 781 = .ok (.iconst 2, 1) := by decide +kernel
theorem d_La_law_782 : decode b_La_law 782 = .ok (.iadd, 1) := by decide +kernel
theorem d_La_law_783 : decode b_La_law 783 = .ok (.iaload, 1) := by decide +kernel
theorem d_La_law_784 : decode b_La_law 784 = .ok (.invokevirtual 126, 3) := by decide +kernel
theorem d_La_law_787 : decode b_La_law 787 = .ok (.istore 6, 2) := by decide +kernel
theorem d_La_law_789 : decode b_La_law 789 = .ok (.aload_n 2, 1) := by decide +kernel
theorem d_La_law_790 : decode b_La_law 790 = .ok (.invokevirtual 94, 3) := by decide +kernel
theorem d_La_law_793 : decode b_La_law 793 = .ok (.iload 5, 2) := by decide +kernel
theorem d_La_law_795 : decode b_La_law 795 = .ok (.if_icmp .eq 5, 3) := by decide +kernel
theorem d_La_law_798 : decode b_La_law 798 = .ok (.iconst 0, 1) := by decide +kernel
theorem d_La_law_799 : decode b_La_law 799 = .ok (.ireturn, 1) := by decide +kernel
theorem d_La_law_800 : decode b_La_law 800 = .ok (.iload 5, 2) := by decide +kernel
theorem d_La_law_802 : decode b_La_law 802 = .ok (.ifCond .ne 15, 3) := by decide +kernel
theorem d_La_law_805 : decode b_La_law 805 = .ok (.aload_n 3, 1) := by decide +kernel
theorem d_La_law_806 : decode b_La_law 806 = .ok (.iconst 0, 1) := by decide +kernel
theorem d_La_law_807 : decode b_La_law 807 = .ok (.laload, 1) := by decide +kernel
theorem d_La_law_808 : decode b_La_law 808 = .ok (.iload 6, 2) := by decide +kernel
theorem d_La_law_810 : decode b_La_law 810 = .ok (.i2l, 1) := by decide +kernel
theorem d_La_law_811 : decode b_La_law 811 = .ok (.lcmp, 1) := by decide +kernel
theorem d_La_law_812 : decode b_La_law 812 = .ok (.ifCond .eq 5, 3) := by decide +kernel
theorem d_La_law_815 : decode b_La_law 815 = .ok (.iconst 0, 1) := by decide +kernel
theorem d_La_law_816 : decode b_La_law 816 = .ok (.ireturn, 1) := by decide +kernel
theorem d_La_law_817 : decode b_La_law 817 = .ok (.goto 831, 3) := by decide +kernel
theorem d_La_law_820 : decode b_La_law 820 = .ok (.aload_n 1, 1) := by decide +kernel
theorem d_La_law_821 : decode b_La_law 821 = .ok (.aload_n 0, 1) := by decide +kernel
theorem d_La_law_822 : decode b_La_law 822 = .ok (.iload 4, 2) := by decide +kernel
theorem d_La_law_824 : decode b_La_law 824 = .ok (.iconst 1, 1) := by decide +kernel
theorem d_La_law_825 : decode b_La_law 825 = .ok (.iadd, 1) := by decide +kernel
theorem d_La_law_826 : decode b_La_law 826 = .ok (.iaload, 1) := by decide +kernel
theorem d_La_law_827 : decode b_La_law 827 = .ok (.aload_n 0, 1) := by decide +kernel
theorem d_La_law_828 : decode b_La_law 828 = .ok (.iload 4, 2) := by decide +kernel
theorem d_La_law_830 : decode b_La_law 830 = .ok (.iconst 2, 1) := by decide +kernel
theorem d_La_law_831 : decode b_La_law 831 = .ok (.iadd, 1) := by decide +kernel
theorem d_La_law_832 : decode b_La_law 832 = .ok (.iaload, 1) := by decide +kernel
theorem d_La_law_833 : decode b_La_law 833 = .ok (.aload_n 3, 1) := by decide +kernel
theorem d_La_law_834 : decode b_La_law 834 = .ok (.invokestatic 127, 3) := by decide +kernel
theorem d_La_law_837 : decode b_La_law 837 = .ok (.istore 5, 2) := by decide +kernel
theorem d_La_law_839 : decode b_La_law 839 = .ok (.aload_n 2, 1) := by decide +kernel
theorem d_La_law_840 : decode b_La_law 840 = .ok (.aload_n 0, 1) := by decide +kernel
theorem d_La_law_841 : decode b_La_law 841 = .ok (.iload 4, 2) := by decide +kernel
theorem d_La_law_843 : decode b_La_law 843 = .ok (.iconst 1, 1) := by decide +kernel
theorem d_La_law_844 : decode b_La_law 844 = .ok (.iadd, 1) := by decide +kernel
theorem d_La_law_845 : decode b_La_law 845 = .ok (.iaload, 1) := by decide +kernel
theorem d_La_law_846 : decode b_La_law 846 = .ok (.aload_n 0, 1) := by decide +kernel
theorem d_La_law_847 : decode b_La_law 847 = .ok (.iload 4, 2) := by decide +kernel
theorem d_La_law_849 : decode b_La_law 849 = .ok (.iconst 2, 1) := by decide +kernel
theorem d_La_law_850 : decode b_La_law 850 = .ok (.iadd, 1) := by decide +kernel
theorem d_La_law_851 : decode b_La_law 851 = .ok (.iaload, 1) := by decide +kernel
theorem d_La_law_852 : decode b_La_law 852 = .ok (.invokevirtual 129, 3) := by decide +kernel
theorem d_La_law_855 : decode b_La_law 855 = .ok (.istore 6, 2) := by decide +kernel
theorem d_La_law_857 : decode b_La_law 857 = .ok (.aload_n 2, 1) := by decide +kernel
theorem d_La_law_858 : decode b_La_law 858 = .ok (.invokevirtual 94, 3) := by decide +kernel
theorem d_La_law_861 : decode b_La_law 861 = .ok (.iload 5, 2) := by decide +kernel
theorem d_La_law_863 : decode b_La_law 863 = .ok (.if_icmp .eq 5, 3) := by decide +kernel
theorem d_La_law_866 : decode b_La_law 866 = .ok (.iconst 0, 1) := by decide +kernel
theorem d_La_law_867 : decode b_La_law 867 = .ok (.ireturn, 1) := by decide +kernel
theorem d_La_law_868 : decode b_La_law 868 = .ok (.iload 5, 2) := by decide +kernel
theorem d_La_law_870 : decode b_La_law 870 = .ok (.ifCond .ne 15, 3) := by decide +kernel
theorem d_La_law_873 : decode b_La_law 873 = .ok (.aload_n 3, 1) := by decide +kernel
theorem d_La_law_874 : decode b_La_law 874 = .ok (.iconst 0, 1) := by decide +kernel
theorem d_La_law_875 : decode b_La_law 875 = .ok (.laload, 1) := by decide +kernel
theorem d_La_law_876 : decode b_La_law 876 = .ok (.iload 6, 2) := by decide +kernel
theorem d_La_law_878 : decode b_La_law 878 = .ok (.i2l, 1) := by decide +kernel
theorem d_La_law_879 : decode b_La_law 879 = .ok (.lcmp, 1) := by decide +kernel
theorem d_La_law_880 : decode b_La_law 880 = .ok (.ifCond .eq 5, 3) := by decide +kernel
theorem d_La_law_883 : decode b_La_law 883 = .ok (.iconst 0, 1) := by decide +kernel
theorem d_La_law_884 : decode b_La_law 884 = .ok (.ireturn, 1) := by decide +kernel
theorem d_La_law_885 : decode b_La_law 885 = .ok (.goto 763, 3) := by decide +kernel
theorem d_La_law_888 : decode b_La_law 888 = .ok (.aload_n 1, 1) := by decide +kernel
theorem d_La_law_889 : decode b_La_law 889 = .ok (.aload_n 3, 1) := by decide +kernel
theorem d_La_law_890 : decode b_La_law 890 = .ok (.invokestatic 130, 3) := by decide +kernel
theorem d_La_law_893 : decode b_La_law 893 = .ok (.istore 5, 2) := by decide +kernel
theorem d_La_law_895 : decode b_La_law 895 = .ok (.aload_n 2, 1) := by decide +kernel
theorem d_La_law_896 : decode b_La_law 896 = .ok (.invokevirtual 133, 3) := by decide +kernel
theorem d_La_law_899 : decode b_La_law 899 = .ok (.istore 6, 2) := by decide +kernel
theorem d_La_law_901 : decode b_La_law 901 = .ok (.aload_n 2, 1) := by decide +kernel
theorem d_La_law_902 : decode b_La_law 902 = .ok (.invokevirtual 94, 3) := by decide +kernel
theorem d_La_law_905 : decode b_La_law 905 = .ok (.iload 5, 2) := by decide +kernel
theorem d_La_law_907 : decode b_La_law 907 = .ok (.if_icmp .eq 5, 3) := by decide +kernel
theorem d_La_law_910 : decode b_La_law 910 = .ok (.iconst 0, 1) := by decide +kernel
theorem d_La_law_911 : decode b_La_law 911 = .ok (.ireturn, 1) := by decide +kernel
theorem d_La_law_912 : decode b_La_law 912 = .ok (.iload 5, 2) := by decide +kernel
theorem d_La_law_914 : decode b_La_law 914 = .ok (.ifCond .ne 15, 3) := by decide +kernel
theorem d_La_law_917 : decode b_La_law 917 = .ok (.aload_n 3, 1) := by decide +kernel
theorem d_La_law_918 : decode b_La_law 918 = .ok (.iconst 0, 1) := by decide +kernel
theorem d_La_law_919 : decode b_La_law 919 = .ok (.laload, 1) := by decide +kernel
theorem d_La_law_920 : decode b_La_law 920 = .ok (.iload 6, 2) := by decide +kernel
theorem d_La_law_922 : decode b_La_law 922 = .ok (.i2l, 1) := by decide +kernel
theorem d_La_law_923 : decode b_La_law 923 = .ok (.lcmp, 1) := by decide +kernel
theorem d_La_law_924 : decode b_La_law 924 = .ok (.ifCond .eq 5, 3) := by decide +kernel
theorem d_La_law_927 : decode b_La_law 927 = .ok (.iconst 0, 1) := by decide +kernel
theorem d_La_law_928 : decode b_La_law 928 = .ok (.ireturn, 1) := by decide +kernel
theorem d_La_law_929 : decode b_La_law 929 = .ok (.goto 719, 3) := by decide +kernel
theorem d_La_law_932 : decode b_La_law 932 = .ok (.aload_n 1, 1) := by decide +kernel
theorem d_La_law_933 : decode b_La_law 933 = .ok (.aload_n 0, 1) := by decide +kernel
theorem d_La_law_934 : decode b_La_law 934 = .ok (.iload 4, 2) := by decide +kernel
theorem d_La_law_936 : decode b_La_law 936 = .ok (.iconst 1, 1) := by decide +kernel
theorem d_La_law_937 : decode b_La_law 937 = .ok (.iadd, 1) := by decide +kernel
theorem d_La_law_938 : decode b_La_law 938 = .ok (.iaload, 1) := by decide +kernel
theorem d_La_law_939 : decode b_La_law 939 = .ok (.aload_n 0, 1) := by decide +kernel
theorem d_La_law_940 : decode b_La_law 940 = .ok (.iload 4, 2) := by decide +kernel
theorem d_La_law_942 : decode b_La_law 942 = .ok (.iconst 2, 1) := by decide +kernel
theorem d_La_law_943 : decode b_La_law 943 = .ok (.iadd, 1) := by decide +kernel
theorem d_La_law_944 : decode b_La_law 944 = .ok (.iaload, 1) := by decide +kernel
theorem d_La_law_945 : decode b_La_law 945 = .ok (.aload_n 3, 1) := by decide +kernel
theorem d_La_law_946 : decode b_La_law 946 = .ok (.invokestatic 134, 3) := by decide +kernel
theorem d_La_law_949 : decode b_La_law 949 = .ok (.istore 5, 2) := by decide +kernel
theorem d_La_law_951 : decode b_La_law 951 = .ok (.aload_n 2, 1) := by decide +kernel
theorem d_La_law_952 : decode b_La_law 952 = .ok (.aload_n 0, 1) := by decide +kernel
theorem d_La_law_953 : decode b_La_law 953 = .ok (.iload 4, 2) := by decide +kernel
theorem d_La_law_955 : decode b_La_law 955 = .ok (.iconst 1, 1) := by decide +kernel
theorem d_La_law_956 : decode b_La_law 956 = .ok (.iadd, 1) := by decide +kernel
theorem d_La_law_957 : decode b_La_law 957 = .ok (.iaload, 1) := by decide +kernel
theorem d_La_law_958 : decode b_La_law 958 = .ok (.aload_n 0, 1) := by decide +kernel
theorem d_La_law_959 : decode b_La_law 959 = .ok (.iload 4, 2) := by decide +kernel
theorem d_La_law_961 : decode b_La_law 961 = .ok (.iconst 2, 1) := by decide +kernel
theorem d_La_law_962 : decode b_La_law 962 = .ok (.iadd, 1) := by decide +kernel
theorem d_La_law_963 : decode b_La_law 963 = .ok (.iaload, 1) := by decide +kernel
theorem d_La_law_964 : decode b_La_law 964 = .ok (.invokevirtual 136, 3) := by decide +kernel
theorem d_La_law_967 : decode b_La_law 967 = .ok (.istore 6, 2) := by decide +kernel
theorem d_La_law_969 : decode b_La_law 969 = .ok (.aload_n 2, 1) := by decide +kernel
theorem d_La_law_970 : decode b_La_law 970 = .ok (.invokevirtual 94, 3) := by decide +kernel
theorem d_La_law_973 : decode b_La_law 973 = .ok (.iload 5, 2) := by decide +kernel
theorem d_La_law_975 : decode b_La_law 975 = .ok (.if_icmp .eq 5, 3) := by decide +kernel
theorem d_La_law_978 : decode b_La_law 978 = .ok (.iconst 0, 1) := by decide +kernel
theorem d_La_law_979 : decode b_La_law 979 = .ok (.ireturn, 1) := by decide +kernel
theorem d_La_law_980 : decode b_La_law 980 = .ok (.iload 5, 2) := by decide +kernel
theorem d_La_law_982 : decode b_La_law 982 = .ok (.ifCond .ne 15, 3) := by decide +kernel
theorem d_La_law_985 : decode b_La_law 985 = .ok (.aload_n 3, 1) := by decide +kernel
theorem d_La_law_986 : decode b_La_law 986 = .ok (.iconst 0, 1) := by decide +kernel
theorem d_La_law_987 : decode b_La_law 987 = .ok (.laload, 1) := by decide +kernel
theorem d_La_law_988 : decode b_La_law 988 = .ok (.iload 6, 2) := by decide +kernel
theorem d_La_law_990 : decode b_La_law 990 = .ok (.i2l, 1) := by decide +kernel
theorem d_La_law_991 : decode b_La_law 991 = .ok (.lcmp, 1) := by decide +kernel
theorem d_La_law_992 : decode b_La_law 992 = .ok (.ifCond .eq 5, 3) := by decide +kernel
theorem d_La_law_995 : decode b_La_law 995 = .ok (.iconst 0, 1) := by decide +kernel
theorem d_La_law_996 : decode b_La_law 996 = .ok (.ireturn, 1) := by decide +kernel
theorem d_La_law_997 : decode b_La_law 997 = .ok (.goto 651, 3) := by decide +kernel
theorem d_La_law_1000 : decode b_La_law 1000 = .ok (.aload_n 1, 1) := by decide +kernel
theorem d_La_law_1001 : decode b_La_law 1001 = .ok (.aload_n 0, 1) := by decide +kernel
theorem d_La_law_1002 : decode b_La_law 1002 = .ok (.iload 4, 2) := by decide +kernel
theorem d_La_law_1004 : decode b_La_law 1004 = .ok (.iconst 1, 1) := by decide +kernel
theorem d_La_law_1005 : decode b_La_law 1005 = .ok (.iadd, 1) := by decide +kernel
theorem d_La_law_1006 : decode b_La_law 1006 = .ok (.iaload, 1) := by decide +kernel
theorem d_La_law_1007 : decode b_La_law 1007 = .ok (.aload_n 0, 1) := by decide +kernel
theorem d_La_law_1008 : decode b_La_law 1008 = .ok (.iload 4, 2) := by decide +kernel
theorem d_La_law_1010 : decode b_La_law 1010 = .ok (.iconst 2, 1) := by decide +kernel
theorem d_La_law_1011 : decode b_La_law 1011 = .ok (.iadd, 1) := by decide +kernel
theorem d_La_law_1012 : decode b_La_law 1012 = .ok (.iaload, 1) := by decide +kernel
theorem d_La_law_1013 : decode b_La_law 1013 = .ok (.aload_n 0, 1) := by decide +kernel
theorem d_La_law_1014 : decode b_La_law 1014 = .ok (.iload 4, 2) := by decide +kernel
theorem d_La_law_1016 : decode b_La_law 1016 = .ok (.iconst 3, 1) := by decide +kernel
theorem d_La_law_1017 : decode b_La_law 1017 = .ok (.iadd, 1) := by decide +kernel
theorem d_La_law_1018 : decode b_La_law 1018 = .ok (.iaload, 1) := by decide +kernel
theorem d_La_law_1019 : decode b_La_law 1019 = .ok (.aload_n 3, 1) := by decide +kernel
theorem d_La_law_1020 : decode b_La_law 1020 = .ok (.invokestatic 137, 3) := by decide +kernel
theorem d_La_law_1023 : decode b_La_law 1023 = .ok (.istore 5, 2) := by decide +kernel
theorem d_La_law_1025 : decode b_La_law 1025 = .ok (.aload_n 2, 1) := by decide +kernel
theorem d_La_law_1026 : decode b_La_law 1026 = .ok (.aload_n 0, 1) := by decide +kernel
theorem d_La_law_1027 : decode b_La_law 1027 = .ok (.iload 4, 2) := by decide +kernel
theorem d_La_law_1029 : decode b_La_law 1029 = .ok (.iconst 1, 1) := by decide +kernel
theorem d_La_law_1030 : decode b_La_law 1030 = .ok (.iadd, 1) := by decide +kernel
theorem d_La_law_1031 : decode b_La_law 1031 = .ok (.iaload, 1) := by decide +kernel
theorem d_La_law_1032 : decode b_La_law 1032 = .ok (.aload_n 0, 1) := by decide +kernel
theorem d_La_law_1033 : decode b_La_law 1033 = .ok (.iload 4, 2) := by decide +kernel
theorem d_La_law_1035 : decode b_La_law 1035 = .ok (.iconst 2, 1) := by decide +kernel
theorem d_La_law_1036 : decode b_La_law 1036 = .ok (.iadd, 1) := by decide +kernel
theorem d_La_law_1037 : decode b_La_law 1037 = .ok (.iaload, 1) := by decide +kernel
theorem d_La_law_1038 : decode b_La_law 1038 = .ok (.aload_n 0, 1) := by decide +kernel
theorem d_La_law_1039 : decode b_La_law 1039 = .ok (.iload 4, 2) := by decide +kernel
theorem d_La_law_1041 : decode b_La_law 1041 = .ok (.iconst 3, 1) := by decide +kernel
theorem d_La_law_1042 : decode b_La_law 1042 = .ok (.iadd, 1) := by decide +kernel
theorem d_La_law_1043 : decode b_La_law 1043 = .ok (.iaload, 1) := by decide +kernel
theorem d_La_law_1044 : decode b_La_law 1044 = .ok (.invokevirtual 139, 3) := by decide +kernel
theorem d_La_law_1047 : decode b_La_law 1047 = .ok (.istore 6, 2) := by decide +kernel
theorem d_La_law_1049 : decode b_La_law 1049 = .ok (.aload_n 2, 1) := by decide +kernel
theorem d_La_law_1050 : decode b_La_law 1050 = .ok (.invokevirtual 94, 3) := by decide +kernel
theorem d_La_law_1053 : decode b_La_law 1053 = .ok (.iload 5, 2) := by decide +kernel
theorem d_La_law_1055 : decode b_La_law 1055 = .ok (.if_icmp .eq 5, 3) := by decide +kernel
theorem d_La_law_1058 : decode b_La_law 1058 = .ok (.iconst 0, 1) := by decide +kernel
theorem d_La_law_1059 : decode b_La_law 1059 = .ok (.ireturn, 1) := by decide +kernel
theorem d_La_law_1060 : decode b_La_law 1060 = .ok (.iload 5, 2) := by decide +kernel
theorem d_La_law_1062 : decode b_La_law 1062 = .ok (.ifCond .ne 15, 3) := by decide +kernel
theorem d_La_law_1065 : decode b_La_law 1065 = .ok (.aload_n 3, 1) := by decide +kernel
theorem d_La_law_1066 : decode b_La_law 1066 = .ok (.iconst 0, 1) := by decide +kernel
theorem d_La_law_1067 : decode b_La_law 1067 = .ok (.laload, 1) := by decide +kernel
theorem d_La_law_1068 : decode b_La_law 1068 = .ok (.iload 6, 2) := by decide +kernel
theorem d_La_law_1070 : decode b_La_law 1070 = .ok (.i2l, 1) := by decide +kernel
theorem d_La_law_1071 : decode b_La_law 1071 = .ok (.lcmp, 1) := by decide +kernel
theorem d_La_law_1072 : decode b_La_law 1072 = .ok (.ifCond .eq 5, 3) := by decide +kernel
theorem d_La_law_1075 : decode b_La_law 1075 = .ok (.iconst 0, 1) := by decide +kernel
theorem d_La_law_1076 : decode b_La_law 1076 = .ok (.ireturn, 1) := by decide +kernel
theorem d_La_law_1077 : decode b_La_law 1077 = .ok (.goto 571, 3) := by decide +kernel
theorem d_La_law_1080 : decode b_La_law 1080 = .ok (.aload_n 1, 1) := by decide +kernel
theorem d_La_law_1081 : decode b_La_law 1081 = .ok (.aload_n 0, 1) := by decide +kernel
theorem d_La_law_1082 : decode b_La_law 1082 = .ok (.iload 4, 2) := by decide +kernel
theorem d_La_law_1084 : decode b_La_law 1084 = .ok (.iconst 1, 1) := by decide +kernel
theorem d_La_law_1085 : decode b_La_law 1085 = .ok (.iadd, 1) := by decide +kernel
theorem d_La_law_1086 : decode b_La_law 1086 = .ok (.iaload, 1) := by decide +kernel
theorem d_La_law_1087 : decode b_La_law 1087 = .ok (.aload_n 0, 1) := by decide +kernel
theorem d_La_law_1088 : decode b_La_law 1088 = .ok (.iload 4, 2) := by decide +kernel
theorem d_La_law_1090 : decode b_La_law 1090 = .ok (.iconst 2, 1) := by decide +kernel
theorem d_La_law_1091 : decode b_La_law 1091 = .ok (.iadd, 1) := by decide +kernel
theorem d_La_law_1092 : decode b_La_law 1092 = .ok (.iaload, 1) := by decide +kernel
theorem d_La_law_1093 : decode b_La_law 1093 = .ok (.aload_n 0, 1) := by decide +kernel
theorem d_La_law_1094 : decode b_La_law 1094 = .ok (.iload 4, 2) := by decide +kernel
theorem d_La_law_1096 : decode b_La_law 1096 = .ok (.iconst 3, 1) := by decide +kernel
theorem d_La_law_1097 : decode b_La_law 1097 = .ok (.iadd, 1) := by decide +kernel
theorem d_La_law_1098 : decode b_La_law 1098 = .ok (.iaload, 1) := by decide +kernel
theorem d_La_law_1099 : decode b_La_law 1099 = .ok (.aload_n 3, 1) := by decide +kernel
theorem d_La_law_1100 : decode b_La_law 1100 = .ok (.invokestatic 140, 3) := by decide +kernel
theorem d_La_law_1103 : decode b_La_law 1103 = .ok (.istore 5, 2) := by decide +kernel
theorem d_La_law_1105 : decode b_La_law 1105 = .ok (.aload_n 2, 1) := by decide +kernel
theorem d_La_law_1106 : decode b_La_law 1106 = .ok (.aload_n 0, 1) := by decide +kernel
theorem d_La_law_1107 : decode b_La_law 1107 = .ok (.iload 4, 2) := by decide +kernel
theorem d_La_law_1109 : decode b_La_law 1109 = .ok (.iconst 1, 1) := by decide +kernel
theorem d_La_law_1110 : decode b_La_law 1110 = .ok (.iadd, 1) := by decide +kernel
theorem d_La_law_1111 : decode b_La_law 1111 = .ok (.iaload, 1) := by decide +kernel
theorem d_La_law_1112 : decode b_La_law 1112 = .ok (.aload_n 0, 1) := by decide +kernel
theorem d_La_law_1113 : decode b_La_law 1113 = .ok (.iload 4, 2) := by decide +kernel
theorem d_La_law_1115 : decode b_La_law 1115 = .ok (.iconst 2, 1) := by decide +kernel
theorem d_La_law_1116 : decode b_La_law 1116 = .ok (.iadd, 1) := by decide +kernel
theorem d_La_law_1117 : decode b_La_law 1117 = .ok (.iaload, 1) := by decide +kernel
theorem d_La_law_1118 : decode b_La_law 1118 = .ok (.aload_n 0, 1) := by decide +kernel
theorem d_La_law_1119 : decode b_La_law 1119 = .ok (.iload 4, 2) := by decide +kernel
theorem d_La_law_1121 : decode b_La_law 1121 = .ok (.iconst 3, 1) := by decide +kernel
theorem d_La_law_1122 : decode b_La_law 1122 = .ok (.iadd, 1) := by decide +kernel
theorem d_La_law_1123 : decode b_La_law 1123 = .ok (.iaload, 1) := by decide +kernel
theorem d_La_law_1124 : decode b_La_law 1124 = .ok (.invokevirtual 142, 3) := by decide +kernel
theorem d_La_law_1127 : decode b_La_law 1127 = .ok (.istore 6, 2) := by decide +kernel
theorem d_La_law_1129 : decode b_La_law 1129 = .ok (.aload_n 2, 1) := by decide +kernel
theorem d_La_law_1130 : decode b_La_law 1130 = .ok (.invokevirtual 94, 3) := by decide +kernel
theorem d_La_law_1133 : decode b_La_law 1133 = .ok (.iload 5, 2) := by decide +kernel
theorem d_La_law_1135 : decode b_La_law 1135 = .ok (.if_icmp .eq 5, 3) := by decide +kernel
theorem d_La_law_1138 : decode b_La_law 1138 = .ok (.iconst 0, 1) := by decide +kernel
theorem d_La_law_1139 : decode b_La_law 1139 = .ok (.ireturn, 1) := by decide +kernel
theorem d_La_law_1140 : decode b_La_law 1140 = .ok (.iload 5, 2) := by decide +kernel
theorem d_La_law_1142 : decode b_La_law 1142 = .ok (.ifCond .ne 15, 3) := by decide +kernel
theorem d_La_law_1145 : decode b_La_law 1145 = .ok (.aload_n 3, 1) := by decide +kernel
theorem d_La_law_1146 : decode b_La_law 1146 = .ok (.iconst 0, 1) := by decide +kernel
theorem d_La_law_1147 : decode b_La_law 1147 = .ok (.laload, 1) := by decide +kernel
theorem d_La_law_1148 : decode b_La_law 1148 = .ok (.iload 6, 2) := by decide +kernel
theorem d_La_law_1150 : decode b_La_law 1150 = .ok (.i2l, 1) := by decide +kernel
theorem d_La_law_1151 : decode b_La_law 1151 = .ok (.lcmp, 1) := by decide +kernel
theorem d_La_law_1152 : decode b_La_law 1152 = .ok (.ifCond .eq 5, 3) := by decide +kernel
theorem d_La_law_1155 : decode b_La_law 1155 = .ok (.iconst 0, 1) := by decide +kernel
theorem d_La_law_1156 : decode b_La_law 1156 = .ok (.ireturn, 1) := by decide +kernel
theorem d_La_law_1157 : decode b_La_law 1157 = .ok (.goto 491, 3) := by decide +kernel
theorem d_La_law_1160 : decode b_La_law 1160 = .ok (.aload_n 1, 1) := by decide +kernel
theorem d_La_law_1161 : decode b_La_law 1161 = .ok (.aload_n 0, 1) := by decide +kernel
theorem d_La_law_1162 : decode b_La_law 1162 = .ok (.iload 4, 2) := by decide +kernel
theorem d_La_law_1164 : decode b_La_law 1164 = .ok (.iconst 1, 1) := by decide +kernel
theorem d_La_law_1165 : decode b_La_law 1165 = .ok (.iadd, 1) := by decide +kernel
theorem d_La_law_1166 : decode b_La_law 1166 = .ok (.iaload, 1) := by decide +kernel
theorem d_La_law_1167 : decode b_La_law 1167 = .ok (.aload_n 0, 1) := by decide +kernel
theorem d_La_law_1168 : decode b_La_law 1168 = .ok (.iload 4, 2) := by decide +kernel
theorem d_La_law_1170 : decode b_La_law 1170 = .ok (.iconst 2, 1) := by decide +kernel
theorem d_La_law_1171 : decode b_La_law 1171 = .ok (.iadd, 1) := by decide +kernel
theorem d_La_law_1172 : decode b_La_law 1172 = .ok (.iaload, 1) := by decide +kernel
theorem d_La_law_1173 : decode b_La_law 1173 = .ok (.aload_n 0, 1) := by decide +kernel
theorem d_La_law_1174 : decode b_La_law 1174 = .ok (.iload 4, 2) := by decide +kernel
theorem d_La_law_1176 : decode b_La_law 1176 = .ok (.iconst 3, 1) := by decide +kernel
theorem d_La_law_1177 : decode b_La_law 1177 = .ok (.iadd, 1) := by decide +kernel
theorem d_La_law_1178 : decode b_La_law 1178 = .ok (.iaload, 1) := by decide +kernel
theorem d_La_law_1179 : decode b_La_law 1179 = .ok (.aload_n 3, 1) := by decide +kernel
theorem d_La_law_1180 : decode b_La_law 1180 = .ok (.invokestatic 143, 3) := by decide +kernel
theorem d_La_law_1183 : decode b_La_law 1183 = .ok (.istore 5, 2) := by decide +kernel
theorem d_La_law_1185 : decode b_La_law 1185 = .ok (.aload_n 2, 1) := by decide +kernel
theorem d_La_law_1186 : decode b_La_law 1186 = .ok (.aload_n 0, 1) := by decide +kernel
theorem d_La_law_1187 : decode b_La_law 1187 = .ok (.iload 4, 2) := by decide +kernel
theorem d_La_law_1189 : decode b_La_law 1189 = .ok (.iconst 1, 1) := by decide +kernel
theorem d_La_law_1190 : decode b_La_law 1190 = .ok (.iadd, 1) := by decide +kernel
theorem d_La_law_1191 : decode b_La_law 1191 = .ok (.iaload, 1) := by decide +kernel
theorem d_La_law_1192 : decode b_La_law 1192 = .ok (.aload_n 0, 1) := by decide +kernel
theorem d_La_law_1193 : decode b_La_law 1193 = .ok (.iload 4, 2) := by decide +kernel
theorem d_La_law_1195 : decode b_La_law 1195 = .ok (.iconst 2, 1) := by decide +kernel
theorem d_La_law_1196 : decode b_La_law 1196 = .ok (.iadd, 1) := by decide +kernel
theorem d_La_law_1197 : decode b_La_law 1197 = .ok (.iaload, 1) := by decide +kernel
theorem d_La_law_1198 : decode b_La_law 1198 = .ok (.aload_n 0, 1) := by decide +kernel
theorem d_La_law_1199 : decode b_La_law 1199 = .ok (.iload 4, 2) := by decide +kernel
theorem d_La_law_1201 : decode b_La_law 1201 = .ok (.iconst 3, 1) := by decide +kernel
theorem d_La_law_1202 : decode b_La_law 1202 = .ok (.iadd, 1) := by decide +kernel
theorem d_La_law_1203 : decode b_La_law 1203 = .ok (.iaload, 1) := by decide +kernel
theorem d_La_law_1204 : decode b_La_law 1204 = .ok (.invokevirtual 145, 3) := by decide +kernel
theorem d_La_law_1207 : decode b_La_law 1207 = .ok (.istore 6, 2) := by decide +kernel
theorem d_La_law_1209 : decode b_La_law 1209 = .ok (.aload_n 2, 1) := by decide +kernel
theorem d_La_law_1210 : decode b_La_law 1210 = .ok (.invokevirtual 94, 3) := by decide +kernel
theorem d_La_law_1213 : decode b_La_law 1213 = .ok (.iload 5, 2) := by decide +kernel
theorem d_La_law_1215 : decode b_La_law 1215 = .ok (.if_icmp .eq 5, 3) := by decide +kernel
theorem d_La_law_1218 : decode b_La_law 1218 = .ok (.iconst 0, 1) := by decide +kernel
theorem d_La_law_1219 : decode b_La_law 1219 = .ok (.ireturn, 1) := by decide +kernel
theorem d_La_law_1220 : decode b_La_law 1220 = .ok (.iload 5, 2) := by decide +kernel
theorem d_La_law_1222 : decode b_La_law 1222 = .ok (.ifCond .ne 15, 3) := by decide +kernel
theorem d_La_law_1225 : decode b_La_law 1225 = .ok (.aload_n 3, 1) := by decide +kernel
theorem d_La_law_1226 : decode b_La_law 1226 = .ok (.iconst 0, 1) := by decide +kernel
theorem d_La_law_1227 : decode b_La_law 1227 = .ok (.laload, 1) := by decide +kernel
theorem d_La_law_1228 : decode b_La_law 1228 = .ok (.iload 6, 2) := by decide +kernel
theorem d_La_law_1230 : decode b_La_law 1230 = .ok (.i2l, 1) := by decide +kernel
theorem d_La_law_1231 : decode b_La_law 1231 = .ok (.lcmp, 1) := by decide +kernel
theorem d_La_law_1232 : decode b_La_law 1232 = .ok (.ifCond .eq 5, 3) := by decide +kernel
theorem d_La_law_1235 : decode b_La_law 1235 = .ok (.iconst 0, 1) := by decide +kernel
theorem d_La_law_1236 : decode b_La_law 1236 = .ok (.ireturn, 1) := by decide +kernel
theorem d_La_law_1237 : decode b_La_law 1237 = .ok (.goto 411, 3) := by decide +kernel
theorem d_La_law_1240 : decode b_La_law 1240 = .ok (.aload_n 1, 1) := by decide +kernel
theorem d_La_law_1241 : decode b_La_law 1241 = .ok (.aload_n 0, 1) := by decide +kernel
theorem d_La_law_1242 : decode b_La_law 1242 = .ok (.iload 4, 2) := by decide +kernel
theorem d_La_law_1244 : decode b_La_law 1244 = .ok (.iconst 1, 1) := by decide +kernel
theorem d_La_law_1245 : decode b_La_law 1245 = .ok (.iadd, 1) := by decide +kernel
theorem d_La_law_1246 : decode b_La_law 1246 = .ok (.iaload, 1) := by decide +kernel
theorem d_La_law_1247 : decode b_La_law 1247 = .ok (.aload_n 0, 1) := by decide +kernel
theorem d_La_law_1248 : decode b_La_law 1248 = .ok (.iload 4, 2) := by decide +kernel
theorem d_La_law_1250 : decode b_La_law 1250 = .ok (.iconst 2, 1) := by decide +kernel
theorem d_La_law_1251 : decode b_La_law 1251 = .ok (.iadd, 1) := by decide +kernel
theorem d_La_law_1252 : decode b_La_law 1252 = .ok (.iaload, 1) := by decide +kernel
theorem d_La_law_1253 : decode b_La_law 1253 = .ok (.aload_n 0, 1) := by decide +kernel
theorem d_La_law_1254 : decode b_La_law 1254 = .ok (.iload 4, 2) := by decide +kernel
theorem d_La_law_1256 : decode b_La_law 1256 = .ok (.iconst 3, 1) := by decide +kernel
theorem d_La_law_1257 : decode b_La_law 1257 = .ok (.iadd, 1) := by decide +kernel
theorem d_La_law_1258 : decode b_La_law 1258 = .ok (.iaload, 1) := by decide +kernel
theorem d_La_law_1259 : decode b_La_law 1259 = .ok (.aload_n 3, 1) := by decide +kernel
theorem d_La_law_1260 : decode b_La_law 1260 = .ok (.invokestatic 146, 3) := by decide +kernel
theorem d_La_law_1263 : decode b_La_law 1263 = .ok (.istore 5, 2) := by decide +kernel
theorem d_La_law_1265 : decode b_La_law 1265 = .ok (.aload_n 2, 1) := by decide +kernel
theorem d_La_law_1266 : decode b_La_law 1266 = .ok (.aload_n 0, 1) := by decide +kernel
theorem d_La_law_1267 : decode b_La_law 1267 = .ok (.iload 4, 2) := by decide +kernel
theorem d_La_law_1269 : decode b_La_law 1269 = .ok (.iconst 1, 1) := by decide +kernel
theorem d_La_law_1270 : decode b_La_law 1270 = .ok (.iadd, 1) := by decide +kernel
theorem d_La_law_1271 : decode b_La_law 1271 = .ok (.iaload, 1) := by decide +kernel
theorem d_La_law_1272 : decode b_La_law 1272 = .ok (.aload_n 0, 1) := by decide +kernel
theorem d_La_law_1273 : decode b_La_law 1273 = .ok (.iload 4, 2) := by decide +kernel
theorem d_La_law_1275 : decode b_La_law 1275 = .ok (.iconst 2, 1) := by decide +kernel
theorem d_La_law_1276 : decode b_La_law 1276 = .ok (.iadd, 1) := by decide +kernel
theorem d_La_law_1277 : decode b_La_law 1277 = .ok (.iaload, 1) := by decide +kernel
theorem d_La_law_1278 : decode b_La_law 1278 = .ok (.aload_n 0, 1) := by decide +kernel
theorem d_La_law_1279 : decode b_La_law 1279 = .ok (.iload 4, 2) := by decide +kernel
theorem d_La_law_1281 : decode b_La_law 1281 = .ok (.iconst 3, 1) := by decide +kernel
theorem d_La_law_1282 : decode b_La_law 1282 = .ok (.iadd, 1) := by decide +kernel
theorem d_La_law_1283 : decode b_La_law 1283 = .ok (.iaload, 1) := by decide +kernel
theorem d_La_law_1284 : decode b_La_law 1284 = .ok (.invokevirtual 148, 3) := by decide +kernel
theorem d_La_law_1287 : decode b_La_law 1287 = .ok (.istore 6, 2) := by decide +kernel
theorem d_La_law_1289 : decode b_La_law 1289 = .ok (.aload_n 2, 1) := by decide +kernel
theorem d_La_law_1290 : decode b_La_law 1290 = .ok (.invokevirtual 94, 3) := by decide +kernel
theorem d_La_law_1293 : decode b_La_law 1293 = .ok (.iload 5, 2) := by decide +kernel
theorem d_La_law_1295 : decode b_La_law 1295 = .ok (.if_icmp .eq 5, 3) := by decide +kernel
theorem d_La_law_1298 : decode b_La_law 1298 = .ok (.iconst 0, 1) := by decide +kernel
theorem d_La_law_1299 : decode b_La_law 1299 = .ok (.ireturn, 1) := by decide +kernel
theorem d_La_law_1300 : decode b_La_law 1300 = .ok (.iload 5, 2) := by decide +kernel
theorem d_La_law_1302 : decode b_La_law 1302 = .ok (.ifCond .ne 15, 3) := by decide +kernel
theorem d_La_law_1305 : decode b_La_law 1305 = .ok (.aload_n 3, 1) := by decide +kernel
theorem d_La_law_1306 : decode b_La_law 1306 = .ok (.iconst 0, 1) := by decide +kernel
theorem d_La_law_1307 : decode b_La_law 1307 = .ok (.laload, 1) := by decide +kernel
theorem d_La_law_1308 : decode b_La_law 1308 = .ok (.iload 6, 2) := by decide +kernel
theorem d_La_law_1310 : decode b_La_law 1310 = .ok (.i2l, 1) := by decide +kernel
theorem d_La_law_1311 : decode b_La_law 1311 = .ok (.lcmp, 1) := by decide +kernel
theorem d_La_law_1312 : decode b_La_law 1312 = .ok (.ifCond .eq 5, 3) := by decide +kernel
theorem d_La_law_1315 : decode b_La_law 1315 = .ok (.iconst 0, 1) := by decide +kernel
theorem d_La_law_1316 : decode b_La_law 1316 = .ok (.ireturn, 1) := by decide +kernel
theorem d_La_law_1317 : decode b_La_law 1317 = .ok (.goto 331, 3) := by decide +kernel
theorem d_La_law_1320 : decode b_La_law 1320 = .ok (.aload_n 1, 1) := by decide +kernel
theorem d_La_law_1321 : decode b_La_law 1321 = .ok (.aload_n 0, 1) := by decide +kernel
theorem d_La_law_1322 : decode b_La_law 1322 = .ok (.iload 4, 2) := by decide +kernel
theorem d_La_law_1324 : decode b_La_law 1324 = .ok (.iconst 1, 1) := by decide +kernel
theorem d_La_law_1325 : decode b_La_law 1325 = .ok (.iadd, 1) := by decide +kernel
theorem d_La_law_1326 : decode b_La_law 1326 = .ok (.iaload, 1) := by decide +kernel
theorem d_La_law_1327 : decode b_La_law 1327 = .ok (.aload_n 0, 1) := by decide +kernel
theorem d_La_law_1328 : decode b_La_law 1328 = .ok (.iload 4, 2) := by decide +kernel
theorem d_La_law_1330 : decode b_La_law 1330 = .ok (.iconst 2, 1) := by decide +kernel
theorem d_La_law_1331 : decode b_La_law 1331 = .ok (.iadd, 1) := by decide +kernel
theorem d_La_law_1332 : decode b_La_law 1332 = .ok (.iaload, 1) := by decide +kernel
theorem d_La_law_1333 : decode b_La_law 1333 = .ok (.aload_n 3, 1) := by decide +kernel
theorem d_La_law_1334 : decode b_La_law 1334 = .ok (.invokestatic 149, 3) := by decide +kernel
theorem d_La_law_1337 : decode b_La_law 1337 = .ok (.istore 5, 2) := by decide +kernel
theorem d_La_law_1339 : decode b_La_law 1339 = .ok (.aload_n 2, 1) := by decide +kernel
theorem d_La_law_1340 : decode b_La_law 1340 = .ok (.aload_n 0, 1) := by decide +kernel
theorem d_La_law_1341 : decode b_La_law 1341 = .ok (.iload 4, 2) := by decide +kernel
theorem d_La_law_1343 : decode b_La_law 1343 = .ok (.iconst 1, 1) := by decide +kernel
theorem d_La_law_1344 : decode b_La_law 1344 = .ok (.iadd, 1) := by decide +kernel
theorem d_La_law_1345 : decode b_La_law 1345 = .ok (.iaload, 1) := by decide +kernel
theorem d_La_law_1346 : decode b_La_law 1346 = .ok (.aload_n 0, 1) := by decide +kernel
theorem d_La_law_1347 : decode b_La_law 1347 = .ok (.iload 4, 2) := by decide +kernel
theorem d_La_law_1349 : decode b_La_law 1349 = .ok (.iconst 2, 1) := by decide +kernel
theorem d_La_law_1350 : decode b_La_law 1350 = .ok (.iadd, 1) := by decide +kernel
theorem d_La_law_1351 : decode b_La_law 1351 = .ok (.iaload, 1) := by decide +kernel
theorem d_La_law_1352 : decode b_La_law 1352 = .ok (.invokevirtual 151, 3) := by decide +kernel
theorem d_La_law_1355 : decode b_La_law 1355 = .ok (.istore 6, 2) := by decide +kernel
theorem d_La_law_1357 : decode b_La_law 1357 = .ok (.aload_n 2, 1) := by decide +kernel
theorem d_La_law_1358 : decode b_La_law 1358 = .ok (.invokevirtual 94, 3) := by decide +kernel
theorem d_La_law_1361 : decode b_La_law 1361 = .ok (.iload 5, 2) := by decide +kernel
theorem d_La_law_1363 : decode b_La_law 1363 = .ok (.if_icmp .eq 5, 3) := by decide +kernel
theorem d_La_law_1366 : decode b_La_law 1366 = .ok (.iconst 0, 1) := by decide +kernel
theorem d_La_law_1367 : decode b_La_law 1367 = .ok (.ireturn, 1) := by decide +kernel
theorem d_La_law_1368 : decode b_La_law 1368 = .ok (.iload 5, 2) := by decide +kernel
theorem d_La_law_1370 : decode b_La_law 1370 = .ok (.ifCond .ne 15, 3) := by decide +kernel
theorem d_La_law_1373 : decode b_La_law 1373 = .ok (.aload_n 3, 1) := by decide +kernel
theorem d_La_law_1374 : decode b_La_law 1374 = .ok (.iconst 0, 1) := by decide +kernel
theorem d_La_law_1375 : decode b_La_law 1375 = .ok (.laload, 1) := by decide +kernel
theorem d_La_law_1376 : decode b_La_law 1376 = .ok (.iload 6, 2) := by decide +kernel
theorem d_La_law_1378 : decode b_La_law 1378 = .ok (.i2l, 1) := by decide +kernel
theorem d_La_law_1379 : decode b_La_law 1379 = .ok (.lcmp, 1) := by decide +kernel
theorem d_La_law_1380 : decode b_La_law 1380 = .ok (.ifCond .eq 5, 3) := by decide +kernel
theorem d_La_law_1383 : decode b_La_law 1383 = .ok (.iconst 0, 1) := by decide +kernel
theorem d_La_law_1384 : decode b_La_law 1384 = .ok (.ireturn, 1) := by decide +kernel
theorem d_La_law_1385 : decode b_La_law 1385 = .ok (.goto 263, 3) := by decide +kernel
theorem d_La_law_1388 : decode b_La_law 1388 = .ok (.aload_n 1, 1) := by decide +kernel
theorem d_La_law_1389 : decode b_La_law 1389 = .ok (.aload_n 0, 1) := by decide +kernel
theorem d_La_law_1390 : decode b_La_law 1390 = .ok (.iload 4, 2) := by decide +kernel
theorem d_La_law_1392 : decode b_La_law 1392 = .ok (.iconst 1, 1) := by decide +kernel
theorem d_La_law_1393 : decode b_La_law 1393 = .ok (.iadd, 1) := by decide +kernel
theorem d_La_law_1394 : decode b_La_law 1394 = .ok (.iaload, 1) := by decide +kernel
theorem d_La_law_1395 : decode b_La_law 1395 = .ok (.aload_n 3, 1) := by decide +kernel
theorem d_La_law_1396 : decode b_La_law 1396 = .ok (.invokestatic 152, 3) := by decide +kernel
theorem d_La_law_1399 : decode b_La_law 1399 = .ok (.istore 5, 2) := by decide +kernel
theorem d_La_law_1401 : decode b_La_law 1401 = .ok (.aload_n 2, 1) := by decide +kernel
theorem d_La_law_1402 : decode b_La_law 1402 = .ok (.aload_n 0, 1) := by decide +kernel
theorem d_La_law_1403 : decode b_La_law 1403 = .ok (.iload 4, 2) := by decide +kernel
theorem d_La_law_1405 : decode b_La_law 1405 = .ok (.iconst 1, 1) := by decide +kernel
theorem d_La_law_1406 : decode b_La_law 1406 = .ok (.iadd, 1) := by decide +kernel
theorem d_La_law_1407 : decode b_La_law 1407 = .ok (.iaload, 1) := by decide +kernel
theorem d_La_law_1408 : decode b_La_law 1408 = .ok (.invokevirtual 154, 3) := by decide +kernel
theorem d_La_law_1411 : decode b_La_law 1411 = .ok (.istore 6, 2) := by decide +kernel
theorem d_La_law_1413 : decode b_La_law 1413 = .ok (.aload_n 2, 1) := by decide +kernel
theorem d_La_law_1414 : decode b_La_law 1414 = .ok (.invokevirtual 94, 3) := by decide +kernel
theorem d_La_law_1417 : decode b_La_law 1417 = .ok (.iload 5, 2) := by decide +kernel
theorem d_La_law_1419 : decode b_La_law 1419 = .ok (.if_icmp .eq 5, 3) := by decide +kernel
theorem d_La_law_1422 : decode b_La_law 1422 = .ok (.iconst 0, 1) := by decide +kernel
theorem d_La_law_1423 : decode b_La_law 1423 = .ok (.ireturn, 1) := by decide +kernel
theorem d_La_law_1424 : decode b_La_law 1424 = .ok (.iload 5, 2) := by decide +kernel
theorem d_La_law_1426 : decode b_La_law 1426 = .ok (.ifCond .ne 15, 3) := by decide +kernel
theorem d_La_law_1429 : decode b_La_law 1429 = .ok (.aload_n 3, 1) := by decide +kernel
theorem d_La_law_1430 : decode b_La_law 1430 = .ok (.iconst 0, 1) := by decide +kernel
theorem d_La_law_1431 : decode b_La_law 1431 = .ok (.laload, 1) := by decide +kernel
theorem d_La_law_1432 : decode b_La_law 1432 = .ok (.iload 6, 2) := by decide +kernel
theorem d_La_law_1434 : decode b_La_law 1434 = .ok (.i2l, 1) := by decide +kernel
theorem d_La_law_1435 : decode b_La_law 1435 = .ok (.lcmp, 1) := by decide +kernel
theorem d_La_law_1436 : decode b_La_law 1436 = .ok (.ifCond .eq 5, 3) := by decide +kernel
theorem d_La_law_1439 : decode b_La_law 1439 = .ok (.iconst 0, 1) := by decide +kernel
theorem d_La_law_1440 : decode b_La_law 1440 = .ok (.ireturn, 1) := by decide +kernel
theorem d_La_law_1441 : decode b_La_law 1441 = .ok (.goto 207, 3) := by decide +kernel
theorem d_La_law_1444 : decode b_La_law 1444 = .ok (.aload_n 1, 1) := by decide +kernel
theorem d_La_law_1445 : decode b_La_law 1445 = .ok (.aload_n 0, 1) := by decide +kernel
theorem d_La_law_1446 : decode b_La_law 1446 = .ok (.iload 4, 2) := by decide +kernel
theorem d_La_law_1448 : decode b_La_law 1448 = .ok (.iconst 1, 1) := by decide +kernel
theorem d_La_law_1449 : decode b_La_law 1449 = .ok (.iadd, 1) := by decide +kernel
theorem d_La_law_1450 : decode b_La_law 1450 = .ok (.iaload, 1) := by decide +kernel
theorem d_La_law_1451 : decode b_La_law 1451 = .ok (.aload_n 3, 1) := by decide +kernel
theorem d_La_law_1452 : decode b_La_law 1452 = .ok (.invokestatic 155, 3) := by decide +kernel
theorem d_La_law_1455 : decode b_La_law 1455 = .ok (.istore 5, 2) := by decide +kernel
theorem d_La_law_1457 : decode b_La_law 1457 = .ok (.aload_n 2, 1) := by decide +kernel
theorem d_La_law_1458 : decode b_La_law 1458 = .ok (.aload_n 0, 1) := by decide +kernel
theorem d_La_law_1459 : decode b_La_law 1459 = .ok (.iload 4, 2) := by decide +kernel
theorem d_La_law_1461 : decode b_La_law 1461 = .ok (.iconst 1, 1) := by decide +kernel
theorem d_La_law_1462 : decode b_La_law 1462 = .ok (.iadd, 1) := by decide +kernel
theorem d_La_law_1463 : decode b_La_law 1463 = .ok (.iaload, 1) := by decide +kernel
theorem d_La_law_1464 : decode b_La_law 1464 = .ok (.invokevirtual 157, 3) := by decide +kernel
theorem d_La_law_1467 : decode b_La_law 1467 = .ok (.istore 6, 2) := by decide +kernel
theorem d_La_law_1469 : decode b_La_law 1469 = .ok (.aload_n 2, 1) := by decide +kernel
theorem d_La_law_1470 : decode b_La_law 1470 = .ok (.invokevirtual 94, 3) := by decide +kernel
theorem d_La_law_1473 : decode b_La_law 1473 = .ok (.iload 5, 2) := by decide +kernel
theorem d_La_law_1475 : decode b_La_law 1475 = .ok (.if_icmp .eq 5, 3) := by decide +kernel
theorem d_La_law_1478 : decode b_La_law 1478 = .ok (.iconst 0, 1) := by decide +kernel
theorem d_La_law_1479 : decode b_La_law 1479 = .ok (.ireturn, 1) := by decide +kernel
theorem d_La_law_1480 : decode b_La_law 1480 = .ok (.iload 5, 2) := by decide +kernel
theorem d_La_law_1482 : decode b_La_law 1482 = .ok (.ifCond .ne 15, 3) := by decide +kernel
theorem d_La_law_1485 : decode b_La_law 1485 = .ok (.aload_n 3, 1) := by decide +kernel
theorem d_La_law_1486 : decode b_La_law 1486 = .ok (.iconst 0, 1) := by decide +kernel
theorem d_La_law_1487 : decode b_La_law 1487 = .ok (.laload, 1) := by decide +kernel
theorem d_La_law_1488 : decode b_La_law 1488 = .ok (.iload 6, 2) := by decide +kernel
theorem d_La_law_1490 : decode b_La_law 1490 = .ok (.i2l, 1) := by decide +kernel
theorem d_La_law_1491 : decode b_La_law 1491 = .ok (.lcmp, 1) := by decide +kernel
theorem d_La_law_1492 : decode b_La_law 1492 = .ok (.ifCond .eq 5, 3) := by decide +kernel
theorem d_La_law_1495 : decode b_La_law 1495 = .ok (.iconst 0, 1) := by decide +kernel
theorem d_La_law_1496 : decode b_La_law 1496 = .ok (.ireturn, 1) := by decide +kernel
theorem d_La_law_1497 : decode b_La_law 1497 = .ok (.goto 151, 3) := by decide +kernel
theorem d_La_law_1500 : decode b_La_law 1500 = .ok (.aload_n 1, 1) := by decide +kernel
theorem d_La_law_1501 : decode b_La_law 1501 = .ok (.aload_n 0, 1) := by decide +kernel
theorem d_La_law_1502 : decode b_La_law 1502 = .ok (.iload 4, 2) := by decide +kernel
theorem d_La_law_1504 : decode b_La_law 1504 = .ok (.iconst 1, 1) := by decide +kernel
theorem d_La_law_1505 : decode b_La_law 1505 = .ok (.iadd, 1) := by decide +kernel
theorem d_La_law_1506 : decode b_La_law 1506 = .ok (.iaload, 1) := by decide +kernel
theorem d_La_law_1507 : decode b_La_law 1507 = .ok (.aload_n 0, 1) := by decide +kernel
theorem d_La_law_1508 : decode b_La_law 1508 = .ok (.iload 4, 2) := by decide +kernel
theorem d_La_law_1510 : decode b_La_law 1510 = .ok (.iconst 2, 1) := by decide +kernel
theorem d_La_law_1511 : decode b_La_law 1511 = .ok (.iadd, 1) := by decide +kernel
theorem d_La_law_1512 : decode b_La_law 1512 = .ok (.iaload, 1) := by decide +kernel
theorem d_La_law_1513 : decode b_La_law 1513 = .ok (.aload_n 0, 1) := by decide +kernel
theorem d_La_law_1514 : decode b_La_law 1514 = .ok (.iload 4, 2) := by decide +kernel
theorem d_La_law_1516 : decode b_La_law 1516 = .ok (.iconst 3, 1) := by decide +kernel
theorem d_La_law_1517 : decode b_La_law 1517 = .ok (.iadd, 1) := by decide +kernel
theorem d_La_law_1518 : decode b_La_law 1518 = .ok (.iaload, 1) := by decide +kernel
theorem d_La_law_1519 : decode b_La_law 1519 = .ok (.aload_n 3, 1) := by decide +kernel
theorem d_La_law_1520 : decode b_La_law 1520 = .ok (.invokestatic 158, 3) := by decide +kernel
theorem d_La_law_1523 : decode b_La_law 1523 = .ok (.istore 5, 2) := by decide +kernel
theorem d_La_law_1525 : decode b_La_law 1525 = .ok (.aload_n 2, 1) := by decide +kernel
theorem d_La_law_1526 : decode b_La_law 1526 = .ok (.aload_n 0, 1) := by decide +kernel
theorem d_La_law_1527 : decode b_La_law 1527 = .ok (.iload 4, 2) := by decide +kernel
theorem d_La_law_1529 : decode b_La_law 1529 = .ok (.iconst 1, 1) := by decide +kernel
theorem d_La_law_1530 : decode b_La_law 1530 = .ok (.iadd, 1) := by decide +kernel
theorem d_La_law_1531 : decode b_La_law 1531 = .ok (.iaload, 1) := by decide +kernel
theorem d_La_law_1532 : decode b_La_law 1532 = .ok (.aload_n 0, 1) := by decide +kernel
theorem d_La_law_1533 : decode b_La_law 1533 = .ok (.iload 4, 2) := by decide +kernel
theorem d_La_law_1535 : decode b_La_law 1535 = .ok (.iconst 2, 1) := by decide +kernel
theorem d_La_law_1536 : decode b_La_law 1536 = .ok (.iadd, 1) := by decide +kernel
theorem d_La_law_1537 : decode b_La_law 1537 = .ok (.iaload, 1) := by decide +kernel
theorem d_La_law_1538 : decode b_La_law 1538 = .ok (.aload_n 0, 1) := by decide +kernel
theorem d_La_law_1539 : decode b_La_law 1539 = .ok (.iload 4, 2) := by decide +kernel
theorem d_La_law_1541 : decode b_La_law 1541 = .ok (.iconst 3, 1) := by decide +kernel
theorem d_La_law_1542 : decode b_La_law 1542 = .ok (.iadd, 1) := by decide +kernel
theorem d_La_law_1543 : decode b_La_law 1543 = .ok (.iaload, 1) := by decide +kernel
theorem d_La_law_1544 : decode b_La_law 1544 = .ok (.invokevirtual 160, 3) := by decide +kernel
theorem d_La_law_1547 : decode b_La_law 1547 = .ok (.istore 6, 2) := by decide +kernel
theorem d_La_law_1549 : decode b_La_law 1549 = .ok (.aload_n 2, 1) := by decide +kernel
theorem d_La_law_1550 : decode b_La_law 1550 = .ok (.invokevirtual 94, 3) := by decide +kernel
theorem d_La_law_1553 : decode b_La_law 1553 = .ok (.iload 5, 2) := by decide +kernel
theorem d_La_law_1555 : decode b_La_law 1555 = .ok (.if_icmp .eq 5, 3) := by decide +kernel
theorem d_La_law_1558 : decode b_La_law 1558 = .ok (.iconst 0, 1) := by decide +kernel
theorem d_La_law_1559 : decode b_La_law 1559 = .ok (.ireturn, 1) := by decide +kernel
theorem d_La_law_1560 : decode b_La_law 1560 = .ok (.iload 5, 2) := by decide +kernel
theorem d_La_law_1562 : decode b_La_law 1562 = .ok (.ifCond .ne 15, 3) := by decide +kernel
theorem d_La_law_1565 : decode b_La_law 1565 = .ok (.aload_n 3, 1) := by decide +kernel
theorem d_La_law_1566 : decode b_La_law 1566 = .ok (.iconst 0, 1) := by decide +kernel
theorem d_La_law_1567 : decode b_La_law 1567 = .ok (.laload, 1) := by decide +kernel
theorem d_La_law_1568 : decode b_La_law 1568 = .ok (.iload 6, 2) := by decide +kernel
theorem d_La_law_1570 : decode b_La_law 1570 = .ok (.i2l, 1) := by decide +kernel
theorem d_La_law_1571 : decode b_La_law 1571 = .ok (.lcmp, 1) := by decide +kernel
theorem d_La_law_1572 : decode b_La_law 1572 = .ok (.ifCond .eq 5, 3) := by decide +kernel
theorem d_La_law_1575 : decode b_La_law 1575 = .ok (.iconst 0, 1) := by decide +kernel
theorem d_La_law_1576 : decode b_La_law 1576 = .ok (.ireturn, 1) := by decide +kernel
theorem d_La_law_1577 : decode b_La_law 1577 = .ok (.goto 71, 3) := by decide +kernel
theorem d_La_law_1580 : decode b_La_law 1580 = .ok (.aload_n 1, 1) := by decide +kernel
theorem d_La_law_1581 : decode b_La_law 1581 = .ok (.aload_n 0, 1) := by decide +kernel
theorem d_La_law_1582 : decode b_La_law 1582 = .ok (.iload 4, 2) := by decide +kernel
theorem d_La_law_1584 : decode b_La_law 1584 = .ok (.iconst 1, 1) := by decide +kernel
theorem d_La_law_1585 : decode b_La_law 1585 = .ok (.iadd, 1) := by decide +kernel
theorem d_La_law_1586 : decode b_La_law 1586 = .ok (.iaload, 1) := by decide +kernel
theorem d_La_law_1587 : decode b_La_law 1587 = .ok (.aload_n 0, 1) := by decide +kernel
theorem d_La_law_1588 : decode b_La_law 1588 = .ok (.iload 4, 2) := by decide +kernel
theorem d_La_law_1590 : decode b_La_law 1590 = .ok (.iconst 2, 1) := by decide +kernel
theorem d_La_law_1591 : decode b_La_law 1591 = .ok (.iadd, 1) := by decide +kernel
theorem d_La_law_1592 : decode b_La_law 1592 = .ok (.iaload, 1) := by decide +kernel
theorem d_La_law_1593 : decode b_La_law 1593 = .ok (.aload_n 3, 1) := by decide +kernel
theorem d_La_law_1594 : decode b_La_law 1594 = .ok (.invokestatic 161, 3) := by decide +kernel
theorem d_La_law_1597 : decode b_La_law 1597 = .ok (.istore 5, 2) := by decide +kernel
theorem d_La_law_1599 : decode b_La_law 1599 = .ok (.aload_n 2, 1) := by decide +kernel
theorem d_La_law_1600 : decode b_La_law 1600 = .ok (.aload_n 0, 1) := by decide +kernel
theorem d_La_law_1601 : decode b_La_law 1601 = .ok (.iload 4, 2) := by decide +kernel
theorem d_La_law_1603 : decode b_La_law 1603 = .ok (.iconst 1, 1) := by decide +kernel
theorem d_La_law_1604 : decode b_La_law 1604 = .ok (.iadd, 1) := by decide +kernel
theorem d_La_law_1605 : decode b_La_law 1605 = .ok (.iaload, 1) := by decide +kernel
theorem d_La_law_1606 : decode b_La_law 1606 = .ok (.aload_n 0, 1) := by decide +kernel
theorem d_La_law_1607 : decode b_La_law 1607 = .ok (.iload 4, 2) := by decide +kernel
theorem d_La_law_1609 : decode b_La_law 1609 = .ok (.iconst 2, 1) := by decide +kernel
theorem d_La_law_1610 : decode b_La_law 1610 = .ok (.iadd, 1) := by decide +kernel
theorem d_La_law_1611 : decode b_La_law 1611 = .ok (.iaload, 1) := by decide +kernel
theorem d_La_law_1612 : decode b_La_law 1612 = .ok (.invokevirtual 163, 3) := by decide +kernel
theorem d_La_law_1615 : decode b_La_law 1615 = .ok (.istore 6, 2) := by decide +kernel
theorem d_La_law_1617 : decode b_La_law 1617 = .ok (.aload_n 2, 1) := by decide +kernel
theorem d_La_law_1618 : decode b_La_law 1618 = .ok (.invokevirtual 94, 3) := by decide +kernel
theorem d_La_law_1621 : decode b_La_law 1621 = .ok (.iload 5, 2) := by decide +kernel
theorem d_La_law_1623 : decode b_La_law 1623 = .ok (.if_icmp .eq 5, 3) := by decide +kernel
theorem d_La_law_1626 : decode b_La_law 1626 = .ok (.iconst 0, 1) := by decide +kernel
theorem d_La_law_1627 : decode b_La_law 1627 = .ok (.ireturn, 1) := by decide +kernel
theorem d_La_law_1628 : decode b_La_law 1628 = .ok (.iload 5, 2) := by decide +kernel
theorem d_La_law_1630 : decode b_La_law 1630 = .ok (.ifCond .ne 15, 3) := by decide +kernel
theorem d_La_law_1633 : decode b_La_law 1633 = .ok (.aload_n 3, 1) := by decide +kernel
theorem d_La_law_1634 : decode b_La_law 1634 = .ok (.iconst 0, 1) := by decide +kernel
theorem d_La_law_1635 : decode b_La_law 1635 = .ok (.laload, 1) := by decide +kernel
theorem d_La_law_1636 : decode b_La_law 1636 = .ok (.iload 6, 2) := by decide +kernel
theorem d_La_law_1638 : decode b_La_law 1638 = .ok (.i2l, 1) := by decide +kernel
theorem d_La_law_1639 : decode b_La_law 1639 = .ok (.lcmp, 1) := by decide +kernel
theorem d_La_law_1640 : decode b_La_law 1640 = .ok (.ifCond .eq 5, 3) := by decide +kernel
theorem d_La_law_1643 : decode b_La_law 1643 = .ok (.iconst 0, 1) := by decide +kernel
theorem d_La_law_1644 : decode b_La_law 1644 = .ok (.ireturn, 1) := by decide +kernel
theorem d_La_law_1645 : decode b_La_law 1645 = .ok (.goto 3, 3) := by decide +kernel
theorem d_La_law_1648 : decode b_La_law 1648 = .ok (.iinc 4 5, 3) := by decide +kernel
theorem d_La_law_1651 : decode b_La_law 1651 = .ok (.goto (-1628), 3) := by decide +kernel
theorem d_La_law_1654 : decode b_La_law 1654 = .ok (.iconst 1, 1) := by decide +kernel
theorem d_La_law_1655 : decode b_La_law 1655 = .ok (.ireturn, 1) := by decide +kernel
end
section
abbrev Gam : Type := va_G × (Nat → ClassId) × (Nat → Nat)
abbrev kM (l : Launch) (Γ : Gam) (y : MethodName) (ws : List Cond) (rm : Room) (av : List Value) (h : Pic) (post : Option Value → Pic → Prop) (px : String → Pic → Prop) (mc ms : Nat) : Prop := hp_M l y ws rm Γ.1 kcl (ktys Γ.2.1) (ksts Γ.2.2) knws av h post px mc ms
abbrev kN (l : Launch) (Γ : Gam) (y : MethodName) (ws : List Cond) (rm : Room) (av : List Value) (h : Pic) (post : Option Value → Pic → Prop) (mc ms : Nat) : Prop := hp_N l y ws rm Γ.1 kcl (ktys Γ.2.1) (ksts Γ.2.2) knws av h post mc ms
section OWN
variable {p : Program} {l : Launch} {e : Env} {R : Room} {s : State} {m : MethodId} {args : Array Value} {below : List Frame} {meth : Method} {c : Code} {cc : ByteArray} {nL : Nat} {c0 : Cond} {D : va_G} {tys : List (ClassId × FieldType)} {sts : List (String × Nat × String × Nat)} {aos : List Cond} {A : Nat → Prop} {Q : State → Prop} {cells slots pc : Nat} {lv : List (Nat × Value)} {st : List Value} {h : Pic}
/-- Cf.things -/
theorem f_Cf_11 (C : hp_C p s m args meth c cc nL "ModelMerge$Conflicts" (c0 :: kw_all) D kcl tys sts aos A) {a : Nat} {fs : List Value} {v : Value} (ha : h a = some (.inr (0, fs))) (hv : fs[0]? = some v) (hd : decode cc pc = .ok (.getfield 11, 3)) (kk : hp_G p l e R s m args below meth c D kcl A nL Q cells slots (pc + 3) lv (v :: st) h) : hp_G p l e R s m args below meth c D kcl A nL Q cells slots pc lv (.ref a :: st) h :=
  hg_get C (fun w h => kc (i_Cf w h)) ha rfl 0 (by decide) (kc kw35) rfl hv hd kk
/-- Cf.things = .. -/
theorem p_Cf_11 (C : hp_C p s m args meth c cc nL "ModelMerge$Conflicts" (c0 :: kw_all) D kcl tys sts aos A) {a : Nat} {fs fs' : List Value} {v : Value} (hin2 : meth.name = "<init>") (ha : h a = some (.inr (0, fs))) (hn : narrow (.array .int) v = v) (hfit : fits (.array .int) v = true) (hlen : 0 < fs.length) (hfs : fs.set 0 v = fs') (hd : decode cc pc = .ok (.putfield 11, 3)) (kk : hp_G p l e R s m args below meth c D kcl A nL Q cells slots (pc + 3) lv st (hp_up h a (.inr (0, fs')))) : hp_G p l e R s m args below meth c D kcl A nL Q cells slots pc lv (v :: .ref a :: st) h :=
  hg_putF C t_Cf (fun w h => kc (i_Cf w h)) t_Cf_ok n_Cf ha rfl 0 (by decide) (kc kw35) rfl rfl hin2 rfl (by decide +kernel) hn hfit hlen hfs hd kk
/-- Cf.fields -/
theorem f_Cf_15 (C : hp_C p s m args meth c cc nL "ModelMerge$Conflicts" (c0 :: kw_all) D kcl tys sts aos A) {a : Nat} {fs : List Value} {v : Value} (ha : h a = some (.inr (0, fs))) (hv : fs[1]? = some v) (hd : decode cc pc = .ok (.getfield 15, 3)) (kk : hp_G p l e R s m args below meth c D kcl A nL Q cells slots (pc + 3) lv (v :: st) h) : hp_G p l e R s m args below meth c D kcl A nL Q cells slots pc lv (.ref a :: st) h :=
  hg_get C (fun w h => kc (i_Cf w h)) ha rfl 1 (by decide) (kc kw36) rfl hv hd kk
/-- Cf.fields = .. -/
theorem p_Cf_15 (C : hp_C p s m args meth c cc nL "ModelMerge$Conflicts" (c0 :: kw_all) D kcl tys sts aos A) {a : Nat} {fs fs' : List Value} {v : Value} (hin2 : meth.name = "<init>") (ha : h a = some (.inr (0, fs))) (hn : narrow (.array .int) v = v) (hfit : fits (.array .int) v = true) (hlen : 1 < fs.length) (hfs : fs.set 1 v = fs') (hd : decode cc pc = .ok (.putfield 15, 3)) (kk : hp_G p l e R s m args below meth c D kcl A nL Q cells slots (pc + 3) lv st (hp_up h a (.inr (0, fs')))) : hp_G p l e R s m args below meth c D kcl A nL Q cells slots pc lv (v :: .ref a :: st) h :=
  hg_putF C t_Cf (fun w h => kc (i_Cf w h)) t_Cf_ok n_Cf ha rfl 1 (by decide) (kc kw36) rfl rfl hin2 rfl (by decide +kernel) hn hfit hlen hfs hd kk
/-- Cf.sides -/
theorem f_Cf_18 (C : hp_C p s m args meth c cc nL "ModelMerge$Conflicts" (c0 :: kw_all) D kcl tys sts aos A) {a : Nat} {fs : List Value} {v : Value} (ha : h a = some (.inr (0, fs))) (hv : fs[2]? = some v) (hd : decode cc pc = .ok (.getfield 18, 3)) (kk : hp_G p l e R s m args below meth c D kcl A nL Q cells slots (pc + 3) lv (v :: st) h) : hp_G p l e R s m args below meth c D kcl A nL Q cells slots pc lv (.ref a :: st) h :=
  hg_get C (fun w h => kc (i_Cf w h)) ha rfl 2 (by decide) (kc kw37) rfl hv hd kk
/-- Cf.sides = .. -/
theorem p_Cf_18 (C : hp_C p s m args meth c cc nL "ModelMerge$Conflicts" (c0 :: kw_all) D kcl tys sts aos A) {a : Nat} {fs fs' : List Value} {v : Value} (hin2 : meth.name = "<init>") (ha : h a = some (.inr (0, fs))) (hn : narrow (.array .int) v = v) (hfit : fits (.array .int) v = true) (hlen : 2 < fs.length) (hfs : fs.set 2 v = fs') (hd : decode cc pc = .ok (.putfield 18, 3)) (kk : hp_G p l e R s m args below meth c D kcl A nL Q cells slots (pc + 3) lv st (hp_up h a (.inr (0, fs')))) : hp_G p l e R s m args below meth c D kcl A nL Q cells slots pc lv (v :: .ref a :: st) h :=
  hg_putF C t_Cf (fun w h => kc (i_Cf w h)) t_Cf_ok n_Cf ha rfl 2 (by decide) (kc kw37) rfl rfl hin2 rfl (by decide +kernel) hn hfit hlen hfs hd kk
/-- Cf.size -/
theorem f_Cf_21 (C : hp_C p s m args meth c cc nL "ModelMerge$Conflicts" (c0 :: kw_all) D kcl tys sts aos A) {a : Nat} {fs : List Value} {v : Value} (ha : h a = some (.inr (0, fs))) (hv : fs[3]? = some v) (hd : decode cc pc = .ok (.getfield 21, 3)) (kk : hp_G p l e R s m args below meth c D kcl A nL Q cells slots (pc + 3) lv (v :: st) h) : hp_G p l e R s m args below meth c D kcl A nL Q cells slots pc lv (.ref a :: st) h :=
  hg_get C (fun w h => kc (i_Cf w h)) ha rfl 3 (by decide) (kc kw38) rfl hv hd kk
/-- Cf.size = .. -/
theorem p_Cf_21 (C : hp_C p s m args meth c cc nL "ModelMerge$Conflicts" (c0 :: kw_all) D kcl tys sts aos A) {a : Nat} {fs fs' : List Value} {v : Value} (ha : h a = some (.inr (0, fs))) (hn : narrow (.int) v = v) (hfit : fits (.int) v = true) (hlen : 3 < fs.length) (hfs : fs.set 3 v = fs') (hd : decode cc pc = .ok (.putfield 21, 3)) (kk : hp_G p l e R s m args below meth c D kcl A nL Q cells slots (pc + 3) lv st (hp_up h a (.inr (0, fs')))) : hp_G p l e R s m args below meth c D kcl A nL Q cells slots pc lv (v :: .ref a :: st) h :=
  hg_put C t_Cf (fun w h => kc (i_Cf w h)) t_Cf_ok n_Cf ha rfl 3 (by decide) (kc kw38) rfl rfl (by decide +kernel) hn hfit hlen hfs hd kk
/-- Cf.size -/
theorem f_MM_129 (C : hp_C p s m args meth c cc nL "ModelMerge" (c0 :: kw_all) D kcl tys sts aos A) {a : Nat} {fs : List Value} {v : Value} (ha : h a = some (.inr (0, fs))) (hv : fs[3]? = some v) (hd : decode cc pc = .ok (.getfield 129, 3)) (kk : hp_G p l e R s m args below meth c D kcl A nL Q cells slots (pc + 3) lv (v :: st) h) : hp_G p l e R s m args below meth c D kcl A nL Q cells slots pc lv (.ref a :: st) h :=
  hg_get C (fun w h => kc (i_Cf w h)) ha rfl 3 (by decide) (kc kw39) rfl hv hd kk
/-- St.cells -/
theorem f_St_9 (C : hp_C p s m args meth c cc nL "ModelMerge$State" (c0 :: kw_all) D kcl tys sts aos A) {a : Nat} {fs : List Value} {v : Value} (ha : h a = some (.inr (4, fs))) (hv : fs[0]? = some v) (hd : decode cc pc = .ok (.getfield 9, 3)) (kk : hp_G p l e R s m args below meth c D kcl A nL Q cells slots (pc + 3) lv (v :: st) h) : hp_G p l e R s m args below meth c D kcl A nL Q cells slots pc lv (.ref a :: st) h :=
  hg_get C (fun w h => kc (i_St w h)) ha rfl 0 (by decide) (kc kw57) rfl hv hd kk
/-- St.cells = .. -/
theorem p_St_9 (C : hp_C p s m args meth c cc nL "ModelMerge$State" (c0 :: kw_all) D kcl tys sts aos A) {a : Nat} {fs fs' : List Value} {v : Value} (hin2 : meth.name = "<init>") (ha : h a = some (.inr (4, fs))) (hn : narrow (.array .int) v = v) (hfit : fits (.array .int) v = true) (hlen : 0 < fs.length) (hfs : fs.set 0 v = fs') (hd : decode cc pc = .ok (.putfield 9, 3)) (kk : hp_G p l e R s m args below meth c D kcl A nL Q cells slots (pc + 3) lv st (hp_up h a (.inr (4, fs')))) : hp_G p l e R s m args below meth c D kcl A nL Q cells slots pc lv (v :: .ref a :: st) h :=
  hg_putF C t_St (fun w h => kc (i_St w h)) t_St_ok n_St ha rfl 0 (by decide) (kc kw57) rfl rfl hin2 rfl (by decide +kernel) hn hfit hlen hfs hd kk
/-- Ve.number -/
theorem f_Ve_15 (C : hp_C p s m args meth c cc nL "ModelMerge$Version" (c0 :: kw_all) D kcl tys sts aos A) {a : Nat} {fs : List Value} {v : Value} (ha : h a = some (.inr (5, fs))) (hv : fs[0]? = some v) (hd : decode cc pc = .ok (.getfield 15, 3)) (kk : hp_G p l e R s m args below meth c D kcl A nL Q cells slots (pc + 3) lv (v :: st) h) : hp_G p l e R s m args below meth c D kcl A nL Q cells slots pc lv (.ref a :: st) h :=
  hg_get C (fun w h => kc (i_Ve w h)) ha rfl 0 (by decide) (kc kw65) rfl hv hd kk
/-- Ve.number = .. -/
theorem p_Ve_15 (C : hp_C p s m args meth c cc nL "ModelMerge$Version" (c0 :: kw_all) D kcl tys sts aos A) {a : Nat} {fs fs' : List Value} {v : Value} (hin2 : meth.name = "<init>") (ha : h a = some (.inr (5, fs))) (hn : narrow (.int) v = v) (hfit : fits (.int) v = true) (hlen : 0 < fs.length) (hfs : fs.set 0 v = fs') (hd : decode cc pc = .ok (.putfield 15, 3)) (kk : hp_G p l e R s m args below meth c D kcl A nL Q cells slots (pc + 3) lv st (hp_up h a (.inr (5, fs')))) : hp_G p l e R s m args below meth c D kcl A nL Q cells slots pc lv (v :: .ref a :: st) h :=
  hg_putF C t_Ve (fun w h => kc (i_Ve w h)) t_Ve_ok n_Ve ha rfl 0 (by decide) (kc kw65) rfl rfl hin2 rfl (by decide +kernel) hn hfit hlen hfs hd kk
/-- Ve.number -/
theorem f_MM_197 (C : hp_C p s m args meth c cc nL "ModelMerge" (c0 :: kw_all) D kcl tys sts aos A) {a : Nat} {fs : List Value} {v : Value} (ha : h a = some (.inr (5, fs))) (hv : fs[0]? = some v) (hd : decode cc pc = .ok (.getfield 197, 3)) (kk : hp_G p l e R s m args below meth c D kcl A nL Q cells slots (pc + 3) lv (v :: st) h) : hp_G p l e R s m args below meth c D kcl A nL Q cells slots pc lv (.ref a :: st) h :=
  hg_get C (fun w h => kc (i_Ve w h)) ha rfl 0 (by decide) (kc kw66) rfl hv hd kk
/-- Ve.madeBy = .. -/
theorem p_Ve_19 (C : hp_C p s m args meth c cc nL "ModelMerge$Version" (c0 :: kw_all) D kcl tys sts aos A) {a : Nat} {fs fs' : List Value} {v : Value} (hin2 : meth.name = "<init>") (ha : h a = some (.inr (5, fs))) (hn : narrow (.int) v = v) (hfit : fits (.int) v = true) (hlen : 1 < fs.length) (hfs : fs.set 1 v = fs') (hd : decode cc pc = .ok (.putfield 19, 3)) (kk : hp_G p l e R s m args below meth c D kcl A nL Q cells slots (pc + 3) lv st (hp_up h a (.inr (5, fs')))) : hp_G p l e R s m args below meth c D kcl A nL Q cells slots pc lv (v :: .ref a :: st) h :=
  hg_putF C t_Ve (fun w h => kc (i_Ve w h)) t_Ve_ok n_Ve ha rfl 1 (by decide) (kc kw67) rfl rfl hin2 rfl (by decide +kernel) hn hfit hlen hfs hd kk
/-- Ve.madeBy -/
theorem f_MM_213 (C : hp_C p s m args meth c cc nL "ModelMerge" (c0 :: kw_all) D kcl tys sts aos A) {a : Nat} {fs : List Value} {v : Value} (ha : h a = some (.inr (5, fs))) (hv : fs[1]? = some v) (hd : decode cc pc = .ok (.getfield 213, 3)) (kk : hp_G p l e R s m args below meth c D kcl A nL Q cells slots (pc + 3) lv (v :: st) h) : hp_G p l e R s m args below meth c D kcl A nL Q cells slots pc lv (.ref a :: st) h :=
  hg_get C (fun w h => kc (i_Ve w h)) ha rfl 1 (by decide) (kc kw68) rfl hv hd kk
/-- Ve.state -/
theorem f_Ve_22 (C : hp_C p s m args meth c cc nL "ModelMerge$Version" (c0 :: kw_all) D kcl tys sts aos A) {a : Nat} {fs : List Value} {v : Value} (ha : h a = some (.inr (5, fs))) (hv : fs[2]? = some v) (hd : decode cc pc = .ok (.getfield 22, 3)) (kk : hp_G p l e R s m args below meth c D kcl A nL Q cells slots (pc + 3) lv (v :: st) h) : hp_G p l e R s m args below meth c D kcl A nL Q cells slots pc lv (.ref a :: st) h :=
  hg_get C (fun w h => kc (i_Ve w h)) ha rfl 2 (by decide) (kc kw69) rfl hv hd kk
/-- Ve.state = .. -/
theorem p_Ve_22 (C : hp_C p s m args meth c cc nL "ModelMerge$Version" (c0 :: kw_all) D kcl tys sts aos A) {a : Nat} {fs fs' : List Value} {v : Value} (hin2 : meth.name = "<init>") (ha : h a = some (.inr (5, fs))) (hn : narrow (.object "ModelMerge$State") v = v) (hfit : fits (.object "ModelMerge$State") v = true) (hlen : 2 < fs.length) (hfs : fs.set 2 v = fs') (hd : decode cc pc = .ok (.putfield 22, 3)) (kk : hp_G p l e R s m args below meth c D kcl A nL Q cells slots (pc + 3) lv st (hp_up h a (.inr (5, fs')))) : hp_G p l e R s m args below meth c D kcl A nL Q cells slots pc lv (v :: .ref a :: st) h :=
  hg_putF C t_Ve (fun w h => kc (i_Ve w h)) t_Ve_ok n_Ve ha rfl 2 (by decide) (kc kw69) rfl rfl hin2 rfl (by decide +kernel) hn hfit hlen hfs hd kk
/-- Ve.state -/
theorem f_Se_47 (C : hp_C p s m args meth c cc nL "ModelMerge$Session" (c0 :: kw_all) D kcl tys sts aos A) {a : Nat} {fs : List Value} {v : Value} (ha : h a = some (.inr (5, fs))) (hv : fs[2]? = some v) (hd : decode cc pc = .ok (.getfield 47, 3)) (kk : hp_G p l e R s m args below meth c D kcl A nL Q cells slots (pc + 3) lv (v :: st) h) : hp_G p l e R s m args below meth c D kcl A nL Q cells slots pc lv (.ref a :: st) h :=
  hg_get C (fun w h => kc (i_Ve w h)) ha rfl 2 (by decide) (kc kw70) rfl hv hd kk
/-- Ve.state -/
theorem f_MM_147 (C : hp_C p s m args meth c cc nL "ModelMerge" (c0 :: kw_all) D kcl tys sts aos A) {a : Nat} {fs : List Value} {v : Value} (ha : h a = some (.inr (5, fs))) (hv : fs[2]? = some v) (hd : decode cc pc = .ok (.getfield 147, 3)) (kk : hp_G p l e R s m args below meth c D kcl A nL Q cells slots (pc + 3) lv (v :: st) h) : hp_G p l e R s m args below meth c D kcl A nL Q cells slots pc lv (.ref a :: st) h :=
  hg_get C (fun w h => kc (i_Ve w h)) ha rfl 2 (by decide) (kc kw71) rfl hv hd kk
/-- Ve.origins -/
theorem f_Ve_9 (C : hp_C p s m args meth c cc nL "ModelMerge$Version" (c0 :: kw_all) D kcl tys sts aos A) {a : Nat} {fs : List Value} {v : Value} (ha : h a = some (.inr (5, fs))) (hv : fs[3]? = some v) (hd : decode cc pc = .ok (.getfield 9, 3)) (kk : hp_G p l e R s m args below meth c D kcl A nL Q cells slots (pc + 3) lv (v :: st) h) : hp_G p l e R s m args below meth c D kcl A nL Q cells slots pc lv (.ref a :: st) h :=
  hg_get C (fun w h => kc (i_Ve w h)) ha rfl 3 (by decide) (kc kw72) rfl hv hd kk
/-- Ve.origins = .. -/
theorem p_Ve_9 (C : hp_C p s m args meth c cc nL "ModelMerge$Version" (c0 :: kw_all) D kcl tys sts aos A) {a : Nat} {fs fs' : List Value} {v : Value} (hin2 : meth.name = "<init>") (ha : h a = some (.inr (5, fs))) (hn : narrow (.array .int) v = v) (hfit : fits (.array .int) v = true) (hlen : 3 < fs.length) (hfs : fs.set 3 v = fs') (hd : decode cc pc = .ok (.putfield 9, 3)) (kk : hp_G p l e R s m args below meth c D kcl A nL Q cells slots (pc + 3) lv st (hp_up h a (.inr (5, fs')))) : hp_G p l e R s m args below meth c D kcl A nL Q cells slots pc lv (v :: .ref a :: st) h :=
  hg_putF C t_Ve (fun w h => kc (i_Ve w h)) t_Ve_ok n_Ve ha rfl 3 (by decide) (kc kw72) rfl rfl hin2 rfl (by decide +kernel) hn hfit hlen hfs hd kk
/-- MM.kinds -/
theorem f_MM_9 (C : hp_C p s m args meth c cc nL "ModelMerge" (c0 :: kw_all) D kcl tys sts aos A) {a : Nat} {fs : List Value} {v : Value} (ha : h a = some (.inr (6, fs))) (hv : fs[0]? = some v) (hd : decode cc pc = .ok (.getfield 9, 3)) (kk : hp_G p l e R s m args below meth c D kcl A nL Q cells slots (pc + 3) lv (v :: st) h) : hp_G p l e R s m args below meth c D kcl A nL Q cells slots pc lv (.ref a :: st) h :=
  hg_get C (fun w h => kc (i_MM w h)) ha rfl 0 (by decide) (kc kw82) rfl hv hd kk
/-- MM.kinds = .. -/
theorem p_MM_9 (C : hp_C p s m args meth c cc nL "ModelMerge" (c0 :: kw_all) D kcl tys sts aos A) {a : Nat} {fs fs' : List Value} {v : Value} (hin2 : meth.name = "<init>") (ha : h a = some (.inr (6, fs))) (hn : narrow (.array .int) v = v) (hfit : fits (.array .int) v = true) (hlen : 0 < fs.length) (hfs : fs.set 0 v = fs') (hd : decode cc pc = .ok (.putfield 9, 3)) (kk : hp_G p l e R s m args below meth c D kcl A nL Q cells slots (pc + 3) lv st (hp_up h a (.inr (6, fs')))) : hp_G p l e R s m args below meth c D kcl A nL Q cells slots pc lv (v :: .ref a :: st) h :=
  hg_putF C t_MM (fun w h => kc (i_MM w h)) t_MM_ok n_MM ha rfl 0 (by decide) (kc kw82) rfl rfl hin2 rfl (by decide +kernel) hn hfit hlen hfs hd kk
/-- MM.lockers -/
theorem f_MM_13 (C : hp_C p s m args meth c cc nL "ModelMerge" (c0 :: kw_all) D kcl tys sts aos A) {a : Nat} {fs : List Value} {v : Value} (ha : h a = some (.inr (6, fs))) (hv : fs[1]? = some v) (hd : decode cc pc = .ok (.getfield 13, 3)) (kk : hp_G p l e R s m args below meth c D kcl A nL Q cells slots (pc + 3) lv (v :: st) h) : hp_G p l e R s m args below meth c D kcl A nL Q cells slots pc lv (.ref a :: st) h :=
  hg_get C (fun w h => kc (i_MM w h)) ha rfl 1 (by decide) (kc kw83) rfl hv hd kk
/-- MM.lockers = .. -/
theorem p_MM_13 (C : hp_C p s m args meth c cc nL "ModelMerge" (c0 :: kw_all) D kcl tys sts aos A) {a : Nat} {fs fs' : List Value} {v : Value} (hin2 : meth.name = "<init>") (ha : h a = some (.inr (6, fs))) (hn : narrow (.array .int) v = v) (hfit : fits (.array .int) v = true) (hlen : 1 < fs.length) (hfs : fs.set 1 v = fs') (hd : decode cc pc = .ok (.putfield 13, 3)) (kk : hp_G p l e R s m args below meth c D kcl A nL Q cells slots (pc + 3) lv st (hp_up h a (.inr (6, fs')))) : hp_G p l e R s m args below meth c D kcl A nL Q cells slots pc lv (v :: .ref a :: st) h :=
  hg_putF C t_MM (fun w h => kc (i_MM w h)) t_MM_ok n_MM ha rfl 1 (by decide) (kc kw83) rfl rfl hin2 rfl (by decide +kernel) hn hfit hlen hfs hd kk
/-- MM.thingCount -/
theorem f_MM_16 (C : hp_C p s m args meth c cc nL "ModelMerge" (c0 :: kw_all) D kcl tys sts aos A) {a : Nat} {fs : List Value} {v : Value} (ha : h a = some (.inr (6, fs))) (hv : fs[2]? = some v) (hd : decode cc pc = .ok (.getfield 16, 3)) (kk : hp_G p l e R s m args below meth c D kcl A nL Q cells slots (pc + 3) lv (v :: st) h) : hp_G p l e R s m args below meth c D kcl A nL Q cells slots pc lv (.ref a :: st) h :=
  hg_get C (fun w h => kc (i_MM w h)) ha rfl 2 (by decide) (kc kw84) rfl hv hd kk
/-- MM.thingCount = .. -/
theorem p_MM_16 (C : hp_C p s m args meth c cc nL "ModelMerge" (c0 :: kw_all) D kcl tys sts aos A) {a : Nat} {fs fs' : List Value} {v : Value} (ha : h a = some (.inr (6, fs))) (hn : narrow (.int) v = v) (hfit : fits (.int) v = true) (hlen : 2 < fs.length) (hfs : fs.set 2 v = fs') (hd : decode cc pc = .ok (.putfield 16, 3)) (kk : hp_G p l e R s m args below meth c D kcl A nL Q cells slots (pc + 3) lv st (hp_up h a (.inr (6, fs')))) : hp_G p l e R s m args below meth c D kcl A nL Q cells slots pc lv (v :: .ref a :: st) h :=
  hg_put C t_MM (fun w h => kc (i_MM w h)) t_MM_ok n_MM ha rfl 2 (by decide) (kc kw84) rfl rfl (by decide +kernel) hn hfit hlen hfs hd kk
/-- MM.sessions -/
theorem f_MM_22 (C : hp_C p s m args meth c cc nL "ModelMerge" (c0 :: kw_all) D kcl tys sts aos A) {a : Nat} {fs : List Value} {v : Value} (ha : h a = some (.inr (6, fs))) (hv : fs[3]? = some v) (hd : decode cc pc = .ok (.getfield 22, 3)) (kk : hp_G p l e R s m args below meth c D kcl A nL Q cells slots (pc + 3) lv (v :: st) h) : hp_G p l e R s m args below meth c D kcl A nL Q cells slots pc lv (.ref a :: st) h :=
  hg_get C (fun w h => kc (i_MM w h)) ha rfl 3 (by decide) (kc kw85) rfl hv hd kk
/-- MM.sessions = .. -/
theorem p_MM_22 (C : hp_C p s m args meth c cc nL "ModelMerge" (c0 :: kw_all) D kcl tys sts aos A) {a : Nat} {fs fs' : List Value} {v : Value} (hin2 : meth.name = "<init>") (ha : h a = some (.inr (6, fs))) (hn : narrow (.array (.object "ModelMerge$Session")) v = v) (hfit : fits (.array (.object "ModelMerge$Session")) v = true) (hlen : 3 < fs.length) (hfs : fs.set 3 v = fs') (hd : decode cc pc = .ok (.putfield 22, 3)) (kk : hp_G p l e R s m args below meth c D kcl A nL Q cells slots (pc + 3) lv st (hp_up h a (.inr (6, fs')))) : hp_G p l e R s m args below meth c D kcl A nL Q cells slots pc lv (v :: .ref a :: st) h :=
  hg_putF C t_MM (fun w h => kc (i_MM w h)) t_MM_ok n_MM ha rfl 3 (by decide) (kc kw85) rfl rfl hin2 rfl (by decide +kernel) hn hfit hlen hfs hd kk
/-- MM.sessionCount -/
theorem f_MM_26 (C : hp_C p s m args meth c cc nL "ModelMerge" (c0 :: kw_all) D kcl tys sts aos A) {a : Nat} {fs : List Value} {v : Value} (ha : h a = some (.inr (6, fs))) (hv : fs[4]? = some v) (hd : decode cc pc = .ok (.getfield 26, 3)) (kk : hp_G p l e R s m args below meth c D kcl A nL Q cells slots (pc + 3) lv (v :: st) h) : hp_G p l e R s m args below meth c D kcl A nL Q cells slots pc lv (.ref a :: st) h :=
  hg_get C (fun w h => kc (i_MM w h)) ha rfl 4 (by decide) (kc kw86) rfl hv hd kk
/-- MM.sessionCount = .. -/
theorem p_MM_26 (C : hp_C p s m args meth c cc nL "ModelMerge" (c0 :: kw_all) D kcl tys sts aos A) {a : Nat} {fs fs' : List Value} {v : Value} (ha : h a = some (.inr (6, fs))) (hn : narrow (.int) v = v) (hfit : fits (.int) v = true) (hlen : 4 < fs.length) (hfs : fs.set 4 v = fs') (hd : decode cc pc = .ok (.putfield 26, 3)) (kk : hp_G p l e R s m args below meth c D kcl A nL Q cells slots (pc + 3) lv st (hp_up h a (.inr (6, fs')))) : hp_G p l e R s m args below meth c D kcl A nL Q cells slots pc lv (v :: .ref a :: st) h :=
  hg_put C t_MM (fun w h => kc (i_MM w h)) t_MM_ok n_MM ha rfl 4 (by decide) (kc kw86) rfl rfl (by decide +kernel) hn hfit hlen hfs hd kk
/-- MM.versions -/
theorem f_MM_31 (C : hp_C p s m args meth c cc nL "ModelMerge" (c0 :: kw_all) D kcl tys sts aos A) {a : Nat} {fs : List Value} {v : Value} (ha : h a = some (.inr (6, fs))) (hv : fs[5]? = some v) (hd : decode cc pc = .ok (.getfield 31, 3)) (kk : hp_G p l e R s m args below meth c D kcl A nL Q cells slots (pc + 3) lv (v :: st) h) : hp_G p l e R s m args below meth c D kcl A nL Q cells slots pc lv (.ref a :: st) h :=
  hg_get C (fun w h => kc (i_MM w h)) ha rfl 5 (by decide) (kc kw87) rfl hv hd kk
/-- MM.versions = .. -/
theorem p_MM_31 (C : hp_C p s m args meth c cc nL "ModelMerge" (c0 :: kw_all) D kcl tys sts aos A) {a : Nat} {fs fs' : List Value} {v : Value} (hin2 : meth.name = "<init>") (ha : h a = some (.inr (6, fs))) (hn : narrow (.array (.object "ModelMerge$Version")) v = v) (hfit : fits (.array (.object "ModelMerge$Version")) v = true) (hlen : 5 < fs.length) (hfs : fs.set 5 v = fs') (hd : decode cc pc = .ok (.putfield 31, 3)) (kk : hp_G p l e R s m args below meth c D kcl A nL Q cells slots (pc + 3) lv st (hp_up h a (.inr (6, fs')))) : hp_G p l e R s m args below meth c D kcl A nL Q cells slots pc lv (v :: .ref a :: st) h :=
  hg_putF C t_MM (fun w h => kc (i_MM w h)) t_MM_ok n_MM ha rfl 5 (by decide) (kc kw87) rfl rfl hin2 rfl (by decide +kernel) hn hfit hlen hfs hd kk
/-- MM.versionCount -/
theorem f_MM_35 (C : hp_C p s m args meth c cc nL "ModelMerge" (c0 :: kw_all) D kcl tys sts aos A) {a : Nat} {fs : List Value} {v : Value} (ha : h a = some (.inr (6, fs))) (hv : fs[6]? = some v) (hd : decode cc pc = .ok (.getfield 35, 3)) (kk : hp_G p l e R s m args below meth c D kcl A nL Q cells slots (pc + 3) lv (v :: st) h) : hp_G p l e R s m args below meth c D kcl A nL Q cells slots pc lv (.ref a :: st) h :=
  hg_get C (fun w h => kc (i_MM w h)) ha rfl 6 (by decide) (kc kw88) rfl hv hd kk
/-- MM.versionCount = .. -/
theorem p_MM_35 (C : hp_C p s m args meth c cc nL "ModelMerge" (c0 :: kw_all) D kcl tys sts aos A) {a : Nat} {fs fs' : List Value} {v : Value} (ha : h a = some (.inr (6, fs))) (hn : narrow (.int) v = v) (hfit : fits (.int) v = true) (hlen : 6 < fs.length) (hfs : fs.set 6 v = fs') (hd : decode cc pc = .ok (.putfield 35, 3)) (kk : hp_G p l e R s m args below meth c D kcl A nL Q cells slots (pc + 3) lv st (hp_up h a (.inr (6, fs')))) : hp_G p l e R s m args below meth c D kcl A nL Q cells slots pc lv (v :: .ref a :: st) h :=
  hg_put C t_MM (fun w h => kc (i_MM w h)) t_MM_ok n_MM ha rfl 6 (by decide) (kc kw88) rfl rfl (by decide +kernel) hn hfit hlen hfs hd kk
/-- MM.latest -/
theorem f_MM_64 (C : hp_C p s m args meth c cc nL "ModelMerge" (c0 :: kw_all) D kcl tys sts aos A) {a : Nat} {fs : List Value} {v : Value} (ha : h a = some (.inr (6, fs))) (hv : fs[7]? = some v) (hd : decode cc pc = .ok (.getfield 64, 3)) (kk : hp_G p l e R s m args below meth c D kcl A nL Q cells slots (pc + 3) lv (v :: st) h) : hp_G p l e R s m args below meth c D kcl A nL Q cells slots pc lv (.ref a :: st) h :=
  hg_get C (fun w h => kc (i_MM w h)) ha rfl 7 (by decide) (kc kw89) rfl hv hd kk
/-- MM.latest = .. -/
theorem p_MM_64 (C : hp_C p s m args meth c cc nL "ModelMerge" (c0 :: kw_all) D kcl tys sts aos A) {a : Nat} {fs fs' : List Value} {v : Value} (ha : h a = some (.inr (6, fs))) (hn : narrow (.object "ModelMerge$Version") v = v) (hfit : fits (.object "ModelMerge$Version") v = true) (hlen : 7 < fs.length) (hfs : fs.set 7 v = fs') (hd : decode cc pc = .ok (.putfield 64, 3)) (kk : hp_G p l e R s m args below meth c D kcl A nL Q cells slots (pc + 3) lv st (hp_up h a (.inr (6, fs')))) : hp_G p l e R s m args below meth c D kcl A nL Q cells slots pc lv (v :: .ref a :: st) h :=
  hg_put C t_MM (fun w h => kc (i_MM w h)) t_MM_ok n_MM ha rfl 7 (by decide) (kc kw89) rfl rfl (by decide +kernel) hn hfit hlen hfs hd kk
/-- MM.rules -/
theorem f_MM_40 (C : hp_C p s m args meth c cc nL "ModelMerge" (c0 :: kw_all) D kcl tys sts aos A) {a : Nat} {fs : List Value} {v : Value} (ha : h a = some (.inr (6, fs))) (hv : fs[8]? = some v) (hd : decode cc pc = .ok (.getfield 40, 3)) (kk : hp_G p l e R s m args below meth c D kcl A nL Q cells slots (pc + 3) lv (v :: st) h) : hp_G p l e R s m args below meth c D kcl A nL Q cells slots pc lv (.ref a :: st) h :=
  hg_get C (fun w h => kc (i_MM w h)) ha rfl 8 (by decide) (kc kw90) rfl hv hd kk
/-- MM.rules = .. -/
theorem p_MM_40 (C : hp_C p s m args meth c cc nL "ModelMerge" (c0 :: kw_all) D kcl tys sts aos A) {a : Nat} {fs fs' : List Value} {v : Value} (hin2 : meth.name = "<init>") (ha : h a = some (.inr (6, fs))) (hn : narrow (.array (.object "ModelMerge$Rule")) v = v) (hfit : fits (.array (.object "ModelMerge$Rule")) v = true) (hlen : 8 < fs.length) (hfs : fs.set 8 v = fs') (hd : decode cc pc = .ok (.putfield 40, 3)) (kk : hp_G p l e R s m args below meth c D kcl A nL Q cells slots (pc + 3) lv st (hp_up h a (.inr (6, fs')))) : hp_G p l e R s m args below meth c D kcl A nL Q cells slots pc lv (v :: .ref a :: st) h :=
  hg_putF C t_MM (fun w h => kc (i_MM w h)) t_MM_ok n_MM ha rfl 8 (by decide) (kc kw90) rfl rfl hin2 rfl (by decide +kernel) hn hfit hlen hfs hd kk
/-- MM.ruleCount -/
theorem f_MM_44 (C : hp_C p s m args meth c cc nL "ModelMerge" (c0 :: kw_all) D kcl tys sts aos A) {a : Nat} {fs : List Value} {v : Value} (ha : h a = some (.inr (6, fs))) (hv : fs[9]? = some v) (hd : decode cc pc = .ok (.getfield 44, 3)) (kk : hp_G p l e R s m args below meth c D kcl A nL Q cells slots (pc + 3) lv (v :: st) h) : hp_G p l e R s m args below meth c D kcl A nL Q cells slots pc lv (.ref a :: st) h :=
  hg_get C (fun w h => kc (i_MM w h)) ha rfl 9 (by decide) (kc kw91) rfl hv hd kk
/-- MM.ruleCount = .. -/
theorem p_MM_44 (C : hp_C p s m args meth c cc nL "ModelMerge" (c0 :: kw_all) D kcl tys sts aos A) {a : Nat} {fs fs' : List Value} {v : Value} (ha : h a = some (.inr (6, fs))) (hn : narrow (.int) v = v) (hfit : fits (.int) v = true) (hlen : 9 < fs.length) (hfs : fs.set 9 v = fs') (hd : decode cc pc = .ok (.putfield 44, 3)) (kk : hp_G p l e R s m args below meth c D kcl A nL Q cells slots (pc + 3) lv st (hp_up h a (.inr (6, fs')))) : hp_G p l e R s m args below meth c D kcl A nL Q cells slots pc lv (v :: .ref a :: st) h :=
  hg_put C t_MM (fun w h => kc (i_MM w h)) t_MM_ok n_MM ha rfl 9 (by decide) (kc kw91) rfl rfl (by decide +kernel) hn hfit hlen hfs hd kk
/-- MM.conflicts -/
theorem f_MM_50 (C : hp_C p s m args meth c cc nL "ModelMerge" (c0 :: kw_all) D kcl tys sts aos A) {a : Nat} {fs : List Value} {v : Value} (ha : h a = some (.inr (6, fs))) (hv : fs[10]? = some v) (hd : decode cc pc = .ok (.getfield 50, 3)) (kk : hp_G p l e R s m args below meth c D kcl A nL Q cells slots (pc + 3) lv (v :: st) h) : hp_G p l e R s m args below meth c D kcl A nL Q cells slots pc lv (.ref a :: st) h :=
  hg_get C (fun w h => kc (i_MM w h)) ha rfl 10 (by decide) (kc kw92) rfl hv hd kk
/-- MM.conflicts = .. -/
theorem p_MM_50 (C : hp_C p s m args meth c cc nL "ModelMerge" (c0 :: kw_all) D kcl tys sts aos A) {a : Nat} {fs fs' : List Value} {v : Value} (hin2 : meth.name = "<init>") (ha : h a = some (.inr (6, fs))) (hn : narrow (.object "ModelMerge$Conflicts") v = v) (hfit : fits (.object "ModelMerge$Conflicts") v = true) (hlen : 10 < fs.length) (hfs : fs.set 10 v = fs') (hd : decode cc pc = .ok (.putfield 50, 3)) (kk : hp_G p l e R s m args below meth c D kcl A nL Q cells slots (pc + 3) lv st (hp_up h a (.inr (6, fs')))) : hp_G p l e R s m args below meth c D kcl A nL Q cells slots pc lv (v :: .ref a :: st) h :=
  hg_putF C t_MM (fun w h => kc (i_MM w h)) t_MM_ok n_MM ha rfl 10 (by decide) (kc kw92) rfl rfl hin2 rfl (by decide +kernel) hn hfit hlen hfs hd kk
/-- MM.pending -/
theorem f_MM_54 (C : hp_C p s m args meth c cc nL "ModelMerge" (c0 :: kw_all) D kcl tys sts aos A) {a : Nat} {fs : List Value} {v : Value} (ha : h a = some (.inr (6, fs))) (hv : fs[11]? = some v) (hd : decode cc pc = .ok (.getfield 54, 3)) (kk : hp_G p l e R s m args below meth c D kcl A nL Q cells slots (pc + 3) lv (v :: st) h) : hp_G p l e R s m args below meth c D kcl A nL Q cells slots pc lv (.ref a :: st) h :=
  hg_get C (fun w h => kc (i_MM w h)) ha rfl 11 (by decide) (kc kw93) rfl hv hd kk
/-- MM.pending = .. -/
theorem p_MM_54 (C : hp_C p s m args meth c cc nL "ModelMerge" (c0 :: kw_all) D kcl tys sts aos A) {a : Nat} {fs fs' : List Value} {v : Value} (ha : h a = some (.inr (6, fs))) (hn : narrow (.object "ModelMerge$Session") v = v) (hfit : fits (.object "ModelMerge$Session") v = true) (hlen : 11 < fs.length) (hfs : fs.set 11 v = fs') (hd : decode cc pc = .ok (.putfield 54, 3)) (kk : hp_G p l e R s m args below meth c D kcl A nL Q cells slots (pc + 3) lv st (hp_up h a (.inr (6, fs')))) : hp_G p l e R s m args below meth c D kcl A nL Q cells slots pc lv (v :: .ref a :: st) h :=
  hg_put C t_MM (fun w h => kc (i_MM w h)) t_MM_ok n_MM ha rfl 11 (by decide) (kc kw93) rfl rfl (by decide +kernel) hn hfit hlen hfs hd kk
/-- Mo.number = .. -/
theorem p_Mo_13 (C : hp_C p s m args meth c cc nL "ModelMerge$Moment" (c0 :: kw_all) D kcl tys sts aos A) {a : Nat} {fs fs' : List Value} {v : Value} (hin2 : meth.name = "<init>") (ha : h a = some (.inr (1, fs))) (hn : narrow (.int) v = v) (hfit : fits (.int) v = true) (hlen : 0 < fs.length) (hfs : fs.set 0 v = fs') (hd : decode cc pc = .ok (.putfield 13, 3)) (kk : hp_G p l e R s m args below meth c D kcl A nL Q cells slots (pc + 3) lv st (hp_up h a (.inr (1, fs')))) : hp_G p l e R s m args below meth c D kcl A nL Q cells slots pc lv (v :: .ref a :: st) h :=
  hg_putF C t_Mo (fun w h => kc (i_Mo w h)) t_Mo_ok n_Mo ha rfl 0 (by decide) (kc kw232) rfl rfl hin2 rfl (by decide +kernel) hn hfit hlen hfs hd kk
/-- Mo.number -/
theorem f_Se_78 (C : hp_C p s m args meth c cc nL "ModelMerge$Session" (c0 :: kw_all) D kcl tys sts aos A) {a : Nat} {fs : List Value} {v : Value} (ha : h a = some (.inr (1, fs))) (hv : fs[0]? = some v) (hd : decode cc pc = .ok (.getfield 78, 3)) (kk : hp_G p l e R s m args below meth c D kcl A nL Q cells slots (pc + 3) lv (v :: st) h) : hp_G p l e R s m args below meth c D kcl A nL Q cells slots pc lv (.ref a :: st) h :=
  hg_get C (fun w h => kc (i_Mo w h)) ha rfl 0 (by decide) (kc kw233) rfl hv hd kk
/-- Mo.number -/
theorem f_MM_202 (C : hp_C p s m args meth c cc nL "ModelMerge" (c0 :: kw_all) D kcl tys sts aos A) {a : Nat} {fs : List Value} {v : Value} (ha : h a = some (.inr (1, fs))) (hv : fs[0]? = some v) (hd : decode cc pc = .ok (.getfield 202, 3)) (kk : hp_G p l e R s m args below meth c D kcl A nL Q cells slots (pc + 3) lv (v :: st) h) : hp_G p l e R s m args below meth c D kcl A nL Q cells slots pc lv (.ref a :: st) h :=
  hg_get C (fun w h => kc (i_Mo w h)) ha rfl 0 (by decide) (kc kw234) rfl hv hd kk
/-- Mo.before = .. -/
theorem p_Mo_17 (C : hp_C p s m args meth c cc nL "ModelMerge$Moment" (c0 :: kw_all) D kcl tys sts aos A) {a : Nat} {fs fs' : List Value} {v : Value} (hin2 : meth.name = "<init>") (ha : h a = some (.inr (1, fs))) (hn : narrow (.object "ModelMerge$Moment") v = v) (hfit : fits (.object "ModelMerge$Moment") v = true) (hlen : 1 < fs.length) (hfs : fs.set 1 v = fs') (hd : decode cc pc = .ok (.putfield 17, 3)) (kk : hp_G p l e R s m args below meth c D kcl A nL Q cells slots (pc + 3) lv st (hp_up h a (.inr (1, fs')))) : hp_G p l e R s m args below meth c D kcl A nL Q cells slots pc lv (v :: .ref a :: st) h :=
  hg_putF C t_Mo (fun w h => kc (i_Mo w h)) t_Mo_ok n_Mo ha rfl 1 (by decide) (kc kw235) rfl rfl hin2 rfl (by decide +kernel) hn hfit hlen hfs hd kk
/-- Mo.before -/
theorem f_Se_79 (C : hp_C p s m args meth c cc nL "ModelMerge$Session" (c0 :: kw_all) D kcl tys sts aos A) {a : Nat} {fs : List Value} {v : Value} (ha : h a = some (.inr (1, fs))) (hv : fs[1]? = some v) (hd : decode cc pc = .ok (.getfield 79, 3)) (kk : hp_G p l e R s m args below meth c D kcl A nL Q cells slots (pc + 3) lv (v :: st) h) : hp_G p l e R s m args below meth c D kcl A nL Q cells slots pc lv (.ref a :: st) h :=
  hg_get C (fun w h => kc (i_Mo w h)) ha rfl 1 (by decide) (kc kw236) rfl hv hd kk
/-- Mo.thing = .. -/
theorem p_Mo_20 (C : hp_C p s m args meth c cc nL "ModelMerge$Moment" (c0 :: kw_all) D kcl tys sts aos A) {a : Nat} {fs fs' : List Value} {v : Value} (hin2 : meth.name = "<init>") (ha : h a = some (.inr (1, fs))) (hn : narrow (.int) v = v) (hfit : fits (.int) v = true) (hlen : 2 < fs.length) (hfs : fs.set 2 v = fs') (hd : decode cc pc = .ok (.putfield 20, 3)) (kk : hp_G p l e R s m args below meth c D kcl A nL Q cells slots (pc + 3) lv st (hp_up h a (.inr (1, fs')))) : hp_G p l e R s m args below meth c D kcl A nL Q cells slots pc lv (v :: .ref a :: st) h :=
  hg_putF C t_Mo (fun w h => kc (i_Mo w h)) t_Mo_ok n_Mo ha rfl 2 (by decide) (kc kw237) rfl rfl hin2 rfl (by decide +kernel) hn hfit hlen hfs hd kk
/-- Mo.thing -/
theorem f_Se_65 (C : hp_C p s m args meth c cc nL "ModelMerge$Session" (c0 :: kw_all) D kcl tys sts aos A) {a : Nat} {fs : List Value} {v : Value} (ha : h a = some (.inr (1, fs))) (hv : fs[2]? = some v) (hd : decode cc pc = .ok (.getfield 65, 3)) (kk : hp_G p l e R s m args below meth c D kcl A nL Q cells slots (pc + 3) lv (v :: st) h) : hp_G p l e R s m args below meth c D kcl A nL Q cells slots pc lv (.ref a :: st) h :=
  hg_get C (fun w h => kc (i_Mo w h)) ha rfl 2 (by decide) (kc kw238) rfl hv hd kk
/-- Mo.field = .. -/
theorem p_Mo_23 (C : hp_C p s m args meth c cc nL "ModelMerge$Moment" (c0 :: kw_all) D kcl tys sts aos A) {a : Nat} {fs fs' : List Value} {v : Value} (hin2 : meth.name = "<init>") (ha : h a = some (.inr (1, fs))) (hn : narrow (.int) v = v) (hfit : fits (.int) v = true) (hlen : 3 < fs.length) (hfs : fs.set 3 v = fs') (hd : decode cc pc = .ok (.putfield 23, 3)) (kk : hp_G p l e R s m args below meth c D kcl A nL Q cells slots (pc + 3) lv st (hp_up h a (.inr (1, fs')))) : hp_G p l e R s m args below meth c D kcl A nL Q cells slots pc lv (v :: .ref a :: st) h :=
  hg_putF C t_Mo (fun w h => kc (i_Mo w h)) t_Mo_ok n_Mo ha rfl 3 (by decide) (kc kw239) rfl rfl hin2 rfl (by decide +kernel) hn hfit hlen hfs hd kk
/-- Mo.field -/
theorem f_Se_68 (C : hp_C p s m args meth c cc nL "ModelMerge$Session" (c0 :: kw_all) D kcl tys sts aos A) {a : Nat} {fs : List Value} {v : Value} (ha : h a = some (.inr (1, fs))) (hv : fs[3]? = some v) (hd : decode cc pc = .ok (.getfield 68, 3)) (kk : hp_G p l e R s m args below meth c D kcl A nL Q cells slots (pc + 3) lv (v :: st) h) : hp_G p l e R s m args below meth c D kcl A nL Q cells slots pc lv (.ref a :: st) h :=
  hg_get C (fun w h => kc (i_Mo w h)) ha rfl 3 (by decide) (kc kw240) rfl hv hd kk
/-- Mo.oldValue = .. -/
theorem p_Mo_26 (C : hp_C p s m args meth c cc nL "ModelMerge$Moment" (c0 :: kw_all) D kcl tys sts aos A) {a : Nat} {fs fs' : List Value} {v : Value} (hin2 : meth.name = "<init>") (ha : h a = some (.inr (1, fs))) (hn : narrow (.int) v = v) (hfit : fits (.int) v = true) (hlen : 4 < fs.length) (hfs : fs.set 4 v = fs') (hd : decode cc pc = .ok (.putfield 26, 3)) (kk : hp_G p l e R s m args below meth c D kcl A nL Q cells slots (pc + 3) lv st (hp_up h a (.inr (1, fs')))) : hp_G p l e R s m args below meth c D kcl A nL Q cells slots pc lv (v :: .ref a :: st) h :=
  hg_putF C t_Mo (fun w h => kc (i_Mo w h)) t_Mo_ok n_Mo ha rfl 4 (by decide) (kc kw241) rfl rfl hin2 rfl (by decide +kernel) hn hfit hlen hfs hd kk
/-- Mo.oldValue -/
theorem f_Se_82 (C : hp_C p s m args meth c cc nL "ModelMerge$Session" (c0 :: kw_all) D kcl tys sts aos A) {a : Nat} {fs : List Value} {v : Value} (ha : h a = some (.inr (1, fs))) (hv : fs[4]? = some v) (hd : decode cc pc = .ok (.getfield 82, 3)) (kk : hp_G p l e R s m args below meth c D kcl A nL Q cells slots (pc + 3) lv (v :: st) h) : hp_G p l e R s m args below meth c D kcl A nL Q cells slots pc lv (.ref a :: st) h :=
  hg_get C (fun w h => kc (i_Mo w h)) ha rfl 4 (by decide) (kc kw242) rfl hv hd kk
/-- Mo.newValue = .. -/
theorem p_Mo_29 (C : hp_C p s m args meth c cc nL "ModelMerge$Moment" (c0 :: kw_all) D kcl tys sts aos A) {a : Nat} {fs fs' : List Value} {v : Value} (hin2 : meth.name = "<init>") (ha : h a = some (.inr (1, fs))) (hn : narrow (.int) v = v) (hfit : fits (.int) v = true) (hlen : 5 < fs.length) (hfs : fs.set 5 v = fs') (hd : decode cc pc = .ok (.putfield 29, 3)) (kk : hp_G p l e R s m args below meth c D kcl A nL Q cells slots (pc + 3) lv st (hp_up h a (.inr (1, fs')))) : hp_G p l e R s m args below meth c D kcl A nL Q cells slots pc lv (v :: .ref a :: st) h :=
  hg_putF C t_Mo (fun w h => kc (i_Mo w h)) t_Mo_ok n_Mo ha rfl 5 (by decide) (kc kw243) rfl rfl hin2 rfl (by decide +kernel) hn hfit hlen hfs hd kk
/-- Mo.newValue -/
theorem f_Se_71 (C : hp_C p s m args meth c cc nL "ModelMerge$Session" (c0 :: kw_all) D kcl tys sts aos A) {a : Nat} {fs : List Value} {v : Value} (ha : h a = some (.inr (1, fs))) (hv : fs[5]? = some v) (hd : decode cc pc = .ok (.getfield 71, 3)) (kk : hp_G p l e R s m args below meth c D kcl A nL Q cells slots (pc + 3) lv (v :: st) h) : hp_G p l e R s m args below meth c D kcl A nL Q cells slots pc lv (.ref a :: st) h :=
  hg_get C (fun w h => kc (i_Mo w h)) ha rfl 5 (by decide) (kc kw244) rfl hv hd kk
/-- Mo.lastBehind = .. -/
theorem p_Mo_7 (C : hp_C p s m args meth c cc nL "ModelMerge$Moment" (c0 :: kw_all) D kcl tys sts aos A) {a : Nat} {fs fs' : List Value} {v : Value} (ha : h a = some (.inr (1, fs))) (hn : narrow (.object "ModelMerge$Moment") v = v) (hfit : fits (.object "ModelMerge$Moment") v = true) (hlen : 6 < fs.length) (hfs : fs.set 6 v = fs') (hd : decode cc pc = .ok (.putfield 7, 3)) (kk : hp_G p l e R s m args below meth c D kcl A nL Q cells slots (pc + 3) lv st (hp_up h a (.inr (1, fs')))) : hp_G p l e R s m args below meth c D kcl A nL Q cells slots pc lv (v :: .ref a :: st) h :=
  hg_put C t_Mo (fun w h => kc (i_Mo w h)) t_Mo_ok n_Mo ha rfl 6 (by decide) (kc kw245) rfl rfl (by decide +kernel) hn hfit hlen hfs hd kk
/-- Mo.lastBehind -/
theorem f_Se_58 (C : hp_C p s m args meth c cc nL "ModelMerge$Session" (c0 :: kw_all) D kcl tys sts aos A) {a : Nat} {fs : List Value} {v : Value} (ha : h a = some (.inr (1, fs))) (hv : fs[6]? = some v) (hd : decode cc pc = .ok (.getfield 58, 3)) (kk : hp_G p l e R s m args below meth c D kcl A nL Q cells slots (pc + 3) lv (v :: st) h) : hp_G p l e R s m args below meth c D kcl A nL Q cells slots pc lv (.ref a :: st) h :=
  hg_get C (fun w h => kc (i_Mo w h)) ha rfl 6 (by decide) (kc kw246) rfl hv hd kk
/-- Mo.lastBehind = .. -/
theorem p_Se_58 (C : hp_C p s m args meth c cc nL "ModelMerge$Session" (c0 :: kw_all) D kcl tys sts aos A) {a : Nat} {fs fs' : List Value} {v : Value} (ha : h a = some (.inr (1, fs))) (hn : narrow (.object "ModelMerge$Moment") v = v) (hfit : fits (.object "ModelMerge$Moment") v = true) (hlen : 6 < fs.length) (hfs : fs.set 6 v = fs') (hd : decode cc pc = .ok (.putfield 58, 3)) (kk : hp_G p l e R s m args below meth c D kcl A nL Q cells slots (pc + 3) lv st (hp_up h a (.inr (1, fs')))) : hp_G p l e R s m args below meth c D kcl A nL Q cells slots pc lv (v :: .ref a :: st) h :=
  hg_put C t_Mo (fun w h => kc (i_Mo w h)) t_Mo_ok n_Mo ha rfl 6 (by decide) (kc kw246) rfl rfl (by decide +kernel) hn hfit hlen hfs hd kk
/-- Se.number = .. -/
theorem p_Se_37 (C : hp_C p s m args meth c cc nL "ModelMerge$Session" (c0 :: kw_all) D kcl tys sts aos A) {a : Nat} {fs fs' : List Value} {v : Value} (hin2 : meth.name = "<init>") (ha : h a = some (.inr (3, fs))) (hn : narrow (.int) v = v) (hfit : fits (.int) v = true) (hlen : 0 < fs.length) (hfs : fs.set 0 v = fs') (hd : decode cc pc = .ok (.putfield 37, 3)) (kk : hp_G p l e R s m args below meth c D kcl A nL Q cells slots (pc + 3) lv st (hp_up h a (.inr (3, fs')))) : hp_G p l e R s m args below meth c D kcl A nL Q cells slots pc lv (v :: .ref a :: st) h :=
  hg_putF C t_Se (fun w h => kc (i_Se w h)) t_Se_ok n_Se ha rfl 0 (by decide) (kc kw269) rfl rfl hin2 rfl (by decide +kernel) hn hfit hlen hfs hd kk
/-- Se.number -/
theorem f_MM_170 (C : hp_C p s m args meth c cc nL "ModelMerge" (c0 :: kw_all) D kcl tys sts aos A) {a : Nat} {fs : List Value} {v : Value} (ha : h a = some (.inr (3, fs))) (hv : fs[0]? = some v) (hd : decode cc pc = .ok (.getfield 170, 3)) (kk : hp_G p l e R s m args below meth c D kcl A nL Q cells slots (pc + 3) lv (v :: st) h) : hp_G p l e R s m args below meth c D kcl A nL Q cells slots pc lv (.ref a :: st) h :=
  hg_get C (fun w h => kc (i_Se w h)) ha rfl 0 (by decide) (kc kw270) rfl hv hd kk
/-- Se.person = .. -/
theorem p_Se_40 (C : hp_C p s m args meth c cc nL "ModelMerge$Session" (c0 :: kw_all) D kcl tys sts aos A) {a : Nat} {fs fs' : List Value} {v : Value} (hin2 : meth.name = "<init>") (ha : h a = some (.inr (3, fs))) (hn : narrow (.int) v = v) (hfit : fits (.int) v = true) (hlen : 1 < fs.length) (hfs : fs.set 1 v = fs') (hd : decode cc pc = .ok (.putfield 40, 3)) (kk : hp_G p l e R s m args below meth c D kcl A nL Q cells slots (pc + 3) lv st (hp_up h a (.inr (3, fs')))) : hp_G p l e R s m args below meth c D kcl A nL Q cells slots pc lv (v :: .ref a :: st) h :=
  hg_putF C t_Se (fun w h => kc (i_Se w h)) t_Se_ok n_Se ha rfl 1 (by decide) (kc kw271) rfl rfl hin2 rfl (by decide +kernel) hn hfit hlen hfs hd kk
/-- Se.person -/
theorem f_MM_191 (C : hp_C p s m args meth c cc nL "ModelMerge" (c0 :: kw_all) D kcl tys sts aos A) {a : Nat} {fs : List Value} {v : Value} (ha : h a = some (.inr (3, fs))) (hv : fs[1]? = some v) (hd : decode cc pc = .ok (.getfield 191, 3)) (kk : hp_G p l e R s m args below meth c D kcl A nL Q cells slots (pc + 3) lv (v :: st) h) : hp_G p l e R s m args below meth c D kcl A nL Q cells slots pc lv (.ref a :: st) h :=
  hg_get C (fun w h => kc (i_Se w h)) ha rfl 1 (by decide) (kc kw272) rfl hv hd kk
/-- Se.base = .. -/
theorem p_Se_43 (C : hp_C p s m args meth c cc nL "ModelMerge$Session" (c0 :: kw_all) D kcl tys sts aos A) {a : Nat} {fs fs' : List Value} {v : Value} (hin2 : meth.name = "<init>") (ha : h a = some (.inr (3, fs))) (hn : narrow (.object "ModelMerge$Version") v = v) (hfit : fits (.object "ModelMerge$Version") v = true) (hlen : 2 < fs.length) (hfs : fs.set 2 v = fs') (hd : decode cc pc = .ok (.putfield 43, 3)) (kk : hp_G p l e R s m args below meth c D kcl A nL Q cells slots (pc + 3) lv st (hp_up h a (.inr (3, fs')))) : hp_G p l e R s m args below meth c D kcl A nL Q cells slots pc lv (v :: .ref a :: st) h :=
  hg_putF C t_Se (fun w h => kc (i_Se w h)) t_Se_ok n_Se ha rfl 2 (by decide) (kc kw273) rfl rfl hin2 rfl (by decide +kernel) hn hfit hlen hfs hd kk
/-- Se.base -/
theorem f_MM_194 (C : hp_C p s m args meth c cc nL "ModelMerge" (c0 :: kw_all) D kcl tys sts aos A) {a : Nat} {fs : List Value} {v : Value} (ha : h a = some (.inr (3, fs))) (hv : fs[2]? = some v) (hd : decode cc pc = .ok (.getfield 194, 3)) (kk : hp_G p l e R s m args below meth c D kcl A nL Q cells slots (pc + 3) lv (v :: st) h) : hp_G p l e R s m args below meth c D kcl A nL Q cells slots pc lv (.ref a :: st) h :=
  hg_get C (fun w h => kc (i_Se w h)) ha rfl 2 (by decide) (kc kw274) rfl hv hd kk
/-- Se.state -/
theorem f_Se_12 (C : hp_C p s m args meth c cc nL "ModelMerge$Session" (c0 :: kw_all) D kcl tys sts aos A) {a : Nat} {fs : List Value} {v : Value} (ha : h a = some (.inr (3, fs))) (hv : fs[3]? = some v) (hd : decode cc pc = .ok (.getfield 12, 3)) (kk : hp_G p l e R s m args below meth c D kcl A nL Q cells slots (pc + 3) lv (v :: st) h) : hp_G p l e R s m args below meth c D kcl A nL Q cells slots pc lv (.ref a :: st) h :=
  hg_get C (fun w h => kc (i_Se w h)) ha rfl 3 (by decide) (kc kw275) rfl hv hd kk
/-- Se.state = .. -/
theorem p_Se_12 (C : hp_C p s m args meth c cc nL "ModelMerge$Session" (c0 :: kw_all) D kcl tys sts aos A) {a : Nat} {fs fs' : List Value} {v : Value} (hin2 : meth.name = "<init>") (ha : h a = some (.inr (3, fs))) (hn : narrow (.object "ModelMerge$State") v = v) (hfit : fits (.object "ModelMerge$State") v = true) (hlen : 3 < fs.length) (hfs : fs.set 3 v = fs') (hd : decode cc pc = .ok (.putfield 12, 3)) (kk : hp_G p l e R s m args below meth c D kcl A nL Q cells slots (pc + 3) lv st (hp_up h a (.inr (3, fs')))) : hp_G p l e R s m args below meth c D kcl A nL Q cells slots pc lv (v :: .ref a :: st) h :=
  hg_putF C t_Se (fun w h => kc (i_Se w h)) t_Se_ok n_Se ha rfl 3 (by decide) (kc kw275) rfl rfl hin2 rfl (by decide +kernel) hn hfit hlen hfs hd kk
/-- Se.state -/
theorem f_MM_155 (C : hp_C p s m args meth c cc nL "ModelMerge" (c0 :: kw_all) D kcl tys sts aos A) {a : Nat} {fs : List Value} {v : Value} (ha : h a = some (.inr (3, fs))) (hv : fs[3]? = some v) (hd : decode cc pc = .ok (.getfield 155, 3)) (kk : hp_G p l e R s m args below meth c D kcl A nL Q cells slots (pc + 3) lv (v :: st) h) : hp_G p l e R s m args below meth c D kcl A nL Q cells slots pc lv (.ref a :: st) h :=
  hg_get C (fun w h => kc (i_Se w h)) ha rfl 3 (by decide) (kc kw276) rfl hv hd kk
/-- Se.standing -/
theorem f_Se_23 (C : hp_C p s m args meth c cc nL "ModelMerge$Session" (c0 :: kw_all) D kcl tys sts aos A) {a : Nat} {fs : List Value} {v : Value} (ha : h a = some (.inr (3, fs))) (hv : fs[4]? = some v) (hd : decode cc pc = .ok (.getfield 23, 3)) (kk : hp_G p l e R s m args below meth c D kcl A nL Q cells slots (pc + 3) lv (v :: st) h) : hp_G p l e R s m args below meth c D kcl A nL Q cells slots pc lv (.ref a :: st) h :=
  hg_get C (fun w h => kc (i_Se w h)) ha rfl 4 (by decide) (kc kw277) rfl hv hd kk
/-- Se.standing = .. -/
theorem p_Se_23 (C : hp_C p s m args meth c cc nL "ModelMerge$Session" (c0 :: kw_all) D kcl tys sts aos A) {a : Nat} {fs fs' : List Value} {v : Value} (ha : h a = some (.inr (3, fs))) (hn : narrow (.object "ModelMerge$Moment") v = v) (hfit : fits (.object "ModelMerge$Moment") v = true) (hlen : 4 < fs.length) (hfs : fs.set 4 v = fs') (hd : decode cc pc = .ok (.putfield 23, 3)) (kk : hp_G p l e R s m args below meth c D kcl A nL Q cells slots (pc + 3) lv st (hp_up h a (.inr (3, fs')))) : hp_G p l e R s m args below meth c D kcl A nL Q cells slots pc lv (v :: .ref a :: st) h :=
  hg_put C t_Se (fun w h => kc (i_Se w h)) t_Se_ok n_Se ha rfl 4 (by decide) (kc kw277) rfl rfl (by decide +kernel) hn hfit hlen hfs hd kk
/-- Se.standing -/
theorem f_MM_198 (C : hp_C p s m args meth c cc nL "ModelMerge" (c0 :: kw_all) D kcl tys sts aos A) {a : Nat} {fs : List Value} {v : Value} (ha : h a = some (.inr (3, fs))) (hv : fs[4]? = some v) (hd : decode cc pc = .ok (.getfield 198, 3)) (kk : hp_G p l e R s m args below meth c D kcl A nL Q cells slots (pc + 3) lv (v :: st) h) : hp_G p l e R s m args below meth c D kcl A nL Q cells slots pc lv (.ref a :: st) h :=
  hg_get C (fun w h => kc (i_Se w h)) ha rfl 4 (by decide) (kc kw278) rfl hv hd kk
/-- Se.momentCount -/
theorem f_Se_27 (C : hp_C p s m args meth c cc nL "ModelMerge$Session" (c0 :: kw_all) D kcl tys sts aos A) {a : Nat} {fs : List Value} {v : Value} (ha : h a = some (.inr (3, fs))) (hv : fs[5]? = some v) (hd : decode cc pc = .ok (.getfield 27, 3)) (kk : hp_G p l e R s m args below meth c D kcl A nL Q cells slots (pc + 3) lv (v :: st) h) : hp_G p l e R s m args below meth c D kcl A nL Q cells slots pc lv (.ref a :: st) h :=
  hg_get C (fun w h => kc (i_Se w h)) ha rfl 5 (by decide) (kc kw279) rfl hv hd kk
/-- Se.momentCount = .. -/
theorem p_Se_27 (C : hp_C p s m args meth c cc nL "ModelMerge$Session" (c0 :: kw_all) D kcl tys sts aos A) {a : Nat} {fs fs' : List Value} {v : Value} (ha : h a = some (.inr (3, fs))) (hn : narrow (.int) v = v) (hfit : fits (.int) v = true) (hlen : 5 < fs.length) (hfs : fs.set 5 v = fs') (hd : decode cc pc = .ok (.putfield 27, 3)) (kk : hp_G p l e R s m args below meth c D kcl A nL Q cells slots (pc + 3) lv st (hp_up h a (.inr (3, fs')))) : hp_G p l e R s m args below meth c D kcl A nL Q cells slots pc lv (v :: .ref a :: st) h :=
  hg_put C t_Se (fun w h => kc (i_Se w h)) t_Se_ok n_Se ha rfl 5 (by decide) (kc kw279) rfl rfl (by decide +kernel) hn hfit hlen hfs hd kk
/-- Se.momentCount -/
theorem f_MM_205 (C : hp_C p s m args meth c cc nL "ModelMerge" (c0 :: kw_all) D kcl tys sts aos A) {a : Nat} {fs : List Value} {v : Value} (ha : h a = some (.inr (3, fs))) (hv : fs[5]? = some v) (hd : decode cc pc = .ok (.getfield 205, 3)) (kk : hp_G p l e R s m args below meth c D kcl A nL Q cells slots (pc + 3) lv (v :: st) h) : hp_G p l e R s m args below meth c D kcl A nL Q cells slots pc lv (.ref a :: st) h :=
  hg_get C (fun w h => kc (i_Se w h)) ha rfl 5 (by decide) (kc kw280) rfl hv hd kk
/-- Se.phase = .. -/
theorem p_Se_31 (C : hp_C p s m args meth c cc nL "ModelMerge$Session" (c0 :: kw_all) D kcl tys sts aos A) {a : Nat} {fs fs' : List Value} {v : Value} (ha : h a = some (.inr (3, fs))) (hn : narrow (.int) v = v) (hfit : fits (.int) v = true) (hlen : 6 < fs.length) (hfs : fs.set 6 v = fs') (hd : decode cc pc = .ok (.putfield 31, 3)) (kk : hp_G p l e R s m args below meth c D kcl A nL Q cells slots (pc + 3) lv st (hp_up h a (.inr (3, fs')))) : hp_G p l e R s m args below meth c D kcl A nL Q cells slots pc lv (v :: .ref a :: st) h :=
  hg_put C t_Se (fun w h => kc (i_Se w h)) t_Se_ok n_Se ha rfl 6 (by decide) (kc kw281) rfl rfl (by decide +kernel) hn hfit hlen hfs hd kk
/-- Se.phase -/
theorem f_MM_135 (C : hp_C p s m args meth c cc nL "ModelMerge" (c0 :: kw_all) D kcl tys sts aos A) {a : Nat} {fs : List Value} {v : Value} (ha : h a = some (.inr (3, fs))) (hv : fs[6]? = some v) (hd : decode cc pc = .ok (.getfield 135, 3)) (kk : hp_G p l e R s m args below meth c D kcl A nL Q cells slots (pc + 3) lv (v :: st) h) : hp_G p l e R s m args below meth c D kcl A nL Q cells slots pc lv (.ref a :: st) h :=
  hg_get C (fun w h => kc (i_Se w h)) ha rfl 6 (by decide) (kc kw282) rfl hv hd kk
/-- Se.phase = .. -/
theorem p_MM_135 (C : hp_C p s m args meth c cc nL "ModelMerge" (c0 :: kw_all) D kcl tys sts aos A) {a : Nat} {fs fs' : List Value} {v : Value} (ha : h a = some (.inr (3, fs))) (hn : narrow (.int) v = v) (hfit : fits (.int) v = true) (hlen : 6 < fs.length) (hfs : fs.set 6 v = fs') (hd : decode cc pc = .ok (.putfield 135, 3)) (kk : hp_G p l e R s m args below meth c D kcl A nL Q cells slots (pc + 3) lv st (hp_up h a (.inr (3, fs')))) : hp_G p l e R s m args below meth c D kcl A nL Q cells slots pc lv (v :: .ref a :: st) h :=
  hg_put C t_Se (fun w h => kc (i_Se w h)) t_Se_ok n_Se ha rfl 6 (by decide) (kc kw282) rfl rfl (by decide +kernel) hn hfit hlen hfs hd kk
/-- Se.madeVersion = .. -/
theorem p_Se_34 (C : hp_C p s m args meth c cc nL "ModelMerge$Session" (c0 :: kw_all) D kcl tys sts aos A) {a : Nat} {fs fs' : List Value} {v : Value} (ha : h a = some (.inr (3, fs))) (hn : narrow (.int) v = v) (hfit : fits (.int) v = true) (hlen : 7 < fs.length) (hfs : fs.set 7 v = fs') (hd : decode cc pc = .ok (.putfield 34, 3)) (kk : hp_G p l e R s m args below meth c D kcl A nL Q cells slots (pc + 3) lv st (hp_up h a (.inr (3, fs')))) : hp_G p l e R s m args below meth c D kcl A nL Q cells slots pc lv (v :: .ref a :: st) h :=
  hg_put C t_Se (fun w h => kc (i_Se w h)) t_Se_ok n_Se ha rfl 7 (by decide) (kc kw283) rfl rfl (by decide +kernel) hn hfit hlen hfs hd kk
/-- Se.madeVersion -/
theorem f_MM_208 (C : hp_C p s m args meth c cc nL "ModelMerge" (c0 :: kw_all) D kcl tys sts aos A) {a : Nat} {fs : List Value} {v : Value} (ha : h a = some (.inr (3, fs))) (hv : fs[7]? = some v) (hd : decode cc pc = .ok (.getfield 208, 3)) (kk : hp_G p l e R s m args below meth c D kcl A nL Q cells slots (pc + 3) lv (v :: st) h) : hp_G p l e R s m args below meth c D kcl A nL Q cells slots pc lv (.ref a :: st) h :=
  hg_get C (fun w h => kc (i_Se w h)) ha rfl 7 (by decide) (kc kw284) rfl hv hd kk
/-- Se.madeVersion = .. -/
theorem p_MM_208 (C : hp_C p s m args meth c cc nL "ModelMerge" (c0 :: kw_all) D kcl tys sts aos A) {a : Nat} {fs fs' : List Value} {v : Value} (ha : h a = some (.inr (3, fs))) (hn : narrow (.int) v = v) (hfit : fits (.int) v = true) (hlen : 7 < fs.length) (hfs : fs.set 7 v = fs') (hd : decode cc pc = .ok (.putfield 208, 3)) (kk : hp_G p l e R s m args below meth c D kcl A nL Q cells slots (pc + 3) lv st (hp_up h a (.inr (3, fs')))) : hp_G p l e R s m args below meth c D kcl A nL Q cells slots pc lv (v :: .ref a :: st) h :=
  hg_put C t_Se (fun w h => kc (i_Se w h)) t_Se_ok n_Se ha rfl 7 (by decide) (kc kw284) rfl rfl (by decide +kernel) hn hfit hlen hfs hd kk
/-- Ru.kind = .. -/
theorem p_Ru_7 (C : hp_C p s m args meth c cc nL "ModelMerge$Rule" (c0 :: kw_all) D kcl tys sts aos A) {a : Nat} {fs fs' : List Value} {v : Value} (hin2 : meth.name = "<init>") (ha : h a = some (.inr (2, fs))) (hn : narrow (.int) v = v) (hfit : fits (.int) v = true) (hlen : 0 < fs.length) (hfs : fs.set 0 v = fs') (hd : decode cc pc = .ok (.putfield 7, 3)) (kk : hp_G p l e R s m args below meth c D kcl A nL Q cells slots (pc + 3) lv st (hp_up h a (.inr (2, fs')))) : hp_G p l e R s m args below meth c D kcl A nL Q cells slots pc lv (v :: .ref a :: st) h :=
  hg_putF C t_Ru (fun w h => kc (i_Ru w h)) t_Ru_ok n_Ru ha rfl 0 (by decide) (kc kw419) rfl rfl hin2 rfl (by decide +kernel) hn hfit hlen hfs hd kk
/-- Ru.kind -/
theorem f_MM_254 (C : hp_C p s m args meth c cc nL "ModelMerge" (c0 :: kw_all) D kcl tys sts aos A) {a : Nat} {fs : List Value} {v : Value} (ha : h a = some (.inr (2, fs))) (hv : fs[0]? = some v) (hd : decode cc pc = .ok (.getfield 254, 3)) (kk : hp_G p l e R s m args below meth c D kcl A nL Q cells slots (pc + 3) lv (v :: st) h) : hp_G p l e R s m args below meth c D kcl A nL Q cells slots pc lv (.ref a :: st) h :=
  hg_get C (fun w h => kc (i_Ru w h)) ha rfl 0 (by decide) (kc kw420) rfl hv hd kk
/-- Ru.field = .. -/
theorem p_Ru_13 (C : hp_C p s m args meth c cc nL "ModelMerge$Rule" (c0 :: kw_all) D kcl tys sts aos A) {a : Nat} {fs fs' : List Value} {v : Value} (hin2 : meth.name = "<init>") (ha : h a = some (.inr (2, fs))) (hn : narrow (.int) v = v) (hfit : fits (.int) v = true) (hlen : 1 < fs.length) (hfs : fs.set 1 v = fs') (hd : decode cc pc = .ok (.putfield 13, 3)) (kk : hp_G p l e R s m args below meth c D kcl A nL Q cells slots (pc + 3) lv st (hp_up h a (.inr (2, fs')))) : hp_G p l e R s m args below meth c D kcl A nL Q cells slots pc lv (v :: .ref a :: st) h :=
  hg_putF C t_Ru (fun w h => kc (i_Ru w h)) t_Ru_ok n_Ru ha rfl 1 (by decide) (kc kw421) rfl rfl hin2 rfl (by decide +kernel) hn hfit hlen hfs hd kk
/-- Ru.field -/
theorem f_MM_257 (C : hp_C p s m args meth c cc nL "ModelMerge" (c0 :: kw_all) D kcl tys sts aos A) {a : Nat} {fs : List Value} {v : Value} (ha : h a = some (.inr (2, fs))) (hv : fs[1]? = some v) (hd : decode cc pc = .ok (.getfield 257, 3)) (kk : hp_G p l e R s m args below meth c D kcl A nL Q cells slots (pc + 3) lv (v :: st) h) : hp_G p l e R s m args below meth c D kcl A nL Q cells slots pc lv (.ref a :: st) h :=
  hg_get C (fun w h => kc (i_Ru w h)) ha rfl 1 (by decide) (kc kw422) rfl hv hd kk
/-- Ru.other = .. -/
theorem p_Ru_16 (C : hp_C p s m args meth c cc nL "ModelMerge$Rule" (c0 :: kw_all) D kcl tys sts aos A) {a : Nat} {fs fs' : List Value} {v : Value} (hin2 : meth.name = "<init>") (ha : h a = some (.inr (2, fs))) (hn : narrow (.int) v = v) (hfit : fits (.int) v = true) (hlen : 2 < fs.length) (hfs : fs.set 2 v = fs') (hd : decode cc pc = .ok (.putfield 16, 3)) (kk : hp_G p l e R s m args below meth c D kcl A nL Q cells slots (pc + 3) lv st (hp_up h a (.inr (2, fs')))) : hp_G p l e R s m args below meth c D kcl A nL Q cells slots pc lv (v :: .ref a :: st) h :=
  hg_putF C t_Ru (fun w h => kc (i_Ru w h)) t_Ru_ok n_Ru ha rfl 2 (by decide) (kc kw423) rfl rfl hin2 rfl (by decide +kernel) hn hfit hlen hfs hd kk
/-- Ru.other -/
theorem f_MM_260 (C : hp_C p s m args meth c cc nL "ModelMerge" (c0 :: kw_all) D kcl tys sts aos A) {a : Nat} {fs : List Value} {v : Value} (ha : h a = some (.inr (2, fs))) (hv : fs[2]? = some v) (hd : decode cc pc = .ok (.getfield 260, 3)) (kk : hp_G p l e R s m args below meth c D kcl A nL Q cells slots (pc + 3) lv (v :: st) h) : hp_G p l e R s m args below meth c D kcl A nL Q cells slots pc lv (.ref a :: st) h :=
  hg_get C (fun w h => kc (i_Ru w h)) ha rfl 2 (by decide) (kc kw424) rfl hv hd kk
/-- Rf.code -/
theorem f_Rf_90 (C : hp_C p s m args meth c cc nL "ModelMergeModel" (c0 :: kw_all) D kcl tys sts aos A) {a : Nat} {fs : List Value} {v : Value} (ha : h a = some (.inr (7, fs))) (hv : fs[0]? = some v) (hd : decode cc pc = .ok (.getfield 90, 3)) (kk : hp_G p l e R s m args below meth c D kcl A nL Q cells slots (pc + 3) lv (v :: st) h) : hp_G p l e R s m args below meth c D kcl A nL Q cells slots pc lv (.ref a :: st) h :=
  hg_get C (fun w h => kc (i_Rf w h)) ha rfl 0 (by decide) (kc kw651) rfl hv hd kk
/-- Rf.code = .. -/
theorem p_Rf_90 (C : hp_C p s m args meth c cc nL "ModelMergeModel" (c0 :: kw_all) D kcl tys sts aos A) {a : Nat} {fs fs' : List Value} {v : Value} (ha : h a = some (.inr (7, fs))) (hn : narrow (.int) v = v) (hfit : fits (.int) v = true) (hlen : 0 < fs.length) (hfs : fs.set 0 v = fs') (hd : decode cc pc = .ok (.putfield 90, 3)) (kk : hp_G p l e R s m args below meth c D kcl A nL Q cells slots (pc + 3) lv st (hp_up h a (.inr (7, fs')))) : hp_G p l e R s m args below meth c D kcl A nL Q cells slots pc lv (v :: .ref a :: st) h :=
  hg_put C t_Rf (fun w h => kc (i_Rf w h)) t_Rf_ok n_Rf ha rfl 0 (by decide) (kc kw651) rfl rfl (by decide +kernel) hn hfit hlen hfs hd kk
/-- Rf.things -/
theorem f_Rf_116 (C : hp_C p s m args meth c cc nL "ModelMergeModel" (c0 :: kw_all) D kcl tys sts aos A) {a : Nat} {fs : List Value} {v : Value} (ha : h a = some (.inr (7, fs))) (hv : fs[1]? = some v) (hd : decode cc pc = .ok (.getfield 116, 3)) (kk : hp_G p l e R s m args below meth c D kcl A nL Q cells slots (pc + 3) lv (v :: st) h) : hp_G p l e R s m args below meth c D kcl A nL Q cells slots pc lv (.ref a :: st) h :=
  hg_get C (fun w h => kc (i_Rf w h)) ha rfl 1 (by decide) (kc kw652) rfl hv hd kk
/-- Rf.things = .. -/
theorem p_Rf_116 (C : hp_C p s m args meth c cc nL "ModelMergeModel" (c0 :: kw_all) D kcl tys sts aos A) {a : Nat} {fs fs' : List Value} {v : Value} (ha : h a = some (.inr (7, fs))) (hn : narrow (.int) v = v) (hfit : fits (.int) v = true) (hlen : 1 < fs.length) (hfs : fs.set 1 v = fs') (hd : decode cc pc = .ok (.putfield 116, 3)) (kk : hp_G p l e R s m args below meth c D kcl A nL Q cells slots (pc + 3) lv st (hp_up h a (.inr (7, fs')))) : hp_G p l e R s m args below meth c D kcl A nL Q cells slots pc lv (v :: .ref a :: st) h :=
  hg_put C t_Rf (fun w h => kc (i_Rf w h)) t_Rf_ok n_Rf ha rfl 1 (by decide) (kc kw652) rfl rfl (by decide +kernel) hn hfit hlen hfs hd kk
/-- Rf.kind -/
theorem f_Rf_7 (C : hp_C p s m args meth c cc nL "ModelMergeModel" (c0 :: kw_all) D kcl tys sts aos A) {a : Nat} {fs : List Value} {v : Value} (ha : h a = some (.inr (7, fs))) (hv : fs[2]? = some v) (hd : decode cc pc = .ok (.getfield 7, 3)) (kk : hp_G p l e R s m args below meth c D kcl A nL Q cells slots (pc + 3) lv (v :: st) h) : hp_G p l e R s m args below meth c D kcl A nL Q cells slots pc lv (.ref a :: st) h :=
  hg_get C (fun w h => kc (i_Rf w h)) ha rfl 2 (by decide) (kc kw653) rfl hv hd kk
/-- Rf.kind = .. -/
theorem p_Rf_7 (C : hp_C p s m args meth c cc nL "ModelMergeModel" (c0 :: kw_all) D kcl tys sts aos A) {a : Nat} {fs fs' : List Value} {v : Value} (hin2 : meth.name = "<init>") (ha : h a = some (.inr (7, fs))) (hn : narrow (.array .int) v = v) (hfit : fits (.array .int) v = true) (hlen : 2 < fs.length) (hfs : fs.set 2 v = fs') (hd : decode cc pc = .ok (.putfield 7, 3)) (kk : hp_G p l e R s m args below meth c D kcl A nL Q cells slots (pc + 3) lv st (hp_up h a (.inr (7, fs')))) : hp_G p l e R s m args below meth c D kcl A nL Q cells slots pc lv (v :: .ref a :: st) h :=
  hg_putF C t_Rf (fun w h => kc (i_Rf w h)) t_Rf_ok n_Rf ha rfl 2 (by decide) (kc kw653) rfl rfl hin2 rfl (by decide +kernel) hn hfit hlen hfs hd kk
/-- Rf.lock -/
theorem f_Rf_13 (C : hp_C p s m args meth c cc nL "ModelMergeModel" (c0 :: kw_all) D kcl tys sts aos A) {a : Nat} {fs : List Value} {v : Value} (ha : h a = some (.inr (7, fs))) (hv : fs[3]? = some v) (hd : decode cc pc = .ok (.getfield 13, 3)) (kk : hp_G p l e R s m args below meth c D kcl A nL Q cells slots (pc + 3) lv (v :: st) h) : hp_G p l e R s m args below meth c D kcl A nL Q cells slots pc lv (.ref a :: st) h :=
  hg_get C (fun w h => kc (i_Rf w h)) ha rfl 3 (by decide) (kc kw654) rfl hv hd kk
/-- Rf.lock = .. -/
theorem p_Rf_13 (C : hp_C p s m args meth c cc nL "ModelMergeModel" (c0 :: kw_all) D kcl tys sts aos A) {a : Nat} {fs fs' : List Value} {v : Value} (hin2 : meth.name = "<init>") (ha : h a = some (.inr (7, fs))) (hn : narrow (.array .int) v = v) (hfit : fits (.array .int) v = true) (hlen : 3 < fs.length) (hfs : fs.set 3 v = fs') (hd : decode cc pc = .ok (.putfield 13, 3)) (kk : hp_G p l e R s m args below meth c D kcl A nL Q cells slots (pc + 3) lv st (hp_up h a (.inr (7, fs')))) : hp_G p l e R s m args below meth c D kcl A nL Q cells slots pc lv (v :: .ref a :: st) h :=
  hg_putF C t_Rf (fun w h => kc (i_Rf w h)) t_Rf_ok n_Rf ha rfl 3 (by decide) (kc kw654) rfl rfl hin2 rfl (by decide +kernel) hn hfit hlen hfs hd kk
/-- Rf.versions -/
theorem f_Rf_16 (C : hp_C p s m args meth c cc nL "ModelMergeModel" (c0 :: kw_all) D kcl tys sts aos A) {a : Nat} {fs : List Value} {v : Value} (ha : h a = some (.inr (7, fs))) (hv : fs[4]? = some v) (hd : decode cc pc = .ok (.getfield 16, 3)) (kk : hp_G p l e R s m args below meth c D kcl A nL Q cells slots (pc + 3) lv (v :: st) h) : hp_G p l e R s m args below meth c D kcl A nL Q cells slots pc lv (.ref a :: st) h :=
  hg_get C (fun w h => kc (i_Rf w h)) ha rfl 4 (by decide) (kc kw655) rfl hv hd kk
/-- Rf.versions = .. -/
theorem p_Rf_16 (C : hp_C p s m args meth c cc nL "ModelMergeModel" (c0 :: kw_all) D kcl tys sts aos A) {a : Nat} {fs fs' : List Value} {v : Value} (ha : h a = some (.inr (7, fs))) (hn : narrow (.int) v = v) (hfit : fits (.int) v = true) (hlen : 4 < fs.length) (hfs : fs.set 4 v = fs') (hd : decode cc pc = .ok (.putfield 16, 3)) (kk : hp_G p l e R s m args below meth c D kcl A nL Q cells slots (pc + 3) lv st (hp_up h a (.inr (7, fs')))) : hp_G p l e R s m args below meth c D kcl A nL Q cells slots pc lv (v :: .ref a :: st) h :=
  hg_put C t_Rf (fun w h => kc (i_Rf w h)) t_Rf_ok n_Rf ha rfl 4 (by decide) (kc kw655) rfl rfl (by decide +kernel) hn hfit hlen hfs hd kk
/-- Rf.there -/
theorem f_Rf_20 (C : hp_C p s m args meth c cc nL "ModelMergeModel" (c0 :: kw_all) D kcl tys sts aos A) {a : Nat} {fs : List Value} {v : Value} (ha : h a = some (.inr (7, fs))) (hv : fs[5]? = some v) (hd : decode cc pc = .ok (.getfield 20, 3)) (kk : hp_G p l e R s m args below meth c D kcl A nL Q cells slots (pc + 3) lv (v :: st) h) : hp_G p l e R s m args below meth c D kcl A nL Q cells slots pc lv (.ref a :: st) h :=
  hg_get C (fun w h => kc (i_Rf w h)) ha rfl 5 (by decide) (kc kw656) rfl hv hd kk
/-- Rf.there = .. -/
theorem p_Rf_20 (C : hp_C p s m args meth c cc nL "ModelMergeModel" (c0 :: kw_all) D kcl tys sts aos A) {a : Nat} {fs fs' : List Value} {v : Value} (hin2 : meth.name = "<init>") (ha : h a = some (.inr (7, fs))) (hn : narrow (.array .boolean) v = v) (hfit : fits (.array .boolean) v = true) (hlen : 5 < fs.length) (hfs : fs.set 5 v = fs') (hd : decode cc pc = .ok (.putfield 20, 3)) (kk : hp_G p l e R s m args below meth c D kcl A nL Q cells slots (pc + 3) lv st (hp_up h a (.inr (7, fs')))) : hp_G p l e R s m args below meth c D kcl A nL Q cells slots pc lv (v :: .ref a :: st) h :=
  hg_putF C t_Rf (fun w h => kc (i_Rf w h)) t_Rf_ok n_Rf ha rfl 5 (by decide) (kc kw656) rfl rfl hin2 rfl (by decide +kernel) hn hfit hlen hfs hd kk
/-- Rf.field -/
theorem f_Rf_24 (C : hp_C p s m args meth c cc nL "ModelMergeModel" (c0 :: kw_all) D kcl tys sts aos A) {a : Nat} {fs : List Value} {v : Value} (ha : h a = some (.inr (7, fs))) (hv : fs[6]? = some v) (hd : decode cc pc = .ok (.getfield 24, 3)) (kk : hp_G p l e R s m args below meth c D kcl A nL Q cells slots (pc + 3) lv (v :: st) h) : hp_G p l e R s m args below meth c D kcl A nL Q cells slots pc lv (.ref a :: st) h :=
  hg_get C (fun w h => kc (i_Rf w h)) ha rfl 6 (by decide) (kc kw657) rfl hv hd kk
/-- Rf.field = .. -/
theorem p_Rf_24 (C : hp_C p s m args meth c cc nL "ModelMergeModel" (c0 :: kw_all) D kcl tys sts aos A) {a : Nat} {fs fs' : List Value} {v : Value} (hin2 : meth.name = "<init>") (ha : h a = some (.inr (7, fs))) (hn : narrow (.array .int) v = v) (hfit : fits (.array .int) v = true) (hlen : 6 < fs.length) (hfs : fs.set 6 v = fs') (hd : decode cc pc = .ok (.putfield 24, 3)) (kk : hp_G p l e R s m args below meth c D kcl A nL Q cells slots (pc + 3) lv st (hp_up h a (.inr (7, fs')))) : hp_G p l e R s m args below meth c D kcl A nL Q cells slots pc lv (v :: .ref a :: st) h :=
  hg_putF C t_Rf (fun w h => kc (i_Rf w h)) t_Rf_ok n_Rf ha rfl 6 (by decide) (kc kw657) rfl rfl hin2 rfl (by decide +kernel) hn hfit hlen hfs hd kk
/-- Rf.since -/
theorem f_Rf_27 (C : hp_C p s m args meth c cc nL "ModelMergeModel" (c0 :: kw_all) D kcl tys sts aos A) {a : Nat} {fs : List Value} {v : Value} (ha : h a = some (.inr (7, fs))) (hv : fs[7]? = some v) (hd : decode cc pc = .ok (.getfield 27, 3)) (kk : hp_G p l e R s m args below meth c D kcl A nL Q cells slots (pc + 3) lv (v :: st) h) : hp_G p l e R s m args below meth c D kcl A nL Q cells slots pc lv (.ref a :: st) h :=
  hg_get C (fun w h => kc (i_Rf w h)) ha rfl 7 (by decide) (kc kw658) rfl hv hd kk
/-- Rf.since = .. -/
theorem p_Rf_27 (C : hp_C p s m args meth c cc nL "ModelMergeModel" (c0 :: kw_all) D kcl tys sts aos A) {a : Nat} {fs fs' : List Value} {v : Value} (hin2 : meth.name = "<init>") (ha : h a = some (.inr (7, fs))) (hn : narrow (.array .int) v = v) (hfit : fits (.array .int) v = true) (hlen : 7 < fs.length) (hfs : fs.set 7 v = fs') (hd : decode cc pc = .ok (.putfield 27, 3)) (kk : hp_G p l e R s m args below meth c D kcl A nL Q cells slots (pc + 3) lv st (hp_up h a (.inr (7, fs')))) : hp_G p l e R s m args below meth c D kcl A nL Q cells slots pc lv (v :: .ref a :: st) h :=
  hg_putF C t_Rf (fun w h => kc (i_Rf w h)) t_Rf_ok n_Rf ha rfl 7 (by decide) (kc kw658) rfl rfl hin2 rfl (by decide +kernel) hn hfit hlen hfs hd kk
/-- Rf.author -/
theorem f_Rf_30 (C : hp_C p s m args meth c cc nL "ModelMergeModel" (c0 :: kw_all) D kcl tys sts aos A) {a : Nat} {fs : List Value} {v : Value} (ha : h a = some (.inr (7, fs))) (hv : fs[8]? = some v) (hd : decode cc pc = .ok (.getfield 30, 3)) (kk : hp_G p l e R s m args below meth c D kcl A nL Q cells slots (pc + 3) lv (v :: st) h) : hp_G p l e R s m args below meth c D kcl A nL Q cells slots pc lv (.ref a :: st) h :=
  hg_get C (fun w h => kc (i_Rf w h)) ha rfl 8 (by decide) (kc kw659) rfl hv hd kk
/-- Rf.author = .. -/
theorem p_Rf_30 (C : hp_C p s m args meth c cc nL "ModelMergeModel" (c0 :: kw_all) D kcl tys sts aos A) {a : Nat} {fs fs' : List Value} {v : Value} (hin2 : meth.name = "<init>") (ha : h a = some (.inr (7, fs))) (hn : narrow (.array .int) v = v) (hfit : fits (.array .int) v = true) (hlen : 8 < fs.length) (hfs : fs.set 8 v = fs') (hd : decode cc pc = .ok (.putfield 30, 3)) (kk : hp_G p l e R s m args below meth c D kcl A nL Q cells slots (pc + 3) lv st (hp_up h a (.inr (7, fs')))) : hp_G p l e R s m args below meth c D kcl A nL Q cells slots pc lv (v :: .ref a :: st) h :=
  hg_putF C t_Rf (fun w h => kc (i_Rf w h)) t_Rf_ok n_Rf ha rfl 8 (by decide) (kc kw659) rfl rfl hin2 rfl (by decide +kernel) hn hfit hlen hfs hd kk
/-- Rf.sessions -/
theorem f_Rf_105 (C : hp_C p s m args meth c cc nL "ModelMergeModel" (c0 :: kw_all) D kcl tys sts aos A) {a : Nat} {fs : List Value} {v : Value} (ha : h a = some (.inr (7, fs))) (hv : fs[9]? = some v) (hd : decode cc pc = .ok (.getfield 105, 3)) (kk : hp_G p l e R s m args below meth c D kcl A nL Q cells slots (pc + 3) lv (v :: st) h) : hp_G p l e R s m args below meth c D kcl A nL Q cells slots pc lv (.ref a :: st) h :=
  hg_get C (fun w h => kc (i_Rf w h)) ha rfl 9 (by decide) (kc kw660) rfl hv hd kk
/-- Rf.sessions = .. -/
theorem p_Rf_105 (C : hp_C p s m args meth c cc nL "ModelMergeModel" (c0 :: kw_all) D kcl tys sts aos A) {a : Nat} {fs fs' : List Value} {v : Value} (ha : h a = some (.inr (7, fs))) (hn : narrow (.int) v = v) (hfit : fits (.int) v = true) (hlen : 9 < fs.length) (hfs : fs.set 9 v = fs') (hd : decode cc pc = .ok (.putfield 105, 3)) (kk : hp_G p l e R s m args below meth c D kcl A nL Q cells slots (pc + 3) lv st (hp_up h a (.inr (7, fs')))) : hp_G p l e R s m args below meth c D kcl A nL Q cells slots pc lv (v :: .ref a :: st) h :=
  hg_put C t_Rf (fun w h => kc (i_Rf w h)) t_Rf_ok n_Rf ha rfl 9 (by decide) (kc kw660) rfl rfl (by decide +kernel) hn hfit hlen hfs hd kk
/-- Rf.person -/
theorem f_Rf_33 (C : hp_C p s m args meth c cc nL "ModelMergeModel" (c0 :: kw_all) D kcl tys sts aos A) {a : Nat} {fs : List Value} {v : Value} (ha : h a = some (.inr (7, fs))) (hv : fs[10]? = some v) (hd : decode cc pc = .ok (.getfield 33, 3)) (kk : hp_G p l e R s m args below meth c D kcl A nL Q cells slots (pc + 3) lv (v :: st) h) : hp_G p l e R s m args below meth c D kcl A nL Q cells slots pc lv (.ref a :: st) h :=
  hg_get C (fun w h => kc (i_Rf w h)) ha rfl 10 (by decide) (kc kw661) rfl hv hd kk
/-- Rf.person = .. -/
theorem p_Rf_33 (C : hp_C p s m args meth c cc nL "ModelMergeModel" (c0 :: kw_all) D kcl tys sts aos A) {a : Nat} {fs fs' : List Value} {v : Value} (hin2 : meth.name = "<init>") (ha : h a = some (.inr (7, fs))) (hn : narrow (.array .int) v = v) (hfit : fits (.array .int) v = true) (hlen : 10 < fs.length) (hfs : fs.set 10 v = fs') (hd : decode cc pc = .ok (.putfield 33, 3)) (kk : hp_G p l e R s m args below meth c D kcl A nL Q cells slots (pc + 3) lv st (hp_up h a (.inr (7, fs')))) : hp_G p l e R s m args below meth c D kcl A nL Q cells slots pc lv (v :: .ref a :: st) h :=
  hg_putF C t_Rf (fun w h => kc (i_Rf w h)) t_Rf_ok n_Rf ha rfl 10 (by decide) (kc kw661) rfl rfl hin2 rfl (by decide +kernel) hn hfit hlen hfs hd kk
/-- Rf.base -/
theorem f_Rf_36 (C : hp_C p s m args meth c cc nL "ModelMergeModel" (c0 :: kw_all) D kcl tys sts aos A) {a : Nat} {fs : List Value} {v : Value} (ha : h a = some (.inr (7, fs))) (hv : fs[11]? = some v) (hd : decode cc pc = .ok (.getfield 36, 3)) (kk : hp_G p l e R s m args below meth c D kcl A nL Q cells slots (pc + 3) lv (v :: st) h) : hp_G p l e R s m args below meth c D kcl A nL Q cells slots pc lv (.ref a :: st) h :=
  hg_get C (fun w h => kc (i_Rf w h)) ha rfl 11 (by decide) (kc kw662) rfl hv hd kk
/-- Rf.base = .. -/
theorem p_Rf_36 (C : hp_C p s m args meth c cc nL "ModelMergeModel" (c0 :: kw_all) D kcl tys sts aos A) {a : Nat} {fs fs' : List Value} {v : Value} (hin2 : meth.name = "<init>") (ha : h a = some (.inr (7, fs))) (hn : narrow (.array .int) v = v) (hfit : fits (.array .int) v = true) (hlen : 11 < fs.length) (hfs : fs.set 11 v = fs') (hd : decode cc pc = .ok (.putfield 36, 3)) (kk : hp_G p l e R s m args below meth c D kcl A nL Q cells slots (pc + 3) lv st (hp_up h a (.inr (7, fs')))) : hp_G p l e R s m args below meth c D kcl A nL Q cells slots pc lv (v :: .ref a :: st) h :=
  hg_putF C t_Rf (fun w h => kc (i_Rf w h)) t_Rf_ok n_Rf ha rfl 11 (by decide) (kc kw662) rfl rfl hin2 rfl (by decide +kernel) hn hfit hlen hfs hd kk
/-- Rf.stands -/
theorem f_Rf_39 (C : hp_C p s m args meth c cc nL "ModelMergeModel" (c0 :: kw_all) D kcl tys sts aos A) {a : Nat} {fs : List Value} {v : Value} (ha : h a = some (.inr (7, fs))) (hv : fs[12]? = some v) (hd : decode cc pc = .ok (.getfield 39, 3)) (kk : hp_G p l e R s m args below meth c D kcl A nL Q cells slots (pc + 3) lv (v :: st) h) : hp_G p l e R s m args below meth c D kcl A nL Q cells slots pc lv (.ref a :: st) h :=
  hg_get C (fun w h => kc (i_Rf w h)) ha rfl 12 (by decide) (kc kw663) rfl hv hd kk
/-- Rf.stands = .. -/
theorem p_Rf_39 (C : hp_C p s m args meth c cc nL "ModelMergeModel" (c0 :: kw_all) D kcl tys sts aos A) {a : Nat} {fs fs' : List Value} {v : Value} (hin2 : meth.name = "<init>") (ha : h a = some (.inr (7, fs))) (hn : narrow (.array .int) v = v) (hfit : fits (.array .int) v = true) (hlen : 12 < fs.length) (hfs : fs.set 12 v = fs') (hd : decode cc pc = .ok (.putfield 39, 3)) (kk : hp_G p l e R s m args below meth c D kcl A nL Q cells slots (pc + 3) lv st (hp_up h a (.inr (7, fs')))) : hp_G p l e R s m args below meth c D kcl A nL Q cells slots pc lv (v :: .ref a :: st) h :=
  hg_putF C t_Rf (fun w h => kc (i_Rf w h)) t_Rf_ok n_Rf ha rfl 12 (by decide) (kc kw663) rfl rfl hin2 rfl (by decide +kernel) hn hfit hlen hfs hd kk
/-- Rf.moments -/
theorem f_Rf_42 (C : hp_C p s m args meth c cc nL "ModelMergeModel" (c0 :: kw_all) D kcl tys sts aos A) {a : Nat} {fs : List Value} {v : Value} (ha : h a = some (.inr (7, fs))) (hv : fs[13]? = some v) (hd : decode cc pc = .ok (.getfield 42, 3)) (kk : hp_G p l e R s m args below meth c D kcl A nL Q cells slots (pc + 3) lv (v :: st) h) : hp_G p l e R s m args below meth c D kcl A nL Q cells slots pc lv (.ref a :: st) h :=
  hg_get C (fun w h => kc (i_Rf w h)) ha rfl 13 (by decide) (kc kw664) rfl hv hd kk
/-- Rf.moments = .. -/
theorem p_Rf_42 (C : hp_C p s m args meth c cc nL "ModelMergeModel" (c0 :: kw_all) D kcl tys sts aos A) {a : Nat} {fs fs' : List Value} {v : Value} (hin2 : meth.name = "<init>") (ha : h a = some (.inr (7, fs))) (hn : narrow (.array .int) v = v) (hfit : fits (.array .int) v = true) (hlen : 13 < fs.length) (hfs : fs.set 13 v = fs') (hd : decode cc pc = .ok (.putfield 42, 3)) (kk : hp_G p l e R s m args below meth c D kcl A nL Q cells slots (pc + 3) lv st (hp_up h a (.inr (7, fs')))) : hp_G p l e R s m args below meth c D kcl A nL Q cells slots pc lv (v :: .ref a :: st) h :=
  hg_putF C t_Rf (fun w h => kc (i_Rf w h)) t_Rf_ok n_Rf ha rfl 13 (by decide) (kc kw664) rfl rfl hin2 rfl (by decide +kernel) hn hfit hlen hfs hd kk
/-- Rf.life -/
theorem f_Rf_45 (C : hp_C p s m args meth c cc nL "ModelMergeModel" (c0 :: kw_all) D kcl tys sts aos A) {a : Nat} {fs : List Value} {v : Value} (ha : h a = some (.inr (7, fs))) (hv : fs[14]? = some v) (hd : decode cc pc = .ok (.getfield 45, 3)) (kk : hp_G p l e R s m args below meth c D kcl A nL Q cells slots (pc + 3) lv (v :: st) h) : hp_G p l e R s m args below meth c D kcl A nL Q cells slots pc lv (.ref a :: st) h :=
  hg_get C (fun w h => kc (i_Rf w h)) ha rfl 14 (by decide) (kc kw665) rfl hv hd kk
/-- Rf.life = .. -/
theorem p_Rf_45 (C : hp_C p s m args meth c cc nL "ModelMergeModel" (c0 :: kw_all) D kcl tys sts aos A) {a : Nat} {fs fs' : List Value} {v : Value} (hin2 : meth.name = "<init>") (ha : h a = some (.inr (7, fs))) (hn : narrow (.array .int) v = v) (hfit : fits (.array .int) v = true) (hlen : 14 < fs.length) (hfs : fs.set 14 v = fs') (hd : decode cc pc = .ok (.putfield 45, 3)) (kk : hp_G p l e R s m args below meth c D kcl A nL Q cells slots (pc + 3) lv st (hp_up h a (.inr (7, fs')))) : hp_G p l e R s m args below meth c D kcl A nL Q cells slots pc lv (v :: .ref a :: st) h :=
  hg_putF C t_Rf (fun w h => kc (i_Rf w h)) t_Rf_ok n_Rf ha rfl 14 (by decide) (kc kw665) rfl rfl hin2 rfl (by decide +kernel) hn hfit hlen hfs hd kk
/-- Rf.made -/
theorem f_Rf_48 (C : hp_C p s m args meth c cc nL "ModelMergeModel" (c0 :: kw_all) D kcl tys sts aos A) {a : Nat} {fs : List Value} {v : Value} (ha : h a = some (.inr (7, fs))) (hv : fs[15]? = some v) (hd : decode cc pc = .ok (.getfield 48, 3)) (kk : hp_G p l e R s m args below meth c D kcl A nL Q cells slots (pc + 3) lv (v :: st) h) : hp_G p l e R s m args below meth c D kcl A nL Q cells slots pc lv (.ref a :: st) h :=
  hg_get C (fun w h => kc (i_Rf w h)) ha rfl 15 (by decide) (kc kw666) rfl hv hd kk
/-- Rf.made = .. -/
theorem p_Rf_48 (C : hp_C p s m args meth c cc nL "ModelMergeModel" (c0 :: kw_all) D kcl tys sts aos A) {a : Nat} {fs fs' : List Value} {v : Value} (hin2 : meth.name = "<init>") (ha : h a = some (.inr (7, fs))) (hn : narrow (.array .int) v = v) (hfit : fits (.array .int) v = true) (hlen : 15 < fs.length) (hfs : fs.set 15 v = fs') (hd : decode cc pc = .ok (.putfield 48, 3)) (kk : hp_G p l e R s m args below meth c D kcl A nL Q cells slots (pc + 3) lv st (hp_up h a (.inr (7, fs')))) : hp_G p l e R s m args below meth c D kcl A nL Q cells slots pc lv (v :: .ref a :: st) h :=
  hg_putF C t_Rf (fun w h => kc (i_Rf w h)) t_Rf_ok n_Rf ha rfl 15 (by decide) (kc kw666) rfl rfl hin2 rfl (by decide +kernel) hn hfit hlen hfs hd kk
/-- Rf.before -/
theorem f_Rf_51 (C : hp_C p s m args meth c cc nL "ModelMergeModel" (c0 :: kw_all) D kcl tys sts aos A) {a : Nat} {fs : List Value} {v : Value} (ha : h a = some (.inr (7, fs))) (hv : fs[16]? = some v) (hd : decode cc pc = .ok (.getfield 51, 3)) (kk : hp_G p l e R s m args below meth c D kcl A nL Q cells slots (pc + 3) lv (v :: st) h) : hp_G p l e R s m args below meth c D kcl A nL Q cells slots pc lv (.ref a :: st) h :=
  hg_get C (fun w h => kc (i_Rf w h)) ha rfl 16 (by decide) (kc kw667) rfl hv hd kk
/-- Rf.before = .. -/
theorem p_Rf_51 (C : hp_C p s m args meth c cc nL "ModelMergeModel" (c0 :: kw_all) D kcl tys sts aos A) {a : Nat} {fs fs' : List Value} {v : Value} (hin2 : meth.name = "<init>") (ha : h a = some (.inr (7, fs))) (hn : narrow (.array .int) v = v) (hfit : fits (.array .int) v = true) (hlen : 16 < fs.length) (hfs : fs.set 16 v = fs') (hd : decode cc pc = .ok (.putfield 51, 3)) (kk : hp_G p l e R s m args below meth c D kcl A nL Q cells slots (pc + 3) lv st (hp_up h a (.inr (7, fs')))) : hp_G p l e R s m args below meth c D kcl A nL Q cells slots pc lv (v :: .ref a :: st) h :=
  hg_putF C t_Rf (fun w h => kc (i_Rf w h)) t_Rf_ok n_Rf ha rfl 16 (by decide) (kc kw667) rfl rfl hin2 rfl (by decide +kernel) hn hfit hlen hfs hd kk
/-- Rf.latest -/
theorem f_Rf_54 (C : hp_C p s m args meth c cc nL "ModelMergeModel" (c0 :: kw_all) D kcl tys sts aos A) {a : Nat} {fs : List Value} {v : Value} (ha : h a = some (.inr (7, fs))) (hv : fs[17]? = some v) (hd : decode cc pc = .ok (.getfield 54, 3)) (kk : hp_G p l e R s m args below meth c D kcl A nL Q cells slots (pc + 3) lv (v :: st) h) : hp_G p l e R s m args below meth c D kcl A nL Q cells slots pc lv (.ref a :: st) h :=
  hg_get C (fun w h => kc (i_Rf w h)) ha rfl 17 (by decide) (kc kw668) rfl hv hd kk
/-- Rf.latest = .. -/
theorem p_Rf_54 (C : hp_C p s m args meth c cc nL "ModelMergeModel" (c0 :: kw_all) D kcl tys sts aos A) {a : Nat} {fs fs' : List Value} {v : Value} (hin2 : meth.name = "<init>") (ha : h a = some (.inr (7, fs))) (hn : narrow (.array .int) v = v) (hfit : fits (.array .int) v = true) (hlen : 17 < fs.length) (hfs : fs.set 17 v = fs') (hd : decode cc pc = .ok (.putfield 54, 3)) (kk : hp_G p l e R s m args below meth c D kcl A nL Q cells slots (pc + 3) lv st (hp_up h a (.inr (7, fs')))) : hp_G p l e R s m args below meth c D kcl A nL Q cells slots pc lv (v :: .ref a :: st) h :=
  hg_putF C t_Rf (fun w h => kc (i_Rf w h)) t_Rf_ok n_Rf ha rfl 17 (by decide) (kc kw668) rfl rfl hin2 rfl (by decide +kernel) hn hfit hlen hfs hd kk
/-- Rf.how -/
theorem f_Rf_57 (C : hp_C p s m args meth c cc nL "ModelMergeModel" (c0 :: kw_all) D kcl tys sts aos A) {a : Nat} {fs : List Value} {v : Value} (ha : h a = some (.inr (7, fs))) (hv : fs[18]? = some v) (hd : decode cc pc = .ok (.getfield 57, 3)) (kk : hp_G p l e R s m args below meth c D kcl A nL Q cells slots (pc + 3) lv (v :: st) h) : hp_G p l e R s m args below meth c D kcl A nL Q cells slots pc lv (.ref a :: st) h :=
  hg_get C (fun w h => kc (i_Rf w h)) ha rfl 18 (by decide) (kc kw669) rfl hv hd kk
/-- Rf.how = .. -/
theorem p_Rf_57 (C : hp_C p s m args meth c cc nL "ModelMergeModel" (c0 :: kw_all) D kcl tys sts aos A) {a : Nat} {fs fs' : List Value} {v : Value} (hin2 : meth.name = "<init>") (ha : h a = some (.inr (7, fs))) (hn : narrow (.array .int) v = v) (hfit : fits (.array .int) v = true) (hlen : 18 < fs.length) (hfs : fs.set 18 v = fs') (hd : decode cc pc = .ok (.putfield 57, 3)) (kk : hp_G p l e R s m args below meth c D kcl A nL Q cells slots (pc + 3) lv st (hp_up h a (.inr (7, fs')))) : hp_G p l e R s m args below meth c D kcl A nL Q cells slots pc lv (v :: .ref a :: st) h :=
  hg_putF C t_Rf (fun w h => kc (i_Rf w h)) t_Rf_ok n_Rf ha rfl 18 (by decide) (kc kw669) rfl rfl hin2 rfl (by decide +kernel) hn hfit hlen hfs hd kk
/-- Rf.thing -/
theorem f_Rf_60 (C : hp_C p s m args meth c cc nL "ModelMergeModel" (c0 :: kw_all) D kcl tys sts aos A) {a : Nat} {fs : List Value} {v : Value} (ha : h a = some (.inr (7, fs))) (hv : fs[19]? = some v) (hd : decode cc pc = .ok (.getfield 60, 3)) (kk : hp_G p l e R s m args below meth c D kcl A nL Q cells slots (pc + 3) lv (v :: st) h) : hp_G p l e R s m args below meth c D kcl A nL Q cells slots pc lv (.ref a :: st) h :=
  hg_get C (fun w h => kc (i_Rf w h)) ha rfl 19 (by decide) (kc kw670) rfl hv hd kk
/-- Rf.thing = .. -/
theorem p_Rf_60 (C : hp_C p s m args meth c cc nL "ModelMergeModel" (c0 :: kw_all) D kcl tys sts aos A) {a : Nat} {fs fs' : List Value} {v : Value} (hin2 : meth.name = "<init>") (ha : h a = some (.inr (7, fs))) (hn : narrow (.array .int) v = v) (hfit : fits (.array .int) v = true) (hlen : 19 < fs.length) (hfs : fs.set 19 v = fs') (hd : decode cc pc = .ok (.putfield 60, 3)) (kk : hp_G p l e R s m args below meth c D kcl A nL Q cells slots (pc + 3) lv st (hp_up h a (.inr (7, fs')))) : hp_G p l e R s m args below meth c D kcl A nL Q cells slots pc lv (v :: .ref a :: st) h :=
  hg_putF C t_Rf (fun w h => kc (i_Rf w h)) t_Rf_ok n_Rf ha rfl 19 (by decide) (kc kw670) rfl rfl hin2 rfl (by decide +kernel) hn hfit hlen hfs hd kk
/-- Rf.which -/
theorem f_Rf_63 (C : hp_C p s m args meth c cc nL "ModelMergeModel" (c0 :: kw_all) D kcl tys sts aos A) {a : Nat} {fs : List Value} {v : Value} (ha : h a = some (.inr (7, fs))) (hv : fs[20]? = some v) (hd : decode cc pc = .ok (.getfield 63, 3)) (kk : hp_G p l e R s m args below meth c D kcl A nL Q cells slots (pc + 3) lv (v :: st) h) : hp_G p l e R s m args below meth c D kcl A nL Q cells slots pc lv (.ref a :: st) h :=
  hg_get C (fun w h => kc (i_Rf w h)) ha rfl 20 (by decide) (kc kw671) rfl hv hd kk
/-- Rf.which = .. -/
theorem p_Rf_63 (C : hp_C p s m args meth c cc nL "ModelMergeModel" (c0 :: kw_all) D kcl tys sts aos A) {a : Nat} {fs fs' : List Value} {v : Value} (hin2 : meth.name = "<init>") (ha : h a = some (.inr (7, fs))) (hn : narrow (.array .int) v = v) (hfit : fits (.array .int) v = true) (hlen : 20 < fs.length) (hfs : fs.set 20 v = fs') (hd : decode cc pc = .ok (.putfield 63, 3)) (kk : hp_G p l e R s m args below meth c D kcl A nL Q cells slots (pc + 3) lv st (hp_up h a (.inr (7, fs')))) : hp_G p l e R s m args below meth c D kcl A nL Q cells slots pc lv (v :: .ref a :: st) h :=
  hg_putF C t_Rf (fun w h => kc (i_Rf w h)) t_Rf_ok n_Rf ha rfl 20 (by decide) (kc kw671) rfl rfl hin2 rfl (by decide +kernel) hn hfit hlen hfs hd kk
/-- Rf.value -/
theorem f_Rf_66 (C : hp_C p s m args meth c cc nL "ModelMergeModel" (c0 :: kw_all) D kcl tys sts aos A) {a : Nat} {fs : List Value} {v : Value} (ha : h a = some (.inr (7, fs))) (hv : fs[21]? = some v) (hd : decode cc pc = .ok (.getfield 66, 3)) (kk : hp_G p l e R s m args below meth c D kcl A nL Q cells slots (pc + 3) lv (v :: st) h) : hp_G p l e R s m args below meth c D kcl A nL Q cells slots pc lv (.ref a :: st) h :=
  hg_get C (fun w h => kc (i_Rf w h)) ha rfl 21 (by decide) (kc kw672) rfl hv hd kk
/-- Rf.value = .. -/
theorem p_Rf_66 (C : hp_C p s m args meth c cc nL "ModelMergeModel" (c0 :: kw_all) D kcl tys sts aos A) {a : Nat} {fs fs' : List Value} {v : Value} (hin2 : meth.name = "<init>") (ha : h a = some (.inr (7, fs))) (hn : narrow (.array .int) v = v) (hfit : fits (.array .int) v = true) (hlen : 21 < fs.length) (hfs : fs.set 21 v = fs') (hd : decode cc pc = .ok (.putfield 66, 3)) (kk : hp_G p l e R s m args below meth c D kcl A nL Q cells slots (pc + 3) lv st (hp_up h a (.inr (7, fs')))) : hp_G p l e R s m args below meth c D kcl A nL Q cells slots pc lv (v :: .ref a :: st) h :=
  hg_putF C t_Rf (fun w h => kc (i_Rf w h)) t_Rf_ok n_Rf ha rfl 21 (by decide) (kc kw672) rfl rfl hin2 rfl (by decide +kernel) hn hfit hlen hfs hd kk
/-- Rf.rules -/
theorem f_Rf_130 (C : hp_C p s m args meth c cc nL "ModelMergeModel" (c0 :: kw_all) D kcl tys sts aos A) {a : Nat} {fs : List Value} {v : Value} (ha : h a = some (.inr (7, fs))) (hv : fs[22]? = some v) (hd : decode cc pc = .ok (.getfield 130, 3)) (kk : hp_G p l e R s m args below meth c D kcl A nL Q cells slots (pc + 3) lv (v :: st) h) : hp_G p l e R s m args below meth c D kcl A nL Q cells slots pc lv (.ref a :: st) h :=
  hg_get C (fun w h => kc (i_Rf w h)) ha rfl 22 (by decide) (kc kw673) rfl hv hd kk
/-- Rf.rules = .. -/
theorem p_Rf_130 (C : hp_C p s m args meth c cc nL "ModelMergeModel" (c0 :: kw_all) D kcl tys sts aos A) {a : Nat} {fs fs' : List Value} {v : Value} (ha : h a = some (.inr (7, fs))) (hn : narrow (.int) v = v) (hfit : fits (.int) v = true) (hlen : 22 < fs.length) (hfs : fs.set 22 v = fs') (hd : decode cc pc = .ok (.putfield 130, 3)) (kk : hp_G p l e R s m args below meth c D kcl A nL Q cells slots (pc + 3) lv st (hp_up h a (.inr (7, fs')))) : hp_G p l e R s m args below meth c D kcl A nL Q cells slots pc lv (v :: .ref a :: st) h :=
  hg_put C t_Rf (fun w h => kc (i_Rf w h)) t_Rf_ok n_Rf ha rfl 22 (by decide) (kc kw673) rfl rfl (by decide +kernel) hn hfit hlen hfs hd kk
/-- Rf.ruleKind -/
theorem f_Rf_69 (C : hp_C p s m args meth c cc nL "ModelMergeModel" (c0 :: kw_all) D kcl tys sts aos A) {a : Nat} {fs : List Value} {v : Value} (ha : h a = some (.inr (7, fs))) (hv : fs[23]? = some v) (hd : decode cc pc = .ok (.getfield 69, 3)) (kk : hp_G p l e R s m args below meth c D kcl A nL Q cells slots (pc + 3) lv (v :: st) h) : hp_G p l e R s m args below meth c D kcl A nL Q cells slots pc lv (.ref a :: st) h :=
  hg_get C (fun w h => kc (i_Rf w h)) ha rfl 23 (by decide) (kc kw674) rfl hv hd kk
/-- Rf.ruleKind = .. -/
theorem p_Rf_69 (C : hp_C p s m args meth c cc nL "ModelMergeModel" (c0 :: kw_all) D kcl tys sts aos A) {a : Nat} {fs fs' : List Value} {v : Value} (hin2 : meth.name = "<init>") (ha : h a = some (.inr (7, fs))) (hn : narrow (.array .int) v = v) (hfit : fits (.array .int) v = true) (hlen : 23 < fs.length) (hfs : fs.set 23 v = fs') (hd : decode cc pc = .ok (.putfield 69, 3)) (kk : hp_G p l e R s m args below meth c D kcl A nL Q cells slots (pc + 3) lv st (hp_up h a (.inr (7, fs')))) : hp_G p l e R s m args below meth c D kcl A nL Q cells slots pc lv (v :: .ref a :: st) h :=
  hg_putF C t_Rf (fun w h => kc (i_Rf w h)) t_Rf_ok n_Rf ha rfl 23 (by decide) (kc kw674) rfl rfl hin2 rfl (by decide +kernel) hn hfit hlen hfs hd kk
/-- Rf.ruleField -/
theorem f_Rf_72 (C : hp_C p s m args meth c cc nL "ModelMergeModel" (c0 :: kw_all) D kcl tys sts aos A) {a : Nat} {fs : List Value} {v : Value} (ha : h a = some (.inr (7, fs))) (hv : fs[24]? = some v) (hd : decode cc pc = .ok (.getfield 72, 3)) (kk : hp_G p l e R s m args below meth c D kcl A nL Q cells slots (pc + 3) lv (v :: st) h) : hp_G p l e R s m args below meth c D kcl A nL Q cells slots pc lv (.ref a :: st) h :=
  hg_get C (fun w h => kc (i_Rf w h)) ha rfl 24 (by decide) (kc kw675) rfl hv hd kk
/-- Rf.ruleField = .. -/
theorem p_Rf_72 (C : hp_C p s m args meth c cc nL "ModelMergeModel" (c0 :: kw_all) D kcl tys sts aos A) {a : Nat} {fs fs' : List Value} {v : Value} (hin2 : meth.name = "<init>") (ha : h a = some (.inr (7, fs))) (hn : narrow (.array .int) v = v) (hfit : fits (.array .int) v = true) (hlen : 24 < fs.length) (hfs : fs.set 24 v = fs') (hd : decode cc pc = .ok (.putfield 72, 3)) (kk : hp_G p l e R s m args below meth c D kcl A nL Q cells slots (pc + 3) lv st (hp_up h a (.inr (7, fs')))) : hp_G p l e R s m args below meth c D kcl A nL Q cells slots pc lv (v :: .ref a :: st) h :=
  hg_putF C t_Rf (fun w h => kc (i_Rf w h)) t_Rf_ok n_Rf ha rfl 24 (by decide) (kc kw675) rfl rfl hin2 rfl (by decide +kernel) hn hfit hlen hfs hd kk
/-- Rf.ruleOther -/
theorem f_Rf_75 (C : hp_C p s m args meth c cc nL "ModelMergeModel" (c0 :: kw_all) D kcl tys sts aos A) {a : Nat} {fs : List Value} {v : Value} (ha : h a = some (.inr (7, fs))) (hv : fs[25]? = some v) (hd : decode cc pc = .ok (.getfield 75, 3)) (kk : hp_G p l e R s m args below meth c D kcl A nL Q cells slots (pc + 3) lv (v :: st) h) : hp_G p l e R s m args below meth c D kcl A nL Q cells slots pc lv (.ref a :: st) h :=
  hg_get C (fun w h => kc (i_Rf w h)) ha rfl 25 (by decide) (kc kw676) rfl hv hd kk
/-- Rf.ruleOther = .. -/
theorem p_Rf_75 (C : hp_C p s m args meth c cc nL "ModelMergeModel" (c0 :: kw_all) D kcl tys sts aos A) {a : Nat} {fs fs' : List Value} {v : Value} (hin2 : meth.name = "<init>") (ha : h a = some (.inr (7, fs))) (hn : narrow (.array .int) v = v) (hfit : fits (.array .int) v = true) (hlen : 25 < fs.length) (hfs : fs.set 25 v = fs') (hd : decode cc pc = .ok (.putfield 75, 3)) (kk : hp_G p l e R s m args below meth c D kcl A nL Q cells slots (pc + 3) lv st (hp_up h a (.inr (7, fs')))) : hp_G p l e R s m args below meth c D kcl A nL Q cells slots pc lv (v :: .ref a :: st) h :=
  hg_putF C t_Rf (fun w h => kc (i_Rf w h)) t_Rf_ok n_Rf ha rfl 25 (by decide) (kc kw676) rfl rfl hin2 rfl (by decide +kernel) hn hfit hlen hfs hd kk
/-- Rf.pending -/
theorem f_Rf_78 (C : hp_C p s m args meth c cc nL "ModelMergeModel" (c0 :: kw_all) D kcl tys sts aos A) {a : Nat} {fs : List Value} {v : Value} (ha : h a = some (.inr (7, fs))) (hv : fs[26]? = some v) (hd : decode cc pc = .ok (.getfield 78, 3)) (kk : hp_G p l e R s m args below meth c D kcl A nL Q cells slots (pc + 3) lv (v :: st) h) : hp_G p l e R s m args below meth c D kcl A nL Q cells slots pc lv (.ref a :: st) h :=
  hg_get C (fun w h => kc (i_Rf w h)) ha rfl 26 (by decide) (kc kw677) rfl hv hd kk
/-- Rf.pending = .. -/
theorem p_Rf_78 (C : hp_C p s m args meth c cc nL "ModelMergeModel" (c0 :: kw_all) D kcl tys sts aos A) {a : Nat} {fs fs' : List Value} {v : Value} (ha : h a = some (.inr (7, fs))) (hn : narrow (.int) v = v) (hfit : fits (.int) v = true) (hlen : 26 < fs.length) (hfs : fs.set 26 v = fs') (hd : decode cc pc = .ok (.putfield 78, 3)) (kk : hp_G p l e R s m args below meth c D kcl A nL Q cells slots (pc + 3) lv st (hp_up h a (.inr (7, fs')))) : hp_G p l e R s m args below meth c D kcl A nL Q cells slots pc lv (v :: .ref a :: st) h :=
  hg_put C t_Rf (fun w h => kc (i_Rf w h)) t_Rf_ok n_Rf ha rfl 26 (by decide) (kc kw677) rfl rfl (by decide +kernel) hn hfit hlen hfs hd kk
/-- Rf.conflicts -/
theorem f_Rf_141 (C : hp_C p s m args meth c cc nL "ModelMergeModel" (c0 :: kw_all) D kcl tys sts aos A) {a : Nat} {fs : List Value} {v : Value} (ha : h a = some (.inr (7, fs))) (hv : fs[27]? = some v) (hd : decode cc pc = .ok (.getfield 141, 3)) (kk : hp_G p l e R s m args below meth c D kcl A nL Q cells slots (pc + 3) lv (v :: st) h) : hp_G p l e R s m args below meth c D kcl A nL Q cells slots pc lv (.ref a :: st) h :=
  hg_get C (fun w h => kc (i_Rf w h)) ha rfl 27 (by decide) (kc kw678) rfl hv hd kk
/-- Rf.conflicts = .. -/
theorem p_Rf_141 (C : hp_C p s m args meth c cc nL "ModelMergeModel" (c0 :: kw_all) D kcl tys sts aos A) {a : Nat} {fs fs' : List Value} {v : Value} (ha : h a = some (.inr (7, fs))) (hn : narrow (.int) v = v) (hfit : fits (.int) v = true) (hlen : 27 < fs.length) (hfs : fs.set 27 v = fs') (hd : decode cc pc = .ok (.putfield 141, 3)) (kk : hp_G p l e R s m args below meth c D kcl A nL Q cells slots (pc + 3) lv st (hp_up h a (.inr (7, fs')))) : hp_G p l e R s m args below meth c D kcl A nL Q cells slots pc lv (v :: .ref a :: st) h :=
  hg_put C t_Rf (fun w h => kc (i_Rf w h)) t_Rf_ok n_Rf ha rfl 27 (by decide) (kc kw678) rfl rfl (by decide +kernel) hn hfit hlen hfs hd kk
/-- Rf.conflictThing -/
theorem f_Rf_81 (C : hp_C p s m args meth c cc nL "ModelMergeModel" (c0 :: kw_all) D kcl tys sts aos A) {a : Nat} {fs : List Value} {v : Value} (ha : h a = some (.inr (7, fs))) (hv : fs[28]? = some v) (hd : decode cc pc = .ok (.getfield 81, 3)) (kk : hp_G p l e R s m args below meth c D kcl A nL Q cells slots (pc + 3) lv (v :: st) h) : hp_G p l e R s m args below meth c D kcl A nL Q cells slots pc lv (.ref a :: st) h :=
  hg_get C (fun w h => kc (i_Rf w h)) ha rfl 28 (by decide) (kc kw679) rfl hv hd kk
/-- Rf.conflictThing = .. -/
theorem p_Rf_81 (C : hp_C p s m args meth c cc nL "ModelMergeModel" (c0 :: kw_all) D kcl tys sts aos A) {a : Nat} {fs fs' : List Value} {v : Value} (hin2 : meth.name = "<init>") (ha : h a = some (.inr (7, fs))) (hn : narrow (.array .int) v = v) (hfit : fits (.array .int) v = true) (hlen : 28 < fs.length) (hfs : fs.set 28 v = fs') (hd : decode cc pc = .ok (.putfield 81, 3)) (kk : hp_G p l e R s m args below meth c D kcl A nL Q cells slots (pc + 3) lv st (hp_up h a (.inr (7, fs')))) : hp_G p l e R s m args below meth c D kcl A nL Q cells slots pc lv (v :: .ref a :: st) h :=
  hg_putF C t_Rf (fun w h => kc (i_Rf w h)) t_Rf_ok n_Rf ha rfl 28 (by decide) (kc kw679) rfl rfl hin2 rfl (by decide +kernel) hn hfit hlen hfs hd kk
/-- Rf.conflictField -/
theorem f_Rf_84 (C : hp_C p s m args meth c cc nL "ModelMergeModel" (c0 :: kw_all) D kcl tys sts aos A) {a : Nat} {fs : List Value} {v : Value} (ha : h a = some (.inr (7, fs))) (hv : fs[29]? = some v) (hd : decode cc pc = .ok (.getfield 84, 3)) (kk : hp_G p l e R s m args below meth c D kcl A nL Q cells slots (pc + 3) lv (v :: st) h) : hp_G p l e R s m args below meth c D kcl A nL Q cells slots pc lv (.ref a :: st) h :=
  hg_get C (fun w h => kc (i_Rf w h)) ha rfl 29 (by decide) (kc kw680) rfl hv hd kk
/-- Rf.conflictField = .. -/
theorem p_Rf_84 (C : hp_C p s m args meth c cc nL "ModelMergeModel" (c0 :: kw_all) D kcl tys sts aos A) {a : Nat} {fs fs' : List Value} {v : Value} (hin2 : meth.name = "<init>") (ha : h a = some (.inr (7, fs))) (hn : narrow (.array .int) v = v) (hfit : fits (.array .int) v = true) (hlen : 29 < fs.length) (hfs : fs.set 29 v = fs') (hd : decode cc pc = .ok (.putfield 84, 3)) (kk : hp_G p l e R s m args below meth c D kcl A nL Q cells slots (pc + 3) lv st (hp_up h a (.inr (7, fs')))) : hp_G p l e R s m args below meth c D kcl A nL Q cells slots pc lv (v :: .ref a :: st) h :=
  hg_putF C t_Rf (fun w h => kc (i_Rf w h)) t_Rf_ok n_Rf ha rfl 29 (by decide) (kc kw680) rfl rfl hin2 rfl (by decide +kernel) hn hfit hlen hfs hd kk
/-- Rf.side -/
theorem f_Rf_87 (C : hp_C p s m args meth c cc nL "ModelMergeModel" (c0 :: kw_all) D kcl tys sts aos A) {a : Nat} {fs : List Value} {v : Value} (ha : h a = some (.inr (7, fs))) (hv : fs[30]? = some v) (hd : decode cc pc = .ok (.getfield 87, 3)) (kk : hp_G p l e R s m args below meth c D kcl A nL Q cells slots (pc + 3) lv (v :: st) h) : hp_G p l e R s m args below meth c D kcl A nL Q cells slots pc lv (.ref a :: st) h :=
  hg_get C (fun w h => kc (i_Rf w h)) ha rfl 30 (by decide) (kc kw681) rfl hv hd kk
/-- Rf.side = .. -/
theorem p_Rf_87 (C : hp_C p s m args meth c cc nL "ModelMergeModel" (c0 :: kw_all) D kcl tys sts aos A) {a : Nat} {fs fs' : List Value} {v : Value} (hin2 : meth.name = "<init>") (ha : h a = some (.inr (7, fs))) (hn : narrow (.array .int) v = v) (hfit : fits (.array .int) v = true) (hlen : 30 < fs.length) (hfs : fs.set 30 v = fs') (hd : decode cc pc = .ok (.putfield 87, 3)) (kk : hp_G p l e R s m args below meth c D kcl A nL Q cells slots (pc + 3) lv st (hp_up h a (.inr (7, fs')))) : hp_G p l e R s m args below meth c D kcl A nL Q cells slots pc lv (v :: .ref a :: st) h :=
  hg_putF C t_Rf (fun w h => kc (i_Rf w h)) t_Rf_ok n_Rf ha rfl 30 (by decide) (kc kw681) rfl rfl hin2 rfl (by decide +kernel) hn hfit hlen hfs hd kk
/-- new MM -/
theorem n_La_8 (C : hp_C p s m args meth c cc nL "ModelMergeLaw" (c0 :: kw_all) D kcl tys sts aos A) (hcells : cells + 1 ≤ R.cells) (hslots : slots + 12 ≤ R.slots) (hd : decode cc pc = .ok (.new 8, 3)) (kk : ∀ q : Nat, h q = none → hp_G p l e R s m args below meth c D kcl A nL Q (cells + 1) (slots + 12) (pc + 3) lv (.ref q :: st) (hp_up h q (.inr (6, [.null, .null, .int 0, .null, .int 0, .null, .int 0, .null, .null, .int 0, .null, .null])))) : hp_G p l e R s m args below meth c D kcl A nL Q cells slots pc lv st h :=
  hg_new C t_MM (fun w h => kc (i_MM w h)) t_MM_ok (kc kw15) (kc kw16) (kc kw1) rfl (fs := [.null, .null, .int 0, .null, .int 0, .null, .int 0, .null, .null, .int 0, .null, .null]) (by decide +kernel) hcells hslots hd kk
/-- new Se -/
theorem n_MM_20 (C : hp_C p s m args meth c cc nL "ModelMerge" (c0 :: kw_all) D kcl tys sts aos A) (hcells : cells + 1 ≤ R.cells) (hslots : slots + 8 ≤ R.slots) (hd : decode cc pc = .ok (.new 20, 3)) (kk : ∀ q : Nat, h q = none → hp_G p l e R s m args below meth c D kcl A nL Q (cells + 1) (slots + 8) (pc + 3) lv (.ref q :: st) (hp_up h q (.inr (3, [.int 0, .int 0, .null, .null, .null, .int 0, .int 0, .int 0])))) : hp_G p l e R s m args below meth c D kcl A nL Q cells slots pc lv st h :=
  hg_new C t_Se (fun w h => kc (i_Se w h)) t_Se_ok (kc kw23) (kc kw219) (kc kw11) rfl (fs := [.int 0, .int 0, .null, .null, .null, .int 0, .int 0, .int 0]) (by decide +kernel) hcells hslots hd kk
/-- new Ve -/
theorem n_MM_29 (C : hp_C p s m args meth c cc nL "ModelMerge" (c0 :: kw_all) D kcl tys sts aos A) (hcells : cells + 1 ≤ R.cells) (hslots : slots + 4 ≤ R.slots) (hd : decode cc pc = .ok (.new 29, 3)) (kk : ∀ q : Nat, h q = none → hp_G p l e R s m args below meth c D kcl A nL Q (cells + 1) (slots + 4) (pc + 3) lv (.ref q :: st) (hp_up h q (.inr (5, [.int 0, .int 0, .null, .null])))) : hp_G p l e R s m args below meth c D kcl A nL Q cells slots pc lv st h :=
  hg_new C t_Ve (fun w h => kc (i_Ve w h)) t_Ve_ok (kc kw25) (kc kw50) (kc kw3) rfl (fs := [.int 0, .int 0, .null, .null]) (by decide +kernel) hcells hslots hd kk
/-- new Ru -/
theorem n_MM_38 (C : hp_C p s m args meth c cc nL "ModelMerge" (c0 :: kw_all) D kcl tys sts aos A) (hcells : cells + 1 ≤ R.cells) (hslots : slots + 3 ≤ R.slots) (hd : decode cc pc = .ok (.new 38, 3)) (kk : ∀ q : Nat, h q = none → hp_G p l e R s m args below meth c D kcl A nL Q (cells + 1) (slots + 3) (pc + 3) lv (.ref q :: st) (hp_up h q (.inr (2, [.int 0, .int 0, .int 0])))) : hp_G p l e R s m args below meth c D kcl A nL Q cells slots pc lv st h :=
  hg_new C t_Ru (fun w h => kc (i_Ru w h)) t_Ru_ok (kc kw27) (kc kw414) (kc kw14) rfl (fs := [.int 0, .int 0, .int 0]) (by decide +kernel) hcells hslots hd kk
/-- new Cf -/
theorem n_MM_47 (C : hp_C p s m args meth c cc nL "ModelMerge" (c0 :: kw_all) D kcl tys sts aos A) (hcells : cells + 1 ≤ R.cells) (hslots : slots + 4 ≤ R.slots) (hd : decode cc pc = .ok (.new 47, 3)) (kk : ∀ q : Nat, h q = none → hp_G p l e R s m args below meth c D kcl A nL Q (cells + 1) (slots + 4) (pc + 3) lv (.ref q :: st) (hp_up h q (.inr (0, [.null, .null, .null, .int 0])))) : hp_G p l e R s m args below meth c D kcl A nL Q cells slots pc lv st h :=
  hg_new C t_Cf (fun w h => kc (i_Cf w h)) t_Cf_ok (kc kw29) (kc kw30) (kc kw2) rfl (fs := [.null, .null, .null, .int 0]) (by decide +kernel) hcells hslots hd kk
/-- new St -/
theorem n_MM_58 (C : hp_C p s m args meth c cc nL "ModelMerge" (c0 :: kw_all) D kcl tys sts aos A) (hcells : cells + 1 ≤ R.cells) (hslots : slots + 1 ≤ R.slots) (hd : decode cc pc = .ok (.new 58, 3)) (kk : ∀ q : Nat, h q = none → hp_G p l e R s m args below meth c D kcl A nL Q (cells + 1) (slots + 1) (pc + 3) lv (.ref q :: st) (hp_up h q (.inr (4, [.null])))) : hp_G p l e R s m args below meth c D kcl A nL Q cells slots pc lv st h :=
  hg_new C t_St (fun w h => kc (i_St w h)) t_St_ok (kc kw51) (kc kw52) (kc kw4) rfl (fs := [.null]) (by decide +kernel) hcells hslots hd kk
/-- new St -/
theorem n_Se_9 (C : hp_C p s m args meth c cc nL "ModelMerge$Session" (c0 :: kw_all) D kcl tys sts aos A) (hcells : cells + 1 ≤ R.cells) (hslots : slots + 1 ≤ R.slots) (hd : decode cc pc = .ok (.new 9, 3)) (kk : ∀ q : Nat, h q = none → hp_G p l e R s m args below meth c D kcl A nL Q (cells + 1) (slots + 1) (pc + 3) lv (.ref q :: st) (hp_up h q (.inr (4, [.null])))) : hp_G p l e R s m args below meth c D kcl A nL Q cells slots pc lv st h :=
  hg_new C t_St (fun w h => kc (i_St w h)) t_St_ok (kc kw224) (kc kw52) (kc kw4) rfl (fs := [.null]) (by decide +kernel) hcells hslots hd kk
/-- new Mo -/
theorem n_Se_18 (C : hp_C p s m args meth c cc nL "ModelMerge$Session" (c0 :: kw_all) D kcl tys sts aos A) (hcells : cells + 1 ≤ R.cells) (hslots : slots + 7 ≤ R.slots) (hd : decode cc pc = .ok (.new 18, 3)) (kk : ∀ q : Nat, h q = none → hp_G p l e R s m args below meth c D kcl A nL Q (cells + 1) (slots + 7) (pc + 3) lv (.ref q :: st) (hp_up h q (.inr (1, [.int 0, .null, .int 0, .int 0, .int 0, .int 0, .null])))) : hp_G p l e R s m args below meth c D kcl A nL Q cells slots pc lv st h :=
  hg_new C t_Mo (fun w h => kc (i_Mo w h)) t_Mo_ok (kc kw226) (kc kw227) (kc kw12) rfl (fs := [.int 0, .null, .int 0, .int 0, .int 0, .int 0, .null]) (by decide +kernel) hcells hslots hd kk
/-- new Rf -/
theorem n_La_85 (C : hp_C p s m args meth c cc nL "ModelMergeLaw" (c0 :: kw_all) D kcl tys sts aos A) (hcells : cells + 1 ≤ R.cells) (hslots : slots + 31 ≤ R.slots) (hd : decode cc pc = .ok (.new 85, 3)) (kk : ∀ q : Nat, h q = none → hp_G p l e R s m args below meth c D kcl A nL Q (cells + 1) (slots + 31) (pc + 3) lv (.ref q :: st) (hp_up h q (.inr (7, [.int 0, .int 0, .null, .null, .int 0, .null, .null, .null, .null, .int 0, .null, .null, .null, .null, .null, .null, .null, .null, .null, .null, .null, .null, .int 0, .null, .null, .null, .int 0, .int 0, .null, .null, .null])))) : hp_G p l e R s m args below meth c D kcl A nL Q cells slots pc lv st h :=
  hg_new C t_Rf (fun w h => kc (i_Rf w h)) t_Rf_ok (kc kw645) (kc kw646) (kc kw5) rfl (fs := [.int 0, .int 0, .null, .null, .int 0, .null, .null, .null, .null, .int 0, .null, .null, .null, .null, .null, .null, .null, .null, .null, .null, .null, .null, .int 0, .null, .null, .null, .int 0, .int 0, .null, .null, .null]) (by decide +kernel) hcells hslots hd kk
theorem o_Cf_3 (C : hp_C p s m args meth c cc nL "ModelMerge$Conflicts" (c0 :: kw_all) D kcl tys sts aos A) {a : Nat} (hframes : 1 ≤ R.frames) (hlocals : (st.map fun v => v.category).sum + 12 ≤ R.locals) (hd : decode cc pc = .ok (.invokespecial 3, 3)) (kk : hp_G p l e R s m args below meth c D kcl A nL Q cells slots (pc + 3) lv st h) : hp_G p l e R s m args below meth c D kcl A nL Q cells slots pc lv (.ref a :: st) h :=
  hg_obj C (kc kw34) (kc kw21) (kc kwobj) hframes hlocals hd kk
theorem o_Mo_1 (C : hp_C p s m args meth c cc nL "ModelMerge$Moment" (c0 :: kw_all) D kcl tys sts aos A) {a : Nat} (hframes : 1 ≤ R.frames) (hlocals : (st.map fun v => v.category).sum + 12 ≤ R.locals) (hd : decode cc pc = .ok (.invokespecial 1, 3)) (kk : hp_G p l e R s m args below meth c D kcl A nL Q cells slots (pc + 3) lv st h) : hp_G p l e R s m args below meth c D kcl A nL Q cells slots pc lv (.ref a :: st) h :=
  hg_obj C (kc kw231) (kc kw21) (kc kwobj) hframes hlocals hd kk
theorem o_Ru_1 (C : hp_C p s m args meth c cc nL "ModelMerge$Rule" (c0 :: kw_all) D kcl tys sts aos A) {a : Nat} (hframes : 1 ≤ R.frames) (hlocals : (st.map fun v => v.category).sum + 12 ≤ R.locals) (hd : decode cc pc = .ok (.invokespecial 1, 3)) (kk : hp_G p l e R s m args below meth c D kcl A nL Q cells slots (pc + 3) lv st h) : hp_G p l e R s m args below meth c D kcl A nL Q cells slots pc lv (.ref a :: st) h :=
  hg_obj C (kc kw418) (kc kw21) (kc kwobj) hframes hlocals hd kk
theorem o_Se_3 (C : hp_C p s m args meth c cc nL "ModelMerge$Session" (c0 :: kw_all) D kcl tys sts aos A) {a : Nat} (hframes : 1 ≤ R.frames) (hlocals : (st.map fun v => v.category).sum + 12 ≤ R.locals) (hd : decode cc pc = .ok (.invokespecial 3, 3)) (kk : hp_G p l e R s m args below meth c D kcl A nL Q cells slots (pc + 3) lv st h) : hp_G p l e R s m args below meth c D kcl A nL Q cells slots pc lv (.ref a :: st) h :=
  hg_obj C (kc kw223) (kc kw21) (kc kwobj) hframes hlocals hd kk
theorem o_St_3 (C : hp_C p s m args meth c cc nL "ModelMerge$State" (c0 :: kw_all) D kcl tys sts aos A) {a : Nat} (hframes : 1 ≤ R.frames) (hlocals : (st.map fun v => v.category).sum + 12 ≤ R.locals) (hd : decode cc pc = .ok (.invokespecial 3, 3)) (kk : hp_G p l e R s m args below meth c D kcl A nL Q cells slots (pc + 3) lv st h) : hp_G p l e R s m args below meth c D kcl A nL Q cells slots pc lv (.ref a :: st) h :=
  hg_obj C (kc kw56) (kc kw21) (kc kwobj) hframes hlocals hd kk
theorem o_Ve_3 (C : hp_C p s m args meth c cc nL "ModelMerge$Version" (c0 :: kw_all) D kcl tys sts aos A) {a : Nat} (hframes : 1 ≤ R.frames) (hlocals : (st.map fun v => v.category).sum + 12 ≤ R.locals) (hd : decode cc pc = .ok (.invokespecial 3, 3)) (kk : hp_G p l e R s m args below meth c D kcl A nL Q cells slots (pc + 3) lv st h) : hp_G p l e R s m args below meth c D kcl A nL Q cells slots pc lv (.ref a :: st) h :=
  hg_obj C (kc kw64) (kc kw21) (kc kwobj) hframes hlocals hd kk
theorem o_MM_3 (C : hp_C p s m args meth c cc nL "ModelMerge" (c0 :: kw_all) D kcl tys sts aos A) {a : Nat} (hframes : 1 ≤ R.frames) (hlocals : (st.map fun v => v.category).sum + 12 ≤ R.locals) (hd : decode cc pc = .ok (.invokespecial 3, 3)) (kk : hp_G p l e R s m args below meth c D kcl A nL Q cells slots (pc + 3) lv st h) : hp_G p l e R s m args below meth c D kcl A nL Q cells slots pc lv (.ref a :: st) h :=
  hg_obj C (kc kw20) (kc kw21) (kc kwobj) hframes hlocals hd kk
theorem o_Rf_1 (C : hp_C p s m args meth c cc nL "ModelMergeModel" (c0 :: kw_all) D kcl tys sts aos A) {a : Nat} (hframes : 1 ≤ R.frames) (hlocals : (st.map fun v => v.category).sum + 12 ≤ R.locals) (hd : decode cc pc = .ok (.invokespecial 1, 3)) (kk : hp_G p l e R s m args below meth c D kcl A nL Q cells slots (pc + 3) lv st h) : hp_G p l e R s m args below meth c D kcl A nL Q cells slots pc lv (.ref a :: st) h :=
  hg_obj C (kc kw650) (kc kw21) (kc kwobj) hframes hlocals hd kk
end OWN
theorem cw_La_84 {R : Room} {s : State} {args : Array Value} {c0 : Cond} {rm : Room} {mc ms : Nat} (hts : ∀ w ∈ c0 :: kw_all, w.before args s = true) (hrc : rm.cells = mc) (hrs : rm.slots = ms) (hR : rm.frames + 1 ≤ R.frames ∧ 8 + (1 + 11) + rm.locals ≤ R.locals) : CallB R s args "ModelMergeLaw" 84 y_MM_init b_MM_init 1 none w_MM_init rm mc ms 0 ∧ y_MM_init.name = "<init>" ∧ (Cond.instanceMethod y_MM_init).before args s = true := cwI 0 hts (kw_ws kcode_MM_init) rfl hrc hrs (hts _ (kc kw1)) (hts _ (kc kw17)) (hts _ (kc kw18)) rfl (by decide +kernel) hR
theorem cw_MM_61 {R : Room} {s : State} {args : Array Value} {c0 : Cond} {rm : Room} {mc ms : Nat} (hts : ∀ w ∈ c0 :: kw_all, w.before args s = true) (hrc : rm.cells = mc) (hrs : rm.slots = ms) (hR : rm.frames + 1 ≤ R.frames ∧ 8 + (4 + 11) + rm.locals ≤ R.locals) : CallB R s args "ModelMerge" 61 y_Ve_init b_Ve_init 4 none w_Ve_init rm mc ms 3 ∧ y_Ve_init.name = "<init>" ∧ (Cond.instanceMethod y_Ve_init).before args s = true := cwI 3 hts (kw_ws kcode_Ve_init) rfl hrc hrs (hts _ (kc kw3)) (hts _ (kc kw61)) (hts _ (kc kw62)) rfl (by decide +kernel) hR
theorem cw_La_88 {R : Room} {s : State} {args : Array Value} {c0 : Cond} {rm : Room} {mc ms : Nat} (hts : ∀ w ∈ c0 :: kw_all, w.before args s = true) (hrc : rm.cells = mc) (hrs : rm.slots = ms) (hR : rm.frames + 1 ≤ R.frames ∧ 8 + (5 + 11) + rm.locals ≤ R.locals) : vx_CSW R s args "ModelMergeLaw" 88 y_La_session b_La_session 5 (some .int) [(0, 10, 13, 13), (0, 10, 17, 15)] w_La_session rm mc ms 4 := vx_cwSW 4 hts (kw_Sa kw119 kw120 kw0 kcode_La_session) rfl hrc hrs (by decide +kernel) hR
theorem cw_La_7 {R : Room} {s : State} {args : Array Value} {c0 : Cond} {rm : Room} {mc ms : Nat} (hts : ∀ w ∈ c0 :: kw_all, w.before args s = true) (hrc : rm.cells = mc) (hrs : rm.slots = ms) (hR : rm.frames + 1 ≤ R.frames ∧ 8 + (5 + 11) + rm.locals ≤ R.locals) : CallW R s args "ModelMergeLaw" "ModelMerge" 7 y_MM_session b_MM_session 5 (some .int) w_MM_session rm mc ms 2 := cwV 2 hts (kw_V kw124 kw125 kw126 kw1 kcode_MM_session) rfl hrc hrs (by decide +kernel) hR
theorem cw_MM_68 {R : Room} {s : State} {args : Array Value} {c0 : Cond} {rm : Room} {mc ms : Nat} (hts : ∀ w ∈ c0 :: kw_all, w.before args s = true) (hrc : rm.cells = mc) (hrs : rm.slots = ms) (hR : rm.frames + 1 ≤ R.frames ∧ 8 + (2 + 11) + rm.locals ≤ R.locals) : CallB R s args "ModelMerge" 68 y_MM_checkBelow b_MM_checkBelow 2 none w_MM_checkBelow rm mc ms 2 ∧ (Cond.static y_MM_checkBelow).before args s = true := cwS 2 hts (kw_S kw128 kw129 kw1 kcode_MM_checkBelow) rfl hrc hrs (by decide +kernel) hR
theorem cw_MM_72 {R : Room} {s : State} {args : Array Value} {c0 : Cond} {rm : Room} {mc ms : Nat} (hts : ∀ w ∈ c0 :: kw_all, w.before args s = true) (hrc : rm.cells = mc) (hrs : rm.slots = ms) (hR : rm.frames + 1 ≤ R.frames ∧ 8 + (3 + 11) + rm.locals ≤ R.locals) : CallW R s args "ModelMerge" "ModelMerge" 72 y_MM_versionOf b_MM_versionOf 3 (some (.object "ModelMerge$Version")) w_MM_versionOf rm mc ms 1 := cwV 1 hts (kw_V kw198 kw200 kws1 kw1 kcode_MM_versionOf) rfl hrc hrs (by decide +kernel) hR
theorem cw_MM_83 {R : Room} {s : State} {args : Array Value} {c0 : Cond} {rm : Room} {mc ms : Nat} (hts : ∀ w ∈ c0 :: kw_all, w.before args s = true) (hrc : rm.cells = mc) (hrs : rm.slots = ms) (hR : rm.frames + 1 ≤ R.frames ∧ 8 + (4 + 11) + rm.locals ≤ R.locals) : CallB R s args "ModelMerge" 83 y_Se_init b_Se_init 4 none w_Se_init rm mc ms 3 ∧ y_Se_init.name = "<init>" ∧ (Cond.instanceMethod y_Se_init).before args s = true := cwI 3 hts (kw_ws kcode_Se_init) rfl hrc hrs (hts _ (kc kw11)) (hts _ (kc kw220)) (hts _ (kc kw221)) rfl (by decide +kernel) hR
theorem cw_Se_20 {R : Room} {s : State} {args : Array Value} {c0 : Cond} {rm : Room} {mc ms : Nat} (hts : ∀ w ∈ c0 :: kw_all, w.before args s = true) (hrc : rm.cells = mc) (hrs : rm.slots = ms) (hR : rm.frames + 1 ≤ R.frames ∧ 8 + (7 + 11) + rm.locals ≤ R.locals) : CallB R s args "ModelMerge$Session" 20 y_Mo_init b_Mo_init 7 none w_Mo_init rm mc ms 6 ∧ y_Mo_init.name = "<init>" ∧ (Cond.instanceMethod y_Mo_init).before args s = true := cwI 6 hts (kw_ws kcode_Mo_init) rfl hrc hrs (hts _ (kc kw12)) (hts _ (kc kw228)) (hts _ (kc kw229)) rfl (by decide +kernel) hR
theorem cw_Se_50 {R : Room} {s : State} {args : Array Value} {c0 : Cond} {rm : Room} {mc ms : Nat} (hts : ∀ w ∈ c0 :: kw_all, w.before args s = true) (hrc : rm.cells = mc) (hrs : rm.slots = ms) (hR : rm.frames + 1 ≤ R.frames ∧ 8 + (2 + 11) + rm.locals ≤ R.locals) : CallW R s args "ModelMerge$Session" "ModelMerge$State" 50 y_St_copyAll b_St_copyAll 2 none w_St_copyAll rm mc ms 1 := cwV 1 hts (kw_V kw262 kw263 kw264 kw4 kcode_St_copyAll) rfl hrc hrs (by decide +kernel) hR
theorem cw_La_97 {R : Room} {s : State} {args : Array Value} {c0 : Cond} {rm : Room} {mc ms : Nat} (hts : ∀ w ∈ c0 :: kw_all, w.before args s = true) (hrc : rm.cells = mc) (hrs : rm.slots = ms) (hR : rm.frames + 1 ≤ R.frames ∧ 8 + (5 + 11) + rm.locals ≤ R.locals) : vx_CSW R s args "ModelMergeLaw" 97 y_La_make b_La_make 5 (some .int) [(0, 10, 13, 13), (0, 10, 17, 15)] w_La_make rm mc ms 4 := vx_cwSW 4 hts (kw_Sa kw302 kw303 kw0 kcode_La_make) rfl hrc hrs (by decide +kernel) hR
theorem cw_La_17 {R : Room} {s : State} {args : Array Value} {c0 : Cond} {rm : Room} {mc ms : Nat} (hts : ∀ w ∈ c0 :: kw_all, w.before args s = true) (hrc : rm.cells = mc) (hrs : rm.slots = ms) (hR : rm.frames + 1 ≤ R.frames ∧ 8 + (5 + 11) + rm.locals ≤ R.locals) : CallW R s args "ModelMergeLaw" "ModelMerge" 17 y_MM_make b_MM_make 5 (some .int) w_MM_make rm mc ms 2 := cwV 2 hts (kw_V kw305 kw306 kw307 kw1 kcode_MM_make) rfl hrc hrs (by decide +kernel) hR
theorem cw_MM_86 {R : Room} {s : State} {args : Array Value} {c0 : Cond} {rm : Room} {mc ms : Nat} (hts : ∀ w ∈ c0 :: kw_all, w.before args s = true) (hrc : rm.cells = mc) (hrs : rm.slots = ms) (hR : rm.frames + 1 ≤ R.frames ∧ 8 + (3 + 11) + rm.locals ≤ R.locals) : CallW R s args "ModelMerge" "ModelMerge" 86 y_MM_sessionOf b_MM_sessionOf 3 (some (.object "ModelMerge$Session")) w_MM_sessionOf rm mc ms 1 := cwV 1 hts (kw_V kw309 kw311 kws2 kw1 kcode_MM_sessionOf) rfl hrc hrs (by decide +kernel) hR
theorem cw_MM_90 {R : Room} {s : State} {args : Array Value} {c0 : Cond} {rm : Room} {mc ms : Nat} (hts : ∀ w ∈ c0 :: kw_all, w.before args s = true) (hrc : rm.cells = mc) (hrs : rm.slots = ms) (hR : rm.frames + 1 ≤ R.frames ∧ 8 + (1 + 11) + rm.locals ≤ R.locals) : CallB R s args "ModelMerge" 90 y_MM_checkOpen b_MM_checkOpen 1 none w_MM_checkOpen rm mc ms 1 ∧ (Cond.static y_MM_checkOpen).before args s = true := cwS 1 hts (kw_S kw314 kw315 kw1 kcode_MM_checkOpen) rfl hrc hrs (by decide +kernel) hR
theorem cw_MM_94 {R : Room} {s : State} {args : Array Value} {c0 : Cond} {rm : Room} {mc ms : Nat} (hts : ∀ w ∈ c0 :: kw_all, w.before args s = true) (hrc : rm.cells = mc) (hrs : rm.slots = ms) (hR : rm.frames + 1 ≤ R.frames ∧ 8 + (1 + 11) + rm.locals ≤ R.locals) : CallW R s args "ModelMerge" "ModelMerge$Session" 94 y_Se_isFull b_Se_isFull 1 (some .boolean) w_Se_isFull rm mc ms 0 := cwV 0 hts (kw_V kw318 kw319 kw320 kw11 kcode_Se_isFull) rfl hrc hrs (by decide +kernel) hR
theorem cw_MM_98 {R : Room} {s : State} {args : Array Value} {c0 : Cond} {rm : Room} {mc ms : Nat} (hts : ∀ w ∈ c0 :: kw_all, w.before args s = true) (hrc : rm.cells = mc) (hrs : rm.slots = ms) (hR : rm.frames + 1 ≤ R.frames ∧ 8 + (6 + 11) + rm.locals ≤ R.locals) : CallW R s args "ModelMerge" "ModelMerge$Session" 98 y_Se_change b_Se_change 6 (some .int) w_Se_change rm mc ms 3 := cwV 3 hts (kw_V kw322 kw323 kw324 kw11 kcode_Se_change) rfl hrc hrs (by decide +kernel) hR
theorem cw_Se_54 {R : Room} {s : State} {args : Array Value} {c0 : Cond} {rm : Room} {mc ms : Nat} (hts : ∀ w ∈ c0 :: kw_all, w.before args s = true) (hrc : rm.cells = mc) (hrs : rm.slots = ms) (hR : rm.frames + 1 ≤ R.frames ∧ 8 + (3 + 11) + rm.locals ≤ R.locals) : CallW R s args "ModelMerge$Session" "ModelMerge$State" 54 y_St_value b_St_value 3 (some .int) w_St_value rm mc ms 2 := cwV 2 hts (kw_V kw326 kw327 kw328 kw4 kcode_St_value) rfl hrc hrs (by decide +kernel) hR
theorem cw_St_19 {R : Room} {s : State} {args : Array Value} {c0 : Cond} {rm : Room} {mc ms : Nat} (hts : ∀ w ∈ c0 :: kw_all, w.before args s = true) (hrc : rm.cells = mc) (hrs : rm.slots = ms) (hR : rm.frames + 1 ≤ R.frames ∧ 8 + (2 + 11) + rm.locals ≤ R.locals) : CallB R s args "ModelMerge$State" 19 y_St_isCell b_St_isCell 2 (some .boolean) w_St_isCell rm mc ms 2 ∧ (Cond.static y_St_isCell).before args s = true := cwS 2 hts (kw_S kw330 kw331 kw4 kcode_St_isCell) rfl hrc hrs (by decide +kernel) hR
theorem cw_St_23 {R : Room} {s : State} {args : Array Value} {c0 : Cond} {rm : Room} {mc ms : Nat} (hts : ∀ w ∈ c0 :: kw_all, w.before args s = true) (hrc : rm.cells = mc) (hrs : rm.slots = ms) (hR : rm.frames + 1 ≤ R.frames ∧ 8 + (2 + 11) + rm.locals ≤ R.locals) : CallB R s args "ModelMerge$State" 23 y_St_cellOf b_St_cellOf 2 (some .int) w_St_cellOf rm mc ms 2 ∧ (Cond.static y_St_cellOf).before args s = true := cwS 2 hts (kw_S kw333 kw334 kw4 kcode_St_cellOf) rfl hrc hrs (by decide +kernel) hR
theorem cw_Se_61 {R : Room} {s : State} {args : Array Value} {c0 : Cond} {rm : Room} {mc ms : Nat} (hts : ∀ w ∈ c0 :: kw_all, w.before args s = true) (hrc : rm.cells = mc) (hrs : rm.slots = ms) (hR : rm.frames + 1 ≤ R.frames ∧ 8 + (2 + 11) + rm.locals ≤ R.locals) : CallW R s args "ModelMerge$Session" "ModelMerge$Session" 61 y_Se_stepForward b_Se_stepForward 2 (some .int) w_Se_stepForward rm mc ms 0 := cwV 0 hts (kw_V kw336 kw337 kw338 kw11 kcode_Se_stepForward) rfl hrc hrs (by decide +kernel) hR
theorem cw_Se_74 {R : Room} {s : State} {args : Array Value} {c0 : Cond} {rm : Room} {mc ms : Nat} (hts : ∀ w ∈ c0 :: kw_all, w.before args s = true) (hrc : rm.cells = mc) (hrs : rm.slots = ms) (hR : rm.frames + 1 ≤ R.frames ∧ 8 + (4 + 11) + rm.locals ≤ R.locals) : CallW R s args "ModelMerge$Session" "ModelMerge$State" 74 y_St_put b_St_put 4 none w_St_put rm mc ms 3 := cwV 3 hts (kw_V kw340 kw341 kw342 kw4 kcode_St_put) rfl hrc hrs (by decide +kernel) hR
theorem cw_La_100 {R : Room} {s : State} {args : Array Value} {c0 : Cond} {rm : Room} {mc ms : Nat} (hts : ∀ w ∈ c0 :: kw_all, w.before args s = true) (hrc : rm.cells = mc) (hrs : rm.slots = ms) (hR : rm.frames + 1 ≤ R.frames ∧ 8 + (7 + 11) + rm.locals ≤ R.locals) : vx_CSW R s args "ModelMergeLaw" 100 y_La_set b_La_set 7 (some .int) [(0, 14, 17, 13), (0, 14, 21, 15)] w_La_set rm mc ms 6 := vx_cwSW 6 hts (kw_Sa kw344 kw345 kw0 kcode_La_set) rfl hrc hrs (by decide +kernel) hR
theorem cw_La_20 {R : Room} {s : State} {args : Array Value} {c0 : Cond} {rm : Room} {mc ms : Nat} (hts : ∀ w ∈ c0 :: kw_all, w.before args s = true) (hrc : rm.cells = mc) (hrs : rm.slots = ms) (hR : rm.frames + 1 ≤ R.frames ∧ 8 + (5 + 11) + rm.locals ≤ R.locals) : CallW R s args "ModelMergeLaw" "ModelMerge" 20 y_MM_set b_MM_set 5 (some .int) w_MM_set rm mc ms 4 := cwV 4 hts (kw_V kw347 kw348 kw349 kw1 kcode_MM_set) rfl hrc hrs (by decide +kernel) hR
theorem cw_MM_102 {R : Room} {s : State} {args : Array Value} {c0 : Cond} {rm : Room} {mc ms : Nat} (hts : ∀ w ∈ c0 :: kw_all, w.before args s = true) (hrc : rm.cells = mc) (hrs : rm.slots = ms) (hR : rm.frames + 1 ≤ R.frames ∧ 8 + (7 + 11) + rm.locals ≤ R.locals) : CallW R s args "ModelMerge" "ModelMerge" 102 y_MM_changeThing b_MM_changeThing 7 (some .int) w_MM_changeThing rm mc ms 4 := cwV 4 hts (kw_V kw351 kw353 kws3 kw1 kcode_MM_changeThing) rfl hrc hrs (by decide +kernel) hR
theorem cw_MM_113 {R : Room} {s : State} {args : Array Value} {c0 : Cond} {rm : Room} {mc ms : Nat} (hts : ∀ w ∈ c0 :: kw_all, w.before args s = true) (hrc : rm.cells = mc) (hrs : rm.slots = ms) (hR : rm.frames + 1 ≤ R.frames ∧ 8 + (2 + 11) + rm.locals ≤ R.locals) : CallW R s args "ModelMerge" "ModelMerge" 113 y_MM_checkThing b_MM_checkThing 2 none w_MM_checkThing rm mc ms 1 := cwV 1 hts (kw_V kw355 kw357 kws4 kw1 kcode_MM_checkThing) rfl hrc hrs (by decide +kernel) hR
theorem cw_MM_237 {R : Room} {s : State} {args : Array Value} {c0 : Cond} {rm : Room} {mc ms : Nat} (hts : ∀ w ∈ c0 :: kw_all, w.before args s = true) (hrc : rm.cells = mc) (hrs : rm.slots = ms) (hR : rm.frames + 1 ≤ R.frames ∧ 8 + (2 + 11) + rm.locals ≤ R.locals) : CallW R s args "ModelMerge" "ModelMerge" 237 y_MM_isThing b_MM_isThing 2 (some .boolean) w_MM_isThing rm mc ms 1 := cwV 1 hts (kw_V kw359 kw361 kws5 kw1 kcode_MM_isThing) rfl hrc hrs (by decide +kernel) hR
theorem cw_MM_243 {R : Room} {s : State} {args : Array Value} {c0 : Cond} {rm : Room} {mc ms : Nat} (hts : ∀ w ∈ c0 :: kw_all, w.before args s = true) (hrc : rm.cells = mc) (hrs : rm.slots = ms) (hR : rm.frames + 1 ≤ R.frames ∧ 8 + (2 + 11) + rm.locals ≤ R.locals) : CallW R s args "ModelMerge" "ModelMerge$State" 243 y_St_has b_St_has 2 (some .boolean) w_St_has rm mc ms 1 := cwV 1 hts (kw_V kw364 kw365 kw366 kw4 kcode_St_has) rfl hrc hrs (by decide +kernel) hR
theorem cw_St_15 {R : Room} {s : State} {args : Array Value} {c0 : Cond} {rm : Room} {mc ms : Nat} (hts : ∀ w ∈ c0 :: kw_all, w.before args s = true) (hrc : rm.cells = mc) (hrs : rm.slots = ms) (hR : rm.frames + 1 ≤ R.frames ∧ 8 + (3 + 11) + rm.locals ≤ R.locals) : CallW R s args "ModelMerge$State" "ModelMerge$State" 15 y_St_value b_St_value 3 (some .int) w_St_value rm mc ms 2 := cwV 2 hts (kw_V kw368 kw327 kw328 kw4 kcode_St_value) rfl hrc hrs (by decide +kernel) hR
theorem cw_MM_117 {R : Room} {s : State} {args : Array Value} {c0 : Cond} {rm : Room} {mc ms : Nat} (hts : ∀ w ∈ c0 :: kw_all, w.before args s = true) (hrc : rm.cells = mc) (hrs : rm.slots = ms) (hR : rm.frames + 1 ≤ R.frames ∧ 8 + (2 + 11) + rm.locals ≤ R.locals) : CallW R s args "ModelMerge" "ModelMerge" 117 y_MM_lockerOf b_MM_lockerOf 2 (some .int) w_MM_lockerOf rm mc ms 1 := cwV 1 hts (kw_V kw369 kw371 kws6 kw1 kcode_MM_lockerOf) rfl hrc hrs (by decide +kernel) hR
theorem cw_La_104 {R : Room} {s : State} {args : Array Value} {c0 : Cond} {rm : Room} {mc ms : Nat} (hts : ∀ w ∈ c0 :: kw_all, w.before args s = true) (hrc : rm.cells = mc) (hrs : rm.slots = ms) (hR : rm.frames + 1 ≤ R.frames ∧ 8 + (5 + 11) + rm.locals ≤ R.locals) : vx_CSW R s args "ModelMergeLaw" 104 y_La_drop b_La_drop 5 (some .int) [(0, 10, 13, 13), (0, 10, 17, 15)] w_La_drop rm mc ms 4 := vx_cwSW 4 hts (kw_Sa kw373 kw374 kw0 kcode_La_drop) rfl hrc hrs (by decide +kernel) hR
theorem cw_La_24 {R : Room} {s : State} {args : Array Value} {c0 : Cond} {rm : Room} {mc ms : Nat} (hts : ∀ w ∈ c0 :: kw_all, w.before args s = true) (hrc : rm.cells = mc) (hrs : rm.slots = ms) (hR : rm.frames + 1 ≤ R.frames ∧ 8 + (3 + 11) + rm.locals ≤ R.locals) : CallW R s args "ModelMergeLaw" "ModelMerge" 24 y_MM_drop b_MM_drop 3 (some .int) w_MM_drop rm mc ms 2 := cwV 2 hts (kw_V kw376 kw377 kw378 kw1 kcode_MM_drop) rfl hrc hrs (by decide +kernel) hR
theorem cw_La_107 {R : Room} {s : State} {args : Array Value} {c0 : Cond} {rm : Room} {mc ms : Nat} (hts : ∀ w ∈ c0 :: kw_all, w.before args s = true) (hrc : rm.cells = mc) (hrs : rm.slots = ms) (hR : rm.frames + 1 ≤ R.frames ∧ 8 + (4 + 11) + rm.locals ≤ R.locals) : vx_CSW R s args "ModelMergeLaw" 107 y_La_undo b_La_undo 4 (some .int) [(0, 9, 12, 13), (0, 9, 15, 15)] w_La_undo rm mc ms 3 := vx_cwSW 3 hts (kw_Sa kw380 kw381 kw0 kcode_La_undo) rfl hrc hrs (by decide +kernel) hR
theorem cw_La_27 {R : Room} {s : State} {args : Array Value} {c0 : Cond} {rm : Room} {mc ms : Nat} (hts : ∀ w ∈ c0 :: kw_all, w.before args s = true) (hrc : rm.cells = mc) (hrs : rm.slots = ms) (hR : rm.frames + 1 ≤ R.frames ∧ 8 + (3 + 11) + rm.locals ≤ R.locals) : CallW R s args "ModelMergeLaw" "ModelMerge" 27 y_MM_undo b_MM_undo 3 (some .int) w_MM_undo rm mc ms 1 := cwV 1 hts (kw_V kw383 kw384 kw385 kw1 kcode_MM_undo) rfl hrc hrs (by decide +kernel) hR
theorem cw_MM_106 {R : Room} {s : State} {args : Array Value} {c0 : Cond} {rm : Room} {mc ms : Nat} (hts : ∀ w ∈ c0 :: kw_all, w.before args s = true) (hrc : rm.cells = mc) (hrs : rm.slots = ms) (hR : rm.frames + 1 ≤ R.frames ∧ 8 + (3 + 11) + rm.locals ≤ R.locals) : CallW R s args "ModelMerge" "ModelMerge$Session" 106 y_Se_stepBack b_Se_stepBack 3 (some .int) w_Se_stepBack rm mc ms 0 := cwV 0 hts (kw_V kw387 kw388 kw389 kw11 kcode_Se_stepBack) rfl hrc hrs (by decide +kernel) hR
theorem cw_La_111 {R : Room} {s : State} {args : Array Value} {c0 : Cond} {rm : Room} {mc ms : Nat} (hts : ∀ w ∈ c0 :: kw_all, w.before args s = true) (hrc : rm.cells = mc) (hrs : rm.slots = ms) (hR : rm.frames + 1 ≤ R.frames ∧ 8 + (4 + 11) + rm.locals ≤ R.locals) : vx_CSW R s args "ModelMergeLaw" 111 y_La_redo b_La_redo 4 (some .int) [(0, 9, 12, 13), (0, 9, 15, 15)] w_La_redo rm mc ms 3 := vx_cwSW 3 hts (kw_Sa kw391 kw392 kw0 kcode_La_redo) rfl hrc hrs (by decide +kernel) hR
theorem cw_La_31 {R : Room} {s : State} {args : Array Value} {c0 : Cond} {rm : Room} {mc ms : Nat} (hts : ∀ w ∈ c0 :: kw_all, w.before args s = true) (hrc : rm.cells = mc) (hrs : rm.slots = ms) (hR : rm.frames + 1 ≤ R.frames ∧ 8 + (3 + 11) + rm.locals ≤ R.locals) : CallW R s args "ModelMergeLaw" "ModelMerge" 31 y_MM_redo b_MM_redo 3 (some .int) w_MM_redo rm mc ms 1 := cwV 1 hts (kw_V kw394 kw395 kw396 kw1 kcode_MM_redo) rfl hrc hrs (by decide +kernel) hR
theorem cw_MM_110 {R : Room} {s : State} {args : Array Value} {c0 : Cond} {rm : Room} {mc ms : Nat} (hts : ∀ w ∈ c0 :: kw_all, w.before args s = true) (hrc : rm.cells = mc) (hrs : rm.slots = ms) (hR : rm.frames + 1 ≤ R.frames ∧ 8 + (2 + 11) + rm.locals ≤ R.locals) : CallW R s args "ModelMerge" "ModelMerge$Session" 110 y_Se_stepForward b_Se_stepForward 2 (some .int) w_Se_stepForward rm mc ms 0 := cwV 0 hts (kw_V kw398 kw337 kw338 kw11 kcode_Se_stepForward) rfl hrc hrs (by decide +kernel) hR
theorem cw_La_114 {R : Room} {s : State} {args : Array Value} {c0 : Cond} {rm : Room} {mc ms : Nat} (hts : ∀ w ∈ c0 :: kw_all, w.before args s = true) (hrc : rm.cells = mc) (hrs : rm.slots = ms) (hR : rm.frames + 1 ≤ R.frames ∧ 8 + (5 + 11) + rm.locals ≤ R.locals) : vx_CSW R s args "ModelMergeLaw" 114 y_La_lock b_La_lock 5 (some .int) [(0, 10, 13, 13)] w_La_lock rm mc ms 4 := vx_cwSW 4 hts (kw_Sa kw399 kw400 kw0 kcode_La_lock) rfl hrc hrs (by decide +kernel) hR
theorem cw_La_34 {R : Room} {s : State} {args : Array Value} {c0 : Cond} {rm : Room} {mc ms : Nat} (hts : ∀ w ∈ c0 :: kw_all, w.before args s = true) (hrc : rm.cells = mc) (hrs : rm.slots = ms) (hR : rm.frames + 1 ≤ R.frames ∧ 8 + (4 + 11) + rm.locals ≤ R.locals) : CallW R s args "ModelMergeLaw" "ModelMerge" 34 y_MM_lock b_MM_lock 4 (some .int) w_MM_lock rm mc ms 2 := cwV 2 hts (kw_V kw402 kw403 kw404 kw1 kcode_MM_lock) rfl hrc hrs (by decide +kernel) hR
theorem cw_La_117 {R : Room} {s : State} {args : Array Value} {c0 : Cond} {rm : Room} {mc ms : Nat} (hts : ∀ w ∈ c0 :: kw_all, w.before args s = true) (hrc : rm.cells = mc) (hrs : rm.slots = ms) (hR : rm.frames + 1 ≤ R.frames ∧ 8 + (6 + 11) + rm.locals ≤ R.locals) : vx_CSW R s args "ModelMergeLaw" 117 y_La_rule b_La_rule 6 (some .int) [(0, 12, 15, 13), (0, 12, 19, 15)] w_La_rule rm mc ms 5 := vx_cwSW 5 hts (kw_Sa kw406 kw407 kw0 kcode_La_rule) rfl hrc hrs (by decide +kernel) hR
theorem cw_La_37 {R : Room} {s : State} {args : Array Value} {c0 : Cond} {rm : Room} {mc ms : Nat} (hts : ∀ w ∈ c0 :: kw_all, w.before args s = true) (hrc : rm.cells = mc) (hrs : rm.slots = ms) (hR : rm.frames + 1 ≤ R.frames ∧ 8 + (5 + 11) + rm.locals ≤ R.locals) : CallW R s args "ModelMergeLaw" "ModelMerge" 37 y_MM_rule b_MM_rule 5 (some .int) w_MM_rule rm mc ms 3 := cwV 3 hts (kw_V kw409 kw410 kw411 kw1 kcode_MM_rule) rfl hrc hrs (by decide +kernel) hR
theorem cw_MM_123 {R : Room} {s : State} {args : Array Value} {c0 : Cond} {rm : Room} {mc ms : Nat} (hts : ∀ w ∈ c0 :: kw_all, w.before args s = true) (hrc : rm.cells = mc) (hrs : rm.slots = ms) (hR : rm.frames + 1 ≤ R.frames ∧ 8 + (4 + 11) + rm.locals ≤ R.locals) : CallB R s args "ModelMerge" 123 y_Ru_init b_Ru_init 4 none w_Ru_init rm mc ms 3 ∧ y_Ru_init.name = "<init>" ∧ (Cond.instanceMethod y_Ru_init).before args s = true := cwI 3 hts (kw_ws kcode_Ru_init) rfl hrc hrs (hts _ (kc kw14)) (hts _ (kc kw415)) (hts _ (kc kw416)) rfl (by decide +kernel) hR
theorem cw_La_121 {R : Room} {s : State} {args : Array Value} {c0 : Cond} {rm : Room} {mc ms : Nat} (hts : ∀ w ∈ c0 :: kw_all, w.before args s = true) (hrc : rm.cells = mc) (hrs : rm.slots = ms) (hR : rm.frames + 1 ≤ R.frames ∧ 8 + (4 + 11) + rm.locals ≤ R.locals) : vx_CSW R s args "ModelMergeLaw" 121 y_La_join b_La_join 4 (some .int) [(0, 9, 12, 13), (0, 9, 15, 15)] w_La_join rm mc ms 3 := vx_cwSW 3 hts (kw_Sa kw432 kw433 kw0 kcode_La_join) rfl hrc hrs (by decide +kernel) hR
theorem cw_La_41 {R : Room} {s : State} {args : Array Value} {c0 : Cond} {rm : Room} {mc ms : Nat} (hts : ∀ w ∈ c0 :: kw_all, w.before args s = true) (hrc : rm.cells = mc) (hrs : rm.slots = ms) (hR : rm.frames + 1 ≤ R.frames ∧ 8 + (3 + 11) + rm.locals ≤ R.locals) : CallW R s args "ModelMergeLaw" "ModelMerge" 41 y_MM_join b_MM_join 3 (some .int) w_MM_join rm mc ms 1 := cwV 1 hts (kw_V kw435 kw436 kw437 kw1 kcode_MM_join) rfl hrc hrs (by decide +kernel) hR
theorem cw_MM_126 {R : Room} {s : State} {args : Array Value} {c0 : Cond} {rm : Room} {mc ms : Nat} (hts : ∀ w ∈ c0 :: kw_all, w.before args s = true) (hrc : rm.cells = mc) (hrs : rm.slots = ms) (hR : rm.frames + 1 ≤ R.frames ∧ 8 + (6 + 11) + rm.locals ≤ R.locals) : CallW R s args "ModelMerge" "ModelMerge" 126 y_MM_findConflicts b_MM_findConflicts 6 none w_MM_findConflicts rm mc ms 1 := cwV 1 hts (kw_V kw439 kw441 kws7 kw1 kcode_MM_findConflicts) rfl hrc hrs (by decide +kernel) hR
theorem cw_MM_263 {R : Room} {s : State} {args : Array Value} {c0 : Cond} {rm : Room} {mc ms : Nat} (hts : ∀ w ∈ c0 :: kw_all, w.before args s = true) (hrc : rm.cells = mc) (hrs : rm.slots = ms) (hR : rm.frames + 1 ≤ R.frames ∧ 8 + (1 + 11) + rm.locals ≤ R.locals) : CallW R s args "ModelMerge" "ModelMerge$Conflicts" 263 y_Cf_clear b_Cf_clear 1 none w_Cf_clear rm mc ms 0 := cwV 0 hts (kw_V kw443 kw444 kw445 kw2 kcode_Cf_clear) rfl hrc hrs (by decide +kernel) hR
theorem cw_MM_266 {R : Room} {s : State} {args : Array Value} {c0 : Cond} {rm : Room} {mc ms : Nat} (hts : ∀ w ∈ c0 :: kw_all, w.before args s = true) (hrc : rm.cells = mc) (hrs : rm.slots = ms) (hR : rm.frames + 1 ≤ R.frames ∧ 8 + (6 + 11) + rm.locals ≤ R.locals) : CallB R s args "ModelMerge" 266 y_MM_isDroppedAndChanged b_MM_isDroppedAndChanged 6 (some .boolean) w_MM_isDroppedAndChanged rm mc ms 4 ∧ (Cond.static y_MM_isDroppedAndChanged).before args s = true := cwS 4 hts (kw_S kw447 kw448 kw1 kcode_MM_isDroppedAndChanged) rfl hrc hrs (by decide +kernel) hR
theorem cw_MM_151 {R : Room} {s : State} {args : Array Value} {c0 : Cond} {rm : Room} {mc ms : Nat} (hts : ∀ w ∈ c0 :: kw_all, w.before args s = true) (hrc : rm.cells = mc) (hrs : rm.slots = ms) (hR : rm.frames + 1 ≤ R.frames ∧ 8 + (3 + 11) + rm.locals ≤ R.locals) : CallW R s args "ModelMerge" "ModelMerge$State" 151 y_St_value b_St_value 3 (some .int) w_St_value rm mc ms 2 := cwV 2 hts (kw_V kw450 kw327 kw328 kw4 kcode_St_value) rfl hrc hrs (by decide +kernel) hR
theorem cw_MM_270 {R : Room} {s : State} {args : Array Value} {c0 : Cond} {rm : Room} {mc ms : Nat} (hts : ∀ w ∈ c0 :: kw_all, w.before args s = true) (hrc : rm.cells = mc) (hrs : rm.slots = ms) (hR : rm.frames + 1 ≤ R.frames ∧ 8 + (3 + 11) + rm.locals ≤ R.locals) : CallW R s args "ModelMerge" "ModelMerge$Conflicts" 270 y_Cf_add b_Cf_add 3 none w_Cf_add rm mc ms 2 := cwV 2 hts (kw_V kw451 kw452 kw453 kw2 kcode_Cf_add) rfl hrc hrs (by decide +kernel) hR
theorem cw_MM_273 {R : Room} {s : State} {args : Array Value} {c0 : Cond} {rm : Room} {mc ms : Nat} (hts : ∀ w ∈ c0 :: kw_all, w.before args s = true) (hrc : rm.cells = mc) (hrs : rm.slots = ms) (hR : rm.frames + 1 ≤ R.frames ∧ 8 + (9 + 11) + rm.locals ≤ R.locals) : CallW R s args "ModelMerge" "ModelMerge" 273 y_MM_findFieldConflicts b_MM_findFieldConflicts 9 none w_MM_findFieldConflicts rm mc ms 4 := cwV 4 hts (kw_V kw455 kw457 kws8 kw1 kcode_MM_findFieldConflicts) rfl hrc hrs (by decide +kernel) hR
theorem cw_MM_132 {R : Room} {s : State} {args : Array Value} {c0 : Cond} {rm : Room} {mc ms : Nat} (hts : ∀ w ∈ c0 :: kw_all, w.before args s = true) (hrc : rm.cells = mc) (hrs : rm.slots = ms) (hR : rm.frames + 1 ≤ R.frames ∧ 8 + (4 + 11) + rm.locals ≤ R.locals) : CallW R s args "ModelMerge" "ModelMerge" 132 y_MM_finishJoining b_MM_finishJoining 4 none w_MM_finishJoining rm mc ms 1 := cwV 1 hts (kw_V kw459 kw461 kws9 kw1 kcode_MM_finishJoining) rfl hrc hrs (by decide +kernel) hR
theorem cw_MM_277 {R : Room} {s : State} {args : Array Value} {c0 : Cond} {rm : Room} {mc ms : Nat} (hts : ∀ w ∈ c0 :: kw_all, w.before args s = true) (hrc : rm.cells = mc) (hrs : rm.slots = ms) (hR : rm.frames + 1 ≤ R.frames ∧ 8 + (5 + 11) + rm.locals ≤ R.locals) : CallW R s args "ModelMerge" "ModelMerge" 277 y_MM_joinedState b_MM_joinedState 5 (some (.object "ModelMerge$State")) w_MM_joinedState rm mc ms 1 := cwV 1 hts (kw_V kw463 kw465 kws10 kw1 kcode_MM_joinedState) rfl hrc hrs (by decide +kernel) hR
theorem cw_MM_285 {R : Room} {s : State} {args : Array Value} {c0 : Cond} {rm : Room} {mc ms : Nat} (hts : ∀ w ∈ c0 :: kw_all, w.before args s = true) (hrc : rm.cells = mc) (hrs : rm.slots = ms) (hR : rm.frames + 1 ≤ R.frames ∧ 8 + (9 + 11) + rm.locals ≤ R.locals) : CallW R s args "ModelMerge" "ModelMerge" 285 y_MM_joinThing b_MM_joinThing 9 none w_MM_joinThing rm mc ms 4 := cwV 4 hts (kw_V kw467 kw469 kws11 kw1 kcode_MM_joinThing) rfl hrc hrs (by decide +kernel) hR
theorem cw_MM_292 {R : Room} {s : State} {args : Array Value} {c0 : Cond} {rm : Room} {mc ms : Nat} (hts : ∀ w ∈ c0 :: kw_all, w.before args s = true) (hrc : rm.cells = mc) (hrs : rm.slots = ms) (hR : rm.frames + 1 ≤ R.frames ∧ 8 + (4 + 11) + rm.locals ≤ R.locals) : CallW R s args "ModelMerge" "ModelMerge$State" 292 y_St_put b_St_put 4 none w_St_put rm mc ms 3 := cwV 3 hts (kw_V kw471 kw341 kw342 kw4 kcode_St_put) rfl hrc hrs (by decide +kernel) hR
theorem cw_MM_295 {R : Room} {s : State} {args : Array Value} {c0 : Cond} {rm : Room} {mc ms : Nat} (hts : ∀ w ∈ c0 :: kw_all, w.before args s = true) (hrc : rm.cells = mc) (hrs : rm.slots = ms) (hR : rm.frames + 1 ≤ R.frames ∧ 8 + (5 + 11) + rm.locals ≤ R.locals) : CallW R s args "ModelMerge" "ModelMerge$State" 295 y_St_copyThing b_St_copyThing 5 none w_St_copyThing rm mc ms 2 := cwV 2 hts (kw_V kw472 kw473 kw474 kw4 kcode_St_copyThing) rfl hrc hrs (by decide +kernel) hR
theorem cw_St_26 {R : Room} {s : State} {args : Array Value} {c0 : Cond} {rm : Room} {mc ms : Nat} (hts : ∀ w ∈ c0 :: kw_all, w.before args s = true) (hrc : rm.cells = mc) (hrs : rm.slots = ms) (hR : rm.frames + 1 ≤ R.frames ∧ 8 + (2 + 11) + rm.locals ≤ R.locals) : CallW R s args "ModelMerge$State" "ModelMerge$State" 26 y_St_has b_St_has 2 (some .boolean) w_St_has rm mc ms 1 := cwV 1 hts (kw_V kw476 kw365 kw366 kw4 kcode_St_has) rfl hrc hrs (by decide +kernel) hR
theorem cw_St_30 {R : Room} {s : State} {args : Array Value} {c0 : Cond} {rm : Room} {mc ms : Nat} (hts : ∀ w ∈ c0 :: kw_all, w.before args s = true) (hrc : rm.cells = mc) (hrs : rm.slots = ms) (hR : rm.frames + 1 ≤ R.frames ∧ 8 + (4 + 11) + rm.locals ≤ R.locals) : CallW R s args "ModelMerge$State" "ModelMerge$State" 30 y_St_put b_St_put 4 none w_St_put rm mc ms 3 := cwV 3 hts (kw_V kw477 kw341 kw342 kw4 kcode_St_put) rfl hrc hrs (by decide +kernel) hR
theorem cw_MM_156 {R : Room} {s : State} {args : Array Value} {c0 : Cond} {rm : Room} {mc ms : Nat} (hts : ∀ w ∈ c0 :: kw_all, w.before args s = true) (hrc : rm.cells = mc) (hrs : rm.slots = ms) (hR : rm.frames + 1 ≤ R.frames ∧ 8 + (2 + 11) + rm.locals ≤ R.locals) : CallW R s args "ModelMerge" "ModelMerge$Conflicts" 156 y_Cf_sideOf b_Cf_sideOf 2 (some .int) w_Cf_sideOf rm mc ms 1 := cwV 1 hts (kw_V kw478 kw479 kw480 kw2 kcode_Cf_sideOf) rfl hrc hrs (by decide +kernel) hR
theorem cw_Cf_25 {R : Room} {s : State} {args : Array Value} {c0 : Cond} {rm : Room} {mc ms : Nat} (hts : ∀ w ∈ c0 :: kw_all, w.before args s = true) (hrc : rm.cells = mc) (hrs : rm.slots = ms) (hR : rm.frames + 1 ≤ R.frames ∧ 8 + (2 + 11) + rm.locals ≤ R.locals) : CallW R s args "ModelMerge$Conflicts" "ModelMerge$Conflicts" 25 y_Cf_isKnown b_Cf_isKnown 2 (some .boolean) w_Cf_isKnown rm mc ms 1 := cwV 1 hts (kw_V kw482 kw484 kws12 kw2 kcode_Cf_isKnown) rfl hrc hrs (by decide +kernel) hR
theorem cw_MM_141 {R : Room} {s : State} {args : Array Value} {c0 : Cond} {rm : Room} {mc ms : Nat} (hts : ∀ w ∈ c0 :: kw_all, w.before args s = true) (hrc : rm.cells = mc) (hrs : rm.slots = ms) (hR : rm.frames + 1 ≤ R.frames ∧ 8 + (2 + 11) + rm.locals ≤ R.locals) : CallW R s args "ModelMerge" "ModelMerge$Conflicts" 141 y_Cf_thingOf b_Cf_thingOf 2 (some .int) w_Cf_thingOf rm mc ms 1 := cwV 1 hts (kw_V kw486 kw487 kw488 kw2 kcode_Cf_thingOf) rfl hrc hrs (by decide +kernel) hR
theorem cw_MM_144 {R : Room} {s : State} {args : Array Value} {c0 : Cond} {rm : Room} {mc ms : Nat} (hts : ∀ w ∈ c0 :: kw_all, w.before args s = true) (hrc : rm.cells = mc) (hrs : rm.slots = ms) (hR : rm.frames + 1 ≤ R.frames ∧ 8 + (2 + 11) + rm.locals ≤ R.locals) : CallW R s args "ModelMerge" "ModelMerge$Conflicts" 144 y_Cf_fieldOf b_Cf_fieldOf 2 (some .int) w_Cf_fieldOf rm mc ms 1 := cwV 1 hts (kw_V kw490 kw491 kw492 kw2 kcode_Cf_fieldOf) rfl hrc hrs (by decide +kernel) hR
theorem cw_MM_288 {R : Room} {s : State} {args : Array Value} {c0 : Cond} {rm : Room} {mc ms : Nat} (hts : ∀ w ∈ c0 :: kw_all, w.before args s = true) (hrc : rm.cells = mc) (hrs : rm.slots = ms) (hR : rm.frames + 1 ≤ R.frames ∧ 8 + (4 + 11) + rm.locals ≤ R.locals) : CallB R s args "ModelMerge" 288 y_MM_applySettling b_MM_applySettling 4 none w_MM_applySettling rm mc ms 4 ∧ (Cond.static y_MM_applySettling).before args s = true := cwS 4 hts (kw_S kw494 kw495 kw1 kcode_MM_applySettling) rfl hrc hrs (by decide +kernel) hR
theorem cw_MM_281 {R : Room} {s : State} {args : Array Value} {c0 : Cond} {rm : Room} {mc ms : Nat} (hts : ∀ w ∈ c0 :: kw_all, w.before args s = true) (hrc : rm.cells = mc) (hrs : rm.slots = ms) (hR : rm.frames + 1 ≤ R.frames ∧ 8 + (6 + 11) + rm.locals ≤ R.locals) : CallW R s args "ModelMerge" "ModelMerge$Version" 281 y_Ve_traceOrigins b_Ve_traceOrigins 6 none w_Ve_traceOrigins rm mc ms 1 := cwV 1 hts (kw_V kw497 kw498 kw499 kw3 kcode_Ve_traceOrigins) rfl hrc hrs (by decide +kernel) hR
theorem cw_Ve_26 {R : Room} {s : State} {args : Array Value} {c0 : Cond} {rm : Room} {mc ms : Nat} (hts : ∀ w ∈ c0 :: kw_all, w.before args s = true) (hrc : rm.cells = mc) (hrs : rm.slots = ms) (hR : rm.frames + 1 ≤ R.frames ∧ 8 + (2 + 11) + rm.locals ≤ R.locals) : CallW R s args "ModelMerge$Version" "ModelMerge$State" 26 y_St_has b_St_has 2 (some .boolean) w_St_has rm mc ms 1 := cwV 1 hts (kw_V kw501 kw365 kw366 kw4 kcode_St_has) rfl hrc hrs (by decide +kernel) hR
theorem cw_Ve_32 {R : Room} {s : State} {args : Array Value} {c0 : Cond} {rm : Room} {mc ms : Nat} (hts : ∀ w ∈ c0 :: kw_all, w.before args s = true) (hrc : rm.cells = mc) (hrs : rm.slots = ms) (hR : rm.frames + 1 ≤ R.frames ∧ 8 + (3 + 11) + rm.locals ≤ R.locals) : CallW R s args "ModelMerge$Version" "ModelMerge$State" 32 y_St_value b_St_value 3 (some .int) w_St_value rm mc ms 2 := cwV 2 hts (kw_V kw502 kw327 kw328 kw4 kcode_St_value) rfl hrc hrs (by decide +kernel) hR
theorem cw_Ve_36 {R : Room} {s : State} {args : Array Value} {c0 : Cond} {rm : Room} {mc ms : Nat} (hts : ∀ w ∈ c0 :: kw_all, w.before args s = true) (hrc : rm.cells = mc) (hrs : rm.slots = ms) (hR : rm.frames + 1 ≤ R.frames ∧ 8 + (4 + 11) + rm.locals ≤ R.locals) : CallW R s args "ModelMerge$Version" "ModelMerge$Version" 36 y_Ve_origin b_Ve_origin 4 (some .int) w_Ve_origin rm mc ms 2 := cwV 2 hts (kw_V kw503 kw504 kw505 kw3 kcode_Ve_origin) rfl hrc hrs (by decide +kernel) hR
theorem cw_La_124 {R : Room} {s : State} {args : Array Value} {c0 : Cond} {rm : Room} {mc ms : Nat} (hts : ∀ w ∈ c0 :: kw_all, w.before args s = true) (hrc : rm.cells = mc) (hrs : rm.slots = ms) (hR : rm.frames + 1 ≤ R.frames ∧ 8 + (5 + 11) + rm.locals ≤ R.locals) : vx_CSW R s args "ModelMergeLaw" 124 y_La_conflict b_La_conflict 5 (some .int) [(0, 10, 13, 13), (0, 10, 17, 15)] w_La_conflict rm mc ms 4 := vx_cwSW 4 hts (kw_Sa kw507 kw508 kw0 kcode_La_conflict) rfl hrc hrs (by decide +kernel) hR
theorem cw_La_44 {R : Room} {s : State} {args : Array Value} {c0 : Cond} {rm : Room} {mc ms : Nat} (hts : ∀ w ∈ c0 :: kw_all, w.before args s = true) (hrc : rm.cells = mc) (hrs : rm.slots = ms) (hR : rm.frames + 1 ≤ R.frames ∧ 8 + (6 + 11) + rm.locals ≤ R.locals) : CallW R s args "ModelMergeLaw" "ModelMerge" 44 y_MM_conflict b_MM_conflict 6 (some .int) w_MM_conflict rm mc ms 2 := cwV 2 hts (kw_V kw510 kw511 kw512 kw1 kcode_MM_conflict) rfl hrc hrs (by decide +kernel) hR
theorem cw_MM_138 {R : Room} {s : State} {args : Array Value} {c0 : Cond} {rm : Room} {mc ms : Nat} (hts : ∀ w ∈ c0 :: kw_all, w.before args s = true) (hrc : rm.cells = mc) (hrs : rm.slots = ms) (hR : rm.frames + 1 ≤ R.frames ∧ 8 + (3 + 11) + rm.locals ≤ R.locals) : CallW R s args "ModelMerge" "ModelMerge" 138 y_MM_pendingWithConflict b_MM_pendingWithConflict 3 (some (.object "ModelMerge$Session")) w_MM_pendingWithConflict rm mc ms 1 := cwV 1 hts (kw_V kw514 kw516 kws13 kw1 kcode_MM_pendingWithConflict) rfl hrc hrs (by decide +kernel) hR
theorem cw_MM_220 {R : Room} {s : State} {args : Array Value} {c0 : Cond} {rm : Room} {mc ms : Nat} (hts : ∀ w ∈ c0 :: kw_all, w.before args s = true) (hrc : rm.cells = mc) (hrs : rm.slots = ms) (hR : rm.frames + 1 ≤ R.frames ∧ 8 + (1 + 11) + rm.locals ≤ R.locals) : CallB R s args "ModelMerge" 220 y_MM_checkNotNegative b_MM_checkNotNegative 1 none w_MM_checkNotNegative rm mc ms 1 ∧ (Cond.static y_MM_checkNotNegative).before args s = true := cwS 1 hts (kw_S kw518 kw519 kw1 kcode_MM_checkNotNegative) rfl hrc hrs (by decide +kernel) hR
theorem cw_La_127 {R : Room} {s : State} {args : Array Value} {c0 : Cond} {rm : Room} {mc ms : Nat} (hts : ∀ w ∈ c0 :: kw_all, w.before args s = true) (hrc : rm.cells = mc) (hrs : rm.slots = ms) (hR : rm.frames + 1 ≤ R.frames ∧ 8 + (5 + 11) + rm.locals ≤ R.locals) : vx_CSW R s args "ModelMergeLaw" 127 y_La_settle b_La_settle 5 (some .int) [(0, 10, 13, 13), (0, 10, 17, 15)] w_La_settle rm mc ms 4 := vx_cwSW 4 hts (kw_Sa kw523 kw524 kw0 kcode_La_settle) rfl hrc hrs (by decide +kernel) hR
theorem cw_La_47 {R : Room} {s : State} {args : Array Value} {c0 : Cond} {rm : Room} {mc ms : Nat} (hts : ∀ w ∈ c0 :: kw_all, w.before args s = true) (hrc : rm.cells = mc) (hrs : rm.slots = ms) (hR : rm.frames + 1 ≤ R.frames ∧ 8 + (5 + 11) + rm.locals ≤ R.locals) : CallW R s args "ModelMergeLaw" "ModelMerge" 47 y_MM_settle b_MM_settle 5 (some .int) w_MM_settle rm mc ms 2 := cwV 2 hts (kw_V kw526 kw527 kw528 kw1 kcode_MM_settle) rfl hrc hrs (by decide +kernel) hR
theorem cw_MM_159 {R : Room} {s : State} {args : Array Value} {c0 : Cond} {rm : Room} {mc ms : Nat} (hts : ∀ w ∈ c0 :: kw_all, w.before args s = true) (hrc : rm.cells = mc) (hrs : rm.slots = ms) (hR : rm.frames + 1 ≤ R.frames ∧ 8 + (1 + 11) + rm.locals ≤ R.locals) : CallB R s args "ModelMerge" 159 y_MM_checkSide b_MM_checkSide 1 none w_MM_checkSide rm mc ms 1 ∧ (Cond.static y_MM_checkSide).before args s = true := cwS 1 hts (kw_S kw530 kw531 kw1 kcode_MM_checkSide) rfl hrc hrs (by decide +kernel) hR
theorem cw_MM_162 {R : Room} {s : State} {args : Array Value} {c0 : Cond} {rm : Room} {mc ms : Nat} (hts : ∀ w ∈ c0 :: kw_all, w.before args s = true) (hrc : rm.cells = mc) (hrs : rm.slots = ms) (hR : rm.frames + 1 ≤ R.frames ∧ 8 + (3 + 11) + rm.locals ≤ R.locals) : CallW R s args "ModelMerge" "ModelMerge$Conflicts" 162 y_Cf_choose b_Cf_choose 3 none w_Cf_choose rm mc ms 2 := cwV 2 hts (kw_V kw534 kw535 kw536 kw2 kcode_Cf_choose) rfl hrc hrs (by decide +kernel) hR
theorem cw_MM_165 {R : Room} {s : State} {args : Array Value} {c0 : Cond} {rm : Room} {mc ms : Nat} (hts : ∀ w ∈ c0 :: kw_all, w.before args s = true) (hrc : rm.cells = mc) (hrs : rm.slots = ms) (hR : rm.frames + 1 ≤ R.frames ∧ 8 + (3 + 11) + rm.locals ≤ R.locals) : CallW R s args "ModelMerge" "ModelMerge$Conflicts" 165 y_Cf_countUnsettled b_Cf_countUnsettled 3 (some .int) w_Cf_countUnsettled rm mc ms 0 := cwV 0 hts (kw_V kw538 kw539 kw540 kw2 kcode_Cf_countUnsettled) rfl hrc hrs (by decide +kernel) hR
theorem cw_Cf_29 {R : Room} {s : State} {args : Array Value} {c0 : Cond} {rm : Room} {mc ms : Nat} (hts : ∀ w ∈ c0 :: kw_all, w.before args s = true) (hrc : rm.cells = mc) (hrs : rm.slots = ms) (hR : rm.frames + 1 ≤ R.frames ∧ 8 + (2 + 11) + rm.locals ≤ R.locals) : CallW R s args "ModelMerge$Conflicts" "ModelMerge$Conflicts" 29 y_Cf_sideOf b_Cf_sideOf 2 (some .int) w_Cf_sideOf rm mc ms 1 := cwV 1 hts (kw_V kw542 kw479 kw480 kw2 kcode_Cf_sideOf) rfl hrc hrs (by decide +kernel) hR
theorem cw_La_130 {R : Room} {s : State} {args : Array Value} {c0 : Cond} {rm : Room} {mc ms : Nat} (hts : ∀ w ∈ c0 :: kw_all, w.before args s = true) (hrc : rm.cells = mc) (hrs : rm.slots = ms) (hR : rm.frames + 1 ≤ R.frames ∧ 8 + (3 + 11) + rm.locals ≤ R.locals) : vx_CSW R s args "ModelMergeLaw" 130 y_La_giveUp b_La_giveUp 3 (some .int) [(0, 8, 11, 15)] w_La_giveUp rm mc ms 2 := vx_cwSW 2 hts (kw_Sa kw543 kw544 kw0 kcode_La_giveUp) rfl hrc hrs (by decide +kernel) hR
theorem cw_La_50 {R : Room} {s : State} {args : Array Value} {c0 : Cond} {rm : Room} {mc ms : Nat} (hts : ∀ w ∈ c0 :: kw_all, w.before args s = true) (hrc : rm.cells = mc) (hrs : rm.slots = ms) (hR : rm.frames + 1 ≤ R.frames ∧ 8 + (2 + 11) + rm.locals ≤ R.locals) : CallW R s args "ModelMergeLaw" "ModelMerge" 50 y_MM_giveUp b_MM_giveUp 2 (some .int) w_MM_giveUp rm mc ms 0 := cwV 0 hts (kw_V kw546 kw547 kw548 kw1 kcode_MM_giveUp) rfl hrc hrs (by decide +kernel) hR
theorem cw_La_134 {R : Room} {s : State} {args : Array Value} {c0 : Cond} {rm : Room} {mc ms : Nat} (hts : ∀ w ∈ c0 :: kw_all, w.before args s = true) (hrc : rm.cells = mc) (hrs : rm.slots = ms) (hR : rm.frames + 1 ≤ R.frames ∧ 8 + (5 + 11) + rm.locals ≤ R.locals) : vx_CSW R s args "ModelMergeLaw" 134 y_La_here b_La_here 5 (some .int) [(0, 10, 13, 13)] w_La_here rm mc ms 4 := vx_cwSW 4 hts (kw_Sa kw550 kw551 kw0 kcode_La_here) rfl hrc hrs (by decide +kernel) hR
theorem cw_La_54 {R : Room} {s : State} {args : Array Value} {c0 : Cond} {rm : Room} {mc ms : Nat} (hts : ∀ w ∈ c0 :: kw_all, w.before args s = true) (hrc : rm.cells = mc) (hrs : rm.slots = ms) (hR : rm.frames + 1 ≤ R.frames ∧ 8 + (4 + 11) + rm.locals ≤ R.locals) : CallW R s args "ModelMergeLaw" "ModelMerge" 54 y_MM_here b_MM_here 4 (some .int) w_MM_here rm mc ms 2 := cwV 2 hts (kw_V kw553 kw554 kw555 kw1 kcode_MM_here) rfl hrc hrs (by decide +kernel) hR
theorem cw_La_137 {R : Room} {s : State} {args : Array Value} {c0 : Cond} {rm : Room} {mc ms : Nat} (hts : ∀ w ∈ c0 :: kw_all, w.before args s = true) (hrc : rm.cells = mc) (hrs : rm.slots = ms) (hR : rm.frames + 1 ≤ R.frames ∧ 8 + (6 + 11) + rm.locals ≤ R.locals) : vx_CSW R s args "ModelMergeLaw" 137 y_La_now b_La_now 6 (some .int) [(0, 12, 15, 13)] w_La_now rm mc ms 5 := vx_cwSW 5 hts (kw_Sa kw557 kw558 kw0 kcode_La_now) rfl hrc hrs (by decide +kernel) hR
theorem cw_La_57 {R : Room} {s : State} {args : Array Value} {c0 : Cond} {rm : Room} {mc ms : Nat} (hts : ∀ w ∈ c0 :: kw_all, w.before args s = true) (hrc : rm.cells = mc) (hrs : rm.slots = ms) (hR : rm.frames + 1 ≤ R.frames ∧ 8 + (5 + 11) + rm.locals ≤ R.locals) : CallW R s args "ModelMergeLaw" "ModelMerge" 57 y_MM_now b_MM_now 5 (some .int) w_MM_now rm mc ms 3 := cwV 3 hts (kw_V kw560 kw561 kw562 kw1 kcode_MM_now) rfl hrc hrs (by decide +kernel) hR
theorem cw_MM_173 {R : Room} {s : State} {args : Array Value} {c0 : Cond} {rm : Room} {mc ms : Nat} (hts : ∀ w ∈ c0 :: kw_all, w.before args s = true) (hrc : rm.cells = mc) (hrs : rm.slots = ms) (hR : rm.frames + 1 ≤ R.frames ∧ 8 + (4 + 11) + rm.locals ≤ R.locals) : CallW R s args "ModelMerge" "ModelMerge" 173 y_MM_checkField b_MM_checkField 4 none w_MM_checkField rm mc ms 3 := cwV 3 hts (kw_V kw564 kw566 kws14 kw1 kcode_MM_checkField) rfl hrc hrs (by decide +kernel) hR
theorem cw_La_140 {R : Room} {s : State} {args : Array Value} {c0 : Cond} {rm : Room} {mc ms : Nat} (hts : ∀ w ∈ c0 :: kw_all, w.before args s = true) (hrc : rm.cells = mc) (hrs : rm.slots = ms) (hR : rm.frames + 1 ≤ R.frames ∧ 8 + (6 + 11) + rm.locals ≤ R.locals) : vx_CSW R s args "ModelMergeLaw" 140 y_La_there b_La_there 6 (some .int) [(0, 12, 15, 13)] w_La_there rm mc ms 5 := vx_cwSW 5 hts (kw_Sa kw569 kw570 kw0 kcode_La_there) rfl hrc hrs (by decide +kernel) hR
theorem cw_La_60 {R : Room} {s : State} {args : Array Value} {c0 : Cond} {rm : Room} {mc ms : Nat} (hts : ∀ w ∈ c0 :: kw_all, w.before args s = true) (hrc : rm.cells = mc) (hrs : rm.slots = ms) (hR : rm.frames + 1 ≤ R.frames ∧ 8 + (5 + 11) + rm.locals ≤ R.locals) : CallW R s args "ModelMergeLaw" "ModelMerge" 60 y_MM_there b_MM_there 5 (some .int) w_MM_there rm mc ms 3 := cwV 3 hts (kw_V kw572 kw573 kw574 kw1 kcode_MM_there) rfl hrc hrs (by decide +kernel) hR
theorem cw_MM_177 {R : Room} {s : State} {args : Array Value} {c0 : Cond} {rm : Room} {mc ms : Nat} (hts : ∀ w ∈ c0 :: kw_all, w.before args s = true) (hrc : rm.cells = mc) (hrs : rm.slots = ms) (hR : rm.frames + 1 ≤ R.frames ∧ 8 + (2 + 11) + rm.locals ≤ R.locals) : CallW R s args "ModelMerge" "ModelMerge" 177 y_MM_kindOf b_MM_kindOf 2 (some .int) w_MM_kindOf rm mc ms 1 := cwV 1 hts (kw_V kw576 kw578 kws15 kw1 kcode_MM_kindOf) rfl hrc hrs (by decide +kernel) hR
theorem cw_MM_180 {R : Room} {s : State} {args : Array Value} {c0 : Cond} {rm : Room} {mc ms : Nat} (hts : ∀ w ∈ c0 :: kw_all, w.before args s = true) (hrc : rm.cells = mc) (hrs : rm.slots = ms) (hR : rm.frames + 1 ≤ R.frames ∧ 8 + (4 + 11) + rm.locals ≤ R.locals) : CallW R s args "ModelMerge" "ModelMerge$Version" 180 y_Ve_countNewFields b_Ve_countNewFields 4 (some .int) w_Ve_countNewFields rm mc ms 1 := cwV 1 hts (kw_V kw580 kw581 kw582 kw3 kcode_Ve_countNewFields) rfl hrc hrs (by decide +kernel) hR
theorem cw_La_143 {R : Room} {s : State} {args : Array Value} {c0 : Cond} {rm : Room} {mc ms : Nat} (hts : ∀ w ∈ c0 :: kw_all, w.before args s = true) (hrc : rm.cells = mc) (hrs : rm.slots = ms) (hR : rm.frames + 1 ≤ R.frames ∧ 8 + (6 + 11) + rm.locals ≤ R.locals) : vx_CSW R s args "ModelMergeLaw" 143 y_La_at b_La_at 6 (some .int) [(0, 12, 15, 13)] w_La_at rm mc ms 5 := vx_cwSW 5 hts (kw_Sa kw585 kw586 kw0 kcode_La_at) rfl hrc hrs (by decide +kernel) hR
theorem cw_La_63 {R : Room} {s : State} {args : Array Value} {c0 : Cond} {rm : Room} {mc ms : Nat} (hts : ∀ w ∈ c0 :: kw_all, w.before args s = true) (hrc : rm.cells = mc) (hrs : rm.slots = ms) (hR : rm.frames + 1 ≤ R.frames ∧ 8 + (5 + 11) + rm.locals ≤ R.locals) : CallW R s args "ModelMergeLaw" "ModelMerge" 63 y_MM_at b_MM_at 5 (some .int) w_MM_at rm mc ms 3 := cwV 3 hts (kw_V kw588 kw589 kw590 kw1 kcode_MM_at) rfl hrc hrs (by decide +kernel) hR
theorem cw_La_146 {R : Room} {s : State} {args : Array Value} {c0 : Cond} {rm : Room} {mc ms : Nat} (hts : ∀ w ∈ c0 :: kw_all, w.before args s = true) (hrc : rm.cells = mc) (hrs : rm.slots = ms) (hR : rm.frames + 1 ≤ R.frames ∧ 8 + (6 + 11) + rm.locals ≤ R.locals) : vx_CSW R s args "ModelMergeLaw" 146 y_La_since b_La_since 6 (some .int) [(0, 12, 15, 13)] w_La_since rm mc ms 5 := vx_cwSW 5 hts (kw_Sa kw592 kw593 kw0 kcode_La_since) rfl hrc hrs (by decide +kernel) hR
theorem cw_La_66 {R : Room} {s : State} {args : Array Value} {c0 : Cond} {rm : Room} {mc ms : Nat} (hts : ∀ w ∈ c0 :: kw_all, w.before args s = true) (hrc : rm.cells = mc) (hrs : rm.slots = ms) (hR : rm.frames + 1 ≤ R.frames ∧ 8 + (5 + 11) + rm.locals ≤ R.locals) : CallW R s args "ModelMergeLaw" "ModelMerge" 66 y_MM_since b_MM_since 5 (some .int) w_MM_since rm mc ms 3 := cwV 3 hts (kw_V kw595 kw596 kw597 kw1 kcode_MM_since) rfl hrc hrs (by decide +kernel) hR
theorem cw_MM_188 {R : Room} {s : State} {args : Array Value} {c0 : Cond} {rm : Room} {mc ms : Nat} (hts : ∀ w ∈ c0 :: kw_all, w.before args s = true) (hrc : rm.cells = mc) (hrs : rm.slots = ms) (hR : rm.frames + 1 ≤ R.frames ∧ 8 + (4 + 11) + rm.locals ≤ R.locals) : CallW R s args "ModelMerge" "ModelMerge$Version" 188 y_Ve_origin b_Ve_origin 4 (some .int) w_Ve_origin rm mc ms 2 := cwV 2 hts (kw_V kw599 kw504 kw505 kw3 kcode_Ve_origin) rfl hrc hrs (by decide +kernel) hR
theorem cw_La_149 {R : Room} {s : State} {args : Array Value} {c0 : Cond} {rm : Room} {mc ms : Nat} (hts : ∀ w ∈ c0 :: kw_all, w.before args s = true) (hrc : rm.cells = mc) (hrs : rm.slots = ms) (hR : rm.frames + 1 ≤ R.frames ∧ 8 + (5 + 11) + rm.locals ≤ R.locals) : vx_CSW R s args "ModelMergeLaw" 149 y_La_told b_La_told 5 (some .int) [(0, 10, 13, 13)] w_La_told rm mc ms 4 := vx_cwSW 4 hts (kw_Sa kw600 kw601 kw0 kcode_La_told) rfl hrc hrs (by decide +kernel) hR
theorem cw_La_69 {R : Room} {s : State} {args : Array Value} {c0 : Cond} {rm : Room} {mc ms : Nat} (hts : ∀ w ∈ c0 :: kw_all, w.before args s = true) (hrc : rm.cells = mc) (hrs : rm.slots = ms) (hR : rm.frames + 1 ≤ R.frames ∧ 8 + (4 + 11) + rm.locals ≤ R.locals) : CallW R s args "ModelMergeLaw" "ModelMerge" 69 y_MM_told b_MM_told 4 (some .int) w_MM_told rm mc ms 2 := cwV 2 hts (kw_V kw603 kw604 kw605 kw1 kcode_MM_told) rfl hrc hrs (by decide +kernel) hR
theorem cw_La_152 {R : Room} {s : State} {args : Array Value} {c0 : Cond} {rm : Room} {mc ms : Nat} (hts : ∀ w ∈ c0 :: kw_all, w.before args s = true) (hrc : rm.cells = mc) (hrs : rm.slots = ms) (hR : rm.frames + 1 ≤ R.frames ∧ 8 + (4 + 11) + rm.locals ≤ R.locals) : vx_CSW R s args "ModelMergeLaw" 152 y_La_author b_La_author 4 (some .int) [(0, 9, 12, 13)] w_La_author rm mc ms 3 := vx_cwSW 3 hts (kw_Sa kw608 kw609 kw0 kcode_La_author) rfl hrc hrs (by decide +kernel) hR
theorem cw_La_72 {R : Room} {s : State} {args : Array Value} {c0 : Cond} {rm : Room} {mc ms : Nat} (hts : ∀ w ∈ c0 :: kw_all, w.before args s = true) (hrc : rm.cells = mc) (hrs : rm.slots = ms) (hR : rm.frames + 1 ≤ R.frames ∧ 8 + (3 + 11) + rm.locals ≤ R.locals) : CallW R s args "ModelMergeLaw" "ModelMerge" 72 y_MM_author b_MM_author 3 (some .int) w_MM_author rm mc ms 1 := cwV 1 hts (kw_V kw611 kw612 kw613 kw1 kcode_MM_author) rfl hrc hrs (by decide +kernel) hR
theorem cw_La_155 {R : Room} {s : State} {args : Array Value} {c0 : Cond} {rm : Room} {mc ms : Nat} (hts : ∀ w ∈ c0 :: kw_all, w.before args s = true) (hrc : rm.cells = mc) (hrs : rm.slots = ms) (hR : rm.frames + 1 ≤ R.frames ∧ 8 + (4 + 11) + rm.locals ≤ R.locals) : vx_CSW R s args "ModelMergeLaw" 155 y_La_count b_La_count 4 (some .int) [(0, 9, 12, 13)] w_La_count rm mc ms 3 := vx_cwSW 3 hts (kw_Sa kw616 kw617 kw0 kcode_La_count) rfl hrc hrs (by decide +kernel) hR
theorem cw_La_75 {R : Room} {s : State} {args : Array Value} {c0 : Cond} {rm : Room} {mc ms : Nat} (hts : ∀ w ∈ c0 :: kw_all, w.before args s = true) (hrc : rm.cells = mc) (hrs : rm.slots = ms) (hR : rm.frames + 1 ≤ R.frames ∧ 8 + (2 + 11) + rm.locals ≤ R.locals) : CallW R s args "ModelMergeLaw" "ModelMerge" 75 y_MM_count b_MM_count 2 (some .int) w_MM_count rm mc ms 1 := cwV 1 hts (kw_V kw619 kw620 kw621 kw1 kcode_MM_count) rfl hrc hrs (by decide +kernel) hR
theorem cw_La_158 {R : Room} {s : State} {args : Array Value} {c0 : Cond} {rm : Room} {mc ms : Nat} (hts : ∀ w ∈ c0 :: kw_all, w.before args s = true) (hrc : rm.cells = mc) (hrs : rm.slots = ms) (hR : rm.frames + 1 ≤ R.frames ∧ 8 + (6 + 11) + rm.locals ≤ R.locals) : vx_CSW R s args "ModelMergeLaw" 158 y_La_differs b_La_differs 6 (some .int) [(0, 12, 15, 13)] w_La_differs rm mc ms 5 := vx_cwSW 5 hts (kw_Sa kw624 kw625 kw0 kcode_La_differs) rfl hrc hrs (by decide +kernel) hR
theorem cw_La_78 {R : Room} {s : State} {args : Array Value} {c0 : Cond} {rm : Room} {mc ms : Nat} (hts : ∀ w ∈ c0 :: kw_all, w.before args s = true) (hrc : rm.cells = mc) (hrs : rm.slots = ms) (hR : rm.frames + 1 ≤ R.frames ∧ 8 + (9 + 11) + rm.locals ≤ R.locals) : CallW R s args "ModelMergeLaw" "ModelMerge" 78 y_MM_differs b_MM_differs 9 (some .int) w_MM_differs rm mc ms 3 := cwV 3 hts (kw_V kw627 kw628 kw629 kw1 kcode_MM_differs) rfl hrc hrs (by decide +kernel) hR
theorem cw_MM_223 {R : Room} {s : State} {args : Array Value} {c0 : Cond} {rm : Room} {mc ms : Nat} (hts : ∀ w ∈ c0 :: kw_all, w.before args s = true) (hrc : rm.cells = mc) (hrs : rm.slots = ms) (hR : rm.frames + 1 ≤ R.frames ∧ 8 + (4 + 11) + rm.locals ≤ R.locals) : CallB R s args "ModelMerge" 223 y_MM_isDifference b_MM_isDifference 4 (some .boolean) w_MM_isDifference rm mc ms 4 ∧ (Cond.static y_MM_isDifference).before args s = true := cwS 4 hts (kw_S kw631 kw632 kw1 kcode_MM_isDifference) rfl hrc hrs (by decide +kernel) hR
theorem cw_La_161 {R : Room} {s : State} {args : Array Value} {c0 : Cond} {rm : Room} {mc ms : Nat} (hts : ∀ w ∈ c0 :: kw_all, w.before args s = true) (hrc : rm.cells = mc) (hrs : rm.slots = ms) (hR : rm.frames + 1 ≤ R.frames ∧ 8 + (5 + 11) + rm.locals ≤ R.locals) : vx_CSW R s args "ModelMergeLaw" 161 y_La_broken b_La_broken 5 (some .int) [(0, 10, 13, 13)] w_La_broken rm mc ms 4 := vx_cwSW 4 hts (kw_Sa kw634 kw635 kw0 kcode_La_broken) rfl hrc hrs (by decide +kernel) hR
theorem cw_La_81 {R : Room} {s : State} {args : Array Value} {c0 : Cond} {rm : Room} {mc ms : Nat} (hts : ∀ w ∈ c0 :: kw_all, w.before args s = true) (hrc : rm.cells = mc) (hrs : rm.slots = ms) (hR : rm.frames + 1 ≤ R.frames ∧ 8 + (7 + 11) + rm.locals ≤ R.locals) : CallW R s args "ModelMergeLaw" "ModelMerge" 81 y_MM_broken b_MM_broken 7 (some .int) w_MM_broken rm mc ms 2 := cwV 2 hts (kw_V kw637 kw638 kw639 kw1 kcode_MM_broken) rfl hrc hrs (by decide +kernel) hR
theorem cw_MM_227 {R : Room} {s : State} {args : Array Value} {c0 : Cond} {rm : Room} {mc ms : Nat} (hts : ∀ w ∈ c0 :: kw_all, w.before args s = true) (hrc : rm.cells = mc) (hrs : rm.slots = ms) (hR : rm.frames + 1 ≤ R.frames ∧ 8 + (5 + 11) + rm.locals ≤ R.locals) : CallW R s args "ModelMerge" "ModelMerge" 227 y_MM_isBroken b_MM_isBroken 5 (some .boolean) w_MM_isBroken rm mc ms 3 := cwV 3 hts (kw_V kw641 kw643 kws16 kw1 kcode_MM_isBroken) rfl hrc hrs (by decide +kernel) hR
theorem cw_La_87 {R : Room} {s : State} {args : Array Value} {c0 : Cond} {rm : Room} {mc ms : Nat} (hts : ∀ w ∈ c0 :: kw_all, w.before args s = true) (hrc : rm.cells = mc) (hrs : rm.slots = ms) (hR : rm.frames + 1 ≤ R.frames ∧ 8 + (1 + 11) + rm.locals ≤ R.locals) : CallB R s args "ModelMergeLaw" 87 y_Rf_init b_Rf_init 1 none w_Rf_init rm mc ms 0 ∧ y_Rf_init.name = "<init>" ∧ (Cond.instanceMethod y_Rf_init).before args s = true := cwI 0 hts (kw_ws kcode_Rf_init) rfl hrc hrs (hts _ (kc kw5)) (hts _ (kc kw647)) (hts _ (kc kw648)) rfl (by decide +kernel) hR
theorem cw_La_94 {R : Room} {s : State} {args : Array Value} {c0 : Cond} {rm : Room} {mc ms : Nat} (hts : ∀ w ∈ c0 :: kw_all, w.before args s = true) (hrc : rm.cells = mc) (hrs : rm.slots = ms) (hR : rm.frames + 1 ≤ R.frames ∧ 8 + (1 + 11) + rm.locals ≤ R.locals) : CallW R s args "ModelMergeLaw" "ModelMergeModel" 94 y_Rf_thrown b_Rf_thrown 1 (some .int) w_Rf_thrown rm mc ms 0 := cwV 0 hts (kw_V kw746 kw747 kw748 kw5 kcode_Rf_thrown) rfl hrc hrs (by decide +kernel) hR
theorem cw_La_93 {R : Room} {s : State} {args : Array Value} {c0 : Cond} {rm : Room} {mc ms : Nat} (hts : ∀ w ∈ c0 :: kw_all, w.before args s = true) (hrc : rm.cells = mc) (hrs : rm.slots = ms) (hR : rm.frames + 1 ≤ R.frames ∧ 8 + (3 + 11) + rm.locals ≤ R.locals) : CallW R s args "ModelMergeLaw" "ModelMergeModel" 93 y_Rf_session b_Rf_session 3 (some .int) w_Rf_session rm mc ms 2 := cwV 2 hts (kw_V kw750 kw751 kw752 kw5 kcode_Rf_session) rfl hrc hrs (by decide +kernel) hR
theorem cw_Rf_101 {R : Room} {s : State} {args : Array Value} {c0 : Cond} {rm : Room} {mc ms : Nat} (hts : ∀ w ∈ c0 :: kw_all, w.before args s = true) (hrc : rm.cells = mc) (hrs : rm.slots = ms) (hR : rm.frames + 1 ≤ R.frames ∧ 8 + (2 + 11) + rm.locals ≤ R.locals) : CallB R s args "ModelMergeModel" 101 y_Rf_isIn b_Rf_isIn 2 (some .boolean) w_Rf_isIn rm mc ms 2 ∧ (Cond.static y_Rf_isIn).before args s = true := cwS 2 hts (kw_S kw754 kw755 kw5 kcode_Rf_isIn) rfl hrc hrs (by decide +kernel) hR
theorem cw_Rf_108 {R : Room} {s : State} {args : Array Value} {c0 : Cond} {rm : Room} {mc ms : Nat} (hts : ∀ w ∈ c0 :: kw_all, w.before args s = true) (hrc : rm.cells = mc) (hrs : rm.slots = ms) (hR : rm.frames + 1 ≤ R.frames ∧ 8 + (3 + 11) + rm.locals ≤ R.locals) : CallW R s args "ModelMergeModel" "ModelMergeModel" 108 y_Rf_goes b_Rf_goes 3 (some .boolean) w_Rf_goes rm mc ms 2 := cwV 2 hts (kw_V kw757 kw759 kws17 kw5 kcode_Rf_goes) rfl hrc hrs (by decide +kernel) hR
theorem cw_La_99 {R : Room} {s : State} {args : Array Value} {c0 : Cond} {rm : Room} {mc ms : Nat} (hts : ∀ w ∈ c0 :: kw_all, w.before args s = true) (hrc : rm.cells = mc) (hrs : rm.slots = ms) (hR : rm.frames + 1 ≤ R.frames ∧ 8 + (4 + 11) + rm.locals ≤ R.locals) : CallW R s args "ModelMergeLaw" "ModelMergeModel" 99 y_Rf_make b_Rf_make 4 (some .int) w_Rf_make rm mc ms 2 := cwV 2 hts (kw_V kw761 kw762 kw763 kw5 kcode_Rf_make) rfl hrc hrs (by decide +kernel) hR
theorem cw_Rf_112 {R : Room} {s : State} {args : Array Value} {c0 : Cond} {rm : Room} {mc ms : Nat} (hts : ∀ w ∈ c0 :: kw_all, w.before args s = true) (hrc : rm.cells = mc) (hrs : rm.slots = ms) (hR : rm.frames + 1 ≤ R.frames ∧ 8 + (2 + 11) + rm.locals ≤ R.locals) : CallW R s args "ModelMergeModel" "ModelMergeModel" 112 y_Rf_isOpen b_Rf_isOpen 2 (some .boolean) w_Rf_isOpen rm mc ms 1 := cwV 1 hts (kw_V kw765 kw767 kws18 kw5 kcode_Rf_isOpen) rfl hrc hrs (by decide +kernel) hR
theorem cw_Rf_119 {R : Room} {s : State} {args : Array Value} {c0 : Cond} {rm : Room} {mc ms : Nat} (hts : ∀ w ∈ c0 :: kw_all, w.before args s = true) (hrc : rm.cells = mc) (hrs : rm.slots = ms) (hR : rm.frames + 1 ≤ R.frames ∧ 8 + (8 + 11) + rm.locals ≤ R.locals) : CallW R s args "ModelMergeModel" "ModelMergeModel" 119 y_Rf_change b_Rf_change 8 (some .int) w_Rf_change rm mc ms 5 := cwV 5 hts (kw_V kw769 kw771 kws19 kw5 kcode_Rf_change) rfl hrc hrs (by decide +kernel) hR
theorem cw_La_103 {R : Room} {s : State} {args : Array Value} {c0 : Cond} {rm : Room} {mc ms : Nat} (hts : ∀ w ∈ c0 :: kw_all, w.before args s = true) (hrc : rm.cells = mc) (hrs : rm.slots = ms) (hR : rm.frames + 1 ≤ R.frames ∧ 8 + (6 + 11) + rm.locals ≤ R.locals) : CallW R s args "ModelMergeLaw" "ModelMergeModel" 103 y_Rf_set b_Rf_set 6 (some .int) w_Rf_set rm mc ms 4 := cwV 4 hts (kw_V kw773 kw774 kw775 kw5 kcode_Rf_set) rfl hrc hrs (by decide +kernel) hR
theorem cw_Rf_126 {R : Room} {s : State} {args : Array Value} {c0 : Cond} {rm : Room} {mc ms : Nat} (hts : ∀ w ∈ c0 :: kw_all, w.before args s = true) (hrc : rm.cells = mc) (hrs : rm.slots = ms) (hR : rm.frames + 1 ≤ R.frames ∧ 8 + (4 + 11) + rm.locals ≤ R.locals) : CallW R s args "ModelMergeModel" "ModelMergeModel" 126 y_Rf_barred b_Rf_barred 4 (some .int) w_Rf_barred rm mc ms 2 := cwV 2 hts (kw_V kw777 kw779 kws20 kw5 kcode_Rf_barred) rfl hrc hrs (by decide +kernel) hR
theorem cw_Rf_123 {R : Room} {s : State} {args : Array Value} {c0 : Cond} {rm : Room} {mc ms : Nat} (hts : ∀ w ∈ c0 :: kw_all, w.before args s = true) (hrc : rm.cells = mc) (hrs : rm.slots = ms) (hR : rm.frames + 1 ≤ R.frames ∧ 8 + (3 + 11) + rm.locals ≤ R.locals) : CallW R s args "ModelMergeModel" "ModelMergeModel" 123 y_Rf_isHere b_Rf_isHere 3 (some .boolean) w_Rf_isHere rm mc ms 2 := cwV 2 hts (kw_V kw781 kw783 kws21 kw5 kcode_Rf_isHere) rfl hrc hrs (by decide +kernel) hR
theorem cw_Rf_93 {R : Room} {s : State} {args : Array Value} {c0 : Cond} {rm : Room} {mc ms : Nat} (hts : ∀ w ∈ c0 :: kw_all, w.before args s = true) (hrc : rm.cells = mc) (hrs : rm.slots = ms) (hR : rm.frames + 1 ≤ R.frames ∧ 8 + (6 + 11) + rm.locals ≤ R.locals) : CallW R s args "ModelMergeModel" "ModelMergeModel" 93 y_Rf_isAt b_Rf_isAt 6 (some .boolean) w_Rf_isAt rm mc ms 3 := cwV 3 hts (kw_V kw785 kw787 kws22 kw5 kcode_Rf_isAt) rfl hrc hrs (by decide +kernel) hR
theorem cw_La_106 {R : Room} {s : State} {args : Array Value} {c0 : Cond} {rm : Room} {mc ms : Nat} (hts : ∀ w ∈ c0 :: kw_all, w.before args s = true) (hrc : rm.cells = mc) (hrs : rm.slots = ms) (hR : rm.frames + 1 ≤ R.frames ∧ 8 + (4 + 11) + rm.locals ≤ R.locals) : CallW R s args "ModelMergeLaw" "ModelMergeModel" 106 y_Rf_drop b_Rf_drop 4 (some .int) w_Rf_drop rm mc ms 2 := cwV 2 hts (kw_V kw789 kw790 kw791 kw5 kcode_Rf_drop) rfl hrc hrs (by decide +kernel) hR
theorem cw_La_110 {R : Room} {s : State} {args : Array Value} {c0 : Cond} {rm : Room} {mc ms : Nat} (hts : ∀ w ∈ c0 :: kw_all, w.before args s = true) (hrc : rm.cells = mc) (hrs : rm.slots = ms) (hR : rm.frames + 1 ≤ R.frames ∧ 8 + (3 + 11) + rm.locals ≤ R.locals) : CallW R s args "ModelMergeLaw" "ModelMergeModel" 110 y_Rf_undo b_Rf_undo 3 (some .int) w_Rf_undo rm mc ms 1 := cwV 1 hts (kw_V kw793 kw794 kw795 kw5 kcode_Rf_undo) rfl hrc hrs (by decide +kernel) hR
theorem cw_La_113 {R : Room} {s : State} {args : Array Value} {c0 : Cond} {rm : Room} {mc ms : Nat} (hts : ∀ w ∈ c0 :: kw_all, w.before args s = true) (hrc : rm.cells = mc) (hrs : rm.slots = ms) (hR : rm.frames + 1 ≤ R.frames ∧ 8 + (3 + 11) + rm.locals ≤ R.locals) : CallW R s args "ModelMergeLaw" "ModelMergeModel" 113 y_Rf_redo b_Rf_redo 3 (some .int) w_Rf_redo rm mc ms 1 := cwV 1 hts (kw_V kw797 kw798 kw799 kw5 kcode_Rf_redo) rfl hrc hrs (by decide +kernel) hR
theorem cw_La_116 {R : Room} {s : State} {args : Array Value} {c0 : Cond} {rm : Room} {mc ms : Nat} (hts : ∀ w ∈ c0 :: kw_all, w.before args s = true) (hrc : rm.cells = mc) (hrs : rm.slots = ms) (hR : rm.frames + 1 ≤ R.frames ∧ 8 + (4 + 11) + rm.locals ≤ R.locals) : CallW R s args "ModelMergeLaw" "ModelMergeModel" 116 y_Rf_lock b_Rf_lock 4 (some .int) w_Rf_lock rm mc ms 2 := cwV 2 hts (kw_V kw801 kw802 kw803 kw5 kcode_Rf_lock) rfl hrc hrs (by decide +kernel) hR
theorem cw_La_120 {R : Room} {s : State} {args : Array Value} {c0 : Cond} {rm : Room} {mc ms : Nat} (hts : ∀ w ∈ c0 :: kw_all, w.before args s = true) (hrc : rm.cells = mc) (hrs : rm.slots = ms) (hR : rm.frames + 1 ≤ R.frames ∧ 8 + (4 + 11) + rm.locals ≤ R.locals) : CallW R s args "ModelMergeLaw" "ModelMergeModel" 120 y_Rf_rule b_Rf_rule 4 (some .int) w_Rf_rule rm mc ms 3 := cwV 3 hts (kw_V kw805 kw806 kw807 kw5 kcode_Rf_rule) rfl hrc hrs (by decide +kernel) hR
theorem cw_La_123 {R : Room} {s : State} {args : Array Value} {c0 : Cond} {rm : Room} {mc ms : Nat} (hts : ∀ w ∈ c0 :: kw_all, w.before args s = true) (hrc : rm.cells = mc) (hrs : rm.slots = ms) (hR : rm.frames + 1 ≤ R.frames ∧ 8 + (3 + 11) + rm.locals ≤ R.locals) : CallW R s args "ModelMergeLaw" "ModelMergeModel" 123 y_Rf_join b_Rf_join 3 (some .int) w_Rf_join rm mc ms 1 := cwV 1 hts (kw_V kw809 kw810 kw811 kw5 kcode_Rf_join) rfl hrc hrs (by decide +kernel) hR
theorem cw_Rf_155 {R : Room} {s : State} {args : Array Value} {c0 : Cond} {rm : Room} {mc ms : Nat} (hts : ∀ w ∈ c0 :: kw_all, w.before args s = true) (hrc : rm.cells = mc) (hrs : rm.slots = ms) (hR : rm.frames + 1 ≤ R.frames ∧ 8 + (14 + 11) + rm.locals ≤ R.locals) : CallW R s args "ModelMergeModel" "ModelMergeModel" 155 y_Rf_find b_Rf_find 14 none w_Rf_find rm mc ms 2 := cwV 2 hts (kw_V kw813 kw815 kws23 kw5 kcode_Rf_find) rfl hrc hrs (by decide +kernel) hR
theorem cw_Rf_133 {R : Room} {s : State} {args : Array Value} {c0 : Cond} {rm : Room} {mc ms : Nat} (hts : ∀ w ∈ c0 :: kw_all, w.before args s = true) (hrc : rm.cells = mc) (hrs : rm.slots = ms) (hR : rm.frames + 1 ≤ R.frames ∧ 8 + (2 + 11) + rm.locals ≤ R.locals) : CallW R s args "ModelMergeModel" "ModelMergeModel" 133 y_Rf_mine b_Rf_mine 2 (some .int) w_Rf_mine rm mc ms 1 := cwV 1 hts (kw_V kw817 kw819 kws24 kw5 kcode_Rf_mine) rfl hrc hrs (by decide +kernel) hR
theorem cw_Rf_137 {R : Room} {s : State} {args : Array Value} {c0 : Cond} {rm : Room} {mc ms : Nat} (hts : ∀ w ∈ c0 :: kw_all, w.before args s = true) (hrc : rm.cells = mc) (hrs : rm.slots = ms) (hR : rm.frames + 1 ≤ R.frames ∧ 8 + (4 + 11) + rm.locals ≤ R.locals) : CallW R s args "ModelMergeModel" "ModelMergeModel" 137 y_Rf_here1 b_Rf_here1 4 (some .int) w_Rf_here1 rm mc ms 3 := cwV 3 hts (kw_V kw821 kw823 kws25 kw5 kcode_Rf_here1) rfl hrc hrs (by decide +kernel) hR
theorem cw_Rf_97 {R : Room} {s : State} {args : Array Value} {c0 : Cond} {rm : Room} {mc ms : Nat} (hts : ∀ w ∈ c0 :: kw_all, w.before args s = true) (hrc : rm.cells = mc) (hrs : rm.slots = ms) (hR : rm.frames + 1 ≤ R.frames ∧ 8 + (7 + 11) + rm.locals ≤ R.locals) : CallW R s args "ModelMergeModel" "ModelMergeModel" 97 y_Rf_valueAt b_Rf_valueAt 7 (some .int) w_Rf_valueAt rm mc ms 4 := cwV 4 hts (kw_V kw825 kw827 kws26 kw5 kcode_Rf_valueAt) rfl hrc hrs (by decide +kernel) hR
theorem cw_Rf_158 {R : Room} {s : State} {args : Array Value} {c0 : Cond} {rm : Room} {mc ms : Nat} (hts : ∀ w ∈ c0 :: kw_all, w.before args s = true) (hrc : rm.cells = mc) (hrs : rm.slots = ms) (hR : rm.frames + 1 ≤ R.frames ∧ 8 + (3 + 11) + rm.locals ≤ R.locals) : CallW R s args "ModelMergeModel" "ModelMergeModel" 158 y_Rf_finish b_Rf_finish 3 none w_Rf_finish rm mc ms 1 := cwV 1 hts (kw_V kw829 kw831 kws27 kw5 kcode_Rf_finish) rfl hrc hrs (by decide +kernel) hR
theorem cw_Rf_151 {R : Room} {s : State} {args : Array Value} {c0 : Cond} {rm : Room} {mc ms : Nat} (hts : ∀ w ∈ c0 :: kw_all, w.before args s = true) (hrc : rm.cells = mc) (hrs : rm.slots = ms) (hR : rm.frames + 1 ≤ R.frames ∧ 8 + (12 + 11) + rm.locals ≤ R.locals) : CallW R s args "ModelMergeModel" "ModelMergeModel" 151 y_Rf_merge b_Rf_merge 12 none w_Rf_merge rm mc ms 2 := cwV 2 hts (kw_V kw833 kw835 kws28 kw5 kcode_Rf_merge) rfl hrc hrs (by decide +kernel) hR
theorem cw_Rf_144 {R : Room} {s : State} {args : Array Value} {c0 : Cond} {rm : Room} {mc ms : Nat} (hts : ∀ w ∈ c0 :: kw_all, w.before args s = true) (hrc : rm.cells = mc) (hrs : rm.slots = ms) (hR : rm.frames + 1 ≤ R.frames ∧ 8 + (5 + 11) + rm.locals ≤ R.locals) : CallW R s args "ModelMergeModel" "ModelMergeModel" 144 y_Rf_sideOf b_Rf_sideOf 5 (some .int) w_Rf_sideOf rm mc ms 2 := cwV 2 hts (kw_V kw837 kw839 kws29 kw5 kcode_Rf_sideOf) rfl hrc hrs (by decide +kernel) hR
theorem cw_Rf_147 {R : Room} {s : State} {args : Array Value} {c0 : Cond} {rm : Room} {mc ms : Nat} (hts : ∀ w ∈ c0 :: kw_all, w.before args s = true) (hrc : rm.cells = mc) (hrs : rm.slots = ms) (hR : rm.frames + 1 ≤ R.frames ∧ 8 + (6 + 11) + rm.locals ≤ R.locals) : CallW R s args "ModelMergeModel" "ModelMergeModel" 147 y_Rf_take b_Rf_take 6 none w_Rf_take rm mc ms 3 := cwV 3 hts (kw_V kw841 kw843 kws30 kw5 kcode_Rf_take) rfl hrc hrs (by decide +kernel) hR
theorem cw_La_126 {R : Room} {s : State} {args : Array Value} {c0 : Cond} {rm : Room} {mc ms : Nat} (hts : ∀ w ∈ c0 :: kw_all, w.before args s = true) (hrc : rm.cells = mc) (hrs : rm.slots = ms) (hR : rm.frames + 1 ≤ R.frames ∧ 8 + (6 + 11) + rm.locals ≤ R.locals) : CallW R s args "ModelMergeLaw" "ModelMergeModel" 126 y_Rf_conflict b_Rf_conflict 6 (some .int) w_Rf_conflict rm mc ms 2 := cwV 2 hts (kw_V kw845 kw846 kw847 kw5 kcode_Rf_conflict) rfl hrc hrs (by decide +kernel) hR
theorem cw_La_129 {R : Room} {s : State} {args : Array Value} {c0 : Cond} {rm : Room} {mc ms : Nat} (hts : ∀ w ∈ c0 :: kw_all, w.before args s = true) (hrc : rm.cells = mc) (hrs : rm.slots = ms) (hR : rm.frames + 1 ≤ R.frames ∧ 8 + (5 + 11) + rm.locals ≤ R.locals) : CallW R s args "ModelMergeLaw" "ModelMergeModel" 129 y_Rf_settle b_Rf_settle 5 (some .int) w_Rf_settle rm mc ms 2 := cwV 2 hts (kw_V kw849 kw850 kw851 kw5 kcode_Rf_settle) rfl hrc hrs (by decide +kernel) hR
theorem cw_La_133 {R : Room} {s : State} {args : Array Value} {c0 : Cond} {rm : Room} {mc ms : Nat} (hts : ∀ w ∈ c0 :: kw_all, w.before args s = true) (hrc : rm.cells = mc) (hrs : rm.slots = ms) (hR : rm.frames + 1 ≤ R.frames ∧ 8 + (2 + 11) + rm.locals ≤ R.locals) : CallW R s args "ModelMergeLaw" "ModelMergeModel" 133 y_Rf_giveUp b_Rf_giveUp 2 (some .int) w_Rf_giveUp rm mc ms 0 := cwV 0 hts (kw_V kw853 kw854 kw855 kw5 kcode_Rf_giveUp) rfl hrc hrs (by decide +kernel) hR
theorem cw_La_136 {R : Room} {s : State} {args : Array Value} {c0 : Cond} {rm : Room} {mc ms : Nat} (hts : ∀ w ∈ c0 :: kw_all, w.before args s = true) (hrc : rm.cells = mc) (hrs : rm.slots = ms) (hR : rm.frames + 1 ≤ R.frames ∧ 8 + (3 + 11) + rm.locals ≤ R.locals) : CallW R s args "ModelMergeLaw" "ModelMergeModel" 136 y_Rf_here2 b_Rf_here2 3 (some .int) w_Rf_here2 rm mc ms 2 := cwV 2 hts (kw_V kw857 kw858 kw859 kw5 kcode_Rf_here2) rfl hrc hrs (by decide +kernel) hR
theorem cw_La_139 {R : Room} {s : State} {args : Array Value} {c0 : Cond} {rm : Room} {mc ms : Nat} (hts : ∀ w ∈ c0 :: kw_all, w.before args s = true) (hrc : rm.cells = mc) (hrs : rm.slots = ms) (hR : rm.frames + 1 ≤ R.frames ∧ 8 + (5 + 11) + rm.locals ≤ R.locals) : CallW R s args "ModelMergeLaw" "ModelMergeModel" 139 y_Rf_now b_Rf_now 5 (some .int) w_Rf_now rm mc ms 3 := cwV 3 hts (kw_V kw861 kw862 kw863 kw5 kcode_Rf_now) rfl hrc hrs (by decide +kernel) hR
theorem cw_La_142 {R : Room} {s : State} {args : Array Value} {c0 : Cond} {rm : Room} {mc ms : Nat} (hts : ∀ w ∈ c0 :: kw_all, w.before args s = true) (hrc : rm.cells = mc) (hrs : rm.slots = ms) (hR : rm.frames + 1 ≤ R.frames ∧ 8 + (7 + 11) + rm.locals ≤ R.locals) : CallW R s args "ModelMergeLaw" "ModelMergeModel" 142 y_Rf_there b_Rf_there 7 (some .int) w_Rf_there rm mc ms 3 := cwV 3 hts (kw_V kw865 kw866 kw867 kw5 kcode_Rf_there) rfl hrc hrs (by decide +kernel) hR
theorem cw_Rf_162 {R : Room} {s : State} {args : Array Value} {c0 : Cond} {rm : Room} {mc ms : Nat} (hts : ∀ w ∈ c0 :: kw_all, w.before args s = true) (hrc : rm.cells = mc) (hrs : rm.slots = ms) (hR : rm.frames + 1 ≤ R.frames ∧ 8 + (3 + 11) + rm.locals ≤ R.locals) : CallW R s args "ModelMergeModel" "ModelMergeModel" 162 y_Rf_isThere b_Rf_isThere 3 (some .boolean) w_Rf_isThere rm mc ms 2 := cwV 2 hts (kw_V kw869 kw871 kws31 kw5 kcode_Rf_isThere) rfl hrc hrs (by decide +kernel) hR
theorem cw_La_145 {R : Room} {s : State} {args : Array Value} {c0 : Cond} {rm : Room} {mc ms : Nat} (hts : ∀ w ∈ c0 :: kw_all, w.before args s = true) (hrc : rm.cells = mc) (hrs : rm.slots = ms) (hR : rm.frames + 1 ≤ R.frames ∧ 8 + (4 + 11) + rm.locals ≤ R.locals) : CallW R s args "ModelMergeLaw" "ModelMergeModel" 145 y_Rf_at b_Rf_at 4 (some .int) w_Rf_at rm mc ms 3 := cwV 3 hts (kw_V kw873 kw874 kw875 kw5 kcode_Rf_at) rfl hrc hrs (by decide +kernel) hR
theorem cw_La_148 {R : Room} {s : State} {args : Array Value} {c0 : Cond} {rm : Room} {mc ms : Nat} (hts : ∀ w ∈ c0 :: kw_all, w.before args s = true) (hrc : rm.cells = mc) (hrs : rm.slots = ms) (hR : rm.frames + 1 ≤ R.frames ∧ 8 + (4 + 11) + rm.locals ≤ R.locals) : CallW R s args "ModelMergeLaw" "ModelMergeModel" 148 y_Rf_since b_Rf_since 4 (some .int) w_Rf_since rm mc ms 3 := cwV 3 hts (kw_V kw877 kw878 kw879 kw5 kcode_Rf_since) rfl hrc hrs (by decide +kernel) hR
theorem cw_La_151 {R : Room} {s : State} {args : Array Value} {c0 : Cond} {rm : Room} {mc ms : Nat} (hts : ∀ w ∈ c0 :: kw_all, w.before args s = true) (hrc : rm.cells = mc) (hrs : rm.slots = ms) (hR : rm.frames + 1 ≤ R.frames ∧ 8 + (3 + 11) + rm.locals ≤ R.locals) : CallW R s args "ModelMergeLaw" "ModelMergeModel" 151 y_Rf_told b_Rf_told 3 (some .int) w_Rf_told rm mc ms 2 := cwV 2 hts (kw_V kw881 kw882 kw883 kw5 kcode_Rf_told) rfl hrc hrs (by decide +kernel) hR
theorem cw_La_154 {R : Room} {s : State} {args : Array Value} {c0 : Cond} {rm : Room} {mc ms : Nat} (hts : ∀ w ∈ c0 :: kw_all, w.before args s = true) (hrc : rm.cells = mc) (hrs : rm.slots = ms) (hR : rm.frames + 1 ≤ R.frames ∧ 8 + (2 + 11) + rm.locals ≤ R.locals) : CallW R s args "ModelMergeLaw" "ModelMergeModel" 154 y_Rf_author b_Rf_author 2 (some .int) w_Rf_author rm mc ms 1 := cwV 1 hts (kw_V kw885 kw886 kw887 kw5 kcode_Rf_author) rfl hrc hrs (by decide +kernel) hR
theorem cw_La_157 {R : Room} {s : State} {args : Array Value} {c0 : Cond} {rm : Room} {mc ms : Nat} (hts : ∀ w ∈ c0 :: kw_all, w.before args s = true) (hrc : rm.cells = mc) (hrs : rm.slots = ms) (hR : rm.frames + 1 ≤ R.frames ∧ 8 + (2 + 11) + rm.locals ≤ R.locals) : CallW R s args "ModelMergeLaw" "ModelMergeModel" 157 y_Rf_count b_Rf_count 2 (some .int) w_Rf_count rm mc ms 1 := cwV 1 hts (kw_V kw889 kw890 kw891 kw5 kcode_Rf_count) rfl hrc hrs (by decide +kernel) hR
theorem cw_La_160 {R : Room} {s : State} {args : Array Value} {c0 : Cond} {rm : Room} {mc ms : Nat} (hts : ∀ w ∈ c0 :: kw_all, w.before args s = true) (hrc : rm.cells = mc) (hrs : rm.slots = ms) (hR : rm.frames + 1 ≤ R.frames ∧ 8 + (10 + 11) + rm.locals ≤ R.locals) : CallW R s args "ModelMergeLaw" "ModelMergeModel" 160 y_Rf_differs b_Rf_differs 10 (some .int) w_Rf_differs rm mc ms 3 := cwV 3 hts (kw_V kw893 kw894 kw895 kw5 kcode_Rf_differs) rfl hrc hrs (by decide +kernel) hR
theorem cw_La_163 {R : Room} {s : State} {args : Array Value} {c0 : Cond} {rm : Room} {mc ms : Nat} (hts : ∀ w ∈ c0 :: kw_all, w.before args s = true) (hrc : rm.cells = mc) (hrs : rm.slots = ms) (hR : rm.frames + 1 ≤ R.frames ∧ 8 + (8 + 11) + rm.locals ≤ R.locals) : CallW R s args "ModelMergeLaw" "ModelMergeModel" 163 y_Rf_broken b_Rf_broken 8 (some .int) w_Rf_broken rm mc ms 2 := cwV 2 hts (kw_V kw897 kw898 kw899 kw5 kcode_Rf_broken) rfl hrc hrs (by decide +kernel) hR
end
