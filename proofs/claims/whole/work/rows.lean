section
-- ===== PART A: goes FIRST, ahead of the names: the tables' words, and 'selects' of the private methods out of them =====
/-- a private method of a class that the tables say can be made, by its rows of tables_1 -/
def lw_okq (q : MethodName × Nat) : Prop := (q.1.cls ≠ "java/lang/invoke/MethodHandle" ∧ q.1.cls ≠ "java/lang/invoke/VarHandle") ∧ Cond.instantiable q.1.cls q.2 ∈ tables_1 ∧ Cond.privateMethod q.1 ∈ tables_1 ∧ Cond.instanceMethod q.1 ∈ tables_1
theorem lw_p0 : lw_okq (⟨"SortingLine", "answerOf", "(I)I"⟩, 5) := ⟨⟨by decide +kernel, by decide +kernel⟩, List.mem_of_getElem? (i := 17) (by decide +kernel), List.mem_of_getElem? (i := 167) (by decide +kernel), List.mem_of_getElem? (i := 168) (by decide +kernel)⟩
theorem lw_p1 : lw_okq (⟨"SortingLine", "refusalOf", "(IIII)I"⟩, 5) := ⟨⟨by decide +kernel, by decide +kernel⟩, List.mem_of_getElem? (i := 17) (by decide +kernel), List.mem_of_getElem? (i := 179) (by decide +kernel), List.mem_of_getElem? (i := 180) (by decide +kernel)⟩
theorem lw_p2 : lw_okq (⟨"SortingLine", "findingAt", "(III)I"⟩, 5) := ⟨⟨by decide +kernel, by decide +kernel⟩, List.mem_of_getElem? (i := 17) (by decide +kernel), List.mem_of_getElem? (i := 224) (by decide +kernel), List.mem_of_getElem? (i := 225) (by decide +kernel)⟩
theorem lw_p3 : lw_okq (⟨"SortingLine", "layInto", "(IIII)I"⟩, 5) := ⟨⟨by decide +kernel, by decide +kernel⟩, List.mem_of_getElem? (i := 17) (by decide +kernel), List.mem_of_getElem? (i := 244) (by decide +kernel), List.mem_of_getElem? (i := 245) (by decide +kernel)⟩
theorem lw_p4 : lw_okq (⟨"SortingLine", "stationFor", "(I)I"⟩, 5) := ⟨⟨by decide +kernel, by decide +kernel⟩, List.mem_of_getElem? (i := 17) (by decide +kernel), List.mem_of_getElem? (i := 288) (by decide +kernel), List.mem_of_getElem? (i := 289) (by decide +kernel)⟩
theorem lw_p5 : lw_okq (⟨"SortingLine", "workOn", "(II)I"⟩, 5) := ⟨⟨by decide +kernel, by decide +kernel⟩, List.mem_of_getElem? (i := 17) (by decide +kernel), List.mem_of_getElem? (i := 308) (by decide +kernel), List.mem_of_getElem? (i := 309) (by decide +kernel)⟩
theorem lw_p6 : lw_okq (⟨"SortingLine", "weigh", "(II)I"⟩, 5) := ⟨⟨by decide +kernel, by decide +kernel⟩, List.mem_of_getElem? (i := 17) (by decide +kernel), List.mem_of_getElem? (i := 319) (by decide +kernel), List.mem_of_getElem? (i := 320) (by decide +kernel)⟩
theorem lw_p7 : lw_okq (⟨"SortingLine", "keep", "(II)I"⟩, 5) := ⟨⟨by decide +kernel, by decide +kernel⟩, List.mem_of_getElem? (i := 17) (by decide +kernel), List.mem_of_getElem? (i := 327) (by decide +kernel), List.mem_of_getElem? (i := 328) (by decide +kernel)⟩
theorem lw_p8 : lw_okq (⟨"SortingLine", "grow", "(IJ)I"⟩, 5) := ⟨⟨by decide +kernel, by decide +kernel⟩, List.mem_of_getElem? (i := 17) (by decide +kernel), List.mem_of_getElem? (i := 341) (by decide +kernel), List.mem_of_getElem? (i := 342) (by decide +kernel)⟩
theorem lw_p9 : lw_okq (⟨"SortingLine", "addMembers", "(III)I"⟩, 5) := ⟨⟨by decide +kernel, by decide +kernel⟩, List.mem_of_getElem? (i := 17) (by decide +kernel), List.mem_of_getElem? (i := 354) (by decide +kernel), List.mem_of_getElem? (i := 355) (by decide +kernel)⟩
theorem lw_p10 : lw_okq (⟨"SortingLine", "pack", "(II)I"⟩, 5) := ⟨⟨by decide +kernel, by decide +kernel⟩, List.mem_of_getElem? (i := 17) (by decide +kernel), List.mem_of_getElem? (i := 358) (by decide +kernel), List.mem_of_getElem? (i := 359) (by decide +kernel)⟩
theorem lw_p11 : lw_okq (⟨"SortingLine", "addCorner", "(III)I"⟩, 5) := ⟨⟨by decide +kernel, by decide +kernel⟩, List.mem_of_getElem? (i := 17) (by decide +kernel), List.mem_of_getElem? (i := 366) (by decide +kernel), List.mem_of_getElem? (i := 367) (by decide +kernel)⟩
theorem lw_p12 : lw_okq (⟨"SortingLine", "findingAtFirst", "(I)I"⟩, 5) := ⟨⟨by decide +kernel, by decide +kernel⟩, List.mem_of_getElem? (i := 17) (by decide +kernel), List.mem_of_getElem? (i := 370) (by decide +kernel), List.mem_of_getElem? (i := 371) (by decide +kernel)⟩
theorem lw_p13 : lw_okq (⟨"SortingLine", "addCell", "(II)I"⟩, 5) := ⟨⟨by decide +kernel, by decide +kernel⟩, List.mem_of_getElem? (i := 17) (by decide +kernel), List.mem_of_getElem? (i := 374) (by decide +kernel), List.mem_of_getElem? (i := 375) (by decide +kernel)⟩
theorem lw_p14 : lw_okq (⟨"SortingLine", "spill", "(I)I"⟩, 5) := ⟨⟨by decide +kernel, by decide +kernel⟩, List.mem_of_getElem? (i := 17) (by decide +kernel), List.mem_of_getElem? (i := 379) (by decide +kernel), List.mem_of_getElem? (i := 380) (by decide +kernel)⟩
theorem lw_p15 : lw_okq (⟨"java/lang/Throwable", "fillInStackTrace", "(I)Ljava/lang/Throwable;"⟩, 6) := ⟨⟨by decide +kernel, by decide +kernel⟩, List.mem_of_getElem? (i := 497) (by decide +kernel), List.mem_of_getElem? (i := 495) (by decide +kernel), List.mem_of_getElem? (i := 496) (by decide +kernel)⟩
def lw_privs_1 : List (MethodName × Nat) := [(⟨"SortingLine", "answerOf", "(I)I"⟩, 5), (⟨"SortingLine", "refusalOf", "(IIII)I"⟩, 5), (⟨"SortingLine", "findingAt", "(III)I"⟩, 5), (⟨"SortingLine", "layInto", "(IIII)I"⟩, 5), (⟨"SortingLine", "stationFor", "(I)I"⟩, 5), (⟨"SortingLine", "workOn", "(II)I"⟩, 5), (⟨"SortingLine", "weigh", "(II)I"⟩, 5), (⟨"SortingLine", "keep", "(II)I"⟩, 5), (⟨"SortingLine", "grow", "(IJ)I"⟩, 5), (⟨"SortingLine", "addMembers", "(III)I"⟩, 5), (⟨"SortingLine", "pack", "(II)I"⟩, 5), (⟨"SortingLine", "addCorner", "(III)I"⟩, 5), (⟨"SortingLine", "findingAtFirst", "(I)I"⟩, 5), (⟨"SortingLine", "addCell", "(II)I"⟩, 5), (⟨"SortingLine", "spill", "(I)I"⟩, 5), (⟨"java/lang/Throwable", "fillInStackTrace", "(I)Ljava/lang/Throwable;"⟩, 6)]
theorem lw_r1 : ∀ q ∈ lw_privs_1, lw_okq q := List.forall_mem_cons.mpr ⟨lw_p0, List.forall_mem_cons.mpr ⟨lw_p1, List.forall_mem_cons.mpr ⟨lw_p2, List.forall_mem_cons.mpr ⟨lw_p3, List.forall_mem_cons.mpr ⟨lw_p4, List.forall_mem_cons.mpr ⟨lw_p5, List.forall_mem_cons.mpr ⟨lw_p6, List.forall_mem_cons.mpr ⟨lw_p7, List.forall_mem_cons.mpr ⟨lw_p8, List.forall_mem_cons.mpr ⟨lw_p9, List.forall_mem_cons.mpr ⟨lw_p10, List.forall_mem_cons.mpr ⟨lw_p11, List.forall_mem_cons.mpr ⟨lw_p12, List.forall_mem_cons.mpr ⟨lw_p13, List.forall_mem_cons.mpr ⟨lw_p14, List.forall_mem_cons.mpr ⟨lw_p15, fun _ h => absurd h List.not_mem_nil⟩⟩⟩⟩⟩⟩⟩⟩⟩⟩⟩⟩⟩⟩⟩⟩
theorem lw_p16 : lw_okq (⟨"SortingLineModel", "adds", "(III)I"⟩, 23) := ⟨⟨by decide +kernel, by decide +kernel⟩, List.mem_of_getElem? (i := 570) (by decide +kernel), List.mem_of_getElem? (i := 660) (by decide +kernel), List.mem_of_getElem? (i := 661) (by decide +kernel)⟩
theorem lw_p17 : lw_okq (⟨"SortingLineModel", "found", "(I)I"⟩, 23) := ⟨⟨by decide +kernel, by decide +kernel⟩, List.mem_of_getElem? (i := 570) (by decide +kernel), List.mem_of_getElem? (i := 668) (by decide +kernel), List.mem_of_getElem? (i := 669) (by decide +kernel)⟩
theorem lw_p18 : lw_okq (⟨"SortingLineModel", "isThing", "(I)Z"⟩, 23) := ⟨⟨by decide +kernel, by decide +kernel⟩, List.mem_of_getElem? (i := 570) (by decide +kernel), List.mem_of_getElem? (i := 676) (by decide +kernel), List.mem_of_getElem? (i := 677) (by decide +kernel)⟩
theorem lw_p19 : lw_okq (⟨"SortingLineModel", "isOf", "(II)Z"⟩, 23) := ⟨⟨by decide +kernel, by decide +kernel⟩, List.mem_of_getElem? (i := 570) (by decide +kernel), List.mem_of_getElem? (i := 680) (by decide +kernel), List.mem_of_getElem? (i := 681) (by decide +kernel)⟩
theorem lw_p20 : lw_okq (⟨"SortingLineModel", "refusal", "(IIII)I"⟩, 23) := ⟨⟨by decide +kernel, by decide +kernel⟩, List.mem_of_getElem? (i := 570) (by decide +kernel), List.mem_of_getElem? (i := 699) (by decide +kernel), List.mem_of_getElem? (i := 700) (by decide +kernel)⟩
theorem lw_p21 : lw_okq (⟨"SortingLineModel", "lays", "(IIII)I"⟩, 23) := ⟨⟨by decide +kernel, by decide +kernel⟩, List.mem_of_getElem? (i := 570) (by decide +kernel), List.mem_of_getElem? (i := 718) (by decide +kernel), List.mem_of_getElem? (i := 719) (by decide +kernel)⟩
theorem lw_p22 : lw_okq (⟨"SortingLineModel", "passes", "(II)Z"⟩, 23) := ⟨⟨by decide +kernel, by decide +kernel⟩, List.mem_of_getElem? (i := 570) (by decide +kernel), List.mem_of_getElem? (i := 722) (by decide +kernel), List.mem_of_getElem? (i := 723) (by decide +kernel)⟩
theorem lw_p23 : lw_okq (⟨"SortingLineModel", "comes", "(I)V"⟩, 23) := ⟨⟨by decide +kernel, by decide +kernel⟩, List.mem_of_getElem? (i := 570) (by decide +kernel), List.mem_of_getElem? (i := 741) (by decide +kernel), List.mem_of_getElem? (i := 742) (by decide +kernel)⟩
theorem lw_p24 : lw_okq (⟨"SortingLineModel", "steps", "()I"⟩, 23) := ⟨⟨by decide +kernel, by decide +kernel⟩, List.mem_of_getElem? (i := 570) (by decide +kernel), List.mem_of_getElem? (i := 749) (by decide +kernel), List.mem_of_getElem? (i := 750) (by decide +kernel)⟩
theorem lw_p25 : lw_okq (⟨"SortingLineModel", "works", "(II)I"⟩, 23) := ⟨⟨by decide +kernel, by decide +kernel⟩, List.mem_of_getElem? (i := 570) (by decide +kernel), List.mem_of_getElem? (i := 753) (by decide +kernel), List.mem_of_getElem? (i := 754) (by decide +kernel)⟩
theorem lw_p26 : lw_okq (⟨"SortingLineModel", "keyOf", "(I)I"⟩, 23) := ⟨⟨by decide +kernel, by decide +kernel⟩, List.mem_of_getElem? (i := 570) (by decide +kernel), List.mem_of_getElem? (i := 757) (by decide +kernel), List.mem_of_getElem? (i := 758) (by decide +kernel)⟩
theorem lw_p27 : lw_okq (⟨"SortingLineModel", "heaps", "(IIZ)I"⟩, 23) := ⟨⟨by decide +kernel, by decide +kernel⟩, List.mem_of_getElem? (i := 570) (by decide +kernel), List.mem_of_getElem? (i := 761) (by decide +kernel), List.mem_of_getElem? (i := 762) (by decide +kernel)⟩
theorem lw_p28 : lw_okq (⟨"SortingLineModel", "packs", "(II)I"⟩, 23) := ⟨⟨by decide +kernel, by decide +kernel⟩, List.mem_of_getElem? (i := 570) (by decide +kernel), List.mem_of_getElem? (i := 765) (by decide +kernel), List.mem_of_getElem? (i := 766) (by decide +kernel)⟩
theorem lw_p29 : lw_okq (⟨"SortingLineModel", "weighs", "(III)I"⟩, 23) := ⟨⟨by decide +kernel, by decide +kernel⟩, List.mem_of_getElem? (i := 570) (by decide +kernel), List.mem_of_getElem? (i := 769) (by decide +kernel), List.mem_of_getElem? (i := 770) (by decide +kernel)⟩
theorem lw_p30 : lw_okq (⟨"SortingLineModel", "corner", "(II)I"⟩, 23) := ⟨⟨by decide +kernel, by decide +kernel⟩, List.mem_of_getElem? (i := 570) (by decide +kernel), List.mem_of_getElem? (i := 773) (by decide +kernel), List.mem_of_getElem? (i := 774) (by decide +kernel)⟩
theorem lw_p31 : lw_okq (⟨"SortingLineModel", "cell", "(II)I"⟩, 23) := ⟨⟨by decide +kernel, by decide +kernel⟩, List.mem_of_getElem? (i := 570) (by decide +kernel), List.mem_of_getElem? (i := 777) (by decide +kernel), List.mem_of_getElem? (i := 778) (by decide +kernel)⟩
def lw_privs_2 : List (MethodName × Nat) := [(⟨"SortingLineModel", "adds", "(III)I"⟩, 23), (⟨"SortingLineModel", "found", "(I)I"⟩, 23), (⟨"SortingLineModel", "isThing", "(I)Z"⟩, 23), (⟨"SortingLineModel", "isOf", "(II)Z"⟩, 23), (⟨"SortingLineModel", "refusal", "(IIII)I"⟩, 23), (⟨"SortingLineModel", "lays", "(IIII)I"⟩, 23), (⟨"SortingLineModel", "passes", "(II)Z"⟩, 23), (⟨"SortingLineModel", "comes", "(I)V"⟩, 23), (⟨"SortingLineModel", "steps", "()I"⟩, 23), (⟨"SortingLineModel", "works", "(II)I"⟩, 23), (⟨"SortingLineModel", "keyOf", "(I)I"⟩, 23), (⟨"SortingLineModel", "heaps", "(IIZ)I"⟩, 23), (⟨"SortingLineModel", "packs", "(II)I"⟩, 23), (⟨"SortingLineModel", "weighs", "(III)I"⟩, 23), (⟨"SortingLineModel", "corner", "(II)I"⟩, 23), (⟨"SortingLineModel", "cell", "(II)I"⟩, 23)]
theorem lw_r2 : ∀ q ∈ lw_privs_2, lw_okq q := List.forall_mem_cons.mpr ⟨lw_p16, List.forall_mem_cons.mpr ⟨lw_p17, List.forall_mem_cons.mpr ⟨lw_p18, List.forall_mem_cons.mpr ⟨lw_p19, List.forall_mem_cons.mpr ⟨lw_p20, List.forall_mem_cons.mpr ⟨lw_p21, List.forall_mem_cons.mpr ⟨lw_p22, List.forall_mem_cons.mpr ⟨lw_p23, List.forall_mem_cons.mpr ⟨lw_p24, List.forall_mem_cons.mpr ⟨lw_p25, List.forall_mem_cons.mpr ⟨lw_p26, List.forall_mem_cons.mpr ⟨lw_p27, List.forall_mem_cons.mpr ⟨lw_p28, List.forall_mem_cons.mpr ⟨lw_p29, List.forall_mem_cons.mpr ⟨lw_p30, List.forall_mem_cons.mpr ⟨lw_p31, fun _ h => absurd h List.not_mem_nil⟩⟩⟩⟩⟩⟩⟩⟩⟩⟩⟩⟩⟩⟩⟩⟩
theorem lw_p32 : lw_okq (⟨"SortingLineModel", "spills", "(I)I"⟩, 23) := ⟨⟨by decide +kernel, by decide +kernel⟩, List.mem_of_getElem? (i := 570) (by decide +kernel), List.mem_of_getElem? (i := 781) (by decide +kernel), List.mem_of_getElem? (i := 782) (by decide +kernel)⟩
theorem lw_p33 : lw_okq (⟨"SortingLineModel", "goesAside", "(III)V"⟩, 23) := ⟨⟨by decide +kernel, by decide +kernel⟩, List.mem_of_getElem? (i := 570) (by decide +kernel), List.mem_of_getElem? (i := 785) (by decide +kernel), List.mem_of_getElem? (i := 786) (by decide +kernel)⟩
def lw_privs_3 : List (MethodName × Nat) := [(⟨"SortingLineModel", "spills", "(I)I"⟩, 23), (⟨"SortingLineModel", "goesAside", "(III)V"⟩, 23)]
theorem lw_r3 : ∀ q ∈ lw_privs_3, lw_okq q := List.forall_mem_cons.mpr ⟨lw_p32, List.forall_mem_cons.mpr ⟨lw_p33, fun _ h => absurd h List.not_mem_nil⟩⟩
def lw_privs : List (MethodName × Nat) := lw_privs_1 ++ (lw_privs_2 ++ (lw_privs_3))
def lw_tbl : List Cond := k2_sels lw_privs ++ tables_1
theorem lw_privs_ok : ∀ q ∈ lw_privs, lw_okq q := by
  show ∀ q ∈ lw_privs_1 ++ (lw_privs_2 ++ (lw_privs_3)), lw_okq q
  exact List.forall_mem_append.mpr ⟨lw_r1, List.forall_mem_append.mpr ⟨lw_r2, lw_r3⟩⟩
end
section
/-! ===== BEGIN words of one list among another's, by their places ===== -/
theorem goodIn_r {big : List Cond} (ws : List Cond) (ps : List Nat) (hp : ws = ps.filterMap (fun i => big[i]?)) (h : ws.all goodWord = true) : GoodIn big ws := by
  intro w hw
  have h1 := List.all_eq_true.mp h w hw
  rw [hp] at hw
  obtain ⟨i, -, hi⟩ := List.mem_filterMap.mp hw
  have hm : w ∈ big := by first | exact List.mem_of_getElem? hi | exact List.getElem?_mem hi
  exact ⟨hm, good_of_word h1⟩
theorem goodIn_app {big a b : List Cond} (ha : GoodIn big a) (hb : GoodIn big b) : GoodIn big (a ++ b) := fun w h => (List.mem_append.mp h).elim (ha w) (hb w)
theorem goodIn_ca {big a b : List Cond} {c : Cond} (ha : GoodIn big (c :: a)) (hb : GoodIn big b) : GoodIn big (c :: (a ++ b)) := fun w h => (List.mem_cons.mp h).elim (fun e => ha w (List.mem_cons.mpr (Or.inl e))) (fun h => (List.mem_append.mp h).elim (fun h => ha w (List.mem_cons.mpr (Or.inr h))) (hb w))
theorem goodIn_sub {big ws : List Cond} (hm : ∀ w ∈ ws, w ∈ big) (h : ws.all goodWord = true) : GoodIn big ws := fun w hw => ⟨hm w hw, good_of_word (List.all_eq_true.mp h w hw)⟩
/-! ===== END ===== -/

/-! ===== BEGIN exceptions that leave a method, and their catching by the caller (launches without stack traces) ===== -/
section VXA
/-! The laws vx_back, vx_callV, vx_callS, vx_callSW, vx_throw0, vx_throwS follow proofs of the library, with one case more: JvmDerived/Free/Laws.lean (Back.of_free), Shelf42/LK1.lean (callV, callS), Shelf/KitTraced.lean (throwNew0V, throwNewS). -/
/-- where a method has thrown q: the class by its name, the cell, what was written, the world -/
def vx_T (XC : String → State → State → Prop) (st : State) (q : Addr) (t : State) (mc ms : Nat) (free : Addr → Prop) : Prop :=
  ∃ (E : String) (ce : Cell) (L : List Loc), XC E st t ∧ t.heap[q]? = some ce ∧ ce.vm = .none ∧ st.vm.findClass E = some ce.cls ∧ st.WarmedH t.vm ∧ st.sameButNew ({ t with vm := st.vm } : State) L mc ms ∧ ∀ z ∈ L, free z.base
def vx_Q (Qc : Array Value → State → Outcome → State → Prop) (XC : String → State → State → Prop) (mc ms : Nat) (free : Addr → Prop) : Array Value → State → Outcome → State → Prop := fun a st o t =>
  (Qc a st o t ∧ ∃ L, FrameEnd st o t L mc ms ∧ ∀ q ∈ L, free q.base) ∨ ∃ q, o = .threw q ∧ vx_T XC st q t mc ms free
/-- a callee that returns or throws -/
def vx_Met (l : Launch) (y : MethodName) (ws : List Cond) (rm : Room) (Pc : Array Value → State → Prop) (Qc : Array Value → State → Outcome → State → Prop) (XC : String → State → State → Prop) (mc ms : Nat) (free : Addr → Prop) : Prop :=
  MetFree l y (headSpec ws rm) Pc (fun _ _ _ _ _ => True) (vx_Q Qc XC mc ms free)
def vx_Post (XC : String → State → State → Prop) (mc ms : Nat) (free : Addr → Prop) : Pt → Array Value → Addr → Pt → Prop := fun A a q B =>
  ∃ (g : JFrame) (mk : MethodId) (t : State) (L : List Loc) (E : String) (ce : Cell), B.U.heap = t.heap ∧ B.U.vm = t.vm ∧ XC E (A.U.calling g mk a) t ∧ t.heap[q]? = some ce ∧ ce.vm = .none ∧ A.U.vm.findClass E = some ce.cls ∧ B.locs = A.locs ++ L ∧ (∀ z ∈ L, free z.base) ∧ B.cells = A.cells + mc ∧ B.slots = A.slots + ms
def vx_Back (l : Launch) (R : Room) (p : Program) (e : Env) (below : List Frame) (s : State) (sargs : Array Value) (y : MethodName) (len W9 : Nat)
    (Pre : Pt → Array Value → Prop) (Post : Pt → Array Value → Option Value → Pt → Prop) (PostX : Pt → Array Value → Addr → Pt → Prop) : Prop :=
  ∀ (m : MethodId) (meth : Method) (c : Code) (A : Pt) (g : JFrame) (ig : Instr) (mk : MethodId) (a : Array Value),
    Stand p l e R s m sargs below meth c A.U A.locs A.cells A.slots → g.method = m → g.locals.size = c.maxLocals → decode c.code g.pc = .ok (ig, len) →
    2 * g.monitorRoom + (g.stack.map fun v => v.category).sum ≤ W9 → A.U.methodNamed? y = some mk → Pre A a →
    (∃ (v : Option Value) (B : Pt), Stand p l e R s m sargs below meth c B.U B.locs B.cells B.slots ∧ Post A a v B ∧
      Steps p.tables e below (doInvoke e (A.U.setTop g) [] mk a).1 (B.U.setTop { g with pc := g.pc + len, stack := v.toList ++ g.stack })) ∨
    (∃ (q : Addr) (B : Pt), Stand p l e R s m sargs below meth c B.U B.locs B.cells B.slots ∧ PostX A a q B ∧
      Steps p.tables e below (doInvoke e (A.U.setTop g) [] mk a).1 ((B.U.setTop g).pushFrame (.throwing q)))
section Payer
variable {l : Launch} {R : Room} {p : Program} {e : Env} {below : List Frame} {s : State} {sargs : Array Value} {y : MethodName} {len W9 : Nat}
theorem vx_back {ws : List Cond} {rm : Room} {Pc : Array Value → State → Prop} {Qc : Array Value → State → Outcome → State → Prop} {XC : String → State → State → Prop} {mc ms : Nat} {free : Addr → Prop} {bytes : ByteArray} {maxL : Nat} {ret : Option FieldType}
    (hM : vx_Met l y ws rm Pc Qc XC mc ms free) (hblind : FrameBlind Pc) (hrc : rm.cells = mc) (hrs : rm.slots = ms)
    (hframes : rm.frames + 1 ≤ R.frames) (hlocals : W9 + (maxL + 11) + rm.locals ≤ R.locals)
    (hws : ∀ w ∈ ws, ∀ a' U, s.WarmedH U.vm → w.before a' U = true) (hcode : Cond.code y bytes maxL ret ∈ ws) (hinit : ∀ a' U, s.WarmedH U.vm → (Cond.initialized y.cls).before a' U = true) :
    vx_Back l R p e below s sargs y len W9 (PreOf R mc ms Pc) (PostOf Qc mc ms free) (vx_Post XC mc ms free) := by
  intro m meth c A g ig mk a X hg hsize hdg hW hn hp
  have h1 : (headSpec ws rm).pre.before a A.U = true := atoms_intro fun w hw => hws w hw _ _ X.warmed
  have h2 : (Cond.code y bytes maxL ret).before a A.U = true := hws _ hcode _ _ X.warmed
  have h3 : (Cond.initialized y.cls).before a A.U = true := hinit _ _ X.warmed
  have h4 : A.cells + (headSpec ws rm).room.cells ≤ R.cells := by rw [show (headSpec ws rm).room.cells = mc from hrc]; exact hp.1
  have h5 : A.slots + (headSpec ws rm).room.slots ≤ R.slots := by rw [show (headSpec ws rm).room.slots = ms from hrs]; exact hp.2.1
  have hPc : Pc a (A.U.calling g mk a) := hblind _ _ _ _ hp.2.2
  obtain ⟨U, Ls, c0, s0⟩ := A
  dsimp only [Pt.U, Pt.locs, Pt.cells, Pt.slots] at h1 h2 h3 h4 h5 X hn hPc ⊢
  obtain ⟨methY, cY, hmY, hcY, -, hlY, -, -, -, -⟩ := Cond.code_spec hn h2
  obtain ⟨kY, hkY, -⟩ := className_of_methodNamed hn
  have hinitY : kY.init = .initialized := Cond.initialized_spec (findClass_of_methodNamed hn) hkY h3
  have h : At U g.method c below := by rw [hg]; exact X.here
  have hlocals9 : W9 + (maxL + 11) + (headSpec ws rm).room.locals ≤ R.locals := hlocals
  have happ : (headSpec ws rm).appliesLoose y e.platform (U.calling g mk a) = true :=
    Spec.appliesLoose_calling (g := g) h hdg hn hkY hinitY
      (X.room_calling (g := g) (R' := (headSpec ws rm).room) hsize hmY hcY hframes (by rw [hlY]; omega) h4 h5) h1
  obtain ⟨mid, hmid⟩ := h.above
  have hfr : (U.setTop g).frames = (.java g :: mid) ++ below := by rw [State.frames_setTop' g h.top, hmid]; rfl
  obtain ⟨o, s₂, hsteps, -, hend, hq⟩ := Steps.callFree hM p X.admits X.cas X.clock (acts := []) hfr happ hPc trivial
  have hq' : vx_Q Qc XC mc ms free a (U.calling g mk a) o s₂ := hq
  rw [State.frames_setTop' g h.top] at hend
  obtain ⟨g₀, hg0⟩ := Option.isSome_iff_exists.mp h.top
  obtain ⟨r, hr⟩ := State.topJava?_eq_some.mp hg0
  have hr' : (({ U with heap := s₂.heap, slotsUsed := s₂.slotsUsed } : State).setVm s₂.vm).frames = .java g₀ :: r := hr
  rcases hq' with ⟨hqc, L, hfe, hL⟩ | ⟨q, rfl, E, ce, L, hx, hce, hcv, hcl, hW₂, hsm, hL⟩
  · obtain ⟨⟨v, rfl⟩, hW₂, e2, q2, q3, q4, q5, q6⟩ := id hfe
    have e3 : s₂ = ({ (U.calling g mk a).setFrames s₂.frames with heap := s₂.heap, slotsUsed := s₂.slotsUsed } : State).setVm s₂.vm := by
      have : s₂ = ({ s₂ with vm := (U.calling g mk a).vm } : State).setVm s₂.vm := rfl
      rw [e2] at this
      exact this
    obtain ⟨c₂, i₂, len₂, hc₂, hd₂, hf₂⟩ := hend
    have hW' : U.WarmedH s₂.vm := hW₂
    have hcc : c₂ = c := by
      have h1 : s₂.code? g.method = U.code? g.method := by
        rw [State.code?_eq, State.code?_eq, hW'.alike.method?]
      exact Option.some.inj (hc₂.symm.trans (h1.trans h.code))
    subst hcc
    have hlen : len₂ = len := by rw [hdg] at hd₂; cases hd₂; rfl
    subst hlen
    have hs₂ : s₂ = (({ U with heap := s₂.heap, slotsUsed := s₂.slotsUsed } : State).setVm s₂.vm).setTop { g with pc := g.pc + len₂, stack := v.toList ++ g.stack } := by
      refine e3.trans ?_
      rw [hf₂, State.calling_eq h.top, State.setFrames_setFrames, State.setTop_of_frames _ hr', hr]
      rfl
    have hsame : U.sameButNew ({ U with heap := s₂.heap, slotsUsed := s₂.slotsUsed } : State) L mc ms := by
      refine ⟨?_, q2, q3, q4, q5, q6⟩
      obtain ⟨t, ht, -⟩ := State.frames_cons hr
      show ({ U with heap := s₂.heap, slotsUsed := s₂.slotsUsed } : State) = { U.setFrames U.frames with heap := s₂.heap, slotsUsed := s₂.slotsUsed }
      rw [State.setFrames_self ht]
    subst hg
    refine Or.inl ⟨v, ⟨(({ U with heap := s₂.heap, slotsUsed := s₂.slotsUsed } : State).setVm s₂.vm), Ls ++ L, c0 + mc, s0 + ms⟩,
      ⟨X.admits, X.cas, X.clock, X.frames, X.room, X.hears, X.method, X.code, (X.here.setHeapUsed s₂.heap s₂.slotsUsed).setVm hW'.alike, X.tail, State.WarmedH.trans X.warmed hW', X.limits, X.bytes, X.same.trans (hsame.setVm s.vm)⟩,
      ⟨g, mk, s₂, L, rfl, rfl, hqc, rfl, hL, rfl, rfl⟩, ?_⟩
    show Steps p.tables e below _ ((({ U with heap := s₂.heap, slotsUsed := s₂.slotsUsed } : State).setVm s₂.vm).setTop { g with pc := g.pc + len₂, stack := v.toList ++ g.stack })
    rw [← hs₂]
    exact hsteps
  · obtain ⟨e2, q2, q3, q4, q5, q6⟩ := id hsm
    have e3 : s₂ = ({ (U.calling g mk a).setFrames s₂.frames with heap := s₂.heap, slotsUsed := s₂.slotsUsed } : State).setVm s₂.vm := by
      have : s₂ = ({ s₂ with vm := (U.calling g mk a).vm } : State).setVm s₂.vm := rfl
      rw [e2] at this
      exact this
    have hf₂ : s₂.frames = .throwing q :: .java g :: U.frames.tail := hend
    have hW' : U.WarmedH s₂.vm := hW₂
    have hs₂ : s₂ = ((({ U with heap := s₂.heap, slotsUsed := s₂.slotsUsed } : State).setVm s₂.vm).setTop g).pushFrame (.throwing q) := by
      refine e3.trans ?_
      rw [hf₂, State.calling_eq h.top, State.setFrames_setFrames, State.pushFrame, State.frames_setTop _ hr', State.setTop_of_frames _ hr', State.setFrames_setFrames, hr]
      rfl
    have hsame : U.sameButNew ({ U with heap := s₂.heap, slotsUsed := s₂.slotsUsed } : State) L mc ms := by
      refine ⟨?_, q2, q3, q4, q5, q6⟩
      obtain ⟨t, ht, -⟩ := State.frames_cons hr
      show ({ U with heap := s₂.heap, slotsUsed := s₂.slotsUsed } : State) = { U.setFrames U.frames with heap := s₂.heap, slotsUsed := s₂.slotsUsed }
      rw [State.setFrames_self ht]
    subst hg
    refine Or.inr ⟨q, ⟨(({ U with heap := s₂.heap, slotsUsed := s₂.slotsUsed } : State).setVm s₂.vm), Ls ++ L, c0 + mc, s0 + ms⟩,
      ⟨X.admits, X.cas, X.clock, X.frames, X.room, X.hears, X.method, X.code, (X.here.setHeapUsed s₂.heap s₂.slotsUsed).setVm hW'.alike, X.tail, State.WarmedH.trans X.warmed hW', X.limits, X.bytes, X.same.trans (hsame.setVm s.vm)⟩,
      ⟨g, mk, s₂, L, E, ce, rfl, rfl, hx, hce, hcv, hcl, rfl, hL, rfl, rfl⟩, ?_⟩
    show Steps p.tables e below _ (((({ U with heap := s₂.heap, slotsUsed := s₂.slotsUsed } : State).setVm s₂.vm).setTop g).pushFrame (.throwing q))
    rw [← hs₂]
    exact hsteps
end Payer
section Calls
variable {p : Program} {l : Launch} {e : Env} {R : Room} {s : State} {m : MethodId} {args : Array Value} {below : List Frame} {meth : Method} {c : Code} {T : State} {locs : List Loc} {cells slots : Nat}
theorem vx_callV (X : Stand p l e R s m args below meth c T locs cells slots) (hexec : p.tables.exec = Jvm.exec) {own C : String} {index : Nat} {y : MethodName} {bytes : ByteArray} {maxL : Nat} {ret : Option FieldType}
    (hown : s.vm.findClass own = some m.cls) (hlink : (Cond.methodLink own index y).before args s = true) (hinst : (Cond.instanceMethod y).before args s = true) (hsel : (Cond.selects C y y).before args s = true)
    (hcode : (Cond.code y bytes maxL ret).before args s = true) (hy : y.cls ≠ "java/lang/invoke/MethodHandle" ∧ y.cls ≠ "java/lang/invoke/VarHandle")
    {W9 : Nat} {Pre : Pt → Array Value → Prop} {Post : Pt → Array Value → Option Value → Pt → Prop} {PostX : Pt → Array Value → Addr → Pt → Prop} (hK : vx_Back l R p e below s args y 3 W9 Pre Post PostX)
    {b : Addr} {cellB : Cell} (hcell : T.heap[b]? = some cellB) (hobj : cellB.vm.isStatics = false) (hcls : s.vm.findClass C = some cellB.cls)
    {g : JFrame} (hg : g.method = m) (hsize : g.locals.size = c.maxLocals) {argsL rest : List Value} (hlen : ∀ sig, parseMethodDescriptor y.desc = some sig → argsL.length = sig.parameters.length)
    (hstack : g.stack = argsL.reverse ++ .ref b :: rest) (hW : 2 * g.monitorRoom + (rest.map fun v => v.category).sum ≤ W9) (hdg : decode c.code g.pc = .ok (.invokevirtual index, 3))
    (hpre : ∀ vm₁, s.WarmedH vm₁ → Pre ⟨T.setVm vm₁, locs, cells, slots⟩ (Value.ref b :: argsL).toArray) :
    (∃ (v : Option Value) (vm₁ : Vm) (B : Pt), s.WarmedH vm₁ ∧ Stand p l e R s m args below meth c B.U B.locs B.cells B.slots ∧ Post ⟨T.setVm vm₁, locs, cells, slots⟩ (Value.ref b :: argsL).toArray v B ∧
      ∀ target, Steps p.tables e below (B.U.setTop { g with pc := g.pc + 3, stack := v.toList ++ rest }) target → Steps p.tables e below (T.setTop g) target) ∨
    (∃ (q : Addr) (vm₁ : Vm) (B : Pt), s.WarmedH vm₁ ∧ Stand p l e R s m args below meth c B.U B.locs B.cells B.slots ∧ PostX ⟨T.setVm vm₁, locs, cells, slots⟩ (Value.ref b :: argsL).toArray q B ∧
      Steps p.tables e below (T.setTop g) ((B.U.setTop { g with stack := rest }).pushFrame (.throwing q))) := by
  obtain ⟨mk, methM, hnamed, hmethM, hstM, habM⟩ := Cond.instanceMethod_spec hinst
  obtain ⟨methM', cM, hmethM', -, -, -, -, -, -, hsigM⟩ := Cond.code_spec hnamed hcode
  cases hmethM.symm.trans hmethM'
  obtain ⟨c2, r2, m2, q1, q2, q3, q4, kP, hkP, hkPi⟩ := Cond.selects_spec hsel
  cases hcls.symm.trans q1
  cases (State.methodFound?_of_named hnamed hy).symm.trans q2
  cases hnamed.symm.trans q3
  have hselP : selectMethod e.platform s.vm cellB.cls mk = .method mk := by rw [Launch.admits_selectMethod X.admits]; exact q4
  obtain ⟨vm₁, X₁, hstep₁⟩ := X.invokevirtual hexec hown hlink hnamed hmethM hstM hkP hkPi hy (a := b) (cell := cellB) hcell
    (fun z h => by rw [h] at hobj; cases hobj) hselP hmethM habM hkP hkPi (g := g) hg (argsL := argsL) (rest := rest) (hlen _ hsigM) hstack hdg
  rcases hK m meth c ⟨T.setVm vm₁, locs, cells, slots⟩ { g with stack := rest } (.invokevirtual index) mk (Value.ref b :: argsL).toArray X₁ hg hsize hdg hW (X₁.named hnamed) (hpre vm₁ X₁.warmed) with ⟨v, B, X', hpost, hsteps⟩ | ⟨q, B, X', hpost, hsteps⟩
  · exact Or.inl ⟨v, vm₁, B, X₁.warmed, X', hpost, fun target h => hstep₁ _ fun acts => by rw [doInvoke_state]; exact hsteps.trans h⟩
  · exact Or.inr ⟨q, vm₁, B, X₁.warmed, X', hpost, hstep₁ _ fun acts => by rw [doInvoke_state]; exact hsteps⟩
theorem vx_callS (X : Stand p l e R s m args below meth c T locs cells slots) (hexec : p.tables.exec = Jvm.exec) {own : String} {index : Nat} {y : MethodName} {bytes : ByteArray} {maxL : Nat} {ret : Option FieldType}
    (hown : s.vm.findClass own = some m.cls) (hlink : (Cond.methodLink own index y).before args s = true) (hstat : (Cond.static y).before args s = true) (hinit : (Cond.initialized y.cls).before args s = true)
    (hcode : (Cond.code y bytes maxL ret).before args s = true) (hy : y.cls ≠ "java/lang/invoke/MethodHandle" ∧ y.cls ≠ "java/lang/invoke/VarHandle")
    {W9 : Nat} {Pre : Pt → Array Value → Prop} {Post : Pt → Array Value → Option Value → Pt → Prop} {PostX : Pt → Array Value → Addr → Pt → Prop} (hK : vx_Back l R p e below s args y 3 W9 Pre Post PostX)
    {g : JFrame} (hg : g.method = m) (hsize : g.locals.size = c.maxLocals) {argsL rest : List Value} (hlen : ∀ sig, parseMethodDescriptor y.desc = some sig → argsL.length = sig.parameters.length)
    (hstack : g.stack = argsL.reverse ++ rest) (hW : 2 * g.monitorRoom + (rest.map fun v => v.category).sum ≤ W9) (hdg : decode c.code g.pc = .ok (.invokestatic index, 3))
    (hpre : ∀ vm₁, s.WarmedH vm₁ → Pre ⟨T.setVm vm₁, locs, cells, slots⟩ argsL.toArray) :
    (∃ (v : Option Value) (vm₁ : Vm) (B : Pt), s.WarmedH vm₁ ∧ Stand p l e R s m args below meth c B.U B.locs B.cells B.slots ∧ Post ⟨T.setVm vm₁, locs, cells, slots⟩ argsL.toArray v B ∧
      ∀ target, Steps p.tables e below (B.U.setTop { g with pc := g.pc + 3, stack := v.toList ++ rest }) target → Steps p.tables e below (T.setTop g) target) ∨
    (∃ (q : Addr) (vm₁ : Vm) (B : Pt), s.WarmedH vm₁ ∧ Stand p l e R s m args below meth c B.U B.locs B.cells B.slots ∧ PostX ⟨T.setVm vm₁, locs, cells, slots⟩ argsL.toArray q B ∧
      Steps p.tables e below (T.setTop g) ((B.U.setTop { g with stack := rest }).pushFrame (.throwing q))) := by
  obtain ⟨mk, hnamed⟩ := Cond.code_named hcode
  obtain ⟨methM, cM, hmethM, -, -, -, -, -, -, hsigM⟩ := Cond.code_spec hnamed hcode
  have hstatic : methM.isStatic = true := Cond.static_spec hnamed hmethM hstat
  obtain ⟨kP, hkP, -⟩ := className_of_methodNamed hnamed
  have hinitP : kP.init = .initialized := Cond.initialized_spec (findClass_of_methodNamed hnamed) hkP hinit
  obtain ⟨vm₁, X₁, hstep₁⟩ := X.invokestatic hexec hown hlink hnamed hmethM hstatic hkP hinitP hy (g := g) hg (argsL := argsL) (rest := rest) (hlen _ hsigM) hstack hdg
  rcases hK m meth c ⟨T.setVm vm₁, locs, cells, slots⟩ { g with stack := rest } (.invokestatic index) mk argsL.toArray X₁ hg hsize hdg hW (X₁.named hnamed) (hpre vm₁ X₁.warmed) with ⟨v, B, X', hpost, hsteps⟩ | ⟨q, B, X', hpost, hsteps⟩
  · exact Or.inl ⟨v, vm₁, B, X₁.warmed, X', hpost, fun target h => hstep₁ _ fun acts => by rw [doInvoke_state]; exact hsteps.trans h⟩
  · exact Or.inr ⟨q, vm₁, B, X₁.warmed, X', hpost, hstep₁ _ fun acts => by rw [doInvoke_state]; exact hsteps⟩
end Calls
theorem vx_cls {s : State} {T : State} {vm₁ : Vm} {E : String} {k : ClassId} (hW : s.WarmedH vm₁) (h : (T.setVm vm₁).vm.findClass E = some k) : s.vm.findClass E = some k := by
  have h1 : vm₁.findClass E = some k := h
  rw [hW.alike.findClass] at h1
  exact h1
/-- the method's frame g, with q thrown over it -/
def vx_W (p : Program) (l : Launch) (e : Env) (R : Room) (s : State) (m : MethodId) (args : Array Value) (below : List Frame) (meth : Method) (c : Code) (H : Heap) (locs : List Loc) (cells slots : Nat) (Q : State → Prop) (g : JFrame) (q : Addr) : Prop :=
  ∀ T : State, T.heap = H → Stand p l e R s m args below meth c T locs cells slots → ∃ t, Steps p.tables e below ((T.setTop g).pushFrame (.throwing q)) t ∧ Q t
def vx_Run (p : Program) (l : Launch) (e : Env) (R : Room) (s : State) (m : MethodId) (args : Array Value) (below : List Frame) (meth : Method) (c : Code) (H : Heap) (locs : List Loc) (cells slots mc ms : Nat) (g : JFrame) (rest : List Value) (Qa : State → Outcome → State → Prop) (XC : String → State → State → Prop) (free : Addr → Prop) : Prop :=
  ∀ T : State, T.heap = H → Stand p l e R s m args below meth c T locs cells slots →
    (∃ (v : Option Value) (st₀ t T' : State) (L : List Loc), st₀.heap = H ∧ Stand p l e R s m args below meth c T' (locs ++ L) (cells + mc) (slots + ms) ∧ (∀ q ∈ L, free q.base) ∧ T'.heap = t.heap ∧ T'.vm = t.vm ∧ Qa st₀ (.returned v) t ∧
      Goes p e below T g T' { g with pc := g.pc + 3, stack := v.toList ++ rest }) ∨
    (∃ (q : Addr) (st₀ t T' : State) (L : List Loc) (E : String) (ce : Cell), st₀.heap = H ∧ Stand p l e R s m args below meth c T' (locs ++ L) (cells + mc) (slots + ms) ∧ (∀ z ∈ L, free z.base) ∧ T'.heap = t.heap ∧ T'.vm = t.vm ∧ XC E st₀ t ∧ t.heap[q]? = some ce ∧ ce.vm = .none ∧ s.vm.findClass E = some ce.cls ∧
      Steps p.tables e below (T.setTop g) ((T'.setTop { g with stack := rest }).pushFrame (.throwing q)))
def vx_X {S : Type} (px : S → Prop) (B : String → S → State → Prop) (A : Nat → Prop) : String → State → State → Prop := fun E st t => ∃ u : S, px u ∧ B E u t ∧ va_F A st t
section Runs
variable {p : Program} {l : Launch} {e : Env} {R : Room} {s : State} {m : MethodId} {args : Array Value} {below : List Frame} {meth : Method} {c : Code} {H : Heap} {locs : List Loc} {cells slots : Nat}
variable {y : MethodName} {bytes cc : ByteArray} {maxL nL mc ms n index : Nat} {ret : Option FieldType} {ws : List Cond} {rm : Room} {Pc : Array Value → State → Prop} {Qc : Array Value → State → Outcome → State → Prop} {XC : String → State → State → Prop} {free : Addr → Prop} {Ts : List Cond} {own C : String} {b : Addr} {As rest : List Value} {g : JFrame}
theorem vx_callBack (cb : CallB R s args own index y bytes maxL ret ws rm mc ms n) (hM : vx_Met l y ws rm Pc Qc XC mc ms free) (hbl : FrameBlind Pc) : vx_Back l R p e below s args y 3 8 (PreOf R mc ms Pc) (PostOf Qc mc ms free) (vx_Post XC mc ms free) := by
  obtain ⟨hrc, hrs, hfr, hlo, hws, hcw, -, hini, -⟩ := cb
  exact vx_back (bytes := bytes) (maxL := maxL) (ret := ret) hM hbl hrc hrs hfr hlo hws hcw (fun a' U hW => word_at hW (Or.inl (by first | rfl | simp [Cond.onTables, Cond.keeps, Cond.steady])) hini)
theorem vx_runV (S : CallFix p m c cc nL s args Ts own) (hM : vx_Met l y ws rm Pc Qc XC mc ms free) (cw : CallW R s args own C index y bytes maxL ret ws rm mc ms n) (hp : PreV s H C b Pc As)
    (hg : g.method = m) (hn : As.length = n) (hsize : g.locals.size = nL) (hstack : g.stack = As.reverse ++ .ref b :: rest) (hW : 2 * g.monitorRoom + (rest.map fun v => v.category).sum ≤ 8) (hdg : decode cc g.pc = .ok (.invokevirtual index, 3)) (hf : cells + mc ≤ R.cells ∧ slots + ms ≤ R.slots) :
    vx_Run p l e R s m args below meth c H locs cells slots mc ms g rest (Qc (Value.ref b :: As).toArray) XC free := by
  have hK : vx_Back l R p e below s args y 3 8 (PreOf R mc ms Pc) (PostOf Qc mc ms free) (vx_Post XC mc ms free) := vx_callBack cw.1 hM hp.1
  obtain ⟨⟨-, -, -, -, -, -, hcode, -, hy, hlen, hl⟩, hin, hse⟩ := cw
  obtain ⟨hx, hb, hml, ho, -⟩ := S
  obtain ⟨-, ⟨cellB, hcB, hoB, hclB⟩, hPc⟩ := hp
  intro T hT X
  rcases vx_callV X hx (C := C) (bytes := bytes) (maxL := maxL) (ret := ret) ho hl hin hse hcode hy hK (by rw [hT]; exact hcB) hoB hclB hg (hsize.trans hml.symm) (argsL := As) (rest := rest) (fun sig h => hn.trans (hlen sig h)) hstack hW (by rw [hb]; exact hdg)
    (fun vm₁ hW₁ => ⟨hf.1, hf.2, hPc (T.setVm vm₁) hT hW₁⟩) with ⟨v, vm₁, ⟨U', l2, c2, s2⟩, hW₁, X', ⟨g', mk, t, L, e1, e2, hq, h1, hL, h2, h3⟩, st⟩ | ⟨q, vm₁, ⟨U', l2, c2, s2⟩, hW₁, X', ⟨g', mk, t, L, E, ce, e1, e2, hq, hce, hcv, hcl, h1, hL, h2, h3⟩, st⟩
  · dsimp only [Pt.U, Pt.locs, Pt.cells, Pt.slots] at X' e1 e2 h1 h2 h3 st
    subst h1; subst h2; subst h3
    exact Or.inl ⟨v, (T.setVm vm₁).calling g' mk (Value.ref b :: As).toArray, t, U', L, hT, X', hL, e1, e2, hq, st⟩
  · dsimp only [Pt.U, Pt.locs, Pt.cells, Pt.slots] at X' e1 e2 h1 h2 h3 st hcl
    subst h1; subst h2; subst h3
    exact Or.inr ⟨q, (T.setVm vm₁).calling g' mk (Value.ref b :: As).toArray, t, U', L, E, ce, hT, X', hL, e1, e2, hq, hce, hcv, vx_cls hW₁ hcl, st⟩
theorem vx_runS (S : CallFix p m c cc nL s args Ts own) (hM : vx_Met l y ws rm Pc Qc XC mc ms free) (cw : CallB R s args own index y bytes maxL ret ws rm mc ms n ∧ (Cond.static y).before args s = true) (hp : PreS s H Pc As)
    (hg : g.method = m) (hn : As.length = n) (hsize : g.locals.size = nL) (hstack : g.stack = As.reverse ++ rest) (hW : 2 * g.monitorRoom + (rest.map fun v => v.category).sum ≤ 8) (hdg : decode cc g.pc = .ok (.invokestatic index, 3)) (hf : cells + mc ≤ R.cells ∧ slots + ms ≤ R.slots) :
    vx_Run p l e R s m args below meth c H locs cells slots mc ms g rest (Qc As.toArray) XC free := by
  have hK : vx_Back l R p e below s args y 3 8 (PreOf R mc ms Pc) (PostOf Qc mc ms free) (vx_Post XC mc ms free) := vx_callBack cw.1 hM hp.1
  obtain ⟨⟨-, -, -, -, -, -, hcode, hini, hy, hlen, hl⟩, hstt⟩ := cw
  obtain ⟨hx, hb, hml, ho, -⟩ := S
  intro T hT X
  rcases vx_callS X hx (bytes := bytes) (maxL := maxL) (ret := ret) ho hl hstt hini hcode hy hK hg (hsize.trans hml.symm) (argsL := As) (rest := rest) (fun sig h => hn.trans (hlen sig h)) hstack hW (by rw [hb]; exact hdg)
    (fun vm₁ hW₁ => ⟨hf.1, hf.2, hp.2 (T.setVm vm₁) hT hW₁⟩) with ⟨v, vm₁, ⟨U', l2, c2, s2⟩, hW₁, X', ⟨g', mk, t, L, e1, e2, hq, h1, hL, h2, h3⟩, st⟩ | ⟨q, vm₁, ⟨U', l2, c2, s2⟩, hW₁, X', ⟨g', mk, t, L, E, ce, e1, e2, hq, hce, hcv, hcl, h1, hL, h2, h3⟩, st⟩
  · dsimp only [Pt.U, Pt.locs, Pt.cells, Pt.slots] at X' e1 e2 h1 h2 h3 st
    subst h1; subst h2; subst h3
    exact Or.inl ⟨v, (T.setVm vm₁).calling g' mk As.toArray, t, U', L, hT, X', hL, e1, e2, hq, st⟩
  · dsimp only [Pt.U, Pt.locs, Pt.cells, Pt.slots] at X' e1 e2 h1 h2 h3 st hcl
    subst h1; subst h2; subst h3
    exact Or.inr ⟨q, (T.setVm vm₁).calling g' mk As.toArray, t, U', L, E, ce, hT, X', hL, e1, e2, hq, hce, hcv, vx_cls hW₁ hcl, st⟩
end Runs
section Rows
variable {p : Program} {l : Launch} {e : Env} {R : Room} {s : State} {m : MethodId} {args : Array Value} {below : List Frame} {meth : Method} {c : Code} {H : Heap} {locs : List Loc} {cells slots : Nat} {Q : State → Prop}
variable {mc ms : Nat} {free : Addr → Prop} {A0 A1 : Nat → Prop} {H0 : Heap} {a : Array Value} {pc : Nat} {ls : Array Slot} {st0 rest : List Value}
theorem vx_keep {st₀ t T' : State} {L : List Loc} (h0 : st₀.heap = H) (e1 : T'.heap = t.heap) (hS : va_S A0 H0 H locs) (hA : ∀ q, q < H.size → A1 q → A0 q) (hf : ∀ q, free q → A0 q) (hL : ∀ q ∈ L, free q.base) (hF : va_F A1 st₀ t) :
    H.size ≤ T'.heap.size ∧ (∀ q : Nat, q < H.size → ¬ A1 q → T'.heap[q]? = H[q]?) ∧ va_S A0 H0 T'.heap (locs ++ L) := by
  obtain ⟨hz, hk⟩ := hF
  rw [h0] at hz hk
  exact ⟨by rw [e1]; exact hz, fun q h1 h2 => by rw [e1]; exact hk q h1 h2,
    ⟨Nat.le_trans hS.1 (by rw [e1]; exact hz), fun q h1 h2 => by rw [e1, hk q (Nat.lt_of_lt_of_le h1 hS.1) (fun z => h2 (hA q (Nat.lt_of_lt_of_le h1 hS.1) z))]; exact hS.2.1 q h1 h2, fun q hq => by
      rcases List.mem_append.mp hq with h | h
      · exact hS.2.2 q h
      · exact hf _ (hL q h)⟩⟩
theorem vx_calli {S SX : Type} {post : Int32 → S → Prop} {px : SX → Prop} {B : S → State → Prop} {BX : String → SX → State → Prop} {AX : Nat → Prop} (hr : vx_Run p l e R s m args below meth c H locs cells slots mc ms (F0 m pc ls st0) rest (va_Qi post B A1 a) (vx_X px BX AX) free) (hS : va_S A0 H0 H locs) (hA : ∀ q, q < H.size → A1 q → A0 q) (hf : ∀ q, free q → A0 q) (hAX : ∀ q, q < H.size → AX q → A0 q)
    (kx : ∀ (E : String) (ce : Cell) (q9 : Addr) (u : SX) (t : State) (H1 : Heap) (locs1 : List Loc), t.heap = H1 → s.vm.Alike t.vm → px u → BX E u t → H.size ≤ H1.size → (∀ q : Nat, q < H.size → ¬ AX q → H1[q]? = H[q]?) → va_S A0 H0 H1 locs1 → H1[q9]? = some ce → ce.vm = .none → s.vm.findClass E = some ce.cls → vx_W p l e R s m args below meth c H1 locs1 (cells + mc) (slots + ms) Q (F0 m pc ls rest) q9)
    (kk : ∀ (r : Int32) (u : S) (t : State) (H1 : Heap) (locs1 : List Loc), t.heap = H1 → s.vm.Alike t.vm → post r u → B u t → H.size ≤ H1.size → (∀ q : Nat, q < H.size → ¬ A1 q → H1[q]? = H[q]?) → va_S A0 H0 H1 locs1 → W p l e R s m args below meth c H1 locs1 (cells + mc) (slots + ms) Q (F0 m (pc + 3) ls (.int r :: rest))) : W p l e R s m args below meth c H locs cells slots Q (F0 m pc ls st0) := by
  intro T hT X
  rcases hr T hT X with ⟨v, st₀, t, T', L, h0, X', hL, e1, e2, ⟨⟨r, u, hv, hp, hb⟩, hF⟩, st⟩ | ⟨q, st₀, t, T', L, E, ce, h0, X', hL, e1, e2, ⟨u, hp, hb, hF⟩, hce, hcv, hcl, st⟩
  · cases hv
    obtain ⟨k1, k2, k3⟩ := vx_keep h0 e1 hS hA hf hL hF
    obtain ⟨t2, a1, b1⟩ := kk r u t T'.heap (locs ++ L) e1.symm (by rw [← e2]; exact X'.warmed.alike) hp hb k1 k2 k3 T' rfl X'
    exact ⟨t2, st t2 a1, b1⟩
  · obtain ⟨k1, k2, k3⟩ := vx_keep h0 e1 hS hAX hf hL hF
    obtain ⟨t2, a1, b1⟩ := kx E ce q u t T'.heap (locs ++ L) e1.symm (by rw [← e2]; exact X'.warmed.alike) hp hb k1 k2 k3 (by rw [e1]; exact hce) hcv hcl T' rfl X'
    exact ⟨t2, st.trans a1, b1⟩
theorem vx_calll {S SX : Type} {post : Int64 → S → Prop} {px : SX → Prop} {B : S → State → Prop} {BX : String → SX → State → Prop} {AX : Nat → Prop} (hr : vx_Run p l e R s m args below meth c H locs cells slots mc ms (F0 m pc ls st0) rest (va_Ql post B A1 a) (vx_X px BX AX) free) (hS : va_S A0 H0 H locs) (hA : ∀ q, q < H.size → A1 q → A0 q) (hf : ∀ q, free q → A0 q) (hAX : ∀ q, q < H.size → AX q → A0 q)
    (kx : ∀ (E : String) (ce : Cell) (q9 : Addr) (u : SX) (t : State) (H1 : Heap) (locs1 : List Loc), t.heap = H1 → s.vm.Alike t.vm → px u → BX E u t → H.size ≤ H1.size → (∀ q : Nat, q < H.size → ¬ AX q → H1[q]? = H[q]?) → va_S A0 H0 H1 locs1 → H1[q9]? = some ce → ce.vm = .none → s.vm.findClass E = some ce.cls → vx_W p l e R s m args below meth c H1 locs1 (cells + mc) (slots + ms) Q (F0 m pc ls rest) q9)
    (kk : ∀ (r : Int64) (u : S) (t : State) (H1 : Heap) (locs1 : List Loc), t.heap = H1 → s.vm.Alike t.vm → post r u → B u t → H.size ≤ H1.size → (∀ q : Nat, q < H.size → ¬ A1 q → H1[q]? = H[q]?) → va_S A0 H0 H1 locs1 → W p l e R s m args below meth c H1 locs1 (cells + mc) (slots + ms) Q (F0 m (pc + 3) ls (.long r :: rest))) : W p l e R s m args below meth c H locs cells slots Q (F0 m pc ls st0) := by
  intro T hT X
  rcases hr T hT X with ⟨v, st₀, t, T', L, h0, X', hL, e1, e2, ⟨⟨r, u, hv, hp, hb⟩, hF⟩, st⟩ | ⟨q, st₀, t, T', L, E, ce, h0, X', hL, e1, e2, ⟨u, hp, hb, hF⟩, hce, hcv, hcl, st⟩
  · cases hv
    obtain ⟨k1, k2, k3⟩ := vx_keep h0 e1 hS hA hf hL hF
    obtain ⟨t2, a1, b1⟩ := kk r u t T'.heap (locs ++ L) e1.symm (by rw [← e2]; exact X'.warmed.alike) hp hb k1 k2 k3 T' rfl X'
    exact ⟨t2, st t2 a1, b1⟩
  · obtain ⟨k1, k2, k3⟩ := vx_keep h0 e1 hS hAX hf hL hF
    obtain ⟨t2, a1, b1⟩ := kx E ce q u t T'.heap (locs ++ L) e1.symm (by rw [← e2]; exact X'.warmed.alike) hp hb k1 k2 k3 (by rw [e1]; exact hce) hcv hcl T' rfl X'
    exact ⟨t2, st.trans a1, b1⟩
theorem vx_callf {S SX : Type} {post : UInt32 → S → Prop} {px : SX → Prop} {B : S → State → Prop} {BX : String → SX → State → Prop} {AX : Nat → Prop} (hr : vx_Run p l e R s m args below meth c H locs cells slots mc ms (F0 m pc ls st0) rest (va_Qf post B A1 a) (vx_X px BX AX) free) (hS : va_S A0 H0 H locs) (hA : ∀ q, q < H.size → A1 q → A0 q) (hf : ∀ q, free q → A0 q) (hAX : ∀ q, q < H.size → AX q → A0 q)
    (kx : ∀ (E : String) (ce : Cell) (q9 : Addr) (u : SX) (t : State) (H1 : Heap) (locs1 : List Loc), t.heap = H1 → s.vm.Alike t.vm → px u → BX E u t → H.size ≤ H1.size → (∀ q : Nat, q < H.size → ¬ AX q → H1[q]? = H[q]?) → va_S A0 H0 H1 locs1 → H1[q9]? = some ce → ce.vm = .none → s.vm.findClass E = some ce.cls → vx_W p l e R s m args below meth c H1 locs1 (cells + mc) (slots + ms) Q (F0 m pc ls rest) q9)
    (kk : ∀ (r : UInt32) (u : S) (t : State) (H1 : Heap) (locs1 : List Loc), t.heap = H1 → s.vm.Alike t.vm → post r u → B u t → H.size ≤ H1.size → (∀ q : Nat, q < H.size → ¬ A1 q → H1[q]? = H[q]?) → va_S A0 H0 H1 locs1 → W p l e R s m args below meth c H1 locs1 (cells + mc) (slots + ms) Q (F0 m (pc + 3) ls (.float r :: rest))) : W p l e R s m args below meth c H locs cells slots Q (F0 m pc ls st0) := by
  intro T hT X
  rcases hr T hT X with ⟨v, st₀, t, T', L, h0, X', hL, e1, e2, ⟨⟨r, u, hv, hp, hb⟩, hF⟩, st⟩ | ⟨q, st₀, t, T', L, E, ce, h0, X', hL, e1, e2, ⟨u, hp, hb, hF⟩, hce, hcv, hcl, st⟩
  · cases hv
    obtain ⟨k1, k2, k3⟩ := vx_keep h0 e1 hS hA hf hL hF
    obtain ⟨t2, a1, b1⟩ := kk r u t T'.heap (locs ++ L) e1.symm (by rw [← e2]; exact X'.warmed.alike) hp hb k1 k2 k3 T' rfl X'
    exact ⟨t2, st t2 a1, b1⟩
  · obtain ⟨k1, k2, k3⟩ := vx_keep h0 e1 hS hAX hf hL hF
    obtain ⟨t2, a1, b1⟩ := kx E ce q u t T'.heap (locs ++ L) e1.symm (by rw [← e2]; exact X'.warmed.alike) hp hb k1 k2 k3 (by rw [e1]; exact hce) hcv hcl T' rfl X'
    exact ⟨t2, st.trans a1, b1⟩
theorem vx_calld {S SX : Type} {post : UInt64 → S → Prop} {px : SX → Prop} {B : S → State → Prop} {BX : String → SX → State → Prop} {AX : Nat → Prop} (hr : vx_Run p l e R s m args below meth c H locs cells slots mc ms (F0 m pc ls st0) rest (va_Qd post B A1 a) (vx_X px BX AX) free) (hS : va_S A0 H0 H locs) (hA : ∀ q, q < H.size → A1 q → A0 q) (hf : ∀ q, free q → A0 q) (hAX : ∀ q, q < H.size → AX q → A0 q)
    (kx : ∀ (E : String) (ce : Cell) (q9 : Addr) (u : SX) (t : State) (H1 : Heap) (locs1 : List Loc), t.heap = H1 → s.vm.Alike t.vm → px u → BX E u t → H.size ≤ H1.size → (∀ q : Nat, q < H.size → ¬ AX q → H1[q]? = H[q]?) → va_S A0 H0 H1 locs1 → H1[q9]? = some ce → ce.vm = .none → s.vm.findClass E = some ce.cls → vx_W p l e R s m args below meth c H1 locs1 (cells + mc) (slots + ms) Q (F0 m pc ls rest) q9)
    (kk : ∀ (r : UInt64) (u : S) (t : State) (H1 : Heap) (locs1 : List Loc), t.heap = H1 → s.vm.Alike t.vm → post r u → B u t → H.size ≤ H1.size → (∀ q : Nat, q < H.size → ¬ A1 q → H1[q]? = H[q]?) → va_S A0 H0 H1 locs1 → W p l e R s m args below meth c H1 locs1 (cells + mc) (slots + ms) Q (F0 m (pc + 3) ls (.double r :: rest))) : W p l e R s m args below meth c H locs cells slots Q (F0 m pc ls st0) := by
  intro T hT X
  rcases hr T hT X with ⟨v, st₀, t, T', L, h0, X', hL, e1, e2, ⟨⟨r, u, hv, hp, hb⟩, hF⟩, st⟩ | ⟨q, st₀, t, T', L, E, ce, h0, X', hL, e1, e2, ⟨u, hp, hb, hF⟩, hce, hcv, hcl, st⟩
  · cases hv
    obtain ⟨k1, k2, k3⟩ := vx_keep h0 e1 hS hA hf hL hF
    obtain ⟨t2, a1, b1⟩ := kk r u t T'.heap (locs ++ L) e1.symm (by rw [← e2]; exact X'.warmed.alike) hp hb k1 k2 k3 T' rfl X'
    exact ⟨t2, st t2 a1, b1⟩
  · obtain ⟨k1, k2, k3⟩ := vx_keep h0 e1 hS hAX hf hL hF
    obtain ⟨t2, a1, b1⟩ := kx E ce q u t T'.heap (locs ++ L) e1.symm (by rw [← e2]; exact X'.warmed.alike) hp hb k1 k2 k3 (by rw [e1]; exact hce) hcv hcl T' rfl X'
    exact ⟨t2, st.trans a1, b1⟩
theorem vx_callv {S SX : Type} {post : S → Prop} {px : SX → Prop} {B : S → State → Prop} {BX : String → SX → State → Prop} {AX : Nat → Prop} (hr : vx_Run p l e R s m args below meth c H locs cells slots mc ms (F0 m pc ls st0) rest (va_Qv post B A1 a) (vx_X px BX AX) free) (hS : va_S A0 H0 H locs) (hA : ∀ q, q < H.size → A1 q → A0 q) (hf : ∀ q, free q → A0 q) (hAX : ∀ q, q < H.size → AX q → A0 q)
    (kx : ∀ (E : String) (ce : Cell) (q9 : Addr) (u : SX) (t : State) (H1 : Heap) (locs1 : List Loc), t.heap = H1 → s.vm.Alike t.vm → px u → BX E u t → H.size ≤ H1.size → (∀ q : Nat, q < H.size → ¬ AX q → H1[q]? = H[q]?) → va_S A0 H0 H1 locs1 → H1[q9]? = some ce → ce.vm = .none → s.vm.findClass E = some ce.cls → vx_W p l e R s m args below meth c H1 locs1 (cells + mc) (slots + ms) Q (F0 m pc ls rest) q9)
    (kk : ∀ (u : S) (t : State) (H1 : Heap) (locs1 : List Loc), t.heap = H1 → s.vm.Alike t.vm → post u → B u t → H.size ≤ H1.size → (∀ q : Nat, q < H.size → ¬ A1 q → H1[q]? = H[q]?) → va_S A0 H0 H1 locs1 → W p l e R s m args below meth c H1 locs1 (cells + mc) (slots + ms) Q (F0 m (pc + 3) ls (rest))) : W p l e R s m args below meth c H locs cells slots Q (F0 m pc ls st0) := by
  intro T hT X
  rcases hr T hT X with ⟨v, st₀, t, T', L, h0, X', hL, e1, e2, ⟨⟨u, hv, hp, hb⟩, hF⟩, st⟩ | ⟨q, st₀, t, T', L, E, ce, h0, X', hL, e1, e2, ⟨u, hp, hb, hF⟩, hce, hcv, hcl, st⟩
  · cases hv
    obtain ⟨k1, k2, k3⟩ := vx_keep h0 e1 hS hA hf hL hF
    obtain ⟨t2, a1, b1⟩ := kk u t T'.heap (locs ++ L) e1.symm (by rw [← e2]; exact X'.warmed.alike) hp hb k1 k2 k3 T' rfl X'
    exact ⟨t2, st t2 a1, b1⟩
  · obtain ⟨k1, k2, k3⟩ := vx_keep h0 e1 hS hAX hf hL hF
    obtain ⟨t2, a1, b1⟩ := kx E ce q u t T'.heap (locs ++ L) e1.symm (by rw [← e2]; exact X'.warmed.alike) hp hb k1 k2 k3 (by rw [e1]; exact hce) hcv hcl T' rfl X'
    exact ⟨t2, st.trans a1, b1⟩
end Rows
section Ends
variable {p : Program} {l : Launch} {e : Env} {R : Room} {s : State} {m : MethodId} {args : Array Value} {below : List Frame} {meth : Method} {c : Code} {H : Heap} {locs : List Loc} {cells slots : Nat} {Q : State → Prop}
variable {mc ms : Nat} {free : Addr → Prop} {A0 A1 : Nat → Prop} {H0 : Heap} {a : Array Value} {ls : Array Slot} {st0 rest : List Value}
variable {Qc : Array Value → State → Outcome → State → Prop} {XC : String → State → State → Prop}
/-- what a body that may throw owes at its end -/
def vx_MQ (below : List Frame) (Qc : Array Value → State → Outcome → State → Prop) (XC : String → State → State → Prop) (a : Array Value) (s : State) (mc ms : Nat) (free : Addr → Prop) : State → Prop := fun t =>
  ∃ o, t.status = .running ∧ Ended t below o ∧ vx_Q Qc XC mc ms free a s o t
theorem vx_ret {g : JFrame} {mc ms : Nat} (k : W p l e R s m args below meth c H locs cells slots (MQ below Qc args s mc ms free) g) : W p l e R s m args below meth c H locs cells slots (vx_MQ below Qc XC args s mc ms free) g := by
  intro T hT X
  obtain ⟨t, a1, o, b1, b2, b3, b4⟩ := k T hT X
  exact ⟨t, a1, o, b1, b2, Or.inl ⟨b3, b4⟩⟩
/-- not caught here: it goes on to the caller -/
theorem vx_widen {g : JFrame} {q : Addr} {k n : Nat} (h1 : cells ≤ k) (h2 : slots ≤ n) (kk : vx_W p l e R s m args below meth c H locs k n Q g q) : vx_W p l e R s m args below meth c H locs cells slots Q g q := fun T hT X => kk T hT (stand_widen X h1 h2)
theorem vx_out {pc : Nat} {E : String} {ce : Cell} {q : Addr} {mc ms : Nat} (hout : ∀ x ∈ c.exceptionTable.toList, covers x pc = false) (hlocks : meth.locks = false) (hcell : H[q]? = some ce) (hv : ce.vm = .none) (hcl : s.vm.findClass E = some ce.cls)
    (hx : ∀ t : State, t.heap = H → s.vm.Alike t.vm → XC E s t) (hf : ∀ z ∈ locs, free z.base) (hc : cells ≤ mc) (hs : slots ≤ ms) :
    vx_W p l e R s m args below meth c H locs cells slots (vx_MQ below Qc XC args s mc ms free) (F0 m pc ls rest) q := by
  intro T hT X
  obtain ⟨st1, hrun, hend, hW, hsm⟩ := X.leaveThrown q (g := F0 m pc ls rest) rfl rfl rfl hout hlocks
  have hcell9 : (T.setFrames (.throwing q :: below)).heap[q]? = some ce := by
    show T.heap[q]? = some ce
    rw [hT]; exact hcell
  exact ⟨_, st1, .threw q, hrun, hend, Or.inr ⟨q, rfl, E, ce, locs, hx _ hT hW.alike, hcell9, hv, hcl, hW, hsm.mono hc hs, hf⟩⟩
theorem vx_frame {U : State} {k n : Nat} (h : s.sameButNew ({ U with vm := s.vm } : State) locs k n) : s.heap.size ≤ U.heap.size ∧ ∀ q : Nat, q < s.heap.size → (∀ z ∈ locs, z.base ≠ q) → U.heap[q]? = s.heap[q]? := by
  obtain ⟨-, h2, -, -, -, h6⟩ := h
  refine ⟨h2, fun q hq hz => ?_⟩
  obtain ⟨c9, e1, e2, e3, e4⟩ := h6 q _ (Array.getElem?_eq_getElem hq)
  have hs : c9.slots = (s.heap[q]).slots := Array.ext_getElem? fun i => e4 i fun hm => hz _ hm rfl
  have h9 : c9 = s.heap[q] := by
    rw [hs] at e2
    exact e2
  have e5 : U.heap[q]? = some c9 := e1
  rw [e5, h9, Array.getElem?_eq_getElem hq]
/-- the words of a throw but the four that speak of the heap -/
def vx_no (w : Cond) : Bool := decide (w ≠ .isRef (.static Bundle.tN "UNASSIGNED_STACK" Bundle.steD)) && decide (w ≠ .isRef (.static Bundle.tN "SUPPRESSED_SENTINEL" Bundle.listD)) && decide (w ≠ .laysStatic Bundle.tN "UNASSIGNED_STACK" Bundle.steD) && decide (w ≠ .laysStatic Bundle.tN "SUPPRESSED_SENTINEL" Bundle.listD)
def vx_at0 (own : String) (ic : Nat) (X : String) (names : List String) : List Cond := (Bundle.ownAtoms0 own ic X names).filter vx_no
def vx_atS (own : String) (ic : Nat) (X : String) (names : List String) : List Cond := (Bundle.ownAtoms own ic X names).filter vx_no
/-- a word that the tables alone decide, or a good one -/
def vx_ot (w : Cond) : Bool := w.onTables || goodWord w
theorem vx_ot_at {args a' : Array Value} {s U : State} {w : Cond} (hW : s.WarmedH U.vm) (hvm : s.vm = U.vm) (hg : vx_ot w = true) (h : w.before args s = true) : w.before a' U = true := by
  simp only [vx_ot, Bool.or_eq_true] at hg
  rcases hg with hg | hg
  · exact va_tabs hg hvm h
  · exact word_at hW (good_of_word hg) h
/-- a list's words: the good ones out of the method's own list, the others by premises of their own -/
theorem vx_hat {args : Array Value} {s : State} {L B : List Cond} (h1 : ∀ w ∈ L.filter goodWord, w.before args s = true) (h2 : ∀ w ∈ L.filter (fun w => !goodWord w), w ∈ B) (h3 : ∀ w ∈ B, w.before args s = true) : ∀ w ∈ L, w.before args s = true := by
  intro w hw
  by_cases g : goodWord w = true
  · exact h1 w (List.mem_filter.mpr ⟨hw, g⟩)
  · refine h3 w (h2 w (List.mem_filter.mpr ⟨hw, ?_⟩))
    show (!goodWord w) = true
    cases hgw : goodWord w
    · rfl
    · exact absurd hgw g
theorem vx_c {args : Array Value} {s : State} {w : Cond} {B : List Cond} (h : w.before args s = true) (t : ∀ w ∈ B, w.before args s = true) : ∀ w' ∈ w :: B, w'.before args s = true := fun w' h' => (List.mem_cons.mp h').elim (fun e => by rw [e]; exact h) (t w')
theorem vx_n {args : Array Value} {s : State} : ∀ w ∈ ([] : List Cond), w.before args s = true := fun _ h => nomatch h
theorem vx_own {args : Array Value} {s : State} {L : List Cond} (h1 : ∀ w ∈ L.filter vx_no, w.before args s = true)
    (hU : (Cond.isRef (.static Bundle.tN "UNASSIGNED_STACK" Bundle.steD)).before args s = true) (hN : (Cond.isRef (.static Bundle.tN "SUPPRESSED_SENTINEL" Bundle.listD)).before args s = true)
    (lU : (Cond.laysStatic Bundle.tN "UNASSIGNED_STACK" Bundle.steD).before args s = true) (lN : (Cond.laysStatic Bundle.tN "SUPPRESSED_SENTINEL" Bundle.listD).before args s = true) : ∀ w ∈ L, w.before args s = true := by
  intro w hw
  by_cases e1 : w = .isRef (.static Bundle.tN "UNASSIGNED_STACK" Bundle.steD)
  · rw [e1]; exact hU
  · by_cases e2 : w = .isRef (.static Bundle.tN "SUPPRESSED_SENTINEL" Bundle.listD)
    · rw [e2]; exact hN
    · by_cases e3 : w = .laysStatic Bundle.tN "UNASSIGNED_STACK" Bundle.steD
      · rw [e3]; exact lU
      · by_cases e4 : w = .laysStatic Bundle.tN "SUPPRESSED_SENTINEL" Bundle.listD
        · rw [e4]; exact lN
        · exact h1 w (List.mem_filter.mpr ⟨hw, by unfold vx_no; rw [decide_eq_true e1, decide_eq_true e2, decide_eq_true e3, decide_eq_true e4]; rfl⟩)
/-- where a static field lies, its class's statics cell in H -/
def vx_L (C n d : String) (A : Nat → Prop) (U : State) (H : Heap) : Prop := ∃ (c : ClassId) (k : Class) (i : Nat) (f : Field) (a : Nat) (cell : Cell), U.vm.findClass C = some c ∧ U.fieldFound? C n d = some (c, k, i, f) ∧ f.isStatic = true ∧ k.statics = some a ∧ H[a]? = some cell ∧ cell.vm.isStatics = true ∧ cell.cls = c ∧ f.slot < cell.slots.size ∧ k.staticTypes[f.slot]? = some f.type ∧ ¬ A a
theorem vx_L.moved {C n d : String} {A : Nat → Prop} {u U : State} {H : Heap} (hvm : u.vm.Alike U.vm) (h : vx_L C n d A u H) : vx_L C n d A U H := by
  obtain ⟨c, k, i, f, a, cell, h1, h2, h3, h4, h5, h6, h7, h8, h9, h10⟩ := h
  obtain ⟨k', hi', he⟩ := State.fieldFound?_setVm hvm h2
  exact ⟨c, k', i, f, a, cell, by rw [hvm.findClass]; exact h1, hi', h3, by rw [he]; exact h4, h5, h6, h7, h8, by rw [he]; exact h9, h10⟩
theorem vx_L.kept {C n d : String} {A : Nat → Prop} {U : State} {H H1 : Heap} (h : vx_L C n d A U H) (hq : ∀ a : Nat, a < H.size → ¬ A a → H1[a]? = H[a]?) : vx_L C n d A U H1 := by
  obtain ⟨c, k, i, f, a, cell, h1, h2, h3, h4, h5, h6, h7, h8, h9, h10⟩ := h
  exact ⟨c, k, i, f, a, cell, h1, h2, h3, h4, by rw [hq a (Array.getElem?_eq_some_iff.mp h5).1 h10]; exact h5, h6, h7, h8, h9, h10⟩
theorem vx_L.narrow {C n d : String} {A B : Nat → Prop} {U : State} {H : Heap} (h : vx_L C n d A U H) (hAB : ∀ q, B q → A q) : vx_L C n d B U H := by
  obtain ⟨c, k, i, f, a, cell, h1, h2, h3, h4, h5, h6, h7, h8, h9, h10⟩ := h
  exact ⟨c, k, i, f, a, cell, h1, h2, h3, h4, h5, h6, h7, h8, h9, fun z => h10 (hAB _ z)⟩
theorem vx_L.word {C n d : String} {A : Nat → Prop} {s : State} {args : Array Value} (h : vx_L C n d A s s.heap) : (Cond.laysStatic C n d).before args s = true := by
  obtain ⟨c, k, i, f, a, cell, h1, h2, h3, h4, h5, h6, h7, h8, h9, -⟩ := h
  show (Cond.laysStatic C n d).holds args s none s [] = true
  exact Cond.laysStatic_of h1 h2 h3 h4 h5 h6 h7 h8 h9
/-- .. and what it holds: null or some reference -/
def vx_Zq (C n d : String) (A : Nat → Prop) (U : State) (H : Heap) : Prop := va_Zq C n d A U H ∧ vx_L C n d A U H
theorem vx_Zq.moved {C n d : String} {A : Nat → Prop} {u U : State} {H : Heap} (hvm : u.vm.Alike U.vm) (h : vx_Zq C n d A u H) : vx_Zq C n d A U H := ⟨va_Zq.moved hvm h.1, vx_L.moved hvm h.2⟩
theorem vx_Zq.kept {C n d : String} {A : Nat → Prop} {U : State} {H H1 : Heap} (h : vx_Zq C n d A U H) (hq : ∀ a : Nat, a < H.size → ¬ A a → H1[a]? = H[a]?) : vx_Zq C n d A U H1 := ⟨va_Zq.kept h.1 hq, vx_L.kept h.2 hq⟩
theorem vx_Zq.narrow {C n d : String} {A B : Nat → Prop} {U : State} {H : Heap} (h : vx_Zq C n d A U H) (hAB : ∀ q, B q → A q) : vx_Zq C n d B U H := ⟨va_Zq.narrow h.1 hAB, vx_L.narrow h.2 hAB⟩
theorem vx_Zqof {args : Array Value} {s : State} {C n d : String} {A : Nat → Prop} (hl : (Cond.laysStatic C n d).before args s = true) (hini : (Cond.initialized C).before args s = true) (h : (Cond.isRef (.static C n d)).before args s = true) (hA : ∀ a : Nat, a < s.heap.size → ¬ A a) : vx_Zq C n d A s s.heap := by
  refine ⟨va_Zqof hl hini h hA, ?_⟩
  obtain ⟨c, k, i, f, a, cell, h1, h2, h3, h4, h5, h6, h7, h8, h9⟩ := Cond.laysStatic_spec hl
  exact ⟨c, k, i, f, a, cell, h1, h2, h3, h4, h5, h6, h7, h8, h9, hA a (Array.getElem?_eq_some_iff.mp h5).1⟩
theorem vx_isRef {C n d : String} {v : Value} {A : Nat → Prop} {s : State} {args : Array Value} (h : va_Z C n d v A s s.heap) (hv : v.isRef = true) : (Cond.isRef (.static C n d)).before args s = true := by
  obtain ⟨cf, kf, fi, f, a, cell, h1, h2, h3, h4, h5, h6, h7, -⟩ := h
  have he : (Term.static C n d).eval args s none [] s = some v := by
    simp [Term.eval, State.fieldNamed?, h1, h2, h4, h5, h6, h7]
  simp only [Cond.before, Cond.holds, Cond.value, he]
  cases v <;> simp_all [Value.isRef]
theorem vx_isRefq {C n d : String} {A : Nat → Prop} {s : State} {args : Array Value} (h : va_Zq C n d A s s.heap) : (Cond.isRef (.static C n d)).before args s = true := by
  rcases h with h | ⟨t, h⟩
  · exact vx_isRef h rfl
  · exact vx_isRef h rfl
/-- the same frame, seen from here: as if the method were called anew in this heap -/
theorem vx_rebase {T : State} (X : Stand p l e R s m args below meth c T locs cells slots) {R' : Room} (hf : R'.frames ≤ R.frames) (hl : R'.locals ≤ R.locals) (hc : cells + R'.cells ≤ R.cells) (hs : slots + R'.slots ≤ R.slots) :
    Stand p l e R' ((T.setVm s.vm).setFrames (.invoking m args :: below)) m args below meth c T [] 0 0 := by
  have htop : (T.setVm s.vm).topJava?.isSome := X.here.top
  have hF : ((T.setVm s.vm).setFrames (.invoking m args :: below)).frames = .invoking m args :: below := State.frames_setFrames _ (State.cur_lt_of_top htop)
  obtain ⟨g₀, hg0⟩ := Option.isSome_iff_exists.mp htop
  obtain ⟨r, hr⟩ := State.topJava?_eq_some.mp hg0
  have hl9 : e.platform.stackLimits (T.setVm s.vm).me = e.platform.stackLimits s.me := X.limits
  have hb9 : (T.setVm s.vm).me.stackBytes = s.me.stackBytes := X.bytes
  refine ⟨X.admits, X.cas, X.clock, hF, ?_, X.hears, X.method, X.code, X.here, X.tail, X.warmed, ?_, ?_, ?_⟩
  · have h := X.room
    have hU : ((T.setVm s.vm).setFrames (.invoking m args :: below)).localsInUse = s.localsInUse := by
      rw [State.localsInUse_invoking hF (meth := meth) (c := c) X.method X.code, State.localsInUse_invoking X.frames X.method X.code]
    simp only [State.hasRoom, Bool.and_eq_true, decide_eq_true_eq] at h ⊢
    obtain ⟨⟨⟨⟨h1, h2, h3, h4, h5, h6⟩, h7⟩, h8⟩, h9⟩ := h
    rw [X.frames, List.length_cons] at h2 h3
    have q1 := X.heapSize
    have q2 := X.used
    simp only [hF, hU, List.length_cons, State.stackLimits_setFrames, State.stackBytes_setFrames, hl9, hb9]
    refine ⟨⟨⟨⟨by omega, by omega, by omega, by omega, by omega, h6⟩, ?_⟩, ?_⟩, X.book⟩
    · show T.heap.size + R'.cells ≤ e.platform.maxCells
      omega
    · show T.slotsUsed + R'.slots ≤ e.platform.maxSlots
      omega
  · rw [State.stackLimits_setFrames]; rfl
  · rw [State.stackBytes_setFrames]; rfl
  · refine ⟨?_, Nat.le_refl _, Nat.le_refl _, ?_, ?_, fun a c9 h9 => ⟨c9, h9, rfl, rfl, fun _ _ => rfl⟩⟩
    · obtain ⟨t, ht, -⟩ := State.frames_cons hr
      show T.setVm s.vm = { ((T.setVm s.vm).setFrames (.invoking m args :: below)).setFrames (T.setVm s.vm).frames with heap := T.heap, slotsUsed := T.slotsUsed }
      rw [State.setFrames_setFrames, State.setFrames_self ht]
      rfl
    · show T.slotsUsed = T.slotsUsed + ((T.heap.toList.drop T.heap.size).map (·.slots.size)).sum
      rw [List.drop_eq_nil_of_le (Nat.le_of_eq Array.length_toList)]
      rfl
    · show ((T.heap.toList.drop T.heap.size).map (·.slots.size)).sum ≤ 0
      rw [List.drop_eq_nil_of_le (Nat.le_of_eq Array.length_toList)]
      exact Nat.le_refl _
/-- 'throw new E()': new; dup; invokespecial; athrow -/
theorem vx_throw0 {cc : ByteArray} {pc : Nat} (hexec : p.tables.exec = Jvm.exec) (hb : c.code = cc) (hl : l.stackTraces = false) {own cls : String} {names : List String} {ik ic mc ms : Nat} {A : Nat → Prop}
    (hown : s.vm.findClass own = some m.cls) (hcls : Bundle.fit cls = true) (hnames : ∀ n ∈ names, Bundle.fit n = true)
    (hk : (Cond.classLink own ik cls).before args s = true) (hini : (Cond.initialized cls).before args s = true) (hat : ∀ w ∈ vx_at0 own ic cls names, w.before args s = true)
    (hgood : ∀ w ∈ Cond.classLink own ik cls :: Cond.initialized cls :: vx_at0 own ic cls names, vx_ot w = true)
    (hU : vx_Zq Bundle.tN "UNASSIGNED_STACK" Bundle.steD A s s.heap) (hN : vx_Zq Bundle.tN "SUPPRESSED_SENTINEL" Bundle.listD A s s.heap) (hS : va_S A s.heap H locs) (hsize : ls.size = c.maxLocals)
    (d0 : decode cc pc = .ok (.new ik, 3)) (d3 : decode cc (pc + 3) = .ok (.dup, 1)) (d4 : decode cc (pc + 4) = .ok (.invokespecial ic, 3)) (d7 : decode cc (pc + 7) = .ok (.athrow, 1))
    (hout : ∀ x ∈ c.exceptionTable.toList, covers x (pc + 7) = false)
    (hRframes : names.length + 3 < R.frames) (hRlocals : (rest.map fun v => v.category).sum + (13 * (names.length + 1) + 42) ≤ R.locals) (hRcells : cells + 1 ≤ R.cells) (hRslots : slots + 6 ≤ R.slots) (hlocks : meth.locks = false)
    (hx : ∀ t : State, s.vm.Alike t.vm → H.size ≤ t.heap.size → (∀ q : Nat, q < H.size → t.heap[q]? = H[q]?) → XC cls s t)
    (hf : ∀ z ∈ locs, free z.base) (hc : cells + 1 ≤ mc) (hs : slots + 6 ≤ ms) :
    W p l e R s m args below meth c H locs cells slots (vx_MQ below Qc XC args s mc ms free) (F0 m pc ls rest) := by
  intro T hT X
  have htr : e.platform.stackTraces = false := (show e.platform.stackTraces = l.stackTraces by rw [X.admits.platform]).trans hl
  have Y := vx_rebase X (R' := { frames := R.frames, locals := R.locals, cells := 1, slots := 6 }) (Nat.le_refl _) (Nat.le_refl _) hRcells hRslots
  obtain ⟨s', hA⟩ : ∃ z, z = (T.setVm s.vm).setFrames (.invoking m args :: below) := ⟨_, rfl⟩
  rw [← hA] at Y
  have hvm : s'.vm = s.vm := by rw [hA]; rfl
  have hhp : s'.heap = H := by rw [hA]; exact hT
  have hW0 : s.WarmedH s'.vm := by rw [hvm]; exact State.WarmedH.refl s
  have hat' : ∀ w ∈ vx_at0 own ic cls names, w.before args s' = true := fun w hw => vx_ot_at hW0 hvm.symm (hgood w (List.mem_cons_of_mem _ (List.mem_cons_of_mem _ hw))) (hat w hw)
  have hk' : (Cond.classLink own ik cls).before args s' = true := vx_ot_at hW0 hvm.symm (hgood _ List.mem_cons_self) hk
  have hini' : (Cond.initialized cls).before args s' = true := vx_ot_at hW0 hvm.symm (hgood _ (List.mem_cons_of_mem _ List.mem_cons_self)) hini
  have hU' : vx_Zq Bundle.tN "UNASSIGNED_STACK" Bundle.steD A s' s'.heap := by rw [hhp]; exact vx_Zq.moved hW0.alike (hU.kept hS.2.1)
  have hN' : vx_Zq Bundle.tN "SUPPRESSED_SENTINEL" Bundle.listD A s' s'.heap := by rw [hhp]; exact vx_Zq.moved hW0.alike (hN.kept hS.2.1)
  have h : ∀ w ∈ Bundle.ownAtoms0 own ic cls names, w.before args s' = true := vx_own hat' (vx_isRefq hU'.1) (vx_isRefq hN'.1) hU'.2.word hN'.2.word
  have hown' : s'.vm.findClass own = some m.cls := by rw [hvm]; exact hown
  have hins : (Cond.instantiable cls 6).before args s' = true := h _ (by simp [Bundle.ownAtoms0])
  obtain ⟨vm₁, cX, kX, hfX, hkX, -, -, X₁, st1⟩ := Y.newCold hexec (own := own) (C := cls) (index := ik) (n := 6) hown' hk' hins hini'
    (g := F0 m pc ls rest) rfl (by rw [hb]; exact d0) (Nat.le_refl _) (Nat.le_refl _)
  generalize hT1 : (T.setVm vm₁).pushCell { cls := cX, slots := kX.instanceTypes.map defaultValue, vm := .none } = T1 at X₁ st1
  have hcat : (Value.ref T.heap.size).category = 1 := rfl
  have hcellA : T1.heap[T.heap.size]? = some (freshCell cX kX) := by rw [← hT1]; exact State.heap_pushCell_size _ _
  have d3' : decode c.code (pc + 3) = .ok (.dup, 1) := by rw [hb]; exact d3
  obtain ⟨U, hsteps, hrun, hend, hW, hsame, ce, hce, hO⟩ := X₁.ctorThrow0 hexec htr (own := own) (cls := cls) (names := names) (ic := ic) hown' hcls hnames h (fun x hx => nomatch hx) hfX hkX hcellA (by rw [hhp, hT]; exact Nat.le_refl _)
    (g := { method := m, pc := pc + 4, locals := ls, stack := .ref T.heap.size :: .ref T.heap.size :: rest, locked := none }) rfl hsize rfl rfl (rest := rest) rfl
    (by rw [hb]; exact d4) (by rw [hb]; exact d7) hout hRframes (by simp only [List.map_cons, List.sum_cons, hcat]; omega) hlocks
  obtain ⟨f1, f2⟩ := vx_frame hsame
  rw [hhp] at f1 f2
  have hWs : s.WarmedH U.vm := State.WarmedH.trans hW0 hW
  have hcl : s.vm.findClass cls = some ce.cls := by
    have h9 := hO.cls
    rw [hvm] at h9
    exact h9
  have hall : s.sameButNew ({ U with vm := s.vm } : State) locs mc ms := by
    subst hA
    obtain ⟨e1, e2⟩ := hsame
    rw [State.setFrames_setFrames] at e1
    have h2 : (T.setVm s.vm).sameButNew ({ U with vm := s.vm } : State) [] (0 + 1) (0 + 6) := ⟨e1, e2⟩
    have h3 := X.same.trans h2
    rw [List.append_nil] at h3
    exact h3.mono hc hs
  refine ⟨U, ?_, .threw T.heap.size, hrun, hend, Or.inr ⟨T.heap.size, rfl, cls, ce, locs, hx U hWs.alike f1 (fun q hq => f2 q hq (fun z hz => nomatch hz)), hce, hO.vm, hcl, hWs, hall, hf⟩⟩
  refine st1 _ ?_
  show Steps p.tables e below (T1.setTop { method := m, pc := pc + 3, locals := ls, stack := .ref T.heap.size :: rest, locked := none }) _
  jvm_step X₁.here [X₁.here.top, hexec, d3', Value.category]
  exact hsteps
/-- 'throw new E("text")': new; dup; ldc; invokespecial; athrow -/
theorem vx_throwS {cc : ByteArray} {pc : Nat} (hexec : p.tables.exec = Jvm.exec) (hb : c.code = cc) (hl : l.stackTraces = false) {own cls text : String} {names : List String} {ik is ic mc ms sa : Nat} {A : Nat → Prop}
    (hown : s.vm.findClass own = some m.cls) (hcls : Bundle.fit cls = true) (hnames : ∀ n ∈ names, Bundle.fit n = true)
    (hk : (Cond.classLink own ik cls).before args s = true) (hini : (Cond.initialized cls).before args s = true) (hstr : vk_R own is text sa s) (hat : ∀ w ∈ vx_atS own ic cls names, w.before args s = true)
    (hgood : ∀ w ∈ Cond.classLink own ik cls :: Cond.initialized cls :: vx_atS own ic cls names, vx_ot w = true)
    (hU : vx_Zq Bundle.tN "UNASSIGNED_STACK" Bundle.steD A s s.heap) (hN : vx_Zq Bundle.tN "SUPPRESSED_SENTINEL" Bundle.listD A s s.heap) (hS : va_S A s.heap H locs) (hsize : ls.size = c.maxLocals)
    (d0 : decode cc pc = .ok (.new ik, 3)) (d3 : decode cc (pc + 3) = .ok (.dup, 1)) (d4 : decode cc (pc + 4) = .ok (.ldc is, 2)) (d6 : decode cc (pc + 6) = .ok (.invokespecial ic, 3)) (d9 : decode cc (pc + 9) = .ok (.athrow, 1))
    (hout : ∀ x ∈ c.exceptionTable.toList, covers x (pc + 9) = false)
    (hRframes : names.length + 3 < R.frames) (hRlocals : (rest.map fun v => v.category).sum + (13 * (names.length + 1) + 43) ≤ R.locals) (hRcells : cells + 1 ≤ R.cells) (hRslots : slots + 6 ≤ R.slots) (hlocks : meth.locks = false)
    (hx : ∀ t : State, s.vm.Alike t.vm → H.size ≤ t.heap.size → (∀ q : Nat, q < H.size → t.heap[q]? = H[q]?) → XC cls s t)
    (hf : ∀ z ∈ locs, free z.base) (hc : cells + 1 ≤ mc) (hs : slots + 6 ≤ ms) :
    W p l e R s m args below meth c H locs cells slots (vx_MQ below Qc XC args s mc ms free) (F0 m pc ls rest) := by
  intro T hT X
  have htr : e.platform.stackTraces = false := (show e.platform.stackTraces = l.stackTraces by rw [X.admits.platform]).trans hl
  have Y := vx_rebase X (R' := { frames := R.frames, locals := R.locals, cells := 1, slots := 6 }) (Nat.le_refl _) (Nat.le_refl _) hRcells hRslots
  obtain ⟨s', hA⟩ : ∃ z, z = (T.setVm s.vm).setFrames (.invoking m args :: below) := ⟨_, rfl⟩
  rw [← hA] at Y
  have hvm : s'.vm = s.vm := by rw [hA]; rfl
  have hhp : s'.heap = H := by rw [hA]; exact hT
  have hW0 : s.WarmedH s'.vm := by rw [hvm]; exact State.WarmedH.refl s
  have hat' : ∀ w ∈ vx_atS own ic cls names, w.before args s' = true := fun w hw => vx_ot_at hW0 hvm.symm (hgood w (List.mem_cons_of_mem _ (List.mem_cons_of_mem _ hw))) (hat w hw)
  have hk' : (Cond.classLink own ik cls).before args s' = true := vx_ot_at hW0 hvm.symm (hgood _ List.mem_cons_self) hk
  have hini' : (Cond.initialized cls).before args s' = true := vx_ot_at hW0 hvm.symm (hgood _ (List.mem_cons_of_mem _ List.mem_cons_self)) hini
  have hU' : vx_Zq Bundle.tN "UNASSIGNED_STACK" Bundle.steD A s' s'.heap := by rw [hhp]; exact vx_Zq.moved hW0.alike (hU.kept hS.2.1)
  have hN' : vx_Zq Bundle.tN "SUPPRESSED_SENTINEL" Bundle.listD A s' s'.heap := by rw [hhp]; exact vx_Zq.moved hW0.alike (hN.kept hS.2.1)
  have h : ∀ w ∈ Bundle.ownAtoms own ic cls names, w.before args s' = true := vx_own hat' (vx_isRefq hU'.1) (vx_isRefq hN'.1) hU'.2.word hN'.2.word
  have hown' : s'.vm.findClass own = some m.cls := by rw [hvm]; exact hown
  have hins : (Cond.instantiable cls 6).before args s' = true := h _ (by simp [Bundle.ownAtoms])
  obtain ⟨vm₁, cX, kX, hfX, hkX, -, -, X₁, st1⟩ := Y.newCold hexec (own := own) (C := cls) (index := ik) (n := 6) hown' hk' hins hini'
    (g := F0 m pc ls rest) rfl (by rw [hb]; exact d0) (Nat.le_refl _) (Nat.le_refl _)
  generalize hT1 : (T.setVm vm₁).pushCell { cls := cX, slots := kX.instanceTypes.map defaultValue, vm := .none } = T1 at X₁ st1
  have hcat : (Value.ref T.heap.size).category = 1 := rfl
  have hcellA : T1.heap[T.heap.size]? = some (freshCell cX kX) := by rw [← hT1]; exact State.heap_pushCell_size _ _
  have d3' : decode c.code (pc + 3) = .ok (.dup, 1) := by rw [hb]; exact d3
  have d4' : decode c.code (pc + 4) = .ok (.ldc is, 2) := by rw [hb]; exact d4
  have hstr' : vk_R own is text sa s' := vk_R.warm hW0 hstr
  obtain ⟨U, hsteps, hrun, hend, hW, hsame, ce, hce, hO⟩ := X₁.ctorThrowS hexec htr (own := own) (cls := cls) (names := names) (ic := ic) hown' hcls hnames h (fun x hx => nomatch hx) hfX hkX hcellA (by rw [hhp, hT]; exact Nat.le_refl _) (msg := .ref sa) rfl
    (g := { method := m, pc := pc + 6, locals := ls, stack := .ref sa :: .ref T.heap.size :: .ref T.heap.size :: rest, locked := none }) rfl hsize rfl rfl (rest := rest) rfl
    (by rw [hb]; exact d6) (by rw [hb]; exact d9) hout hRframes (by simp only [List.map_cons, List.sum_cons, hcat]; omega) hlocks
  obtain ⟨f1, f2⟩ := vx_frame hsame
  rw [hhp] at f1 f2
  have hWs : s.WarmedH U.vm := State.WarmedH.trans hW0 hW
  have hcl : s.vm.findClass cls = some ce.cls := by
    have h9 := hO.cls
    rw [hvm] at h9
    exact h9
  have hall : s.sameButNew ({ U with vm := s.vm } : State) locs mc ms := by
    subst hA
    obtain ⟨e1, e2⟩ := hsame
    rw [State.setFrames_setFrames] at e1
    have h2 : (T.setVm s.vm).sameButNew ({ U with vm := s.vm } : State) [] (0 + 1) (0 + 6) := ⟨e1, e2⟩
    have h3 := X.same.trans h2
    rw [List.append_nil] at h3
    exact h3.mono hc hs
  refine ⟨U, ?_, .threw T.heap.size, hrun, hend, Or.inr ⟨T.heap.size, rfl, cls, ce, locs, hx U hWs.alike f1 (fun q hq => f2 q hq (fun z hz => nomatch hz)), hce, hO.vm, hcl, hWs, hall, hf⟩⟩
  refine st1 _ ?_
  show Steps p.tables e below (T1.setTop { method := m, pc := pc + 3, locals := ls, stack := .ref T.heap.size :: rest, locked := none }) _
  jvm_step X₁.here [X₁.here.top, hexec, d3', Value.category]
  exact X₁.ldcString hexec (own := own) (text := text) (index := is) (a := sa) hown' hstr'.1 hstr'.2
    (g := { method := m, pc := pc + 4, locals := ls, stack := .ref T.heap.size :: .ref T.heap.size :: rest, locked := none }) rfl d4' _ hsteps
/-- 'throw new E("text")', the text by a wide index -/
theorem vx_throwSW {cc : ByteArray} {pc : Nat} (hexec : p.tables.exec = Jvm.exec) (hb : c.code = cc) (hl : l.stackTraces = false) {own cls text : String} {names : List String} {ik is ic mc ms sa : Nat} {A : Nat → Prop}
    (hown : s.vm.findClass own = some m.cls) (hcls : Bundle.fit cls = true) (hnames : ∀ n ∈ names, Bundle.fit n = true)
    (hk : (Cond.classLink own ik cls).before args s = true) (hini : (Cond.initialized cls).before args s = true) (hstr : vk_R own is text sa s) (hat : ∀ w ∈ vx_atS own ic cls names, w.before args s = true)
    (hgood : ∀ w ∈ Cond.classLink own ik cls :: Cond.initialized cls :: vx_atS own ic cls names, vx_ot w = true)
    (hU : vx_Zq Bundle.tN "UNASSIGNED_STACK" Bundle.steD A s s.heap) (hN : vx_Zq Bundle.tN "SUPPRESSED_SENTINEL" Bundle.listD A s s.heap) (hS : va_S A s.heap H locs) (hsize : ls.size = c.maxLocals)
    (d0 : decode cc pc = .ok (.new ik, 3)) (d3 : decode cc (pc + 3) = .ok (.dup, 1)) (d4 : decode cc (pc + 4) = .ok (.ldc_w is, 3)) (d7 : decode cc (pc + 7) = .ok (.invokespecial ic, 3)) (d10 : decode cc (pc + 10) = .ok (.athrow, 1))
    (hout : ∀ x ∈ c.exceptionTable.toList, covers x (pc + 10) = false)
    (hRframes : names.length + 3 < R.frames) (hRlocals : (rest.map fun v => v.category).sum + (13 * (names.length + 1) + 43) ≤ R.locals) (hRcells : cells + 1 ≤ R.cells) (hRslots : slots + 6 ≤ R.slots) (hlocks : meth.locks = false)
    (hx : ∀ t : State, s.vm.Alike t.vm → H.size ≤ t.heap.size → (∀ q : Nat, q < H.size → t.heap[q]? = H[q]?) → XC cls s t)
    (hf : ∀ z ∈ locs, free z.base) (hc : cells + 1 ≤ mc) (hs : slots + 6 ≤ ms) :
    W p l e R s m args below meth c H locs cells slots (vx_MQ below Qc XC args s mc ms free) (F0 m pc ls rest) := by
  intro T hT X
  have htr : e.platform.stackTraces = false := (show e.platform.stackTraces = l.stackTraces by rw [X.admits.platform]).trans hl
  have Y := vx_rebase X (R' := { frames := R.frames, locals := R.locals, cells := 1, slots := 6 }) (Nat.le_refl _) (Nat.le_refl _) hRcells hRslots
  obtain ⟨s', hA⟩ : ∃ z, z = (T.setVm s.vm).setFrames (.invoking m args :: below) := ⟨_, rfl⟩
  rw [← hA] at Y
  have hvm : s'.vm = s.vm := by rw [hA]; rfl
  have hhp : s'.heap = H := by rw [hA]; exact hT
  have hW0 : s.WarmedH s'.vm := by rw [hvm]; exact State.WarmedH.refl s
  have hat' : ∀ w ∈ vx_atS own ic cls names, w.before args s' = true := fun w hw => vx_ot_at hW0 hvm.symm (hgood w (List.mem_cons_of_mem _ (List.mem_cons_of_mem _ hw))) (hat w hw)
  have hk' : (Cond.classLink own ik cls).before args s' = true := vx_ot_at hW0 hvm.symm (hgood _ List.mem_cons_self) hk
  have hini' : (Cond.initialized cls).before args s' = true := vx_ot_at hW0 hvm.symm (hgood _ (List.mem_cons_of_mem _ List.mem_cons_self)) hini
  have hU' : vx_Zq Bundle.tN "UNASSIGNED_STACK" Bundle.steD A s' s'.heap := by rw [hhp]; exact vx_Zq.moved hW0.alike (hU.kept hS.2.1)
  have hN' : vx_Zq Bundle.tN "SUPPRESSED_SENTINEL" Bundle.listD A s' s'.heap := by rw [hhp]; exact vx_Zq.moved hW0.alike (hN.kept hS.2.1)
  have h : ∀ w ∈ Bundle.ownAtoms own ic cls names, w.before args s' = true := vx_own hat' (vx_isRefq hU'.1) (vx_isRefq hN'.1) hU'.2.word hN'.2.word
  have hown' : s'.vm.findClass own = some m.cls := by rw [hvm]; exact hown
  have hins : (Cond.instantiable cls 6).before args s' = true := h _ (by simp [Bundle.ownAtoms])
  obtain ⟨vm₁, cX, kX, hfX, hkX, -, -, X₁, st1⟩ := Y.newCold hexec (own := own) (C := cls) (index := ik) (n := 6) hown' hk' hins hini'
    (g := F0 m pc ls rest) rfl (by rw [hb]; exact d0) (Nat.le_refl _) (Nat.le_refl _)
  generalize hT1 : (T.setVm vm₁).pushCell { cls := cX, slots := kX.instanceTypes.map defaultValue, vm := .none } = T1 at X₁ st1
  have hcat : (Value.ref T.heap.size).category = 1 := rfl
  have hcellA : T1.heap[T.heap.size]? = some (freshCell cX kX) := by rw [← hT1]; exact State.heap_pushCell_size _ _
  have d3' : decode c.code (pc + 3) = .ok (.dup, 1) := by rw [hb]; exact d3
  have d4' : decode c.code (pc + 4) = .ok (.ldc_w is, 3) := by rw [hb]; exact d4
  have hstr' : vk_R own is text sa s' := vk_R.warm hW0 hstr
  obtain ⟨U, hsteps, hrun, hend, hW, hsame, ce, hce, hO⟩ := X₁.ctorThrowS hexec htr (own := own) (cls := cls) (names := names) (ic := ic) hown' hcls hnames h (fun x hx => nomatch hx) hfX hkX hcellA (by rw [hhp, hT]; exact Nat.le_refl _) (msg := .ref sa) rfl
    (g := { method := m, pc := pc + 7, locals := ls, stack := .ref sa :: .ref T.heap.size :: .ref T.heap.size :: rest, locked := none }) rfl hsize rfl rfl (rest := rest) rfl
    (by rw [hb]; exact d7) (by rw [hb]; exact d10) hout hRframes (by simp only [List.map_cons, List.sum_cons, hcat]; omega) hlocks
  obtain ⟨f1, f2⟩ := vx_frame hsame
  rw [hhp] at f1 f2
  have hWs : s.WarmedH U.vm := State.WarmedH.trans hW0 hW
  have hcl : s.vm.findClass cls = some ce.cls := by
    have h9 := hO.cls
    rw [hvm] at h9
    exact h9
  have hall : s.sameButNew ({ U with vm := s.vm } : State) locs mc ms := by
    subst hA
    obtain ⟨e1, e2⟩ := hsame
    rw [State.setFrames_setFrames] at e1
    have h2 : (T.setVm s.vm).sameButNew ({ U with vm := s.vm } : State) [] (0 + 1) (0 + 6) := ⟨e1, e2⟩
    have h3 := X.same.trans h2
    rw [List.append_nil] at h3
    exact h3.mono hc hs
  refine ⟨U, ?_, .threw T.heap.size, hrun, hend, Or.inr ⟨T.heap.size, rfl, cls, ce, locs, hx U hWs.alike f1 (fun q hq => f2 q hq (fun z hz => nomatch hz)), hce, hO.vm, hcl, hWs, hall, hf⟩⟩
  refine st1 _ ?_
  show Steps p.tables e below (T1.setTop { method := m, pc := pc + 3, locals := ls, stack := .ref T.heap.size :: rest, locked := none }) _
  jvm_step X₁.here [X₁.here.top, hexec, d3', Value.category]
  exact X₁.ldcStringW hexec (own := own) (text := text) (index := is) (a := sa) hown' hstr'.1 hstr'.2
    (g := { method := m, pc := pc + 4, locals := ls, stack := .ref T.heap.size :: .ref T.heap.size :: rest, locked := none }) rfl d4' _ hsteps
end Ends
section Bodies
variable {l : Launch}
theorem vx_ofW {y : MethodName} {ws ws' : List Cond} {rm : Room} {Pc : Array Value → State → Prop} {Qc : Array Value → State → Outcome → State → Prop} {XC : String → State → State → Prop} {mc ms : Nat} {free : Addr → Prop} {cc : ByteArray} {maxL : Nat} {ret : Option FieldType}
    (hy : plainName y.cls = true) (hw : ws = Cond.code y cc maxL ret :: ws')
    (body : ∀ p e s m args below meth c s₁, BodyLoose p l y (headSpec ws rm) cc maxL ret e s m args below meth c s₁ → c.maxLocals = maxL → (∀ x ∈ c.exceptionTable.toList, False) → Pc args s →
      W p l e (headSpec ws rm).room s m args below meth c s.heap [] 0 0 (vx_MQ below Qc XC args s mc ms free) (entryFrame m args maxL)) : vx_Met l y ws rm Pc Qc XC mc ms free := by
  refine MetFree.of_bodyS (code := cc) (maxLocals := maxL) (ret := ret) hy ?_ ?_
  · intro args s m h hn
    obtain ⟨meth, c, h1, h2, h3, h4, h5, h6, -, -⟩ := Cond.code_spec hn (atoms_spec (ws := ws) h _ (by rw [hw]; exact List.mem_cons_self))
    exact ⟨meth, c, h1, h2, h3, h4, h5, h6⟩
  · intro p e s m args below meth c s₁ B hml hP _
    have hh0 : s₁.heap = s.heap := by rw [B.state]; rfl
    have ht : ∀ x ∈ c.exceptionTable.toList, False := by
      obtain ⟨meth9, c9, h1, h2, -, -, -, -, h7, -⟩ := Cond.code_spec B.named (atoms_spec (ws := ws) B.pre _ (by rw [hw]; exact List.mem_cons_self))
      cases Option.some.inj (h1.symm.trans B.method)
      cases Option.some.inj (h2.symm.trans (Stand.of_body B).code)
      intro x hx
      rw [Array.isEmpty_iff.mp h7] at hx
      cases hx
    obtain ⟨t, a1, o, b1, b2, b3⟩ := body p e s m args below meth c s₁ B hml ht hP s₁ hh0 (Stand.of_body B)
    exact ⟨t, o, a1, b1, b2, b3⟩
/-- the table of a body with handlers -/
theorem vx_table {p : Program} {x y : MethodName} {S : Spec} {cc bytes : ByteArray} {maxL maxL' : Nat} {ret ret' : Option FieldType} {e : Env} {s s₁ : State} {m : MethodId} {args : Array Value} {below : List Frame} {meth : Method} {c : Code} {hh : List (Nat × Nat × Nat × Nat)}
    (B : BodyLoose p l y S cc maxL ret e s m args below meth c s₁) (h : (Cond.codeWith y bytes maxL' ret' hh).before args s = true) : c.exceptionTable.toList = tableOf hh := by
  obtain ⟨m9, meth9, c9, hn9, h1, h2, -, -, h6, -⟩ := Cond.codeWith_spec h
  cases Option.some.inj (hn9.symm.trans B.named)
  cases Option.some.inj (h1.symm.trans B.method)
  cases Option.some.inj (h2.symm.trans (Stand.of_body B).code)
  rw [← h6, table_eq]
end Bodies
end VXA
/-! ===== END ===== -/
/-! ===== BEGIN a static call of a method with an exception table ===== -/
section VXS
variable {p : Program} {l : Launch} {e : Env} {R : Room} {s : State} {m : MethodId} {args : Array Value} {below : List Frame} {meth : Method} {c : Code} {T : State} {H : Heap} {locs : List Loc} {cells slots : Nat}
abbrev vx_CSW (R : Room) (s : State) (args : Array Value) (own : String) (index : Nat) (y : MethodName) (bytes : ByteArray) (maxL : Nat) (ret : Option FieldType) (hh : List (Nat × Nat × Nat × Nat)) (ws : List Cond) (rm : Room) (mc ms n : Nat) : Prop :=
  (rm.cells = mc ∧ rm.slots = ms ∧ rm.frames + 1 ≤ R.frames ∧ 8 + (maxL + 11) + rm.locals ≤ R.locals ∧ (∀ w ∈ ws, ∀ (a' : Array Value) (U : State), s.WarmedH U.vm → w.before a' U = true) ∧ Cond.codeWith y bytes maxL ret hh ∈ ws) ∧
  (Cond.codeWith y bytes maxL ret hh).before args s = true ∧ (Cond.initialized y.cls).before args s = true ∧ (y.cls ≠ "java/lang/invoke/MethodHandle" ∧ y.cls ≠ "java/lang/invoke/VarHandle") ∧
  (∀ sig, parseMethodDescriptor y.desc = some sig → n = sig.parameters.length) ∧ (Cond.methodLink own index y).before args s = true ∧ (Cond.static y).before args s = true
theorem vx_cwSW {own : String} {index maxL mc ms : Nat} {y : MethodName} {bytes : ByteArray} {ret : Option FieldType} {hh : List (Nat × Nat × Nat × Nat)} {Ts ws ws' : List Cond} {rm : Room} (n : Nat) (ht : ∀ w ∈ Ts, w.before args s = true) (hT : GoodIn Ts (va_wsS own index y ws)) (hw : ws = Cond.codeWith y bytes maxL ret hh :: ws') (hrc : rm.cells = mc) (hrs : rm.slots = ms)
    (hd : y.cls ≠ "java/lang/invoke/MethodHandle" ∧ y.cls ≠ "java/lang/invoke/VarHandle" ∧ (parseMethodDescriptor y.desc).map (fun d => d.parameters.length) = some n) (hR : rm.frames + 1 ≤ R.frames ∧ 8 + (maxL + 11) + rm.locals ≤ R.locals) :
    vx_CSW R s args own index y bytes maxL ret hh ws rm mc ms n := by
  have ok : ∀ w ∈ va_wsS own index y ws, w.before args s = true := fun w h => ht w (hT w h).1
  have hG : GoodIn Ts ws := fun w h => hT w (by unfold va_wsS; exact List.mem_append_right _ h)
  have hc : Cond.codeWith y bytes maxL ret hh ∈ ws := by rw [hw]; exact List.mem_cons_self
  refine ⟨⟨hrc, hrs, hR.1, hR.2, pay_in ht hG, hc⟩, ht _ (hG _ hc).1, ok _ (by simp [va_wsS]), ⟨hd.1, hd.2.1⟩, fun sig h => ?_, ok _ (by simp [va_wsS]), ok _ (by simp [va_wsS])⟩
  have h2 := hd.2.2
  rw [h] at h2
  exact (Option.some.inj h2).symm
theorem vx_callSW (X : Stand p l e R s m args below meth c T locs cells slots) (hexec : p.tables.exec = Jvm.exec) {own : String} {index : Nat} {y : MethodName} {bytes : ByteArray} {maxL : Nat} {ret : Option FieldType} {hh : List (Nat × Nat × Nat × Nat)}
    (hown : s.vm.findClass own = some m.cls) (hlink : (Cond.methodLink own index y).before args s = true) (hstat : (Cond.static y).before args s = true) (hinit : (Cond.initialized y.cls).before args s = true)
    (hcode : (Cond.codeWith y bytes maxL ret hh).before args s = true) (hy : y.cls ≠ "java/lang/invoke/MethodHandle" ∧ y.cls ≠ "java/lang/invoke/VarHandle")
    {W9 : Nat} {Pre : Pt → Array Value → Prop} {Post : Pt → Array Value → Option Value → Pt → Prop} (hK : Back l R p e below s args y 3 W9 Pre Post)
    {g : JFrame} (hg : g.method = m) (hsize : g.locals.size = c.maxLocals) {argsL rest : List Value} (hlen : ∀ sig, parseMethodDescriptor y.desc = some sig → argsL.length = sig.parameters.length)
    (hstack : g.stack = argsL.reverse ++ rest) (hW : 2 * g.monitorRoom + (rest.map fun v => v.category).sum ≤ W9) (hdg : decode c.code g.pc = .ok (.invokestatic index, 3))
    (hpre : ∀ vm₁, s.WarmedH vm₁ → Pre ⟨T.setVm vm₁, locs, cells, slots⟩ argsL.toArray) :
    ∃ (v : Option Value) (vm₁ : Vm) (B : Pt), s.WarmedH vm₁ ∧ Stand p l e R s m args below meth c B.U B.locs B.cells B.slots ∧ Post ⟨T.setVm vm₁, locs, cells, slots⟩ argsL.toArray v B ∧
      ∀ target, Steps p.tables e below (B.U.setTop { g with pc := g.pc + 3, stack := v.toList ++ rest }) target → Steps p.tables e below (T.setTop g) target := by
  obtain ⟨mk, methM, cM, hnamed, hmethM, -, -, -, -, -, -, hsigM⟩ := Cond.codeWith_spec hcode
  have hstatic : methM.isStatic = true := Cond.static_spec hnamed hmethM hstat
  obtain ⟨kP, hkP, -⟩ := className_of_methodNamed hnamed
  have hinitP : kP.init = .initialized := Cond.initialized_spec (findClass_of_methodNamed hnamed) hkP hinit
  obtain ⟨vm₁, X₁, hstep₁⟩ := X.invokestatic hexec hown hlink hnamed hmethM hstatic hkP hinitP hy (g := g) hg (argsL := argsL) (rest := rest) (hlen _ hsigM) hstack hdg
  obtain ⟨v, B, X', hpost, hsteps⟩ := hK m meth c ⟨T.setVm vm₁, locs, cells, slots⟩ { g with stack := rest } (.invokestatic index) mk argsL.toArray X₁ hg hsize hdg hW (X₁.named hnamed) (hpre vm₁ X₁.warmed)
  exact ⟨v, vm₁, B, X₁.warmed, X', hpost, fun target h => hstep₁ _ fun acts => by rw [doInvoke_state]; exact hsteps.trans h⟩
theorem vx_runSW {y : MethodName} {bytes cc : ByteArray} {maxL nL mc ms n index : Nat} {ret : Option FieldType} {hh : List (Nat × Nat × Nat × Nat)} {ws : List Cond} {rm : Room} {Pc : Array Value → State → Prop} {Qc : Array Value → State → Outcome → State → Prop} {free : Addr → Prop} {Ts : List Cond} {own : String} {As rest : List Value} {g : JFrame}
    (S : CallFix p m c cc nL s args Ts own) (hM : Met l y ws rm Pc Qc mc ms free) (cw : vx_CSW R s args own index y bytes maxL ret hh ws rm mc ms n) (hp : PreS s H Pc As)
    (hg : g.method = m) (hn : As.length = n) (hsize : g.locals.size = nL) (hstack : g.stack = As.reverse ++ rest) (hW : 2 * g.monitorRoom + (rest.map fun v => v.category).sum ≤ 8) (hdg : decode cc g.pc = .ok (.invokestatic index, 3)) (hf : cells + mc ≤ R.cells ∧ slots + ms ≤ R.slots) :
    va_Run p l e R s m args below meth c H locs cells slots mc ms g rest (Qc As.toArray) (free) := by
  obtain ⟨⟨hrc, hrs, hfr, hlo, hws, hcw⟩, hcode, hini, hy, hlen, hl, hstt⟩ := cw
  have hK : Back l R p e below s args y 3 8 (PreOf R mc ms Pc) (PostOf Qc mc ms free) := va_backW (hh := hh) (bytes := bytes) (maxL := maxL) (ret := ret) hM hp.1 hrc hrs hfr hlo hws hcw (fun a' U hW => word_at hW (Or.inl (by first | rfl | simp [Cond.onTables, Cond.keeps, Cond.steady])) hini)
  obtain ⟨hx, hb, hml, ho, -⟩ := S
  intro T hT X
  obtain ⟨v, vm₁, ⟨U', l2, c2, s2⟩, hW₁, X', ⟨g', mk, t, L, e1, e2, hq, h1, hL, h2, h3⟩, st⟩ := vx_callSW X hx (hh := hh) (bytes := bytes) (maxL := maxL) (ret := ret) ho hl hstt hini hcode hy hK hg (hsize.trans hml.symm) (argsL := As) (rest := rest) (fun sig h => hn.trans (hlen sig h)) hstack hW (by rw [hb]; exact hdg)
    (fun vm₁ hW₁ => ⟨hf.1, hf.2, hp.2 (T.setVm vm₁) hT hW₁⟩)
  dsimp only [Pt.U, Pt.locs, Pt.cells, Pt.slots] at X' e1 e2 h1 h2 h3 st
  subst h1; subst h2; subst h3
  exact ⟨v, (T.setVm vm₁).calling g' mk As.toArray, t, U', L, hT, X', hL, e1, e2, hq, st⟩
/-- a thing of a world lies in the heap -/
theorem vx_lt {D : va_G} {cl : List vw_C} {ws : va_W} {H1 : Heap} (h : va_P D cl ws H1) {k : Nat} {q : Nat × va_E} (hk : ws[k]? = some q) : q.1 < H1.size := (h k q hk).lt
end VXS
/-! ===== END ===== -/
/-! ===== BEGIN methods with a table of their own: called by a name, returning or throwing ===== -/
section VXH
/-! vx_backW, vx_callVX, vx_callSX, vx_callVW, vx_runVW, vx_runVX, vx_runSX, vx_ofWH follow the same proofs as their sisters above (Free/Laws.lean, Shelf42/LK1.lean); vx_outP calls Shelf42/NT130.lean (outThrough). -/
section
variable {l : Launch} {R : Room} {p : Program} {e : Env} {below : List Frame} {s : State} {sargs : Array Value} {y : MethodName} {len W9 : Nat}
theorem vx_backW {ws : List Cond} {rm : Room} {Pc : Array Value → State → Prop} {Qc : Array Value → State → Outcome → State → Prop} {XC : String → State → State → Prop} {mc ms : Nat} {free : Addr → Prop} {bytes : ByteArray} {maxL : Nat} {ret : Option FieldType} {hh : List (Nat × Nat × Nat × Nat)}
    (hM : vx_Met l y ws rm Pc Qc XC mc ms free) (hblind : FrameBlind Pc) (hrc : rm.cells = mc) (hrs : rm.slots = ms)
    (hframes : rm.frames + 1 ≤ R.frames) (hlocals : W9 + (maxL + 11) + rm.locals ≤ R.locals)
    (hws : ∀ w ∈ ws, ∀ a' U, s.WarmedH U.vm → w.before a' U = true) (hcode : Cond.codeWith y bytes maxL ret hh ∈ ws) (hinit : ∀ a' U, s.WarmedH U.vm → (Cond.initialized y.cls).before a' U = true) :
    vx_Back l R p e below s sargs y len W9 (PreOf R mc ms Pc) (PostOf Qc mc ms free) (vx_Post XC mc ms free) := by
  intro m meth c A g ig mk a X hg hsize hdg hW hn hp
  have h1 : (headSpec ws rm).pre.before a A.U = true := atoms_intro fun w hw => hws w hw _ _ X.warmed
  have h2 : (Cond.codeWith y bytes maxL ret hh).before a A.U = true := hws _ hcode _ _ X.warmed
  have h3 : (Cond.initialized y.cls).before a A.U = true := hinit _ _ X.warmed
  have h4 : A.cells + (headSpec ws rm).room.cells ≤ R.cells := by rw [show (headSpec ws rm).room.cells = mc from hrc]; exact hp.1
  have h5 : A.slots + (headSpec ws rm).room.slots ≤ R.slots := by rw [show (headSpec ws rm).room.slots = ms from hrs]; exact hp.2.1
  have hPc : Pc a (A.U.calling g mk a) := hblind _ _ _ _ hp.2.2
  obtain ⟨U, Ls, c0, s0⟩ := A
  dsimp only [Pt.U, Pt.locs, Pt.cells, Pt.slots] at h1 h2 h3 h4 h5 X hn hPc ⊢
  obtain ⟨m9, methY, cY, hn9, hmY, hcY, -, hlY, -⟩ := Cond.codeWith_spec h2
  cases Option.some.inj (hn9.symm.trans hn)
  obtain ⟨kY, hkY, -⟩ := className_of_methodNamed hn
  have hinitY : kY.init = .initialized := Cond.initialized_spec (findClass_of_methodNamed hn) hkY h3
  have h : At U g.method c below := by rw [hg]; exact X.here
  have hlocals9 : W9 + (maxL + 11) + (headSpec ws rm).room.locals ≤ R.locals := hlocals
  have happ : (headSpec ws rm).appliesLoose y e.platform (U.calling g mk a) = true :=
    Spec.appliesLoose_calling (g := g) h hdg hn hkY hinitY
      (X.room_calling (g := g) (R' := (headSpec ws rm).room) hsize hmY hcY hframes (by rw [hlY]; omega) h4 h5) h1
  obtain ⟨mid, hmid⟩ := h.above
  have hfr : (U.setTop g).frames = (.java g :: mid) ++ below := by rw [State.frames_setTop' g h.top, hmid]; rfl
  obtain ⟨o, s₂, hsteps, -, hend, hq⟩ := Steps.callFree hM p X.admits X.cas X.clock (acts := []) hfr happ hPc trivial
  have hq' : vx_Q Qc XC mc ms free a (U.calling g mk a) o s₂ := hq
  rw [State.frames_setTop' g h.top] at hend
  obtain ⟨g₀, hg0⟩ := Option.isSome_iff_exists.mp h.top
  obtain ⟨r, hr⟩ := State.topJava?_eq_some.mp hg0
  have hr' : (({ U with heap := s₂.heap, slotsUsed := s₂.slotsUsed } : State).setVm s₂.vm).frames = .java g₀ :: r := hr
  rcases hq' with ⟨hqc, L, hfe, hL⟩ | ⟨q, rfl, E, ce, L, hx, hce, hcv, hcl, hW₂, hsm, hL⟩
  · obtain ⟨⟨v, rfl⟩, hW₂, e2, q2, q3, q4, q5, q6⟩ := id hfe
    have e3 : s₂ = ({ (U.calling g mk a).setFrames s₂.frames with heap := s₂.heap, slotsUsed := s₂.slotsUsed } : State).setVm s₂.vm := by
      have : s₂ = ({ s₂ with vm := (U.calling g mk a).vm } : State).setVm s₂.vm := rfl
      rw [e2] at this
      exact this
    obtain ⟨c₂, i₂, len₂, hc₂, hd₂, hf₂⟩ := hend
    have hW' : U.WarmedH s₂.vm := hW₂
    have hcc : c₂ = c := by
      have h1 : s₂.code? g.method = U.code? g.method := by
        rw [State.code?_eq, State.code?_eq, hW'.alike.method?]
      exact Option.some.inj (hc₂.symm.trans (h1.trans h.code))
    subst hcc
    have hlen : len₂ = len := by rw [hdg] at hd₂; cases hd₂; rfl
    subst hlen
    have hs₂ : s₂ = (({ U with heap := s₂.heap, slotsUsed := s₂.slotsUsed } : State).setVm s₂.vm).setTop { g with pc := g.pc + len₂, stack := v.toList ++ g.stack } := by
      refine e3.trans ?_
      rw [hf₂, State.calling_eq h.top, State.setFrames_setFrames, State.setTop_of_frames _ hr', hr]
      rfl
    have hsame : U.sameButNew ({ U with heap := s₂.heap, slotsUsed := s₂.slotsUsed } : State) L mc ms := by
      refine ⟨?_, q2, q3, q4, q5, q6⟩
      obtain ⟨t, ht, -⟩ := State.frames_cons hr
      show ({ U with heap := s₂.heap, slotsUsed := s₂.slotsUsed } : State) = { U.setFrames U.frames with heap := s₂.heap, slotsUsed := s₂.slotsUsed }
      rw [State.setFrames_self ht]
    subst hg
    refine Or.inl ⟨v, ⟨(({ U with heap := s₂.heap, slotsUsed := s₂.slotsUsed } : State).setVm s₂.vm), Ls ++ L, c0 + mc, s0 + ms⟩,
      ⟨X.admits, X.cas, X.clock, X.frames, X.room, X.hears, X.method, X.code, (X.here.setHeapUsed s₂.heap s₂.slotsUsed).setVm hW'.alike, X.tail, State.WarmedH.trans X.warmed hW', X.limits, X.bytes, X.same.trans (hsame.setVm s.vm)⟩,
      ⟨g, mk, s₂, L, rfl, rfl, hqc, rfl, hL, rfl, rfl⟩, ?_⟩
    show Steps p.tables e below _ ((({ U with heap := s₂.heap, slotsUsed := s₂.slotsUsed } : State).setVm s₂.vm).setTop { g with pc := g.pc + len₂, stack := v.toList ++ g.stack })
    rw [← hs₂]
    exact hsteps
  · obtain ⟨e2, q2, q3, q4, q5, q6⟩ := id hsm
    have e3 : s₂ = ({ (U.calling g mk a).setFrames s₂.frames with heap := s₂.heap, slotsUsed := s₂.slotsUsed } : State).setVm s₂.vm := by
      have : s₂ = ({ s₂ with vm := (U.calling g mk a).vm } : State).setVm s₂.vm := rfl
      rw [e2] at this
      exact this
    have hf₂ : s₂.frames = .throwing q :: .java g :: U.frames.tail := hend
    have hW' : U.WarmedH s₂.vm := hW₂
    have hs₂ : s₂ = ((({ U with heap := s₂.heap, slotsUsed := s₂.slotsUsed } : State).setVm s₂.vm).setTop g).pushFrame (.throwing q) := by
      refine e3.trans ?_
      rw [hf₂, State.calling_eq h.top, State.setFrames_setFrames, State.pushFrame, State.frames_setTop _ hr', State.setTop_of_frames _ hr', State.setFrames_setFrames, hr]
      rfl
    have hsame : U.sameButNew ({ U with heap := s₂.heap, slotsUsed := s₂.slotsUsed } : State) L mc ms := by
      refine ⟨?_, q2, q3, q4, q5, q6⟩
      obtain ⟨t, ht, -⟩ := State.frames_cons hr
      show ({ U with heap := s₂.heap, slotsUsed := s₂.slotsUsed } : State) = { U.setFrames U.frames with heap := s₂.heap, slotsUsed := s₂.slotsUsed }
      rw [State.setFrames_self ht]
    subst hg
    refine Or.inr ⟨q, ⟨(({ U with heap := s₂.heap, slotsUsed := s₂.slotsUsed } : State).setVm s₂.vm), Ls ++ L, c0 + mc, s0 + ms⟩,
      ⟨X.admits, X.cas, X.clock, X.frames, X.room, X.hears, X.method, X.code, (X.here.setHeapUsed s₂.heap s₂.slotsUsed).setVm hW'.alike, X.tail, State.WarmedH.trans X.warmed hW', X.limits, X.bytes, X.same.trans (hsame.setVm s.vm)⟩,
      ⟨g, mk, s₂, L, E, ce, rfl, rfl, hx, hce, hcv, hcl, rfl, hL, rfl, rfl⟩, ?_⟩
    show Steps p.tables e below _ (((({ U with heap := s₂.heap, slotsUsed := s₂.slotsUsed } : State).setVm s₂.vm).setTop g).pushFrame (.throwing q))
    rw [← hs₂]
    exact hsteps
end
variable {p : Program} {l : Launch} {e : Env} {R : Room} {s : State} {m : MethodId} {args : Array Value} {below : List Frame} {meth : Method} {c : Code} {T : State} {H : Heap} {locs : List Loc} {cells slots : Nat}
theorem vx_callVX (X : Stand p l e R s m args below meth c T locs cells slots) (hexec : p.tables.exec = Jvm.exec) {own C : String} {index : Nat} {y : MethodName} {bytes : ByteArray} {maxL : Nat} {ret : Option FieldType} {hh : List (Nat × Nat × Nat × Nat)}
    (hown : s.vm.findClass own = some m.cls) (hlink : (Cond.methodLink own index y).before args s = true) (hinst : (Cond.instanceMethod y).before args s = true) (hsel : (Cond.selects C y y).before args s = true)
    (hcode : (Cond.codeWith y bytes maxL ret hh).before args s = true) (hy : y.cls ≠ "java/lang/invoke/MethodHandle" ∧ y.cls ≠ "java/lang/invoke/VarHandle")
    {W9 : Nat} {Pre : Pt → Array Value → Prop} {Post : Pt → Array Value → Option Value → Pt → Prop} {PostX : Pt → Array Value → Addr → Pt → Prop} (hK : vx_Back l R p e below s args y 3 W9 Pre Post PostX)
    {b : Addr} {cellB : Cell} (hcell : T.heap[b]? = some cellB) (hobj : cellB.vm.isStatics = false) (hcls : s.vm.findClass C = some cellB.cls)
    {g : JFrame} (hg : g.method = m) (hsize : g.locals.size = c.maxLocals) {argsL rest : List Value} (hlen : ∀ sig, parseMethodDescriptor y.desc = some sig → argsL.length = sig.parameters.length)
    (hstack : g.stack = argsL.reverse ++ .ref b :: rest) (hW : 2 * g.monitorRoom + (rest.map fun v => v.category).sum ≤ W9) (hdg : decode c.code g.pc = .ok (.invokevirtual index, 3))
    (hpre : ∀ vm₁, s.WarmedH vm₁ → Pre ⟨T.setVm vm₁, locs, cells, slots⟩ (Value.ref b :: argsL).toArray) :
    (∃ (v : Option Value) (vm₁ : Vm) (B : Pt), s.WarmedH vm₁ ∧ Stand p l e R s m args below meth c B.U B.locs B.cells B.slots ∧ Post ⟨T.setVm vm₁, locs, cells, slots⟩ (Value.ref b :: argsL).toArray v B ∧
      ∀ target, Steps p.tables e below (B.U.setTop { g with pc := g.pc + 3, stack := v.toList ++ rest }) target → Steps p.tables e below (T.setTop g) target) ∨
    (∃ (q : Addr) (vm₁ : Vm) (B : Pt), s.WarmedH vm₁ ∧ Stand p l e R s m args below meth c B.U B.locs B.cells B.slots ∧ PostX ⟨T.setVm vm₁, locs, cells, slots⟩ (Value.ref b :: argsL).toArray q B ∧
      Steps p.tables e below (T.setTop g) ((B.U.setTop { g with stack := rest }).pushFrame (.throwing q))) := by
  obtain ⟨mk, methM, hnamed, hmethM, hstM, habM⟩ := Cond.instanceMethod_spec hinst
  obtain ⟨m8, methM', cM, hn8, hmethM', -, -, -, -, -, -, hsigM⟩ := Cond.codeWith_spec hcode
  cases Option.some.inj (hn8.symm.trans hnamed)
  cases hmethM.symm.trans hmethM'
  obtain ⟨c2, r2, m2, q1, q2, q3, q4, kP, hkP, hkPi⟩ := Cond.selects_spec hsel
  cases hcls.symm.trans q1
  cases (State.methodFound?_of_named hnamed hy).symm.trans q2
  cases hnamed.symm.trans q3
  have hselP : selectMethod e.platform s.vm cellB.cls mk = .method mk := by rw [Launch.admits_selectMethod X.admits]; exact q4
  obtain ⟨vm₁, X₁, hstep₁⟩ := X.invokevirtual hexec hown hlink hnamed hmethM hstM hkP hkPi hy (a := b) (cell := cellB) hcell
    (fun z h => by rw [h] at hobj; cases hobj) hselP hmethM habM hkP hkPi (g := g) hg (argsL := argsL) (rest := rest) (hlen _ hsigM) hstack hdg
  rcases hK m meth c ⟨T.setVm vm₁, locs, cells, slots⟩ { g with stack := rest } (.invokevirtual index) mk (Value.ref b :: argsL).toArray X₁ hg hsize hdg hW (X₁.named hnamed) (hpre vm₁ X₁.warmed) with ⟨v, B, X', hpost, hsteps⟩ | ⟨q, B, X', hpost, hsteps⟩
  · exact Or.inl ⟨v, vm₁, B, X₁.warmed, X', hpost, fun target h => hstep₁ _ fun acts => by rw [doInvoke_state]; exact hsteps.trans h⟩
  · exact Or.inr ⟨q, vm₁, B, X₁.warmed, X', hpost, hstep₁ _ fun acts => by rw [doInvoke_state]; exact hsteps⟩
theorem vx_callSX (X : Stand p l e R s m args below meth c T locs cells slots) (hexec : p.tables.exec = Jvm.exec) {own : String} {index : Nat} {y : MethodName} {bytes : ByteArray} {maxL : Nat} {ret : Option FieldType} {hh : List (Nat × Nat × Nat × Nat)}
    (hown : s.vm.findClass own = some m.cls) (hlink : (Cond.methodLink own index y).before args s = true) (hstat : (Cond.static y).before args s = true) (hinit : (Cond.initialized y.cls).before args s = true)
    (hcode : (Cond.codeWith y bytes maxL ret hh).before args s = true) (hy : y.cls ≠ "java/lang/invoke/MethodHandle" ∧ y.cls ≠ "java/lang/invoke/VarHandle")
    {W9 : Nat} {Pre : Pt → Array Value → Prop} {Post : Pt → Array Value → Option Value → Pt → Prop} {PostX : Pt → Array Value → Addr → Pt → Prop} (hK : vx_Back l R p e below s args y 3 W9 Pre Post PostX)
    {g : JFrame} (hg : g.method = m) (hsize : g.locals.size = c.maxLocals) {argsL rest : List Value} (hlen : ∀ sig, parseMethodDescriptor y.desc = some sig → argsL.length = sig.parameters.length)
    (hstack : g.stack = argsL.reverse ++ rest) (hW : 2 * g.monitorRoom + (rest.map fun v => v.category).sum ≤ W9) (hdg : decode c.code g.pc = .ok (.invokestatic index, 3))
    (hpre : ∀ vm₁, s.WarmedH vm₁ → Pre ⟨T.setVm vm₁, locs, cells, slots⟩ argsL.toArray) :
    (∃ (v : Option Value) (vm₁ : Vm) (B : Pt), s.WarmedH vm₁ ∧ Stand p l e R s m args below meth c B.U B.locs B.cells B.slots ∧ Post ⟨T.setVm vm₁, locs, cells, slots⟩ argsL.toArray v B ∧
      ∀ target, Steps p.tables e below (B.U.setTop { g with pc := g.pc + 3, stack := v.toList ++ rest }) target → Steps p.tables e below (T.setTop g) target) ∨
    (∃ (q : Addr) (vm₁ : Vm) (B : Pt), s.WarmedH vm₁ ∧ Stand p l e R s m args below meth c B.U B.locs B.cells B.slots ∧ PostX ⟨T.setVm vm₁, locs, cells, slots⟩ argsL.toArray q B ∧
      Steps p.tables e below (T.setTop g) ((B.U.setTop { g with stack := rest }).pushFrame (.throwing q))) := by
  obtain ⟨mk, methM, cM, hnamed, hmethM, -, -, -, -, -, -, hsigM⟩ := Cond.codeWith_spec hcode
  have hstatic : methM.isStatic = true := Cond.static_spec hnamed hmethM hstat
  obtain ⟨kP, hkP, -⟩ := className_of_methodNamed hnamed
  have hinitP : kP.init = .initialized := Cond.initialized_spec (findClass_of_methodNamed hnamed) hkP hinit
  obtain ⟨vm₁, X₁, hstep₁⟩ := X.invokestatic hexec hown hlink hnamed hmethM hstatic hkP hinitP hy (g := g) hg (argsL := argsL) (rest := rest) (hlen _ hsigM) hstack hdg
  rcases hK m meth c ⟨T.setVm vm₁, locs, cells, slots⟩ { g with stack := rest } (.invokestatic index) mk argsL.toArray X₁ hg hsize hdg hW (X₁.named hnamed) (hpre vm₁ X₁.warmed) with ⟨v, B, X', hpost, hsteps⟩ | ⟨q, B, X', hpost, hsteps⟩
  · exact Or.inl ⟨v, vm₁, B, X₁.warmed, X', hpost, fun target h => hstep₁ _ fun acts => by rw [doInvoke_state]; exact hsteps.trans h⟩
  · exact Or.inr ⟨q, vm₁, B, X₁.warmed, X', hpost, hstep₁ _ fun acts => by rw [doInvoke_state]; exact hsteps⟩
theorem vx_callVW (X : Stand p l e R s m args below meth c T locs cells slots) (hexec : p.tables.exec = Jvm.exec) {own C : String} {index : Nat} {y : MethodName} {bytes : ByteArray} {maxL : Nat} {ret : Option FieldType} {hh : List (Nat × Nat × Nat × Nat)}
    (hown : s.vm.findClass own = some m.cls) (hlink : (Cond.methodLink own index y).before args s = true) (hinst : (Cond.instanceMethod y).before args s = true) (hsel : (Cond.selects C y y).before args s = true)
    (hcode : (Cond.codeWith y bytes maxL ret hh).before args s = true) (hy : y.cls ≠ "java/lang/invoke/MethodHandle" ∧ y.cls ≠ "java/lang/invoke/VarHandle")
    {W9 : Nat} {Pre : Pt → Array Value → Prop} {Post : Pt → Array Value → Option Value → Pt → Prop} (hK : Back l R p e below s args y 3 W9 Pre Post)
    {b : Addr} {cellB : Cell} (hcell : T.heap[b]? = some cellB) (hobj : cellB.vm.isStatics = false) (hcls : s.vm.findClass C = some cellB.cls)
    {g : JFrame} (hg : g.method = m) (hsize : g.locals.size = c.maxLocals) {argsL rest : List Value} (hlen : ∀ sig, parseMethodDescriptor y.desc = some sig → argsL.length = sig.parameters.length)
    (hstack : g.stack = argsL.reverse ++ .ref b :: rest) (hW : 2 * g.monitorRoom + (rest.map fun v => v.category).sum ≤ W9) (hdg : decode c.code g.pc = .ok (.invokevirtual index, 3))
    (hpre : ∀ vm₁, s.WarmedH vm₁ → Pre ⟨T.setVm vm₁, locs, cells, slots⟩ (Value.ref b :: argsL).toArray) :
    ∃ (v : Option Value) (vm₁ : Vm) (B : Pt), s.WarmedH vm₁ ∧ Stand p l e R s m args below meth c B.U B.locs B.cells B.slots ∧ Post ⟨T.setVm vm₁, locs, cells, slots⟩ (Value.ref b :: argsL).toArray v B ∧
      ∀ target, Steps p.tables e below (B.U.setTop { g with pc := g.pc + 3, stack := v.toList ++ rest }) target → Steps p.tables e below (T.setTop g) target := by
  obtain ⟨mk, methM, hnamed, hmethM, hstM, habM⟩ := Cond.instanceMethod_spec hinst
  obtain ⟨m8, methM', cM, hn8, hmethM', -, -, -, -, -, -, hsigM⟩ := Cond.codeWith_spec hcode
  cases Option.some.inj (hn8.symm.trans hnamed)
  cases hmethM.symm.trans hmethM'
  obtain ⟨c2, r2, m2, q1, q2, q3, q4, kP, hkP, hkPi⟩ := Cond.selects_spec hsel
  cases hcls.symm.trans q1
  cases (State.methodFound?_of_named hnamed hy).symm.trans q2
  cases hnamed.symm.trans q3
  have hselP : selectMethod e.platform s.vm cellB.cls mk = .method mk := by rw [Launch.admits_selectMethod X.admits]; exact q4
  obtain ⟨vm₁, X₁, hstep₁⟩ := X.invokevirtual hexec hown hlink hnamed hmethM hstM hkP hkPi hy (a := b) (cell := cellB) hcell
    (fun z h => by rw [h] at hobj; cases hobj) hselP hmethM habM hkP hkPi (g := g) hg (argsL := argsL) (rest := rest) (hlen _ hsigM) hstack hdg
  obtain ⟨v, B, X', hpost, hsteps⟩ := hK m meth c ⟨T.setVm vm₁, locs, cells, slots⟩ { g with stack := rest } (.invokevirtual index) mk (Value.ref b :: argsL).toArray X₁ hg hsize hdg hW (X₁.named hnamed) (hpre vm₁ X₁.warmed)
  exact ⟨v, vm₁, B, X₁.warmed, X', hpost, fun target h => hstep₁ _ fun acts => by rw [doInvoke_state]; exact hsteps.trans h⟩
abbrev vx_CVW (R : Room) (s : State) (args : Array Value) (own C : String) (index : Nat) (y : MethodName) (bytes : ByteArray) (maxL : Nat) (ret : Option FieldType) (hh : List (Nat × Nat × Nat × Nat)) (ws : List Cond) (rm : Room) (mc ms n : Nat) : Prop :=
  (rm.cells = mc ∧ rm.slots = ms ∧ rm.frames + 1 ≤ R.frames ∧ 8 + (maxL + 11) + rm.locals ≤ R.locals ∧ (∀ w ∈ ws, ∀ (a' : Array Value) (U : State), s.WarmedH U.vm → w.before a' U = true) ∧ Cond.codeWith y bytes maxL ret hh ∈ ws) ∧
  (Cond.codeWith y bytes maxL ret hh).before args s = true ∧ (Cond.initialized y.cls).before args s = true ∧ (y.cls ≠ "java/lang/invoke/MethodHandle" ∧ y.cls ≠ "java/lang/invoke/VarHandle") ∧
  (∀ sig, parseMethodDescriptor y.desc = some sig → n = sig.parameters.length) ∧ (Cond.methodLink own index y).before args s = true ∧ (Cond.instanceMethod y).before args s = true ∧ (Cond.selects C y y).before args s = true
theorem vx_cwVW {own C : String} {index maxL mc ms : Nat} {y : MethodName} {bytes : ByteArray} {ret : Option FieldType} {hh : List (Nat × Nat × Nat × Nat)} {Ts ws ws' : List Cond} {rm : Room} (n : Nat) (ht : ∀ w ∈ Ts, w.before args s = true) (hT : GoodIn Ts (wsV own index C y ws)) (hw : ws = Cond.codeWith y bytes maxL ret hh :: ws') (hrc : rm.cells = mc) (hrs : rm.slots = ms)
    (hd : y.cls = C ∧ y.cls ≠ "java/lang/invoke/MethodHandle" ∧ y.cls ≠ "java/lang/invoke/VarHandle" ∧ (parseMethodDescriptor y.desc).map (fun d => d.parameters.length) = some n) (hR : rm.frames + 1 ≤ R.frames ∧ 8 + (maxL + 11) + rm.locals ≤ R.locals) :
    vx_CVW R s args own C index y bytes maxL ret hh ws rm mc ms n := by
  obtain ⟨hC, hd⟩ := hd
  subst hC
  have ok : ∀ w ∈ wsV own index y.cls y ws, w.before args s = true := fun w h => ht w (hT w h).1
  have hG : GoodIn Ts ws := fun w h => hT w (by unfold wsV; exact List.mem_append_right _ h)
  have hc : Cond.codeWith y bytes maxL ret hh ∈ ws := by rw [hw]; exact List.mem_cons_self
  refine ⟨⟨hrc, hrs, hR.1, hR.2, pay_in ht hG, hc⟩, ht _ (hG _ hc).1, ok _ (by simp [wsV]), ⟨hd.1, hd.2.1⟩, fun sig h => ?_, ok _ (by simp [wsV]), ok _ (by simp [wsV]), ok _ (by simp [wsV])⟩
  have h2 := hd.2.2
  rw [h] at h2
  exact (Option.some.inj h2).symm
theorem vx_runVW {y : MethodName} {bytes cc : ByteArray} {maxL nL mc ms n index : Nat} {ret : Option FieldType} {hh : List (Nat × Nat × Nat × Nat)} {ws : List Cond} {rm : Room} {Pc : Array Value → State → Prop} {Qc : Array Value → State → Outcome → State → Prop} {free : Addr → Prop} {Ts : List Cond} {own C : String} {b : Addr} {As rest : List Value} {g : JFrame}
    (S : CallFix p m c cc nL s args Ts own) (hM : Met l y ws rm Pc Qc mc ms free) (cw : vx_CVW R s args own C index y bytes maxL ret hh ws rm mc ms n) (hp : PreV s H C b Pc As)
    (hg : g.method = m) (hn : As.length = n) (hsize : g.locals.size = nL) (hstack : g.stack = As.reverse ++ .ref b :: rest) (hW : 2 * g.monitorRoom + (rest.map fun v => v.category).sum ≤ 8) (hdg : decode cc g.pc = .ok (.invokevirtual index, 3)) (hf : cells + mc ≤ R.cells ∧ slots + ms ≤ R.slots) :
    va_Run p l e R s m args below meth c H locs cells slots mc ms g rest (Qc (Value.ref b :: As).toArray) free := by
  obtain ⟨⟨hrc, hrs, hfr, hlo, hws, hcw⟩, hcode, hini, hy, hlen, hl, hin, hse⟩ := cw
  have hK : Back l R p e below s args y 3 8 (PreOf R mc ms Pc) (PostOf Qc mc ms free) := va_backW (hh := hh) (bytes := bytes) (maxL := maxL) (ret := ret) hM hp.1 hrc hrs hfr hlo hws hcw (fun a' U hW => word_at hW (Or.inl (by first | rfl | simp [Cond.onTables, Cond.keeps, Cond.steady])) hini)
  obtain ⟨hx, hb, hml, ho, -⟩ := S
  obtain ⟨-, ⟨cellB, hcB, hoB, hclB⟩, hPc⟩ := hp
  intro T hT X
  obtain ⟨v, vm₁, ⟨U', l2, c2, s2⟩, hW₁, X', ⟨g', mk, t, L, e1, e2, hq, h1, hL, h2, h3⟩, st⟩ := vx_callVW X hx (C := C) (hh := hh) (bytes := bytes) (maxL := maxL) (ret := ret) ho hl hin hse hcode hy hK (by rw [hT]; exact hcB) hoB hclB hg (hsize.trans hml.symm) (argsL := As) (rest := rest) (fun sig h => hn.trans (hlen sig h)) hstack hW (by rw [hb]; exact hdg)
    (fun vm₁ hW₁ => ⟨hf.1, hf.2, hPc (T.setVm vm₁) hT hW₁⟩)
  dsimp only [Pt.U, Pt.locs, Pt.cells, Pt.slots] at X' e1 e2 h1 h2 h3 st
  subst h1; subst h2; subst h3
  exact ⟨v, (T.setVm vm₁).calling g' mk (Value.ref b :: As).toArray, t, U', L, hT, X', hL, e1, e2, hq, st⟩
section
variable {y : MethodName} {bytes cc : ByteArray} {maxL nL mc ms n index : Nat} {ret : Option FieldType} {ws : List Cond} {rm : Room} {Pc : Array Value → State → Prop} {Qc : Array Value → State → Outcome → State → Prop} {XC : String → State → State → Prop} {free : Addr → Prop} {Ts : List Cond} {own C : String} {b : Addr} {As rest : List Value} {g : JFrame}
theorem vx_runVX {hh : List (Nat × Nat × Nat × Nat)} (S : CallFix p m c cc nL s args Ts own) (hM : vx_Met l y ws rm Pc Qc XC mc ms free) (cw : vx_CVW R s args own C index y bytes maxL ret hh ws rm mc ms n) (hp : PreV s H C b Pc As)
    (hg : g.method = m) (hn : As.length = n) (hsize : g.locals.size = nL) (hstack : g.stack = As.reverse ++ .ref b :: rest) (hW : 2 * g.monitorRoom + (rest.map fun v => v.category).sum ≤ 8) (hdg : decode cc g.pc = .ok (.invokevirtual index, 3)) (hf : cells + mc ≤ R.cells ∧ slots + ms ≤ R.slots) :
    vx_Run p l e R s m args below meth c H locs cells slots mc ms g rest (Qc (Value.ref b :: As).toArray) XC free := by
  obtain ⟨⟨hrc, hrs, hfr, hlo, hws, hcw⟩, hcode, hini, hy, hlen, hl, hin, hse⟩ := cw
  have hK : vx_Back l R p e below s args y 3 8 (PreOf R mc ms Pc) (PostOf Qc mc ms free) (vx_Post XC mc ms free) := vx_backW (hh := hh) (bytes := bytes) (maxL := maxL) (ret := ret) hM hp.1 hrc hrs hfr hlo hws hcw (fun a' U hW => word_at hW (Or.inl (by first | rfl | simp [Cond.onTables, Cond.keeps, Cond.steady])) hini)
  obtain ⟨hx, hb, hml, ho, -⟩ := S
  obtain ⟨-, ⟨cellB, hcB, hoB, hclB⟩, hPc⟩ := hp
  intro T hT X
  rcases vx_callVX X hx (C := C) (hh := hh) (bytes := bytes) (maxL := maxL) (ret := ret) ho hl hin hse hcode hy hK (by rw [hT]; exact hcB) hoB hclB hg (hsize.trans hml.symm) (argsL := As) (rest := rest) (fun sig h => hn.trans (hlen sig h)) hstack hW (by rw [hb]; exact hdg)
    (fun vm₁ hW₁ => ⟨hf.1, hf.2, hPc (T.setVm vm₁) hT hW₁⟩) with ⟨v, vm₁, ⟨U', l2, c2, s2⟩, hW₁, X', ⟨g', mk, t, L, e1, e2, hq, h1, hL, h2, h3⟩, st⟩ | ⟨q, vm₁, ⟨U', l2, c2, s2⟩, hW₁, X', ⟨g', mk, t, L, E, ce, e1, e2, hq, hce, hcv, hcl, h1, hL, h2, h3⟩, st⟩
  · dsimp only [Pt.U, Pt.locs, Pt.cells, Pt.slots] at X' e1 e2 h1 h2 h3 st
    subst h1; subst h2; subst h3
    exact Or.inl ⟨v, (T.setVm vm₁).calling g' mk (Value.ref b :: As).toArray, t, U', L, hT, X', hL, e1, e2, hq, st⟩
  · dsimp only [Pt.U, Pt.locs, Pt.cells, Pt.slots] at X' e1 e2 h1 h2 h3 st hcl
    subst h1; subst h2; subst h3
    exact Or.inr ⟨q, (T.setVm vm₁).calling g' mk (Value.ref b :: As).toArray, t, U', L, E, ce, hT, X', hL, e1, e2, hq, hce, hcv, vx_cls hW₁ hcl, st⟩
theorem vx_runSX {hh : List (Nat × Nat × Nat × Nat)} (S : CallFix p m c cc nL s args Ts own) (hM : vx_Met l y ws rm Pc Qc XC mc ms free) (cw : vx_CSW R s args own index y bytes maxL ret hh ws rm mc ms n) (hp : PreS s H Pc As)
    (hg : g.method = m) (hn : As.length = n) (hsize : g.locals.size = nL) (hstack : g.stack = As.reverse ++ rest) (hW : 2 * g.monitorRoom + (rest.map fun v => v.category).sum ≤ 8) (hdg : decode cc g.pc = .ok (.invokestatic index, 3)) (hf : cells + mc ≤ R.cells ∧ slots + ms ≤ R.slots) :
    vx_Run p l e R s m args below meth c H locs cells slots mc ms g rest (Qc As.toArray) XC free := by
  obtain ⟨⟨hrc, hrs, hfr, hlo, hws, hcw⟩, hcode, hini, hy, hlen, hl, hstt⟩ := cw
  have hK : vx_Back l R p e below s args y 3 8 (PreOf R mc ms Pc) (PostOf Qc mc ms free) (vx_Post XC mc ms free) := vx_backW (hh := hh) (bytes := bytes) (maxL := maxL) (ret := ret) hM hp.1 hrc hrs hfr hlo hws hcw (fun a' U hW => word_at hW (Or.inl (by first | rfl | simp [Cond.onTables, Cond.keeps, Cond.steady])) hini)
  obtain ⟨hx, hb, hml, ho, -⟩ := S
  intro T hT X
  rcases vx_callSX X hx (hh := hh) (bytes := bytes) (maxL := maxL) (ret := ret) ho hl hstt hini hcode hy hK hg (hsize.trans hml.symm) (argsL := As) (rest := rest) (fun sig h => hn.trans (hlen sig h)) hstack hW (by rw [hb]; exact hdg)
    (fun vm₁ hW₁ => ⟨hf.1, hf.2, hp.2 (T.setVm vm₁) hT hW₁⟩) with ⟨v, vm₁, ⟨U', l2, c2, s2⟩, hW₁, X', ⟨g', mk, t, L, e1, e2, hq, h1, hL, h2, h3⟩, st⟩ | ⟨q, vm₁, ⟨U', l2, c2, s2⟩, hW₁, X', ⟨g', mk, t, L, E, ce, e1, e2, hq, hce, hcv, hcl, h1, hL, h2, h3⟩, st⟩
  · dsimp only [Pt.U, Pt.locs, Pt.cells, Pt.slots] at X' e1 e2 h1 h2 h3 st
    subst h1; subst h2; subst h3
    exact Or.inl ⟨v, (T.setVm vm₁).calling g' mk As.toArray, t, U', L, hT, X', hL, e1, e2, hq, st⟩
  · dsimp only [Pt.U, Pt.locs, Pt.cells, Pt.slots] at X' e1 e2 h1 h2 h3 st hcl
    subst h1; subst h2; subst h3
    exact Or.inr ⟨q, (T.setVm vm₁).calling g' mk As.toArray, t, U', L, E, ce, hT, X', hL, e1, e2, hq, hce, hcv, vx_cls hW₁ hcl, st⟩
end
end VXH
theorem vx_ofWH {l : Launch} {y : MethodName} {ws ws' : List Cond} {rm : Room} {Pc : Array Value → State → Prop} {Qc : Array Value → State → Outcome → State → Prop} {XC : String → State → State → Prop} {mc ms : Nat} {free : Addr → Prop} {cc : ByteArray} {maxL : Nat} {ret : Option FieldType} {hh : List (Nat × Nat × Nat × Nat)}
    (hy : plainName y.cls = true) (hw : ws = Cond.codeWith y cc maxL ret hh :: ws')
    (body : ∀ p e s m args below meth c s₁, BodyLoose p l y (headSpec ws rm) cc maxL ret e s m args below meth c s₁ → c.maxLocals = maxL → Pc args s →
      W p l e (headSpec ws rm).room s m args below meth c s.heap [] 0 0 (vx_MQ below Qc XC args s mc ms free) (entryFrame m args maxL)) : vx_Met l y ws rm Pc Qc XC mc ms free := by
  refine MetFree.of_bodyS (code := cc) (maxLocals := maxL) (ret := ret) hy ?_ ?_
  · intro args s m h hn
    obtain ⟨m9, meth, c, hn9, h1, h2, h3, h4, -, h5, h6, -⟩ := Cond.codeWith_spec (atoms_spec (ws := ws) h _ (by rw [hw]; exact List.mem_cons_self))
    cases hn.symm.trans hn9
    exact ⟨meth, c, h1, h2, h3, h4, h5, h6⟩
  · intro p e s m args below meth c s₁ B hml hP _
    have hh0 : s₁.heap = s.heap := by rw [B.state]; rfl
    obtain ⟨t, a1, o, b1, b2, b3⟩ := body p e s m args below meth c s₁ B hml hP s₁ hh0 (Stand.of_body B)
    exact ⟨t, o, a1, b1, b2, b3⟩
/-! ===== END ===== -/
end
section
/-! ===== BEGIN printed: names, fields, word lists, decode rows ===== -/
def RX0 : String := "SortingLine$Belt"
def TX0 : u_T := fun k => match k with
  | 0 => ("SortingLine$Belt", "ring", "[I", true)
  | 1 => ("SortingLine$Belt", "first", "I", false)
  | _ => ("SortingLine$Belt", "size", "I", false)
def tyX0 : Nat → FieldType := fun k => match k with
  | 0 => .array .int
  | 1 => .int
  | _ => .int
abbrev wsX00 : List Cond := u_ws RX0 TX0 3
theorem nmX0 : ∀ a, a < 3 → ∀ b, b < 3 → a ≠ b → (TX0 a).2.1 ≠ (TX0 b).2.1 := by decide +kernel
theorem tyX0_ok : ∀ k, k < 3 → parseFieldDescriptor (TX0 k).2.2.1 = some (tyX0 k) := by decide +kernel
abbrev cX0_init : ByteArray := prog_2_method_1_code
def yX0_init : MethodName := ⟨RX0, "<init>", "()V"⟩
abbrev cX0_size : ByteArray := prog_2_method_2_code
def yX0_size : MethodName := ⟨RX0, "size", "()I"⟩
abbrev cX0_append : ByteArray := prog_2_method_3_code
def yX0_append : MethodName := ⟨RX0, "append", "(I)Z"⟩
abbrev cX0_thingAt : ByteArray := prog_2_method_4_code
def yX0_thingAt : MethodName := ⟨RX0, "thingAt", "(I)I"⟩
abbrev cX0_takeFirst : ByteArray := prog_2_method_5_code
def yX0_takeFirst : MethodName := ⟨RX0, "takeFirst", "()I"⟩
abbrev cX0_forget : ByteArray := prog_2_method_6_code
def yX0_forget : MethodName := ⟨RX0, "forget", "()V"⟩
def RX1 : String := "SortingLine$Side"
def TX1 : u_T := fun k => match k with
  | 0 => ("SortingLine$Side", "ofThings", "[I", true)
  | 1 => ("SortingLine$Side", "ofStations", "[I", true)
  | 2 => ("SortingLine$Side", "ofFindings", "[I", true)
  | 3 => ("SortingLine$Side", "next", "I", false)
  | _ => ("SortingLine$Side", "size", "I", false)
def tyX1 : Nat → FieldType := fun k => match k with
  | 0 => .array .int
  | 1 => .array .int
  | 2 => .array .int
  | 3 => .int
  | _ => .int
abbrev wsX10 : List Cond := u_ws RX1 TX1 5
theorem nmX1 : ∀ a, a < 5 → ∀ b, b < 5 → a ≠ b → (TX1 a).2.1 ≠ (TX1 b).2.1 := by decide +kernel
theorem tyX1_ok : ∀ k, k < 5 → parseFieldDescriptor (TX1 k).2.2.1 = some (tyX1 k) := by decide +kernel
abbrev cX1_init : ByteArray := prog_3_method_1_code
def yX1_init : MethodName := ⟨RX1, "<init>", "()V"⟩
abbrev cX1_add : ByteArray := prog_3_method_2_code
def yX1_add : MethodName := ⟨RX1, "add", "(III)V"⟩
abbrev cX1_tell : ByteArray := prog_3_method_3_code
def yX1_tell : MethodName := ⟨RX1, "tell", "(II)I"⟩
abbrev cX1_forget : ByteArray := prog_3_method_4_code
def yX1_forget : MethodName := ⟨RX1, "forget", "()V"⟩
def RX2 : String := "SortingLine$Stations"
def TX2 : u_T := fun k => match k with
  | 0 => ("SortingLine$Stations", "gates", "[I", true)
  | 1 => ("SortingLine$Stations", "works", "[I", true)
  | 2 => ("SortingLine$Stations", "totals", "[J", true)
  | 3 => ("SortingLine$Stations", "slots", "[I", true)
  | _ => ("SortingLine$Stations", "made", "I", false)
def tyX2 : Nat → FieldType := fun k => match k with
  | 0 => .array .int
  | 1 => .array .int
  | 2 => .array .long
  | 3 => .array .int
  | _ => .int
abbrev wsX20 : List Cond := u_ws RX2 TX2 5
theorem nmX2 : ∀ a, a < 5 → ∀ b, b < 5 → a ≠ b → (TX2 a).2.1 ≠ (TX2 b).2.1 := by decide +kernel
theorem tyX2_ok : ∀ k, k < 5 → parseFieldDescriptor (TX2 k).2.2.1 = some (tyX2 k) := by decide +kernel
abbrev cX2_init : ByteArray := prog_4_method_1_code
def yX2_init : MethodName := ⟨RX2, "<init>", "()V"⟩
abbrev cX2_howMany : ByteArray := prog_4_method_2_code
def yX2_howMany : MethodName := ⟨RX2, "howMany", "()I"⟩
abbrev cX2_hold : ByteArray := prog_4_method_3_code
def yX2_hold : MethodName := ⟨RX2, "hold", "(I)Z"⟩
abbrev cX2_add : ByteArray := prog_4_method_4_code
def yX2_add : MethodName := ⟨RX2, "add", "(II)I"⟩
abbrev cX2_gateOf : ByteArray := prog_4_method_5_code
def yX2_gateOf : MethodName := ⟨RX2, "gateOf", "(I)I"⟩
abbrev cX2_workOf : ByteArray := prog_4_method_6_code
def yX2_workOf : MethodName := ⟨RX2, "workOf", "(I)I"⟩
abbrev cX2_totalOf : ByteArray := prog_4_method_7_code
def yX2_totalOf : MethodName := ⟨RX2, "totalOf", "(I)J"⟩
abbrev cX2_slotOf : ByteArray := prog_4_method_8_code
def yX2_slotOf : MethodName := ⟨RX2, "slotOf", "(I)I"⟩
abbrev cX2_grow : ByteArray := prog_4_method_9_code
def yX2_grow : MethodName := ⟨RX2, "grow", "(IJ)V"⟩
abbrev cX2_setSlot : ByteArray := prog_4_method_10_code
def yX2_setSlot : MethodName := ⟨RX2, "setSlot", "(II)V"⟩
abbrev cX2_forget : ByteArray := prog_4_method_11_code
def yX2_forget : MethodName := ⟨RX2, "forget", "()V"⟩
def RX3 : String := "SortingLine$Tally"
def TX3 : u_T := fun k => match k with
  | 0 => ("SortingLine$Tally", "found", "[I", true)
  | 1 => ("SortingLine$Tally", "worked", "I", false)
  | 2 => ("SortingLine$Tally", "passed", "I", false)
  | _ => ("SortingLine$Tally", "failed", "I", false)
def tyX3 : Nat → FieldType := fun k => match k with
  | 0 => .array .int
  | 1 => .int
  | 2 => .int
  | _ => .int
abbrev wsX30 : List Cond := u_ws RX3 TX3 4
theorem nmX3 : ∀ a, a < 4 → ∀ b, b < 4 → a ≠ b → (TX3 a).2.1 ≠ (TX3 b).2.1 := by decide +kernel
theorem tyX3_ok : ∀ k, k < 4 → parseFieldDescriptor (TX3 k).2.2.1 = some (tyX3 k) := by decide +kernel
abbrev cX3_init : ByteArray := prog_5_method_1_code
def yX3_init : MethodName := ⟨RX3, "<init>", "()V"⟩
abbrev cX3_addWorked : ByteArray := prog_5_method_2_code
def yX3_addWorked : MethodName := ⟨RX3, "addWorked", "()V"⟩
abbrev cX3_addPassed : ByteArray := prog_5_method_3_code
def yX3_addPassed : MethodName := ⟨RX3, "addPassed", "()V"⟩
abbrev cX3_addFailed : ByteArray := prog_5_method_4_code
def yX3_addFailed : MethodName := ⟨RX3, "addFailed", "()V"⟩
abbrev cX3_addFinding : ByteArray := prog_5_method_5_code
def yX3_addFinding : MethodName := ⟨RX3, "addFinding", "(I)V"⟩
abbrev cX3_foundOf : ByteArray := prog_5_method_6_code
def yX3_foundOf : MethodName := ⟨RX3, "foundOf", "(I)I"⟩
abbrev cX3_forget : ByteArray := prog_5_method_7_code
def yX3_forget : MethodName := ⟨RX3, "forget", "()V"⟩
def RX4 : String := "SortingLine$Things"
def TX4 : u_T := fun k => match k with
  | 0 => ("SortingLine$Things", "forms", "[I", true)
  | 1 => ("SortingLine$Things", "weights", "[I", true)
  | 2 => ("SortingLine$Things", "sizes", "[I", true)
  | 3 => ("SortingLine$Things", "numbers", "[J", true)
  | 4 => ("SortingLine$Things", "members", "[I", true)
  | _ => ("SortingLine$Things", "made", "I", false)
def tyX4 : Nat → FieldType := fun k => match k with
  | 0 => .array .int
  | 1 => .array .int
  | 2 => .array .int
  | 3 => .array .long
  | 4 => .array .int
  | _ => .int
abbrev wsX40 : List Cond := u_ws RX4 TX4 6
theorem nmX4 : ∀ a, a < 6 → ∀ b, b < 6 → a ≠ b → (TX4 a).2.1 ≠ (TX4 b).2.1 := by decide +kernel
theorem tyX4_ok : ∀ k, k < 6 → parseFieldDescriptor (TX4 k).2.2.1 = some (tyX4 k) := by decide +kernel
abbrev cX4_init : ByteArray := prog_6_method_1_code
def yX4_init : MethodName := ⟨RX4, "<init>", "()V"⟩
abbrev cX4_howMany : ByteArray := prog_6_method_2_code
def yX4_howMany : MethodName := ⟨RX4, "howMany", "()I"⟩
abbrev cX4_areFull : ByteArray := prog_6_method_3_code
def yX4_areFull : MethodName := ⟨RX4, "areFull", "()Z"⟩
abbrev cX4_hold : ByteArray := prog_6_method_4_code
def yX4_hold : MethodName := ⟨RX4, "hold", "(I)Z"⟩
abbrev cX4_add : ByteArray := prog_6_method_5_code
def yX4_add : MethodName := ⟨RX4, "add", "(III)I"⟩
abbrev cX4_formOf : ByteArray := prog_6_method_6_code
def yX4_formOf : MethodName := ⟨RX4, "formOf", "(I)I"⟩
abbrev cX4_isOf : ByteArray := prog_6_method_7_code
def yX4_isOf : MethodName := ⟨RX4, "isOf", "(II)Z"⟩
abbrev cX4_weightOf : ByteArray := prog_6_method_8_code
def yX4_weightOf : MethodName := ⟨RX4, "weightOf", "(I)I"⟩
abbrev cX4_keyOf : ByteArray := prog_6_method_9_code
def yX4_keyOf : MethodName := ⟨RX4, "keyOf", "(I)I"⟩
abbrev cX4_sizeOf : ByteArray := prog_6_method_10_code
def yX4_sizeOf : MethodName := ⟨RX4, "sizeOf", "(I)I"⟩
abbrev cX4_hasPlace : ByteArray := prog_6_method_11_code
def yX4_hasPlace : MethodName := ⟨RX4, "hasPlace", "(II)Z"⟩
abbrev cX4_numberAt : ByteArray := prog_6_method_12_code
def yX4_numberAt : MethodName := ⟨RX4, "numberAt", "(II)J"⟩
abbrev cX4_setNumber : ByteArray := prog_6_method_13_code
def yX4_setNumber : MethodName := ⟨RX4, "setNumber", "(IIJ)V"⟩
abbrev cX4_sumOfNumbers : ByteArray := prog_6_method_14_code
def yX4_sumOfNumbers : MethodName := ⟨RX4, "sumOfNumbers", "(I)J"⟩
abbrev cX4_memberAt : ByteArray := prog_6_method_15_code
def yX4_memberAt : MethodName := ⟨RX4, "memberAt", "(II)I"⟩
abbrev cX4_setMember : ByteArray := prog_6_method_16_code
def yX4_setMember : MethodName := ⟨RX4, "setMember", "(III)V"⟩
abbrev cX4_forget : ByteArray := prog_6_method_17_code
def yX4_forget : MethodName := ⟨RX4, "forget", "()V"⟩
def RX5 : String := "SortingLine"
def TX5 : u_T := fun k => match k with
  | 0 => ("SortingLine", "things", "LSortingLine$Things;", true)
  | 1 => ("SortingLine", "stations", "LSortingLine$Stations;", true)
  | 2 => ("SortingLine", "onBelt", "LSortingLine$Belt;", true)
  | 3 => ("SortingLine", "aside", "LSortingLine$Side;", true)
  | _ => ("SortingLine", "tally", "LSortingLine$Tally;", true)
def tyX5 : Nat → FieldType := fun k => match k with
  | 0 => .object "SortingLine$Things"
  | 1 => .object "SortingLine$Stations"
  | 2 => .object "SortingLine$Belt"
  | 3 => .object "SortingLine$Side"
  | _ => .object "SortingLine$Tally"
abbrev wsX50 : List Cond := u_ws RX5 TX5 5
theorem nmX5 : ∀ a, a < 5 → ∀ b, b < 5 → a ≠ b → (TX5 a).2.1 ≠ (TX5 b).2.1 := by decide +kernel
theorem tyX5_ok : ∀ k, k < 5 → parseFieldDescriptor (TX5 k).2.2.1 = some (tyX5 k) := by decide +kernel
abbrev cX5_init : ByteArray := prog_1_method_1_code
def yX5_init : MethodName := ⟨RX5, "<init>", "()V"⟩
abbrev cX5_thing : ByteArray := prog_1_method_2_code
def yX5_thing : MethodName := ⟨RX5, "thing", "(II)I"⟩
abbrev cX5_row : ByteArray := prog_1_method_3_code
def yX5_row : MethodName := ⟨RX5, "row", "(II)I"⟩
abbrev cX5_is : ByteArray := prog_1_method_4_code
def yX5_is : MethodName := ⟨RX5, "is", "(II)I"⟩
abbrev cX5_more : ByteArray := prog_1_method_5_code
def yX5_more : MethodName := ⟨RX5, "more", "(I)I"⟩
abbrev cX5_weight : ByteArray := prog_1_method_6_code
def yX5_weight : MethodName := ⟨RX5, "weight", "(II)I"⟩
abbrev cX5_length : ByteArray := prog_1_method_7_code
def yX5_length : MethodName := ⟨RX5, "length", "(II)I"⟩
abbrev cX5_put : ByteArray := prog_1_method_8_code
def yX5_put : MethodName := ⟨RX5, "put", "(IIIJ)I"⟩
abbrev cX5_number : ByteArray := prog_1_method_9_code
def yX5_number : MethodName := ⟨RX5, "number", "(III)J"⟩
abbrev cX5_lay : ByteArray := prog_1_method_10_code
def yX5_lay : MethodName := ⟨RX5, "lay", "(IIII)I"⟩
abbrev cX5_place : ByteArray := prog_1_method_11_code
def yX5_place : MethodName := ⟨RX5, "place", "(III)I"⟩
abbrev cX5_station : ByteArray := prog_1_method_12_code
def yX5_station : MethodName := ⟨RX5, "station", "(II)I"⟩
abbrev cX5_send : ByteArray := prog_1_method_13_code
def yX5_send : MethodName := ⟨RX5, "send", "(I)I"⟩
abbrev cX5_step : ByteArray := prog_1_method_14_code
def yX5_step : MethodName := ⟨RX5, "step", "()I"⟩
abbrev cX5_run : ByteArray := prog_1_method_15_code
def yX5_run : MethodName := ⟨RX5, "run", "(I)I"⟩
abbrev cX5_total : ByteArray := prog_1_method_16_code
def yX5_total : MethodName := ⟨RX5, "total", "(I)J"⟩
abbrev cX5_slot : ByteArray := prog_1_method_17_code
def yX5_slot : MethodName := ⟨RX5, "slot", "(I)I"⟩
abbrev cX5_belt : ByteArray := prog_1_method_18_code
def yX5_belt : MethodName := ⟨RX5, "belt", "(I)I"⟩
abbrev cX5_side : ByteArray := prog_1_method_19_code
def yX5_side : MethodName := ⟨RX5, "side", "(II)I"⟩
abbrev cX5_count : ByteArray := prog_1_method_20_code
def yX5_count : MethodName := ⟨RX5, "count", "(I)I"⟩
abbrev cX5_clear : ByteArray := prog_1_method_21_code
def yX5_clear : MethodName := ⟨RX5, "clear", "()I"⟩
abbrev cX5_refusalOf : ByteArray := prog_1_method_22_code
def yX5_refusalOf : MethodName := ⟨RX5, "refusalOf", "(IIII)I"⟩
abbrev cX5_answerOf : ByteArray := prog_1_method_23_code
def yX5_answerOf : MethodName := ⟨RX5, "answerOf", "(I)I"⟩
abbrev cX5_findingAt : ByteArray := prog_1_method_24_code
def yX5_findingAt : MethodName := ⟨RX5, "findingAt", "(III)I"⟩
abbrev cX5_layInto : ByteArray := prog_1_method_25_code
def yX5_layInto : MethodName := ⟨RX5, "layInto", "(IIII)I"⟩
abbrev cX5_stationFor : ByteArray := prog_1_method_26_code
def yX5_stationFor : MethodName := ⟨RX5, "stationFor", "(I)I"⟩
abbrev cX5_workOn : ByteArray := prog_1_method_27_code
def yX5_workOn : MethodName := ⟨RX5, "workOn", "(II)I"⟩
abbrev cX5_grow : ByteArray := prog_1_method_28_code
def yX5_grow : MethodName := ⟨RX5, "grow", "(IJ)I"⟩
abbrev cX5_keep : ByteArray := prog_1_method_29_code
def yX5_keep : MethodName := ⟨RX5, "keep", "(II)I"⟩
abbrev cX5_weigh : ByteArray := prog_1_method_30_code
def yX5_weigh : MethodName := ⟨RX5, "weigh", "(II)I"⟩
abbrev cX5_addMembers : ByteArray := prog_1_method_31_code
def yX5_addMembers : MethodName := ⟨RX5, "addMembers", "(III)I"⟩
abbrev cX5_pack : ByteArray := prog_1_method_32_code
def yX5_pack : MethodName := ⟨RX5, "pack", "(II)I"⟩
abbrev cX5_addCorner : ByteArray := prog_1_method_33_code
def yX5_addCorner : MethodName := ⟨RX5, "addCorner", "(III)I"⟩
abbrev cX5_addCell : ByteArray := prog_1_method_34_code
def yX5_addCell : MethodName := ⟨RX5, "addCell", "(II)I"⟩
abbrev cX5_findingAtFirst : ByteArray := prog_1_method_35_code
def yX5_findingAtFirst : MethodName := ⟨RX5, "findingAtFirst", "(I)I"⟩
abbrev cX5_spill : ByteArray := prog_1_method_36_code
def yX5_spill : MethodName := ⟨RX5, "spill", "(I)I"⟩
abbrev cX5_alsoIs : ByteArray := prog_1_method_37_code
def yX5_alsoIs : MethodName := ⟨RX5, "alsoIs", "(II)Z"⟩
abbrev cX5_memberKind : ByteArray := prog_1_method_38_code
def yX5_memberKind : MethodName := ⟨RX5, "memberKind", "(I)I"⟩
abbrev cX5_kindForWork : ByteArray := prog_1_method_39_code
def yX5_kindForWork : MethodName := ⟨RX5, "kindForWork", "(I)I"⟩
def RX6 : String := "SortingLineModel"
def TX6 : u_T := fun k => match k with
  | 0 => ("SortingLineModel", "fault", "I", false)
  | 1 => ("SortingLineModel", "things", "I", false)
  | 2 => ("SortingLineModel", "forms", "[I", true)
  | 3 => ("SortingLineModel", "weights", "[I", true)
  | 4 => ("SortingLineModel", "sizes", "[I", true)
  | 5 => ("SortingLineModel", "numbers", "[J", true)
  | 6 => ("SortingLineModel", "places", "[I", true)
  | 7 => ("SortingLineModel", "kindsOf", "[I", true)
  | 8 => ("SortingLineModel", "partOf", "[I", true)
  | 9 => ("SortingLineModel", "wants", "[I", true)
  | 10 => ("SortingLineModel", "belt", "[I", true)
  | 11 => ("SortingLineModel", "onBelt", "I", false)
  | 12 => ("SortingLineModel", "stations", "I", false)
  | 13 => ("SortingLineModel", "gates", "[I", true)
  | 14 => ("SortingLineModel", "works", "[I", true)
  | 15 => ("SortingLineModel", "totals", "[J", true)
  | 16 => ("SortingLineModel", "slots", "[I", true)
  | 17 => ("SortingLineModel", "side", "[I", true)
  | 18 => ("SortingLineModel", "aside", "I", false)
  | 19 => ("SortingLineModel", "worked", "I", false)
  | 20 => ("SortingLineModel", "passed", "I", false)
  | 21 => ("SortingLineModel", "failed", "I", false)
  | _ => ("SortingLineModel", "findings", "[I", true)
def tyX6 : Nat → FieldType := fun k => match k with
  | 0 => .int
  | 1 => .int
  | 2 => .array .int
  | 3 => .array .int
  | 4 => .array .int
  | 5 => .array .long
  | 6 => .array .int
  | 7 => .array .int
  | 8 => .array .int
  | 9 => .array .int
  | 10 => .array .int
  | 11 => .int
  | 12 => .int
  | 13 => .array .int
  | 14 => .array .int
  | 15 => .array .long
  | 16 => .array .int
  | 17 => .array .int
  | 18 => .int
  | 19 => .int
  | 20 => .int
  | 21 => .int
  | _ => .array .int
abbrev wsX60 : List Cond := u_ws RX6 TX6 23
theorem nmX6 : ∀ a, a < 23 → ∀ b, b < 23 → a ≠ b → (TX6 a).2.1 ≠ (TX6 b).2.1 := by decide +kernel
theorem tyX6_ok : ∀ k, k < 23 → parseFieldDescriptor (TX6 k).2.2.1 = some (tyX6 k) := by decide +kernel
abbrev cX6_init : ByteArray := prog_8_method_1_code
def yX6_init : MethodName := ⟨RX6, "<init>", "()V"⟩
abbrev cX6_thrown : ByteArray := prog_8_method_2_code
def yX6_thrown : MethodName := ⟨RX6, "thrown", "()I"⟩
abbrev cX6_in : ByteArray := prog_8_method_3_code
def yX6_in : MethodName := ⟨RX6, "in", "(III)Z"⟩
abbrev cX6_isThing : ByteArray := prog_8_method_4_code
def yX6_isThing : MethodName := ⟨RX6, "isThing", "(I)Z"⟩
abbrev cX6_isOf : ByteArray := prog_8_method_5_code
def yX6_isOf : MethodName := ⟨RX6, "isOf", "(II)Z"⟩
abbrev cX6_passes : ByteArray := prog_8_method_6_code
def yX6_passes : MethodName := ⟨RX6, "passes", "(II)Z"⟩
abbrev cX6_found : ByteArray := prog_8_method_7_code
def yX6_found : MethodName := ⟨RX6, "found", "(I)I"⟩
abbrev cX6_adds : ByteArray := prog_8_method_8_code
def yX6_adds : MethodName := ⟨RX6, "adds", "(III)I"⟩
abbrev cX6_thing : ByteArray := prog_8_method_9_code
def yX6_thing : MethodName := ⟨RX6, "thing", "(II)I"⟩
abbrev cX6_row : ByteArray := prog_8_method_10_code
def yX6_row : MethodName := ⟨RX6, "row", "(II)I"⟩
abbrev cX6_is : ByteArray := prog_8_method_11_code
def yX6_is : MethodName := ⟨RX6, "is", "(II)I"⟩
abbrev cX6_more : ByteArray := prog_8_method_12_code
def yX6_more : MethodName := ⟨RX6, "more", "(I)I"⟩
abbrev cX6_weight : ByteArray := prog_8_method_13_code
def yX6_weight : MethodName := ⟨RX6, "weight", "(II)I"⟩
abbrev cX6_refusal : ByteArray := prog_8_method_14_code
def yX6_refusal : MethodName := ⟨RX6, "refusal", "(IIII)I"⟩
abbrev cX6_length : ByteArray := prog_8_method_15_code
def yX6_length : MethodName := ⟨RX6, "length", "(II)I"⟩
abbrev cX6_low : ByteArray := prog_8_method_16_code
def yX6_low : MethodName := ⟨RX6, "low", "(IJ)J"⟩
abbrev cX6_put : ByteArray := prog_8_method_17_code
def yX6_put : MethodName := ⟨RX6, "put", "(IIIJ)I"⟩
abbrev cX6_number : ByteArray := prog_8_method_18_code
def yX6_number : MethodName := ⟨RX6, "number", "(III)J"⟩
abbrev cX6_lays : ByteArray := prog_8_method_19_code
def yX6_lays : MethodName := ⟨RX6, "lays", "(IIII)I"⟩
abbrev cX6_lay : ByteArray := prog_8_method_20_code
def yX6_lay : MethodName := ⟨RX6, "lay", "(IIII)I"⟩
abbrev cX6_told : ByteArray := prog_8_method_21_code
def yX6_told : MethodName := ⟨RX6, "told", "(I)I"⟩
abbrev cX6_place : ByteArray := prog_8_method_22_code
def yX6_place : MethodName := ⟨RX6, "place", "(III)I"⟩
abbrev cX6_station : ByteArray := prog_8_method_23_code
def yX6_station : MethodName := ⟨RX6, "station", "(II)I"⟩
abbrev cX6_comes : ByteArray := prog_8_method_24_code
def yX6_comes : MethodName := ⟨RX6, "comes", "(I)V"⟩
abbrev cX6_send : ByteArray := prog_8_method_25_code
def yX6_send : MethodName := ⟨RX6, "send", "(I)I"⟩
abbrev cX6_keyOf : ByteArray := prog_8_method_26_code
def yX6_keyOf : MethodName := ⟨RX6, "keyOf", "(I)I"⟩
abbrev cX6_heaps : ByteArray := prog_8_method_27_code
def yX6_heaps : MethodName := ⟨RX6, "heaps", "(IIZ)I"⟩
abbrev cX6_corner : ByteArray := prog_8_method_28_code
def yX6_corner : MethodName := ⟨RX6, "corner", "(II)I"⟩
abbrev cX6_weighs : ByteArray := prog_8_method_29_code
def yX6_weighs : MethodName := ⟨RX6, "weighs", "(III)I"⟩
abbrev cX6_cell : ByteArray := prog_8_method_30_code
def yX6_cell : MethodName := ⟨RX6, "cell", "(II)I"⟩
abbrev cX6_packs : ByteArray := prog_8_method_31_code
def yX6_packs : MethodName := ⟨RX6, "packs", "(II)I"⟩
abbrev cX6_spills : ByteArray := prog_8_method_32_code
def yX6_spills : MethodName := ⟨RX6, "spills", "(I)I"⟩
abbrev cX6_works : ByteArray := prog_8_method_33_code
def yX6_works : MethodName := ⟨RX6, "works", "(II)I"⟩
abbrev cX6_goesAside : ByteArray := prog_8_method_34_code
def yX6_goesAside : MethodName := ⟨RX6, "goesAside", "(III)V"⟩
abbrev cX6_steps : ByteArray := prog_8_method_35_code
def yX6_steps : MethodName := ⟨RX6, "steps", "()I"⟩
abbrev cX6_step : ByteArray := prog_8_method_36_code
def yX6_step : MethodName := ⟨RX6, "step", "()I"⟩
abbrev cX6_run : ByteArray := prog_8_method_37_code
def yX6_run : MethodName := ⟨RX6, "run", "(I)I"⟩
abbrev cX6_total : ByteArray := prog_8_method_38_code
def yX6_total : MethodName := ⟨RX6, "total", "(I)J"⟩
abbrev cX6_slot : ByteArray := prog_8_method_39_code
def yX6_slot : MethodName := ⟨RX6, "slot", "(I)I"⟩
abbrev cX6_belt : ByteArray := prog_8_method_40_code
def yX6_belt : MethodName := ⟨RX6, "belt", "(I)I"⟩
abbrev cX6_side : ByteArray := prog_8_method_41_code
def yX6_side : MethodName := ⟨RX6, "side", "(II)I"⟩
abbrev cX6_count : ByteArray := prog_8_method_42_code
def yX6_count : MethodName := ⟨RX6, "count", "(I)I"⟩
abbrev cX6_clear : ByteArray := prog_8_method_43_code
def yX6_clear : MethodName := ⟨RX6, "clear", "()I"⟩
def RJx00060 : String := "java/lang/ArrayIndexOutOfBoundsException"
def TJx00060 : u_T := fun k => match k with
  | 0 => ("java/lang/Throwable", "backtrace", "Ljava/lang/Object;", false)
  | 1 => ("java/lang/Throwable", "detailMessage", "Ljava/lang/String;", false)
  | 2 => ("java/lang/Throwable", "cause", "Ljava/lang/Throwable;", false)
  | 3 => ("java/lang/Throwable", "stackTrace", "[Ljava/lang/StackTraceElement;", false)
  | 4 => ("java/lang/Throwable", "depth", "I", false)
  | _ => ("java/lang/Throwable", "suppressedExceptions", "Ljava/util/List;", false)
def tyJx00060 : Nat → FieldType := fun k => match k with
  | 0 => .object "java/lang/Object"
  | 1 => .object "java/lang/String"
  | 2 => .object "java/lang/Throwable"
  | 3 => .array (.object "java/lang/StackTraceElement")
  | 4 => .int
  | _ => .object "java/util/List"
abbrev wsJx000600 : List Cond := u_ws RJx00060 TJx00060 6
theorem nmJx00060 : ∀ a, a < 6 → ∀ b, b < 6 → a ≠ b → (TJx00060 a).2.1 ≠ (TJx00060 b).2.1 := by decide +kernel
theorem tyJx00060_ok : ∀ k, k < 6 → parseFieldDescriptor (TJx00060 k).2.2.1 = some (tyJx00060 k) := by decide +kernel
abbrev cJx00060_init_a7421 : ByteArray := prog_9_method_2_code
def yJx00060_init_a7421 : MethodName := ⟨RJx00060, "<init>", "(Ljava/lang/String;)V"⟩
def RJx3273f : String := "java/lang/ClassCastException"
def TJx3273f : u_T := fun k => match k with
  | 0 => ("java/lang/Throwable", "backtrace", "Ljava/lang/Object;", false)
  | 1 => ("java/lang/Throwable", "detailMessage", "Ljava/lang/String;", false)
  | 2 => ("java/lang/Throwable", "cause", "Ljava/lang/Throwable;", false)
  | 3 => ("java/lang/Throwable", "stackTrace", "[Ljava/lang/StackTraceElement;", false)
  | 4 => ("java/lang/Throwable", "depth", "I", false)
  | _ => ("java/lang/Throwable", "suppressedExceptions", "Ljava/util/List;", false)
def tyJx3273f : Nat → FieldType := fun k => match k with
  | 0 => .object "java/lang/Object"
  | 1 => .object "java/lang/String"
  | 2 => .object "java/lang/Throwable"
  | 3 => .array (.object "java/lang/StackTraceElement")
  | 4 => .int
  | _ => .object "java/util/List"
abbrev wsJx3273f0 : List Cond := u_ws RJx3273f TJx3273f 6
theorem nmJx3273f : ∀ a, a < 6 → ∀ b, b < 6 → a ≠ b → (TJx3273f a).2.1 ≠ (TJx3273f b).2.1 := by decide +kernel
theorem tyJx3273f_ok : ∀ k, k < 6 → parseFieldDescriptor (TJx3273f k).2.2.1 = some (tyJx3273f k) := by decide +kernel
abbrev cJx3273f_init_a7421 : ByteArray := prog_10_method_2_code
def yJx3273f_init_a7421 : MethodName := ⟨RJx3273f, "<init>", "(Ljava/lang/String;)V"⟩
def RJ9 : String := "java/lang/Math"
def TJ9 : u_T := fun k => match k with
  | _ => ("", "", "", false)
def tyJ9 : Nat → FieldType := fun k => match k with
  | _ => .int
abbrev wsJ90 : List Cond := u_ws RJ9 TJ9 0
theorem nmJ9 : ∀ a, a < 0 → ∀ b, b < 0 → a ≠ b → (TJ9 a).2.1 ≠ (TJ9 b).2.1 := by decide +kernel
theorem tyJ9_ok : ∀ k, k < 0 → parseFieldDescriptor (TJ9 k).2.2.1 = some (tyJ9 k) := by decide +kernel
abbrev cJ9_min_7cf53 : ByteArray := prog_13_method_69_code
def yJ9_min_7cf53 : MethodName := ⟨RJ9, "min", "(II)I"⟩
def RJ0 : String := "java/lang/String"
def TJ0 : u_T := fun k => match k with
  | 0 => ("java/lang/String", "value", "[B", true)
  | _ => ("java/lang/String", "coder", "B", true)
def tyJ0 : Nat → FieldType := fun k => match k with
  | 0 => .array .byte
  | _ => .byte
abbrev wsJ00 : List Cond := u_ws RJ0 TJ0 2
theorem nmJ0 : ∀ a, a < 2 → ∀ b, b < 2 → a ≠ b → (TJ0 a).2.1 ≠ (TJ0 b).2.1 := by decide +kernel
theorem tyJ0_ok : ∀ k, k < 2 → parseFieldDescriptor (TJ0 k).2.2.1 = some (tyJ0 k) := by decide +kernel
def RL : String := "SortingLineLaw"
abbrev cL_number : ByteArray := method_3_code
def yL_number : MethodName := ⟨RL, "number", "(LSortingLine;III[J)I"⟩
abbrev cL_law : ByteArray := code
def yL_law : MethodName := ⟨RL, "law", "([I)Z"⟩
def wsX0_init : List Cond := .code yX0_init cX0_init 1 none :: ([.methodLink RX0 3 objectInit, .instanceMethod objectInit, .code objectInit ⟨#[0xb1]⟩ 1 none, .arrayClass .int, .fieldLink RX0 9 "SortingLine$Belt" "ring" "[I", .fieldLink RX0 15 "SortingLine$Belt" "first" "I", .fieldLink RX0 19 "SortingLine$Belt" "size" "I"] ++ wsX00)
def wsX0_size : List Cond := .code yX0_size cX0_size 1 (some .int) :: ([.fieldLink RX0 19 "SortingLine$Belt" "size" "I"] ++ wsX00)
def wsX0_append : List Cond := .code yX0_append cX0_append 2 (some .boolean) :: ([.fieldLink RX0 19 "SortingLine$Belt" "size" "I", .fieldLink RX0 9 "SortingLine$Belt" "ring" "[I", .fieldLink RX0 15 "SortingLine$Belt" "first" "I"] ++ wsX00 ++ ([] : List Cond))
def wsX0_thingAt : List Cond := .code yX0_thingAt cX0_thingAt 2 (some .int) :: ([.fieldLink RX0 19 "SortingLine$Belt" "size" "I", .fieldLink RX0 9 "SortingLine$Belt" "ring" "[I", .fieldLink RX0 15 "SortingLine$Belt" "first" "I"] ++ wsX00 ++ ([] : List Cond))
def wsX0_takeFirst : List Cond := .code yX0_takeFirst cX0_takeFirst 2 (some .int) :: ([.fieldLink RX0 19 "SortingLine$Belt" "size" "I", .fieldLink RX0 9 "SortingLine$Belt" "ring" "[I", .fieldLink RX0 15 "SortingLine$Belt" "first" "I"] ++ wsX00 ++ ([] : List Cond))
def wsX0_forget : List Cond := .code yX0_forget cX0_forget 1 none :: ([.fieldLink RX0 15 "SortingLine$Belt" "first" "I", .fieldLink RX0 19 "SortingLine$Belt" "size" "I"] ++ wsX00)
def wsX1_init : List Cond := .code yX1_init cX1_init 1 none :: ([.methodLink RX1 3 objectInit, .instanceMethod objectInit, .code objectInit ⟨#[0xb1]⟩ 1 none, .arrayClass .int, .fieldLink RX1 9 "SortingLine$Side" "ofThings" "[I", .fieldLink RX1 15 "SortingLine$Side" "ofStations" "[I", .fieldLink RX1 18 "SortingLine$Side" "ofFindings" "[I", .fieldLink RX1 21 "SortingLine$Side" "next" "I", .fieldLink RX1 25 "SortingLine$Side" "size" "I"] ++ wsX10)
def wsX1_add : List Cond := .code yX1_add cX1_add 4 none :: ([.fieldLink RX1 9 "SortingLine$Side" "ofThings" "[I", .fieldLink RX1 21 "SortingLine$Side" "next" "I", .fieldLink RX1 15 "SortingLine$Side" "ofStations" "[I", .fieldLink RX1 18 "SortingLine$Side" "ofFindings" "[I", .fieldLink RX1 25 "SortingLine$Side" "size" "I", .methodLink RX1 28 Lib.Math.min.name, .static Lib.Math.min.name, .initialized "java/lang/Math", .code Lib.Math.min.name Lib.Math.min.code 2 (some .int)] ++ wsX10 ++ ([] : List Cond))
def wsX1_tell : List Cond := .code yX1_tell cX1_tell 4 (some .int) :: ([.fieldLink RX1 25 "SortingLine$Side" "size" "I", .fieldLink RX1 21 "SortingLine$Side" "next" "I", .fieldLink RX1 9 "SortingLine$Side" "ofThings" "[I", .fieldLink RX1 15 "SortingLine$Side" "ofStations" "[I", .fieldLink RX1 18 "SortingLine$Side" "ofFindings" "[I"] ++ wsX10 ++ ([] : List Cond))
def wsX1_forget : List Cond := .code yX1_forget cX1_forget 1 none :: ([.fieldLink RX1 21 "SortingLine$Side" "next" "I", .fieldLink RX1 25 "SortingLine$Side" "size" "I"] ++ wsX10)
def wsX2_init : List Cond := .code yX2_init cX2_init 1 none :: ([.methodLink RX2 3 objectInit, .instanceMethod objectInit, .code objectInit ⟨#[0xb1]⟩ 1 none, .arrayClass .int, .fieldLink RX2 9 "SortingLine$Stations" "gates" "[I", .fieldLink RX2 15 "SortingLine$Stations" "works" "[I", .arrayClass .long, .fieldLink RX2 18 "SortingLine$Stations" "totals" "[J", .fieldLink RX2 22 "SortingLine$Stations" "slots" "[I", .fieldLink RX2 25 "SortingLine$Stations" "made" "I"] ++ wsX20)
def wsX2_howMany : List Cond := .code yX2_howMany cX2_howMany 1 (some .int) :: ([.fieldLink RX2 25 "SortingLine$Stations" "made" "I"] ++ wsX20)
def wsX2_hold : List Cond := .code yX2_hold cX2_hold 2 (some .boolean) :: ([.fieldLink RX2 25 "SortingLine$Stations" "made" "I"] ++ wsX20)
def wsX2_add : List Cond := .code yX2_add cX2_add 4 (some .int) :: ([.fieldLink RX2 25 "SortingLine$Stations" "made" "I", .fieldLink RX2 9 "SortingLine$Stations" "gates" "[I", .fieldLink RX2 15 "SortingLine$Stations" "works" "[I", .fieldLink RX2 18 "SortingLine$Stations" "totals" "[J", .fieldLink RX2 22 "SortingLine$Stations" "slots" "[I"] ++ wsX20 ++ ([] : List Cond))
def wsX2_gateOf : List Cond := .code yX2_gateOf cX2_gateOf 2 (some .int) :: ([.fieldLink RX2 9 "SortingLine$Stations" "gates" "[I", .methodLink RX2 29 yX2_hold, .instanceMethod yX2_hold, .selects RX2 yX2_hold yX2_hold, .initialized RX2, .code yX2_hold cX2_hold 2 (some .boolean), .fieldLink RX2 25 "SortingLine$Stations" "made" "I"] ++ wsX20 ++ ([] : List Cond))
def wsX2_workOf : List Cond := .code yX2_workOf cX2_workOf 2 (some .int) :: ([.fieldLink RX2 15 "SortingLine$Stations" "works" "[I", .methodLink RX2 29 yX2_hold, .instanceMethod yX2_hold, .selects RX2 yX2_hold yX2_hold, .initialized RX2, .code yX2_hold cX2_hold 2 (some .boolean), .fieldLink RX2 25 "SortingLine$Stations" "made" "I"] ++ wsX20 ++ ([] : List Cond))
def wsX2_totalOf : List Cond := .code yX2_totalOf cX2_totalOf 2 (some .long) :: ([.fieldLink RX2 18 "SortingLine$Stations" "totals" "[J", .methodLink RX2 29 yX2_hold, .instanceMethod yX2_hold, .selects RX2 yX2_hold yX2_hold, .initialized RX2, .code yX2_hold cX2_hold 2 (some .boolean), .fieldLink RX2 25 "SortingLine$Stations" "made" "I"] ++ wsX20 ++ ([] : List Cond))
def wsX2_slotOf : List Cond := .code yX2_slotOf cX2_slotOf 2 (some .int) :: ([.fieldLink RX2 22 "SortingLine$Stations" "slots" "[I", .methodLink RX2 29 yX2_hold, .instanceMethod yX2_hold, .selects RX2 yX2_hold yX2_hold, .initialized RX2, .code yX2_hold cX2_hold 2 (some .boolean), .fieldLink RX2 25 "SortingLine$Stations" "made" "I"] ++ wsX20 ++ ([] : List Cond))
def wsX2_grow : List Cond := .code yX2_grow cX2_grow 4 none :: ([.fieldLink RX2 18 "SortingLine$Stations" "totals" "[J", .methodLink RX2 29 yX2_hold, .instanceMethod yX2_hold, .selects RX2 yX2_hold yX2_hold, .initialized RX2, .code yX2_hold cX2_hold 2 (some .boolean), .fieldLink RX2 25 "SortingLine$Stations" "made" "I"] ++ wsX20 ++ ([] : List Cond))
def wsX2_setSlot : List Cond := .code yX2_setSlot cX2_setSlot 3 none :: ([.fieldLink RX2 22 "SortingLine$Stations" "slots" "[I", .methodLink RX2 29 yX2_hold, .instanceMethod yX2_hold, .selects RX2 yX2_hold yX2_hold, .initialized RX2, .code yX2_hold cX2_hold 2 (some .boolean), .fieldLink RX2 25 "SortingLine$Stations" "made" "I"] ++ wsX20 ++ ([] : List Cond))
def wsX2_forget : List Cond := .code yX2_forget cX2_forget 1 none :: ([.fieldLink RX2 25 "SortingLine$Stations" "made" "I"] ++ wsX20)
def wsX3_init : List Cond := .code yX3_init cX3_init 1 none :: ([.methodLink RX3 3 objectInit, .instanceMethod objectInit, .code objectInit ⟨#[0xb1]⟩ 1 none, .arrayClass .int, .fieldLink RX3 9 "SortingLine$Tally" "found" "[I", .fieldLink RX3 15 "SortingLine$Tally" "worked" "I", .fieldLink RX3 19 "SortingLine$Tally" "passed" "I", .fieldLink RX3 22 "SortingLine$Tally" "failed" "I"] ++ wsX30)
def wsX3_addWorked : List Cond := .code yX3_addWorked cX3_addWorked 1 none :: ([.fieldLink RX3 15 "SortingLine$Tally" "worked" "I"] ++ wsX30)
def wsX3_addPassed : List Cond := .code yX3_addPassed cX3_addPassed 1 none :: ([.fieldLink RX3 19 "SortingLine$Tally" "passed" "I"] ++ wsX30)
def wsX3_addFailed : List Cond := .code yX3_addFailed cX3_addFailed 1 none :: ([.fieldLink RX3 22 "SortingLine$Tally" "failed" "I"] ++ wsX30)
def wsX3_addFinding : List Cond := .code yX3_addFinding cX3_addFinding 2 none :: ([.fieldLink RX3 9 "SortingLine$Tally" "found" "[I"] ++ wsX30 ++ ([] : List Cond))
def wsX3_foundOf : List Cond := .code yX3_foundOf cX3_foundOf 2 (some .int) :: ([.fieldLink RX3 9 "SortingLine$Tally" "found" "[I"] ++ wsX30 ++ ([] : List Cond))
def wsX3_forget : List Cond := .code yX3_forget cX3_forget 2 none :: ([.fieldLink RX3 15 "SortingLine$Tally" "worked" "I", .fieldLink RX3 19 "SortingLine$Tally" "passed" "I", .fieldLink RX3 22 "SortingLine$Tally" "failed" "I", .fieldLink RX3 9 "SortingLine$Tally" "found" "[I"] ++ wsX30 ++ ([] : List Cond))
def wsX4_init : List Cond := .code yX4_init cX4_init 1 none :: ([.methodLink RX4 3 objectInit, .instanceMethod objectInit, .code objectInit ⟨#[0xb1]⟩ 1 none, .arrayClass .int, .fieldLink RX4 9 "SortingLine$Things" "forms" "[I", .fieldLink RX4 15 "SortingLine$Things" "weights" "[I", .fieldLink RX4 18 "SortingLine$Things" "sizes" "[I", .arrayClass .long, .fieldLink RX4 21 "SortingLine$Things" "numbers" "[J", .fieldLink RX4 25 "SortingLine$Things" "members" "[I", .fieldLink RX4 28 "SortingLine$Things" "made" "I"] ++ wsX40)
def wsX4_howMany : List Cond := .code yX4_howMany cX4_howMany 1 (some .int) :: ([.fieldLink RX4 28 "SortingLine$Things" "made" "I"] ++ wsX40)
def wsX4_areFull : List Cond := .code yX4_areFull cX4_areFull 1 (some .boolean) :: ([.fieldLink RX4 28 "SortingLine$Things" "made" "I"] ++ wsX40)
def wsX4_hold : List Cond := .code yX4_hold cX4_hold 2 (some .boolean) :: ([.fieldLink RX4 28 "SortingLine$Things" "made" "I"] ++ wsX40)
def wsX4_add : List Cond := .code yX4_add cX4_add 6 (some .int) :: ([.fieldLink RX4 28 "SortingLine$Things" "made" "I", .fieldLink RX4 9 "SortingLine$Things" "forms" "[I", .fieldLink RX4 15 "SortingLine$Things" "weights" "[I", .fieldLink RX4 18 "SortingLine$Things" "sizes" "[I", .fieldLink RX4 21 "SortingLine$Things" "numbers" "[J", .fieldLink RX4 25 "SortingLine$Things" "members" "[I", .methodLink RX4 32 yX4_areFull, .instanceMethod yX4_areFull, .selects RX4 yX4_areFull yX4_areFull, .initialized RX4, .code yX4_areFull cX4_areFull 1 (some .boolean)] ++ wsX40 ++ ([] : List Cond))
def wsX4_formOf : List Cond := .code yX4_formOf cX4_formOf 2 (some .int) :: ([.fieldLink RX4 9 "SortingLine$Things" "forms" "[I", .methodLink RX4 36 yX4_hold, .instanceMethod yX4_hold, .selects RX4 yX4_hold yX4_hold, .initialized RX4, .code yX4_hold cX4_hold 2 (some .boolean), .fieldLink RX4 28 "SortingLine$Things" "made" "I"] ++ wsX40 ++ ([] : List Cond))
def wsX5_alsoIs : List Cond := .code yX5_alsoIs cX5_alsoIs 2 (some .boolean) :: ([])
def wsX4_isOf : List Cond := .code yX4_isOf cX4_isOf 3 (some .boolean) :: ([.fieldLink RX4 9 "SortingLine$Things" "forms" "[I", .methodLink RX4 36 yX4_hold, .instanceMethod yX4_hold, .selects RX4 yX4_hold yX4_hold, .initialized RX4, .code yX4_hold cX4_hold 2 (some .boolean), .fieldLink RX4 28 "SortingLine$Things" "made" "I", .static yX5_alsoIs, .initialized RX5, .code yX5_alsoIs cX5_alsoIs 2 (some .boolean)] ++ wsX40 ++ ([] : List Cond))
def wsX4_weightOf : List Cond := .code yX4_weightOf cX4_weightOf 2 (some .int) :: ([.fieldLink RX4 15 "SortingLine$Things" "weights" "[I", .methodLink RX4 36 yX4_hold, .instanceMethod yX4_hold, .selects RX4 yX4_hold yX4_hold, .initialized RX4, .code yX4_hold cX4_hold 2 (some .boolean), .fieldLink RX4 28 "SortingLine$Things" "made" "I"] ++ wsX40 ++ ([] : List Cond))
def wsX4_keyOf : List Cond := .code yX4_keyOf cX4_keyOf 2 (some .int) :: ([.methodLink RX4 44 yX4_formOf, .instanceMethod yX4_formOf, .selects RX4 yX4_formOf yX4_formOf, .initialized RX4, .code yX4_formOf cX4_formOf 2 (some .int), .fieldLink RX4 9 "SortingLine$Things" "forms" "[I", .methodLink RX4 36 yX4_hold, .instanceMethod yX4_hold, .selects RX4 yX4_hold yX4_hold, .code yX4_hold cX4_hold 2 (some .boolean), .fieldLink RX4 28 "SortingLine$Things" "made" "I", .methodLink RX4 48 yX4_weightOf, .instanceMethod yX4_weightOf, .selects RX4 yX4_weightOf yX4_weightOf, .code yX4_weightOf cX4_weightOf 2 (some .int), .fieldLink RX4 15 "SortingLine$Things" "weights" "[I"] ++ wsX40 ++ ([] : List Cond))
def wsX4_sizeOf : List Cond := .code yX4_sizeOf cX4_sizeOf 2 (some .int) :: ([.fieldLink RX4 18 "SortingLine$Things" "sizes" "[I", .methodLink RX4 36 yX4_hold, .instanceMethod yX4_hold, .selects RX4 yX4_hold yX4_hold, .initialized RX4, .code yX4_hold cX4_hold 2 (some .boolean), .fieldLink RX4 28 "SortingLine$Things" "made" "I"] ++ wsX40 ++ ([] : List Cond))
def wsX4_hasPlace : List Cond := .code yX4_hasPlace cX4_hasPlace 3 (some .boolean) :: ([.fieldLink RX4 28 "SortingLine$Things" "made" "I", .fieldLink RX4 18 "SortingLine$Things" "sizes" "[I"] ++ wsX40 ++ ([] : List Cond))
def wsX4_numberAt : List Cond := .code yX4_numberAt cX4_numberAt 3 (some .long) :: ([.fieldLink RX4 21 "SortingLine$Things" "numbers" "[J", .methodLink RX4 51 yX4_hasPlace, .instanceMethod yX4_hasPlace, .selects RX4 yX4_hasPlace yX4_hasPlace, .initialized RX4, .code yX4_hasPlace cX4_hasPlace 3 (some .boolean), .fieldLink RX4 28 "SortingLine$Things" "made" "I", .fieldLink RX4 18 "SortingLine$Things" "sizes" "[I"] ++ wsX40 ++ ([] : List Cond))
def wsX4_setNumber : List Cond := .code yX4_setNumber cX4_setNumber 5 none :: ([.fieldLink RX4 21 "SortingLine$Things" "numbers" "[J", .fieldLink RX4 9 "SortingLine$Things" "forms" "[I", .methodLink RX4 51 yX4_hasPlace, .instanceMethod yX4_hasPlace, .selects RX4 yX4_hasPlace yX4_hasPlace, .initialized RX4, .code yX4_hasPlace cX4_hasPlace 3 (some .boolean), .fieldLink RX4 28 "SortingLine$Things" "made" "I", .fieldLink RX4 18 "SortingLine$Things" "sizes" "[I"] ++ wsX40 ++ ([] : List Cond))
def wsX4_sumOfNumbers : List Cond := .code yX4_sumOfNumbers cX4_sumOfNumbers 5 (some .long) :: ([.methodLink RX4 54 yX4_sizeOf, .instanceMethod yX4_sizeOf, .selects RX4 yX4_sizeOf yX4_sizeOf, .initialized RX4, .code yX4_sizeOf cX4_sizeOf 2 (some .int), .fieldLink RX4 18 "SortingLine$Things" "sizes" "[I", .methodLink RX4 36 yX4_hold, .instanceMethod yX4_hold, .selects RX4 yX4_hold yX4_hold, .code yX4_hold cX4_hold 2 (some .boolean), .fieldLink RX4 28 "SortingLine$Things" "made" "I", .methodLink RX4 57 yX4_numberAt, .instanceMethod yX4_numberAt, .selects RX4 yX4_numberAt yX4_numberAt, .code yX4_numberAt cX4_numberAt 3 (some .long), .fieldLink RX4 21 "SortingLine$Things" "numbers" "[J", .methodLink RX4 51 yX4_hasPlace, .instanceMethod yX4_hasPlace, .selects RX4 yX4_hasPlace yX4_hasPlace, .code yX4_hasPlace cX4_hasPlace 3 (some .boolean)] ++ wsX40 ++ ([] : List Cond))
def wsX4_memberAt : List Cond := .code yX4_memberAt cX4_memberAt 3 (some .int) :: ([.fieldLink RX4 25 "SortingLine$Things" "members" "[I", .methodLink RX4 51 yX4_hasPlace, .instanceMethod yX4_hasPlace, .selects RX4 yX4_hasPlace yX4_hasPlace, .initialized RX4, .code yX4_hasPlace cX4_hasPlace 3 (some .boolean), .fieldLink RX4 28 "SortingLine$Things" "made" "I", .fieldLink RX4 18 "SortingLine$Things" "sizes" "[I"] ++ wsX40 ++ ([] : List Cond))
def wsX4_setMember : List Cond := .code yX4_setMember cX4_setMember 4 none :: ([.fieldLink RX4 25 "SortingLine$Things" "members" "[I", .methodLink RX4 51 yX4_hasPlace, .instanceMethod yX4_hasPlace, .selects RX4 yX4_hasPlace yX4_hasPlace, .initialized RX4, .code yX4_hasPlace cX4_hasPlace 3 (some .boolean), .fieldLink RX4 28 "SortingLine$Things" "made" "I", .fieldLink RX4 18 "SortingLine$Things" "sizes" "[I"] ++ wsX40 ++ ([] : List Cond))
def wsX4_forget : List Cond := .code yX4_forget cX4_forget 1 none :: ([.fieldLink RX4 28 "SortingLine$Things" "made" "I"] ++ wsX40)
def wsX5_init_r1 : List Cond := [Cond.methodLink RX5 1 objectInit, Cond.instanceMethod objectInit, Cond.code objectInit ⟨#[0xb1]⟩ 1 none, Cond.classLink RX5 7 RX4, Cond.instantiable RX4 6, Cond.initialized RX4, Cond.fieldLink RX5 10 "SortingLine" "things" "LSortingLine$Things;", Cond.classLink RX5 16 RX2, Cond.instantiable RX2 5, Cond.initialized RX2, Cond.fieldLink RX5 19 "SortingLine" "stations" "LSortingLine$Stations;", Cond.classLink RX5 23 RX0, Cond.instantiable RX0 3, Cond.initialized RX0, Cond.fieldLink RX5 26 "SortingLine" "onBelt" "LSortingLine$Belt;", Cond.classLink RX5 30 RX1, Cond.instantiable RX1 5, Cond.initialized RX1, Cond.fieldLink RX5 33 "SortingLine" "aside" "LSortingLine$Side;", Cond.classLink RX5 37 RX3, Cond.instantiable RX3 4, Cond.initialized RX3, Cond.fieldLink RX5 40 "SortingLine" "tally" "LSortingLine$Tally;", Cond.instanceMethod yX4_init]
def wsX5_init_r2 : List Cond := [Cond.code yX4_init cX4_init 1 none, Cond.methodLink RX4 3 objectInit, Cond.arrayClass .int, Cond.fieldLink RX4 9 "SortingLine$Things" "forms" "[I", Cond.fieldLink RX4 15 "SortingLine$Things" "weights" "[I", Cond.fieldLink RX4 18 "SortingLine$Things" "sizes" "[I", Cond.arrayClass .long, Cond.fieldLink RX4 21 "SortingLine$Things" "numbers" "[J", Cond.fieldLink RX4 25 "SortingLine$Things" "members" "[I", Cond.fieldLink RX4 28 "SortingLine$Things" "made" "I", Cond.instanceMethod yX2_init, Cond.code yX2_init cX2_init 1 none, Cond.methodLink RX2 3 objectInit, Cond.fieldLink RX2 9 "SortingLine$Stations" "gates" "[I", Cond.fieldLink RX2 15 "SortingLine$Stations" "works" "[I", Cond.fieldLink RX2 18 "SortingLine$Stations" "totals" "[J", Cond.fieldLink RX2 22 "SortingLine$Stations" "slots" "[I", Cond.fieldLink RX2 25 "SortingLine$Stations" "made" "I", Cond.instanceMethod yX0_init, Cond.code yX0_init cX0_init 1 none, Cond.methodLink RX0 3 objectInit, Cond.fieldLink RX0 9 "SortingLine$Belt" "ring" "[I", Cond.fieldLink RX0 15 "SortingLine$Belt" "first" "I", Cond.fieldLink RX0 19 "SortingLine$Belt" "size" "I"]
def wsX5_init_r3 : List Cond := [Cond.instanceMethod yX1_init, Cond.code yX1_init cX1_init 1 none, Cond.methodLink RX1 3 objectInit, Cond.fieldLink RX1 9 "SortingLine$Side" "ofThings" "[I", Cond.fieldLink RX1 15 "SortingLine$Side" "ofStations" "[I", Cond.fieldLink RX1 18 "SortingLine$Side" "ofFindings" "[I", Cond.fieldLink RX1 21 "SortingLine$Side" "next" "I", Cond.fieldLink RX1 25 "SortingLine$Side" "size" "I", Cond.instanceMethod yX3_init, Cond.code yX3_init cX3_init 1 none, Cond.methodLink RX3 3 objectInit, Cond.fieldLink RX3 9 "SortingLine$Tally" "found" "[I", Cond.fieldLink RX3 15 "SortingLine$Tally" "worked" "I", Cond.fieldLink RX3 19 "SortingLine$Tally" "passed" "I", Cond.fieldLink RX3 22 "SortingLine$Tally" "failed" "I"]
def wsX5_init : List Cond := .code yX5_init cX5_init 1 none :: ((wsX5_init_r1 ++ (wsX5_init_r2 ++ wsX5_init_r3)) ++ wsX40 ++ wsX50 ++ wsX20 ++ wsX00 ++ wsX10 ++ wsX30)
def wsX5_thing : List Cond := .code yX5_thing cX5_thing 3 (some .int) :: ([.fieldLink RX5 10 "SortingLine" "things" "LSortingLine$Things;", .methodLink RX5 44 yX4_add, .instanceMethod yX4_add, .selects RX4 yX4_add yX4_add, .initialized RX4, .code yX4_add cX4_add 6 (some .int), .fieldLink RX4 28 "SortingLine$Things" "made" "I", .fieldLink RX4 9 "SortingLine$Things" "forms" "[I", .fieldLink RX4 15 "SortingLine$Things" "weights" "[I", .fieldLink RX4 18 "SortingLine$Things" "sizes" "[I", .fieldLink RX4 21 "SortingLine$Things" "numbers" "[J", .fieldLink RX4 25 "SortingLine$Things" "members" "[I", .methodLink RX4 32 yX4_areFull, .instanceMethod yX4_areFull, .selects RX4 yX4_areFull yX4_areFull, .code yX4_areFull cX4_areFull 1 (some .boolean)] ++ wsX50 ++ wsX40 ++ ([] : List Cond))
def wsX5_answerOf : List Cond := .code yX5_answerOf cX5_answerOf 2 (some .int) :: ([.fieldLink RX5 40 "SortingLine" "tally" "LSortingLine$Tally;", .methodLink RX5 182 yX3_addFinding, .instanceMethod yX3_addFinding, .selects RX3 yX3_addFinding yX3_addFinding, .initialized RX3, .code yX3_addFinding cX3_addFinding 2 none, .fieldLink RX3 9 "SortingLine$Tally" "found" "[I"] ++ wsX50 ++ wsX30 ++ ([] : List Cond))
def wsX5_row_r1 : List Cond := [Cond.fieldLink RX5 10 "SortingLine" "things" "LSortingLine$Things;", Cond.methodLink RX5 48 yX4_areFull, Cond.instanceMethod yX4_areFull, Cond.selects RX4 yX4_areFull yX4_areFull, Cond.initialized RX4, Cond.code yX4_areFull cX4_areFull 1 (some .boolean), Cond.fieldLink RX4 28 "SortingLine$Things" "made" "I", Cond.methodLink RX5 52 yX5_answerOf, Cond.instanceMethod yX5_answerOf, Cond.selects RX5 yX5_answerOf yX5_answerOf, Cond.initialized RX5, Cond.code yX5_answerOf cX5_answerOf 2 (some .int), Cond.fieldLink RX5 40 "SortingLine" "tally" "LSortingLine$Tally;", Cond.methodLink RX5 182 yX3_addFinding, Cond.instanceMethod yX3_addFinding, Cond.selects RX3 yX3_addFinding yX3_addFinding, Cond.initialized RX3, Cond.code yX3_addFinding cX3_addFinding 2 none, Cond.fieldLink RX3 9 "SortingLine$Tally" "found" "[I", Cond.methodLink RX5 44 yX4_add, Cond.instanceMethod yX4_add, Cond.selects RX4 yX4_add yX4_add, Cond.code yX4_add cX4_add 6 (some .int), Cond.fieldLink RX4 9 "SortingLine$Things" "forms" "[I"]
def wsX5_row_r2 : List Cond := [Cond.fieldLink RX4 15 "SortingLine$Things" "weights" "[I", Cond.fieldLink RX4 18 "SortingLine$Things" "sizes" "[I", Cond.fieldLink RX4 21 "SortingLine$Things" "numbers" "[J", Cond.fieldLink RX4 25 "SortingLine$Things" "members" "[I", Cond.methodLink RX4 32 yX4_areFull]
def wsX5_row : List Cond := .code yX5_row cX5_row 3 (some .int) :: ((wsX5_row_r1 ++ wsX5_row_r2) ++ wsX50 ++ wsX40 ++ wsX30 ++ ([] : List Cond))
def wsX5_refusalOf : List Cond := .code yX5_refusalOf cX5_refusalOf 5 (some .int) :: ([.fieldLink RX5 10 "SortingLine" "things" "LSortingLine$Things;", .methodLink RX5 64 yX4_hold, .instanceMethod yX4_hold, .selects RX4 yX4_hold yX4_hold, .initialized RX4, .code yX4_hold cX4_hold 2 (some .boolean), .fieldLink RX4 28 "SortingLine$Things" "made" "I"] ++ wsX50 ++ wsX40)
def wsX5_is : List Cond := .code yX5_is cX5_is 4 (some .int) :: ([.fieldLink RX5 10 "SortingLine" "things" "LSortingLine$Things;", .methodLink RX5 56 yX5_refusalOf, .instanceMethod yX5_refusalOf, .selects RX5 yX5_refusalOf yX5_refusalOf, .initialized RX5, .code yX5_refusalOf cX5_refusalOf 5 (some .int), .methodLink RX5 64 yX4_hold, .instanceMethod yX4_hold, .selects RX4 yX4_hold yX4_hold, .initialized RX4, .code yX4_hold cX4_hold 2 (some .boolean), .fieldLink RX4 28 "SortingLine$Things" "made" "I", .methodLink RX5 60 yX4_isOf, .instanceMethod yX4_isOf, .selects RX4 yX4_isOf yX4_isOf, .code yX4_isOf cX4_isOf 3 (some .boolean), .fieldLink RX4 9 "SortingLine$Things" "forms" "[I", .methodLink RX4 36 yX4_hold, .static yX5_alsoIs, .code yX5_alsoIs cX5_alsoIs 2 (some .boolean)] ++ wsX50 ++ wsX40 ++ ([] : List Cond))
def wsX5_more : List Cond := .code yX5_more cX5_more 3 (some .int) :: ([.fieldLink RX5 10 "SortingLine" "things" "LSortingLine$Things;", .methodLink RX5 64 yX4_hold, .instanceMethod yX4_hold, .selects RX4 yX4_hold yX4_hold, .initialized RX4, .code yX4_hold cX4_hold 2 (some .boolean), .fieldLink RX4 28 "SortingLine$Things" "made" "I", .methodLink RX5 68 yX4_formOf, .instanceMethod yX4_formOf, .selects RX4 yX4_formOf yX4_formOf, .code yX4_formOf cX4_formOf 2 (some .int), .fieldLink RX4 9 "SortingLine$Things" "forms" "[I", .methodLink RX4 36 yX4_hold, .methodLink RX5 60 yX4_isOf, .instanceMethod yX4_isOf, .selects RX4 yX4_isOf yX4_isOf, .code yX4_isOf cX4_isOf 3 (some .boolean), .static yX5_alsoIs, .initialized RX5, .code yX5_alsoIs cX5_alsoIs 2 (some .boolean)] ++ wsX50 ++ wsX40 ++ ([] : List Cond))
def wsX5_weight_r1 : List Cond := [Cond.constant RX5 71 (-2000000000), Cond.fieldLink RX5 10 "SortingLine" "things" "LSortingLine$Things;", Cond.methodLink RX5 56 yX5_refusalOf, Cond.instanceMethod yX5_refusalOf, Cond.selects RX5 yX5_refusalOf yX5_refusalOf, Cond.initialized RX5, Cond.code yX5_refusalOf cX5_refusalOf 5 (some .int), Cond.methodLink RX5 64 yX4_hold, Cond.instanceMethod yX4_hold, Cond.selects RX4 yX4_hold yX4_hold, Cond.initialized RX4, Cond.code yX4_hold cX4_hold 2 (some .boolean), Cond.fieldLink RX4 28 "SortingLine$Things" "made" "I", Cond.methodLink RX5 60 yX4_isOf, Cond.instanceMethod yX4_isOf, Cond.selects RX4 yX4_isOf yX4_isOf, Cond.code yX4_isOf cX4_isOf 3 (some .boolean), Cond.fieldLink RX4 9 "SortingLine$Things" "forms" "[I", Cond.methodLink RX4 36 yX4_hold, Cond.static yX5_alsoIs, Cond.code yX5_alsoIs cX5_alsoIs 2 (some .boolean), Cond.methodLink RX5 52 yX5_answerOf, Cond.instanceMethod yX5_answerOf, Cond.selects RX5 yX5_answerOf yX5_answerOf]
def wsX5_weight_r2 : List Cond := [Cond.code yX5_answerOf cX5_answerOf 2 (some .int), Cond.fieldLink RX5 40 "SortingLine" "tally" "LSortingLine$Tally;", Cond.methodLink RX5 182 yX3_addFinding, Cond.instanceMethod yX3_addFinding, Cond.selects RX3 yX3_addFinding yX3_addFinding, Cond.initialized RX3, Cond.code yX3_addFinding cX3_addFinding 2 none, Cond.fieldLink RX3 9 "SortingLine$Tally" "found" "[I", Cond.methodLink RX5 72 yX4_weightOf, Cond.instanceMethod yX4_weightOf, Cond.selects RX4 yX4_weightOf yX4_weightOf, Cond.code yX4_weightOf cX4_weightOf 2 (some .int), Cond.fieldLink RX4 15 "SortingLine$Things" "weights" "[I"]
def wsX5_weight : List Cond := .code yX5_weight cX5_weight 4 (some .int) :: ((wsX5_weight_r1 ++ wsX5_weight_r2) ++ wsX50 ++ wsX40 ++ wsX30 ++ ([] : List Cond))
def wsX5_length_r1 : List Cond := [Cond.fieldLink RX5 10 "SortingLine" "things" "LSortingLine$Things;", Cond.methodLink RX5 56 yX5_refusalOf, Cond.instanceMethod yX5_refusalOf, Cond.selects RX5 yX5_refusalOf yX5_refusalOf, Cond.initialized RX5, Cond.code yX5_refusalOf cX5_refusalOf 5 (some .int), Cond.methodLink RX5 64 yX4_hold, Cond.instanceMethod yX4_hold, Cond.selects RX4 yX4_hold yX4_hold, Cond.initialized RX4, Cond.code yX4_hold cX4_hold 2 (some .boolean), Cond.fieldLink RX4 28 "SortingLine$Things" "made" "I", Cond.methodLink RX5 60 yX4_isOf, Cond.instanceMethod yX4_isOf, Cond.selects RX4 yX4_isOf yX4_isOf, Cond.code yX4_isOf cX4_isOf 3 (some .boolean), Cond.fieldLink RX4 9 "SortingLine$Things" "forms" "[I", Cond.methodLink RX4 36 yX4_hold, Cond.static yX5_alsoIs, Cond.code yX5_alsoIs cX5_alsoIs 2 (some .boolean), Cond.methodLink RX5 52 yX5_answerOf, Cond.instanceMethod yX5_answerOf, Cond.selects RX5 yX5_answerOf yX5_answerOf, Cond.code yX5_answerOf cX5_answerOf 2 (some .int)]
def wsX5_length_r2 : List Cond := [Cond.fieldLink RX5 40 "SortingLine" "tally" "LSortingLine$Tally;", Cond.methodLink RX5 182 yX3_addFinding, Cond.instanceMethod yX3_addFinding, Cond.selects RX3 yX3_addFinding yX3_addFinding, Cond.initialized RX3, Cond.code yX3_addFinding cX3_addFinding 2 none, Cond.fieldLink RX3 9 "SortingLine$Tally" "found" "[I", Cond.methodLink RX5 75 yX4_sizeOf, Cond.instanceMethod yX4_sizeOf, Cond.selects RX4 yX4_sizeOf yX4_sizeOf, Cond.code yX4_sizeOf cX4_sizeOf 2 (some .int), Cond.fieldLink RX4 18 "SortingLine$Things" "sizes" "[I"]
def wsX5_length : List Cond := .code yX5_length cX5_length 4 (some .int) :: ((wsX5_length_r1 ++ wsX5_length_r2) ++ wsX50 ++ wsX40 ++ wsX30 ++ ([] : List Cond))
def wsX5_findingAt : List Cond := .code yX5_findingAt cX5_findingAt 4 (some .int) :: ([.fieldLink RX5 10 "SortingLine" "things" "LSortingLine$Things;", .methodLink RX5 60 yX4_isOf, .instanceMethod yX4_isOf, .selects RX4 yX4_isOf yX4_isOf, .initialized RX4, .code yX4_isOf cX4_isOf 3 (some .boolean), .fieldLink RX4 9 "SortingLine$Things" "forms" "[I", .methodLink RX4 36 yX4_hold, .instanceMethod yX4_hold, .selects RX4 yX4_hold yX4_hold, .code yX4_hold cX4_hold 2 (some .boolean), .fieldLink RX4 28 "SortingLine$Things" "made" "I", .static yX5_alsoIs, .initialized RX5, .code yX5_alsoIs cX5_alsoIs 2 (some .boolean), .methodLink RX5 186 yX4_hasPlace, .instanceMethod yX4_hasPlace, .selects RX4 yX4_hasPlace yX4_hasPlace, .code yX4_hasPlace cX4_hasPlace 3 (some .boolean), .fieldLink RX4 18 "SortingLine$Things" "sizes" "[I"] ++ wsX50 ++ wsX40 ++ ([] : List Cond))
def wsX5_put_r1 : List Cond := [Cond.fieldLink RX5 10 "SortingLine" "things" "LSortingLine$Things;", Cond.methodLink RX5 56 yX5_refusalOf, Cond.instanceMethod yX5_refusalOf, Cond.selects RX5 yX5_refusalOf yX5_refusalOf, Cond.initialized RX5, Cond.code yX5_refusalOf cX5_refusalOf 5 (some .int), Cond.methodLink RX5 64 yX4_hold, Cond.instanceMethod yX4_hold, Cond.selects RX4 yX4_hold yX4_hold, Cond.initialized RX4, Cond.code yX4_hold cX4_hold 2 (some .boolean), Cond.fieldLink RX4 28 "SortingLine$Things" "made" "I", Cond.methodLink RX5 78 yX5_findingAt, Cond.instanceMethod yX5_findingAt, Cond.selects RX5 yX5_findingAt yX5_findingAt, Cond.code yX5_findingAt cX5_findingAt 4 (some .int), Cond.methodLink RX5 60 yX4_isOf, Cond.instanceMethod yX4_isOf, Cond.selects RX4 yX4_isOf yX4_isOf, Cond.code yX4_isOf cX4_isOf 3 (some .boolean), Cond.fieldLink RX4 9 "SortingLine$Things" "forms" "[I", Cond.methodLink RX4 36 yX4_hold, Cond.static yX5_alsoIs, Cond.code yX5_alsoIs cX5_alsoIs 2 (some .boolean)]
def wsX5_put_r2 : List Cond := [Cond.methodLink RX5 186 yX4_hasPlace, Cond.instanceMethod yX4_hasPlace, Cond.selects RX4 yX4_hasPlace yX4_hasPlace, Cond.code yX4_hasPlace cX4_hasPlace 3 (some .boolean), Cond.fieldLink RX4 18 "SortingLine$Things" "sizes" "[I", Cond.methodLink RX5 52 yX5_answerOf, Cond.instanceMethod yX5_answerOf, Cond.selects RX5 yX5_answerOf yX5_answerOf, Cond.code yX5_answerOf cX5_answerOf 2 (some .int), Cond.fieldLink RX5 40 "SortingLine" "tally" "LSortingLine$Tally;", Cond.methodLink RX5 182 yX3_addFinding, Cond.instanceMethod yX3_addFinding, Cond.selects RX3 yX3_addFinding yX3_addFinding, Cond.initialized RX3, Cond.code yX3_addFinding cX3_addFinding 2 none, Cond.fieldLink RX3 9 "SortingLine$Tally" "found" "[I", Cond.methodLink RX5 81 yX4_setNumber, Cond.instanceMethod yX4_setNumber, Cond.selects RX4 yX4_setNumber yX4_setNumber, Cond.code yX4_setNumber cX4_setNumber 5 none, Cond.fieldLink RX4 21 "SortingLine$Things" "numbers" "[J", Cond.methodLink RX4 51 yX4_hasPlace]
def wsX5_put : List Cond := .code yX5_put cX5_put 8 (some .int) :: ((wsX5_put_r1 ++ wsX5_put_r2) ++ wsX50 ++ wsX40 ++ wsX30 ++ ([] : List Cond))
def wsX5_number_r1 : List Cond := [Cond.classLink RX5 85 RJx3273f, Cond.instantiable RJx3273f 6, Cond.initialized RJx3273f, Cond.classLink RX5 92 RJx00060, Cond.instantiable RJx00060 6, Cond.initialized RJx00060, Cond.fieldLink RX5 10 "SortingLine" "things" "LSortingLine$Things;", Cond.methodLink RX5 56 yX5_refusalOf, Cond.instanceMethod yX5_refusalOf, Cond.selects RX5 yX5_refusalOf yX5_refusalOf, Cond.initialized RX5, Cond.code yX5_refusalOf cX5_refusalOf 5 (some .int), Cond.methodLink RX5 64 yX4_hold, Cond.instanceMethod yX4_hold, Cond.selects RX4 yX4_hold yX4_hold, Cond.initialized RX4, Cond.code yX4_hold cX4_hold 2 (some .boolean), Cond.fieldLink RX4 28 "SortingLine$Things" "made" "I", Cond.methodLink RX5 78 yX5_findingAt, Cond.instanceMethod yX5_findingAt, Cond.selects RX5 yX5_findingAt yX5_findingAt, Cond.code yX5_findingAt cX5_findingAt 4 (some .int), Cond.methodLink RX5 60 yX4_isOf, Cond.instanceMethod yX4_isOf]
def wsX5_number_r2 : List Cond := [Cond.selects RX4 yX4_isOf yX4_isOf, Cond.code yX4_isOf cX4_isOf 3 (some .boolean), Cond.fieldLink RX4 9 "SortingLine$Things" "forms" "[I", Cond.methodLink RX4 36 yX4_hold, Cond.static yX5_alsoIs, Cond.code yX5_alsoIs cX5_alsoIs 2 (some .boolean), Cond.methodLink RX5 186 yX4_hasPlace, Cond.instanceMethod yX4_hasPlace, Cond.selects RX4 yX4_hasPlace yX4_hasPlace, Cond.code yX4_hasPlace cX4_hasPlace 3 (some .boolean), Cond.fieldLink RX4 18 "SortingLine$Things" "sizes" "[I", Cond.methodLink RX5 97 yX4_numberAt, Cond.instanceMethod yX4_numberAt, Cond.selects RX4 yX4_numberAt yX4_numberAt, Cond.code yX4_numberAt cX4_numberAt 3 (some .long), Cond.fieldLink RX4 21 "SortingLine$Things" "numbers" "[J", Cond.methodLink RX4 51 yX4_hasPlace]
def wsX5_number : List Cond := .code yX5_number cX5_number 5 (some .long) :: ((wsX5_number_r1 ++ wsX5_number_r2) ++ wsJx3273f0 ++ wsJx000600 ++ wsX50 ++ wsX40 ++ ([] : List Cond))
def wsX5_memberKind : List Cond := .code yX5_memberKind cX5_memberKind 1 (some .int) :: ([])
def wsX5_layInto_r1 : List Cond := [Cond.fieldLink RX5 10 "SortingLine" "things" "LSortingLine$Things;", Cond.methodLink RX5 60 yX4_isOf, Cond.instanceMethod yX4_isOf, Cond.selects RX4 yX4_isOf yX4_isOf, Cond.initialized RX4, Cond.code yX4_isOf cX4_isOf 3 (some .boolean), Cond.fieldLink RX4 9 "SortingLine$Things" "forms" "[I", Cond.methodLink RX4 36 yX4_hold, Cond.instanceMethod yX4_hold, Cond.selects RX4 yX4_hold yX4_hold, Cond.code yX4_hold cX4_hold 2 (some .boolean), Cond.fieldLink RX4 28 "SortingLine$Things" "made" "I", Cond.static yX5_alsoIs, Cond.initialized RX5, Cond.code yX5_alsoIs cX5_alsoIs 2 (some .boolean), Cond.methodLink RX5 186 yX4_hasPlace, Cond.instanceMethod yX4_hasPlace, Cond.selects RX4 yX4_hasPlace yX4_hasPlace, Cond.code yX4_hasPlace cX4_hasPlace 3 (some .boolean), Cond.fieldLink RX4 18 "SortingLine$Things" "sizes" "[I", Cond.methodLink RX5 68 yX4_formOf, Cond.instanceMethod yX4_formOf, Cond.selects RX4 yX4_formOf yX4_formOf, Cond.code yX4_formOf cX4_formOf 2 (some .int)]
def wsX5_layInto_r2 : List Cond := [Cond.methodLink RX5 101 yX5_memberKind, Cond.static yX5_memberKind, Cond.code yX5_memberKind cX5_memberKind 1 (some .int), Cond.methodLink RX5 189 yX4_setMember, Cond.instanceMethod yX4_setMember, Cond.selects RX4 yX4_setMember yX4_setMember, Cond.code yX4_setMember cX4_setMember 4 none, Cond.fieldLink RX4 25 "SortingLine$Things" "members" "[I", Cond.methodLink RX4 51 yX4_hasPlace]
def wsX5_layInto : List Cond := .code yX5_layInto cX5_layInto 5 (some .int) :: ((wsX5_layInto_r1 ++ wsX5_layInto_r2) ++ wsX50 ++ wsX40 ++ ([] : List Cond))
def wsX5_lay_r1 : List Cond := [Cond.fieldLink RX5 10 "SortingLine" "things" "LSortingLine$Things;", Cond.methodLink RX5 64 yX4_hold, Cond.instanceMethod yX4_hold, Cond.selects RX4 yX4_hold yX4_hold, Cond.initialized RX4, Cond.code yX4_hold cX4_hold 2 (some .boolean), Cond.fieldLink RX4 28 "SortingLine$Things" "made" "I", Cond.methodLink RX5 56 yX5_refusalOf, Cond.instanceMethod yX5_refusalOf, Cond.selects RX5 yX5_refusalOf yX5_refusalOf, Cond.initialized RX5, Cond.code yX5_refusalOf cX5_refusalOf 5 (some .int), Cond.methodLink RX5 60 yX4_isOf, Cond.instanceMethod yX4_isOf, Cond.selects RX4 yX4_isOf yX4_isOf, Cond.code yX4_isOf cX4_isOf 3 (some .boolean), Cond.fieldLink RX4 9 "SortingLine$Things" "forms" "[I", Cond.methodLink RX4 36 yX4_hold, Cond.static yX5_alsoIs, Cond.code yX5_alsoIs cX5_alsoIs 2 (some .boolean), Cond.methodLink RX5 101 yX5_memberKind, Cond.static yX5_memberKind, Cond.code yX5_memberKind cX5_memberKind 1 (some .int), Cond.methodLink RX5 104 yX5_layInto]
def wsX5_lay_r2 : List Cond := [Cond.instanceMethod yX5_layInto, Cond.selects RX5 yX5_layInto yX5_layInto, Cond.code yX5_layInto cX5_layInto 5 (some .int), Cond.methodLink RX5 186 yX4_hasPlace, Cond.instanceMethod yX4_hasPlace, Cond.selects RX4 yX4_hasPlace yX4_hasPlace, Cond.code yX4_hasPlace cX4_hasPlace 3 (some .boolean), Cond.fieldLink RX4 18 "SortingLine$Things" "sizes" "[I", Cond.methodLink RX5 68 yX4_formOf, Cond.instanceMethod yX4_formOf, Cond.selects RX4 yX4_formOf yX4_formOf, Cond.code yX4_formOf cX4_formOf 2 (some .int), Cond.methodLink RX5 189 yX4_setMember, Cond.instanceMethod yX4_setMember, Cond.selects RX4 yX4_setMember yX4_setMember, Cond.code yX4_setMember cX4_setMember 4 none, Cond.fieldLink RX4 25 "SortingLine$Things" "members" "[I", Cond.methodLink RX4 51 yX4_hasPlace, Cond.methodLink RX5 52 yX5_answerOf, Cond.instanceMethod yX5_answerOf, Cond.selects RX5 yX5_answerOf yX5_answerOf, Cond.code yX5_answerOf cX5_answerOf 2 (some .int), Cond.fieldLink RX5 40 "SortingLine" "tally" "LSortingLine$Tally;", Cond.methodLink RX5 182 yX3_addFinding]
def wsX5_lay_r3 : List Cond := [Cond.instanceMethod yX3_addFinding, Cond.selects RX3 yX3_addFinding yX3_addFinding, Cond.initialized RX3, Cond.code yX3_addFinding cX3_addFinding 2 none, Cond.fieldLink RX3 9 "SortingLine$Tally" "found" "[I"]
def wsX5_lay : List Cond := .code yX5_lay cX5_lay 7 (some .int) :: ((wsX5_lay_r1 ++ (wsX5_lay_r2 ++ wsX5_lay_r3)) ++ wsX50 ++ wsX40 ++ wsX30 ++ ([] : List Cond))
def wsX5_place_r1 : List Cond := [Cond.fieldLink RX5 10 "SortingLine" "things" "LSortingLine$Things;", Cond.methodLink RX5 56 yX5_refusalOf, Cond.instanceMethod yX5_refusalOf, Cond.selects RX5 yX5_refusalOf yX5_refusalOf, Cond.initialized RX5, Cond.code yX5_refusalOf cX5_refusalOf 5 (some .int), Cond.methodLink RX5 64 yX4_hold, Cond.instanceMethod yX4_hold, Cond.selects RX4 yX4_hold yX4_hold, Cond.initialized RX4, Cond.code yX4_hold cX4_hold 2 (some .boolean), Cond.fieldLink RX4 28 "SortingLine$Things" "made" "I", Cond.methodLink RX5 78 yX5_findingAt, Cond.instanceMethod yX5_findingAt, Cond.selects RX5 yX5_findingAt yX5_findingAt, Cond.code yX5_findingAt cX5_findingAt 4 (some .int), Cond.methodLink RX5 60 yX4_isOf, Cond.instanceMethod yX4_isOf, Cond.selects RX4 yX4_isOf yX4_isOf, Cond.code yX4_isOf cX4_isOf 3 (some .boolean), Cond.fieldLink RX4 9 "SortingLine$Things" "forms" "[I", Cond.methodLink RX4 36 yX4_hold, Cond.static yX5_alsoIs, Cond.code yX5_alsoIs cX5_alsoIs 2 (some .boolean)]
def wsX5_place_r2 : List Cond := [Cond.methodLink RX5 186 yX4_hasPlace, Cond.instanceMethod yX4_hasPlace, Cond.selects RX4 yX4_hasPlace yX4_hasPlace, Cond.code yX4_hasPlace cX4_hasPlace 3 (some .boolean), Cond.fieldLink RX4 18 "SortingLine$Things" "sizes" "[I", Cond.methodLink RX5 107 yX4_memberAt, Cond.instanceMethod yX4_memberAt, Cond.selects RX4 yX4_memberAt yX4_memberAt, Cond.code yX4_memberAt cX4_memberAt 3 (some .int), Cond.fieldLink RX4 25 "SortingLine$Things" "members" "[I", Cond.methodLink RX4 51 yX4_hasPlace, Cond.methodLink RX5 52 yX5_answerOf, Cond.instanceMethod yX5_answerOf, Cond.selects RX5 yX5_answerOf yX5_answerOf, Cond.code yX5_answerOf cX5_answerOf 2 (some .int), Cond.fieldLink RX5 40 "SortingLine" "tally" "LSortingLine$Tally;", Cond.methodLink RX5 182 yX3_addFinding, Cond.instanceMethod yX3_addFinding, Cond.selects RX3 yX3_addFinding yX3_addFinding, Cond.initialized RX3, Cond.code yX3_addFinding cX3_addFinding 2 none, Cond.fieldLink RX3 9 "SortingLine$Tally" "found" "[I"]
def wsX5_place : List Cond := .code yX5_place cX5_place 6 (some .int) :: ((wsX5_place_r1 ++ wsX5_place_r2) ++ wsX50 ++ wsX40 ++ wsX30 ++ ([] : List Cond))
def wsX5_station : List Cond := .code yX5_station cX5_station 3 (some .int) :: ([.fieldLink RX5 19 "SortingLine" "stations" "LSortingLine$Stations;", .methodLink RX5 111 yX2_add, .instanceMethod yX2_add, .selects RX2 yX2_add yX2_add, .initialized RX2, .code yX2_add cX2_add 4 (some .int), .fieldLink RX2 25 "SortingLine$Stations" "made" "I", .fieldLink RX2 9 "SortingLine$Stations" "gates" "[I", .fieldLink RX2 15 "SortingLine$Stations" "works" "[I", .fieldLink RX2 18 "SortingLine$Stations" "totals" "[J", .fieldLink RX2 22 "SortingLine$Stations" "slots" "[I"] ++ wsX50 ++ wsX20 ++ ([] : List Cond))
def wsX5_send : List Cond := .code yX5_send cX5_send 2 (some .int) :: ([.fieldLink RX5 10 "SortingLine" "things" "LSortingLine$Things;", .fieldLink RX5 26 "SortingLine" "onBelt" "LSortingLine$Belt;", .methodLink RX5 64 yX4_hold, .instanceMethod yX4_hold, .selects RX4 yX4_hold yX4_hold, .initialized RX4, .code yX4_hold cX4_hold 2 (some .boolean), .fieldLink RX4 28 "SortingLine$Things" "made" "I", .methodLink RX5 113 yX0_append, .instanceMethod yX0_append, .selects RX0 yX0_append yX0_append, .initialized RX0, .code yX0_append cX0_append 2 (some .boolean), .fieldLink RX0 19 "SortingLine$Belt" "size" "I", .fieldLink RX0 9 "SortingLine$Belt" "ring" "[I", .fieldLink RX0 15 "SortingLine$Belt" "first" "I", .methodLink RX5 116 yX0_size, .instanceMethod yX0_size, .selects RX0 yX0_size yX0_size, .code yX0_size cX0_size 1 (some .int)] ++ wsX50 ++ wsX40 ++ wsX00 ++ ([] : List Cond))
def wsX5_stationFor_r1 : List Cond := [Cond.fieldLink RX5 19 "SortingLine" "stations" "LSortingLine$Stations;", Cond.fieldLink RX5 10 "SortingLine" "things" "LSortingLine$Things;", Cond.methodLink RX5 161 yX2_howMany, Cond.instanceMethod yX2_howMany, Cond.selects RX2 yX2_howMany yX2_howMany, Cond.initialized RX2, Cond.code yX2_howMany cX2_howMany 1 (some .int), Cond.fieldLink RX2 25 "SortingLine$Stations" "made" "I", Cond.methodLink RX5 192 yX2_gateOf, Cond.instanceMethod yX2_gateOf, Cond.selects RX2 yX2_gateOf yX2_gateOf, Cond.code yX2_gateOf cX2_gateOf 2 (some .int), Cond.fieldLink RX2 9 "SortingLine$Stations" "gates" "[I", Cond.methodLink RX2 29 yX2_hold, Cond.instanceMethod yX2_hold, Cond.selects RX2 yX2_hold yX2_hold, Cond.code yX2_hold cX2_hold 2 (some .boolean), Cond.methodLink RX5 60 yX4_isOf, Cond.instanceMethod yX4_isOf, Cond.selects RX4 yX4_isOf yX4_isOf, Cond.initialized RX4, Cond.code yX4_isOf cX4_isOf 3 (some .boolean), Cond.fieldLink RX4 9 "SortingLine$Things" "forms" "[I", Cond.methodLink RX4 36 yX4_hold]
def wsX5_stationFor_r2 : List Cond := [Cond.instanceMethod yX4_hold, Cond.selects RX4 yX4_hold yX4_hold, Cond.code yX4_hold cX4_hold 2 (some .boolean), Cond.fieldLink RX4 28 "SortingLine$Things" "made" "I", Cond.static yX5_alsoIs, Cond.initialized RX5, Cond.code yX5_alsoIs cX5_alsoIs 2 (some .boolean)]
def wsX5_stationFor : List Cond := .code yX5_stationFor cX5_stationFor 3 (some .int) :: ((wsX5_stationFor_r1 ++ wsX5_stationFor_r2) ++ wsX50 ++ wsX20 ++ wsX40 ++ ([] : List Cond))
def wsX5_kindForWork : List Cond := .code yX5_kindForWork cX5_kindForWork 1 (some .int) :: ([])
def wsX5_keep : List Cond := .code yX5_keep cX5_keep 3 (some .int) :: ([.fieldLink RX5 19 "SortingLine" "stations" "LSortingLine$Stations;", .methodLink RX5 235 yX2_setSlot, .instanceMethod yX2_setSlot, .selects RX2 yX2_setSlot yX2_setSlot, .initialized RX2, .code yX2_setSlot cX2_setSlot 3 none, .fieldLink RX2 22 "SortingLine$Stations" "slots" "[I", .methodLink RX2 29 yX2_hold, .instanceMethod yX2_hold, .selects RX2 yX2_hold yX2_hold, .code yX2_hold cX2_hold 2 (some .boolean), .fieldLink RX2 25 "SortingLine$Stations" "made" "I"] ++ wsX50 ++ wsX20 ++ ([] : List Cond))
def wsX5_weigh_r1 : List Cond := [Cond.fieldLink RX5 19 "SortingLine" "stations" "LSortingLine$Stations;", Cond.fieldLink RX5 10 "SortingLine" "things" "LSortingLine$Things;", Cond.methodLink RX5 72 yX4_weightOf, Cond.instanceMethod yX4_weightOf, Cond.selects RX4 yX4_weightOf yX4_weightOf, Cond.initialized RX4, Cond.code yX4_weightOf cX4_weightOf 2 (some .int), Cond.fieldLink RX4 15 "SortingLine$Things" "weights" "[I", Cond.methodLink RX4 36 yX4_hold, Cond.instanceMethod yX4_hold, Cond.selects RX4 yX4_hold yX4_hold, Cond.code yX4_hold cX4_hold 2 (some .boolean), Cond.fieldLink RX4 28 "SortingLine$Things" "made" "I", Cond.methodLink RX5 232 yX2_grow, Cond.instanceMethod yX2_grow, Cond.selects RX2 yX2_grow yX2_grow, Cond.initialized RX2, Cond.code yX2_grow cX2_grow 4 none, Cond.fieldLink RX2 18 "SortingLine$Stations" "totals" "[J", Cond.methodLink RX2 29 yX2_hold, Cond.instanceMethod yX2_hold, Cond.selects RX2 yX2_hold yX2_hold, Cond.code yX2_hold cX2_hold 2 (some .boolean), Cond.fieldLink RX2 25 "SortingLine$Stations" "made" "I"]
def wsX5_weigh_r2 : List Cond := [Cond.methodLink RX5 229 yX5_keep, Cond.instanceMethod yX5_keep, Cond.selects RX5 yX5_keep yX5_keep, Cond.initialized RX5, Cond.code yX5_keep cX5_keep 3 (some .int), Cond.methodLink RX5 235 yX2_setSlot, Cond.instanceMethod yX2_setSlot, Cond.selects RX2 yX2_setSlot yX2_setSlot, Cond.code yX2_setSlot cX2_setSlot 3 none, Cond.fieldLink RX2 22 "SortingLine$Stations" "slots" "[I"]
def wsX5_weigh : List Cond := .code yX5_weigh cX5_weigh 3 (some .int) :: ((wsX5_weigh_r1 ++ wsX5_weigh_r2) ++ wsX50 ++ wsX40 ++ wsX20 ++ ([] : List Cond))
def wsX5_grow : List Cond := .code yX5_grow cX5_grow 4 (some .int) :: ([.fieldLink RX5 19 "SortingLine" "stations" "LSortingLine$Stations;", .methodLink RX5 232 yX2_grow, .instanceMethod yX2_grow, .selects RX2 yX2_grow yX2_grow, .initialized RX2, .code yX2_grow cX2_grow 4 none, .fieldLink RX2 18 "SortingLine$Stations" "totals" "[J", .methodLink RX2 29 yX2_hold, .instanceMethod yX2_hold, .selects RX2 yX2_hold yX2_hold, .code yX2_hold cX2_hold 2 (some .boolean), .fieldLink RX2 25 "SortingLine$Stations" "made" "I"] ++ wsX50 ++ wsX20 ++ ([] : List Cond))
def wsX5_addMembers_r1 : List Cond := [Cond.fieldLink RX5 10 "SortingLine" "things" "LSortingLine$Things;", Cond.methodLink RX5 75 yX4_sizeOf, Cond.instanceMethod yX4_sizeOf, Cond.selects RX4 yX4_sizeOf yX4_sizeOf, Cond.initialized RX4, Cond.code yX4_sizeOf cX4_sizeOf 2 (some .int), Cond.fieldLink RX4 18 "SortingLine$Things" "sizes" "[I", Cond.methodLink RX4 36 yX4_hold, Cond.instanceMethod yX4_hold, Cond.selects RX4 yX4_hold yX4_hold, Cond.code yX4_hold cX4_hold 2 (some .boolean), Cond.fieldLink RX4 28 "SortingLine$Things" "made" "I", Cond.methodLink RX5 107 yX4_memberAt, Cond.instanceMethod yX4_memberAt, Cond.selects RX4 yX4_memberAt yX4_memberAt, Cond.code yX4_memberAt cX4_memberAt 3 (some .int), Cond.fieldLink RX4 25 "SortingLine$Things" "members" "[I", Cond.methodLink RX4 51 yX4_hasPlace, Cond.instanceMethod yX4_hasPlace, Cond.selects RX4 yX4_hasPlace yX4_hasPlace, Cond.code yX4_hasPlace cX4_hasPlace 3 (some .boolean), Cond.methodLink RX5 204 yX4_keyOf, Cond.instanceMethod yX4_keyOf, Cond.selects RX4 yX4_keyOf yX4_keyOf]
def wsX5_addMembers_r2 : List Cond := [Cond.code yX4_keyOf cX4_keyOf 2 (some .int), Cond.methodLink RX4 44 yX4_formOf, Cond.instanceMethod yX4_formOf, Cond.selects RX4 yX4_formOf yX4_formOf, Cond.code yX4_formOf cX4_formOf 2 (some .int), Cond.fieldLink RX4 9 "SortingLine$Things" "forms" "[I", Cond.methodLink RX4 48 yX4_weightOf, Cond.instanceMethod yX4_weightOf, Cond.selects RX4 yX4_weightOf yX4_weightOf, Cond.code yX4_weightOf cX4_weightOf 2 (some .int), Cond.fieldLink RX4 15 "SortingLine$Things" "weights" "[I", Cond.methodLink RX5 72 yX4_weightOf, Cond.methodLink RX5 207 yX5_grow, Cond.instanceMethod yX5_grow, Cond.selects RX5 yX5_grow yX5_grow, Cond.initialized RX5, Cond.code yX5_grow cX5_grow 4 (some .int), Cond.fieldLink RX5 19 "SortingLine" "stations" "LSortingLine$Stations;", Cond.methodLink RX5 232 yX2_grow, Cond.instanceMethod yX2_grow, Cond.selects RX2 yX2_grow yX2_grow, Cond.initialized RX2, Cond.code yX2_grow cX2_grow 4 none, Cond.fieldLink RX2 18 "SortingLine$Stations" "totals" "[J"]
def wsX5_addMembers_r3 : List Cond := [Cond.methodLink RX2 29 yX2_hold, Cond.instanceMethod yX2_hold, Cond.selects RX2 yX2_hold yX2_hold, Cond.code yX2_hold cX2_hold 2 (some .boolean), Cond.fieldLink RX2 25 "SortingLine$Stations" "made" "I"]
def wsX5_addMembers : List Cond := .code yX5_addMembers cX5_addMembers 8 (some .int) :: ((wsX5_addMembers_r1 ++ (wsX5_addMembers_r2 ++ wsX5_addMembers_r3)) ++ wsX50 ++ wsX40 ++ wsX20 ++ ([] : List Cond))
def wsX5_pack_r1 : List Cond := [Cond.fieldLink RX5 19 "SortingLine" "stations" "LSortingLine$Stations;", Cond.methodLink RX5 149 yX2_slotOf, Cond.instanceMethod yX2_slotOf, Cond.selects RX2 yX2_slotOf yX2_slotOf, Cond.initialized RX2, Cond.code yX2_slotOf cX2_slotOf 2 (some .int), Cond.fieldLink RX2 22 "SortingLine$Stations" "slots" "[I", Cond.methodLink RX2 29 yX2_hold, Cond.instanceMethod yX2_hold, Cond.selects RX2 yX2_hold yX2_hold, Cond.code yX2_hold cX2_hold 2 (some .boolean), Cond.fieldLink RX2 25 "SortingLine$Stations" "made" "I", Cond.methodLink RX5 104 yX5_layInto, Cond.instanceMethod yX5_layInto, Cond.selects RX5 yX5_layInto yX5_layInto, Cond.initialized RX5, Cond.code yX5_layInto cX5_layInto 5 (some .int), Cond.fieldLink RX5 10 "SortingLine" "things" "LSortingLine$Things;", Cond.methodLink RX5 60 yX4_isOf, Cond.instanceMethod yX4_isOf, Cond.selects RX4 yX4_isOf yX4_isOf, Cond.initialized RX4, Cond.code yX4_isOf cX4_isOf 3 (some .boolean), Cond.fieldLink RX4 9 "SortingLine$Things" "forms" "[I"]
def wsX5_pack_r2 : List Cond := [Cond.methodLink RX4 36 yX4_hold, Cond.instanceMethod yX4_hold, Cond.selects RX4 yX4_hold yX4_hold, Cond.code yX4_hold cX4_hold 2 (some .boolean), Cond.fieldLink RX4 28 "SortingLine$Things" "made" "I", Cond.static yX5_alsoIs, Cond.code yX5_alsoIs cX5_alsoIs 2 (some .boolean), Cond.methodLink RX5 186 yX4_hasPlace, Cond.instanceMethod yX4_hasPlace, Cond.selects RX4 yX4_hasPlace yX4_hasPlace, Cond.code yX4_hasPlace cX4_hasPlace 3 (some .boolean), Cond.fieldLink RX4 18 "SortingLine$Things" "sizes" "[I", Cond.methodLink RX5 68 yX4_formOf, Cond.instanceMethod yX4_formOf, Cond.selects RX4 yX4_formOf yX4_formOf, Cond.code yX4_formOf cX4_formOf 2 (some .int), Cond.methodLink RX5 101 yX5_memberKind, Cond.static yX5_memberKind, Cond.code yX5_memberKind cX5_memberKind 1 (some .int), Cond.methodLink RX5 189 yX4_setMember, Cond.instanceMethod yX4_setMember, Cond.selects RX4 yX4_setMember yX4_setMember, Cond.code yX4_setMember cX4_setMember 4 none, Cond.fieldLink RX4 25 "SortingLine$Things" "members" "[I"]
def wsX5_pack_r3 : List Cond := [Cond.methodLink RX4 51 yX4_hasPlace, Cond.methodLink RX5 235 yX2_setSlot, Cond.instanceMethod yX2_setSlot, Cond.selects RX2 yX2_setSlot yX2_setSlot, Cond.code yX2_setSlot cX2_setSlot 3 none]
def wsX5_pack : List Cond := .code yX5_pack cX5_pack 4 (some .int) :: ((wsX5_pack_r1 ++ (wsX5_pack_r2 ++ wsX5_pack_r3)) ++ wsX50 ++ wsX20 ++ wsX40 ++ ([] : List Cond))
def wsX5_findingAtFirst : List Cond := .code yX5_findingAtFirst cX5_findingAtFirst 2 (some .int) :: ([.fieldLink RX5 10 "SortingLine" "things" "LSortingLine$Things;", .methodLink RX5 186 yX4_hasPlace, .instanceMethod yX4_hasPlace, .selects RX4 yX4_hasPlace yX4_hasPlace, .initialized RX4, .code yX4_hasPlace cX4_hasPlace 3 (some .boolean), .fieldLink RX4 28 "SortingLine$Things" "made" "I", .fieldLink RX4 18 "SortingLine$Things" "sizes" "[I", .methodLink RX5 107 yX4_memberAt, .instanceMethod yX4_memberAt, .selects RX4 yX4_memberAt yX4_memberAt, .code yX4_memberAt cX4_memberAt 3 (some .int), .fieldLink RX4 25 "SortingLine$Things" "members" "[I", .methodLink RX4 51 yX4_hasPlace] ++ wsX50 ++ wsX40 ++ ([] : List Cond))
def wsX5_addCorner_r1 : List Cond := [Cond.fieldLink RX5 10 "SortingLine" "things" "LSortingLine$Things;", Cond.methodLink RX5 239 yX5_findingAtFirst, Cond.instanceMethod yX5_findingAtFirst, Cond.selects RX5 yX5_findingAtFirst yX5_findingAtFirst, Cond.initialized RX5, Cond.code yX5_findingAtFirst cX5_findingAtFirst 2 (some .int), Cond.methodLink RX5 186 yX4_hasPlace, Cond.instanceMethod yX4_hasPlace, Cond.selects RX4 yX4_hasPlace yX4_hasPlace, Cond.initialized RX4, Cond.code yX4_hasPlace cX4_hasPlace 3 (some .boolean), Cond.fieldLink RX4 28 "SortingLine$Things" "made" "I", Cond.fieldLink RX4 18 "SortingLine$Things" "sizes" "[I", Cond.methodLink RX5 107 yX4_memberAt, Cond.instanceMethod yX4_memberAt, Cond.selects RX4 yX4_memberAt yX4_memberAt, Cond.code yX4_memberAt cX4_memberAt 3 (some .int), Cond.fieldLink RX4 25 "SortingLine$Things" "members" "[I", Cond.methodLink RX4 51 yX4_hasPlace, Cond.methodLink RX5 72 yX4_weightOf, Cond.instanceMethod yX4_weightOf, Cond.selects RX4 yX4_weightOf yX4_weightOf, Cond.code yX4_weightOf cX4_weightOf 2 (some .int), Cond.fieldLink RX4 15 "SortingLine$Things" "weights" "[I"]
def wsX5_addCorner_r2 : List Cond := [Cond.methodLink RX4 36 yX4_hold, Cond.instanceMethod yX4_hold, Cond.selects RX4 yX4_hold yX4_hold, Cond.code yX4_hold cX4_hold 2 (some .boolean), Cond.methodLink RX5 207 yX5_grow, Cond.instanceMethod yX5_grow, Cond.selects RX5 yX5_grow yX5_grow, Cond.code yX5_grow cX5_grow 4 (some .int), Cond.fieldLink RX5 19 "SortingLine" "stations" "LSortingLine$Stations;", Cond.methodLink RX5 232 yX2_grow, Cond.instanceMethod yX2_grow, Cond.selects RX2 yX2_grow yX2_grow, Cond.initialized RX2, Cond.code yX2_grow cX2_grow 4 none, Cond.fieldLink RX2 18 "SortingLine$Stations" "totals" "[J", Cond.methodLink RX2 29 yX2_hold, Cond.instanceMethod yX2_hold, Cond.selects RX2 yX2_hold yX2_hold, Cond.code yX2_hold cX2_hold 2 (some .boolean), Cond.fieldLink RX2 25 "SortingLine$Stations" "made" "I"]
def wsX5_addCorner : List Cond := .code yX5_addCorner cX5_addCorner 7 (some .int) :: ((wsX5_addCorner_r1 ++ wsX5_addCorner_r2) ++ wsX50 ++ wsX40 ++ wsX20 ++ ([] : List Cond))
def wsX5_addCell_r1 : List Cond := [Cond.fieldLink RX5 10 "SortingLine" "things" "LSortingLine$Things;", Cond.methodLink RX5 239 yX5_findingAtFirst, Cond.instanceMethod yX5_findingAtFirst, Cond.selects RX5 yX5_findingAtFirst yX5_findingAtFirst, Cond.initialized RX5, Cond.code yX5_findingAtFirst cX5_findingAtFirst 2 (some .int), Cond.methodLink RX5 186 yX4_hasPlace, Cond.instanceMethod yX4_hasPlace, Cond.selects RX4 yX4_hasPlace yX4_hasPlace, Cond.initialized RX4, Cond.code yX4_hasPlace cX4_hasPlace 3 (some .boolean), Cond.fieldLink RX4 28 "SortingLine$Things" "made" "I", Cond.fieldLink RX4 18 "SortingLine$Things" "sizes" "[I", Cond.methodLink RX5 107 yX4_memberAt, Cond.instanceMethod yX4_memberAt, Cond.selects RX4 yX4_memberAt yX4_memberAt, Cond.code yX4_memberAt cX4_memberAt 3 (some .int), Cond.fieldLink RX4 25 "SortingLine$Things" "members" "[I", Cond.methodLink RX4 51 yX4_hasPlace, Cond.methodLink RX5 97 yX4_numberAt, Cond.instanceMethod yX4_numberAt, Cond.selects RX4 yX4_numberAt yX4_numberAt, Cond.code yX4_numberAt cX4_numberAt 3 (some .long), Cond.fieldLink RX4 21 "SortingLine$Things" "numbers" "[J"]
def wsX5_addCell_r2 : List Cond := [Cond.methodLink RX5 207 yX5_grow, Cond.instanceMethod yX5_grow, Cond.selects RX5 yX5_grow yX5_grow, Cond.code yX5_grow cX5_grow 4 (some .int), Cond.fieldLink RX5 19 "SortingLine" "stations" "LSortingLine$Stations;", Cond.methodLink RX5 232 yX2_grow, Cond.instanceMethod yX2_grow, Cond.selects RX2 yX2_grow yX2_grow, Cond.initialized RX2, Cond.code yX2_grow cX2_grow 4 none, Cond.fieldLink RX2 18 "SortingLine$Stations" "totals" "[J", Cond.methodLink RX2 29 yX2_hold, Cond.instanceMethod yX2_hold, Cond.selects RX2 yX2_hold yX2_hold, Cond.code yX2_hold cX2_hold 2 (some .boolean), Cond.fieldLink RX2 25 "SortingLine$Stations" "made" "I"]
def wsX5_addCell : List Cond := .code yX5_addCell cX5_addCell 5 (some .int) :: ((wsX5_addCell_r1 ++ wsX5_addCell_r2) ++ wsX50 ++ wsX40 ++ wsX20 ++ ([] : List Cond))
def wsX5_spill_r1 : List Cond := [Cond.fieldLink RX5 10 "SortingLine" "things" "LSortingLine$Things;", Cond.fieldLink RX5 26 "SortingLine" "onBelt" "LSortingLine$Belt;", Cond.methodLink RX5 75 yX4_sizeOf, Cond.instanceMethod yX4_sizeOf, Cond.selects RX4 yX4_sizeOf yX4_sizeOf, Cond.initialized RX4, Cond.code yX4_sizeOf cX4_sizeOf 2 (some .int), Cond.fieldLink RX4 18 "SortingLine$Things" "sizes" "[I", Cond.methodLink RX4 36 yX4_hold, Cond.instanceMethod yX4_hold, Cond.selects RX4 yX4_hold yX4_hold, Cond.code yX4_hold cX4_hold 2 (some .boolean), Cond.fieldLink RX4 28 "SortingLine$Things" "made" "I", Cond.methodLink RX5 107 yX4_memberAt, Cond.instanceMethod yX4_memberAt, Cond.selects RX4 yX4_memberAt yX4_memberAt, Cond.code yX4_memberAt cX4_memberAt 3 (some .int), Cond.fieldLink RX4 25 "SortingLine$Things" "members" "[I", Cond.methodLink RX4 51 yX4_hasPlace, Cond.instanceMethod yX4_hasPlace, Cond.selects RX4 yX4_hasPlace yX4_hasPlace, Cond.code yX4_hasPlace cX4_hasPlace 3 (some .boolean), Cond.methodLink RX5 113 yX0_append, Cond.instanceMethod yX0_append]
def wsX5_spill_r2 : List Cond := [Cond.selects RX0 yX0_append yX0_append, Cond.initialized RX0, Cond.code yX0_append cX0_append 2 (some .boolean), Cond.fieldLink RX0 19 "SortingLine$Belt" "size" "I", Cond.fieldLink RX0 9 "SortingLine$Belt" "ring" "[I", Cond.fieldLink RX0 15 "SortingLine$Belt" "first" "I", Cond.methodLink RX5 189 yX4_setMember, Cond.instanceMethod yX4_setMember, Cond.selects RX4 yX4_setMember yX4_setMember, Cond.code yX4_setMember cX4_setMember 4 none]
def wsX5_spill : List Cond := .code yX5_spill cX5_spill 4 (some .int) :: ((wsX5_spill_r1 ++ wsX5_spill_r2) ++ wsX50 ++ wsX40 ++ wsX00 ++ ([] : List Cond))
def wsX5_workOn_r1 : List Cond := [Cond.fieldLink RX5 19 "SortingLine" "stations" "LSortingLine$Stations;", Cond.fieldLink RX5 10 "SortingLine" "things" "LSortingLine$Things;", Cond.methodLink RX5 195 yX2_workOf, Cond.instanceMethod yX2_workOf, Cond.selects RX2 yX2_workOf yX2_workOf, Cond.initialized RX2, Cond.code yX2_workOf cX2_workOf 2 (some .int), Cond.fieldLink RX2 15 "SortingLine$Stations" "works" "[I", Cond.methodLink RX2 29 yX2_hold, Cond.instanceMethod yX2_hold, Cond.selects RX2 yX2_hold yX2_hold, Cond.code yX2_hold cX2_hold 2 (some .boolean), Cond.fieldLink RX2 25 "SortingLine$Stations" "made" "I", Cond.methodLink RX5 198 yX5_kindForWork, Cond.static yX5_kindForWork, Cond.initialized RX5, Cond.code yX5_kindForWork cX5_kindForWork 1 (some .int), Cond.methodLink RX5 60 yX4_isOf, Cond.instanceMethod yX4_isOf, Cond.selects RX4 yX4_isOf yX4_isOf, Cond.initialized RX4, Cond.code yX4_isOf cX4_isOf 3 (some .boolean), Cond.fieldLink RX4 9 "SortingLine$Things" "forms" "[I", Cond.methodLink RX4 36 yX4_hold]
def wsX5_workOn_r2 : List Cond := [Cond.instanceMethod yX4_hold, Cond.selects RX4 yX4_hold yX4_hold, Cond.code yX4_hold cX4_hold 2 (some .boolean), Cond.fieldLink RX4 28 "SortingLine$Things" "made" "I", Cond.static yX5_alsoIs, Cond.code yX5_alsoIs cX5_alsoIs 2 (some .boolean), Cond.methodLink RX5 201 yX5_weigh, Cond.instanceMethod yX5_weigh, Cond.selects RX5 yX5_weigh yX5_weigh, Cond.code yX5_weigh cX5_weigh 3 (some .int), Cond.methodLink RX5 72 yX4_weightOf, Cond.instanceMethod yX4_weightOf, Cond.selects RX4 yX4_weightOf yX4_weightOf, Cond.code yX4_weightOf cX4_weightOf 2 (some .int), Cond.fieldLink RX4 15 "SortingLine$Things" "weights" "[I", Cond.methodLink RX5 232 yX2_grow, Cond.instanceMethod yX2_grow, Cond.selects RX2 yX2_grow yX2_grow, Cond.code yX2_grow cX2_grow 4 none, Cond.fieldLink RX2 18 "SortingLine$Stations" "totals" "[J", Cond.methodLink RX5 229 yX5_keep, Cond.instanceMethod yX5_keep, Cond.selects RX5 yX5_keep yX5_keep, Cond.code yX5_keep cX5_keep 3 (some .int)]
def wsX5_workOn_r3 : List Cond := [Cond.methodLink RX5 235 yX2_setSlot, Cond.instanceMethod yX2_setSlot, Cond.selects RX2 yX2_setSlot yX2_setSlot, Cond.code yX2_setSlot cX2_setSlot 3 none, Cond.fieldLink RX2 22 "SortingLine$Stations" "slots" "[I", Cond.methodLink RX5 204 yX4_keyOf, Cond.instanceMethod yX4_keyOf, Cond.selects RX4 yX4_keyOf yX4_keyOf, Cond.code yX4_keyOf cX4_keyOf 2 (some .int), Cond.methodLink RX4 44 yX4_formOf, Cond.instanceMethod yX4_formOf, Cond.selects RX4 yX4_formOf yX4_formOf, Cond.code yX4_formOf cX4_formOf 2 (some .int), Cond.methodLink RX4 48 yX4_weightOf, Cond.methodLink RX5 207 yX5_grow, Cond.instanceMethod yX5_grow, Cond.selects RX5 yX5_grow yX5_grow, Cond.code yX5_grow cX5_grow 4 (some .int), Cond.methodLink RX5 211 yX4_sumOfNumbers, Cond.instanceMethod yX4_sumOfNumbers, Cond.selects RX4 yX4_sumOfNumbers yX4_sumOfNumbers, Cond.code yX4_sumOfNumbers cX4_sumOfNumbers 5 (some .long), Cond.methodLink RX4 54 yX4_sizeOf, Cond.instanceMethod yX4_sizeOf]
def wsX5_workOn_r4 : List Cond := [Cond.selects RX4 yX4_sizeOf yX4_sizeOf, Cond.code yX4_sizeOf cX4_sizeOf 2 (some .int), Cond.fieldLink RX4 18 "SortingLine$Things" "sizes" "[I", Cond.methodLink RX4 57 yX4_numberAt, Cond.instanceMethod yX4_numberAt, Cond.selects RX4 yX4_numberAt yX4_numberAt, Cond.code yX4_numberAt cX4_numberAt 3 (some .long), Cond.fieldLink RX4 21 "SortingLine$Things" "numbers" "[J", Cond.methodLink RX4 51 yX4_hasPlace, Cond.instanceMethod yX4_hasPlace, Cond.selects RX4 yX4_hasPlace yX4_hasPlace, Cond.code yX4_hasPlace cX4_hasPlace 3 (some .boolean), Cond.methodLink RX5 214 yX5_addMembers, Cond.instanceMethod yX5_addMembers, Cond.selects RX5 yX5_addMembers yX5_addMembers, Cond.code yX5_addMembers cX5_addMembers 8 (some .int), Cond.methodLink RX5 75 yX4_sizeOf, Cond.methodLink RX5 107 yX4_memberAt, Cond.instanceMethod yX4_memberAt, Cond.selects RX4 yX4_memberAt yX4_memberAt, Cond.code yX4_memberAt cX4_memberAt 3 (some .int), Cond.fieldLink RX4 25 "SortingLine$Things" "members" "[I", Cond.methodLink RX5 217 yX5_pack, Cond.instanceMethod yX5_pack]
def wsX5_workOn_r5 : List Cond := [Cond.selects RX5 yX5_pack yX5_pack, Cond.code yX5_pack cX5_pack 4 (some .int), Cond.methodLink RX5 149 yX2_slotOf, Cond.instanceMethod yX2_slotOf, Cond.selects RX2 yX2_slotOf yX2_slotOf, Cond.code yX2_slotOf cX2_slotOf 2 (some .int), Cond.methodLink RX5 104 yX5_layInto, Cond.instanceMethod yX5_layInto, Cond.selects RX5 yX5_layInto yX5_layInto, Cond.code yX5_layInto cX5_layInto 5 (some .int), Cond.methodLink RX5 186 yX4_hasPlace, Cond.methodLink RX5 68 yX4_formOf, Cond.methodLink RX5 101 yX5_memberKind, Cond.static yX5_memberKind, Cond.code yX5_memberKind cX5_memberKind 1 (some .int), Cond.methodLink RX5 189 yX4_setMember, Cond.instanceMethod yX4_setMember, Cond.selects RX4 yX4_setMember yX4_setMember, Cond.code yX4_setMember cX4_setMember 4 none, Cond.methodLink RX5 220 yX5_addCorner, Cond.instanceMethod yX5_addCorner, Cond.selects RX5 yX5_addCorner yX5_addCorner, Cond.code yX5_addCorner cX5_addCorner 7 (some .int), Cond.methodLink RX5 239 yX5_findingAtFirst]
def wsX5_workOn_r6 : List Cond := [Cond.instanceMethod yX5_findingAtFirst, Cond.selects RX5 yX5_findingAtFirst yX5_findingAtFirst, Cond.code yX5_findingAtFirst cX5_findingAtFirst 2 (some .int), Cond.methodLink RX5 223 yX5_addCell, Cond.instanceMethod yX5_addCell, Cond.selects RX5 yX5_addCell yX5_addCell, Cond.code yX5_addCell cX5_addCell 5 (some .int), Cond.methodLink RX5 97 yX4_numberAt, Cond.methodLink RX5 226 yX5_spill, Cond.instanceMethod yX5_spill, Cond.selects RX5 yX5_spill yX5_spill, Cond.code yX5_spill cX5_spill 4 (some .int), Cond.fieldLink RX5 26 "SortingLine" "onBelt" "LSortingLine$Belt;", Cond.methodLink RX5 113 yX0_append, Cond.instanceMethod yX0_append, Cond.selects RX0 yX0_append yX0_append, Cond.initialized RX0, Cond.code yX0_append cX0_append 2 (some .boolean), Cond.fieldLink RX0 19 "SortingLine$Belt" "size" "I", Cond.fieldLink RX0 9 "SortingLine$Belt" "ring" "[I", Cond.fieldLink RX0 15 "SortingLine$Belt" "first" "I"]
def wsX5_workOn : List Cond := .code yX5_workOn cX5_workOn 4 (some .int) :: ((wsX5_workOn_r1 ++ (wsX5_workOn_r2 ++ (wsX5_workOn_r3 ++ (wsX5_workOn_r4 ++ (wsX5_workOn_r5 ++ wsX5_workOn_r6))))) ++ wsX50 ++ wsX20 ++ wsX40 ++ wsX00 ++ ([] : List Cond))
def wsX5_step_r1 : List Cond := [Cond.fieldLink RX5 26 "SortingLine" "onBelt" "LSortingLine$Belt;", Cond.fieldLink RX5 40 "SortingLine" "tally" "LSortingLine$Tally;", Cond.fieldLink RX5 33 "SortingLine" "aside" "LSortingLine$Side;", Cond.methodLink RX5 116 yX0_size, Cond.instanceMethod yX0_size, Cond.selects RX0 yX0_size yX0_size, Cond.initialized RX0, Cond.code yX0_size cX0_size 1 (some .int), Cond.fieldLink RX0 19 "SortingLine$Belt" "size" "I", Cond.methodLink RX5 120 yX0_takeFirst, Cond.instanceMethod yX0_takeFirst, Cond.selects RX0 yX0_takeFirst yX0_takeFirst, Cond.code yX0_takeFirst cX0_takeFirst 2 (some .int), Cond.fieldLink RX0 9 "SortingLine$Belt" "ring" "[I", Cond.fieldLink RX0 15 "SortingLine$Belt" "first" "I", Cond.methodLink RX5 123 yX5_stationFor, Cond.instanceMethod yX5_stationFor, Cond.selects RX5 yX5_stationFor yX5_stationFor, Cond.initialized RX5, Cond.code yX5_stationFor cX5_stationFor 3 (some .int), Cond.fieldLink RX5 19 "SortingLine" "stations" "LSortingLine$Stations;", Cond.fieldLink RX5 10 "SortingLine" "things" "LSortingLine$Things;", Cond.methodLink RX5 161 yX2_howMany, Cond.instanceMethod yX2_howMany]
def wsX5_step_r2 : List Cond := [Cond.selects RX2 yX2_howMany yX2_howMany, Cond.initialized RX2, Cond.code yX2_howMany cX2_howMany 1 (some .int), Cond.fieldLink RX2 25 "SortingLine$Stations" "made" "I", Cond.methodLink RX5 192 yX2_gateOf, Cond.instanceMethod yX2_gateOf, Cond.selects RX2 yX2_gateOf yX2_gateOf, Cond.code yX2_gateOf cX2_gateOf 2 (some .int), Cond.fieldLink RX2 9 "SortingLine$Stations" "gates" "[I", Cond.methodLink RX2 29 yX2_hold, Cond.instanceMethod yX2_hold, Cond.selects RX2 yX2_hold yX2_hold, Cond.code yX2_hold cX2_hold 2 (some .boolean), Cond.methodLink RX5 60 yX4_isOf, Cond.instanceMethod yX4_isOf, Cond.selects RX4 yX4_isOf yX4_isOf, Cond.initialized RX4, Cond.code yX4_isOf cX4_isOf 3 (some .boolean), Cond.fieldLink RX4 9 "SortingLine$Things" "forms" "[I", Cond.methodLink RX4 36 yX4_hold, Cond.instanceMethod yX4_hold, Cond.selects RX4 yX4_hold yX4_hold, Cond.code yX4_hold cX4_hold 2 (some .boolean), Cond.fieldLink RX4 28 "SortingLine$Things" "made" "I"]
def wsX5_step_r3 : List Cond := [Cond.static yX5_alsoIs, Cond.code yX5_alsoIs cX5_alsoIs 2 (some .boolean), Cond.methodLink RX5 126 yX3_addPassed, Cond.instanceMethod yX3_addPassed, Cond.selects RX3 yX3_addPassed yX3_addPassed, Cond.initialized RX3, Cond.code yX3_addPassed cX3_addPassed 1 none, Cond.fieldLink RX3 19 "SortingLine$Tally" "passed" "I", Cond.methodLink RX5 129 yX5_workOn, Cond.instanceMethod yX5_workOn, Cond.selects RX5 yX5_workOn yX5_workOn, Cond.code yX5_workOn cX5_workOn 4 (some .int), Cond.methodLink RX5 195 yX2_workOf, Cond.instanceMethod yX2_workOf, Cond.selects RX2 yX2_workOf yX2_workOf, Cond.code yX2_workOf cX2_workOf 2 (some .int), Cond.fieldLink RX2 15 "SortingLine$Stations" "works" "[I", Cond.methodLink RX5 198 yX5_kindForWork, Cond.static yX5_kindForWork, Cond.code yX5_kindForWork cX5_kindForWork 1 (some .int), Cond.methodLink RX5 201 yX5_weigh, Cond.instanceMethod yX5_weigh, Cond.selects RX5 yX5_weigh yX5_weigh, Cond.code yX5_weigh cX5_weigh 3 (some .int)]
def wsX5_step_r4 : List Cond := [Cond.methodLink RX5 72 yX4_weightOf, Cond.instanceMethod yX4_weightOf, Cond.selects RX4 yX4_weightOf yX4_weightOf, Cond.code yX4_weightOf cX4_weightOf 2 (some .int), Cond.fieldLink RX4 15 "SortingLine$Things" "weights" "[I", Cond.methodLink RX5 232 yX2_grow, Cond.instanceMethod yX2_grow, Cond.selects RX2 yX2_grow yX2_grow, Cond.code yX2_grow cX2_grow 4 none, Cond.fieldLink RX2 18 "SortingLine$Stations" "totals" "[J", Cond.methodLink RX5 229 yX5_keep, Cond.instanceMethod yX5_keep, Cond.selects RX5 yX5_keep yX5_keep, Cond.code yX5_keep cX5_keep 3 (some .int), Cond.methodLink RX5 235 yX2_setSlot, Cond.instanceMethod yX2_setSlot, Cond.selects RX2 yX2_setSlot yX2_setSlot, Cond.code yX2_setSlot cX2_setSlot 3 none, Cond.fieldLink RX2 22 "SortingLine$Stations" "slots" "[I", Cond.methodLink RX5 204 yX4_keyOf, Cond.instanceMethod yX4_keyOf, Cond.selects RX4 yX4_keyOf yX4_keyOf, Cond.code yX4_keyOf cX4_keyOf 2 (some .int), Cond.methodLink RX4 44 yX4_formOf]
def wsX5_step_r5 : List Cond := [Cond.instanceMethod yX4_formOf, Cond.selects RX4 yX4_formOf yX4_formOf, Cond.code yX4_formOf cX4_formOf 2 (some .int), Cond.methodLink RX4 48 yX4_weightOf, Cond.methodLink RX5 207 yX5_grow, Cond.instanceMethod yX5_grow, Cond.selects RX5 yX5_grow yX5_grow, Cond.code yX5_grow cX5_grow 4 (some .int), Cond.methodLink RX5 211 yX4_sumOfNumbers, Cond.instanceMethod yX4_sumOfNumbers, Cond.selects RX4 yX4_sumOfNumbers yX4_sumOfNumbers, Cond.code yX4_sumOfNumbers cX4_sumOfNumbers 5 (some .long), Cond.methodLink RX4 54 yX4_sizeOf, Cond.instanceMethod yX4_sizeOf, Cond.selects RX4 yX4_sizeOf yX4_sizeOf, Cond.code yX4_sizeOf cX4_sizeOf 2 (some .int), Cond.fieldLink RX4 18 "SortingLine$Things" "sizes" "[I", Cond.methodLink RX4 57 yX4_numberAt, Cond.instanceMethod yX4_numberAt, Cond.selects RX4 yX4_numberAt yX4_numberAt, Cond.code yX4_numberAt cX4_numberAt 3 (some .long), Cond.fieldLink RX4 21 "SortingLine$Things" "numbers" "[J", Cond.methodLink RX4 51 yX4_hasPlace, Cond.instanceMethod yX4_hasPlace]
def wsX5_step_r6 : List Cond := [Cond.selects RX4 yX4_hasPlace yX4_hasPlace, Cond.code yX4_hasPlace cX4_hasPlace 3 (some .boolean), Cond.methodLink RX5 214 yX5_addMembers, Cond.instanceMethod yX5_addMembers, Cond.selects RX5 yX5_addMembers yX5_addMembers, Cond.code yX5_addMembers cX5_addMembers 8 (some .int), Cond.methodLink RX5 75 yX4_sizeOf, Cond.methodLink RX5 107 yX4_memberAt, Cond.instanceMethod yX4_memberAt, Cond.selects RX4 yX4_memberAt yX4_memberAt, Cond.code yX4_memberAt cX4_memberAt 3 (some .int), Cond.fieldLink RX4 25 "SortingLine$Things" "members" "[I", Cond.methodLink RX5 217 yX5_pack, Cond.instanceMethod yX5_pack, Cond.selects RX5 yX5_pack yX5_pack, Cond.code yX5_pack cX5_pack 4 (some .int), Cond.methodLink RX5 149 yX2_slotOf, Cond.instanceMethod yX2_slotOf, Cond.selects RX2 yX2_slotOf yX2_slotOf, Cond.code yX2_slotOf cX2_slotOf 2 (some .int), Cond.methodLink RX5 104 yX5_layInto, Cond.instanceMethod yX5_layInto, Cond.selects RX5 yX5_layInto yX5_layInto, Cond.code yX5_layInto cX5_layInto 5 (some .int)]
def wsX5_step_r7 : List Cond := [Cond.methodLink RX5 186 yX4_hasPlace, Cond.methodLink RX5 68 yX4_formOf, Cond.methodLink RX5 101 yX5_memberKind, Cond.static yX5_memberKind, Cond.code yX5_memberKind cX5_memberKind 1 (some .int), Cond.methodLink RX5 189 yX4_setMember, Cond.instanceMethod yX4_setMember, Cond.selects RX4 yX4_setMember yX4_setMember, Cond.code yX4_setMember cX4_setMember 4 none, Cond.methodLink RX5 220 yX5_addCorner, Cond.instanceMethod yX5_addCorner, Cond.selects RX5 yX5_addCorner yX5_addCorner, Cond.code yX5_addCorner cX5_addCorner 7 (some .int), Cond.methodLink RX5 239 yX5_findingAtFirst, Cond.instanceMethod yX5_findingAtFirst, Cond.selects RX5 yX5_findingAtFirst yX5_findingAtFirst, Cond.code yX5_findingAtFirst cX5_findingAtFirst 2 (some .int), Cond.methodLink RX5 223 yX5_addCell, Cond.instanceMethod yX5_addCell, Cond.selects RX5 yX5_addCell yX5_addCell, Cond.code yX5_addCell cX5_addCell 5 (some .int), Cond.methodLink RX5 97 yX4_numberAt, Cond.methodLink RX5 226 yX5_spill, Cond.instanceMethod yX5_spill]
def wsX5_step_r8 : List Cond := [Cond.selects RX5 yX5_spill yX5_spill, Cond.code yX5_spill cX5_spill 4 (some .int), Cond.methodLink RX5 113 yX0_append, Cond.instanceMethod yX0_append, Cond.selects RX0 yX0_append yX0_append, Cond.code yX0_append cX0_append 2 (some .boolean), Cond.methodLink RX5 132 yX1_add, Cond.instanceMethod yX1_add, Cond.selects RX1 yX1_add yX1_add, Cond.initialized RX1, Cond.code yX1_add cX1_add 4 none, Cond.fieldLink RX1 9 "SortingLine$Side" "ofThings" "[I", Cond.fieldLink RX1 21 "SortingLine$Side" "next" "I", Cond.fieldLink RX1 15 "SortingLine$Side" "ofStations" "[I", Cond.fieldLink RX1 18 "SortingLine$Side" "ofFindings" "[I", Cond.fieldLink RX1 25 "SortingLine$Side" "size" "I", Cond.methodLink RX1 28 Lib.Math.min.name, Cond.static Lib.Math.min.name, Cond.initialized "java/lang/Math", Cond.code Lib.Math.min.name Lib.Math.min.code 2 (some .int), Cond.methodLink RX5 135 yX3_addFailed, Cond.instanceMethod yX3_addFailed, Cond.selects RX3 yX3_addFailed yX3_addFailed, Cond.code yX3_addFailed cX3_addFailed 1 none]
def wsX5_step_r9 : List Cond := [Cond.fieldLink RX3 22 "SortingLine$Tally" "failed" "I", Cond.methodLink RX5 52 yX5_answerOf, Cond.instanceMethod yX5_answerOf, Cond.selects RX5 yX5_answerOf yX5_answerOf, Cond.code yX5_answerOf cX5_answerOf 2 (some .int), Cond.methodLink RX5 182 yX3_addFinding, Cond.instanceMethod yX3_addFinding, Cond.selects RX3 yX3_addFinding yX3_addFinding, Cond.code yX3_addFinding cX3_addFinding 2 none, Cond.fieldLink RX3 9 "SortingLine$Tally" "found" "[I", Cond.methodLink RX5 138 yX3_addWorked, Cond.instanceMethod yX3_addWorked, Cond.selects RX3 yX3_addWorked yX3_addWorked, Cond.code yX3_addWorked cX3_addWorked 1 none, Cond.fieldLink RX3 15 "SortingLine$Tally" "worked" "I"]
def wsX5_step : List Cond := .code yX5_step cX5_step 4 (some .int) :: ((wsX5_step_r1 ++ (wsX5_step_r2 ++ (wsX5_step_r3 ++ (wsX5_step_r4 ++ (wsX5_step_r5 ++ (wsX5_step_r6 ++ (wsX5_step_r7 ++ (wsX5_step_r8 ++ wsX5_step_r9)))))))) ++ wsX50 ++ wsX00 ++ wsX20 ++ wsX40 ++ wsX30 ++ wsX10 ++ ([] : List Cond))
def wsX5_run_r1 : List Cond := [Cond.fieldLink RX5 26 "SortingLine" "onBelt" "LSortingLine$Belt;", Cond.methodLink RX5 116 yX0_size, Cond.instanceMethod yX0_size, Cond.selects RX0 yX0_size yX0_size, Cond.initialized RX0, Cond.code yX0_size cX0_size 1 (some .int), Cond.fieldLink RX0 19 "SortingLine$Belt" "size" "I", Cond.methodLink RX5 141 yX5_step, Cond.instanceMethod yX5_step, Cond.selects RX5 yX5_step yX5_step, Cond.initialized RX5, Cond.code yX5_step cX5_step 4 (some .int), Cond.fieldLink RX5 40 "SortingLine" "tally" "LSortingLine$Tally;", Cond.fieldLink RX5 33 "SortingLine" "aside" "LSortingLine$Side;", Cond.methodLink RX5 120 yX0_takeFirst, Cond.instanceMethod yX0_takeFirst, Cond.selects RX0 yX0_takeFirst yX0_takeFirst, Cond.code yX0_takeFirst cX0_takeFirst 2 (some .int), Cond.fieldLink RX0 9 "SortingLine$Belt" "ring" "[I", Cond.fieldLink RX0 15 "SortingLine$Belt" "first" "I", Cond.methodLink RX5 123 yX5_stationFor, Cond.instanceMethod yX5_stationFor, Cond.selects RX5 yX5_stationFor yX5_stationFor, Cond.code yX5_stationFor cX5_stationFor 3 (some .int)]
def wsX5_run_r2 : List Cond := [Cond.fieldLink RX5 19 "SortingLine" "stations" "LSortingLine$Stations;", Cond.fieldLink RX5 10 "SortingLine" "things" "LSortingLine$Things;", Cond.methodLink RX5 161 yX2_howMany, Cond.instanceMethod yX2_howMany, Cond.selects RX2 yX2_howMany yX2_howMany, Cond.initialized RX2, Cond.code yX2_howMany cX2_howMany 1 (some .int), Cond.fieldLink RX2 25 "SortingLine$Stations" "made" "I", Cond.methodLink RX5 192 yX2_gateOf, Cond.instanceMethod yX2_gateOf, Cond.selects RX2 yX2_gateOf yX2_gateOf, Cond.code yX2_gateOf cX2_gateOf 2 (some .int), Cond.fieldLink RX2 9 "SortingLine$Stations" "gates" "[I", Cond.methodLink RX2 29 yX2_hold, Cond.instanceMethod yX2_hold, Cond.selects RX2 yX2_hold yX2_hold, Cond.code yX2_hold cX2_hold 2 (some .boolean), Cond.methodLink RX5 60 yX4_isOf, Cond.instanceMethod yX4_isOf, Cond.selects RX4 yX4_isOf yX4_isOf, Cond.initialized RX4, Cond.code yX4_isOf cX4_isOf 3 (some .boolean), Cond.fieldLink RX4 9 "SortingLine$Things" "forms" "[I", Cond.methodLink RX4 36 yX4_hold]
def wsX5_run_r3 : List Cond := [Cond.instanceMethod yX4_hold, Cond.selects RX4 yX4_hold yX4_hold, Cond.code yX4_hold cX4_hold 2 (some .boolean), Cond.fieldLink RX4 28 "SortingLine$Things" "made" "I", Cond.static yX5_alsoIs, Cond.code yX5_alsoIs cX5_alsoIs 2 (some .boolean), Cond.methodLink RX5 126 yX3_addPassed, Cond.instanceMethod yX3_addPassed, Cond.selects RX3 yX3_addPassed yX3_addPassed, Cond.initialized RX3, Cond.code yX3_addPassed cX3_addPassed 1 none, Cond.fieldLink RX3 19 "SortingLine$Tally" "passed" "I", Cond.methodLink RX5 129 yX5_workOn, Cond.instanceMethod yX5_workOn, Cond.selects RX5 yX5_workOn yX5_workOn, Cond.code yX5_workOn cX5_workOn 4 (some .int), Cond.methodLink RX5 195 yX2_workOf, Cond.instanceMethod yX2_workOf, Cond.selects RX2 yX2_workOf yX2_workOf, Cond.code yX2_workOf cX2_workOf 2 (some .int), Cond.fieldLink RX2 15 "SortingLine$Stations" "works" "[I", Cond.methodLink RX5 198 yX5_kindForWork, Cond.static yX5_kindForWork, Cond.code yX5_kindForWork cX5_kindForWork 1 (some .int)]
def wsX5_run_r4 : List Cond := [Cond.methodLink RX5 201 yX5_weigh, Cond.instanceMethod yX5_weigh, Cond.selects RX5 yX5_weigh yX5_weigh, Cond.code yX5_weigh cX5_weigh 3 (some .int), Cond.methodLink RX5 72 yX4_weightOf, Cond.instanceMethod yX4_weightOf, Cond.selects RX4 yX4_weightOf yX4_weightOf, Cond.code yX4_weightOf cX4_weightOf 2 (some .int), Cond.fieldLink RX4 15 "SortingLine$Things" "weights" "[I", Cond.methodLink RX5 232 yX2_grow, Cond.instanceMethod yX2_grow, Cond.selects RX2 yX2_grow yX2_grow, Cond.code yX2_grow cX2_grow 4 none, Cond.fieldLink RX2 18 "SortingLine$Stations" "totals" "[J", Cond.methodLink RX5 229 yX5_keep, Cond.instanceMethod yX5_keep, Cond.selects RX5 yX5_keep yX5_keep, Cond.code yX5_keep cX5_keep 3 (some .int), Cond.methodLink RX5 235 yX2_setSlot, Cond.instanceMethod yX2_setSlot, Cond.selects RX2 yX2_setSlot yX2_setSlot, Cond.code yX2_setSlot cX2_setSlot 3 none, Cond.fieldLink RX2 22 "SortingLine$Stations" "slots" "[I", Cond.methodLink RX5 204 yX4_keyOf]
def wsX5_run_r5 : List Cond := [Cond.instanceMethod yX4_keyOf, Cond.selects RX4 yX4_keyOf yX4_keyOf, Cond.code yX4_keyOf cX4_keyOf 2 (some .int), Cond.methodLink RX4 44 yX4_formOf, Cond.instanceMethod yX4_formOf, Cond.selects RX4 yX4_formOf yX4_formOf, Cond.code yX4_formOf cX4_formOf 2 (some .int), Cond.methodLink RX4 48 yX4_weightOf, Cond.methodLink RX5 207 yX5_grow, Cond.instanceMethod yX5_grow, Cond.selects RX5 yX5_grow yX5_grow, Cond.code yX5_grow cX5_grow 4 (some .int), Cond.methodLink RX5 211 yX4_sumOfNumbers, Cond.instanceMethod yX4_sumOfNumbers, Cond.selects RX4 yX4_sumOfNumbers yX4_sumOfNumbers, Cond.code yX4_sumOfNumbers cX4_sumOfNumbers 5 (some .long), Cond.methodLink RX4 54 yX4_sizeOf, Cond.instanceMethod yX4_sizeOf, Cond.selects RX4 yX4_sizeOf yX4_sizeOf, Cond.code yX4_sizeOf cX4_sizeOf 2 (some .int), Cond.fieldLink RX4 18 "SortingLine$Things" "sizes" "[I", Cond.methodLink RX4 57 yX4_numberAt, Cond.instanceMethod yX4_numberAt, Cond.selects RX4 yX4_numberAt yX4_numberAt]
def wsX5_run_r6 : List Cond := [Cond.code yX4_numberAt cX4_numberAt 3 (some .long), Cond.fieldLink RX4 21 "SortingLine$Things" "numbers" "[J", Cond.methodLink RX4 51 yX4_hasPlace, Cond.instanceMethod yX4_hasPlace, Cond.selects RX4 yX4_hasPlace yX4_hasPlace, Cond.code yX4_hasPlace cX4_hasPlace 3 (some .boolean), Cond.methodLink RX5 214 yX5_addMembers, Cond.instanceMethod yX5_addMembers, Cond.selects RX5 yX5_addMembers yX5_addMembers, Cond.code yX5_addMembers cX5_addMembers 8 (some .int), Cond.methodLink RX5 75 yX4_sizeOf, Cond.methodLink RX5 107 yX4_memberAt, Cond.instanceMethod yX4_memberAt, Cond.selects RX4 yX4_memberAt yX4_memberAt, Cond.code yX4_memberAt cX4_memberAt 3 (some .int), Cond.fieldLink RX4 25 "SortingLine$Things" "members" "[I", Cond.methodLink RX5 217 yX5_pack, Cond.instanceMethod yX5_pack, Cond.selects RX5 yX5_pack yX5_pack, Cond.code yX5_pack cX5_pack 4 (some .int), Cond.methodLink RX5 149 yX2_slotOf, Cond.instanceMethod yX2_slotOf, Cond.selects RX2 yX2_slotOf yX2_slotOf, Cond.code yX2_slotOf cX2_slotOf 2 (some .int)]
def wsX5_run_r7 : List Cond := [Cond.methodLink RX5 104 yX5_layInto, Cond.instanceMethod yX5_layInto, Cond.selects RX5 yX5_layInto yX5_layInto, Cond.code yX5_layInto cX5_layInto 5 (some .int), Cond.methodLink RX5 186 yX4_hasPlace, Cond.methodLink RX5 68 yX4_formOf, Cond.methodLink RX5 101 yX5_memberKind, Cond.static yX5_memberKind, Cond.code yX5_memberKind cX5_memberKind 1 (some .int), Cond.methodLink RX5 189 yX4_setMember, Cond.instanceMethod yX4_setMember, Cond.selects RX4 yX4_setMember yX4_setMember, Cond.code yX4_setMember cX4_setMember 4 none, Cond.methodLink RX5 220 yX5_addCorner, Cond.instanceMethod yX5_addCorner, Cond.selects RX5 yX5_addCorner yX5_addCorner, Cond.code yX5_addCorner cX5_addCorner 7 (some .int), Cond.methodLink RX5 239 yX5_findingAtFirst, Cond.instanceMethod yX5_findingAtFirst, Cond.selects RX5 yX5_findingAtFirst yX5_findingAtFirst, Cond.code yX5_findingAtFirst cX5_findingAtFirst 2 (some .int), Cond.methodLink RX5 223 yX5_addCell, Cond.instanceMethod yX5_addCell, Cond.selects RX5 yX5_addCell yX5_addCell]
def wsX5_run_r8 : List Cond := [Cond.code yX5_addCell cX5_addCell 5 (some .int), Cond.methodLink RX5 97 yX4_numberAt, Cond.methodLink RX5 226 yX5_spill, Cond.instanceMethod yX5_spill, Cond.selects RX5 yX5_spill yX5_spill, Cond.code yX5_spill cX5_spill 4 (some .int), Cond.methodLink RX5 113 yX0_append, Cond.instanceMethod yX0_append, Cond.selects RX0 yX0_append yX0_append, Cond.code yX0_append cX0_append 2 (some .boolean), Cond.methodLink RX5 132 yX1_add, Cond.instanceMethod yX1_add, Cond.selects RX1 yX1_add yX1_add, Cond.initialized RX1, Cond.code yX1_add cX1_add 4 none, Cond.fieldLink RX1 9 "SortingLine$Side" "ofThings" "[I", Cond.fieldLink RX1 21 "SortingLine$Side" "next" "I", Cond.fieldLink RX1 15 "SortingLine$Side" "ofStations" "[I", Cond.fieldLink RX1 18 "SortingLine$Side" "ofFindings" "[I", Cond.fieldLink RX1 25 "SortingLine$Side" "size" "I", Cond.methodLink RX1 28 Lib.Math.min.name, Cond.static Lib.Math.min.name, Cond.initialized "java/lang/Math", Cond.code Lib.Math.min.name Lib.Math.min.code 2 (some .int)]
def wsX5_run_r9 : List Cond := [Cond.methodLink RX5 135 yX3_addFailed, Cond.instanceMethod yX3_addFailed, Cond.selects RX3 yX3_addFailed yX3_addFailed, Cond.code yX3_addFailed cX3_addFailed 1 none, Cond.fieldLink RX3 22 "SortingLine$Tally" "failed" "I", Cond.methodLink RX5 52 yX5_answerOf, Cond.instanceMethod yX5_answerOf, Cond.selects RX5 yX5_answerOf yX5_answerOf, Cond.code yX5_answerOf cX5_answerOf 2 (some .int), Cond.methodLink RX5 182 yX3_addFinding, Cond.instanceMethod yX3_addFinding, Cond.selects RX3 yX3_addFinding yX3_addFinding, Cond.code yX3_addFinding cX3_addFinding 2 none, Cond.fieldLink RX3 9 "SortingLine$Tally" "found" "[I", Cond.methodLink RX5 138 yX3_addWorked, Cond.instanceMethod yX3_addWorked, Cond.selects RX3 yX3_addWorked yX3_addWorked, Cond.code yX3_addWorked cX3_addWorked 1 none, Cond.fieldLink RX3 15 "SortingLine$Tally" "worked" "I"]
def wsX5_run : List Cond := .code yX5_run cX5_run 4 (some .int) :: ((wsX5_run_r1 ++ (wsX5_run_r2 ++ (wsX5_run_r3 ++ (wsX5_run_r4 ++ (wsX5_run_r5 ++ (wsX5_run_r6 ++ (wsX5_run_r7 ++ (wsX5_run_r8 ++ wsX5_run_r9)))))))) ++ wsX50 ++ wsX00 ++ wsX20 ++ wsX40 ++ wsX30 ++ wsX10 ++ ([] : List Cond))
def wsX5_total : List Cond := .code yX5_total cX5_total 2 (some .long) :: ([.fieldLink RX5 19 "SortingLine" "stations" "LSortingLine$Stations;", .methodLink RX5 144 yX2_totalOf, .instanceMethod yX2_totalOf, .selects RX2 yX2_totalOf yX2_totalOf, .initialized RX2, .code yX2_totalOf cX2_totalOf 2 (some .long), .fieldLink RX2 18 "SortingLine$Stations" "totals" "[J", .methodLink RX2 29 yX2_hold, .instanceMethod yX2_hold, .selects RX2 yX2_hold yX2_hold, .code yX2_hold cX2_hold 2 (some .boolean), .fieldLink RX2 25 "SortingLine$Stations" "made" "I"] ++ wsX50 ++ wsX20 ++ ([] : List Cond))
def wsX5_slot : List Cond := .code yX5_slot cX5_slot 2 (some .int) :: ([.fieldLink RX5 19 "SortingLine" "stations" "LSortingLine$Stations;", .methodLink RX5 148 yX2_hold, .instanceMethod yX2_hold, .selects RX2 yX2_hold yX2_hold, .initialized RX2, .code yX2_hold cX2_hold 2 (some .boolean), .fieldLink RX2 25 "SortingLine$Stations" "made" "I", .methodLink RX5 149 yX2_slotOf, .instanceMethod yX2_slotOf, .selects RX2 yX2_slotOf yX2_slotOf, .code yX2_slotOf cX2_slotOf 2 (some .int), .fieldLink RX2 22 "SortingLine$Stations" "slots" "[I", .methodLink RX2 29 yX2_hold] ++ wsX50 ++ wsX20 ++ ([] : List Cond))
def wsX5_belt : List Cond := .code yX5_belt cX5_belt 2 (some .int) :: ([.fieldLink RX5 26 "SortingLine" "onBelt" "LSortingLine$Belt;", .methodLink RX5 152 yX0_thingAt, .instanceMethod yX0_thingAt, .selects RX0 yX0_thingAt yX0_thingAt, .initialized RX0, .code yX0_thingAt cX0_thingAt 2 (some .int), .fieldLink RX0 19 "SortingLine$Belt" "size" "I", .fieldLink RX0 9 "SortingLine$Belt" "ring" "[I", .fieldLink RX0 15 "SortingLine$Belt" "first" "I"] ++ wsX50 ++ wsX00 ++ ([] : List Cond))
def wsX5_side : List Cond := .code yX5_side cX5_side 3 (some .int) :: ([.fieldLink RX5 33 "SortingLine" "aside" "LSortingLine$Side;", .methodLink RX5 155 yX1_tell, .instanceMethod yX1_tell, .selects RX1 yX1_tell yX1_tell, .initialized RX1, .code yX1_tell cX1_tell 4 (some .int), .fieldLink RX1 25 "SortingLine$Side" "size" "I", .fieldLink RX1 21 "SortingLine$Side" "next" "I", .fieldLink RX1 9 "SortingLine$Side" "ofThings" "[I", .fieldLink RX1 15 "SortingLine$Side" "ofStations" "[I", .fieldLink RX1 18 "SortingLine$Side" "ofFindings" "[I"] ++ wsX50 ++ wsX10 ++ ([] : List Cond))
def wsX5_count_r1 : List Cond := [Cond.fieldLink RX5 10 "SortingLine" "things" "LSortingLine$Things;", Cond.fieldLink RX5 19 "SortingLine" "stations" "LSortingLine$Stations;", Cond.fieldLink RX5 26 "SortingLine" "onBelt" "LSortingLine$Belt;", Cond.fieldLink RX5 40 "SortingLine" "tally" "LSortingLine$Tally;", Cond.methodLink RX5 158 yX4_howMany, Cond.instanceMethod yX4_howMany, Cond.selects RX4 yX4_howMany yX4_howMany, Cond.initialized RX4, Cond.code yX4_howMany cX4_howMany 1 (some .int), Cond.fieldLink RX4 28 "SortingLine$Things" "made" "I", Cond.methodLink RX5 161 yX2_howMany, Cond.instanceMethod yX2_howMany, Cond.selects RX2 yX2_howMany yX2_howMany, Cond.initialized RX2, Cond.code yX2_howMany cX2_howMany 1 (some .int), Cond.fieldLink RX2 25 "SortingLine$Stations" "made" "I", Cond.methodLink RX5 116 yX0_size, Cond.instanceMethod yX0_size, Cond.selects RX0 yX0_size yX0_size, Cond.initialized RX0, Cond.code yX0_size cX0_size 1 (some .int), Cond.fieldLink RX0 19 "SortingLine$Belt" "size" "I", Cond.methodLink RX5 172 yX3_foundOf, Cond.instanceMethod yX3_foundOf]
def wsX5_count_r2 : List Cond := [Cond.selects RX3 yX3_foundOf yX3_foundOf, Cond.initialized RX3, Cond.code yX3_foundOf cX3_foundOf 2 (some .int), Cond.fieldLink RX3 9 "SortingLine$Tally" "found" "[I"]
def wsX5_count : List Cond := .code yX5_count cX5_count 2 (some .int) :: ((wsX5_count_r1 ++ wsX5_count_r2) ++ wsX50 ++ wsX30 ++ wsX40 ++ wsX20 ++ wsX00 ++ ([] : List Cond))
def wsX5_clear_r1 : List Cond := [Cond.fieldLink RX5 10 "SortingLine" "things" "LSortingLine$Things;", Cond.fieldLink RX5 19 "SortingLine" "stations" "LSortingLine$Stations;", Cond.fieldLink RX5 26 "SortingLine" "onBelt" "LSortingLine$Belt;", Cond.fieldLink RX5 33 "SortingLine" "aside" "LSortingLine$Side;", Cond.fieldLink RX5 40 "SortingLine" "tally" "LSortingLine$Tally;", Cond.methodLink RX5 158 yX4_howMany, Cond.instanceMethod yX4_howMany, Cond.selects RX4 yX4_howMany yX4_howMany, Cond.initialized RX4, Cond.code yX4_howMany cX4_howMany 1 (some .int), Cond.fieldLink RX4 28 "SortingLine$Things" "made" "I", Cond.methodLink RX5 175 yX4_forget, Cond.instanceMethod yX4_forget, Cond.selects RX4 yX4_forget yX4_forget, Cond.code yX4_forget cX4_forget 1 none, Cond.methodLink RX5 178 yX2_forget, Cond.instanceMethod yX2_forget, Cond.selects RX2 yX2_forget yX2_forget, Cond.initialized RX2, Cond.code yX2_forget cX2_forget 1 none, Cond.fieldLink RX2 25 "SortingLine$Stations" "made" "I", Cond.methodLink RX5 179 yX0_forget, Cond.instanceMethod yX0_forget, Cond.selects RX0 yX0_forget yX0_forget]
def wsX5_clear_r2 : List Cond := [Cond.initialized RX0, Cond.code yX0_forget cX0_forget 1 none, Cond.fieldLink RX0 15 "SortingLine$Belt" "first" "I", Cond.fieldLink RX0 19 "SortingLine$Belt" "size" "I", Cond.methodLink RX5 180 yX1_forget, Cond.instanceMethod yX1_forget, Cond.selects RX1 yX1_forget yX1_forget, Cond.initialized RX1, Cond.code yX1_forget cX1_forget 1 none, Cond.fieldLink RX1 21 "SortingLine$Side" "next" "I", Cond.fieldLink RX1 25 "SortingLine$Side" "size" "I", Cond.methodLink RX5 181 yX3_forget, Cond.instanceMethod yX3_forget, Cond.selects RX3 yX3_forget yX3_forget, Cond.initialized RX3, Cond.code yX3_forget cX3_forget 2 none, Cond.fieldLink RX3 15 "SortingLine$Tally" "worked" "I", Cond.fieldLink RX3 19 "SortingLine$Tally" "passed" "I", Cond.fieldLink RX3 22 "SortingLine$Tally" "failed" "I", Cond.fieldLink RX3 9 "SortingLine$Tally" "found" "[I"]
def wsX5_clear : List Cond := .code yX5_clear cX5_clear 2 (some .int) :: ((wsX5_clear_r1 ++ wsX5_clear_r2) ++ wsX50 ++ wsX40 ++ wsX20 ++ wsX00 ++ wsX10 ++ wsX30 ++ ([] : List Cond))
def wsX6_init : List Cond := .code yX6_init cX6_init 1 none :: ([.methodLink RX6 1 objectInit, .instanceMethod objectInit, .code objectInit ⟨#[0xb1]⟩ 1 none, .arrayClass .int, .fieldLink RX6 7 "SortingLineModel" "forms" "[I", .fieldLink RX6 13 "SortingLineModel" "weights" "[I", .fieldLink RX6 16 "SortingLineModel" "sizes" "[I", .arrayClass .long, .fieldLink RX6 19 "SortingLineModel" "numbers" "[J", .fieldLink RX6 23 "SortingLineModel" "places" "[I", .constant RX6 26 (65543), .constant RX6 27 (65544), .constant RX6 28 (32768), .fieldLink RX6 29 "SortingLineModel" "kindsOf" "[I", .fieldLink RX6 32 "SortingLineModel" "partOf" "[I", .fieldLink RX6 35 "SortingLineModel" "wants" "[I", .fieldLink RX6 38 "SortingLineModel" "belt" "[I", .fieldLink RX6 41 "SortingLineModel" "gates" "[I", .fieldLink RX6 44 "SortingLineModel" "works" "[I", .fieldLink RX6 47 "SortingLineModel" "totals" "[J", .fieldLink RX6 50 "SortingLineModel" "slots" "[I", .fieldLink RX6 53 "SortingLineModel" "side" "[I", .fieldLink RX6 56 "SortingLineModel" "findings" "[I"] ++ wsX60 ++ ([] : List Cond))
def wsX6_thrown : List Cond := .code yX6_thrown cX6_thrown 1 (some .int) :: ([.fieldLink RX6 59 "SortingLineModel" "fault" "I"] ++ wsX60)
def wsX6_in : List Cond := .code yX6_in cX6_in 3 (some .boolean) :: ([])
def wsX6_isThing : List Cond := .code yX6_isThing cX6_isThing 2 (some .boolean) :: ([.fieldLink RX6 63 "SortingLineModel" "things" "I", .methodLink RX6 66 yX6_in, .static yX6_in, .initialized RX6, .code yX6_in cX6_in 3 (some .boolean)] ++ wsX60)
def wsX6_isOf : List Cond := .code yX6_isOf cX6_isOf 3 (some .boolean) :: ([.fieldLink RX6 29 "SortingLineModel" "kindsOf" "[I", .fieldLink RX6 7 "SortingLineModel" "forms" "[I"] ++ wsX60 ++ ([] : List Cond))
def wsX6_passes : List Cond := .code yX6_passes cX6_passes 3 (some .boolean) :: ([.methodLink RX6 70 yX6_isOf, .instanceMethod yX6_isOf, .selects RX6 yX6_isOf yX6_isOf, .initialized RX6, .code yX6_isOf cX6_isOf 3 (some .boolean), .fieldLink RX6 29 "SortingLineModel" "kindsOf" "[I", .fieldLink RX6 7 "SortingLineModel" "forms" "[I"] ++ wsX60 ++ ([] : List Cond))
def wsX6_found : List Cond := .code yX6_found cX6_found 2 (some .int) :: ([.fieldLink RX6 56 "SortingLineModel" "findings" "[I"] ++ wsX60 ++ ([] : List Cond))
def wsX6_adds : List Cond := .code yX6_adds cX6_adds 5 (some .int) :: ([.fieldLink RX6 7 "SortingLineModel" "forms" "[I", .fieldLink RX6 63 "SortingLineModel" "things" "I", .fieldLink RX6 13 "SortingLineModel" "weights" "[I", .fieldLink RX6 16 "SortingLineModel" "sizes" "[I", .fieldLink RX6 19 "SortingLineModel" "numbers" "[J", .fieldLink RX6 23 "SortingLineModel" "places" "[I"] ++ wsX60 ++ ([] : List Cond))
def wsX6_thing : List Cond := .code yX6_thing cX6_thing 3 (some .int) :: ([.fieldLink RX6 59 "SortingLineModel" "fault" "I", .fieldLink RX6 63 "SortingLineModel" "things" "I", .methodLink RX6 66 yX6_in, .static yX6_in, .initialized RX6, .code yX6_in cX6_in 3 (some .boolean), .methodLink RX6 74 yX6_adds, .instanceMethod yX6_adds, .selects RX6 yX6_adds yX6_adds, .code yX6_adds cX6_adds 5 (some .int), .fieldLink RX6 7 "SortingLineModel" "forms" "[I", .fieldLink RX6 13 "SortingLineModel" "weights" "[I", .fieldLink RX6 16 "SortingLineModel" "sizes" "[I", .fieldLink RX6 19 "SortingLineModel" "numbers" "[J", .fieldLink RX6 23 "SortingLineModel" "places" "[I"] ++ wsX60 ++ ([] : List Cond))
def wsX6_row : List Cond := .code yX6_row cX6_row 3 (some .int) :: ([.fieldLink RX6 59 "SortingLineModel" "fault" "I", .fieldLink RX6 63 "SortingLineModel" "things" "I", .methodLink RX6 66 yX6_in, .static yX6_in, .initialized RX6, .code yX6_in cX6_in 3 (some .boolean), .methodLink RX6 78 yX6_found, .instanceMethod yX6_found, .selects RX6 yX6_found yX6_found, .code yX6_found cX6_found 2 (some .int), .fieldLink RX6 56 "SortingLineModel" "findings" "[I", .methodLink RX6 74 yX6_adds, .instanceMethod yX6_adds, .selects RX6 yX6_adds yX6_adds, .code yX6_adds cX6_adds 5 (some .int), .fieldLink RX6 7 "SortingLineModel" "forms" "[I", .fieldLink RX6 13 "SortingLineModel" "weights" "[I", .fieldLink RX6 16 "SortingLineModel" "sizes" "[I", .fieldLink RX6 19 "SortingLineModel" "numbers" "[J", .fieldLink RX6 23 "SortingLineModel" "places" "[I"] ++ wsX60 ++ ([] : List Cond))
def wsX6_is : List Cond := .code yX6_is cX6_is 3 (some .int) :: ([.fieldLink RX6 59 "SortingLineModel" "fault" "I", .methodLink RX6 82 yX6_isThing, .instanceMethod yX6_isThing, .selects RX6 yX6_isThing yX6_isThing, .initialized RX6, .code yX6_isThing cX6_isThing 2 (some .boolean), .fieldLink RX6 63 "SortingLineModel" "things" "I", .methodLink RX6 66 yX6_in, .static yX6_in, .code yX6_in cX6_in 3 (some .boolean), .methodLink RX6 70 yX6_isOf, .instanceMethod yX6_isOf, .selects RX6 yX6_isOf yX6_isOf, .code yX6_isOf cX6_isOf 3 (some .boolean), .fieldLink RX6 29 "SortingLineModel" "kindsOf" "[I", .fieldLink RX6 7 "SortingLineModel" "forms" "[I"] ++ wsX60 ++ ([] : List Cond))
def wsX6_more : List Cond := .code yX6_more cX6_more 3 (some .int) :: ([.fieldLink RX6 59 "SortingLineModel" "fault" "I", .fieldLink RX6 7 "SortingLineModel" "forms" "[I", .methodLink RX6 82 yX6_isThing, .instanceMethod yX6_isThing, .selects RX6 yX6_isThing yX6_isThing, .initialized RX6, .code yX6_isThing cX6_isThing 2 (some .boolean), .fieldLink RX6 63 "SortingLineModel" "things" "I", .methodLink RX6 66 yX6_in, .static yX6_in, .code yX6_in cX6_in 3 (some .boolean), .methodLink RX6 70 yX6_isOf, .instanceMethod yX6_isOf, .selects RX6 yX6_isOf yX6_isOf, .code yX6_isOf cX6_isOf 3 (some .boolean), .fieldLink RX6 29 "SortingLineModel" "kindsOf" "[I"] ++ wsX60 ++ ([] : List Cond))
def wsX6_weight_r1 : List Cond := [Cond.fieldLink RX6 59 "SortingLineModel" "fault" "I", Cond.constant RX6 86 (-2000000001), Cond.constant RX6 87 (-2000000002), Cond.fieldLink RX6 13 "SortingLineModel" "weights" "[I", Cond.constant RX6 88 (-2000000000), Cond.methodLink RX6 82 yX6_isThing, Cond.instanceMethod yX6_isThing, Cond.selects RX6 yX6_isThing yX6_isThing, Cond.initialized RX6, Cond.code yX6_isThing cX6_isThing 2 (some .boolean), Cond.fieldLink RX6 63 "SortingLineModel" "things" "I", Cond.methodLink RX6 66 yX6_in, Cond.static yX6_in, Cond.code yX6_in cX6_in 3 (some .boolean), Cond.methodLink RX6 70 yX6_isOf, Cond.instanceMethod yX6_isOf, Cond.selects RX6 yX6_isOf yX6_isOf, Cond.code yX6_isOf cX6_isOf 3 (some .boolean), Cond.fieldLink RX6 29 "SortingLineModel" "kindsOf" "[I", Cond.fieldLink RX6 7 "SortingLineModel" "forms" "[I", Cond.methodLink RX6 78 yX6_found, Cond.instanceMethod yX6_found, Cond.selects RX6 yX6_found yX6_found, Cond.code yX6_found cX6_found 2 (some .int)]
def wsX6_weight_r2 : List Cond := [Cond.fieldLink RX6 56 "SortingLineModel" "findings" "[I"]
def wsX6_weight : List Cond := .code yX6_weight cX6_weight 3 (some .int) :: ((wsX6_weight_r1 ++ wsX6_weight_r2) ++ wsX60 ++ ([] : List Cond))
def wsX6_refusal : List Cond := .code yX6_refusal cX6_refusal 5 (some .int) :: ([.methodLink RX6 82 yX6_isThing, .instanceMethod yX6_isThing, .selects RX6 yX6_isThing yX6_isThing, .initialized RX6, .code yX6_isThing cX6_isThing 2 (some .boolean), .fieldLink RX6 63 "SortingLineModel" "things" "I", .methodLink RX6 66 yX6_in, .static yX6_in, .code yX6_in cX6_in 3 (some .boolean)] ++ wsX60)
def wsX6_length_r1 : List Cond := [Cond.fieldLink RX6 59 "SortingLineModel" "fault" "I", Cond.fieldLink RX6 16 "SortingLineModel" "sizes" "[I", Cond.methodLink RX6 89 yX6_refusal, Cond.instanceMethod yX6_refusal, Cond.selects RX6 yX6_refusal yX6_refusal, Cond.initialized RX6, Cond.code yX6_refusal cX6_refusal 5 (some .int), Cond.methodLink RX6 82 yX6_isThing, Cond.instanceMethod yX6_isThing, Cond.selects RX6 yX6_isThing yX6_isThing, Cond.code yX6_isThing cX6_isThing 2 (some .boolean), Cond.fieldLink RX6 63 "SortingLineModel" "things" "I", Cond.methodLink RX6 66 yX6_in, Cond.static yX6_in, Cond.code yX6_in cX6_in 3 (some .boolean), Cond.methodLink RX6 70 yX6_isOf, Cond.instanceMethod yX6_isOf, Cond.selects RX6 yX6_isOf yX6_isOf, Cond.code yX6_isOf cX6_isOf 3 (some .boolean), Cond.fieldLink RX6 29 "SortingLineModel" "kindsOf" "[I", Cond.fieldLink RX6 7 "SortingLineModel" "forms" "[I", Cond.methodLink RX6 78 yX6_found, Cond.instanceMethod yX6_found, Cond.selects RX6 yX6_found yX6_found]
def wsX6_length_r2 : List Cond := [Cond.code yX6_found cX6_found 2 (some .int), Cond.fieldLink RX6 56 "SortingLineModel" "findings" "[I"]
def wsX6_length : List Cond := .code yX6_length cX6_length 4 (some .int) :: ((wsX6_length_r1 ++ wsX6_length_r2) ++ wsX60 ++ ([] : List Cond))
def wsX6_low : List Cond := .code yX6_low cX6_low 3 (some .long) :: ([])
def wsX6_put_r1 : List Cond := [Cond.fieldLink RX6 59 "SortingLineModel" "fault" "I", Cond.fieldLink RX6 16 "SortingLineModel" "sizes" "[I", Cond.fieldLink RX6 19 "SortingLineModel" "numbers" "[J", Cond.methodLink RX6 89 yX6_refusal, Cond.instanceMethod yX6_refusal, Cond.selects RX6 yX6_refusal yX6_refusal, Cond.initialized RX6, Cond.code yX6_refusal cX6_refusal 5 (some .int), Cond.methodLink RX6 82 yX6_isThing, Cond.instanceMethod yX6_isThing, Cond.selects RX6 yX6_isThing yX6_isThing, Cond.code yX6_isThing cX6_isThing 2 (some .boolean), Cond.fieldLink RX6 63 "SortingLineModel" "things" "I", Cond.methodLink RX6 66 yX6_in, Cond.static yX6_in, Cond.code yX6_in cX6_in 3 (some .boolean), Cond.methodLink RX6 70 yX6_isOf, Cond.instanceMethod yX6_isOf, Cond.selects RX6 yX6_isOf yX6_isOf, Cond.code yX6_isOf cX6_isOf 3 (some .boolean), Cond.fieldLink RX6 29 "SortingLineModel" "kindsOf" "[I", Cond.fieldLink RX6 7 "SortingLineModel" "forms" "[I", Cond.methodLink RX6 78 yX6_found, Cond.instanceMethod yX6_found]
def wsX6_put_r2 : List Cond := [Cond.selects RX6 yX6_found yX6_found, Cond.code yX6_found cX6_found 2 (some .int), Cond.fieldLink RX6 56 "SortingLineModel" "findings" "[I", Cond.methodLink RX6 93 yX6_low, Cond.static yX6_low, Cond.code yX6_low cX6_low 3 (some .long)]
def wsX6_put : List Cond := .code yX6_put cX6_put 7 (some .int) :: ((wsX6_put_r1 ++ wsX6_put_r2) ++ wsX60 ++ ([] : List Cond))
def wsX6_number : List Cond := .code yX6_number cX6_number 4 (some .long) :: ([.fieldLink RX6 59 "SortingLineModel" "fault" "I", .fieldLink RX6 16 "SortingLineModel" "sizes" "[I", .fieldLink RX6 19 "SortingLineModel" "numbers" "[J", .methodLink RX6 89 yX6_refusal, .instanceMethod yX6_refusal, .selects RX6 yX6_refusal yX6_refusal, .initialized RX6, .code yX6_refusal cX6_refusal 5 (some .int), .methodLink RX6 82 yX6_isThing, .instanceMethod yX6_isThing, .selects RX6 yX6_isThing yX6_isThing, .code yX6_isThing cX6_isThing 2 (some .boolean), .fieldLink RX6 63 "SortingLineModel" "things" "I", .methodLink RX6 66 yX6_in, .static yX6_in, .code yX6_in cX6_in 3 (some .boolean), .methodLink RX6 70 yX6_isOf, .instanceMethod yX6_isOf, .selects RX6 yX6_isOf yX6_isOf, .code yX6_isOf cX6_isOf 3 (some .boolean), .fieldLink RX6 29 "SortingLineModel" "kindsOf" "[I", .fieldLink RX6 7 "SortingLineModel" "forms" "[I"] ++ wsX60 ++ ([] : List Cond))
def wsX6_lays : List Cond := .code yX6_lays cX6_lays 5 (some .int) :: ([.fieldLink RX6 32 "SortingLineModel" "partOf" "[I", .fieldLink RX6 16 "SortingLineModel" "sizes" "[I", .fieldLink RX6 7 "SortingLineModel" "forms" "[I", .fieldLink RX6 23 "SortingLineModel" "places" "[I", .methodLink RX6 70 yX6_isOf, .instanceMethod yX6_isOf, .selects RX6 yX6_isOf yX6_isOf, .initialized RX6, .code yX6_isOf cX6_isOf 3 (some .boolean), .fieldLink RX6 29 "SortingLineModel" "kindsOf" "[I", .methodLink RX6 97 yX6_passes, .instanceMethod yX6_passes, .selects RX6 yX6_passes yX6_passes, .code yX6_passes cX6_passes 3 (some .boolean), .methodLink RX6 66 yX6_in, .static yX6_in, .code yX6_in cX6_in 3 (some .boolean)] ++ wsX60 ++ ([] : List Cond))
def wsX6_lay_r1 : List Cond := [Cond.fieldLink RX6 59 "SortingLineModel" "fault" "I", Cond.methodLink RX6 82 yX6_isThing, Cond.instanceMethod yX6_isThing, Cond.selects RX6 yX6_isThing yX6_isThing, Cond.initialized RX6, Cond.code yX6_isThing cX6_isThing 2 (some .boolean), Cond.fieldLink RX6 63 "SortingLineModel" "things" "I", Cond.methodLink RX6 66 yX6_in, Cond.static yX6_in, Cond.code yX6_in cX6_in 3 (some .boolean), Cond.methodLink RX6 100 yX6_lays, Cond.instanceMethod yX6_lays, Cond.selects RX6 yX6_lays yX6_lays, Cond.code yX6_lays cX6_lays 5 (some .int), Cond.fieldLink RX6 32 "SortingLineModel" "partOf" "[I", Cond.fieldLink RX6 16 "SortingLineModel" "sizes" "[I", Cond.fieldLink RX6 7 "SortingLineModel" "forms" "[I", Cond.fieldLink RX6 23 "SortingLineModel" "places" "[I", Cond.methodLink RX6 70 yX6_isOf, Cond.instanceMethod yX6_isOf, Cond.selects RX6 yX6_isOf yX6_isOf, Cond.code yX6_isOf cX6_isOf 3 (some .boolean), Cond.fieldLink RX6 29 "SortingLineModel" "kindsOf" "[I", Cond.methodLink RX6 97 yX6_passes]
def wsX6_lay_r2 : List Cond := [Cond.instanceMethod yX6_passes, Cond.selects RX6 yX6_passes yX6_passes, Cond.code yX6_passes cX6_passes 3 (some .boolean), Cond.methodLink RX6 78 yX6_found, Cond.instanceMethod yX6_found, Cond.selects RX6 yX6_found yX6_found, Cond.code yX6_found cX6_found 2 (some .int), Cond.fieldLink RX6 56 "SortingLineModel" "findings" "[I"]
def wsX6_lay : List Cond := .code yX6_lay cX6_lay 6 (some .int) :: ((wsX6_lay_r1 ++ wsX6_lay_r2) ++ wsX60 ++ ([] : List Cond))
def wsX6_told : List Cond := .code yX6_told cX6_told 1 (some .int) :: ([])
def wsX6_place_r1 : List Cond := [Cond.fieldLink RX6 59 "SortingLineModel" "fault" "I", Cond.fieldLink RX6 16 "SortingLineModel" "sizes" "[I", Cond.fieldLink RX6 23 "SortingLineModel" "places" "[I", Cond.methodLink RX6 89 yX6_refusal, Cond.instanceMethod yX6_refusal, Cond.selects RX6 yX6_refusal yX6_refusal, Cond.initialized RX6, Cond.code yX6_refusal cX6_refusal 5 (some .int), Cond.methodLink RX6 82 yX6_isThing, Cond.instanceMethod yX6_isThing, Cond.selects RX6 yX6_isThing yX6_isThing, Cond.code yX6_isThing cX6_isThing 2 (some .boolean), Cond.fieldLink RX6 63 "SortingLineModel" "things" "I", Cond.methodLink RX6 66 yX6_in, Cond.static yX6_in, Cond.code yX6_in cX6_in 3 (some .boolean), Cond.methodLink RX6 70 yX6_isOf, Cond.instanceMethod yX6_isOf, Cond.selects RX6 yX6_isOf yX6_isOf, Cond.code yX6_isOf cX6_isOf 3 (some .boolean), Cond.fieldLink RX6 29 "SortingLineModel" "kindsOf" "[I", Cond.fieldLink RX6 7 "SortingLineModel" "forms" "[I", Cond.methodLink RX6 78 yX6_found, Cond.instanceMethod yX6_found]
def wsX6_place_r2 : List Cond := [Cond.selects RX6 yX6_found yX6_found, Cond.code yX6_found cX6_found 2 (some .int), Cond.fieldLink RX6 56 "SortingLineModel" "findings" "[I", Cond.methodLink RX6 103 yX6_told, Cond.static yX6_told, Cond.code yX6_told cX6_told 1 (some .int)]
def wsX6_place : List Cond := .code yX6_place cX6_place 5 (some .int) :: ((wsX6_place_r1 ++ wsX6_place_r2) ++ wsX60 ++ ([] : List Cond))
def wsX6_station : List Cond := .code yX6_station cX6_station 3 (some .int) :: ([.fieldLink RX6 59 "SortingLineModel" "fault" "I", .fieldLink RX6 106 "SortingLineModel" "stations" "I", .fieldLink RX6 41 "SortingLineModel" "gates" "[I", .fieldLink RX6 44 "SortingLineModel" "works" "[I", .fieldLink RX6 47 "SortingLineModel" "totals" "[J", .fieldLink RX6 50 "SortingLineModel" "slots" "[I", .methodLink RX6 66 yX6_in, .static yX6_in, .initialized RX6, .code yX6_in cX6_in 3 (some .boolean)] ++ wsX60 ++ ([] : List Cond))
def wsX6_comes : List Cond := .code yX6_comes cX6_comes 2 none :: ([.fieldLink RX6 38 "SortingLineModel" "belt" "[I", .fieldLink RX6 109 "SortingLineModel" "onBelt" "I"] ++ wsX60 ++ ([] : List Cond))
def wsX6_send : List Cond := .code yX6_send cX6_send 2 (some .int) :: ([.fieldLink RX6 59 "SortingLineModel" "fault" "I", .fieldLink RX6 109 "SortingLineModel" "onBelt" "I", .methodLink RX6 82 yX6_isThing, .instanceMethod yX6_isThing, .selects RX6 yX6_isThing yX6_isThing, .initialized RX6, .code yX6_isThing cX6_isThing 2 (some .boolean), .fieldLink RX6 63 "SortingLineModel" "things" "I", .methodLink RX6 66 yX6_in, .static yX6_in, .code yX6_in cX6_in 3 (some .boolean), .methodLink RX6 112 yX6_comes, .instanceMethod yX6_comes, .selects RX6 yX6_comes yX6_comes, .code yX6_comes cX6_comes 2 none, .fieldLink RX6 38 "SortingLineModel" "belt" "[I"] ++ wsX60 ++ ([] : List Cond))
def wsX6_keyOf : List Cond := .code yX6_keyOf cX6_keyOf 2 (some .int) :: ([.fieldLink RX6 7 "SortingLineModel" "forms" "[I", .fieldLink RX6 13 "SortingLineModel" "weights" "[I"] ++ wsX60 ++ ([] : List Cond))
def wsX6_heaps : List Cond := .code yX6_heaps cX6_heaps 8 (some .int) :: ([.fieldLink RX6 16 "SortingLineModel" "sizes" "[I", .fieldLink RX6 23 "SortingLineModel" "places" "[I", .fieldLink RX6 13 "SortingLineModel" "weights" "[I", .fieldLink RX6 47 "SortingLineModel" "totals" "[J", .methodLink RX6 116 yX6_keyOf, .instanceMethod yX6_keyOf, .selects RX6 yX6_keyOf yX6_keyOf, .initialized RX6, .code yX6_keyOf cX6_keyOf 2 (some .int), .fieldLink RX6 7 "SortingLineModel" "forms" "[I"] ++ wsX60 ++ ([] : List Cond))
def wsX6_corner : List Cond := .code yX6_corner cX6_corner 5 (some .int) :: ([.fieldLink RX6 16 "SortingLineModel" "sizes" "[I", .fieldLink RX6 23 "SortingLineModel" "places" "[I"] ++ wsX60 ++ ([] : List Cond))
def wsX6_weighs : List Cond := .code yX6_weighs cX6_weighs 5 (some .int) :: ([.fieldLink RX6 47 "SortingLineModel" "totals" "[J", .fieldLink RX6 13 "SortingLineModel" "weights" "[I", .methodLink RX6 119 yX6_corner, .instanceMethod yX6_corner, .selects RX6 yX6_corner yX6_corner, .initialized RX6, .code yX6_corner cX6_corner 5 (some .int), .fieldLink RX6 16 "SortingLineModel" "sizes" "[I", .fieldLink RX6 23 "SortingLineModel" "places" "[I"] ++ wsX60 ++ ([] : List Cond))
def wsX6_cell : List Cond := .code yX6_cell cX6_cell 4 (some .int) :: ([.fieldLink RX6 16 "SortingLineModel" "sizes" "[I", .fieldLink RX6 47 "SortingLineModel" "totals" "[J", .fieldLink RX6 19 "SortingLineModel" "numbers" "[J", .methodLink RX6 119 yX6_corner, .instanceMethod yX6_corner, .selects RX6 yX6_corner yX6_corner, .initialized RX6, .code yX6_corner cX6_corner 5 (some .int), .fieldLink RX6 23 "SortingLineModel" "places" "[I"] ++ wsX60 ++ ([] : List Cond))
def wsX6_packs : List Cond := .code yX6_packs cX6_packs 4 (some .int) :: ([.fieldLink RX6 50 "SortingLineModel" "slots" "[I", .methodLink RX6 100 yX6_lays, .instanceMethod yX6_lays, .selects RX6 yX6_lays yX6_lays, .initialized RX6, .code yX6_lays cX6_lays 5 (some .int), .fieldLink RX6 32 "SortingLineModel" "partOf" "[I", .fieldLink RX6 16 "SortingLineModel" "sizes" "[I", .fieldLink RX6 7 "SortingLineModel" "forms" "[I", .fieldLink RX6 23 "SortingLineModel" "places" "[I", .methodLink RX6 70 yX6_isOf, .instanceMethod yX6_isOf, .selects RX6 yX6_isOf yX6_isOf, .code yX6_isOf cX6_isOf 3 (some .boolean), .fieldLink RX6 29 "SortingLineModel" "kindsOf" "[I", .methodLink RX6 97 yX6_passes, .instanceMethod yX6_passes, .selects RX6 yX6_passes yX6_passes, .code yX6_passes cX6_passes 3 (some .boolean), .methodLink RX6 66 yX6_in, .static yX6_in, .code yX6_in cX6_in 3 (some .boolean)] ++ wsX60 ++ ([] : List Cond))
def wsX6_spills : List Cond := .code yX6_spills cX6_spills 4 (some .int) :: ([.fieldLink RX6 16 "SortingLineModel" "sizes" "[I", .fieldLink RX6 109 "SortingLineModel" "onBelt" "I", .fieldLink RX6 23 "SortingLineModel" "places" "[I", .methodLink RX6 112 yX6_comes, .instanceMethod yX6_comes, .selects RX6 yX6_comes yX6_comes, .initialized RX6, .code yX6_comes cX6_comes 2 none, .fieldLink RX6 38 "SortingLineModel" "belt" "[I"] ++ wsX60 ++ ([] : List Cond))
def wsX6_works_r1 : List Cond := [Cond.fieldLink RX6 44 "SortingLineModel" "works" "[I", Cond.fieldLink RX6 35 "SortingLineModel" "wants" "[I", Cond.fieldLink RX6 47 "SortingLineModel" "totals" "[J", Cond.fieldLink RX6 13 "SortingLineModel" "weights" "[I", Cond.fieldLink RX6 50 "SortingLineModel" "slots" "[I", Cond.fieldLink RX6 16 "SortingLineModel" "sizes" "[I", Cond.fieldLink RX6 19 "SortingLineModel" "numbers" "[J", Cond.methodLink RX6 70 yX6_isOf, Cond.instanceMethod yX6_isOf, Cond.selects RX6 yX6_isOf yX6_isOf, Cond.initialized RX6, Cond.code yX6_isOf cX6_isOf 3 (some .boolean), Cond.fieldLink RX6 29 "SortingLineModel" "kindsOf" "[I", Cond.fieldLink RX6 7 "SortingLineModel" "forms" "[I", Cond.methodLink RX6 116 yX6_keyOf, Cond.instanceMethod yX6_keyOf, Cond.selects RX6 yX6_keyOf yX6_keyOf, Cond.code yX6_keyOf cX6_keyOf 2 (some .int), Cond.methodLink RX6 123 yX6_heaps, Cond.instanceMethod yX6_heaps, Cond.selects RX6 yX6_heaps yX6_heaps, Cond.code yX6_heaps cX6_heaps 8 (some .int), Cond.fieldLink RX6 23 "SortingLineModel" "places" "[I", Cond.methodLink RX6 127 yX6_packs]
def wsX6_works_r2 : List Cond := [Cond.instanceMethod yX6_packs, Cond.selects RX6 yX6_packs yX6_packs, Cond.code yX6_packs cX6_packs 4 (some .int), Cond.methodLink RX6 100 yX6_lays, Cond.instanceMethod yX6_lays, Cond.selects RX6 yX6_lays yX6_lays, Cond.code yX6_lays cX6_lays 5 (some .int), Cond.fieldLink RX6 32 "SortingLineModel" "partOf" "[I", Cond.methodLink RX6 97 yX6_passes, Cond.instanceMethod yX6_passes, Cond.selects RX6 yX6_passes yX6_passes, Cond.code yX6_passes cX6_passes 3 (some .boolean), Cond.methodLink RX6 66 yX6_in, Cond.static yX6_in, Cond.code yX6_in cX6_in 3 (some .boolean), Cond.methodLink RX6 130 yX6_weighs, Cond.instanceMethod yX6_weighs, Cond.selects RX6 yX6_weighs yX6_weighs, Cond.code yX6_weighs cX6_weighs 5 (some .int), Cond.methodLink RX6 119 yX6_corner, Cond.instanceMethod yX6_corner, Cond.selects RX6 yX6_corner yX6_corner, Cond.code yX6_corner cX6_corner 5 (some .int), Cond.methodLink RX6 133 yX6_cell]
def wsX6_works_r3 : List Cond := [Cond.instanceMethod yX6_cell, Cond.selects RX6 yX6_cell yX6_cell, Cond.code yX6_cell cX6_cell 4 (some .int), Cond.methodLink RX6 136 yX6_spills, Cond.instanceMethod yX6_spills, Cond.selects RX6 yX6_spills yX6_spills, Cond.code yX6_spills cX6_spills 4 (some .int), Cond.fieldLink RX6 109 "SortingLineModel" "onBelt" "I", Cond.methodLink RX6 112 yX6_comes, Cond.instanceMethod yX6_comes, Cond.selects RX6 yX6_comes yX6_comes, Cond.code yX6_comes cX6_comes 2 none, Cond.fieldLink RX6 38 "SortingLineModel" "belt" "[I"]
def wsX6_works : List Cond := .code yX6_works cX6_works 5 (some .int) :: ((wsX6_works_r1 ++ (wsX6_works_r2 ++ wsX6_works_r3)) ++ wsX60 ++ ([] : List Cond))
def wsX6_goesAside : List Cond := .code yX6_goesAside cX6_goesAside 5 none :: ([.fieldLink RX6 53 "SortingLineModel" "side" "[I", .fieldLink RX6 139 "SortingLineModel" "aside" "I"] ++ wsX60 ++ ([] : List Cond))
def wsX6_steps_r1 : List Cond := [Cond.fieldLink RX6 38 "SortingLineModel" "belt" "[I", Cond.fieldLink RX6 109 "SortingLineModel" "onBelt" "I", Cond.fieldLink RX6 106 "SortingLineModel" "stations" "I", Cond.fieldLink RX6 41 "SortingLineModel" "gates" "[I", Cond.fieldLink RX6 142 "SortingLineModel" "passed" "I", Cond.fieldLink RX6 147 "SortingLineModel" "worked" "I", Cond.fieldLink RX6 150 "SortingLineModel" "failed" "I", Cond.methodLink RX6 70 yX6_isOf, Cond.instanceMethod yX6_isOf, Cond.selects RX6 yX6_isOf yX6_isOf, Cond.initialized RX6, Cond.code yX6_isOf cX6_isOf 3 (some .boolean), Cond.fieldLink RX6 29 "SortingLineModel" "kindsOf" "[I", Cond.fieldLink RX6 7 "SortingLineModel" "forms" "[I", Cond.methodLink RX6 145 yX6_works, Cond.instanceMethod yX6_works, Cond.selects RX6 yX6_works yX6_works, Cond.code yX6_works cX6_works 5 (some .int), Cond.fieldLink RX6 44 "SortingLineModel" "works" "[I", Cond.fieldLink RX6 35 "SortingLineModel" "wants" "[I", Cond.fieldLink RX6 47 "SortingLineModel" "totals" "[J", Cond.fieldLink RX6 13 "SortingLineModel" "weights" "[I", Cond.fieldLink RX6 50 "SortingLineModel" "slots" "[I", Cond.fieldLink RX6 16 "SortingLineModel" "sizes" "[I"]
def wsX6_steps_r2 : List Cond := [Cond.fieldLink RX6 19 "SortingLineModel" "numbers" "[J", Cond.methodLink RX6 116 yX6_keyOf, Cond.instanceMethod yX6_keyOf, Cond.selects RX6 yX6_keyOf yX6_keyOf, Cond.code yX6_keyOf cX6_keyOf 2 (some .int), Cond.methodLink RX6 123 yX6_heaps, Cond.instanceMethod yX6_heaps, Cond.selects RX6 yX6_heaps yX6_heaps, Cond.code yX6_heaps cX6_heaps 8 (some .int), Cond.fieldLink RX6 23 "SortingLineModel" "places" "[I", Cond.methodLink RX6 127 yX6_packs, Cond.instanceMethod yX6_packs, Cond.selects RX6 yX6_packs yX6_packs, Cond.code yX6_packs cX6_packs 4 (some .int), Cond.methodLink RX6 100 yX6_lays, Cond.instanceMethod yX6_lays, Cond.selects RX6 yX6_lays yX6_lays, Cond.code yX6_lays cX6_lays 5 (some .int), Cond.fieldLink RX6 32 "SortingLineModel" "partOf" "[I", Cond.methodLink RX6 97 yX6_passes, Cond.instanceMethod yX6_passes, Cond.selects RX6 yX6_passes yX6_passes, Cond.code yX6_passes cX6_passes 3 (some .boolean), Cond.methodLink RX6 66 yX6_in]
def wsX6_steps_r3 : List Cond := [Cond.static yX6_in, Cond.code yX6_in cX6_in 3 (some .boolean), Cond.methodLink RX6 130 yX6_weighs, Cond.instanceMethod yX6_weighs, Cond.selects RX6 yX6_weighs yX6_weighs, Cond.code yX6_weighs cX6_weighs 5 (some .int), Cond.methodLink RX6 119 yX6_corner, Cond.instanceMethod yX6_corner, Cond.selects RX6 yX6_corner yX6_corner, Cond.code yX6_corner cX6_corner 5 (some .int), Cond.methodLink RX6 133 yX6_cell, Cond.instanceMethod yX6_cell, Cond.selects RX6 yX6_cell yX6_cell, Cond.code yX6_cell cX6_cell 4 (some .int), Cond.methodLink RX6 136 yX6_spills, Cond.instanceMethod yX6_spills, Cond.selects RX6 yX6_spills yX6_spills, Cond.code yX6_spills cX6_spills 4 (some .int), Cond.methodLink RX6 112 yX6_comes, Cond.instanceMethod yX6_comes, Cond.selects RX6 yX6_comes yX6_comes, Cond.code yX6_comes cX6_comes 2 none, Cond.methodLink RX6 153 yX6_goesAside, Cond.instanceMethod yX6_goesAside]
def wsX6_steps_r4 : List Cond := [Cond.selects RX6 yX6_goesAside yX6_goesAside, Cond.code yX6_goesAside cX6_goesAside 5 none, Cond.fieldLink RX6 53 "SortingLineModel" "side" "[I", Cond.fieldLink RX6 139 "SortingLineModel" "aside" "I", Cond.methodLink RX6 78 yX6_found, Cond.instanceMethod yX6_found, Cond.selects RX6 yX6_found yX6_found, Cond.code yX6_found cX6_found 2 (some .int), Cond.fieldLink RX6 56 "SortingLineModel" "findings" "[I"]
def wsX6_steps : List Cond := .code yX6_steps cX6_steps 4 (some .int) :: ((wsX6_steps_r1 ++ (wsX6_steps_r2 ++ (wsX6_steps_r3 ++ wsX6_steps_r4))) ++ wsX60 ++ ([] : List Cond))
def wsX6_step_r1 : List Cond := [Cond.fieldLink RX6 59 "SortingLineModel" "fault" "I", Cond.fieldLink RX6 109 "SortingLineModel" "onBelt" "I", Cond.methodLink RX6 157 yX6_steps, Cond.instanceMethod yX6_steps, Cond.selects RX6 yX6_steps yX6_steps, Cond.initialized RX6, Cond.code yX6_steps cX6_steps 4 (some .int), Cond.fieldLink RX6 38 "SortingLineModel" "belt" "[I", Cond.fieldLink RX6 106 "SortingLineModel" "stations" "I", Cond.fieldLink RX6 41 "SortingLineModel" "gates" "[I", Cond.fieldLink RX6 142 "SortingLineModel" "passed" "I", Cond.fieldLink RX6 147 "SortingLineModel" "worked" "I", Cond.fieldLink RX6 150 "SortingLineModel" "failed" "I", Cond.methodLink RX6 70 yX6_isOf, Cond.instanceMethod yX6_isOf, Cond.selects RX6 yX6_isOf yX6_isOf, Cond.code yX6_isOf cX6_isOf 3 (some .boolean), Cond.fieldLink RX6 29 "SortingLineModel" "kindsOf" "[I", Cond.fieldLink RX6 7 "SortingLineModel" "forms" "[I", Cond.methodLink RX6 145 yX6_works, Cond.instanceMethod yX6_works, Cond.selects RX6 yX6_works yX6_works, Cond.code yX6_works cX6_works 5 (some .int), Cond.fieldLink RX6 44 "SortingLineModel" "works" "[I"]
def wsX6_step_r2 : List Cond := [Cond.fieldLink RX6 35 "SortingLineModel" "wants" "[I", Cond.fieldLink RX6 47 "SortingLineModel" "totals" "[J", Cond.fieldLink RX6 13 "SortingLineModel" "weights" "[I", Cond.fieldLink RX6 50 "SortingLineModel" "slots" "[I", Cond.fieldLink RX6 16 "SortingLineModel" "sizes" "[I", Cond.fieldLink RX6 19 "SortingLineModel" "numbers" "[J", Cond.methodLink RX6 116 yX6_keyOf, Cond.instanceMethod yX6_keyOf, Cond.selects RX6 yX6_keyOf yX6_keyOf, Cond.code yX6_keyOf cX6_keyOf 2 (some .int), Cond.methodLink RX6 123 yX6_heaps, Cond.instanceMethod yX6_heaps, Cond.selects RX6 yX6_heaps yX6_heaps, Cond.code yX6_heaps cX6_heaps 8 (some .int), Cond.fieldLink RX6 23 "SortingLineModel" "places" "[I", Cond.methodLink RX6 127 yX6_packs, Cond.instanceMethod yX6_packs, Cond.selects RX6 yX6_packs yX6_packs, Cond.code yX6_packs cX6_packs 4 (some .int), Cond.methodLink RX6 100 yX6_lays, Cond.instanceMethod yX6_lays, Cond.selects RX6 yX6_lays yX6_lays, Cond.code yX6_lays cX6_lays 5 (some .int), Cond.fieldLink RX6 32 "SortingLineModel" "partOf" "[I"]
def wsX6_step_r3 : List Cond := [Cond.methodLink RX6 97 yX6_passes, Cond.instanceMethod yX6_passes, Cond.selects RX6 yX6_passes yX6_passes, Cond.code yX6_passes cX6_passes 3 (some .boolean), Cond.methodLink RX6 66 yX6_in, Cond.static yX6_in, Cond.code yX6_in cX6_in 3 (some .boolean), Cond.methodLink RX6 130 yX6_weighs, Cond.instanceMethod yX6_weighs, Cond.selects RX6 yX6_weighs yX6_weighs, Cond.code yX6_weighs cX6_weighs 5 (some .int), Cond.methodLink RX6 119 yX6_corner, Cond.instanceMethod yX6_corner, Cond.selects RX6 yX6_corner yX6_corner, Cond.code yX6_corner cX6_corner 5 (some .int), Cond.methodLink RX6 133 yX6_cell, Cond.instanceMethod yX6_cell, Cond.selects RX6 yX6_cell yX6_cell, Cond.code yX6_cell cX6_cell 4 (some .int), Cond.methodLink RX6 136 yX6_spills, Cond.instanceMethod yX6_spills, Cond.selects RX6 yX6_spills yX6_spills, Cond.code yX6_spills cX6_spills 4 (some .int), Cond.methodLink RX6 112 yX6_comes]
def wsX6_step_r4 : List Cond := [Cond.instanceMethod yX6_comes, Cond.selects RX6 yX6_comes yX6_comes, Cond.code yX6_comes cX6_comes 2 none, Cond.methodLink RX6 153 yX6_goesAside, Cond.instanceMethod yX6_goesAside, Cond.selects RX6 yX6_goesAside yX6_goesAside, Cond.code yX6_goesAside cX6_goesAside 5 none, Cond.fieldLink RX6 53 "SortingLineModel" "side" "[I", Cond.fieldLink RX6 139 "SortingLineModel" "aside" "I", Cond.methodLink RX6 78 yX6_found, Cond.instanceMethod yX6_found, Cond.selects RX6 yX6_found yX6_found, Cond.code yX6_found cX6_found 2 (some .int), Cond.fieldLink RX6 56 "SortingLineModel" "findings" "[I"]
def wsX6_step : List Cond := .code yX6_step cX6_step 1 (some .int) :: ((wsX6_step_r1 ++ (wsX6_step_r2 ++ (wsX6_step_r3 ++ wsX6_step_r4))) ++ wsX60 ++ ([] : List Cond))
def wsX6_run_r1 : List Cond := [Cond.fieldLink RX6 59 "SortingLineModel" "fault" "I", Cond.fieldLink RX6 109 "SortingLineModel" "onBelt" "I", Cond.methodLink RX6 66 yX6_in, Cond.static yX6_in, Cond.initialized RX6, Cond.code yX6_in cX6_in 3 (some .boolean), Cond.methodLink RX6 157 yX6_steps, Cond.instanceMethod yX6_steps, Cond.selects RX6 yX6_steps yX6_steps, Cond.code yX6_steps cX6_steps 4 (some .int), Cond.fieldLink RX6 38 "SortingLineModel" "belt" "[I", Cond.fieldLink RX6 106 "SortingLineModel" "stations" "I", Cond.fieldLink RX6 41 "SortingLineModel" "gates" "[I", Cond.fieldLink RX6 142 "SortingLineModel" "passed" "I", Cond.fieldLink RX6 147 "SortingLineModel" "worked" "I", Cond.fieldLink RX6 150 "SortingLineModel" "failed" "I", Cond.methodLink RX6 70 yX6_isOf, Cond.instanceMethod yX6_isOf, Cond.selects RX6 yX6_isOf yX6_isOf, Cond.code yX6_isOf cX6_isOf 3 (some .boolean), Cond.fieldLink RX6 29 "SortingLineModel" "kindsOf" "[I", Cond.fieldLink RX6 7 "SortingLineModel" "forms" "[I", Cond.methodLink RX6 145 yX6_works, Cond.instanceMethod yX6_works]
def wsX6_run_r2 : List Cond := [Cond.selects RX6 yX6_works yX6_works, Cond.code yX6_works cX6_works 5 (some .int), Cond.fieldLink RX6 44 "SortingLineModel" "works" "[I", Cond.fieldLink RX6 35 "SortingLineModel" "wants" "[I", Cond.fieldLink RX6 47 "SortingLineModel" "totals" "[J", Cond.fieldLink RX6 13 "SortingLineModel" "weights" "[I", Cond.fieldLink RX6 50 "SortingLineModel" "slots" "[I", Cond.fieldLink RX6 16 "SortingLineModel" "sizes" "[I", Cond.fieldLink RX6 19 "SortingLineModel" "numbers" "[J", Cond.methodLink RX6 116 yX6_keyOf, Cond.instanceMethod yX6_keyOf, Cond.selects RX6 yX6_keyOf yX6_keyOf, Cond.code yX6_keyOf cX6_keyOf 2 (some .int), Cond.methodLink RX6 123 yX6_heaps, Cond.instanceMethod yX6_heaps, Cond.selects RX6 yX6_heaps yX6_heaps, Cond.code yX6_heaps cX6_heaps 8 (some .int), Cond.fieldLink RX6 23 "SortingLineModel" "places" "[I", Cond.methodLink RX6 127 yX6_packs, Cond.instanceMethod yX6_packs, Cond.selects RX6 yX6_packs yX6_packs, Cond.code yX6_packs cX6_packs 4 (some .int), Cond.methodLink RX6 100 yX6_lays, Cond.instanceMethod yX6_lays]
def wsX6_run_r3 : List Cond := [Cond.selects RX6 yX6_lays yX6_lays, Cond.code yX6_lays cX6_lays 5 (some .int), Cond.fieldLink RX6 32 "SortingLineModel" "partOf" "[I", Cond.methodLink RX6 97 yX6_passes, Cond.instanceMethod yX6_passes, Cond.selects RX6 yX6_passes yX6_passes, Cond.code yX6_passes cX6_passes 3 (some .boolean), Cond.methodLink RX6 130 yX6_weighs, Cond.instanceMethod yX6_weighs, Cond.selects RX6 yX6_weighs yX6_weighs, Cond.code yX6_weighs cX6_weighs 5 (some .int), Cond.methodLink RX6 119 yX6_corner, Cond.instanceMethod yX6_corner, Cond.selects RX6 yX6_corner yX6_corner, Cond.code yX6_corner cX6_corner 5 (some .int), Cond.methodLink RX6 133 yX6_cell, Cond.instanceMethod yX6_cell, Cond.selects RX6 yX6_cell yX6_cell, Cond.code yX6_cell cX6_cell 4 (some .int), Cond.methodLink RX6 136 yX6_spills, Cond.instanceMethod yX6_spills, Cond.selects RX6 yX6_spills yX6_spills, Cond.code yX6_spills cX6_spills 4 (some .int), Cond.methodLink RX6 112 yX6_comes]
def wsX6_run_r4 : List Cond := [Cond.instanceMethod yX6_comes, Cond.selects RX6 yX6_comes yX6_comes, Cond.code yX6_comes cX6_comes 2 none, Cond.methodLink RX6 153 yX6_goesAside, Cond.instanceMethod yX6_goesAside, Cond.selects RX6 yX6_goesAside yX6_goesAside, Cond.code yX6_goesAside cX6_goesAside 5 none, Cond.fieldLink RX6 53 "SortingLineModel" "side" "[I", Cond.fieldLink RX6 139 "SortingLineModel" "aside" "I", Cond.methodLink RX6 78 yX6_found, Cond.instanceMethod yX6_found, Cond.selects RX6 yX6_found yX6_found, Cond.code yX6_found cX6_found 2 (some .int), Cond.fieldLink RX6 56 "SortingLineModel" "findings" "[I"]
def wsX6_run : List Cond := .code yX6_run cX6_run 4 (some .int) :: ((wsX6_run_r1 ++ (wsX6_run_r2 ++ (wsX6_run_r3 ++ wsX6_run_r4))) ++ wsX60 ++ ([] : List Cond))
def wsX6_total : List Cond := .code yX6_total cX6_total 2 (some .long) :: ([.fieldLink RX6 59 "SortingLineModel" "fault" "I", .fieldLink RX6 106 "SortingLineModel" "stations" "I", .fieldLink RX6 47 "SortingLineModel" "totals" "[J", .methodLink RX6 66 yX6_in, .static yX6_in, .initialized RX6, .code yX6_in cX6_in 3 (some .boolean)] ++ wsX60 ++ ([] : List Cond))
def wsX6_slot : List Cond := .code yX6_slot cX6_slot 2 (some .int) :: ([.fieldLink RX6 59 "SortingLineModel" "fault" "I", .fieldLink RX6 106 "SortingLineModel" "stations" "I", .fieldLink RX6 50 "SortingLineModel" "slots" "[I", .methodLink RX6 66 yX6_in, .static yX6_in, .initialized RX6, .code yX6_in cX6_in 3 (some .boolean), .methodLink RX6 103 yX6_told, .static yX6_told, .code yX6_told cX6_told 1 (some .int)] ++ wsX60 ++ ([] : List Cond))
def wsX6_belt : List Cond := .code yX6_belt cX6_belt 2 (some .int) :: ([.fieldLink RX6 59 "SortingLineModel" "fault" "I", .fieldLink RX6 109 "SortingLineModel" "onBelt" "I", .fieldLink RX6 38 "SortingLineModel" "belt" "[I", .methodLink RX6 66 yX6_in, .static yX6_in, .initialized RX6, .code yX6_in cX6_in 3 (some .boolean)] ++ wsX60 ++ ([] : List Cond))
def wsX6_side : List Cond := .code yX6_side cX6_side 3 (some .int) :: ([.fieldLink RX6 59 "SortingLineModel" "fault" "I", .fieldLink RX6 139 "SortingLineModel" "aside" "I", .fieldLink RX6 53 "SortingLineModel" "side" "[I", .methodLink RX6 66 yX6_in, .static yX6_in, .initialized RX6, .code yX6_in cX6_in 3 (some .boolean)] ++ wsX60 ++ ([] : List Cond))
def wsX6_count : List Cond := .code yX6_count cX6_count 2 (some .int) :: ([.fieldLink RX6 59 "SortingLineModel" "fault" "I", .fieldLink RX6 63 "SortingLineModel" "things" "I", .fieldLink RX6 106 "SortingLineModel" "stations" "I", .fieldLink RX6 109 "SortingLineModel" "onBelt" "I", .fieldLink RX6 147 "SortingLineModel" "worked" "I", .fieldLink RX6 142 "SortingLineModel" "passed" "I", .fieldLink RX6 150 "SortingLineModel" "failed" "I", .fieldLink RX6 56 "SortingLineModel" "findings" "[I", .methodLink RX6 66 yX6_in, .static yX6_in, .initialized RX6, .code yX6_in cX6_in 3 (some .boolean)] ++ wsX60 ++ ([] : List Cond))
def wsX6_clear : List Cond := .code yX6_clear cX6_clear 3 (some .int) :: ([.fieldLink RX6 59 "SortingLineModel" "fault" "I", .fieldLink RX6 63 "SortingLineModel" "things" "I", .fieldLink RX6 106 "SortingLineModel" "stations" "I", .fieldLink RX6 109 "SortingLineModel" "onBelt" "I", .fieldLink RX6 139 "SortingLineModel" "aside" "I", .fieldLink RX6 147 "SortingLineModel" "worked" "I", .fieldLink RX6 142 "SortingLineModel" "passed" "I", .fieldLink RX6 150 "SortingLineModel" "failed" "I", .fieldLink RX6 56 "SortingLineModel" "findings" "[I"] ++ wsX60 ++ ([] : List Cond))
def wsJx00060_init_a7421 : List Cond := .code yJx00060_init_a7421 cJx00060_init_a7421 2 none :: ([])
def wsJx3273f_init_a7421 : List Cond := .code yJx3273f_init_a7421 cJx3273f_init_a7421 2 none :: ([])
def wsJ9_min_7cf53 : List Cond := .code yJ9_min_7cf53 cJ9_min_7cf53 2 (some .int) :: ([])
def wsL_number_r1 : List Cond := [Cond.classLink RL 13 "java/lang/ClassCastException", Cond.classLink RL 15 "java/lang/ArrayIndexOutOfBoundsException", Cond.methodLink RL 7 yX5_number, Cond.instanceMethod yX5_number, Cond.selects RX5 yX5_number yX5_number, Cond.initialized RX5, Cond.code yX5_number cX5_number 5 (some .long), Cond.classLink RX5 85 RJx3273f, Cond.instantiable RJx3273f 6, Cond.initialized RJx3273f, Cond.classLink RX5 92 RJx00060, Cond.instantiable RJx00060 6, Cond.initialized RJx00060, Cond.fieldLink RX5 10 "SortingLine" "things" "LSortingLine$Things;", Cond.methodLink RX5 56 yX5_refusalOf, Cond.instanceMethod yX5_refusalOf, Cond.selects RX5 yX5_refusalOf yX5_refusalOf, Cond.code yX5_refusalOf cX5_refusalOf 5 (some .int), Cond.methodLink RX5 64 yX4_hold, Cond.instanceMethod yX4_hold, Cond.selects RX4 yX4_hold yX4_hold, Cond.initialized RX4, Cond.code yX4_hold cX4_hold 2 (some .boolean), Cond.fieldLink RX4 28 "SortingLine$Things" "made" "I"]
def wsL_number_r2 : List Cond := [Cond.methodLink RX5 78 yX5_findingAt, Cond.instanceMethod yX5_findingAt, Cond.selects RX5 yX5_findingAt yX5_findingAt, Cond.code yX5_findingAt cX5_findingAt 4 (some .int), Cond.methodLink RX5 60 yX4_isOf, Cond.instanceMethod yX4_isOf, Cond.selects RX4 yX4_isOf yX4_isOf, Cond.code yX4_isOf cX4_isOf 3 (some .boolean), Cond.fieldLink RX4 9 "SortingLine$Things" "forms" "[I", Cond.methodLink RX4 36 yX4_hold, Cond.static yX5_alsoIs, Cond.code yX5_alsoIs cX5_alsoIs 2 (some .boolean), Cond.methodLink RX5 186 yX4_hasPlace, Cond.instanceMethod yX4_hasPlace, Cond.selects RX4 yX4_hasPlace yX4_hasPlace, Cond.code yX4_hasPlace cX4_hasPlace 3 (some .boolean), Cond.fieldLink RX4 18 "SortingLine$Things" "sizes" "[I", Cond.methodLink RX5 97 yX4_numberAt, Cond.instanceMethod yX4_numberAt, Cond.selects RX4 yX4_numberAt yX4_numberAt, Cond.code yX4_numberAt cX4_numberAt 3 (some .long), Cond.fieldLink RX4 21 "SortingLine$Things" "numbers" "[J", Cond.methodLink RX4 51 yX4_hasPlace]
def wsL_number : List Cond := .codeWith yL_number cL_number 6 (some .int) [(0, 11, 14, 13), (0, 11, 18, 15)] :: ((wsL_number_r1 ++ wsL_number_r2) ++ wsJx3273f0 ++ wsJx000600 ++ wsX50 ++ wsX40 ++ ([] : List Cond))
def wsL_law0_r1 : List Cond := [Cond.classLink RL 8 RX5, Cond.instantiable RX5 5, Cond.initialized RX5, Cond.classLink RL 18 RX6, Cond.instantiable RX6 23, Cond.initialized RX6, Cond.arrayClass .long, Cond.constantLong RL 47 (4294967295), Cond.methodLink RL 17 yX5_init, Cond.instanceMethod yX5_init, Cond.code yX5_init cX5_init 1 none, Cond.methodLink RX5 1 objectInit, Cond.instanceMethod objectInit, Cond.code objectInit ⟨#[0xb1]⟩ 1 none, Cond.classLink RX5 7 RX4, Cond.instantiable RX4 6, Cond.initialized RX4, Cond.fieldLink RX5 10 "SortingLine" "things" "LSortingLine$Things;", Cond.classLink RX5 16 RX2, Cond.instantiable RX2 5, Cond.initialized RX2, Cond.fieldLink RX5 19 "SortingLine" "stations" "LSortingLine$Stations;", Cond.classLink RX5 23 RX0, Cond.instantiable RX0 3]
def wsL_law0_r2 : List Cond := [Cond.initialized RX0, Cond.fieldLink RX5 26 "SortingLine" "onBelt" "LSortingLine$Belt;", Cond.classLink RX5 30 RX1, Cond.instantiable RX1 5, Cond.initialized RX1, Cond.fieldLink RX5 33 "SortingLine" "aside" "LSortingLine$Side;", Cond.classLink RX5 37 RX3, Cond.instantiable RX3 4, Cond.initialized RX3, Cond.fieldLink RX5 40 "SortingLine" "tally" "LSortingLine$Tally;", Cond.instanceMethod yX4_init, Cond.code yX4_init cX4_init 1 none, Cond.methodLink RX4 3 objectInit, Cond.arrayClass .int, Cond.fieldLink RX4 9 "SortingLine$Things" "forms" "[I", Cond.fieldLink RX4 15 "SortingLine$Things" "weights" "[I", Cond.fieldLink RX4 18 "SortingLine$Things" "sizes" "[I", Cond.fieldLink RX4 21 "SortingLine$Things" "numbers" "[J", Cond.fieldLink RX4 25 "SortingLine$Things" "members" "[I", Cond.fieldLink RX4 28 "SortingLine$Things" "made" "I", Cond.instanceMethod yX2_init, Cond.code yX2_init cX2_init 1 none, Cond.methodLink RX2 3 objectInit, Cond.fieldLink RX2 9 "SortingLine$Stations" "gates" "[I"]
def wsL_law0_r3 : List Cond := [Cond.fieldLink RX2 15 "SortingLine$Stations" "works" "[I", Cond.fieldLink RX2 18 "SortingLine$Stations" "totals" "[J", Cond.fieldLink RX2 22 "SortingLine$Stations" "slots" "[I", Cond.fieldLink RX2 25 "SortingLine$Stations" "made" "I", Cond.instanceMethod yX0_init, Cond.code yX0_init cX0_init 1 none, Cond.methodLink RX0 3 objectInit, Cond.fieldLink RX0 9 "SortingLine$Belt" "ring" "[I", Cond.fieldLink RX0 15 "SortingLine$Belt" "first" "I", Cond.fieldLink RX0 19 "SortingLine$Belt" "size" "I", Cond.instanceMethod yX1_init, Cond.code yX1_init cX1_init 1 none, Cond.methodLink RX1 3 objectInit, Cond.fieldLink RX1 9 "SortingLine$Side" "ofThings" "[I", Cond.fieldLink RX1 15 "SortingLine$Side" "ofStations" "[I", Cond.fieldLink RX1 18 "SortingLine$Side" "ofFindings" "[I", Cond.fieldLink RX1 21 "SortingLine$Side" "next" "I", Cond.fieldLink RX1 25 "SortingLine$Side" "size" "I", Cond.instanceMethod yX3_init, Cond.code yX3_init cX3_init 1 none, Cond.methodLink RX3 3 objectInit, Cond.fieldLink RX3 9 "SortingLine$Tally" "found" "[I", Cond.fieldLink RX3 15 "SortingLine$Tally" "worked" "I", Cond.fieldLink RX3 19 "SortingLine$Tally" "passed" "I"]
def wsL_law0_r4 : List Cond := [Cond.fieldLink RX3 22 "SortingLine$Tally" "failed" "I", Cond.methodLink RL 20 yX6_init, Cond.instanceMethod yX6_init, Cond.code yX6_init cX6_init 1 none, Cond.methodLink RX6 1 objectInit, Cond.fieldLink RX6 7 "SortingLineModel" "forms" "[I", Cond.fieldLink RX6 13 "SortingLineModel" "weights" "[I", Cond.fieldLink RX6 16 "SortingLineModel" "sizes" "[I", Cond.fieldLink RX6 19 "SortingLineModel" "numbers" "[J", Cond.fieldLink RX6 23 "SortingLineModel" "places" "[I", Cond.constant RX6 26 (65543), Cond.constant RX6 27 (65544), Cond.constant RX6 28 (32768), Cond.fieldLink RX6 29 "SortingLineModel" "kindsOf" "[I", Cond.fieldLink RX6 32 "SortingLineModel" "partOf" "[I", Cond.fieldLink RX6 35 "SortingLineModel" "wants" "[I", Cond.fieldLink RX6 38 "SortingLineModel" "belt" "[I", Cond.fieldLink RX6 41 "SortingLineModel" "gates" "[I", Cond.fieldLink RX6 44 "SortingLineModel" "works" "[I", Cond.fieldLink RX6 47 "SortingLineModel" "totals" "[J", Cond.fieldLink RX6 50 "SortingLineModel" "slots" "[I", Cond.fieldLink RX6 53 "SortingLineModel" "side" "[I", Cond.fieldLink RX6 56 "SortingLineModel" "findings" "[I", Cond.methodLink RL 21 yX5_thing]
def wsL_law0_r5 : List Cond := [Cond.instanceMethod yX5_thing, Cond.selects RX5 yX5_thing yX5_thing, Cond.code yX5_thing cX5_thing 3 (some .int), Cond.methodLink RX5 44 yX4_add, Cond.instanceMethod yX4_add, Cond.selects RX4 yX4_add yX4_add, Cond.code yX4_add cX4_add 6 (some .int), Cond.methodLink RX4 32 yX4_areFull, Cond.instanceMethod yX4_areFull, Cond.selects RX4 yX4_areFull yX4_areFull, Cond.code yX4_areFull cX4_areFull 1 (some .boolean), Cond.methodLink RL 25 yX6_thing, Cond.instanceMethod yX6_thing, Cond.selects RX6 yX6_thing yX6_thing, Cond.code yX6_thing cX6_thing 3 (some .int), Cond.fieldLink RX6 59 "SortingLineModel" "fault" "I", Cond.fieldLink RX6 63 "SortingLineModel" "things" "I", Cond.methodLink RX6 66 yX6_in, Cond.static yX6_in, Cond.code yX6_in cX6_in 3 (some .boolean), Cond.methodLink RX6 74 yX6_adds, Cond.instanceMethod yX6_adds, Cond.selects RX6 yX6_adds yX6_adds, Cond.code yX6_adds cX6_adds 5 (some .int)]
def wsL_law0_r6 : List Cond := [Cond.methodLink RL 26 yX5_row, Cond.instanceMethod yX5_row, Cond.selects RX5 yX5_row yX5_row, Cond.code yX5_row cX5_row 3 (some .int), Cond.methodLink RX5 48 yX4_areFull, Cond.methodLink RX5 52 yX5_answerOf, Cond.instanceMethod yX5_answerOf, Cond.selects RX5 yX5_answerOf yX5_answerOf, Cond.code yX5_answerOf cX5_answerOf 2 (some .int), Cond.methodLink RX5 182 yX3_addFinding, Cond.instanceMethod yX3_addFinding, Cond.selects RX3 yX3_addFinding yX3_addFinding, Cond.code yX3_addFinding cX3_addFinding 2 none, Cond.methodLink RL 29 yX6_row, Cond.instanceMethod yX6_row, Cond.selects RX6 yX6_row yX6_row, Cond.code yX6_row cX6_row 3 (some .int), Cond.methodLink RX6 78 yX6_found, Cond.instanceMethod yX6_found, Cond.selects RX6 yX6_found yX6_found, Cond.code yX6_found cX6_found 2 (some .int), Cond.methodLink RL 30 yX5_is, Cond.instanceMethod yX5_is, Cond.selects RX5 yX5_is yX5_is]
def wsL_law0_r7 : List Cond := [Cond.code yX5_is cX5_is 4 (some .int), Cond.methodLink RX5 56 yX5_refusalOf, Cond.instanceMethod yX5_refusalOf, Cond.selects RX5 yX5_refusalOf yX5_refusalOf, Cond.code yX5_refusalOf cX5_refusalOf 5 (some .int), Cond.methodLink RX5 64 yX4_hold, Cond.instanceMethod yX4_hold, Cond.selects RX4 yX4_hold yX4_hold, Cond.code yX4_hold cX4_hold 2 (some .boolean), Cond.methodLink RX5 60 yX4_isOf, Cond.instanceMethod yX4_isOf, Cond.selects RX4 yX4_isOf yX4_isOf, Cond.code yX4_isOf cX4_isOf 3 (some .boolean), Cond.methodLink RX4 36 yX4_hold, Cond.static yX5_alsoIs, Cond.code yX5_alsoIs cX5_alsoIs 2 (some .boolean), Cond.methodLink RL 33 yX6_is, Cond.instanceMethod yX6_is, Cond.selects RX6 yX6_is yX6_is, Cond.code yX6_is cX6_is 3 (some .int), Cond.methodLink RX6 82 yX6_isThing, Cond.instanceMethod yX6_isThing, Cond.selects RX6 yX6_isThing yX6_isThing, Cond.code yX6_isThing cX6_isThing 2 (some .boolean)]
def wsL_law0_r8 : List Cond := [Cond.methodLink RX6 70 yX6_isOf, Cond.instanceMethod yX6_isOf, Cond.selects RX6 yX6_isOf yX6_isOf, Cond.code yX6_isOf cX6_isOf 3 (some .boolean), Cond.methodLink RL 34 yX5_more, Cond.instanceMethod yX5_more, Cond.selects RX5 yX5_more yX5_more, Cond.code yX5_more cX5_more 3 (some .int), Cond.methodLink RX5 68 yX4_formOf, Cond.instanceMethod yX4_formOf, Cond.selects RX4 yX4_formOf yX4_formOf, Cond.code yX4_formOf cX4_formOf 2 (some .int), Cond.methodLink RL 38 yX6_more, Cond.instanceMethod yX6_more, Cond.selects RX6 yX6_more yX6_more, Cond.code yX6_more cX6_more 3 (some .int), Cond.methodLink RL 39 yX5_weight, Cond.instanceMethod yX5_weight, Cond.selects RX5 yX5_weight yX5_weight, Cond.code yX5_weight cX5_weight 4 (some .int), Cond.constant RX5 71 (-2000000000), Cond.methodLink RX5 72 yX4_weightOf, Cond.instanceMethod yX4_weightOf, Cond.selects RX4 yX4_weightOf yX4_weightOf]
def wsL_law0_r9 : List Cond := [Cond.code yX4_weightOf cX4_weightOf 2 (some .int), Cond.methodLink RL 42 yX6_weight, Cond.instanceMethod yX6_weight, Cond.selects RX6 yX6_weight yX6_weight, Cond.code yX6_weight cX6_weight 3 (some .int), Cond.constant RX6 86 (-2000000001), Cond.constant RX6 87 (-2000000002), Cond.constant RX6 88 (-2000000000), Cond.methodLink RL 43 yX5_length, Cond.instanceMethod yX5_length, Cond.selects RX5 yX5_length yX5_length, Cond.code yX5_length cX5_length 4 (some .int), Cond.methodLink RX5 75 yX4_sizeOf, Cond.instanceMethod yX4_sizeOf, Cond.selects RX4 yX4_sizeOf yX4_sizeOf, Cond.code yX4_sizeOf cX4_sizeOf 2 (some .int), Cond.methodLink RL 46 yX6_length, Cond.instanceMethod yX6_length, Cond.selects RX6 yX6_length yX6_length, Cond.code yX6_length cX6_length 4 (some .int), Cond.methodLink RX6 89 yX6_refusal, Cond.instanceMethod yX6_refusal, Cond.selects RX6 yX6_refusal yX6_refusal, Cond.code yX6_refusal cX6_refusal 5 (some .int)]
def wsL_law0_r10 : List Cond := [Cond.methodLink RL 49 yX5_put, Cond.instanceMethod yX5_put, Cond.selects RX5 yX5_put yX5_put, Cond.code yX5_put cX5_put 8 (some .int), Cond.methodLink RX5 78 yX5_findingAt, Cond.instanceMethod yX5_findingAt, Cond.selects RX5 yX5_findingAt yX5_findingAt, Cond.code yX5_findingAt cX5_findingAt 4 (some .int), Cond.methodLink RX5 186 yX4_hasPlace, Cond.instanceMethod yX4_hasPlace, Cond.selects RX4 yX4_hasPlace yX4_hasPlace, Cond.code yX4_hasPlace cX4_hasPlace 3 (some .boolean), Cond.methodLink RX5 81 yX4_setNumber, Cond.instanceMethod yX4_setNumber, Cond.selects RX4 yX4_setNumber yX4_setNumber, Cond.code yX4_setNumber cX4_setNumber 5 none, Cond.methodLink RX4 51 yX4_hasPlace, Cond.methodLink RL 53 yX6_put, Cond.instanceMethod yX6_put, Cond.selects RX6 yX6_put yX6_put, Cond.code yX6_put cX6_put 7 (some .int), Cond.methodLink RX6 93 yX6_low, Cond.static yX6_low, Cond.code yX6_low cX6_low 3 (some .long)]
def wsL_law0_r11 : List Cond := [Cond.methodLink RL 54 yL_number, Cond.static yL_number, Cond.initialized RL, Cond.codeWith yL_number cL_number 6 (some .int) [(0, 11, 14, 13), (0, 11, 18, 15)], Cond.classLink RL 13 "java/lang/ClassCastException", Cond.classLink RL 15 "java/lang/ArrayIndexOutOfBoundsException", Cond.methodLink RL 7 yX5_number, Cond.instanceMethod yX5_number, Cond.selects RX5 yX5_number yX5_number, Cond.code yX5_number cX5_number 5 (some .long), Cond.classLink RX5 85 RJx3273f, Cond.instantiable RJx3273f 6, Cond.initialized RJx3273f, Cond.classLink RX5 92 RJx00060, Cond.instantiable RJx00060 6, Cond.initialized RJx00060, Cond.methodLink RX5 97 yX4_numberAt, Cond.instanceMethod yX4_numberAt, Cond.selects RX4 yX4_numberAt yX4_numberAt, Cond.code yX4_numberAt cX4_numberAt 3 (some .long), Cond.methodLink RL 59 yX6_number, Cond.instanceMethod yX6_number, Cond.selects RX6 yX6_number yX6_number, Cond.code yX6_number cX6_number 4 (some .long)]
def wsL_law0_r12 : List Cond := [Cond.methodLink RL 60 yX6_thrown, Cond.instanceMethod yX6_thrown, Cond.selects RX6 yX6_thrown yX6_thrown, Cond.code yX6_thrown cX6_thrown 1 (some .int), Cond.methodLink RL 64 yX5_lay, Cond.instanceMethod yX5_lay, Cond.selects RX5 yX5_lay yX5_lay, Cond.code yX5_lay cX5_lay 7 (some .int), Cond.methodLink RX5 101 yX5_memberKind, Cond.static yX5_memberKind, Cond.code yX5_memberKind cX5_memberKind 1 (some .int), Cond.methodLink RX5 104 yX5_layInto, Cond.instanceMethod yX5_layInto, Cond.selects RX5 yX5_layInto yX5_layInto, Cond.code yX5_layInto cX5_layInto 5 (some .int), Cond.methodLink RX5 189 yX4_setMember, Cond.instanceMethod yX4_setMember, Cond.selects RX4 yX4_setMember yX4_setMember, Cond.code yX4_setMember cX4_setMember 4 none, Cond.methodLink RL 68 yX6_lay, Cond.instanceMethod yX6_lay, Cond.selects RX6 yX6_lay yX6_lay, Cond.code yX6_lay cX6_lay 6 (some .int), Cond.methodLink RX6 100 yX6_lays]
def wsL_law0_r13 : List Cond := [Cond.instanceMethod yX6_lays, Cond.selects RX6 yX6_lays yX6_lays, Cond.code yX6_lays cX6_lays 5 (some .int), Cond.methodLink RX6 97 yX6_passes, Cond.instanceMethod yX6_passes, Cond.selects RX6 yX6_passes yX6_passes, Cond.code yX6_passes cX6_passes 3 (some .boolean), Cond.methodLink RL 69 yX5_place, Cond.instanceMethod yX5_place, Cond.selects RX5 yX5_place yX5_place, Cond.code yX5_place cX5_place 6 (some .int), Cond.methodLink RX5 107 yX4_memberAt, Cond.instanceMethod yX4_memberAt, Cond.selects RX4 yX4_memberAt yX4_memberAt, Cond.code yX4_memberAt cX4_memberAt 3 (some .int), Cond.methodLink RL 73 yX6_place, Cond.instanceMethod yX6_place, Cond.selects RX6 yX6_place yX6_place, Cond.code yX6_place cX6_place 5 (some .int), Cond.methodLink RX6 103 yX6_told, Cond.static yX6_told, Cond.code yX6_told cX6_told 1 (some .int), Cond.methodLink RL 74 yX5_station, Cond.instanceMethod yX5_station]
def wsL_law0_r14 : List Cond := [Cond.selects RX5 yX5_station yX5_station, Cond.code yX5_station cX5_station 3 (some .int), Cond.methodLink RX5 111 yX2_add, Cond.instanceMethod yX2_add, Cond.selects RX2 yX2_add yX2_add, Cond.code yX2_add cX2_add 4 (some .int), Cond.methodLink RL 77 yX6_station, Cond.instanceMethod yX6_station, Cond.selects RX6 yX6_station yX6_station, Cond.code yX6_station cX6_station 3 (some .int), Cond.fieldLink RX6 106 "SortingLineModel" "stations" "I", Cond.methodLink RL 78 yX5_send, Cond.instanceMethod yX5_send, Cond.selects RX5 yX5_send yX5_send, Cond.code yX5_send cX5_send 2 (some .int), Cond.methodLink RX5 113 yX0_append, Cond.instanceMethod yX0_append, Cond.selects RX0 yX0_append yX0_append, Cond.code yX0_append cX0_append 2 (some .boolean), Cond.methodLink RX5 116 yX0_size, Cond.instanceMethod yX0_size, Cond.selects RX0 yX0_size yX0_size, Cond.code yX0_size cX0_size 1 (some .int), Cond.methodLink RL 81 yX6_send]
def wsL_law0_r15 : List Cond := [Cond.instanceMethod yX6_send, Cond.selects RX6 yX6_send yX6_send, Cond.code yX6_send cX6_send 2 (some .int), Cond.fieldLink RX6 109 "SortingLineModel" "onBelt" "I", Cond.methodLink RX6 112 yX6_comes, Cond.instanceMethod yX6_comes, Cond.selects RX6 yX6_comes yX6_comes, Cond.code yX6_comes cX6_comes 2 none, Cond.methodLink RL 82 yX5_step, Cond.instanceMethod yX5_step, Cond.selects RX5 yX5_step yX5_step, Cond.code yX5_step cX5_step 4 (some .int), Cond.methodLink RX5 120 yX0_takeFirst, Cond.instanceMethod yX0_takeFirst, Cond.selects RX0 yX0_takeFirst yX0_takeFirst, Cond.code yX0_takeFirst cX0_takeFirst 2 (some .int), Cond.methodLink RX5 123 yX5_stationFor, Cond.instanceMethod yX5_stationFor, Cond.selects RX5 yX5_stationFor yX5_stationFor, Cond.code yX5_stationFor cX5_stationFor 3 (some .int), Cond.methodLink RX5 161 yX2_howMany, Cond.instanceMethod yX2_howMany, Cond.selects RX2 yX2_howMany yX2_howMany, Cond.code yX2_howMany cX2_howMany 1 (some .int)]
def wsL_law0_r16 : List Cond := [Cond.methodLink RX5 192 yX2_gateOf, Cond.instanceMethod yX2_gateOf, Cond.selects RX2 yX2_gateOf yX2_gateOf, Cond.code yX2_gateOf cX2_gateOf 2 (some .int), Cond.methodLink RX2 29 yX2_hold, Cond.instanceMethod yX2_hold, Cond.selects RX2 yX2_hold yX2_hold, Cond.code yX2_hold cX2_hold 2 (some .boolean), Cond.methodLink RX5 126 yX3_addPassed, Cond.instanceMethod yX3_addPassed, Cond.selects RX3 yX3_addPassed yX3_addPassed, Cond.code yX3_addPassed cX3_addPassed 1 none, Cond.methodLink RX5 129 yX5_workOn, Cond.instanceMethod yX5_workOn, Cond.selects RX5 yX5_workOn yX5_workOn, Cond.code yX5_workOn cX5_workOn 4 (some .int), Cond.methodLink RX5 195 yX2_workOf, Cond.instanceMethod yX2_workOf, Cond.selects RX2 yX2_workOf yX2_workOf, Cond.code yX2_workOf cX2_workOf 2 (some .int), Cond.methodLink RX5 198 yX5_kindForWork, Cond.static yX5_kindForWork, Cond.code yX5_kindForWork cX5_kindForWork 1 (some .int), Cond.methodLink RX5 201 yX5_weigh]
def wsL_law0_r17 : List Cond := [Cond.instanceMethod yX5_weigh, Cond.selects RX5 yX5_weigh yX5_weigh, Cond.code yX5_weigh cX5_weigh 3 (some .int), Cond.methodLink RX5 232 yX2_grow, Cond.instanceMethod yX2_grow, Cond.selects RX2 yX2_grow yX2_grow, Cond.code yX2_grow cX2_grow 4 none, Cond.methodLink RX5 229 yX5_keep, Cond.instanceMethod yX5_keep, Cond.selects RX5 yX5_keep yX5_keep, Cond.code yX5_keep cX5_keep 3 (some .int), Cond.methodLink RX5 235 yX2_setSlot, Cond.instanceMethod yX2_setSlot, Cond.selects RX2 yX2_setSlot yX2_setSlot, Cond.code yX2_setSlot cX2_setSlot 3 none, Cond.methodLink RX5 204 yX4_keyOf, Cond.instanceMethod yX4_keyOf, Cond.selects RX4 yX4_keyOf yX4_keyOf, Cond.code yX4_keyOf cX4_keyOf 2 (some .int), Cond.methodLink RX4 44 yX4_formOf, Cond.methodLink RX4 48 yX4_weightOf, Cond.methodLink RX5 207 yX5_grow, Cond.instanceMethod yX5_grow, Cond.selects RX5 yX5_grow yX5_grow]
def wsL_law0_r18 : List Cond := [Cond.code yX5_grow cX5_grow 4 (some .int), Cond.methodLink RX5 211 yX4_sumOfNumbers, Cond.instanceMethod yX4_sumOfNumbers, Cond.selects RX4 yX4_sumOfNumbers yX4_sumOfNumbers, Cond.code yX4_sumOfNumbers cX4_sumOfNumbers 5 (some .long), Cond.methodLink RX4 54 yX4_sizeOf, Cond.methodLink RX4 57 yX4_numberAt, Cond.methodLink RX5 214 yX5_addMembers, Cond.instanceMethod yX5_addMembers, Cond.selects RX5 yX5_addMembers yX5_addMembers, Cond.code yX5_addMembers cX5_addMembers 8 (some .int), Cond.methodLink RX5 217 yX5_pack, Cond.instanceMethod yX5_pack, Cond.selects RX5 yX5_pack yX5_pack, Cond.code yX5_pack cX5_pack 4 (some .int), Cond.methodLink RX5 149 yX2_slotOf, Cond.instanceMethod yX2_slotOf, Cond.selects RX2 yX2_slotOf yX2_slotOf, Cond.code yX2_slotOf cX2_slotOf 2 (some .int), Cond.methodLink RX5 220 yX5_addCorner, Cond.instanceMethod yX5_addCorner, Cond.selects RX5 yX5_addCorner yX5_addCorner, Cond.code yX5_addCorner cX5_addCorner 7 (some .int), Cond.methodLink RX5 239 yX5_findingAtFirst]
def wsL_law0_r19 : List Cond := [Cond.instanceMethod yX5_findingAtFirst, Cond.selects RX5 yX5_findingAtFirst yX5_findingAtFirst, Cond.code yX5_findingAtFirst cX5_findingAtFirst 2 (some .int), Cond.methodLink RX5 223 yX5_addCell, Cond.instanceMethod yX5_addCell, Cond.selects RX5 yX5_addCell yX5_addCell, Cond.code yX5_addCell cX5_addCell 5 (some .int), Cond.methodLink RX5 226 yX5_spill, Cond.instanceMethod yX5_spill, Cond.selects RX5 yX5_spill yX5_spill, Cond.code yX5_spill cX5_spill 4 (some .int), Cond.methodLink RX5 132 yX1_add, Cond.instanceMethod yX1_add, Cond.selects RX1 yX1_add yX1_add, Cond.code yX1_add cX1_add 4 none, Cond.methodLink RX1 28 Lib.Math.min.name, Cond.static Lib.Math.min.name, Cond.initialized "java/lang/Math", Cond.code Lib.Math.min.name Lib.Math.min.code 2 (some .int), Cond.methodLink RX5 135 yX3_addFailed, Cond.instanceMethod yX3_addFailed, Cond.selects RX3 yX3_addFailed yX3_addFailed, Cond.code yX3_addFailed cX3_addFailed 1 none, Cond.methodLink RX5 138 yX3_addWorked]
def wsL_law0_r20 : List Cond := [Cond.instanceMethod yX3_addWorked, Cond.selects RX3 yX3_addWorked yX3_addWorked, Cond.code yX3_addWorked cX3_addWorked 1 none, Cond.methodLink RL 85 yX6_step, Cond.instanceMethod yX6_step, Cond.selects RX6 yX6_step yX6_step, Cond.code yX6_step cX6_step 1 (some .int), Cond.methodLink RX6 157 yX6_steps, Cond.instanceMethod yX6_steps, Cond.selects RX6 yX6_steps yX6_steps, Cond.code yX6_steps cX6_steps 4 (some .int), Cond.fieldLink RX6 142 "SortingLineModel" "passed" "I", Cond.fieldLink RX6 147 "SortingLineModel" "worked" "I", Cond.fieldLink RX6 150 "SortingLineModel" "failed" "I", Cond.methodLink RX6 145 yX6_works, Cond.instanceMethod yX6_works, Cond.selects RX6 yX6_works yX6_works, Cond.code yX6_works cX6_works 5 (some .int), Cond.methodLink RX6 116 yX6_keyOf, Cond.instanceMethod yX6_keyOf, Cond.selects RX6 yX6_keyOf yX6_keyOf, Cond.code yX6_keyOf cX6_keyOf 2 (some .int), Cond.methodLink RX6 123 yX6_heaps, Cond.instanceMethod yX6_heaps]
def wsL_law0_r21 : List Cond := [Cond.selects RX6 yX6_heaps yX6_heaps, Cond.code yX6_heaps cX6_heaps 8 (some .int), Cond.methodLink RX6 127 yX6_packs, Cond.instanceMethod yX6_packs, Cond.selects RX6 yX6_packs yX6_packs, Cond.code yX6_packs cX6_packs 4 (some .int), Cond.methodLink RX6 130 yX6_weighs, Cond.instanceMethod yX6_weighs, Cond.selects RX6 yX6_weighs yX6_weighs, Cond.code yX6_weighs cX6_weighs 5 (some .int), Cond.methodLink RX6 119 yX6_corner, Cond.instanceMethod yX6_corner, Cond.selects RX6 yX6_corner yX6_corner, Cond.code yX6_corner cX6_corner 5 (some .int), Cond.methodLink RX6 133 yX6_cell, Cond.instanceMethod yX6_cell, Cond.selects RX6 yX6_cell yX6_cell, Cond.code yX6_cell cX6_cell 4 (some .int), Cond.methodLink RX6 136 yX6_spills, Cond.instanceMethod yX6_spills, Cond.selects RX6 yX6_spills yX6_spills, Cond.code yX6_spills cX6_spills 4 (some .int), Cond.methodLink RX6 153 yX6_goesAside, Cond.instanceMethod yX6_goesAside]
def wsL_law0_r22 : List Cond := [Cond.selects RX6 yX6_goesAside yX6_goesAside, Cond.code yX6_goesAside cX6_goesAside 5 none, Cond.fieldLink RX6 139 "SortingLineModel" "aside" "I", Cond.methodLink RL 86 yX5_run, Cond.instanceMethod yX5_run, Cond.selects RX5 yX5_run yX5_run, Cond.code yX5_run cX5_run 4 (some .int), Cond.methodLink RX5 141 yX5_step, Cond.methodLink RL 89 yX6_run, Cond.instanceMethod yX6_run, Cond.selects RX6 yX6_run yX6_run, Cond.code yX6_run cX6_run 4 (some .int), Cond.methodLink RL 90 yX5_total, Cond.instanceMethod yX5_total, Cond.selects RX5 yX5_total yX5_total, Cond.code yX5_total cX5_total 2 (some .long), Cond.methodLink RX5 144 yX2_totalOf, Cond.instanceMethod yX2_totalOf, Cond.selects RX2 yX2_totalOf yX2_totalOf, Cond.code yX2_totalOf cX2_totalOf 2 (some .long), Cond.methodLink RL 94 yX6_total, Cond.instanceMethod yX6_total, Cond.selects RX6 yX6_total yX6_total, Cond.code yX6_total cX6_total 2 (some .long)]
def wsL_law0_r23 : List Cond := [Cond.methodLink RL 95 yX5_slot, Cond.instanceMethod yX5_slot, Cond.selects RX5 yX5_slot yX5_slot, Cond.code yX5_slot cX5_slot 2 (some .int), Cond.methodLink RX5 148 yX2_hold, Cond.methodLink RL 98 yX6_slot, Cond.instanceMethod yX6_slot, Cond.selects RX6 yX6_slot yX6_slot, Cond.code yX6_slot cX6_slot 2 (some .int), Cond.methodLink RL 99 yX5_belt, Cond.instanceMethod yX5_belt, Cond.selects RX5 yX5_belt yX5_belt, Cond.code yX5_belt cX5_belt 2 (some .int), Cond.methodLink RX5 152 yX0_thingAt, Cond.instanceMethod yX0_thingAt, Cond.selects RX0 yX0_thingAt yX0_thingAt, Cond.code yX0_thingAt cX0_thingAt 2 (some .int), Cond.methodLink RL 102 yX6_belt, Cond.instanceMethod yX6_belt, Cond.selects RX6 yX6_belt yX6_belt, Cond.code yX6_belt cX6_belt 2 (some .int), Cond.methodLink RL 103 yX5_side, Cond.instanceMethod yX5_side, Cond.selects RX5 yX5_side yX5_side]
def wsL_law0_r24 : List Cond := [Cond.code yX5_side cX5_side 3 (some .int), Cond.methodLink RX5 155 yX1_tell, Cond.instanceMethod yX1_tell, Cond.selects RX1 yX1_tell yX1_tell, Cond.code yX1_tell cX1_tell 4 (some .int), Cond.methodLink RL 106 yX6_side, Cond.instanceMethod yX6_side, Cond.selects RX6 yX6_side yX6_side, Cond.code yX6_side cX6_side 3 (some .int), Cond.methodLink RL 107 yX5_count, Cond.instanceMethod yX5_count, Cond.selects RX5 yX5_count yX5_count, Cond.code yX5_count cX5_count 2 (some .int), Cond.methodLink RX5 158 yX4_howMany, Cond.instanceMethod yX4_howMany, Cond.selects RX4 yX4_howMany yX4_howMany, Cond.code yX4_howMany cX4_howMany 1 (some .int), Cond.methodLink RX5 172 yX3_foundOf, Cond.instanceMethod yX3_foundOf, Cond.selects RX3 yX3_foundOf yX3_foundOf, Cond.code yX3_foundOf cX3_foundOf 2 (some .int), Cond.methodLink RL 110 yX6_count, Cond.instanceMethod yX6_count, Cond.selects RX6 yX6_count yX6_count]
def wsL_law0_r25 : List Cond := [Cond.code yX6_count cX6_count 2 (some .int), Cond.methodLink RL 111 yX5_clear, Cond.instanceMethod yX5_clear, Cond.selects RX5 yX5_clear yX5_clear, Cond.code yX5_clear cX5_clear 2 (some .int), Cond.methodLink RX5 175 yX4_forget, Cond.instanceMethod yX4_forget, Cond.selects RX4 yX4_forget yX4_forget, Cond.code yX4_forget cX4_forget 1 none, Cond.methodLink RX5 178 yX2_forget, Cond.instanceMethod yX2_forget, Cond.selects RX2 yX2_forget yX2_forget, Cond.code yX2_forget cX2_forget 1 none, Cond.methodLink RX5 179 yX0_forget, Cond.instanceMethod yX0_forget, Cond.selects RX0 yX0_forget yX0_forget, Cond.code yX0_forget cX0_forget 1 none, Cond.methodLink RX5 180 yX1_forget, Cond.instanceMethod yX1_forget, Cond.selects RX1 yX1_forget yX1_forget, Cond.code yX1_forget cX1_forget 1 none, Cond.methodLink RX5 181 yX3_forget, Cond.instanceMethod yX3_forget, Cond.selects RX3 yX3_forget yX3_forget]
def wsL_law0_r26 : List Cond := [Cond.code yX3_forget cX3_forget 2 none, Cond.methodLink RL 114 yX6_clear, Cond.instanceMethod yX6_clear, Cond.selects RX6 yX6_clear yX6_clear, Cond.code yX6_clear cX6_clear 3 (some .int)]
def wsL_law0 : List Cond := (wsL_law0_r1 ++ (wsL_law0_r2 ++ (wsL_law0_r3 ++ (wsL_law0_r4 ++ (wsL_law0_r5 ++ (wsL_law0_r6 ++ (wsL_law0_r7 ++ (wsL_law0_r8 ++ (wsL_law0_r9 ++ (wsL_law0_r10 ++ (wsL_law0_r11 ++ (wsL_law0_r12 ++ (wsL_law0_r13 ++ (wsL_law0_r14 ++ (wsL_law0_r15 ++ (wsL_law0_r16 ++ (wsL_law0_r17 ++ (wsL_law0_r18 ++ (wsL_law0_r19 ++ (wsL_law0_r20 ++ (wsL_law0_r21 ++ (wsL_law0_r22 ++ (wsL_law0_r23 ++ (wsL_law0_r24 ++ (wsL_law0_r25 ++ wsL_law0_r26))))))))))))))))))))))))) ++ wsX50 ++ wsX60 ++ wsX40 ++ wsX20 ++ wsX00 ++ wsX10 ++ wsX30 ++ wsJx3273f0 ++ wsJx000600 ++ ([] : List Cond)
def wsL_law : List Cond := wsL_law0 ++ ([] : List Cond)
end
section
theorem dX0_init_0 : decode cX0_init 0 = .ok (.aload_n 0, 1) := by decide +kernel
theorem dX0_init_1 : decode cX0_init 1 = .ok (.invokespecial 3, 3) := by decide +kernel
theorem dX0_init_4 : decode cX0_init 4 = .ok (.aload_n 0, 1) := by decide +kernel
theorem dX0_init_5 : decode cX0_init 5 = .ok (.bipush 40, 2) := by decide +kernel
theorem dX0_init_7 : decode cX0_init 7 = .ok (.newarray .int, 2) := by decide +kernel
theorem dX0_init_9 : decode cX0_init 9 = .ok (.putfield 9, 3) := by decide +kernel
theorem dX0_init_12 : decode cX0_init 12 = .ok (.aload_n 0, 1) := by decide +kernel
theorem dX0_init_13 : decode cX0_init 13 = .ok (.iconst 0, 1) := by decide +kernel
theorem dX0_init_14 : decode cX0_init 14 = .ok (.putfield 15, 3) := by decide +kernel
theorem dX0_init_17 : decode cX0_init 17 = .ok (.aload_n 0, 1) := by decide +kernel
theorem dX0_init_18 : decode cX0_init 18 = .ok (.iconst 0, 1) := by decide +kernel
theorem dX0_init_19 : decode cX0_init 19 = .ok (.putfield 19, 3) := by decide +kernel
theorem dX0_init_22 : decode cX0_init 22 = .ok (.return_, 1) := by decide +kernel
theorem dX0_size_0 : decode cX0_size 0 = .ok (.aload_n 0, 1) := by decide +kernel
theorem dX0_size_1 : decode cX0_size 1 = .ok (.getfield 19, 3) := by decide +kernel
theorem dX0_size_4 : decode cX0_size 4 = .ok (.ireturn, 1) := by decide +kernel
theorem dX0_append_0 : decode cX0_append 0 = .ok (.aload_n 0, 1) := by decide +kernel
theorem dX0_append_1 : decode cX0_append 1 = .ok (.getfield 19, 3) := by decide +kernel
theorem dX0_append_4 : decode cX0_append 4 = .ok (.bipush 40, 2) := by decide +kernel
theorem dX0_append_6 : decode cX0_append 6 = .ok (.if_icmp .lt 5, 3) := by decide +kernel
theorem dX0_append_9 : decode cX0_append 9 = .ok (.iconst 0, 1) := by decide +kernel
theorem dX0_append_10 : decode cX0_append 10 = .ok (.ireturn, 1) := by decide +kernel
theorem dX0_append_11 : decode cX0_append 11 = .ok (.aload_n 0, 1) := by decide +kernel
theorem dX0_append_12 : decode cX0_append 12 = .ok (.getfield 9, 3) := by decide +kernel
theorem dX0_append_15 : decode cX0_append 15 = .ok (.aload_n 0, 1) := by decide +kernel
theorem dX0_append_16 : decode cX0_append 16 = .ok (.getfield 15, 3) := by decide +kernel
theorem dX0_append_19 : decode cX0_append 19 = .ok (.aload_n 0, 1) := by decide +kernel
theorem dX0_append_20 : decode cX0_append 20 = .ok (.getfield 19, 3) := by decide +kernel
theorem dX0_append_23 : decode cX0_append 23 = .ok (.iadd, 1) := by decide +kernel
theorem dX0_append_24 : decode cX0_append 24 = .ok (.bipush 40, 2) := by decide +kernel
theorem dX0_append_26 : decode cX0_append 26 = .ok (.irem, 1) := by decide +kernel
theorem dX0_append_27 : decode cX0_append 27 = .ok (.iload_n 1, 1) := by decide +kernel
theorem dX0_append_28 : decode cX0_append 28 = .ok (.iastore, 1) := by decide +kernel
theorem dX0_append_29 : decode cX0_append 29 = .ok (.aload_n 0, 1) := by decide +kernel
theorem dX0_append_30 : decode cX0_append 30 = .ok (.dup, 1) := by decide +kernel
theorem dX0_append_31 : decode cX0_append 31 = .ok (.getfield 19, 3) := by decide +kernel
theorem dX0_append_34 : decode cX0_append 34 = .ok (.iconst 1, 1) := by decide +kernel
theorem dX0_append_35 : decode cX0_append 35 = .ok (.iadd, 1) := by decide +kernel
theorem dX0_append_36 : decode cX0_append 36 = .ok (.putfield 19, 3) := by decide +kernel
theorem dX0_append_39 : decode cX0_append 39 = .ok (.iconst 1, 1) := by decide +kernel
theorem dX0_append_40 : decode cX0_append 40 = .ok (.ireturn, 1) := by decide +kernel
theorem dX0_thingAt_0 : decode cX0_thingAt 0 = .ok (.iload_n 1, 1) := by decide +kernel
theorem dX0_thingAt_1 : decode cX0_thingAt 1 = .ok (.ifCond .lt 28, 3) := by decide +kernel
theorem dX0_thingAt_4 : decode cX0_thingAt 4 = .ok (.iload_n 1, 1) := by decide +kernel
theorem dX0_thingAt_5 : decode cX0_thingAt 5 = .ok (.aload_n 0, 1) := by decide +kernel
theorem dX0_thingAt_6 : decode cX0_thingAt 6 = .ok (.getfield 19, 3) := by decide +kernel
theorem dX0_thingAt_9 : decode cX0_thingAt 9 = .ok (.if_icmp .ge 20, 3) := by decide +kernel
theorem dX0_thingAt_12 : decode cX0_thingAt 12 = .ok (.aload_n 0, 1) := by decide +kernel
theorem dX0_thingAt_13 : decode cX0_thingAt 13 = .ok (.getfield 9, 3) := by decide +kernel
theorem dX0_thingAt_16 : decode cX0_thingAt 16 = .ok (.aload_n 0, 1) := by decide +kernel
theorem dX0_thingAt_17 : decode cX0_thingAt 17 = .ok (.getfield 15, 3) := by decide +kernel
theorem dX0_thingAt_20 : decode cX0_thingAt 20 = .ok (.iload_n 1, 1) := by decide +kernel
theorem dX0_thingAt_21 : decode cX0_thingAt 21 = .ok (.iadd, 1) := by decide +kernel
theorem dX0_thingAt_22 : decode cX0_thingAt 22 = .ok (.bipush 40, 2) := by decide +kernel
theorem dX0_thingAt_24 : decode cX0_thingAt 24 = .ok (.irem, 1) := by decide +kernel
theorem dX0_thingAt_25 : decode cX0_thingAt 25 = .ok (.iaload, 1) := by decide +kernel
theorem dX0_thingAt_26 : decode cX0_thingAt 26 = .ok (.goto 5, 3) := by decide +kernel
theorem dX0_thingAt_29 : decode cX0_thingAt 29 = .ok (.bipush (-5), 2) := by decide +kernel
theorem dX0_thingAt_31 : decode cX0_thingAt 31 = .ok (.ireturn, 1) := by decide +kernel
theorem dX0_takeFirst_0 : decode cX0_takeFirst 0 = .ok (.aload_n 0, 1) := by decide +kernel
theorem dX0_takeFirst_1 : decode cX0_takeFirst 1 = .ok (.getfield 19, 3) := by decide +kernel
theorem dX0_takeFirst_4 : decode cX0_takeFirst 4 = .ok (.ifCond .ne 6, 3) := by decide +kernel
theorem dX0_takeFirst_7 : decode cX0_takeFirst 7 = .ok (.bipush (-5), 2) := by decide +kernel
theorem dX0_takeFirst_9 : decode cX0_takeFirst 9 = .ok (.ireturn, 1) := by decide +kernel
theorem dX0_takeFirst_10 : decode cX0_takeFirst 10 = .ok (.aload_n 0, 1) := by decide +kernel
theorem dX0_takeFirst_11 : decode cX0_takeFirst 11 = .ok (.getfield 9, 3) := by decide +kernel
theorem dX0_takeFirst_14 : decode cX0_takeFirst 14 = .ok (.aload_n 0, 1) := by decide +kernel
theorem dX0_takeFirst_15 : decode cX0_takeFirst 15 = .ok (.getfield 15, 3) := by decide +kernel
theorem dX0_takeFirst_18 : decode cX0_takeFirst 18 = .ok (.iaload, 1) := by decide +kernel
theorem dX0_takeFirst_19 : decode cX0_takeFirst 19 = .ok (.istore_n 1, 1) := by decide +kernel
theorem dX0_takeFirst_20 : decode cX0_takeFirst 20 = .ok (.aload_n 0, 1) := by decide +kernel
theorem dX0_takeFirst_21 : decode cX0_takeFirst 21 = .ok (.aload_n 0, 1) := by decide +kernel
theorem dX0_takeFirst_22 : decode cX0_takeFirst 22 = .ok (.getfield 15, 3) := by decide +kernel
theorem dX0_takeFirst_25 : decode cX0_takeFirst 25 = .ok (.iconst 1, 1) := by decide +kernel
theorem dX0_takeFirst_26 : decode cX0_takeFirst 26 = .ok (.iadd, 1) := by decide +kernel
theorem dX0_takeFirst_27 : decode cX0_takeFirst 27 = .ok (.bipush 40, 2) := by decide +kernel
theorem dX0_takeFirst_29 : decode cX0_takeFirst 29 = .ok (.irem, 1) := by decide +kernel
theorem dX0_takeFirst_30 : decode cX0_takeFirst 30 = .ok (.putfield 15, 3) := by decide +kernel
theorem dX0_takeFirst_33 : decode cX0_takeFirst 33 = .ok (.aload_n 0, 1) := by decide +kernel
theorem dX0_takeFirst_34 : decode cX0_takeFirst 34 = .ok (.dup, 1) := by decide +kernel
theorem dX0_takeFirst_35 : decode cX0_takeFirst 35 = .ok (.getfield 19, 3) := by decide +kernel
theorem dX0_takeFirst_38 : decode cX0_takeFirst 38 = .ok (.iconst 1, 1) := by decide +kernel
theorem dX0_takeFirst_39 : decode cX0_takeFirst 39 = .ok (.isub, 1) := by decide +kernel
theorem dX0_takeFirst_40 : decode cX0_takeFirst 40 = .ok (.putfield 19, 3) := by decide +kernel
theorem dX0_takeFirst_43 : decode cX0_takeFirst 43 = .ok (.iload_n 1, 1) := by decide +kernel
theorem dX0_takeFirst_44 : decode cX0_takeFirst 44 = .ok (.ireturn, 1) := by decide +kernel
theorem dX0_forget_0 : decode cX0_forget 0 = .ok (.aload_n 0, 1) := by decide +kernel
theorem dX0_forget_1 : decode cX0_forget 1 = .ok (.iconst 0, 1) := by decide +kernel
theorem dX0_forget_2 : decode cX0_forget 2 = .ok (.putfield 15, 3) := by decide +kernel
theorem dX0_forget_5 : decode cX0_forget 5 = .ok (.aload_n 0, 1) := by decide +kernel
theorem dX0_forget_6 : decode cX0_forget 6 = .ok (.iconst 0, 1) := by decide +kernel
theorem dX0_forget_7 : decode cX0_forget 7 = .ok (.putfield 19, 3) := by decide +kernel
theorem dX0_forget_10 : decode cX0_forget 10 = .ok (.return_, 1) := by decide +kernel
theorem dX1_init_0 : decode cX1_init 0 = .ok (.aload_n 0, 1) := by decide +kernel
theorem dX1_init_1 : decode cX1_init 1 = .ok (.invokespecial 3, 3) := by decide +kernel
theorem dX1_init_4 : decode cX1_init 4 = .ok (.aload_n 0, 1) := by decide +kernel
theorem dX1_init_5 : decode cX1_init 5 = .ok (.bipush 20, 2) := by decide +kernel
theorem dX1_init_7 : decode cX1_init 7 = .ok (.newarray .int, 2) := by decide +kernel
theorem dX1_init_9 : decode cX1_init 9 = .ok (.putfield 9, 3) := by decide +kernel
theorem dX1_init_12 : decode cX1_init 12 = .ok (.aload_n 0, 1) := by decide +kernel
theorem dX1_init_13 : decode cX1_init 13 = .ok (.bipush 20, 2) := by decide +kernel
theorem dX1_init_15 : decode cX1_init 15 = .ok (.newarray .int, 2) := by decide +kernel
theorem dX1_init_17 : decode cX1_init 17 = .ok (.putfield 15, 3) := by decide +kernel
theorem dX1_init_20 : decode cX1_init 20 = .ok (.aload_n 0, 1) := by decide +kernel
theorem dX1_init_21 : decode cX1_init 21 = .ok (.bipush 20, 2) := by decide +kernel
theorem dX1_init_23 : decode cX1_init 23 = .ok (.newarray .int, 2) := by decide +kernel
theorem dX1_init_25 : decode cX1_init 25 = .ok (.putfield 18, 3) := by decide +kernel
theorem dX1_init_28 : decode cX1_init 28 = .ok (.aload_n 0, 1) := by decide +kernel
theorem dX1_init_29 : decode cX1_init 29 = .ok (.iconst 0, 1) := by decide +kernel
theorem dX1_init_30 : decode cX1_init 30 = .ok (.putfield 21, 3) := by decide +kernel
theorem dX1_init_33 : decode cX1_init 33 = .ok (.aload_n 0, 1) := by decide +kernel
theorem dX1_init_34 : decode cX1_init 34 = .ok (.iconst 0, 1) := by decide +kernel
theorem dX1_init_35 : decode cX1_init 35 = .ok (.putfield 25, 3) := by decide +kernel
theorem dX1_init_38 : decode cX1_init 38 = .ok (.return_, 1) := by decide +kernel
theorem dX1_add_0 : decode cX1_add 0 = .ok (.aload_n 0, 1) := by decide +kernel
theorem dX1_add_1 : decode cX1_add 1 = .ok (.getfield 9, 3) := by decide +kernel
theorem dX1_add_4 : decode cX1_add 4 = .ok (.aload_n 0, 1) := by decide +kernel
theorem dX1_add_5 : decode cX1_add 5 = .ok (.getfield 21, 3) := by decide +kernel
theorem dX1_add_8 : decode cX1_add 8 = .ok (.iload_n 1, 1) := by decide +kernel
theorem dX1_add_9 : decode cX1_add 9 = .ok (.iastore, 1) := by decide +kernel
theorem dX1_add_10 : decode cX1_add 10 = .ok (.aload_n 0, 1) := by decide +kernel
theorem dX1_add_11 : decode cX1_add 11 = .ok (.getfield 15, 3) := by decide +kernel
theorem dX1_add_14 : decode cX1_add 14 = .ok (.aload_n 0, 1) := by decide +kernel
theorem dX1_add_15 : decode cX1_add 15 = .ok (.getfield 21, 3) := by decide +kernel
theorem dX1_add_18 : decode cX1_add 18 = .ok (.iload_n 2, 1) := by decide +kernel
theorem dX1_add_19 : decode cX1_add 19 = .ok (.iastore, 1) := by decide +kernel
theorem dX1_add_20 : decode cX1_add 20 = .ok (.aload_n 0, 1) := by decide +kernel
theorem dX1_add_21 : decode cX1_add 21 = .ok (.getfield 18, 3) := by decide +kernel
theorem dX1_add_24 : decode cX1_add 24 = .ok (.aload_n 0, 1) := by decide +kernel
theorem dX1_add_25 : decode cX1_add 25 = .ok (.getfield 21, 3) := by decide +kernel
theorem dX1_add_28 : decode cX1_add 28 = .ok (.iload_n 3, 1) := by decide +kernel
theorem dX1_add_29 : decode cX1_add 29 = .ok (.iastore, 1) := by decide +kernel
theorem dX1_add_30 : decode cX1_add 30 = .ok (.aload_n 0, 1) := by decide +kernel
theorem dX1_add_31 : decode cX1_add 31 = .ok (.aload_n 0, 1) := by decide +kernel
theorem dX1_add_32 : decode cX1_add 32 = .ok (.getfield 21, 3) := by decide +kernel
theorem dX1_add_35 : decode cX1_add 35 = .ok (.iconst 1, 1) := by decide +kernel
theorem dX1_add_36 : decode cX1_add 36 = .ok (.iadd, 1) := by decide +kernel
theorem dX1_add_37 : decode cX1_add 37 = .ok (.bipush 20, 2) := by decide +kernel
theorem dX1_add_39 : decode cX1_add 39 = .ok (.irem, 1) := by decide +kernel
theorem dX1_add_40 : decode cX1_add 40 = .ok (.putfield 21, 3) := by decide +kernel
theorem dX1_add_43 : decode cX1_add 43 = .ok (.aload_n 0, 1) := by decide +kernel
theorem dX1_add_44 : decode cX1_add 44 = .ok (.aload_n 0, 1) := by decide +kernel
theorem dX1_add_45 : decode cX1_add 45 = .ok (.getfield 25, 3) := by decide +kernel
theorem dX1_add_48 : decode cX1_add 48 = .ok (.iconst 1, 1) := by decide +kernel
theorem dX1_add_49 : decode cX1_add 49 = .ok (.iadd, 1) := by decide +kernel
theorem dX1_add_50 : decode cX1_add 50 = .ok (.bipush 20, 2) := by decide +kernel
theorem dX1_add_52 : decode cX1_add 52 = .ok (.invokestatic 28, 3) := by decide +kernel
theorem dX1_add_55 : decode cX1_add 55 = .ok (.putfield 25, 3) := by decide +kernel
theorem dX1_add_58 : decode cX1_add 58 = .ok (.return_, 1) := by decide +kernel
theorem dX1_tell_0 : decode cX1_tell 0 = .ok (.iload_n 1, 1) := by decide +kernel
theorem dX1_tell_1 : decode cX1_tell 1 = .ok (.ifCond .lt 11, 3) := by decide +kernel
theorem dX1_tell_4 : decode cX1_tell 4 = .ok (.iload_n 1, 1) := by decide +kernel
theorem dX1_tell_5 : decode cX1_tell 5 = .ok (.aload_n 0, 1) := by decide +kernel
theorem dX1_tell_6 : decode cX1_tell 6 = .ok (.getfield 25, 3) := by decide +kernel
theorem dX1_tell_9 : decode cX1_tell 9 = .ok (.if_icmp .lt 6, 3) := by decide +kernel
theorem dX1_tell_12 : decode cX1_tell 12 = .ok (.bipush (-5), 2) := by decide +kernel
theorem dX1_tell_14 : decode cX1_tell 14 = .ok (.ireturn, 1) := by decide +kernel
theorem dX1_tell_15 : decode cX1_tell 15 = .ok (.aload_n 0, 1) := by decide +kernel
theorem dX1_tell_16 : decode cX1_tell 16 = .ok (.getfield 21, 3) := by decide +kernel
theorem dX1_tell_19 : decode cX1_tell 19 = .ok (.iconst 1, 1) := by decide +kernel
theorem dX1_tell_20 : decode cX1_tell 20 = .ok (.isub, 1) := by decide +kernel
theorem dX1_tell_21 : decode cX1_tell 21 = .ok (.iload_n 1, 1) := by decide +kernel
theorem dX1_tell_22 : decode cX1_tell 22 = .ok (.isub, 1) := by decide +kernel
theorem dX1_tell_23 : decode cX1_tell 23 = .ok (.bipush 20, 2) := by decide +kernel
theorem dX1_tell_25 : decode cX1_tell 25 = .ok (.iadd, 1) := by decide +kernel
theorem dX1_tell_26 : decode cX1_tell 26 = .ok (.bipush 20, 2) := by decide +kernel
theorem dX1_tell_28 : decode cX1_tell 28 = .ok (.irem, 1) := by decide +kernel
theorem dX1_tell_29 : decode cX1_tell 29 = .ok (.istore_n 3, 1) := by decide +kernel
theorem dX1_tell_30 : decode cX1_tell 30 = .ok (.iload_n 2, 1) := by decide +kernel
theorem dX1_tell_31 : decode cX1_tell 31 = .ok (.lookupswitch 43 #[(0, 25), (1, 34)], 25) := by decide +kernel
theorem dX1_tell_56 : decode cX1_tell 56 = .ok (.aload_n 0, 1) := by decide +kernel
theorem dX1_tell_57 : decode cX1_tell 57 = .ok (.getfield 9, 3) := by decide +kernel
theorem dX1_tell_60 : decode cX1_tell 60 = .ok (.iload_n 3, 1) := by decide +kernel
theorem dX1_tell_61 : decode cX1_tell 61 = .ok (.iaload, 1) := by decide +kernel
theorem dX1_tell_62 : decode cX1_tell 62 = .ok (.goto 18, 3) := by decide +kernel
theorem dX1_tell_65 : decode cX1_tell 65 = .ok (.aload_n 0, 1) := by decide +kernel
theorem dX1_tell_66 : decode cX1_tell 66 = .ok (.getfield 15, 3) := by decide +kernel
theorem dX1_tell_69 : decode cX1_tell 69 = .ok (.iload_n 3, 1) := by decide +kernel
theorem dX1_tell_70 : decode cX1_tell 70 = .ok (.iaload, 1) := by decide +kernel
theorem dX1_tell_71 : decode cX1_tell 71 = .ok (.goto 9, 3) := by decide +kernel
theorem dX1_tell_74 : decode cX1_tell 74 = .ok (.aload_n 0, 1) := by decide +kernel
theorem dX1_tell_75 : decode cX1_tell 75 = .ok (.getfield 18, 3) := by decide +kernel
theorem dX1_tell_78 : decode cX1_tell 78 = .ok (.iload_n 3, 1) := by decide +kernel
theorem dX1_tell_79 : decode cX1_tell 79 = .ok (.iaload, 1) := by decide +kernel
theorem dX1_tell_80 : decode cX1_tell 80 = .ok (.ireturn, 1) := by decide +kernel
theorem dX1_forget_0 : decode cX1_forget 0 = .ok (.aload_n 0, 1) := by decide +kernel
theorem dX1_forget_1 : decode cX1_forget 1 = .ok (.iconst 0, 1) := by decide +kernel
theorem dX1_forget_2 : decode cX1_forget 2 = .ok (.putfield 21, 3) := by decide +kernel
theorem dX1_forget_5 : decode cX1_forget 5 = .ok (.aload_n 0, 1) := by decide +kernel
theorem dX1_forget_6 : decode cX1_forget 6 = .ok (.iconst 0, 1) := by decide +kernel
theorem dX1_forget_7 : decode cX1_forget 7 = .ok (.putfield 25, 3) := by decide +kernel
theorem dX1_forget_10 : decode cX1_forget 10 = .ok (.return_, 1) := by decide +kernel
theorem dX2_init_0 : decode cX2_init 0 = .ok (.aload_n 0, 1) := by decide +kernel
theorem dX2_init_1 : decode cX2_init 1 = .ok (.invokespecial 3, 3) := by decide +kernel
theorem dX2_init_4 : decode cX2_init 4 = .ok (.aload_n 0, 1) := by decide +kernel
theorem dX2_init_5 : decode cX2_init 5 = .ok (.bipush 8, 2) := by decide +kernel
theorem dX2_init_7 : decode cX2_init 7 = .ok (.newarray .int, 2) := by decide +kernel
theorem dX2_init_9 : decode cX2_init 9 = .ok (.putfield 9, 3) := by decide +kernel
theorem dX2_init_12 : decode cX2_init 12 = .ok (.aload_n 0, 1) := by decide +kernel
theorem dX2_init_13 : decode cX2_init 13 = .ok (.bipush 8, 2) := by decide +kernel
theorem dX2_init_15 : decode cX2_init 15 = .ok (.newarray .int, 2) := by decide +kernel
theorem dX2_init_17 : decode cX2_init 17 = .ok (.putfield 15, 3) := by decide +kernel
theorem dX2_init_20 : decode cX2_init 20 = .ok (.aload_n 0, 1) := by decide +kernel
theorem dX2_init_21 : decode cX2_init 21 = .ok (.bipush 8, 2) := by decide +kernel
theorem dX2_init_23 : decode cX2_init 23 = .ok (.newarray .long, 2) := by decide +kernel
theorem dX2_init_25 : decode cX2_init 25 = .ok (.putfield 18, 3) := by decide +kernel
theorem dX2_init_28 : decode cX2_init 28 = .ok (.aload_n 0, 1) := by decide +kernel
theorem dX2_init_29 : decode cX2_init 29 = .ok (.bipush 8, 2) := by decide +kernel
theorem dX2_init_31 : decode cX2_init 31 = .ok (.newarray .int, 2) := by decide +kernel
theorem dX2_init_33 : decode cX2_init 33 = .ok (.putfield 22, 3) := by decide +kernel
theorem dX2_init_36 : decode cX2_init 36 = .ok (.aload_n 0, 1) := by decide +kernel
theorem dX2_init_37 : decode cX2_init 37 = .ok (.iconst 0, 1) := by decide +kernel
theorem dX2_init_38 : decode cX2_init 38 = .ok (.putfield 25, 3) := by decide +kernel
theorem dX2_init_41 : decode cX2_init 41 = .ok (.return_, 1) := by decide +kernel
theorem dX2_howMany_0 : decode cX2_howMany 0 = .ok (.aload_n 0, 1) := by decide +kernel
theorem dX2_howMany_1 : decode cX2_howMany 1 = .ok (.getfield 25, 3) := by decide +kernel
theorem dX2_howMany_4 : decode cX2_howMany 4 = .ok (.ireturn, 1) := by decide +kernel
theorem dX2_hold_0 : decode cX2_hold 0 = .ok (.iload_n 1, 1) := by decide +kernel
theorem dX2_hold_1 : decode cX2_hold 1 = .ok (.ifCond .lt 15, 3) := by decide +kernel
theorem dX2_hold_4 : decode cX2_hold 4 = .ok (.iload_n 1, 1) := by decide +kernel
theorem dX2_hold_5 : decode cX2_hold 5 = .ok (.aload_n 0, 1) := by decide +kernel
theorem dX2_hold_6 : decode cX2_hold 6 = .ok (.getfield 25, 3) := by decide +kernel
theorem dX2_hold_9 : decode cX2_hold 9 = .ok (.if_icmp .ge 7, 3) := by decide +kernel
theorem dX2_hold_12 : decode cX2_hold 12 = .ok (.iconst 1, 1) := by decide +kernel
theorem dX2_hold_13 : decode cX2_hold 13 = .ok (.goto 4, 3) := by decide +kernel
theorem dX2_hold_16 : decode cX2_hold 16 = .ok (.iconst 0, 1) := by decide +kernel
theorem dX2_hold_17 : decode cX2_hold 17 = .ok (.ireturn, 1) := by decide +kernel
theorem dX2_add_0 : decode cX2_add 0 = .ok (.aload_n 0, 1) := by decide +kernel
theorem dX2_add_1 : decode cX2_add 1 = .ok (.getfield 25, 3) := by decide +kernel
theorem dX2_add_4 : decode cX2_add 4 = .ok (.bipush 8, 2) := by decide +kernel
theorem dX2_add_6 : decode cX2_add 6 = .ok (.if_icmp .lt 6, 3) := by decide +kernel
theorem dX2_add_9 : decode cX2_add 9 = .ok (.bipush (-4), 2) := by decide +kernel
theorem dX2_add_11 : decode cX2_add 11 = .ok (.ireturn, 1) := by decide +kernel
theorem dX2_add_12 : decode cX2_add 12 = .ok (.aload_n 0, 1) := by decide +kernel
theorem dX2_add_13 : decode cX2_add 13 = .ok (.getfield 25, 3) := by decide +kernel
theorem dX2_add_16 : decode cX2_add 16 = .ok (.istore_n 3, 1) := by decide +kernel
theorem dX2_add_17 : decode cX2_add 17 = .ok (.aload_n 0, 1) := by decide +kernel
theorem dX2_add_18 : decode cX2_add 18 = .ok (.getfield 9, 3) := by decide +kernel
theorem dX2_add_21 : decode cX2_add 21 = .ok (.iload_n 3, 1) := by decide +kernel
theorem dX2_add_22 : decode cX2_add 22 = .ok (.iload_n 1, 1) := by decide +kernel
theorem dX2_add_23 : decode cX2_add 23 = .ok (.iastore, 1) := by decide +kernel
theorem dX2_add_24 : decode cX2_add 24 = .ok (.aload_n 0, 1) := by decide +kernel
theorem dX2_add_25 : decode cX2_add 25 = .ok (.getfield 15, 3) := by decide +kernel
theorem dX2_add_28 : decode cX2_add 28 = .ok (.iload_n 3, 1) := by decide +kernel
theorem dX2_add_29 : decode cX2_add 29 = .ok (.iload_n 2, 1) := by decide +kernel
theorem dX2_add_30 : decode cX2_add 30 = .ok (.iastore, 1) := by decide +kernel
theorem dX2_add_31 : decode cX2_add 31 = .ok (.aload_n 0, 1) := by decide +kernel
theorem dX2_add_32 : decode cX2_add 32 = .ok (.getfield 18, 3) := by decide +kernel
theorem dX2_add_35 : decode cX2_add 35 = .ok (.iload_n 3, 1) := by decide +kernel
theorem dX2_add_36 : decode cX2_add 36 = .ok (.lconst 0, 1) := by decide +kernel
theorem dX2_add_37 : decode cX2_add 37 = .ok (.lastore, 1) := by decide +kernel
theorem dX2_add_38 : decode cX2_add 38 = .ok (.aload_n 0, 1) := by decide +kernel
theorem dX2_add_39 : decode cX2_add 39 = .ok (.getfield 22, 3) := by decide +kernel
theorem dX2_add_42 : decode cX2_add 42 = .ok (.iload_n 3, 1) := by decide +kernel
theorem dX2_add_43 : decode cX2_add 43 = .ok (.bipush (-5), 2) := by decide +kernel
theorem dX2_add_45 : decode cX2_add 45 = .ok (.iastore, 1) := by decide +kernel
theorem dX2_add_46 : decode cX2_add 46 = .ok (.aload_n 0, 1) := by decide +kernel
theorem dX2_add_47 : decode cX2_add 47 = .ok (.dup, 1) := by decide +kernel
theorem dX2_add_48 : decode cX2_add 48 = .ok (.getfield 25, 3) := by decide +kernel
theorem dX2_add_51 : decode cX2_add 51 = .ok (.iconst 1, 1) := by decide +kernel
theorem dX2_add_52 : decode cX2_add 52 = .ok (.iadd, 1) := by decide +kernel
theorem dX2_add_53 : decode cX2_add 53 = .ok (.putfield 25, 3) := by decide +kernel
theorem dX2_add_56 : decode cX2_add 56 = .ok (.iload_n 3, 1) := by decide +kernel
theorem dX2_add_57 : decode cX2_add 57 = .ok (.ireturn, 1) := by decide +kernel
set_option maxRecDepth 20000 in
theorem ggX2_gateOf_X2_hold : GoodIn wsX2_gateOf wsX2_hold := goodIn_r _ [6, 7, 8, 9, 10, 11, 12] (by decide +kernel) (by decide +kernel)
set_option maxRecDepth 20000 in
theorem gX2_gateOf_X2_hold : GoodIn wsX2_gateOf (wsV RX2 29 RX2 yX2_hold wsX2_hold) := goodIn_app (goodIn_of _ (by decide +kernel)) ggX2_gateOf_X2_hold
theorem dX2_gateOf_0 : decode cX2_gateOf 0 = .ok (.aload_n 0, 1) := by decide +kernel
theorem dX2_gateOf_1 : decode cX2_gateOf 1 = .ok (.iload_n 1, 1) := by decide +kernel
theorem dX2_gateOf_2 : decode cX2_gateOf 2 = .ok (.invokevirtual 29, 3) := by decide +kernel
theorem dX2_gateOf_5 : decode cX2_gateOf 5 = .ok (.ifCond .eq 12, 3) := by decide +kernel
theorem dX2_gateOf_8 : decode cX2_gateOf 8 = .ok (.aload_n 0, 1) := by decide +kernel
theorem dX2_gateOf_9 : decode cX2_gateOf 9 = .ok (.getfield 9, 3) := by decide +kernel
theorem dX2_gateOf_12 : decode cX2_gateOf 12 = .ok (.iload_n 1, 1) := by decide +kernel
theorem dX2_gateOf_13 : decode cX2_gateOf 13 = .ok (.iaload, 1) := by decide +kernel
theorem dX2_gateOf_14 : decode cX2_gateOf 14 = .ok (.goto 5, 3) := by decide +kernel
theorem dX2_gateOf_17 : decode cX2_gateOf 17 = .ok (.bipush (-5), 2) := by decide +kernel
theorem dX2_gateOf_19 : decode cX2_gateOf 19 = .ok (.ireturn, 1) := by decide +kernel
set_option maxRecDepth 20000 in
theorem ggX2_workOf_X2_hold : GoodIn wsX2_workOf wsX2_hold := goodIn_r _ [6, 7, 8, 9, 10, 11, 12] (by decide +kernel) (by decide +kernel)
set_option maxRecDepth 20000 in
theorem gX2_workOf_X2_hold : GoodIn wsX2_workOf (wsV RX2 29 RX2 yX2_hold wsX2_hold) := goodIn_app (goodIn_of _ (by decide +kernel)) ggX2_workOf_X2_hold
theorem dX2_workOf_0 : decode cX2_workOf 0 = .ok (.aload_n 0, 1) := by decide +kernel
theorem dX2_workOf_1 : decode cX2_workOf 1 = .ok (.iload_n 1, 1) := by decide +kernel
theorem dX2_workOf_2 : decode cX2_workOf 2 = .ok (.invokevirtual 29, 3) := by decide +kernel
theorem dX2_workOf_5 : decode cX2_workOf 5 = .ok (.ifCond .eq 12, 3) := by decide +kernel
theorem dX2_workOf_8 : decode cX2_workOf 8 = .ok (.aload_n 0, 1) := by decide +kernel
theorem dX2_workOf_9 : decode cX2_workOf 9 = .ok (.getfield 15, 3) := by decide +kernel
theorem dX2_workOf_12 : decode cX2_workOf 12 = .ok (.iload_n 1, 1) := by decide +kernel
theorem dX2_workOf_13 : decode cX2_workOf 13 = .ok (.iaload, 1) := by decide +kernel
theorem dX2_workOf_14 : decode cX2_workOf 14 = .ok (.goto 5, 3) := by decide +kernel
theorem dX2_workOf_17 : decode cX2_workOf 17 = .ok (.bipush (-5), 2) := by decide +kernel
theorem dX2_workOf_19 : decode cX2_workOf 19 = .ok (.ireturn, 1) := by decide +kernel
set_option maxRecDepth 20000 in
theorem ggX2_totalOf_X2_hold : GoodIn wsX2_totalOf wsX2_hold := goodIn_r _ [6, 7, 8, 9, 10, 11, 12] (by decide +kernel) (by decide +kernel)
set_option maxRecDepth 20000 in
theorem gX2_totalOf_X2_hold : GoodIn wsX2_totalOf (wsV RX2 29 RX2 yX2_hold wsX2_hold) := goodIn_app (goodIn_of _ (by decide +kernel)) ggX2_totalOf_X2_hold
theorem dX2_totalOf_0 : decode cX2_totalOf 0 = .ok (.aload_n 0, 1) := by decide +kernel
theorem dX2_totalOf_1 : decode cX2_totalOf 1 = .ok (.iload_n 1, 1) := by decide +kernel
theorem dX2_totalOf_2 : decode cX2_totalOf 2 = .ok (.invokevirtual 29, 3) := by decide +kernel
theorem dX2_totalOf_5 : decode cX2_totalOf 5 = .ok (.ifCond .eq 12, 3) := by decide +kernel
theorem dX2_totalOf_8 : decode cX2_totalOf 8 = .ok (.aload_n 0, 1) := by decide +kernel
theorem dX2_totalOf_9 : decode cX2_totalOf 9 = .ok (.getfield 18, 3) := by decide +kernel
theorem dX2_totalOf_12 : decode cX2_totalOf 12 = .ok (.iload_n 1, 1) := by decide +kernel
theorem dX2_totalOf_13 : decode cX2_totalOf 13 = .ok (.laload, 1) := by decide +kernel
theorem dX2_totalOf_14 : decode cX2_totalOf 14 = .ok (.goto 4, 3) := by decide +kernel
theorem dX2_totalOf_17 : decode cX2_totalOf 17 = .ok (.lconst 0, 1) := by decide +kernel
theorem dX2_totalOf_18 : decode cX2_totalOf 18 = .ok (.lreturn, 1) := by decide +kernel
set_option maxRecDepth 20000 in
theorem ggX2_slotOf_X2_hold : GoodIn wsX2_slotOf wsX2_hold := goodIn_r _ [6, 7, 8, 9, 10, 11, 12] (by decide +kernel) (by decide +kernel)
set_option maxRecDepth 20000 in
theorem gX2_slotOf_X2_hold : GoodIn wsX2_slotOf (wsV RX2 29 RX2 yX2_hold wsX2_hold) := goodIn_app (goodIn_of _ (by decide +kernel)) ggX2_slotOf_X2_hold
theorem dX2_slotOf_0 : decode cX2_slotOf 0 = .ok (.aload_n 0, 1) := by decide +kernel
theorem dX2_slotOf_1 : decode cX2_slotOf 1 = .ok (.iload_n 1, 1) := by decide +kernel
theorem dX2_slotOf_2 : decode cX2_slotOf 2 = .ok (.invokevirtual 29, 3) := by decide +kernel
theorem dX2_slotOf_5 : decode cX2_slotOf 5 = .ok (.ifCond .eq 12, 3) := by decide +kernel
theorem dX2_slotOf_8 : decode cX2_slotOf 8 = .ok (.aload_n 0, 1) := by decide +kernel
theorem dX2_slotOf_9 : decode cX2_slotOf 9 = .ok (.getfield 22, 3) := by decide +kernel
theorem dX2_slotOf_12 : decode cX2_slotOf 12 = .ok (.iload_n 1, 1) := by decide +kernel
theorem dX2_slotOf_13 : decode cX2_slotOf 13 = .ok (.iaload, 1) := by decide +kernel
theorem dX2_slotOf_14 : decode cX2_slotOf 14 = .ok (.goto 5, 3) := by decide +kernel
theorem dX2_slotOf_17 : decode cX2_slotOf 17 = .ok (.bipush (-5), 2) := by decide +kernel
theorem dX2_slotOf_19 : decode cX2_slotOf 19 = .ok (.ireturn, 1) := by decide +kernel
set_option maxRecDepth 20000 in
theorem ggX2_grow_X2_hold : GoodIn wsX2_grow wsX2_hold := goodIn_r _ [6, 7, 8, 9, 10, 11, 12] (by decide +kernel) (by decide +kernel)
set_option maxRecDepth 20000 in
theorem gX2_grow_X2_hold : GoodIn wsX2_grow (wsV RX2 29 RX2 yX2_hold wsX2_hold) := goodIn_app (goodIn_of _ (by decide +kernel)) ggX2_grow_X2_hold
theorem dX2_grow_0 : decode cX2_grow 0 = .ok (.aload_n 0, 1) := by decide +kernel
theorem dX2_grow_1 : decode cX2_grow 1 = .ok (.iload_n 1, 1) := by decide +kernel
theorem dX2_grow_2 : decode cX2_grow 2 = .ok (.invokevirtual 29, 3) := by decide +kernel
theorem dX2_grow_5 : decode cX2_grow 5 = .ok (.ifCond .eq 13, 3) := by decide +kernel
theorem dX2_grow_8 : decode cX2_grow 8 = .ok (.aload_n 0, 1) := by decide +kernel
theorem dX2_grow_9 : decode cX2_grow 9 = .ok (.getfield 18, 3) := by decide +kernel
theorem dX2_grow_12 : decode cX2_grow 12 = .ok (.iload_n 1, 1) := by decide +kernel
theorem dX2_grow_13 : decode cX2_grow 13 = .ok (.dup2, 1) := by decide +kernel
theorem dX2_grow_14 : decode cX2_grow 14 = .ok (.laload, 1) := by decide +kernel
theorem dX2_grow_15 : decode cX2_grow 15 = .ok (.lload_n 2, 1) := by decide +kernel
theorem dX2_grow_16 : decode cX2_grow 16 = .ok (.ladd, 1) := by decide +kernel
theorem dX2_grow_17 : decode cX2_grow 17 = .ok (.lastore, 1) := by decide +kernel
theorem dX2_grow_18 : decode cX2_grow 18 = .ok (.return_, 1) := by decide +kernel
set_option maxRecDepth 20000 in
theorem ggX2_setSlot_X2_hold : GoodIn wsX2_setSlot wsX2_hold := goodIn_r _ [6, 7, 8, 9, 10, 11, 12] (by decide +kernel) (by decide +kernel)
set_option maxRecDepth 20000 in
theorem gX2_setSlot_X2_hold : GoodIn wsX2_setSlot (wsV RX2 29 RX2 yX2_hold wsX2_hold) := goodIn_app (goodIn_of _ (by decide +kernel)) ggX2_setSlot_X2_hold
theorem dX2_setSlot_0 : decode cX2_setSlot 0 = .ok (.aload_n 0, 1) := by decide +kernel
theorem dX2_setSlot_1 : decode cX2_setSlot 1 = .ok (.iload_n 1, 1) := by decide +kernel
theorem dX2_setSlot_2 : decode cX2_setSlot 2 = .ok (.invokevirtual 29, 3) := by decide +kernel
theorem dX2_setSlot_5 : decode cX2_setSlot 5 = .ok (.ifCond .eq 10, 3) := by decide +kernel
theorem dX2_setSlot_8 : decode cX2_setSlot 8 = .ok (.aload_n 0, 1) := by decide +kernel
theorem dX2_setSlot_9 : decode cX2_setSlot 9 = .ok (.getfield 22, 3) := by decide +kernel
theorem dX2_setSlot_12 : decode cX2_setSlot 12 = .ok (.iload_n 1, 1) := by decide +kernel
theorem dX2_setSlot_13 : decode cX2_setSlot 13 = .ok (.iload_n 2, 1) := by decide +kernel
theorem dX2_setSlot_14 : decode cX2_setSlot 14 = .ok (.iastore, 1) := by decide +kernel
theorem dX2_setSlot_15 : decode cX2_setSlot 15 = .ok (.return_, 1) := by decide +kernel
theorem dX2_forget_0 : decode cX2_forget 0 = .ok (.aload_n 0, 1) := by decide +kernel
theorem dX2_forget_1 : decode cX2_forget 1 = .ok (.iconst 0, 1) := by decide +kernel
theorem dX2_forget_2 : decode cX2_forget 2 = .ok (.putfield 25, 3) := by decide +kernel
theorem dX2_forget_5 : decode cX2_forget 5 = .ok (.return_, 1) := by decide +kernel
theorem dX3_init_0 : decode cX3_init 0 = .ok (.aload_n 0, 1) := by decide +kernel
theorem dX3_init_1 : decode cX3_init 1 = .ok (.invokespecial 3, 3) := by decide +kernel
theorem dX3_init_4 : decode cX3_init 4 = .ok (.aload_n 0, 1) := by decide +kernel
theorem dX3_init_5 : decode cX3_init 5 = .ok (.bipush 6, 2) := by decide +kernel
theorem dX3_init_7 : decode cX3_init 7 = .ok (.newarray .int, 2) := by decide +kernel
theorem dX3_init_9 : decode cX3_init 9 = .ok (.putfield 9, 3) := by decide +kernel
theorem dX3_init_12 : decode cX3_init 12 = .ok (.aload_n 0, 1) := by decide +kernel
theorem dX3_init_13 : decode cX3_init 13 = .ok (.iconst 0, 1) := by decide +kernel
theorem dX3_init_14 : decode cX3_init 14 = .ok (.putfield 15, 3) := by decide +kernel
theorem dX3_init_17 : decode cX3_init 17 = .ok (.aload_n 0, 1) := by decide +kernel
theorem dX3_init_18 : decode cX3_init 18 = .ok (.iconst 0, 1) := by decide +kernel
theorem dX3_init_19 : decode cX3_init 19 = .ok (.putfield 19, 3) := by decide +kernel
theorem dX3_init_22 : decode cX3_init 22 = .ok (.aload_n 0, 1) := by decide +kernel
theorem dX3_init_23 : decode cX3_init 23 = .ok (.iconst 0, 1) := by decide +kernel
theorem dX3_init_24 : decode cX3_init 24 = .ok (.putfield 22, 3) := by decide +kernel
theorem dX3_init_27 : decode cX3_init 27 = .ok (.return_, 1) := by decide +kernel
theorem dX3_addWorked_0 : decode cX3_addWorked 0 = .ok (.aload_n 0, 1) := by decide +kernel
theorem dX3_addWorked_1 : decode cX3_addWorked 1 = .ok (.dup, 1) := by decide +kernel
theorem dX3_addWorked_2 : decode cX3_addWorked 2 = .ok (.getfield 15, 3) := by decide +kernel
theorem dX3_addWorked_5 : decode cX3_addWorked 5 = .ok (.iconst 1, 1) := by decide +kernel
theorem dX3_addWorked_6 : decode cX3_addWorked 6 = .ok (.iadd, 1) := by decide +kernel
theorem dX3_addWorked_7 : decode cX3_addWorked 7 = .ok (.putfield 15, 3) := by decide +kernel
theorem dX3_addWorked_10 : decode cX3_addWorked 10 = .ok (.return_, 1) := by decide +kernel
theorem dX3_addPassed_0 : decode cX3_addPassed 0 = .ok (.aload_n 0, 1) := by decide +kernel
theorem dX3_addPassed_1 : decode cX3_addPassed 1 = .ok (.dup, 1) := by decide +kernel
theorem dX3_addPassed_2 : decode cX3_addPassed 2 = .ok (.getfield 19, 3) := by decide +kernel
theorem dX3_addPassed_5 : decode cX3_addPassed 5 = .ok (.iconst 1, 1) := by decide +kernel
theorem dX3_addPassed_6 : decode cX3_addPassed 6 = .ok (.iadd, 1) := by decide +kernel
theorem dX3_addPassed_7 : decode cX3_addPassed 7 = .ok (.putfield 19, 3) := by decide +kernel
theorem dX3_addPassed_10 : decode cX3_addPassed 10 = .ok (.return_, 1) := by decide +kernel
theorem dX3_addFailed_0 : decode cX3_addFailed 0 = .ok (.aload_n 0, 1) := by decide +kernel
theorem dX3_addFailed_1 : decode cX3_addFailed 1 = .ok (.dup, 1) := by decide +kernel
theorem dX3_addFailed_2 : decode cX3_addFailed 2 = .ok (.getfield 22, 3) := by decide +kernel
theorem dX3_addFailed_5 : decode cX3_addFailed 5 = .ok (.iconst 1, 1) := by decide +kernel
theorem dX3_addFailed_6 : decode cX3_addFailed 6 = .ok (.iadd, 1) := by decide +kernel
theorem dX3_addFailed_7 : decode cX3_addFailed 7 = .ok (.putfield 22, 3) := by decide +kernel
theorem dX3_addFailed_10 : decode cX3_addFailed 10 = .ok (.return_, 1) := by decide +kernel
theorem dX3_addFinding_0 : decode cX3_addFinding 0 = .ok (.iload_n 1, 1) := by decide +kernel
theorem dX3_addFinding_1 : decode cX3_addFinding 1 = .ok (.iconst 1, 1) := by decide +kernel
theorem dX3_addFinding_2 : decode cX3_addFinding 2 = .ok (.if_icmp .lt 18, 3) := by decide +kernel
theorem dX3_addFinding_5 : decode cX3_addFinding 5 = .ok (.iload_n 1, 1) := by decide +kernel
theorem dX3_addFinding_6 : decode cX3_addFinding 6 = .ok (.iconst 5, 1) := by decide +kernel
theorem dX3_addFinding_7 : decode cX3_addFinding 7 = .ok (.if_icmp .gt 13, 3) := by decide +kernel
theorem dX3_addFinding_10 : decode cX3_addFinding 10 = .ok (.aload_n 0, 1) := by decide +kernel
theorem dX3_addFinding_11 : decode cX3_addFinding 11 = .ok (.getfield 9, 3) := by decide +kernel
theorem dX3_addFinding_14 : decode cX3_addFinding 14 = .ok (.iload_n 1, 1) := by decide +kernel
theorem dX3_addFinding_15 : decode cX3_addFinding 15 = .ok (.dup2, 1) := by decide +kernel
theorem dX3_addFinding_16 : decode cX3_addFinding 16 = .ok (.iaload, 1) := by decide +kernel
theorem dX3_addFinding_17 : decode cX3_addFinding 17 = .ok (.iconst 1, 1) := by decide +kernel
theorem dX3_addFinding_18 : decode cX3_addFinding 18 = .ok (.iadd, 1) := by decide +kernel
theorem dX3_addFinding_19 : decode cX3_addFinding 19 = .ok (.iastore, 1) := by decide +kernel
theorem dX3_addFinding_20 : decode cX3_addFinding 20 = .ok (.return_, 1) := by decide +kernel
theorem dX3_foundOf_0 : decode cX3_foundOf 0 = .ok (.iload_n 1, 1) := by decide +kernel
theorem dX3_foundOf_1 : decode cX3_foundOf 1 = .ok (.iconst 1, 1) := by decide +kernel
theorem dX3_foundOf_2 : decode cX3_foundOf 2 = .ok (.if_icmp .lt 17, 3) := by decide +kernel
theorem dX3_foundOf_5 : decode cX3_foundOf 5 = .ok (.iload_n 1, 1) := by decide +kernel
theorem dX3_foundOf_6 : decode cX3_foundOf 6 = .ok (.iconst 5, 1) := by decide +kernel
theorem dX3_foundOf_7 : decode cX3_foundOf 7 = .ok (.if_icmp .gt 12, 3) := by decide +kernel
theorem dX3_foundOf_10 : decode cX3_foundOf 10 = .ok (.aload_n 0, 1) := by decide +kernel
theorem dX3_foundOf_11 : decode cX3_foundOf 11 = .ok (.getfield 9, 3) := by decide +kernel
theorem dX3_foundOf_14 : decode cX3_foundOf 14 = .ok (.iload_n 1, 1) := by decide +kernel
theorem dX3_foundOf_15 : decode cX3_foundOf 15 = .ok (.iaload, 1) := by decide +kernel
theorem dX3_foundOf_16 : decode cX3_foundOf 16 = .ok (.goto 4, 3) := by decide +kernel
theorem dX3_foundOf_19 : decode cX3_foundOf 19 = .ok (.iconst 0, 1) := by decide +kernel
theorem dX3_foundOf_20 : decode cX3_foundOf 20 = .ok (.ireturn, 1) := by decide +kernel
theorem dX3_forget_0 : decode cX3_forget 0 = .ok (.aload_n 0, 1) := by decide +kernel
theorem dX3_forget_1 : decode cX3_forget 1 = .ok (.iconst 0, 1) := by decide +kernel
theorem dX3_forget_2 : decode cX3_forget 2 = .ok (.putfield 15, 3) := by decide +kernel
theorem dX3_forget_5 : decode cX3_forget 5 = .ok (.aload_n 0, 1) := by decide +kernel
theorem dX3_forget_6 : decode cX3_forget 6 = .ok (.iconst 0, 1) := by decide +kernel
theorem dX3_forget_7 : decode cX3_forget 7 = .ok (.putfield 19, 3) := by decide +kernel
theorem dX3_forget_10 : decode cX3_forget 10 = .ok (.aload_n 0, 1) := by decide +kernel
theorem dX3_forget_11 : decode cX3_forget 11 = .ok (.iconst 0, 1) := by decide +kernel
theorem dX3_forget_12 : decode cX3_forget 12 = .ok (.putfield 22, 3) := by decide +kernel
theorem dX3_forget_15 : decode cX3_forget 15 = .ok (.iconst 0, 1) := by decide +kernel
theorem dX3_forget_16 : decode cX3_forget 16 = .ok (.istore_n 1, 1) := by decide +kernel
theorem dX3_forget_17 : decode cX3_forget 17 = .ok (.iload_n 1, 1) := by decide +kernel
theorem dX3_forget_18 : decode cX3_forget 18 = .ok (.iconst 5, 1) := by decide +kernel
theorem dX3_forget_19 : decode cX3_forget 19 = .ok (.if_icmp .gt 16, 3) := by decide +kernel
theorem dX3_forget_22 : decode cX3_forget 22 = .ok (.aload_n 0, 1) := by decide +kernel
theorem dX3_forget_23 : decode cX3_forget 23 = .ok (.getfield 9, 3) := by decide +kernel
theorem dX3_forget_26 : decode cX3_forget 26 = .ok (.iload_n 1, 1) := by decide +kernel
theorem dX3_forget_27 : decode cX3_forget 27 = .ok (.iconst 0, 1) := by decide +kernel
theorem dX3_forget_28 : decode cX3_forget 28 = .ok (.iastore, 1) := by decide +kernel
theorem dX3_forget_29 : decode cX3_forget 29 = .ok (.iinc 1 1, 3) := by decide +kernel
theorem dX3_forget_32 : decode cX3_forget 32 = .ok (.goto (-15), 3) := by decide +kernel
theorem dX3_forget_35 : decode cX3_forget 35 = .ok (.return_, 1) := by decide +kernel
theorem dX4_init_0 : decode cX4_init 0 = .ok (.aload_n 0, 1) := by decide +kernel
theorem dX4_init_1 : decode cX4_init 1 = .ok (.invokespecial 3, 3) := by decide +kernel
theorem dX4_init_4 : decode cX4_init 4 = .ok (.aload_n 0, 1) := by decide +kernel
theorem dX4_init_5 : decode cX4_init 5 = .ok (.bipush 100, 2) := by decide +kernel
theorem dX4_init_7 : decode cX4_init 7 = .ok (.newarray .int, 2) := by decide +kernel
theorem dX4_init_9 : decode cX4_init 9 = .ok (.putfield 9, 3) := by decide +kernel
theorem dX4_init_12 : decode cX4_init 12 = .ok (.aload_n 0, 1) := by decide +kernel
theorem dX4_init_13 : decode cX4_init 13 = .ok (.bipush 100, 2) := by decide +kernel
theorem dX4_init_15 : decode cX4_init 15 = .ok (.newarray .int, 2) := by decide +kernel
theorem dX4_init_17 : decode cX4_init 17 = .ok (.putfield 15, 3) := by decide +kernel
theorem dX4_init_20 : decode cX4_init 20 = .ok (.aload_n 0, 1) := by decide +kernel
theorem dX4_init_21 : decode cX4_init 21 = .ok (.bipush 100, 2) := by decide +kernel
theorem dX4_init_23 : decode cX4_init 23 = .ok (.newarray .int, 2) := by decide +kernel
theorem dX4_init_25 : decode cX4_init 25 = .ok (.putfield 18, 3) := by decide +kernel
theorem dX4_init_28 : decode cX4_init 28 = .ok (.aload_n 0, 1) := by decide +kernel
theorem dX4_init_29 : decode cX4_init 29 = .ok (.sipush 800, 3) := by decide +kernel
theorem dX4_init_32 : decode cX4_init 32 = .ok (.newarray .long, 2) := by decide +kernel
theorem dX4_init_34 : decode cX4_init 34 = .ok (.putfield 21, 3) := by decide +kernel
theorem dX4_init_37 : decode cX4_init 37 = .ok (.aload_n 0, 1) := by decide +kernel
theorem dX4_init_38 : decode cX4_init 38 = .ok (.sipush 800, 3) := by decide +kernel
theorem dX4_init_41 : decode cX4_init 41 = .ok (.newarray .int, 2) := by decide +kernel
theorem dX4_init_43 : decode cX4_init 43 = .ok (.putfield 25, 3) := by decide +kernel
theorem dX4_init_46 : decode cX4_init 46 = .ok (.aload_n 0, 1) := by decide +kernel
theorem dX4_init_47 : decode cX4_init 47 = .ok (.iconst 0, 1) := by decide +kernel
theorem dX4_init_48 : decode cX4_init 48 = .ok (.putfield 28, 3) := by decide +kernel
theorem dX4_init_51 : decode cX4_init 51 = .ok (.return_, 1) := by decide +kernel
theorem dX4_howMany_0 : decode cX4_howMany 0 = .ok (.aload_n 0, 1) := by decide +kernel
theorem dX4_howMany_1 : decode cX4_howMany 1 = .ok (.getfield 28, 3) := by decide +kernel
theorem dX4_howMany_4 : decode cX4_howMany 4 = .ok (.ireturn, 1) := by decide +kernel
theorem dX4_areFull_0 : decode cX4_areFull 0 = .ok (.aload_n 0, 1) := by decide +kernel
theorem dX4_areFull_1 : decode cX4_areFull 1 = .ok (.getfield 28, 3) := by decide +kernel
theorem dX4_areFull_4 : decode cX4_areFull 4 = .ok (.bipush 100, 2) := by decide +kernel
theorem dX4_areFull_6 : decode cX4_areFull 6 = .ok (.if_icmp .lt 7, 3) := by decide +kernel
theorem dX4_areFull_9 : decode cX4_areFull 9 = .ok (.iconst 1, 1) := by decide +kernel
theorem dX4_areFull_10 : decode cX4_areFull 10 = .ok (.goto 4, 3) := by decide +kernel
theorem dX4_areFull_13 : decode cX4_areFull 13 = .ok (.iconst 0, 1) := by decide +kernel
theorem dX4_areFull_14 : decode cX4_areFull 14 = .ok (.ireturn, 1) := by decide +kernel
theorem dX4_hold_0 : decode cX4_hold 0 = .ok (.iload_n 1, 1) := by decide +kernel
theorem dX4_hold_1 : decode cX4_hold 1 = .ok (.ifCond .lt 15, 3) := by decide +kernel
theorem dX4_hold_4 : decode cX4_hold 4 = .ok (.iload_n 1, 1) := by decide +kernel
theorem dX4_hold_5 : decode cX4_hold 5 = .ok (.aload_n 0, 1) := by decide +kernel
theorem dX4_hold_6 : decode cX4_hold 6 = .ok (.getfield 28, 3) := by decide +kernel
theorem dX4_hold_9 : decode cX4_hold 9 = .ok (.if_icmp .ge 7, 3) := by decide +kernel
theorem dX4_hold_12 : decode cX4_hold 12 = .ok (.iconst 1, 1) := by decide +kernel
theorem dX4_hold_13 : decode cX4_hold 13 = .ok (.goto 4, 3) := by decide +kernel
theorem dX4_hold_16 : decode cX4_hold 16 = .ok (.iconst 0, 1) := by decide +kernel
theorem dX4_hold_17 : decode cX4_hold 17 = .ok (.ireturn, 1) := by decide +kernel
set_option maxRecDepth 20000 in
theorem ggX4_add_X4_areFull : GoodIn wsX4_add wsX4_areFull := goodIn_r _ [11, 1, 12, 13, 14, 15, 16, 17] (by decide +kernel) (by decide +kernel)
set_option maxRecDepth 20000 in
theorem gX4_add_X4_areFull : GoodIn wsX4_add (wsV RX4 32 RX4 yX4_areFull wsX4_areFull) := goodIn_app (goodIn_of _ (by decide +kernel)) ggX4_add_X4_areFull
theorem dX4_add_0 : decode cX4_add 0 = .ok (.aload_n 0, 1) := by decide +kernel
theorem dX4_add_1 : decode cX4_add 1 = .ok (.invokevirtual 32, 3) := by decide +kernel
theorem dX4_add_4 : decode cX4_add 4 = .ok (.ifCond .eq 6, 3) := by decide +kernel
theorem dX4_add_7 : decode cX4_add 7 = .ok (.bipush (-4), 2) := by decide +kernel
theorem dX4_add_9 : decode cX4_add 9 = .ok (.ireturn, 1) := by decide +kernel
theorem dX4_add_10 : decode cX4_add 10 = .ok (.aload_n 0, 1) := by decide +kernel
theorem dX4_add_11 : decode cX4_add 11 = .ok (.getfield 28, 3) := by decide +kernel
theorem dX4_add_14 : decode cX4_add 14 = .ok (.istore 4, 2) := by decide +kernel
theorem dX4_add_16 : decode cX4_add 16 = .ok (.aload_n 0, 1) := by decide +kernel
theorem dX4_add_17 : decode cX4_add 17 = .ok (.getfield 9, 3) := by decide +kernel
theorem dX4_add_20 : decode cX4_add 20 = .ok (.iload 4, 2) := by decide +kernel
theorem dX4_add_22 : decode cX4_add 22 = .ok (.iload_n 1, 1) := by decide +kernel
theorem dX4_add_23 : decode cX4_add 23 = .ok (.iastore, 1) := by decide +kernel
theorem dX4_add_24 : decode cX4_add 24 = .ok (.aload_n 0, 1) := by decide +kernel
theorem dX4_add_25 : decode cX4_add 25 = .ok (.getfield 15, 3) := by decide +kernel
theorem dX4_add_28 : decode cX4_add 28 = .ok (.iload 4, 2) := by decide +kernel
theorem dX4_add_30 : decode cX4_add 30 = .ok (.iload_n 2, 1) := by decide +kernel
theorem dX4_add_31 : decode cX4_add 31 = .ok (.iastore, 1) := by decide +kernel
theorem dX4_add_32 : decode cX4_add 32 = .ok (.aload_n 0, 1) := by decide +kernel
theorem dX4_add_33 : decode cX4_add 33 = .ok (.getfield 18, 3) := by decide +kernel
theorem dX4_add_36 : decode cX4_add 36 = .ok (.iload 4, 2) := by decide +kernel
theorem dX4_add_38 : decode cX4_add 38 = .ok (.iload_n 3, 1) := by decide +kernel
theorem dX4_add_39 : decode cX4_add 39 = .ok (.iastore, 1) := by decide +kernel
theorem dX4_add_40 : decode cX4_add 40 = .ok (.iconst 0, 1) := by decide +kernel
theorem dX4_add_41 : decode cX4_add 41 = .ok (.istore 5, 2) := by decide +kernel
theorem dX4_add_43 : decode cX4_add 43 = .ok (.iload 5, 2) := by decide +kernel
theorem dX4_add_45 : decode cX4_add 45 = .ok (.bipush 8, 2) := by decide +kernel
theorem dX4_add_47 : decode cX4_add 47 = .ok (.if_icmp .ge 38, 3) := by decide +kernel
theorem dX4_add_50 : decode cX4_add 50 = .ok (.aload_n 0, 1) := by decide +kernel
theorem dX4_add_51 : decode cX4_add 51 = .ok (.getfield 21, 3) := by decide +kernel
theorem dX4_add_54 : decode cX4_add 54 = .ok (.iload 4, 2) := by decide +kernel
theorem dX4_add_56 : decode cX4_add 56 = .ok (.bipush 8, 2) := by decide +kernel
theorem dX4_add_58 : decode cX4_add 58 = .ok (.imul, 1) := by decide +kernel
theorem dX4_add_59 : decode cX4_add 59 = .ok (.iload 5, 2) := by decide +kernel
theorem dX4_add_61 : decode cX4_add 61 = .ok (.iadd, 1) := by decide +kernel
theorem dX4_add_62 : decode cX4_add 62 = .ok (.lconst 0, 1) := by decide +kernel
theorem dX4_add_63 : decode cX4_add 63 = .ok (.lastore, 1) := by decide +kernel
theorem dX4_add_64 : decode cX4_add 64 = .ok (.aload_n 0, 1) := by decide +kernel
theorem dX4_add_65 : decode cX4_add 65 = .ok (.getfield 25, 3) := by decide +kernel
theorem dX4_add_68 : decode cX4_add 68 = .ok (.iload 4, 2) := by decide +kernel
theorem dX4_add_70 : decode cX4_add 70 = .ok (.bipush 8, 2) := by decide +kernel
theorem dX4_add_72 : decode cX4_add 72 = .ok (.imul, 1) := by decide +kernel
theorem dX4_add_73 : decode cX4_add 73 = .ok (.iload 5, 2) := by decide +kernel
theorem dX4_add_75 : decode cX4_add 75 = .ok (.iadd, 1) := by decide +kernel
theorem dX4_add_76 : decode cX4_add 76 = .ok (.bipush (-5), 2) := by decide +kernel
theorem dX4_add_78 : decode cX4_add 78 = .ok (.iastore, 1) := by decide +kernel
theorem dX4_add_79 : decode cX4_add 79 = .ok (.iinc 5 1, 3) := by decide +kernel
theorem dX4_add_82 : decode cX4_add 82 = .ok (.goto (-39), 3) := by decide +kernel
theorem dX4_add_85 : decode cX4_add 85 = .ok (.aload_n 0, 1) := by decide +kernel
theorem dX4_add_86 : decode cX4_add 86 = .ok (.dup, 1) := by decide +kernel
theorem dX4_add_87 : decode cX4_add 87 = .ok (.getfield 28, 3) := by decide +kernel
theorem dX4_add_90 : decode cX4_add 90 = .ok (.iconst 1, 1) := by decide +kernel
theorem dX4_add_91 : decode cX4_add 91 = .ok (.iadd, 1) := by decide +kernel
theorem dX4_add_92 : decode cX4_add 92 = .ok (.putfield 28, 3) := by decide +kernel
theorem dX4_add_95 : decode cX4_add 95 = .ok (.iload 4, 2) := by decide +kernel
theorem dX4_add_97 : decode cX4_add 97 = .ok (.ireturn, 1) := by decide +kernel
set_option maxRecDepth 20000 in
theorem ggX4_formOf_X4_hold : GoodIn wsX4_formOf wsX4_hold := goodIn_r _ [6, 7, 8, 9, 10, 11, 12, 13] (by decide +kernel) (by decide +kernel)
set_option maxRecDepth 20000 in
theorem gX4_formOf_X4_hold : GoodIn wsX4_formOf (wsV RX4 36 RX4 yX4_hold wsX4_hold) := goodIn_app (goodIn_of _ (by decide +kernel)) ggX4_formOf_X4_hold
theorem dX4_formOf_0 : decode cX4_formOf 0 = .ok (.aload_n 0, 1) := by decide +kernel
theorem dX4_formOf_1 : decode cX4_formOf 1 = .ok (.iload_n 1, 1) := by decide +kernel
theorem dX4_formOf_2 : decode cX4_formOf 2 = .ok (.invokevirtual 36, 3) := by decide +kernel
theorem dX4_formOf_5 : decode cX4_formOf 5 = .ok (.ifCond .eq 12, 3) := by decide +kernel
theorem dX4_formOf_8 : decode cX4_formOf 8 = .ok (.aload_n 0, 1) := by decide +kernel
theorem dX4_formOf_9 : decode cX4_formOf 9 = .ok (.getfield 9, 3) := by decide +kernel
theorem dX4_formOf_12 : decode cX4_formOf 12 = .ok (.iload_n 1, 1) := by decide +kernel
theorem dX4_formOf_13 : decode cX4_formOf 13 = .ok (.iaload, 1) := by decide +kernel
theorem dX4_formOf_14 : decode cX4_formOf 14 = .ok (.goto 5, 3) := by decide +kernel
theorem dX4_formOf_17 : decode cX4_formOf 17 = .ok (.bipush (-5), 2) := by decide +kernel
theorem dX4_formOf_19 : decode cX4_formOf 19 = .ok (.ireturn, 1) := by decide +kernel
set_option maxRecDepth 20000 in
theorem ggX4_isOf_X4_hold : GoodIn wsX4_isOf wsX4_hold := goodIn_r _ [6, 7, 11, 12, 13, 14, 15, 16] (by decide +kernel) (by decide +kernel)
set_option maxRecDepth 20000 in
theorem gX4_isOf_X4_hold : GoodIn wsX4_isOf (wsV RX4 36 RX4 yX4_hold wsX4_hold) := goodIn_app (goodIn_of _ (by decide +kernel)) ggX4_isOf_X4_hold
set_option maxRecDepth 20000 in
theorem ggX4_isOf_X5_alsoIs : GoodIn wsX4_isOf wsX5_alsoIs := goodIn_r _ [10] (by decide +kernel) (by decide +kernel)
set_option maxRecDepth 20000 in
theorem gX4_isOf_X5_alsoIs_n40 : GoodIn wsX4_isOf (wsX5_alsoIs) := ggX4_isOf_X5_alsoIs
theorem dX4_isOf_0 : decode cX4_isOf 0 = .ok (.aload_n 0, 1) := by decide +kernel
theorem dX4_isOf_1 : decode cX4_isOf 1 = .ok (.iload_n 1, 1) := by decide +kernel
theorem dX4_isOf_2 : decode cX4_isOf 2 = .ok (.invokevirtual 36, 3) := by decide +kernel
theorem dX4_isOf_5 : decode cX4_isOf 5 = .ok (.ifCond .ne 5, 3) := by decide +kernel
theorem dX4_isOf_8 : decode cX4_isOf 8 = .ok (.iconst 0, 1) := by decide +kernel
theorem dX4_isOf_9 : decode cX4_isOf 9 = .ok (.ireturn, 1) := by decide +kernel
theorem dX4_isOf_10 : decode cX4_isOf 10 = .ok (.iload_n 2, 1) := by decide +kernel
theorem dX4_isOf_11 : decode cX4_isOf 11 = .ok (.bipush 17, 2) := by decide +kernel
theorem dX4_isOf_13 : decode cX4_isOf 13 = .ok (.if_icmp .eq 26, 3) := by decide +kernel
theorem dX4_isOf_16 : decode cX4_isOf 16 = .ok (.iload_n 2, 1) := by decide +kernel
theorem dX4_isOf_17 : decode cX4_isOf 17 = .ok (.aload_n 0, 1) := by decide +kernel
theorem dX4_isOf_18 : decode cX4_isOf 18 = .ok (.getfield 9, 3) := by decide +kernel
theorem dX4_isOf_21 : decode cX4_isOf 21 = .ok (.iload_n 1, 1) := by decide +kernel
theorem dX4_isOf_22 : decode cX4_isOf 22 = .ok (.iaload, 1) := by decide +kernel
theorem dX4_isOf_23 : decode cX4_isOf 23 = .ok (.if_icmp .eq 16, 3) := by decide +kernel
theorem dX4_isOf_26 : decode cX4_isOf 26 = .ok (.aload_n 0, 1) := by decide +kernel
theorem dX4_isOf_27 : decode cX4_isOf 27 = .ok (.getfield 9, 3) := by decide +kernel
theorem dX4_isOf_30 : decode cX4_isOf 30 = .ok (.iload_n 1, 1) := by decide +kernel
theorem dX4_isOf_31 : decode cX4_isOf 31 = .ok (.iaload, 1) := by decide +kernel
theorem dX4_isOf_32 : decode cX4_isOf 32 = .ok (.iload_n 2, 1) := by decide +kernel
theorem dX4_isOf_33 : decode cX4_isOf 33 = .ok (.invokestatic 40, 3) := by decide +kernel
theorem dX4_isOf_36 : decode cX4_isOf 36 = .ok (.ifCond .eq 7, 3) := by decide +kernel
theorem dX4_isOf_39 : decode cX4_isOf 39 = .ok (.iconst 1, 1) := by decide +kernel
theorem dX4_isOf_40 : decode cX4_isOf 40 = .ok (.goto 4, 3) := by decide +kernel
theorem dX4_isOf_43 : decode cX4_isOf 43 = .ok (.iconst 0, 1) := by decide +kernel
theorem dX4_isOf_44 : decode cX4_isOf 44 = .ok (.ireturn, 1) := by decide +kernel
set_option maxRecDepth 20000 in
theorem ggX4_weightOf_X4_hold : GoodIn wsX4_weightOf wsX4_hold := goodIn_r _ [6, 7, 8, 9, 10, 11, 12, 13] (by decide +kernel) (by decide +kernel)
set_option maxRecDepth 20000 in
theorem gX4_weightOf_X4_hold : GoodIn wsX4_weightOf (wsV RX4 36 RX4 yX4_hold wsX4_hold) := goodIn_app (goodIn_of _ (by decide +kernel)) ggX4_weightOf_X4_hold
theorem dX4_weightOf_0 : decode cX4_weightOf 0 = .ok (.aload_n 0, 1) := by decide +kernel
theorem dX4_weightOf_1 : decode cX4_weightOf 1 = .ok (.iload_n 1, 1) := by decide +kernel
theorem dX4_weightOf_2 : decode cX4_weightOf 2 = .ok (.invokevirtual 36, 3) := by decide +kernel
theorem dX4_weightOf_5 : decode cX4_weightOf 5 = .ok (.ifCond .eq 12, 3) := by decide +kernel
theorem dX4_weightOf_8 : decode cX4_weightOf 8 = .ok (.aload_n 0, 1) := by decide +kernel
theorem dX4_weightOf_9 : decode cX4_weightOf 9 = .ok (.getfield 15, 3) := by decide +kernel
theorem dX4_weightOf_12 : decode cX4_weightOf 12 = .ok (.iload_n 1, 1) := by decide +kernel
theorem dX4_weightOf_13 : decode cX4_weightOf 13 = .ok (.iaload, 1) := by decide +kernel
theorem dX4_weightOf_14 : decode cX4_weightOf 14 = .ok (.goto 4, 3) := by decide +kernel
theorem dX4_weightOf_17 : decode cX4_weightOf 17 = .ok (.iconst 0, 1) := by decide +kernel
theorem dX4_weightOf_18 : decode cX4_weightOf 18 = .ok (.ireturn, 1) := by decide +kernel
set_option maxRecDepth 20000 in
theorem ggX4_keyOf_X4_formOf : GoodIn wsX4_keyOf wsX4_formOf := goodIn_ca (goodIn_r _ [5, 6, 7, 8, 9, 4, 10, 11, 17, 18, 19, 20, 21, 22] (by decide +kernel) (by decide +kernel)) (goodIn_sub (fun _ h => List.mem_cons_of_mem _ (List.mem_append_right _ h)) (by decide +kernel))
set_option maxRecDepth 20000 in
theorem gX4_keyOf_X4_formOf : GoodIn wsX4_keyOf (wsV RX4 44 RX4 yX4_formOf wsX4_formOf) := goodIn_app (goodIn_of _ (by decide +kernel)) ggX4_keyOf_X4_formOf
set_option maxRecDepth 20000 in
theorem ggX4_keyOf_X4_weightOf : GoodIn wsX4_keyOf wsX4_weightOf := goodIn_ca (goodIn_r _ [15, 16, 7, 8, 9, 4, 10, 11, 17, 18, 19, 20, 21, 22] (by decide +kernel) (by decide +kernel)) (goodIn_sub (fun _ h => List.mem_cons_of_mem _ (List.mem_append_right _ h)) (by decide +kernel))
set_option maxRecDepth 20000 in
theorem gX4_keyOf_X4_weightOf : GoodIn wsX4_keyOf (wsV RX4 48 RX4 yX4_weightOf wsX4_weightOf) := goodIn_app (goodIn_of _ (by decide +kernel)) ggX4_keyOf_X4_weightOf
theorem dX4_keyOf_0 : decode cX4_keyOf 0 = .ok (.aload_n 0, 1) := by decide +kernel
theorem dX4_keyOf_1 : decode cX4_keyOf 1 = .ok (.iload_n 1, 1) := by decide +kernel
theorem dX4_keyOf_2 : decode cX4_keyOf 2 = .ok (.invokevirtual 44, 3) := by decide +kernel
theorem dX4_keyOf_5 : decode cX4_keyOf 5 = .ok (.iconst 2, 1) := by decide +kernel
theorem dX4_keyOf_6 : decode cX4_keyOf 6 = .ok (.if_icmp .ne 15, 3) := by decide +kernel
theorem dX4_keyOf_9 : decode cX4_keyOf 9 = .ok (.aload_n 0, 1) := by decide +kernel
theorem dX4_keyOf_10 : decode cX4_keyOf 10 = .ok (.iload_n 1, 1) := by decide +kernel
theorem dX4_keyOf_11 : decode cX4_keyOf 11 = .ok (.invokevirtual 48, 3) := by decide +kernel
theorem dX4_keyOf_14 : decode cX4_keyOf 14 = .ok (.iconst 3, 1) := by decide +kernel
theorem dX4_keyOf_15 : decode cX4_keyOf 15 = .ok (.imul, 1) := by decide +kernel
theorem dX4_keyOf_16 : decode cX4_keyOf 16 = .ok (.iconst 1, 1) := by decide +kernel
theorem dX4_keyOf_17 : decode cX4_keyOf 17 = .ok (.iadd, 1) := by decide +kernel
theorem dX4_keyOf_18 : decode cX4_keyOf 18 = .ok (.goto 11, 3) := by decide +kernel
theorem dX4_keyOf_21 : decode cX4_keyOf 21 = .ok (.aload_n 0, 1) := by decide +kernel
theorem dX4_keyOf_22 : decode cX4_keyOf 22 = .ok (.iload_n 1, 1) := by decide +kernel
theorem dX4_keyOf_23 : decode cX4_keyOf 23 = .ok (.invokevirtual 48, 3) := by decide +kernel
theorem dX4_keyOf_26 : decode cX4_keyOf 26 = .ok (.bipush 7, 2) := by decide +kernel
theorem dX4_keyOf_28 : decode cX4_keyOf 28 = .ok (.isub, 1) := by decide +kernel
theorem dX4_keyOf_29 : decode cX4_keyOf 29 = .ok (.ireturn, 1) := by decide +kernel
set_option maxRecDepth 20000 in
theorem ggX4_sizeOf_X4_hold : GoodIn wsX4_sizeOf wsX4_hold := goodIn_r _ [6, 7, 8, 9, 10, 11, 12, 13] (by decide +kernel) (by decide +kernel)
set_option maxRecDepth 20000 in
theorem gX4_sizeOf_X4_hold : GoodIn wsX4_sizeOf (wsV RX4 36 RX4 yX4_hold wsX4_hold) := goodIn_app (goodIn_of _ (by decide +kernel)) ggX4_sizeOf_X4_hold
theorem dX4_sizeOf_0 : decode cX4_sizeOf 0 = .ok (.aload_n 0, 1) := by decide +kernel
theorem dX4_sizeOf_1 : decode cX4_sizeOf 1 = .ok (.iload_n 1, 1) := by decide +kernel
theorem dX4_sizeOf_2 : decode cX4_sizeOf 2 = .ok (.invokevirtual 36, 3) := by decide +kernel
theorem dX4_sizeOf_5 : decode cX4_sizeOf 5 = .ok (.ifCond .eq 12, 3) := by decide +kernel
theorem dX4_sizeOf_8 : decode cX4_sizeOf 8 = .ok (.aload_n 0, 1) := by decide +kernel
theorem dX4_sizeOf_9 : decode cX4_sizeOf 9 = .ok (.getfield 18, 3) := by decide +kernel
theorem dX4_sizeOf_12 : decode cX4_sizeOf 12 = .ok (.iload_n 1, 1) := by decide +kernel
theorem dX4_sizeOf_13 : decode cX4_sizeOf 13 = .ok (.iaload, 1) := by decide +kernel
theorem dX4_sizeOf_14 : decode cX4_sizeOf 14 = .ok (.goto 4, 3) := by decide +kernel
theorem dX4_sizeOf_17 : decode cX4_sizeOf 17 = .ok (.iconst 0, 1) := by decide +kernel
theorem dX4_sizeOf_18 : decode cX4_sizeOf 18 = .ok (.ireturn, 1) := by decide +kernel
theorem dX4_hasPlace_0 : decode cX4_hasPlace 0 = .ok (.iload_n 1, 1) := by decide +kernel
theorem dX4_hasPlace_1 : decode cX4_hasPlace 1 = .ok (.ifCond .lt 29, 3) := by decide +kernel
theorem dX4_hasPlace_4 : decode cX4_hasPlace 4 = .ok (.iload_n 1, 1) := by decide +kernel
theorem dX4_hasPlace_5 : decode cX4_hasPlace 5 = .ok (.aload_n 0, 1) := by decide +kernel
theorem dX4_hasPlace_6 : decode cX4_hasPlace 6 = .ok (.getfield 28, 3) := by decide +kernel
theorem dX4_hasPlace_9 : decode cX4_hasPlace 9 = .ok (.if_icmp .ge 21, 3) := by decide +kernel
theorem dX4_hasPlace_12 : decode cX4_hasPlace 12 = .ok (.iload_n 2, 1) := by decide +kernel
theorem dX4_hasPlace_13 : decode cX4_hasPlace 13 = .ok (.ifCond .lt 17, 3) := by decide +kernel
theorem dX4_hasPlace_16 : decode cX4_hasPlace 16 = .ok (.iload_n 2, 1) := by decide +kernel
theorem dX4_hasPlace_17 : decode cX4_hasPlace 17 = .ok (.aload_n 0, 1) := by decide +kernel
theorem dX4_hasPlace_18 : decode cX4_hasPlace 18 = .ok (.getfield 18, 3) := by decide +kernel
theorem dX4_hasPlace_21 : decode cX4_hasPlace 21 = .ok (.iload_n 1, 1) := by decide +kernel
theorem dX4_hasPlace_22 : decode cX4_hasPlace 22 = .ok (.iaload, 1) := by decide +kernel
theorem dX4_hasPlace_23 : decode cX4_hasPlace 23 = .ok (.if_icmp .ge 7, 3) := by decide +kernel
theorem dX4_hasPlace_26 : decode cX4_hasPlace 26 = .ok (.iconst 1, 1) := by decide +kernel
theorem dX4_hasPlace_27 : decode cX4_hasPlace 27 = .ok (.goto 4, 3) := by decide +kernel
theorem dX4_hasPlace_30 : decode cX4_hasPlace 30 = .ok (.iconst 0, 1) := by decide +kernel
theorem dX4_hasPlace_31 : decode cX4_hasPlace 31 = .ok (.ireturn, 1) := by decide +kernel
set_option maxRecDepth 20000 in
theorem ggX4_numberAt_X4_hasPlace : GoodIn wsX4_numberAt wsX4_hasPlace := goodIn_ca (goodIn_r _ [6, 7, 8, 9, 10, 11, 12, 13, 14] (by decide +kernel) (by decide +kernel)) (goodIn_sub (fun _ h => List.mem_cons_of_mem _ (List.mem_append_right _ h)) (by decide +kernel))
set_option maxRecDepth 20000 in
theorem gX4_numberAt_X4_hasPlace : GoodIn wsX4_numberAt (wsV RX4 51 RX4 yX4_hasPlace wsX4_hasPlace) := goodIn_app (goodIn_of _ (by decide +kernel)) ggX4_numberAt_X4_hasPlace
theorem dX4_numberAt_0 : decode cX4_numberAt 0 = .ok (.aload_n 0, 1) := by decide +kernel
theorem dX4_numberAt_1 : decode cX4_numberAt 1 = .ok (.iload_n 1, 1) := by decide +kernel
theorem dX4_numberAt_2 : decode cX4_numberAt 2 = .ok (.iload_n 2, 1) := by decide +kernel
theorem dX4_numberAt_3 : decode cX4_numberAt 3 = .ok (.invokevirtual 51, 3) := by decide +kernel
theorem dX4_numberAt_6 : decode cX4_numberAt 6 = .ok (.ifCond .eq 17, 3) := by decide +kernel
theorem dX4_numberAt_9 : decode cX4_numberAt 9 = .ok (.aload_n 0, 1) := by decide +kernel
theorem dX4_numberAt_10 : decode cX4_numberAt 10 = .ok (.getfield 21, 3) := by decide +kernel
theorem dX4_numberAt_13 : decode cX4_numberAt 13 = .ok (.iload_n 1, 1) := by decide +kernel
theorem dX4_numberAt_14 : decode cX4_numberAt 14 = .ok (.bipush 8, 2) := by decide +kernel
theorem dX4_numberAt_16 : decode cX4_numberAt 16 = .ok (.imul, 1) := by decide +kernel
theorem dX4_numberAt_17 : decode cX4_numberAt 17 = .ok (.iload_n 2, 1) := by decide +kernel
theorem dX4_numberAt_18 : decode cX4_numberAt 18 = .ok (.iadd, 1) := by decide +kernel
theorem dX4_numberAt_19 : decode cX4_numberAt 19 = .ok (.laload, 1) := by decide +kernel
theorem dX4_numberAt_20 : decode cX4_numberAt 20 = .ok (.goto 4, 3) := by decide +kernel
theorem dX4_numberAt_23 : decode cX4_numberAt 23 = .ok (.lconst 0, 1) := by decide +kernel
theorem dX4_numberAt_24 : decode cX4_numberAt 24 = .ok (.lreturn, 1) := by decide +kernel
set_option maxRecDepth 20000 in
theorem ggX4_setNumber_X4_hasPlace : GoodIn wsX4_setNumber wsX4_hasPlace := goodIn_ca (goodIn_r _ [7, 8, 9, 10, 11, 12, 13, 14, 15] (by decide +kernel) (by decide +kernel)) (goodIn_sub (fun _ h => List.mem_cons_of_mem _ (List.mem_append_right _ h)) (by decide +kernel))
set_option maxRecDepth 20000 in
theorem gX4_setNumber_X4_hasPlace : GoodIn wsX4_setNumber (wsV RX4 51 RX4 yX4_hasPlace wsX4_hasPlace) := goodIn_app (goodIn_of _ (by decide +kernel)) ggX4_setNumber_X4_hasPlace
theorem dX4_setNumber_0 : decode cX4_setNumber 0 = .ok (.aload_n 0, 1) := by decide +kernel
theorem dX4_setNumber_1 : decode cX4_setNumber 1 = .ok (.iload_n 1, 1) := by decide +kernel
theorem dX4_setNumber_2 : decode cX4_setNumber 2 = .ok (.iload_n 2, 1) := by decide +kernel
theorem dX4_setNumber_3 : decode cX4_setNumber 3 = .ok (.invokevirtual 51, 3) := by decide +kernel
theorem dX4_setNumber_6 : decode cX4_setNumber 6 = .ok (.ifCond .ne 4, 3) := by decide +kernel
theorem dX4_setNumber_9 : decode cX4_setNumber 9 = .ok (.return_, 1) := by decide +kernel
theorem dX4_setNumber_10 : decode cX4_setNumber 10 = .ok (.aload_n 0, 1) := by decide +kernel
theorem dX4_setNumber_11 : decode cX4_setNumber 11 = .ok (.getfield 21, 3) := by decide +kernel
theorem dX4_setNumber_14 : decode cX4_setNumber 14 = .ok (.iload_n 1, 1) := by decide +kernel
theorem dX4_setNumber_15 : decode cX4_setNumber 15 = .ok (.bipush 8, 2) := by decide +kernel
theorem dX4_setNumber_17 : decode cX4_setNumber 17 = .ok (.imul, 1) := by decide +kernel
theorem dX4_setNumber_18 : decode cX4_setNumber 18 = .ok (.iload_n 2, 1) := by decide +kernel
theorem dX4_setNumber_19 : decode cX4_setNumber 19 = .ok (.iadd, 1) := by decide +kernel
theorem dX4_setNumber_20 : decode cX4_setNumber 20 = .ok (.aload_n 0, 1) := by decide +kernel
theorem dX4_setNumber_21 : decode cX4_setNumber 21 = .ok (.getfield 9, 3) := by decide +kernel
theorem dX4_setNumber_24 : decode cX4_setNumber 24 = .ok (.iload_n 1, 1) := by decide +kernel
theorem dX4_setNumber_25 : decode cX4_setNumber 25 = .ok (.iaload, 1) := by decide +kernel
theorem dX4_setNumber_26 : decode cX4_setNumber 26 = .ok (.lookupswitch 39 #[(4, 26), (5, 33)], 26) := by decide +kernel
theorem dX4_setNumber_52 : decode cX4_setNumber 52 = .ok (.lload_n 3, 1) := by decide +kernel
theorem dX4_setNumber_53 : decode cX4_setNumber 53 = .ok (.l2i, 1) := by decide +kernel
theorem dX4_setNumber_54 : decode cX4_setNumber 54 = .ok (.i2b, 1) := by decide +kernel
theorem dX4_setNumber_55 : decode cX4_setNumber 55 = .ok (.i2l, 1) := by decide +kernel
theorem dX4_setNumber_56 : decode cX4_setNumber 56 = .ok (.goto 10, 3) := by decide +kernel
theorem dX4_setNumber_59 : decode cX4_setNumber 59 = .ok (.lload_n 3, 1) := by decide +kernel
theorem dX4_setNumber_60 : decode cX4_setNumber 60 = .ok (.l2i, 1) := by decide +kernel
theorem dX4_setNumber_61 : decode cX4_setNumber 61 = .ok (.i2l, 1) := by decide +kernel
theorem dX4_setNumber_62 : decode cX4_setNumber 62 = .ok (.goto 4, 3) := by decide +kernel
theorem dX4_setNumber_65 : decode cX4_setNumber 65 = .ok (.lload_n 3, 1) := by decide +kernel
theorem dX4_setNumber_66 : decode cX4_setNumber 66 = .ok (.lastore, 1) := by decide +kernel
theorem dX4_setNumber_67 : decode cX4_setNumber 67 = .ok (.return_, 1) := by decide +kernel
set_option maxRecDepth 20000 in
theorem ggX4_sumOfNumbers_X4_sizeOf : GoodIn wsX4_sumOfNumbers wsX4_sizeOf := goodIn_ca (goodIn_r _ [5, 6, 7, 8, 9, 4, 10, 11, 21, 22, 23, 24, 25, 26] (by decide +kernel) (by decide +kernel)) (goodIn_sub (fun _ h => List.mem_cons_of_mem _ (List.mem_append_right _ h)) (by decide +kernel))
set_option maxRecDepth 20000 in
theorem gX4_sumOfNumbers_X4_sizeOf : GoodIn wsX4_sumOfNumbers (wsV RX4 54 RX4 yX4_sizeOf wsX4_sizeOf) := goodIn_app (goodIn_of _ (by decide +kernel)) ggX4_sumOfNumbers_X4_sizeOf
set_option maxRecDepth 20000 in
theorem ggX4_sumOfNumbers_X4_numberAt : GoodIn wsX4_sumOfNumbers wsX4_numberAt := goodIn_ca (goodIn_r _ [15, 16, 17, 18, 19, 4, 20, 11, 6, 21, 22, 23, 24, 25, 26] (by decide +kernel) (by decide +kernel)) (goodIn_sub (fun _ h => List.mem_cons_of_mem _ (List.mem_append_right _ h)) (by decide +kernel))
set_option maxRecDepth 20000 in
theorem gX4_sumOfNumbers_X4_numberAt : GoodIn wsX4_sumOfNumbers (wsV RX4 57 RX4 yX4_numberAt wsX4_numberAt) := goodIn_app (goodIn_of _ (by decide +kernel)) ggX4_sumOfNumbers_X4_numberAt
theorem dX4_sumOfNumbers_0 : decode cX4_sumOfNumbers 0 = .ok (.lconst 0, 1) := by decide +kernel
theorem dX4_sumOfNumbers_1 : decode cX4_sumOfNumbers 1 = .ok (.lstore_n 2, 1) := by decide +kernel
theorem dX4_sumOfNumbers_2 : decode cX4_sumOfNumbers 2 = .ok (.iconst 0, 1) := by decide +kernel
theorem dX4_sumOfNumbers_3 : decode cX4_sumOfNumbers 3 = .ok (.istore 4, 2) := by decide +kernel
theorem dX4_sumOfNumbers_5 : decode cX4_sumOfNumbers 5 = .ok (.iload 4, 2) := by decide +kernel
theorem dX4_sumOfNumbers_7 : decode cX4_sumOfNumbers 7 = .ok (.aload_n 0, 1) := by decide +kernel
theorem dX4_sumOfNumbers_8 : decode cX4_sumOfNumbers 8 = .ok (.iload_n 1, 1) := by decide +kernel
theorem dX4_sumOfNumbers_9 : decode cX4_sumOfNumbers 9 = .ok (.invokevirtual 54, 3) := by decide +kernel
theorem dX4_sumOfNumbers_12 : decode cX4_sumOfNumbers 12 = .ok (.if_icmp .ge 19, 3) := by decide +kernel
theorem dX4_sumOfNumbers_15 : decode cX4_sumOfNumbers 15 = .ok (.lload_n 2, 1) := by decide +kernel
theorem dX4_sumOfNumbers_16 : decode cX4_sumOfNumbers 16 = .ok (.aload_n 0, 1) := by decide +kernel
theorem dX4_sumOfNumbers_17 : decode cX4_sumOfNumbers 17 = .ok (.iload_n 1, 1) := by decide +kernel
theorem dX4_sumOfNumbers_18 : decode cX4_sumOfNumbers 18 = .ok (.iload 4, 2) := by decide +kernel
theorem dX4_sumOfNumbers_20 : decode cX4_sumOfNumbers 20 = .ok (.invokevirtual 57, 3) := by decide +kernel
theorem dX4_sumOfNumbers_23 : decode cX4_sumOfNumbers 23 = .ok (.ladd, 1) := by decide +kernel
theorem dX4_sumOfNumbers_24 : decode cX4_sumOfNumbers 24 = .ok (.lstore_n 2, 1) := by decide +kernel
theorem dX4_sumOfNumbers_25 : decode cX4_sumOfNumbers 25 = .ok (.iinc 4 1, 3) := by decide +kernel
theorem dX4_sumOfNumbers_28 : decode cX4_sumOfNumbers 28 = .ok (.goto (-23), 3) := by decide +kernel
theorem dX4_sumOfNumbers_31 : decode cX4_sumOfNumbers 31 = .ok (.lload_n 2, 1) := by decide +kernel
theorem dX4_sumOfNumbers_32 : decode cX4_sumOfNumbers 32 = .ok (.lreturn, 1) := by decide +kernel
set_option maxRecDepth 20000 in
theorem ggX4_memberAt_X4_hasPlace : GoodIn wsX4_memberAt wsX4_hasPlace := goodIn_ca (goodIn_r _ [6, 7, 8, 9, 10, 11, 12, 13, 14] (by decide +kernel) (by decide +kernel)) (goodIn_sub (fun _ h => List.mem_cons_of_mem _ (List.mem_append_right _ h)) (by decide +kernel))
set_option maxRecDepth 20000 in
theorem gX4_memberAt_X4_hasPlace : GoodIn wsX4_memberAt (wsV RX4 51 RX4 yX4_hasPlace wsX4_hasPlace) := goodIn_app (goodIn_of _ (by decide +kernel)) ggX4_memberAt_X4_hasPlace
theorem dX4_memberAt_0 : decode cX4_memberAt 0 = .ok (.aload_n 0, 1) := by decide +kernel
theorem dX4_memberAt_1 : decode cX4_memberAt 1 = .ok (.iload_n 1, 1) := by decide +kernel
theorem dX4_memberAt_2 : decode cX4_memberAt 2 = .ok (.iload_n 2, 1) := by decide +kernel
theorem dX4_memberAt_3 : decode cX4_memberAt 3 = .ok (.invokevirtual 51, 3) := by decide +kernel
theorem dX4_memberAt_6 : decode cX4_memberAt 6 = .ok (.ifCond .eq 17, 3) := by decide +kernel
theorem dX4_memberAt_9 : decode cX4_memberAt 9 = .ok (.aload_n 0, 1) := by decide +kernel
theorem dX4_memberAt_10 : decode cX4_memberAt 10 = .ok (.getfield 25, 3) := by decide +kernel
theorem dX4_memberAt_13 : decode cX4_memberAt 13 = .ok (.iload_n 1, 1) := by decide +kernel
theorem dX4_memberAt_14 : decode cX4_memberAt 14 = .ok (.bipush 8, 2) := by decide +kernel
theorem dX4_memberAt_16 : decode cX4_memberAt 16 = .ok (.imul, 1) := by decide +kernel
theorem dX4_memberAt_17 : decode cX4_memberAt 17 = .ok (.iload_n 2, 1) := by decide +kernel
theorem dX4_memberAt_18 : decode cX4_memberAt 18 = .ok (.iadd, 1) := by decide +kernel
theorem dX4_memberAt_19 : decode cX4_memberAt 19 = .ok (.iaload, 1) := by decide +kernel
theorem dX4_memberAt_20 : decode cX4_memberAt 20 = .ok (.goto 5, 3) := by decide +kernel
theorem dX4_memberAt_23 : decode cX4_memberAt 23 = .ok (.bipush (-5), 2) := by decide +kernel
theorem dX4_memberAt_25 : decode cX4_memberAt 25 = .ok (.ireturn, 1) := by decide +kernel
set_option maxRecDepth 20000 in
theorem ggX4_setMember_X4_hasPlace : GoodIn wsX4_setMember wsX4_hasPlace := goodIn_ca (goodIn_r _ [6, 7, 8, 9, 10, 11, 12, 13, 14] (by decide +kernel) (by decide +kernel)) (goodIn_sub (fun _ h => List.mem_cons_of_mem _ (List.mem_append_right _ h)) (by decide +kernel))
set_option maxRecDepth 20000 in
theorem gX4_setMember_X4_hasPlace : GoodIn wsX4_setMember (wsV RX4 51 RX4 yX4_hasPlace wsX4_hasPlace) := goodIn_app (goodIn_of _ (by decide +kernel)) ggX4_setMember_X4_hasPlace
theorem dX4_setMember_0 : decode cX4_setMember 0 = .ok (.aload_n 0, 1) := by decide +kernel
theorem dX4_setMember_1 : decode cX4_setMember 1 = .ok (.iload_n 1, 1) := by decide +kernel
theorem dX4_setMember_2 : decode cX4_setMember 2 = .ok (.iload_n 2, 1) := by decide +kernel
theorem dX4_setMember_3 : decode cX4_setMember 3 = .ok (.invokevirtual 51, 3) := by decide +kernel
theorem dX4_setMember_6 : decode cX4_setMember 6 = .ok (.ifCond .eq 15, 3) := by decide +kernel
theorem dX4_setMember_9 : decode cX4_setMember 9 = .ok (.aload_n 0, 1) := by decide +kernel
theorem dX4_setMember_10 : decode cX4_setMember 10 = .ok (.getfield 25, 3) := by decide +kernel
theorem dX4_setMember_13 : decode cX4_setMember 13 = .ok (.iload_n 1, 1) := by decide +kernel
theorem dX4_setMember_14 : decode cX4_setMember 14 = .ok (.bipush 8, 2) := by decide +kernel
theorem dX4_setMember_16 : decode cX4_setMember 16 = .ok (.imul, 1) := by decide +kernel
theorem dX4_setMember_17 : decode cX4_setMember 17 = .ok (.iload_n 2, 1) := by decide +kernel
theorem dX4_setMember_18 : decode cX4_setMember 18 = .ok (.iadd, 1) := by decide +kernel
theorem dX4_setMember_19 : decode cX4_setMember 19 = .ok (.iload_n 3, 1) := by decide +kernel
theorem dX4_setMember_20 : decode cX4_setMember 20 = .ok (.iastore, 1) := by decide +kernel
theorem dX4_setMember_21 : decode cX4_setMember 21 = .ok (.return_, 1) := by decide +kernel
theorem dX4_forget_0 : decode cX4_forget 0 = .ok (.aload_n 0, 1) := by decide +kernel
theorem dX4_forget_1 : decode cX4_forget 1 = .ok (.iconst 0, 1) := by decide +kernel
theorem dX4_forget_2 : decode cX4_forget 2 = .ok (.putfield 28, 3) := by decide +kernel
theorem dX4_forget_5 : decode cX4_forget 5 = .ok (.return_, 1) := by decide +kernel
end
section
set_option maxRecDepth 20000 in
theorem ggX5_init_X4_init : GoodIn wsX5_init wsX4_init := goodIn_r _ [25, 26, 2, 3, 27, 28, 29, 30, 31, 32, 33, 34, 64, 65, 66, 67, 68, 69] (by decide +kernel) (by decide +kernel)
set_option maxRecDepth 20000 in
theorem gX5_init_X4_init_n9 : GoodIn wsX5_init (wsX4_init) := ggX5_init_X4_init
set_option maxRecDepth 20000 in
theorem ggX5_init_X2_init : GoodIn wsX5_init wsX2_init := goodIn_r _ [36, 37, 2, 3, 27, 38, 39, 31, 40, 41, 42, 75, 76, 77, 78, 79] (by decide +kernel) (by decide +kernel)
set_option maxRecDepth 20000 in
theorem gX5_init_X2_init_n18 : GoodIn wsX5_init (wsX2_init) := ggX5_init_X2_init
set_option maxRecDepth 20000 in
theorem ggX5_init_X0_init : GoodIn wsX5_init wsX0_init := goodIn_r _ [44, 45, 2, 3, 27, 46, 47, 48, 80, 81, 82] (by decide +kernel) (by decide +kernel)
set_option maxRecDepth 20000 in
theorem gX5_init_X0_init_n25 : GoodIn wsX5_init (wsX0_init) := ggX5_init_X0_init
set_option maxRecDepth 20000 in
theorem ggX5_init_X1_init : GoodIn wsX5_init wsX1_init := goodIn_r _ [50, 51, 2, 3, 27, 52, 53, 54, 55, 56, 83, 84, 85, 86, 87] (by decide +kernel) (by decide +kernel)
set_option maxRecDepth 20000 in
theorem gX5_init_X1_init_n32 : GoodIn wsX5_init (wsX1_init) := ggX5_init_X1_init
set_option maxRecDepth 20000 in
theorem ggX5_init_X3_init : GoodIn wsX5_init wsX3_init := goodIn_r _ [58, 59, 2, 3, 27, 60, 61, 62, 63, 88, 89, 90, 91] (by decide +kernel) (by decide +kernel)
set_option maxRecDepth 20000 in
theorem gX5_init_X3_init_n39 : GoodIn wsX5_init (wsX3_init) := ggX5_init_X3_init
theorem dX5_init_0 : decode cX5_init 0 = .ok (.aload_n 0, 1) := by decide +kernel
theorem dX5_init_1 : decode cX5_init 1 = .ok (.invokespecial 1, 3) := by decide +kernel
theorem dX5_init_4 : decode cX5_init 4 = .ok (.aload_n 0, 1) := by decide +kernel
theorem dX5_init_5 : decode cX5_init 5 = .ok (.new 7, 3) := by decide +kernel
theorem dX5_init_8 : decode cX5_init 8 = .ok (.dup, 1) := by decide +kernel
theorem dX5_init_9 : decode cX5_init 9 = .ok (.invokespecial 9, 3) := by decide +kernel
theorem dX5_init_12 : decode cX5_init 12 = .ok (.putfield 10, 3) := by decide +kernel
theorem dX5_init_15 : decode cX5_init 15 = .ok (.aload_n 0, 1) := by decide +kernel
theorem dX5_init_16 : decode cX5_init 16 = .ok (.new 16, 3) := by decide +kernel
theorem dX5_init_19 : decode cX5_init 19 = .ok (.dup, 1) := by decide +kernel
theorem dX5_init_20 : decode cX5_init 20 = .ok (.invokespecial 18, 3) := by decide +kernel
theorem dX5_init_23 : decode cX5_init 23 = .ok (.putfield 19, 3) := by decide +kernel
theorem dX5_init_26 : decode cX5_init 26 = .ok (.aload_n 0, 1) := by decide +kernel
theorem dX5_init_27 : decode cX5_init 27 = .ok (.new 23, 3) := by decide +kernel
theorem dX5_init_30 : decode cX5_init 30 = .ok (.dup, 1) := by decide +kernel
theorem dX5_init_31 : decode cX5_init 31 = .ok (.invokespecial 25, 3) := by decide +kernel
theorem dX5_init_34 : decode cX5_init 34 = .ok (.putfield 26, 3) := by decide +kernel
theorem dX5_init_37 : decode cX5_init 37 = .ok (.aload_n 0, 1) := by decide +kernel
theorem dX5_init_38 : decode cX5_init 38 = .ok (.new 30, 3) := by decide +kernel
theorem dX5_init_41 : decode cX5_init 41 = .ok (.dup, 1) := by decide +kernel
theorem dX5_init_42 : decode cX5_init 42 = .ok (.invokespecial 32, 3) := by decide +kernel
theorem dX5_init_45 : decode cX5_init 45 = .ok (.putfield 33, 3) := by decide +kernel
theorem dX5_init_48 : decode cX5_init 48 = .ok (.aload_n 0, 1) := by decide +kernel
theorem dX5_init_49 : decode cX5_init 49 = .ok (.new 37, 3) := by decide +kernel
theorem dX5_init_52 : decode cX5_init 52 = .ok (.dup, 1) := by decide +kernel
theorem dX5_init_53 : decode cX5_init 53 = .ok (.invokespecial 39, 3) := by decide +kernel
theorem dX5_init_56 : decode cX5_init 56 = .ok (.putfield 40, 3) := by decide +kernel
theorem dX5_init_59 : decode cX5_init 59 = .ok (.return_, 1) := by decide +kernel
set_option maxRecDepth 20000 in
theorem ggX5_thing_X4_add : GoodIn wsX5_thing wsX4_add := goodIn_ca (goodIn_r _ [6, 7, 8, 9, 10, 11, 12, 13, 14, 15, 5, 16, 22, 23, 24, 25, 26, 27] (by decide +kernel) (by decide +kernel)) (goodIn_sub (fun _ h => List.mem_cons_of_mem _ (List.mem_append_right _ h)) (by decide +kernel))
set_option maxRecDepth 20000 in
theorem gX5_thing_X4_add : GoodIn wsX5_thing (wsV RX5 44 RX4 yX4_add wsX4_add) := goodIn_app (goodIn_of _ (by decide +kernel)) ggX5_thing_X4_add
theorem dX5_thing_0 : decode cX5_thing 0 = .ok (.iload_n 1, 1) := by decide +kernel
theorem dX5_thing_1 : decode cX5_thing 1 = .ok (.ifCond .lt 22, 3) := by decide +kernel
theorem dX5_thing_4 : decode cX5_thing 4 = .ok (.iload_n 1, 1) := by decide +kernel
theorem dX5_thing_5 : decode cX5_thing 5 = .ok (.iconst 3, 1) := by decide +kernel
theorem dX5_thing_6 : decode cX5_thing 6 = .ok (.if_icmp .gt 17, 3) := by decide +kernel
theorem dX5_thing_9 : decode cX5_thing 9 = .ok (.iload_n 2, 1) := by decide +kernel
theorem dX5_thing_10 : decode cX5_thing 10 = .ok (.sipush (-1000), 3) := by decide +kernel
theorem dX5_thing_13 : decode cX5_thing 13 = .ok (.if_icmp .lt 10, 3) := by decide +kernel
theorem dX5_thing_16 : decode cX5_thing 16 = .ok (.iload_n 2, 1) := by decide +kernel
theorem dX5_thing_17 : decode cX5_thing 17 = .ok (.sipush 1000, 3) := by decide +kernel
theorem dX5_thing_20 : decode cX5_thing 20 = .ok (.if_icmp .le 6, 3) := by decide +kernel
theorem dX5_thing_23 : decode cX5_thing 23 = .ok (.bipush (-2), 2) := by decide +kernel
theorem dX5_thing_25 : decode cX5_thing 25 = .ok (.ireturn, 1) := by decide +kernel
theorem dX5_thing_26 : decode cX5_thing 26 = .ok (.aload_n 0, 1) := by decide +kernel
theorem dX5_thing_27 : decode cX5_thing 27 = .ok (.getfield 10, 3) := by decide +kernel
theorem dX5_thing_30 : decode cX5_thing 30 = .ok (.iload_n 1, 1) := by decide +kernel
theorem dX5_thing_31 : decode cX5_thing 31 = .ok (.iload_n 2, 1) := by decide +kernel
theorem dX5_thing_32 : decode cX5_thing 32 = .ok (.iconst 0, 1) := by decide +kernel
theorem dX5_thing_33 : decode cX5_thing 33 = .ok (.invokevirtual 44, 3) := by decide +kernel
theorem dX5_thing_36 : decode cX5_thing 36 = .ok (.ireturn, 1) := by decide +kernel
set_option maxRecDepth 20000 in
theorem ggX5_row_X4_areFull : GoodIn wsX5_row wsX4_areFull := goodIn_r _ [6, 7, 35, 36, 37, 38, 39, 40] (by decide +kernel) (by decide +kernel)
set_option maxRecDepth 20000 in
theorem gX5_row_X4_areFull : GoodIn wsX5_row (wsV RX5 48 RX4 yX4_areFull wsX4_areFull) := goodIn_app (goodIn_of _ (by decide +kernel)) ggX5_row_X4_areFull
set_option maxRecDepth 20000 in
theorem ggX5_row_X5_answerOf : GoodIn wsX5_row wsX5_answerOf := goodIn_ca (goodIn_r _ [12, 13, 14, 15, 16, 17, 18, 19, 30, 31, 32, 33, 34, 41, 42, 43, 44] (by decide +kernel) (by decide +kernel)) (goodIn_sub (fun _ h => List.mem_cons_of_mem _ (List.mem_append_right _ h)) (by decide +kernel))
set_option maxRecDepth 20000 in
theorem gX5_row_X5_answerOf : GoodIn wsX5_row (wsV RX5 52 RX5 yX5_answerOf wsX5_answerOf) := goodIn_app (goodIn_of _ (by decide +kernel)) ggX5_row_X5_answerOf
set_option maxRecDepth 20000 in
theorem ggX5_row_X4_add : GoodIn wsX5_row wsX4_add := goodIn_ca (goodIn_r _ [23, 7, 24, 25, 26, 27, 28, 29, 3, 4, 5, 6, 35, 36, 37, 38, 39, 40] (by decide +kernel) (by decide +kernel)) (goodIn_sub (fun _ h => List.mem_cons_of_mem _ (List.mem_append_right _ h)) (by decide +kernel))
set_option maxRecDepth 20000 in
theorem gX5_row_X4_add : GoodIn wsX5_row (wsV RX5 44 RX4 yX4_add wsX4_add) := goodIn_app (goodIn_of _ (by decide +kernel)) ggX5_row_X4_add
theorem dX5_row_0 : decode cX5_row 0 = .ok (.iload_n 1, 1) := by decide +kernel
theorem dX5_row_1 : decode cX5_row 1 = .ok (.iconst 4, 1) := by decide +kernel
theorem dX5_row_2 : decode cX5_row 2 = .ok (.if_icmp .lt 15, 3) := by decide +kernel
theorem dX5_row_5 : decode cX5_row 5 = .ok (.iload_n 1, 1) := by decide +kernel
theorem dX5_row_6 : decode cX5_row 6 = .ok (.bipush 15, 2) := by decide +kernel
theorem dX5_row_8 : decode cX5_row 8 = .ok (.if_icmp .gt 9, 3) := by decide +kernel
theorem dX5_row_11 : decode cX5_row 11 = .ok (.iload_n 2, 1) := by decide +kernel
theorem dX5_row_12 : decode cX5_row 12 = .ok (.bipush 8, 2) := by decide +kernel
theorem dX5_row_14 : decode cX5_row 14 = .ok (.if_icmp .le 6, 3) := by decide +kernel
theorem dX5_row_17 : decode cX5_row 17 = .ok (.bipush (-2), 2) := by decide +kernel
theorem dX5_row_19 : decode cX5_row 19 = .ok (.ireturn, 1) := by decide +kernel
theorem dX5_row_20 : decode cX5_row 20 = .ok (.aload_n 0, 1) := by decide +kernel
theorem dX5_row_21 : decode cX5_row 21 = .ok (.getfield 10, 3) := by decide +kernel
theorem dX5_row_24 : decode cX5_row 24 = .ok (.invokevirtual 48, 3) := by decide +kernel
theorem dX5_row_27 : decode cX5_row 27 = .ok (.ifCond .eq 6, 3) := by decide +kernel
theorem dX5_row_30 : decode cX5_row 30 = .ok (.bipush (-4), 2) := by decide +kernel
theorem dX5_row_32 : decode cX5_row 32 = .ok (.ireturn, 1) := by decide +kernel
theorem dX5_row_33 : decode cX5_row 33 = .ok (.iload_n 2, 1) := by decide +kernel
theorem dX5_row_34 : decode cX5_row 34 = .ok (.ifCond .ge 9, 3) := by decide +kernel
theorem dX5_row_37 : decode cX5_row 37 = .ok (.aload_n 0, 1) := by decide +kernel
theorem dX5_row_38 : decode cX5_row 38 = .ok (.iconst 5, 1) := by decide +kernel
theorem dX5_row_39 : decode cX5_row 39 = .ok (.invokevirtual 52, 3) := by decide +kernel
theorem dX5_row_42 : decode cX5_row 42 = .ok (.ireturn, 1) := by decide +kernel
theorem dX5_row_43 : decode cX5_row 43 = .ok (.aload_n 0, 1) := by decide +kernel
theorem dX5_row_44 : decode cX5_row 44 = .ok (.getfield 10, 3) := by decide +kernel
theorem dX5_row_47 : decode cX5_row 47 = .ok (.iload_n 1, 1) := by decide +kernel
theorem dX5_row_48 : decode cX5_row 48 = .ok (.iconst 0, 1) := by decide +kernel
theorem dX5_row_49 : decode cX5_row 49 = .ok (.iload_n 2, 1) := by decide +kernel
theorem dX5_row_50 : decode cX5_row 50 = .ok (.invokevirtual 44, 3) := by decide +kernel
theorem dX5_row_53 : decode cX5_row 53 = .ok (.ireturn, 1) := by decide +kernel
set_option maxRecDepth 20000 in
theorem ggX5_is_X5_refusalOf : GoodIn wsX5_is wsX5_refusalOf := goodIn_r _ [6, 1, 7, 8, 9, 10, 11, 12, 21, 22, 23, 24, 25, 26, 27, 28, 29, 30, 31] (by decide +kernel) (by decide +kernel)
set_option maxRecDepth 20000 in
theorem gX5_is_X5_refusalOf : GoodIn wsX5_is (wsV RX5 56 RX5 yX5_refusalOf wsX5_refusalOf) := goodIn_app (goodIn_of _ (by decide +kernel)) ggX5_is_X5_refusalOf
set_option maxRecDepth 20000 in
theorem ggX5_is_X4_isOf : GoodIn wsX5_is wsX4_isOf := goodIn_ca (goodIn_r _ [16, 17, 18, 8, 9, 10, 11, 12, 19, 5, 20, 26, 27, 28, 29, 30, 31] (by decide +kernel) (by decide +kernel)) (goodIn_sub (fun _ h => List.mem_cons_of_mem _ (List.mem_append_right _ h)) (by decide +kernel))
set_option maxRecDepth 20000 in
theorem gX5_is_X4_isOf : GoodIn wsX5_is (wsV RX5 60 RX4 yX4_isOf wsX4_isOf) := goodIn_app (goodIn_of _ (by decide +kernel)) ggX5_is_X4_isOf
theorem dX5_is_0 : decode cX5_is 0 = .ok (.aload_n 0, 1) := by decide +kernel
theorem dX5_is_1 : decode cX5_is 1 = .ok (.iload_n 1, 1) := by decide +kernel
theorem dX5_is_2 : decode cX5_is 2 = .ok (.iload_n 2, 1) := by decide +kernel
theorem dX5_is_3 : decode cX5_is 3 = .ok (.iconst 0, 1) := by decide +kernel
theorem dX5_is_4 : decode cX5_is 4 = .ok (.bipush 17, 2) := by decide +kernel
theorem dX5_is_6 : decode cX5_is 6 = .ok (.invokevirtual 56, 3) := by decide +kernel
theorem dX5_is_9 : decode cX5_is 9 = .ok (.istore_n 3, 1) := by decide +kernel
theorem dX5_is_10 : decode cX5_is 10 = .ok (.iload_n 3, 1) := by decide +kernel
theorem dX5_is_11 : decode cX5_is 11 = .ok (.ifCond .eq 5, 3) := by decide +kernel
theorem dX5_is_14 : decode cX5_is 14 = .ok (.iload_n 3, 1) := by decide +kernel
theorem dX5_is_15 : decode cX5_is 15 = .ok (.ireturn, 1) := by decide +kernel
theorem dX5_is_16 : decode cX5_is 16 = .ok (.aload_n 0, 1) := by decide +kernel
theorem dX5_is_17 : decode cX5_is 17 = .ok (.getfield 10, 3) := by decide +kernel
theorem dX5_is_20 : decode cX5_is 20 = .ok (.iload_n 1, 1) := by decide +kernel
theorem dX5_is_21 : decode cX5_is 21 = .ok (.iload_n 2, 1) := by decide +kernel
theorem dX5_is_22 : decode cX5_is 22 = .ok (.invokevirtual 60, 3) := by decide +kernel
theorem dX5_is_25 : decode cX5_is 25 = .ok (.ifCond .eq 7, 3) := by decide +kernel
theorem dX5_is_28 : decode cX5_is 28 = .ok (.iconst 1, 1) := by decide +kernel
theorem dX5_is_29 : decode cX5_is 29 = .ok (.goto 4, 3) := by decide +kernel
theorem dX5_is_32 : decode cX5_is 32 = .ok (.iconst 0, 1) := by decide +kernel
theorem dX5_is_33 : decode cX5_is 33 = .ok (.ireturn, 1) := by decide +kernel
set_option maxRecDepth 20000 in
theorem ggX5_more_X4_hold : GoodIn wsX5_more wsX4_hold := goodIn_r _ [6, 7, 26, 27, 28, 29, 30, 31] (by decide +kernel) (by decide +kernel)
set_option maxRecDepth 20000 in
theorem gX5_more_X4_hold : GoodIn wsX5_more (wsV RX5 64 RX4 yX4_hold wsX4_hold) := goodIn_app (goodIn_of _ (by decide +kernel)) ggX5_more_X4_hold
set_option maxRecDepth 20000 in
theorem ggX5_more_X4_formOf : GoodIn wsX5_more wsX4_formOf := goodIn_ca (goodIn_r _ [11, 12, 13, 3, 4, 5, 6, 7, 26, 27, 28, 29, 30, 31] (by decide +kernel) (by decide +kernel)) (goodIn_sub (fun _ h => List.mem_cons_of_mem _ (List.mem_append_right _ h)) (by decide +kernel))
set_option maxRecDepth 20000 in
theorem gX5_more_X4_formOf : GoodIn wsX5_more (wsV RX5 68 RX4 yX4_formOf wsX4_formOf) := goodIn_app (goodIn_of _ (by decide +kernel)) ggX5_more_X4_formOf
set_option maxRecDepth 20000 in
theorem ggX5_more_X4_isOf : GoodIn wsX5_more wsX4_isOf := goodIn_ca (goodIn_r _ [17, 12, 13, 3, 4, 5, 6, 7, 18, 19, 20, 26, 27, 28, 29, 30, 31] (by decide +kernel) (by decide +kernel)) (goodIn_sub (fun _ h => List.mem_cons_of_mem _ (List.mem_append_right _ h)) (by decide +kernel))
set_option maxRecDepth 20000 in
theorem gX5_more_X4_isOf : GoodIn wsX5_more (wsV RX5 60 RX4 yX4_isOf wsX4_isOf) := goodIn_app (goodIn_of _ (by decide +kernel)) ggX5_more_X4_isOf
theorem dX5_more_0 : decode cX5_more 0 = .ok (.aload_n 0, 1) := by decide +kernel
theorem dX5_more_1 : decode cX5_more 1 = .ok (.getfield 10, 3) := by decide +kernel
theorem dX5_more_4 : decode cX5_more 4 = .ok (.iload_n 1, 1) := by decide +kernel
theorem dX5_more_5 : decode cX5_more 5 = .ok (.invokevirtual 64, 3) := by decide +kernel
theorem dX5_more_8 : decode cX5_more 8 = .ok (.ifCond .ne 5, 3) := by decide +kernel
theorem dX5_more_11 : decode cX5_more 11 = .ok (.iconst (-1), 1) := by decide +kernel
theorem dX5_more_12 : decode cX5_more 12 = .ok (.ireturn, 1) := by decide +kernel
theorem dX5_more_13 : decode cX5_more 13 = .ok (.iconst 0, 1) := by decide +kernel
theorem dX5_more_14 : decode cX5_more 14 = .ok (.istore_n 2, 1) := by decide +kernel
theorem dX5_more_15 : decode cX5_more 15 = .ok (.iload_n 2, 1) := by decide +kernel
theorem dX5_more_16 : decode cX5_more 16 = .ok (.bipush 17, 2) := by decide +kernel
theorem dX5_more_18 : decode cX5_more 18 = .ok (.if_icmp .ge 35, 3) := by decide +kernel
theorem dX5_more_21 : decode cX5_more 21 = .ok (.iload_n 2, 1) := by decide +kernel
theorem dX5_more_22 : decode cX5_more 22 = .ok (.aload_n 0, 1) := by decide +kernel
theorem dX5_more_23 : decode cX5_more 23 = .ok (.getfield 10, 3) := by decide +kernel
theorem dX5_more_26 : decode cX5_more 26 = .ok (.iload_n 1, 1) := by decide +kernel
theorem dX5_more_27 : decode cX5_more 27 = .ok (.invokevirtual 68, 3) := by decide +kernel
theorem dX5_more_30 : decode cX5_more 30 = .ok (.if_icmp .eq 17, 3) := by decide +kernel
theorem dX5_more_33 : decode cX5_more 33 = .ok (.aload_n 0, 1) := by decide +kernel
theorem dX5_more_34 : decode cX5_more 34 = .ok (.getfield 10, 3) := by decide +kernel
theorem dX5_more_37 : decode cX5_more 37 = .ok (.iload_n 1, 1) := by decide +kernel
theorem dX5_more_38 : decode cX5_more 38 = .ok (.iload_n 2, 1) := by decide +kernel
theorem dX5_more_39 : decode cX5_more 39 = .ok (.invokevirtual 60, 3) := by decide +kernel
theorem dX5_more_42 : decode cX5_more 42 = .ok (.ifCond .eq 5, 3) := by decide +kernel
theorem dX5_more_45 : decode cX5_more 45 = .ok (.iload_n 2, 1) := by decide +kernel
theorem dX5_more_46 : decode cX5_more 46 = .ok (.ireturn, 1) := by decide +kernel
theorem dX5_more_47 : decode cX5_more 47 = .ok (.iinc 2 1, 3) := by decide +kernel
theorem dX5_more_50 : decode cX5_more 50 = .ok (.goto (-35), 3) := by decide +kernel
theorem dX5_more_53 : decode cX5_more 53 = .ok (.bipush (-5), 2) := by decide +kernel
theorem dX5_more_55 : decode cX5_more 55 = .ok (.ireturn, 1) := by decide +kernel
set_option maxRecDepth 20000 in
theorem ggX5_weight_X5_refusalOf : GoodIn wsX5_weight wsX5_refusalOf := goodIn_r _ [7, 2, 8, 9, 10, 11, 12, 13, 38, 39, 40, 41, 42, 43, 44, 45, 46, 47, 48] (by decide +kernel) (by decide +kernel)
set_option maxRecDepth 20000 in
theorem gX5_weight_X5_refusalOf : GoodIn wsX5_weight (wsV RX5 56 RX5 yX5_refusalOf wsX5_refusalOf) := goodIn_app (goodIn_of _ (by decide +kernel)) ggX5_weight_X5_refusalOf
set_option maxRecDepth 20000 in
theorem ggX5_weight_X4_isOf : GoodIn wsX5_weight wsX4_isOf := goodIn_ca (goodIn_r _ [17, 18, 19, 9, 10, 11, 12, 13, 20, 6, 21, 43, 44, 45, 46, 47, 48] (by decide +kernel) (by decide +kernel)) (goodIn_sub (fun _ h => List.mem_cons_of_mem _ (List.mem_append_right _ h)) (by decide +kernel))
set_option maxRecDepth 20000 in
theorem gX5_weight_X4_isOf : GoodIn wsX5_weight (wsV RX5 60 RX4 yX4_isOf wsX4_isOf) := goodIn_app (goodIn_of _ (by decide +kernel)) ggX5_weight_X4_isOf
set_option maxRecDepth 20000 in
theorem ggX5_weight_X5_answerOf : GoodIn wsX5_weight wsX5_answerOf := goodIn_ca (goodIn_r _ [25, 26, 27, 28, 29, 30, 31, 32, 38, 39, 40, 41, 42, 49, 50, 51, 52] (by decide +kernel) (by decide +kernel)) (goodIn_sub (fun _ h => List.mem_cons_of_mem _ (List.mem_append_right _ h)) (by decide +kernel))
set_option maxRecDepth 20000 in
theorem gX5_weight_X5_answerOf : GoodIn wsX5_weight (wsV RX5 52 RX5 yX5_answerOf wsX5_answerOf) := goodIn_app (goodIn_of _ (by decide +kernel)) ggX5_weight_X5_answerOf
set_option maxRecDepth 20000 in
theorem ggX5_weight_X4_weightOf : GoodIn wsX5_weight wsX4_weightOf := goodIn_ca (goodIn_r _ [36, 37, 19, 9, 10, 11, 12, 13, 43, 44, 45, 46, 47, 48] (by decide +kernel) (by decide +kernel)) (goodIn_sub (fun _ h => List.mem_cons_of_mem _ (List.mem_append_right _ h)) (by decide +kernel))
set_option maxRecDepth 20000 in
theorem gX5_weight_X4_weightOf : GoodIn wsX5_weight (wsV RX5 72 RX4 yX4_weightOf wsX4_weightOf) := goodIn_app (goodIn_of _ (by decide +kernel)) ggX5_weight_X4_weightOf
theorem dX5_weight_0 : decode cX5_weight 0 = .ok (.aload_n 0, 1) := by decide +kernel
theorem dX5_weight_1 : decode cX5_weight 1 = .ok (.iload_n 1, 1) := by decide +kernel
theorem dX5_weight_2 : decode cX5_weight 2 = .ok (.iload_n 2, 1) := by decide +kernel
theorem dX5_weight_3 : decode cX5_weight 3 = .ok (.iconst 0, 1) := by decide +kernel
theorem dX5_weight_4 : decode cX5_weight 4 = .ok (.iconst 2, 1) := by decide +kernel
theorem dX5_weight_5 : decode cX5_weight 5 = .ok (.invokevirtual 56, 3) := by decide +kernel
theorem dX5_weight_8 : decode cX5_weight 8 = .ok (.istore_n 3, 1) := by decide +kernel
theorem dX5_weight_9 : decode cX5_weight 9 = .ok (.iload_n 3, 1) := by decide +kernel
theorem dX5_weight_10 : decode cX5_weight 10 = .ok (.ifCond .eq 8, 3) := by decide +kernel
theorem dX5_weight_13 : decode cX5_weight 13 = .ok (.ldc 71, 2) := by decide +kernel
theorem dX5_weight_15 : decode cX5_weight 15 = .ok (.iload_n 3, 1) := by decide +kernel
theorem dX5_weight_16 : decode cX5_weight 16 = .ok (.iadd, 1) := by decide +kernel
theorem dX5_weight_17 : decode cX5_weight 17 = .ok (.ireturn, 1) := by decide +kernel
theorem dX5_weight_18 : decode cX5_weight 18 = .ok (.aload_n 0, 1) := by decide +kernel
theorem dX5_weight_19 : decode cX5_weight 19 = .ok (.getfield 10, 3) := by decide +kernel
theorem dX5_weight_22 : decode cX5_weight 22 = .ok (.iload_n 1, 1) := by decide +kernel
theorem dX5_weight_23 : decode cX5_weight 23 = .ok (.iload_n 2, 1) := by decide +kernel
theorem dX5_weight_24 : decode cX5_weight 24 = .ok (.invokevirtual 60, 3) := by decide +kernel
theorem dX5_weight_27 : decode cX5_weight 27 = .ok (.ifCond .ne 12, 3) := by decide +kernel
theorem dX5_weight_30 : decode cX5_weight 30 = .ok (.ldc 71, 2) := by decide +kernel
theorem dX5_weight_32 : decode cX5_weight 32 = .ok (.aload_n 0, 1) := by decide +kernel
theorem dX5_weight_33 : decode cX5_weight 33 = .ok (.iconst 1, 1) := by decide +kernel
theorem dX5_weight_34 : decode cX5_weight 34 = .ok (.invokevirtual 52, 3) := by decide +kernel
theorem dX5_weight_37 : decode cX5_weight 37 = .ok (.iadd, 1) := by decide +kernel
theorem dX5_weight_38 : decode cX5_weight 38 = .ok (.ireturn, 1) := by decide +kernel
theorem dX5_weight_39 : decode cX5_weight 39 = .ok (.aload_n 0, 1) := by decide +kernel
theorem dX5_weight_40 : decode cX5_weight 40 = .ok (.getfield 10, 3) := by decide +kernel
theorem dX5_weight_43 : decode cX5_weight 43 = .ok (.iload_n 1, 1) := by decide +kernel
theorem dX5_weight_44 : decode cX5_weight 44 = .ok (.invokevirtual 72, 3) := by decide +kernel
theorem dX5_weight_47 : decode cX5_weight 47 = .ok (.ireturn, 1) := by decide +kernel
set_option maxRecDepth 20000 in
theorem ggX5_length_X5_refusalOf : GoodIn wsX5_length wsX5_refusalOf := goodIn_r _ [6, 1, 7, 8, 9, 10, 11, 12, 37, 38, 39, 40, 41, 42, 43, 44, 45, 46, 47] (by decide +kernel) (by decide +kernel)
set_option maxRecDepth 20000 in
theorem gX5_length_X5_refusalOf : GoodIn wsX5_length (wsV RX5 56 RX5 yX5_refusalOf wsX5_refusalOf) := goodIn_app (goodIn_of _ (by decide +kernel)) ggX5_length_X5_refusalOf
set_option maxRecDepth 20000 in
theorem ggX5_length_X4_isOf : GoodIn wsX5_length wsX4_isOf := goodIn_ca (goodIn_r _ [16, 17, 18, 8, 9, 10, 11, 12, 19, 5, 20, 42, 43, 44, 45, 46, 47] (by decide +kernel) (by decide +kernel)) (goodIn_sub (fun _ h => List.mem_cons_of_mem _ (List.mem_append_right _ h)) (by decide +kernel))
set_option maxRecDepth 20000 in
theorem gX5_length_X4_isOf : GoodIn wsX5_length (wsV RX5 60 RX4 yX4_isOf wsX4_isOf) := goodIn_app (goodIn_of _ (by decide +kernel)) ggX5_length_X4_isOf
set_option maxRecDepth 20000 in
theorem ggX5_length_X5_answerOf : GoodIn wsX5_length wsX5_answerOf := goodIn_ca (goodIn_r _ [24, 25, 26, 27, 28, 29, 30, 31, 37, 38, 39, 40, 41, 48, 49, 50, 51] (by decide +kernel) (by decide +kernel)) (goodIn_sub (fun _ h => List.mem_cons_of_mem _ (List.mem_append_right _ h)) (by decide +kernel))
set_option maxRecDepth 20000 in
theorem gX5_length_X5_answerOf : GoodIn wsX5_length (wsV RX5 52 RX5 yX5_answerOf wsX5_answerOf) := goodIn_app (goodIn_of _ (by decide +kernel)) ggX5_length_X5_answerOf
set_option maxRecDepth 20000 in
theorem ggX5_length_X4_sizeOf : GoodIn wsX5_length wsX4_sizeOf := goodIn_ca (goodIn_r _ [35, 36, 18, 8, 9, 10, 11, 12, 42, 43, 44, 45, 46, 47] (by decide +kernel) (by decide +kernel)) (goodIn_sub (fun _ h => List.mem_cons_of_mem _ (List.mem_append_right _ h)) (by decide +kernel))
set_option maxRecDepth 20000 in
theorem gX5_length_X4_sizeOf : GoodIn wsX5_length (wsV RX5 75 RX4 yX4_sizeOf wsX4_sizeOf) := goodIn_app (goodIn_of _ (by decide +kernel)) ggX5_length_X4_sizeOf
theorem dX5_length_0 : decode cX5_length 0 = .ok (.aload_n 0, 1) := by decide +kernel
theorem dX5_length_1 : decode cX5_length 1 = .ok (.iload_n 1, 1) := by decide +kernel
theorem dX5_length_2 : decode cX5_length 2 = .ok (.iload_n 2, 1) := by decide +kernel
theorem dX5_length_3 : decode cX5_length 3 = .ok (.iconst 4, 1) := by decide +kernel
theorem dX5_length_4 : decode cX5_length 4 = .ok (.bipush 15, 2) := by decide +kernel
theorem dX5_length_6 : decode cX5_length 6 = .ok (.invokevirtual 56, 3) := by decide +kernel
theorem dX5_length_9 : decode cX5_length 9 = .ok (.istore_n 3, 1) := by decide +kernel
theorem dX5_length_10 : decode cX5_length 10 = .ok (.iload_n 3, 1) := by decide +kernel
theorem dX5_length_11 : decode cX5_length 11 = .ok (.ifCond .eq 5, 3) := by decide +kernel
theorem dX5_length_14 : decode cX5_length 14 = .ok (.iload_n 3, 1) := by decide +kernel
theorem dX5_length_15 : decode cX5_length 15 = .ok (.ireturn, 1) := by decide +kernel
theorem dX5_length_16 : decode cX5_length 16 = .ok (.aload_n 0, 1) := by decide +kernel
theorem dX5_length_17 : decode cX5_length 17 = .ok (.getfield 10, 3) := by decide +kernel
theorem dX5_length_20 : decode cX5_length 20 = .ok (.iload_n 1, 1) := by decide +kernel
theorem dX5_length_21 : decode cX5_length 21 = .ok (.iload_n 2, 1) := by decide +kernel
theorem dX5_length_22 : decode cX5_length 22 = .ok (.invokevirtual 60, 3) := by decide +kernel
theorem dX5_length_25 : decode cX5_length 25 = .ok (.ifCond .ne 9, 3) := by decide +kernel
theorem dX5_length_28 : decode cX5_length 28 = .ok (.aload_n 0, 1) := by decide +kernel
theorem dX5_length_29 : decode cX5_length 29 = .ok (.iconst 1, 1) := by decide +kernel
theorem dX5_length_30 : decode cX5_length 30 = .ok (.invokevirtual 52, 3) := by decide +kernel
theorem dX5_length_33 : decode cX5_length 33 = .ok (.ireturn, 1) := by decide +kernel
theorem dX5_length_34 : decode cX5_length 34 = .ok (.aload_n 0, 1) := by decide +kernel
theorem dX5_length_35 : decode cX5_length 35 = .ok (.getfield 10, 3) := by decide +kernel
theorem dX5_length_38 : decode cX5_length 38 = .ok (.iload_n 1, 1) := by decide +kernel
theorem dX5_length_39 : decode cX5_length 39 = .ok (.invokevirtual 75, 3) := by decide +kernel
theorem dX5_length_42 : decode cX5_length 42 = .ok (.ireturn, 1) := by decide +kernel
set_option maxRecDepth 20000 in
theorem ggX5_put_X5_refusalOf : GoodIn wsX5_put wsX5_refusalOf := goodIn_r _ [6, 1, 7, 8, 9, 10, 11, 12, 47, 48, 49, 50, 51, 52, 53, 54, 55, 56, 57] (by decide +kernel) (by decide +kernel)
set_option maxRecDepth 20000 in
theorem gX5_put_X5_refusalOf : GoodIn wsX5_put (wsV RX5 56 RX5 yX5_refusalOf wsX5_refusalOf) := goodIn_app (goodIn_of _ (by decide +kernel)) ggX5_put_X5_refusalOf
set_option maxRecDepth 20000 in
theorem ggX5_put_X5_findingAt : GoodIn wsX5_put wsX5_findingAt := goodIn_ca (goodIn_r _ [16, 1, 17, 18, 19, 10, 20, 21, 22, 8, 9, 11, 12, 23, 5, 24, 25, 26, 27, 28, 29, 47, 48, 49, 50, 51, 52, 53, 54, 55, 56, 57] (by decide +kernel) (by decide +kernel)) (goodIn_sub (fun _ h => List.mem_cons_of_mem _ (List.mem_append_right _ h)) (by decide +kernel))
set_option maxRecDepth 20000 in
theorem gX5_put_X5_findingAt : GoodIn wsX5_put (wsV RX5 78 RX5 yX5_findingAt wsX5_findingAt) := goodIn_app (goodIn_of _ (by decide +kernel)) ggX5_put_X5_findingAt
set_option maxRecDepth 20000 in
theorem ggX5_put_X5_answerOf : GoodIn wsX5_put wsX5_answerOf := goodIn_ca (goodIn_r _ [33, 34, 35, 36, 37, 38, 39, 40, 47, 48, 49, 50, 51, 58, 59, 60, 61] (by decide +kernel) (by decide +kernel)) (goodIn_sub (fun _ h => List.mem_cons_of_mem _ (List.mem_append_right _ h)) (by decide +kernel))
set_option maxRecDepth 20000 in
theorem gX5_put_X5_answerOf : GoodIn wsX5_put (wsV RX5 52 RX5 yX5_answerOf wsX5_answerOf) := goodIn_app (goodIn_of _ (by decide +kernel)) ggX5_put_X5_answerOf
set_option maxRecDepth 20000 in
theorem ggX5_put_X4_setNumber : GoodIn wsX5_put wsX4_setNumber := goodIn_ca (goodIn_r _ [44, 45, 21, 46, 26, 27, 10, 28, 12, 29, 52, 53, 54, 55, 56, 57] (by decide +kernel) (by decide +kernel)) (goodIn_sub (fun _ h => List.mem_cons_of_mem _ (List.mem_append_right _ h)) (by decide +kernel))
set_option maxRecDepth 20000 in
theorem gX5_put_X4_setNumber : GoodIn wsX5_put (wsV RX5 81 RX4 yX4_setNumber wsX4_setNumber) := goodIn_app (goodIn_of _ (by decide +kernel)) ggX5_put_X4_setNumber
theorem dX5_put_0 : decode cX5_put 0 = .ok (.aload_n 0, 1) := by decide +kernel
theorem dX5_put_1 : decode cX5_put 1 = .ok (.iload_n 1, 1) := by decide +kernel
theorem dX5_put_2 : decode cX5_put 2 = .ok (.iload_n 2, 1) := by decide +kernel
theorem dX5_put_3 : decode cX5_put 3 = .ok (.iconst 4, 1) := by decide +kernel
theorem dX5_put_4 : decode cX5_put 4 = .ok (.bipush 6, 2) := by decide +kernel
theorem dX5_put_6 : decode cX5_put 6 = .ok (.invokevirtual 56, 3) := by decide +kernel
theorem dX5_put_9 : decode cX5_put 9 = .ok (.istore 6, 2) := by decide +kernel
theorem dX5_put_11 : decode cX5_put 11 = .ok (.iload 6, 2) := by decide +kernel
theorem dX5_put_13 : decode cX5_put 13 = .ok (.ifCond .eq 6, 3) := by decide +kernel
theorem dX5_put_16 : decode cX5_put 16 = .ok (.iload 6, 2) := by decide +kernel
theorem dX5_put_18 : decode cX5_put 18 = .ok (.ireturn, 1) := by decide +kernel
theorem dX5_put_19 : decode cX5_put 19 = .ok (.aload_n 0, 1) := by decide +kernel
theorem dX5_put_20 : decode cX5_put 20 = .ok (.iload_n 1, 1) := by decide +kernel
theorem dX5_put_21 : decode cX5_put 21 = .ok (.iload_n 2, 1) := by decide +kernel
theorem dX5_put_22 : decode cX5_put 22 = .ok (.iload_n 3, 1) := by decide +kernel
theorem dX5_put_23 : decode cX5_put 23 = .ok (.invokevirtual 78, 3) := by decide +kernel
theorem dX5_put_26 : decode cX5_put 26 = .ok (.istore 7, 2) := by decide +kernel
theorem dX5_put_28 : decode cX5_put 28 = .ok (.iload 7, 2) := by decide +kernel
theorem dX5_put_30 : decode cX5_put 30 = .ok (.ifCond .eq 10, 3) := by decide +kernel
theorem dX5_put_33 : decode cX5_put 33 = .ok (.aload_n 0, 1) := by decide +kernel
theorem dX5_put_34 : decode cX5_put 34 = .ok (.iload 7, 2) := by decide +kernel
theorem dX5_put_36 : decode cX5_put 36 = .ok (.invokevirtual 52, 3) := by decide +kernel
theorem dX5_put_39 : decode cX5_put 39 = .ok (.ireturn, 1) := by decide +kernel
theorem dX5_put_40 : decode cX5_put 40 = .ok (.aload_n 0, 1) := by decide +kernel
theorem dX5_put_41 : decode cX5_put 41 = .ok (.getfield 10, 3) := by decide +kernel
theorem dX5_put_44 : decode cX5_put 44 = .ok (.iload_n 1, 1) := by decide +kernel
theorem dX5_put_45 : decode cX5_put 45 = .ok (.iload_n 3, 1) := by decide +kernel
theorem dX5_put_46 : decode cX5_put 46 = .ok (.lload 4, 2) := by decide +kernel
theorem dX5_put_48 : decode cX5_put 48 = .ok (.invokevirtual 81, 3) := by decide +kernel
theorem dX5_put_51 : decode cX5_put 51 = .ok (.iconst 1, 1) := by decide +kernel
theorem dX5_put_52 : decode cX5_put 52 = .ok (.ireturn, 1) := by decide +kernel
set_option maxRecDepth 20000 in
theorem ggX5_number_X5_refusalOf : GoodIn wsX5_number wsX5_refusalOf := goodIn_r _ [12, 7, 13, 14, 15, 16, 17, 18, 54, 55, 56, 57, 58, 59, 60, 61, 62, 63, 64] (by decide +kernel) (by decide +kernel)
set_option maxRecDepth 20000 in
theorem gX5_number_X5_refusalOf : GoodIn wsX5_number (wsV RX5 56 RX5 yX5_refusalOf wsX5_refusalOf) := goodIn_app (goodIn_of _ (by decide +kernel)) ggX5_number_X5_refusalOf
set_option maxRecDepth 20000 in
theorem ggX5_number_X5_findingAt : GoodIn wsX5_number wsX5_findingAt := goodIn_ca (goodIn_r _ [22, 7, 23, 24, 25, 16, 26, 27, 28, 14, 15, 17, 18, 29, 11, 30, 31, 32, 33, 34, 35, 54, 55, 56, 57, 58, 59, 60, 61, 62, 63, 64] (by decide +kernel) (by decide +kernel)) (goodIn_sub (fun _ h => List.mem_cons_of_mem _ (List.mem_append_right _ h)) (by decide +kernel))
set_option maxRecDepth 20000 in
theorem gX5_number_X5_findingAt : GoodIn wsX5_number (wsV RX5 78 RX5 yX5_findingAt wsX5_findingAt) := goodIn_app (goodIn_of _ (by decide +kernel)) ggX5_number_X5_findingAt
set_option maxRecDepth 20000 in
theorem ggX5_number_X4_numberAt : GoodIn wsX5_number wsX4_numberAt := goodIn_ca (goodIn_r _ [39, 40, 41, 32, 33, 16, 34, 18, 35, 59, 60, 61, 62, 63, 64] (by decide +kernel) (by decide +kernel)) (goodIn_sub (fun _ h => List.mem_cons_of_mem _ (List.mem_append_right _ h)) (by decide +kernel))
set_option maxRecDepth 20000 in
theorem gX5_number_X4_numberAt : GoodIn wsX5_number (wsV RX5 97 RX4 yX4_numberAt wsX4_numberAt) := goodIn_app (goodIn_of _ (by decide +kernel)) ggX5_number_X4_numberAt
theorem dX5_number_0 : decode cX5_number 0 = .ok (.aload_n 0, 1) := by decide +kernel
theorem dX5_number_1 : decode cX5_number 1 = .ok (.iload_n 1, 1) := by decide +kernel
theorem dX5_number_2 : decode cX5_number 2 = .ok (.iload_n 2, 1) := by decide +kernel
theorem dX5_number_3 : decode cX5_number 3 = .ok (.iconst 4, 1) := by decide +kernel
theorem dX5_number_4 : decode cX5_number 4 = .ok (.bipush 6, 2) := by decide +kernel
theorem dX5_number_6 : decode cX5_number 6 = .ok (.invokevirtual 56, 3) := by decide +kernel
theorem dX5_number_9 : decode cX5_number 9 = .ok (.ifCond .eq 5, 3) := by decide +kernel
theorem dX5_number_12 : decode cX5_number 12 = .ok (.lconst 0, 1) := by decide +kernel
theorem dX5_number_13 : decode cX5_number 13 = .ok (.lreturn, 1) := by decide +kernel
theorem dX5_number_14 : decode cX5_number 14 = .ok (.aload_n 0, 1) := by decide +kernel
theorem dX5_number_15 : decode cX5_number 15 = .ok (.iload_n 1, 1) := by decide +kernel
theorem dX5_number_16 : decode cX5_number 16 = .ok (.iload_n 2, 1) := by decide +kernel
theorem dX5_number_17 : decode cX5_number 17 = .ok (.iload_n 3, 1) := by decide +kernel
theorem dX5_number_18 : decode cX5_number 18 = .ok (.invokevirtual 78, 3) := by decide +kernel
theorem dX5_number_21 : decode cX5_number 21 = .ok (.istore 4, 2) := by decide +kernel
theorem dX5_number_23 : decode cX5_number 23 = .ok (.iload 4, 2) := by decide +kernel
theorem dX5_number_25 : decode cX5_number 25 = .ok (.iconst 1, 1) := by decide +kernel
theorem dX5_number_26 : decode cX5_number 26 = .ok (.if_icmp .ne 13, 3) := by decide +kernel
theorem dX5_number_29 : decode cX5_number 29 = .ok (.new 85, 3) := by decide +kernel
theorem dX5_number_32 : decode cX5_number 32 = .ok (.dup, 1) := by decide +kernel
theorem dX5_number_33 : decode cX5_number 33 = .ok (.ldc 87, 2) := by decide +kernel
theorem dX5_number_35 : decode cX5_number 35 = .ok (.invokespecial 89, 3) := by decide +kernel
theorem dX5_number_38 : decode cX5_number 38 = .ok (.athrow, 1) := by decide +kernel
theorem dX5_number_39 : decode cX5_number 39 = .ok (.iload 4, 2) := by decide +kernel
theorem dX5_number_41 : decode cX5_number 41 = .ok (.iconst 3, 1) := by decide +kernel
theorem dX5_number_42 : decode cX5_number 42 = .ok (.if_icmp .ne 13, 3) := by decide +kernel
theorem dX5_number_45 : decode cX5_number 45 = .ok (.new 92, 3) := by decide +kernel
theorem dX5_number_48 : decode cX5_number 48 = .ok (.dup, 1) := by decide +kernel
theorem dX5_number_49 : decode cX5_number 49 = .ok (.ldc 94, 2) := by decide +kernel
theorem dX5_number_51 : decode cX5_number 51 = .ok (.invokespecial 96, 3) := by decide +kernel
theorem dX5_number_54 : decode cX5_number 54 = .ok (.athrow, 1) := by decide +kernel
theorem dX5_number_55 : decode cX5_number 55 = .ok (.aload_n 0, 1) := by decide +kernel
theorem dX5_number_56 : decode cX5_number 56 = .ok (.getfield 10, 3) := by decide +kernel
theorem dX5_number_59 : decode cX5_number 59 = .ok (.iload_n 1, 1) := by decide +kernel
theorem dX5_number_60 : decode cX5_number 60 = .ok (.iload_n 3, 1) := by decide +kernel
theorem dX5_number_61 : decode cX5_number 61 = .ok (.invokevirtual 97, 3) := by decide +kernel
theorem dX5_number_64 : decode cX5_number 64 = .ok (.lreturn, 1) := by decide +kernel
set_option maxRecDepth 20000 in
theorem ggX5_lay_X4_hold : GoodIn wsX5_lay wsX4_hold := goodIn_r _ [6, 7, 59, 60, 61, 62, 63, 64] (by decide +kernel) (by decide +kernel)
set_option maxRecDepth 20000 in
theorem gX5_lay_X4_hold : GoodIn wsX5_lay (wsV RX5 64 RX4 yX4_hold wsX4_hold) := goodIn_app (goodIn_of _ (by decide +kernel)) ggX5_lay_X4_hold
set_option maxRecDepth 20000 in
theorem ggX5_lay_X5_refusalOf : GoodIn wsX5_lay wsX5_refusalOf := goodIn_r _ [12, 1, 2, 3, 4, 5, 6, 7, 54, 55, 56, 57, 58, 59, 60, 61, 62, 63, 64] (by decide +kernel) (by decide +kernel)
set_option maxRecDepth 20000 in
theorem gX5_lay_X5_refusalOf : GoodIn wsX5_lay (wsV RX5 56 RX5 yX5_refusalOf wsX5_refusalOf) := goodIn_app (goodIn_of _ (by decide +kernel)) ggX5_lay_X5_refusalOf
set_option maxRecDepth 20000 in
theorem ggX5_lay_X4_isOf : GoodIn wsX5_lay wsX4_isOf := goodIn_ca (goodIn_r _ [16, 17, 18, 3, 4, 5, 6, 7, 19, 11, 20, 59, 60, 61, 62, 63, 64] (by decide +kernel) (by decide +kernel)) (goodIn_sub (fun _ h => List.mem_cons_of_mem _ (List.mem_append_right _ h)) (by decide +kernel))
set_option maxRecDepth 20000 in
theorem gX5_lay_X4_isOf : GoodIn wsX5_lay (wsV RX5 60 RX4 yX4_isOf wsX4_isOf) := goodIn_app (goodIn_of _ (by decide +kernel)) ggX5_lay_X4_isOf
set_option maxRecDepth 20000 in
theorem ggX5_lay_X5_memberKind : GoodIn wsX5_lay wsX5_memberKind := goodIn_r _ [23] (by decide +kernel) (by decide +kernel)
set_option maxRecDepth 20000 in
theorem gX5_lay_X5_memberKind : GoodIn wsX5_lay (va_wsS RX5 101 yX5_memberKind wsX5_memberKind) := goodIn_app (goodIn_of _ (by decide +kernel)) ggX5_lay_X5_memberKind
set_option maxRecDepth 20000 in
theorem ggX5_lay_X5_layInto : GoodIn wsX5_lay wsX5_layInto := goodIn_ca (goodIn_r _ [27, 1, 13, 14, 15, 5, 16, 17, 18, 3, 4, 6, 7, 19, 11, 20, 28, 29, 30, 31, 32, 33, 34, 35, 36, 21, 22, 23, 37, 38, 39, 40, 41, 42, 54, 55, 56, 57, 58, 59, 60, 61, 62, 63, 64] (by decide +kernel) (by decide +kernel)) (goodIn_sub (fun _ h => List.mem_cons_of_mem _ (List.mem_append_right _ h)) (by decide +kernel))
set_option maxRecDepth 20000 in
theorem gX5_lay_X5_layInto : GoodIn wsX5_lay (wsV RX5 104 RX5 yX5_layInto wsX5_layInto) := goodIn_app (goodIn_of _ (by decide +kernel)) ggX5_lay_X5_layInto
set_option maxRecDepth 20000 in
theorem ggX5_lay_X5_answerOf : GoodIn wsX5_lay wsX5_answerOf := goodIn_ca (goodIn_r _ [46, 47, 48, 49, 50, 51, 52, 53, 54, 55, 56, 57, 58, 65, 66, 67, 68] (by decide +kernel) (by decide +kernel)) (goodIn_sub (fun _ h => List.mem_cons_of_mem _ (List.mem_append_right _ h)) (by decide +kernel))
set_option maxRecDepth 20000 in
theorem gX5_lay_X5_answerOf : GoodIn wsX5_lay (wsV RX5 52 RX5 yX5_answerOf wsX5_answerOf) := goodIn_app (goodIn_of _ (by decide +kernel)) ggX5_lay_X5_answerOf
theorem dX5_lay_0 : decode cX5_lay 0 = .ok (.iload 4, 2) := by decide +kernel
theorem dX5_lay_2 : decode cX5_lay 2 = .ok (.bipush (-5), 2) := by decide +kernel
theorem dX5_lay_4 : decode cX5_lay 4 = .ok (.if_icmp .eq 17, 3) := by decide +kernel
theorem dX5_lay_7 : decode cX5_lay 7 = .ok (.aload_n 0, 1) := by decide +kernel
theorem dX5_lay_8 : decode cX5_lay 8 = .ok (.getfield 10, 3) := by decide +kernel
theorem dX5_lay_11 : decode cX5_lay 11 = .ok (.iload 4, 2) := by decide +kernel
theorem dX5_lay_13 : decode cX5_lay 13 = .ok (.invokevirtual 64, 3) := by decide +kernel
theorem dX5_lay_16 : decode cX5_lay 16 = .ok (.ifCond .ne 5, 3) := by decide +kernel
theorem dX5_lay_19 : decode cX5_lay 19 = .ok (.iconst (-1), 1) := by decide +kernel
theorem dX5_lay_20 : decode cX5_lay 20 = .ok (.ireturn, 1) := by decide +kernel
theorem dX5_lay_21 : decode cX5_lay 21 = .ok (.aload_n 0, 1) := by decide +kernel
theorem dX5_lay_22 : decode cX5_lay 22 = .ok (.iload_n 1, 1) := by decide +kernel
theorem dX5_lay_23 : decode cX5_lay 23 = .ok (.iload_n 2, 1) := by decide +kernel
theorem dX5_lay_24 : decode cX5_lay 24 = .ok (.bipush 7, 2) := by decide +kernel
theorem dX5_lay_26 : decode cX5_lay 26 = .ok (.bipush 15, 2) := by decide +kernel
theorem dX5_lay_28 : decode cX5_lay 28 = .ok (.invokevirtual 56, 3) := by decide +kernel
theorem dX5_lay_31 : decode cX5_lay 31 = .ok (.istore 5, 2) := by decide +kernel
theorem dX5_lay_33 : decode cX5_lay 33 = .ok (.iload 5, 2) := by decide +kernel
theorem dX5_lay_35 : decode cX5_lay 35 = .ok (.ifCond .eq 6, 3) := by decide +kernel
theorem dX5_lay_38 : decode cX5_lay 38 = .ok (.iload 5, 2) := by decide +kernel
theorem dX5_lay_40 : decode cX5_lay 40 = .ok (.ireturn, 1) := by decide +kernel
theorem dX5_lay_41 : decode cX5_lay 41 = .ok (.aload_n 0, 1) := by decide +kernel
theorem dX5_lay_42 : decode cX5_lay 42 = .ok (.getfield 10, 3) := by decide +kernel
theorem dX5_lay_45 : decode cX5_lay 45 = .ok (.iload_n 1, 1) := by decide +kernel
theorem dX5_lay_46 : decode cX5_lay 46 = .ok (.iload_n 2, 1) := by decide +kernel
theorem dX5_lay_47 : decode cX5_lay 47 = .ok (.invokevirtual 60, 3) := by decide +kernel
theorem dX5_lay_50 : decode cX5_lay 50 = .ok (.ifCond .eq 18, 3) := by decide +kernel
theorem dX5_lay_53 : decode cX5_lay 53 = .ok (.aload_n 0, 1) := by decide +kernel
theorem dX5_lay_54 : decode cX5_lay 54 = .ok (.iload_n 1, 1) := by decide +kernel
theorem dX5_lay_55 : decode cX5_lay 55 = .ok (.iload_n 3, 1) := by decide +kernel
theorem dX5_lay_56 : decode cX5_lay 56 = .ok (.iload 4, 2) := by decide +kernel
theorem dX5_lay_58 : decode cX5_lay 58 = .ok (.iload_n 2, 1) := by decide +kernel
theorem dX5_lay_59 : decode cX5_lay 59 = .ok (.invokestatic 101, 3) := by decide +kernel
theorem dX5_lay_62 : decode cX5_lay 62 = .ok (.invokevirtual 104, 3) := by decide +kernel
theorem dX5_lay_65 : decode cX5_lay 65 = .ok (.goto 4, 3) := by decide +kernel
theorem dX5_lay_68 : decode cX5_lay 68 = .ok (.iconst 1, 1) := by decide +kernel
theorem dX5_lay_69 : decode cX5_lay 69 = .ok (.istore 6, 2) := by decide +kernel
theorem dX5_lay_71 : decode cX5_lay 71 = .ok (.iload 6, 2) := by decide +kernel
theorem dX5_lay_73 : decode cX5_lay 73 = .ok (.ifCond .ne 7, 3) := by decide +kernel
theorem dX5_lay_76 : decode cX5_lay 76 = .ok (.iconst 1, 1) := by decide +kernel
theorem dX5_lay_77 : decode cX5_lay 77 = .ok (.goto 9, 3) := by decide +kernel
theorem dX5_lay_80 : decode cX5_lay 80 = .ok (.aload_n 0, 1) := by decide +kernel
theorem dX5_lay_81 : decode cX5_lay 81 = .ok (.iload 6, 2) := by decide +kernel
theorem dX5_lay_83 : decode cX5_lay 83 = .ok (.invokevirtual 52, 3) := by decide +kernel
theorem dX5_lay_86 : decode cX5_lay 86 = .ok (.ireturn, 1) := by decide +kernel
set_option maxRecDepth 20000 in
theorem ggX5_place_X5_refusalOf : GoodIn wsX5_place wsX5_refusalOf := goodIn_r _ [6, 1, 7, 8, 9, 10, 11, 12, 47, 48, 49, 50, 51, 52, 53, 54, 55, 56, 57] (by decide +kernel) (by decide +kernel)
set_option maxRecDepth 20000 in
theorem gX5_place_X5_refusalOf : GoodIn wsX5_place (wsV RX5 56 RX5 yX5_refusalOf wsX5_refusalOf) := goodIn_app (goodIn_of _ (by decide +kernel)) ggX5_place_X5_refusalOf
set_option maxRecDepth 20000 in
theorem ggX5_place_X5_findingAt : GoodIn wsX5_place wsX5_findingAt := goodIn_ca (goodIn_r _ [16, 1, 17, 18, 19, 10, 20, 21, 22, 8, 9, 11, 12, 23, 5, 24, 25, 26, 27, 28, 29, 47, 48, 49, 50, 51, 52, 53, 54, 55, 56, 57] (by decide +kernel) (by decide +kernel)) (goodIn_sub (fun _ h => List.mem_cons_of_mem _ (List.mem_append_right _ h)) (by decide +kernel))
set_option maxRecDepth 20000 in
theorem gX5_place_X5_findingAt : GoodIn wsX5_place (wsV RX5 78 RX5 yX5_findingAt wsX5_findingAt) := goodIn_app (goodIn_of _ (by decide +kernel)) ggX5_place_X5_findingAt
set_option maxRecDepth 20000 in
theorem ggX5_place_X4_memberAt : GoodIn wsX5_place wsX4_memberAt := goodIn_ca (goodIn_r _ [33, 34, 35, 26, 27, 10, 28, 12, 29, 52, 53, 54, 55, 56, 57] (by decide +kernel) (by decide +kernel)) (goodIn_sub (fun _ h => List.mem_cons_of_mem _ (List.mem_append_right _ h)) (by decide +kernel))
set_option maxRecDepth 20000 in
theorem gX5_place_X4_memberAt : GoodIn wsX5_place (wsV RX5 107 RX4 yX4_memberAt wsX4_memberAt) := goodIn_app (goodIn_of _ (by decide +kernel)) ggX5_place_X4_memberAt
set_option maxRecDepth 20000 in
theorem ggX5_place_X5_answerOf : GoodIn wsX5_place wsX5_answerOf := goodIn_ca (goodIn_r _ [39, 40, 41, 42, 43, 44, 45, 46, 47, 48, 49, 50, 51, 58, 59, 60, 61] (by decide +kernel) (by decide +kernel)) (goodIn_sub (fun _ h => List.mem_cons_of_mem _ (List.mem_append_right _ h)) (by decide +kernel))
set_option maxRecDepth 20000 in
theorem gX5_place_X5_answerOf : GoodIn wsX5_place (wsV RX5 52 RX5 yX5_answerOf wsX5_answerOf) := goodIn_app (goodIn_of _ (by decide +kernel)) ggX5_place_X5_answerOf
theorem dX5_place_0 : decode cX5_place 0 = .ok (.aload_n 0, 1) := by decide +kernel
theorem dX5_place_1 : decode cX5_place 1 = .ok (.iload_n 1, 1) := by decide +kernel
theorem dX5_place_2 : decode cX5_place 2 = .ok (.iload_n 2, 1) := by decide +kernel
theorem dX5_place_3 : decode cX5_place 3 = .ok (.bipush 7, 2) := by decide +kernel
theorem dX5_place_5 : decode cX5_place 5 = .ok (.bipush 15, 2) := by decide +kernel
theorem dX5_place_7 : decode cX5_place 7 = .ok (.invokevirtual 56, 3) := by decide +kernel
theorem dX5_place_10 : decode cX5_place 10 = .ok (.istore 4, 2) := by decide +kernel
theorem dX5_place_12 : decode cX5_place 12 = .ok (.iload 4, 2) := by decide +kernel
theorem dX5_place_14 : decode cX5_place 14 = .ok (.ifCond .eq 6, 3) := by decide +kernel
theorem dX5_place_17 : decode cX5_place 17 = .ok (.iload 4, 2) := by decide +kernel
theorem dX5_place_19 : decode cX5_place 19 = .ok (.ireturn, 1) := by decide +kernel
theorem dX5_place_20 : decode cX5_place 20 = .ok (.aload_n 0, 1) := by decide +kernel
theorem dX5_place_21 : decode cX5_place 21 = .ok (.iload_n 1, 1) := by decide +kernel
theorem dX5_place_22 : decode cX5_place 22 = .ok (.iload_n 2, 1) := by decide +kernel
theorem dX5_place_23 : decode cX5_place 23 = .ok (.iload_n 3, 1) := by decide +kernel
theorem dX5_place_24 : decode cX5_place 24 = .ok (.invokevirtual 78, 3) := by decide +kernel
theorem dX5_place_27 : decode cX5_place 27 = .ok (.istore 5, 2) := by decide +kernel
theorem dX5_place_29 : decode cX5_place 29 = .ok (.iload 5, 2) := by decide +kernel
theorem dX5_place_31 : decode cX5_place 31 = .ok (.ifCond .ne 15, 3) := by decide +kernel
theorem dX5_place_34 : decode cX5_place 34 = .ok (.aload_n 0, 1) := by decide +kernel
theorem dX5_place_35 : decode cX5_place 35 = .ok (.getfield 10, 3) := by decide +kernel
theorem dX5_place_38 : decode cX5_place 38 = .ok (.iload_n 1, 1) := by decide +kernel
theorem dX5_place_39 : decode cX5_place 39 = .ok (.iload_n 3, 1) := by decide +kernel
theorem dX5_place_40 : decode cX5_place 40 = .ok (.invokevirtual 107, 3) := by decide +kernel
theorem dX5_place_43 : decode cX5_place 43 = .ok (.goto 9, 3) := by decide +kernel
theorem dX5_place_46 : decode cX5_place 46 = .ok (.aload_n 0, 1) := by decide +kernel
theorem dX5_place_47 : decode cX5_place 47 = .ok (.iload 5, 2) := by decide +kernel
theorem dX5_place_49 : decode cX5_place 49 = .ok (.invokevirtual 52, 3) := by decide +kernel
theorem dX5_place_52 : decode cX5_place 52 = .ok (.ireturn, 1) := by decide +kernel
set_option maxRecDepth 20000 in
theorem ggX5_station_X2_add : GoodIn wsX5_station wsX2_add := goodIn_ca (goodIn_r _ [6, 7, 8, 9, 10, 11, 17, 18, 19, 20, 21] (by decide +kernel) (by decide +kernel)) (goodIn_sub (fun _ h => List.mem_cons_of_mem _ (List.mem_append_right _ h)) (by decide +kernel))
set_option maxRecDepth 20000 in
theorem gX5_station_X2_add : GoodIn wsX5_station (wsV RX5 111 RX2 yX2_add wsX2_add) := goodIn_app (goodIn_of _ (by decide +kernel)) ggX5_station_X2_add
theorem dX5_station_0 : decode cX5_station 0 = .ok (.iload_n 1, 1) := by decide +kernel
theorem dX5_station_1 : decode cX5_station 1 = .ok (.ifCond .lt 19, 3) := by decide +kernel
theorem dX5_station_4 : decode cX5_station 4 = .ok (.iload_n 1, 1) := by decide +kernel
theorem dX5_station_5 : decode cX5_station 5 = .ok (.bipush 17, 2) := by decide +kernel
theorem dX5_station_7 : decode cX5_station 7 = .ok (.if_icmp .gt 13, 3) := by decide +kernel
theorem dX5_station_10 : decode cX5_station 10 = .ok (.iload_n 2, 1) := by decide +kernel
theorem dX5_station_11 : decode cX5_station 11 = .ok (.ifCond .lt 9, 3) := by decide +kernel
theorem dX5_station_14 : decode cX5_station 14 = .ok (.iload_n 2, 1) := by decide +kernel
theorem dX5_station_15 : decode cX5_station 15 = .ok (.bipush 12, 2) := by decide +kernel
theorem dX5_station_17 : decode cX5_station 17 = .ok (.if_icmp .le 6, 3) := by decide +kernel
theorem dX5_station_20 : decode cX5_station 20 = .ok (.bipush (-2), 2) := by decide +kernel
theorem dX5_station_22 : decode cX5_station 22 = .ok (.ireturn, 1) := by decide +kernel
theorem dX5_station_23 : decode cX5_station 23 = .ok (.aload_n 0, 1) := by decide +kernel
theorem dX5_station_24 : decode cX5_station 24 = .ok (.getfield 19, 3) := by decide +kernel
theorem dX5_station_27 : decode cX5_station 27 = .ok (.iload_n 1, 1) := by decide +kernel
theorem dX5_station_28 : decode cX5_station 28 = .ok (.iload_n 2, 1) := by decide +kernel
theorem dX5_station_29 : decode cX5_station 29 = .ok (.invokevirtual 111, 3) := by decide +kernel
theorem dX5_station_32 : decode cX5_station 32 = .ok (.ireturn, 1) := by decide +kernel
set_option maxRecDepth 20000 in
theorem ggX5_send_X4_hold : GoodIn wsX5_send wsX4_hold := goodIn_r _ [7, 8, 26, 27, 28, 29, 30, 31] (by decide +kernel) (by decide +kernel)
set_option maxRecDepth 20000 in
theorem gX5_send_X4_hold : GoodIn wsX5_send (wsV RX5 64 RX4 yX4_hold wsX4_hold) := goodIn_app (goodIn_of _ (by decide +kernel)) ggX5_send_X4_hold
set_option maxRecDepth 20000 in
theorem ggX5_send_X0_append : GoodIn wsX5_send wsX0_append := goodIn_ca (goodIn_r _ [13, 14, 15, 16, 32, 33, 34] (by decide +kernel) (by decide +kernel)) (goodIn_sub (fun _ h => List.mem_cons_of_mem _ (List.mem_append_right _ h)) (by decide +kernel))
set_option maxRecDepth 20000 in
theorem gX5_send_X0_append : GoodIn wsX5_send (wsV RX5 113 RX0 yX0_append wsX0_append) := goodIn_app (goodIn_of _ (by decide +kernel)) ggX5_send_X0_append
set_option maxRecDepth 20000 in
theorem ggX5_send_X0_size : GoodIn wsX5_send wsX0_size := goodIn_r _ [20, 14, 32, 33, 34] (by decide +kernel) (by decide +kernel)
set_option maxRecDepth 20000 in
theorem gX5_send_X0_size : GoodIn wsX5_send (wsV RX5 116 RX0 yX0_size wsX0_size) := goodIn_app (goodIn_of _ (by decide +kernel)) ggX5_send_X0_size
theorem dX5_send_0 : decode cX5_send 0 = .ok (.aload_n 0, 1) := by decide +kernel
theorem dX5_send_1 : decode cX5_send 1 = .ok (.getfield 10, 3) := by decide +kernel
theorem dX5_send_4 : decode cX5_send 4 = .ok (.iload_n 1, 1) := by decide +kernel
theorem dX5_send_5 : decode cX5_send 5 = .ok (.invokevirtual 64, 3) := by decide +kernel
theorem dX5_send_8 : decode cX5_send 8 = .ok (.ifCond .ne 5, 3) := by decide +kernel
theorem dX5_send_11 : decode cX5_send 11 = .ok (.iconst (-1), 1) := by decide +kernel
theorem dX5_send_12 : decode cX5_send 12 = .ok (.ireturn, 1) := by decide +kernel
theorem dX5_send_13 : decode cX5_send 13 = .ok (.aload_n 0, 1) := by decide +kernel
theorem dX5_send_14 : decode cX5_send 14 = .ok (.getfield 26, 3) := by decide +kernel
theorem dX5_send_17 : decode cX5_send 17 = .ok (.iload_n 1, 1) := by decide +kernel
theorem dX5_send_18 : decode cX5_send 18 = .ok (.invokevirtual 113, 3) := by decide +kernel
theorem dX5_send_21 : decode cX5_send 21 = .ok (.ifCond .eq 13, 3) := by decide +kernel
theorem dX5_send_24 : decode cX5_send 24 = .ok (.aload_n 0, 1) := by decide +kernel
theorem dX5_send_25 : decode cX5_send 25 = .ok (.getfield 26, 3) := by decide +kernel
theorem dX5_send_28 : decode cX5_send 28 = .ok (.invokevirtual 116, 3) := by decide +kernel
theorem dX5_send_31 : decode cX5_send 31 = .ok (.goto 5, 3) := by decide +kernel
theorem dX5_send_34 : decode cX5_send 34 = .ok (.bipush (-4), 2) := by decide +kernel
theorem dX5_send_36 : decode cX5_send 36 = .ok (.ireturn, 1) := by decide +kernel
set_option maxRecDepth 20000 in
theorem ggX5_step_X0_size : GoodIn wsX5_step wsX0_size := goodIn_r _ [8, 9, 213, 214, 215] (by decide +kernel) (by decide +kernel)
set_option maxRecDepth 20000 in
theorem gX5_step_X0_size : GoodIn wsX5_step (wsV RX5 116 RX0 yX0_size wsX0_size) := goodIn_app (goodIn_of _ (by decide +kernel)) ggX5_step_X0_size
set_option maxRecDepth 20000 in
theorem ggX5_step_X0_takeFirst : GoodIn wsX5_step wsX0_takeFirst := goodIn_ca (goodIn_r _ [13, 9, 14, 15, 213, 214, 215] (by decide +kernel) (by decide +kernel)) (goodIn_sub (fun _ h => List.mem_cons_of_mem _ (List.mem_append_right _ h)) (by decide +kernel))
set_option maxRecDepth 20000 in
theorem gX5_step_X0_takeFirst : GoodIn wsX5_step (wsV RX5 120 RX0 yX0_takeFirst wsX0_takeFirst) := goodIn_app (goodIn_of _ (by decide +kernel)) ggX5_step_X0_takeFirst
set_option maxRecDepth 20000 in
theorem ggX5_step_X5_stationFor : GoodIn wsX5_step wsX5_stationFor := goodIn_ca (goodIn_r _ [20, 21, 22, 23, 24, 25, 26, 27, 28, 29, 30, 31, 32, 33, 34, 35, 36, 37, 38, 39, 40, 41, 42, 43, 44, 45, 46, 47, 48, 49, 19, 50, 208, 209, 210, 211, 212, 216, 217, 218, 219, 220, 221, 222, 223, 224, 225, 226] (by decide +kernel) (by decide +kernel)) (goodIn_sub (fun _ h => List.mem_cons_of_mem _ (List.mem_append_right _ h)) (by decide +kernel))
set_option maxRecDepth 20000 in
theorem gX5_step_X5_stationFor : GoodIn wsX5_step (wsV RX5 123 RX5 yX5_stationFor wsX5_stationFor) := goodIn_app (goodIn_of _ (by decide +kernel)) ggX5_step_X5_stationFor
set_option maxRecDepth 20000 in
theorem ggX5_step_X3_addPassed : GoodIn wsX5_step wsX3_addPassed := goodIn_r _ [55, 56, 227, 228, 229, 230] (by decide +kernel) (by decide +kernel)
set_option maxRecDepth 20000 in
theorem gX5_step_X3_addPassed : GoodIn wsX5_step (wsV RX5 126 RX3 yX3_addPassed wsX3_addPassed) := goodIn_app (goodIn_of _ (by decide +kernel)) ggX5_step_X3_addPassed
set_option maxRecDepth 20000 in
theorem ggX5_step_X5_workOn : GoodIn wsX5_step wsX5_workOn := goodIn_ca (goodIn_r _ [60, 21, 22, 61, 62, 63, 26, 64, 65, 34, 35, 36, 37, 28, 66, 67, 19, 68, 38, 39, 40, 41, 42, 43, 44, 45, 46, 47, 48, 49, 50, 69, 70, 71, 72, 73, 74, 75, 76, 77, 78, 79, 80, 81, 82, 83, 84, 85, 86, 87, 88, 89, 90, 91, 92, 93, 94, 95, 96, 97, 98, 99, 100, 101, 102, 103, 104, 105, 106, 107, 108, 109, 110, 111, 112, 113, 114, 115, 116, 117, 118, 119, 120, 121, 122, 123, 124, 125, 126, 127, 128, 129, 130, 131, 132, 133, 134, 135, 136, 137, 138, 139, 140, 141, 142, 143, 144, 145, 146, 147, 148, 149, 150, 151, 152, 153, 154, 155, 156, 157, 158, 159, 160, 161, 162, 163, 164, 165, 166, 167, 168, 169, 170, 1, 171, 172, 173, 7, 174, 9, 14, 15, 208, 209, 210, 211, 212, 216, 217, 218, 219, 220, 221, 222, 223, 224, 225, 226, 213, 214, 215] (by decide +kernel) (by decide +kernel)) (goodIn_sub (fun _ h => List.mem_cons_of_mem _ (List.mem_append_right _ h)) (by decide +kernel))
set_option maxRecDepth 20000 in
theorem gX5_step_X5_workOn : GoodIn wsX5_step (wsV RX5 129 RX5 yX5_workOn wsX5_workOn) := goodIn_app (goodIn_of _ (by decide +kernel)) ggX5_step_X5_workOn
set_option maxRecDepth 20000 in
theorem ggX5_step_X1_add : GoodIn wsX5_step wsX1_add := goodIn_ca (goodIn_r _ [179, 180, 181, 182, 183, 184, 185, 186, 187, 188, 231, 232, 233, 234, 235] (by decide +kernel) (by decide +kernel)) (goodIn_sub (fun _ h => List.mem_cons_of_mem _ (List.mem_append_right _ h)) (by decide +kernel))
set_option maxRecDepth 20000 in
theorem gX5_step_X1_add : GoodIn wsX5_step (wsV RX5 132 RX1 yX1_add wsX1_add) := goodIn_app (goodIn_of _ (by decide +kernel)) ggX5_step_X1_add
set_option maxRecDepth 20000 in
theorem ggX5_step_X3_addFailed : GoodIn wsX5_step wsX3_addFailed := goodIn_r _ [192, 193, 227, 228, 229, 230] (by decide +kernel) (by decide +kernel)
set_option maxRecDepth 20000 in
theorem gX5_step_X3_addFailed : GoodIn wsX5_step (wsV RX5 135 RX3 yX3_addFailed wsX3_addFailed) := goodIn_app (goodIn_of _ (by decide +kernel)) ggX5_step_X3_addFailed
set_option maxRecDepth 20000 in
theorem ggX5_step_X5_answerOf : GoodIn wsX5_step wsX5_answerOf := goodIn_ca (goodIn_r _ [197, 2, 198, 199, 200, 54, 201, 202, 208, 209, 210, 211, 212, 227, 228, 229, 230] (by decide +kernel) (by decide +kernel)) (goodIn_sub (fun _ h => List.mem_cons_of_mem _ (List.mem_append_right _ h)) (by decide +kernel))
set_option maxRecDepth 20000 in
theorem gX5_step_X5_answerOf : GoodIn wsX5_step (wsV RX5 52 RX5 yX5_answerOf wsX5_answerOf) := goodIn_app (goodIn_of _ (by decide +kernel)) ggX5_step_X5_answerOf
set_option maxRecDepth 20000 in
theorem ggX5_step_X3_addWorked : GoodIn wsX5_step wsX3_addWorked := goodIn_r _ [206, 207, 227, 228, 229, 230] (by decide +kernel) (by decide +kernel)
set_option maxRecDepth 20000 in
theorem gX5_step_X3_addWorked : GoodIn wsX5_step (wsV RX5 138 RX3 yX3_addWorked wsX3_addWorked) := goodIn_app (goodIn_of _ (by decide +kernel)) ggX5_step_X3_addWorked
theorem dX5_step_0 : decode cX5_step 0 = .ok (.aload_n 0, 1) := by decide +kernel
theorem dX5_step_1 : decode cX5_step 1 = .ok (.getfield 26, 3) := by decide +kernel
theorem dX5_step_4 : decode cX5_step 4 = .ok (.invokevirtual 116, 3) := by decide +kernel
theorem dX5_step_7 : decode cX5_step 7 = .ok (.ifCond .ne 6, 3) := by decide +kernel
theorem dX5_step_10 : decode cX5_step 10 = .ok (.bipush (-5), 2) := by decide +kernel
theorem dX5_step_12 : decode cX5_step 12 = .ok (.ireturn, 1) := by decide +kernel
theorem dX5_step_13 : decode cX5_step 13 = .ok (.aload_n 0, 1) := by decide +kernel
theorem dX5_step_14 : decode cX5_step 14 = .ok (.getfield 26, 3) := by decide +kernel
theorem dX5_step_17 : decode cX5_step 17 = .ok (.invokevirtual 120, 3) := by decide +kernel
theorem dX5_step_20 : decode cX5_step 20 = .ok (.istore_n 1, 1) := by decide +kernel
theorem dX5_step_21 : decode cX5_step 21 = .ok (.aload_n 0, 1) := by decide +kernel
theorem dX5_step_22 : decode cX5_step 22 = .ok (.iload_n 1, 1) := by decide +kernel
theorem dX5_step_23 : decode cX5_step 23 = .ok (.invokevirtual 123, 3) := by decide +kernel
theorem dX5_step_26 : decode cX5_step 26 = .ok (.istore_n 2, 1) := by decide +kernel
theorem dX5_step_27 : decode cX5_step 27 = .ok (.iload_n 2, 1) := by decide +kernel
theorem dX5_step_28 : decode cX5_step 28 = .ok (.bipush (-5), 2) := by decide +kernel
theorem dX5_step_30 : decode cX5_step 30 = .ok (.if_icmp .ne 13, 3) := by decide +kernel
theorem dX5_step_33 : decode cX5_step 33 = .ok (.aload_n 0, 1) := by decide +kernel
theorem dX5_step_34 : decode cX5_step 34 = .ok (.getfield 40, 3) := by decide +kernel
theorem dX5_step_37 : decode cX5_step 37 = .ok (.invokevirtual 126, 3) := by decide +kernel
theorem dX5_step_40 : decode cX5_step 40 = .ok (.bipush (-6), 2) := by decide +kernel
theorem dX5_step_42 : decode cX5_step 42 = .ok (.ireturn, 1) := by decide +kernel
theorem dX5_step_43 : decode cX5_step 43 = .ok (.aload_n 0, 1) := by decide +kernel
theorem dX5_step_44 : decode cX5_step 44 = .ok (.iload_n 1, 1) := by decide +kernel
theorem dX5_step_45 : decode cX5_step 45 = .ok (.iload_n 2, 1) := by decide +kernel
theorem dX5_step_46 : decode cX5_step 46 = .ok (.invokevirtual 129, 3) := by decide +kernel
theorem dX5_step_49 : decode cX5_step 49 = .ok (.istore_n 3, 1) := by decide +kernel
theorem dX5_step_50 : decode cX5_step 50 = .ok (.iload_n 3, 1) := by decide +kernel
theorem dX5_step_51 : decode cX5_step 51 = .ok (.ifCond .eq 26, 3) := by decide +kernel
theorem dX5_step_54 : decode cX5_step 54 = .ok (.aload_n 0, 1) := by decide +kernel
theorem dX5_step_55 : decode cX5_step 55 = .ok (.getfield 33, 3) := by decide +kernel
theorem dX5_step_58 : decode cX5_step 58 = .ok (.iload_n 1, 1) := by decide +kernel
theorem dX5_step_59 : decode cX5_step 59 = .ok (.iload_n 2, 1) := by decide +kernel
theorem dX5_step_60 : decode cX5_step 60 = .ok (.iload_n 3, 1) := by decide +kernel
theorem dX5_step_61 : decode cX5_step 61 = .ok (.invokevirtual 132, 3) := by decide +kernel
theorem dX5_step_64 : decode cX5_step 64 = .ok (.aload_n 0, 1) := by decide +kernel
theorem dX5_step_65 : decode cX5_step 65 = .ok (.getfield 40, 3) := by decide +kernel
theorem dX5_step_68 : decode cX5_step 68 = .ok (.invokevirtual 135, 3) := by decide +kernel
theorem dX5_step_71 : decode cX5_step 71 = .ok (.aload_n 0, 1) := by decide +kernel
theorem dX5_step_72 : decode cX5_step 72 = .ok (.iload_n 3, 1) := by decide +kernel
theorem dX5_step_73 : decode cX5_step 73 = .ok (.invokevirtual 52, 3) := by decide +kernel
theorem dX5_step_76 : decode cX5_step 76 = .ok (.ireturn, 1) := by decide +kernel
theorem dX5_step_77 : decode cX5_step 77 = .ok (.aload_n 0, 1) := by decide +kernel
theorem dX5_step_78 : decode cX5_step 78 = .ok (.getfield 40, 3) := by decide +kernel
theorem dX5_step_81 : decode cX5_step 81 = .ok (.invokevirtual 138, 3) := by decide +kernel
theorem dX5_step_84 : decode cX5_step 84 = .ok (.iload_n 2, 1) := by decide +kernel
theorem dX5_step_85 : decode cX5_step 85 = .ok (.ireturn, 1) := by decide +kernel
set_option maxRecDepth 20000 in
theorem ggX5_run_X0_size : GoodIn wsX5_run wsX0_size := goodIn_r _ [6, 7, 217, 218, 219] (by decide +kernel) (by decide +kernel)
set_option maxRecDepth 20000 in
theorem gX5_run_X0_size : GoodIn wsX5_run (wsV RX5 116 RX0 yX0_size wsX0_size) := goodIn_app (goodIn_of _ (by decide +kernel)) ggX5_run_X0_size
set_option maxRecDepth 20000 in
theorem ggX5_run_X5_step : GoodIn wsX5_run wsX5_step := goodIn_ca (goodIn_r _ [12, 1, 13, 14, 2, 3, 4, 5, 6, 7, 15, 16, 17, 18, 19, 20, 21, 22, 23, 11, 24, 25, 26, 27, 28, 29, 30, 31, 32, 33, 34, 35, 36, 37, 38, 39, 40, 41, 42, 43, 44, 45, 46, 47, 48, 49, 50, 51, 52, 53, 54, 55, 56, 57, 58, 59, 60, 61, 62, 63, 64, 65, 66, 67, 68, 69, 70, 71, 72, 73, 74, 75, 76, 77, 78, 79, 80, 81, 82, 83, 84, 85, 86, 87, 88, 89, 90, 91, 92, 93, 94, 95, 96, 97, 98, 99, 100, 101, 102, 103, 104, 105, 106, 107, 108, 109, 110, 111, 112, 113, 114, 115, 116, 117, 118, 119, 120, 121, 122, 123, 124, 125, 126, 127, 128, 129, 130, 131, 132, 133, 134, 135, 136, 137, 138, 139, 140, 141, 142, 143, 144, 145, 146, 147, 148, 149, 150, 151, 152, 153, 154, 155, 156, 157, 158, 159, 160, 161, 162, 163, 164, 165, 166, 167, 168, 169, 170, 171, 172, 173, 174, 175, 176, 177, 178, 179, 180, 181, 182, 183, 184, 185, 186, 187, 188, 189, 190, 191, 192, 193, 194, 195, 196, 197, 198, 199, 200, 201, 202, 203, 204, 205, 206, 207, 208, 209, 210, 211, 212, 213, 214, 215, 216, 217, 218, 219, 220, 221, 222, 223, 224, 225, 226, 227, 228, 229, 230, 231, 232, 233, 234, 235, 236, 237, 238, 239] (by decide +kernel) (by decide +kernel)) (goodIn_sub (fun _ h => List.mem_cons_of_mem _ (List.mem_append_right _ h)) (by decide +kernel))
set_option maxRecDepth 20000 in
theorem gX5_run_X5_step : GoodIn wsX5_run (wsV RX5 141 RX5 yX5_step wsX5_step) := goodIn_app (goodIn_of _ (by decide +kernel)) ggX5_run_X5_step
theorem dX5_run_0 : decode cX5_run 0 = .ok (.iload_n 1, 1) := by decide +kernel
theorem dX5_run_1 : decode cX5_run 1 = .ok (.ifCond .lt 9, 3) := by decide +kernel
theorem dX5_run_4 : decode cX5_run 4 = .ok (.iload_n 1, 1) := by decide +kernel
theorem dX5_run_5 : decode cX5_run 5 = .ok (.bipush 100, 2) := by decide +kernel
theorem dX5_run_7 : decode cX5_run 7 = .ok (.if_icmp .le 6, 3) := by decide +kernel
theorem dX5_run_10 : decode cX5_run 10 = .ok (.bipush (-2), 2) := by decide +kernel
theorem dX5_run_12 : decode cX5_run 12 = .ok (.ireturn, 1) := by decide +kernel
theorem dX5_run_13 : decode cX5_run 13 = .ok (.iconst 0, 1) := by decide +kernel
theorem dX5_run_14 : decode cX5_run 14 = .ok (.istore_n 2, 1) := by decide +kernel
theorem dX5_run_15 : decode cX5_run 15 = .ok (.iconst 0, 1) := by decide +kernel
theorem dX5_run_16 : decode cX5_run 16 = .ok (.istore_n 3, 1) := by decide +kernel
theorem dX5_run_17 : decode cX5_run 17 = .ok (.iload_n 3, 1) := by decide +kernel
theorem dX5_run_18 : decode cX5_run 18 = .ok (.iload_n 1, 1) := by decide +kernel
theorem dX5_run_19 : decode cX5_run 19 = .ok (.if_icmp .ge 38, 3) := by decide +kernel
theorem dX5_run_22 : decode cX5_run 22 = .ok (.aload_n 0, 1) := by decide +kernel
theorem dX5_run_23 : decode cX5_run 23 = .ok (.getfield 26, 3) := by decide +kernel
theorem dX5_run_26 : decode cX5_run 26 = .ok (.invokevirtual 116, 3) := by decide +kernel
theorem dX5_run_29 : decode cX5_run 29 = .ok (.ifCond .le 28, 3) := by decide +kernel
theorem dX5_run_32 : decode cX5_run 32 = .ok (.iload_n 2, 1) := by decide +kernel
theorem dX5_run_33 : decode cX5_run 33 = .ok (.aload_n 0, 1) := by decide +kernel
theorem dX5_run_34 : decode cX5_run 34 = .ok (.invokevirtual 141, 3) := by decide +kernel
theorem dX5_run_37 : decode cX5_run 37 = .ok (.bipush (-20), 2) := by decide +kernel
theorem dX5_run_39 : decode cX5_run 39 = .ok (.if_icmp .ge 9, 3) := by decide +kernel
theorem dX5_run_42 : decode cX5_run 42 = .ok (.sipush 1000, 3) := by decide +kernel
theorem dX5_run_45 : decode cX5_run 45 = .ok (.goto 4, 3) := by decide +kernel
theorem dX5_run_48 : decode cX5_run 48 = .ok (.iconst 1, 1) := by decide +kernel
theorem dX5_run_49 : decode cX5_run 49 = .ok (.iadd, 1) := by decide +kernel
theorem dX5_run_50 : decode cX5_run 50 = .ok (.istore_n 2, 1) := by decide +kernel
theorem dX5_run_51 : decode cX5_run 51 = .ok (.iinc 3 1, 3) := by decide +kernel
theorem dX5_run_54 : decode cX5_run 54 = .ok (.goto (-37), 3) := by decide +kernel
theorem dX5_run_57 : decode cX5_run 57 = .ok (.iload_n 2, 1) := by decide +kernel
theorem dX5_run_58 : decode cX5_run 58 = .ok (.ireturn, 1) := by decide +kernel
set_option maxRecDepth 20000 in
theorem ggX5_total_X2_totalOf : GoodIn wsX5_total wsX2_totalOf := goodIn_ca (goodIn_r _ [6, 7, 8, 9, 10, 5, 11, 12, 18, 19, 20, 21, 22] (by decide +kernel) (by decide +kernel)) (goodIn_sub (fun _ h => List.mem_cons_of_mem _ (List.mem_append_right _ h)) (by decide +kernel))
set_option maxRecDepth 20000 in
theorem gX5_total_X2_totalOf : GoodIn wsX5_total (wsV RX5 144 RX2 yX2_totalOf wsX2_totalOf) := goodIn_app (goodIn_of _ (by decide +kernel)) ggX5_total_X2_totalOf
theorem dX5_total_0 : decode cX5_total 0 = .ok (.aload_n 0, 1) := by decide +kernel
theorem dX5_total_1 : decode cX5_total 1 = .ok (.getfield 19, 3) := by decide +kernel
theorem dX5_total_4 : decode cX5_total 4 = .ok (.iload_n 1, 1) := by decide +kernel
theorem dX5_total_5 : decode cX5_total 5 = .ok (.invokevirtual 144, 3) := by decide +kernel
theorem dX5_total_8 : decode cX5_total 8 = .ok (.lreturn, 1) := by decide +kernel
set_option maxRecDepth 20000 in
theorem ggX5_slot_X2_hold : GoodIn wsX5_slot wsX2_hold := goodIn_r _ [6, 7, 19, 20, 21, 22, 23] (by decide +kernel) (by decide +kernel)
set_option maxRecDepth 20000 in
theorem gX5_slot_X2_hold : GoodIn wsX5_slot (wsV RX5 148 RX2 yX2_hold wsX2_hold) := goodIn_app (goodIn_of _ (by decide +kernel)) ggX5_slot_X2_hold
set_option maxRecDepth 20000 in
theorem ggX5_slot_X2_slotOf : GoodIn wsX5_slot wsX2_slotOf := goodIn_ca (goodIn_r _ [11, 12, 13, 3, 4, 5, 6, 7, 19, 20, 21, 22, 23] (by decide +kernel) (by decide +kernel)) (goodIn_sub (fun _ h => List.mem_cons_of_mem _ (List.mem_append_right _ h)) (by decide +kernel))
set_option maxRecDepth 20000 in
theorem gX5_slot_X2_slotOf : GoodIn wsX5_slot (wsV RX5 149 RX2 yX2_slotOf wsX2_slotOf) := goodIn_app (goodIn_of _ (by decide +kernel)) ggX5_slot_X2_slotOf
theorem dX5_slot_0 : decode cX5_slot 0 = .ok (.aload_n 0, 1) := by decide +kernel
theorem dX5_slot_1 : decode cX5_slot 1 = .ok (.getfield 19, 3) := by decide +kernel
theorem dX5_slot_4 : decode cX5_slot 4 = .ok (.iload_n 1, 1) := by decide +kernel
theorem dX5_slot_5 : decode cX5_slot 5 = .ok (.invokevirtual 148, 3) := by decide +kernel
theorem dX5_slot_8 : decode cX5_slot 8 = .ok (.ifCond .eq 14, 3) := by decide +kernel
theorem dX5_slot_11 : decode cX5_slot 11 = .ok (.aload_n 0, 1) := by decide +kernel
theorem dX5_slot_12 : decode cX5_slot 12 = .ok (.getfield 19, 3) := by decide +kernel
theorem dX5_slot_15 : decode cX5_slot 15 = .ok (.iload_n 1, 1) := by decide +kernel
theorem dX5_slot_16 : decode cX5_slot 16 = .ok (.invokevirtual 149, 3) := by decide +kernel
theorem dX5_slot_19 : decode cX5_slot 19 = .ok (.goto 4, 3) := by decide +kernel
theorem dX5_slot_22 : decode cX5_slot 22 = .ok (.iconst (-1), 1) := by decide +kernel
theorem dX5_slot_23 : decode cX5_slot 23 = .ok (.ireturn, 1) := by decide +kernel
set_option maxRecDepth 20000 in
theorem ggX5_belt_X0_thingAt : GoodIn wsX5_belt wsX0_thingAt := goodIn_ca (goodIn_r _ [6, 7, 8, 9, 15, 16, 17] (by decide +kernel) (by decide +kernel)) (goodIn_sub (fun _ h => List.mem_cons_of_mem _ (List.mem_append_right _ h)) (by decide +kernel))
set_option maxRecDepth 20000 in
theorem gX5_belt_X0_thingAt : GoodIn wsX5_belt (wsV RX5 152 RX0 yX0_thingAt wsX0_thingAt) := goodIn_app (goodIn_of _ (by decide +kernel)) ggX5_belt_X0_thingAt
theorem dX5_belt_0 : decode cX5_belt 0 = .ok (.aload_n 0, 1) := by decide +kernel
theorem dX5_belt_1 : decode cX5_belt 1 = .ok (.getfield 26, 3) := by decide +kernel
theorem dX5_belt_4 : decode cX5_belt 4 = .ok (.iload_n 1, 1) := by decide +kernel
theorem dX5_belt_5 : decode cX5_belt 5 = .ok (.invokevirtual 152, 3) := by decide +kernel
theorem dX5_belt_8 : decode cX5_belt 8 = .ok (.ireturn, 1) := by decide +kernel
set_option maxRecDepth 20000 in
theorem ggX5_side_X1_tell : GoodIn wsX5_side wsX1_tell := goodIn_ca (goodIn_r _ [6, 7, 8, 9, 10, 11, 17, 18, 19, 20, 21] (by decide +kernel) (by decide +kernel)) (goodIn_sub (fun _ h => List.mem_cons_of_mem _ (List.mem_append_right _ h)) (by decide +kernel))
set_option maxRecDepth 20000 in
theorem gX5_side_X1_tell : GoodIn wsX5_side (wsV RX5 155 RX1 yX1_tell wsX1_tell) := goodIn_app (goodIn_of _ (by decide +kernel)) ggX5_side_X1_tell
theorem dX5_side_0 : decode cX5_side 0 = .ok (.iload_n 2, 1) := by decide +kernel
theorem dX5_side_1 : decode cX5_side 1 = .ok (.ifCond .lt 8, 3) := by decide +kernel
theorem dX5_side_4 : decode cX5_side 4 = .ok (.iload_n 2, 1) := by decide +kernel
theorem dX5_side_5 : decode cX5_side 5 = .ok (.iconst 2, 1) := by decide +kernel
theorem dX5_side_6 : decode cX5_side 6 = .ok (.if_icmp .le 6, 3) := by decide +kernel
theorem dX5_side_9 : decode cX5_side 9 = .ok (.bipush (-2), 2) := by decide +kernel
theorem dX5_side_11 : decode cX5_side 11 = .ok (.ireturn, 1) := by decide +kernel
theorem dX5_side_12 : decode cX5_side 12 = .ok (.aload_n 0, 1) := by decide +kernel
theorem dX5_side_13 : decode cX5_side 13 = .ok (.getfield 33, 3) := by decide +kernel
theorem dX5_side_16 : decode cX5_side 16 = .ok (.iload_n 1, 1) := by decide +kernel
theorem dX5_side_17 : decode cX5_side 17 = .ok (.iload_n 2, 1) := by decide +kernel
theorem dX5_side_18 : decode cX5_side 18 = .ok (.invokevirtual 155, 3) := by decide +kernel
theorem dX5_side_21 : decode cX5_side 21 = .ok (.ireturn, 1) := by decide +kernel
set_option maxRecDepth 20000 in
theorem ggX5_count_X4_howMany : GoodIn wsX5_count wsX4_howMany := goodIn_r _ [9, 10, 38, 39, 40, 41, 42, 43] (by decide +kernel) (by decide +kernel)
set_option maxRecDepth 20000 in
theorem gX5_count_X4_howMany : GoodIn wsX5_count (wsV RX5 158 RX4 yX4_howMany wsX4_howMany) := goodIn_app (goodIn_of _ (by decide +kernel)) ggX5_count_X4_howMany
set_option maxRecDepth 20000 in
theorem ggX5_count_X2_howMany : GoodIn wsX5_count wsX2_howMany := goodIn_r _ [15, 16, 44, 45, 46, 47, 48] (by decide +kernel) (by decide +kernel)
set_option maxRecDepth 20000 in
theorem gX5_count_X2_howMany : GoodIn wsX5_count (wsV RX5 161 RX2 yX2_howMany wsX2_howMany) := goodIn_app (goodIn_of _ (by decide +kernel)) ggX5_count_X2_howMany
set_option maxRecDepth 20000 in
theorem ggX5_count_X0_size : GoodIn wsX5_count wsX0_size := goodIn_r _ [21, 22, 49, 50, 51] (by decide +kernel) (by decide +kernel)
set_option maxRecDepth 20000 in
theorem gX5_count_X0_size : GoodIn wsX5_count (wsV RX5 116 RX0 yX0_size wsX0_size) := goodIn_app (goodIn_of _ (by decide +kernel)) ggX5_count_X0_size
set_option maxRecDepth 20000 in
theorem ggX5_count_X3_foundOf : GoodIn wsX5_count wsX3_foundOf := goodIn_ca (goodIn_r _ [27, 28, 34, 35, 36, 37] (by decide +kernel) (by decide +kernel)) (goodIn_sub (fun _ h => List.mem_cons_of_mem _ (List.mem_append_right _ h)) (by decide +kernel))
set_option maxRecDepth 20000 in
theorem gX5_count_X3_foundOf : GoodIn wsX5_count (wsV RX5 172 RX3 yX3_foundOf wsX3_foundOf) := goodIn_app (goodIn_of _ (by decide +kernel)) ggX5_count_X3_foundOf
theorem dX5_count_0 : decode cX5_count 0 = .ok (.iload_n 1, 1) := by decide +kernel
theorem dX5_count_1 : decode cX5_count 1 = .ok (.tableswitch 132 0 10 #[59, 69, 79, 89, 99, 109, 119, 119, 119, 119, 119], 59) := by decide +kernel
theorem dX5_count_60 : decode cX5_count 60 = .ok (.aload_n 0, 1) := by decide +kernel
theorem dX5_count_61 : decode cX5_count 61 = .ok (.getfield 10, 3) := by decide +kernel
theorem dX5_count_64 : decode cX5_count 64 = .ok (.invokevirtual 158, 3) := by decide +kernel
theorem dX5_count_67 : decode cX5_count 67 = .ok (.goto 68, 3) := by decide +kernel
theorem dX5_count_70 : decode cX5_count 70 = .ok (.aload_n 0, 1) := by decide +kernel
theorem dX5_count_71 : decode cX5_count 71 = .ok (.getfield 19, 3) := by decide +kernel
theorem dX5_count_74 : decode cX5_count 74 = .ok (.invokevirtual 161, 3) := by decide +kernel
theorem dX5_count_77 : decode cX5_count 77 = .ok (.goto 58, 3) := by decide +kernel
theorem dX5_count_80 : decode cX5_count 80 = .ok (.aload_n 0, 1) := by decide +kernel
theorem dX5_count_81 : decode cX5_count 81 = .ok (.getfield 26, 3) := by decide +kernel
theorem dX5_count_84 : decode cX5_count 84 = .ok (.invokevirtual 116, 3) := by decide +kernel
theorem dX5_count_87 : decode cX5_count 87 = .ok (.goto 48, 3) := by decide +kernel
theorem dX5_count_90 : decode cX5_count 90 = .ok (.aload_n 0, 1) := by decide +kernel
theorem dX5_count_91 : decode cX5_count 91 = .ok (.getfield 40, 3) := by decide +kernel
theorem dX5_count_94 : decode cX5_count 94 = .ok (.getfield 162, 3) := by decide +kernel
theorem dX5_count_97 : decode cX5_count 97 = .ok (.goto 38, 3) := by decide +kernel
theorem dX5_count_100 : decode cX5_count 100 = .ok (.aload_n 0, 1) := by decide +kernel
theorem dX5_count_101 : decode cX5_count 101 = .ok (.getfield 40, 3) := by decide +kernel
theorem dX5_count_104 : decode cX5_count 104 = .ok (.getfield 166, 3) := by decide +kernel
theorem dX5_count_107 : decode cX5_count 107 = .ok (.goto 28, 3) := by decide +kernel
theorem dX5_count_110 : decode cX5_count 110 = .ok (.aload_n 0, 1) := by decide +kernel
theorem dX5_count_111 : decode cX5_count 111 = .ok (.getfield 40, 3) := by decide +kernel
theorem dX5_count_114 : decode cX5_count 114 = .ok (.getfield 169, 3) := by decide +kernel
theorem dX5_count_117 : decode cX5_count 117 = .ok (.goto 18, 3) := by decide +kernel
theorem dX5_count_120 : decode cX5_count 120 = .ok (.aload_n 0, 1) := by decide +kernel
theorem dX5_count_121 : decode cX5_count 121 = .ok (.getfield 40, 3) := by decide +kernel
theorem dX5_count_124 : decode cX5_count 124 = .ok (.iload_n 1, 1) := by decide +kernel
theorem dX5_count_125 : decode cX5_count 125 = .ok (.iconst 5, 1) := by decide +kernel
theorem dX5_count_126 : decode cX5_count 126 = .ok (.isub, 1) := by decide +kernel
theorem dX5_count_127 : decode cX5_count 127 = .ok (.invokevirtual 172, 3) := by decide +kernel
theorem dX5_count_130 : decode cX5_count 130 = .ok (.goto 5, 3) := by decide +kernel
theorem dX5_count_133 : decode cX5_count 133 = .ok (.bipush (-2), 2) := by decide +kernel
theorem dX5_count_135 : decode cX5_count 135 = .ok (.ireturn, 1) := by decide +kernel
set_option maxRecDepth 20000 in
theorem ggX5_clear_X4_howMany : GoodIn wsX5_clear wsX4_howMany := goodIn_r _ [10, 11, 50, 51, 52, 53, 54, 55] (by decide +kernel) (by decide +kernel)
set_option maxRecDepth 20000 in
theorem gX5_clear_X4_howMany : GoodIn wsX5_clear (wsV RX5 158 RX4 yX4_howMany wsX4_howMany) := goodIn_app (goodIn_of _ (by decide +kernel)) ggX5_clear_X4_howMany
set_option maxRecDepth 20000 in
theorem ggX5_clear_X4_forget : GoodIn wsX5_clear wsX4_forget := goodIn_r _ [15, 11, 50, 51, 52, 53, 54, 55] (by decide +kernel) (by decide +kernel)
set_option maxRecDepth 20000 in
theorem gX5_clear_X4_forget : GoodIn wsX5_clear (wsV RX5 175 RX4 yX4_forget wsX4_forget) := goodIn_app (goodIn_of _ (by decide +kernel)) ggX5_clear_X4_forget
set_option maxRecDepth 20000 in
theorem ggX5_clear_X2_forget : GoodIn wsX5_clear wsX2_forget := goodIn_r _ [20, 21, 56, 57, 58, 59, 60] (by decide +kernel) (by decide +kernel)
set_option maxRecDepth 20000 in
theorem gX5_clear_X2_forget : GoodIn wsX5_clear (wsV RX5 178 RX2 yX2_forget wsX2_forget) := goodIn_app (goodIn_of _ (by decide +kernel)) ggX5_clear_X2_forget
set_option maxRecDepth 20000 in
theorem ggX5_clear_X0_forget : GoodIn wsX5_clear wsX0_forget := goodIn_r _ [26, 27, 28, 61, 62, 63] (by decide +kernel) (by decide +kernel)
set_option maxRecDepth 20000 in
theorem gX5_clear_X0_forget : GoodIn wsX5_clear (wsV RX5 179 RX0 yX0_forget wsX0_forget) := goodIn_app (goodIn_of _ (by decide +kernel)) ggX5_clear_X0_forget
set_option maxRecDepth 20000 in
theorem ggX5_clear_X1_forget : GoodIn wsX5_clear wsX1_forget := goodIn_r _ [33, 34, 35, 64, 65, 66, 67, 68] (by decide +kernel) (by decide +kernel)
set_option maxRecDepth 20000 in
theorem gX5_clear_X1_forget : GoodIn wsX5_clear (wsV RX5 180 RX1 yX1_forget wsX1_forget) := goodIn_app (goodIn_of _ (by decide +kernel)) ggX5_clear_X1_forget
set_option maxRecDepth 20000 in
theorem ggX5_clear_X3_forget : GoodIn wsX5_clear wsX3_forget := goodIn_ca (goodIn_r _ [40, 41, 42, 43, 44, 69, 70, 71, 72] (by decide +kernel) (by decide +kernel)) (goodIn_sub (fun _ h => List.mem_cons_of_mem _ (List.mem_append_right _ h)) (by decide +kernel))
set_option maxRecDepth 20000 in
theorem gX5_clear_X3_forget : GoodIn wsX5_clear (wsV RX5 181 RX3 yX3_forget wsX3_forget) := goodIn_app (goodIn_of _ (by decide +kernel)) ggX5_clear_X3_forget
theorem dX5_clear_0 : decode cX5_clear 0 = .ok (.aload_n 0, 1) := by decide +kernel
theorem dX5_clear_1 : decode cX5_clear 1 = .ok (.getfield 10, 3) := by decide +kernel
theorem dX5_clear_4 : decode cX5_clear 4 = .ok (.invokevirtual 158, 3) := by decide +kernel
theorem dX5_clear_7 : decode cX5_clear 7 = .ok (.istore_n 1, 1) := by decide +kernel
theorem dX5_clear_8 : decode cX5_clear 8 = .ok (.aload_n 0, 1) := by decide +kernel
theorem dX5_clear_9 : decode cX5_clear 9 = .ok (.getfield 10, 3) := by decide +kernel
theorem dX5_clear_12 : decode cX5_clear 12 = .ok (.invokevirtual 175, 3) := by decide +kernel
theorem dX5_clear_15 : decode cX5_clear 15 = .ok (.aload_n 0, 1) := by decide +kernel
theorem dX5_clear_16 : decode cX5_clear 16 = .ok (.getfield 19, 3) := by decide +kernel
theorem dX5_clear_19 : decode cX5_clear 19 = .ok (.invokevirtual 178, 3) := by decide +kernel
theorem dX5_clear_22 : decode cX5_clear 22 = .ok (.aload_n 0, 1) := by decide +kernel
theorem dX5_clear_23 : decode cX5_clear 23 = .ok (.getfield 26, 3) := by decide +kernel
theorem dX5_clear_26 : decode cX5_clear 26 = .ok (.invokevirtual 179, 3) := by decide +kernel
theorem dX5_clear_29 : decode cX5_clear 29 = .ok (.aload_n 0, 1) := by decide +kernel
theorem dX5_clear_30 : decode cX5_clear 30 = .ok (.getfield 33, 3) := by decide +kernel
theorem dX5_clear_33 : decode cX5_clear 33 = .ok (.invokevirtual 180, 3) := by decide +kernel
theorem dX5_clear_36 : decode cX5_clear 36 = .ok (.aload_n 0, 1) := by decide +kernel
theorem dX5_clear_37 : decode cX5_clear 37 = .ok (.getfield 40, 3) := by decide +kernel
theorem dX5_clear_40 : decode cX5_clear 40 = .ok (.invokevirtual 181, 3) := by decide +kernel
theorem dX5_clear_43 : decode cX5_clear 43 = .ok (.iload_n 1, 1) := by decide +kernel
theorem dX5_clear_44 : decode cX5_clear 44 = .ok (.ireturn, 1) := by decide +kernel
set_option maxRecDepth 20000 in
theorem ggX5_refusalOf_X4_hold : GoodIn wsX5_refusalOf wsX4_hold := goodIn_r _ [6, 7, 13, 14, 15, 16, 17, 18] (by decide +kernel) (by decide +kernel)
set_option maxRecDepth 20000 in
theorem gX5_refusalOf_X4_hold : GoodIn wsX5_refusalOf (wsV RX5 64 RX4 yX4_hold wsX4_hold) := goodIn_app (goodIn_of _ (by decide +kernel)) ggX5_refusalOf_X4_hold
theorem dX5_refusalOf_0 : decode cX5_refusalOf 0 = .ok (.aload_n 0, 1) := by decide +kernel
theorem dX5_refusalOf_1 : decode cX5_refusalOf 1 = .ok (.getfield 10, 3) := by decide +kernel
theorem dX5_refusalOf_4 : decode cX5_refusalOf 4 = .ok (.iload_n 1, 1) := by decide +kernel
theorem dX5_refusalOf_5 : decode cX5_refusalOf 5 = .ok (.invokevirtual 64, 3) := by decide +kernel
theorem dX5_refusalOf_8 : decode cX5_refusalOf 8 = .ok (.ifCond .ne 5, 3) := by decide +kernel
theorem dX5_refusalOf_11 : decode cX5_refusalOf 11 = .ok (.iconst (-1), 1) := by decide +kernel
theorem dX5_refusalOf_12 : decode cX5_refusalOf 12 = .ok (.ireturn, 1) := by decide +kernel
theorem dX5_refusalOf_13 : decode cX5_refusalOf 13 = .ok (.iload_n 2, 1) := by decide +kernel
theorem dX5_refusalOf_14 : decode cX5_refusalOf 14 = .ok (.iload_n 3, 1) := by decide +kernel
theorem dX5_refusalOf_15 : decode cX5_refusalOf 15 = .ok (.if_icmp .lt 9, 3) := by decide +kernel
theorem dX5_refusalOf_18 : decode cX5_refusalOf 18 = .ok (.iload_n 2, 1) := by decide +kernel
theorem dX5_refusalOf_19 : decode cX5_refusalOf 19 = .ok (.iload 4, 2) := by decide +kernel
theorem dX5_refusalOf_21 : decode cX5_refusalOf 21 = .ok (.if_icmp .le 8, 3) := by decide +kernel
theorem dX5_refusalOf_24 : decode cX5_refusalOf 24 = .ok (.bipush (-2), 2) := by decide +kernel
theorem dX5_refusalOf_26 : decode cX5_refusalOf 26 = .ok (.goto 4, 3) := by decide +kernel
theorem dX5_refusalOf_29 : decode cX5_refusalOf 29 = .ok (.iconst 0, 1) := by decide +kernel
theorem dX5_refusalOf_30 : decode cX5_refusalOf 30 = .ok (.ireturn, 1) := by decide +kernel
set_option maxRecDepth 20000 in
theorem ggX5_answerOf_X3_addFinding : GoodIn wsX5_answerOf wsX3_addFinding := goodIn_ca (goodIn_r _ [6, 7, 13, 14, 15, 16] (by decide +kernel) (by decide +kernel)) (goodIn_sub (fun _ h => List.mem_cons_of_mem _ (List.mem_append_right _ h)) (by decide +kernel))
set_option maxRecDepth 20000 in
theorem gX5_answerOf_X3_addFinding : GoodIn wsX5_answerOf (wsV RX5 182 RX3 yX3_addFinding wsX3_addFinding) := goodIn_app (goodIn_of _ (by decide +kernel)) ggX5_answerOf_X3_addFinding
theorem dX5_answerOf_0 : decode cX5_answerOf 0 = .ok (.aload_n 0, 1) := by decide +kernel
theorem dX5_answerOf_1 : decode cX5_answerOf 1 = .ok (.getfield 40, 3) := by decide +kernel
theorem dX5_answerOf_4 : decode cX5_answerOf 4 = .ok (.iload_n 1, 1) := by decide +kernel
theorem dX5_answerOf_5 : decode cX5_answerOf 5 = .ok (.invokevirtual 182, 3) := by decide +kernel
theorem dX5_answerOf_8 : decode cX5_answerOf 8 = .ok (.bipush (-20), 2) := by decide +kernel
theorem dX5_answerOf_10 : decode cX5_answerOf 10 = .ok (.iload_n 1, 1) := by decide +kernel
theorem dX5_answerOf_11 : decode cX5_answerOf 11 = .ok (.isub, 1) := by decide +kernel
theorem dX5_answerOf_12 : decode cX5_answerOf 12 = .ok (.ireturn, 1) := by decide +kernel
set_option maxRecDepth 20000 in
theorem ggX5_findingAt_X4_isOf : GoodIn wsX5_findingAt wsX4_isOf := goodIn_ca (goodIn_r _ [6, 7, 8, 9, 10, 5, 11, 12, 13, 14, 15, 26, 27, 28, 29, 30, 31] (by decide +kernel) (by decide +kernel)) (goodIn_sub (fun _ h => List.mem_cons_of_mem _ (List.mem_append_right _ h)) (by decide +kernel))
set_option maxRecDepth 20000 in
theorem gX5_findingAt_X4_isOf : GoodIn wsX5_findingAt (wsV RX5 60 RX4 yX4_isOf wsX4_isOf) := goodIn_app (goodIn_of _ (by decide +kernel)) ggX5_findingAt_X4_isOf
set_option maxRecDepth 20000 in
theorem ggX5_findingAt_X4_hasPlace : GoodIn wsX5_findingAt wsX4_hasPlace := goodIn_ca (goodIn_r _ [19, 12, 20, 26, 27, 28, 29, 30, 31] (by decide +kernel) (by decide +kernel)) (goodIn_sub (fun _ h => List.mem_cons_of_mem _ (List.mem_append_right _ h)) (by decide +kernel))
set_option maxRecDepth 20000 in
theorem gX5_findingAt_X4_hasPlace : GoodIn wsX5_findingAt (wsV RX5 186 RX4 yX4_hasPlace wsX4_hasPlace) := goodIn_app (goodIn_of _ (by decide +kernel)) ggX5_findingAt_X4_hasPlace
theorem dX5_findingAt_0 : decode cX5_findingAt 0 = .ok (.aload_n 0, 1) := by decide +kernel
theorem dX5_findingAt_1 : decode cX5_findingAt 1 = .ok (.getfield 10, 3) := by decide +kernel
theorem dX5_findingAt_4 : decode cX5_findingAt 4 = .ok (.iload_n 1, 1) := by decide +kernel
theorem dX5_findingAt_5 : decode cX5_findingAt 5 = .ok (.iload_n 2, 1) := by decide +kernel
theorem dX5_findingAt_6 : decode cX5_findingAt 6 = .ok (.invokevirtual 60, 3) := by decide +kernel
theorem dX5_findingAt_9 : decode cX5_findingAt 9 = .ok (.ifCond .ne 5, 3) := by decide +kernel
theorem dX5_findingAt_12 : decode cX5_findingAt 12 = .ok (.iconst 1, 1) := by decide +kernel
theorem dX5_findingAt_13 : decode cX5_findingAt 13 = .ok (.ireturn, 1) := by decide +kernel
theorem dX5_findingAt_14 : decode cX5_findingAt 14 = .ok (.aload_n 0, 1) := by decide +kernel
theorem dX5_findingAt_15 : decode cX5_findingAt 15 = .ok (.getfield 10, 3) := by decide +kernel
theorem dX5_findingAt_18 : decode cX5_findingAt 18 = .ok (.iload_n 1, 1) := by decide +kernel
theorem dX5_findingAt_19 : decode cX5_findingAt 19 = .ok (.iload_n 3, 1) := by decide +kernel
theorem dX5_findingAt_20 : decode cX5_findingAt 20 = .ok (.invokevirtual 186, 3) := by decide +kernel
theorem dX5_findingAt_23 : decode cX5_findingAt 23 = .ok (.ifCond .eq 7, 3) := by decide +kernel
theorem dX5_findingAt_26 : decode cX5_findingAt 26 = .ok (.iconst 0, 1) := by decide +kernel
theorem dX5_findingAt_27 : decode cX5_findingAt 27 = .ok (.goto 4, 3) := by decide +kernel
theorem dX5_findingAt_30 : decode cX5_findingAt 30 = .ok (.iconst 3, 1) := by decide +kernel
theorem dX5_findingAt_31 : decode cX5_findingAt 31 = .ok (.ireturn, 1) := by decide +kernel
set_option maxRecDepth 20000 in
theorem ggX5_layInto_X4_isOf : GoodIn wsX5_layInto wsX4_isOf := goodIn_ca (goodIn_r _ [6, 7, 8, 9, 10, 5, 11, 12, 13, 14, 15, 39, 40, 41, 42, 43, 44] (by decide +kernel) (by decide +kernel)) (goodIn_sub (fun _ h => List.mem_cons_of_mem _ (List.mem_append_right _ h)) (by decide +kernel))
set_option maxRecDepth 20000 in
theorem gX5_layInto_X4_isOf : GoodIn wsX5_layInto (wsV RX5 60 RX4 yX4_isOf wsX4_isOf) := goodIn_app (goodIn_of _ (by decide +kernel)) ggX5_layInto_X4_isOf
set_option maxRecDepth 20000 in
theorem ggX5_layInto_X4_hasPlace : GoodIn wsX5_layInto wsX4_hasPlace := goodIn_ca (goodIn_r _ [19, 12, 20, 39, 40, 41, 42, 43, 44] (by decide +kernel) (by decide +kernel)) (goodIn_sub (fun _ h => List.mem_cons_of_mem _ (List.mem_append_right _ h)) (by decide +kernel))
set_option maxRecDepth 20000 in
theorem gX5_layInto_X4_hasPlace : GoodIn wsX5_layInto (wsV RX5 186 RX4 yX4_hasPlace wsX4_hasPlace) := goodIn_app (goodIn_of _ (by decide +kernel)) ggX5_layInto_X4_hasPlace
set_option maxRecDepth 20000 in
theorem ggX5_layInto_X4_formOf : GoodIn wsX5_layInto wsX4_formOf := goodIn_ca (goodIn_r _ [24, 7, 8, 9, 10, 5, 11, 12, 39, 40, 41, 42, 43, 44] (by decide +kernel) (by decide +kernel)) (goodIn_sub (fun _ h => List.mem_cons_of_mem _ (List.mem_append_right _ h)) (by decide +kernel))
set_option maxRecDepth 20000 in
theorem gX5_layInto_X4_formOf : GoodIn wsX5_layInto (wsV RX5 68 RX4 yX4_formOf wsX4_formOf) := goodIn_app (goodIn_of _ (by decide +kernel)) ggX5_layInto_X4_formOf
set_option maxRecDepth 20000 in
theorem ggX5_layInto_X5_memberKind : GoodIn wsX5_layInto wsX5_memberKind := goodIn_r _ [27] (by decide +kernel) (by decide +kernel)
set_option maxRecDepth 20000 in
theorem gX5_layInto_X5_memberKind : GoodIn wsX5_layInto (va_wsS RX5 101 yX5_memberKind wsX5_memberKind) := goodIn_app (goodIn_of _ (by decide +kernel)) ggX5_layInto_X5_memberKind
set_option maxRecDepth 20000 in
theorem ggX5_layInto_X4_setMember : GoodIn wsX5_layInto wsX4_setMember := goodIn_ca (goodIn_r _ [31, 32, 33, 17, 18, 5, 19, 12, 20, 39, 40, 41, 42, 43, 44] (by decide +kernel) (by decide +kernel)) (goodIn_sub (fun _ h => List.mem_cons_of_mem _ (List.mem_append_right _ h)) (by decide +kernel))
set_option maxRecDepth 20000 in
theorem gX5_layInto_X4_setMember : GoodIn wsX5_layInto (wsV RX5 189 RX4 yX4_setMember wsX4_setMember) := goodIn_app (goodIn_of _ (by decide +kernel)) ggX5_layInto_X4_setMember
theorem dX5_layInto_0 : decode cX5_layInto 0 = .ok (.iload_n 3, 1) := by decide +kernel
theorem dX5_layInto_1 : decode cX5_layInto 1 = .ok (.bipush (-5), 2) := by decide +kernel
theorem dX5_layInto_3 : decode cX5_layInto 3 = .ok (.if_icmp .eq 18, 3) := by decide +kernel
theorem dX5_layInto_6 : decode cX5_layInto 6 = .ok (.aload_n 0, 1) := by decide +kernel
theorem dX5_layInto_7 : decode cX5_layInto 7 = .ok (.getfield 10, 3) := by decide +kernel
theorem dX5_layInto_10 : decode cX5_layInto 10 = .ok (.iload_n 3, 1) := by decide +kernel
theorem dX5_layInto_11 : decode cX5_layInto 11 = .ok (.iload 4, 2) := by decide +kernel
theorem dX5_layInto_13 : decode cX5_layInto 13 = .ok (.invokevirtual 60, 3) := by decide +kernel
theorem dX5_layInto_16 : decode cX5_layInto 16 = .ok (.ifCond .ne 5, 3) := by decide +kernel
theorem dX5_layInto_19 : decode cX5_layInto 19 = .ok (.iconst 1, 1) := by decide +kernel
theorem dX5_layInto_20 : decode cX5_layInto 20 = .ok (.ireturn, 1) := by decide +kernel
theorem dX5_layInto_21 : decode cX5_layInto 21 = .ok (.aload_n 0, 1) := by decide +kernel
theorem dX5_layInto_22 : decode cX5_layInto 22 = .ok (.getfield 10, 3) := by decide +kernel
theorem dX5_layInto_25 : decode cX5_layInto 25 = .ok (.iload_n 1, 1) := by decide +kernel
theorem dX5_layInto_26 : decode cX5_layInto 26 = .ok (.iload_n 2, 1) := by decide +kernel
theorem dX5_layInto_27 : decode cX5_layInto 27 = .ok (.invokevirtual 186, 3) := by decide +kernel
theorem dX5_layInto_30 : decode cX5_layInto 30 = .ok (.ifCond .ne 5, 3) := by decide +kernel
theorem dX5_layInto_33 : decode cX5_layInto 33 = .ok (.iconst 3, 1) := by decide +kernel
theorem dX5_layInto_34 : decode cX5_layInto 34 = .ok (.ireturn, 1) := by decide +kernel
theorem dX5_layInto_35 : decode cX5_layInto 35 = .ok (.iload_n 3, 1) := by decide +kernel
theorem dX5_layInto_36 : decode cX5_layInto 36 = .ok (.bipush (-5), 2) := by decide +kernel
theorem dX5_layInto_38 : decode cX5_layInto 38 = .ok (.if_icmp .eq 27, 3) := by decide +kernel
theorem dX5_layInto_41 : decode cX5_layInto 41 = .ok (.aload_n 0, 1) := by decide +kernel
theorem dX5_layInto_42 : decode cX5_layInto 42 = .ok (.getfield 10, 3) := by decide +kernel
theorem dX5_layInto_45 : decode cX5_layInto 45 = .ok (.iload_n 3, 1) := by decide +kernel
theorem dX5_layInto_46 : decode cX5_layInto 46 = .ok (.aload_n 0, 1) := by decide +kernel
theorem dX5_layInto_47 : decode cX5_layInto 47 = .ok (.getfield 10, 3) := by decide +kernel
theorem dX5_layInto_50 : decode cX5_layInto 50 = .ok (.iload_n 1, 1) := by decide +kernel
theorem dX5_layInto_51 : decode cX5_layInto 51 = .ok (.invokevirtual 68, 3) := by decide +kernel
theorem dX5_layInto_54 : decode cX5_layInto 54 = .ok (.invokestatic 101, 3) := by decide +kernel
theorem dX5_layInto_57 : decode cX5_layInto 57 = .ok (.invokevirtual 60, 3) := by decide +kernel
theorem dX5_layInto_60 : decode cX5_layInto 60 = .ok (.ifCond .ne 5, 3) := by decide +kernel
theorem dX5_layInto_63 : decode cX5_layInto 63 = .ok (.iconst 4, 1) := by decide +kernel
theorem dX5_layInto_64 : decode cX5_layInto 64 = .ok (.ireturn, 1) := by decide +kernel
theorem dX5_layInto_65 : decode cX5_layInto 65 = .ok (.aload_n 0, 1) := by decide +kernel
theorem dX5_layInto_66 : decode cX5_layInto 66 = .ok (.getfield 10, 3) := by decide +kernel
theorem dX5_layInto_69 : decode cX5_layInto 69 = .ok (.iload_n 1, 1) := by decide +kernel
theorem dX5_layInto_70 : decode cX5_layInto 70 = .ok (.iload_n 2, 1) := by decide +kernel
theorem dX5_layInto_71 : decode cX5_layInto 71 = .ok (.iload_n 3, 1) := by decide +kernel
theorem dX5_layInto_72 : decode cX5_layInto 72 = .ok (.invokevirtual 189, 3) := by decide +kernel
theorem dX5_layInto_75 : decode cX5_layInto 75 = .ok (.iconst 0, 1) := by decide +kernel
theorem dX5_layInto_76 : decode cX5_layInto 76 = .ok (.ireturn, 1) := by decide +kernel
set_option maxRecDepth 20000 in
theorem ggX5_stationFor_X2_howMany : GoodIn wsX5_stationFor wsX2_howMany := goodIn_r _ [7, 8, 37, 38, 39, 40, 41] (by decide +kernel) (by decide +kernel)
set_option maxRecDepth 20000 in
theorem gX5_stationFor_X2_howMany : GoodIn wsX5_stationFor (wsV RX5 161 RX2 yX2_howMany wsX2_howMany) := goodIn_app (goodIn_of _ (by decide +kernel)) ggX5_stationFor_X2_howMany
set_option maxRecDepth 20000 in
theorem ggX5_stationFor_X2_gateOf : GoodIn wsX5_stationFor wsX2_gateOf := goodIn_ca (goodIn_r _ [12, 13, 14, 15, 16, 6, 17, 8, 37, 38, 39, 40, 41] (by decide +kernel) (by decide +kernel)) (goodIn_sub (fun _ h => List.mem_cons_of_mem _ (List.mem_append_right _ h)) (by decide +kernel))
set_option maxRecDepth 20000 in
theorem gX5_stationFor_X2_gateOf : GoodIn wsX5_stationFor (wsV RX5 192 RX2 yX2_gateOf wsX2_gateOf) := goodIn_app (goodIn_of _ (by decide +kernel)) ggX5_stationFor_X2_gateOf
set_option maxRecDepth 20000 in
theorem ggX5_stationFor_X4_isOf : GoodIn wsX5_stationFor wsX4_isOf := goodIn_ca (goodIn_r _ [22, 23, 24, 25, 26, 21, 27, 28, 29, 30, 31, 42, 43, 44, 45, 46, 47] (by decide +kernel) (by decide +kernel)) (goodIn_sub (fun _ h => List.mem_cons_of_mem _ (List.mem_append_right _ h)) (by decide +kernel))
set_option maxRecDepth 20000 in
theorem gX5_stationFor_X4_isOf : GoodIn wsX5_stationFor (wsV RX5 60 RX4 yX4_isOf wsX4_isOf) := goodIn_app (goodIn_of _ (by decide +kernel)) ggX5_stationFor_X4_isOf
theorem dX5_stationFor_0 : decode cX5_stationFor 0 = .ok (.iconst 0, 1) := by decide +kernel
theorem dX5_stationFor_1 : decode cX5_stationFor 1 = .ok (.istore_n 2, 1) := by decide +kernel
theorem dX5_stationFor_2 : decode cX5_stationFor 2 = .ok (.iload_n 2, 1) := by decide +kernel
theorem dX5_stationFor_3 : decode cX5_stationFor 3 = .ok (.aload_n 0, 1) := by decide +kernel
theorem dX5_stationFor_4 : decode cX5_stationFor 4 = .ok (.getfield 19, 3) := by decide +kernel
theorem dX5_stationFor_7 : decode cX5_stationFor 7 = .ok (.invokevirtual 161, 3) := by decide +kernel
theorem dX5_stationFor_10 : decode cX5_stationFor 10 = .ok (.if_icmp .ge 30, 3) := by decide +kernel
theorem dX5_stationFor_13 : decode cX5_stationFor 13 = .ok (.aload_n 0, 1) := by decide +kernel
theorem dX5_stationFor_14 : decode cX5_stationFor 14 = .ok (.getfield 10, 3) := by decide +kernel
theorem dX5_stationFor_17 : decode cX5_stationFor 17 = .ok (.iload_n 1, 1) := by decide +kernel
theorem dX5_stationFor_18 : decode cX5_stationFor 18 = .ok (.aload_n 0, 1) := by decide +kernel
theorem dX5_stationFor_19 : decode cX5_stationFor 19 = .ok (.getfield 19, 3) := by decide +kernel
theorem dX5_stationFor_22 : decode cX5_stationFor 22 = .ok (.iload_n 2, 1) := by decide +kernel
theorem dX5_stationFor_23 : decode cX5_stationFor 23 = .ok (.invokevirtual 192, 3) := by decide +kernel
theorem dX5_stationFor_26 : decode cX5_stationFor 26 = .ok (.invokevirtual 60, 3) := by decide +kernel
theorem dX5_stationFor_29 : decode cX5_stationFor 29 = .ok (.ifCond .eq 5, 3) := by decide +kernel
theorem dX5_stationFor_32 : decode cX5_stationFor 32 = .ok (.iload_n 2, 1) := by decide +kernel
theorem dX5_stationFor_33 : decode cX5_stationFor 33 = .ok (.ireturn, 1) := by decide +kernel
theorem dX5_stationFor_34 : decode cX5_stationFor 34 = .ok (.iinc 2 1, 3) := by decide +kernel
theorem dX5_stationFor_37 : decode cX5_stationFor 37 = .ok (.goto (-35), 3) := by decide +kernel
theorem dX5_stationFor_40 : decode cX5_stationFor 40 = .ok (.bipush (-5), 2) := by decide +kernel
theorem dX5_stationFor_42 : decode cX5_stationFor 42 = .ok (.ireturn, 1) := by decide +kernel
set_option maxRecDepth 20000 in
theorem ggX5_workOn_X2_workOf : GoodIn wsX5_workOn wsX2_workOf := goodIn_ca (goodIn_r _ [7, 8, 9, 10, 11, 6, 12, 13, 147, 148, 149, 150, 151] (by decide +kernel) (by decide +kernel)) (goodIn_sub (fun _ h => List.mem_cons_of_mem _ (List.mem_append_right _ h)) (by decide +kernel))
set_option maxRecDepth 20000 in
theorem gX5_workOn_X2_workOf : GoodIn wsX5_workOn (wsV RX5 195 RX2 yX2_workOf wsX2_workOf) := goodIn_app (goodIn_of _ (by decide +kernel)) ggX5_workOn_X2_workOf
set_option maxRecDepth 20000 in
theorem ggX5_workOn_X5_kindForWork : GoodIn wsX5_workOn wsX5_kindForWork := goodIn_r _ [17] (by decide +kernel) (by decide +kernel)
set_option maxRecDepth 20000 in
theorem gX5_workOn_X5_kindForWork : GoodIn wsX5_workOn (va_wsS RX5 198 yX5_kindForWork wsX5_kindForWork) := goodIn_app (goodIn_of _ (by decide +kernel)) ggX5_workOn_X5_kindForWork
set_option maxRecDepth 20000 in
theorem ggX5_workOn_X4_isOf : GoodIn wsX5_workOn wsX4_isOf := goodIn_ca (goodIn_r _ [22, 23, 24, 25, 26, 21, 27, 28, 29, 16, 30, 152, 153, 154, 155, 156, 157] (by decide +kernel) (by decide +kernel)) (goodIn_sub (fun _ h => List.mem_cons_of_mem _ (List.mem_append_right _ h)) (by decide +kernel))
set_option maxRecDepth 20000 in
theorem gX5_workOn_X4_isOf : GoodIn wsX5_workOn (wsV RX5 60 RX4 yX4_isOf wsX4_isOf) := goodIn_app (goodIn_of _ (by decide +kernel)) ggX5_workOn_X4_isOf
set_option maxRecDepth 20000 in
theorem ggX5_workOn_X5_weigh : GoodIn wsX5_workOn wsX5_weigh := goodIn_ca (goodIn_r _ [34, 1, 2, 35, 36, 37, 21, 38, 39, 24, 25, 26, 27, 28, 40, 41, 42, 6, 43, 44, 9, 10, 11, 12, 13, 45, 46, 47, 16, 48, 49, 50, 51, 52, 53, 142, 143, 144, 145, 146, 152, 153, 154, 155, 156, 157, 147, 148, 149, 150, 151] (by decide +kernel) (by decide +kernel)) (goodIn_sub (fun _ h => List.mem_cons_of_mem _ (List.mem_append_right _ h)) (by decide +kernel))
set_option maxRecDepth 20000 in
theorem gX5_workOn_X5_weigh : GoodIn wsX5_workOn (wsV RX5 201 RX5 yX5_weigh wsX5_weigh) := goodIn_app (goodIn_of _ (by decide +kernel)) ggX5_workOn_X5_weigh
set_option maxRecDepth 20000 in
theorem ggX5_workOn_X4_keyOf : GoodIn wsX5_workOn wsX4_keyOf := goodIn_ca (goodIn_r _ [57, 58, 59, 60, 21, 61, 23, 24, 25, 26, 27, 28, 62, 36, 37, 38, 39, 152, 153, 154, 155, 156, 157] (by decide +kernel) (by decide +kernel)) (goodIn_sub (fun _ h => List.mem_cons_of_mem _ (List.mem_append_right _ h)) (by decide +kernel))
set_option maxRecDepth 20000 in
theorem gX5_workOn_X4_keyOf : GoodIn wsX5_workOn (wsV RX5 204 RX4 yX4_keyOf wsX4_keyOf) := goodIn_app (goodIn_of _ (by decide +kernel)) ggX5_workOn_X4_keyOf
set_option maxRecDepth 20000 in
theorem ggX5_workOn_X5_grow : GoodIn wsX5_workOn wsX5_grow := goodIn_ca (goodIn_r _ [66, 1, 40, 41, 42, 6, 43, 44, 9, 10, 11, 12, 13, 142, 143, 144, 145, 146, 147, 148, 149, 150, 151] (by decide +kernel) (by decide +kernel)) (goodIn_sub (fun _ h => List.mem_cons_of_mem _ (List.mem_append_right _ h)) (by decide +kernel))
set_option maxRecDepth 20000 in
theorem gX5_workOn_X5_grow : GoodIn wsX5_workOn (wsV RX5 207 RX5 yX5_grow wsX5_grow) := goodIn_app (goodIn_of _ (by decide +kernel)) ggX5_workOn_X5_grow
set_option maxRecDepth 20000 in
theorem ggX5_workOn_X4_sumOfNumbers : GoodIn wsX5_workOn wsX4_sumOfNumbers := goodIn_ca (goodIn_r _ [70, 71, 72, 73, 21, 74, 75, 24, 25, 26, 27, 28, 76, 77, 78, 79, 80, 81, 82, 83, 84, 152, 153, 154, 155, 156, 157] (by decide +kernel) (by decide +kernel)) (goodIn_sub (fun _ h => List.mem_cons_of_mem _ (List.mem_append_right _ h)) (by decide +kernel))
set_option maxRecDepth 20000 in
theorem gX5_workOn_X4_sumOfNumbers : GoodIn wsX5_workOn (wsV RX5 211 RX4 yX4_sumOfNumbers wsX4_sumOfNumbers) := goodIn_app (goodIn_of _ (by decide +kernel)) ggX5_workOn_X4_sumOfNumbers
set_option maxRecDepth 20000 in
theorem ggX5_workOn_X5_addMembers : GoodIn wsX5_workOn wsX5_addMembers := goodIn_ca (goodIn_r _ [88, 2, 89, 72, 73, 21, 74, 75, 24, 25, 26, 27, 28, 90, 91, 92, 93, 94, 81, 82, 83, 84, 54, 55, 56, 57, 58, 59, 60, 61, 23, 62, 36, 37, 38, 39, 35, 63, 64, 65, 16, 66, 1, 40, 41, 42, 6, 43, 44, 9, 10, 11, 12, 13, 142, 143, 144, 145, 146, 152, 153, 154, 155, 156, 157, 147, 148, 149, 150, 151] (by decide +kernel) (by decide +kernel)) (goodIn_sub (fun _ h => List.mem_cons_of_mem _ (List.mem_append_right _ h)) (by decide +kernel))
set_option maxRecDepth 20000 in
theorem gX5_workOn_X5_addMembers : GoodIn wsX5_workOn (wsV RX5 214 RX5 yX5_addMembers wsX5_addMembers) := goodIn_app (goodIn_of _ (by decide +kernel)) ggX5_workOn_X5_addMembers
set_option maxRecDepth 20000 in
theorem ggX5_workOn_X5_pack : GoodIn wsX5_workOn wsX5_pack := goodIn_ca (goodIn_r _ [98, 1, 99, 100, 101, 6, 102, 53, 9, 10, 11, 12, 13, 103, 104, 105, 16, 106, 2, 18, 19, 20, 21, 22, 23, 24, 25, 26, 27, 28, 29, 30, 107, 82, 83, 84, 75, 108, 59, 60, 61, 109, 110, 111, 112, 113, 114, 115, 94, 81, 49, 50, 51, 52, 142, 143, 144, 145, 146, 147, 148, 149, 150, 151, 152, 153, 154, 155, 156, 157] (by decide +kernel) (by decide +kernel)) (goodIn_sub (fun _ h => List.mem_cons_of_mem _ (List.mem_append_right _ h)) (by decide +kernel))
set_option maxRecDepth 20000 in
theorem gX5_workOn_X5_pack : GoodIn wsX5_workOn (wsV RX5 217 RX5 yX5_pack wsX5_pack) := goodIn_app (goodIn_of _ (by decide +kernel)) ggX5_workOn_X5_pack
set_option maxRecDepth 20000 in
theorem ggX5_workOn_X5_addCorner : GoodIn wsX5_workOn wsX5_addCorner := goodIn_ca (goodIn_r _ [119, 2, 120, 121, 122, 16, 123, 107, 82, 83, 21, 84, 28, 75, 90, 91, 92, 93, 94, 81, 35, 36, 37, 38, 39, 24, 25, 26, 27, 63, 64, 65, 66, 1, 40, 41, 42, 6, 43, 44, 9, 10, 11, 12, 13, 142, 143, 144, 145, 146, 152, 153, 154, 155, 156, 157, 147, 148, 149, 150, 151] (by decide +kernel) (by decide +kernel)) (goodIn_sub (fun _ h => List.mem_cons_of_mem _ (List.mem_append_right _ h)) (by decide +kernel))
set_option maxRecDepth 20000 in
theorem gX5_workOn_X5_addCorner : GoodIn wsX5_workOn (wsV RX5 220 RX5 yX5_addCorner wsX5_addCorner) := goodIn_app (goodIn_of _ (by decide +kernel)) ggX5_workOn_X5_addCorner
set_option maxRecDepth 20000 in
theorem ggX5_workOn_X5_addCell : GoodIn wsX5_workOn wsX5_addCell := goodIn_ca (goodIn_r _ [127, 2, 120, 121, 122, 16, 123, 107, 82, 83, 21, 84, 28, 75, 90, 91, 92, 93, 94, 81, 128, 77, 78, 79, 80, 63, 64, 65, 66, 1, 40, 41, 42, 6, 43, 44, 9, 10, 11, 12, 13, 142, 143, 144, 145, 146, 152, 153, 154, 155, 156, 157, 147, 148, 149, 150, 151] (by decide +kernel) (by decide +kernel)) (goodIn_sub (fun _ h => List.mem_cons_of_mem _ (List.mem_append_right _ h)) (by decide +kernel))
set_option maxRecDepth 20000 in
theorem gX5_workOn_X5_addCell : GoodIn wsX5_workOn (wsV RX5 223 RX5 yX5_addCell wsX5_addCell) := goodIn_app (goodIn_of _ (by decide +kernel)) ggX5_workOn_X5_addCell
set_option maxRecDepth 20000 in
theorem ggX5_workOn_X5_spill : GoodIn wsX5_workOn wsX5_spill := goodIn_ca (goodIn_r _ [132, 2, 133, 89, 72, 73, 21, 74, 75, 24, 25, 26, 27, 28, 90, 91, 92, 93, 94, 81, 82, 83, 84, 134, 135, 136, 137, 138, 139, 140, 141, 112, 113, 114, 115, 142, 143, 144, 145, 146, 152, 153, 154, 155, 156, 157, 158, 159, 160] (by decide +kernel) (by decide +kernel)) (goodIn_sub (fun _ h => List.mem_cons_of_mem _ (List.mem_append_right _ h)) (by decide +kernel))
set_option maxRecDepth 20000 in
theorem gX5_workOn_X5_spill : GoodIn wsX5_workOn (wsV RX5 226 RX5 yX5_spill wsX5_spill) := goodIn_app (goodIn_of _ (by decide +kernel)) ggX5_workOn_X5_spill
set_option maxRecDepth 20000 in
theorem ggX5_workOn_X5_keep : GoodIn wsX5_workOn wsX5_keep := goodIn_ca (goodIn_r _ [48, 1, 49, 50, 51, 6, 52, 53, 9, 10, 11, 12, 13, 142, 143, 144, 145, 146, 147, 148, 149, 150, 151] (by decide +kernel) (by decide +kernel)) (goodIn_sub (fun _ h => List.mem_cons_of_mem _ (List.mem_append_right _ h)) (by decide +kernel))
set_option maxRecDepth 20000 in
theorem gX5_workOn_X5_keep : GoodIn wsX5_workOn (wsV RX5 229 RX5 yX5_keep wsX5_keep) := goodIn_app (goodIn_of _ (by decide +kernel)) ggX5_workOn_X5_keep
theorem dX5_workOn_0 : decode cX5_workOn 0 = .ok (.aload_n 0, 1) := by decide +kernel
theorem dX5_workOn_1 : decode cX5_workOn 1 = .ok (.getfield 19, 3) := by decide +kernel
theorem dX5_workOn_4 : decode cX5_workOn 4 = .ok (.iload_n 2, 1) := by decide +kernel
theorem dX5_workOn_5 : decode cX5_workOn 5 = .ok (.invokevirtual 195, 3) := by decide +kernel
theorem dX5_workOn_8 : decode cX5_workOn 8 = .ok (.istore_n 3, 1) := by decide +kernel
theorem dX5_workOn_9 : decode cX5_workOn 9 = .ok (.aload_n 0, 1) := by decide +kernel
theorem dX5_workOn_10 : decode cX5_workOn 10 = .ok (.getfield 10, 3) := by decide +kernel
theorem dX5_workOn_13 : decode cX5_workOn 13 = .ok (.iload_n 1, 1) := by decide +kernel
theorem dX5_workOn_14 : decode cX5_workOn 14 = .ok (.iload_n 3, 1) := by decide +kernel
theorem dX5_workOn_15 : decode cX5_workOn 15 = .ok (.invokestatic 198, 3) := by decide +kernel
theorem dX5_workOn_18 : decode cX5_workOn 18 = .ok (.invokevirtual 60, 3) := by decide +kernel
theorem dX5_workOn_21 : decode cX5_workOn 21 = .ok (.ifCond .ne 5, 3) := by decide +kernel
theorem dX5_workOn_24 : decode cX5_workOn 24 = .ok (.iconst 1, 1) := by decide +kernel
theorem dX5_workOn_25 : decode cX5_workOn 25 = .ok (.ireturn, 1) := by decide +kernel
theorem dX5_workOn_26 : decode cX5_workOn 26 = .ok (.iload_n 3, 1) := by decide +kernel
theorem dX5_workOn_27 : decode cX5_workOn 27 = .ok (.tableswitch 159 0 11 #[61, 70, 87, 87, 87, 103, 113, 122, 132, 141, 103, 151], 61) := by decide +kernel
theorem dX5_workOn_88 : decode cX5_workOn 88 = .ok (.aload_n 0, 1) := by decide +kernel
theorem dX5_workOn_89 : decode cX5_workOn 89 = .ok (.iload_n 1, 1) := by decide +kernel
theorem dX5_workOn_90 : decode cX5_workOn 90 = .ok (.iload_n 2, 1) := by decide +kernel
theorem dX5_workOn_91 : decode cX5_workOn 91 = .ok (.invokevirtual 201, 3) := by decide +kernel
theorem dX5_workOn_94 : decode cX5_workOn 94 = .ok (.goto 98, 3) := by decide +kernel
theorem dX5_workOn_97 : decode cX5_workOn 97 = .ok (.aload_n 0, 1) := by decide +kernel
theorem dX5_workOn_98 : decode cX5_workOn 98 = .ok (.iload_n 2, 1) := by decide +kernel
theorem dX5_workOn_99 : decode cX5_workOn 99 = .ok (.aload_n 0, 1) := by decide +kernel
theorem dX5_workOn_100 : decode cX5_workOn 100 = .ok (.getfield 10, 3) := by decide +kernel
theorem dX5_workOn_103 : decode cX5_workOn 103 = .ok (.iload_n 1, 1) := by decide +kernel
theorem dX5_workOn_104 : decode cX5_workOn 104 = .ok (.invokevirtual 204, 3) := by decide +kernel
theorem dX5_workOn_107 : decode cX5_workOn 107 = .ok (.i2l, 1) := by decide +kernel
theorem dX5_workOn_108 : decode cX5_workOn 108 = .ok (.invokevirtual 207, 3) := by decide +kernel
theorem dX5_workOn_111 : decode cX5_workOn 111 = .ok (.goto 81, 3) := by decide +kernel
theorem dX5_workOn_114 : decode cX5_workOn 114 = .ok (.aload_n 0, 1) := by decide +kernel
theorem dX5_workOn_115 : decode cX5_workOn 115 = .ok (.iload_n 2, 1) := by decide +kernel
theorem dX5_workOn_116 : decode cX5_workOn 116 = .ok (.aload_n 0, 1) := by decide +kernel
theorem dX5_workOn_117 : decode cX5_workOn 117 = .ok (.getfield 10, 3) := by decide +kernel
theorem dX5_workOn_120 : decode cX5_workOn 120 = .ok (.iload_n 1, 1) := by decide +kernel
theorem dX5_workOn_121 : decode cX5_workOn 121 = .ok (.invokevirtual 211, 3) := by decide +kernel
theorem dX5_workOn_124 : decode cX5_workOn 124 = .ok (.invokevirtual 207, 3) := by decide +kernel
theorem dX5_workOn_127 : decode cX5_workOn 127 = .ok (.goto 65, 3) := by decide +kernel
theorem dX5_workOn_130 : decode cX5_workOn 130 = .ok (.aload_n 0, 1) := by decide +kernel
theorem dX5_workOn_131 : decode cX5_workOn 131 = .ok (.iload_n 1, 1) := by decide +kernel
theorem dX5_workOn_132 : decode cX5_workOn 132 = .ok (.iload_n 2, 1) := by decide +kernel
theorem dX5_workOn_133 : decode cX5_workOn 133 = .ok (.iload_n 3, 1) := by decide +kernel
theorem dX5_workOn_134 : decode cX5_workOn 134 = .ok (.invokevirtual 214, 3) := by decide +kernel
theorem dX5_workOn_137 : decode cX5_workOn 137 = .ok (.goto 55, 3) := by decide +kernel
theorem dX5_workOn_140 : decode cX5_workOn 140 = .ok (.aload_n 0, 1) := by decide +kernel
theorem dX5_workOn_141 : decode cX5_workOn 141 = .ok (.iload_n 1, 1) := by decide +kernel
theorem dX5_workOn_142 : decode cX5_workOn 142 = .ok (.iload_n 2, 1) := by decide +kernel
theorem dX5_workOn_143 : decode cX5_workOn 143 = .ok (.invokevirtual 217, 3) := by decide +kernel
theorem dX5_workOn_146 : decode cX5_workOn 146 = .ok (.goto 46, 3) := by decide +kernel
theorem dX5_workOn_149 : decode cX5_workOn 149 = .ok (.aload_n 0, 1) := by decide +kernel
theorem dX5_workOn_150 : decode cX5_workOn 150 = .ok (.iload_n 1, 1) := by decide +kernel
theorem dX5_workOn_151 : decode cX5_workOn 151 = .ok (.iload_n 2, 1) := by decide +kernel
theorem dX5_workOn_152 : decode cX5_workOn 152 = .ok (.iconst 2, 1) := by decide +kernel
theorem dX5_workOn_153 : decode cX5_workOn 153 = .ok (.invokevirtual 220, 3) := by decide +kernel
theorem dX5_workOn_156 : decode cX5_workOn 156 = .ok (.goto 36, 3) := by decide +kernel
theorem dX5_workOn_159 : decode cX5_workOn 159 = .ok (.aload_n 0, 1) := by decide +kernel
theorem dX5_workOn_160 : decode cX5_workOn 160 = .ok (.iload_n 1, 1) := by decide +kernel
theorem dX5_workOn_161 : decode cX5_workOn 161 = .ok (.iload_n 2, 1) := by decide +kernel
theorem dX5_workOn_162 : decode cX5_workOn 162 = .ok (.invokevirtual 223, 3) := by decide +kernel
theorem dX5_workOn_165 : decode cX5_workOn 165 = .ok (.goto 27, 3) := by decide +kernel
theorem dX5_workOn_168 : decode cX5_workOn 168 = .ok (.aload_n 0, 1) := by decide +kernel
theorem dX5_workOn_169 : decode cX5_workOn 169 = .ok (.iload_n 1, 1) := by decide +kernel
theorem dX5_workOn_170 : decode cX5_workOn 170 = .ok (.iload_n 2, 1) := by decide +kernel
theorem dX5_workOn_171 : decode cX5_workOn 171 = .ok (.iconst 3, 1) := by decide +kernel
theorem dX5_workOn_172 : decode cX5_workOn 172 = .ok (.invokevirtual 220, 3) := by decide +kernel
theorem dX5_workOn_175 : decode cX5_workOn 175 = .ok (.goto 17, 3) := by decide +kernel
theorem dX5_workOn_178 : decode cX5_workOn 178 = .ok (.aload_n 0, 1) := by decide +kernel
theorem dX5_workOn_179 : decode cX5_workOn 179 = .ok (.iload_n 1, 1) := by decide +kernel
theorem dX5_workOn_180 : decode cX5_workOn 180 = .ok (.invokevirtual 226, 3) := by decide +kernel
theorem dX5_workOn_183 : decode cX5_workOn 183 = .ok (.goto 9, 3) := by decide +kernel
theorem dX5_workOn_186 : decode cX5_workOn 186 = .ok (.aload_n 0, 1) := by decide +kernel
theorem dX5_workOn_187 : decode cX5_workOn 187 = .ok (.iload_n 1, 1) := by decide +kernel
theorem dX5_workOn_188 : decode cX5_workOn 188 = .ok (.iload_n 2, 1) := by decide +kernel
theorem dX5_workOn_189 : decode cX5_workOn 189 = .ok (.invokevirtual 229, 3) := by decide +kernel
theorem dX5_workOn_192 : decode cX5_workOn 192 = .ok (.ireturn, 1) := by decide +kernel
set_option maxRecDepth 20000 in
theorem ggX5_grow_X2_grow : GoodIn wsX5_grow wsX2_grow := goodIn_ca (goodIn_r _ [6, 7, 8, 9, 10, 5, 11, 12, 18, 19, 20, 21, 22] (by decide +kernel) (by decide +kernel)) (goodIn_sub (fun _ h => List.mem_cons_of_mem _ (List.mem_append_right _ h)) (by decide +kernel))
set_option maxRecDepth 20000 in
theorem gX5_grow_X2_grow : GoodIn wsX5_grow (wsV RX5 232 RX2 yX2_grow wsX2_grow) := goodIn_app (goodIn_of _ (by decide +kernel)) ggX5_grow_X2_grow
theorem dX5_grow_0 : decode cX5_grow 0 = .ok (.aload_n 0, 1) := by decide +kernel
theorem dX5_grow_1 : decode cX5_grow 1 = .ok (.getfield 19, 3) := by decide +kernel
theorem dX5_grow_4 : decode cX5_grow 4 = .ok (.iload_n 1, 1) := by decide +kernel
theorem dX5_grow_5 : decode cX5_grow 5 = .ok (.lload_n 2, 1) := by decide +kernel
theorem dX5_grow_6 : decode cX5_grow 6 = .ok (.invokevirtual 232, 3) := by decide +kernel
theorem dX5_grow_9 : decode cX5_grow 9 = .ok (.iconst 0, 1) := by decide +kernel
theorem dX5_grow_10 : decode cX5_grow 10 = .ok (.ireturn, 1) := by decide +kernel
set_option maxRecDepth 20000 in
theorem ggX5_keep_X2_setSlot : GoodIn wsX5_keep wsX2_setSlot := goodIn_ca (goodIn_r _ [6, 7, 8, 9, 10, 5, 11, 12, 18, 19, 20, 21, 22] (by decide +kernel) (by decide +kernel)) (goodIn_sub (fun _ h => List.mem_cons_of_mem _ (List.mem_append_right _ h)) (by decide +kernel))
set_option maxRecDepth 20000 in
theorem gX5_keep_X2_setSlot : GoodIn wsX5_keep (wsV RX5 235 RX2 yX2_setSlot wsX2_setSlot) := goodIn_app (goodIn_of _ (by decide +kernel)) ggX5_keep_X2_setSlot
theorem dX5_keep_0 : decode cX5_keep 0 = .ok (.aload_n 0, 1) := by decide +kernel
theorem dX5_keep_1 : decode cX5_keep 1 = .ok (.getfield 19, 3) := by decide +kernel
theorem dX5_keep_4 : decode cX5_keep 4 = .ok (.iload_n 2, 1) := by decide +kernel
theorem dX5_keep_5 : decode cX5_keep 5 = .ok (.iload_n 1, 1) := by decide +kernel
theorem dX5_keep_6 : decode cX5_keep 6 = .ok (.invokevirtual 235, 3) := by decide +kernel
theorem dX5_keep_9 : decode cX5_keep 9 = .ok (.iconst 0, 1) := by decide +kernel
theorem dX5_keep_10 : decode cX5_keep 10 = .ok (.ireturn, 1) := by decide +kernel
set_option maxRecDepth 20000 in
theorem ggX5_weigh_X4_weightOf : GoodIn wsX5_weigh wsX4_weightOf := goodIn_ca (goodIn_r _ [7, 8, 9, 10, 11, 6, 12, 13, 40, 41, 42, 43, 44, 45] (by decide +kernel) (by decide +kernel)) (goodIn_sub (fun _ h => List.mem_cons_of_mem _ (List.mem_append_right _ h)) (by decide +kernel))
set_option maxRecDepth 20000 in
theorem gX5_weigh_X4_weightOf : GoodIn wsX5_weigh (wsV RX5 72 RX4 yX4_weightOf wsX4_weightOf) := goodIn_app (goodIn_of _ (by decide +kernel)) ggX5_weigh_X4_weightOf
set_option maxRecDepth 20000 in
theorem ggX5_weigh_X2_grow : GoodIn wsX5_weigh wsX2_grow := goodIn_ca (goodIn_r _ [18, 19, 20, 21, 22, 17, 23, 24, 46, 47, 48, 49, 50] (by decide +kernel) (by decide +kernel)) (goodIn_sub (fun _ h => List.mem_cons_of_mem _ (List.mem_append_right _ h)) (by decide +kernel))
set_option maxRecDepth 20000 in
theorem gX5_weigh_X2_grow : GoodIn wsX5_weigh (wsV RX5 232 RX2 yX2_grow wsX2_grow) := goodIn_app (goodIn_of _ (by decide +kernel)) ggX5_weigh_X2_grow
set_option maxRecDepth 20000 in
theorem ggX5_weigh_X5_keep : GoodIn wsX5_weigh wsX5_keep := goodIn_ca (goodIn_r _ [29, 1, 30, 31, 32, 17, 33, 34, 20, 21, 22, 23, 24, 35, 36, 37, 38, 39, 46, 47, 48, 49, 50] (by decide +kernel) (by decide +kernel)) (goodIn_sub (fun _ h => List.mem_cons_of_mem _ (List.mem_append_right _ h)) (by decide +kernel))
set_option maxRecDepth 20000 in
theorem gX5_weigh_X5_keep : GoodIn wsX5_weigh (wsV RX5 229 RX5 yX5_keep wsX5_keep) := goodIn_app (goodIn_of _ (by decide +kernel)) ggX5_weigh_X5_keep
theorem dX5_weigh_0 : decode cX5_weigh 0 = .ok (.aload_n 0, 1) := by decide +kernel
theorem dX5_weigh_1 : decode cX5_weigh 1 = .ok (.getfield 19, 3) := by decide +kernel
theorem dX5_weigh_4 : decode cX5_weigh 4 = .ok (.iload_n 2, 1) := by decide +kernel
theorem dX5_weigh_5 : decode cX5_weigh 5 = .ok (.aload_n 0, 1) := by decide +kernel
theorem dX5_weigh_6 : decode cX5_weigh 6 = .ok (.getfield 10, 3) := by decide +kernel
theorem dX5_weigh_9 : decode cX5_weigh 9 = .ok (.iload_n 1, 1) := by decide +kernel
theorem dX5_weigh_10 : decode cX5_weigh 10 = .ok (.invokevirtual 72, 3) := by decide +kernel
theorem dX5_weigh_13 : decode cX5_weigh 13 = .ok (.i2l, 1) := by decide +kernel
theorem dX5_weigh_14 : decode cX5_weigh 14 = .ok (.invokevirtual 232, 3) := by decide +kernel
theorem dX5_weigh_17 : decode cX5_weigh 17 = .ok (.aload_n 0, 1) := by decide +kernel
theorem dX5_weigh_18 : decode cX5_weigh 18 = .ok (.iload_n 1, 1) := by decide +kernel
theorem dX5_weigh_19 : decode cX5_weigh 19 = .ok (.iload_n 2, 1) := by decide +kernel
theorem dX5_weigh_20 : decode cX5_weigh 20 = .ok (.invokevirtual 229, 3) := by decide +kernel
theorem dX5_weigh_23 : decode cX5_weigh 23 = .ok (.ireturn, 1) := by decide +kernel
set_option maxRecDepth 20000 in
theorem ggX5_addMembers_X4_sizeOf : GoodIn wsX5_addMembers wsX4_sizeOf := goodIn_ca (goodIn_r _ [6, 7, 8, 9, 10, 5, 11, 12, 59, 60, 61, 62, 63, 64] (by decide +kernel) (by decide +kernel)) (goodIn_sub (fun _ h => List.mem_cons_of_mem _ (List.mem_append_right _ h)) (by decide +kernel))
set_option maxRecDepth 20000 in
theorem gX5_addMembers_X4_sizeOf : GoodIn wsX5_addMembers (wsV RX5 75 RX4 yX4_sizeOf wsX4_sizeOf) := goodIn_app (goodIn_of _ (by decide +kernel)) ggX5_addMembers_X4_sizeOf
set_option maxRecDepth 20000 in
theorem ggX5_addMembers_X4_memberAt : GoodIn wsX5_addMembers wsX4_memberAt := goodIn_ca (goodIn_r _ [16, 17, 18, 19, 20, 5, 21, 12, 7, 59, 60, 61, 62, 63, 64] (by decide +kernel) (by decide +kernel)) (goodIn_sub (fun _ h => List.mem_cons_of_mem _ (List.mem_append_right _ h)) (by decide +kernel))
set_option maxRecDepth 20000 in
theorem gX5_addMembers_X4_memberAt : GoodIn wsX5_addMembers (wsV RX5 107 RX4 yX4_memberAt wsX4_memberAt) := goodIn_app (goodIn_of _ (by decide +kernel)) ggX5_addMembers_X4_memberAt
set_option maxRecDepth 20000 in
theorem ggX5_addMembers_X4_keyOf : GoodIn wsX5_addMembers wsX4_keyOf := goodIn_ca (goodIn_r _ [25, 26, 27, 28, 5, 29, 30, 8, 9, 10, 11, 12, 31, 32, 33, 34, 35, 59, 60, 61, 62, 63, 64] (by decide +kernel) (by decide +kernel)) (goodIn_sub (fun _ h => List.mem_cons_of_mem _ (List.mem_append_right _ h)) (by decide +kernel))
set_option maxRecDepth 20000 in
theorem gX5_addMembers_X4_keyOf : GoodIn wsX5_addMembers (wsV RX5 204 RX4 yX4_keyOf wsX4_keyOf) := goodIn_app (goodIn_of _ (by decide +kernel)) ggX5_addMembers_X4_keyOf
set_option maxRecDepth 20000 in
theorem ggX5_addMembers_X4_weightOf : GoodIn wsX5_addMembers wsX4_weightOf := goodIn_ca (goodIn_r _ [34, 35, 8, 9, 10, 5, 11, 12, 59, 60, 61, 62, 63, 64] (by decide +kernel) (by decide +kernel)) (goodIn_sub (fun _ h => List.mem_cons_of_mem _ (List.mem_append_right _ h)) (by decide +kernel))
set_option maxRecDepth 20000 in
theorem gX5_addMembers_X4_weightOf : GoodIn wsX5_addMembers (wsV RX5 72 RX4 yX4_weightOf wsX4_weightOf) := goodIn_app (goodIn_of _ (by decide +kernel)) ggX5_addMembers_X4_weightOf
set_option maxRecDepth 20000 in
theorem ggX5_addMembers_X5_grow : GoodIn wsX5_addMembers wsX5_grow := goodIn_ca (goodIn_r _ [41, 42, 43, 44, 45, 46, 47, 48, 49, 50, 51, 52, 53, 54, 55, 56, 57, 58, 65, 66, 67, 68, 69] (by decide +kernel) (by decide +kernel)) (goodIn_sub (fun _ h => List.mem_cons_of_mem _ (List.mem_append_right _ h)) (by decide +kernel))
set_option maxRecDepth 20000 in
theorem gX5_addMembers_X5_grow : GoodIn wsX5_addMembers (wsV RX5 207 RX5 yX5_grow wsX5_grow) := goodIn_app (goodIn_of _ (by decide +kernel)) ggX5_addMembers_X5_grow
theorem dX5_addMembers_0 : decode cX5_addMembers 0 = .ok (.lconst 0, 1) := by decide +kernel
theorem dX5_addMembers_1 : decode cX5_addMembers 1 = .ok (.lstore 4, 2) := by decide +kernel
theorem dX5_addMembers_3 : decode cX5_addMembers 3 = .ok (.iconst 0, 1) := by decide +kernel
theorem dX5_addMembers_4 : decode cX5_addMembers 4 = .ok (.istore 6, 2) := by decide +kernel
theorem dX5_addMembers_6 : decode cX5_addMembers 6 = .ok (.iload 6, 2) := by decide +kernel
theorem dX5_addMembers_8 : decode cX5_addMembers 8 = .ok (.aload_n 0, 1) := by decide +kernel
theorem dX5_addMembers_9 : decode cX5_addMembers 9 = .ok (.getfield 10, 3) := by decide +kernel
theorem dX5_addMembers_12 : decode cX5_addMembers 12 = .ok (.iload_n 1, 1) := by decide +kernel
theorem dX5_addMembers_13 : decode cX5_addMembers 13 = .ok (.invokevirtual 75, 3) := by decide +kernel
theorem dX5_addMembers_16 : decode cX5_addMembers 16 = .ok (.if_icmp .ge 64, 3) := by decide +kernel
theorem dX5_addMembers_19 : decode cX5_addMembers 19 = .ok (.aload_n 0, 1) := by decide +kernel
theorem dX5_addMembers_20 : decode cX5_addMembers 20 = .ok (.getfield 10, 3) := by decide +kernel
theorem dX5_addMembers_23 : decode cX5_addMembers 23 = .ok (.iload_n 1, 1) := by decide +kernel
theorem dX5_addMembers_24 : decode cX5_addMembers 24 = .ok (.iload 6, 2) := by decide +kernel
theorem dX5_addMembers_26 : decode cX5_addMembers 26 = .ok (.invokevirtual 107, 3) := by decide +kernel
theorem dX5_addMembers_29 : decode cX5_addMembers 29 = .ok (.istore 7, 2) := by decide +kernel
theorem dX5_addMembers_31 : decode cX5_addMembers 31 = .ok (.iload 7, 2) := by decide +kernel
theorem dX5_addMembers_33 : decode cX5_addMembers 33 = .ok (.bipush (-5), 2) := by decide +kernel
theorem dX5_addMembers_35 : decode cX5_addMembers 35 = .ok (.if_icmp .ne 5, 3) := by decide +kernel
theorem dX5_addMembers_38 : decode cX5_addMembers 38 = .ok (.iconst 2, 1) := by decide +kernel
theorem dX5_addMembers_39 : decode cX5_addMembers 39 = .ok (.ireturn, 1) := by decide +kernel
theorem dX5_addMembers_40 : decode cX5_addMembers 40 = .ok (.lload 4, 2) := by decide +kernel
theorem dX5_addMembers_42 : decode cX5_addMembers 42 = .ok (.iload_n 3, 1) := by decide +kernel
theorem dX5_addMembers_43 : decode cX5_addMembers 43 = .ok (.bipush 10, 2) := by decide +kernel
theorem dX5_addMembers_45 : decode cX5_addMembers 45 = .ok (.if_icmp .ne 16, 3) := by decide +kernel
theorem dX5_addMembers_48 : decode cX5_addMembers 48 = .ok (.aload_n 0, 1) := by decide +kernel
theorem dX5_addMembers_49 : decode cX5_addMembers 49 = .ok (.getfield 10, 3) := by decide +kernel
theorem dX5_addMembers_52 : decode cX5_addMembers 52 = .ok (.iload 7, 2) := by decide +kernel
theorem dX5_addMembers_54 : decode cX5_addMembers 54 = .ok (.invokevirtual 204, 3) := by decide +kernel
theorem dX5_addMembers_57 : decode cX5_addMembers 57 = .ok (.i2l, 1) := by decide +kernel
theorem dX5_addMembers_58 : decode cX5_addMembers 58 = .ok (.goto 13, 3) := by decide +kernel
theorem dX5_addMembers_61 : decode cX5_addMembers 61 = .ok (.aload_n 0, 1) := by decide +kernel
theorem dX5_addMembers_62 : decode cX5_addMembers 62 = .ok (.getfield 10, 3) := by decide +kernel
theorem dX5_addMembers_65 : decode cX5_addMembers 65 = .ok (.iload 7, 2) := by decide +kernel
theorem dX5_addMembers_67 : decode cX5_addMembers 67 = .ok (.invokevirtual 72, 3) := by decide +kernel
theorem dX5_addMembers_70 : decode cX5_addMembers 70 = .ok (.i2l, 1) := by decide +kernel
theorem dX5_addMembers_71 : decode cX5_addMembers 71 = .ok (.ladd, 1) := by decide +kernel
theorem dX5_addMembers_72 : decode cX5_addMembers 72 = .ok (.lstore 4, 2) := by decide +kernel
theorem dX5_addMembers_74 : decode cX5_addMembers 74 = .ok (.iinc 6 1, 3) := by decide +kernel
theorem dX5_addMembers_77 : decode cX5_addMembers 77 = .ok (.goto (-71), 3) := by decide +kernel
theorem dX5_addMembers_80 : decode cX5_addMembers 80 = .ok (.aload_n 0, 1) := by decide +kernel
theorem dX5_addMembers_81 : decode cX5_addMembers 81 = .ok (.iload_n 2, 1) := by decide +kernel
theorem dX5_addMembers_82 : decode cX5_addMembers 82 = .ok (.lload 4, 2) := by decide +kernel
theorem dX5_addMembers_84 : decode cX5_addMembers 84 = .ok (.invokevirtual 207, 3) := by decide +kernel
theorem dX5_addMembers_87 : decode cX5_addMembers 87 = .ok (.ireturn, 1) := by decide +kernel
set_option maxRecDepth 20000 in
theorem ggX5_pack_X2_slotOf : GoodIn wsX5_pack wsX2_slotOf := goodIn_ca (goodIn_r _ [6, 7, 8, 9, 10, 5, 11, 12, 59, 60, 61, 62, 63] (by decide +kernel) (by decide +kernel)) (goodIn_sub (fun _ h => List.mem_cons_of_mem _ (List.mem_append_right _ h)) (by decide +kernel))
set_option maxRecDepth 20000 in
theorem gX5_pack_X2_slotOf : GoodIn wsX5_pack (wsV RX5 149 RX2 yX2_slotOf wsX2_slotOf) := goodIn_app (goodIn_of _ (by decide +kernel)) ggX5_pack_X2_slotOf
set_option maxRecDepth 20000 in
theorem ggX5_pack_X5_layInto : GoodIn wsX5_pack wsX5_layInto := goodIn_ca (goodIn_r _ [17, 18, 19, 20, 21, 22, 23, 24, 25, 26, 27, 28, 29, 30, 16, 31, 32, 33, 34, 35, 36, 37, 38, 39, 40, 41, 42, 43, 44, 45, 46, 47, 48, 49, 54, 55, 56, 57, 58, 64, 65, 66, 67, 68, 69] (by decide +kernel) (by decide +kernel)) (goodIn_sub (fun _ h => List.mem_cons_of_mem _ (List.mem_append_right _ h)) (by decide +kernel))
set_option maxRecDepth 20000 in
theorem gX5_pack_X5_layInto : GoodIn wsX5_pack (wsV RX5 104 RX5 yX5_layInto wsX5_layInto) := goodIn_app (goodIn_of _ (by decide +kernel)) ggX5_pack_X5_layInto
set_option maxRecDepth 20000 in
theorem ggX5_pack_X2_setSlot : GoodIn wsX5_pack wsX2_setSlot := goodIn_ca (goodIn_r _ [53, 7, 8, 9, 10, 5, 11, 12, 59, 60, 61, 62, 63] (by decide +kernel) (by decide +kernel)) (goodIn_sub (fun _ h => List.mem_cons_of_mem _ (List.mem_append_right _ h)) (by decide +kernel))
set_option maxRecDepth 20000 in
theorem gX5_pack_X2_setSlot : GoodIn wsX5_pack (wsV RX5 235 RX2 yX2_setSlot wsX2_setSlot) := goodIn_app (goodIn_of _ (by decide +kernel)) ggX5_pack_X2_setSlot
theorem dX5_pack_0 : decode cX5_pack 0 = .ok (.aload_n 0, 1) := by decide +kernel
theorem dX5_pack_1 : decode cX5_pack 1 = .ok (.iload_n 1, 1) := by decide +kernel
theorem dX5_pack_2 : decode cX5_pack 2 = .ok (.iconst 0, 1) := by decide +kernel
theorem dX5_pack_3 : decode cX5_pack 3 = .ok (.aload_n 0, 1) := by decide +kernel
theorem dX5_pack_4 : decode cX5_pack 4 = .ok (.getfield 19, 3) := by decide +kernel
theorem dX5_pack_7 : decode cX5_pack 7 = .ok (.iload_n 2, 1) := by decide +kernel
theorem dX5_pack_8 : decode cX5_pack 8 = .ok (.invokevirtual 149, 3) := by decide +kernel
theorem dX5_pack_11 : decode cX5_pack 11 = .ok (.iconst 0, 1) := by decide +kernel
theorem dX5_pack_12 : decode cX5_pack 12 = .ok (.invokevirtual 104, 3) := by decide +kernel
theorem dX5_pack_15 : decode cX5_pack 15 = .ok (.istore_n 3, 1) := by decide +kernel
theorem dX5_pack_16 : decode cX5_pack 16 = .ok (.iload_n 3, 1) := by decide +kernel
theorem dX5_pack_17 : decode cX5_pack 17 = .ok (.ifCond .ne 13, 3) := by decide +kernel
theorem dX5_pack_20 : decode cX5_pack 20 = .ok (.aload_n 0, 1) := by decide +kernel
theorem dX5_pack_21 : decode cX5_pack 21 = .ok (.getfield 19, 3) := by decide +kernel
theorem dX5_pack_24 : decode cX5_pack 24 = .ok (.iload_n 2, 1) := by decide +kernel
theorem dX5_pack_25 : decode cX5_pack 25 = .ok (.bipush (-5), 2) := by decide +kernel
theorem dX5_pack_27 : decode cX5_pack 27 = .ok (.invokevirtual 235, 3) := by decide +kernel
theorem dX5_pack_30 : decode cX5_pack 30 = .ok (.iload_n 3, 1) := by decide +kernel
theorem dX5_pack_31 : decode cX5_pack 31 = .ok (.ireturn, 1) := by decide +kernel
set_option maxRecDepth 20000 in
theorem ggX5_addCorner_X5_findingAtFirst : GoodIn wsX5_addCorner wsX5_findingAtFirst := goodIn_ca (goodIn_r _ [6, 1, 7, 8, 9, 10, 11, 12, 13, 14, 15, 16, 17, 18, 19, 45, 46, 47, 48, 49, 50, 51, 52, 53, 54, 55] (by decide +kernel) (by decide +kernel)) (goodIn_sub (fun _ h => List.mem_cons_of_mem _ (List.mem_append_right _ h)) (by decide +kernel))
set_option maxRecDepth 20000 in
theorem gX5_addCorner_X5_findingAtFirst : GoodIn wsX5_addCorner (wsV RX5 239 RX5 yX5_findingAtFirst wsX5_findingAtFirst) := goodIn_app (goodIn_of _ (by decide +kernel)) ggX5_addCorner_X5_findingAtFirst
set_option maxRecDepth 20000 in
theorem ggX5_addCorner_X4_memberAt : GoodIn wsX5_addCorner wsX4_memberAt := goodIn_ca (goodIn_r _ [17, 18, 19, 8, 9, 10, 11, 12, 13, 50, 51, 52, 53, 54, 55] (by decide +kernel) (by decide +kernel)) (goodIn_sub (fun _ h => List.mem_cons_of_mem _ (List.mem_append_right _ h)) (by decide +kernel))
set_option maxRecDepth 20000 in
theorem gX5_addCorner_X4_memberAt : GoodIn wsX5_addCorner (wsV RX5 107 RX4 yX4_memberAt wsX4_memberAt) := goodIn_app (goodIn_of _ (by decide +kernel)) ggX5_addCorner_X4_memberAt
set_option maxRecDepth 20000 in
theorem ggX5_addCorner_X4_weightOf : GoodIn wsX5_addCorner wsX4_weightOf := goodIn_ca (goodIn_r _ [23, 24, 25, 26, 27, 10, 28, 12, 50, 51, 52, 53, 54, 55] (by decide +kernel) (by decide +kernel)) (goodIn_sub (fun _ h => List.mem_cons_of_mem _ (List.mem_append_right _ h)) (by decide +kernel))
set_option maxRecDepth 20000 in
theorem gX5_addCorner_X4_weightOf : GoodIn wsX5_addCorner (wsV RX5 72 RX4 yX4_weightOf wsX4_weightOf) := goodIn_app (goodIn_of _ (by decide +kernel)) ggX5_addCorner_X4_weightOf
set_option maxRecDepth 20000 in
theorem ggX5_addCorner_X5_grow : GoodIn wsX5_addCorner wsX5_grow := goodIn_ca (goodIn_r _ [32, 33, 34, 35, 36, 37, 38, 39, 40, 41, 42, 43, 44, 45, 46, 47, 48, 49, 56, 57, 58, 59, 60] (by decide +kernel) (by decide +kernel)) (goodIn_sub (fun _ h => List.mem_cons_of_mem _ (List.mem_append_right _ h)) (by decide +kernel))
set_option maxRecDepth 20000 in
theorem gX5_addCorner_X5_grow : GoodIn wsX5_addCorner (wsV RX5 207 RX5 yX5_grow wsX5_grow) := goodIn_app (goodIn_of _ (by decide +kernel)) ggX5_addCorner_X5_grow
theorem dX5_addCorner_0 : decode cX5_addCorner 0 = .ok (.iload_n 1, 1) := by decide +kernel
theorem dX5_addCorner_1 : decode cX5_addCorner 1 = .ok (.istore 4, 2) := by decide +kernel
theorem dX5_addCorner_3 : decode cX5_addCorner 3 = .ok (.iconst 0, 1) := by decide +kernel
theorem dX5_addCorner_4 : decode cX5_addCorner 4 = .ok (.istore 5, 2) := by decide +kernel
theorem dX5_addCorner_6 : decode cX5_addCorner 6 = .ok (.iload 5, 2) := by decide +kernel
theorem dX5_addCorner_8 : decode cX5_addCorner 8 = .ok (.iload_n 3, 1) := by decide +kernel
theorem dX5_addCorner_9 : decode cX5_addCorner 9 = .ok (.if_icmp .ge 37, 3) := by decide +kernel
theorem dX5_addCorner_12 : decode cX5_addCorner 12 = .ok (.aload_n 0, 1) := by decide +kernel
theorem dX5_addCorner_13 : decode cX5_addCorner 13 = .ok (.iload 4, 2) := by decide +kernel
theorem dX5_addCorner_15 : decode cX5_addCorner 15 = .ok (.invokevirtual 239, 3) := by decide +kernel
theorem dX5_addCorner_18 : decode cX5_addCorner 18 = .ok (.istore 6, 2) := by decide +kernel
theorem dX5_addCorner_20 : decode cX5_addCorner 20 = .ok (.iload 6, 2) := by decide +kernel
theorem dX5_addCorner_22 : decode cX5_addCorner 22 = .ok (.ifCond .eq 6, 3) := by decide +kernel
theorem dX5_addCorner_25 : decode cX5_addCorner 25 = .ok (.iload 6, 2) := by decide +kernel
theorem dX5_addCorner_27 : decode cX5_addCorner 27 = .ok (.ireturn, 1) := by decide +kernel
theorem dX5_addCorner_28 : decode cX5_addCorner 28 = .ok (.aload_n 0, 1) := by decide +kernel
theorem dX5_addCorner_29 : decode cX5_addCorner 29 = .ok (.getfield 10, 3) := by decide +kernel
theorem dX5_addCorner_32 : decode cX5_addCorner 32 = .ok (.iload 4, 2) := by decide +kernel
theorem dX5_addCorner_34 : decode cX5_addCorner 34 = .ok (.iconst 0, 1) := by decide +kernel
theorem dX5_addCorner_35 : decode cX5_addCorner 35 = .ok (.invokevirtual 107, 3) := by decide +kernel
theorem dX5_addCorner_38 : decode cX5_addCorner 38 = .ok (.istore 4, 2) := by decide +kernel
theorem dX5_addCorner_40 : decode cX5_addCorner 40 = .ok (.iinc 5 1, 3) := by decide +kernel
theorem dX5_addCorner_43 : decode cX5_addCorner 43 = .ok (.goto (-37), 3) := by decide +kernel
theorem dX5_addCorner_46 : decode cX5_addCorner 46 = .ok (.aload_n 0, 1) := by decide +kernel
theorem dX5_addCorner_47 : decode cX5_addCorner 47 = .ok (.iload_n 2, 1) := by decide +kernel
theorem dX5_addCorner_48 : decode cX5_addCorner 48 = .ok (.aload_n 0, 1) := by decide +kernel
theorem dX5_addCorner_49 : decode cX5_addCorner 49 = .ok (.getfield 10, 3) := by decide +kernel
theorem dX5_addCorner_52 : decode cX5_addCorner 52 = .ok (.iload 4, 2) := by decide +kernel
theorem dX5_addCorner_54 : decode cX5_addCorner 54 = .ok (.invokevirtual 72, 3) := by decide +kernel
theorem dX5_addCorner_57 : decode cX5_addCorner 57 = .ok (.i2l, 1) := by decide +kernel
theorem dX5_addCorner_58 : decode cX5_addCorner 58 = .ok (.invokevirtual 207, 3) := by decide +kernel
theorem dX5_addCorner_61 : decode cX5_addCorner 61 = .ok (.ireturn, 1) := by decide +kernel
set_option maxRecDepth 20000 in
theorem ggX5_addCell_X5_findingAtFirst : GoodIn wsX5_addCell wsX5_findingAtFirst := goodIn_ca (goodIn_r _ [6, 1, 7, 8, 9, 10, 11, 12, 13, 14, 15, 16, 17, 18, 19, 41, 42, 43, 44, 45, 46, 47, 48, 49, 50, 51] (by decide +kernel) (by decide +kernel)) (goodIn_sub (fun _ h => List.mem_cons_of_mem _ (List.mem_append_right _ h)) (by decide +kernel))
set_option maxRecDepth 20000 in
theorem gX5_addCell_X5_findingAtFirst : GoodIn wsX5_addCell (wsV RX5 239 RX5 yX5_findingAtFirst wsX5_findingAtFirst) := goodIn_app (goodIn_of _ (by decide +kernel)) ggX5_addCell_X5_findingAtFirst
set_option maxRecDepth 20000 in
theorem ggX5_addCell_X4_memberAt : GoodIn wsX5_addCell wsX4_memberAt := goodIn_ca (goodIn_r _ [17, 18, 19, 8, 9, 10, 11, 12, 13, 46, 47, 48, 49, 50, 51] (by decide +kernel) (by decide +kernel)) (goodIn_sub (fun _ h => List.mem_cons_of_mem _ (List.mem_append_right _ h)) (by decide +kernel))
set_option maxRecDepth 20000 in
theorem gX5_addCell_X4_memberAt : GoodIn wsX5_addCell (wsV RX5 107 RX4 yX4_memberAt wsX4_memberAt) := goodIn_app (goodIn_of _ (by decide +kernel)) ggX5_addCell_X4_memberAt
set_option maxRecDepth 20000 in
theorem ggX5_addCell_X4_hasPlace : GoodIn wsX5_addCell wsX4_hasPlace := goodIn_ca (goodIn_r _ [11, 12, 13, 46, 47, 48, 49, 50, 51] (by decide +kernel) (by decide +kernel)) (goodIn_sub (fun _ h => List.mem_cons_of_mem _ (List.mem_append_right _ h)) (by decide +kernel))
set_option maxRecDepth 20000 in
theorem gX5_addCell_X4_hasPlace : GoodIn wsX5_addCell (wsV RX5 186 RX4 yX4_hasPlace wsX4_hasPlace) := goodIn_app (goodIn_of _ (by decide +kernel)) ggX5_addCell_X4_hasPlace
set_option maxRecDepth 20000 in
theorem ggX5_addCell_X4_numberAt : GoodIn wsX5_addCell wsX4_numberAt := goodIn_ca (goodIn_r _ [23, 24, 19, 8, 9, 10, 11, 12, 13, 46, 47, 48, 49, 50, 51] (by decide +kernel) (by decide +kernel)) (goodIn_sub (fun _ h => List.mem_cons_of_mem _ (List.mem_append_right _ h)) (by decide +kernel))
set_option maxRecDepth 20000 in
theorem gX5_addCell_X4_numberAt : GoodIn wsX5_addCell (wsV RX5 97 RX4 yX4_numberAt wsX4_numberAt) := goodIn_app (goodIn_of _ (by decide +kernel)) ggX5_addCell_X4_numberAt
set_option maxRecDepth 20000 in
theorem ggX5_addCell_X5_grow : GoodIn wsX5_addCell wsX5_grow := goodIn_ca (goodIn_r _ [28, 29, 30, 31, 32, 33, 34, 35, 36, 37, 38, 39, 40, 41, 42, 43, 44, 45, 52, 53, 54, 55, 56] (by decide +kernel) (by decide +kernel)) (goodIn_sub (fun _ h => List.mem_cons_of_mem _ (List.mem_append_right _ h)) (by decide +kernel))
set_option maxRecDepth 20000 in
theorem gX5_addCell_X5_grow : GoodIn wsX5_addCell (wsV RX5 207 RX5 yX5_grow wsX5_grow) := goodIn_app (goodIn_of _ (by decide +kernel)) ggX5_addCell_X5_grow
theorem dX5_addCell_0 : decode cX5_addCell 0 = .ok (.aload_n 0, 1) := by decide +kernel
theorem dX5_addCell_1 : decode cX5_addCell 1 = .ok (.iload_n 1, 1) := by decide +kernel
theorem dX5_addCell_2 : decode cX5_addCell 2 = .ok (.invokevirtual 239, 3) := by decide +kernel
theorem dX5_addCell_5 : decode cX5_addCell 5 = .ok (.istore_n 3, 1) := by decide +kernel
theorem dX5_addCell_6 : decode cX5_addCell 6 = .ok (.iload_n 3, 1) := by decide +kernel
theorem dX5_addCell_7 : decode cX5_addCell 7 = .ok (.ifCond .eq 5, 3) := by decide +kernel
theorem dX5_addCell_10 : decode cX5_addCell 10 = .ok (.iload_n 3, 1) := by decide +kernel
theorem dX5_addCell_11 : decode cX5_addCell 11 = .ok (.ireturn, 1) := by decide +kernel
theorem dX5_addCell_12 : decode cX5_addCell 12 = .ok (.aload_n 0, 1) := by decide +kernel
theorem dX5_addCell_13 : decode cX5_addCell 13 = .ok (.getfield 10, 3) := by decide +kernel
theorem dX5_addCell_16 : decode cX5_addCell 16 = .ok (.iload_n 1, 1) := by decide +kernel
theorem dX5_addCell_17 : decode cX5_addCell 17 = .ok (.iconst 0, 1) := by decide +kernel
theorem dX5_addCell_18 : decode cX5_addCell 18 = .ok (.invokevirtual 107, 3) := by decide +kernel
theorem dX5_addCell_21 : decode cX5_addCell 21 = .ok (.istore 4, 2) := by decide +kernel
theorem dX5_addCell_23 : decode cX5_addCell 23 = .ok (.aload_n 0, 1) := by decide +kernel
theorem dX5_addCell_24 : decode cX5_addCell 24 = .ok (.getfield 10, 3) := by decide +kernel
theorem dX5_addCell_27 : decode cX5_addCell 27 = .ok (.iload 4, 2) := by decide +kernel
theorem dX5_addCell_29 : decode cX5_addCell 29 = .ok (.iconst 0, 1) := by decide +kernel
theorem dX5_addCell_30 : decode cX5_addCell 30 = .ok (.invokevirtual 186, 3) := by decide +kernel
theorem dX5_addCell_33 : decode cX5_addCell 33 = .ok (.ifCond .eq 21, 3) := by decide +kernel
theorem dX5_addCell_36 : decode cX5_addCell 36 = .ok (.aload_n 0, 1) := by decide +kernel
theorem dX5_addCell_37 : decode cX5_addCell 37 = .ok (.iload_n 2, 1) := by decide +kernel
theorem dX5_addCell_38 : decode cX5_addCell 38 = .ok (.aload_n 0, 1) := by decide +kernel
theorem dX5_addCell_39 : decode cX5_addCell 39 = .ok (.getfield 10, 3) := by decide +kernel
theorem dX5_addCell_42 : decode cX5_addCell 42 = .ok (.iload 4, 2) := by decide +kernel
theorem dX5_addCell_44 : decode cX5_addCell 44 = .ok (.iconst 0, 1) := by decide +kernel
theorem dX5_addCell_45 : decode cX5_addCell 45 = .ok (.invokevirtual 97, 3) := by decide +kernel
theorem dX5_addCell_48 : decode cX5_addCell 48 = .ok (.invokevirtual 207, 3) := by decide +kernel
theorem dX5_addCell_51 : decode cX5_addCell 51 = .ok (.goto 4, 3) := by decide +kernel
theorem dX5_addCell_54 : decode cX5_addCell 54 = .ok (.iconst 3, 1) := by decide +kernel
theorem dX5_addCell_55 : decode cX5_addCell 55 = .ok (.ireturn, 1) := by decide +kernel
set_option maxRecDepth 20000 in
theorem ggX5_findingAtFirst_X4_hasPlace : GoodIn wsX5_findingAtFirst wsX4_hasPlace := goodIn_ca (goodIn_r _ [6, 7, 8, 20, 21, 22, 23, 24, 25] (by decide +kernel) (by decide +kernel)) (goodIn_sub (fun _ h => List.mem_cons_of_mem _ (List.mem_append_right _ h)) (by decide +kernel))
set_option maxRecDepth 20000 in
theorem gX5_findingAtFirst_X4_hasPlace : GoodIn wsX5_findingAtFirst (wsV RX5 186 RX4 yX4_hasPlace wsX4_hasPlace) := goodIn_app (goodIn_of _ (by decide +kernel)) ggX5_findingAtFirst_X4_hasPlace
set_option maxRecDepth 20000 in
theorem ggX5_findingAtFirst_X4_memberAt : GoodIn wsX5_findingAtFirst wsX4_memberAt := goodIn_ca (goodIn_r _ [12, 13, 14, 3, 4, 5, 6, 7, 8, 20, 21, 22, 23, 24, 25] (by decide +kernel) (by decide +kernel)) (goodIn_sub (fun _ h => List.mem_cons_of_mem _ (List.mem_append_right _ h)) (by decide +kernel))
set_option maxRecDepth 20000 in
theorem gX5_findingAtFirst_X4_memberAt : GoodIn wsX5_findingAtFirst (wsV RX5 107 RX4 yX4_memberAt wsX4_memberAt) := goodIn_app (goodIn_of _ (by decide +kernel)) ggX5_findingAtFirst_X4_memberAt
theorem dX5_findingAtFirst_0 : decode cX5_findingAtFirst 0 = .ok (.aload_n 0, 1) := by decide +kernel
theorem dX5_findingAtFirst_1 : decode cX5_findingAtFirst 1 = .ok (.getfield 10, 3) := by decide +kernel
theorem dX5_findingAtFirst_4 : decode cX5_findingAtFirst 4 = .ok (.iload_n 1, 1) := by decide +kernel
theorem dX5_findingAtFirst_5 : decode cX5_findingAtFirst 5 = .ok (.iconst 0, 1) := by decide +kernel
theorem dX5_findingAtFirst_6 : decode cX5_findingAtFirst 6 = .ok (.invokevirtual 186, 3) := by decide +kernel
theorem dX5_findingAtFirst_9 : decode cX5_findingAtFirst 9 = .ok (.ifCond .ne 5, 3) := by decide +kernel
theorem dX5_findingAtFirst_12 : decode cX5_findingAtFirst 12 = .ok (.iconst 3, 1) := by decide +kernel
theorem dX5_findingAtFirst_13 : decode cX5_findingAtFirst 13 = .ok (.ireturn, 1) := by decide +kernel
theorem dX5_findingAtFirst_14 : decode cX5_findingAtFirst 14 = .ok (.aload_n 0, 1) := by decide +kernel
theorem dX5_findingAtFirst_15 : decode cX5_findingAtFirst 15 = .ok (.getfield 10, 3) := by decide +kernel
theorem dX5_findingAtFirst_18 : decode cX5_findingAtFirst 18 = .ok (.iload_n 1, 1) := by decide +kernel
theorem dX5_findingAtFirst_19 : decode cX5_findingAtFirst 19 = .ok (.iconst 0, 1) := by decide +kernel
theorem dX5_findingAtFirst_20 : decode cX5_findingAtFirst 20 = .ok (.invokevirtual 107, 3) := by decide +kernel
theorem dX5_findingAtFirst_23 : decode cX5_findingAtFirst 23 = .ok (.bipush (-5), 2) := by decide +kernel
theorem dX5_findingAtFirst_25 : decode cX5_findingAtFirst 25 = .ok (.if_icmp .ne 7, 3) := by decide +kernel
theorem dX5_findingAtFirst_28 : decode cX5_findingAtFirst 28 = .ok (.iconst 2, 1) := by decide +kernel
theorem dX5_findingAtFirst_29 : decode cX5_findingAtFirst 29 = .ok (.goto 4, 3) := by decide +kernel
theorem dX5_findingAtFirst_32 : decode cX5_findingAtFirst 32 = .ok (.iconst 0, 1) := by decide +kernel
theorem dX5_findingAtFirst_33 : decode cX5_findingAtFirst 33 = .ok (.ireturn, 1) := by decide +kernel
set_option maxRecDepth 20000 in
theorem ggX5_spill_X4_sizeOf : GoodIn wsX5_spill wsX4_sizeOf := goodIn_ca (goodIn_r _ [7, 8, 9, 10, 11, 6, 12, 13, 40, 41, 42, 43, 44, 45] (by decide +kernel) (by decide +kernel)) (goodIn_sub (fun _ h => List.mem_cons_of_mem _ (List.mem_append_right _ h)) (by decide +kernel))
set_option maxRecDepth 20000 in
theorem gX5_spill_X4_sizeOf : GoodIn wsX5_spill (wsV RX5 75 RX4 yX4_sizeOf wsX4_sizeOf) := goodIn_app (goodIn_of _ (by decide +kernel)) ggX5_spill_X4_sizeOf
set_option maxRecDepth 20000 in
theorem ggX5_spill_X4_memberAt : GoodIn wsX5_spill wsX4_memberAt := goodIn_ca (goodIn_r _ [17, 18, 19, 20, 21, 6, 22, 13, 8, 40, 41, 42, 43, 44, 45] (by decide +kernel) (by decide +kernel)) (goodIn_sub (fun _ h => List.mem_cons_of_mem _ (List.mem_append_right _ h)) (by decide +kernel))
set_option maxRecDepth 20000 in
theorem gX5_spill_X4_memberAt : GoodIn wsX5_spill (wsV RX5 107 RX4 yX4_memberAt wsX4_memberAt) := goodIn_app (goodIn_of _ (by decide +kernel)) ggX5_spill_X4_memberAt
set_option maxRecDepth 20000 in
theorem ggX5_spill_X0_append : GoodIn wsX5_spill wsX0_append := goodIn_ca (goodIn_r _ [27, 28, 29, 30, 46, 47, 48] (by decide +kernel) (by decide +kernel)) (goodIn_sub (fun _ h => List.mem_cons_of_mem _ (List.mem_append_right _ h)) (by decide +kernel))
set_option maxRecDepth 20000 in
theorem gX5_spill_X0_append : GoodIn wsX5_spill (wsV RX5 113 RX0 yX0_append wsX0_append) := goodIn_app (goodIn_of _ (by decide +kernel)) ggX5_spill_X0_append
set_option maxRecDepth 20000 in
theorem ggX5_spill_X4_setMember : GoodIn wsX5_spill wsX4_setMember := goodIn_ca (goodIn_r _ [34, 18, 19, 20, 21, 6, 22, 13, 8, 40, 41, 42, 43, 44, 45] (by decide +kernel) (by decide +kernel)) (goodIn_sub (fun _ h => List.mem_cons_of_mem _ (List.mem_append_right _ h)) (by decide +kernel))
set_option maxRecDepth 20000 in
theorem gX5_spill_X4_setMember : GoodIn wsX5_spill (wsV RX5 189 RX4 yX4_setMember wsX4_setMember) := goodIn_app (goodIn_of _ (by decide +kernel)) ggX5_spill_X4_setMember
theorem dX5_spill_0 : decode cX5_spill 0 = .ok (.iconst 0, 1) := by decide +kernel
theorem dX5_spill_1 : decode cX5_spill 1 = .ok (.istore_n 2, 1) := by decide +kernel
theorem dX5_spill_2 : decode cX5_spill 2 = .ok (.iload_n 2, 1) := by decide +kernel
theorem dX5_spill_3 : decode cX5_spill 3 = .ok (.aload_n 0, 1) := by decide +kernel
theorem dX5_spill_4 : decode cX5_spill 4 = .ok (.getfield 10, 3) := by decide +kernel
theorem dX5_spill_7 : decode cX5_spill 7 = .ok (.iload_n 1, 1) := by decide +kernel
theorem dX5_spill_8 : decode cX5_spill 8 = .ok (.invokevirtual 75, 3) := by decide +kernel
theorem dX5_spill_11 : decode cX5_spill 11 = .ok (.if_icmp .ge 47, 3) := by decide +kernel
theorem dX5_spill_14 : decode cX5_spill 14 = .ok (.aload_n 0, 1) := by decide +kernel
theorem dX5_spill_15 : decode cX5_spill 15 = .ok (.getfield 10, 3) := by decide +kernel
theorem dX5_spill_18 : decode cX5_spill 18 = .ok (.iload_n 1, 1) := by decide +kernel
theorem dX5_spill_19 : decode cX5_spill 19 = .ok (.iload_n 2, 1) := by decide +kernel
theorem dX5_spill_20 : decode cX5_spill 20 = .ok (.invokevirtual 107, 3) := by decide +kernel
theorem dX5_spill_23 : decode cX5_spill 23 = .ok (.istore_n 3, 1) := by decide +kernel
theorem dX5_spill_24 : decode cX5_spill 24 = .ok (.iload_n 3, 1) := by decide +kernel
theorem dX5_spill_25 : decode cX5_spill 25 = .ok (.bipush (-5), 2) := by decide +kernel
theorem dX5_spill_27 : decode cX5_spill 27 = .ok (.if_icmp .eq 25, 3) := by decide +kernel
theorem dX5_spill_30 : decode cX5_spill 30 = .ok (.aload_n 0, 1) := by decide +kernel
theorem dX5_spill_31 : decode cX5_spill 31 = .ok (.getfield 26, 3) := by decide +kernel
theorem dX5_spill_34 : decode cX5_spill 34 = .ok (.iload_n 3, 1) := by decide +kernel
theorem dX5_spill_35 : decode cX5_spill 35 = .ok (.invokevirtual 113, 3) := by decide +kernel
theorem dX5_spill_38 : decode cX5_spill 38 = .ok (.ifCond .eq 14, 3) := by decide +kernel
theorem dX5_spill_41 : decode cX5_spill 41 = .ok (.aload_n 0, 1) := by decide +kernel
theorem dX5_spill_42 : decode cX5_spill 42 = .ok (.getfield 10, 3) := by decide +kernel
theorem dX5_spill_45 : decode cX5_spill 45 = .ok (.iload_n 1, 1) := by decide +kernel
theorem dX5_spill_46 : decode cX5_spill 46 = .ok (.iload_n 2, 1) := by decide +kernel
theorem dX5_spill_47 : decode cX5_spill 47 = .ok (.bipush (-5), 2) := by decide +kernel
theorem dX5_spill_49 : decode cX5_spill 49 = .ok (.invokevirtual 189, 3) := by decide +kernel
theorem dX5_spill_52 : decode cX5_spill 52 = .ok (.iinc 2 1, 3) := by decide +kernel
theorem dX5_spill_55 : decode cX5_spill 55 = .ok (.goto (-53), 3) := by decide +kernel
theorem dX5_spill_58 : decode cX5_spill 58 = .ok (.iconst 0, 1) := by decide +kernel
theorem dX5_spill_59 : decode cX5_spill 59 = .ok (.ireturn, 1) := by decide +kernel
theorem dX5_alsoIs_0 : decode cX5_alsoIs 0 = .ok (.iload_n 0, 1) := by decide +kernel
theorem dX5_alsoIs_1 : decode cX5_alsoIs 1 = .ok (.tableswitch 170 1 13 #[67, 79, 102, 170, 170, 170, 170, 170, 116, 130, 170, 170, 156], 67) := by decide +kernel
theorem dX5_alsoIs_68 : decode cX5_alsoIs 68 = .ok (.iload_n 1, 1) := by decide +kernel
theorem dX5_alsoIs_69 : decode cX5_alsoIs 69 = .ok (.ifCond .ne 7, 3) := by decide +kernel
theorem dX5_alsoIs_72 : decode cX5_alsoIs 72 = .ok (.iconst 1, 1) := by decide +kernel
theorem dX5_alsoIs_73 : decode cX5_alsoIs 73 = .ok (.goto 99, 3) := by decide +kernel
theorem dX5_alsoIs_76 : decode cX5_alsoIs 76 = .ok (.iconst 0, 1) := by decide +kernel
theorem dX5_alsoIs_77 : decode cX5_alsoIs 77 = .ok (.goto 95, 3) := by decide +kernel
theorem dX5_alsoIs_80 : decode cX5_alsoIs 80 = .ok (.iload_n 1, 1) := by decide +kernel
theorem dX5_alsoIs_81 : decode cX5_alsoIs 81 = .ok (.ifCond .eq 14, 3) := by decide +kernel
theorem dX5_alsoIs_84 : decode cX5_alsoIs 84 = .ok (.iload_n 1, 1) := by decide +kernel
theorem dX5_alsoIs_85 : decode cX5_alsoIs 85 = .ok (.iconst 1, 1) := by decide +kernel
theorem dX5_alsoIs_86 : decode cX5_alsoIs 86 = .ok (.if_icmp .eq 9, 3) := by decide +kernel
theorem dX5_alsoIs_89 : decode cX5_alsoIs 89 = .ok (.iload_n 1, 1) := by decide +kernel
theorem dX5_alsoIs_90 : decode cX5_alsoIs 90 = .ok (.bipush 16, 2) := by decide +kernel
theorem dX5_alsoIs_92 : decode cX5_alsoIs 92 = .ok (.if_icmp .ne 7, 3) := by decide +kernel
theorem dX5_alsoIs_95 : decode cX5_alsoIs 95 = .ok (.iconst 1, 1) := by decide +kernel
theorem dX5_alsoIs_96 : decode cX5_alsoIs 96 = .ok (.goto 76, 3) := by decide +kernel
theorem dX5_alsoIs_99 : decode cX5_alsoIs 99 = .ok (.iconst 0, 1) := by decide +kernel
theorem dX5_alsoIs_100 : decode cX5_alsoIs 100 = .ok (.goto 72, 3) := by decide +kernel
theorem dX5_alsoIs_103 : decode cX5_alsoIs 103 = .ok (.iload_n 1, 1) := by decide +kernel
theorem dX5_alsoIs_104 : decode cX5_alsoIs 104 = .ok (.bipush 16, 2) := by decide +kernel
theorem dX5_alsoIs_106 : decode cX5_alsoIs 106 = .ok (.if_icmp .ne 7, 3) := by decide +kernel
theorem dX5_alsoIs_109 : decode cX5_alsoIs 109 = .ok (.iconst 1, 1) := by decide +kernel
theorem dX5_alsoIs_110 : decode cX5_alsoIs 110 = .ok (.goto 62, 3) := by decide +kernel
theorem dX5_alsoIs_113 : decode cX5_alsoIs 113 = .ok (.iconst 0, 1) := by decide +kernel
theorem dX5_alsoIs_114 : decode cX5_alsoIs 114 = .ok (.goto 58, 3) := by decide +kernel
theorem dX5_alsoIs_117 : decode cX5_alsoIs 117 = .ok (.iload_n 1, 1) := by decide +kernel
theorem dX5_alsoIs_118 : decode cX5_alsoIs 118 = .ok (.bipush 8, 2) := by decide +kernel
theorem dX5_alsoIs_120 : decode cX5_alsoIs 120 = .ok (.if_icmp .ne 7, 3) := by decide +kernel
theorem dX5_alsoIs_123 : decode cX5_alsoIs 123 = .ok (.iconst 1, 1) := by decide +kernel
theorem dX5_alsoIs_124 : decode cX5_alsoIs 124 = .ok (.goto 48, 3) := by decide +kernel
theorem dX5_alsoIs_127 : decode cX5_alsoIs 127 = .ok (.iconst 0, 1) := by decide +kernel
theorem dX5_alsoIs_128 : decode cX5_alsoIs 128 = .ok (.goto 44, 3) := by decide +kernel
theorem dX5_alsoIs_131 : decode cX5_alsoIs 131 = .ok (.iload_n 1, 1) := by decide +kernel
theorem dX5_alsoIs_132 : decode cX5_alsoIs 132 = .ok (.bipush 8, 2) := by decide +kernel
theorem dX5_alsoIs_134 : decode cX5_alsoIs 134 = .ok (.if_icmp .eq 15, 3) := by decide +kernel
theorem dX5_alsoIs_137 : decode cX5_alsoIs 137 = .ok (.iload_n 1, 1) := by decide +kernel
theorem dX5_alsoIs_138 : decode cX5_alsoIs 138 = .ok (.bipush 9, 2) := by decide +kernel
theorem dX5_alsoIs_140 : decode cX5_alsoIs 140 = .ok (.if_icmp .eq 9, 3) := by decide +kernel
theorem dX5_alsoIs_143 : decode cX5_alsoIs 143 = .ok (.iload_n 1, 1) := by decide +kernel
theorem dX5_alsoIs_144 : decode cX5_alsoIs 144 = .ok (.bipush 11, 2) := by decide +kernel
theorem dX5_alsoIs_146 : decode cX5_alsoIs 146 = .ok (.if_icmp .ne 7, 3) := by decide +kernel
theorem dX5_alsoIs_149 : decode cX5_alsoIs 149 = .ok (.iconst 1, 1) := by decide +kernel
theorem dX5_alsoIs_150 : decode cX5_alsoIs 150 = .ok (.goto 22, 3) := by decide +kernel
theorem dX5_alsoIs_153 : decode cX5_alsoIs 153 = .ok (.iconst 0, 1) := by decide +kernel
theorem dX5_alsoIs_154 : decode cX5_alsoIs 154 = .ok (.goto 18, 3) := by decide +kernel
theorem dX5_alsoIs_157 : decode cX5_alsoIs 157 = .ok (.iload_n 1, 1) := by decide +kernel
theorem dX5_alsoIs_158 : decode cX5_alsoIs 158 = .ok (.bipush 12, 2) := by decide +kernel
theorem dX5_alsoIs_160 : decode cX5_alsoIs 160 = .ok (.if_icmp .ne 7, 3) := by decide +kernel
theorem dX5_alsoIs_163 : decode cX5_alsoIs 163 = .ok (.iconst 1, 1) := by decide +kernel
theorem dX5_alsoIs_164 : decode cX5_alsoIs 164 = .ok (.goto 8, 3) := by decide +kernel
theorem dX5_alsoIs_167 : decode cX5_alsoIs 167 = .ok (.iconst 0, 1) := by decide +kernel
theorem dX5_alsoIs_168 : decode cX5_alsoIs 168 = .ok (.goto 4, 3) := by decide +kernel
theorem dX5_alsoIs_171 : decode cX5_alsoIs 171 = .ok (.iconst 0, 1) := by decide +kernel
theorem dX5_alsoIs_172 : decode cX5_alsoIs 172 = .ok (.ireturn, 1) := by decide +kernel
theorem dX5_memberKind_0 : decode cX5_memberKind 0 = .ok (.iload_n 0, 1) := by decide +kernel
theorem dX5_memberKind_1 : decode cX5_memberKind 1 = .ok (.tableswitch 92 7 15 #[51, 55, 59, 63, 67, 72, 77, 82, 87], 51) := by decide +kernel
theorem dX5_memberKind_52 : decode cX5_memberKind 52 = .ok (.iconst 5, 1) := by decide +kernel
theorem dX5_memberKind_53 : decode cX5_memberKind 53 = .ok (.goto 42, 3) := by decide +kernel
theorem dX5_memberKind_56 : decode cX5_memberKind 56 = .ok (.iconst 0, 1) := by decide +kernel
theorem dX5_memberKind_57 : decode cX5_memberKind 57 = .ok (.goto 38, 3) := by decide +kernel
theorem dX5_memberKind_60 : decode cX5_memberKind 60 = .ok (.iconst 1, 1) := by decide +kernel
theorem dX5_memberKind_61 : decode cX5_memberKind 61 = .ok (.goto 34, 3) := by decide +kernel
theorem dX5_memberKind_64 : decode cX5_memberKind 64 = .ok (.iconst 2, 1) := by decide +kernel
theorem dX5_memberKind_65 : decode cX5_memberKind 65 = .ok (.goto 30, 3) := by decide +kernel
theorem dX5_memberKind_68 : decode cX5_memberKind 68 = .ok (.bipush 16, 2) := by decide +kernel
theorem dX5_memberKind_70 : decode cX5_memberKind 70 = .ok (.goto 25, 3) := by decide +kernel
theorem dX5_memberKind_73 : decode cX5_memberKind 73 = .ok (.bipush 8, 2) := by decide +kernel
theorem dX5_memberKind_75 : decode cX5_memberKind 75 = .ok (.goto 20, 3) := by decide +kernel
theorem dX5_memberKind_78 : decode cX5_memberKind 78 = .ok (.bipush 9, 2) := by decide +kernel
theorem dX5_memberKind_80 : decode cX5_memberKind 80 = .ok (.goto 15, 3) := by decide +kernel
theorem dX5_memberKind_83 : decode cX5_memberKind 83 = .ok (.bipush 11, 2) := by decide +kernel
theorem dX5_memberKind_85 : decode cX5_memberKind 85 = .ok (.goto 10, 3) := by decide +kernel
theorem dX5_memberKind_88 : decode cX5_memberKind 88 = .ok (.bipush 12, 2) := by decide +kernel
theorem dX5_memberKind_90 : decode cX5_memberKind 90 = .ok (.goto 5, 3) := by decide +kernel
theorem dX5_memberKind_93 : decode cX5_memberKind 93 = .ok (.bipush (-5), 2) := by decide +kernel
theorem dX5_memberKind_95 : decode cX5_memberKind 95 = .ok (.ireturn, 1) := by decide +kernel
theorem dX5_kindForWork_0 : decode cX5_kindForWork 0 = .ok (.iload_n 0, 1) := by decide +kernel
theorem dX5_kindForWork_1 : decode cX5_kindForWork 1 = .ok (.tableswitch 110 0 11 #[63, 67, 72, 76, 81, 85, 85, 90, 95, 100, 105, 85], 63) := by decide +kernel
theorem dX5_kindForWork_64 : decode cX5_kindForWork 64 = .ok (.iconst 0, 1) := by decide +kernel
theorem dX5_kindForWork_65 : decode cX5_kindForWork 65 = .ok (.goto 48, 3) := by decide +kernel
theorem dX5_kindForWork_68 : decode cX5_kindForWork 68 = .ok (.bipush 16, 2) := by decide +kernel
theorem dX5_kindForWork_70 : decode cX5_kindForWork 70 = .ok (.goto 43, 3) := by decide +kernel
theorem dX5_kindForWork_73 : decode cX5_kindForWork 73 = .ok (.iconst 5, 1) := by decide +kernel
theorem dX5_kindForWork_74 : decode cX5_kindForWork 74 = .ok (.goto 39, 3) := by decide +kernel
theorem dX5_kindForWork_77 : decode cX5_kindForWork 77 = .ok (.bipush 6, 2) := by decide +kernel
theorem dX5_kindForWork_79 : decode cX5_kindForWork 79 = .ok (.goto 34, 3) := by decide +kernel
theorem dX5_kindForWork_82 : decode cX5_kindForWork 82 = .ok (.iconst 4, 1) := by decide +kernel
theorem dX5_kindForWork_83 : decode cX5_kindForWork 83 = .ok (.goto 30, 3) := by decide +kernel
theorem dX5_kindForWork_86 : decode cX5_kindForWork 86 = .ok (.bipush 8, 2) := by decide +kernel
theorem dX5_kindForWork_88 : decode cX5_kindForWork 88 = .ok (.goto 25, 3) := by decide +kernel
theorem dX5_kindForWork_91 : decode cX5_kindForWork 91 = .ok (.bipush 12, 2) := by decide +kernel
theorem dX5_kindForWork_93 : decode cX5_kindForWork 93 = .ok (.goto 20, 3) := by decide +kernel
theorem dX5_kindForWork_96 : decode cX5_kindForWork 96 = .ok (.bipush 7, 2) := by decide +kernel
theorem dX5_kindForWork_98 : decode cX5_kindForWork 98 = .ok (.goto 15, 3) := by decide +kernel
theorem dX5_kindForWork_101 : decode cX5_kindForWork 101 = .ok (.bipush 15, 2) := by decide +kernel
theorem dX5_kindForWork_103 : decode cX5_kindForWork 103 = .ok (.goto 10, 3) := by decide +kernel
theorem dX5_kindForWork_106 : decode cX5_kindForWork 106 = .ok (.bipush 11, 2) := by decide +kernel
theorem dX5_kindForWork_108 : decode cX5_kindForWork 108 = .ok (.goto 5, 3) := by decide +kernel
theorem dX5_kindForWork_111 : decode cX5_kindForWork 111 = .ok (.bipush 17, 2) := by decide +kernel
theorem dX5_kindForWork_113 : decode cX5_kindForWork 113 = .ok (.ireturn, 1) := by decide +kernel
end
section
theorem dX6_init_0 : decode cX6_init 0 = .ok (.aload_n 0, 1) := by decide +kernel
theorem dX6_init_1 : decode cX6_init 1 = .ok (.invokespecial 1, 3) := by decide +kernel
theorem dX6_init_4 : decode cX6_init 4 = .ok (.aload_n 0, 1) := by decide +kernel
theorem dX6_init_5 : decode cX6_init 5 = .ok (.bipush 100, 2) := by decide +kernel
theorem dX6_init_7 : decode cX6_init 7 = .ok (.newarray .int, 2) := by decide +kernel
theorem dX6_init_9 : decode cX6_init 9 = .ok (.putfield 7, 3) := by decide +kernel
theorem dX6_init_12 : decode cX6_init 12 = .ok (.aload_n 0, 1) := by decide +kernel
theorem dX6_init_13 : decode cX6_init 13 = .ok (.bipush 100, 2) := by decide +kernel
theorem dX6_init_15 : decode cX6_init 15 = .ok (.newarray .int, 2) := by decide +kernel
theorem dX6_init_17 : decode cX6_init 17 = .ok (.putfield 13, 3) := by decide +kernel
theorem dX6_init_20 : decode cX6_init 20 = .ok (.aload_n 0, 1) := by decide +kernel
theorem dX6_init_21 : decode cX6_init 21 = .ok (.bipush 100, 2) := by decide +kernel
theorem dX6_init_23 : decode cX6_init 23 = .ok (.newarray .int, 2) := by decide +kernel
theorem dX6_init_25 : decode cX6_init 25 = .ok (.putfield 16, 3) := by decide +kernel
theorem dX6_init_28 : decode cX6_init 28 = .ok (.aload_n 0, 1) := by decide +kernel
theorem dX6_init_29 : decode cX6_init 29 = .ok (.sipush 800, 3) := by decide +kernel
theorem dX6_init_32 : decode cX6_init 32 = .ok (.newarray .long, 2) := by decide +kernel
theorem dX6_init_34 : decode cX6_init 34 = .ok (.putfield 19, 3) := by decide +kernel
theorem dX6_init_37 : decode cX6_init 37 = .ok (.aload_n 0, 1) := by decide +kernel
theorem dX6_init_38 : decode cX6_init 38 = .ok (.sipush 800, 3) := by decide +kernel
theorem dX6_init_41 : decode cX6_init 41 = .ok (.newarray .int, 2) := by decide +kernel
theorem dX6_init_43 : decode cX6_init 43 = .ok (.putfield 23, 3) := by decide +kernel
theorem dX6_init_46 : decode cX6_init 46 = .ok (.aload_n 0, 1) := by decide +kernel
theorem dX6_init_47 : decode cX6_init 47 = .ok (.bipush 16, 2) := by decide +kernel
theorem dX6_init_49 : decode cX6_init 49 = .ok (.newarray .int, 2) := by decide +kernel
theorem dX6_init_51 : decode cX6_init 51 = .ok (.dup, 1) := by decide +kernel
theorem dX6_init_52 : decode cX6_init 52 = .ok (.iconst 0, 1) := by decide +kernel
theorem dX6_init_53 : decode cX6_init 53 = .ok (.iconst 1, 1) := by decide +kernel
theorem dX6_init_54 : decode cX6_init 54 = .ok (.iastore, 1) := by decide +kernel
theorem dX6_init_55 : decode cX6_init 55 = .ok (.dup, 1) := by decide +kernel
theorem dX6_init_56 : decode cX6_init 56 = .ok (.iconst 1, 1) := by decide +kernel
theorem dX6_init_57 : decode cX6_init 57 = .ok (.iconst 3, 1) := by decide +kernel
theorem dX6_init_58 : decode cX6_init 58 = .ok (.iastore, 1) := by decide +kernel
theorem dX6_init_59 : decode cX6_init 59 = .ok (.dup, 1) := by decide +kernel
theorem dX6_init_60 : decode cX6_init 60 = .ok (.iconst 2, 1) := by decide +kernel
theorem dX6_init_61 : decode cX6_init 61 = .ok (.ldc 26, 2) := by decide +kernel
theorem dX6_init_63 : decode cX6_init 63 = .ok (.iastore, 1) := by decide +kernel
theorem dX6_init_64 : decode cX6_init 64 = .ok (.dup, 1) := by decide +kernel
theorem dX6_init_65 : decode cX6_init 65 = .ok (.iconst 3, 1) := by decide +kernel
theorem dX6_init_66 : decode cX6_init 66 = .ok (.ldc 27, 2) := by decide +kernel
theorem dX6_init_68 : decode cX6_init 68 = .ok (.iastore, 1) := by decide +kernel
theorem dX6_init_69 : decode cX6_init 69 = .ok (.dup, 1) := by decide +kernel
theorem dX6_init_70 : decode cX6_init 70 = .ok (.iconst 4, 1) := by decide +kernel
theorem dX6_init_71 : decode cX6_init 71 = .ok (.bipush 16, 2) := by decide +kernel
theorem dX6_init_73 : decode cX6_init 73 = .ok (.iastore, 1) := by decide +kernel
theorem dX6_init_74 : decode cX6_init 74 = .ok (.dup, 1) := by decide +kernel
theorem dX6_init_75 : decode cX6_init 75 = .ok (.iconst 5, 1) := by decide +kernel
theorem dX6_init_76 : decode cX6_init 76 = .ok (.bipush 32, 2) := by decide +kernel
theorem dX6_init_78 : decode cX6_init 78 = .ok (.iastore, 1) := by decide +kernel
theorem dX6_init_79 : decode cX6_init 79 = .ok (.dup, 1) := by decide +kernel
theorem dX6_init_80 : decode cX6_init 80 = .ok (.bipush 6, 2) := by decide +kernel
theorem dX6_init_82 : decode cX6_init 82 = .ok (.bipush 64, 2) := by decide +kernel
theorem dX6_init_84 : decode cX6_init 84 = .ok (.iastore, 1) := by decide +kernel
theorem dX6_init_85 : decode cX6_init 85 = .ok (.dup, 1) := by decide +kernel
theorem dX6_init_86 : decode cX6_init 86 = .ok (.bipush 7, 2) := by decide +kernel
theorem dX6_init_88 : decode cX6_init 88 = .ok (.sipush 128, 3) := by decide +kernel
theorem dX6_init_91 : decode cX6_init 91 = .ok (.iastore, 1) := by decide +kernel
theorem dX6_init_92 : decode cX6_init 92 = .ok (.dup, 1) := by decide +kernel
theorem dX6_init_93 : decode cX6_init 93 = .ok (.bipush 8, 2) := by decide +kernel
theorem dX6_init_95 : decode cX6_init 95 = .ok (.sipush 256, 3) := by decide +kernel
theorem dX6_init_98 : decode cX6_init 98 = .ok (.iastore, 1) := by decide +kernel
theorem dX6_init_99 : decode cX6_init 99 = .ok (.dup, 1) := by decide +kernel
theorem dX6_init_100 : decode cX6_init 100 = .ok (.bipush 9, 2) := by decide +kernel
theorem dX6_init_102 : decode cX6_init 102 = .ok (.sipush 768, 3) := by decide +kernel
theorem dX6_init_105 : decode cX6_init 105 = .ok (.iastore, 1) := by decide +kernel
theorem dX6_init_106 : decode cX6_init 106 = .ok (.dup, 1) := by decide +kernel
theorem dX6_init_107 : decode cX6_init 107 = .ok (.bipush 10, 2) := by decide +kernel
theorem dX6_init_109 : decode cX6_init 109 = .ok (.sipush 3840, 3) := by decide +kernel
theorem dX6_init_112 : decode cX6_init 112 = .ok (.iastore, 1) := by decide +kernel
theorem dX6_init_113 : decode cX6_init 113 = .ok (.dup, 1) := by decide +kernel
theorem dX6_init_114 : decode cX6_init 114 = .ok (.bipush 11, 2) := by decide +kernel
theorem dX6_init_116 : decode cX6_init 116 = .ok (.sipush 2048, 3) := by decide +kernel
theorem dX6_init_119 : decode cX6_init 119 = .ok (.iastore, 1) := by decide +kernel
theorem dX6_init_120 : decode cX6_init 120 = .ok (.dup, 1) := by decide +kernel
theorem dX6_init_121 : decode cX6_init 121 = .ok (.bipush 12, 2) := by decide +kernel
theorem dX6_init_123 : decode cX6_init 123 = .ok (.sipush 4096, 3) := by decide +kernel
theorem dX6_init_126 : decode cX6_init 126 = .ok (.iastore, 1) := by decide +kernel
theorem dX6_init_127 : decode cX6_init 127 = .ok (.dup, 1) := by decide +kernel
theorem dX6_init_128 : decode cX6_init 128 = .ok (.bipush 13, 2) := by decide +kernel
theorem dX6_init_130 : decode cX6_init 130 = .ok (.sipush 12288, 3) := by decide +kernel
theorem dX6_init_133 : decode cX6_init 133 = .ok (.iastore, 1) := by decide +kernel
theorem dX6_init_134 : decode cX6_init 134 = .ok (.dup, 1) := by decide +kernel
theorem dX6_init_135 : decode cX6_init 135 = .ok (.bipush 14, 2) := by decide +kernel
theorem dX6_init_137 : decode cX6_init 137 = .ok (.sipush 16384, 3) := by decide +kernel
theorem dX6_init_140 : decode cX6_init 140 = .ok (.iastore, 1) := by decide +kernel
theorem dX6_init_141 : decode cX6_init 141 = .ok (.dup, 1) := by decide +kernel
theorem dX6_init_142 : decode cX6_init 142 = .ok (.bipush 15, 2) := by decide +kernel
theorem dX6_init_144 : decode cX6_init 144 = .ok (.ldc 28, 2) := by decide +kernel
theorem dX6_init_146 : decode cX6_init 146 = .ok (.iastore, 1) := by decide +kernel
theorem dX6_init_147 : decode cX6_init 147 = .ok (.putfield 29, 3) := by decide +kernel
theorem dX6_init_150 : decode cX6_init 150 = .ok (.aload_n 0, 1) := by decide +kernel
theorem dX6_init_151 : decode cX6_init 151 = .ok (.bipush 16, 2) := by decide +kernel
theorem dX6_init_153 : decode cX6_init 153 = .ok (.newarray .int, 2) := by decide +kernel
theorem dX6_init_155 : decode cX6_init 155 = .ok (.dup, 1) := by decide +kernel
theorem dX6_init_156 : decode cX6_init 156 = .ok (.iconst 0, 1) := by decide +kernel
theorem dX6_init_157 : decode cX6_init 157 = .ok (.iconst 0, 1) := by decide +kernel
theorem dX6_init_158 : decode cX6_init 158 = .ok (.iastore, 1) := by decide +kernel
theorem dX6_init_159 : decode cX6_init 159 = .ok (.dup, 1) := by decide +kernel
theorem dX6_init_160 : decode cX6_init 160 = .ok (.iconst 1, 1) := by decide +kernel
theorem dX6_init_161 : decode cX6_init 161 = .ok (.iconst 0, 1) := by decide +kernel
theorem dX6_init_162 : decode cX6_init 162 = .ok (.iastore, 1) := by decide +kernel
theorem dX6_init_163 : decode cX6_init 163 = .ok (.dup, 1) := by decide +kernel
theorem dX6_init_164 : decode cX6_init 164 = .ok (.iconst 2, 1) := by decide +kernel
theorem dX6_init_165 : decode cX6_init 165 = .ok (.iconst 0, 1) := by decide +kernel
theorem dX6_init_166 : decode cX6_init 166 = .ok (.iastore, 1) := by decide +kernel
theorem dX6_init_167 : decode cX6_init 167 = .ok (.dup, 1) := by decide +kernel
theorem dX6_init_168 : decode cX6_init 168 = .ok (.iconst 3, 1) := by decide +kernel
theorem dX6_init_169 : decode cX6_init 169 = .ok (.iconst 0, 1) := by decide +kernel
theorem dX6_init_170 : decode cX6_init 170 = .ok (.iastore, 1) := by decide +kernel
theorem dX6_init_171 : decode cX6_init 171 = .ok (.dup, 1) := by decide +kernel
theorem dX6_init_172 : decode cX6_init 172 = .ok (.iconst 4, 1) := by decide +kernel
theorem dX6_init_173 : decode cX6_init 173 = .ok (.iconst 0, 1) := by decide +kernel
theorem dX6_init_174 : decode cX6_init 174 = .ok (.iastore, 1) := by decide +kernel
theorem dX6_init_175 : decode cX6_init 175 = .ok (.dup, 1) := by decide +kernel
theorem dX6_init_176 : decode cX6_init 176 = .ok (.iconst 5, 1) := by decide +kernel
theorem dX6_init_177 : decode cX6_init 177 = .ok (.iconst 0, 1) := by decide +kernel
theorem dX6_init_178 : decode cX6_init 178 = .ok (.iastore, 1) := by decide +kernel
theorem dX6_init_179 : decode cX6_init 179 = .ok (.dup, 1) := by decide +kernel
theorem dX6_init_180 : decode cX6_init 180 = .ok (.bipush 6, 2) := by decide +kernel
theorem dX6_init_182 : decode cX6_init 182 = .ok (.iconst 0, 1) := by decide +kernel
theorem dX6_init_183 : decode cX6_init 183 = .ok (.iastore, 1) := by decide +kernel
theorem dX6_init_184 : decode cX6_init 184 = .ok (.dup, 1) := by decide +kernel
theorem dX6_init_185 : decode cX6_init 185 = .ok (.bipush 7, 2) := by decide +kernel
theorem dX6_init_187 : decode cX6_init 187 = .ok (.iconst 5, 1) := by decide +kernel
theorem dX6_init_188 : decode cX6_init 188 = .ok (.iastore, 1) := by decide +kernel
theorem dX6_init_189 : decode cX6_init 189 = .ok (.dup, 1) := by decide +kernel
theorem dX6_init_190 : decode cX6_init 190 = .ok (.bipush 8, 2) := by decide +kernel
theorem dX6_init_192 : decode cX6_init 192 = .ok (.iconst 0, 1) := by decide +kernel
theorem dX6_init_193 : decode cX6_init 193 = .ok (.iastore, 1) := by decide +kernel
theorem dX6_init_194 : decode cX6_init 194 = .ok (.dup, 1) := by decide +kernel
theorem dX6_init_195 : decode cX6_init 195 = .ok (.bipush 9, 2) := by decide +kernel
theorem dX6_init_197 : decode cX6_init 197 = .ok (.iconst 1, 1) := by decide +kernel
theorem dX6_init_198 : decode cX6_init 198 = .ok (.iastore, 1) := by decide +kernel
theorem dX6_init_199 : decode cX6_init 199 = .ok (.dup, 1) := by decide +kernel
theorem dX6_init_200 : decode cX6_init 200 = .ok (.bipush 10, 2) := by decide +kernel
theorem dX6_init_202 : decode cX6_init 202 = .ok (.iconst 2, 1) := by decide +kernel
theorem dX6_init_203 : decode cX6_init 203 = .ok (.iastore, 1) := by decide +kernel
theorem dX6_init_204 : decode cX6_init 204 = .ok (.dup, 1) := by decide +kernel
theorem dX6_init_205 : decode cX6_init 205 = .ok (.bipush 11, 2) := by decide +kernel
theorem dX6_init_207 : decode cX6_init 207 = .ok (.bipush 16, 2) := by decide +kernel
theorem dX6_init_209 : decode cX6_init 209 = .ok (.iastore, 1) := by decide +kernel
theorem dX6_init_210 : decode cX6_init 210 = .ok (.dup, 1) := by decide +kernel
theorem dX6_init_211 : decode cX6_init 211 = .ok (.bipush 12, 2) := by decide +kernel
theorem dX6_init_213 : decode cX6_init 213 = .ok (.bipush 8, 2) := by decide +kernel
theorem dX6_init_215 : decode cX6_init 215 = .ok (.iastore, 1) := by decide +kernel
theorem dX6_init_216 : decode cX6_init 216 = .ok (.dup, 1) := by decide +kernel
theorem dX6_init_217 : decode cX6_init 217 = .ok (.bipush 13, 2) := by decide +kernel
theorem dX6_init_219 : decode cX6_init 219 = .ok (.bipush 9, 2) := by decide +kernel
theorem dX6_init_221 : decode cX6_init 221 = .ok (.iastore, 1) := by decide +kernel
theorem dX6_init_222 : decode cX6_init 222 = .ok (.dup, 1) := by decide +kernel
theorem dX6_init_223 : decode cX6_init 223 = .ok (.bipush 14, 2) := by decide +kernel
theorem dX6_init_225 : decode cX6_init 225 = .ok (.bipush 11, 2) := by decide +kernel
theorem dX6_init_227 : decode cX6_init 227 = .ok (.iastore, 1) := by decide +kernel
theorem dX6_init_228 : decode cX6_init 228 = .ok (.dup, 1) := by decide +kernel
theorem dX6_init_229 : decode cX6_init 229 = .ok (.bipush 15, 2) := by decide +kernel
theorem dX6_init_231 : decode cX6_init 231 = .ok (.bipush 12, 2) := by decide +kernel
theorem dX6_init_233 : decode cX6_init 233 = .ok (.iastore, 1) := by decide +kernel
theorem dX6_init_234 : decode cX6_init 234 = .ok (.putfield 32, 3) := by decide +kernel
theorem dX6_init_237 : decode cX6_init 237 = .ok (.aload_n 0, 1) := by decide +kernel
theorem dX6_init_238 : decode cX6_init 238 = .ok (.bipush 13, 2) := by decide +kernel
theorem dX6_init_240 : decode cX6_init 240 = .ok (.newarray .int, 2) := by decide +kernel
theorem dX6_init_242 : decode cX6_init 242 = .ok (.dup, 1) := by decide +kernel
theorem dX6_init_243 : decode cX6_init 243 = .ok (.iconst 0, 1) := by decide +kernel
theorem dX6_init_244 : decode cX6_init 244 = .ok (.iconst 0, 1) := by decide +kernel
theorem dX6_init_245 : decode cX6_init 245 = .ok (.iastore, 1) := by decide +kernel
theorem dX6_init_246 : decode cX6_init 246 = .ok (.dup, 1) := by decide +kernel
theorem dX6_init_247 : decode cX6_init 247 = .ok (.iconst 1, 1) := by decide +kernel
theorem dX6_init_248 : decode cX6_init 248 = .ok (.bipush 16, 2) := by decide +kernel
theorem dX6_init_250 : decode cX6_init 250 = .ok (.iastore, 1) := by decide +kernel
theorem dX6_init_251 : decode cX6_init 251 = .ok (.dup, 1) := by decide +kernel
theorem dX6_init_252 : decode cX6_init 252 = .ok (.iconst 2, 1) := by decide +kernel
theorem dX6_init_253 : decode cX6_init 253 = .ok (.iconst 5, 1) := by decide +kernel
theorem dX6_init_254 : decode cX6_init 254 = .ok (.iastore, 1) := by decide +kernel
theorem dX6_init_255 : decode cX6_init 255 = .ok (.dup, 1) := by decide +kernel
theorem dX6_init_256 : decode cX6_init 256 = .ok (.iconst 3, 1) := by decide +kernel
theorem dX6_init_257 : decode cX6_init 257 = .ok (.bipush 6, 2) := by decide +kernel
theorem dX6_init_259 : decode cX6_init 259 = .ok (.iastore, 1) := by decide +kernel
theorem dX6_init_260 : decode cX6_init 260 = .ok (.dup, 1) := by decide +kernel
theorem dX6_init_261 : decode cX6_init 261 = .ok (.iconst 4, 1) := by decide +kernel
theorem dX6_init_262 : decode cX6_init 262 = .ok (.iconst 4, 1) := by decide +kernel
theorem dX6_init_263 : decode cX6_init 263 = .ok (.iastore, 1) := by decide +kernel
theorem dX6_init_264 : decode cX6_init 264 = .ok (.dup, 1) := by decide +kernel
theorem dX6_init_265 : decode cX6_init 265 = .ok (.iconst 5, 1) := by decide +kernel
theorem dX6_init_266 : decode cX6_init 266 = .ok (.bipush 8, 2) := by decide +kernel
theorem dX6_init_268 : decode cX6_init 268 = .ok (.iastore, 1) := by decide +kernel
theorem dX6_init_269 : decode cX6_init 269 = .ok (.dup, 1) := by decide +kernel
theorem dX6_init_270 : decode cX6_init 270 = .ok (.bipush 6, 2) := by decide +kernel
theorem dX6_init_272 : decode cX6_init 272 = .ok (.bipush 8, 2) := by decide +kernel
theorem dX6_init_274 : decode cX6_init 274 = .ok (.iastore, 1) := by decide +kernel
theorem dX6_init_275 : decode cX6_init 275 = .ok (.dup, 1) := by decide +kernel
theorem dX6_init_276 : decode cX6_init 276 = .ok (.bipush 7, 2) := by decide +kernel
theorem dX6_init_278 : decode cX6_init 278 = .ok (.bipush 12, 2) := by decide +kernel
theorem dX6_init_280 : decode cX6_init 280 = .ok (.iastore, 1) := by decide +kernel
theorem dX6_init_281 : decode cX6_init 281 = .ok (.dup, 1) := by decide +kernel
theorem dX6_init_282 : decode cX6_init 282 = .ok (.bipush 8, 2) := by decide +kernel
theorem dX6_init_284 : decode cX6_init 284 = .ok (.bipush 7, 2) := by decide +kernel
theorem dX6_init_286 : decode cX6_init 286 = .ok (.iastore, 1) := by decide +kernel
theorem dX6_init_287 : decode cX6_init 287 = .ok (.dup, 1) := by decide +kernel
theorem dX6_init_288 : decode cX6_init 288 = .ok (.bipush 9, 2) := by decide +kernel
theorem dX6_init_290 : decode cX6_init 290 = .ok (.bipush 15, 2) := by decide +kernel
theorem dX6_init_292 : decode cX6_init 292 = .ok (.iastore, 1) := by decide +kernel
theorem dX6_init_293 : decode cX6_init 293 = .ok (.dup, 1) := by decide +kernel
theorem dX6_init_294 : decode cX6_init 294 = .ok (.bipush 10, 2) := by decide +kernel
theorem dX6_init_296 : decode cX6_init 296 = .ok (.bipush 11, 2) := by decide +kernel
theorem dX6_init_298 : decode cX6_init 298 = .ok (.iastore, 1) := by decide +kernel
theorem dX6_init_299 : decode cX6_init 299 = .ok (.dup, 1) := by decide +kernel
theorem dX6_init_300 : decode cX6_init 300 = .ok (.bipush 11, 2) := by decide +kernel
theorem dX6_init_302 : decode cX6_init 302 = .ok (.bipush 8, 2) := by decide +kernel
theorem dX6_init_304 : decode cX6_init 304 = .ok (.iastore, 1) := by decide +kernel
theorem dX6_init_305 : decode cX6_init 305 = .ok (.dup, 1) := by decide +kernel
theorem dX6_init_306 : decode cX6_init 306 = .ok (.bipush 12, 2) := by decide +kernel
theorem dX6_init_308 : decode cX6_init 308 = .ok (.bipush 17, 2) := by decide +kernel
theorem dX6_init_310 : decode cX6_init 310 = .ok (.iastore, 1) := by decide +kernel
theorem dX6_init_311 : decode cX6_init 311 = .ok (.putfield 35, 3) := by decide +kernel
theorem dX6_init_314 : decode cX6_init 314 = .ok (.aload_n 0, 1) := by decide +kernel
theorem dX6_init_315 : decode cX6_init 315 = .ok (.bipush 40, 2) := by decide +kernel
theorem dX6_init_317 : decode cX6_init 317 = .ok (.newarray .int, 2) := by decide +kernel
theorem dX6_init_319 : decode cX6_init 319 = .ok (.putfield 38, 3) := by decide +kernel
theorem dX6_init_322 : decode cX6_init 322 = .ok (.aload_n 0, 1) := by decide +kernel
theorem dX6_init_323 : decode cX6_init 323 = .ok (.bipush 8, 2) := by decide +kernel
theorem dX6_init_325 : decode cX6_init 325 = .ok (.newarray .int, 2) := by decide +kernel
theorem dX6_init_327 : decode cX6_init 327 = .ok (.putfield 41, 3) := by decide +kernel
theorem dX6_init_330 : decode cX6_init 330 = .ok (.aload_n 0, 1) := by decide +kernel
theorem dX6_init_331 : decode cX6_init 331 = .ok (.bipush 8, 2) := by decide +kernel
theorem dX6_init_333 : decode cX6_init 333 = .ok (.newarray .int, 2) := by decide +kernel
theorem dX6_init_335 : decode cX6_init 335 = .ok (.putfield 44, 3) := by decide +kernel
theorem dX6_init_338 : decode cX6_init 338 = .ok (.aload_n 0, 1) := by decide +kernel
theorem dX6_init_339 : decode cX6_init 339 = .ok (.bipush 8, 2) := by decide +kernel
theorem dX6_init_341 : decode cX6_init 341 = .ok (.newarray .long, 2) := by decide +kernel
theorem dX6_init_343 : decode cX6_init 343 = .ok (.putfield 47, 3) := by decide +kernel
theorem dX6_init_346 : decode cX6_init 346 = .ok (.aload_n 0, 1) := by decide +kernel
theorem dX6_init_347 : decode cX6_init 347 = .ok (.bipush 8, 2) := by decide +kernel
theorem dX6_init_349 : decode cX6_init 349 = .ok (.newarray .int, 2) := by decide +kernel
theorem dX6_init_351 : decode cX6_init 351 = .ok (.putfield 50, 3) := by decide +kernel
theorem dX6_init_354 : decode cX6_init 354 = .ok (.aload_n 0, 1) := by decide +kernel
theorem dX6_init_355 : decode cX6_init 355 = .ok (.bipush 60, 2) := by decide +kernel
theorem dX6_init_357 : decode cX6_init 357 = .ok (.newarray .int, 2) := by decide +kernel
theorem dX6_init_359 : decode cX6_init 359 = .ok (.putfield 53, 3) := by decide +kernel
theorem dX6_init_362 : decode cX6_init 362 = .ok (.aload_n 0, 1) := by decide +kernel
theorem dX6_init_363 : decode cX6_init 363 = .ok (.bipush 6, 2) := by decide +kernel
theorem dX6_init_365 : decode cX6_init 365 = .ok (.newarray .int, 2) := by decide +kernel
theorem dX6_init_367 : decode cX6_init 367 = .ok (.putfield 56, 3) := by decide +kernel
theorem dX6_init_370 : decode cX6_init 370 = .ok (.return_, 1) := by decide +kernel
theorem dX6_thrown_0 : decode cX6_thrown 0 = .ok (.aload_n 0, 1) := by decide +kernel
theorem dX6_thrown_1 : decode cX6_thrown 1 = .ok (.getfield 59, 3) := by decide +kernel
theorem dX6_thrown_4 : decode cX6_thrown 4 = .ok (.ireturn, 1) := by decide +kernel
theorem dX6_in_0 : decode cX6_in 0 = .ok (.iload_n 0, 1) := by decide +kernel
theorem dX6_in_1 : decode cX6_in 1 = .ok (.iload_n 1, 1) := by decide +kernel
theorem dX6_in_2 : decode cX6_in 2 = .ok (.if_icmp .lt 12, 3) := by decide +kernel
theorem dX6_in_5 : decode cX6_in 5 = .ok (.iload_n 0, 1) := by decide +kernel
theorem dX6_in_6 : decode cX6_in 6 = .ok (.iload_n 2, 1) := by decide +kernel
theorem dX6_in_7 : decode cX6_in 7 = .ok (.if_icmp .gt 7, 3) := by decide +kernel
theorem dX6_in_10 : decode cX6_in 10 = .ok (.iconst 1, 1) := by decide +kernel
theorem dX6_in_11 : decode cX6_in 11 = .ok (.goto 4, 3) := by decide +kernel
theorem dX6_in_14 : decode cX6_in 14 = .ok (.iconst 0, 1) := by decide +kernel
theorem dX6_in_15 : decode cX6_in 15 = .ok (.ireturn, 1) := by decide +kernel
set_option maxRecDepth 20000 in
theorem ggX6_isThing_X6_in : GoodIn wsX6_isThing wsX6_in := goodIn_r _ [5] (by decide +kernel) (by decide +kernel)
set_option maxRecDepth 20000 in
theorem gX6_isThing_X6_in : GoodIn wsX6_isThing (va_wsS RX6 66 yX6_in wsX6_in) := goodIn_app (goodIn_of _ (by decide +kernel)) ggX6_isThing_X6_in
theorem dX6_isThing_0 : decode cX6_isThing 0 = .ok (.iload_n 1, 1) := by decide +kernel
theorem dX6_isThing_1 : decode cX6_isThing 1 = .ok (.iconst 0, 1) := by decide +kernel
theorem dX6_isThing_2 : decode cX6_isThing 2 = .ok (.aload_n 0, 1) := by decide +kernel
theorem dX6_isThing_3 : decode cX6_isThing 3 = .ok (.getfield 63, 3) := by decide +kernel
theorem dX6_isThing_6 : decode cX6_isThing 6 = .ok (.iconst 1, 1) := by decide +kernel
theorem dX6_isThing_7 : decode cX6_isThing 7 = .ok (.isub, 1) := by decide +kernel
theorem dX6_isThing_8 : decode cX6_isThing 8 = .ok (.invokestatic 66, 3) := by decide +kernel
theorem dX6_isThing_11 : decode cX6_isThing 11 = .ok (.ireturn, 1) := by decide +kernel
theorem dX6_isOf_0 : decode cX6_isOf 0 = .ok (.iload_n 2, 1) := by decide +kernel
theorem dX6_isOf_1 : decode cX6_isOf 1 = .ok (.bipush 17, 2) := by decide +kernel
theorem dX6_isOf_3 : decode cX6_isOf 3 = .ok (.if_icmp .eq 22, 3) := by decide +kernel
theorem dX6_isOf_6 : decode cX6_isOf 6 = .ok (.aload_n 0, 1) := by decide +kernel
theorem dX6_isOf_7 : decode cX6_isOf 7 = .ok (.getfield 29, 3) := by decide +kernel
theorem dX6_isOf_10 : decode cX6_isOf 10 = .ok (.aload_n 0, 1) := by decide +kernel
theorem dX6_isOf_11 : decode cX6_isOf 11 = .ok (.getfield 7, 3) := by decide +kernel
theorem dX6_isOf_14 : decode cX6_isOf 14 = .ok (.iload_n 1, 1) := by decide +kernel
theorem dX6_isOf_15 : decode cX6_isOf 15 = .ok (.iaload, 1) := by decide +kernel
theorem dX6_isOf_16 : decode cX6_isOf 16 = .ok (.iaload, 1) := by decide +kernel
theorem dX6_isOf_17 : decode cX6_isOf 17 = .ok (.iload_n 2, 1) := by decide +kernel
theorem dX6_isOf_18 : decode cX6_isOf 18 = .ok (.ishr, 1) := by decide +kernel
theorem dX6_isOf_19 : decode cX6_isOf 19 = .ok (.iconst 1, 1) := by decide +kernel
theorem dX6_isOf_20 : decode cX6_isOf 20 = .ok (.iand, 1) := by decide +kernel
theorem dX6_isOf_21 : decode cX6_isOf 21 = .ok (.iconst 1, 1) := by decide +kernel
theorem dX6_isOf_22 : decode cX6_isOf 22 = .ok (.if_icmp .ne 7, 3) := by decide +kernel
theorem dX6_isOf_25 : decode cX6_isOf 25 = .ok (.iconst 1, 1) := by decide +kernel
theorem dX6_isOf_26 : decode cX6_isOf 26 = .ok (.goto 4, 3) := by decide +kernel
theorem dX6_isOf_29 : decode cX6_isOf 29 = .ok (.iconst 0, 1) := by decide +kernel
theorem dX6_isOf_30 : decode cX6_isOf 30 = .ok (.ireturn, 1) := by decide +kernel
set_option maxRecDepth 20000 in
theorem ggX6_passes_X6_isOf : GoodIn wsX6_passes wsX6_isOf := goodIn_ca (goodIn_r _ [5, 6, 7, 8, 9, 10, 11, 12, 13, 14, 15, 16, 17, 18, 19, 20, 21, 22, 23, 24, 25, 26, 27, 28, 29, 30] (by decide +kernel) (by decide +kernel)) (goodIn_sub (fun _ h => List.mem_cons_of_mem _ (List.mem_append_right _ h)) (by decide +kernel))
set_option maxRecDepth 20000 in
theorem gX6_passes_X6_isOf : GoodIn wsX6_passes (wsV RX6 70 RX6 yX6_isOf wsX6_isOf) := goodIn_app (goodIn_of _ (by decide +kernel)) ggX6_passes_X6_isOf
theorem dX6_passes_0 : decode cX6_passes 0 = .ok (.iload_n 1, 1) := by decide +kernel
theorem dX6_passes_1 : decode cX6_passes 1 = .ok (.ifCond .lt 12, 3) := by decide +kernel
theorem dX6_passes_4 : decode cX6_passes 4 = .ok (.aload_n 0, 1) := by decide +kernel
theorem dX6_passes_5 : decode cX6_passes 5 = .ok (.iload_n 1, 1) := by decide +kernel
theorem dX6_passes_6 : decode cX6_passes 6 = .ok (.iload_n 2, 1) := by decide +kernel
theorem dX6_passes_7 : decode cX6_passes 7 = .ok (.invokevirtual 70, 3) := by decide +kernel
theorem dX6_passes_10 : decode cX6_passes 10 = .ok (.ifCond .eq 7, 3) := by decide +kernel
theorem dX6_passes_13 : decode cX6_passes 13 = .ok (.iconst 1, 1) := by decide +kernel
theorem dX6_passes_14 : decode cX6_passes 14 = .ok (.goto 4, 3) := by decide +kernel
theorem dX6_passes_17 : decode cX6_passes 17 = .ok (.iconst 0, 1) := by decide +kernel
theorem dX6_passes_18 : decode cX6_passes 18 = .ok (.ireturn, 1) := by decide +kernel
theorem dX6_found_0 : decode cX6_found 0 = .ok (.aload_n 0, 1) := by decide +kernel
theorem dX6_found_1 : decode cX6_found 1 = .ok (.getfield 56, 3) := by decide +kernel
theorem dX6_found_4 : decode cX6_found 4 = .ok (.iload_n 1, 1) := by decide +kernel
theorem dX6_found_5 : decode cX6_found 5 = .ok (.dup2, 1) := by decide +kernel
theorem dX6_found_6 : decode cX6_found 6 = .ok (.iaload, 1) := by decide +kernel
theorem dX6_found_7 : decode cX6_found 7 = .ok (.iconst 1, 1) := by decide +kernel
theorem dX6_found_8 : decode cX6_found 8 = .ok (.iadd, 1) := by decide +kernel
theorem dX6_found_9 : decode cX6_found 9 = .ok (.iastore, 1) := by decide +kernel
theorem dX6_found_10 : decode cX6_found 10 = .ok (.bipush (-20), 2) := by decide +kernel
theorem dX6_found_12 : decode cX6_found 12 = .ok (.iload_n 1, 1) := by decide +kernel
theorem dX6_found_13 : decode cX6_found 13 = .ok (.isub, 1) := by decide +kernel
theorem dX6_found_14 : decode cX6_found 14 = .ok (.ireturn, 1) := by decide +kernel
theorem dX6_adds_0 : decode cX6_adds 0 = .ok (.aload_n 0, 1) := by decide +kernel
theorem dX6_adds_1 : decode cX6_adds 1 = .ok (.getfield 7, 3) := by decide +kernel
theorem dX6_adds_4 : decode cX6_adds 4 = .ok (.aload_n 0, 1) := by decide +kernel
theorem dX6_adds_5 : decode cX6_adds 5 = .ok (.getfield 63, 3) := by decide +kernel
theorem dX6_adds_8 : decode cX6_adds 8 = .ok (.iload_n 1, 1) := by decide +kernel
theorem dX6_adds_9 : decode cX6_adds 9 = .ok (.iastore, 1) := by decide +kernel
theorem dX6_adds_10 : decode cX6_adds 10 = .ok (.aload_n 0, 1) := by decide +kernel
theorem dX6_adds_11 : decode cX6_adds 11 = .ok (.getfield 13, 3) := by decide +kernel
theorem dX6_adds_14 : decode cX6_adds 14 = .ok (.aload_n 0, 1) := by decide +kernel
theorem dX6_adds_15 : decode cX6_adds 15 = .ok (.getfield 63, 3) := by decide +kernel
theorem dX6_adds_18 : decode cX6_adds 18 = .ok (.iload_n 2, 1) := by decide +kernel
theorem dX6_adds_19 : decode cX6_adds 19 = .ok (.iastore, 1) := by decide +kernel
theorem dX6_adds_20 : decode cX6_adds 20 = .ok (.aload_n 0, 1) := by decide +kernel
theorem dX6_adds_21 : decode cX6_adds 21 = .ok (.getfield 16, 3) := by decide +kernel
theorem dX6_adds_24 : decode cX6_adds 24 = .ok (.aload_n 0, 1) := by decide +kernel
theorem dX6_adds_25 : decode cX6_adds 25 = .ok (.getfield 63, 3) := by decide +kernel
theorem dX6_adds_28 : decode cX6_adds 28 = .ok (.iload_n 3, 1) := by decide +kernel
theorem dX6_adds_29 : decode cX6_adds 29 = .ok (.iastore, 1) := by decide +kernel
theorem dX6_adds_30 : decode cX6_adds 30 = .ok (.iconst 0, 1) := by decide +kernel
theorem dX6_adds_31 : decode cX6_adds 31 = .ok (.istore 4, 2) := by decide +kernel
theorem dX6_adds_33 : decode cX6_adds 33 = .ok (.iload 4, 2) := by decide +kernel
theorem dX6_adds_35 : decode cX6_adds 35 = .ok (.bipush 8, 2) := by decide +kernel
theorem dX6_adds_37 : decode cX6_adds 37 = .ok (.if_icmp .ge 41, 3) := by decide +kernel
theorem dX6_adds_40 : decode cX6_adds 40 = .ok (.aload_n 0, 1) := by decide +kernel
theorem dX6_adds_41 : decode cX6_adds 41 = .ok (.getfield 19, 3) := by decide +kernel
theorem dX6_adds_44 : decode cX6_adds 44 = .ok (.bipush 8, 2) := by decide +kernel
theorem dX6_adds_46 : decode cX6_adds 46 = .ok (.aload_n 0, 1) := by decide +kernel
theorem dX6_adds_47 : decode cX6_adds 47 = .ok (.getfield 63, 3) := by decide +kernel
theorem dX6_adds_50 : decode cX6_adds 50 = .ok (.imul, 1) := by decide +kernel
theorem dX6_adds_51 : decode cX6_adds 51 = .ok (.iload 4, 2) := by decide +kernel
theorem dX6_adds_53 : decode cX6_adds 53 = .ok (.iadd, 1) := by decide +kernel
theorem dX6_adds_54 : decode cX6_adds 54 = .ok (.lconst 0, 1) := by decide +kernel
theorem dX6_adds_55 : decode cX6_adds 55 = .ok (.lastore, 1) := by decide +kernel
theorem dX6_adds_56 : decode cX6_adds 56 = .ok (.aload_n 0, 1) := by decide +kernel
theorem dX6_adds_57 : decode cX6_adds 57 = .ok (.getfield 23, 3) := by decide +kernel
theorem dX6_adds_60 : decode cX6_adds 60 = .ok (.bipush 8, 2) := by decide +kernel
theorem dX6_adds_62 : decode cX6_adds 62 = .ok (.aload_n 0, 1) := by decide +kernel
theorem dX6_adds_63 : decode cX6_adds 63 = .ok (.getfield 63, 3) := by decide +kernel
theorem dX6_adds_66 : decode cX6_adds 66 = .ok (.imul, 1) := by decide +kernel
theorem dX6_adds_67 : decode cX6_adds 67 = .ok (.iload 4, 2) := by decide +kernel
theorem dX6_adds_69 : decode cX6_adds 69 = .ok (.iadd, 1) := by decide +kernel
theorem dX6_adds_70 : decode cX6_adds 70 = .ok (.iconst (-1), 1) := by decide +kernel
theorem dX6_adds_71 : decode cX6_adds 71 = .ok (.iastore, 1) := by decide +kernel
theorem dX6_adds_72 : decode cX6_adds 72 = .ok (.iinc 4 1, 3) := by decide +kernel
theorem dX6_adds_75 : decode cX6_adds 75 = .ok (.goto (-42), 3) := by decide +kernel
theorem dX6_adds_78 : decode cX6_adds 78 = .ok (.aload_n 0, 1) := by decide +kernel
theorem dX6_adds_79 : decode cX6_adds 79 = .ok (.dup, 1) := by decide +kernel
theorem dX6_adds_80 : decode cX6_adds 80 = .ok (.getfield 63, 3) := by decide +kernel
theorem dX6_adds_83 : decode cX6_adds 83 = .ok (.iconst 1, 1) := by decide +kernel
theorem dX6_adds_84 : decode cX6_adds 84 = .ok (.iadd, 1) := by decide +kernel
theorem dX6_adds_85 : decode cX6_adds 85 = .ok (.putfield 63, 3) := by decide +kernel
theorem dX6_adds_88 : decode cX6_adds 88 = .ok (.aload_n 0, 1) := by decide +kernel
theorem dX6_adds_89 : decode cX6_adds 89 = .ok (.getfield 63, 3) := by decide +kernel
theorem dX6_adds_92 : decode cX6_adds 92 = .ok (.iconst 1, 1) := by decide +kernel
theorem dX6_adds_93 : decode cX6_adds 93 = .ok (.isub, 1) := by decide +kernel
theorem dX6_adds_94 : decode cX6_adds 94 = .ok (.ireturn, 1) := by decide +kernel
set_option maxRecDepth 20000 in
theorem ggX6_thing_X6_in : GoodIn wsX6_thing wsX6_in := goodIn_r _ [6] (by decide +kernel) (by decide +kernel)
set_option maxRecDepth 20000 in
theorem gX6_thing_X6_in : GoodIn wsX6_thing (va_wsS RX6 66 yX6_in wsX6_in) := goodIn_app (goodIn_of _ (by decide +kernel)) ggX6_thing_X6_in
set_option maxRecDepth 20000 in
theorem ggX6_thing_X6_adds : GoodIn wsX6_thing wsX6_adds := goodIn_ca (goodIn_r _ [10, 11, 2, 12, 13, 14, 15, 16, 17, 18, 19, 20, 21, 22, 23, 24, 25, 26, 27, 28, 29, 30, 31, 32, 33, 34, 35, 36, 37, 38] (by decide +kernel) (by decide +kernel)) (goodIn_sub (fun _ h => List.mem_cons_of_mem _ (List.mem_append_right _ h)) (by decide +kernel))
set_option maxRecDepth 20000 in
theorem gX6_thing_X6_adds : GoodIn wsX6_thing (wsV RX6 74 RX6 yX6_adds wsX6_adds) := goodIn_app (goodIn_of _ (by decide +kernel)) ggX6_thing_X6_adds
theorem dX6_thing_0 : decode cX6_thing 0 = .ok (.aload_n 0, 1) := by decide +kernel
theorem dX6_thing_1 : decode cX6_thing 1 = .ok (.iconst 0, 1) := by decide +kernel
theorem dX6_thing_2 : decode cX6_thing 2 = .ok (.putfield 59, 3) := by decide +kernel
theorem dX6_thing_5 : decode cX6_thing 5 = .ok (.iload_n 1, 1) := by decide +kernel
theorem dX6_thing_6 : decode cX6_thing 6 = .ok (.iconst 0, 1) := by decide +kernel
theorem dX6_thing_7 : decode cX6_thing 7 = .ok (.iconst 3, 1) := by decide +kernel
theorem dX6_thing_8 : decode cX6_thing 8 = .ok (.invokestatic 66, 3) := by decide +kernel
theorem dX6_thing_11 : decode cX6_thing 11 = .ok (.ifCond .eq 16, 3) := by decide +kernel
theorem dX6_thing_14 : decode cX6_thing 14 = .ok (.iload_n 2, 1) := by decide +kernel
theorem dX6_thing_15 : decode cX6_thing 15 = .ok (.sipush (-1000), 3) := by decide +kernel
theorem dX6_thing_18 : decode cX6_thing 18 = .ok (.sipush 1000, 3) := by decide +kernel
theorem dX6_thing_21 : decode cX6_thing 21 = .ok (.invokestatic 66, 3) := by decide +kernel
theorem dX6_thing_24 : decode cX6_thing 24 = .ok (.ifCond .ne 6, 3) := by decide +kernel
theorem dX6_thing_27 : decode cX6_thing 27 = .ok (.bipush (-2), 2) := by decide +kernel
theorem dX6_thing_29 : decode cX6_thing 29 = .ok (.ireturn, 1) := by decide +kernel
theorem dX6_thing_30 : decode cX6_thing 30 = .ok (.aload_n 0, 1) := by decide +kernel
theorem dX6_thing_31 : decode cX6_thing 31 = .ok (.getfield 63, 3) := by decide +kernel
theorem dX6_thing_34 : decode cX6_thing 34 = .ok (.bipush 100, 2) := by decide +kernel
theorem dX6_thing_36 : decode cX6_thing 36 = .ok (.if_icmp .ne 8, 3) := by decide +kernel
theorem dX6_thing_39 : decode cX6_thing 39 = .ok (.bipush (-4), 2) := by decide +kernel
theorem dX6_thing_41 : decode cX6_thing 41 = .ok (.goto 10, 3) := by decide +kernel
theorem dX6_thing_44 : decode cX6_thing 44 = .ok (.aload_n 0, 1) := by decide +kernel
theorem dX6_thing_45 : decode cX6_thing 45 = .ok (.iload_n 1, 1) := by decide +kernel
theorem dX6_thing_46 : decode cX6_thing 46 = .ok (.iload_n 2, 1) := by decide +kernel
theorem dX6_thing_47 : decode cX6_thing 47 = .ok (.iconst 0, 1) := by decide +kernel
theorem dX6_thing_48 : decode cX6_thing 48 = .ok (.invokevirtual 74, 3) := by decide +kernel
theorem dX6_thing_51 : decode cX6_thing 51 = .ok (.ireturn, 1) := by decide +kernel
set_option maxRecDepth 20000 in
theorem ggX6_row_X6_in : GoodIn wsX6_row wsX6_in := goodIn_r _ [6] (by decide +kernel) (by decide +kernel)
set_option maxRecDepth 20000 in
theorem gX6_row_X6_in : GoodIn wsX6_row (va_wsS RX6 66 yX6_in wsX6_in) := goodIn_app (goodIn_of _ (by decide +kernel)) ggX6_row_X6_in
set_option maxRecDepth 20000 in
theorem ggX6_row_X6_found : GoodIn wsX6_row wsX6_found := goodIn_ca (goodIn_r _ [10, 11, 21, 22, 23, 24, 25, 26, 27, 28, 29, 30, 31, 32, 33, 34, 35, 36, 37, 38, 39, 40, 41, 42, 43] (by decide +kernel) (by decide +kernel)) (goodIn_sub (fun _ h => List.mem_cons_of_mem _ (List.mem_append_right _ h)) (by decide +kernel))
set_option maxRecDepth 20000 in
theorem gX6_row_X6_found : GoodIn wsX6_row (wsV RX6 78 RX6 yX6_found wsX6_found) := goodIn_app (goodIn_of _ (by decide +kernel)) ggX6_row_X6_found
set_option maxRecDepth 20000 in
theorem ggX6_row_X6_adds : GoodIn wsX6_row wsX6_adds := goodIn_ca (goodIn_r _ [15, 16, 2, 17, 18, 19, 20, 21, 22, 23, 24, 25, 26, 27, 28, 29, 30, 31, 32, 33, 34, 35, 36, 37, 38, 39, 40, 41, 42, 43] (by decide +kernel) (by decide +kernel)) (goodIn_sub (fun _ h => List.mem_cons_of_mem _ (List.mem_append_right _ h)) (by decide +kernel))
set_option maxRecDepth 20000 in
theorem gX6_row_X6_adds : GoodIn wsX6_row (wsV RX6 74 RX6 yX6_adds wsX6_adds) := goodIn_app (goodIn_of _ (by decide +kernel)) ggX6_row_X6_adds
theorem dX6_row_0 : decode cX6_row 0 = .ok (.aload_n 0, 1) := by decide +kernel
theorem dX6_row_1 : decode cX6_row 1 = .ok (.iconst 0, 1) := by decide +kernel
theorem dX6_row_2 : decode cX6_row 2 = .ok (.putfield 59, 3) := by decide +kernel
theorem dX6_row_5 : decode cX6_row 5 = .ok (.iload_n 1, 1) := by decide +kernel
theorem dX6_row_6 : decode cX6_row 6 = .ok (.iconst 4, 1) := by decide +kernel
theorem dX6_row_7 : decode cX6_row 7 = .ok (.bipush 15, 2) := by decide +kernel
theorem dX6_row_9 : decode cX6_row 9 = .ok (.invokestatic 66, 3) := by decide +kernel
theorem dX6_row_12 : decode cX6_row 12 = .ok (.ifCond .eq 9, 3) := by decide +kernel
theorem dX6_row_15 : decode cX6_row 15 = .ok (.iload_n 2, 1) := by decide +kernel
theorem dX6_row_16 : decode cX6_row 16 = .ok (.bipush 8, 2) := by decide +kernel
theorem dX6_row_18 : decode cX6_row 18 = .ok (.if_icmp .le 6, 3) := by decide +kernel
theorem dX6_row_21 : decode cX6_row 21 = .ok (.bipush (-2), 2) := by decide +kernel
theorem dX6_row_23 : decode cX6_row 23 = .ok (.ireturn, 1) := by decide +kernel
theorem dX6_row_24 : decode cX6_row 24 = .ok (.aload_n 0, 1) := by decide +kernel
theorem dX6_row_25 : decode cX6_row 25 = .ok (.getfield 63, 3) := by decide +kernel
theorem dX6_row_28 : decode cX6_row 28 = .ok (.bipush 100, 2) := by decide +kernel
theorem dX6_row_30 : decode cX6_row 30 = .ok (.if_icmp .ne 6, 3) := by decide +kernel
theorem dX6_row_33 : decode cX6_row 33 = .ok (.bipush (-4), 2) := by decide +kernel
theorem dX6_row_35 : decode cX6_row 35 = .ok (.ireturn, 1) := by decide +kernel
theorem dX6_row_36 : decode cX6_row 36 = .ok (.iload_n 2, 1) := by decide +kernel
theorem dX6_row_37 : decode cX6_row 37 = .ok (.ifCond .ge 11, 3) := by decide +kernel
theorem dX6_row_40 : decode cX6_row 40 = .ok (.aload_n 0, 1) := by decide +kernel
theorem dX6_row_41 : decode cX6_row 41 = .ok (.iconst 5, 1) := by decide +kernel
theorem dX6_row_42 : decode cX6_row 42 = .ok (.invokevirtual 78, 3) := by decide +kernel
theorem dX6_row_45 : decode cX6_row 45 = .ok (.goto 10, 3) := by decide +kernel
theorem dX6_row_48 : decode cX6_row 48 = .ok (.aload_n 0, 1) := by decide +kernel
theorem dX6_row_49 : decode cX6_row 49 = .ok (.iload_n 1, 1) := by decide +kernel
theorem dX6_row_50 : decode cX6_row 50 = .ok (.iconst 0, 1) := by decide +kernel
theorem dX6_row_51 : decode cX6_row 51 = .ok (.iload_n 2, 1) := by decide +kernel
theorem dX6_row_52 : decode cX6_row 52 = .ok (.invokevirtual 74, 3) := by decide +kernel
theorem dX6_row_55 : decode cX6_row 55 = .ok (.ireturn, 1) := by decide +kernel
set_option maxRecDepth 20000 in
theorem ggX6_is_X6_isThing : GoodIn wsX6_is wsX6_isThing := goodIn_r _ [6, 7, 8, 9, 5, 10, 17, 18, 19, 20, 21, 22, 23, 24, 25, 26, 27, 28, 29, 30, 31, 32, 33, 34, 35, 36, 37, 38, 39] (by decide +kernel) (by decide +kernel)
set_option maxRecDepth 20000 in
theorem gX6_is_X6_isThing : GoodIn wsX6_is (wsV RX6 82 RX6 yX6_isThing wsX6_isThing) := goodIn_app (goodIn_of _ (by decide +kernel)) ggX6_is_X6_isThing
set_option maxRecDepth 20000 in
theorem ggX6_is_X6_in : GoodIn wsX6_is wsX6_in := goodIn_r _ [10] (by decide +kernel) (by decide +kernel)
set_option maxRecDepth 20000 in
theorem gX6_is_X6_in : GoodIn wsX6_is (va_wsS RX6 66 yX6_in wsX6_in) := goodIn_app (goodIn_of _ (by decide +kernel)) ggX6_is_X6_in
set_option maxRecDepth 20000 in
theorem ggX6_is_X6_isOf : GoodIn wsX6_is wsX6_isOf := goodIn_ca (goodIn_r _ [14, 15, 16, 17, 18, 19, 20, 21, 22, 23, 24, 25, 26, 27, 28, 29, 30, 31, 32, 33, 34, 35, 36, 37, 38, 39] (by decide +kernel) (by decide +kernel)) (goodIn_sub (fun _ h => List.mem_cons_of_mem _ (List.mem_append_right _ h)) (by decide +kernel))
set_option maxRecDepth 20000 in
theorem gX6_is_X6_isOf : GoodIn wsX6_is (wsV RX6 70 RX6 yX6_isOf wsX6_isOf) := goodIn_app (goodIn_of _ (by decide +kernel)) ggX6_is_X6_isOf
theorem dX6_is_0 : decode cX6_is 0 = .ok (.aload_n 0, 1) := by decide +kernel
theorem dX6_is_1 : decode cX6_is 1 = .ok (.iconst 0, 1) := by decide +kernel
theorem dX6_is_2 : decode cX6_is 2 = .ok (.putfield 59, 3) := by decide +kernel
theorem dX6_is_5 : decode cX6_is 5 = .ok (.aload_n 0, 1) := by decide +kernel
theorem dX6_is_6 : decode cX6_is 6 = .ok (.iload_n 1, 1) := by decide +kernel
theorem dX6_is_7 : decode cX6_is 7 = .ok (.invokevirtual 82, 3) := by decide +kernel
theorem dX6_is_10 : decode cX6_is 10 = .ok (.ifCond .ne 7, 3) := by decide +kernel
theorem dX6_is_13 : decode cX6_is 13 = .ok (.iconst (-1), 1) := by decide +kernel
theorem dX6_is_14 : decode cX6_is 14 = .ok (.goto 32, 3) := by decide +kernel
theorem dX6_is_17 : decode cX6_is 17 = .ok (.iload_n 2, 1) := by decide +kernel
theorem dX6_is_18 : decode cX6_is 18 = .ok (.iconst 0, 1) := by decide +kernel
theorem dX6_is_19 : decode cX6_is 19 = .ok (.bipush 17, 2) := by decide +kernel
theorem dX6_is_21 : decode cX6_is 21 = .ok (.invokestatic 66, 3) := by decide +kernel
theorem dX6_is_24 : decode cX6_is 24 = .ok (.ifCond .ne 8, 3) := by decide +kernel
theorem dX6_is_27 : decode cX6_is 27 = .ok (.bipush (-2), 2) := by decide +kernel
theorem dX6_is_29 : decode cX6_is 29 = .ok (.goto 17, 3) := by decide +kernel
theorem dX6_is_32 : decode cX6_is 32 = .ok (.aload_n 0, 1) := by decide +kernel
theorem dX6_is_33 : decode cX6_is 33 = .ok (.iload_n 1, 1) := by decide +kernel
theorem dX6_is_34 : decode cX6_is 34 = .ok (.iload_n 2, 1) := by decide +kernel
theorem dX6_is_35 : decode cX6_is 35 = .ok (.invokevirtual 70, 3) := by decide +kernel
theorem dX6_is_38 : decode cX6_is 38 = .ok (.ifCond .eq 7, 3) := by decide +kernel
theorem dX6_is_41 : decode cX6_is 41 = .ok (.iconst 1, 1) := by decide +kernel
theorem dX6_is_42 : decode cX6_is 42 = .ok (.goto 4, 3) := by decide +kernel
theorem dX6_is_45 : decode cX6_is 45 = .ok (.iconst 0, 1) := by decide +kernel
theorem dX6_is_46 : decode cX6_is 46 = .ok (.ireturn, 1) := by decide +kernel
set_option maxRecDepth 20000 in
theorem ggX6_more_X6_isThing : GoodIn wsX6_more wsX6_isThing := goodIn_r _ [7, 8, 9, 10, 6, 11, 17, 18, 19, 20, 21, 22, 23, 24, 25, 26, 27, 28, 29, 30, 31, 32, 33, 34, 35, 36, 37, 38, 39] (by decide +kernel) (by decide +kernel)
set_option maxRecDepth 20000 in
theorem gX6_more_X6_isThing : GoodIn wsX6_more (wsV RX6 82 RX6 yX6_isThing wsX6_isThing) := goodIn_app (goodIn_of _ (by decide +kernel)) ggX6_more_X6_isThing
set_option maxRecDepth 20000 in
theorem ggX6_more_X6_isOf : GoodIn wsX6_more wsX6_isOf := goodIn_ca (goodIn_r _ [15, 16, 2, 17, 18, 19, 20, 21, 22, 23, 24, 25, 26, 27, 28, 29, 30, 31, 32, 33, 34, 35, 36, 37, 38, 39] (by decide +kernel) (by decide +kernel)) (goodIn_sub (fun _ h => List.mem_cons_of_mem _ (List.mem_append_right _ h)) (by decide +kernel))
set_option maxRecDepth 20000 in
theorem gX6_more_X6_isOf : GoodIn wsX6_more (wsV RX6 70 RX6 yX6_isOf wsX6_isOf) := goodIn_app (goodIn_of _ (by decide +kernel)) ggX6_more_X6_isOf
theorem dX6_more_0 : decode cX6_more 0 = .ok (.aload_n 0, 1) := by decide +kernel
theorem dX6_more_1 : decode cX6_more 1 = .ok (.iconst 0, 1) := by decide +kernel
theorem dX6_more_2 : decode cX6_more 2 = .ok (.putfield 59, 3) := by decide +kernel
theorem dX6_more_5 : decode cX6_more 5 = .ok (.aload_n 0, 1) := by decide +kernel
theorem dX6_more_6 : decode cX6_more 6 = .ok (.iload_n 1, 1) := by decide +kernel
theorem dX6_more_7 : decode cX6_more 7 = .ok (.invokevirtual 82, 3) := by decide +kernel
theorem dX6_more_10 : decode cX6_more 10 = .ok (.ifCond .ne 5, 3) := by decide +kernel
theorem dX6_more_13 : decode cX6_more 13 = .ok (.iconst (-1), 1) := by decide +kernel
theorem dX6_more_14 : decode cX6_more 14 = .ok (.ireturn, 1) := by decide +kernel
theorem dX6_more_15 : decode cX6_more 15 = .ok (.iconst 0, 1) := by decide +kernel
theorem dX6_more_16 : decode cX6_more 16 = .ok (.istore_n 2, 1) := by decide +kernel
theorem dX6_more_17 : decode cX6_more 17 = .ok (.iload_n 2, 1) := by decide +kernel
theorem dX6_more_18 : decode cX6_more 18 = .ok (.bipush 17, 2) := by decide +kernel
theorem dX6_more_20 : decode cX6_more 20 = .ok (.if_icmp .ge 30, 3) := by decide +kernel
theorem dX6_more_23 : decode cX6_more 23 = .ok (.iload_n 2, 1) := by decide +kernel
theorem dX6_more_24 : decode cX6_more 24 = .ok (.aload_n 0, 1) := by decide +kernel
theorem dX6_more_25 : decode cX6_more 25 = .ok (.getfield 7, 3) := by decide +kernel
theorem dX6_more_28 : decode cX6_more 28 = .ok (.iload_n 1, 1) := by decide +kernel
theorem dX6_more_29 : decode cX6_more 29 = .ok (.iaload, 1) := by decide +kernel
theorem dX6_more_30 : decode cX6_more 30 = .ok (.if_icmp .eq 14, 3) := by decide +kernel
theorem dX6_more_33 : decode cX6_more 33 = .ok (.aload_n 0, 1) := by decide +kernel
theorem dX6_more_34 : decode cX6_more 34 = .ok (.iload_n 1, 1) := by decide +kernel
theorem dX6_more_35 : decode cX6_more 35 = .ok (.iload_n 2, 1) := by decide +kernel
theorem dX6_more_36 : decode cX6_more 36 = .ok (.invokevirtual 70, 3) := by decide +kernel
theorem dX6_more_39 : decode cX6_more 39 = .ok (.ifCond .eq 5, 3) := by decide +kernel
theorem dX6_more_42 : decode cX6_more 42 = .ok (.iload_n 2, 1) := by decide +kernel
theorem dX6_more_43 : decode cX6_more 43 = .ok (.ireturn, 1) := by decide +kernel
theorem dX6_more_44 : decode cX6_more 44 = .ok (.iinc 2 1, 3) := by decide +kernel
theorem dX6_more_47 : decode cX6_more 47 = .ok (.goto (-30), 3) := by decide +kernel
theorem dX6_more_50 : decode cX6_more 50 = .ok (.bipush (-5), 2) := by decide +kernel
theorem dX6_more_52 : decode cX6_more 52 = .ok (.ireturn, 1) := by decide +kernel
set_option maxRecDepth 20000 in
theorem ggX6_weight_X6_isThing : GoodIn wsX6_weight wsX6_isThing := goodIn_r _ [10, 11, 12, 13, 9, 14, 26, 27, 28, 29, 30, 31, 32, 33, 34, 35, 36, 37, 38, 39, 40, 41, 42, 43, 44, 45, 46, 47, 48] (by decide +kernel) (by decide +kernel)
set_option maxRecDepth 20000 in
theorem gX6_weight_X6_isThing : GoodIn wsX6_weight (wsV RX6 82 RX6 yX6_isThing wsX6_isThing) := goodIn_app (goodIn_of _ (by decide +kernel)) ggX6_weight_X6_isThing
set_option maxRecDepth 20000 in
theorem ggX6_weight_X6_in : GoodIn wsX6_weight wsX6_in := goodIn_r _ [14] (by decide +kernel) (by decide +kernel)
set_option maxRecDepth 20000 in
theorem gX6_weight_X6_in : GoodIn wsX6_weight (va_wsS RX6 66 yX6_in wsX6_in) := goodIn_app (goodIn_of _ (by decide +kernel)) ggX6_weight_X6_in
set_option maxRecDepth 20000 in
theorem ggX6_weight_X6_isOf : GoodIn wsX6_weight wsX6_isOf := goodIn_ca (goodIn_r _ [18, 19, 20, 26, 27, 28, 29, 30, 31, 32, 33, 34, 35, 36, 37, 38, 39, 40, 41, 42, 43, 44, 45, 46, 47, 48] (by decide +kernel) (by decide +kernel)) (goodIn_sub (fun _ h => List.mem_cons_of_mem _ (List.mem_append_right _ h)) (by decide +kernel))
set_option maxRecDepth 20000 in
theorem gX6_weight_X6_isOf : GoodIn wsX6_weight (wsV RX6 70 RX6 yX6_isOf wsX6_isOf) := goodIn_app (goodIn_of _ (by decide +kernel)) ggX6_weight_X6_isOf
set_option maxRecDepth 20000 in
theorem ggX6_weight_X6_found : GoodIn wsX6_weight wsX6_found := goodIn_ca (goodIn_r _ [24, 25, 26, 27, 28, 29, 30, 31, 32, 33, 34, 35, 36, 37, 38, 39, 40, 41, 42, 43, 44, 45, 46, 47, 48] (by decide +kernel) (by decide +kernel)) (goodIn_sub (fun _ h => List.mem_cons_of_mem _ (List.mem_append_right _ h)) (by decide +kernel))
set_option maxRecDepth 20000 in
theorem gX6_weight_X6_found : GoodIn wsX6_weight (wsV RX6 78 RX6 yX6_found wsX6_found) := goodIn_app (goodIn_of _ (by decide +kernel)) ggX6_weight_X6_found
theorem dX6_weight_0 : decode cX6_weight 0 = .ok (.aload_n 0, 1) := by decide +kernel
theorem dX6_weight_1 : decode cX6_weight 1 = .ok (.iconst 0, 1) := by decide +kernel
theorem dX6_weight_2 : decode cX6_weight 2 = .ok (.putfield 59, 3) := by decide +kernel
theorem dX6_weight_5 : decode cX6_weight 5 = .ok (.aload_n 0, 1) := by decide +kernel
theorem dX6_weight_6 : decode cX6_weight 6 = .ok (.iload_n 1, 1) := by decide +kernel
theorem dX6_weight_7 : decode cX6_weight 7 = .ok (.invokevirtual 82, 3) := by decide +kernel
theorem dX6_weight_10 : decode cX6_weight 10 = .ok (.ifCond .ne 6, 3) := by decide +kernel
theorem dX6_weight_13 : decode cX6_weight 13 = .ok (.ldc 86, 2) := by decide +kernel
theorem dX6_weight_15 : decode cX6_weight 15 = .ok (.ireturn, 1) := by decide +kernel
theorem dX6_weight_16 : decode cX6_weight 16 = .ok (.iload_n 2, 1) := by decide +kernel
theorem dX6_weight_17 : decode cX6_weight 17 = .ok (.iconst 0, 1) := by decide +kernel
theorem dX6_weight_18 : decode cX6_weight 18 = .ok (.iconst 2, 1) := by decide +kernel
theorem dX6_weight_19 : decode cX6_weight 19 = .ok (.invokestatic 66, 3) := by decide +kernel
theorem dX6_weight_22 : decode cX6_weight 22 = .ok (.ifCond .ne 6, 3) := by decide +kernel
theorem dX6_weight_25 : decode cX6_weight 25 = .ok (.ldc 87, 2) := by decide +kernel
theorem dX6_weight_27 : decode cX6_weight 27 = .ok (.ireturn, 1) := by decide +kernel
theorem dX6_weight_28 : decode cX6_weight 28 = .ok (.aload_n 0, 1) := by decide +kernel
theorem dX6_weight_29 : decode cX6_weight 29 = .ok (.iload_n 1, 1) := by decide +kernel
theorem dX6_weight_30 : decode cX6_weight 30 = .ok (.iload_n 2, 1) := by decide +kernel
theorem dX6_weight_31 : decode cX6_weight 31 = .ok (.invokevirtual 70, 3) := by decide +kernel
theorem dX6_weight_34 : decode cX6_weight 34 = .ok (.ifCond .eq 12, 3) := by decide +kernel
theorem dX6_weight_37 : decode cX6_weight 37 = .ok (.aload_n 0, 1) := by decide +kernel
theorem dX6_weight_38 : decode cX6_weight 38 = .ok (.getfield 13, 3) := by decide +kernel
theorem dX6_weight_41 : decode cX6_weight 41 = .ok (.iload_n 1, 1) := by decide +kernel
theorem dX6_weight_42 : decode cX6_weight 42 = .ok (.iaload, 1) := by decide +kernel
theorem dX6_weight_43 : decode cX6_weight 43 = .ok (.goto 11, 3) := by decide +kernel
theorem dX6_weight_46 : decode cX6_weight 46 = .ok (.ldc 88, 2) := by decide +kernel
theorem dX6_weight_48 : decode cX6_weight 48 = .ok (.aload_n 0, 1) := by decide +kernel
theorem dX6_weight_49 : decode cX6_weight 49 = .ok (.iconst 1, 1) := by decide +kernel
theorem dX6_weight_50 : decode cX6_weight 50 = .ok (.invokevirtual 78, 3) := by decide +kernel
theorem dX6_weight_53 : decode cX6_weight 53 = .ok (.iadd, 1) := by decide +kernel
theorem dX6_weight_54 : decode cX6_weight 54 = .ok (.ireturn, 1) := by decide +kernel
set_option maxRecDepth 20000 in
theorem ggX6_refusal_X6_isThing : GoodIn wsX6_refusal wsX6_isThing := goodIn_r _ [5, 6, 7, 8, 4, 9, 10, 11, 12, 13, 14, 15, 16, 17, 18, 19, 20, 21, 22, 23, 24, 25, 26, 27, 28, 29, 30, 31, 32] (by decide +kernel) (by decide +kernel)
set_option maxRecDepth 20000 in
theorem gX6_refusal_X6_isThing : GoodIn wsX6_refusal (wsV RX6 82 RX6 yX6_isThing wsX6_isThing) := goodIn_app (goodIn_of _ (by decide +kernel)) ggX6_refusal_X6_isThing
set_option maxRecDepth 20000 in
theorem ggX6_refusal_X6_in : GoodIn wsX6_refusal wsX6_in := goodIn_r _ [9] (by decide +kernel) (by decide +kernel)
set_option maxRecDepth 20000 in
theorem gX6_refusal_X6_in : GoodIn wsX6_refusal (va_wsS RX6 66 yX6_in wsX6_in) := goodIn_app (goodIn_of _ (by decide +kernel)) ggX6_refusal_X6_in
theorem dX6_refusal_0 : decode cX6_refusal 0 = .ok (.aload_n 0, 1) := by decide +kernel
theorem dX6_refusal_1 : decode cX6_refusal 1 = .ok (.iload_n 1, 1) := by decide +kernel
theorem dX6_refusal_2 : decode cX6_refusal 2 = .ok (.invokevirtual 82, 3) := by decide +kernel
theorem dX6_refusal_5 : decode cX6_refusal 5 = .ok (.ifCond .ne 7, 3) := by decide +kernel
theorem dX6_refusal_8 : decode cX6_refusal 8 = .ok (.iconst (-1), 1) := by decide +kernel
theorem dX6_refusal_9 : decode cX6_refusal 9 = .ok (.goto 19, 3) := by decide +kernel
theorem dX6_refusal_12 : decode cX6_refusal 12 = .ok (.iload_n 2, 1) := by decide +kernel
theorem dX6_refusal_13 : decode cX6_refusal 13 = .ok (.iload_n 3, 1) := by decide +kernel
theorem dX6_refusal_14 : decode cX6_refusal 14 = .ok (.iload 4, 2) := by decide +kernel
theorem dX6_refusal_16 : decode cX6_refusal 16 = .ok (.invokestatic 66, 3) := by decide +kernel
theorem dX6_refusal_19 : decode cX6_refusal 19 = .ok (.ifCond .ne 8, 3) := by decide +kernel
theorem dX6_refusal_22 : decode cX6_refusal 22 = .ok (.bipush (-2), 2) := by decide +kernel
theorem dX6_refusal_24 : decode cX6_refusal 24 = .ok (.goto 4, 3) := by decide +kernel
theorem dX6_refusal_27 : decode cX6_refusal 27 = .ok (.iconst 0, 1) := by decide +kernel
theorem dX6_refusal_28 : decode cX6_refusal 28 = .ok (.ireturn, 1) := by decide +kernel
set_option maxRecDepth 20000 in
theorem ggX6_length_X6_refusal : GoodIn wsX6_length wsX6_refusal := goodIn_r _ [7, 8, 9, 10, 6, 11, 12, 13, 14, 15, 27, 28, 29, 30, 31, 32, 33, 34, 35, 36, 37, 38, 39, 40, 41, 42, 43, 44, 45, 46, 47, 48, 49] (by decide +kernel) (by decide +kernel)
set_option maxRecDepth 20000 in
theorem gX6_length_X6_refusal : GoodIn wsX6_length (wsV RX6 89 RX6 yX6_refusal wsX6_refusal) := goodIn_app (goodIn_of _ (by decide +kernel)) ggX6_length_X6_refusal
set_option maxRecDepth 20000 in
theorem ggX6_length_X6_isOf : GoodIn wsX6_length wsX6_isOf := goodIn_ca (goodIn_r _ [19, 20, 21, 27, 28, 29, 30, 31, 32, 33, 34, 35, 36, 37, 38, 39, 40, 41, 42, 43, 44, 45, 46, 47, 48, 49] (by decide +kernel) (by decide +kernel)) (goodIn_sub (fun _ h => List.mem_cons_of_mem _ (List.mem_append_right _ h)) (by decide +kernel))
set_option maxRecDepth 20000 in
theorem gX6_length_X6_isOf : GoodIn wsX6_length (wsV RX6 70 RX6 yX6_isOf wsX6_isOf) := goodIn_app (goodIn_of _ (by decide +kernel)) ggX6_length_X6_isOf
set_option maxRecDepth 20000 in
theorem ggX6_length_X6_found : GoodIn wsX6_length wsX6_found := goodIn_ca (goodIn_r _ [25, 26, 27, 28, 29, 30, 31, 32, 33, 34, 35, 36, 37, 38, 39, 40, 41, 42, 43, 44, 45, 46, 47, 48, 49] (by decide +kernel) (by decide +kernel)) (goodIn_sub (fun _ h => List.mem_cons_of_mem _ (List.mem_append_right _ h)) (by decide +kernel))
set_option maxRecDepth 20000 in
theorem gX6_length_X6_found : GoodIn wsX6_length (wsV RX6 78 RX6 yX6_found wsX6_found) := goodIn_app (goodIn_of _ (by decide +kernel)) ggX6_length_X6_found
theorem dX6_length_0 : decode cX6_length 0 = .ok (.aload_n 0, 1) := by decide +kernel
theorem dX6_length_1 : decode cX6_length 1 = .ok (.iconst 0, 1) := by decide +kernel
theorem dX6_length_2 : decode cX6_length 2 = .ok (.putfield 59, 3) := by decide +kernel
theorem dX6_length_5 : decode cX6_length 5 = .ok (.aload_n 0, 1) := by decide +kernel
theorem dX6_length_6 : decode cX6_length 6 = .ok (.iload_n 1, 1) := by decide +kernel
theorem dX6_length_7 : decode cX6_length 7 = .ok (.iload_n 2, 1) := by decide +kernel
theorem dX6_length_8 : decode cX6_length 8 = .ok (.iconst 4, 1) := by decide +kernel
theorem dX6_length_9 : decode cX6_length 9 = .ok (.bipush 15, 2) := by decide +kernel
theorem dX6_length_11 : decode cX6_length 11 = .ok (.invokevirtual 89, 3) := by decide +kernel
theorem dX6_length_14 : decode cX6_length 14 = .ok (.istore_n 3, 1) := by decide +kernel
theorem dX6_length_15 : decode cX6_length 15 = .ok (.iload_n 3, 1) := by decide +kernel
theorem dX6_length_16 : decode cX6_length 16 = .ok (.ifCond .ge 7, 3) := by decide +kernel
theorem dX6_length_19 : decode cX6_length 19 = .ok (.iload_n 3, 1) := by decide +kernel
theorem dX6_length_20 : decode cX6_length 20 = .ok (.goto 26, 3) := by decide +kernel
theorem dX6_length_23 : decode cX6_length 23 = .ok (.aload_n 0, 1) := by decide +kernel
theorem dX6_length_24 : decode cX6_length 24 = .ok (.iload_n 1, 1) := by decide +kernel
theorem dX6_length_25 : decode cX6_length 25 = .ok (.iload_n 2, 1) := by decide +kernel
theorem dX6_length_26 : decode cX6_length 26 = .ok (.invokevirtual 70, 3) := by decide +kernel
theorem dX6_length_29 : decode cX6_length 29 = .ok (.ifCond .eq 12, 3) := by decide +kernel
theorem dX6_length_32 : decode cX6_length 32 = .ok (.aload_n 0, 1) := by decide +kernel
theorem dX6_length_33 : decode cX6_length 33 = .ok (.getfield 16, 3) := by decide +kernel
theorem dX6_length_36 : decode cX6_length 36 = .ok (.iload_n 1, 1) := by decide +kernel
theorem dX6_length_37 : decode cX6_length 37 = .ok (.iaload, 1) := by decide +kernel
theorem dX6_length_38 : decode cX6_length 38 = .ok (.goto 8, 3) := by decide +kernel
theorem dX6_length_41 : decode cX6_length 41 = .ok (.aload_n 0, 1) := by decide +kernel
theorem dX6_length_42 : decode cX6_length 42 = .ok (.iconst 1, 1) := by decide +kernel
theorem dX6_length_43 : decode cX6_length 43 = .ok (.invokevirtual 78, 3) := by decide +kernel
theorem dX6_length_46 : decode cX6_length 46 = .ok (.ireturn, 1) := by decide +kernel
theorem dX6_low_0 : decode cX6_low 0 = .ok (.iload_n 0, 1) := by decide +kernel
theorem dX6_low_1 : decode cX6_low 1 = .ok (.iconst 4, 1) := by decide +kernel
theorem dX6_low_2 : decode cX6_low 2 = .ok (.if_icmp .ne 13, 3) := by decide +kernel
theorem dX6_low_5 : decode cX6_low 5 = .ok (.lload_n 1, 1) := by decide +kernel
theorem dX6_low_6 : decode cX6_low 6 = .ok (.bipush 56, 2) := by decide +kernel
theorem dX6_low_8 : decode cX6_low 8 = .ok (.lshl, 1) := by decide +kernel
theorem dX6_low_9 : decode cX6_low 9 = .ok (.bipush 56, 2) := by decide +kernel
theorem dX6_low_11 : decode cX6_low 11 = .ok (.lshr, 1) := by decide +kernel
theorem dX6_low_12 : decode cX6_low 12 = .ok (.goto 19, 3) := by decide +kernel
theorem dX6_low_15 : decode cX6_low 15 = .ok (.iload_n 0, 1) := by decide +kernel
theorem dX6_low_16 : decode cX6_low 16 = .ok (.iconst 5, 1) := by decide +kernel
theorem dX6_low_17 : decode cX6_low 17 = .ok (.if_icmp .ne 13, 3) := by decide +kernel
theorem dX6_low_20 : decode cX6_low 20 = .ok (.lload_n 1, 1) := by decide +kernel
theorem dX6_low_21 : decode cX6_low 21 = .ok (.bipush 32, 2) := by decide +kernel
theorem dX6_low_23 : decode cX6_low 23 = .ok (.lshl, 1) := by decide +kernel
theorem dX6_low_24 : decode cX6_low 24 = .ok (.bipush 32, 2) := by decide +kernel
theorem dX6_low_26 : decode cX6_low 26 = .ok (.lshr, 1) := by decide +kernel
theorem dX6_low_27 : decode cX6_low 27 = .ok (.goto 4, 3) := by decide +kernel
theorem dX6_low_30 : decode cX6_low 30 = .ok (.lload_n 1, 1) := by decide +kernel
theorem dX6_low_31 : decode cX6_low 31 = .ok (.lreturn, 1) := by decide +kernel
set_option maxRecDepth 20000 in
theorem ggX6_put_X6_refusal : GoodIn wsX6_put wsX6_refusal := goodIn_r _ [8, 9, 10, 11, 7, 12, 13, 14, 15, 16, 31, 32, 33, 34, 35, 36, 37, 38, 39, 40, 41, 42, 43, 44, 45, 46, 47, 48, 49, 50, 51, 52, 53] (by decide +kernel) (by decide +kernel)
set_option maxRecDepth 20000 in
theorem gX6_put_X6_refusal : GoodIn wsX6_put (wsV RX6 89 RX6 yX6_refusal wsX6_refusal) := goodIn_app (goodIn_of _ (by decide +kernel)) ggX6_put_X6_refusal
set_option maxRecDepth 20000 in
theorem ggX6_put_X6_isOf : GoodIn wsX6_put wsX6_isOf := goodIn_ca (goodIn_r _ [20, 21, 22, 31, 32, 33, 34, 35, 36, 37, 38, 39, 40, 41, 42, 43, 44, 45, 46, 47, 48, 49, 50, 51, 52, 53] (by decide +kernel) (by decide +kernel)) (goodIn_sub (fun _ h => List.mem_cons_of_mem _ (List.mem_append_right _ h)) (by decide +kernel))
set_option maxRecDepth 20000 in
theorem gX6_put_X6_isOf : GoodIn wsX6_put (wsV RX6 70 RX6 yX6_isOf wsX6_isOf) := goodIn_app (goodIn_of _ (by decide +kernel)) ggX6_put_X6_isOf
set_option maxRecDepth 20000 in
theorem ggX6_put_X6_found : GoodIn wsX6_put wsX6_found := goodIn_ca (goodIn_r _ [26, 27, 31, 32, 33, 34, 35, 36, 37, 38, 39, 40, 41, 42, 43, 44, 45, 46, 47, 48, 49, 50, 51, 52, 53] (by decide +kernel) (by decide +kernel)) (goodIn_sub (fun _ h => List.mem_cons_of_mem _ (List.mem_append_right _ h)) (by decide +kernel))
set_option maxRecDepth 20000 in
theorem gX6_put_X6_found : GoodIn wsX6_put (wsV RX6 78 RX6 yX6_found wsX6_found) := goodIn_app (goodIn_of _ (by decide +kernel)) ggX6_put_X6_found
set_option maxRecDepth 20000 in
theorem ggX6_put_X6_in : GoodIn wsX6_put wsX6_in := goodIn_r _ [16] (by decide +kernel) (by decide +kernel)
set_option maxRecDepth 20000 in
theorem gX6_put_X6_in : GoodIn wsX6_put (va_wsS RX6 66 yX6_in wsX6_in) := goodIn_app (goodIn_of _ (by decide +kernel)) ggX6_put_X6_in
set_option maxRecDepth 20000 in
theorem ggX6_put_X6_low : GoodIn wsX6_put wsX6_low := goodIn_r _ [30] (by decide +kernel) (by decide +kernel)
set_option maxRecDepth 20000 in
theorem gX6_put_X6_low : GoodIn wsX6_put (va_wsS RX6 93 yX6_low wsX6_low) := goodIn_app (goodIn_of _ (by decide +kernel)) ggX6_put_X6_low
theorem dX6_put_0 : decode cX6_put 0 = .ok (.aload_n 0, 1) := by decide +kernel
theorem dX6_put_1 : decode cX6_put 1 = .ok (.iconst 0, 1) := by decide +kernel
theorem dX6_put_2 : decode cX6_put 2 = .ok (.putfield 59, 3) := by decide +kernel
theorem dX6_put_5 : decode cX6_put 5 = .ok (.aload_n 0, 1) := by decide +kernel
theorem dX6_put_6 : decode cX6_put 6 = .ok (.iload_n 1, 1) := by decide +kernel
theorem dX6_put_7 : decode cX6_put 7 = .ok (.iload_n 2, 1) := by decide +kernel
theorem dX6_put_8 : decode cX6_put 8 = .ok (.iconst 4, 1) := by decide +kernel
theorem dX6_put_9 : decode cX6_put 9 = .ok (.bipush 6, 2) := by decide +kernel
theorem dX6_put_11 : decode cX6_put 11 = .ok (.invokevirtual 89, 3) := by decide +kernel
theorem dX6_put_14 : decode cX6_put 14 = .ok (.istore 6, 2) := by decide +kernel
theorem dX6_put_16 : decode cX6_put 16 = .ok (.iload 6, 2) := by decide +kernel
theorem dX6_put_18 : decode cX6_put 18 = .ok (.ifCond .ge 6, 3) := by decide +kernel
theorem dX6_put_21 : decode cX6_put 21 = .ok (.iload 6, 2) := by decide +kernel
theorem dX6_put_23 : decode cX6_put 23 = .ok (.ireturn, 1) := by decide +kernel
theorem dX6_put_24 : decode cX6_put 24 = .ok (.aload_n 0, 1) := by decide +kernel
theorem dX6_put_25 : decode cX6_put 25 = .ok (.iload_n 1, 1) := by decide +kernel
theorem dX6_put_26 : decode cX6_put 26 = .ok (.iload_n 2, 1) := by decide +kernel
theorem dX6_put_27 : decode cX6_put 27 = .ok (.invokevirtual 70, 3) := by decide +kernel
theorem dX6_put_30 : decode cX6_put 30 = .ok (.ifCond .ne 9, 3) := by decide +kernel
theorem dX6_put_33 : decode cX6_put 33 = .ok (.aload_n 0, 1) := by decide +kernel
theorem dX6_put_34 : decode cX6_put 34 = .ok (.iconst 1, 1) := by decide +kernel
theorem dX6_put_35 : decode cX6_put 35 = .ok (.invokevirtual 78, 3) := by decide +kernel
theorem dX6_put_38 : decode cX6_put 38 = .ok (.ireturn, 1) := by decide +kernel
theorem dX6_put_39 : decode cX6_put 39 = .ok (.iload_n 3, 1) := by decide +kernel
theorem dX6_put_40 : decode cX6_put 40 = .ok (.iconst 0, 1) := by decide +kernel
theorem dX6_put_41 : decode cX6_put 41 = .ok (.aload_n 0, 1) := by decide +kernel
theorem dX6_put_42 : decode cX6_put 42 = .ok (.getfield 16, 3) := by decide +kernel
theorem dX6_put_45 : decode cX6_put 45 = .ok (.iload_n 1, 1) := by decide +kernel
theorem dX6_put_46 : decode cX6_put 46 = .ok (.iaload, 1) := by decide +kernel
theorem dX6_put_47 : decode cX6_put 47 = .ok (.iconst 1, 1) := by decide +kernel
theorem dX6_put_48 : decode cX6_put 48 = .ok (.isub, 1) := by decide +kernel
theorem dX6_put_49 : decode cX6_put 49 = .ok (.invokestatic 66, 3) := by decide +kernel
theorem dX6_put_52 : decode cX6_put 52 = .ok (.ifCond .ne 9, 3) := by decide +kernel
theorem dX6_put_55 : decode cX6_put 55 = .ok (.aload_n 0, 1) := by decide +kernel
theorem dX6_put_56 : decode cX6_put 56 = .ok (.iconst 3, 1) := by decide +kernel
theorem dX6_put_57 : decode cX6_put 57 = .ok (.invokevirtual 78, 3) := by decide +kernel
theorem dX6_put_60 : decode cX6_put 60 = .ok (.ireturn, 1) := by decide +kernel
theorem dX6_put_61 : decode cX6_put 61 = .ok (.aload_n 0, 1) := by decide +kernel
theorem dX6_put_62 : decode cX6_put 62 = .ok (.getfield 19, 3) := by decide +kernel
theorem dX6_put_65 : decode cX6_put 65 = .ok (.bipush 8, 2) := by decide +kernel
theorem dX6_put_67 : decode cX6_put 67 = .ok (.iload_n 1, 1) := by decide +kernel
theorem dX6_put_68 : decode cX6_put 68 = .ok (.imul, 1) := by decide +kernel
theorem dX6_put_69 : decode cX6_put 69 = .ok (.iload_n 3, 1) := by decide +kernel
theorem dX6_put_70 : decode cX6_put 70 = .ok (.iadd, 1) := by decide +kernel
theorem dX6_put_71 : decode cX6_put 71 = .ok (.iload_n 2, 1) := by decide +kernel
theorem dX6_put_72 : decode cX6_put 72 = .ok (.lload 4, 2) := by decide +kernel
theorem dX6_put_74 : decode cX6_put 74 = .ok (.invokestatic 93, 3) := by decide +kernel
theorem dX6_put_77 : decode cX6_put 77 = .ok (.lastore, 1) := by decide +kernel
theorem dX6_put_78 : decode cX6_put 78 = .ok (.iconst 1, 1) := by decide +kernel
theorem dX6_put_79 : decode cX6_put 79 = .ok (.ireturn, 1) := by decide +kernel
set_option maxRecDepth 20000 in
theorem ggX6_number_X6_refusal : GoodIn wsX6_number wsX6_refusal := goodIn_r _ [8, 9, 10, 11, 7, 12, 13, 14, 15, 16, 23, 24, 25, 26, 27, 28, 29, 30, 31, 32, 33, 34, 35, 36, 37, 38, 39, 40, 41, 42, 43, 44, 45] (by decide +kernel) (by decide +kernel)
set_option maxRecDepth 20000 in
theorem gX6_number_X6_refusal : GoodIn wsX6_number (wsV RX6 89 RX6 yX6_refusal wsX6_refusal) := goodIn_app (goodIn_of _ (by decide +kernel)) ggX6_number_X6_refusal
set_option maxRecDepth 20000 in
theorem ggX6_number_X6_isOf : GoodIn wsX6_number wsX6_isOf := goodIn_ca (goodIn_r _ [20, 21, 22, 23, 24, 25, 26, 27, 28, 29, 30, 31, 32, 33, 34, 35, 36, 37, 38, 39, 40, 41, 42, 43, 44, 45] (by decide +kernel) (by decide +kernel)) (goodIn_sub (fun _ h => List.mem_cons_of_mem _ (List.mem_append_right _ h)) (by decide +kernel))
set_option maxRecDepth 20000 in
theorem gX6_number_X6_isOf : GoodIn wsX6_number (wsV RX6 70 RX6 yX6_isOf wsX6_isOf) := goodIn_app (goodIn_of _ (by decide +kernel)) ggX6_number_X6_isOf
set_option maxRecDepth 20000 in
theorem ggX6_number_X6_in : GoodIn wsX6_number wsX6_in := goodIn_r _ [16] (by decide +kernel) (by decide +kernel)
set_option maxRecDepth 20000 in
theorem gX6_number_X6_in : GoodIn wsX6_number (va_wsS RX6 66 yX6_in wsX6_in) := goodIn_app (goodIn_of _ (by decide +kernel)) ggX6_number_X6_in
theorem dX6_number_0 : decode cX6_number 0 = .ok (.aload_n 0, 1) := by decide +kernel
theorem dX6_number_1 : decode cX6_number 1 = .ok (.iconst 0, 1) := by decide +kernel
theorem dX6_number_2 : decode cX6_number 2 = .ok (.putfield 59, 3) := by decide +kernel
theorem dX6_number_5 : decode cX6_number 5 = .ok (.aload_n 0, 1) := by decide +kernel
theorem dX6_number_6 : decode cX6_number 6 = .ok (.iload_n 1, 1) := by decide +kernel
theorem dX6_number_7 : decode cX6_number 7 = .ok (.iload_n 2, 1) := by decide +kernel
theorem dX6_number_8 : decode cX6_number 8 = .ok (.iconst 4, 1) := by decide +kernel
theorem dX6_number_9 : decode cX6_number 9 = .ok (.bipush 6, 2) := by decide +kernel
theorem dX6_number_11 : decode cX6_number 11 = .ok (.invokevirtual 89, 3) := by decide +kernel
theorem dX6_number_14 : decode cX6_number 14 = .ok (.ifCond .ge 5, 3) := by decide +kernel
theorem dX6_number_17 : decode cX6_number 17 = .ok (.lconst 0, 1) := by decide +kernel
theorem dX6_number_18 : decode cX6_number 18 = .ok (.lreturn, 1) := by decide +kernel
theorem dX6_number_19 : decode cX6_number 19 = .ok (.aload_n 0, 1) := by decide +kernel
theorem dX6_number_20 : decode cX6_number 20 = .ok (.aload_n 0, 1) := by decide +kernel
theorem dX6_number_21 : decode cX6_number 21 = .ok (.iload_n 1, 1) := by decide +kernel
theorem dX6_number_22 : decode cX6_number 22 = .ok (.iload_n 2, 1) := by decide +kernel
theorem dX6_number_23 : decode cX6_number 23 = .ok (.invokevirtual 70, 3) := by decide +kernel
theorem dX6_number_26 : decode cX6_number 26 = .ok (.ifCond .ne 7, 3) := by decide +kernel
theorem dX6_number_29 : decode cX6_number 29 = .ok (.iconst 1, 1) := by decide +kernel
theorem dX6_number_30 : decode cX6_number 30 = .ok (.goto 24, 3) := by decide +kernel
theorem dX6_number_33 : decode cX6_number 33 = .ok (.iload_n 3, 1) := by decide +kernel
theorem dX6_number_34 : decode cX6_number 34 = .ok (.iconst 0, 1) := by decide +kernel
theorem dX6_number_35 : decode cX6_number 35 = .ok (.aload_n 0, 1) := by decide +kernel
theorem dX6_number_36 : decode cX6_number 36 = .ok (.getfield 16, 3) := by decide +kernel
theorem dX6_number_39 : decode cX6_number 39 = .ok (.iload_n 1, 1) := by decide +kernel
theorem dX6_number_40 : decode cX6_number 40 = .ok (.iaload, 1) := by decide +kernel
theorem dX6_number_41 : decode cX6_number 41 = .ok (.iconst 1, 1) := by decide +kernel
theorem dX6_number_42 : decode cX6_number 42 = .ok (.isub, 1) := by decide +kernel
theorem dX6_number_43 : decode cX6_number 43 = .ok (.invokestatic 66, 3) := by decide +kernel
theorem dX6_number_46 : decode cX6_number 46 = .ok (.ifCond .ne 7, 3) := by decide +kernel
theorem dX6_number_49 : decode cX6_number 49 = .ok (.iconst 2, 1) := by decide +kernel
theorem dX6_number_50 : decode cX6_number 50 = .ok (.goto 4, 3) := by decide +kernel
theorem dX6_number_53 : decode cX6_number 53 = .ok (.iconst 0, 1) := by decide +kernel
theorem dX6_number_54 : decode cX6_number 54 = .ok (.putfield 59, 3) := by decide +kernel
theorem dX6_number_57 : decode cX6_number 57 = .ok (.aload_n 0, 1) := by decide +kernel
theorem dX6_number_58 : decode cX6_number 58 = .ok (.getfield 59, 3) := by decide +kernel
theorem dX6_number_61 : decode cX6_number 61 = .ok (.ifCond .le 7, 3) := by decide +kernel
theorem dX6_number_64 : decode cX6_number 64 = .ok (.lconst 0, 1) := by decide +kernel
theorem dX6_number_65 : decode cX6_number 65 = .ok (.goto 14, 3) := by decide +kernel
theorem dX6_number_68 : decode cX6_number 68 = .ok (.aload_n 0, 1) := by decide +kernel
theorem dX6_number_69 : decode cX6_number 69 = .ok (.getfield 19, 3) := by decide +kernel
theorem dX6_number_72 : decode cX6_number 72 = .ok (.bipush 8, 2) := by decide +kernel
theorem dX6_number_74 : decode cX6_number 74 = .ok (.iload_n 1, 1) := by decide +kernel
theorem dX6_number_75 : decode cX6_number 75 = .ok (.imul, 1) := by decide +kernel
theorem dX6_number_76 : decode cX6_number 76 = .ok (.iload_n 3, 1) := by decide +kernel
theorem dX6_number_77 : decode cX6_number 77 = .ok (.iadd, 1) := by decide +kernel
theorem dX6_number_78 : decode cX6_number 78 = .ok (.laload, 1) := by decide +kernel
theorem dX6_number_79 : decode cX6_number 79 = .ok (.lreturn, 1) := by decide +kernel
set_option maxRecDepth 20000 in
theorem ggX6_lays_X6_isOf : GoodIn wsX6_lays wsX6_isOf := goodIn_ca (goodIn_r _ [9, 10, 3, 18, 19, 20, 21, 22, 23, 24, 25, 26, 27, 28, 29, 30, 31, 32, 33, 34, 35, 36, 37, 38, 39, 40] (by decide +kernel) (by decide +kernel)) (goodIn_sub (fun _ h => List.mem_cons_of_mem _ (List.mem_append_right _ h)) (by decide +kernel))
set_option maxRecDepth 20000 in
theorem gX6_lays_X6_isOf : GoodIn wsX6_lays (wsV RX6 70 RX6 yX6_isOf wsX6_isOf) := goodIn_app (goodIn_of _ (by decide +kernel)) ggX6_lays_X6_isOf
set_option maxRecDepth 20000 in
theorem ggX6_lays_X6_passes : GoodIn wsX6_lays wsX6_passes := goodIn_ca (goodIn_r _ [14, 5, 6, 7, 8, 9, 10, 3, 18, 19, 20, 21, 22, 23, 24, 25, 26, 27, 28, 29, 30, 31, 32, 33, 34, 35, 36, 37, 38, 39, 40] (by decide +kernel) (by decide +kernel)) (goodIn_sub (fun _ h => List.mem_cons_of_mem _ (List.mem_append_right _ h)) (by decide +kernel))
set_option maxRecDepth 20000 in
theorem gX6_lays_X6_passes : GoodIn wsX6_lays (wsV RX6 97 RX6 yX6_passes wsX6_passes) := goodIn_app (goodIn_of _ (by decide +kernel)) ggX6_lays_X6_passes
set_option maxRecDepth 20000 in
theorem ggX6_lays_X6_in : GoodIn wsX6_lays wsX6_in := goodIn_r _ [17] (by decide +kernel) (by decide +kernel)
set_option maxRecDepth 20000 in
theorem gX6_lays_X6_in : GoodIn wsX6_lays (va_wsS RX6 66 yX6_in wsX6_in) := goodIn_app (goodIn_of _ (by decide +kernel)) ggX6_lays_X6_in
theorem dX6_lays_0 : decode cX6_lays 0 = .ok (.aload_n 0, 1) := by decide +kernel
theorem dX6_lays_1 : decode cX6_lays 1 = .ok (.iload_n 1, 1) := by decide +kernel
theorem dX6_lays_2 : decode cX6_lays 2 = .ok (.iload_n 2, 1) := by decide +kernel
theorem dX6_lays_3 : decode cX6_lays 3 = .ok (.invokevirtual 70, 3) := by decide +kernel
theorem dX6_lays_6 : decode cX6_lays 6 = .ok (.ifCond .eq 18, 3) := by decide +kernel
theorem dX6_lays_9 : decode cX6_lays 9 = .ok (.aload_n 0, 1) := by decide +kernel
theorem dX6_lays_10 : decode cX6_lays 10 = .ok (.iload 4, 2) := by decide +kernel
theorem dX6_lays_12 : decode cX6_lays 12 = .ok (.aload_n 0, 1) := by decide +kernel
theorem dX6_lays_13 : decode cX6_lays 13 = .ok (.getfield 32, 3) := by decide +kernel
theorem dX6_lays_16 : decode cX6_lays 16 = .ok (.iload_n 2, 1) := by decide +kernel
theorem dX6_lays_17 : decode cX6_lays 17 = .ok (.iaload, 1) := by decide +kernel
theorem dX6_lays_18 : decode cX6_lays 18 = .ok (.invokevirtual 97, 3) := by decide +kernel
theorem dX6_lays_21 : decode cX6_lays 21 = .ok (.ifCond .ne 5, 3) := by decide +kernel
theorem dX6_lays_24 : decode cX6_lays 24 = .ok (.iconst 1, 1) := by decide +kernel
theorem dX6_lays_25 : decode cX6_lays 25 = .ok (.ireturn, 1) := by decide +kernel
theorem dX6_lays_26 : decode cX6_lays 26 = .ok (.iload_n 3, 1) := by decide +kernel
theorem dX6_lays_27 : decode cX6_lays 27 = .ok (.iconst 0, 1) := by decide +kernel
theorem dX6_lays_28 : decode cX6_lays 28 = .ok (.aload_n 0, 1) := by decide +kernel
theorem dX6_lays_29 : decode cX6_lays 29 = .ok (.getfield 16, 3) := by decide +kernel
theorem dX6_lays_32 : decode cX6_lays 32 = .ok (.iload_n 1, 1) := by decide +kernel
theorem dX6_lays_33 : decode cX6_lays 33 = .ok (.iaload, 1) := by decide +kernel
theorem dX6_lays_34 : decode cX6_lays 34 = .ok (.iconst 1, 1) := by decide +kernel
theorem dX6_lays_35 : decode cX6_lays 35 = .ok (.isub, 1) := by decide +kernel
theorem dX6_lays_36 : decode cX6_lays 36 = .ok (.invokestatic 66, 3) := by decide +kernel
theorem dX6_lays_39 : decode cX6_lays 39 = .ok (.ifCond .ne 5, 3) := by decide +kernel
theorem dX6_lays_42 : decode cX6_lays 42 = .ok (.iconst 3, 1) := by decide +kernel
theorem dX6_lays_43 : decode cX6_lays 43 = .ok (.ireturn, 1) := by decide +kernel
theorem dX6_lays_44 : decode cX6_lays 44 = .ok (.aload_n 0, 1) := by decide +kernel
theorem dX6_lays_45 : decode cX6_lays 45 = .ok (.iload 4, 2) := by decide +kernel
theorem dX6_lays_47 : decode cX6_lays 47 = .ok (.aload_n 0, 1) := by decide +kernel
theorem dX6_lays_48 : decode cX6_lays 48 = .ok (.getfield 32, 3) := by decide +kernel
theorem dX6_lays_51 : decode cX6_lays 51 = .ok (.aload_n 0, 1) := by decide +kernel
theorem dX6_lays_52 : decode cX6_lays 52 = .ok (.getfield 7, 3) := by decide +kernel
theorem dX6_lays_55 : decode cX6_lays 55 = .ok (.iload_n 1, 1) := by decide +kernel
theorem dX6_lays_56 : decode cX6_lays 56 = .ok (.iaload, 1) := by decide +kernel
theorem dX6_lays_57 : decode cX6_lays 57 = .ok (.iaload, 1) := by decide +kernel
theorem dX6_lays_58 : decode cX6_lays 58 = .ok (.invokevirtual 97, 3) := by decide +kernel
theorem dX6_lays_61 : decode cX6_lays 61 = .ok (.ifCond .ne 5, 3) := by decide +kernel
theorem dX6_lays_64 : decode cX6_lays 64 = .ok (.iconst 4, 1) := by decide +kernel
theorem dX6_lays_65 : decode cX6_lays 65 = .ok (.ireturn, 1) := by decide +kernel
theorem dX6_lays_66 : decode cX6_lays 66 = .ok (.aload_n 0, 1) := by decide +kernel
theorem dX6_lays_67 : decode cX6_lays 67 = .ok (.getfield 23, 3) := by decide +kernel
theorem dX6_lays_70 : decode cX6_lays 70 = .ok (.bipush 8, 2) := by decide +kernel
theorem dX6_lays_72 : decode cX6_lays 72 = .ok (.iload_n 1, 1) := by decide +kernel
theorem dX6_lays_73 : decode cX6_lays 73 = .ok (.imul, 1) := by decide +kernel
theorem dX6_lays_74 : decode cX6_lays 74 = .ok (.iload_n 3, 1) := by decide +kernel
theorem dX6_lays_75 : decode cX6_lays 75 = .ok (.iadd, 1) := by decide +kernel
theorem dX6_lays_76 : decode cX6_lays 76 = .ok (.iload 4, 2) := by decide +kernel
theorem dX6_lays_78 : decode cX6_lays 78 = .ok (.iastore, 1) := by decide +kernel
theorem dX6_lays_79 : decode cX6_lays 79 = .ok (.iconst 0, 1) := by decide +kernel
theorem dX6_lays_80 : decode cX6_lays 80 = .ok (.ireturn, 1) := by decide +kernel
set_option maxRecDepth 20000 in
theorem ggX6_lay_X6_isThing : GoodIn wsX6_lay wsX6_isThing := goodIn_r _ [6, 7, 8, 9, 5, 10, 33, 34, 35, 36, 37, 38, 39, 40, 41, 42, 43, 44, 45, 46, 47, 48, 49, 50, 51, 52, 53, 54, 55] (by decide +kernel) (by decide +kernel)
set_option maxRecDepth 20000 in
theorem gX6_lay_X6_isThing : GoodIn wsX6_lay (wsV RX6 82 RX6 yX6_isThing wsX6_isThing) := goodIn_app (goodIn_of _ (by decide +kernel)) ggX6_lay_X6_isThing
set_option maxRecDepth 20000 in
theorem ggX6_lay_X6_in : GoodIn wsX6_lay wsX6_in := goodIn_r _ [10] (by decide +kernel) (by decide +kernel)
set_option maxRecDepth 20000 in
theorem gX6_lay_X6_in : GoodIn wsX6_lay (va_wsS RX6 66 yX6_in wsX6_in) := goodIn_app (goodIn_of _ (by decide +kernel)) ggX6_lay_X6_in
set_option maxRecDepth 20000 in
theorem ggX6_lay_X6_lays : GoodIn wsX6_lay wsX6_lays := goodIn_ca (goodIn_r _ [14, 15, 16, 17, 18, 19, 20, 21, 5, 22, 23, 24, 25, 26, 27, 8, 9, 10, 33, 34, 35, 36, 37, 38, 39, 40, 41, 42, 43, 44, 45, 46, 47, 48, 49, 50, 51, 52, 53, 54, 55] (by decide +kernel) (by decide +kernel)) (goodIn_sub (fun _ h => List.mem_cons_of_mem _ (List.mem_append_right _ h)) (by decide +kernel))
set_option maxRecDepth 20000 in
theorem gX6_lay_X6_lays : GoodIn wsX6_lay (wsV RX6 100 RX6 yX6_lays wsX6_lays) := goodIn_app (goodIn_of _ (by decide +kernel)) ggX6_lay_X6_lays
set_option maxRecDepth 20000 in
theorem ggX6_lay_X6_found : GoodIn wsX6_lay wsX6_found := goodIn_ca (goodIn_r _ [31, 32, 33, 34, 35, 36, 37, 38, 39, 40, 41, 42, 43, 44, 45, 46, 47, 48, 49, 50, 51, 52, 53, 54, 55] (by decide +kernel) (by decide +kernel)) (goodIn_sub (fun _ h => List.mem_cons_of_mem _ (List.mem_append_right _ h)) (by decide +kernel))
set_option maxRecDepth 20000 in
theorem gX6_lay_X6_found : GoodIn wsX6_lay (wsV RX6 78 RX6 yX6_found wsX6_found) := goodIn_app (goodIn_of _ (by decide +kernel)) ggX6_lay_X6_found
theorem dX6_lay_0 : decode cX6_lay 0 = .ok (.aload_n 0, 1) := by decide +kernel
theorem dX6_lay_1 : decode cX6_lay 1 = .ok (.iconst 0, 1) := by decide +kernel
theorem dX6_lay_2 : decode cX6_lay 2 = .ok (.putfield 59, 3) := by decide +kernel
theorem dX6_lay_5 : decode cX6_lay 5 = .ok (.aload_n 0, 1) := by decide +kernel
theorem dX6_lay_6 : decode cX6_lay 6 = .ok (.iload_n 1, 1) := by decide +kernel
theorem dX6_lay_7 : decode cX6_lay 7 = .ok (.invokevirtual 82, 3) := by decide +kernel
theorem dX6_lay_10 : decode cX6_lay 10 = .ok (.ifCond .eq 19, 3) := by decide +kernel
theorem dX6_lay_13 : decode cX6_lay 13 = .ok (.iload 4, 2) := by decide +kernel
theorem dX6_lay_15 : decode cX6_lay 15 = .ok (.bipush (-5), 2) := by decide +kernel
theorem dX6_lay_17 : decode cX6_lay 17 = .ok (.if_icmp .eq 14, 3) := by decide +kernel
theorem dX6_lay_20 : decode cX6_lay 20 = .ok (.aload_n 0, 1) := by decide +kernel
theorem dX6_lay_21 : decode cX6_lay 21 = .ok (.iload 4, 2) := by decide +kernel
theorem dX6_lay_23 : decode cX6_lay 23 = .ok (.invokevirtual 82, 3) := by decide +kernel
theorem dX6_lay_26 : decode cX6_lay 26 = .ok (.ifCond .ne 5, 3) := by decide +kernel
theorem dX6_lay_29 : decode cX6_lay 29 = .ok (.iconst (-1), 1) := by decide +kernel
theorem dX6_lay_30 : decode cX6_lay 30 = .ok (.ireturn, 1) := by decide +kernel
theorem dX6_lay_31 : decode cX6_lay 31 = .ok (.iload_n 2, 1) := by decide +kernel
theorem dX6_lay_32 : decode cX6_lay 32 = .ok (.bipush 7, 2) := by decide +kernel
theorem dX6_lay_34 : decode cX6_lay 34 = .ok (.bipush 15, 2) := by decide +kernel
theorem dX6_lay_36 : decode cX6_lay 36 = .ok (.invokestatic 66, 3) := by decide +kernel
theorem dX6_lay_39 : decode cX6_lay 39 = .ok (.ifCond .ne 6, 3) := by decide +kernel
theorem dX6_lay_42 : decode cX6_lay 42 = .ok (.bipush (-2), 2) := by decide +kernel
theorem dX6_lay_44 : decode cX6_lay 44 = .ok (.ireturn, 1) := by decide +kernel
theorem dX6_lay_45 : decode cX6_lay 45 = .ok (.aload_n 0, 1) := by decide +kernel
theorem dX6_lay_46 : decode cX6_lay 46 = .ok (.iload_n 1, 1) := by decide +kernel
theorem dX6_lay_47 : decode cX6_lay 47 = .ok (.iload_n 2, 1) := by decide +kernel
theorem dX6_lay_48 : decode cX6_lay 48 = .ok (.iload_n 3, 1) := by decide +kernel
theorem dX6_lay_49 : decode cX6_lay 49 = .ok (.iload 4, 2) := by decide +kernel
theorem dX6_lay_51 : decode cX6_lay 51 = .ok (.bipush (-5), 2) := by decide +kernel
theorem dX6_lay_53 : decode cX6_lay 53 = .ok (.if_icmp .ne 7, 3) := by decide +kernel
theorem dX6_lay_56 : decode cX6_lay 56 = .ok (.iconst (-1), 1) := by decide +kernel
theorem dX6_lay_57 : decode cX6_lay 57 = .ok (.goto 5, 3) := by decide +kernel
theorem dX6_lay_60 : decode cX6_lay 60 = .ok (.iload 4, 2) := by decide +kernel
theorem dX6_lay_62 : decode cX6_lay 62 = .ok (.invokevirtual 100, 3) := by decide +kernel
theorem dX6_lay_65 : decode cX6_lay 65 = .ok (.istore 5, 2) := by decide +kernel
theorem dX6_lay_67 : decode cX6_lay 67 = .ok (.iload 5, 2) := by decide +kernel
theorem dX6_lay_69 : decode cX6_lay 69 = .ok (.ifCond .ne 7, 3) := by decide +kernel
theorem dX6_lay_72 : decode cX6_lay 72 = .ok (.iconst 1, 1) := by decide +kernel
theorem dX6_lay_73 : decode cX6_lay 73 = .ok (.goto 9, 3) := by decide +kernel
theorem dX6_lay_76 : decode cX6_lay 76 = .ok (.aload_n 0, 1) := by decide +kernel
theorem dX6_lay_77 : decode cX6_lay 77 = .ok (.iload 5, 2) := by decide +kernel
theorem dX6_lay_79 : decode cX6_lay 79 = .ok (.invokevirtual 78, 3) := by decide +kernel
theorem dX6_lay_82 : decode cX6_lay 82 = .ok (.ireturn, 1) := by decide +kernel
theorem dX6_told_0 : decode cX6_told 0 = .ok (.iload_n 0, 1) := by decide +kernel
theorem dX6_told_1 : decode cX6_told 1 = .ok (.ifCond .ge 8, 3) := by decide +kernel
theorem dX6_told_4 : decode cX6_told 4 = .ok (.bipush (-5), 2) := by decide +kernel
theorem dX6_told_6 : decode cX6_told 6 = .ok (.goto 4, 3) := by decide +kernel
theorem dX6_told_9 : decode cX6_told 9 = .ok (.iload_n 0, 1) := by decide +kernel
theorem dX6_told_10 : decode cX6_told 10 = .ok (.ireturn, 1) := by decide +kernel
set_option maxRecDepth 20000 in
theorem ggX6_place_X6_refusal : GoodIn wsX6_place wsX6_refusal := goodIn_r _ [8, 9, 10, 11, 7, 12, 13, 14, 15, 16, 31, 32, 33, 34, 35, 36, 37, 38, 39, 40, 41, 42, 43, 44, 45, 46, 47, 48, 49, 50, 51, 52, 53] (by decide +kernel) (by decide +kernel)
set_option maxRecDepth 20000 in
theorem gX6_place_X6_refusal : GoodIn wsX6_place (wsV RX6 89 RX6 yX6_refusal wsX6_refusal) := goodIn_app (goodIn_of _ (by decide +kernel)) ggX6_place_X6_refusal
set_option maxRecDepth 20000 in
theorem ggX6_place_X6_isOf : GoodIn wsX6_place wsX6_isOf := goodIn_ca (goodIn_r _ [20, 21, 22, 31, 32, 33, 34, 35, 36, 37, 38, 39, 40, 41, 42, 43, 44, 45, 46, 47, 48, 49, 50, 51, 52, 53] (by decide +kernel) (by decide +kernel)) (goodIn_sub (fun _ h => List.mem_cons_of_mem _ (List.mem_append_right _ h)) (by decide +kernel))
set_option maxRecDepth 20000 in
theorem gX6_place_X6_isOf : GoodIn wsX6_place (wsV RX6 70 RX6 yX6_isOf wsX6_isOf) := goodIn_app (goodIn_of _ (by decide +kernel)) ggX6_place_X6_isOf
set_option maxRecDepth 20000 in
theorem ggX6_place_X6_found : GoodIn wsX6_place wsX6_found := goodIn_ca (goodIn_r _ [26, 27, 31, 32, 33, 34, 35, 36, 37, 38, 39, 40, 41, 42, 43, 44, 45, 46, 47, 48, 49, 50, 51, 52, 53] (by decide +kernel) (by decide +kernel)) (goodIn_sub (fun _ h => List.mem_cons_of_mem _ (List.mem_append_right _ h)) (by decide +kernel))
set_option maxRecDepth 20000 in
theorem gX6_place_X6_found : GoodIn wsX6_place (wsV RX6 78 RX6 yX6_found wsX6_found) := goodIn_app (goodIn_of _ (by decide +kernel)) ggX6_place_X6_found
set_option maxRecDepth 20000 in
theorem ggX6_place_X6_in : GoodIn wsX6_place wsX6_in := goodIn_r _ [16] (by decide +kernel) (by decide +kernel)
set_option maxRecDepth 20000 in
theorem gX6_place_X6_in : GoodIn wsX6_place (va_wsS RX6 66 yX6_in wsX6_in) := goodIn_app (goodIn_of _ (by decide +kernel)) ggX6_place_X6_in
set_option maxRecDepth 20000 in
theorem ggX6_place_X6_told : GoodIn wsX6_place wsX6_told := goodIn_r _ [30] (by decide +kernel) (by decide +kernel)
set_option maxRecDepth 20000 in
theorem gX6_place_X6_told : GoodIn wsX6_place (va_wsS RX6 103 yX6_told wsX6_told) := goodIn_app (goodIn_of _ (by decide +kernel)) ggX6_place_X6_told
theorem dX6_place_0 : decode cX6_place 0 = .ok (.aload_n 0, 1) := by decide +kernel
theorem dX6_place_1 : decode cX6_place 1 = .ok (.iconst 0, 1) := by decide +kernel
theorem dX6_place_2 : decode cX6_place 2 = .ok (.putfield 59, 3) := by decide +kernel
theorem dX6_place_5 : decode cX6_place 5 = .ok (.aload_n 0, 1) := by decide +kernel
theorem dX6_place_6 : decode cX6_place 6 = .ok (.iload_n 1, 1) := by decide +kernel
theorem dX6_place_7 : decode cX6_place 7 = .ok (.iload_n 2, 1) := by decide +kernel
theorem dX6_place_8 : decode cX6_place 8 = .ok (.bipush 7, 2) := by decide +kernel
theorem dX6_place_10 : decode cX6_place 10 = .ok (.bipush 15, 2) := by decide +kernel
theorem dX6_place_12 : decode cX6_place 12 = .ok (.invokevirtual 89, 3) := by decide +kernel
theorem dX6_place_15 : decode cX6_place 15 = .ok (.istore 4, 2) := by decide +kernel
theorem dX6_place_17 : decode cX6_place 17 = .ok (.iload 4, 2) := by decide +kernel
theorem dX6_place_19 : decode cX6_place 19 = .ok (.ifCond .ge 6, 3) := by decide +kernel
theorem dX6_place_22 : decode cX6_place 22 = .ok (.iload 4, 2) := by decide +kernel
theorem dX6_place_24 : decode cX6_place 24 = .ok (.ireturn, 1) := by decide +kernel
theorem dX6_place_25 : decode cX6_place 25 = .ok (.aload_n 0, 1) := by decide +kernel
theorem dX6_place_26 : decode cX6_place 26 = .ok (.iload_n 1, 1) := by decide +kernel
theorem dX6_place_27 : decode cX6_place 27 = .ok (.iload_n 2, 1) := by decide +kernel
theorem dX6_place_28 : decode cX6_place 28 = .ok (.invokevirtual 70, 3) := by decide +kernel
theorem dX6_place_31 : decode cX6_place 31 = .ok (.ifCond .ne 9, 3) := by decide +kernel
theorem dX6_place_34 : decode cX6_place 34 = .ok (.aload_n 0, 1) := by decide +kernel
theorem dX6_place_35 : decode cX6_place 35 = .ok (.iconst 1, 1) := by decide +kernel
theorem dX6_place_36 : decode cX6_place 36 = .ok (.invokevirtual 78, 3) := by decide +kernel
theorem dX6_place_39 : decode cX6_place 39 = .ok (.ireturn, 1) := by decide +kernel
theorem dX6_place_40 : decode cX6_place 40 = .ok (.iload_n 3, 1) := by decide +kernel
theorem dX6_place_41 : decode cX6_place 41 = .ok (.iconst 0, 1) := by decide +kernel
theorem dX6_place_42 : decode cX6_place 42 = .ok (.aload_n 0, 1) := by decide +kernel
theorem dX6_place_43 : decode cX6_place 43 = .ok (.getfield 16, 3) := by decide +kernel
theorem dX6_place_46 : decode cX6_place 46 = .ok (.iload_n 1, 1) := by decide +kernel
theorem dX6_place_47 : decode cX6_place 47 = .ok (.iaload, 1) := by decide +kernel
theorem dX6_place_48 : decode cX6_place 48 = .ok (.iconst 1, 1) := by decide +kernel
theorem dX6_place_49 : decode cX6_place 49 = .ok (.isub, 1) := by decide +kernel
theorem dX6_place_50 : decode cX6_place 50 = .ok (.invokestatic 66, 3) := by decide +kernel
theorem dX6_place_53 : decode cX6_place 53 = .ok (.ifCond .eq 20, 3) := by decide +kernel
theorem dX6_place_56 : decode cX6_place 56 = .ok (.aload_n 0, 1) := by decide +kernel
theorem dX6_place_57 : decode cX6_place 57 = .ok (.getfield 23, 3) := by decide +kernel
theorem dX6_place_60 : decode cX6_place 60 = .ok (.bipush 8, 2) := by decide +kernel
theorem dX6_place_62 : decode cX6_place 62 = .ok (.iload_n 1, 1) := by decide +kernel
theorem dX6_place_63 : decode cX6_place 63 = .ok (.imul, 1) := by decide +kernel
theorem dX6_place_64 : decode cX6_place 64 = .ok (.iload_n 3, 1) := by decide +kernel
theorem dX6_place_65 : decode cX6_place 65 = .ok (.iadd, 1) := by decide +kernel
theorem dX6_place_66 : decode cX6_place 66 = .ok (.iaload, 1) := by decide +kernel
theorem dX6_place_67 : decode cX6_place 67 = .ok (.invokestatic 103, 3) := by decide +kernel
theorem dX6_place_70 : decode cX6_place 70 = .ok (.goto 8, 3) := by decide +kernel
theorem dX6_place_73 : decode cX6_place 73 = .ok (.aload_n 0, 1) := by decide +kernel
theorem dX6_place_74 : decode cX6_place 74 = .ok (.iconst 3, 1) := by decide +kernel
theorem dX6_place_75 : decode cX6_place 75 = .ok (.invokevirtual 78, 3) := by decide +kernel
theorem dX6_place_78 : decode cX6_place 78 = .ok (.ireturn, 1) := by decide +kernel
set_option maxRecDepth 20000 in
theorem ggX6_station_X6_in : GoodIn wsX6_station wsX6_in := goodIn_r _ [10] (by decide +kernel) (by decide +kernel)
set_option maxRecDepth 20000 in
theorem gX6_station_X6_in : GoodIn wsX6_station (va_wsS RX6 66 yX6_in wsX6_in) := goodIn_app (goodIn_of _ (by decide +kernel)) ggX6_station_X6_in
theorem dX6_station_0 : decode cX6_station 0 = .ok (.aload_n 0, 1) := by decide +kernel
theorem dX6_station_1 : decode cX6_station 1 = .ok (.iconst 0, 1) := by decide +kernel
theorem dX6_station_2 : decode cX6_station 2 = .ok (.putfield 59, 3) := by decide +kernel
theorem dX6_station_5 : decode cX6_station 5 = .ok (.iload_n 1, 1) := by decide +kernel
theorem dX6_station_6 : decode cX6_station 6 = .ok (.iconst 0, 1) := by decide +kernel
theorem dX6_station_7 : decode cX6_station 7 = .ok (.bipush 17, 2) := by decide +kernel
theorem dX6_station_9 : decode cX6_station 9 = .ok (.invokestatic 66, 3) := by decide +kernel
theorem dX6_station_12 : decode cX6_station 12 = .ok (.ifCond .eq 13, 3) := by decide +kernel
theorem dX6_station_15 : decode cX6_station 15 = .ok (.iload_n 2, 1) := by decide +kernel
theorem dX6_station_16 : decode cX6_station 16 = .ok (.iconst 0, 1) := by decide +kernel
theorem dX6_station_17 : decode cX6_station 17 = .ok (.bipush 12, 2) := by decide +kernel
theorem dX6_station_19 : decode cX6_station 19 = .ok (.invokestatic 66, 3) := by decide +kernel
theorem dX6_station_22 : decode cX6_station 22 = .ok (.ifCond .ne 6, 3) := by decide +kernel
theorem dX6_station_25 : decode cX6_station 25 = .ok (.bipush (-2), 2) := by decide +kernel
theorem dX6_station_27 : decode cX6_station 27 = .ok (.ireturn, 1) := by decide +kernel
theorem dX6_station_28 : decode cX6_station 28 = .ok (.aload_n 0, 1) := by decide +kernel
theorem dX6_station_29 : decode cX6_station 29 = .ok (.getfield 106, 3) := by decide +kernel
theorem dX6_station_32 : decode cX6_station 32 = .ok (.bipush 8, 2) := by decide +kernel
theorem dX6_station_34 : decode cX6_station 34 = .ok (.if_icmp .ne 6, 3) := by decide +kernel
theorem dX6_station_37 : decode cX6_station 37 = .ok (.bipush (-4), 2) := by decide +kernel
theorem dX6_station_39 : decode cX6_station 39 = .ok (.ireturn, 1) := by decide +kernel
theorem dX6_station_40 : decode cX6_station 40 = .ok (.aload_n 0, 1) := by decide +kernel
theorem dX6_station_41 : decode cX6_station 41 = .ok (.getfield 41, 3) := by decide +kernel
theorem dX6_station_44 : decode cX6_station 44 = .ok (.aload_n 0, 1) := by decide +kernel
theorem dX6_station_45 : decode cX6_station 45 = .ok (.getfield 106, 3) := by decide +kernel
theorem dX6_station_48 : decode cX6_station 48 = .ok (.iload_n 1, 1) := by decide +kernel
theorem dX6_station_49 : decode cX6_station 49 = .ok (.iastore, 1) := by decide +kernel
theorem dX6_station_50 : decode cX6_station 50 = .ok (.aload_n 0, 1) := by decide +kernel
theorem dX6_station_51 : decode cX6_station 51 = .ok (.getfield 44, 3) := by decide +kernel
theorem dX6_station_54 : decode cX6_station 54 = .ok (.aload_n 0, 1) := by decide +kernel
theorem dX6_station_55 : decode cX6_station 55 = .ok (.getfield 106, 3) := by decide +kernel
theorem dX6_station_58 : decode cX6_station 58 = .ok (.iload_n 2, 1) := by decide +kernel
theorem dX6_station_59 : decode cX6_station 59 = .ok (.iastore, 1) := by decide +kernel
theorem dX6_station_60 : decode cX6_station 60 = .ok (.aload_n 0, 1) := by decide +kernel
theorem dX6_station_61 : decode cX6_station 61 = .ok (.getfield 47, 3) := by decide +kernel
theorem dX6_station_64 : decode cX6_station 64 = .ok (.aload_n 0, 1) := by decide +kernel
theorem dX6_station_65 : decode cX6_station 65 = .ok (.getfield 106, 3) := by decide +kernel
theorem dX6_station_68 : decode cX6_station 68 = .ok (.lconst 0, 1) := by decide +kernel
theorem dX6_station_69 : decode cX6_station 69 = .ok (.lastore, 1) := by decide +kernel
theorem dX6_station_70 : decode cX6_station 70 = .ok (.aload_n 0, 1) := by decide +kernel
theorem dX6_station_71 : decode cX6_station 71 = .ok (.getfield 50, 3) := by decide +kernel
theorem dX6_station_74 : decode cX6_station 74 = .ok (.aload_n 0, 1) := by decide +kernel
theorem dX6_station_75 : decode cX6_station 75 = .ok (.getfield 106, 3) := by decide +kernel
theorem dX6_station_78 : decode cX6_station 78 = .ok (.iconst (-1), 1) := by decide +kernel
theorem dX6_station_79 : decode cX6_station 79 = .ok (.iastore, 1) := by decide +kernel
theorem dX6_station_80 : decode cX6_station 80 = .ok (.aload_n 0, 1) := by decide +kernel
theorem dX6_station_81 : decode cX6_station 81 = .ok (.dup, 1) := by decide +kernel
theorem dX6_station_82 : decode cX6_station 82 = .ok (.getfield 106, 3) := by decide +kernel
theorem dX6_station_85 : decode cX6_station 85 = .ok (.iconst 1, 1) := by decide +kernel
theorem dX6_station_86 : decode cX6_station 86 = .ok (.iadd, 1) := by decide +kernel
theorem dX6_station_87 : decode cX6_station 87 = .ok (.putfield 106, 3) := by decide +kernel
theorem dX6_station_90 : decode cX6_station 90 = .ok (.aload_n 0, 1) := by decide +kernel
theorem dX6_station_91 : decode cX6_station 91 = .ok (.getfield 106, 3) := by decide +kernel
theorem dX6_station_94 : decode cX6_station 94 = .ok (.iconst 1, 1) := by decide +kernel
theorem dX6_station_95 : decode cX6_station 95 = .ok (.isub, 1) := by decide +kernel
theorem dX6_station_96 : decode cX6_station 96 = .ok (.ireturn, 1) := by decide +kernel
theorem dX6_comes_0 : decode cX6_comes 0 = .ok (.aload_n 0, 1) := by decide +kernel
theorem dX6_comes_1 : decode cX6_comes 1 = .ok (.getfield 38, 3) := by decide +kernel
theorem dX6_comes_4 : decode cX6_comes 4 = .ok (.aload_n 0, 1) := by decide +kernel
theorem dX6_comes_5 : decode cX6_comes 5 = .ok (.getfield 109, 3) := by decide +kernel
theorem dX6_comes_8 : decode cX6_comes 8 = .ok (.iload_n 1, 1) := by decide +kernel
theorem dX6_comes_9 : decode cX6_comes 9 = .ok (.iastore, 1) := by decide +kernel
theorem dX6_comes_10 : decode cX6_comes 10 = .ok (.aload_n 0, 1) := by decide +kernel
theorem dX6_comes_11 : decode cX6_comes 11 = .ok (.dup, 1) := by decide +kernel
theorem dX6_comes_12 : decode cX6_comes 12 = .ok (.getfield 109, 3) := by decide +kernel
theorem dX6_comes_15 : decode cX6_comes 15 = .ok (.iconst 1, 1) := by decide +kernel
theorem dX6_comes_16 : decode cX6_comes 16 = .ok (.iadd, 1) := by decide +kernel
theorem dX6_comes_17 : decode cX6_comes 17 = .ok (.putfield 109, 3) := by decide +kernel
theorem dX6_comes_20 : decode cX6_comes 20 = .ok (.return_, 1) := by decide +kernel
set_option maxRecDepth 20000 in
theorem ggX6_send_X6_isThing : GoodIn wsX6_send wsX6_isThing := goodIn_r _ [7, 8, 9, 10, 6, 11, 17, 18, 19, 20, 21, 22, 23, 24, 25, 26, 27, 28, 29, 30, 31, 32, 33, 34, 35, 36, 37, 38, 39] (by decide +kernel) (by decide +kernel)
set_option maxRecDepth 20000 in
theorem gX6_send_X6_isThing : GoodIn wsX6_send (wsV RX6 82 RX6 yX6_isThing wsX6_isThing) := goodIn_app (goodIn_of _ (by decide +kernel)) ggX6_send_X6_isThing
set_option maxRecDepth 20000 in
theorem ggX6_send_X6_comes : GoodIn wsX6_send wsX6_comes := goodIn_ca (goodIn_r _ [15, 16, 2, 17, 18, 19, 20, 21, 22, 23, 24, 25, 26, 27, 28, 29, 30, 31, 32, 33, 34, 35, 36, 37, 38, 39] (by decide +kernel) (by decide +kernel)) (goodIn_sub (fun _ h => List.mem_cons_of_mem _ (List.mem_append_right _ h)) (by decide +kernel))
set_option maxRecDepth 20000 in
theorem gX6_send_X6_comes : GoodIn wsX6_send (wsV RX6 112 RX6 yX6_comes wsX6_comes) := goodIn_app (goodIn_of _ (by decide +kernel)) ggX6_send_X6_comes
theorem dX6_send_0 : decode cX6_send 0 = .ok (.aload_n 0, 1) := by decide +kernel
theorem dX6_send_1 : decode cX6_send 1 = .ok (.iconst 0, 1) := by decide +kernel
theorem dX6_send_2 : decode cX6_send 2 = .ok (.putfield 59, 3) := by decide +kernel
theorem dX6_send_5 : decode cX6_send 5 = .ok (.aload_n 0, 1) := by decide +kernel
theorem dX6_send_6 : decode cX6_send 6 = .ok (.iload_n 1, 1) := by decide +kernel
theorem dX6_send_7 : decode cX6_send 7 = .ok (.invokevirtual 82, 3) := by decide +kernel
theorem dX6_send_10 : decode cX6_send 10 = .ok (.ifCond .ne 5, 3) := by decide +kernel
theorem dX6_send_13 : decode cX6_send 13 = .ok (.iconst (-1), 1) := by decide +kernel
theorem dX6_send_14 : decode cX6_send 14 = .ok (.ireturn, 1) := by decide +kernel
theorem dX6_send_15 : decode cX6_send 15 = .ok (.aload_n 0, 1) := by decide +kernel
theorem dX6_send_16 : decode cX6_send 16 = .ok (.getfield 109, 3) := by decide +kernel
theorem dX6_send_19 : decode cX6_send 19 = .ok (.bipush 40, 2) := by decide +kernel
theorem dX6_send_21 : decode cX6_send 21 = .ok (.if_icmp .ne 6, 3) := by decide +kernel
theorem dX6_send_24 : decode cX6_send 24 = .ok (.bipush (-4), 2) := by decide +kernel
theorem dX6_send_26 : decode cX6_send 26 = .ok (.ireturn, 1) := by decide +kernel
theorem dX6_send_27 : decode cX6_send 27 = .ok (.aload_n 0, 1) := by decide +kernel
theorem dX6_send_28 : decode cX6_send 28 = .ok (.iload_n 1, 1) := by decide +kernel
theorem dX6_send_29 : decode cX6_send 29 = .ok (.invokevirtual 112, 3) := by decide +kernel
theorem dX6_send_32 : decode cX6_send 32 = .ok (.aload_n 0, 1) := by decide +kernel
theorem dX6_send_33 : decode cX6_send 33 = .ok (.getfield 109, 3) := by decide +kernel
theorem dX6_send_36 : decode cX6_send 36 = .ok (.ireturn, 1) := by decide +kernel
theorem dX6_keyOf_0 : decode cX6_keyOf 0 = .ok (.aload_n 0, 1) := by decide +kernel
theorem dX6_keyOf_1 : decode cX6_keyOf 1 = .ok (.getfield 7, 3) := by decide +kernel
theorem dX6_keyOf_4 : decode cX6_keyOf 4 = .ok (.iload_n 1, 1) := by decide +kernel
theorem dX6_keyOf_5 : decode cX6_keyOf 5 = .ok (.iaload, 1) := by decide +kernel
theorem dX6_keyOf_6 : decode cX6_keyOf 6 = .ok (.iconst 2, 1) := by decide +kernel
theorem dX6_keyOf_7 : decode cX6_keyOf 7 = .ok (.if_icmp .ne 16, 3) := by decide +kernel
theorem dX6_keyOf_10 : decode cX6_keyOf 10 = .ok (.iconst 3, 1) := by decide +kernel
theorem dX6_keyOf_11 : decode cX6_keyOf 11 = .ok (.aload_n 0, 1) := by decide +kernel
theorem dX6_keyOf_12 : decode cX6_keyOf 12 = .ok (.getfield 13, 3) := by decide +kernel
theorem dX6_keyOf_15 : decode cX6_keyOf 15 = .ok (.iload_n 1, 1) := by decide +kernel
theorem dX6_keyOf_16 : decode cX6_keyOf 16 = .ok (.iaload, 1) := by decide +kernel
theorem dX6_keyOf_17 : decode cX6_keyOf 17 = .ok (.imul, 1) := by decide +kernel
theorem dX6_keyOf_18 : decode cX6_keyOf 18 = .ok (.iconst 1, 1) := by decide +kernel
theorem dX6_keyOf_19 : decode cX6_keyOf 19 = .ok (.iadd, 1) := by decide +kernel
theorem dX6_keyOf_20 : decode cX6_keyOf 20 = .ok (.goto 12, 3) := by decide +kernel
theorem dX6_keyOf_23 : decode cX6_keyOf 23 = .ok (.aload_n 0, 1) := by decide +kernel
theorem dX6_keyOf_24 : decode cX6_keyOf 24 = .ok (.getfield 13, 3) := by decide +kernel
theorem dX6_keyOf_27 : decode cX6_keyOf 27 = .ok (.iload_n 1, 1) := by decide +kernel
theorem dX6_keyOf_28 : decode cX6_keyOf 28 = .ok (.iaload, 1) := by decide +kernel
theorem dX6_keyOf_29 : decode cX6_keyOf 29 = .ok (.bipush 7, 2) := by decide +kernel
theorem dX6_keyOf_31 : decode cX6_keyOf 31 = .ok (.isub, 1) := by decide +kernel
theorem dX6_keyOf_32 : decode cX6_keyOf 32 = .ok (.ireturn, 1) := by decide +kernel
set_option maxRecDepth 20000 in
theorem ggX6_heaps_X6_keyOf : GoodIn wsX6_heaps wsX6_keyOf := goodIn_ca (goodIn_r _ [9, 10, 3, 11, 12, 13, 14, 15, 16, 17, 18, 19, 20, 21, 22, 23, 24, 25, 26, 27, 28, 29, 30, 31, 32, 33] (by decide +kernel) (by decide +kernel)) (goodIn_sub (fun _ h => List.mem_cons_of_mem _ (List.mem_append_right _ h)) (by decide +kernel))
set_option maxRecDepth 20000 in
theorem gX6_heaps_X6_keyOf : GoodIn wsX6_heaps (wsV RX6 116 RX6 yX6_keyOf wsX6_keyOf) := goodIn_app (goodIn_of _ (by decide +kernel)) ggX6_heaps_X6_keyOf
theorem dX6_heaps_0 : decode cX6_heaps 0 = .ok (.lconst 0, 1) := by decide +kernel
theorem dX6_heaps_1 : decode cX6_heaps 1 = .ok (.lstore 4, 2) := by decide +kernel
theorem dX6_heaps_3 : decode cX6_heaps 3 = .ok (.iconst 0, 1) := by decide +kernel
theorem dX6_heaps_4 : decode cX6_heaps 4 = .ok (.istore 6, 2) := by decide +kernel
theorem dX6_heaps_6 : decode cX6_heaps 6 = .ok (.iload 6, 2) := by decide +kernel
theorem dX6_heaps_8 : decode cX6_heaps 8 = .ok (.aload_n 0, 1) := by decide +kernel
theorem dX6_heaps_9 : decode cX6_heaps 9 = .ok (.getfield 16, 3) := by decide +kernel
theorem dX6_heaps_12 : decode cX6_heaps 12 = .ok (.iload_n 2, 1) := by decide +kernel
theorem dX6_heaps_13 : decode cX6_heaps 13 = .ok (.iaload, 1) := by decide +kernel
theorem dX6_heaps_14 : decode cX6_heaps 14 = .ok (.if_icmp .ge 57, 3) := by decide +kernel
theorem dX6_heaps_17 : decode cX6_heaps 17 = .ok (.aload_n 0, 1) := by decide +kernel
theorem dX6_heaps_18 : decode cX6_heaps 18 = .ok (.getfield 23, 3) := by decide +kernel
theorem dX6_heaps_21 : decode cX6_heaps 21 = .ok (.bipush 8, 2) := by decide +kernel
theorem dX6_heaps_23 : decode cX6_heaps 23 = .ok (.iload_n 2, 1) := by decide +kernel
theorem dX6_heaps_24 : decode cX6_heaps 24 = .ok (.imul, 1) := by decide +kernel
theorem dX6_heaps_25 : decode cX6_heaps 25 = .ok (.iload 6, 2) := by decide +kernel
theorem dX6_heaps_27 : decode cX6_heaps 27 = .ok (.iadd, 1) := by decide +kernel
theorem dX6_heaps_28 : decode cX6_heaps 28 = .ok (.iaload, 1) := by decide +kernel
theorem dX6_heaps_29 : decode cX6_heaps 29 = .ok (.istore 7, 2) := by decide +kernel
theorem dX6_heaps_31 : decode cX6_heaps 31 = .ok (.iload 7, 2) := by decide +kernel
theorem dX6_heaps_33 : decode cX6_heaps 33 = .ok (.ifCond .ge 5, 3) := by decide +kernel
theorem dX6_heaps_36 : decode cX6_heaps 36 = .ok (.iconst 2, 1) := by decide +kernel
theorem dX6_heaps_37 : decode cX6_heaps 37 = .ok (.ireturn, 1) := by decide +kernel
theorem dX6_heaps_38 : decode cX6_heaps 38 = .ok (.lload 4, 2) := by decide +kernel
theorem dX6_heaps_40 : decode cX6_heaps 40 = .ok (.iload_n 3, 1) := by decide +kernel
theorem dX6_heaps_41 : decode cX6_heaps 41 = .ok (.ifCond .eq 13, 3) := by decide +kernel
theorem dX6_heaps_44 : decode cX6_heaps 44 = .ok (.aload_n 0, 1) := by decide +kernel
theorem dX6_heaps_45 : decode cX6_heaps 45 = .ok (.iload 7, 2) := by decide +kernel
theorem dX6_heaps_47 : decode cX6_heaps 47 = .ok (.invokevirtual 116, 3) := by decide +kernel
theorem dX6_heaps_50 : decode cX6_heaps 50 = .ok (.i2l, 1) := by decide +kernel
theorem dX6_heaps_51 : decode cX6_heaps 51 = .ok (.goto 11, 3) := by decide +kernel
theorem dX6_heaps_54 : decode cX6_heaps 54 = .ok (.aload_n 0, 1) := by decide +kernel
theorem dX6_heaps_55 : decode cX6_heaps 55 = .ok (.getfield 13, 3) := by decide +kernel
theorem dX6_heaps_58 : decode cX6_heaps 58 = .ok (.iload 7, 2) := by decide +kernel
theorem dX6_heaps_60 : decode cX6_heaps 60 = .ok (.iaload, 1) := by decide +kernel
theorem dX6_heaps_61 : decode cX6_heaps 61 = .ok (.i2l, 1) := by decide +kernel
theorem dX6_heaps_62 : decode cX6_heaps 62 = .ok (.ladd, 1) := by decide +kernel
theorem dX6_heaps_63 : decode cX6_heaps 63 = .ok (.lstore 4, 2) := by decide +kernel
theorem dX6_heaps_65 : decode cX6_heaps 65 = .ok (.iinc 6 1, 3) := by decide +kernel
theorem dX6_heaps_68 : decode cX6_heaps 68 = .ok (.goto (-62), 3) := by decide +kernel
theorem dX6_heaps_71 : decode cX6_heaps 71 = .ok (.aload_n 0, 1) := by decide +kernel
theorem dX6_heaps_72 : decode cX6_heaps 72 = .ok (.getfield 47, 3) := by decide +kernel
theorem dX6_heaps_75 : decode cX6_heaps 75 = .ok (.iload_n 1, 1) := by decide +kernel
theorem dX6_heaps_76 : decode cX6_heaps 76 = .ok (.dup2, 1) := by decide +kernel
theorem dX6_heaps_77 : decode cX6_heaps 77 = .ok (.laload, 1) := by decide +kernel
theorem dX6_heaps_78 : decode cX6_heaps 78 = .ok (.lload 4, 2) := by decide +kernel
theorem dX6_heaps_80 : decode cX6_heaps 80 = .ok (.ladd, 1) := by decide +kernel
theorem dX6_heaps_81 : decode cX6_heaps 81 = .ok (.lastore, 1) := by decide +kernel
theorem dX6_heaps_82 : decode cX6_heaps 82 = .ok (.iconst 0, 1) := by decide +kernel
theorem dX6_heaps_83 : decode cX6_heaps 83 = .ok (.ireturn, 1) := by decide +kernel
theorem dX6_corner_0 : decode cX6_corner 0 = .ok (.iload_n 1, 1) := by decide +kernel
theorem dX6_corner_1 : decode cX6_corner 1 = .ok (.istore_n 3, 1) := by decide +kernel
theorem dX6_corner_2 : decode cX6_corner 2 = .ok (.iconst 0, 1) := by decide +kernel
theorem dX6_corner_3 : decode cX6_corner 3 = .ok (.istore 4, 2) := by decide +kernel
theorem dX6_corner_5 : decode cX6_corner 5 = .ok (.iload 4, 2) := by decide +kernel
theorem dX6_corner_7 : decode cX6_corner 7 = .ok (.iload_n 2, 1) := by decide +kernel
theorem dX6_corner_8 : decode cX6_corner 8 = .ok (.if_icmp .ge 38, 3) := by decide +kernel
theorem dX6_corner_11 : decode cX6_corner 11 = .ok (.iload_n 3, 1) := by decide +kernel
theorem dX6_corner_12 : decode cX6_corner 12 = .ok (.ifCond .ge 6, 3) := by decide +kernel
theorem dX6_corner_15 : decode cX6_corner 15 = .ok (.bipush (-8), 2) := by decide +kernel
theorem dX6_corner_17 : decode cX6_corner 17 = .ok (.ireturn, 1) := by decide +kernel
theorem dX6_corner_18 : decode cX6_corner 18 = .ok (.aload_n 0, 1) := by decide +kernel
theorem dX6_corner_19 : decode cX6_corner 19 = .ok (.getfield 16, 3) := by decide +kernel
theorem dX6_corner_22 : decode cX6_corner 22 = .ok (.iload_n 3, 1) := by decide +kernel
theorem dX6_corner_23 : decode cX6_corner 23 = .ok (.iaload, 1) := by decide +kernel
theorem dX6_corner_24 : decode cX6_corner 24 = .ok (.ifCond .ne 6, 3) := by decide +kernel
theorem dX6_corner_27 : decode cX6_corner 27 = .ok (.bipush (-7), 2) := by decide +kernel
theorem dX6_corner_29 : decode cX6_corner 29 = .ok (.ireturn, 1) := by decide +kernel
theorem dX6_corner_30 : decode cX6_corner 30 = .ok (.aload_n 0, 1) := by decide +kernel
theorem dX6_corner_31 : decode cX6_corner 31 = .ok (.getfield 23, 3) := by decide +kernel
theorem dX6_corner_34 : decode cX6_corner 34 = .ok (.bipush 8, 2) := by decide +kernel
theorem dX6_corner_36 : decode cX6_corner 36 = .ok (.iload_n 3, 1) := by decide +kernel
theorem dX6_corner_37 : decode cX6_corner 37 = .ok (.imul, 1) := by decide +kernel
theorem dX6_corner_38 : decode cX6_corner 38 = .ok (.iaload, 1) := by decide +kernel
theorem dX6_corner_39 : decode cX6_corner 39 = .ok (.istore_n 3, 1) := by decide +kernel
theorem dX6_corner_40 : decode cX6_corner 40 = .ok (.iinc 4 1, 3) := by decide +kernel
theorem dX6_corner_43 : decode cX6_corner 43 = .ok (.goto (-38), 3) := by decide +kernel
theorem dX6_corner_46 : decode cX6_corner 46 = .ok (.iload_n 3, 1) := by decide +kernel
theorem dX6_corner_47 : decode cX6_corner 47 = .ok (.ifCond .ge 8, 3) := by decide +kernel
theorem dX6_corner_50 : decode cX6_corner 50 = .ok (.bipush (-8), 2) := by decide +kernel
theorem dX6_corner_52 : decode cX6_corner 52 = .ok (.goto 4, 3) := by decide +kernel
theorem dX6_corner_55 : decode cX6_corner 55 = .ok (.iload_n 3, 1) := by decide +kernel
theorem dX6_corner_56 : decode cX6_corner 56 = .ok (.ireturn, 1) := by decide +kernel
set_option maxRecDepth 20000 in
theorem ggX6_weighs_X6_corner : GoodIn wsX6_weighs wsX6_corner := goodIn_ca (goodIn_r _ [7, 8, 9, 10, 11, 12, 13, 14, 15, 16, 17, 18, 19, 20, 21, 22, 23, 24, 25, 26, 27, 28, 29, 30, 31, 32] (by decide +kernel) (by decide +kernel)) (goodIn_sub (fun _ h => List.mem_cons_of_mem _ (List.mem_append_right _ h)) (by decide +kernel))
set_option maxRecDepth 20000 in
theorem gX6_weighs_X6_corner : GoodIn wsX6_weighs (wsV RX6 119 RX6 yX6_corner wsX6_corner) := goodIn_app (goodIn_of _ (by decide +kernel)) ggX6_weighs_X6_corner
theorem dX6_weighs_0 : decode cX6_weighs 0 = .ok (.aload_n 0, 1) := by decide +kernel
theorem dX6_weighs_1 : decode cX6_weighs 1 = .ok (.iload_n 2, 1) := by decide +kernel
theorem dX6_weighs_2 : decode cX6_weighs 2 = .ok (.iload_n 3, 1) := by decide +kernel
theorem dX6_weighs_3 : decode cX6_weighs 3 = .ok (.invokevirtual 119, 3) := by decide +kernel
theorem dX6_weighs_6 : decode cX6_weighs 6 = .ok (.istore 4, 2) := by decide +kernel
theorem dX6_weighs_8 : decode cX6_weighs 8 = .ok (.aload_n 0, 1) := by decide +kernel
theorem dX6_weighs_9 : decode cX6_weighs 9 = .ok (.getfield 47, 3) := by decide +kernel
theorem dX6_weighs_12 : decode cX6_weighs 12 = .ok (.iload_n 1, 1) := by decide +kernel
theorem dX6_weighs_13 : decode cX6_weighs 13 = .ok (.dup2, 1) := by decide +kernel
theorem dX6_weighs_14 : decode cX6_weighs 14 = .ok (.laload, 1) := by decide +kernel
theorem dX6_weighs_15 : decode cX6_weighs 15 = .ok (.iload 4, 2) := by decide +kernel
theorem dX6_weighs_17 : decode cX6_weighs 17 = .ok (.ifCond .ge 7, 3) := by decide +kernel
theorem dX6_weighs_20 : decode cX6_weighs 20 = .ok (.lconst 0, 1) := by decide +kernel
theorem dX6_weighs_21 : decode cX6_weighs 21 = .ok (.goto 11, 3) := by decide +kernel
theorem dX6_weighs_24 : decode cX6_weighs 24 = .ok (.aload_n 0, 1) := by decide +kernel
theorem dX6_weighs_25 : decode cX6_weighs 25 = .ok (.getfield 13, 3) := by decide +kernel
theorem dX6_weighs_28 : decode cX6_weighs 28 = .ok (.iload 4, 2) := by decide +kernel
theorem dX6_weighs_30 : decode cX6_weighs 30 = .ok (.iaload, 1) := by decide +kernel
theorem dX6_weighs_31 : decode cX6_weighs 31 = .ok (.i2l, 1) := by decide +kernel
theorem dX6_weighs_32 : decode cX6_weighs 32 = .ok (.ladd, 1) := by decide +kernel
theorem dX6_weighs_33 : decode cX6_weighs 33 = .ok (.lastore, 1) := by decide +kernel
theorem dX6_weighs_34 : decode cX6_weighs 34 = .ok (.iload 4, 2) := by decide +kernel
theorem dX6_weighs_36 : decode cX6_weighs 36 = .ok (.ifCond .ge 11, 3) := by decide +kernel
theorem dX6_weighs_39 : decode cX6_weighs 39 = .ok (.iload 4, 2) := by decide +kernel
theorem dX6_weighs_41 : decode cX6_weighs 41 = .ok (.bipush 10, 2) := by decide +kernel
theorem dX6_weighs_43 : decode cX6_weighs 43 = .ok (.iadd, 1) := by decide +kernel
theorem dX6_weighs_44 : decode cX6_weighs 44 = .ok (.goto 4, 3) := by decide +kernel
theorem dX6_weighs_47 : decode cX6_weighs 47 = .ok (.iconst 0, 1) := by decide +kernel
theorem dX6_weighs_48 : decode cX6_weighs 48 = .ok (.ireturn, 1) := by decide +kernel
set_option maxRecDepth 20000 in
theorem ggX6_cell_X6_corner : GoodIn wsX6_cell wsX6_corner := goodIn_ca (goodIn_r _ [8, 1, 9, 10, 11, 12, 13, 14, 15, 16, 17, 18, 19, 20, 21, 22, 23, 24, 25, 26, 27, 28, 29, 30, 31, 32] (by decide +kernel) (by decide +kernel)) (goodIn_sub (fun _ h => List.mem_cons_of_mem _ (List.mem_append_right _ h)) (by decide +kernel))
set_option maxRecDepth 20000 in
theorem gX6_cell_X6_corner : GoodIn wsX6_cell (wsV RX6 119 RX6 yX6_corner wsX6_corner) := goodIn_app (goodIn_of _ (by decide +kernel)) ggX6_cell_X6_corner
theorem dX6_cell_0 : decode cX6_cell 0 = .ok (.aload_n 0, 1) := by decide +kernel
theorem dX6_cell_1 : decode cX6_cell 1 = .ok (.iload_n 2, 1) := by decide +kernel
theorem dX6_cell_2 : decode cX6_cell 2 = .ok (.iconst 1, 1) := by decide +kernel
theorem dX6_cell_3 : decode cX6_cell 3 = .ok (.invokevirtual 119, 3) := by decide +kernel
theorem dX6_cell_6 : decode cX6_cell 6 = .ok (.istore_n 3, 1) := by decide +kernel
theorem dX6_cell_7 : decode cX6_cell 7 = .ok (.iload_n 3, 1) := by decide +kernel
theorem dX6_cell_8 : decode cX6_cell 8 = .ok (.ifCond .ge 8, 3) := by decide +kernel
theorem dX6_cell_11 : decode cX6_cell 11 = .ok (.iload_n 3, 1) := by decide +kernel
theorem dX6_cell_12 : decode cX6_cell 12 = .ok (.bipush 10, 2) := by decide +kernel
theorem dX6_cell_14 : decode cX6_cell 14 = .ok (.iadd, 1) := by decide +kernel
theorem dX6_cell_15 : decode cX6_cell 15 = .ok (.ireturn, 1) := by decide +kernel
theorem dX6_cell_16 : decode cX6_cell 16 = .ok (.aload_n 0, 1) := by decide +kernel
theorem dX6_cell_17 : decode cX6_cell 17 = .ok (.getfield 16, 3) := by decide +kernel
theorem dX6_cell_20 : decode cX6_cell 20 = .ok (.iload_n 3, 1) := by decide +kernel
theorem dX6_cell_21 : decode cX6_cell 21 = .ok (.iaload, 1) := by decide +kernel
theorem dX6_cell_22 : decode cX6_cell 22 = .ok (.ifCond .ne 5, 3) := by decide +kernel
theorem dX6_cell_25 : decode cX6_cell 25 = .ok (.iconst 3, 1) := by decide +kernel
theorem dX6_cell_26 : decode cX6_cell 26 = .ok (.ireturn, 1) := by decide +kernel
theorem dX6_cell_27 : decode cX6_cell 27 = .ok (.aload_n 0, 1) := by decide +kernel
theorem dX6_cell_28 : decode cX6_cell 28 = .ok (.getfield 47, 3) := by decide +kernel
theorem dX6_cell_31 : decode cX6_cell 31 = .ok (.iload_n 1, 1) := by decide +kernel
theorem dX6_cell_32 : decode cX6_cell 32 = .ok (.dup2, 1) := by decide +kernel
theorem dX6_cell_33 : decode cX6_cell 33 = .ok (.laload, 1) := by decide +kernel
theorem dX6_cell_34 : decode cX6_cell 34 = .ok (.aload_n 0, 1) := by decide +kernel
theorem dX6_cell_35 : decode cX6_cell 35 = .ok (.getfield 19, 3) := by decide +kernel
theorem dX6_cell_38 : decode cX6_cell 38 = .ok (.bipush 8, 2) := by decide +kernel
theorem dX6_cell_40 : decode cX6_cell 40 = .ok (.iload_n 3, 1) := by decide +kernel
theorem dX6_cell_41 : decode cX6_cell 41 = .ok (.imul, 1) := by decide +kernel
theorem dX6_cell_42 : decode cX6_cell 42 = .ok (.laload, 1) := by decide +kernel
theorem dX6_cell_43 : decode cX6_cell 43 = .ok (.ladd, 1) := by decide +kernel
theorem dX6_cell_44 : decode cX6_cell 44 = .ok (.lastore, 1) := by decide +kernel
theorem dX6_cell_45 : decode cX6_cell 45 = .ok (.iconst 0, 1) := by decide +kernel
theorem dX6_cell_46 : decode cX6_cell 46 = .ok (.ireturn, 1) := by decide +kernel
set_option maxRecDepth 20000 in
theorem ggX6_packs_X6_lays : GoodIn wsX6_packs wsX6_lays := goodIn_ca (goodIn_r _ [6, 7, 8, 9, 10, 11, 12, 13, 5, 14, 15, 16, 17, 18, 19, 20, 21, 22, 23, 24, 25, 26, 27, 28, 29, 30, 31, 32, 33, 34, 35, 36, 37, 38, 39, 40, 41, 42, 43, 44, 45] (by decide +kernel) (by decide +kernel)) (goodIn_sub (fun _ h => List.mem_cons_of_mem _ (List.mem_append_right _ h)) (by decide +kernel))
set_option maxRecDepth 20000 in
theorem gX6_packs_X6_lays : GoodIn wsX6_packs (wsV RX6 100 RX6 yX6_lays wsX6_lays) := goodIn_app (goodIn_of _ (by decide +kernel)) ggX6_packs_X6_lays
theorem dX6_packs_0 : decode cX6_packs 0 = .ok (.aload_n 0, 1) := by decide +kernel
theorem dX6_packs_1 : decode cX6_packs 1 = .ok (.iload_n 2, 1) := by decide +kernel
theorem dX6_packs_2 : decode cX6_packs 2 = .ok (.bipush 8, 2) := by decide +kernel
theorem dX6_packs_4 : decode cX6_packs 4 = .ok (.iconst 0, 1) := by decide +kernel
theorem dX6_packs_5 : decode cX6_packs 5 = .ok (.aload_n 0, 1) := by decide +kernel
theorem dX6_packs_6 : decode cX6_packs 6 = .ok (.getfield 50, 3) := by decide +kernel
theorem dX6_packs_9 : decode cX6_packs 9 = .ok (.iload_n 1, 1) := by decide +kernel
theorem dX6_packs_10 : decode cX6_packs 10 = .ok (.iaload, 1) := by decide +kernel
theorem dX6_packs_11 : decode cX6_packs 11 = .ok (.invokevirtual 100, 3) := by decide +kernel
theorem dX6_packs_14 : decode cX6_packs 14 = .ok (.istore_n 3, 1) := by decide +kernel
theorem dX6_packs_15 : decode cX6_packs 15 = .ok (.aload_n 0, 1) := by decide +kernel
theorem dX6_packs_16 : decode cX6_packs 16 = .ok (.getfield 50, 3) := by decide +kernel
theorem dX6_packs_19 : decode cX6_packs 19 = .ok (.iload_n 1, 1) := by decide +kernel
theorem dX6_packs_20 : decode cX6_packs 20 = .ok (.iload_n 3, 1) := by decide +kernel
theorem dX6_packs_21 : decode cX6_packs 21 = .ok (.ifCond .ne 7, 3) := by decide +kernel
theorem dX6_packs_24 : decode cX6_packs 24 = .ok (.iconst (-1), 1) := by decide +kernel
theorem dX6_packs_25 : decode cX6_packs 25 = .ok (.goto 9, 3) := by decide +kernel
theorem dX6_packs_28 : decode cX6_packs 28 = .ok (.aload_n 0, 1) := by decide +kernel
theorem dX6_packs_29 : decode cX6_packs 29 = .ok (.getfield 50, 3) := by decide +kernel
theorem dX6_packs_32 : decode cX6_packs 32 = .ok (.iload_n 1, 1) := by decide +kernel
theorem dX6_packs_33 : decode cX6_packs 33 = .ok (.iaload, 1) := by decide +kernel
theorem dX6_packs_34 : decode cX6_packs 34 = .ok (.iastore, 1) := by decide +kernel
theorem dX6_packs_35 : decode cX6_packs 35 = .ok (.iload_n 3, 1) := by decide +kernel
theorem dX6_packs_36 : decode cX6_packs 36 = .ok (.ireturn, 1) := by decide +kernel
set_option maxRecDepth 20000 in
theorem ggX6_spills_X6_comes : GoodIn wsX6_spills wsX6_comes := goodIn_ca (goodIn_r _ [8, 9, 2, 10, 11, 12, 13, 14, 15, 16, 17, 18, 19, 20, 21, 22, 23, 24, 25, 26, 27, 28, 29, 30, 31, 32] (by decide +kernel) (by decide +kernel)) (goodIn_sub (fun _ h => List.mem_cons_of_mem _ (List.mem_append_right _ h)) (by decide +kernel))
set_option maxRecDepth 20000 in
theorem gX6_spills_X6_comes : GoodIn wsX6_spills (wsV RX6 112 RX6 yX6_comes wsX6_comes) := goodIn_app (goodIn_of _ (by decide +kernel)) ggX6_spills_X6_comes
theorem dX6_spills_0 : decode cX6_spills 0 = .ok (.iconst 0, 1) := by decide +kernel
theorem dX6_spills_1 : decode cX6_spills 1 = .ok (.istore_n 2, 1) := by decide +kernel
theorem dX6_spills_2 : decode cX6_spills 2 = .ok (.iload_n 2, 1) := by decide +kernel
theorem dX6_spills_3 : decode cX6_spills 3 = .ok (.aload_n 0, 1) := by decide +kernel
theorem dX6_spills_4 : decode cX6_spills 4 = .ok (.getfield 16, 3) := by decide +kernel
theorem dX6_spills_7 : decode cX6_spills 7 = .ok (.iload_n 1, 1) := by decide +kernel
theorem dX6_spills_8 : decode cX6_spills 8 = .ok (.iaload, 1) := by decide +kernel
theorem dX6_spills_9 : decode cX6_spills 9 = .ok (.if_icmp .ge 51, 3) := by decide +kernel
theorem dX6_spills_12 : decode cX6_spills 12 = .ok (.aload_n 0, 1) := by decide +kernel
theorem dX6_spills_13 : decode cX6_spills 13 = .ok (.getfield 109, 3) := by decide +kernel
theorem dX6_spills_16 : decode cX6_spills 16 = .ok (.bipush 40, 2) := by decide +kernel
theorem dX6_spills_18 : decode cX6_spills 18 = .ok (.if_icmp .ge 42, 3) := by decide +kernel
theorem dX6_spills_21 : decode cX6_spills 21 = .ok (.aload_n 0, 1) := by decide +kernel
theorem dX6_spills_22 : decode cX6_spills 22 = .ok (.getfield 23, 3) := by decide +kernel
theorem dX6_spills_25 : decode cX6_spills 25 = .ok (.bipush 8, 2) := by decide +kernel
theorem dX6_spills_27 : decode cX6_spills 27 = .ok (.iload_n 1, 1) := by decide +kernel
theorem dX6_spills_28 : decode cX6_spills 28 = .ok (.imul, 1) := by decide +kernel
theorem dX6_spills_29 : decode cX6_spills 29 = .ok (.iload_n 2, 1) := by decide +kernel
theorem dX6_spills_30 : decode cX6_spills 30 = .ok (.iadd, 1) := by decide +kernel
theorem dX6_spills_31 : decode cX6_spills 31 = .ok (.iaload, 1) := by decide +kernel
theorem dX6_spills_32 : decode cX6_spills 32 = .ok (.istore_n 3, 1) := by decide +kernel
theorem dX6_spills_33 : decode cX6_spills 33 = .ok (.iload_n 3, 1) := by decide +kernel
theorem dX6_spills_34 : decode cX6_spills 34 = .ok (.ifCond .lt 20, 3) := by decide +kernel
theorem dX6_spills_37 : decode cX6_spills 37 = .ok (.aload_n 0, 1) := by decide +kernel
theorem dX6_spills_38 : decode cX6_spills 38 = .ok (.iload_n 3, 1) := by decide +kernel
theorem dX6_spills_39 : decode cX6_spills 39 = .ok (.invokevirtual 112, 3) := by decide +kernel
theorem dX6_spills_42 : decode cX6_spills 42 = .ok (.aload_n 0, 1) := by decide +kernel
theorem dX6_spills_43 : decode cX6_spills 43 = .ok (.getfield 23, 3) := by decide +kernel
theorem dX6_spills_46 : decode cX6_spills 46 = .ok (.bipush 8, 2) := by decide +kernel
theorem dX6_spills_48 : decode cX6_spills 48 = .ok (.iload_n 1, 1) := by decide +kernel
theorem dX6_spills_49 : decode cX6_spills 49 = .ok (.imul, 1) := by decide +kernel
theorem dX6_spills_50 : decode cX6_spills 50 = .ok (.iload_n 2, 1) := by decide +kernel
theorem dX6_spills_51 : decode cX6_spills 51 = .ok (.iadd, 1) := by decide +kernel
theorem dX6_spills_52 : decode cX6_spills 52 = .ok (.iconst (-1), 1) := by decide +kernel
theorem dX6_spills_53 : decode cX6_spills 53 = .ok (.iastore, 1) := by decide +kernel
theorem dX6_spills_54 : decode cX6_spills 54 = .ok (.iinc 2 1, 3) := by decide +kernel
theorem dX6_spills_57 : decode cX6_spills 57 = .ok (.goto (-55), 3) := by decide +kernel
theorem dX6_spills_60 : decode cX6_spills 60 = .ok (.iconst 0, 1) := by decide +kernel
theorem dX6_spills_61 : decode cX6_spills 61 = .ok (.ireturn, 1) := by decide +kernel
set_option maxRecDepth 20000 in
theorem ggX6_works_X6_isOf : GoodIn wsX6_works wsX6_isOf := goodIn_ca (goodIn_r _ [12, 13, 14, 62, 63, 64, 65, 66, 67, 68, 69, 70, 71, 72, 73, 74, 75, 76, 77, 78, 79, 80, 81, 82, 83, 84] (by decide +kernel) (by decide +kernel)) (goodIn_sub (fun _ h => List.mem_cons_of_mem _ (List.mem_append_right _ h)) (by decide +kernel))
set_option maxRecDepth 20000 in
theorem gX6_works_X6_isOf : GoodIn wsX6_works (wsV RX6 70 RX6 yX6_isOf wsX6_isOf) := goodIn_app (goodIn_of _ (by decide +kernel)) ggX6_works_X6_isOf
set_option maxRecDepth 20000 in
theorem ggX6_works_X6_keyOf : GoodIn wsX6_works wsX6_keyOf := goodIn_ca (goodIn_r _ [18, 14, 4, 62, 63, 64, 65, 66, 67, 68, 69, 70, 71, 72, 73, 74, 75, 76, 77, 78, 79, 80, 81, 82, 83, 84] (by decide +kernel) (by decide +kernel)) (goodIn_sub (fun _ h => List.mem_cons_of_mem _ (List.mem_append_right _ h)) (by decide +kernel))
set_option maxRecDepth 20000 in
theorem gX6_works_X6_keyOf : GoodIn wsX6_works (wsV RX6 116 RX6 yX6_keyOf wsX6_keyOf) := goodIn_app (goodIn_of _ (by decide +kernel)) ggX6_works_X6_keyOf
set_option maxRecDepth 20000 in
theorem ggX6_works_X6_heaps : GoodIn wsX6_works wsX6_heaps := goodIn_ca (goodIn_r _ [22, 6, 23, 4, 3, 15, 16, 17, 11, 18, 14, 62, 63, 64, 65, 66, 67, 68, 69, 70, 71, 72, 73, 74, 75, 76, 77, 78, 79, 80, 81, 82, 83, 84] (by decide +kernel) (by decide +kernel)) (goodIn_sub (fun _ h => List.mem_cons_of_mem _ (List.mem_append_right _ h)) (by decide +kernel))
set_option maxRecDepth 20000 in
theorem gX6_works_X6_heaps : GoodIn wsX6_works (wsV RX6 123 RX6 yX6_heaps wsX6_heaps) := goodIn_app (goodIn_of _ (by decide +kernel)) ggX6_works_X6_heaps
set_option maxRecDepth 20000 in
theorem ggX6_works_X6_packs : GoodIn wsX6_works wsX6_packs := goodIn_ca (goodIn_r _ [27, 5, 28, 29, 30, 11, 31, 32, 6, 14, 23, 8, 9, 10, 12, 13, 33, 34, 35, 36, 37, 38, 39, 62, 63, 64, 65, 66, 67, 68, 69, 70, 71, 72, 73, 74, 75, 76, 77, 78, 79, 80, 81, 82, 83, 84] (by decide +kernel) (by decide +kernel)) (goodIn_sub (fun _ h => List.mem_cons_of_mem _ (List.mem_append_right _ h)) (by decide +kernel))
set_option maxRecDepth 20000 in
theorem gX6_works_X6_packs : GoodIn wsX6_works (wsV RX6 127 RX6 yX6_packs wsX6_packs) := goodIn_app (goodIn_of _ (by decide +kernel)) ggX6_works_X6_packs
set_option maxRecDepth 20000 in
theorem ggX6_works_X6_weighs : GoodIn wsX6_works wsX6_weighs := goodIn_ca (goodIn_r _ [43, 3, 4, 44, 45, 46, 11, 47, 6, 23, 62, 63, 64, 65, 66, 67, 68, 69, 70, 71, 72, 73, 74, 75, 76, 77, 78, 79, 80, 81, 82, 83, 84] (by decide +kernel) (by decide +kernel)) (goodIn_sub (fun _ h => List.mem_cons_of_mem _ (List.mem_append_right _ h)) (by decide +kernel))
set_option maxRecDepth 20000 in
theorem gX6_works_X6_weighs : GoodIn wsX6_works (wsV RX6 130 RX6 yX6_weighs wsX6_weighs) := goodIn_app (goodIn_of _ (by decide +kernel)) ggX6_works_X6_weighs
set_option maxRecDepth 20000 in
theorem ggX6_works_X6_cell : GoodIn wsX6_works wsX6_cell := goodIn_ca (goodIn_r _ [51, 6, 3, 7, 44, 45, 46, 11, 47, 23, 62, 63, 64, 65, 66, 67, 68, 69, 70, 71, 72, 73, 74, 75, 76, 77, 78, 79, 80, 81, 82, 83, 84] (by decide +kernel) (by decide +kernel)) (goodIn_sub (fun _ h => List.mem_cons_of_mem _ (List.mem_append_right _ h)) (by decide +kernel))
set_option maxRecDepth 20000 in
theorem gX6_works_X6_cell : GoodIn wsX6_works (wsV RX6 133 RX6 yX6_cell wsX6_cell) := goodIn_app (goodIn_of _ (by decide +kernel)) ggX6_works_X6_cell
set_option maxRecDepth 20000 in
theorem ggX6_works_X6_spills : GoodIn wsX6_works wsX6_spills := goodIn_ca (goodIn_r _ [55, 6, 56, 23, 57, 58, 59, 11, 60, 61, 62, 63, 64, 65, 66, 67, 68, 69, 70, 71, 72, 73, 74, 75, 76, 77, 78, 79, 80, 81, 82, 83, 84] (by decide +kernel) (by decide +kernel)) (goodIn_sub (fun _ h => List.mem_cons_of_mem _ (List.mem_append_right _ h)) (by decide +kernel))
set_option maxRecDepth 20000 in
theorem gX6_works_X6_spills : GoodIn wsX6_works (wsV RX6 136 RX6 yX6_spills wsX6_spills) := goodIn_app (goodIn_of _ (by decide +kernel)) ggX6_works_X6_spills
theorem dX6_works_0 : decode cX6_works 0 = .ok (.aload_n 0, 1) := by decide +kernel
theorem dX6_works_1 : decode cX6_works 1 = .ok (.getfield 44, 3) := by decide +kernel
theorem dX6_works_4 : decode cX6_works 4 = .ok (.iload_n 1, 1) := by decide +kernel
theorem dX6_works_5 : decode cX6_works 5 = .ok (.iaload, 1) := by decide +kernel
theorem dX6_works_6 : decode cX6_works 6 = .ok (.istore_n 3, 1) := by decide +kernel
theorem dX6_works_7 : decode cX6_works 7 = .ok (.aload_n 0, 1) := by decide +kernel
theorem dX6_works_8 : decode cX6_works 8 = .ok (.iload_n 2, 1) := by decide +kernel
theorem dX6_works_9 : decode cX6_works 9 = .ok (.aload_n 0, 1) := by decide +kernel
theorem dX6_works_10 : decode cX6_works 10 = .ok (.getfield 35, 3) := by decide +kernel
theorem dX6_works_13 : decode cX6_works 13 = .ok (.iload_n 3, 1) := by decide +kernel
theorem dX6_works_14 : decode cX6_works 14 = .ok (.iaload, 1) := by decide +kernel
theorem dX6_works_15 : decode cX6_works 15 = .ok (.invokevirtual 70, 3) := by decide +kernel
theorem dX6_works_18 : decode cX6_works 18 = .ok (.ifCond .ne 5, 3) := by decide +kernel
theorem dX6_works_21 : decode cX6_works 21 = .ok (.iconst 1, 1) := by decide +kernel
theorem dX6_works_22 : decode cX6_works 22 = .ok (.ireturn, 1) := by decide +kernel
theorem dX6_works_23 : decode cX6_works 23 = .ok (.iload_n 3, 1) := by decide +kernel
theorem dX6_works_24 : decode cX6_works 24 = .ok (.tableswitch 173 0 12 #[68, 93, 173, 173, 173, 110, 128, 135, 143, 150, 110, 158, 164], 68) := by decide +kernel
theorem dX6_works_92 : decode cX6_works 92 = .ok (.aload_n 0, 1) := by decide +kernel
theorem dX6_works_93 : decode cX6_works 93 = .ok (.getfield 47, 3) := by decide +kernel
theorem dX6_works_96 : decode cX6_works 96 = .ok (.iload_n 1, 1) := by decide +kernel
theorem dX6_works_97 : decode cX6_works 97 = .ok (.dup2, 1) := by decide +kernel
theorem dX6_works_98 : decode cX6_works 98 = .ok (.laload, 1) := by decide +kernel
theorem dX6_works_99 : decode cX6_works 99 = .ok (.aload_n 0, 1) := by decide +kernel
theorem dX6_works_100 : decode cX6_works 100 = .ok (.getfield 13, 3) := by decide +kernel
theorem dX6_works_103 : decode cX6_works 103 = .ok (.iload_n 2, 1) := by decide +kernel
theorem dX6_works_104 : decode cX6_works 104 = .ok (.iaload, 1) := by decide +kernel
theorem dX6_works_105 : decode cX6_works 105 = .ok (.i2l, 1) := by decide +kernel
theorem dX6_works_106 : decode cX6_works 106 = .ok (.ladd, 1) := by decide +kernel
theorem dX6_works_107 : decode cX6_works 107 = .ok (.lastore, 1) := by decide +kernel
theorem dX6_works_108 : decode cX6_works 108 = .ok (.aload_n 0, 1) := by decide +kernel
theorem dX6_works_109 : decode cX6_works 109 = .ok (.getfield 50, 3) := by decide +kernel
theorem dX6_works_112 : decode cX6_works 112 = .ok (.iload_n 1, 1) := by decide +kernel
theorem dX6_works_113 : decode cX6_works 113 = .ok (.iload_n 2, 1) := by decide +kernel
theorem dX6_works_114 : decode cX6_works 114 = .ok (.iastore, 1) := by decide +kernel
theorem dX6_works_115 : decode cX6_works 115 = .ok (.iconst 0, 1) := by decide +kernel
theorem dX6_works_116 : decode cX6_works 116 = .ok (.ireturn, 1) := by decide +kernel
theorem dX6_works_117 : decode cX6_works 117 = .ok (.aload_n 0, 1) := by decide +kernel
theorem dX6_works_118 : decode cX6_works 118 = .ok (.getfield 47, 3) := by decide +kernel
theorem dX6_works_121 : decode cX6_works 121 = .ok (.iload_n 1, 1) := by decide +kernel
theorem dX6_works_122 : decode cX6_works 122 = .ok (.dup2, 1) := by decide +kernel
theorem dX6_works_123 : decode cX6_works 123 = .ok (.laload, 1) := by decide +kernel
theorem dX6_works_124 : decode cX6_works 124 = .ok (.aload_n 0, 1) := by decide +kernel
theorem dX6_works_125 : decode cX6_works 125 = .ok (.iload_n 2, 1) := by decide +kernel
theorem dX6_works_126 : decode cX6_works 126 = .ok (.invokevirtual 116, 3) := by decide +kernel
theorem dX6_works_129 : decode cX6_works 129 = .ok (.i2l, 1) := by decide +kernel
theorem dX6_works_130 : decode cX6_works 130 = .ok (.ladd, 1) := by decide +kernel
theorem dX6_works_131 : decode cX6_works 131 = .ok (.lastore, 1) := by decide +kernel
theorem dX6_works_132 : decode cX6_works 132 = .ok (.iconst 0, 1) := by decide +kernel
theorem dX6_works_133 : decode cX6_works 133 = .ok (.ireturn, 1) := by decide +kernel
theorem dX6_works_134 : decode cX6_works 134 = .ok (.aload_n 0, 1) := by decide +kernel
theorem dX6_works_135 : decode cX6_works 135 = .ok (.iload_n 1, 1) := by decide +kernel
theorem dX6_works_136 : decode cX6_works 136 = .ok (.iload_n 2, 1) := by decide +kernel
theorem dX6_works_137 : decode cX6_works 137 = .ok (.iload_n 3, 1) := by decide +kernel
theorem dX6_works_138 : decode cX6_works 138 = .ok (.bipush 10, 2) := by decide +kernel
theorem dX6_works_140 : decode cX6_works 140 = .ok (.if_icmp .ne 7, 3) := by decide +kernel
theorem dX6_works_143 : decode cX6_works 143 = .ok (.iconst 1, 1) := by decide +kernel
theorem dX6_works_144 : decode cX6_works 144 = .ok (.goto 4, 3) := by decide +kernel
theorem dX6_works_147 : decode cX6_works 147 = .ok (.iconst 0, 1) := by decide +kernel
theorem dX6_works_148 : decode cX6_works 148 = .ok (.invokevirtual 123, 3) := by decide +kernel
theorem dX6_works_151 : decode cX6_works 151 = .ok (.ireturn, 1) := by decide +kernel
theorem dX6_works_152 : decode cX6_works 152 = .ok (.aload_n 0, 1) := by decide +kernel
theorem dX6_works_153 : decode cX6_works 153 = .ok (.iload_n 1, 1) := by decide +kernel
theorem dX6_works_154 : decode cX6_works 154 = .ok (.iload_n 2, 1) := by decide +kernel
theorem dX6_works_155 : decode cX6_works 155 = .ok (.invokevirtual 127, 3) := by decide +kernel
theorem dX6_works_158 : decode cX6_works 158 = .ok (.ireturn, 1) := by decide +kernel
theorem dX6_works_159 : decode cX6_works 159 = .ok (.aload_n 0, 1) := by decide +kernel
theorem dX6_works_160 : decode cX6_works 160 = .ok (.iload_n 1, 1) := by decide +kernel
theorem dX6_works_161 : decode cX6_works 161 = .ok (.iload_n 2, 1) := by decide +kernel
theorem dX6_works_162 : decode cX6_works 162 = .ok (.iconst 2, 1) := by decide +kernel
theorem dX6_works_163 : decode cX6_works 163 = .ok (.invokevirtual 130, 3) := by decide +kernel
theorem dX6_works_166 : decode cX6_works 166 = .ok (.ireturn, 1) := by decide +kernel
theorem dX6_works_167 : decode cX6_works 167 = .ok (.aload_n 0, 1) := by decide +kernel
theorem dX6_works_168 : decode cX6_works 168 = .ok (.iload_n 1, 1) := by decide +kernel
theorem dX6_works_169 : decode cX6_works 169 = .ok (.iload_n 2, 1) := by decide +kernel
theorem dX6_works_170 : decode cX6_works 170 = .ok (.invokevirtual 133, 3) := by decide +kernel
theorem dX6_works_173 : decode cX6_works 173 = .ok (.ireturn, 1) := by decide +kernel
theorem dX6_works_174 : decode cX6_works 174 = .ok (.aload_n 0, 1) := by decide +kernel
theorem dX6_works_175 : decode cX6_works 175 = .ok (.iload_n 1, 1) := by decide +kernel
theorem dX6_works_176 : decode cX6_works 176 = .ok (.iload_n 2, 1) := by decide +kernel
theorem dX6_works_177 : decode cX6_works 177 = .ok (.iconst 3, 1) := by decide +kernel
theorem dX6_works_178 : decode cX6_works 178 = .ok (.invokevirtual 130, 3) := by decide +kernel
theorem dX6_works_181 : decode cX6_works 181 = .ok (.ireturn, 1) := by decide +kernel
theorem dX6_works_182 : decode cX6_works 182 = .ok (.aload_n 0, 1) := by decide +kernel
theorem dX6_works_183 : decode cX6_works 183 = .ok (.iload_n 2, 1) := by decide +kernel
theorem dX6_works_184 : decode cX6_works 184 = .ok (.invokevirtual 136, 3) := by decide +kernel
theorem dX6_works_187 : decode cX6_works 187 = .ok (.ireturn, 1) := by decide +kernel
theorem dX6_works_188 : decode cX6_works 188 = .ok (.aload_n 0, 1) := by decide +kernel
theorem dX6_works_189 : decode cX6_works 189 = .ok (.getfield 50, 3) := by decide +kernel
theorem dX6_works_192 : decode cX6_works 192 = .ok (.iload_n 1, 1) := by decide +kernel
theorem dX6_works_193 : decode cX6_works 193 = .ok (.iload_n 2, 1) := by decide +kernel
theorem dX6_works_194 : decode cX6_works 194 = .ok (.iastore, 1) := by decide +kernel
theorem dX6_works_195 : decode cX6_works 195 = .ok (.iconst 0, 1) := by decide +kernel
theorem dX6_works_196 : decode cX6_works 196 = .ok (.ireturn, 1) := by decide +kernel
theorem dX6_works_197 : decode cX6_works 197 = .ok (.iconst 0, 1) := by decide +kernel
theorem dX6_works_198 : decode cX6_works 198 = .ok (.istore 4, 2) := by decide +kernel
theorem dX6_works_200 : decode cX6_works 200 = .ok (.iload 4, 2) := by decide +kernel
theorem dX6_works_202 : decode cX6_works 202 = .ok (.aload_n 0, 1) := by decide +kernel
theorem dX6_works_203 : decode cX6_works 203 = .ok (.getfield 16, 3) := by decide +kernel
theorem dX6_works_206 : decode cX6_works 206 = .ok (.iload_n 2, 1) := by decide +kernel
theorem dX6_works_207 : decode cX6_works 207 = .ok (.iaload, 1) := by decide +kernel
theorem dX6_works_208 : decode cX6_works 208 = .ok (.if_icmp .ge 30, 3) := by decide +kernel
theorem dX6_works_211 : decode cX6_works 211 = .ok (.aload_n 0, 1) := by decide +kernel
theorem dX6_works_212 : decode cX6_works 212 = .ok (.getfield 47, 3) := by decide +kernel
theorem dX6_works_215 : decode cX6_works 215 = .ok (.iload_n 1, 1) := by decide +kernel
theorem dX6_works_216 : decode cX6_works 216 = .ok (.dup2, 1) := by decide +kernel
theorem dX6_works_217 : decode cX6_works 217 = .ok (.laload, 1) := by decide +kernel
theorem dX6_works_218 : decode cX6_works 218 = .ok (.aload_n 0, 1) := by decide +kernel
theorem dX6_works_219 : decode cX6_works 219 = .ok (.getfield 19, 3) := by decide +kernel
theorem dX6_works_222 : decode cX6_works 222 = .ok (.bipush 8, 2) := by decide +kernel
theorem dX6_works_224 : decode cX6_works 224 = .ok (.iload_n 2, 1) := by decide +kernel
theorem dX6_works_225 : decode cX6_works 225 = .ok (.imul, 1) := by decide +kernel
theorem dX6_works_226 : decode cX6_works 226 = .ok (.iload 4, 2) := by decide +kernel
theorem dX6_works_228 : decode cX6_works 228 = .ok (.iadd, 1) := by decide +kernel
theorem dX6_works_229 : decode cX6_works 229 = .ok (.laload, 1) := by decide +kernel
theorem dX6_works_230 : decode cX6_works 230 = .ok (.ladd, 1) := by decide +kernel
theorem dX6_works_231 : decode cX6_works 231 = .ok (.lastore, 1) := by decide +kernel
theorem dX6_works_232 : decode cX6_works 232 = .ok (.iinc 4 1, 3) := by decide +kernel
theorem dX6_works_235 : decode cX6_works 235 = .ok (.goto (-35), 3) := by decide +kernel
theorem dX6_works_238 : decode cX6_works 238 = .ok (.iconst 0, 1) := by decide +kernel
theorem dX6_works_239 : decode cX6_works 239 = .ok (.ireturn, 1) := by decide +kernel
theorem dX6_goesAside_0 : decode cX6_goesAside 0 = .ok (.bipush 59, 2) := by decide +kernel
theorem dX6_goesAside_2 : decode cX6_goesAside 2 = .ok (.istore 4, 2) := by decide +kernel
theorem dX6_goesAside_4 : decode cX6_goesAside 4 = .ok (.iload 4, 2) := by decide +kernel
theorem dX6_goesAside_6 : decode cX6_goesAside 6 = .ok (.iconst 2, 1) := by decide +kernel
theorem dX6_goesAside_7 : decode cX6_goesAside 7 = .ok (.if_icmp .le 25, 3) := by decide +kernel
theorem dX6_goesAside_10 : decode cX6_goesAside 10 = .ok (.aload_n 0, 1) := by decide +kernel
theorem dX6_goesAside_11 : decode cX6_goesAside 11 = .ok (.getfield 53, 3) := by decide +kernel
theorem dX6_goesAside_14 : decode cX6_goesAside 14 = .ok (.iload 4, 2) := by decide +kernel
theorem dX6_goesAside_16 : decode cX6_goesAside 16 = .ok (.aload_n 0, 1) := by decide +kernel
theorem dX6_goesAside_17 : decode cX6_goesAside 17 = .ok (.getfield 53, 3) := by decide +kernel
theorem dX6_goesAside_20 : decode cX6_goesAside 20 = .ok (.iload 4, 2) := by decide +kernel
theorem dX6_goesAside_22 : decode cX6_goesAside 22 = .ok (.iconst 3, 1) := by decide +kernel
theorem dX6_goesAside_23 : decode cX6_goesAside 23 = .ok (.isub, 1) := by decide +kernel
theorem dX6_goesAside_24 : decode cX6_goesAside 24 = .ok (.iaload, 1) := by decide +kernel
theorem dX6_goesAside_25 : decode cX6_goesAside 25 = .ok (.iastore, 1) := by decide +kernel
theorem dX6_goesAside_26 : decode cX6_goesAside 26 = .ok (.iinc 4 (-1), 3) := by decide +kernel
theorem dX6_goesAside_29 : decode cX6_goesAside 29 = .ok (.goto (-25), 3) := by decide +kernel
theorem dX6_goesAside_32 : decode cX6_goesAside 32 = .ok (.aload_n 0, 1) := by decide +kernel
theorem dX6_goesAside_33 : decode cX6_goesAside 33 = .ok (.getfield 53, 3) := by decide +kernel
theorem dX6_goesAside_36 : decode cX6_goesAside 36 = .ok (.iconst 0, 1) := by decide +kernel
theorem dX6_goesAside_37 : decode cX6_goesAside 37 = .ok (.iload_n 1, 1) := by decide +kernel
theorem dX6_goesAside_38 : decode cX6_goesAside 38 = .ok (.iastore, 1) := by decide +kernel
theorem dX6_goesAside_39 : decode cX6_goesAside 39 = .ok (.aload_n 0, 1) := by decide +kernel
theorem dX6_goesAside_40 : decode cX6_goesAside 40 = .ok (.getfield 53, 3) := by decide +kernel
theorem dX6_goesAside_43 : decode cX6_goesAside 43 = .ok (.iconst 1, 1) := by decide +kernel
theorem dX6_goesAside_44 : decode cX6_goesAside 44 = .ok (.iload_n 2, 1) := by decide +kernel
theorem dX6_goesAside_45 : decode cX6_goesAside 45 = .ok (.iastore, 1) := by decide +kernel
theorem dX6_goesAside_46 : decode cX6_goesAside 46 = .ok (.aload_n 0, 1) := by decide +kernel
theorem dX6_goesAside_47 : decode cX6_goesAside 47 = .ok (.getfield 53, 3) := by decide +kernel
theorem dX6_goesAside_50 : decode cX6_goesAside 50 = .ok (.iconst 2, 1) := by decide +kernel
theorem dX6_goesAside_51 : decode cX6_goesAside 51 = .ok (.iload_n 3, 1) := by decide +kernel
theorem dX6_goesAside_52 : decode cX6_goesAside 52 = .ok (.iastore, 1) := by decide +kernel
theorem dX6_goesAside_53 : decode cX6_goesAside 53 = .ok (.aload_n 0, 1) := by decide +kernel
theorem dX6_goesAside_54 : decode cX6_goesAside 54 = .ok (.aload_n 0, 1) := by decide +kernel
theorem dX6_goesAside_55 : decode cX6_goesAside 55 = .ok (.getfield 139, 3) := by decide +kernel
theorem dX6_goesAside_58 : decode cX6_goesAside 58 = .ok (.bipush 20, 2) := by decide +kernel
theorem dX6_goesAside_60 : decode cX6_goesAside 60 = .ok (.if_icmp .ge 12, 3) := by decide +kernel
theorem dX6_goesAside_63 : decode cX6_goesAside 63 = .ok (.aload_n 0, 1) := by decide +kernel
theorem dX6_goesAside_64 : decode cX6_goesAside 64 = .ok (.getfield 139, 3) := by decide +kernel
theorem dX6_goesAside_67 : decode cX6_goesAside 67 = .ok (.iconst 1, 1) := by decide +kernel
theorem dX6_goesAside_68 : decode cX6_goesAside 68 = .ok (.iadd, 1) := by decide +kernel
theorem dX6_goesAside_69 : decode cX6_goesAside 69 = .ok (.goto 5, 3) := by decide +kernel
theorem dX6_goesAside_72 : decode cX6_goesAside 72 = .ok (.bipush 20, 2) := by decide +kernel
theorem dX6_goesAside_74 : decode cX6_goesAside 74 = .ok (.putfield 139, 3) := by decide +kernel
theorem dX6_goesAside_77 : decode cX6_goesAside 77 = .ok (.return_, 1) := by decide +kernel
set_option maxRecDepth 20000 in
theorem ggX6_steps_X6_isOf : GoodIn wsX6_steps wsX6_isOf := goodIn_ca (goodIn_r _ [12, 13, 14, 82, 83, 84, 85, 86, 87, 88, 89, 90, 91, 92, 93, 94, 95, 96, 97, 98, 99, 100, 101, 102, 103, 104] (by decide +kernel) (by decide +kernel)) (goodIn_sub (fun _ h => List.mem_cons_of_mem _ (List.mem_append_right _ h)) (by decide +kernel))
set_option maxRecDepth 20000 in
theorem gX6_steps_X6_isOf : GoodIn wsX6_steps (wsV RX6 70 RX6 yX6_isOf wsX6_isOf) := goodIn_app (goodIn_of _ (by decide +kernel)) ggX6_steps_X6_isOf
set_option maxRecDepth 20000 in
theorem ggX6_steps_X6_works : GoodIn wsX6_steps wsX6_works := goodIn_ca (goodIn_r _ [18, 19, 20, 21, 22, 23, 24, 25, 8, 9, 10, 11, 12, 13, 14, 26, 27, 28, 29, 30, 31, 32, 33, 34, 35, 36, 37, 38, 39, 40, 41, 42, 43, 44, 45, 46, 47, 48, 49, 50, 51, 52, 53, 54, 55, 56, 57, 58, 59, 60, 61, 62, 63, 64, 65, 66, 2, 67, 68, 69, 70, 1, 82, 83, 84, 85, 86, 87, 88, 89, 90, 91, 92, 93, 94, 95, 96, 97, 98, 99, 100, 101, 102, 103, 104] (by decide +kernel) (by decide +kernel)) (goodIn_sub (fun _ h => List.mem_cons_of_mem _ (List.mem_append_right _ h)) (by decide +kernel))
set_option maxRecDepth 20000 in
theorem gX6_steps_X6_works : GoodIn wsX6_steps (wsV RX6 145 RX6 yX6_works wsX6_works) := goodIn_app (goodIn_of _ (by decide +kernel)) ggX6_steps_X6_works
set_option maxRecDepth 20000 in
theorem ggX6_steps_X6_goesAside : GoodIn wsX6_steps wsX6_goesAside := goodIn_ca (goodIn_r _ [74, 75, 76, 82, 83, 84, 85, 86, 87, 88, 89, 90, 91, 92, 93, 94, 95, 96, 97, 98, 99, 100, 101, 102, 103, 104] (by decide +kernel) (by decide +kernel)) (goodIn_sub (fun _ h => List.mem_cons_of_mem _ (List.mem_append_right _ h)) (by decide +kernel))
set_option maxRecDepth 20000 in
theorem gX6_steps_X6_goesAside : GoodIn wsX6_steps (wsV RX6 153 RX6 yX6_goesAside wsX6_goesAside) := goodIn_app (goodIn_of _ (by decide +kernel)) ggX6_steps_X6_goesAside
set_option maxRecDepth 20000 in
theorem ggX6_steps_X6_found : GoodIn wsX6_steps wsX6_found := goodIn_ca (goodIn_r _ [80, 81, 82, 83, 84, 85, 86, 87, 88, 89, 90, 91, 92, 93, 94, 95, 96, 97, 98, 99, 100, 101, 102, 103, 104] (by decide +kernel) (by decide +kernel)) (goodIn_sub (fun _ h => List.mem_cons_of_mem _ (List.mem_append_right _ h)) (by decide +kernel))
set_option maxRecDepth 20000 in
theorem gX6_steps_X6_found : GoodIn wsX6_steps (wsV RX6 78 RX6 yX6_found wsX6_found) := goodIn_app (goodIn_of _ (by decide +kernel)) ggX6_steps_X6_found
theorem dX6_steps_0 : decode cX6_steps 0 = .ok (.aload_n 0, 1) := by decide +kernel
theorem dX6_steps_1 : decode cX6_steps 1 = .ok (.getfield 38, 3) := by decide +kernel
theorem dX6_steps_4 : decode cX6_steps 4 = .ok (.iconst 0, 1) := by decide +kernel
theorem dX6_steps_5 : decode cX6_steps 5 = .ok (.iaload, 1) := by decide +kernel
theorem dX6_steps_6 : decode cX6_steps 6 = .ok (.istore_n 1, 1) := by decide +kernel
theorem dX6_steps_7 : decode cX6_steps 7 = .ok (.aload_n 0, 1) := by decide +kernel
theorem dX6_steps_8 : decode cX6_steps 8 = .ok (.dup, 1) := by decide +kernel
theorem dX6_steps_9 : decode cX6_steps 9 = .ok (.getfield 109, 3) := by decide +kernel
theorem dX6_steps_12 : decode cX6_steps 12 = .ok (.iconst 1, 1) := by decide +kernel
theorem dX6_steps_13 : decode cX6_steps 13 = .ok (.isub, 1) := by decide +kernel
theorem dX6_steps_14 : decode cX6_steps 14 = .ok (.putfield 109, 3) := by decide +kernel
theorem dX6_steps_17 : decode cX6_steps 17 = .ok (.iconst 0, 1) := by decide +kernel
theorem dX6_steps_18 : decode cX6_steps 18 = .ok (.istore_n 2, 1) := by decide +kernel
theorem dX6_steps_19 : decode cX6_steps 19 = .ok (.iload_n 2, 1) := by decide +kernel
theorem dX6_steps_20 : decode cX6_steps 20 = .ok (.aload_n 0, 1) := by decide +kernel
theorem dX6_steps_21 : decode cX6_steps 21 = .ok (.getfield 109, 3) := by decide +kernel
theorem dX6_steps_24 : decode cX6_steps 24 = .ok (.if_icmp .ge 23, 3) := by decide +kernel
theorem dX6_steps_27 : decode cX6_steps 27 = .ok (.aload_n 0, 1) := by decide +kernel
theorem dX6_steps_28 : decode cX6_steps 28 = .ok (.getfield 38, 3) := by decide +kernel
theorem dX6_steps_31 : decode cX6_steps 31 = .ok (.iload_n 2, 1) := by decide +kernel
theorem dX6_steps_32 : decode cX6_steps 32 = .ok (.aload_n 0, 1) := by decide +kernel
theorem dX6_steps_33 : decode cX6_steps 33 = .ok (.getfield 38, 3) := by decide +kernel
theorem dX6_steps_36 : decode cX6_steps 36 = .ok (.iload_n 2, 1) := by decide +kernel
theorem dX6_steps_37 : decode cX6_steps 37 = .ok (.iconst 1, 1) := by decide +kernel
theorem dX6_steps_38 : decode cX6_steps 38 = .ok (.iadd, 1) := by decide +kernel
theorem dX6_steps_39 : decode cX6_steps 39 = .ok (.iaload, 1) := by decide +kernel
theorem dX6_steps_40 : decode cX6_steps 40 = .ok (.iastore, 1) := by decide +kernel
theorem dX6_steps_41 : decode cX6_steps 41 = .ok (.iinc 2 1, 3) := by decide +kernel
theorem dX6_steps_44 : decode cX6_steps 44 = .ok (.goto (-25), 3) := by decide +kernel
theorem dX6_steps_47 : decode cX6_steps 47 = .ok (.iconst 0, 1) := by decide +kernel
theorem dX6_steps_48 : decode cX6_steps 48 = .ok (.istore_n 2, 1) := by decide +kernel
theorem dX6_steps_49 : decode cX6_steps 49 = .ok (.iload_n 2, 1) := by decide +kernel
theorem dX6_steps_50 : decode cX6_steps 50 = .ok (.aload_n 0, 1) := by decide +kernel
theorem dX6_steps_51 : decode cX6_steps 51 = .ok (.getfield 106, 3) := by decide +kernel
theorem dX6_steps_54 : decode cX6_steps 54 = .ok (.if_icmp .ge 23, 3) := by decide +kernel
theorem dX6_steps_57 : decode cX6_steps 57 = .ok (.aload_n 0, 1) := by decide +kernel
theorem dX6_steps_58 : decode cX6_steps 58 = .ok (.iload_n 1, 1) := by decide +kernel
theorem dX6_steps_59 : decode cX6_steps 59 = .ok (.aload_n 0, 1) := by decide +kernel
theorem dX6_steps_60 : decode cX6_steps 60 = .ok (.getfield 41, 3) := by decide +kernel
theorem dX6_steps_63 : decode cX6_steps 63 = .ok (.iload_n 2, 1) := by decide +kernel
theorem dX6_steps_64 : decode cX6_steps 64 = .ok (.iaload, 1) := by decide +kernel
theorem dX6_steps_65 : decode cX6_steps 65 = .ok (.invokevirtual 70, 3) := by decide +kernel
theorem dX6_steps_68 : decode cX6_steps 68 = .ok (.ifCond .ne 9, 3) := by decide +kernel
theorem dX6_steps_71 : decode cX6_steps 71 = .ok (.iinc 2 1, 3) := by decide +kernel
theorem dX6_steps_74 : decode cX6_steps 74 = .ok (.goto (-25), 3) := by decide +kernel
theorem dX6_steps_77 : decode cX6_steps 77 = .ok (.iload_n 2, 1) := by decide +kernel
theorem dX6_steps_78 : decode cX6_steps 78 = .ok (.aload_n 0, 1) := by decide +kernel
theorem dX6_steps_79 : decode cX6_steps 79 = .ok (.getfield 106, 3) := by decide +kernel
theorem dX6_steps_82 : decode cX6_steps 82 = .ok (.if_icmp .ne 16, 3) := by decide +kernel
theorem dX6_steps_85 : decode cX6_steps 85 = .ok (.aload_n 0, 1) := by decide +kernel
theorem dX6_steps_86 : decode cX6_steps 86 = .ok (.dup, 1) := by decide +kernel
theorem dX6_steps_87 : decode cX6_steps 87 = .ok (.getfield 142, 3) := by decide +kernel
theorem dX6_steps_90 : decode cX6_steps 90 = .ok (.iconst 1, 1) := by decide +kernel
theorem dX6_steps_91 : decode cX6_steps 91 = .ok (.iadd, 1) := by decide +kernel
theorem dX6_steps_92 : decode cX6_steps 92 = .ok (.putfield 142, 3) := by decide +kernel
theorem dX6_steps_95 : decode cX6_steps 95 = .ok (.bipush (-6), 2) := by decide +kernel
theorem dX6_steps_97 : decode cX6_steps 97 = .ok (.ireturn, 1) := by decide +kernel
theorem dX6_steps_98 : decode cX6_steps 98 = .ok (.aload_n 0, 1) := by decide +kernel
theorem dX6_steps_99 : decode cX6_steps 99 = .ok (.iload_n 2, 1) := by decide +kernel
theorem dX6_steps_100 : decode cX6_steps 100 = .ok (.iload_n 1, 1) := by decide +kernel
theorem dX6_steps_101 : decode cX6_steps 101 = .ok (.invokevirtual 145, 3) := by decide +kernel
theorem dX6_steps_104 : decode cX6_steps 104 = .ok (.istore_n 3, 1) := by decide +kernel
theorem dX6_steps_105 : decode cX6_steps 105 = .ok (.iload_n 3, 1) := by decide +kernel
theorem dX6_steps_106 : decode cX6_steps 106 = .ok (.ifCond .ne 15, 3) := by decide +kernel
theorem dX6_steps_109 : decode cX6_steps 109 = .ok (.aload_n 0, 1) := by decide +kernel
theorem dX6_steps_110 : decode cX6_steps 110 = .ok (.dup, 1) := by decide +kernel
theorem dX6_steps_111 : decode cX6_steps 111 = .ok (.getfield 147, 3) := by decide +kernel
theorem dX6_steps_114 : decode cX6_steps 114 = .ok (.iconst 1, 1) := by decide +kernel
theorem dX6_steps_115 : decode cX6_steps 115 = .ok (.iadd, 1) := by decide +kernel
theorem dX6_steps_116 : decode cX6_steps 116 = .ok (.putfield 147, 3) := by decide +kernel
theorem dX6_steps_119 : decode cX6_steps 119 = .ok (.iload_n 2, 1) := by decide +kernel
theorem dX6_steps_120 : decode cX6_steps 120 = .ok (.ireturn, 1) := by decide +kernel
theorem dX6_steps_121 : decode cX6_steps 121 = .ok (.aload_n 0, 1) := by decide +kernel
theorem dX6_steps_122 : decode cX6_steps 122 = .ok (.dup, 1) := by decide +kernel
theorem dX6_steps_123 : decode cX6_steps 123 = .ok (.getfield 150, 3) := by decide +kernel
theorem dX6_steps_126 : decode cX6_steps 126 = .ok (.iconst 1, 1) := by decide +kernel
theorem dX6_steps_127 : decode cX6_steps 127 = .ok (.iadd, 1) := by decide +kernel
theorem dX6_steps_128 : decode cX6_steps 128 = .ok (.putfield 150, 3) := by decide +kernel
theorem dX6_steps_131 : decode cX6_steps 131 = .ok (.aload_n 0, 1) := by decide +kernel
theorem dX6_steps_132 : decode cX6_steps 132 = .ok (.iload_n 1, 1) := by decide +kernel
theorem dX6_steps_133 : decode cX6_steps 133 = .ok (.iload_n 2, 1) := by decide +kernel
theorem dX6_steps_134 : decode cX6_steps 134 = .ok (.iload_n 3, 1) := by decide +kernel
theorem dX6_steps_135 : decode cX6_steps 135 = .ok (.invokevirtual 153, 3) := by decide +kernel
theorem dX6_steps_138 : decode cX6_steps 138 = .ok (.aload_n 0, 1) := by decide +kernel
theorem dX6_steps_139 : decode cX6_steps 139 = .ok (.iload_n 3, 1) := by decide +kernel
theorem dX6_steps_140 : decode cX6_steps 140 = .ok (.invokevirtual 78, 3) := by decide +kernel
theorem dX6_steps_143 : decode cX6_steps 143 = .ok (.ireturn, 1) := by decide +kernel
set_option maxRecDepth 20000 in
theorem ggX6_step_X6_steps : GoodIn wsX6_step wsX6_steps := goodIn_ca (goodIn_r _ [7, 8, 2, 9, 10, 11, 12, 13, 14, 15, 16, 6, 17, 18, 19, 20, 21, 22, 23, 24, 25, 26, 27, 28, 29, 30, 31, 32, 33, 34, 35, 36, 37, 38, 39, 40, 41, 42, 43, 44, 45, 46, 47, 48, 49, 50, 51, 52, 53, 54, 55, 56, 57, 58, 59, 60, 61, 62, 63, 64, 65, 66, 67, 68, 69, 70, 71, 72, 73, 74, 75, 76, 77, 78, 79, 80, 81, 82, 83, 84, 85, 86, 87, 88, 89, 90, 91, 92, 93, 94, 95, 96, 97, 98, 99, 100, 101, 102, 103, 104, 105, 106, 107, 108, 109] (by decide +kernel) (by decide +kernel)) (goodIn_sub (fun _ h => List.mem_cons_of_mem _ (List.mem_append_right _ h)) (by decide +kernel))
set_option maxRecDepth 20000 in
theorem gX6_step_X6_steps : GoodIn wsX6_step (wsV RX6 157 RX6 yX6_steps wsX6_steps) := goodIn_app (goodIn_of _ (by decide +kernel)) ggX6_step_X6_steps
theorem dX6_step_0 : decode cX6_step 0 = .ok (.aload_n 0, 1) := by decide +kernel
theorem dX6_step_1 : decode cX6_step 1 = .ok (.iconst 0, 1) := by decide +kernel
theorem dX6_step_2 : decode cX6_step 2 = .ok (.putfield 59, 3) := by decide +kernel
theorem dX6_step_5 : decode cX6_step 5 = .ok (.aload_n 0, 1) := by decide +kernel
theorem dX6_step_6 : decode cX6_step 6 = .ok (.getfield 109, 3) := by decide +kernel
theorem dX6_step_9 : decode cX6_step 9 = .ok (.ifCond .ne 8, 3) := by decide +kernel
theorem dX6_step_12 : decode cX6_step 12 = .ok (.bipush (-5), 2) := by decide +kernel
theorem dX6_step_14 : decode cX6_step 14 = .ok (.goto 7, 3) := by decide +kernel
theorem dX6_step_17 : decode cX6_step 17 = .ok (.aload_n 0, 1) := by decide +kernel
theorem dX6_step_18 : decode cX6_step 18 = .ok (.invokevirtual 157, 3) := by decide +kernel
theorem dX6_step_21 : decode cX6_step 21 = .ok (.ireturn, 1) := by decide +kernel
set_option maxRecDepth 20000 in
theorem ggX6_run_X6_in : GoodIn wsX6_run wsX6_in := goodIn_r _ [6] (by decide +kernel) (by decide +kernel)
set_option maxRecDepth 20000 in
theorem gX6_run_X6_in : GoodIn wsX6_run (va_wsS RX6 66 yX6_in wsX6_in) := goodIn_app (goodIn_of _ (by decide +kernel)) ggX6_run_X6_in
set_option maxRecDepth 20000 in
theorem ggX6_run_X6_steps : GoodIn wsX6_run wsX6_steps := goodIn_ca (goodIn_r _ [10, 11, 2, 12, 13, 14, 15, 16, 17, 18, 19, 5, 20, 21, 22, 23, 24, 25, 26, 27, 28, 29, 30, 31, 32, 33, 34, 35, 36, 37, 38, 39, 40, 41, 42, 43, 44, 45, 46, 47, 48, 49, 50, 51, 52, 53, 54, 55, 3, 4, 6, 56, 57, 58, 59, 60, 61, 62, 63, 64, 65, 66, 67, 68, 69, 70, 71, 72, 73, 74, 75, 76, 77, 78, 79, 80, 81, 82, 83, 84, 85, 86, 87, 88, 89, 90, 91, 92, 93, 94, 95, 96, 97, 98, 99, 100, 101, 102, 103, 104, 105, 106, 107, 108, 109] (by decide +kernel) (by decide +kernel)) (goodIn_sub (fun _ h => List.mem_cons_of_mem _ (List.mem_append_right _ h)) (by decide +kernel))
set_option maxRecDepth 20000 in
theorem gX6_run_X6_steps : GoodIn wsX6_run (wsV RX6 157 RX6 yX6_steps wsX6_steps) := goodIn_app (goodIn_of _ (by decide +kernel)) ggX6_run_X6_steps
theorem dX6_run_0 : decode cX6_run 0 = .ok (.aload_n 0, 1) := by decide +kernel
theorem dX6_run_1 : decode cX6_run 1 = .ok (.iconst 0, 1) := by decide +kernel
theorem dX6_run_2 : decode cX6_run 2 = .ok (.putfield 59, 3) := by decide +kernel
theorem dX6_run_5 : decode cX6_run 5 = .ok (.iload_n 1, 1) := by decide +kernel
theorem dX6_run_6 : decode cX6_run 6 = .ok (.iconst 0, 1) := by decide +kernel
theorem dX6_run_7 : decode cX6_run 7 = .ok (.bipush 100, 2) := by decide +kernel
theorem dX6_run_9 : decode cX6_run 9 = .ok (.invokestatic 66, 3) := by decide +kernel
theorem dX6_run_12 : decode cX6_run 12 = .ok (.ifCond .ne 6, 3) := by decide +kernel
theorem dX6_run_15 : decode cX6_run 15 = .ok (.bipush (-2), 2) := by decide +kernel
theorem dX6_run_17 : decode cX6_run 17 = .ok (.ireturn, 1) := by decide +kernel
theorem dX6_run_18 : decode cX6_run 18 = .ok (.iconst 0, 1) := by decide +kernel
theorem dX6_run_19 : decode cX6_run 19 = .ok (.istore_n 2, 1) := by decide +kernel
theorem dX6_run_20 : decode cX6_run 20 = .ok (.iconst 0, 1) := by decide +kernel
theorem dX6_run_21 : decode cX6_run 21 = .ok (.istore_n 3, 1) := by decide +kernel
theorem dX6_run_22 : decode cX6_run 22 = .ok (.iload_n 3, 1) := by decide +kernel
theorem dX6_run_23 : decode cX6_run 23 = .ok (.iload_n 1, 1) := by decide +kernel
theorem dX6_run_24 : decode cX6_run 24 = .ok (.if_icmp .ge 35, 3) := by decide +kernel
theorem dX6_run_27 : decode cX6_run 27 = .ok (.aload_n 0, 1) := by decide +kernel
theorem dX6_run_28 : decode cX6_run 28 = .ok (.getfield 109, 3) := by decide +kernel
theorem dX6_run_31 : decode cX6_run 31 = .ok (.ifCond .le 28, 3) := by decide +kernel
theorem dX6_run_34 : decode cX6_run 34 = .ok (.iload_n 2, 1) := by decide +kernel
theorem dX6_run_35 : decode cX6_run 35 = .ok (.aload_n 0, 1) := by decide +kernel
theorem dX6_run_36 : decode cX6_run 36 = .ok (.invokevirtual 157, 3) := by decide +kernel
theorem dX6_run_39 : decode cX6_run 39 = .ok (.bipush (-20), 2) := by decide +kernel
theorem dX6_run_41 : decode cX6_run 41 = .ok (.if_icmp .gt 9, 3) := by decide +kernel
theorem dX6_run_44 : decode cX6_run 44 = .ok (.sipush 1000, 3) := by decide +kernel
theorem dX6_run_47 : decode cX6_run 47 = .ok (.goto 4, 3) := by decide +kernel
theorem dX6_run_50 : decode cX6_run 50 = .ok (.iconst 1, 1) := by decide +kernel
theorem dX6_run_51 : decode cX6_run 51 = .ok (.iadd, 1) := by decide +kernel
theorem dX6_run_52 : decode cX6_run 52 = .ok (.istore_n 2, 1) := by decide +kernel
theorem dX6_run_53 : decode cX6_run 53 = .ok (.iinc 3 1, 3) := by decide +kernel
theorem dX6_run_56 : decode cX6_run 56 = .ok (.goto (-34), 3) := by decide +kernel
theorem dX6_run_59 : decode cX6_run 59 = .ok (.iload_n 2, 1) := by decide +kernel
theorem dX6_run_60 : decode cX6_run 60 = .ok (.ireturn, 1) := by decide +kernel
set_option maxRecDepth 20000 in
theorem ggX6_total_X6_in : GoodIn wsX6_total wsX6_in := goodIn_r _ [7] (by decide +kernel) (by decide +kernel)
set_option maxRecDepth 20000 in
theorem gX6_total_X6_in : GoodIn wsX6_total (va_wsS RX6 66 yX6_in wsX6_in) := goodIn_app (goodIn_of _ (by decide +kernel)) ggX6_total_X6_in
theorem dX6_total_0 : decode cX6_total 0 = .ok (.aload_n 0, 1) := by decide +kernel
theorem dX6_total_1 : decode cX6_total 1 = .ok (.iconst 0, 1) := by decide +kernel
theorem dX6_total_2 : decode cX6_total 2 = .ok (.putfield 59, 3) := by decide +kernel
theorem dX6_total_5 : decode cX6_total 5 = .ok (.iload_n 1, 1) := by decide +kernel
theorem dX6_total_6 : decode cX6_total 6 = .ok (.iconst 0, 1) := by decide +kernel
theorem dX6_total_7 : decode cX6_total 7 = .ok (.aload_n 0, 1) := by decide +kernel
theorem dX6_total_8 : decode cX6_total 8 = .ok (.getfield 106, 3) := by decide +kernel
theorem dX6_total_11 : decode cX6_total 11 = .ok (.iconst 1, 1) := by decide +kernel
theorem dX6_total_12 : decode cX6_total 12 = .ok (.isub, 1) := by decide +kernel
theorem dX6_total_13 : decode cX6_total 13 = .ok (.invokestatic 66, 3) := by decide +kernel
theorem dX6_total_16 : decode cX6_total 16 = .ok (.ifCond .eq 12, 3) := by decide +kernel
theorem dX6_total_19 : decode cX6_total 19 = .ok (.aload_n 0, 1) := by decide +kernel
theorem dX6_total_20 : decode cX6_total 20 = .ok (.getfield 47, 3) := by decide +kernel
theorem dX6_total_23 : decode cX6_total 23 = .ok (.iload_n 1, 1) := by decide +kernel
theorem dX6_total_24 : decode cX6_total 24 = .ok (.laload, 1) := by decide +kernel
theorem dX6_total_25 : decode cX6_total 25 = .ok (.goto 4, 3) := by decide +kernel
theorem dX6_total_28 : decode cX6_total 28 = .ok (.lconst 0, 1) := by decide +kernel
theorem dX6_total_29 : decode cX6_total 29 = .ok (.lreturn, 1) := by decide +kernel
set_option maxRecDepth 20000 in
theorem ggX6_slot_X6_in : GoodIn wsX6_slot wsX6_in := goodIn_r _ [7] (by decide +kernel) (by decide +kernel)
set_option maxRecDepth 20000 in
theorem gX6_slot_X6_in : GoodIn wsX6_slot (va_wsS RX6 66 yX6_in wsX6_in) := goodIn_app (goodIn_of _ (by decide +kernel)) ggX6_slot_X6_in
set_option maxRecDepth 20000 in
theorem ggX6_slot_X6_told : GoodIn wsX6_slot wsX6_told := goodIn_r _ [10] (by decide +kernel) (by decide +kernel)
set_option maxRecDepth 20000 in
theorem gX6_slot_X6_told : GoodIn wsX6_slot (va_wsS RX6 103 yX6_told wsX6_told) := goodIn_app (goodIn_of _ (by decide +kernel)) ggX6_slot_X6_told
theorem dX6_slot_0 : decode cX6_slot 0 = .ok (.aload_n 0, 1) := by decide +kernel
theorem dX6_slot_1 : decode cX6_slot 1 = .ok (.iconst 0, 1) := by decide +kernel
theorem dX6_slot_2 : decode cX6_slot 2 = .ok (.putfield 59, 3) := by decide +kernel
theorem dX6_slot_5 : decode cX6_slot 5 = .ok (.iload_n 1, 1) := by decide +kernel
theorem dX6_slot_6 : decode cX6_slot 6 = .ok (.iconst 0, 1) := by decide +kernel
theorem dX6_slot_7 : decode cX6_slot 7 = .ok (.aload_n 0, 1) := by decide +kernel
theorem dX6_slot_8 : decode cX6_slot 8 = .ok (.getfield 106, 3) := by decide +kernel
theorem dX6_slot_11 : decode cX6_slot 11 = .ok (.iconst 1, 1) := by decide +kernel
theorem dX6_slot_12 : decode cX6_slot 12 = .ok (.isub, 1) := by decide +kernel
theorem dX6_slot_13 : decode cX6_slot 13 = .ok (.invokestatic 66, 3) := by decide +kernel
theorem dX6_slot_16 : decode cX6_slot 16 = .ok (.ifCond .eq 15, 3) := by decide +kernel
theorem dX6_slot_19 : decode cX6_slot 19 = .ok (.aload_n 0, 1) := by decide +kernel
theorem dX6_slot_20 : decode cX6_slot 20 = .ok (.getfield 50, 3) := by decide +kernel
theorem dX6_slot_23 : decode cX6_slot 23 = .ok (.iload_n 1, 1) := by decide +kernel
theorem dX6_slot_24 : decode cX6_slot 24 = .ok (.iaload, 1) := by decide +kernel
theorem dX6_slot_25 : decode cX6_slot 25 = .ok (.invokestatic 103, 3) := by decide +kernel
theorem dX6_slot_28 : decode cX6_slot 28 = .ok (.goto 4, 3) := by decide +kernel
theorem dX6_slot_31 : decode cX6_slot 31 = .ok (.iconst (-1), 1) := by decide +kernel
theorem dX6_slot_32 : decode cX6_slot 32 = .ok (.ireturn, 1) := by decide +kernel
set_option maxRecDepth 20000 in
theorem ggX6_belt_X6_in : GoodIn wsX6_belt wsX6_in := goodIn_r _ [7] (by decide +kernel) (by decide +kernel)
set_option maxRecDepth 20000 in
theorem gX6_belt_X6_in : GoodIn wsX6_belt (va_wsS RX6 66 yX6_in wsX6_in) := goodIn_app (goodIn_of _ (by decide +kernel)) ggX6_belt_X6_in
theorem dX6_belt_0 : decode cX6_belt 0 = .ok (.aload_n 0, 1) := by decide +kernel
theorem dX6_belt_1 : decode cX6_belt 1 = .ok (.iconst 0, 1) := by decide +kernel
theorem dX6_belt_2 : decode cX6_belt 2 = .ok (.putfield 59, 3) := by decide +kernel
theorem dX6_belt_5 : decode cX6_belt 5 = .ok (.iload_n 1, 1) := by decide +kernel
theorem dX6_belt_6 : decode cX6_belt 6 = .ok (.iconst 0, 1) := by decide +kernel
theorem dX6_belt_7 : decode cX6_belt 7 = .ok (.aload_n 0, 1) := by decide +kernel
theorem dX6_belt_8 : decode cX6_belt 8 = .ok (.getfield 109, 3) := by decide +kernel
theorem dX6_belt_11 : decode cX6_belt 11 = .ok (.iconst 1, 1) := by decide +kernel
theorem dX6_belt_12 : decode cX6_belt 12 = .ok (.isub, 1) := by decide +kernel
theorem dX6_belt_13 : decode cX6_belt 13 = .ok (.invokestatic 66, 3) := by decide +kernel
theorem dX6_belt_16 : decode cX6_belt 16 = .ok (.ifCond .eq 12, 3) := by decide +kernel
theorem dX6_belt_19 : decode cX6_belt 19 = .ok (.aload_n 0, 1) := by decide +kernel
theorem dX6_belt_20 : decode cX6_belt 20 = .ok (.getfield 38, 3) := by decide +kernel
theorem dX6_belt_23 : decode cX6_belt 23 = .ok (.iload_n 1, 1) := by decide +kernel
theorem dX6_belt_24 : decode cX6_belt 24 = .ok (.iaload, 1) := by decide +kernel
theorem dX6_belt_25 : decode cX6_belt 25 = .ok (.goto 5, 3) := by decide +kernel
theorem dX6_belt_28 : decode cX6_belt 28 = .ok (.bipush (-5), 2) := by decide +kernel
theorem dX6_belt_30 : decode cX6_belt 30 = .ok (.ireturn, 1) := by decide +kernel
set_option maxRecDepth 20000 in
theorem ggX6_side_X6_in : GoodIn wsX6_side wsX6_in := goodIn_r _ [7] (by decide +kernel) (by decide +kernel)
set_option maxRecDepth 20000 in
theorem gX6_side_X6_in : GoodIn wsX6_side (va_wsS RX6 66 yX6_in wsX6_in) := goodIn_app (goodIn_of _ (by decide +kernel)) ggX6_side_X6_in
theorem dX6_side_0 : decode cX6_side 0 = .ok (.aload_n 0, 1) := by decide +kernel
theorem dX6_side_1 : decode cX6_side 1 = .ok (.iconst 0, 1) := by decide +kernel
theorem dX6_side_2 : decode cX6_side 2 = .ok (.putfield 59, 3) := by decide +kernel
theorem dX6_side_5 : decode cX6_side 5 = .ok (.iload_n 2, 1) := by decide +kernel
theorem dX6_side_6 : decode cX6_side 6 = .ok (.iconst 0, 1) := by decide +kernel
theorem dX6_side_7 : decode cX6_side 7 = .ok (.iconst 2, 1) := by decide +kernel
theorem dX6_side_8 : decode cX6_side 8 = .ok (.invokestatic 66, 3) := by decide +kernel
theorem dX6_side_11 : decode cX6_side 11 = .ok (.ifCond .ne 8, 3) := by decide +kernel
theorem dX6_side_14 : decode cX6_side 14 = .ok (.bipush (-2), 2) := by decide +kernel
theorem dX6_side_16 : decode cX6_side 16 = .ok (.goto 32, 3) := by decide +kernel
theorem dX6_side_19 : decode cX6_side 19 = .ok (.iload_n 1, 1) := by decide +kernel
theorem dX6_side_20 : decode cX6_side 20 = .ok (.iconst 0, 1) := by decide +kernel
theorem dX6_side_21 : decode cX6_side 21 = .ok (.aload_n 0, 1) := by decide +kernel
theorem dX6_side_22 : decode cX6_side 22 = .ok (.getfield 139, 3) := by decide +kernel
theorem dX6_side_25 : decode cX6_side 25 = .ok (.iconst 1, 1) := by decide +kernel
theorem dX6_side_26 : decode cX6_side 26 = .ok (.isub, 1) := by decide +kernel
theorem dX6_side_27 : decode cX6_side 27 = .ok (.invokestatic 66, 3) := by decide +kernel
theorem dX6_side_30 : decode cX6_side 30 = .ok (.ifCond .eq 16, 3) := by decide +kernel
theorem dX6_side_33 : decode cX6_side 33 = .ok (.aload_n 0, 1) := by decide +kernel
theorem dX6_side_34 : decode cX6_side 34 = .ok (.getfield 53, 3) := by decide +kernel
theorem dX6_side_37 : decode cX6_side 37 = .ok (.iconst 3, 1) := by decide +kernel
theorem dX6_side_38 : decode cX6_side 38 = .ok (.iload_n 1, 1) := by decide +kernel
theorem dX6_side_39 : decode cX6_side 39 = .ok (.imul, 1) := by decide +kernel
theorem dX6_side_40 : decode cX6_side 40 = .ok (.iload_n 2, 1) := by decide +kernel
theorem dX6_side_41 : decode cX6_side 41 = .ok (.iadd, 1) := by decide +kernel
theorem dX6_side_42 : decode cX6_side 42 = .ok (.iaload, 1) := by decide +kernel
theorem dX6_side_43 : decode cX6_side 43 = .ok (.goto 5, 3) := by decide +kernel
theorem dX6_side_46 : decode cX6_side 46 = .ok (.bipush (-5), 2) := by decide +kernel
theorem dX6_side_48 : decode cX6_side 48 = .ok (.ireturn, 1) := by decide +kernel
set_option maxRecDepth 20000 in
theorem ggX6_count_X6_in : GoodIn wsX6_count wsX6_in := goodIn_r _ [12] (by decide +kernel) (by decide +kernel)
set_option maxRecDepth 20000 in
theorem gX6_count_X6_in : GoodIn wsX6_count (va_wsS RX6 66 yX6_in wsX6_in) := goodIn_app (goodIn_of _ (by decide +kernel)) ggX6_count_X6_in
theorem dX6_count_0 : decode cX6_count 0 = .ok (.aload_n 0, 1) := by decide +kernel
theorem dX6_count_1 : decode cX6_count 1 = .ok (.iconst 0, 1) := by decide +kernel
theorem dX6_count_2 : decode cX6_count 2 = .ok (.putfield 59, 3) := by decide +kernel
theorem dX6_count_5 : decode cX6_count 5 = .ok (.iload_n 1, 1) := by decide +kernel
theorem dX6_count_6 : decode cX6_count 6 = .ok (.tableswitch 68 0 5 #[38, 43, 48, 53, 58, 63], 38) := by decide +kernel
theorem dX6_count_44 : decode cX6_count 44 = .ok (.aload_n 0, 1) := by decide +kernel
theorem dX6_count_45 : decode cX6_count 45 = .ok (.getfield 63, 3) := by decide +kernel
theorem dX6_count_48 : decode cX6_count 48 = .ok (.ireturn, 1) := by decide +kernel
theorem dX6_count_49 : decode cX6_count 49 = .ok (.aload_n 0, 1) := by decide +kernel
theorem dX6_count_50 : decode cX6_count 50 = .ok (.getfield 106, 3) := by decide +kernel
theorem dX6_count_53 : decode cX6_count 53 = .ok (.ireturn, 1) := by decide +kernel
theorem dX6_count_54 : decode cX6_count 54 = .ok (.aload_n 0, 1) := by decide +kernel
theorem dX6_count_55 : decode cX6_count 55 = .ok (.getfield 109, 3) := by decide +kernel
theorem dX6_count_58 : decode cX6_count 58 = .ok (.ireturn, 1) := by decide +kernel
theorem dX6_count_59 : decode cX6_count 59 = .ok (.aload_n 0, 1) := by decide +kernel
theorem dX6_count_60 : decode cX6_count 60 = .ok (.getfield 147, 3) := by decide +kernel
theorem dX6_count_63 : decode cX6_count 63 = .ok (.ireturn, 1) := by decide +kernel
theorem dX6_count_64 : decode cX6_count 64 = .ok (.aload_n 0, 1) := by decide +kernel
theorem dX6_count_65 : decode cX6_count 65 = .ok (.getfield 142, 3) := by decide +kernel
theorem dX6_count_68 : decode cX6_count 68 = .ok (.ireturn, 1) := by decide +kernel
theorem dX6_count_69 : decode cX6_count 69 = .ok (.aload_n 0, 1) := by decide +kernel
theorem dX6_count_70 : decode cX6_count 70 = .ok (.getfield 150, 3) := by decide +kernel
theorem dX6_count_73 : decode cX6_count 73 = .ok (.ireturn, 1) := by decide +kernel
theorem dX6_count_74 : decode cX6_count 74 = .ok (.iload_n 1, 1) := by decide +kernel
theorem dX6_count_75 : decode cX6_count 75 = .ok (.bipush 6, 2) := by decide +kernel
theorem dX6_count_77 : decode cX6_count 77 = .ok (.bipush 10, 2) := by decide +kernel
theorem dX6_count_79 : decode cX6_count 79 = .ok (.invokestatic 66, 3) := by decide +kernel
theorem dX6_count_82 : decode cX6_count 82 = .ok (.ifCond .eq 14, 3) := by decide +kernel
theorem dX6_count_85 : decode cX6_count 85 = .ok (.aload_n 0, 1) := by decide +kernel
theorem dX6_count_86 : decode cX6_count 86 = .ok (.getfield 56, 3) := by decide +kernel
theorem dX6_count_89 : decode cX6_count 89 = .ok (.iload_n 1, 1) := by decide +kernel
theorem dX6_count_90 : decode cX6_count 90 = .ok (.iconst 5, 1) := by decide +kernel
theorem dX6_count_91 : decode cX6_count 91 = .ok (.isub, 1) := by decide +kernel
theorem dX6_count_92 : decode cX6_count 92 = .ok (.iaload, 1) := by decide +kernel
theorem dX6_count_93 : decode cX6_count 93 = .ok (.goto 5, 3) := by decide +kernel
theorem dX6_count_96 : decode cX6_count 96 = .ok (.bipush (-2), 2) := by decide +kernel
theorem dX6_count_98 : decode cX6_count 98 = .ok (.ireturn, 1) := by decide +kernel
theorem dX6_clear_0 : decode cX6_clear 0 = .ok (.aload_n 0, 1) := by decide +kernel
theorem dX6_clear_1 : decode cX6_clear 1 = .ok (.iconst 0, 1) := by decide +kernel
theorem dX6_clear_2 : decode cX6_clear 2 = .ok (.putfield 59, 3) := by decide +kernel
theorem dX6_clear_5 : decode cX6_clear 5 = .ok (.aload_n 0, 1) := by decide +kernel
theorem dX6_clear_6 : decode cX6_clear 6 = .ok (.getfield 63, 3) := by decide +kernel
theorem dX6_clear_9 : decode cX6_clear 9 = .ok (.istore_n 1, 1) := by decide +kernel
theorem dX6_clear_10 : decode cX6_clear 10 = .ok (.aload_n 0, 1) := by decide +kernel
theorem dX6_clear_11 : decode cX6_clear 11 = .ok (.iconst 0, 1) := by decide +kernel
theorem dX6_clear_12 : decode cX6_clear 12 = .ok (.putfield 63, 3) := by decide +kernel
theorem dX6_clear_15 : decode cX6_clear 15 = .ok (.aload_n 0, 1) := by decide +kernel
theorem dX6_clear_16 : decode cX6_clear 16 = .ok (.iconst 0, 1) := by decide +kernel
theorem dX6_clear_17 : decode cX6_clear 17 = .ok (.putfield 106, 3) := by decide +kernel
theorem dX6_clear_20 : decode cX6_clear 20 = .ok (.aload_n 0, 1) := by decide +kernel
theorem dX6_clear_21 : decode cX6_clear 21 = .ok (.iconst 0, 1) := by decide +kernel
theorem dX6_clear_22 : decode cX6_clear 22 = .ok (.putfield 109, 3) := by decide +kernel
theorem dX6_clear_25 : decode cX6_clear 25 = .ok (.aload_n 0, 1) := by decide +kernel
theorem dX6_clear_26 : decode cX6_clear 26 = .ok (.iconst 0, 1) := by decide +kernel
theorem dX6_clear_27 : decode cX6_clear 27 = .ok (.putfield 139, 3) := by decide +kernel
theorem dX6_clear_30 : decode cX6_clear 30 = .ok (.aload_n 0, 1) := by decide +kernel
theorem dX6_clear_31 : decode cX6_clear 31 = .ok (.iconst 0, 1) := by decide +kernel
theorem dX6_clear_32 : decode cX6_clear 32 = .ok (.putfield 147, 3) := by decide +kernel
theorem dX6_clear_35 : decode cX6_clear 35 = .ok (.aload_n 0, 1) := by decide +kernel
theorem dX6_clear_36 : decode cX6_clear 36 = .ok (.iconst 0, 1) := by decide +kernel
theorem dX6_clear_37 : decode cX6_clear 37 = .ok (.putfield 142, 3) := by decide +kernel
theorem dX6_clear_40 : decode cX6_clear 40 = .ok (.aload_n 0, 1) := by decide +kernel
theorem dX6_clear_41 : decode cX6_clear 41 = .ok (.iconst 0, 1) := by decide +kernel
theorem dX6_clear_42 : decode cX6_clear 42 = .ok (.putfield 150, 3) := by decide +kernel
theorem dX6_clear_45 : decode cX6_clear 45 = .ok (.iconst 0, 1) := by decide +kernel
theorem dX6_clear_46 : decode cX6_clear 46 = .ok (.istore_n 2, 1) := by decide +kernel
theorem dX6_clear_47 : decode cX6_clear 47 = .ok (.iload_n 2, 1) := by decide +kernel
theorem dX6_clear_48 : decode cX6_clear 48 = .ok (.bipush 6, 2) := by decide +kernel
theorem dX6_clear_50 : decode cX6_clear 50 = .ok (.if_icmp .ge 16, 3) := by decide +kernel
theorem dX6_clear_53 : decode cX6_clear 53 = .ok (.aload_n 0, 1) := by decide +kernel
theorem dX6_clear_54 : decode cX6_clear 54 = .ok (.getfield 56, 3) := by decide +kernel
theorem dX6_clear_57 : decode cX6_clear 57 = .ok (.iload_n 2, 1) := by decide +kernel
theorem dX6_clear_58 : decode cX6_clear 58 = .ok (.iconst 0, 1) := by decide +kernel
theorem dX6_clear_59 : decode cX6_clear 59 = .ok (.iastore, 1) := by decide +kernel
theorem dX6_clear_60 : decode cX6_clear 60 = .ok (.iinc 2 1, 3) := by decide +kernel
theorem dX6_clear_63 : decode cX6_clear 63 = .ok (.goto (-16), 3) := by decide +kernel
theorem dX6_clear_66 : decode cX6_clear 66 = .ok (.iload_n 1, 1) := by decide +kernel
theorem dX6_clear_67 : decode cX6_clear 67 = .ok (.ireturn, 1) := by decide +kernel
end
section
theorem dJx00060_init_a7421_0 : decode cJx00060_init_a7421 0 = .ok (.aload_n 0, 1) := by decide +kernel
theorem dJx00060_init_a7421_1 : decode cJx00060_init_a7421 1 = .ok (.aload_n 1, 1) := by decide +kernel
theorem dJx00060_init_a7421_2 : decode cJx00060_init_a7421 2 = .ok (.invokespecial 7, 3) := by decide +kernel
theorem dJx00060_init_a7421_5 : decode cJx00060_init_a7421 5 = .ok (.return_, 1) := by decide +kernel
theorem dJx3273f_init_a7421_0 : decode cJx3273f_init_a7421 0 = .ok (.aload_n 0, 1) := by decide +kernel
theorem dJx3273f_init_a7421_1 : decode cJx3273f_init_a7421 1 = .ok (.aload_n 1, 1) := by decide +kernel
theorem dJx3273f_init_a7421_2 : decode cJx3273f_init_a7421 2 = .ok (.invokespecial 7, 3) := by decide +kernel
theorem dJx3273f_init_a7421_5 : decode cJx3273f_init_a7421 5 = .ok (.return_, 1) := by decide +kernel
theorem dJ9_min_7cf53_0 : decode cJ9_min_7cf53 0 = .ok (.iload_n 0, 1) := by decide +kernel
theorem dJ9_min_7cf53_1 : decode cJ9_min_7cf53 1 = .ok (.iload_n 1, 1) := by decide +kernel
theorem dJ9_min_7cf53_2 : decode cJ9_min_7cf53 2 = .ok (.if_icmp .gt 7, 3) := by decide +kernel
theorem dJ9_min_7cf53_5 : decode cJ9_min_7cf53 5 = .ok (.iload_n 0, 1) := by decide +kernel
theorem dJ9_min_7cf53_6 : decode cJ9_min_7cf53 6 = .ok (.goto 4, 3) := by decide +kernel
theorem dJ9_min_7cf53_9 : decode cJ9_min_7cf53 9 = .ok (.iload_n 1, 1) := by decide +kernel
theorem dJ9_min_7cf53_10 : decode cJ9_min_7cf53 10 = .ok (.ireturn, 1) := by decide +kernel
set_option maxRecDepth 20000 in
theorem ggL_number_X5_number : GoodIn wsL_number wsX5_number := goodIn_ca (goodIn_r _ [7, 8, 9, 10, 11, 12, 13, 14, 15, 16, 17, 6, 18, 19, 20, 21, 22, 23, 24, 25, 26, 27, 28, 29, 30, 31, 32, 33, 34, 35, 36, 37, 38, 39, 40, 41, 42, 43, 44, 45, 46, 47, 48, 49, 50, 51, 52, 53, 54, 55, 56, 57, 58, 59, 60, 61, 62, 63, 64, 65, 66, 67, 68, 69, 70] (by decide +kernel) (by decide +kernel)) (goodIn_sub (fun _ h => List.mem_cons_of_mem _ (List.mem_append_right _ h)) (by decide +kernel))
set_option maxRecDepth 20000 in
theorem gL_number_X5_number : GoodIn wsL_number (wsV RL 7 RX5 yX5_number wsX5_number) := goodIn_app (goodIn_of _ (by decide +kernel)) ggL_number_X5_number
theorem dL_number_0 : decode cL_number 0 = .ok (.aload 4, 2) := by decide +kernel
theorem dL_number_2 : decode cL_number 2 = .ok (.iconst 0, 1) := by decide +kernel
theorem dL_number_3 : decode cL_number 3 = .ok (.aload_n 0, 1) := by decide +kernel
theorem dL_number_4 : decode cL_number 4 = .ok (.iload_n 1, 1) := by decide +kernel
theorem dL_number_5 : decode cL_number 5 = .ok (.iload_n 2, 1) := by decide +kernel
theorem dL_number_6 : decode cL_number 6 = .ok (.iload_n 3, 1) := by decide +kernel
theorem dL_number_7 : decode cL_number 7 = .ok (.invokevirtual 7, 3) := by decide +kernel
theorem dL_number_10 : decode cL_number 10 = .ok (.lastore, 1) := by decide +kernel
theorem dL_number_11 : decode cL_number 11 = .ok (.goto 11, 3) := by decide +kernel
theorem dL_number_14 : decode cL_number 14 = .ok (.astore 5, 2) := by decide +kernel
theorem dL_number_16 : decode cL_number 16 = .ok (.iconst 1, 1) := by decide +kernel
theorem dL_number_17 : decode cL_number 17 = .ok (.ireturn, 1) := by decide +kernel
theorem dL_number_18 : decode cL_number 18 = .ok (.astore 5, 2) := by decide +kernel
theorem dL_number_20 : decode cL_number 20 = .ok (.iconst 2, 1) := by decide +kernel
theorem dL_number_21 : decode cL_number 21 = .ok (.ireturn, 1) := by decide +kernel
theorem dL_number_22 : decode cL_number 22 = .ok (.iconst 0, 1) := by decide +kernel
theorem dL_number_23 : decode cL_number 23 = .ok (.ireturn, 1) := by decide +kernel
set_option maxRecDepth 20000 in
theorem ggL_law_X5_init : GoodIn wsL_law wsX5_init := goodIn_r _ [10, 11, 12, 13, 14, 15, 16, 17, 18, 19, 20, 21, 22, 23, 24, 25, 26, 27, 28, 29, 30, 31, 32, 33, 34, 35, 36, 37, 38, 39, 40, 6, 41, 42, 43, 44, 45, 46, 47, 48, 49, 50, 51, 52, 53, 54, 55, 56, 57, 58, 59, 60, 61, 62, 63, 64, 65, 66, 67, 68, 69, 70, 71, 72, 633, 634, 635, 636, 637, 638, 605, 606, 607, 608, 609, 639, 640, 641, 642, 643, 644, 645, 646, 647, 648, 649, 650, 651, 652, 653, 654, 655] (by decide +kernel) (by decide +kernel)
set_option maxRecDepth 20000 in
theorem gL_law_X5_init : GoodIn wsL_law (wsX5_init) := ggL_law_X5_init
set_option maxRecDepth 20000 in
theorem ggL_law_X6_init : GoodIn wsL_law wsX6_init := goodIn_ca (goodIn_r _ [75, 76, 12, 13, 37, 77, 78, 79, 6, 80, 81, 82, 83, 84, 85, 86, 87, 88, 89, 90, 91, 92, 93, 94, 610, 611, 612, 613, 614, 615, 616, 617, 618, 619, 620, 621, 622, 623, 624, 625, 626, 627, 628, 629, 630, 631, 632] (by decide +kernel) (by decide +kernel)) (goodIn_sub (fun _ h => List.mem_append_right _ h) (by decide +kernel))
set_option maxRecDepth 20000 in
theorem gL_law_X6_init : GoodIn wsL_law (wsX6_init) := ggL_law_X6_init
set_option maxRecDepth 20000 in
theorem ggL_law_X5_thing : GoodIn wsL_law wsX5_thing := goodIn_ca (goodIn_r _ [98, 17, 99, 100, 101, 16, 102, 43, 38, 39, 40, 41, 42, 103, 104, 105, 106, 605, 606, 607, 608, 609, 633, 634, 635, 636, 637, 638] (by decide +kernel) (by decide +kernel)) (goodIn_sub (fun _ h => List.mem_append_right _ h) (by decide +kernel))
set_option maxRecDepth 20000 in
theorem gL_law_X5_thing : GoodIn wsL_law (wsV RL 21 RX5 yX5_thing wsX5_thing) := goodIn_app (goodIn_of _ (by decide +kernel)) ggL_law_X5_thing
set_option maxRecDepth 20000 in
theorem ggL_law_X6_thing : GoodIn wsL_law wsX6_thing := goodIn_ca (goodIn_r _ [110, 111, 112, 113, 114, 5, 115, 116, 117, 118, 119, 77, 78, 79, 80, 81, 610, 611, 612, 613, 614, 615, 616, 617, 618, 619, 620, 621, 622, 623, 624, 625, 626, 627, 628, 629, 630, 631, 632] (by decide +kernel) (by decide +kernel)) (goodIn_sub (fun _ h => List.mem_append_right _ h) (by decide +kernel))
set_option maxRecDepth 20000 in
theorem gL_law_X6_thing : GoodIn wsL_law (wsV RL 25 RX6 yX6_thing wsX6_thing) := goodIn_app (goodIn_of _ (by decide +kernel)) ggL_law_X6_thing
set_option maxRecDepth 20000 in
theorem ggL_law_X5_row : GoodIn wsL_law wsX5_row := goodIn_ca (goodIn_r _ [123, 17, 124, 104, 105, 16, 106, 43, 125, 126, 127, 2, 128, 33, 129, 130, 131, 32, 132, 69, 99, 100, 101, 102, 38, 39, 40, 41, 42, 103, 605, 606, 607, 608, 609, 633, 634, 635, 636, 637, 638, 652, 653, 654, 655] (by decide +kernel) (by decide +kernel)) (goodIn_sub (fun _ h => List.mem_append_right _ h) (by decide +kernel))
set_option maxRecDepth 20000 in
theorem gL_law_X5_row : GoodIn wsL_law (wsV RL 26 RX5 yX5_row wsX5_row) := goodIn_app (goodIn_of _ (by decide +kernel)) ggL_law_X5_row
set_option maxRecDepth 20000 in
theorem ggL_law_X6_row : GoodIn wsL_law wsX6_row := goodIn_ca (goodIn_r _ [136, 111, 112, 113, 114, 5, 115, 137, 138, 139, 140, 94, 116, 117, 118, 119, 77, 78, 79, 80, 81, 610, 611, 612, 613, 614, 615, 616, 617, 618, 619, 620, 621, 622, 623, 624, 625, 626, 627, 628, 629, 630, 631, 632] (by decide +kernel) (by decide +kernel)) (goodIn_sub (fun _ h => List.mem_append_right _ h) (by decide +kernel))
set_option maxRecDepth 20000 in
theorem gL_law_X6_row : GoodIn wsL_law (wsV RL 29 RX6 yX6_row wsX6_row) := goodIn_app (goodIn_of _ (by decide +kernel)) ggL_law_X6_row
set_option maxRecDepth 20000 in
theorem ggL_law_X5_is : GoodIn wsL_law wsX5_is := goodIn_ca (goodIn_r _ [144, 17, 145, 146, 147, 2, 148, 149, 150, 151, 16, 152, 43, 153, 154, 155, 156, 38, 157, 158, 159, 605, 606, 607, 608, 609, 633, 634, 635, 636, 637, 638] (by decide +kernel) (by decide +kernel)) (goodIn_sub (fun _ h => List.mem_append_right _ h) (by decide +kernel))
set_option maxRecDepth 20000 in
theorem gL_law_X5_is : GoodIn wsL_law (wsV RL 30 RX5 yX5_is wsX5_is) := goodIn_app (goodIn_of _ (by decide +kernel)) ggL_law_X5_is
set_option maxRecDepth 20000 in
theorem ggL_law_X6_is : GoodIn wsL_law wsX6_is := goodIn_ca (goodIn_r _ [163, 111, 164, 165, 166, 5, 167, 112, 113, 114, 115, 168, 169, 170, 171, 85, 77, 610, 611, 612, 613, 614, 615, 616, 617, 618, 619, 620, 621, 622, 623, 624, 625, 626, 627, 628, 629, 630, 631, 632] (by decide +kernel) (by decide +kernel)) (goodIn_sub (fun _ h => List.mem_append_right _ h) (by decide +kernel))
set_option maxRecDepth 20000 in
theorem gL_law_X6_is : GoodIn wsL_law (wsV RL 33 RX6 yX6_is wsX6_is) := goodIn_app (goodIn_of _ (by decide +kernel)) ggL_law_X6_is
set_option maxRecDepth 20000 in
theorem ggL_law_X5_more : GoodIn wsL_law wsX5_more := goodIn_ca (goodIn_r _ [175, 17, 149, 150, 151, 16, 152, 43, 176, 177, 178, 179, 38, 157, 153, 154, 155, 156, 158, 2, 159, 605, 606, 607, 608, 609, 633, 634, 635, 636, 637, 638] (by decide +kernel) (by decide +kernel)) (goodIn_sub (fun _ h => List.mem_append_right _ h) (by decide +kernel))
set_option maxRecDepth 20000 in
theorem gL_law_X5_more : GoodIn wsL_law (wsV RL 34 RX5 yX5_more wsX5_more) := goodIn_app (goodIn_of _ (by decide +kernel)) ggL_law_X5_more
set_option maxRecDepth 20000 in
theorem ggL_law_X6_more : GoodIn wsL_law wsX6_more := goodIn_ca (goodIn_r _ [183, 111, 77, 164, 165, 166, 5, 167, 112, 113, 114, 115, 168, 169, 170, 171, 85, 610, 611, 612, 613, 614, 615, 616, 617, 618, 619, 620, 621, 622, 623, 624, 625, 626, 627, 628, 629, 630, 631, 632] (by decide +kernel) (by decide +kernel)) (goodIn_sub (fun _ h => List.mem_append_right _ h) (by decide +kernel))
set_option maxRecDepth 20000 in
theorem gL_law_X6_more : GoodIn wsL_law (wsV RL 38 RX6 yX6_more wsX6_more) := goodIn_app (goodIn_of _ (by decide +kernel)) ggL_law_X6_more
set_option maxRecDepth 20000 in
theorem ggL_law_X5_weight : GoodIn wsL_law wsX5_weight := goodIn_ca (goodIn_r _ [187, 188, 17, 145, 146, 147, 2, 148, 149, 150, 151, 16, 152, 43, 153, 154, 155, 156, 38, 157, 158, 159, 125, 126, 127, 128, 33, 129, 130, 131, 32, 132, 69, 189, 190, 191, 192, 39, 605, 606, 607, 608, 609, 633, 634, 635, 636, 637, 638, 652, 653, 654, 655] (by decide +kernel) (by decide +kernel)) (goodIn_sub (fun _ h => List.mem_append_right _ h) (by decide +kernel))
set_option maxRecDepth 20000 in
theorem gL_law_X5_weight : GoodIn wsL_law (wsV RL 39 RX5 yX5_weight wsX5_weight) := goodIn_app (goodIn_of _ (by decide +kernel)) ggL_law_X5_weight
set_option maxRecDepth 20000 in
theorem ggL_law_X6_weight : GoodIn wsL_law wsX6_weight := goodIn_ca (goodIn_r _ [196, 111, 197, 198, 78, 199, 164, 165, 166, 5, 167, 112, 113, 114, 115, 168, 169, 170, 171, 85, 77, 137, 138, 139, 140, 94, 610, 611, 612, 613, 614, 615, 616, 617, 618, 619, 620, 621, 622, 623, 624, 625, 626, 627, 628, 629, 630, 631, 632] (by decide +kernel) (by decide +kernel)) (goodIn_sub (fun _ h => List.mem_append_right _ h) (by decide +kernel))
set_option maxRecDepth 20000 in
theorem gL_law_X6_weight : GoodIn wsL_law (wsV RL 42 RX6 yX6_weight wsX6_weight) := goodIn_app (goodIn_of _ (by decide +kernel)) ggL_law_X6_weight
set_option maxRecDepth 20000 in
theorem ggL_law_X5_length : GoodIn wsL_law wsX5_length := goodIn_ca (goodIn_r _ [203, 17, 145, 146, 147, 2, 148, 149, 150, 151, 16, 152, 43, 153, 154, 155, 156, 38, 157, 158, 159, 125, 126, 127, 128, 33, 129, 130, 131, 32, 132, 69, 204, 205, 206, 207, 40, 605, 606, 607, 608, 609, 633, 634, 635, 636, 637, 638, 652, 653, 654, 655] (by decide +kernel) (by decide +kernel)) (goodIn_sub (fun _ h => List.mem_append_right _ h) (by decide +kernel))
set_option maxRecDepth 20000 in
theorem gL_law_X5_length : GoodIn wsL_law (wsV RL 43 RX5 yX5_length wsX5_length) := goodIn_app (goodIn_of _ (by decide +kernel)) ggL_law_X5_length
set_option maxRecDepth 20000 in
theorem ggL_law_X6_length : GoodIn wsL_law wsX6_length := goodIn_ca (goodIn_r _ [211, 111, 79, 212, 213, 214, 5, 215, 164, 165, 166, 167, 112, 113, 114, 115, 168, 169, 170, 171, 85, 77, 137, 138, 139, 140, 94, 610, 611, 612, 613, 614, 615, 616, 617, 618, 619, 620, 621, 622, 623, 624, 625, 626, 627, 628, 629, 630, 631, 632] (by decide +kernel) (by decide +kernel)) (goodIn_sub (fun _ h => List.mem_append_right _ h) (by decide +kernel))
set_option maxRecDepth 20000 in
theorem gL_law_X6_length : GoodIn wsL_law (wsV RL 46 RX6 yX6_length wsX6_length) := goodIn_app (goodIn_of _ (by decide +kernel)) ggL_law_X6_length
set_option maxRecDepth 20000 in
theorem ggL_law_X5_put : GoodIn wsL_law wsX5_put := goodIn_ca (goodIn_r _ [219, 17, 145, 146, 147, 2, 148, 149, 150, 151, 16, 152, 43, 220, 221, 222, 223, 153, 154, 155, 156, 38, 157, 158, 159, 224, 225, 226, 227, 40, 125, 126, 127, 128, 33, 129, 130, 131, 32, 132, 69, 228, 229, 230, 231, 41, 232, 605, 606, 607, 608, 609, 633, 634, 635, 636, 637, 638, 652, 653, 654, 655] (by decide +kernel) (by decide +kernel)) (goodIn_sub (fun _ h => List.mem_append_right _ h) (by decide +kernel))
set_option maxRecDepth 20000 in
theorem gL_law_X5_put : GoodIn wsL_law (wsV RL 49 RX5 yX5_put wsX5_put) := goodIn_app (goodIn_of _ (by decide +kernel)) ggL_law_X5_put
set_option maxRecDepth 20000 in
theorem ggL_law_X6_put : GoodIn wsL_law wsX6_put := goodIn_ca (goodIn_r _ [236, 111, 79, 80, 212, 213, 214, 5, 215, 164, 165, 166, 167, 112, 113, 114, 115, 168, 169, 170, 171, 85, 77, 137, 138, 139, 140, 94, 237, 238, 239, 610, 611, 612, 613, 614, 615, 616, 617, 618, 619, 620, 621, 622, 623, 624, 625, 626, 627, 628, 629, 630, 631, 632] (by decide +kernel) (by decide +kernel)) (goodIn_sub (fun _ h => List.mem_append_right _ h) (by decide +kernel))
set_option maxRecDepth 20000 in
theorem gL_law_X6_put : GoodIn wsL_law (wsV RL 53 RX6 yX6_put wsX6_put) := goodIn_app (goodIn_of _ (by decide +kernel)) ggL_law_X6_put
set_option maxRecDepth 20000 in
theorem ggL_law_L_number : GoodIn wsL_law wsL_number := goodIn_ca (goodIn_r _ [243, 244, 245, 246, 247, 248, 2, 249, 250, 251, 252, 253, 254, 255, 17, 145, 146, 147, 148, 149, 150, 151, 16, 152, 43, 220, 221, 222, 223, 153, 154, 155, 156, 38, 157, 158, 159, 224, 225, 226, 227, 40, 256, 257, 258, 259, 41, 232, 656, 657, 658, 659, 660, 661, 662, 663, 664, 665, 666, 667, 605, 606, 607, 608, 609, 633, 634, 635, 636, 637, 638] (by decide +kernel) (by decide +kernel)) (goodIn_sub (fun _ h => List.mem_append_right _ h) (by decide +kernel))
set_option maxRecDepth 20000 in
theorem gL_law_L_number : GoodIn wsL_law (va_wsS RL 54 yL_number wsL_number) := goodIn_app (goodIn_of _ (by decide +kernel)) ggL_law_L_number
set_option maxRecDepth 20000 in
theorem ggL_law_X6_number : GoodIn wsL_law wsX6_number := goodIn_ca (goodIn_r _ [263, 111, 79, 80, 212, 213, 214, 5, 215, 164, 165, 166, 167, 112, 113, 114, 115, 168, 169, 170, 171, 85, 77, 610, 611, 612, 613, 614, 615, 616, 617, 618, 619, 620, 621, 622, 623, 624, 625, 626, 627, 628, 629, 630, 631, 632] (by decide +kernel) (by decide +kernel)) (goodIn_sub (fun _ h => List.mem_append_right _ h) (by decide +kernel))
set_option maxRecDepth 20000 in
theorem gL_law_X6_number : GoodIn wsL_law (wsV RL 59 RX6 yX6_number wsX6_number) := goodIn_app (goodIn_of _ (by decide +kernel)) ggL_law_X6_number
set_option maxRecDepth 20000 in
theorem ggL_law_X6_thrown : GoodIn wsL_law wsX6_thrown := goodIn_r _ [267, 111, 610, 611, 612, 613, 614, 615, 616, 617, 618, 619, 620, 621, 622, 623, 624, 625, 626, 627, 628, 629, 630, 631, 632] (by decide +kernel) (by decide +kernel)
set_option maxRecDepth 20000 in
theorem gL_law_X6_thrown : GoodIn wsL_law (wsV RL 60 RX6 yX6_thrown wsX6_thrown) := goodIn_app (goodIn_of _ (by decide +kernel)) ggL_law_X6_thrown
set_option maxRecDepth 20000 in
theorem ggL_law_X5_lay : GoodIn wsL_law wsX5_lay := goodIn_ca (goodIn_r _ [271, 17, 149, 150, 151, 16, 152, 43, 145, 146, 147, 2, 148, 153, 154, 155, 156, 38, 157, 158, 159, 272, 273, 274, 275, 276, 277, 278, 224, 225, 226, 227, 40, 176, 177, 178, 179, 279, 280, 281, 282, 42, 232, 125, 126, 127, 128, 33, 129, 130, 131, 32, 132, 69, 605, 606, 607, 608, 609, 633, 634, 635, 636, 637, 638, 652, 653, 654, 655] (by decide +kernel) (by decide +kernel)) (goodIn_sub (fun _ h => List.mem_append_right _ h) (by decide +kernel))
set_option maxRecDepth 20000 in
theorem gL_law_X5_lay : GoodIn wsL_law (wsV RL 64 RX5 yX5_lay wsX5_lay) := goodIn_app (goodIn_of _ (by decide +kernel)) ggL_law_X5_lay
set_option maxRecDepth 20000 in
theorem ggL_law_X6_lay : GoodIn wsL_law wsX6_lay := goodIn_ca (goodIn_r _ [286, 111, 164, 165, 166, 5, 167, 112, 113, 114, 115, 287, 288, 289, 290, 86, 79, 77, 81, 168, 169, 170, 171, 85, 291, 292, 293, 294, 137, 138, 139, 140, 94, 610, 611, 612, 613, 614, 615, 616, 617, 618, 619, 620, 621, 622, 623, 624, 625, 626, 627, 628, 629, 630, 631, 632] (by decide +kernel) (by decide +kernel)) (goodIn_sub (fun _ h => List.mem_append_right _ h) (by decide +kernel))
set_option maxRecDepth 20000 in
theorem gL_law_X6_lay : GoodIn wsL_law (wsV RL 68 RX6 yX6_lay wsX6_lay) := goodIn_app (goodIn_of _ (by decide +kernel)) ggL_law_X6_lay
set_option maxRecDepth 20000 in
theorem ggL_law_X5_place : GoodIn wsL_law wsX5_place := goodIn_ca (goodIn_r _ [298, 17, 145, 146, 147, 2, 148, 149, 150, 151, 16, 152, 43, 220, 221, 222, 223, 153, 154, 155, 156, 38, 157, 158, 159, 224, 225, 226, 227, 40, 299, 300, 301, 302, 42, 232, 125, 126, 127, 128, 33, 129, 130, 131, 32, 132, 69, 605, 606, 607, 608, 609, 633, 634, 635, 636, 637, 638, 652, 653, 654, 655] (by decide +kernel) (by decide +kernel)) (goodIn_sub (fun _ h => List.mem_append_right _ h) (by decide +kernel))
set_option maxRecDepth 20000 in
theorem gL_law_X5_place : GoodIn wsL_law (wsV RL 69 RX5 yX5_place wsX5_place) := goodIn_app (goodIn_of _ (by decide +kernel)) ggL_law_X5_place
set_option maxRecDepth 20000 in
theorem ggL_law_X6_place : GoodIn wsL_law wsX6_place := goodIn_ca (goodIn_r _ [306, 111, 79, 81, 212, 213, 214, 5, 215, 164, 165, 166, 167, 112, 113, 114, 115, 168, 169, 170, 171, 85, 77, 137, 138, 139, 140, 94, 307, 308, 309, 610, 611, 612, 613, 614, 615, 616, 617, 618, 619, 620, 621, 622, 623, 624, 625, 626, 627, 628, 629, 630, 631, 632] (by decide +kernel) (by decide +kernel)) (goodIn_sub (fun _ h => List.mem_append_right _ h) (by decide +kernel))
set_option maxRecDepth 20000 in
theorem gL_law_X6_place : GoodIn wsL_law (wsV RL 73 RX6 yX6_place wsX6_place) := goodIn_app (goodIn_of _ (by decide +kernel)) ggL_law_X6_place
set_option maxRecDepth 20000 in
theorem ggL_law_X5_station : GoodIn wsL_law wsX5_station := goodIn_ca (goodIn_r _ [313, 21, 314, 315, 316, 20, 317, 51, 47, 48, 49, 50, 605, 606, 607, 608, 609, 639, 640, 641, 642, 643] (by decide +kernel) (by decide +kernel)) (goodIn_sub (fun _ h => List.mem_append_right _ h) (by decide +kernel))
set_option maxRecDepth 20000 in
theorem gL_law_X5_station : GoodIn wsL_law (wsV RL 74 RX5 yX5_station wsX5_station) := goodIn_app (goodIn_of _ (by decide +kernel)) ggL_law_X5_station
set_option maxRecDepth 20000 in
theorem ggL_law_X6_station : GoodIn wsL_law wsX6_station := goodIn_ca (goodIn_r _ [321, 111, 322, 89, 90, 91, 92, 113, 114, 5, 115, 610, 611, 612, 613, 614, 615, 616, 617, 618, 619, 620, 621, 622, 623, 624, 625, 626, 627, 628, 629, 630, 631, 632] (by decide +kernel) (by decide +kernel)) (goodIn_sub (fun _ h => List.mem_append_right _ h) (by decide +kernel))
set_option maxRecDepth 20000 in
theorem gL_law_X6_station : GoodIn wsL_law (wsV RL 77 RX6 yX6_station wsX6_station) := goodIn_app (goodIn_of _ (by decide +kernel)) ggL_law_X6_station
set_option maxRecDepth 20000 in
theorem ggL_law_X5_send : GoodIn wsL_law wsX5_send := goodIn_ca (goodIn_r _ [326, 17, 25, 149, 150, 151, 16, 152, 43, 327, 328, 329, 24, 330, 57, 55, 56, 331, 332, 333, 334, 605, 606, 607, 608, 609, 633, 634, 635, 636, 637, 638, 644, 645, 646] (by decide +kernel) (by decide +kernel)) (goodIn_sub (fun _ h => List.mem_append_right _ h) (by decide +kernel))
set_option maxRecDepth 20000 in
theorem gL_law_X5_send : GoodIn wsL_law (wsV RL 78 RX5 yX5_send wsX5_send) := goodIn_app (goodIn_of _ (by decide +kernel)) ggL_law_X5_send
set_option maxRecDepth 20000 in
theorem ggL_law_X6_send : GoodIn wsL_law wsX6_send := goodIn_ca (goodIn_r _ [338, 111, 339, 164, 165, 166, 5, 167, 112, 113, 114, 115, 340, 341, 342, 343, 88, 610, 611, 612, 613, 614, 615, 616, 617, 618, 619, 620, 621, 622, 623, 624, 625, 626, 627, 628, 629, 630, 631, 632] (by decide +kernel) (by decide +kernel)) (goodIn_sub (fun _ h => List.mem_append_right _ h) (by decide +kernel))
set_option maxRecDepth 20000 in
theorem gL_law_X6_send : GoodIn wsL_law (wsV RL 81 RX6 yX6_send wsX6_send) := goodIn_app (goodIn_of _ (by decide +kernel)) ggL_law_X6_send
set_option maxRecDepth 20000 in
theorem ggL_law_X5_step : GoodIn wsL_law wsX5_step := goodIn_ca (goodIn_r _ [347, 25, 33, 29, 331, 332, 333, 24, 334, 57, 348, 349, 350, 351, 55, 56, 352, 353, 354, 2, 355, 21, 17, 356, 357, 358, 20, 359, 51, 360, 361, 362, 363, 47, 364, 365, 366, 367, 153, 154, 155, 16, 156, 38, 157, 150, 151, 152, 43, 158, 159, 368, 369, 370, 32, 371, 71, 372, 373, 374, 375, 376, 377, 378, 379, 48, 380, 381, 382, 383, 384, 385, 386, 189, 190, 191, 192, 39, 387, 388, 389, 390, 49, 391, 392, 393, 394, 395, 396, 397, 398, 50, 399, 400, 401, 402, 403, 177, 178, 179, 404, 405, 406, 407, 408, 409, 410, 411, 412, 413, 205, 206, 207, 40, 414, 257, 258, 259, 41, 232, 225, 226, 227, 415, 416, 417, 418, 204, 299, 300, 301, 302, 42, 419, 420, 421, 422, 423, 424, 425, 426, 275, 276, 277, 278, 224, 176, 272, 273, 274, 279, 280, 281, 282, 427, 428, 429, 430, 431, 432, 433, 434, 435, 436, 437, 438, 256, 439, 440, 441, 442, 327, 328, 329, 330, 443, 444, 445, 28, 446, 61, 64, 62, 63, 65, 447, 448, 449, 450, 451, 452, 453, 454, 72, 125, 126, 127, 128, 129, 130, 131, 132, 69, 455, 456, 457, 458, 70, 605, 606, 607, 608, 609, 644, 645, 646, 639, 640, 641, 642, 643, 633, 634, 635, 636, 637, 638, 652, 653, 654, 655, 647, 648, 649, 650, 651] (by decide +kernel) (by decide +kernel)) (goodIn_sub (fun _ h => List.mem_append_right _ h) (by decide +kernel))
set_option maxRecDepth 20000 in
theorem gL_law_X5_step : GoodIn wsL_law (wsV RL 82 RX5 yX5_step wsX5_step) := goodIn_app (goodIn_of _ (by decide +kernel)) ggL_law_X5_step
set_option maxRecDepth 20000 in
theorem ggL_law_X6_step : GoodIn wsL_law wsX6_step := goodIn_ca (goodIn_r _ [462, 111, 339, 463, 464, 465, 5, 466, 88, 322, 89, 467, 468, 469, 168, 169, 170, 171, 85, 77, 470, 471, 472, 473, 90, 87, 91, 78, 92, 79, 80, 474, 475, 476, 477, 478, 479, 480, 481, 81, 482, 483, 484, 485, 287, 288, 289, 290, 86, 291, 292, 293, 294, 113, 114, 115, 486, 487, 488, 489, 490, 491, 492, 493, 494, 495, 496, 497, 498, 499, 500, 501, 340, 341, 342, 343, 502, 503, 504, 505, 93, 506, 137, 138, 139, 140, 94, 610, 611, 612, 613, 614, 615, 616, 617, 618, 619, 620, 621, 622, 623, 624, 625, 626, 627, 628, 629, 630, 631, 632] (by decide +kernel) (by decide +kernel)) (goodIn_sub (fun _ h => List.mem_append_right _ h) (by decide +kernel))
set_option maxRecDepth 20000 in
theorem gL_law_X6_step : GoodIn wsL_law (wsV RL 85 RX6 yX6_step wsX6_step) := goodIn_app (goodIn_of _ (by decide +kernel)) ggL_law_X6_step
set_option maxRecDepth 20000 in
theorem ggL_law_X5_run : GoodIn wsL_law wsX5_run := goodIn_ca (goodIn_r _ [510, 25, 331, 332, 333, 24, 334, 57, 511, 345, 346, 2, 347, 33, 29, 348, 349, 350, 351, 55, 56, 352, 353, 354, 355, 21, 17, 356, 357, 358, 20, 359, 51, 360, 361, 362, 363, 47, 364, 365, 366, 367, 153, 154, 155, 16, 156, 38, 157, 150, 151, 152, 43, 158, 159, 368, 369, 370, 32, 371, 71, 372, 373, 374, 375, 376, 377, 378, 379, 48, 380, 381, 382, 383, 384, 385, 386, 189, 190, 191, 192, 39, 387, 388, 389, 390, 49, 391, 392, 393, 394, 395, 396, 397, 398, 50, 399, 400, 401, 402, 403, 177, 178, 179, 404, 405, 406, 407, 408, 409, 410, 411, 412, 413, 205, 206, 207, 40, 414, 257, 258, 259, 41, 232, 225, 226, 227, 415, 416, 417, 418, 204, 299, 300, 301, 302, 42, 419, 420, 421, 422, 423, 424, 425, 426, 275, 276, 277, 278, 224, 176, 272, 273, 274, 279, 280, 281, 282, 427, 428, 429, 430, 431, 432, 433, 434, 435, 436, 437, 438, 256, 439, 440, 441, 442, 327, 328, 329, 330, 443, 444, 445, 28, 446, 61, 64, 62, 63, 65, 447, 448, 449, 450, 451, 452, 453, 454, 72, 125, 126, 127, 128, 129, 130, 131, 132, 69, 455, 456, 457, 458, 70, 605, 606, 607, 608, 609, 644, 645, 646, 639, 640, 641, 642, 643, 633, 634, 635, 636, 637, 638, 652, 653, 654, 655, 647, 648, 649, 650, 651] (by decide +kernel) (by decide +kernel)) (goodIn_sub (fun _ h => List.mem_append_right _ h) (by decide +kernel))
set_option maxRecDepth 20000 in
theorem gL_law_X5_run : GoodIn wsL_law (wsV RL 86 RX5 yX5_run wsX5_run) := goodIn_app (goodIn_of _ (by decide +kernel)) ggL_law_X5_run
set_option maxRecDepth 20000 in
theorem ggL_law_X6_run : GoodIn wsL_law wsX6_run := goodIn_ca (goodIn_r _ [515, 111, 339, 113, 114, 5, 115, 463, 464, 465, 466, 88, 322, 89, 467, 468, 469, 168, 169, 170, 171, 85, 77, 470, 471, 472, 473, 90, 87, 91, 78, 92, 79, 80, 474, 475, 476, 477, 478, 479, 480, 481, 81, 482, 483, 484, 485, 287, 288, 289, 290, 86, 291, 292, 293, 294, 486, 487, 488, 489, 490, 491, 492, 493, 494, 495, 496, 497, 498, 499, 500, 501, 340, 341, 342, 343, 502, 503, 504, 505, 93, 506, 137, 138, 139, 140, 94, 610, 611, 612, 613, 614, 615, 616, 617, 618, 619, 620, 621, 622, 623, 624, 625, 626, 627, 628, 629, 630, 631, 632] (by decide +kernel) (by decide +kernel)) (goodIn_sub (fun _ h => List.mem_append_right _ h) (by decide +kernel))
set_option maxRecDepth 20000 in
theorem gL_law_X6_run : GoodIn wsL_law (wsV RL 89 RX6 yX6_run wsX6_run) := goodIn_app (goodIn_of _ (by decide +kernel)) ggL_law_X6_run
set_option maxRecDepth 20000 in
theorem ggL_law_X5_total : GoodIn wsL_law wsX5_total := goodIn_ca (goodIn_r _ [519, 21, 520, 521, 522, 20, 523, 49, 364, 365, 366, 367, 51, 605, 606, 607, 608, 609, 639, 640, 641, 642, 643] (by decide +kernel) (by decide +kernel)) (goodIn_sub (fun _ h => List.mem_append_right _ h) (by decide +kernel))
set_option maxRecDepth 20000 in
theorem gL_law_X5_total : GoodIn wsL_law (wsV RL 90 RX5 yX5_total wsX5_total) := goodIn_app (goodIn_of _ (by decide +kernel)) ggL_law_X5_total
set_option maxRecDepth 20000 in
theorem ggL_law_X6_total : GoodIn wsL_law wsX6_total := goodIn_ca (goodIn_r _ [527, 111, 322, 91, 113, 114, 5, 115, 610, 611, 612, 613, 614, 615, 616, 617, 618, 619, 620, 621, 622, 623, 624, 625, 626, 627, 628, 629, 630, 631, 632] (by decide +kernel) (by decide +kernel)) (goodIn_sub (fun _ h => List.mem_append_right _ h) (by decide +kernel))
set_option maxRecDepth 20000 in
theorem gL_law_X6_total : GoodIn wsL_law (wsV RL 94 RX6 yX6_total wsX6_total) := goodIn_app (goodIn_of _ (by decide +kernel)) ggL_law_X6_total
set_option maxRecDepth 20000 in
theorem ggL_law_X5_slot : GoodIn wsL_law wsX5_slot := goodIn_ca (goodIn_r _ [531, 21, 532, 365, 366, 20, 367, 51, 423, 424, 425, 426, 50, 364, 605, 606, 607, 608, 609, 639, 640, 641, 642, 643] (by decide +kernel) (by decide +kernel)) (goodIn_sub (fun _ h => List.mem_append_right _ h) (by decide +kernel))
set_option maxRecDepth 20000 in
theorem gL_law_X5_slot : GoodIn wsL_law (wsV RL 95 RX5 yX5_slot wsX5_slot) := goodIn_app (goodIn_of _ (by decide +kernel)) ggL_law_X5_slot
set_option maxRecDepth 20000 in
theorem ggL_law_X6_slot : GoodIn wsL_law wsX6_slot := goodIn_ca (goodIn_r _ [536, 111, 322, 92, 113, 114, 5, 115, 307, 308, 309, 610, 611, 612, 613, 614, 615, 616, 617, 618, 619, 620, 621, 622, 623, 624, 625, 626, 627, 628, 629, 630, 631, 632] (by decide +kernel) (by decide +kernel)) (goodIn_sub (fun _ h => List.mem_append_right _ h) (by decide +kernel))
set_option maxRecDepth 20000 in
theorem gL_law_X6_slot : GoodIn wsL_law (wsV RL 98 RX6 yX6_slot wsX6_slot) := goodIn_app (goodIn_of _ (by decide +kernel)) ggL_law_X6_slot
set_option maxRecDepth 20000 in
theorem ggL_law_X5_belt : GoodIn wsL_law wsX5_belt := goodIn_ca (goodIn_r _ [540, 25, 541, 542, 543, 24, 544, 57, 55, 56, 605, 606, 607, 608, 609, 644, 645, 646] (by decide +kernel) (by decide +kernel)) (goodIn_sub (fun _ h => List.mem_append_right _ h) (by decide +kernel))
set_option maxRecDepth 20000 in
theorem gL_law_X5_belt : GoodIn wsL_law (wsV RL 99 RX5 yX5_belt wsX5_belt) := goodIn_app (goodIn_of _ (by decide +kernel)) ggL_law_X5_belt
set_option maxRecDepth 20000 in
theorem ggL_law_X6_belt : GoodIn wsL_law wsX6_belt := goodIn_ca (goodIn_r _ [548, 111, 339, 88, 113, 114, 5, 115, 610, 611, 612, 613, 614, 615, 616, 617, 618, 619, 620, 621, 622, 623, 624, 625, 626, 627, 628, 629, 630, 631, 632] (by decide +kernel) (by decide +kernel)) (goodIn_sub (fun _ h => List.mem_append_right _ h) (by decide +kernel))
set_option maxRecDepth 20000 in
theorem gL_law_X6_belt : GoodIn wsL_law (wsV RL 102 RX6 yX6_belt wsX6_belt) := goodIn_app (goodIn_of _ (by decide +kernel)) ggL_law_X6_belt
set_option maxRecDepth 20000 in
theorem ggL_law_X5_side : GoodIn wsL_law wsX5_side := goodIn_ca (goodIn_r _ [552, 29, 553, 554, 555, 28, 556, 65, 64, 61, 62, 63, 605, 606, 607, 608, 609, 647, 648, 649, 650, 651] (by decide +kernel) (by decide +kernel)) (goodIn_sub (fun _ h => List.mem_append_right _ h) (by decide +kernel))
set_option maxRecDepth 20000 in
theorem gL_law_X5_side : GoodIn wsL_law (wsV RL 103 RX5 yX5_side wsX5_side) := goodIn_app (goodIn_of _ (by decide +kernel)) ggL_law_X5_side
set_option maxRecDepth 20000 in
theorem ggL_law_X6_side : GoodIn wsL_law wsX6_side := goodIn_ca (goodIn_r _ [560, 111, 506, 93, 113, 114, 5, 115, 610, 611, 612, 613, 614, 615, 616, 617, 618, 619, 620, 621, 622, 623, 624, 625, 626, 627, 628, 629, 630, 631, 632] (by decide +kernel) (by decide +kernel)) (goodIn_sub (fun _ h => List.mem_append_right _ h) (by decide +kernel))
set_option maxRecDepth 20000 in
theorem gL_law_X6_side : GoodIn wsL_law (wsV RL 106 RX6 yX6_side wsX6_side) := goodIn_app (goodIn_of _ (by decide +kernel)) ggL_law_X6_side
set_option maxRecDepth 20000 in
theorem ggL_law_X5_count : GoodIn wsL_law wsX5_count := goodIn_ca (goodIn_r _ [564, 17, 21, 25, 33, 565, 566, 567, 16, 568, 43, 356, 357, 358, 20, 359, 51, 331, 332, 333, 24, 334, 57, 569, 570, 571, 32, 572, 69, 605, 606, 607, 608, 609, 652, 653, 654, 655, 633, 634, 635, 636, 637, 638, 639, 640, 641, 642, 643, 644, 645, 646] (by decide +kernel) (by decide +kernel)) (goodIn_sub (fun _ h => List.mem_append_right _ h) (by decide +kernel))
set_option maxRecDepth 20000 in
theorem gL_law_X5_count : GoodIn wsL_law (wsV RL 107 RX5 yX5_count wsX5_count) := goodIn_app (goodIn_of _ (by decide +kernel)) ggL_law_X5_count
set_option maxRecDepth 20000 in
theorem ggL_law_X6_count : GoodIn wsL_law wsX6_count := goodIn_ca (goodIn_r _ [576, 111, 112, 322, 339, 468, 467, 469, 94, 113, 114, 5, 115, 610, 611, 612, 613, 614, 615, 616, 617, 618, 619, 620, 621, 622, 623, 624, 625, 626, 627, 628, 629, 630, 631, 632] (by decide +kernel) (by decide +kernel)) (goodIn_sub (fun _ h => List.mem_append_right _ h) (by decide +kernel))
set_option maxRecDepth 20000 in
theorem gL_law_X6_count : GoodIn wsL_law (wsV RL 110 RX6 yX6_count wsX6_count) := goodIn_app (goodIn_of _ (by decide +kernel)) ggL_law_X6_count
set_option maxRecDepth 20000 in
theorem ggL_law_X5_clear : GoodIn wsL_law wsX5_clear := goodIn_ca (goodIn_r _ [580, 17, 21, 25, 29, 33, 565, 566, 567, 16, 568, 43, 581, 582, 583, 584, 585, 586, 587, 20, 588, 51, 589, 590, 591, 24, 592, 56, 57, 593, 594, 595, 28, 596, 64, 65, 597, 598, 599, 32, 600, 70, 71, 72, 69, 605, 606, 607, 608, 609, 633, 634, 635, 636, 637, 638, 639, 640, 641, 642, 643, 644, 645, 646, 647, 648, 649, 650, 651, 652, 653, 654, 655] (by decide +kernel) (by decide +kernel)) (goodIn_sub (fun _ h => List.mem_append_right _ h) (by decide +kernel))
set_option maxRecDepth 20000 in
theorem gL_law_X5_clear : GoodIn wsL_law (wsV RL 111 RX5 yX5_clear wsX5_clear) := goodIn_app (goodIn_of _ (by decide +kernel)) ggL_law_X5_clear
set_option maxRecDepth 20000 in
theorem ggL_law_X6_clear : GoodIn wsL_law wsX6_clear := goodIn_ca (goodIn_r _ [604, 111, 112, 322, 339, 506, 468, 467, 469, 94, 610, 611, 612, 613, 614, 615, 616, 617, 618, 619, 620, 621, 622, 623, 624, 625, 626, 627, 628, 629, 630, 631, 632] (by decide +kernel) (by decide +kernel)) (goodIn_sub (fun _ h => List.mem_append_right _ h) (by decide +kernel))
set_option maxRecDepth 20000 in
theorem gL_law_X6_clear : GoodIn wsL_law (wsV RL 114 RX6 yX6_clear wsX6_clear) := goodIn_app (goodIn_of _ (by decide +kernel)) ggL_law_X6_clear
theorem dL_law_0 : decode cL_law 0 = .ok (.new 8, 3) := by decide +kernel
theorem dL_law_3 : decode cL_law 3 = .ok (.dup, 1) := by decide +kernel
theorem dL_law_4 : decode cL_law 4 = .ok (.invokespecial 17, 3) := by decide +kernel
theorem dL_law_7 : decode cL_law 7 = .ok (.astore_n 1, 1) := by decide +kernel
theorem dL_law_8 : decode cL_law 8 = .ok (.new 18, 3) := by decide +kernel
theorem dL_law_11 : decode cL_law 11 = .ok (.dup, 1) := by decide +kernel
theorem dL_law_12 : decode cL_law 12 = .ok (.invokespecial 20, 3) := by decide +kernel
theorem dL_law_15 : decode cL_law 15 = .ok (.astore_n 2, 1) := by decide +kernel
theorem dL_law_16 : decode cL_law 16 = .ok (.iconst 1, 1) := by decide +kernel
theorem dL_law_17 : decode cL_law 17 = .ok (.newarray .long, 2) := by decide +kernel
theorem dL_law_19 : decode cL_law 19 = .ok (.astore_n 3, 1) := by decide +kernel
theorem dL_law_20 : decode cL_law 20 = .ok (.iconst 0, 1) := by decide +kernel
theorem dL_law_21 : decode cL_law 21 = .ok (.istore 4, 2) := by decide +kernel
theorem dL_law_23 : decode cL_law 23 = .ok (.iload 4, 2) := by decide +kernel
theorem dL_law_25 : decode cL_law 25 = .ok (.aload_n 0, 1) := by decide +kernel
theorem dL_law_26 : decode cL_law 26 = .ok (.arraylength, 1) := by decide +kernel
theorem dL_law_27 : decode cL_law 27 = .ok (.bipush 6, 2) := by decide +kernel
theorem dL_law_29 : decode cL_law 29 = .ok (.isub, 1) := by decide +kernel
theorem dL_law_30 : decode cL_law 30 = .ok (.if_icmp .gt 855, 3) := by decide +kernel
theorem dL_law_33 : decode cL_law 33 = .ok (.aload_n 0, 1) := by decide +kernel
theorem dL_law_34 : decode cL_law 34 = .ok (.iload 4, 2) := by decide +kernel
theorem dL_law_36 : decode cL_law 36 = .ok (.iaload, 1) := by decide +kernel
theorem dL_law_37 : decode cL_law 37 = .ok (.bipush 31, 2) := by decide +kernel
theorem dL_law_39 : decode cL_law 39 = .ok (.iand, 1) := by decide +kernel
theorem dL_law_40 : decode cL_law 40 = .ok (.tableswitch 839 0 19 #[96, 133, 170, 207, 232, 269, 306, 399, 478, 539, 588, 625, 650, 663, 688, 714, 739, 764, 801, 826], 96) := by decide +kernel
theorem dL_law_136 : decode cL_law 136 = .ok (.aload_n 1, 1) := by decide +kernel
theorem dL_law_137 : decode cL_law 137 = .ok (.aload_n 0, 1) := by decide +kernel
theorem dL_law_138 : decode cL_law 138 = .ok (.iload 4, 2) := by decide +kernel
theorem dL_law_140 : decode cL_law 140 = .ok (.iconst 1, 1) := by decide +kernel
theorem dL_law_141 : decode cL_law 141 = .ok (.iadd, 1) := by decide +kernel
theorem dL_law_142 : decode cL_law 142 = .ok (.iaload, 1) := by decide +kernel
theorem dL_law_143 : decode cL_law 143 = .ok (.aload_n 0, 1) := by decide +kernel
theorem dL_law_144 : decode cL_law 144 = .ok (.iload 4, 2) := by decide +kernel
theorem dL_law_146 : decode cL_law 146 = .ok (.iconst 2, 1) := by decide +kernel
theorem dL_law_147 : decode cL_law 147 = .ok (.iadd, 1) := by decide +kernel
theorem dL_law_148 : decode cL_law 148 = .ok (.iaload, 1) := by decide +kernel
theorem dL_law_149 : decode cL_law 149 = .ok (.invokevirtual 21, 3) := by decide +kernel
theorem dL_law_152 : decode cL_law 152 = .ok (.aload_n 2, 1) := by decide +kernel
theorem dL_law_153 : decode cL_law 153 = .ok (.aload_n 0, 1) := by decide +kernel
theorem dL_law_154 : decode cL_law 154 = .ok (.iload 4, 2) := by decide +kernel
theorem dL_law_156 : decode cL_law 156 = .ok (.iconst 1, 1) := by decide +kernel
theorem dL_law_157 : decode cL_law 157 = .ok (.iadd, 1) := by decide +kernel
theorem dL_law_158 : decode cL_law 158 = .ok (.iaload, 1) := by decide +kernel
theorem dL_law_159 : decode cL_law 159 = .ok (.aload_n 0, 1) := by decide +kernel
theorem dL_law_160 : decode cL_law 160 = .ok (.iload 4, 2) := by decide +kernel
theorem dL_law_162 : decode cL_law 162 = .ok (.iconst 2, 1) := by decide +kernel
theorem dL_law_163 : decode cL_law 163 = .ok (.iadd, 1) := by decide +kernel
theorem dL_law_164 : decode cL_law 164 = .ok (.iaload, 1) := by decide +kernel
theorem dL_law_165 : decode cL_law 165 = .ok (.invokevirtual 25, 3) := by decide +kernel
theorem dL_law_168 : decode cL_law 168 = .ok (.if_icmp .eq 711, 3) := by decide +kernel
theorem dL_law_171 : decode cL_law 171 = .ok (.iconst 0, 1) := by decide +kernel
theorem dL_law_172 : decode cL_law 172 = .ok (.ireturn, 1) := by decide +kernel
theorem dL_law_173 : decode cL_law 173 = .ok (.aload_n 1, 1) := by decide +kernel
theorem dL_law_174 : decode cL_law 174 = .ok (.aload_n 0, 1) := by decide +kernel
theorem dL_law_175 : decode cL_law 175 = .ok (.iload 4, 2) := by decide +kernel
theorem dL_law_177 : decode cL_law 177 = .ok (.iconst 1, 1) := by decide +kernel
theorem dL_law_178 : decode cL_law 178 = .ok (.iadd, 1) := by decide +kernel
theorem dL_law_179 : decode cL_law 179 = .ok (.iaload, 1) := by decide +kernel
theorem dL_law_180 : decode cL_law 180 = .ok (.aload_n 0, 1) := by decide +kernel
theorem dL_law_181 : decode cL_law 181 = .ok (.iload 4, 2) := by decide +kernel
theorem dL_law_183 : decode cL_law 183 = .ok (.iconst 2, 1) := by decide +kernel
theorem dL_law_184 : decode cL_law 184 = .ok (.iadd, 1) := by decide +kernel
theorem dL_law_185 : decode cL_law 185 = .ok (.iaload, 1) := by decide +kernel
theorem dL_law_186 : decode cL_law 186 = .ok (.invokevirtual 26, 3) := by decide +kernel
theorem dL_law_189 : decode cL_law 189 = .ok (.aload_n 2, 1) := by decide +kernel
theorem dL_law_190 : decode cL_law 190 = .ok (.aload_n 0, 1) := by decide +kernel
theorem dL_law_191 : decode cL_law 191 = .ok (.iload 4, 2) := by decide +kernel
theorem dL_law_193 : decode cL_law 193 = .ok (.iconst 1, 1) := by decide +kernel
theorem dL_law_194 : decode cL_law 194 = .ok (.iadd, 1) := by decide +kernel
theorem dL_law_195 : decode cL_law 195 = .ok (.iaload, 1) := by decide +kernel
theorem dL_law_196 : decode cL_law 196 = .ok (.aload_n 0, 1) := by decide +kernel
theorem dL_law_197 : decode cL_law 197 = .ok (.iload 4, 2) := by decide +kernel
theorem dL_law_199 : decode cL_law 199 = .ok (.iconst 2, 1) := by decide +kernel
theorem dL_law_200 : decode cL_law 200 = .ok (.iadd, 1) := by decide +kernel
theorem dL_law_201 : decode cL_law 201 = .ok (.iaload, 1) := by decide +kernel
theorem dL_law_202 : decode cL_law 202 = .ok (.invokevirtual 29, 3) := by decide +kernel
theorem dL_law_205 : decode cL_law 205 = .ok (.if_icmp .eq 674, 3) := by decide +kernel
theorem dL_law_208 : decode cL_law 208 = .ok (.iconst 0, 1) := by decide +kernel
theorem dL_law_209 : decode cL_law 209 = .ok (.ireturn, 1) := by decide +kernel
theorem dL_law_210 : decode cL_law 210 = .ok (.aload_n 1, 1) := by decide +kernel
theorem dL_law_211 : decode cL_law 211 = .ok (.aload_n 0, 1) := by decide +kernel
theorem dL_law_212 : decode cL_law 212 = .ok (.iload 4, 2) := by decide +kernel
theorem dL_law_214 : decode cL_law 214 = .ok (.iconst 1, 1) := by decide +kernel
theorem dL_law_215 : decode cL_law 215 = .ok (.iadd, 1) := by decide +kernel
theorem dL_law_216 : decode cL_law 216 = .ok (.iaload, 1) := by decide +kernel
theorem dL_law_217 : decode cL_law 217 = .ok (.aload_n 0, 1) := by decide +kernel
theorem dL_law_218 : decode cL_law 218 = .ok (.iload 4, 2) := by decide +kernel
theorem dL_law_220 : decode cL_law 220 = .ok (.iconst 2, 1) := by decide +kernel
theorem dL_law_221 : decode cL_law 221 = .ok (.iadd, 1) := by decide +kernel
theorem dL_law_222 : decode cL_law 222 = .ok (.iaload, 1) := by decide +kernel
theorem dL_law_223 : decode cL_law 223 = .ok (.invokevirtual 30, 3) := by decide +kernel
theorem dL_law_226 : decode cL_law 226 = .ok (.aload_n 2, 1) := by decide +kernel
theorem dL_law_227 : decode cL_law 227 = .ok (.aload_n 0, 1) := by decide +kernel
theorem dL_law_228 : decode cL_law 228 = .ok (.iload 4, 2) := by decide +kernel
theorem dL_law_230 : decode cL_law 230 = .ok (.iconst 1, 1) := by decide +kernel
theorem dL_law_231 : decode cL_law 231 = .ok (.iadd, 1) := by decide +kernel
theorem dL_law_232 : decode cL_law 232 = .ok (.iaload, 1) := by decide +kernel
theorem dL_law_233 : decode cL_law 233 = .ok (.aload_n 0, 1) := by decide +kernel
theorem dL_law_234 : decode cL_law 234 = .ok (.iload 4, 2) := by decide +kernel
theorem dL_law_236 : decode cL_law 236 = .ok (.iconst 2, 1) := by decide +kernel
theorem dL_law_237 : decode cL_law 237 = .ok (.iadd, 1) := by decide +kernel
theorem dL_law_238 : decode cL_law 238 = .ok (.iaload, 1) := by decide +kernel
theorem dL_law_239 : decode cL_law 239 = .ok (.invokevirtual 33, 3) := by decide +kernel
theorem dL_law_242 : decode cL_law 242 = .ok (.if_icmp .eq 637, 3) := by decide +kernel
theorem dL_law_245 : decode cL_law 245 = .ok (.iconst 0, 1) := by decide +kernel
theorem dL_law_246 : decode cL_law 246 = .ok (.ireturn, 1) := by decide +kernel
theorem dL_law_247 : decode cL_law 247 = .ok (.aload_n 1, 1) := by decide +kernel
theorem dL_law_248 : decode cL_law 248 = .ok (.aload_n 0, 1) := by decide +kernel
theorem dL_law_249 : decode cL_law 249 = .ok (.iload 4, 2) := by decide +kernel
theorem dL_law_251 : decode cL_law 251 = .ok (.iconst 1, 1) := by decide +kernel
theorem dL_law_252 : decode cL_law 252 = .ok (.iadd, 1) := by decide +kernel
theorem dL_law_253 : decode cL_law 253 = .ok (.iaload, 1) := by decide +kernel
theorem dL_law_254 : decode cL_law 254 = .ok (.invokevirtual 34, 3) := by decide +kernel
theorem dL_law_257 : decode cL_law 257 = .ok (.aload_n 2, 1) := by decide +kernel
theorem dL_law_258 : decode cL_law 258 = .ok (.aload_n 0, 1) := by decide +kernel
theorem dL_law_259 : decode cL_law 259 = .ok (.iload 4, 2) := by decide +kernel
theorem dL_law_261 : decode cL_law 261 = .ok (.iconst 1, 1) := by decide +kernel
theorem dL_law_262 : decode cL_law 262 = .ok (.iadd, 1) := by decide +kernel
theorem dL_law_263 : decode cL_law 263 = .ok (.iaload, 1) := by decide +kernel
theorem dL_law_264 : decode cL_law 264 = .ok (.invokevirtual 38, 3) := by decide +kernel
theorem dL_law_267 : decode cL_law 267 = .ok (.if_icmp .eq 612, 3) := by decide +kernel
theorem dL_law_270 : decode cL_law 270 = .ok (.iconst 0, 1) := by decide +kernel
theorem dL_law_271 : decode cL_law 271 = .ok (.ireturn, 1) := by decide +kernel
theorem dL_law_272 : decode cL_law 272 = .ok (.aload_n 1, 1) := by decide +kernel
theorem dL_law_273 : decode cL_law 273 = .ok (.aload_n 0, 1) := by decide +kernel
theorem dL_law_274 : decode cL_law 274 = .ok (.iload 4, 2) := by decide +kernel
theorem dL_law_276 : decode cL_law 276 = .ok (.iconst 1, 1) := by decide +kernel
theorem dL_law_277 : decode cL_law 277 = .ok (.iadd, 1) := by decide +kernel
theorem dL_law_278 : decode cL_law 278 = .ok (.iaload, 1) := by decide +kernel
theorem dL_law_279 : decode cL_law 279 = .ok (.aload_n 0, 1) := by decide +kernel
theorem dL_law_280 : decode cL_law 280 = .ok (.iload 4, 2) := by decide +kernel
theorem dL_law_282 : decode cL_law 282 = .ok (.iconst 2, 1) := by decide +kernel
theorem dL_law_283 : decode cL_law 283 = .ok (.iadd, 1) := by decide +kernel
theorem dL_law_284 : decode cL_law 284 = .ok (.iaload, 1) := by decide +kernel
theorem dL_law_285 : decode cL_law 285 = .ok (.invokevirtual 39, 3) := by decide +kernel
theorem dL_law_288 : decode cL_law 288 = .ok (.aload_n 2, 1) := by decide +kernel
theorem dL_law_289 : decode cL_law 289 = .ok (.aload_n 0, 1) := by decide +kernel
theorem dL_law_290 : decode cL_law 290 = .ok (.iload 4, 2) := by decide +kernel
theorem dL_law_292 : decode cL_law 292 = .ok (.iconst 1, 1) := by decide +kernel
theorem dL_law_293 : decode cL_law 293 = .ok (.iadd, 1) := by decide +kernel
theorem dL_law_294 : decode cL_law 294 = .ok (.iaload, 1) := by decide +kernel
theorem dL_law_295 : decode cL_law 295 = .ok (.aload_n 0, 1) := by decide +kernel
theorem dL_law_296 : decode cL_law 296 = .ok (.iload 4, 2) := by decide +kernel
theorem dL_law_298 : decode cL_law 298 = .ok (.iconst 2, 1) := by decide +kernel
theorem dL_law_299 : decode cL_law 299 = .ok (.iadd, 1) := by decide +kernel
theorem dL_law_300 : decode cL_law 300 = .ok (.iaload, 1) := by decide +kernel
theorem dL_law_301 : decode cL_law 301 = .ok (.invokevirtual 42, 3) := by decide +kernel
theorem dL_law_304 : decode cL_law 304 = .ok (.if_icmp .eq 575, 3) := by decide +kernel
theorem dL_law_307 : decode cL_law 307 = .ok (.iconst 0, 1) := by decide +kernel
theorem dL_law_308 : decode cL_law 308 = .ok (.ireturn, 1) := by decide +kernel
theorem dL_law_309 : decode cL_law 309 = .ok (.aload_n 1, 1) := by decide +kernel
theorem dL_law_310 : decode cL_law 310 = .ok (.aload_n 0, 1) := by decide +kernel
theorem dL_law_311 : decode cL_law 311 = .ok (.iload 4, 2) := by decide +kernel
theorem dL_law_313 : decode cL_law 313 = .ok (.iconst 1, 1) := by decide +kernel
theorem dL_law_314 : decode cL_law 314 = .ok (.iadd, 1) := by decide +kernel
theorem dL_law_315 : decode cL_law 315 = .ok (.iaload, 1) := by decide +kernel
theorem dL_law_316 : decode cL_law 316 = .ok (.aload_n 0, 1) := by decide +kernel
theorem dL_law_317 : decode cL_law 317 = .ok (.iload 4, 2) := by decide +kernel
theorem dL_law_319 : decode cL_law 319 = .ok (.iconst 2, 1) := by decide +kernel
theorem dL_law_320 : decode cL_law 320 = .ok (.iadd, 1) := by decide +kernel
theorem dL_law_321 : decode cL_law 321 = .ok (.iaload, 1) := by decide +kernel
theorem dL_law_322 : decode cL_law 322 = .ok (.invokevirtual 43, 3) := by decide +kernel
theorem dL_law_325 : decode cL_law 325 = .ok (.aload_n 2, 1) := by decide +kernel
theorem dL_law_326 : decode cL_law 326 = .ok (.aload_n 0, 1) := by decide +kernel
theorem dL_law_327 : decode cL_law 327 = .ok (.iload 4, 2) := by decide +kernel
theorem dL_law_329 : decode cL_law 329 = .ok (.iconst 1, 1) := by decide +kernel
theorem dL_law_330 : decode cL_law 330 = .ok (.iadd, 1) := by decide +kernel
theorem dL_law_331 : decode cL_law 331 = .ok (.iaload, 1) := by decide +kernel
theorem dL_law_332 : decode cL_law 332 = .ok (.aload_n 0, 1) := by decide +kernel
theorem dL_law_333 : decode cL_law 333 = .ok (.iload 4, 2) := by decide +kernel
theorem dL_law_335 : decode cL_law 335 = .ok (.iconst 2, 1) := by decide +kernel
theorem dL_law_336 : decode cL_law 336 = .ok (.iadd, 1) := by decide +kernel
theorem dL_law_337 : decode cL_law 337 = .ok (.iaload, 1) := by decide +kernel
theorem dL_law_338 : decode cL_law 338 = .ok (.invokevirtual 46, 3) := by decide +kernel
theorem dL_law_341 : decode cL_law 341 = .ok (.if_icmp .eq 538, 3) := by decide +kernel
theorem dL_law_344 : decode cL_law 344 = .ok (.iconst 0, 1) := by decide +kernel
theorem dL_law_345 : decode cL_law 345 = .ok (.ireturn, 1) := by decide +kernel
theorem dL_law_346 : decode cL_law 346 = .ok (.aload_n 1, 1) := by decide +kernel
theorem dL_law_347 : decode cL_law 347 = .ok (.aload_n 0, 1) := by decide +kernel
theorem dL_law_348 : decode cL_law 348 = .ok (.iload 4, 2) := by decide +kernel
theorem dL_law_350 : decode cL_law 350 = .ok (.iconst 1, 1) := by decide +kernel
theorem dL_law_351 : decode cL_law 351 = .ok (.iadd, 1) := by decide +kernel
theorem dL_law_352 : decode cL_law 352 = .ok (.iaload, 1) := by decide +kernel
theorem dL_law_353 : decode cL_law 353 = .ok (.aload_n 0, 1) := by decide +kernel
theorem dL_law_354 : decode cL_law 354 = .ok (.iload 4, 2) := by decide +kernel
theorem dL_law_356 : decode cL_law 356 = .ok (.iconst 2, 1) := by decide +kernel
theorem dL_law_357 : decode cL_law 357 = .ok (.iadd, 1) := by decide +kernel
theorem dL_law_358 : decode cL_law 358 = .ok (.iaload, 1) := by decide +kernel
theorem dL_law_359 : decode cL_law 359 = .ok (.aload_n 0, 1) := by decide +kernel
theorem dL_law_360 : decode cL_law 360 = .ok (.iload 4, 2) := by decide +kernel
theorem dL_law_362 : decode cL_law 362 = .ok (.iconst 3, 1) := by decide +kernel
theorem dL_law_363 : decode cL_law 363 = .ok (.iadd, 1) := by decide +kernel
theorem dL_law_364 : decode cL_law 364 = .ok (.iaload, 1) := by decide +kernel
theorem dL_law_365 : decode cL_law 365 = .ok (.aload_n 0, 1) := by decide +kernel
theorem dL_law_366 : decode cL_law 366 = .ok (.iload 4, 2) := by decide +kernel
theorem dL_law_368 : decode cL_law 368 = .ok (.iconst 4, 1) := by decide +kernel
theorem dL_law_369 : decode cL_law 369 = .ok (.iadd, 1) := by decide +kernel
theorem dL_law_370 : decode cL_law 370 = .ok (.iaload, 1) := by decide +kernel
theorem dL_law_371 : decode cL_law 371 = .ok (.i2l, 1) := by decide +kernel
theorem dL_law_372 : decode cL_law 372 = .ok (.bipush 32, 2) := by decide +kernel
theorem dL_law_374 : decode cL_law 374 = .ok (.lshl, 1) := by decide +kernel
theorem dL_law_375 : decode cL_law 375 = .ok (.aload_n 0, 1) := by decide +kernel
theorem dL_law_376 : decode cL_law 376 = .ok (.iload 4, 2) := by decide +kernel
theorem dL_law_378 : decode cL_law 378 = .ok (.iconst 5, 1) := by decide +kernel
theorem dL_law_379 : decode cL_law 379 = .ok (.iadd, 1) := by decide +kernel
theorem dL_law_380 : decode cL_law 380 = .ok (.iaload, 1) := by decide +kernel
theorem dL_law_381 : decode cL_law 381 = .ok (.i2l, 1) := by decide +kernel
theorem dL_law_382 : decode cL_law 382 = .ok (.ldc2_w 47, 3) := by decide +kernel
theorem dL_law_385 : decode cL_law 385 = .ok (.land, 1) := by decide +kernel
theorem dL_law_386 : decode cL_law 386 = .ok (.lor, 1) := by decide +kernel
theorem dL_law_387 : decode cL_law 387 = .ok (.invokevirtual 49, 3) := by decide +kernel
theorem dL_law_390 : decode cL_law 390 = .ok (.aload_n 2, 1) := by decide +kernel
theorem dL_law_391 : decode cL_law 391 = .ok (.aload_n 0, 1) := by decide +kernel
theorem dL_law_392 : decode cL_law 392 = .ok (.iload 4, 2) := by decide +kernel
theorem dL_law_394 : decode cL_law 394 = .ok (.iconst 1, 1) := by decide +kernel
theorem dL_law_395 : decode cL_law 395 = .ok (.iadd, 1) := by decide +kernel
theorem dL_law_396 : decode cL_law 396 = .ok (.iaload, 1) := by decide +kernel
theorem dL_law_397 : decode cL_law 397 = .ok (.aload_n 0, 1) := by decide +kernel
theorem dL_law_398 : decode cL_law 398 = .ok (.iload 4, 2) := by decide +kernel
theorem dL_law_400 : decode cL_law 400 = .ok (.iconst 2, 1) := by decide +kernel
theorem dL_law_401 : decode cL_law 401 = .ok (.iadd, 1) := by decide +kernel
theorem dL_law_402 : decode cL_law 402 = .ok (.iaload, 1) := by decide +kernel
theorem dL_law_403 : decode cL_law 403 = .ok (.aload_n 0, 1) := by decide +kernel
theorem dL_law_404 : decode cL_law 404 = .ok (.iload 4, 2) := by decide +kernel
theorem dL_law_406 : decode cL_law 406 = .ok (.iconst 3, 1) := by decide +kernel
theorem dL_law_407 : decode cL_law 407 = .ok (.iadd, 1) := by decide +kernel
theorem dL_law_408 : decode cL_law 408 = .ok (.iaload, 1) := by decide +kernel
theorem dL_law_409 : decode cL_law 409 = .ok (.aload_n 0, 1) := by decide +kernel
theorem dL_law_410 : decode cL_law 410 = .ok (.iload 4, 2) := by decide +kernel
theorem dL_law_412 : decode cL_law 412 = .ok (.iconst 4, 1) := by decide +kernel
theorem dL_law_413 : decode cL_law 413 = .ok (.iadd, 1) := by decide +kernel
theorem dL_law_414 : decode cL_law 414 = .ok (.iaload, 1) := by decide +kernel
theorem dL_law_415 : decode cL_law 415 = .ok (.i2l, 1) := by decide +kernel
theorem dL_law_416 : decode cL_law 416 = .ok (.bipush 32, 2) := by decide +kernel
theorem dL_law_418 : decode cL_law 418 = .ok (.lshl, 1) := by decide +kernel
theorem dL_law_419 : decode cL_law 419 = .ok (.aload_n 0, 1) := by decide +kernel
theorem dL_law_420 : decode cL_law 420 = .ok (.iload 4, 2) := by decide +kernel
theorem dL_law_422 : decode cL_law 422 = .ok (.iconst 5, 1) := by decide +kernel
theorem dL_law_423 : decode cL_law 423 = .ok (.iadd, 1) := by decide +kernel
theorem dL_law_424 : decode cL_law 424 = .ok (.iaload, 1) := by decide +kernel
theorem dL_law_425 : decode cL_law 425 = .ok (.i2l, 1) := by decide +kernel
theorem dL_law_426 : decode cL_law 426 = .ok (.ldc2_w 47, 3) := by decide +kernel
theorem dL_law_429 : decode cL_law 429 = .ok (.land, 1) := by decide +kernel
theorem dL_law_430 : decode cL_law 430 = .ok (.lor, 1) := by decide +kernel
theorem dL_law_431 : decode cL_law 431 = .ok (.invokevirtual 53, 3) := by decide +kernel
theorem dL_law_434 : decode cL_law 434 = .ok (.if_icmp .eq 445, 3) := by decide +kernel
theorem dL_law_437 : decode cL_law 437 = .ok (.iconst 0, 1) := by decide +kernel
theorem dL_law_438 : decode cL_law 438 = .ok (.ireturn, 1) := by decide +kernel
theorem dL_law_439 : decode cL_law 439 = .ok (.aload_n 1, 1) := by decide +kernel
theorem dL_law_440 : decode cL_law 440 = .ok (.aload_n 0, 1) := by decide +kernel
theorem dL_law_441 : decode cL_law 441 = .ok (.iload 4, 2) := by decide +kernel
theorem dL_law_443 : decode cL_law 443 = .ok (.iconst 1, 1) := by decide +kernel
theorem dL_law_444 : decode cL_law 444 = .ok (.iadd, 1) := by decide +kernel
theorem dL_law_445 : decode cL_law 445 = .ok (.iaload, 1) := by decide +kernel
theorem dL_law_446 : decode cL_law 446 = .ok (.aload_n 0, 1) := by decide +kernel
theorem dL_law_447 : decode cL_law 447 = .ok (.iload 4, 2) := by decide +kernel
theorem dL_law_449 : decode cL_law 449 = .ok (.iconst 2, 1) := by decide +kernel
theorem dL_law_450 : decode cL_law 450 = .ok (.iadd, 1) := by decide +kernel
theorem dL_law_451 : decode cL_law 451 = .ok (.iaload, 1) := by decide +kernel
theorem dL_law_452 : decode cL_law 452 = .ok (.aload_n 0, 1) := by decide +kernel
theorem dL_law_453 : decode cL_law 453 = .ok (.iload 4, 2) := by decide +kernel
theorem dL_law_455 : decode cL_law 455 = .ok (.iconst 3, 1) := by decide +kernel
theorem dL_law_456 : decode cL_law 456 = .ok (.iadd, 1) := by decide +kernel
theorem dL_law_457 : decode cL_law 457 = .ok (.iaload, 1) := by decide +kernel
theorem dL_law_458 : decode cL_law 458 = .ok (.aload_n 3, 1) := by decide +kernel
theorem dL_law_459 : decode cL_law 459 = .ok (.invokestatic 54, 3) := by decide +kernel
theorem dL_law_462 : decode cL_law 462 = .ok (.istore 5, 2) := by decide +kernel
theorem dL_law_464 : decode cL_law 464 = .ok (.aload_n 2, 1) := by decide +kernel
theorem dL_law_465 : decode cL_law 465 = .ok (.aload_n 0, 1) := by decide +kernel
theorem dL_law_466 : decode cL_law 466 = .ok (.iload 4, 2) := by decide +kernel
theorem dL_law_468 : decode cL_law 468 = .ok (.iconst 1, 1) := by decide +kernel
theorem dL_law_469 : decode cL_law 469 = .ok (.iadd, 1) := by decide +kernel
theorem dL_law_470 : decode cL_law 470 = .ok (.iaload, 1) := by decide +kernel
theorem dL_law_471 : decode cL_law 471 = .ok (.aload_n 0, 1) := by decide +kernel
theorem dL_law_472 : decode cL_law 472 = .ok (.iload 4, 2) := by decide +kernel
theorem dL_law_474 : decode cL_law 474 = .ok (.iconst 2, 1) := by decide +kernel
theorem dL_law_475 : decode cL_law 475 = .ok (.iadd, 1) := by decide +kernel
theorem dL_law_476 : decode cL_law 476 = .ok (.iaload, 1) := by decide +kernel
theorem dL_law_477 : decode cL_law 477 = .ok (.aload_n 0, 1) := by decide +kernel
theorem dL_law_478 : decode cL_law 478 = .ok (.iload 4, 2) := by decide +kernel
theorem dL_law_480 : decode cL_law 480 = .ok (.iconst 3, 1) := by decide +kernel
theorem dL_law_481 : decode cL_law 481 = .ok (.iadd, 1) := by decide +kernel
theorem dL_law_482 : decode cL_law 482 = .ok (.iaload, 1) := by decide +kernel
theorem dL_law_483 : decode cL_law 483 = .ok (.invokevirtual 59, 3) := by decide +kernel
theorem dL_law_486 : decode cL_law 486 = .ok (.lstore 6, 2) := by decide +kernel
theorem dL_law_488 : decode cL_law 488 = .ok (.aload_n 2, 1) := by decide +kernel
theorem dL_law_489 : decode cL_law 489 = .ok (.invokevirtual 60, 3) := by decide +kernel
theorem dL_law_492 : decode cL_law 492 = .ok (.iload 5, 2) := by decide +kernel
theorem dL_law_494 : decode cL_law 494 = .ok (.if_icmp .eq 5, 3) := by decide +kernel
theorem dL_law_497 : decode cL_law 497 = .ok (.iconst 0, 1) := by decide +kernel
theorem dL_law_498 : decode cL_law 498 = .ok (.ireturn, 1) := by decide +kernel
theorem dL_law_499 : decode cL_law 499 = .ok (.iload 5, 2) := by decide +kernel
theorem dL_law_501 : decode cL_law 501 = .ok (.ifCond .ne 14, 3) := by decide +kernel
theorem dL_law_504 : decode cL_law 504 = .ok (.aload_n 3, 1) := by decide +kernel
theorem dL_law_505 : decode cL_law 505 = .ok (.iconst 0, 1) := by decide +kernel
theorem dL_law_506 : decode cL_law 506 = .ok (.laload, 1) := by decide +kernel
theorem dL_law_507 : decode cL_law 507 = .ok (.lload 6, 2) := by decide +kernel
theorem dL_law_509 : decode cL_law 509 = .ok (.lcmp, 1) := by decide +kernel
theorem dL_law_510 : decode cL_law 510 = .ok (.ifCond .eq 5, 3) := by decide +kernel
theorem dL_law_513 : decode cL_law 513 = .ok (.iconst 0, 1) := by decide +kernel
theorem dL_law_514 : decode cL_law 514 = .ok (.ireturn, 1) := by decide +kernel
theorem dL_law_515 : decode cL_law 515 = .ok (.goto 364, 3) := by decide +kernel
theorem dL_law_518 : decode cL_law 518 = .ok (.aload_n 1, 1) := by decide +kernel
theorem dL_law_519 : decode cL_law 519 = .ok (.aload_n 0, 1) := by decide +kernel
theorem dL_law_520 : decode cL_law 520 = .ok (.iload 4, 2) := by decide +kernel
theorem dL_law_522 : decode cL_law 522 = .ok (.iconst 1, 1) := by decide +kernel
theorem dL_law_523 : decode cL_law 523 = .ok (.iadd, 1) := by decide +kernel
theorem dL_law_524 : decode cL_law 524 = .ok (.iaload, 1) := by decide +kernel
theorem dL_law_525 : decode cL_law 525 = .ok (.aload_n 0, 1) := by decide +kernel
theorem dL_law_526 : decode cL_law 526 = .ok (.iload 4, 2) := by decide +kernel
theorem dL_law_528 : decode cL_law 528 = .ok (.iconst 2, 1) := by decide +kernel
theorem dL_law_529 : decode cL_law 529 = .ok (.iadd, 1) := by decide +kernel
theorem dL_law_530 : decode cL_law 530 = .ok (.iaload, 1) := by decide +kernel
theorem dL_law_531 : decode cL_law 531 = .ok (.aload_n 0, 1) := by decide +kernel
theorem dL_law_532 : decode cL_law 532 = .ok (.iload 4, 2) := by decide +kernel
theorem dL_law_534 : decode cL_law 534 = .ok (.iconst 3, 1) := by decide +kernel
theorem dL_law_535 : decode cL_law 535 = .ok (.iadd, 1) := by decide +kernel
theorem dL_law_536 : decode cL_law 536 = .ok (.iaload, 1) := by decide +kernel
theorem dL_law_537 : decode cL_law 537 = .ok (.aload_n 0, 1) := by decide +kernel
theorem dL_law_538 : decode cL_law 538 = .ok (.iload 4, 2) := by decide +kernel
theorem dL_law_540 : decode cL_law 540 = .ok (.iconst 4, 1) := by decide +kernel
theorem dL_law_541 : decode cL_law 541 = .ok (.iadd, 1) := by decide +kernel
theorem dL_law_542 : decode cL_law 542 = .ok (.iaload, 1) := by decide +kernel
theorem dL_law_543 : decode cL_law 543 = .ok (.invokevirtual 64, 3) := by decide +kernel
theorem dL_law_546 : decode cL_law 546 = .ok (.aload_n 2, 1) := by decide +kernel
theorem dL_law_547 : decode cL_law 547 = .ok (.aload_n 0, 1) := by decide +kernel
theorem dL_law_548 : decode cL_law 548 = .ok (.iload 4, 2) := by decide +kernel
theorem dL_law_550 : decode cL_law 550 = .ok (.iconst 1, 1) := by decide +kernel
theorem dL_law_551 : decode cL_law 551 = .ok (.iadd, 1) := by decide +kernel
theorem dL_law_552 : decode cL_law 552 = .ok (.iaload, 1) := by decide +kernel
theorem dL_law_553 : decode cL_law 553 = .ok (.aload_n 0, 1) := by decide +kernel
theorem dL_law_554 : decode cL_law 554 = .ok (.iload 4, 2) := by decide +kernel
theorem dL_law_556 : decode cL_law 556 = .ok (.iconst 2, 1) := by decide +kernel
theorem dL_law_557 : decode cL_law 557 = .ok (.iadd, 1) := by decide +kernel
theorem dL_law_558 : decode cL_law 558 = .ok (.iaload, 1) := by decide +kernel
theorem dL_law_559 : decode cL_law 559 = .ok (.aload_n 0, 1) := by decide +kernel
theorem dL_law_560 : decode cL_law 560 = .ok (.iload 4, 2) := by decide +kernel
theorem dL_law_562 : decode cL_law 562 = .ok (.iconst 3, 1) := by decide +kernel
theorem dL_law_563 : decode cL_law 563 = .ok (.iadd, 1) := by decide +kernel
theorem dL_law_564 : decode cL_law 564 = .ok (.iaload, 1) := by decide +kernel
theorem dL_law_565 : decode cL_law 565 = .ok (.aload_n 0, 1) := by decide +kernel
theorem dL_law_566 : decode cL_law 566 = .ok (.iload 4, 2) := by decide +kernel
theorem dL_law_568 : decode cL_law 568 = .ok (.iconst 4, 1) := by decide +kernel
theorem dL_law_569 : decode cL_law 569 = .ok (.iadd, 1) := by decide +kernel
theorem dL_law_570 : decode cL_law 570 = .ok (.iaload, 1) := by decide +kernel
theorem dL_law_571 : decode cL_law 571 = .ok (.invokevirtual 68, 3) := by decide +kernel
theorem dL_law_574 : decode cL_law 574 = .ok (.if_icmp .eq 305, 3) := by decide +kernel
theorem dL_law_577 : decode cL_law 577 = .ok (.iconst 0, 1) := by decide +kernel
theorem dL_law_578 : decode cL_law 578 = .ok (.ireturn, 1) := by decide +kernel
theorem dL_law_579 : decode cL_law 579 = .ok (.aload_n 1, 1) := by decide +kernel
theorem dL_law_580 : decode cL_law 580 = .ok (.aload_n 0, 1) := by decide +kernel
theorem dL_law_581 : decode cL_law 581 = .ok (.iload 4, 2) := by decide +kernel
theorem dL_law_583 : decode cL_law 583 = .ok (.iconst 1, 1) := by decide +kernel
theorem dL_law_584 : decode cL_law 584 = .ok (.iadd, 1) := by decide +kernel
theorem dL_law_585 : decode cL_law 585 = .ok (.iaload, 1) := by decide +kernel
theorem dL_law_586 : decode cL_law 586 = .ok (.aload_n 0, 1) := by decide +kernel
theorem dL_law_587 : decode cL_law 587 = .ok (.iload 4, 2) := by decide +kernel
theorem dL_law_589 : decode cL_law 589 = .ok (.iconst 2, 1) := by decide +kernel
theorem dL_law_590 : decode cL_law 590 = .ok (.iadd, 1) := by decide +kernel
theorem dL_law_591 : decode cL_law 591 = .ok (.iaload, 1) := by decide +kernel
theorem dL_law_592 : decode cL_law 592 = .ok (.aload_n 0, 1) := by decide +kernel
theorem dL_law_593 : decode cL_law 593 = .ok (.iload 4, 2) := by decide +kernel
theorem dL_law_595 : decode cL_law 595 = .ok (.iconst 3, 1) := by decide +kernel
theorem dL_law_596 : decode cL_law 596 = .ok (.iadd, 1) := by decide +kernel
theorem dL_law_597 : decode cL_law 597 = .ok (.iaload, 1) := by decide +kernel
theorem dL_law_598 : decode cL_law 598 = .ok (.invokevirtual 69, 3) := by decide +kernel
theorem dL_law_601 : decode cL_law 601 = .ok (.aload_n 2, 1) := by decide +kernel
theorem dL_law_602 : decode cL_law 602 = .ok (.aload_n 0, 1) := by decide +kernel
theorem dL_law_603 : decode cL_law 603 = .ok (.iload 4, 2) := by decide +kernel
theorem dL_law_605 : decode cL_law 605 = .ok (.iconst 1, 1) := by decide +kernel
theorem dL_law_606 : decode cL_law 606 = .ok (.iadd, 1) := by decide +kernel
theorem dL_law_607 : decode cL_law 607 = .ok (.iaload, 1) := by decide +kernel
theorem dL_law_608 : decode cL_law 608 = .ok (.aload_n 0, 1) := by decide +kernel
theorem dL_law_609 : decode cL_law 609 = .ok (.iload 4, 2) := by decide +kernel
theorem dL_law_611 : decode cL_law 611 = .ok (.iconst 2, 1) := by decide +kernel
theorem dL_law_612 : decode cL_law 612 = .ok (.iadd, 1) := by decide +kernel
theorem dL_law_613 : decode cL_law 613 = .ok (.iaload, 1) := by decide +kernel
theorem dL_law_614 : decode cL_law 614 = .ok (.aload_n 0, 1) := by decide +kernel
theorem dL_law_615 : decode cL_law 615 = .ok (.iload 4, 2) := by decide +kernel
theorem dL_law_617 : decode cL_law 617 = .ok (.iconst 3, 1) := by decide +kernel
theorem dL_law_618 : decode cL_law 618 = .ok (.iadd, 1) := by decide +kernel
theorem dL_law_619 : decode cL_law 619 = .ok (.iaload, 1) := by decide +kernel
theorem dL_law_620 : decode cL_law 620 = .ok (.invokevirtual 73, 3) := by decide +kernel
theorem dL_law_623 : decode cL_law 623 = .ok (.if_icmp .eq 256, 3) := by decide +kernel
theorem dL_law_626 : decode cL_law 626 = .ok (.iconst 0, 1) := by decide +kernel
theorem dL_law_627 : decode cL_law 627 = .ok (.ireturn, 1) := by decide +kernel
theorem dL_law_628 : decode cL_law 628 = .ok (.aload_n 1, 1) := by decide +kernel
theorem dL_law_629 : decode cL_law 629 = .ok (.aload_n 0, 1) := by decide +kernel
theorem dL_law_630 : decode cL_law 630 = .ok (.iload 4, 2) := by decide +kernel
theorem dL_law_632 : decode cL_law 632 = .ok (.iconst 1, 1) := by decide +kernel
theorem dL_law_633 : decode cL_law 633 = .ok (.iadd, 1) := by decide +kernel
theorem dL_law_634 : decode cL_law 634 = .ok (.iaload, 1) := by decide +kernel
theorem dL_law_635 : decode cL_law 635 = .ok (.aload_n 0, 1) := by decide +kernel
theorem dL_law_636 : decode cL_law 636 = .ok (.iload 4, 2) := by decide +kernel
theorem dL_law_638 : decode cL_law 638 = .ok (.iconst 2, 1) := by decide +kernel
theorem dL_law_639 : decode cL_law 639 = .ok (.iadd, 1) := by decide +kernel
theorem dL_law_640 : decode cL_law 640 = .ok (.iaload, 1) := by decide +kernel
theorem dL_law_641 : decode cL_law 641 = .ok (.invokevirtual 74, 3) := by decide +kernel
theorem dL_law_644 : decode cL_law 644 = .ok (.aload_n 2, 1) := by decide +kernel
theorem dL_law_645 : decode cL_law 645 = .ok (.aload_n 0, 1) := by decide +kernel
theorem dL_law_646 : decode cL_law 646 = .ok (.iload 4, 2) := by decide +kernel
theorem dL_law_648 : decode cL_law 648 = .ok (.iconst 1, 1) := by decide +kernel
theorem dL_law_649 : decode cL_law 649 = .ok (.iadd, 1) := by decide +kernel
theorem dL_law_650 : decode cL_law 650 = .ok (.iaload, 1) := by decide +kernel
theorem dL_law_651 : decode cL_law 651 = .ok (.aload_n 0, 1) := by decide +kernel
theorem dL_law_652 : decode cL_law 652 = .ok (.iload 4, 2) := by decide +kernel
theorem dL_law_654 : decode cL_law 654 = .ok (.iconst 2, 1) := by decide +kernel
theorem dL_law_655 : decode cL_law 655 = .ok (.iadd, 1) := by decide +kernel
theorem dL_law_656 : decode cL_law 656 = .ok (.iaload, 1) := by decide +kernel
theorem dL_law_657 : decode cL_law 657 = .ok (.invokevirtual 77, 3) := by decide +kernel
theorem dL_law_660 : decode cL_law 660 = .ok (.if_icmp .eq 219, 3) := by decide +kernel
theorem dL_law_663 : decode cL_law 663 = .ok (.iconst 0, 1) := by decide +kernel
theorem dL_law_664 : decode cL_law 664 = .ok (.ireturn, 1) := by decide +kernel
theorem dL_law_665 : decode cL_law 665 = .ok (.aload_n 1, 1) := by decide +kernel
theorem dL_law_666 : decode cL_law 666 = .ok (.aload_n 0, 1) := by decide +kernel
theorem dL_law_667 : decode cL_law 667 = .ok (.iload 4, 2) := by decide +kernel
theorem dL_law_669 : decode cL_law 669 = .ok (.iconst 1, 1) := by decide +kernel
theorem dL_law_670 : decode cL_law 670 = .ok (.iadd, 1) := by decide +kernel
theorem dL_law_671 : decode cL_law 671 = .ok (.iaload, 1) := by decide +kernel
theorem dL_law_672 : decode cL_law 672 = .ok (.invokevirtual 78, 3) := by decide +kernel
theorem dL_law_675 : decode cL_law 675 = .ok (.aload_n 2, 1) := by decide +kernel
theorem dL_law_676 : decode cL_law 676 = .ok (.aload_n 0, 1) := by decide +kernel
theorem dL_law_677 : decode cL_law 677 = .ok (.iload 4, 2) := by decide +kernel
theorem dL_law_679 : decode cL_law 679 = .ok (.iconst 1, 1) := by decide +kernel
theorem dL_law_680 : decode cL_law 680 = .ok (.iadd, 1) := by decide +kernel
theorem dL_law_681 : decode cL_law 681 = .ok (.iaload, 1) := by decide +kernel
theorem dL_law_682 : decode cL_law 682 = .ok (.invokevirtual 81, 3) := by decide +kernel
theorem dL_law_685 : decode cL_law 685 = .ok (.if_icmp .eq 194, 3) := by decide +kernel
theorem dL_law_688 : decode cL_law 688 = .ok (.iconst 0, 1) := by decide +kernel
theorem dL_law_689 : decode cL_law 689 = .ok (.ireturn, 1) := by decide +kernel
theorem dL_law_690 : decode cL_law 690 = .ok (.aload_n 1, 1) := by decide +kernel
theorem dL_law_691 : decode cL_law 691 = .ok (.invokevirtual 82, 3) := by decide +kernel
theorem dL_law_694 : decode cL_law 694 = .ok (.aload_n 2, 1) := by decide +kernel
theorem dL_law_695 : decode cL_law 695 = .ok (.invokevirtual 85, 3) := by decide +kernel
theorem dL_law_698 : decode cL_law 698 = .ok (.if_icmp .eq 181, 3) := by decide +kernel
theorem dL_law_701 : decode cL_law 701 = .ok (.iconst 0, 1) := by decide +kernel
theorem dL_law_702 : decode cL_law 702 = .ok (.ireturn, 1) := by decide +kernel
theorem dL_law_703 : decode cL_law 703 = .ok (.aload_n 1, 1) := by decide +kernel
theorem dL_law_704 : decode cL_law 704 = .ok (.aload_n 0, 1) := by decide +kernel
theorem dL_law_705 : decode cL_law 705 = .ok (.iload 4, 2) := by decide +kernel
theorem dL_law_707 : decode cL_law 707 = .ok (.iconst 1, 1) := by decide +kernel
theorem dL_law_708 : decode cL_law 708 = .ok (.iadd, 1) := by decide +kernel
theorem dL_law_709 : decode cL_law 709 = .ok (.iaload, 1) := by decide +kernel
theorem dL_law_710 : decode cL_law 710 = .ok (.invokevirtual 86, 3) := by decide +kernel
theorem dL_law_713 : decode cL_law 713 = .ok (.aload_n 2, 1) := by decide +kernel
theorem dL_law_714 : decode cL_law 714 = .ok (.aload_n 0, 1) := by decide +kernel
theorem dL_law_715 : decode cL_law 715 = .ok (.iload 4, 2) := by decide +kernel
theorem dL_law_717 : decode cL_law 717 = .ok (.iconst 1, 1) := by decide +kernel
theorem dL_law_718 : decode cL_law 718 = .ok (.iadd, 1) := by decide +kernel
theorem dL_law_719 : decode cL_law 719 = .ok (.iaload, 1) := by decide +kernel
theorem dL_law_720 : decode cL_law 720 = .ok (.invokevirtual 89, 3) := by decide +kernel
theorem dL_law_723 : decode cL_law 723 = .ok (.if_icmp .eq 156, 3) := by decide +kernel
theorem dL_law_726 : decode cL_law 726 = .ok (.iconst 0, 1) := by decide +kernel
theorem dL_law_727 : decode cL_law 727 = .ok (.ireturn, 1) := by decide +kernel
theorem dL_law_728 : decode cL_law 728 = .ok (.aload_n 1, 1) := by decide +kernel
theorem dL_law_729 : decode cL_law 729 = .ok (.aload_n 0, 1) := by decide +kernel
theorem dL_law_730 : decode cL_law 730 = .ok (.iload 4, 2) := by decide +kernel
theorem dL_law_732 : decode cL_law 732 = .ok (.iconst 1, 1) := by decide +kernel
theorem dL_law_733 : decode cL_law 733 = .ok (.iadd, 1) := by decide +kernel
theorem dL_law_734 : decode cL_law 734 = .ok (.iaload, 1) := by decide +kernel
theorem dL_law_735 : decode cL_law 735 = .ok (.invokevirtual 90, 3) := by decide +kernel
theorem dL_law_738 : decode cL_law 738 = .ok (.aload_n 2, 1) := by decide +kernel
theorem dL_law_739 : decode cL_law 739 = .ok (.aload_n 0, 1) := by decide +kernel
theorem dL_law_740 : decode cL_law 740 = .ok (.iload 4, 2) := by decide +kernel
theorem dL_law_742 : decode cL_law 742 = .ok (.iconst 1, 1) := by decide +kernel
theorem dL_law_743 : decode cL_law 743 = .ok (.iadd, 1) := by decide +kernel
theorem dL_law_744 : decode cL_law 744 = .ok (.iaload, 1) := by decide +kernel
theorem dL_law_745 : decode cL_law 745 = .ok (.invokevirtual 94, 3) := by decide +kernel
theorem dL_law_748 : decode cL_law 748 = .ok (.lcmp, 1) := by decide +kernel
theorem dL_law_749 : decode cL_law 749 = .ok (.ifCond .eq 130, 3) := by decide +kernel
theorem dL_law_752 : decode cL_law 752 = .ok (.iconst 0, 1) := by decide +kernel
theorem dL_law_753 : decode cL_law 753 = .ok (.ireturn, 1) := by decide +kernel
theorem dL_law_754 : decode cL_law 754 = .ok (.aload_n 1, 1) := by decide +kernel
theorem dL_law_755 : decode cL_law 755 = .ok (.aload_n 0, 1) := by decide +kernel
theorem dL_law_756 : decode cL_law 756 = .ok (.iload 4, 2) := by decide +kernel
theorem dL_law_758 : decode cL_law 758 = .ok (.iconst 1, 1) := by decide +kernel
theorem dL_law_759 : decode cL_law 759 = .ok (.iadd, 1) := by decide +kernel
theorem dL_law_760 : decode cL_law 760 = .ok (.iaload, 1) := by decide +kernel
theorem dL_law_761 : decode cL_law 761 = .ok (.invokevirtual 95, 3) := by decide +kernel
theorem dL_law_764 : decode cL_law 764 = .ok (.aload_n 2, 1) := by decide +kernel
theorem dL_law_765 : decode cL_law 765 = .ok (.aload_n 0, 1) := by decide +kernel
theorem dL_law_766 : decode cL_law 766 = .ok (.iload 4, 2) := by decide +kernel
theorem dL_law_768 : decode cL_law 768 = .ok (.iconst 1, 1) := by decide +kernel
theorem dL_law_769 : decode cL_law 769 = .ok (.iadd, 1) := by decide +kernel
theorem dL_law_770 : decode cL_law 770 = .ok (.iaload, 1) := by decide +kernel
theorem dL_law_771 : decode cL_law 771 = .ok (.invokevirtual 98, 3) := by decide +kernel
theorem dL_law_774 : decode cL_law 774 = .ok (.if_icmp .eq 105, 3) := by decide +kernel
theorem dL_law_777 : decode cL_law 777 = .ok (.iconst 0, 1) := by decide +kernel
theorem dL_law_778 : decode cL_law 778 = .ok (.ireturn, 1) := by decide +kernel
theorem dL_law_779 : decode cL_law 779 = .ok (.aload_n 1, 1) := by decide +kernel
theorem dL_law_780 : decode cL_law 780 = .ok (.aload_n 0, 1) := by decide +kernel
theorem dL_law_781 : decode cL_law 781 = .ok (.iload 4, 2) := by decide +kernel
theorem dL_law_783 : decode cL_law 783 = .ok (.iconst 1, 1) := by decide +kernel
theorem dL_law_784 : decode cL_law 784 = .ok (.iadd, 1) := by decide +kernel
theorem dL_law_785 : decode cL_law 785 = .ok (.iaload, 1) := by decide +kernel
theorem dL_law_786 : decode cL_law 786 = .ok (.invokevirtual 99, 3) := by decide +kernel
theorem dL_law_789 : decode cL_law 789 = .ok (.aload_n 2, 1) := by decide +kernel
theorem dL_law_790 : decode cL_law 790 = .ok (.aload_n 0, 1) := by decide +kernel
theorem dL_law_791 : decode cL_law 791 = .ok (.iload 4, 2) := by decide +kernel
theorem dL_law_793 : decode cL_law 793 = .ok (.iconst 1, 1) := by decide +kernel
theorem dL_law_794 : decode cL_law 794 = .ok (.iadd, 1) := by decide +kernel
theorem dL_law_795 : decode cL_law 795 = .ok (.iaload, 1) := by decide +kernel
theorem dL_law_796 : decode cL_law 796 = .ok (.invokevirtual 102, 3) := by decide +kernel
theorem dL_law_799 : decode cL_law 799 = .ok (.if_icmp .eq 80, 3) := by decide +kernel
theorem dL_law_802 : decode cL_law 802 = .ok (.iconst 0, 1) := by decide +kernel
theorem dL_law_803 : decode cL_law 803 = .ok (.ireturn, 1) := by decide +kernel
theorem dL_law_804 : decode cL_law 804 = .ok (.aload_n 1, 1) := by decide +kernel
theorem dL_law_805 : decode cL_law 805 = .ok (.aload_n 0, 1) := by decide +kernel
theorem dL_law_806 : decode cL_law 806 = .ok (.iload 4, 2) := by decide +kernel
theorem dL_law_808 : decode cL_law 808 = .ok (.iconst 1, 1) := by decide +kernel
theorem dL_law_809 : decode cL_law 809 = .ok (.iadd, 1) := by decide +kernel
theorem dL_law_810 : decode cL_law 810 = .ok (.iaload, 1) := by decide +kernel
theorem dL_law_811 : decode cL_law 811 = .ok (.aload_n 0, 1) := by decide +kernel
theorem dL_law_812 : decode cL_law 812 = .ok (.iload 4, 2) := by decide +kernel
theorem dL_law_814 : decode cL_law 814 = .ok (.iconst 2, 1) := by decide +kernel
theorem dL_law_815 : decode cL_law 815 = .ok (.iadd, 1) := by decide +kernel
theorem dL_law_816 : decode cL_law 816 = .ok (.iaload, 1) := by decide +kernel
theorem dL_law_817 : decode cL_law 817 = .ok (.invokevirtual 103, 3) := by decide +kernel
theorem dL_law_820 : decode cL_law 820 = .ok (.aload_n 2, 1) := by decide +kernel
theorem dL_law_821 : decode cL_law 821 = .ok (.aload_n 0, 1) := by decide +kernel
theorem dL_law_822 : decode cL_law 822 = .ok (.iload 4, 2) := by decide +kernel
theorem dL_law_824 : decode cL_law 824 = .ok (.iconst 1, 1) := by decide +kernel
theorem dL_law_825 : decode cL_law 825 = .ok (.iadd, 1) := by decide +kernel
theorem dL_law_826 : decode cL_law 826 = .ok (.iaload, 1) := by decide +kernel
theorem dL_law_827 : decode cL_law 827 = .ok (.aload_n 0, 1) := by decide +kernel
theorem dL_law_828 : decode cL_law 828 = .ok (.iload 4, 2) := by decide +kernel
theorem dL_law_830 : decode cL_law 830 = .ok (.iconst 2, 1) := by decide +kernel
theorem dL_law_831 : decode cL_law 831 = .ok (.iadd, 1) := by decide +kernel
theorem dL_law_832 : decode cL_law 832 = .ok (.iaload, 1) := by decide +kernel
theorem dL_law_833 : decode cL_law 833 = .ok (.invokevirtual 106, 3) := by decide +kernel
theorem dL_law_836 : decode cL_law 836 = .ok (.if_icmp .eq 43, 3) := by decide +kernel
theorem dL_law_839 : decode cL_law 839 = .ok (.iconst 0, 1) := by decide +kernel
theorem dL_law_840 : decode cL_law 840 = .ok (.ireturn, 1) := by decide +kernel
theorem dL_law_841 : decode cL_law 841 = .ok (.aload_n 1, 1) := by decide +kernel
theorem dL_law_842 : decode cL_law 842 = .ok (.aload_n 0, 1) := by decide +kernel
theorem dL_law_843 : decode cL_law 843 = .ok (.iload 4, 2) := by decide +kernel
theorem dL_law_845 : decode cL_law 845 = .ok (.iconst 1, 1) := by decide +kernel
theorem dL_law_846 : decode cL_law 846 = .ok (.iadd, 1) := by decide +kernel
theorem dL_law_847 : decode cL_law 847 = .ok (.iaload, 1) := by decide +kernel
theorem dL_law_848 : decode cL_law 848 = .ok (.invokevirtual 107, 3) := by decide +kernel
theorem dL_law_851 : decode cL_law 851 = .ok (.aload_n 2, 1) := by decide +kernel
theorem dL_law_852 : decode cL_law 852 = .ok (.aload_n 0, 1) := by decide +kernel
theorem dL_law_853 : decode cL_law 853 = .ok (.iload 4, 2) := by decide +kernel
theorem dL_law_855 : decode cL_law 855 = .ok (.iconst 1, 1) := by decide +kernel
theorem dL_law_856 : decode cL_law 856 = .ok (.iadd, 1) := by decide +kernel
theorem dL_law_857 : decode cL_law 857 = .ok (.iaload, 1) := by decide +kernel
theorem dL_law_858 : decode cL_law 858 = .ok (.invokevirtual 110, 3) := by decide +kernel
theorem dL_law_861 : decode cL_law 861 = .ok (.if_icmp .eq 18, 3) := by decide +kernel
theorem dL_law_864 : decode cL_law 864 = .ok (.iconst 0, 1) := by decide +kernel
theorem dL_law_865 : decode cL_law 865 = .ok (.ireturn, 1) := by decide +kernel
theorem dL_law_866 : decode cL_law 866 = .ok (.aload_n 1, 1) := by decide +kernel
theorem dL_law_867 : decode cL_law 867 = .ok (.invokevirtual 111, 3) := by decide +kernel
theorem dL_law_870 : decode cL_law 870 = .ok (.aload_n 2, 1) := by decide +kernel
theorem dL_law_871 : decode cL_law 871 = .ok (.invokevirtual 114, 3) := by decide +kernel
theorem dL_law_874 : decode cL_law 874 = .ok (.if_icmp .eq 5, 3) := by decide +kernel
theorem dL_law_877 : decode cL_law 877 = .ok (.iconst 0, 1) := by decide +kernel
theorem dL_law_878 : decode cL_law 878 = .ok (.ireturn, 1) := by decide +kernel
theorem dL_law_879 : decode cL_law 879 = .ok (.iinc 4 6, 3) := by decide +kernel
theorem dL_law_882 : decode cL_law 882 = .ok (.goto (-859), 3) := by decide +kernel
theorem dL_law_885 : decode cL_law 885 = .ok (.iconst 1, 1) := by decide +kernel
theorem dL_law_886 : decode cL_law 886 = .ok (.ireturn, 1) := by decide +kernel
end
section
/-! the classes whose objects the worlds hold; the words of nest mates; contracts of two kinds: pu (nothing is written) and mu (cells of A are written, none is made) -/
abbrev kC : List vw_C := [(RX0, TX0, 3), (RX1, TX1, 5), (RX2, TX2, 5), (RX3, TX3, 4), (RX4, TX4, 6), (RX5, TX5, 5), (RX6, TX6, 23)]
abbrev tyC (cI cJ : ClassId) : List (ClassId × FieldType) := [(cI, .int), (cJ, .long)]
def nx (U : State) : Prop :=
  va_Nw (.methodLinkNest RX5 9 yX4_init RX5) U ∧ va_Nw (.methodLinkNest RX5 18 yX2_init RX5) U ∧ va_Nw (.methodLinkNest RX5 25 yX0_init RX5) U ∧ va_Nw (.methodLinkNest RX5 32 yX1_init RX5) U ∧ va_Nw (.methodLinkNest RX5 39 yX3_init RX5) U ∧
  va_Nw (.fieldLinkNest RX5 162 "SortingLine$Tally" "worked" "I" RX5) U ∧ va_Nw (.fieldLinkNest RX5 166 "SortingLine$Tally" "passed" "I" RX5) U ∧ va_Nw (.fieldLinkNest RX5 169 "SortingLine$Tally" "failed" "I" RX5) U ∧ va_Nw (.methodLinkNest RX4 40 yX5_alsoIs RX5) U
theorem nx.warm {s U : State} (hW : s.WarmedH U.vm) (h : nx s) : nx U := by
  obtain ⟨h1, h2, h3, h4, h5, h6, h7, h8, h9⟩ := h
  exact ⟨h1.warmM hW, h2.warmM hW, h3.warmM hW, h4.warmM hW, h5.warmM hW, h6.warmF hW, h7.warmF hW, h8.warmF hW, h9.warmM hW⟩
theorem nx.same {s U : State} (hv : s.vm = U.vm) (h : nx s) : nx U := by
  obtain ⟨h1, h2, h3, h4, h5, h6, h7, h8, h9⟩ := h
  exact ⟨h1.same rfl hv, h2.same rfl hv, h3.same rfl hv, h4.same rfl hv, h5.same rfl hv, h6.same rfl hv, h7.same rfl hv, h8.same rfl hv, h9.same rfl hv⟩
def wd_K (D : va_G) (cI cJ : ClassId) (U : State) : Prop := va_K D kC (tyC cI cJ) U ∧ nx U
theorem wd_K.warm {D : va_G} {cI cJ : ClassId} {s U : State} (hW : s.WarmedH U.vm) (h : wd_K D cI cJ s) : wd_K D cI cJ U := ⟨va_K.moved hW.alike h.1, h.2.warm hW⟩
def wd_P (D : va_G) (cI cJ : ClassId) (vs : List Value) (ws : va_W) : Array Value → State → Prop := va_Pc vs (fun U => va_P D kC ws U.heap ∧ wd_K D cI cJ U)
theorem wd_blind (D : va_G) (cI cJ : ClassId) (vs : List Value) (ws : va_W) : FrameBlind (wd_P D cI cJ vs ws) := fun a U g mk q => by
  obtain ⟨q0, qP, qK, qn⟩ := q
  exact ⟨q0, qP, va_K.moved (u := U) (U := U.calling g mk a) (Vm.Alike.refl U.vm) qK, nx.same (s := U) (U := U.calling g mk a) rfl qn⟩
theorem wd_preV {D : va_G} {cI cJ : ClassId} {ws : va_W} {s : State} {H : Heap} {q0 : Nat} {ci b : Nat} {q : vw_C} {fs : List Value} {As : List Value} (hP : va_P D kC ws H) (hK : wd_K D cI cJ s) (hc : kC[ci]? = some q) (he : ws[q0]? = some (b, .inr (ci, fs))) : PreV s H q.1 b (wd_P D cI cJ (.ref b :: As) ws) As :=
  ⟨wd_blind D cI cJ _ ws, va_recv hK.1 hP hc he, fun U hU hW => ⟨rfl, by rw [hU]; exact hP, hK.warm hW⟩⟩
theorem wd_preS {D : va_G} {cI cJ : ClassId} {ws : va_W} {s : State} {H : Heap} {As : List Value} (hP : va_P D kC ws H) (hK : wd_K D cI cJ s) : PreS s H (wd_P D cI cJ As ws) As :=
  ⟨wd_blind D cI cJ _ ws, fun U hU hW => ⟨rfl, by rw [hU]; exact hP, hK.warm hW⟩⟩
def bI (b : Bool) : Int32 := if b then 1 else 0
def pu_Q (v : Option Value) : Array Value → State → Outcome → State → Prop := fun _ st oc t => oc = .returned v ∧ t.heap = st.heap
def mu_Q (D : va_G) (A : Nat → Prop) (v : Option Value) (ws : va_W) : Array Value → State → Outcome → State → Prop := fun _ st oc t => oc = .returned v ∧ va_P D kC ws t.heap ∧ va_F A st t
def ex_Q (D : va_G) (A : Nat → Prop) (P : Option Value → va_W → Prop) : Array Value → State → Outcome → State → Prop := fun _ st oc t => ∃ (v : Option Value) (ws : va_W), oc = .returned v ∧ P v ws ∧ va_P D kC ws t.heap ∧ va_F A st t
section BaseA
variable {p : Program} {l : Launch} {e : Env} {R : Room} {s : State} {m : MethodId} {args : Array Value} {below : List Frame} {meth : Method} {c : Code} {H : Heap} {locs : List Loc} {cells slots : Nat} {Q : State → Prop}
variable {pc : Nat} {ls : Array Slot} {rest st0 : List Value} {a : Array Value} {A0 A1 : Nat → Prop} {H0 : Heap} {D : va_G}
theorem tp_i {x y : Int32} (h : x = y) (k : W p l e R s m args below meth c H locs cells slots Q (F0 m pc ls (.int y :: rest))) : W p l e R s m args below meth c H locs cells slots Q (F0 m pc ls (.int x :: rest)) := h ▸ k
theorem tp_l {x y : Int64} (h : x = y) (k : W p l e R s m args below meth c H locs cells slots Q (F0 m pc ls (.long y :: rest))) : W p l e R s m args below meth c H locs cells slots Q (F0 m pc ls (.long x :: rest)) := h ▸ k
theorem pu_call {v : Option Value} (hr : va_Run p l e R s m args below meth c H locs cells slots 0 0 (F0 m pc ls st0) rest (pu_Q v a) (fun _ => False)) (kk : W p l e R s m args below meth c H locs cells slots Q (F0 m (pc + 3) ls (v.toList ++ rest))) : W p l e R s m args below meth c H locs cells slots Q (F0 m pc ls st0) := by
  intro T hT X
  obtain ⟨v', st₀, t, T', L, h0, X', hL, e1, e2, ⟨hv, hh⟩, st⟩ := hr T hT X
  cases hv
  have hL0 : L = [] := List.eq_nil_iff_forall_not_mem.mpr (fun q hq => hL q hq)
  subst hL0
  rw [List.append_nil] at X'
  obtain ⟨t2, a1, b1⟩ := kk T' (by rw [e1, hh, h0]) X'
  exact ⟨t2, st t2 a1, b1⟩
theorem pu_calli {r : Int32} (hr : va_Run p l e R s m args below meth c H locs cells slots 0 0 (F0 m pc ls st0) rest (pu_Q (some (.int r)) a) (fun _ => False)) (kk : W p l e R s m args below meth c H locs cells slots Q (F0 m (pc + 3) ls (.int r :: rest))) : W p l e R s m args below meth c H locs cells slots Q (F0 m pc ls st0) := pu_call hr kk
theorem pu_calll {r : Int64} (hr : va_Run p l e R s m args below meth c H locs cells slots 0 0 (F0 m pc ls st0) rest (pu_Q (some (.long r)) a) (fun _ => False)) (kk : W p l e R s m args below meth c H locs cells slots Q (F0 m (pc + 3) ls (.long r :: rest))) : W p l e R s m args below meth c H locs cells slots Q (F0 m pc ls st0) := pu_call hr kk
theorem pu_callb {b : Bool} (hr : va_Run p l e R s m args below meth c H locs cells slots 0 0 (F0 m pc ls st0) rest (pu_Q (some (.int (bI b))) a) (fun _ => False)) (kt : b = true → W p l e R s m args below meth c H locs cells slots Q (F0 m (pc + 3) ls (.int 1 :: rest))) (kf : b = false → W p l e R s m args below meth c H locs cells slots Q (F0 m (pc + 3) ls (.int 0 :: rest))) : W p l e R s m args below meth c H locs cells slots Q (F0 m pc ls st0) := by
  cases b with
  | true => exact pu_call hr (kt rfl)
  | false => exact pu_call hr (kf rfl)
theorem ex_call {P : Option Value → va_W → Prop} (hr : va_Run p l e R s m args below meth c H locs cells slots 0 0 (F0 m pc ls st0) rest (ex_Q D A1 P a) A1) (hS : va_S A0 H0 H locs) (hA : ∀ q, A1 q → A0 q)
    (kk : ∀ (v : Option Value) (ws : va_W) (H1 : Heap) (locs1 : List Loc), P v ws → va_P D kC ws H1 → va_S A0 H0 H1 locs1 → (∀ q : Nat, q < H.size → ¬ A1 q → H1[q]? = H[q]?) → W p l e R s m args below meth c H1 locs1 cells slots Q (F0 m (pc + 3) ls (v.toList ++ rest))) : W p l e R s m args below meth c H locs cells slots Q (F0 m pc ls st0) := by
  intro T hT X
  obtain ⟨v', st₀, t, T', L, h0, X', hL, e1, e2, ⟨v, ws, hv, hp, hP, hz, hk⟩, st⟩ := hr T hT X
  cases hv
  rw [h0] at hz hk
  obtain ⟨t2, a1, b1⟩ := kk v' ws T'.heap (locs ++ L) hp (by rw [e1]; exact hP) ⟨Nat.le_trans hS.1 (by rw [e1]; exact hz), fun q h1 h2 => by rw [e1, hk q (Nat.lt_of_lt_of_le h1 hS.1) (fun z => h2 (hA q z))]; exact hS.2.1 q h1 h2, fun q hq => by
      rcases List.mem_append.mp hq with h | h
      · exact hS.2.2 q h
      · exact hA _ (hL q h)⟩ (fun q h1 h2 => by rw [e1]; exact hk q h1 h2) T' rfl X'
  exact ⟨t2, st t2 a1, b1⟩
theorem mu_call {v : Option Value} {ws : va_W} (hr : va_Run p l e R s m args below meth c H locs cells slots 0 0 (F0 m pc ls st0) rest (mu_Q D A0 v ws a) A0) (hS : va_S A0 H0 H locs)
    (kk : ∀ (H1 : Heap) (locs1 : List Loc), va_P D kC ws H1 → va_S A0 H0 H1 locs1 → W p l e R s m args below meth c H1 locs1 cells slots Q (F0 m (pc + 3) ls (v.toList ++ rest))) : W p l e R s m args below meth c H locs cells slots Q (F0 m pc ls st0) := by
  refine ex_call (A1 := A0) (P := fun v' ws' => v' = v ∧ ws' = ws) (D := D) (a := a) (fun T hT X => ?_) hS (fun _ h => h) (fun v' ws' H1 locs1 hp hP hS _ => by
    obtain ⟨rfl, rfl⟩ := hp
    exact kk H1 locs1 hP hS)
  obtain ⟨v', st₀, t, T', L, h0, X', hL, e1, e2, ⟨hv, hP, hF⟩, st⟩ := hr T hT X
  exact ⟨v', st₀, t, T', L, h0, X', hL, e1, e2, ⟨v, ws, hv, ⟨rfl, rfl⟩, hP, hF⟩, st⟩
theorem mu_calli {r : Int32} {ws : va_W} (hr : va_Run p l e R s m args below meth c H locs cells slots 0 0 (F0 m pc ls st0) rest (mu_Q D A0 (some (.int r)) ws a) A0) (hS : va_S A0 H0 H locs)
    (kk : ∀ (H1 : Heap) (locs1 : List Loc), va_P D kC ws H1 → va_S A0 H0 H1 locs1 → W p l e R s m args below meth c H1 locs1 cells slots Q (F0 m (pc + 3) ls (.int r :: rest))) : W p l e R s m args below meth c H locs cells slots Q (F0 m pc ls st0) := mu_call hr hS kk
theorem mu_calll {r : Int64} {ws : va_W} (hr : va_Run p l e R s m args below meth c H locs cells slots 0 0 (F0 m pc ls st0) rest (mu_Q D A0 (some (.long r)) ws a) A0) (hS : va_S A0 H0 H locs)
    (kk : ∀ (H1 : Heap) (locs1 : List Loc), va_P D kC ws H1 → va_S A0 H0 H1 locs1 → W p l e R s m args below meth c H1 locs1 cells slots Q (F0 m (pc + 3) ls (.long r :: rest))) : W p l e R s m args below meth c H locs cells slots Q (F0 m pc ls st0) := mu_call hr hS kk
theorem mu_callv {ws : va_W} (hr : va_Run p l e R s m args below meth c H locs cells slots 0 0 (F0 m pc ls st0) rest (mu_Q D A0 none ws a) A0) (hS : va_S A0 H0 H locs)
    (kk : ∀ (H1 : Heap) (locs1 : List Loc), va_P D kC ws H1 → va_S A0 H0 H1 locs1 → W p l e R s m args below meth c H1 locs1 cells slots Q (F0 m (pc + 3) ls rest)) : W p l e R s m args below meth c H locs cells slots Q (F0 m pc ls st0) := mu_call hr hS kk
end BaseA
section BaseB
variable {p : Program} {l : Launch} {e : Env} {R : Room} {s : State} {m : MethodId} {args : Array Value} {below : List Frame} {meth : Method} {c : Code} {H : Heap} {locs : List Loc} {cells slots : Nat} {Q : State → Prop}
variable {cc : ByteArray} {pc : Nat} {ls : Array Slot} {rest : List Value} {D : va_G} {A : Nat → Prop} {a : Nat} {ws : va_W} {H0 : Heap} {cI cJ : ClassId}
theorem ga_ild (hx : p.tables.exec = Jvm.exec) (hb : c.code = cc) (hK : wd_K D cI cJ s) (hP : va_P D kC ws H) (q0 : Nat) {N : Nat} {f : Nat → Int32} (ha : ws[q0]? = some (a, .inl (cI, N, .inl f))) {i : Int32} (k : Nat) (hi : i = nI k) (hk : k < N) (hN : N < 2 ^ 31) (hdg : decode cc pc = .ok (.iaload, 1))
    (kk : W p l e R s m args below meth c H locs cells slots Q (F0 m (pc + 1) ls (.int (f k) :: rest))) : W p l e R s m args below meth c H locs cells slots Q (F0 m pc ls (.int i :: .ref a :: rest)) := by
  subst hi
  refine va_iald hx hb hK.1 hP q0 0 ha rfl (vp_in_nI hk hN) hdg ?_
  rw [nI_clamp (Nat.lt_trans hk hN)]
  exact kk
theorem ga_lld (hx : p.tables.exec = Jvm.exec) (hb : c.code = cc) (hK : wd_K D cI cJ s) (hP : va_P D kC ws H) (q0 : Nat) {N : Nat} {f : Nat → Int64} (ha : ws[q0]? = some (a, .inl (cJ, N, .inr (.inl f)))) {i : Int32} (k : Nat) (hi : i = nI k) (hk : k < N) (hN : N < 2 ^ 31) (hdg : decode cc pc = .ok (.laload, 1))
    (kk : W p l e R s m args below meth c H locs cells slots Q (F0 m (pc + 1) ls (.long (f k) :: rest))) : W p l e R s m args below meth c H locs cells slots Q (F0 m pc ls (.int i :: .ref a :: rest)) := by
  subst hi
  refine va_lald hx hb hK.1 hP q0 1 ha rfl (vp_in_nI hk hN) hdg ?_
  rw [nI_clamp (Nat.lt_trans hk hN)]
  exact kk
theorem ga_ist (hx : p.tables.exec = Jvm.exec) (hb : c.code = cc) (hK : wd_K D cI cJ s) (hP : va_P D kC ws H) (hD : va_D A ws) (hS : va_S A H0 H locs) (q0 : Nat) {N : Nat} {f : Nat → Int32} (ha : ws[q0]? = some (a, .inl (cI, N, .inl f))) {i x : Int32} (k : Nat) (hi : i = nI k) (hk : k < N) (hN : N < 2 ^ 31) (hdg : decode cc pc = .ok (.iastore, 1))
    (kk : ∀ (H1 : Heap) (locs1 : List Loc), va_P D kC (ws.set q0 (a, .inl (cI, N, .inl (upd f k x)))) H1 → va_S A H0 H1 locs1 → W p l e R s m args below meth c H1 locs1 cells slots Q (F0 m (pc + 1) ls rest)) : W p l e R s m args below meth c H locs cells slots Q (F0 m pc ls (.int x :: .int i :: .ref a :: rest)) := by
  subst hi
  refine va_iast hx hb hK.1 hP hD hS q0 0 ha rfl (vp_in_nI hk hN) hdg (fun H1 locs1 hP hD hS => ?_)
  rw [nI_clamp (Nat.lt_trans hk hN)] at hP
  exact kk H1 locs1 hP hS
theorem ga_lst (hx : p.tables.exec = Jvm.exec) (hb : c.code = cc) (hK : wd_K D cI cJ s) (hP : va_P D kC ws H) (hD : va_D A ws) (hS : va_S A H0 H locs) (q0 : Nat) {N : Nat} {f : Nat → Int64} (ha : ws[q0]? = some (a, .inl (cJ, N, .inr (.inl f)))) {i : Int32} {x : Int64} (k : Nat) (hi : i = nI k) (hk : k < N) (hN : N < 2 ^ 31) (hdg : decode cc pc = .ok (.lastore, 1))
    (kk : ∀ (H1 : Heap) (locs1 : List Loc), va_P D kC (ws.set q0 (a, .inl (cJ, N, .inr (.inl (vp_updL f k x))))) H1 → va_S A H0 H1 locs1 → W p l e R s m args below meth c H1 locs1 cells slots Q (F0 m (pc + 1) ls rest)) : W p l e R s m args below meth c H locs cells slots Q (F0 m pc ls (.long x :: .int i :: .ref a :: rest)) := by
  subst hi
  refine va_last hx hb hK.1 hP hD hS q0 1 ha rfl (vp_in_nI hk hN) hdg (fun H1 locs1 hP hD hS => ?_)
  rw [nI_clamp (Nat.lt_trans hk hN)] at hP
  exact kk H1 locs1 hP hS
theorem ga_newI (hx : p.tables.exec = Jvm.exec) (hb : c.code = cc) (harr : (Cond.arrayClass .int).before args s = true) (hK : wd_K D cI cJ s) (hP : va_P D kC ws H) (hD : va_D A ws) (hS : va_S A H0 H locs) (hA : ∀ q, H0.size ≤ q → A q)
    {n : Int32} {N : Nat} (hn : ¬ n < 0) (hN : n.toNatClampNeg = N) (hby : N * componentBytes .int ≤ 536870912) (hcells : cells + 1 ≤ R.cells) (hslots : slots + N ≤ R.slots) (hdg : decode cc pc = .ok (.newarray .int, 2))
    (kk : ∀ (q : Nat) (H1 : Heap), va_P D kC (ws ++ [(q, .inl (cI, N, .inl (fun _ => 0)))]) H1 → va_D A (ws ++ [(q, .inl (cI, N, .inl (fun _ => 0)))]) → va_S A H0 H1 locs →
      W p l e R s m args below meth c H1 locs (cells + 1) (slots + N) Q (F0 m (pc + 2) ls (.ref q :: rest))) : W p l e R s m args below meth c H locs cells slots Q (F0 m pc ls (.int n :: rest)) := by
  refine va_newa hx hb (atype := .int) harr rfl hK.1 hP hD hS hA (a0 := (N, .inl (fun _ => 0))) (fun cA => rfl) hn hN hby hcells hslots hdg (fun q cA H1 hK1 hP1 hD1 hS1 => ?_)
  have h1 := (hK1.2 2 (cA, .int) rfl).2
  have h2 := (hK1.2 0 (cI, .int) rfl).2
  have h3 : cA = cI := Option.some.inj (Eq.trans (Eq.symm h1) h2)
  subst h3
  exact kk q H1 hP1 hD1 hS1
theorem ga_newJ (hx : p.tables.exec = Jvm.exec) (hb : c.code = cc) (harr : (Cond.arrayClass .long).before args s = true) (hK : wd_K D cI cJ s) (hP : va_P D kC ws H) (hD : va_D A ws) (hS : va_S A H0 H locs) (hA : ∀ q, H0.size ≤ q → A q)
    {n : Int32} {N : Nat} (hn : ¬ n < 0) (hN : n.toNatClampNeg = N) (hby : N * componentBytes .long ≤ 536870912) (hcells : cells + 1 ≤ R.cells) (hslots : slots + N ≤ R.slots) (hdg : decode cc pc = .ok (.newarray .long, 2))
    (kk : ∀ (q : Nat) (H1 : Heap), va_P D kC (ws ++ [(q, .inl (cJ, N, .inr (.inl (fun _ => 0))))]) H1 → va_D A (ws ++ [(q, .inl (cJ, N, .inr (.inl (fun _ => 0))))]) → va_S A H0 H1 locs →
      W p l e R s m args below meth c H1 locs (cells + 1) (slots + N) Q (F0 m (pc + 2) ls (.ref q :: rest))) : W p l e R s m args below meth c H locs cells slots Q (F0 m pc ls (.int n :: rest)) := by
  refine va_newa hx hb (atype := .long) harr rfl hK.1 hP hD hS hA (a0 := (N, .inr (.inl (fun _ => 0)))) (fun cA => rfl) hn hN hby hcells hslots hdg (fun q cA H1 hK1 hP1 hD1 hS1 => ?_)
  have h1 := (hK1.2 2 (cA, .long) rfl).2
  have h2 := (hK1.2 1 (cJ, .long) rfl).2
  have h3 : cA = cJ := Option.some.inj (Eq.trans (Eq.symm h1) h2)
  subst h3
  exact kk q H1 hP1 hD1 hS1
end BaseB
/-! numbers -/
def p_in (t z : Int32) : Bool := decide (¬ t < 0) && decide (t < z)
theorem p_in_t {t : Int32} {n : Nat} (h : p_in t (nI n) = true) (hn : n < 2 ^ 31) : ∃ j : Nat, j < n ∧ t = nI j := by
  simp only [p_in, Bool.and_eq_true, decide_eq_true_eq] at h
  obtain ⟨j, hj, rfl⟩ := nI_of h.1
  exact ⟨j, (nI_ltI hj hn).mp h.2, rfl⟩
theorem p_in_nI {j n : Nat} (hj : j < n) (hn : n < 2 ^ 31) : p_in (nI j) (nI n) = true := by
  simp only [p_in, Bool.and_eq_true, decide_eq_true_eq]
  exact ⟨nI_pos (Nat.lt_trans hj hn), nI_lt hj hn⟩
theorem p_in_lt {t z : Int32} (h : t < 0) : p_in t z = false := by simp [p_in, h]
theorem p_in_ge {t z : Int32} (h : z ≤ t) : p_in t z = false := by
  have : ¬ t < z := by rw [Int32.lt_iff_toInt_lt]; rw [Int32.le_iff_toInt_le] at h; omega
  simp [p_in, this]
theorem p_in_ok {t z : Int32} (h : ¬ t < 0) (h2 : ¬ z ≤ t) : p_in t z = true := by
  have : t < z := by rw [Int32.lt_iff_toInt_lt]; rw [Int32.le_iff_toInt_le] at h2; omega
  simp [p_in, h, this]
theorem p_in_inv {t z : Int32} (h : p_in t z = true) : ¬ t < 0 ∧ ¬ z ≤ t := by
  simp only [p_in, Bool.and_eq_true, decide_eq_true_eq] at h
  refine ⟨h.1, ?_⟩
  have h2 := h.2
  rw [Int32.le_iff_toInt_le]; rw [Int32.lt_iff_toInt_lt] at h2; omega
/-! the cells of the class: 20, at h 0 .. h 19 -/
abbrev sl_W (cI cJ : ClassId) (h : Nat → Nat) (mT : Int32) (F Wt Sz : Nat → Int32) (Nu : Nat → Int64) (Mb : Nat → Int32) (mS : Int32) (G Wk : Nat → Int32) (To : Nat → Int64) (Sl : Nat → Int32) (Ri : Nat → Int32) (bf bs : Int32) (oT oS oF : Nat → Int32) (an as : Int32) (Fo : Nat → Int32) (wo pa fa : Int32) : va_W :=
  [(h 0, .inr (5, [.ref (h 1), .ref (h 2), .ref (h 3), .ref (h 4), .ref (h 5)])),
   (h 1, .inr (4, [.ref (h 6), .ref (h 7), .ref (h 8), .ref (h 9), .ref (h 10), .int mT])),
   (h 2, .inr (2, [.ref (h 11), .ref (h 12), .ref (h 13), .ref (h 14), .int mS])),
   (h 3, .inr (0, [.ref (h 15), .int bf, .int bs])),
   (h 4, .inr (1, [.ref (h 16), .ref (h 17), .ref (h 18), .int an, .int as])),
   (h 5, .inr (3, [.ref (h 19), .int wo, .int pa, .int fa])),
   (h 6, .inl (cI, 100, .inl F)), (h 7, .inl (cI, 100, .inl Wt)), (h 8, .inl (cI, 100, .inl Sz)), (h 9, .inl (cJ, 800, .inr (.inl Nu))), (h 10, .inl (cI, 800, .inl Mb)),
   (h 11, .inl (cI, 8, .inl G)), (h 12, .inl (cI, 8, .inl Wk)), (h 13, .inl (cJ, 8, .inr (.inl To))), (h 14, .inl (cI, 8, .inl Sl)),
   (h 15, .inl (cI, 40, .inl Ri)), (h 16, .inl (cI, 20, .inl oT)), (h 17, .inl (cI, 20, .inl oS)), (h 18, .inl (cI, 20, .inl oF)), (h 19, .inl (cI, 6, .inl Fo))]
def ad_ok (h : Nat → Nat) (N : Nat) : Prop := ∀ i j : Nat, i < N → j < N → h i = h j → i = j
def ad_A (h : Nat → Nat) (N : Nat) : Nat → Prop := fun q => ∃ k : Nat, k < N ∧ q = h k
theorem ad_D {h : Nat → Nat} {N : Nat} {ws : va_W} (hh : ad_ok h N) (e : ws.map (fun q => q.1) = (List.range N).map h) : va_D (ad_A h N) ws := by
  have at' : ∀ (k : Nat) (q : Nat × va_E), ws[k]? = some q → k < N ∧ q.1 = h k := by
    intro k q hq
    have h1 : (ws.map (fun q => q.1))[k]? = some q.1 := by rw [List.getElem?_map, hq]; rfl
    rw [e, List.getElem?_map] at h1
    have hkN : k < N := by
      rcases Nat.lt_or_ge k N with hlt | hge
      · exact hlt
      · rw [List.getElem?_eq_none (by rw [List.length_range]; exact hge)] at h1; cases h1
    rw [List.getElem?_range hkN] at h1
    exact ⟨hkN, (Option.some.inj h1).symm⟩
  refine ⟨fun i j p q hi hj hpq => ?_, fun k q hq => ?_⟩
  · obtain ⟨a1, a2⟩ := at' i p hi
    obtain ⟨b1, b2⟩ := at' j q hj
    exact hh i j a1 b1 (by rw [← a2, ← b2]; exact hpq)
  · obtain ⟨a1, a2⟩ := at' k q hq
    exact ⟨k, a1, a2⟩
theorem sl_D {cI cJ : ClassId} {h : Nat → Nat} (hh : ad_ok h 20) {mT : Int32} {F Wt Sz : Nat → Int32} {Nu : Nat → Int64} {Mb : Nat → Int32} {mS : Int32} {G Wk : Nat → Int32} {To : Nat → Int64} {Sl : Nat → Int32} {Ri : Nat → Int32} {bf bs : Int32} {oT oS oF : Nat → Int32} {an as : Int32} {Fo : Nat → Int32} {wo pa fa : Int32} : va_D (ad_A h 20) (sl_W cI cJ h mT F Wt Sz Nu Mb mS G Wk To Sl Ri bf bs oT oS oF an as Fo wo pa fa) := ad_D hh rfl
theorem va_P_cast {D : va_G} {ws ws' : va_W} {H : Heap} (hP : va_P D kC ws H) (e : ws = ws') : va_P D kC ws' H := e ▸ hP
end
section
/-! the kinds, keys and numbers that class and reference share; contracts of Things, Stations, Belt, Side, Tally -/
def also (f k : Int32) : Bool := if f = 1 then decide (k = 0) else if f = 2 then decide (k = 0) || (decide (k = 1) || decide (k = 16)) else if f = 3 then decide (k = 16) else if f = 9 then decide (k = 8) else if f = 10 then decide (k = 8) || (decide (k = 9) || decide (k = 11)) else if f = 13 then decide (k = 12) else false
def ko (f k : Int32) : Bool := decide (k = 17) || (decide (k = f) || also f k)
def kyO (f w : Int32) : Int32 := if f = 2 then w * 3 + 1 else w - 7
def nrw (f : Int32) (v : Int64) : Int64 := if f = 4 then v.toInt32.toInt8.toInt32.toInt64 else if f = 5 then v.toInt32.toInt64 else v
def sumN (Nu : Nat → Int64) (o : Nat) : Nat → Int64
  | 0 => 0
  | z + 1 => sumN Nu o z + Nu (o + z)
abbrev z8I (f : Nat → Int32) (o : Nat) (x : Int32) : Nat → Int32 := upd (upd (upd (upd (upd (upd (upd (upd f (o + 0) x) (o + 1) x) (o + 2) x) (o + 3) x) (o + 4) x) (o + 5) x) (o + 6) x) (o + 7) x
abbrev z8L (f : Nat → Int64) (o : Nat) (x : Int64) : Nat → Int64 := vp_updL (vp_updL (vp_updL (vp_updL (vp_updL (vp_updL (vp_updL (vp_updL f (o + 0) x) (o + 1) x) (o + 2) x) (o + 3) x) (o + 4) x) (o + 5) x) (o + 6) x) (o + 7) x
section SubA
variable {l : Launch} {D : va_G} {cI cJ : ClassId} {h : Nat → Nat} {n k f b an as : Nat} {F Wt Sz : Nat → Int32} {Nu : Nat → Int64} {Mb : Nat → Int32} {G Wk : Nat → Int32} {To : Nat → Int64} {Sl : Nat → Int32} {Ri oT oS oF Fo : Nat → Int32} {wo pa fa : Int32}
set_option maxHeartbeats 4000000 in
set_option maxRecDepth 100000 in
theorem c_X4_howMany (hh : ad_ok h 20) : Met l yX4_howMany wsX4_howMany ({ frames := 0, cells := 0, slots := 0, locals := 0 }) (wd_P D cI cJ [.ref (h 1)] (sl_W cI cJ h (nI n) F Wt Sz Nu Mb (nI k) G Wk To Sl Ri (nI f) (nI b) oT oS oF (nI an) (nI as) Fo wo pa fa)) (pu_Q (some (.int (nI n)))) 0 0 (fun _ => False) := by
  refine Met.ofW (cc := cX4_howMany) (maxL := 1) (ret := (some .int)) (by decide) rfl ?_
  intro p e s m args below meth c s₁ B hml hv
  obtain ⟨rfl, hP, hK⟩ := hv
  have hx := B.exec
  have hb := B.bytes
  have hr := B.returns
  have hts := atoms_spec (ws := wsX4_howMany) B.pre
  have hown : s.vm.findClass RX4 = some m.cls := findClass_of_methodNamed B.named
  have hlocks := B.notSynchronized
  have hiX4 : ∀ w ∈ u_ws RX4 TX4 6, w ∈ wsX4_howMany := by decide +kernel
  have kf28 := hts (.fieldLink RX4 28 "SortingLine$Things" "made" "I") (by decide +kernel)
  have hl := lv_entry ([.ref (h 1)]) (n := 1) (Nat.le_of_ble_eq_true rfl)
  rw [lg_entry_eq]
  generalize (lg_sl ([.ref (h 1)]) ++ List.replicate (1 - (lg_sl ([.ref (h 1)])).length) Slot.unset).toArray = ls at hl ⊢
  have hl : lv_has ls 1 [(0, .ref (h 1))] := hl
  refine lv_aload_n hx hb dX4_howMany_0 rfl (lv_at hl 0 rfl) ?_
  refine va_get (D := D) (ci := 4) (v := .int (nI n)) (C := RX4) (T := TX4) (N := 6) hx hb hts hiX4 hown hK.1 hP 1 rfl rfl 5 (by decide) kf28 (fun _ h9 => h9) rfl dX4_howMany_1 ?_
  exact W.iret (v := nI n) hx hb hr (fun t9 ht _ => ⟨congrArg (fun z => Outcome.returned (some (Value.int z))) (rfl), ht⟩) (fun _ h9 => nomatch h9) dX4_howMany_4
set_option maxHeartbeats 4000000 in
set_option maxRecDepth 100000 in
theorem c_X4_areFull (hh : ad_ok h 20) (hn : n ≤ 100) : Met l yX4_areFull wsX4_areFull ({ frames := 0, cells := 0, slots := 0, locals := 0 }) (wd_P D cI cJ [.ref (h 1)] (sl_W cI cJ h (nI n) F Wt Sz Nu Mb (nI k) G Wk To Sl Ri (nI f) (nI b) oT oS oF (nI an) (nI as) Fo wo pa fa)) (pu_Q (some (.int (bI (decide (100 ≤ n)))))) 0 0 (fun _ => False) := by
  refine Met.ofW (cc := cX4_areFull) (maxL := 1) (ret := (some .boolean)) (by decide) rfl ?_
  intro p e s m args below meth c s₁ B hml hv
  obtain ⟨rfl, hP, hK⟩ := hv
  have hx := B.exec
  have hb := B.bytes
  have hr := B.returns
  have hts := atoms_spec (ws := wsX4_areFull) B.pre
  have hown : s.vm.findClass RX4 = some m.cls := findClass_of_methodNamed B.named
  have hlocks := B.notSynchronized
  have hiX4 : ∀ w ∈ u_ws RX4 TX4 6, w ∈ wsX4_areFull := by decide +kernel
  have kf28 := hts (.fieldLink RX4 28 "SortingLine$Things" "made" "I") (by decide +kernel)
  have hl := lv_entry ([.ref (h 1)]) (n := 1) (Nat.le_of_ble_eq_true rfl)
  rw [lg_entry_eq]
  generalize (lg_sl ([.ref (h 1)]) ++ List.replicate (1 - (lg_sl ([.ref (h 1)])).length) Slot.unset).toArray = ls at hl ⊢
  have hl : lv_has ls 1 [(0, .ref (h 1))] := hl
  refine lv_aload_n hx hb dX4_areFull_0 rfl (lv_at hl 0 rfl) ?_
  refine va_get (D := D) (ci := 4) (v := .int (nI n)) (C := RX4) (T := TX4) (N := 6) hx hb hts hiX4 hown hK.1 hP 1 rfl rfl 5 (by decide) kf28 (fun _ h9 => h9) rfl dX4_areFull_1 ?_
  refine lv_bipush (v := 100) hx hb dX4_areFull_4 (by decide) ?_
  refine lv_icmp_lt (tgt := 13) hx hb dX4_areFull_6 (by decide) (fun c6 => ?_) (fun c6 => ?_)
  · skip
    have c6 : n < 100 := (nI_ltI (a := n) (b := 100) (by omega) (by omega)).mp c6
    refine lv_iconst (v := 0) hx hb dX4_areFull_13 (by decide) ?_
    exact W.zret (ty := .boolean) (v := 0) hx hb hr (by decide) (fun t9 ht _ => ⟨congrArg (fun z => Outcome.returned (some (Value.int z))) (by have h9 : (100 ≤ n) = (¬ n < 100) := (by simp); simp [bI, h9, c6]), ht⟩) (fun _ h9 => nomatch h9) dX4_areFull_14
  · skip
    have c6 : ¬ (n < 100) := fun h9 => c6 ((nI_ltI (a := n) (b := 100) (by omega) (by omega)).mpr h9)
    refine lv_iconst (v := 1) hx hb dX4_areFull_9 (by decide) ?_
    refine lv_goto (tgt := 14) hx hb dX4_areFull_10 (by decide) ?_
    exact W.zret (ty := .boolean) (v := 1) hx hb hr (by decide) (fun t9 ht _ => ⟨congrArg (fun z => Outcome.returned (some (Value.int z))) (by have h9 : (100 ≤ n) = (¬ n < 100) := (by simp); simp [bI, h9, c6]), ht⟩) (fun _ h9 => nomatch h9) dX4_areFull_14
set_option maxHeartbeats 4000000 in
set_option maxRecDepth 100000 in
theorem c_X4_hold (hh : ad_ok h 20) (t : Int32) : Met l yX4_hold wsX4_hold ({ frames := 0, cells := 0, slots := 0, locals := 0 }) (wd_P D cI cJ [.ref (h 1), .int t] (sl_W cI cJ h (nI n) F Wt Sz Nu Mb (nI k) G Wk To Sl Ri (nI f) (nI b) oT oS oF (nI an) (nI as) Fo wo pa fa)) (pu_Q (some (.int (bI (p_in t (nI n)))))) 0 0 (fun _ => False) := by
  refine Met.ofW (cc := cX4_hold) (maxL := 2) (ret := (some .boolean)) (by decide) rfl ?_
  intro p e s m args below meth c s₁ B hml hv
  obtain ⟨rfl, hP, hK⟩ := hv
  have hx := B.exec
  have hb := B.bytes
  have hr := B.returns
  have hts := atoms_spec (ws := wsX4_hold) B.pre
  have hown : s.vm.findClass RX4 = some m.cls := findClass_of_methodNamed B.named
  have hlocks := B.notSynchronized
  have hiX4 : ∀ w ∈ u_ws RX4 TX4 6, w ∈ wsX4_hold := by decide +kernel
  have kf28 := hts (.fieldLink RX4 28 "SortingLine$Things" "made" "I") (by decide +kernel)
  have hl := lv_entry ([.ref (h 1), .int t]) (n := 2) (Nat.le_of_ble_eq_true rfl)
  rw [lg_entry_eq]
  generalize (lg_sl ([.ref (h 1), .int t]) ++ List.replicate (2 - (lg_sl ([.ref (h 1), .int t])).length) Slot.unset).toArray = ls at hl ⊢
  have hl : lv_has ls 2 [(0, .ref (h 1)), (1, .int t)] := hl
  refine lv_iload_n hx hb dX4_hold_0 rfl (lv_at hl 1 rfl) ?_
  refine lv_if_lt (tgt := 16) hx hb dX4_hold_1 (by decide) (fun c1 => ?_) (fun c1 => ?_)
  · skip
    refine lv_iconst (v := 0) hx hb dX4_hold_16 (by decide) ?_
    exact W.zret (ty := .boolean) (v := 0) hx hb hr (by decide) (fun t9 ht _ => ⟨congrArg (fun z => Outcome.returned (some (Value.int z))) (by rw [p_in_lt c1]; rfl), ht⟩) (fun _ h9 => nomatch h9) dX4_hold_17
  · skip
    refine lv_iload_n hx hb dX4_hold_4 rfl (lv_at hl 1 rfl) ?_
    refine lv_aload_n hx hb dX4_hold_5 rfl (lv_at hl 0 rfl) ?_
    refine va_get (D := D) (ci := 4) (v := .int (nI n)) (C := RX4) (T := TX4) (N := 6) hx hb hts hiX4 hown hK.1 hP 1 rfl rfl 5 (by decide) kf28 (fun _ h9 => h9) rfl dX4_hold_6 ?_
    refine lv_icmp_ge (tgt := 16) hx hb dX4_hold_9 (by decide) (fun c9 => ?_) (fun c9 => ?_)
    · skip
      refine lv_iconst (v := 0) hx hb dX4_hold_16 (by decide) ?_
      exact W.zret (ty := .boolean) (v := 0) hx hb hr (by decide) (fun t9 ht _ => ⟨congrArg (fun z => Outcome.returned (some (Value.int z))) (by rw [p_in_ge c9]; rfl), ht⟩) (fun _ h9 => nomatch h9) dX4_hold_17
    · skip
      refine lv_iconst (v := 1) hx hb dX4_hold_12 (by decide) ?_
      refine lv_goto (tgt := 17) hx hb dX4_hold_13 (by decide) ?_
      exact W.zret (ty := .boolean) (v := 1) hx hb hr (by decide) (fun t9 ht _ => ⟨congrArg (fun z => Outcome.returned (some (Value.int z))) (by rw [p_in_ok c1 c9]; rfl), ht⟩) (fun _ h9 => nomatch h9) dX4_hold_17
set_option maxHeartbeats 4000000 in
set_option maxRecDepth 100000 in
theorem c_X4_add (hh : ad_ok h 20) (hn : n < 100) (fo we sz : Int32) : Met l yX4_add wsX4_add ({ frames := 1, cells := 0, slots := 0, locals := 20 }) (wd_P D cI cJ [.ref (h 1), .int fo, .int we, .int sz] (sl_W cI cJ h (nI n) F Wt Sz Nu Mb (nI k) G Wk To Sl Ri (nI f) (nI b) oT oS oF (nI an) (nI as) Fo wo pa fa)) (mu_Q D (ad_A h 20) (some (.int (nI n))) (sl_W cI cJ h (nI (n + 1)) (upd F n fo) (upd Wt n we) (upd Sz n sz) (z8L Nu (8 * n) 0) (z8I Mb (8 * n) (-5)) (nI k) G Wk To Sl Ri (nI f) (nI b) oT oS oF (nI an) (nI as) Fo wo pa fa)) 0 0 (ad_A h 20) := by
  refine Met.ofW (cc := cX4_add) (maxL := 6) (ret := (some .int)) (by decide) rfl ?_
  intro p e s m args below meth c s₁ B hml hv
  obtain ⟨rfl, hP, hK⟩ := hv
  have hx := B.exec
  have hb := B.bytes
  have hr := B.returns
  have hts := atoms_spec (ws := wsX4_add) B.pre
  have hown : s.vm.findClass RX4 = some m.cls := findClass_of_methodNamed B.named
  have hlocks := B.notSynchronized
  have hiX4 : ∀ w ∈ u_ws RX4 TX4 6, w ∈ wsX4_add := by decide +kernel
  have kf28 := hts (.fieldLink RX4 28 "SortingLine$Things" "made" "I") (by decide +kernel)
  have kf9 := hts (.fieldLink RX4 9 "SortingLine$Things" "forms" "[I") (by decide +kernel)
  have kf15 := hts (.fieldLink RX4 15 "SortingLine$Things" "weights" "[I") (by decide +kernel)
  have kf18 := hts (.fieldLink RX4 18 "SortingLine$Things" "sizes" "[I") (by decide +kernel)
  have kf21 := hts (.fieldLink RX4 21 "SortingLine$Things" "numbers" "[J") (by decide +kernel)
  have kf25 := hts (.fieldLink RX4 25 "SortingLine$Things" "members" "[I") (by decide +kernel)
  have hS : va_S (ad_A h 20) s.heap s.heap [] := va_S.rf
  have hl := lv_entry ([.ref (h 1), .int fo, .int we, .int sz]) (n := 6) (Nat.le_of_ble_eq_true rfl)
  rw [lg_entry_eq]
  generalize (lg_sl ([.ref (h 1), .int fo, .int we, .int sz]) ++ List.replicate (6 - (lg_sl ([.ref (h 1), .int fo, .int we, .int sz])).length) Slot.unset).toArray = ls at hl ⊢
  have hl : lv_has ls 6 [(0, .ref (h 1)), (1, .int fo), (2, .int we), (3, .int sz)] := hl
  refine lv_aload_n hx hb dX4_add_0 rfl (lv_at hl 0 rfl) ?_
  refine pu_callb (va_runV (As := []) (rest := []) ⟨hx, hb, hml, hown, hts⟩ (c_X4_areFull hh (by omega)) (cwV 0 hts gX4_add_X4_areFull rfl rfl rfl (by decide +kernel) ⟨Nat.le_of_ble_eq_true rfl, Nat.le_of_ble_eq_true rfl⟩) (wd_preV (ci := 4) (q0 := 1) hP hK rfl rfl) rfl rfl hl.1 rfl (lv_room (Nat.le_of_ble_eq_true rfl)) dX4_add_1 ⟨Nat.zero_le _, Nat.zero_le _⟩) (fun h9 => absurd (show decide (100 ≤ n) = false by simp; omega) (by rw [h9]; decide)) (fun _ => ?_)
  refine lv_if_eq (tgt := 10) hx hb dX4_add_4 (by decide) (fun _ => ?_) (fun h9 => absurd (by decide) h9)
  refine lv_aload_n hx hb dX4_add_10 rfl (lv_at hl 0 rfl) ?_
  refine va_get (D := D) (ci := 4) (v := .int (nI n)) (C := RX4) (T := TX4) (N := 6) hx hb hts hiX4 hown hK.1 hP 1 rfl rfl 5 (by decide) kf28 (fun _ h9 => h9) rfl dX4_add_11 ?_
  refine lv_istore (lv' := [(4, .int (nI n)), (0, .ref (h 1)), (1, .int fo), (2, .int we), (3, .int sz)]) hx hb dX4_add_14 hl (by decide) rfl (fun ls hl => ?_)
  refine lv_aload_n hx hb dX4_add_16 rfl (lv_at hl 1 rfl) ?_
  refine va_get (D := D) (ci := 4) (v := .ref (h 6)) (C := RX4) (T := TX4) (N := 6) hx hb hts hiX4 hown hK.1 hP 1 rfl rfl 0 (by decide) kf9 (fun _ h9 => h9) rfl dX4_add_17 ?_
  refine lv_iload hx hb dX4_add_20 (lv_at hl 0 rfl) ?_
  refine lv_iload_n hx hb dX4_add_22 rfl (lv_at hl 2 rfl) ?_
  refine ga_ist hx hb hK hP (sl_D hh) hS 6 rfl n (rfl) (by omega) (by decide) dX4_add_23 (fun H locs hP hS => ?_)
  have hP : va_P D kC (sl_W cI cJ h (nI n) (upd F n fo) Wt Sz Nu Mb (nI k) G Wk To Sl Ri (nI f) (nI b) oT oS oF (nI an) (nI as) Fo wo pa fa) H := hP
  refine lv_aload_n hx hb dX4_add_24 rfl (lv_at hl 1 rfl) ?_
  refine va_get (D := D) (ci := 4) (v := .ref (h 7)) (C := RX4) (T := TX4) (N := 6) hx hb hts hiX4 hown hK.1 hP 1 rfl rfl 1 (by decide) kf15 (fun _ h9 => h9) rfl dX4_add_25 ?_
  refine lv_iload hx hb dX4_add_28 (lv_at hl 0 rfl) ?_
  refine lv_iload_n hx hb dX4_add_30 rfl (lv_at hl 3 rfl) ?_
  refine ga_ist hx hb hK hP (sl_D hh) hS 7 rfl n (rfl) (by omega) (by decide) dX4_add_31 (fun H locs hP hS => ?_)
  have hP : va_P D kC (sl_W cI cJ h (nI n) (upd F n fo) (upd Wt n we) Sz Nu Mb (nI k) G Wk To Sl Ri (nI f) (nI b) oT oS oF (nI an) (nI as) Fo wo pa fa) H := hP
  refine lv_aload_n hx hb dX4_add_32 rfl (lv_at hl 1 rfl) ?_
  refine va_get (D := D) (ci := 4) (v := .ref (h 8)) (C := RX4) (T := TX4) (N := 6) hx hb hts hiX4 hown hK.1 hP 1 rfl rfl 2 (by decide) kf18 (fun _ h9 => h9) rfl dX4_add_33 ?_
  refine lv_iload hx hb dX4_add_36 (lv_at hl 0 rfl) ?_
  refine lv_iload_n hx hb dX4_add_38 rfl (lv_at hl 4 rfl) ?_
  refine ga_ist hx hb hK hP (sl_D hh) hS 8 rfl n (rfl) (by omega) (by decide) dX4_add_39 (fun H locs hP hS => ?_)
  have hP : va_P D kC (sl_W cI cJ h (nI n) (upd F n fo) (upd Wt n we) (upd Sz n sz) Nu Mb (nI k) G Wk To Sl Ri (nI f) (nI b) oT oS oF (nI an) (nI as) Fo wo pa fa) H := hP
  refine lv_iconst (v := 0) hx hb dX4_add_40 (by decide) ?_
  refine lv_istore (lv' := [(5, .int 0), (4, .int (nI n)), (0, .ref (h 1)), (1, .int fo), (2, .int we), (3, .int sz)]) hx hb dX4_add_41 hl (by decide) rfl (fun ls hl => ?_)
  refine lv_iload hx hb dX4_add_43 (lv_at hl 0 rfl) ?_
  refine lv_bipush (v := 8) hx hb dX4_add_45 (by decide) ?_
  refine lv_icmp_ge (tgt := 85) hx hb dX4_add_47 (by decide) (fun h9 => absurd h9 (by decide)) (fun _ => ?_)
  refine lv_aload_n hx hb dX4_add_50 rfl (lv_at hl 2 rfl) ?_
  refine va_get (D := D) (ci := 4) (v := .ref (h 9)) (C := RX4) (T := TX4) (N := 6) hx hb hts hiX4 hown hK.1 hP 1 rfl rfl 3 (by decide) kf21 (fun _ h9 => h9) rfl dX4_add_51 ?_
  refine lv_iload hx hb dX4_add_54 (lv_at hl 1 rfl) ?_
  refine lv_bipush (v := 8) hx hb dX4_add_56 (by decide) ?_
  refine lv_imul hx hb dX4_add_58 ?_
  refine tp_i (y := nI (8 * n)) ((pk_mul n 8).trans (congrArg nI (Nat.mul_comm _ _))) ?_
  refine lv_iload hx hb dX4_add_59 (lv_at hl 0 rfl) ?_
  refine lv_iadd hx hb dX4_add_61 ?_
  refine tp_i (y := nI ((8 * n) + 0)) (nI_add (8 * n) 0) ?_
  refine lv_lconst (v := 0) hx hb dX4_add_62 (by decide) ?_
  refine ga_lst hx hb hK hP (sl_D hh) hS 9 rfl ((8 * n) + 0) (rfl) (by omega) (by decide) dX4_add_63 (fun H locs hP hS => ?_)
  have hP : va_P D kC (sl_W cI cJ h (nI n) (upd F n fo) (upd Wt n we) (upd Sz n sz) (vp_updL Nu ((8 * n) + 0) 0) Mb (nI k) G Wk To Sl Ri (nI f) (nI b) oT oS oF (nI an) (nI as) Fo wo pa fa) H := hP
  refine lv_aload_n hx hb dX4_add_64 rfl (lv_at hl 2 rfl) ?_
  refine va_get (D := D) (ci := 4) (v := .ref (h 10)) (C := RX4) (T := TX4) (N := 6) hx hb hts hiX4 hown hK.1 hP 1 rfl rfl 4 (by decide) kf25 (fun _ h9 => h9) rfl dX4_add_65 ?_
  refine lv_iload hx hb dX4_add_68 (lv_at hl 1 rfl) ?_
  refine lv_bipush (v := 8) hx hb dX4_add_70 (by decide) ?_
  refine lv_imul hx hb dX4_add_72 ?_
  refine tp_i (y := nI (8 * n)) ((pk_mul n 8).trans (congrArg nI (Nat.mul_comm _ _))) ?_
  refine lv_iload hx hb dX4_add_73 (lv_at hl 0 rfl) ?_
  refine lv_iadd hx hb dX4_add_75 ?_
  refine tp_i (y := nI ((8 * n) + 0)) (nI_add (8 * n) 0) ?_
  refine lv_bipush (v := (-5)) hx hb dX4_add_76 (by decide) ?_
  refine ga_ist hx hb hK hP (sl_D hh) hS 10 rfl ((8 * n) + 0) (rfl) (by omega) (by decide) dX4_add_78 (fun H locs hP hS => ?_)
  have hP : va_P D kC (sl_W cI cJ h (nI n) (upd F n fo) (upd Wt n we) (upd Sz n sz) (vp_updL Nu ((8 * n) + 0) 0) (upd Mb ((8 * n) + 0) (-5)) (nI k) G Wk To Sl Ri (nI f) (nI b) oT oS oF (nI an) (nI as) Fo wo pa fa) H := hP
  refine lv_iinc (v := 1) (lv' := [(5, .int 1), (4, .int (nI n)), (0, .ref (h 1)), (1, .int fo), (2, .int we), (3, .int sz)]) hx hb dX4_add_79 hl (k := 0) rfl (by decide) (by decide) rfl (fun ls hl => ?_)
  refine lv_goto (tgt := 43) hx hb dX4_add_82 (by decide) ?_
  refine lv_iload hx hb dX4_add_43 (lv_at hl 0 rfl) ?_
  refine lv_bipush (v := 8) hx hb dX4_add_45 (by decide) ?_
  refine lv_icmp_ge (tgt := 85) hx hb dX4_add_47 (by decide) (fun h9 => absurd h9 (by decide)) (fun _ => ?_)
  refine lv_aload_n hx hb dX4_add_50 rfl (lv_at hl 2 rfl) ?_
  refine va_get (D := D) (ci := 4) (v := .ref (h 9)) (C := RX4) (T := TX4) (N := 6) hx hb hts hiX4 hown hK.1 hP 1 rfl rfl 3 (by decide) kf21 (fun _ h9 => h9) rfl dX4_add_51 ?_
  refine lv_iload hx hb dX4_add_54 (lv_at hl 1 rfl) ?_
  refine lv_bipush (v := 8) hx hb dX4_add_56 (by decide) ?_
  refine lv_imul hx hb dX4_add_58 ?_
  refine tp_i (y := nI (8 * n)) ((pk_mul n 8).trans (congrArg nI (Nat.mul_comm _ _))) ?_
  refine lv_iload hx hb dX4_add_59 (lv_at hl 0 rfl) ?_
  refine lv_iadd hx hb dX4_add_61 ?_
  refine tp_i (y := nI ((8 * n) + 1)) (nI_add (8 * n) 1) ?_
  refine lv_lconst (v := 0) hx hb dX4_add_62 (by decide) ?_
  refine ga_lst hx hb hK hP (sl_D hh) hS 9 rfl ((8 * n) + 1) (rfl) (by omega) (by decide) dX4_add_63 (fun H locs hP hS => ?_)
  have hP : va_P D kC (sl_W cI cJ h (nI n) (upd F n fo) (upd Wt n we) (upd Sz n sz) (vp_updL (vp_updL Nu ((8 * n) + 0) 0) ((8 * n) + 1) 0) (upd Mb ((8 * n) + 0) (-5)) (nI k) G Wk To Sl Ri (nI f) (nI b) oT oS oF (nI an) (nI as) Fo wo pa fa) H := hP
  refine lv_aload_n hx hb dX4_add_64 rfl (lv_at hl 2 rfl) ?_
  refine va_get (D := D) (ci := 4) (v := .ref (h 10)) (C := RX4) (T := TX4) (N := 6) hx hb hts hiX4 hown hK.1 hP 1 rfl rfl 4 (by decide) kf25 (fun _ h9 => h9) rfl dX4_add_65 ?_
  refine lv_iload hx hb dX4_add_68 (lv_at hl 1 rfl) ?_
  refine lv_bipush (v := 8) hx hb dX4_add_70 (by decide) ?_
  refine lv_imul hx hb dX4_add_72 ?_
  refine tp_i (y := nI (8 * n)) ((pk_mul n 8).trans (congrArg nI (Nat.mul_comm _ _))) ?_
  refine lv_iload hx hb dX4_add_73 (lv_at hl 0 rfl) ?_
  refine lv_iadd hx hb dX4_add_75 ?_
  refine tp_i (y := nI ((8 * n) + 1)) (nI_add (8 * n) 1) ?_
  refine lv_bipush (v := (-5)) hx hb dX4_add_76 (by decide) ?_
  refine ga_ist hx hb hK hP (sl_D hh) hS 10 rfl ((8 * n) + 1) (rfl) (by omega) (by decide) dX4_add_78 (fun H locs hP hS => ?_)
  have hP : va_P D kC (sl_W cI cJ h (nI n) (upd F n fo) (upd Wt n we) (upd Sz n sz) (vp_updL (vp_updL Nu ((8 * n) + 0) 0) ((8 * n) + 1) 0) (upd (upd Mb ((8 * n) + 0) (-5)) ((8 * n) + 1) (-5)) (nI k) G Wk To Sl Ri (nI f) (nI b) oT oS oF (nI an) (nI as) Fo wo pa fa) H := hP
  refine lv_iinc (v := 2) (lv' := [(5, .int 2), (4, .int (nI n)), (0, .ref (h 1)), (1, .int fo), (2, .int we), (3, .int sz)]) hx hb dX4_add_79 hl (k := 0) rfl (by decide) (by decide) rfl (fun ls hl => ?_)
  refine lv_goto (tgt := 43) hx hb dX4_add_82 (by decide) ?_
  refine lv_iload hx hb dX4_add_43 (lv_at hl 0 rfl) ?_
  refine lv_bipush (v := 8) hx hb dX4_add_45 (by decide) ?_
  refine lv_icmp_ge (tgt := 85) hx hb dX4_add_47 (by decide) (fun h9 => absurd h9 (by decide)) (fun _ => ?_)
  refine lv_aload_n hx hb dX4_add_50 rfl (lv_at hl 2 rfl) ?_
  refine va_get (D := D) (ci := 4) (v := .ref (h 9)) (C := RX4) (T := TX4) (N := 6) hx hb hts hiX4 hown hK.1 hP 1 rfl rfl 3 (by decide) kf21 (fun _ h9 => h9) rfl dX4_add_51 ?_
  refine lv_iload hx hb dX4_add_54 (lv_at hl 1 rfl) ?_
  refine lv_bipush (v := 8) hx hb dX4_add_56 (by decide) ?_
  refine lv_imul hx hb dX4_add_58 ?_
  refine tp_i (y := nI (8 * n)) ((pk_mul n 8).trans (congrArg nI (Nat.mul_comm _ _))) ?_
  refine lv_iload hx hb dX4_add_59 (lv_at hl 0 rfl) ?_
  refine lv_iadd hx hb dX4_add_61 ?_
  refine tp_i (y := nI ((8 * n) + 2)) (nI_add (8 * n) 2) ?_
  refine lv_lconst (v := 0) hx hb dX4_add_62 (by decide) ?_
  refine ga_lst hx hb hK hP (sl_D hh) hS 9 rfl ((8 * n) + 2) (rfl) (by omega) (by decide) dX4_add_63 (fun H locs hP hS => ?_)
  have hP : va_P D kC (sl_W cI cJ h (nI n) (upd F n fo) (upd Wt n we) (upd Sz n sz) (vp_updL (vp_updL (vp_updL Nu ((8 * n) + 0) 0) ((8 * n) + 1) 0) ((8 * n) + 2) 0) (upd (upd Mb ((8 * n) + 0) (-5)) ((8 * n) + 1) (-5)) (nI k) G Wk To Sl Ri (nI f) (nI b) oT oS oF (nI an) (nI as) Fo wo pa fa) H := hP
  refine lv_aload_n hx hb dX4_add_64 rfl (lv_at hl 2 rfl) ?_
  refine va_get (D := D) (ci := 4) (v := .ref (h 10)) (C := RX4) (T := TX4) (N := 6) hx hb hts hiX4 hown hK.1 hP 1 rfl rfl 4 (by decide) kf25 (fun _ h9 => h9) rfl dX4_add_65 ?_
  refine lv_iload hx hb dX4_add_68 (lv_at hl 1 rfl) ?_
  refine lv_bipush (v := 8) hx hb dX4_add_70 (by decide) ?_
  refine lv_imul hx hb dX4_add_72 ?_
  refine tp_i (y := nI (8 * n)) ((pk_mul n 8).trans (congrArg nI (Nat.mul_comm _ _))) ?_
  refine lv_iload hx hb dX4_add_73 (lv_at hl 0 rfl) ?_
  refine lv_iadd hx hb dX4_add_75 ?_
  refine tp_i (y := nI ((8 * n) + 2)) (nI_add (8 * n) 2) ?_
  refine lv_bipush (v := (-5)) hx hb dX4_add_76 (by decide) ?_
  refine ga_ist hx hb hK hP (sl_D hh) hS 10 rfl ((8 * n) + 2) (rfl) (by omega) (by decide) dX4_add_78 (fun H locs hP hS => ?_)
  have hP : va_P D kC (sl_W cI cJ h (nI n) (upd F n fo) (upd Wt n we) (upd Sz n sz) (vp_updL (vp_updL (vp_updL Nu ((8 * n) + 0) 0) ((8 * n) + 1) 0) ((8 * n) + 2) 0) (upd (upd (upd Mb ((8 * n) + 0) (-5)) ((8 * n) + 1) (-5)) ((8 * n) + 2) (-5)) (nI k) G Wk To Sl Ri (nI f) (nI b) oT oS oF (nI an) (nI as) Fo wo pa fa) H := hP
  refine lv_iinc (v := 3) (lv' := [(5, .int 3), (4, .int (nI n)), (0, .ref (h 1)), (1, .int fo), (2, .int we), (3, .int sz)]) hx hb dX4_add_79 hl (k := 0) rfl (by decide) (by decide) rfl (fun ls hl => ?_)
  refine lv_goto (tgt := 43) hx hb dX4_add_82 (by decide) ?_
  refine lv_iload hx hb dX4_add_43 (lv_at hl 0 rfl) ?_
  refine lv_bipush (v := 8) hx hb dX4_add_45 (by decide) ?_
  refine lv_icmp_ge (tgt := 85) hx hb dX4_add_47 (by decide) (fun h9 => absurd h9 (by decide)) (fun _ => ?_)
  refine lv_aload_n hx hb dX4_add_50 rfl (lv_at hl 2 rfl) ?_
  refine va_get (D := D) (ci := 4) (v := .ref (h 9)) (C := RX4) (T := TX4) (N := 6) hx hb hts hiX4 hown hK.1 hP 1 rfl rfl 3 (by decide) kf21 (fun _ h9 => h9) rfl dX4_add_51 ?_
  refine lv_iload hx hb dX4_add_54 (lv_at hl 1 rfl) ?_
  refine lv_bipush (v := 8) hx hb dX4_add_56 (by decide) ?_
  refine lv_imul hx hb dX4_add_58 ?_
  refine tp_i (y := nI (8 * n)) ((pk_mul n 8).trans (congrArg nI (Nat.mul_comm _ _))) ?_
  refine lv_iload hx hb dX4_add_59 (lv_at hl 0 rfl) ?_
  refine lv_iadd hx hb dX4_add_61 ?_
  refine tp_i (y := nI ((8 * n) + 3)) (nI_add (8 * n) 3) ?_
  refine lv_lconst (v := 0) hx hb dX4_add_62 (by decide) ?_
  refine ga_lst hx hb hK hP (sl_D hh) hS 9 rfl ((8 * n) + 3) (rfl) (by omega) (by decide) dX4_add_63 (fun H locs hP hS => ?_)
  have hP : va_P D kC (sl_W cI cJ h (nI n) (upd F n fo) (upd Wt n we) (upd Sz n sz) (vp_updL (vp_updL (vp_updL (vp_updL Nu ((8 * n) + 0) 0) ((8 * n) + 1) 0) ((8 * n) + 2) 0) ((8 * n) + 3) 0) (upd (upd (upd Mb ((8 * n) + 0) (-5)) ((8 * n) + 1) (-5)) ((8 * n) + 2) (-5)) (nI k) G Wk To Sl Ri (nI f) (nI b) oT oS oF (nI an) (nI as) Fo wo pa fa) H := hP
  refine lv_aload_n hx hb dX4_add_64 rfl (lv_at hl 2 rfl) ?_
  refine va_get (D := D) (ci := 4) (v := .ref (h 10)) (C := RX4) (T := TX4) (N := 6) hx hb hts hiX4 hown hK.1 hP 1 rfl rfl 4 (by decide) kf25 (fun _ h9 => h9) rfl dX4_add_65 ?_
  refine lv_iload hx hb dX4_add_68 (lv_at hl 1 rfl) ?_
  refine lv_bipush (v := 8) hx hb dX4_add_70 (by decide) ?_
  refine lv_imul hx hb dX4_add_72 ?_
  refine tp_i (y := nI (8 * n)) ((pk_mul n 8).trans (congrArg nI (Nat.mul_comm _ _))) ?_
  refine lv_iload hx hb dX4_add_73 (lv_at hl 0 rfl) ?_
  refine lv_iadd hx hb dX4_add_75 ?_
  refine tp_i (y := nI ((8 * n) + 3)) (nI_add (8 * n) 3) ?_
  refine lv_bipush (v := (-5)) hx hb dX4_add_76 (by decide) ?_
  refine ga_ist hx hb hK hP (sl_D hh) hS 10 rfl ((8 * n) + 3) (rfl) (by omega) (by decide) dX4_add_78 (fun H locs hP hS => ?_)
  have hP : va_P D kC (sl_W cI cJ h (nI n) (upd F n fo) (upd Wt n we) (upd Sz n sz) (vp_updL (vp_updL (vp_updL (vp_updL Nu ((8 * n) + 0) 0) ((8 * n) + 1) 0) ((8 * n) + 2) 0) ((8 * n) + 3) 0) (upd (upd (upd (upd Mb ((8 * n) + 0) (-5)) ((8 * n) + 1) (-5)) ((8 * n) + 2) (-5)) ((8 * n) + 3) (-5)) (nI k) G Wk To Sl Ri (nI f) (nI b) oT oS oF (nI an) (nI as) Fo wo pa fa) H := hP
  refine lv_iinc (v := 4) (lv' := [(5, .int 4), (4, .int (nI n)), (0, .ref (h 1)), (1, .int fo), (2, .int we), (3, .int sz)]) hx hb dX4_add_79 hl (k := 0) rfl (by decide) (by decide) rfl (fun ls hl => ?_)
  refine lv_goto (tgt := 43) hx hb dX4_add_82 (by decide) ?_
  refine lv_iload hx hb dX4_add_43 (lv_at hl 0 rfl) ?_
  refine lv_bipush (v := 8) hx hb dX4_add_45 (by decide) ?_
  refine lv_icmp_ge (tgt := 85) hx hb dX4_add_47 (by decide) (fun h9 => absurd h9 (by decide)) (fun _ => ?_)
  refine lv_aload_n hx hb dX4_add_50 rfl (lv_at hl 2 rfl) ?_
  refine va_get (D := D) (ci := 4) (v := .ref (h 9)) (C := RX4) (T := TX4) (N := 6) hx hb hts hiX4 hown hK.1 hP 1 rfl rfl 3 (by decide) kf21 (fun _ h9 => h9) rfl dX4_add_51 ?_
  refine lv_iload hx hb dX4_add_54 (lv_at hl 1 rfl) ?_
  refine lv_bipush (v := 8) hx hb dX4_add_56 (by decide) ?_
  refine lv_imul hx hb dX4_add_58 ?_
  refine tp_i (y := nI (8 * n)) ((pk_mul n 8).trans (congrArg nI (Nat.mul_comm _ _))) ?_
  refine lv_iload hx hb dX4_add_59 (lv_at hl 0 rfl) ?_
  refine lv_iadd hx hb dX4_add_61 ?_
  refine tp_i (y := nI ((8 * n) + 4)) (nI_add (8 * n) 4) ?_
  refine lv_lconst (v := 0) hx hb dX4_add_62 (by decide) ?_
  refine ga_lst hx hb hK hP (sl_D hh) hS 9 rfl ((8 * n) + 4) (rfl) (by omega) (by decide) dX4_add_63 (fun H locs hP hS => ?_)
  have hP : va_P D kC (sl_W cI cJ h (nI n) (upd F n fo) (upd Wt n we) (upd Sz n sz) (vp_updL (vp_updL (vp_updL (vp_updL (vp_updL Nu ((8 * n) + 0) 0) ((8 * n) + 1) 0) ((8 * n) + 2) 0) ((8 * n) + 3) 0) ((8 * n) + 4) 0) (upd (upd (upd (upd Mb ((8 * n) + 0) (-5)) ((8 * n) + 1) (-5)) ((8 * n) + 2) (-5)) ((8 * n) + 3) (-5)) (nI k) G Wk To Sl Ri (nI f) (nI b) oT oS oF (nI an) (nI as) Fo wo pa fa) H := hP
  refine lv_aload_n hx hb dX4_add_64 rfl (lv_at hl 2 rfl) ?_
  refine va_get (D := D) (ci := 4) (v := .ref (h 10)) (C := RX4) (T := TX4) (N := 6) hx hb hts hiX4 hown hK.1 hP 1 rfl rfl 4 (by decide) kf25 (fun _ h9 => h9) rfl dX4_add_65 ?_
  refine lv_iload hx hb dX4_add_68 (lv_at hl 1 rfl) ?_
  refine lv_bipush (v := 8) hx hb dX4_add_70 (by decide) ?_
  refine lv_imul hx hb dX4_add_72 ?_
  refine tp_i (y := nI (8 * n)) ((pk_mul n 8).trans (congrArg nI (Nat.mul_comm _ _))) ?_
  refine lv_iload hx hb dX4_add_73 (lv_at hl 0 rfl) ?_
  refine lv_iadd hx hb dX4_add_75 ?_
  refine tp_i (y := nI ((8 * n) + 4)) (nI_add (8 * n) 4) ?_
  refine lv_bipush (v := (-5)) hx hb dX4_add_76 (by decide) ?_
  refine ga_ist hx hb hK hP (sl_D hh) hS 10 rfl ((8 * n) + 4) (rfl) (by omega) (by decide) dX4_add_78 (fun H locs hP hS => ?_)
  have hP : va_P D kC (sl_W cI cJ h (nI n) (upd F n fo) (upd Wt n we) (upd Sz n sz) (vp_updL (vp_updL (vp_updL (vp_updL (vp_updL Nu ((8 * n) + 0) 0) ((8 * n) + 1) 0) ((8 * n) + 2) 0) ((8 * n) + 3) 0) ((8 * n) + 4) 0) (upd (upd (upd (upd (upd Mb ((8 * n) + 0) (-5)) ((8 * n) + 1) (-5)) ((8 * n) + 2) (-5)) ((8 * n) + 3) (-5)) ((8 * n) + 4) (-5)) (nI k) G Wk To Sl Ri (nI f) (nI b) oT oS oF (nI an) (nI as) Fo wo pa fa) H := hP
  refine lv_iinc (v := 5) (lv' := [(5, .int 5), (4, .int (nI n)), (0, .ref (h 1)), (1, .int fo), (2, .int we), (3, .int sz)]) hx hb dX4_add_79 hl (k := 0) rfl (by decide) (by decide) rfl (fun ls hl => ?_)
  refine lv_goto (tgt := 43) hx hb dX4_add_82 (by decide) ?_
  refine lv_iload hx hb dX4_add_43 (lv_at hl 0 rfl) ?_
  refine lv_bipush (v := 8) hx hb dX4_add_45 (by decide) ?_
  refine lv_icmp_ge (tgt := 85) hx hb dX4_add_47 (by decide) (fun h9 => absurd h9 (by decide)) (fun _ => ?_)
  refine lv_aload_n hx hb dX4_add_50 rfl (lv_at hl 2 rfl) ?_
  refine va_get (D := D) (ci := 4) (v := .ref (h 9)) (C := RX4) (T := TX4) (N := 6) hx hb hts hiX4 hown hK.1 hP 1 rfl rfl 3 (by decide) kf21 (fun _ h9 => h9) rfl dX4_add_51 ?_
  refine lv_iload hx hb dX4_add_54 (lv_at hl 1 rfl) ?_
  refine lv_bipush (v := 8) hx hb dX4_add_56 (by decide) ?_
  refine lv_imul hx hb dX4_add_58 ?_
  refine tp_i (y := nI (8 * n)) ((pk_mul n 8).trans (congrArg nI (Nat.mul_comm _ _))) ?_
  refine lv_iload hx hb dX4_add_59 (lv_at hl 0 rfl) ?_
  refine lv_iadd hx hb dX4_add_61 ?_
  refine tp_i (y := nI ((8 * n) + 5)) (nI_add (8 * n) 5) ?_
  refine lv_lconst (v := 0) hx hb dX4_add_62 (by decide) ?_
  refine ga_lst hx hb hK hP (sl_D hh) hS 9 rfl ((8 * n) + 5) (rfl) (by omega) (by decide) dX4_add_63 (fun H locs hP hS => ?_)
  have hP : va_P D kC (sl_W cI cJ h (nI n) (upd F n fo) (upd Wt n we) (upd Sz n sz) (vp_updL (vp_updL (vp_updL (vp_updL (vp_updL (vp_updL Nu ((8 * n) + 0) 0) ((8 * n) + 1) 0) ((8 * n) + 2) 0) ((8 * n) + 3) 0) ((8 * n) + 4) 0) ((8 * n) + 5) 0) (upd (upd (upd (upd (upd Mb ((8 * n) + 0) (-5)) ((8 * n) + 1) (-5)) ((8 * n) + 2) (-5)) ((8 * n) + 3) (-5)) ((8 * n) + 4) (-5)) (nI k) G Wk To Sl Ri (nI f) (nI b) oT oS oF (nI an) (nI as) Fo wo pa fa) H := hP
  refine lv_aload_n hx hb dX4_add_64 rfl (lv_at hl 2 rfl) ?_
  refine va_get (D := D) (ci := 4) (v := .ref (h 10)) (C := RX4) (T := TX4) (N := 6) hx hb hts hiX4 hown hK.1 hP 1 rfl rfl 4 (by decide) kf25 (fun _ h9 => h9) rfl dX4_add_65 ?_
  refine lv_iload hx hb dX4_add_68 (lv_at hl 1 rfl) ?_
  refine lv_bipush (v := 8) hx hb dX4_add_70 (by decide) ?_
  refine lv_imul hx hb dX4_add_72 ?_
  refine tp_i (y := nI (8 * n)) ((pk_mul n 8).trans (congrArg nI (Nat.mul_comm _ _))) ?_
  refine lv_iload hx hb dX4_add_73 (lv_at hl 0 rfl) ?_
  refine lv_iadd hx hb dX4_add_75 ?_
  refine tp_i (y := nI ((8 * n) + 5)) (nI_add (8 * n) 5) ?_
  refine lv_bipush (v := (-5)) hx hb dX4_add_76 (by decide) ?_
  refine ga_ist hx hb hK hP (sl_D hh) hS 10 rfl ((8 * n) + 5) (rfl) (by omega) (by decide) dX4_add_78 (fun H locs hP hS => ?_)
  have hP : va_P D kC (sl_W cI cJ h (nI n) (upd F n fo) (upd Wt n we) (upd Sz n sz) (vp_updL (vp_updL (vp_updL (vp_updL (vp_updL (vp_updL Nu ((8 * n) + 0) 0) ((8 * n) + 1) 0) ((8 * n) + 2) 0) ((8 * n) + 3) 0) ((8 * n) + 4) 0) ((8 * n) + 5) 0) (upd (upd (upd (upd (upd (upd Mb ((8 * n) + 0) (-5)) ((8 * n) + 1) (-5)) ((8 * n) + 2) (-5)) ((8 * n) + 3) (-5)) ((8 * n) + 4) (-5)) ((8 * n) + 5) (-5)) (nI k) G Wk To Sl Ri (nI f) (nI b) oT oS oF (nI an) (nI as) Fo wo pa fa) H := hP
  refine lv_iinc (v := 6) (lv' := [(5, .int 6), (4, .int (nI n)), (0, .ref (h 1)), (1, .int fo), (2, .int we), (3, .int sz)]) hx hb dX4_add_79 hl (k := 0) rfl (by decide) (by decide) rfl (fun ls hl => ?_)
  refine lv_goto (tgt := 43) hx hb dX4_add_82 (by decide) ?_
  refine lv_iload hx hb dX4_add_43 (lv_at hl 0 rfl) ?_
  refine lv_bipush (v := 8) hx hb dX4_add_45 (by decide) ?_
  refine lv_icmp_ge (tgt := 85) hx hb dX4_add_47 (by decide) (fun h9 => absurd h9 (by decide)) (fun _ => ?_)
  refine lv_aload_n hx hb dX4_add_50 rfl (lv_at hl 2 rfl) ?_
  refine va_get (D := D) (ci := 4) (v := .ref (h 9)) (C := RX4) (T := TX4) (N := 6) hx hb hts hiX4 hown hK.1 hP 1 rfl rfl 3 (by decide) kf21 (fun _ h9 => h9) rfl dX4_add_51 ?_
  refine lv_iload hx hb dX4_add_54 (lv_at hl 1 rfl) ?_
  refine lv_bipush (v := 8) hx hb dX4_add_56 (by decide) ?_
  refine lv_imul hx hb dX4_add_58 ?_
  refine tp_i (y := nI (8 * n)) ((pk_mul n 8).trans (congrArg nI (Nat.mul_comm _ _))) ?_
  refine lv_iload hx hb dX4_add_59 (lv_at hl 0 rfl) ?_
  refine lv_iadd hx hb dX4_add_61 ?_
  refine tp_i (y := nI ((8 * n) + 6)) (nI_add (8 * n) 6) ?_
  refine lv_lconst (v := 0) hx hb dX4_add_62 (by decide) ?_
  refine ga_lst hx hb hK hP (sl_D hh) hS 9 rfl ((8 * n) + 6) (rfl) (by omega) (by decide) dX4_add_63 (fun H locs hP hS => ?_)
  have hP : va_P D kC (sl_W cI cJ h (nI n) (upd F n fo) (upd Wt n we) (upd Sz n sz) (vp_updL (vp_updL (vp_updL (vp_updL (vp_updL (vp_updL (vp_updL Nu ((8 * n) + 0) 0) ((8 * n) + 1) 0) ((8 * n) + 2) 0) ((8 * n) + 3) 0) ((8 * n) + 4) 0) ((8 * n) + 5) 0) ((8 * n) + 6) 0) (upd (upd (upd (upd (upd (upd Mb ((8 * n) + 0) (-5)) ((8 * n) + 1) (-5)) ((8 * n) + 2) (-5)) ((8 * n) + 3) (-5)) ((8 * n) + 4) (-5)) ((8 * n) + 5) (-5)) (nI k) G Wk To Sl Ri (nI f) (nI b) oT oS oF (nI an) (nI as) Fo wo pa fa) H := hP
  refine lv_aload_n hx hb dX4_add_64 rfl (lv_at hl 2 rfl) ?_
  refine va_get (D := D) (ci := 4) (v := .ref (h 10)) (C := RX4) (T := TX4) (N := 6) hx hb hts hiX4 hown hK.1 hP 1 rfl rfl 4 (by decide) kf25 (fun _ h9 => h9) rfl dX4_add_65 ?_
  refine lv_iload hx hb dX4_add_68 (lv_at hl 1 rfl) ?_
  refine lv_bipush (v := 8) hx hb dX4_add_70 (by decide) ?_
  refine lv_imul hx hb dX4_add_72 ?_
  refine tp_i (y := nI (8 * n)) ((pk_mul n 8).trans (congrArg nI (Nat.mul_comm _ _))) ?_
  refine lv_iload hx hb dX4_add_73 (lv_at hl 0 rfl) ?_
  refine lv_iadd hx hb dX4_add_75 ?_
  refine tp_i (y := nI ((8 * n) + 6)) (nI_add (8 * n) 6) ?_
  refine lv_bipush (v := (-5)) hx hb dX4_add_76 (by decide) ?_
  refine ga_ist hx hb hK hP (sl_D hh) hS 10 rfl ((8 * n) + 6) (rfl) (by omega) (by decide) dX4_add_78 (fun H locs hP hS => ?_)
  have hP : va_P D kC (sl_W cI cJ h (nI n) (upd F n fo) (upd Wt n we) (upd Sz n sz) (vp_updL (vp_updL (vp_updL (vp_updL (vp_updL (vp_updL (vp_updL Nu ((8 * n) + 0) 0) ((8 * n) + 1) 0) ((8 * n) + 2) 0) ((8 * n) + 3) 0) ((8 * n) + 4) 0) ((8 * n) + 5) 0) ((8 * n) + 6) 0) (upd (upd (upd (upd (upd (upd (upd Mb ((8 * n) + 0) (-5)) ((8 * n) + 1) (-5)) ((8 * n) + 2) (-5)) ((8 * n) + 3) (-5)) ((8 * n) + 4) (-5)) ((8 * n) + 5) (-5)) ((8 * n) + 6) (-5)) (nI k) G Wk To Sl Ri (nI f) (nI b) oT oS oF (nI an) (nI as) Fo wo pa fa) H := hP
  refine lv_iinc (v := 7) (lv' := [(5, .int 7), (4, .int (nI n)), (0, .ref (h 1)), (1, .int fo), (2, .int we), (3, .int sz)]) hx hb dX4_add_79 hl (k := 0) rfl (by decide) (by decide) rfl (fun ls hl => ?_)
  refine lv_goto (tgt := 43) hx hb dX4_add_82 (by decide) ?_
  refine lv_iload hx hb dX4_add_43 (lv_at hl 0 rfl) ?_
  refine lv_bipush (v := 8) hx hb dX4_add_45 (by decide) ?_
  refine lv_icmp_ge (tgt := 85) hx hb dX4_add_47 (by decide) (fun h9 => absurd h9 (by decide)) (fun _ => ?_)
  refine lv_aload_n hx hb dX4_add_50 rfl (lv_at hl 2 rfl) ?_
  refine va_get (D := D) (ci := 4) (v := .ref (h 9)) (C := RX4) (T := TX4) (N := 6) hx hb hts hiX4 hown hK.1 hP 1 rfl rfl 3 (by decide) kf21 (fun _ h9 => h9) rfl dX4_add_51 ?_
  refine lv_iload hx hb dX4_add_54 (lv_at hl 1 rfl) ?_
  refine lv_bipush (v := 8) hx hb dX4_add_56 (by decide) ?_
  refine lv_imul hx hb dX4_add_58 ?_
  refine tp_i (y := nI (8 * n)) ((pk_mul n 8).trans (congrArg nI (Nat.mul_comm _ _))) ?_
  refine lv_iload hx hb dX4_add_59 (lv_at hl 0 rfl) ?_
  refine lv_iadd hx hb dX4_add_61 ?_
  refine tp_i (y := nI ((8 * n) + 7)) (nI_add (8 * n) 7) ?_
  refine lv_lconst (v := 0) hx hb dX4_add_62 (by decide) ?_
  refine ga_lst hx hb hK hP (sl_D hh) hS 9 rfl ((8 * n) + 7) (rfl) (by omega) (by decide) dX4_add_63 (fun H locs hP hS => ?_)
  have hP : va_P D kC (sl_W cI cJ h (nI n) (upd F n fo) (upd Wt n we) (upd Sz n sz) (vp_updL (vp_updL (vp_updL (vp_updL (vp_updL (vp_updL (vp_updL (vp_updL Nu ((8 * n) + 0) 0) ((8 * n) + 1) 0) ((8 * n) + 2) 0) ((8 * n) + 3) 0) ((8 * n) + 4) 0) ((8 * n) + 5) 0) ((8 * n) + 6) 0) ((8 * n) + 7) 0) (upd (upd (upd (upd (upd (upd (upd Mb ((8 * n) + 0) (-5)) ((8 * n) + 1) (-5)) ((8 * n) + 2) (-5)) ((8 * n) + 3) (-5)) ((8 * n) + 4) (-5)) ((8 * n) + 5) (-5)) ((8 * n) + 6) (-5)) (nI k) G Wk To Sl Ri (nI f) (nI b) oT oS oF (nI an) (nI as) Fo wo pa fa) H := hP
  refine lv_aload_n hx hb dX4_add_64 rfl (lv_at hl 2 rfl) ?_
  refine va_get (D := D) (ci := 4) (v := .ref (h 10)) (C := RX4) (T := TX4) (N := 6) hx hb hts hiX4 hown hK.1 hP 1 rfl rfl 4 (by decide) kf25 (fun _ h9 => h9) rfl dX4_add_65 ?_
  refine lv_iload hx hb dX4_add_68 (lv_at hl 1 rfl) ?_
  refine lv_bipush (v := 8) hx hb dX4_add_70 (by decide) ?_
  refine lv_imul hx hb dX4_add_72 ?_
  refine tp_i (y := nI (8 * n)) ((pk_mul n 8).trans (congrArg nI (Nat.mul_comm _ _))) ?_
  refine lv_iload hx hb dX4_add_73 (lv_at hl 0 rfl) ?_
  refine lv_iadd hx hb dX4_add_75 ?_
  refine tp_i (y := nI ((8 * n) + 7)) (nI_add (8 * n) 7) ?_
  refine lv_bipush (v := (-5)) hx hb dX4_add_76 (by decide) ?_
  refine ga_ist hx hb hK hP (sl_D hh) hS 10 rfl ((8 * n) + 7) (rfl) (by omega) (by decide) dX4_add_78 (fun H locs hP hS => ?_)
  have hP : va_P D kC (sl_W cI cJ h (nI n) (upd F n fo) (upd Wt n we) (upd Sz n sz) (vp_updL (vp_updL (vp_updL (vp_updL (vp_updL (vp_updL (vp_updL (vp_updL Nu ((8 * n) + 0) 0) ((8 * n) + 1) 0) ((8 * n) + 2) 0) ((8 * n) + 3) 0) ((8 * n) + 4) 0) ((8 * n) + 5) 0) ((8 * n) + 6) 0) ((8 * n) + 7) 0) (upd (upd (upd (upd (upd (upd (upd (upd Mb ((8 * n) + 0) (-5)) ((8 * n) + 1) (-5)) ((8 * n) + 2) (-5)) ((8 * n) + 3) (-5)) ((8 * n) + 4) (-5)) ((8 * n) + 5) (-5)) ((8 * n) + 6) (-5)) ((8 * n) + 7) (-5)) (nI k) G Wk To Sl Ri (nI f) (nI b) oT oS oF (nI an) (nI as) Fo wo pa fa) H := hP
  refine lv_iinc (v := 8) (lv' := [(5, .int 8), (4, .int (nI n)), (0, .ref (h 1)), (1, .int fo), (2, .int we), (3, .int sz)]) hx hb dX4_add_79 hl (k := 0) rfl (by decide) (by decide) rfl (fun ls hl => ?_)
  refine lv_goto (tgt := 43) hx hb dX4_add_82 (by decide) ?_
  refine lv_iload hx hb dX4_add_43 (lv_at hl 0 rfl) ?_
  refine lv_bipush (v := 8) hx hb dX4_add_45 (by decide) ?_
  refine lv_icmp_ge (tgt := 85) hx hb dX4_add_47 (by decide) (fun _ => ?_) (fun h9 => absurd (by decide) h9)
  refine lv_aload_n hx hb dX4_add_85 rfl (lv_at hl 2 rfl) ?_
  refine lv_dup hx hb dX4_add_86 rfl ?_
  refine va_get (D := D) (ci := 4) (v := .int (nI n)) (C := RX4) (T := TX4) (N := 6) hx hb hts hiX4 hown hK.1 hP 1 rfl rfl 5 (by decide) kf28 (fun _ h9 => h9) rfl dX4_add_87 ?_
  refine lv_iconst (v := 1) hx hb dX4_add_90 (by decide) ?_
  refine lv_iadd hx hb dX4_add_91 ?_
  refine tp_i (y := nI (n + 1)) (nI_add n 1) ?_
  refine va_put (D := D) (ci := 4) (v := .int (nI (n + 1))) (ty := .int) (C := RX4) (T := TX4) (N := 6) hx hb hts hiX4 tyX4 tyX4_ok nmX4 hown hK.1 hP (sl_D hh) hS 1 rfl rfl 5 (by decide) kf28 (fun _ h9 => h9) rfl (by decide +kernel) rfl rfl (Nat.le_of_ble_eq_true rfl) dX4_add_92 (fun H locs hP _ hS => ?_)
  have hP : va_P D kC (sl_W cI cJ h (nI (n + 1)) (upd F n fo) (upd Wt n we) (upd Sz n sz) (vp_updL (vp_updL (vp_updL (vp_updL (vp_updL (vp_updL (vp_updL (vp_updL Nu ((8 * n) + 0) 0) ((8 * n) + 1) 0) ((8 * n) + 2) 0) ((8 * n) + 3) 0) ((8 * n) + 4) 0) ((8 * n) + 5) 0) ((8 * n) + 6) 0) ((8 * n) + 7) 0) (upd (upd (upd (upd (upd (upd (upd (upd Mb ((8 * n) + 0) (-5)) ((8 * n) + 1) (-5)) ((8 * n) + 2) (-5)) ((8 * n) + 3) (-5)) ((8 * n) + 4) (-5)) ((8 * n) + 5) (-5)) ((8 * n) + 6) (-5)) ((8 * n) + 7) (-5)) (nI k) G Wk To Sl Ri (nI f) (nI b) oT oS oF (nI an) (nI as) Fo wo pa fa) H := hP
  refine lv_iload hx hb dX4_add_95 (lv_at hl 1 rfl) ?_
  exact W.iret (v := nI n) hx hb hr (fun t9 ht _ => ⟨congrArg (fun z => Outcome.returned (some (Value.int z))) (rfl), by rw [ht]; exact hP, hS.F ht⟩) hS.2.2 dX4_add_97
set_option maxHeartbeats 4000000 in
set_option maxRecDepth 100000 in
theorem c_X4_addF (hh : ad_ok h 20) (hn : n = 100) (fo we sz : Int32) : Met l yX4_add wsX4_add ({ frames := 1, cells := 0, slots := 0, locals := 20 }) (wd_P D cI cJ [.ref (h 1), .int fo, .int we, .int sz] (sl_W cI cJ h (nI n) F Wt Sz Nu Mb (nI k) G Wk To Sl Ri (nI f) (nI b) oT oS oF (nI an) (nI as) Fo wo pa fa)) (pu_Q (some (.int (-4)))) 0 0 (fun _ => False) := by
  refine Met.ofW (cc := cX4_add) (maxL := 6) (ret := (some .int)) (by decide) rfl ?_
  intro p e s m args below meth c s₁ B hml hv
  obtain ⟨rfl, hP, hK⟩ := hv
  have hx := B.exec
  have hb := B.bytes
  have hr := B.returns
  have hts := atoms_spec (ws := wsX4_add) B.pre
  have hown : s.vm.findClass RX4 = some m.cls := findClass_of_methodNamed B.named
  have hlocks := B.notSynchronized
  have hl := lv_entry ([.ref (h 1), .int fo, .int we, .int sz]) (n := 6) (Nat.le_of_ble_eq_true rfl)
  rw [lg_entry_eq]
  generalize (lg_sl ([.ref (h 1), .int fo, .int we, .int sz]) ++ List.replicate (6 - (lg_sl ([.ref (h 1), .int fo, .int we, .int sz])).length) Slot.unset).toArray = ls at hl ⊢
  have hl : lv_has ls 6 [(0, .ref (h 1)), (1, .int fo), (2, .int we), (3, .int sz)] := hl
  refine lv_aload_n hx hb dX4_add_0 rfl (lv_at hl 0 rfl) ?_
  refine pu_callb (va_runV (As := []) (rest := []) ⟨hx, hb, hml, hown, hts⟩ (c_X4_areFull hh (by omega)) (cwV 0 hts gX4_add_X4_areFull rfl rfl rfl (by decide +kernel) ⟨Nat.le_of_ble_eq_true rfl, Nat.le_of_ble_eq_true rfl⟩) (wd_preV (ci := 4) (q0 := 1) hP hK rfl rfl) rfl rfl hl.1 rfl (lv_room (Nat.le_of_ble_eq_true rfl)) dX4_add_1 ⟨Nat.zero_le _, Nat.zero_le _⟩) (fun _ => ?_) (fun h9 => absurd (show decide (100 ≤ n) = true by simp; omega) (by rw [h9]; decide))
  refine lv_if_eq (tgt := 10) hx hb dX4_add_4 (by decide) (fun h9 => absurd h9 (by decide)) (fun _ => ?_)
  refine lv_bipush (v := (-4)) hx hb dX4_add_7 (by decide) ?_
  exact W.iret (v := (-4)) hx hb hr (fun t9 ht _ => ⟨congrArg (fun z => Outcome.returned (some (Value.int z))) (rfl), ht⟩) (fun _ h9 => nomatch h9) dX4_add_9
set_option maxHeartbeats 4000000 in
set_option maxRecDepth 100000 in
theorem c_X4_formOf (hh : ad_ok h 20) (hn : n ≤ 100) (r : Nat) (hr9 : r < n) : Met l yX4_formOf wsX4_formOf ({ frames := 1, cells := 0, slots := 0, locals := 21 }) (wd_P D cI cJ [.ref (h 1), .int (nI r)] (sl_W cI cJ h (nI n) F Wt Sz Nu Mb (nI k) G Wk To Sl Ri (nI f) (nI b) oT oS oF (nI an) (nI as) Fo wo pa fa)) (pu_Q (some (.int (F r)))) 0 0 (fun _ => False) := by
  refine Met.ofW (cc := cX4_formOf) (maxL := 2) (ret := (some .int)) (by decide) rfl ?_
  intro p e s m args below meth c s₁ B hml hv
  obtain ⟨rfl, hP, hK⟩ := hv
  have hx := B.exec
  have hb := B.bytes
  have hr := B.returns
  have hts := atoms_spec (ws := wsX4_formOf) B.pre
  have hown : s.vm.findClass RX4 = some m.cls := findClass_of_methodNamed B.named
  have hlocks := B.notSynchronized
  have hiX4 : ∀ w ∈ u_ws RX4 TX4 6, w ∈ wsX4_formOf := by decide +kernel
  have kf9 := hts (.fieldLink RX4 9 "SortingLine$Things" "forms" "[I") (by decide +kernel)
  have hl := lv_entry ([.ref (h 1), .int (nI r)]) (n := 2) (Nat.le_of_ble_eq_true rfl)
  rw [lg_entry_eq]
  generalize (lg_sl ([.ref (h 1), .int (nI r)]) ++ List.replicate (2 - (lg_sl ([.ref (h 1), .int (nI r)])).length) Slot.unset).toArray = ls at hl ⊢
  have hl : lv_has ls 2 [(0, .ref (h 1)), (1, .int (nI r))] := hl
  refine lv_aload_n hx hb dX4_formOf_0 rfl (lv_at hl 0 rfl) ?_
  refine lv_iload_n hx hb dX4_formOf_1 rfl (lv_at hl 1 rfl) ?_
  refine pu_callb (va_runV (As := [.int (nI r)]) (rest := []) ⟨hx, hb, hml, hown, hts⟩ (c_X4_hold hh (nI r)) (cwV 1 hts gX4_formOf_X4_hold rfl rfl rfl (by decide +kernel) ⟨Nat.le_of_ble_eq_true rfl, Nat.le_of_ble_eq_true rfl⟩) (wd_preV (ci := 4) (q0 := 1) hP hK rfl rfl) rfl rfl hl.1 rfl (lv_room (Nat.le_of_ble_eq_true rfl)) dX4_formOf_2 ⟨Nat.zero_le _, Nat.zero_le _⟩) (fun _ => ?_) (fun h9 => absurd (p_in_nI hr9 (by omega)) (by rw [h9]; decide))
  refine lv_if_eq (tgt := 17) hx hb dX4_formOf_5 (by decide) (fun h9 => absurd h9 (by decide)) (fun _ => ?_)
  refine lv_aload_n hx hb dX4_formOf_8 rfl (lv_at hl 0 rfl) ?_
  refine va_get (D := D) (ci := 4) (v := .ref (h 6)) (C := RX4) (T := TX4) (N := 6) hx hb hts hiX4 hown hK.1 hP 1 rfl rfl 0 (by decide) kf9 (fun _ h9 => h9) rfl dX4_formOf_9 ?_
  refine lv_iload_n hx hb dX4_formOf_12 rfl (lv_at hl 1 rfl) ?_
  refine ga_ild hx hb hK hP 6 rfl r (rfl) (by omega) (by decide) dX4_formOf_13 ?_
  refine lv_goto (tgt := 19) hx hb dX4_formOf_14 (by decide) ?_
  exact W.iret (v := F r) hx hb hr (fun t9 ht _ => ⟨congrArg (fun z => Outcome.returned (some (Value.int z))) (rfl), ht⟩) (fun _ h9 => nomatch h9) dX4_formOf_19
set_option maxHeartbeats 4000000 in
set_option maxRecDepth 100000 in
theorem c_X4_weightOf (hh : ad_ok h 20) (hn : n ≤ 100) (r : Nat) (hr9 : r < n) : Met l yX4_weightOf wsX4_weightOf ({ frames := 1, cells := 0, slots := 0, locals := 21 }) (wd_P D cI cJ [.ref (h 1), .int (nI r)] (sl_W cI cJ h (nI n) F Wt Sz Nu Mb (nI k) G Wk To Sl Ri (nI f) (nI b) oT oS oF (nI an) (nI as) Fo wo pa fa)) (pu_Q (some (.int (Wt r)))) 0 0 (fun _ => False) := by
  refine Met.ofW (cc := cX4_weightOf) (maxL := 2) (ret := (some .int)) (by decide) rfl ?_
  intro p e s m args below meth c s₁ B hml hv
  obtain ⟨rfl, hP, hK⟩ := hv
  have hx := B.exec
  have hb := B.bytes
  have hr := B.returns
  have hts := atoms_spec (ws := wsX4_weightOf) B.pre
  have hown : s.vm.findClass RX4 = some m.cls := findClass_of_methodNamed B.named
  have hlocks := B.notSynchronized
  have hiX4 : ∀ w ∈ u_ws RX4 TX4 6, w ∈ wsX4_weightOf := by decide +kernel
  have kf15 := hts (.fieldLink RX4 15 "SortingLine$Things" "weights" "[I") (by decide +kernel)
  have hl := lv_entry ([.ref (h 1), .int (nI r)]) (n := 2) (Nat.le_of_ble_eq_true rfl)
  rw [lg_entry_eq]
  generalize (lg_sl ([.ref (h 1), .int (nI r)]) ++ List.replicate (2 - (lg_sl ([.ref (h 1), .int (nI r)])).length) Slot.unset).toArray = ls at hl ⊢
  have hl : lv_has ls 2 [(0, .ref (h 1)), (1, .int (nI r))] := hl
  refine lv_aload_n hx hb dX4_weightOf_0 rfl (lv_at hl 0 rfl) ?_
  refine lv_iload_n hx hb dX4_weightOf_1 rfl (lv_at hl 1 rfl) ?_
  refine pu_callb (va_runV (As := [.int (nI r)]) (rest := []) ⟨hx, hb, hml, hown, hts⟩ (c_X4_hold hh (nI r)) (cwV 1 hts gX4_weightOf_X4_hold rfl rfl rfl (by decide +kernel) ⟨Nat.le_of_ble_eq_true rfl, Nat.le_of_ble_eq_true rfl⟩) (wd_preV (ci := 4) (q0 := 1) hP hK rfl rfl) rfl rfl hl.1 rfl (lv_room (Nat.le_of_ble_eq_true rfl)) dX4_weightOf_2 ⟨Nat.zero_le _, Nat.zero_le _⟩) (fun _ => ?_) (fun h9 => absurd (p_in_nI hr9 (by omega)) (by rw [h9]; decide))
  refine lv_if_eq (tgt := 17) hx hb dX4_weightOf_5 (by decide) (fun h9 => absurd h9 (by decide)) (fun _ => ?_)
  refine lv_aload_n hx hb dX4_weightOf_8 rfl (lv_at hl 0 rfl) ?_
  refine va_get (D := D) (ci := 4) (v := .ref (h 7)) (C := RX4) (T := TX4) (N := 6) hx hb hts hiX4 hown hK.1 hP 1 rfl rfl 1 (by decide) kf15 (fun _ h9 => h9) rfl dX4_weightOf_9 ?_
  refine lv_iload_n hx hb dX4_weightOf_12 rfl (lv_at hl 1 rfl) ?_
  refine ga_ild hx hb hK hP 7 rfl r (rfl) (by omega) (by decide) dX4_weightOf_13 ?_
  refine lv_goto (tgt := 18) hx hb dX4_weightOf_14 (by decide) ?_
  exact W.iret (v := Wt r) hx hb hr (fun t9 ht _ => ⟨congrArg (fun z => Outcome.returned (some (Value.int z))) (rfl), ht⟩) (fun _ h9 => nomatch h9) dX4_weightOf_18
set_option maxHeartbeats 4000000 in
set_option maxRecDepth 100000 in
theorem c_X4_sizeOf (hh : ad_ok h 20) (hn : n ≤ 100) (r : Nat) (hr9 : r < n) : Met l yX4_sizeOf wsX4_sizeOf ({ frames := 1, cells := 0, slots := 0, locals := 21 }) (wd_P D cI cJ [.ref (h 1), .int (nI r)] (sl_W cI cJ h (nI n) F Wt Sz Nu Mb (nI k) G Wk To Sl Ri (nI f) (nI b) oT oS oF (nI an) (nI as) Fo wo pa fa)) (pu_Q (some (.int (Sz r)))) 0 0 (fun _ => False) := by
  refine Met.ofW (cc := cX4_sizeOf) (maxL := 2) (ret := (some .int)) (by decide) rfl ?_
  intro p e s m args below meth c s₁ B hml hv
  obtain ⟨rfl, hP, hK⟩ := hv
  have hx := B.exec
  have hb := B.bytes
  have hr := B.returns
  have hts := atoms_spec (ws := wsX4_sizeOf) B.pre
  have hown : s.vm.findClass RX4 = some m.cls := findClass_of_methodNamed B.named
  have hlocks := B.notSynchronized
  have hiX4 : ∀ w ∈ u_ws RX4 TX4 6, w ∈ wsX4_sizeOf := by decide +kernel
  have kf18 := hts (.fieldLink RX4 18 "SortingLine$Things" "sizes" "[I") (by decide +kernel)
  have hl := lv_entry ([.ref (h 1), .int (nI r)]) (n := 2) (Nat.le_of_ble_eq_true rfl)
  rw [lg_entry_eq]
  generalize (lg_sl ([.ref (h 1), .int (nI r)]) ++ List.replicate (2 - (lg_sl ([.ref (h 1), .int (nI r)])).length) Slot.unset).toArray = ls at hl ⊢
  have hl : lv_has ls 2 [(0, .ref (h 1)), (1, .int (nI r))] := hl
  refine lv_aload_n hx hb dX4_sizeOf_0 rfl (lv_at hl 0 rfl) ?_
  refine lv_iload_n hx hb dX4_sizeOf_1 rfl (lv_at hl 1 rfl) ?_
  refine pu_callb (va_runV (As := [.int (nI r)]) (rest := []) ⟨hx, hb, hml, hown, hts⟩ (c_X4_hold hh (nI r)) (cwV 1 hts gX4_sizeOf_X4_hold rfl rfl rfl (by decide +kernel) ⟨Nat.le_of_ble_eq_true rfl, Nat.le_of_ble_eq_true rfl⟩) (wd_preV (ci := 4) (q0 := 1) hP hK rfl rfl) rfl rfl hl.1 rfl (lv_room (Nat.le_of_ble_eq_true rfl)) dX4_sizeOf_2 ⟨Nat.zero_le _, Nat.zero_le _⟩) (fun _ => ?_) (fun h9 => absurd (p_in_nI hr9 (by omega)) (by rw [h9]; decide))
  refine lv_if_eq (tgt := 17) hx hb dX4_sizeOf_5 (by decide) (fun h9 => absurd h9 (by decide)) (fun _ => ?_)
  refine lv_aload_n hx hb dX4_sizeOf_8 rfl (lv_at hl 0 rfl) ?_
  refine va_get (D := D) (ci := 4) (v := .ref (h 8)) (C := RX4) (T := TX4) (N := 6) hx hb hts hiX4 hown hK.1 hP 1 rfl rfl 2 (by decide) kf18 (fun _ h9 => h9) rfl dX4_sizeOf_9 ?_
  refine lv_iload_n hx hb dX4_sizeOf_12 rfl (lv_at hl 1 rfl) ?_
  refine ga_ild hx hb hK hP 8 rfl r (rfl) (by omega) (by decide) dX4_sizeOf_13 ?_
  refine lv_goto (tgt := 18) hx hb dX4_sizeOf_14 (by decide) ?_
  exact W.iret (v := Sz r) hx hb hr (fun t9 ht _ => ⟨congrArg (fun z => Outcome.returned (some (Value.int z))) (rfl), ht⟩) (fun _ h9 => nomatch h9) dX4_sizeOf_18
theorem sw_X5_alsoIs_1 (x : Int32) : ((x.toInt < 1 ∨ 13 < x.toInt) ∧ ¬ x = 1 ∧ ¬ x = 2 ∧ ¬ x = 3 ∧ ¬ x = 4 ∧ ¬ x = 5 ∧ ¬ x = 6 ∧ ¬ x = 7 ∧ ¬ x = 8 ∧ ¬ x = 9 ∧ ¬ x = 10 ∧ ¬ x = 11 ∧ ¬ x = 12 ∧ ¬ x = 13) ∨ x = 1 ∨ x = 2 ∨ x = 3 ∨ x = 4 ∨ x = 5 ∨ x = 6 ∨ x = 7 ∨ x = 8 ∨ x = 9 ∨ x = 10 ∨ x = 11 ∨ x = 12 ∨ x = 13 := by
  by_cases h1 : x.toInt < 1
  · exact Or.inl ⟨Or.inl h1, (fun h => by rw [h] at h1; exact absurd h1 (by decide)), (fun h => by rw [h] at h1; exact absurd h1 (by decide)), (fun h => by rw [h] at h1; exact absurd h1 (by decide)), (fun h => by rw [h] at h1; exact absurd h1 (by decide)), (fun h => by rw [h] at h1; exact absurd h1 (by decide)), (fun h => by rw [h] at h1; exact absurd h1 (by decide)), (fun h => by rw [h] at h1; exact absurd h1 (by decide)), (fun h => by rw [h] at h1; exact absurd h1 (by decide)), (fun h => by rw [h] at h1; exact absurd h1 (by decide)), (fun h => by rw [h] at h1; exact absurd h1 (by decide)), (fun h => by rw [h] at h1; exact absurd h1 (by decide)), (fun h => by rw [h] at h1; exact absurd h1 (by decide)), (fun h => by rw [h] at h1; exact absurd h1 (by decide))⟩
  by_cases h2 : 13 < x.toInt
  · exact Or.inl ⟨Or.inr h2, (fun h => by rw [h] at h2; exact absurd h2 (by decide)), (fun h => by rw [h] at h2; exact absurd h2 (by decide)), (fun h => by rw [h] at h2; exact absurd h2 (by decide)), (fun h => by rw [h] at h2; exact absurd h2 (by decide)), (fun h => by rw [h] at h2; exact absurd h2 (by decide)), (fun h => by rw [h] at h2; exact absurd h2 (by decide)), (fun h => by rw [h] at h2; exact absurd h2 (by decide)), (fun h => by rw [h] at h2; exact absurd h2 (by decide)), (fun h => by rw [h] at h2; exact absurd h2 (by decide)), (fun h => by rw [h] at h2; exact absurd h2 (by decide)), (fun h => by rw [h] at h2; exact absurd h2 (by decide)), (fun h => by rw [h] at h2; exact absurd h2 (by decide)), (fun h => by rw [h] at h2; exact absurd h2 (by decide))⟩
  have h3 : x.toInt = 1 ∨ x.toInt = 2 ∨ x.toInt = 3 ∨ x.toInt = 4 ∨ x.toInt = 5 ∨ x.toInt = 6 ∨ x.toInt = 7 ∨ x.toInt = 8 ∨ x.toInt = 9 ∨ x.toInt = 10 ∨ x.toInt = 11 ∨ x.toInt = 12 ∨ x.toInt = 13 := by omega
  refine Or.inr ?_
  rcases h3 with h | h | h | h | h | h | h | h | h | h | h | h | h
  · exact Or.inl <| (Int32.toInt_inj.mp (h.trans (by decide)))
  · exact Or.inr <| Or.inl <| (Int32.toInt_inj.mp (h.trans (by decide)))
  · exact Or.inr <| Or.inr <| Or.inl <| (Int32.toInt_inj.mp (h.trans (by decide)))
  · exact Or.inr <| Or.inr <| Or.inr <| Or.inl <| (Int32.toInt_inj.mp (h.trans (by decide)))
  · exact Or.inr <| Or.inr <| Or.inr <| Or.inr <| Or.inl <| (Int32.toInt_inj.mp (h.trans (by decide)))
  · exact Or.inr <| Or.inr <| Or.inr <| Or.inr <| Or.inr <| Or.inl <| (Int32.toInt_inj.mp (h.trans (by decide)))
  · exact Or.inr <| Or.inr <| Or.inr <| Or.inr <| Or.inr <| Or.inr <| Or.inl <| (Int32.toInt_inj.mp (h.trans (by decide)))
  · exact Or.inr <| Or.inr <| Or.inr <| Or.inr <| Or.inr <| Or.inr <| Or.inr <| Or.inl <| (Int32.toInt_inj.mp (h.trans (by decide)))
  · exact Or.inr <| Or.inr <| Or.inr <| Or.inr <| Or.inr <| Or.inr <| Or.inr <| Or.inr <| Or.inl <| (Int32.toInt_inj.mp (h.trans (by decide)))
  · exact Or.inr <| Or.inr <| Or.inr <| Or.inr <| Or.inr <| Or.inr <| Or.inr <| Or.inr <| Or.inr <| Or.inl <| (Int32.toInt_inj.mp (h.trans (by decide)))
  · exact Or.inr <| Or.inr <| Or.inr <| Or.inr <| Or.inr <| Or.inr <| Or.inr <| Or.inr <| Or.inr <| Or.inr <| Or.inl <| (Int32.toInt_inj.mp (h.trans (by decide)))
  · exact Or.inr <| Or.inr <| Or.inr <| Or.inr <| Or.inr <| Or.inr <| Or.inr <| Or.inr <| Or.inr <| Or.inr <| Or.inr <| Or.inl <| (Int32.toInt_inj.mp (h.trans (by decide)))
  · exact Or.inr <| Or.inr <| Or.inr <| Or.inr <| Or.inr <| Or.inr <| Or.inr <| Or.inr <| Or.inr <| Or.inr <| Or.inr <| Or.inr <| (Int32.toInt_inj.mp (h.trans (by decide)))
set_option maxHeartbeats 4000000 in
set_option maxRecDepth 100000 in
theorem c_X5_alsoIs (fo kd : Int32) : Met l yX5_alsoIs wsX5_alsoIs ({ frames := 0, cells := 0, slots := 0, locals := 0 }) (wd_P D cI cJ [.int fo, .int kd] (sl_W cI cJ h (nI n) F Wt Sz Nu Mb (nI k) G Wk To Sl Ri (nI f) (nI b) oT oS oF (nI an) (nI as) Fo wo pa fa)) (pu_Q (some (.int (bI (also fo kd))))) 0 0 (fun _ => False) := by
  refine Met.ofW (cc := cX5_alsoIs) (maxL := 2) (ret := (some .boolean)) (by decide) rfl ?_
  intro p e s m args below meth c s₁ B hml hv
  obtain ⟨rfl, hP, hK⟩ := hv
  have hx := B.exec
  have hb := B.bytes
  have hr := B.returns
  have hts := atoms_spec (ws := wsX5_alsoIs) B.pre
  have hown : s.vm.findClass RX5 = some m.cls := findClass_of_methodNamed B.named
  have hlocks := B.notSynchronized
  have hl := lv_entry ([.int fo, .int kd]) (n := 2) (Nat.le_of_ble_eq_true rfl)
  rw [lg_entry_eq]
  generalize (lg_sl ([.int fo, .int kd]) ++ List.replicate (2 - (lg_sl ([.int fo, .int kd])).length) Slot.unset).toArray = ls at hl ⊢
  have hl : lv_has ls 2 [(0, .int fo), (1, .int kd)] := hl
  refine lv_iload_n hx hb dX5_alsoIs_0 rfl (lv_at hl 0 rfl) ?_
  rcases (sw_X5_alsoIs_1 fo) with ho1 | rfl | rfl | rfl | rfl | rfl | rfl | rfl | rfl | rfl | rfl | rfl | rfl | rfl
  · skip
    refine lv_tableOut (tgt := 171) hx hb dX5_alsoIs_1 ho1.1 (by decide) ?_
    refine lv_iconst (v := 0) hx hb dX5_alsoIs_171 (by decide) ?_
    exact W.zret (ty := .boolean) (v := 0) hx hb hr (by decide) (fun t9 ht _ => ⟨congrArg (fun z => Outcome.returned (some (Value.int z))) (by simp [also, bI, ho1.2]), ht⟩) (fun _ h9 => nomatch h9) dX5_alsoIs_172
  · skip
    refine lv_tableIn (off := 67) (tgt := 68) hx hb dX5_alsoIs_1 (by decide) (by decide) (by decide) (by decide) ?_
    refine lv_iload_n hx hb dX5_alsoIs_68 rfl (lv_at hl 1 rfl) ?_
    refine lv_if_ne (tgt := 76) hx hb dX5_alsoIs_69 (by decide) (fun c69 => ?_) (fun c69 => ?_)
    · skip
      refine lv_iconst (v := 0) hx hb dX5_alsoIs_76 (by decide) ?_
      refine lv_goto (tgt := 172) hx hb dX5_alsoIs_77 (by decide) ?_
      exact W.zret (ty := .boolean) (v := 0) hx hb hr (by decide) (fun t9 ht _ => ⟨congrArg (fun z => Outcome.returned (some (Value.int z))) (by simp [also, bI, c69]), ht⟩) (fun _ h9 => nomatch h9) dX5_alsoIs_172
    · skip
      refine lv_iconst (v := 1) hx hb dX5_alsoIs_72 (by decide) ?_
      refine lv_goto (tgt := 172) hx hb dX5_alsoIs_73 (by decide) ?_
      exact W.zret (ty := .boolean) (v := 1) hx hb hr (by decide) (fun t9 ht _ => ⟨congrArg (fun z => Outcome.returned (some (Value.int z))) (by simp [also, bI, c69]), ht⟩) (fun _ h9 => nomatch h9) dX5_alsoIs_172
  · skip
    refine lv_tableIn (off := 79) (tgt := 80) hx hb dX5_alsoIs_1 (by decide) (by decide) (by decide) (by decide) ?_
    refine lv_iload_n hx hb dX5_alsoIs_80 rfl (lv_at hl 1 rfl) ?_
    refine lv_if_eq (tgt := 95) hx hb dX5_alsoIs_81 (by decide) (fun c81 => ?_) (fun c81 => ?_)
    · skip
      refine lv_iconst (v := 1) hx hb dX5_alsoIs_95 (by decide) ?_
      refine lv_goto (tgt := 172) hx hb dX5_alsoIs_96 (by decide) ?_
      exact W.zret (ty := .boolean) (v := 1) hx hb hr (by decide) (fun t9 ht _ => ⟨congrArg (fun z => Outcome.returned (some (Value.int z))) (by simp [also, bI, c81]), ht⟩) (fun _ h9 => nomatch h9) dX5_alsoIs_172
    · skip
      refine lv_iload_n hx hb dX5_alsoIs_84 rfl (lv_at hl 1 rfl) ?_
      refine lv_iconst (v := 1) hx hb dX5_alsoIs_85 (by decide) ?_
      refine lv_icmp_eq (tgt := 95) hx hb dX5_alsoIs_86 (by decide) (fun c86 => ?_) (fun c86 => ?_)
      · skip
        refine lv_iconst (v := 1) hx hb dX5_alsoIs_95 (by decide) ?_
        refine lv_goto (tgt := 172) hx hb dX5_alsoIs_96 (by decide) ?_
        exact W.zret (ty := .boolean) (v := 1) hx hb hr (by decide) (fun t9 ht _ => ⟨congrArg (fun z => Outcome.returned (some (Value.int z))) (by simp [also, bI, c81, c86]), ht⟩) (fun _ h9 => nomatch h9) dX5_alsoIs_172
      · skip
        refine lv_iload_n hx hb dX5_alsoIs_89 rfl (lv_at hl 1 rfl) ?_
        refine lv_bipush (v := 16) hx hb dX5_alsoIs_90 (by decide) ?_
        refine lv_icmp_ne (tgt := 99) hx hb dX5_alsoIs_92 (by decide) (fun c92 => ?_) (fun c92 => ?_)
        · skip
          refine lv_iconst (v := 0) hx hb dX5_alsoIs_99 (by decide) ?_
          refine lv_goto (tgt := 172) hx hb dX5_alsoIs_100 (by decide) ?_
          exact W.zret (ty := .boolean) (v := 0) hx hb hr (by decide) (fun t9 ht _ => ⟨congrArg (fun z => Outcome.returned (some (Value.int z))) (by simp [also, bI, c81, c86, c92]), ht⟩) (fun _ h9 => nomatch h9) dX5_alsoIs_172
        · skip
          refine lv_iconst (v := 1) hx hb dX5_alsoIs_95 (by decide) ?_
          refine lv_goto (tgt := 172) hx hb dX5_alsoIs_96 (by decide) ?_
          exact W.zret (ty := .boolean) (v := 1) hx hb hr (by decide) (fun t9 ht _ => ⟨congrArg (fun z => Outcome.returned (some (Value.int z))) (by simp [also, bI, c81, c86, c92]), ht⟩) (fun _ h9 => nomatch h9) dX5_alsoIs_172
  · skip
    refine lv_tableIn (off := 102) (tgt := 103) hx hb dX5_alsoIs_1 (by decide) (by decide) (by decide) (by decide) ?_
    refine lv_iload_n hx hb dX5_alsoIs_103 rfl (lv_at hl 1 rfl) ?_
    refine lv_bipush (v := 16) hx hb dX5_alsoIs_104 (by decide) ?_
    refine lv_icmp_ne (tgt := 113) hx hb dX5_alsoIs_106 (by decide) (fun c106 => ?_) (fun c106 => ?_)
    · skip
      refine lv_iconst (v := 0) hx hb dX5_alsoIs_113 (by decide) ?_
      refine lv_goto (tgt := 172) hx hb dX5_alsoIs_114 (by decide) ?_
      exact W.zret (ty := .boolean) (v := 0) hx hb hr (by decide) (fun t9 ht _ => ⟨congrArg (fun z => Outcome.returned (some (Value.int z))) (by simp [also, bI, c106]), ht⟩) (fun _ h9 => nomatch h9) dX5_alsoIs_172
    · skip
      refine lv_iconst (v := 1) hx hb dX5_alsoIs_109 (by decide) ?_
      refine lv_goto (tgt := 172) hx hb dX5_alsoIs_110 (by decide) ?_
      exact W.zret (ty := .boolean) (v := 1) hx hb hr (by decide) (fun t9 ht _ => ⟨congrArg (fun z => Outcome.returned (some (Value.int z))) (by simp [also, bI, c106]), ht⟩) (fun _ h9 => nomatch h9) dX5_alsoIs_172
  · skip
    refine lv_tableIn (off := 170) (tgt := 171) hx hb dX5_alsoIs_1 (by decide) (by decide) (by decide) (by decide) ?_
    refine lv_iconst (v := 0) hx hb dX5_alsoIs_171 (by decide) ?_
    exact W.zret (ty := .boolean) (v := 0) hx hb hr (by decide) (fun t9 ht _ => ⟨congrArg (fun z => Outcome.returned (some (Value.int z))) (by simp [also, bI]), ht⟩) (fun _ h9 => nomatch h9) dX5_alsoIs_172
  · skip
    refine lv_tableIn (off := 170) (tgt := 171) hx hb dX5_alsoIs_1 (by decide) (by decide) (by decide) (by decide) ?_
    refine lv_iconst (v := 0) hx hb dX5_alsoIs_171 (by decide) ?_
    exact W.zret (ty := .boolean) (v := 0) hx hb hr (by decide) (fun t9 ht _ => ⟨congrArg (fun z => Outcome.returned (some (Value.int z))) (by simp [also, bI]), ht⟩) (fun _ h9 => nomatch h9) dX5_alsoIs_172
  · skip
    refine lv_tableIn (off := 170) (tgt := 171) hx hb dX5_alsoIs_1 (by decide) (by decide) (by decide) (by decide) ?_
    refine lv_iconst (v := 0) hx hb dX5_alsoIs_171 (by decide) ?_
    exact W.zret (ty := .boolean) (v := 0) hx hb hr (by decide) (fun t9 ht _ => ⟨congrArg (fun z => Outcome.returned (some (Value.int z))) (by simp [also, bI]), ht⟩) (fun _ h9 => nomatch h9) dX5_alsoIs_172
  · skip
    refine lv_tableIn (off := 170) (tgt := 171) hx hb dX5_alsoIs_1 (by decide) (by decide) (by decide) (by decide) ?_
    refine lv_iconst (v := 0) hx hb dX5_alsoIs_171 (by decide) ?_
    exact W.zret (ty := .boolean) (v := 0) hx hb hr (by decide) (fun t9 ht _ => ⟨congrArg (fun z => Outcome.returned (some (Value.int z))) (by simp [also, bI]), ht⟩) (fun _ h9 => nomatch h9) dX5_alsoIs_172
  · skip
    refine lv_tableIn (off := 170) (tgt := 171) hx hb dX5_alsoIs_1 (by decide) (by decide) (by decide) (by decide) ?_
    refine lv_iconst (v := 0) hx hb dX5_alsoIs_171 (by decide) ?_
    exact W.zret (ty := .boolean) (v := 0) hx hb hr (by decide) (fun t9 ht _ => ⟨congrArg (fun z => Outcome.returned (some (Value.int z))) (by simp [also, bI]), ht⟩) (fun _ h9 => nomatch h9) dX5_alsoIs_172
  · skip
    refine lv_tableIn (off := 116) (tgt := 117) hx hb dX5_alsoIs_1 (by decide) (by decide) (by decide) (by decide) ?_
    refine lv_iload_n hx hb dX5_alsoIs_117 rfl (lv_at hl 1 rfl) ?_
    refine lv_bipush (v := 8) hx hb dX5_alsoIs_118 (by decide) ?_
    refine lv_icmp_ne (tgt := 127) hx hb dX5_alsoIs_120 (by decide) (fun c120 => ?_) (fun c120 => ?_)
    · skip
      refine lv_iconst (v := 0) hx hb dX5_alsoIs_127 (by decide) ?_
      refine lv_goto (tgt := 172) hx hb dX5_alsoIs_128 (by decide) ?_
      exact W.zret (ty := .boolean) (v := 0) hx hb hr (by decide) (fun t9 ht _ => ⟨congrArg (fun z => Outcome.returned (some (Value.int z))) (by simp [also, bI, c120]), ht⟩) (fun _ h9 => nomatch h9) dX5_alsoIs_172
    · skip
      refine lv_iconst (v := 1) hx hb dX5_alsoIs_123 (by decide) ?_
      refine lv_goto (tgt := 172) hx hb dX5_alsoIs_124 (by decide) ?_
      exact W.zret (ty := .boolean) (v := 1) hx hb hr (by decide) (fun t9 ht _ => ⟨congrArg (fun z => Outcome.returned (some (Value.int z))) (by simp [also, bI, c120]), ht⟩) (fun _ h9 => nomatch h9) dX5_alsoIs_172
  · skip
    refine lv_tableIn (off := 130) (tgt := 131) hx hb dX5_alsoIs_1 (by decide) (by decide) (by decide) (by decide) ?_
    refine lv_iload_n hx hb dX5_alsoIs_131 rfl (lv_at hl 1 rfl) ?_
    refine lv_bipush (v := 8) hx hb dX5_alsoIs_132 (by decide) ?_
    refine lv_icmp_eq (tgt := 149) hx hb dX5_alsoIs_134 (by decide) (fun c134 => ?_) (fun c134 => ?_)
    · skip
      refine lv_iconst (v := 1) hx hb dX5_alsoIs_149 (by decide) ?_
      refine lv_goto (tgt := 172) hx hb dX5_alsoIs_150 (by decide) ?_
      exact W.zret (ty := .boolean) (v := 1) hx hb hr (by decide) (fun t9 ht _ => ⟨congrArg (fun z => Outcome.returned (some (Value.int z))) (by simp [also, bI, c134]), ht⟩) (fun _ h9 => nomatch h9) dX5_alsoIs_172
    · skip
      refine lv_iload_n hx hb dX5_alsoIs_137 rfl (lv_at hl 1 rfl) ?_
      refine lv_bipush (v := 9) hx hb dX5_alsoIs_138 (by decide) ?_
      refine lv_icmp_eq (tgt := 149) hx hb dX5_alsoIs_140 (by decide) (fun c140 => ?_) (fun c140 => ?_)
      · skip
        refine lv_iconst (v := 1) hx hb dX5_alsoIs_149 (by decide) ?_
        refine lv_goto (tgt := 172) hx hb dX5_alsoIs_150 (by decide) ?_
        exact W.zret (ty := .boolean) (v := 1) hx hb hr (by decide) (fun t9 ht _ => ⟨congrArg (fun z => Outcome.returned (some (Value.int z))) (by simp [also, bI, c134, c140]), ht⟩) (fun _ h9 => nomatch h9) dX5_alsoIs_172
      · skip
        refine lv_iload_n hx hb dX5_alsoIs_143 rfl (lv_at hl 1 rfl) ?_
        refine lv_bipush (v := 11) hx hb dX5_alsoIs_144 (by decide) ?_
        refine lv_icmp_ne (tgt := 153) hx hb dX5_alsoIs_146 (by decide) (fun c146 => ?_) (fun c146 => ?_)
        · skip
          refine lv_iconst (v := 0) hx hb dX5_alsoIs_153 (by decide) ?_
          refine lv_goto (tgt := 172) hx hb dX5_alsoIs_154 (by decide) ?_
          exact W.zret (ty := .boolean) (v := 0) hx hb hr (by decide) (fun t9 ht _ => ⟨congrArg (fun z => Outcome.returned (some (Value.int z))) (by simp [also, bI, c134, c140, c146]), ht⟩) (fun _ h9 => nomatch h9) dX5_alsoIs_172
        · skip
          refine lv_iconst (v := 1) hx hb dX5_alsoIs_149 (by decide) ?_
          refine lv_goto (tgt := 172) hx hb dX5_alsoIs_150 (by decide) ?_
          exact W.zret (ty := .boolean) (v := 1) hx hb hr (by decide) (fun t9 ht _ => ⟨congrArg (fun z => Outcome.returned (some (Value.int z))) (by simp [also, bI, c134, c140, c146]), ht⟩) (fun _ h9 => nomatch h9) dX5_alsoIs_172
  · skip
    refine lv_tableIn (off := 170) (tgt := 171) hx hb dX5_alsoIs_1 (by decide) (by decide) (by decide) (by decide) ?_
    refine lv_iconst (v := 0) hx hb dX5_alsoIs_171 (by decide) ?_
    exact W.zret (ty := .boolean) (v := 0) hx hb hr (by decide) (fun t9 ht _ => ⟨congrArg (fun z => Outcome.returned (some (Value.int z))) (by simp [also, bI]), ht⟩) (fun _ h9 => nomatch h9) dX5_alsoIs_172
  · skip
    refine lv_tableIn (off := 170) (tgt := 171) hx hb dX5_alsoIs_1 (by decide) (by decide) (by decide) (by decide) ?_
    refine lv_iconst (v := 0) hx hb dX5_alsoIs_171 (by decide) ?_
    exact W.zret (ty := .boolean) (v := 0) hx hb hr (by decide) (fun t9 ht _ => ⟨congrArg (fun z => Outcome.returned (some (Value.int z))) (by simp [also, bI]), ht⟩) (fun _ h9 => nomatch h9) dX5_alsoIs_172
  · skip
    refine lv_tableIn (off := 156) (tgt := 157) hx hb dX5_alsoIs_1 (by decide) (by decide) (by decide) (by decide) ?_
    refine lv_iload_n hx hb dX5_alsoIs_157 rfl (lv_at hl 1 rfl) ?_
    refine lv_bipush (v := 12) hx hb dX5_alsoIs_158 (by decide) ?_
    refine lv_icmp_ne (tgt := 167) hx hb dX5_alsoIs_160 (by decide) (fun c160 => ?_) (fun c160 => ?_)
    · skip
      refine lv_iconst (v := 0) hx hb dX5_alsoIs_167 (by decide) ?_
      refine lv_goto (tgt := 172) hx hb dX5_alsoIs_168 (by decide) ?_
      exact W.zret (ty := .boolean) (v := 0) hx hb hr (by decide) (fun t9 ht _ => ⟨congrArg (fun z => Outcome.returned (some (Value.int z))) (by simp [also, bI, c160]), ht⟩) (fun _ h9 => nomatch h9) dX5_alsoIs_172
    · skip
      refine lv_iconst (v := 1) hx hb dX5_alsoIs_163 (by decide) ?_
      refine lv_goto (tgt := 172) hx hb dX5_alsoIs_164 (by decide) ?_
      exact W.zret (ty := .boolean) (v := 1) hx hb hr (by decide) (fun t9 ht _ => ⟨congrArg (fun z => Outcome.returned (some (Value.int z))) (by simp [also, bI, c160]), ht⟩) (fun _ h9 => nomatch h9) dX5_alsoIs_172
set_option maxHeartbeats 4000000 in
set_option maxRecDepth 100000 in
theorem c_X4_isOf (hh : ad_ok h 20) (hn : n ≤ 100) (r : Nat) (hr9 : r < n) (kd : Int32) : Met l yX4_isOf wsX4_isOf ({ frames := 1, cells := 0, slots := 0, locals := 21 }) (wd_P D cI cJ [.ref (h 1), .int (nI r), .int kd] (sl_W cI cJ h (nI n) F Wt Sz Nu Mb (nI k) G Wk To Sl Ri (nI f) (nI b) oT oS oF (nI an) (nI as) Fo wo pa fa)) (pu_Q (some (.int (bI (ko (F r) kd))))) 0 0 (fun _ => False) := by
  refine Met.ofW (cc := cX4_isOf) (maxL := 3) (ret := (some .boolean)) (by decide) rfl ?_
  intro p e s m args below meth c s₁ B hml hv
  obtain ⟨rfl, hP, hK⟩ := hv
  have hx := B.exec
  have hb := B.bytes
  have hr := B.returns
  have hts := atoms_spec (ws := wsX4_isOf) B.pre
  have hown : s.vm.findClass RX4 = some m.cls := findClass_of_methodNamed B.named
  have hlocks := B.notSynchronized
  have hiX4 : ∀ w ∈ u_ws RX4 TX4 6, w ∈ wsX4_isOf := by decide +kernel
  have kf9 := hts (.fieldLink RX4 9 "SortingLine$Things" "forms" "[I") (by decide +kernel)
  have hl := lv_entry ([.ref (h 1), .int (nI r), .int kd]) (n := 3) (Nat.le_of_ble_eq_true rfl)
  rw [lg_entry_eq]
  generalize (lg_sl ([.ref (h 1), .int (nI r), .int kd]) ++ List.replicate (3 - (lg_sl ([.ref (h 1), .int (nI r), .int kd])).length) Slot.unset).toArray = ls at hl ⊢
  have hl : lv_has ls 3 [(0, .ref (h 1)), (1, .int (nI r)), (2, .int kd)] := hl
  refine lv_aload_n hx hb dX4_isOf_0 rfl (lv_at hl 0 rfl) ?_
  refine lv_iload_n hx hb dX4_isOf_1 rfl (lv_at hl 1 rfl) ?_
  refine pu_callb (va_runV (As := [.int (nI r)]) (rest := []) ⟨hx, hb, hml, hown, hts⟩ (c_X4_hold hh (nI r)) (cwV 1 hts gX4_isOf_X4_hold rfl rfl rfl (by decide +kernel) ⟨Nat.le_of_ble_eq_true rfl, Nat.le_of_ble_eq_true rfl⟩) (wd_preV (ci := 4) (q0 := 1) hP hK rfl rfl) rfl rfl hl.1 rfl (lv_room (Nat.le_of_ble_eq_true rfl)) dX4_isOf_2 ⟨Nat.zero_le _, Nat.zero_le _⟩) (fun _ => ?_) (fun h9 => absurd (p_in_nI hr9 (by omega)) (by rw [h9]; decide))
  refine lv_if_ne (tgt := 10) hx hb dX4_isOf_5 (by decide) (fun _ => ?_) (fun h9 => absurd h9 (by decide))
  refine lv_iload_n hx hb dX4_isOf_10 rfl (lv_at hl 2 rfl) ?_
  refine lv_bipush (v := 17) hx hb dX4_isOf_11 (by decide) ?_
  refine lv_icmp_eq (tgt := 39) hx hb dX4_isOf_13 (by decide) (fun c13 => ?_) (fun c13 => ?_)
  · skip
    refine lv_iconst (v := 1) hx hb dX4_isOf_39 (by decide) ?_
    refine lv_goto (tgt := 44) hx hb dX4_isOf_40 (by decide) ?_
    exact W.zret (ty := .boolean) (v := 1) hx hb hr (by decide) (fun t9 ht _ => ⟨congrArg (fun z => Outcome.returned (some (Value.int z))) (by simp [ko, bI, c13]), ht⟩) (fun _ h9 => nomatch h9) dX4_isOf_44
  · skip
    refine lv_iload_n hx hb dX4_isOf_16 rfl (lv_at hl 2 rfl) ?_
    refine lv_aload_n hx hb dX4_isOf_17 rfl (lv_at hl 0 rfl) ?_
    refine va_get (D := D) (ci := 4) (v := .ref (h 6)) (C := RX4) (T := TX4) (N := 6) hx hb hts hiX4 hown hK.1 hP 1 rfl rfl 0 (by decide) kf9 (fun _ h9 => h9) rfl dX4_isOf_18 ?_
    refine lv_iload_n hx hb dX4_isOf_21 rfl (lv_at hl 1 rfl) ?_
    refine ga_ild hx hb hK hP 6 rfl r (rfl) (by omega) (by decide) dX4_isOf_22 ?_
    refine lv_icmp_eq (tgt := 39) hx hb dX4_isOf_23 (by decide) (fun c23 => ?_) (fun c23 => ?_)
    · skip
      refine lv_iconst (v := 1) hx hb dX4_isOf_39 (by decide) ?_
      refine lv_goto (tgt := 44) hx hb dX4_isOf_40 (by decide) ?_
      exact W.zret (ty := .boolean) (v := 1) hx hb hr (by decide) (fun t9 ht _ => ⟨congrArg (fun z => Outcome.returned (some (Value.int z))) (by simp [ko, bI, c13, c23]), ht⟩) (fun _ h9 => nomatch h9) dX4_isOf_44
    · skip
      refine lv_aload_n hx hb dX4_isOf_26 rfl (lv_at hl 0 rfl) ?_
      refine va_get (D := D) (ci := 4) (v := .ref (h 6)) (C := RX4) (T := TX4) (N := 6) hx hb hts hiX4 hown hK.1 hP 1 rfl rfl 0 (by decide) kf9 (fun _ h9 => h9) rfl dX4_isOf_27 ?_
      refine lv_iload_n hx hb dX4_isOf_30 rfl (lv_at hl 1 rfl) ?_
      refine ga_ild hx hb hK hP 6 rfl r (rfl) (by omega) (by decide) dX4_isOf_31 ?_
      refine lv_iload_n hx hb dX4_isOf_32 rfl (lv_at hl 2 rfl) ?_
      refine pu_callb (va_runSN (As := [.int (F r), .int kd]) (rest := []) ⟨hx, hb, hml, hown, hts⟩ (c_X5_alsoIs (F r) kd) ⟨va_cnB 2 hts ggX4_isOf_X5_alsoIs rfl rfl rfl hK.2.2.2.2.2.2.2.2.2 (hts (.initialized RX5) (by decide +kernel)) (by decide +kernel) ⟨Nat.le_of_ble_eq_true rfl, Nat.le_of_ble_eq_true rfl⟩, hts (.static yX5_alsoIs) (by decide +kernel), trivial⟩ (wd_preS hP hK) rfl rfl hl.1 rfl (lv_room (Nat.le_of_ble_eq_true rfl)) dX4_isOf_33 ⟨Nat.zero_le _, Nat.zero_le _⟩) (fun c33 => ?_) (fun c33 => ?_)
      · skip
        refine lv_if_eq (tgt := 43) hx hb dX4_isOf_36 (by decide) (fun h9 => absurd h9 (by decide)) (fun _ => ?_)
        refine lv_iconst (v := 1) hx hb dX4_isOf_39 (by decide) ?_
        refine lv_goto (tgt := 44) hx hb dX4_isOf_40 (by decide) ?_
        exact W.zret (ty := .boolean) (v := 1) hx hb hr (by decide) (fun t9 ht _ => ⟨congrArg (fun z => Outcome.returned (some (Value.int z))) (by simp [ko, bI, c13, c23, c33]), ht⟩) (fun _ h9 => nomatch h9) dX4_isOf_44
      · skip
        refine lv_if_eq (tgt := 43) hx hb dX4_isOf_36 (by decide) (fun _ => ?_) (fun h9 => absurd (by decide) h9)
        refine lv_iconst (v := 0) hx hb dX4_isOf_43 (by decide) ?_
        exact W.zret (ty := .boolean) (v := 0) hx hb hr (by decide) (fun t9 ht _ => ⟨congrArg (fun z => Outcome.returned (some (Value.int z))) (by simp [ko, bI, c13, c23, c33]), ht⟩) (fun _ h9 => nomatch h9) dX4_isOf_44
set_option maxHeartbeats 4000000 in
set_option maxRecDepth 100000 in
theorem c_X4_keyOf (hh : ad_ok h 20) (hn : n ≤ 100) (r : Nat) (hr9 : r < n) : Met l yX4_keyOf wsX4_keyOf ({ frames := 2, cells := 0, slots := 0, locals := 42 }) (wd_P D cI cJ [.ref (h 1), .int (nI r)] (sl_W cI cJ h (nI n) F Wt Sz Nu Mb (nI k) G Wk To Sl Ri (nI f) (nI b) oT oS oF (nI an) (nI as) Fo wo pa fa)) (pu_Q (some (.int (kyO (F r) (Wt r))))) 0 0 (fun _ => False) := by
  refine Met.ofW (cc := cX4_keyOf) (maxL := 2) (ret := (some .int)) (by decide) rfl ?_
  intro p e s m args below meth c s₁ B hml hv
  obtain ⟨rfl, hP, hK⟩ := hv
  have hx := B.exec
  have hb := B.bytes
  have hr := B.returns
  have hts := atoms_spec (ws := wsX4_keyOf) B.pre
  have hown : s.vm.findClass RX4 = some m.cls := findClass_of_methodNamed B.named
  have hlocks := B.notSynchronized
  have hl := lv_entry ([.ref (h 1), .int (nI r)]) (n := 2) (Nat.le_of_ble_eq_true rfl)
  rw [lg_entry_eq]
  generalize (lg_sl ([.ref (h 1), .int (nI r)]) ++ List.replicate (2 - (lg_sl ([.ref (h 1), .int (nI r)])).length) Slot.unset).toArray = ls at hl ⊢
  have hl : lv_has ls 2 [(0, .ref (h 1)), (1, .int (nI r))] := hl
  refine lv_aload_n hx hb dX4_keyOf_0 rfl (lv_at hl 0 rfl) ?_
  refine lv_iload_n hx hb dX4_keyOf_1 rfl (lv_at hl 1 rfl) ?_
  refine pu_calli (va_runV (As := [.int (nI r)]) (rest := []) ⟨hx, hb, hml, hown, hts⟩ (c_X4_formOf hh hn r (by omega)) (cwV 1 hts gX4_keyOf_X4_formOf rfl rfl rfl (by decide +kernel) ⟨Nat.le_of_ble_eq_true rfl, Nat.le_of_ble_eq_true rfl⟩) (wd_preV (ci := 4) (q0 := 1) hP hK rfl rfl) rfl rfl hl.1 rfl (lv_room (Nat.le_of_ble_eq_true rfl)) dX4_keyOf_2 ⟨Nat.zero_le _, Nat.zero_le _⟩) ?_
  refine lv_iconst (v := 2) hx hb dX4_keyOf_5 (by decide) ?_
  refine lv_icmp_ne (tgt := 21) hx hb dX4_keyOf_6 (by decide) (fun c6 => ?_) (fun c6 => ?_)
  · skip
    refine lv_aload_n hx hb dX4_keyOf_21 rfl (lv_at hl 0 rfl) ?_
    refine lv_iload_n hx hb dX4_keyOf_22 rfl (lv_at hl 1 rfl) ?_
    refine pu_calli (va_runV (As := [.int (nI r)]) (rest := []) ⟨hx, hb, hml, hown, hts⟩ (c_X4_weightOf hh hn r (by omega)) (cwV 1 hts gX4_keyOf_X4_weightOf rfl rfl rfl (by decide +kernel) ⟨Nat.le_of_ble_eq_true rfl, Nat.le_of_ble_eq_true rfl⟩) (wd_preV (ci := 4) (q0 := 1) hP hK rfl rfl) rfl rfl hl.1 rfl (lv_room (Nat.le_of_ble_eq_true rfl)) dX4_keyOf_23 ⟨Nat.zero_le _, Nat.zero_le _⟩) ?_
    refine lv_bipush (v := 7) hx hb dX4_keyOf_26 (by decide) ?_
    refine lv_isub hx hb dX4_keyOf_28 ?_
    exact W.iret (v := (Wt r) - 7) hx hb hr (fun t9 ht _ => ⟨congrArg (fun z => Outcome.returned (some (Value.int z))) (by simp [kyO, c6]), ht⟩) (fun _ h9 => nomatch h9) dX4_keyOf_29
  · skip
    refine lv_aload_n hx hb dX4_keyOf_9 rfl (lv_at hl 0 rfl) ?_
    refine lv_iload_n hx hb dX4_keyOf_10 rfl (lv_at hl 1 rfl) ?_
    refine pu_calli (va_runV (As := [.int (nI r)]) (rest := []) ⟨hx, hb, hml, hown, hts⟩ (c_X4_weightOf hh hn r (by omega)) (cwV 1 hts gX4_keyOf_X4_weightOf rfl rfl rfl (by decide +kernel) ⟨Nat.le_of_ble_eq_true rfl, Nat.le_of_ble_eq_true rfl⟩) (wd_preV (ci := 4) (q0 := 1) hP hK rfl rfl) rfl rfl hl.1 rfl (lv_room (Nat.le_of_ble_eq_true rfl)) dX4_keyOf_11 ⟨Nat.zero_le _, Nat.zero_le _⟩) ?_
    refine lv_iconst (v := 3) hx hb dX4_keyOf_14 (by decide) ?_
    refine lv_imul hx hb dX4_keyOf_15 ?_
    refine lv_iconst (v := 1) hx hb dX4_keyOf_16 (by decide) ?_
    refine lv_iadd hx hb dX4_keyOf_17 ?_
    refine lv_goto (tgt := 29) hx hb dX4_keyOf_18 (by decide) ?_
    exact W.iret (v := ((Wt r) * 3) + 1) hx hb hr (fun t9 ht _ => ⟨congrArg (fun z => Outcome.returned (some (Value.int z))) (by simp [kyO, c6]), ht⟩) (fun _ h9 => nomatch h9) dX4_keyOf_29
set_option maxHeartbeats 4000000 in
set_option maxRecDepth 100000 in
theorem c_X4_hasPlace (hh : ad_ok h 20) (hn : n ≤ 100) (r : Nat) (hr9 : r < n) (i : Int32) : Met l yX4_hasPlace wsX4_hasPlace ({ frames := 0, cells := 0, slots := 0, locals := 0 }) (wd_P D cI cJ [.ref (h 1), .int (nI r), .int i] (sl_W cI cJ h (nI n) F Wt Sz Nu Mb (nI k) G Wk To Sl Ri (nI f) (nI b) oT oS oF (nI an) (nI as) Fo wo pa fa)) (pu_Q (some (.int (bI (p_in i (Sz r)))))) 0 0 (fun _ => False) := by
  refine Met.ofW (cc := cX4_hasPlace) (maxL := 3) (ret := (some .boolean)) (by decide) rfl ?_
  intro p e s m args below meth c s₁ B hml hv
  obtain ⟨rfl, hP, hK⟩ := hv
  have hx := B.exec
  have hb := B.bytes
  have hr := B.returns
  have hts := atoms_spec (ws := wsX4_hasPlace) B.pre
  have hown : s.vm.findClass RX4 = some m.cls := findClass_of_methodNamed B.named
  have hlocks := B.notSynchronized
  have hiX4 : ∀ w ∈ u_ws RX4 TX4 6, w ∈ wsX4_hasPlace := by decide +kernel
  have kf28 := hts (.fieldLink RX4 28 "SortingLine$Things" "made" "I") (by decide +kernel)
  have kf18 := hts (.fieldLink RX4 18 "SortingLine$Things" "sizes" "[I") (by decide +kernel)
  have hl := lv_entry ([.ref (h 1), .int (nI r), .int i]) (n := 3) (Nat.le_of_ble_eq_true rfl)
  rw [lg_entry_eq]
  generalize (lg_sl ([.ref (h 1), .int (nI r), .int i]) ++ List.replicate (3 - (lg_sl ([.ref (h 1), .int (nI r), .int i])).length) Slot.unset).toArray = ls at hl ⊢
  have hl : lv_has ls 3 [(0, .ref (h 1)), (1, .int (nI r)), (2, .int i)] := hl
  refine lv_iload_n hx hb dX4_hasPlace_0 rfl (lv_at hl 1 rfl) ?_
  refine lv_if_lt (tgt := 30) hx hb dX4_hasPlace_1 (by decide) (fun h9 => absurd h9 (nI_pos (by omega))) (fun _ => ?_)
  refine lv_iload_n hx hb dX4_hasPlace_4 rfl (lv_at hl 1 rfl) ?_
  refine lv_aload_n hx hb dX4_hasPlace_5 rfl (lv_at hl 0 rfl) ?_
  refine va_get (D := D) (ci := 4) (v := .int (nI n)) (C := RX4) (T := TX4) (N := 6) hx hb hts hiX4 hown hK.1 hP 1 rfl rfl 5 (by decide) kf28 (fun _ h9 => h9) rfl dX4_hasPlace_6 ?_
  refine lv_icmp_ge (tgt := 30) hx hb dX4_hasPlace_9 (by decide) (fun h9 => absurd h9 (nI_ge hr9 (by omega))) (fun _ => ?_)
  refine lv_iload_n hx hb dX4_hasPlace_12 rfl (lv_at hl 2 rfl) ?_
  refine lv_if_lt (tgt := 30) hx hb dX4_hasPlace_13 (by decide) (fun c13 => ?_) (fun c13 => ?_)
  · skip
    refine lv_iconst (v := 0) hx hb dX4_hasPlace_30 (by decide) ?_
    exact W.zret (ty := .boolean) (v := 0) hx hb hr (by decide) (fun t9 ht _ => ⟨congrArg (fun z => Outcome.returned (some (Value.int z))) (by rw [p_in_lt c13]; rfl), ht⟩) (fun _ h9 => nomatch h9) dX4_hasPlace_31
  · skip
    refine lv_iload_n hx hb dX4_hasPlace_16 rfl (lv_at hl 2 rfl) ?_
    refine lv_aload_n hx hb dX4_hasPlace_17 rfl (lv_at hl 0 rfl) ?_
    refine va_get (D := D) (ci := 4) (v := .ref (h 8)) (C := RX4) (T := TX4) (N := 6) hx hb hts hiX4 hown hK.1 hP 1 rfl rfl 2 (by decide) kf18 (fun _ h9 => h9) rfl dX4_hasPlace_18 ?_
    refine lv_iload_n hx hb dX4_hasPlace_21 rfl (lv_at hl 1 rfl) ?_
    refine ga_ild hx hb hK hP 8 rfl r (rfl) (by omega) (by decide) dX4_hasPlace_22 ?_
    refine lv_icmp_ge (tgt := 30) hx hb dX4_hasPlace_23 (by decide) (fun c23 => ?_) (fun c23 => ?_)
    · skip
      refine lv_iconst (v := 0) hx hb dX4_hasPlace_30 (by decide) ?_
      exact W.zret (ty := .boolean) (v := 0) hx hb hr (by decide) (fun t9 ht _ => ⟨congrArg (fun z => Outcome.returned (some (Value.int z))) (by rw [p_in_ge c23]; rfl), ht⟩) (fun _ h9 => nomatch h9) dX4_hasPlace_31
    · skip
      refine lv_iconst (v := 1) hx hb dX4_hasPlace_26 (by decide) ?_
      refine lv_goto (tgt := 31) hx hb dX4_hasPlace_27 (by decide) ?_
      exact W.zret (ty := .boolean) (v := 1) hx hb hr (by decide) (fun t9 ht _ => ⟨congrArg (fun z => Outcome.returned (some (Value.int z))) (by rw [p_in_ok c13 c23]; rfl), ht⟩) (fun _ h9 => nomatch h9) dX4_hasPlace_31
set_option maxHeartbeats 4000000 in
set_option maxRecDepth 100000 in
theorem c_X4_numberAt (hh : ad_ok h 20) (hn : n ≤ 100) (r : Nat) (hr9 : r < n) (j : Nat) (hj : j < 8) (hp : p_in (nI j) (Sz r) = true) : Met l yX4_numberAt wsX4_numberAt ({ frames := 1, cells := 0, slots := 0, locals := 22 }) (wd_P D cI cJ [.ref (h 1), .int (nI r), .int (nI j)] (sl_W cI cJ h (nI n) F Wt Sz Nu Mb (nI k) G Wk To Sl Ri (nI f) (nI b) oT oS oF (nI an) (nI as) Fo wo pa fa)) (pu_Q (some (.long (Nu (8 * r + j))))) 0 0 (fun _ => False) := by
  refine Met.ofW (cc := cX4_numberAt) (maxL := 3) (ret := (some .long)) (by decide) rfl ?_
  intro p e s m args below meth c s₁ B hml hv
  obtain ⟨rfl, hP, hK⟩ := hv
  have hx := B.exec
  have hb := B.bytes
  have hr := B.returns
  have hts := atoms_spec (ws := wsX4_numberAt) B.pre
  have hown : s.vm.findClass RX4 = some m.cls := findClass_of_methodNamed B.named
  have hlocks := B.notSynchronized
  have hiX4 : ∀ w ∈ u_ws RX4 TX4 6, w ∈ wsX4_numberAt := by decide +kernel
  have kf21 := hts (.fieldLink RX4 21 "SortingLine$Things" "numbers" "[J") (by decide +kernel)
  have hl := lv_entry ([.ref (h 1), .int (nI r), .int (nI j)]) (n := 3) (Nat.le_of_ble_eq_true rfl)
  rw [lg_entry_eq]
  generalize (lg_sl ([.ref (h 1), .int (nI r), .int (nI j)]) ++ List.replicate (3 - (lg_sl ([.ref (h 1), .int (nI r), .int (nI j)])).length) Slot.unset).toArray = ls at hl ⊢
  have hl : lv_has ls 3 [(0, .ref (h 1)), (1, .int (nI r)), (2, .int (nI j))] := hl
  refine lv_aload_n hx hb dX4_numberAt_0 rfl (lv_at hl 0 rfl) ?_
  refine lv_iload_n hx hb dX4_numberAt_1 rfl (lv_at hl 1 rfl) ?_
  refine lv_iload_n hx hb dX4_numberAt_2 rfl (lv_at hl 2 rfl) ?_
  refine pu_callb (va_runV (As := [.int (nI r), .int (nI j)]) (rest := []) ⟨hx, hb, hml, hown, hts⟩ (c_X4_hasPlace hh hn r (by omega) (nI j)) (cwV 2 hts gX4_numberAt_X4_hasPlace rfl rfl rfl (by decide +kernel) ⟨Nat.le_of_ble_eq_true rfl, Nat.le_of_ble_eq_true rfl⟩) (wd_preV (ci := 4) (q0 := 1) hP hK rfl rfl) rfl rfl hl.1 rfl (lv_room (Nat.le_of_ble_eq_true rfl)) dX4_numberAt_3 ⟨Nat.zero_le _, Nat.zero_le _⟩) (fun _ => ?_) (fun h9 => absurd (hp) (by rw [h9]; decide))
  refine lv_if_eq (tgt := 23) hx hb dX4_numberAt_6 (by decide) (fun h9 => absurd h9 (by decide)) (fun _ => ?_)
  refine lv_aload_n hx hb dX4_numberAt_9 rfl (lv_at hl 0 rfl) ?_
  refine va_get (D := D) (ci := 4) (v := .ref (h 9)) (C := RX4) (T := TX4) (N := 6) hx hb hts hiX4 hown hK.1 hP 1 rfl rfl 3 (by decide) kf21 (fun _ h9 => h9) rfl dX4_numberAt_10 ?_
  refine lv_iload_n hx hb dX4_numberAt_13 rfl (lv_at hl 1 rfl) ?_
  refine lv_bipush (v := 8) hx hb dX4_numberAt_14 (by decide) ?_
  refine lv_imul hx hb dX4_numberAt_16 ?_
  refine tp_i (y := nI (8 * r)) ((pk_mul r 8).trans (congrArg nI (Nat.mul_comm _ _))) ?_
  refine lv_iload_n hx hb dX4_numberAt_17 rfl (lv_at hl 2 rfl) ?_
  refine lv_iadd hx hb dX4_numberAt_18 ?_
  refine tp_i (y := nI ((8 * r) + j)) (nI_add (8 * r) j) ?_
  refine ga_lld hx hb hK hP 9 rfl ((8 * r) + j) (rfl) (by omega) (by decide) dX4_numberAt_19 ?_
  refine lv_goto (tgt := 24) hx hb dX4_numberAt_20 (by decide) ?_
  exact W.lret (v := Nu ((8 * r) + j)) hx hb hr (fun t9 ht _ => ⟨congrArg (fun z => Outcome.returned (some (Value.long z))) (rfl), ht⟩) (fun _ h9 => nomatch h9) dX4_numberAt_24
set_option maxHeartbeats 4000000 in
set_option maxRecDepth 100000 in
theorem c_X4_memberAt (hh : ad_ok h 20) (hn : n ≤ 100) (r : Nat) (hr9 : r < n) (j : Nat) (hj : j < 8) (hp : p_in (nI j) (Sz r) = true) : Met l yX4_memberAt wsX4_memberAt ({ frames := 1, cells := 0, slots := 0, locals := 22 }) (wd_P D cI cJ [.ref (h 1), .int (nI r), .int (nI j)] (sl_W cI cJ h (nI n) F Wt Sz Nu Mb (nI k) G Wk To Sl Ri (nI f) (nI b) oT oS oF (nI an) (nI as) Fo wo pa fa)) (pu_Q (some (.int (Mb (8 * r + j))))) 0 0 (fun _ => False) := by
  refine Met.ofW (cc := cX4_memberAt) (maxL := 3) (ret := (some .int)) (by decide) rfl ?_
  intro p e s m args below meth c s₁ B hml hv
  obtain ⟨rfl, hP, hK⟩ := hv
  have hx := B.exec
  have hb := B.bytes
  have hr := B.returns
  have hts := atoms_spec (ws := wsX4_memberAt) B.pre
  have hown : s.vm.findClass RX4 = some m.cls := findClass_of_methodNamed B.named
  have hlocks := B.notSynchronized
  have hiX4 : ∀ w ∈ u_ws RX4 TX4 6, w ∈ wsX4_memberAt := by decide +kernel
  have kf25 := hts (.fieldLink RX4 25 "SortingLine$Things" "members" "[I") (by decide +kernel)
  have hl := lv_entry ([.ref (h 1), .int (nI r), .int (nI j)]) (n := 3) (Nat.le_of_ble_eq_true rfl)
  rw [lg_entry_eq]
  generalize (lg_sl ([.ref (h 1), .int (nI r), .int (nI j)]) ++ List.replicate (3 - (lg_sl ([.ref (h 1), .int (nI r), .int (nI j)])).length) Slot.unset).toArray = ls at hl ⊢
  have hl : lv_has ls 3 [(0, .ref (h 1)), (1, .int (nI r)), (2, .int (nI j))] := hl
  refine lv_aload_n hx hb dX4_memberAt_0 rfl (lv_at hl 0 rfl) ?_
  refine lv_iload_n hx hb dX4_memberAt_1 rfl (lv_at hl 1 rfl) ?_
  refine lv_iload_n hx hb dX4_memberAt_2 rfl (lv_at hl 2 rfl) ?_
  refine pu_callb (va_runV (As := [.int (nI r), .int (nI j)]) (rest := []) ⟨hx, hb, hml, hown, hts⟩ (c_X4_hasPlace hh hn r (by omega) (nI j)) (cwV 2 hts gX4_memberAt_X4_hasPlace rfl rfl rfl (by decide +kernel) ⟨Nat.le_of_ble_eq_true rfl, Nat.le_of_ble_eq_true rfl⟩) (wd_preV (ci := 4) (q0 := 1) hP hK rfl rfl) rfl rfl hl.1 rfl (lv_room (Nat.le_of_ble_eq_true rfl)) dX4_memberAt_3 ⟨Nat.zero_le _, Nat.zero_le _⟩) (fun _ => ?_) (fun h9 => absurd (hp) (by rw [h9]; decide))
  refine lv_if_eq (tgt := 23) hx hb dX4_memberAt_6 (by decide) (fun h9 => absurd h9 (by decide)) (fun _ => ?_)
  refine lv_aload_n hx hb dX4_memberAt_9 rfl (lv_at hl 0 rfl) ?_
  refine va_get (D := D) (ci := 4) (v := .ref (h 10)) (C := RX4) (T := TX4) (N := 6) hx hb hts hiX4 hown hK.1 hP 1 rfl rfl 4 (by decide) kf25 (fun _ h9 => h9) rfl dX4_memberAt_10 ?_
  refine lv_iload_n hx hb dX4_memberAt_13 rfl (lv_at hl 1 rfl) ?_
  refine lv_bipush (v := 8) hx hb dX4_memberAt_14 (by decide) ?_
  refine lv_imul hx hb dX4_memberAt_16 ?_
  refine tp_i (y := nI (8 * r)) ((pk_mul r 8).trans (congrArg nI (Nat.mul_comm _ _))) ?_
  refine lv_iload_n hx hb dX4_memberAt_17 rfl (lv_at hl 2 rfl) ?_
  refine lv_iadd hx hb dX4_memberAt_18 ?_
  refine tp_i (y := nI ((8 * r) + j)) (nI_add (8 * r) j) ?_
  refine ga_ild hx hb hK hP 10 rfl ((8 * r) + j) (rfl) (by omega) (by decide) dX4_memberAt_19 ?_
  refine lv_goto (tgt := 25) hx hb dX4_memberAt_20 (by decide) ?_
  exact W.iret (v := Mb ((8 * r) + j)) hx hb hr (fun t9 ht _ => ⟨congrArg (fun z => Outcome.returned (some (Value.int z))) (rfl), ht⟩) (fun _ h9 => nomatch h9) dX4_memberAt_25
set_option maxHeartbeats 4000000 in
set_option maxRecDepth 100000 in
theorem c_X4_setMember (hh : ad_ok h 20) (hn : n ≤ 100) (r : Nat) (hr9 : r < n) (j : Nat) (hj : j < 8) (hp : p_in (nI j) (Sz r) = true) (x : Int32) : Met l yX4_setMember wsX4_setMember ({ frames := 1, cells := 0, slots := 0, locals := 22 }) (wd_P D cI cJ [.ref (h 1), .int (nI r), .int (nI j), .int x] (sl_W cI cJ h (nI n) F Wt Sz Nu Mb (nI k) G Wk To Sl Ri (nI f) (nI b) oT oS oF (nI an) (nI as) Fo wo pa fa)) (mu_Q D (ad_A h 20) none (sl_W cI cJ h (nI n) F Wt Sz Nu (upd Mb (8 * r + j) x) (nI k) G Wk To Sl Ri (nI f) (nI b) oT oS oF (nI an) (nI as) Fo wo pa fa)) 0 0 (ad_A h 20) := by
  refine Met.ofW (cc := cX4_setMember) (maxL := 4) (ret := none) (by decide) rfl ?_
  intro p e s m args below meth c s₁ B hml hv
  obtain ⟨rfl, hP, hK⟩ := hv
  have hx := B.exec
  have hb := B.bytes
  have hr := B.returns
  have hts := atoms_spec (ws := wsX4_setMember) B.pre
  have hown : s.vm.findClass RX4 = some m.cls := findClass_of_methodNamed B.named
  have hlocks := B.notSynchronized
  have hiX4 : ∀ w ∈ u_ws RX4 TX4 6, w ∈ wsX4_setMember := by decide +kernel
  have kf25 := hts (.fieldLink RX4 25 "SortingLine$Things" "members" "[I") (by decide +kernel)
  have hS : va_S (ad_A h 20) s.heap s.heap [] := va_S.rf
  have hl := lv_entry ([.ref (h 1), .int (nI r), .int (nI j), .int x]) (n := 4) (Nat.le_of_ble_eq_true rfl)
  rw [lg_entry_eq]
  generalize (lg_sl ([.ref (h 1), .int (nI r), .int (nI j), .int x]) ++ List.replicate (4 - (lg_sl ([.ref (h 1), .int (nI r), .int (nI j), .int x])).length) Slot.unset).toArray = ls at hl ⊢
  have hl : lv_has ls 4 [(0, .ref (h 1)), (1, .int (nI r)), (2, .int (nI j)), (3, .int x)] := hl
  refine lv_aload_n hx hb dX4_setMember_0 rfl (lv_at hl 0 rfl) ?_
  refine lv_iload_n hx hb dX4_setMember_1 rfl (lv_at hl 1 rfl) ?_
  refine lv_iload_n hx hb dX4_setMember_2 rfl (lv_at hl 2 rfl) ?_
  refine pu_callb (va_runV (As := [.int (nI r), .int (nI j)]) (rest := []) ⟨hx, hb, hml, hown, hts⟩ (c_X4_hasPlace hh hn r (by omega) (nI j)) (cwV 2 hts gX4_setMember_X4_hasPlace rfl rfl rfl (by decide +kernel) ⟨Nat.le_of_ble_eq_true rfl, Nat.le_of_ble_eq_true rfl⟩) (wd_preV (ci := 4) (q0 := 1) hP hK rfl rfl) rfl rfl hl.1 rfl (lv_room (Nat.le_of_ble_eq_true rfl)) dX4_setMember_3 ⟨Nat.zero_le _, Nat.zero_le _⟩) (fun _ => ?_) (fun h9 => absurd (hp) (by rw [h9]; decide))
  refine lv_if_eq (tgt := 21) hx hb dX4_setMember_6 (by decide) (fun h9 => absurd h9 (by decide)) (fun _ => ?_)
  refine lv_aload_n hx hb dX4_setMember_9 rfl (lv_at hl 0 rfl) ?_
  refine va_get (D := D) (ci := 4) (v := .ref (h 10)) (C := RX4) (T := TX4) (N := 6) hx hb hts hiX4 hown hK.1 hP 1 rfl rfl 4 (by decide) kf25 (fun _ h9 => h9) rfl dX4_setMember_10 ?_
  refine lv_iload_n hx hb dX4_setMember_13 rfl (lv_at hl 1 rfl) ?_
  refine lv_bipush (v := 8) hx hb dX4_setMember_14 (by decide) ?_
  refine lv_imul hx hb dX4_setMember_16 ?_
  refine tp_i (y := nI (8 * r)) ((pk_mul r 8).trans (congrArg nI (Nat.mul_comm _ _))) ?_
  refine lv_iload_n hx hb dX4_setMember_17 rfl (lv_at hl 2 rfl) ?_
  refine lv_iadd hx hb dX4_setMember_18 ?_
  refine tp_i (y := nI ((8 * r) + j)) (nI_add (8 * r) j) ?_
  refine lv_iload_n hx hb dX4_setMember_19 rfl (lv_at hl 3 rfl) ?_
  refine ga_ist hx hb hK hP (sl_D hh) hS 10 rfl ((8 * r) + j) (rfl) (by omega) (by decide) dX4_setMember_20 (fun H locs hP hS => ?_)
  have hP : va_P D kC (sl_W cI cJ h (nI n) F Wt Sz Nu (upd Mb ((8 * r) + j) x) (nI k) G Wk To Sl Ri (nI f) (nI b) oT oS oF (nI an) (nI as) Fo wo pa fa) H := hP
  exact W.vret hx hb hr (fun t9 ht _ => ⟨rfl, by rw [ht]; exact hP, hS.F ht⟩) hS.2.2 dX4_setMember_21
theorem sw_X4_setNumber_26 (x : Int32) : (Op.lookupswitch.offset [(4, 26), (5, 33)] 39 x.toInt = 39 ∧ ¬ x = 4 ∧ ¬ x = 5) ∨ x = 4 ∨ x = 5 := by
  by_cases h0 : x = 4
  · exact Or.inr (Or.inl <| h0)
  by_cases h1 : x = 5
  · exact Or.inr (Or.inr <| h1)
  refine Or.inl ⟨?_, h0, h1⟩
  have hz : ∀ v : Int32, ¬ x = v → ¬ v.toInt = x.toInt := fun v h h2 => h (Int32.toInt_inj.mp h2.symm)
  have z0 : ¬ (4 : Int) = x.toInt := hz 4 h0
  have y0 : ((4 : Int) == x.toInt) = false := by simpa using z0
  have z1 : ¬ (5 : Int) = x.toInt := hz 5 h1
  have y1 : ((5 : Int) == x.toInt) = false := by simpa using z1
  simp [Op.lookupswitch.offset, List.find?, y0, z0, y1, z1]
set_option maxHeartbeats 4000000 in
set_option maxRecDepth 100000 in
theorem c_X4_setNumber (hh : ad_ok h 20) (hn : n ≤ 100) (r : Nat) (hr9 : r < n) (j : Nat) (hj : j < 8) (hp : p_in (nI j) (Sz r) = true) (v : Int64) : Met l yX4_setNumber wsX4_setNumber ({ frames := 1, cells := 0, slots := 0, locals := 22 }) (wd_P D cI cJ [.ref (h 1), .int (nI r), .int (nI j), .long v] (sl_W cI cJ h (nI n) F Wt Sz Nu Mb (nI k) G Wk To Sl Ri (nI f) (nI b) oT oS oF (nI an) (nI as) Fo wo pa fa)) (mu_Q D (ad_A h 20) none (sl_W cI cJ h (nI n) F Wt Sz (vp_updL Nu (8 * r + j) (nrw (F r) v)) Mb (nI k) G Wk To Sl Ri (nI f) (nI b) oT oS oF (nI an) (nI as) Fo wo pa fa)) 0 0 (ad_A h 20) := by
  refine Met.ofW (cc := cX4_setNumber) (maxL := 5) (ret := none) (by decide) rfl ?_
  intro p e s m args below meth c s₁ B hml hv
  obtain ⟨rfl, hP, hK⟩ := hv
  have hx := B.exec
  have hb := B.bytes
  have hr := B.returns
  have hts := atoms_spec (ws := wsX4_setNumber) B.pre
  have hown : s.vm.findClass RX4 = some m.cls := findClass_of_methodNamed B.named
  have hlocks := B.notSynchronized
  have hiX4 : ∀ w ∈ u_ws RX4 TX4 6, w ∈ wsX4_setNumber := by decide +kernel
  have kf21 := hts (.fieldLink RX4 21 "SortingLine$Things" "numbers" "[J") (by decide +kernel)
  have kf9 := hts (.fieldLink RX4 9 "SortingLine$Things" "forms" "[I") (by decide +kernel)
  have hS : va_S (ad_A h 20) s.heap s.heap [] := va_S.rf
  have hl := lv_entry ([.ref (h 1), .int (nI r), .int (nI j), .long v]) (n := 5) (Nat.le_of_ble_eq_true rfl)
  rw [lg_entry_eq]
  generalize (lg_sl ([.ref (h 1), .int (nI r), .int (nI j), .long v]) ++ List.replicate (5 - (lg_sl ([.ref (h 1), .int (nI r), .int (nI j), .long v])).length) Slot.unset).toArray = ls at hl ⊢
  have hl : lv_has ls 5 [(0, .ref (h 1)), (1, .int (nI r)), (2, .int (nI j)), (3, .long v)] := hl
  refine lv_aload_n hx hb dX4_setNumber_0 rfl (lv_at hl 0 rfl) ?_
  refine lv_iload_n hx hb dX4_setNumber_1 rfl (lv_at hl 1 rfl) ?_
  refine lv_iload_n hx hb dX4_setNumber_2 rfl (lv_at hl 2 rfl) ?_
  refine pu_callb (va_runV (As := [.int (nI r), .int (nI j)]) (rest := []) ⟨hx, hb, hml, hown, hts⟩ (c_X4_hasPlace hh hn r (by omega) (nI j)) (cwV 2 hts gX4_setNumber_X4_hasPlace rfl rfl rfl (by decide +kernel) ⟨Nat.le_of_ble_eq_true rfl, Nat.le_of_ble_eq_true rfl⟩) (wd_preV (ci := 4) (q0 := 1) hP hK rfl rfl) rfl rfl hl.1 rfl (lv_room (Nat.le_of_ble_eq_true rfl)) dX4_setNumber_3 ⟨Nat.zero_le _, Nat.zero_le _⟩) (fun _ => ?_) (fun h9 => absurd (hp) (by rw [h9]; decide))
  refine lv_if_ne (tgt := 10) hx hb dX4_setNumber_6 (by decide) (fun _ => ?_) (fun h9 => absurd h9 (by decide))
  refine lv_aload_n hx hb dX4_setNumber_10 rfl (lv_at hl 0 rfl) ?_
  refine va_get (D := D) (ci := 4) (v := .ref (h 9)) (C := RX4) (T := TX4) (N := 6) hx hb hts hiX4 hown hK.1 hP 1 rfl rfl 3 (by decide) kf21 (fun _ h9 => h9) rfl dX4_setNumber_11 ?_
  refine lv_iload_n hx hb dX4_setNumber_14 rfl (lv_at hl 1 rfl) ?_
  refine lv_bipush (v := 8) hx hb dX4_setNumber_15 (by decide) ?_
  refine lv_imul hx hb dX4_setNumber_17 ?_
  refine tp_i (y := nI (8 * r)) ((pk_mul r 8).trans (congrArg nI (Nat.mul_comm _ _))) ?_
  refine lv_iload_n hx hb dX4_setNumber_18 rfl (lv_at hl 2 rfl) ?_
  refine lv_iadd hx hb dX4_setNumber_19 ?_
  refine tp_i (y := nI ((8 * r) + j)) (nI_add (8 * r) j) ?_
  refine lv_aload_n hx hb dX4_setNumber_20 rfl (lv_at hl 0 rfl) ?_
  refine va_get (D := D) (ci := 4) (v := .ref (h 6)) (C := RX4) (T := TX4) (N := 6) hx hb hts hiX4 hown hK.1 hP 1 rfl rfl 0 (by decide) kf9 (fun _ h9 => h9) rfl dX4_setNumber_21 ?_
  refine lv_iload_n hx hb dX4_setNumber_24 rfl (lv_at hl 1 rfl) ?_
  refine ga_ild hx hb hK hP 6 rfl r (rfl) (by omega) (by decide) dX4_setNumber_25 ?_
  generalize hfx : F r = fx
  rcases (sw_X4_setNumber_26 fx) with ho26 | rfl | rfl
  · skip
    refine lv_lookup (tgt := 65) hx hb dX4_setNumber_26 (by decide) ho26.1 (by decide) ?_
    refine lv_lload_n hx hb dX4_setNumber_65 rfl (lv_at hl 3 rfl) ?_
    refine ga_lst hx hb hK hP (sl_D hh) hS 9 rfl ((8 * r) + j) (rfl) (by omega) (by decide) dX4_setNumber_66 (fun H locs hP hS => ?_)
    have hP : va_P D kC (sl_W cI cJ h (nI n) F Wt Sz (vp_updL Nu ((8 * r) + j) v) Mb (nI k) G Wk To Sl Ri (nI f) (nI b) oT oS oF (nI an) (nI as) Fo wo pa fa) H := hP
    exact W.vret hx hb hr (fun t9 ht _ => ⟨rfl, by rw [ht]; exact va_P_cast hP (by simp [nrw, ho26.2]), hS.F ht⟩) hS.2.2 dX4_setNumber_67
  · skip
    refine lv_lookup (off := 26) (tgt := 52) hx hb dX4_setNumber_26 (by decide) (by decide) (by decide) ?_
    refine lv_lload_n hx hb dX4_setNumber_52 rfl (lv_at hl 3 rfl) ?_
    refine lv_l2i (v := Int64.toInt32 v) hx hb dX4_setNumber_53 rfl ?_
    refine lv_i2b (v := Int8.toInt32 (Int32.toInt8 (Int64.toInt32 v))) hx hb dX4_setNumber_54 rfl ?_
    refine lv_i2l (v := Int32.toInt64 (Int8.toInt32 (Int32.toInt8 (Int64.toInt32 v)))) hx hb dX4_setNumber_55 (rfl) ?_
    refine lv_goto (tgt := 66) hx hb dX4_setNumber_56 (by decide) ?_
    refine ga_lst hx hb hK hP (sl_D hh) hS 9 rfl ((8 * r) + j) (rfl) (by omega) (by decide) dX4_setNumber_66 (fun H locs hP hS => ?_)
    have hP : va_P D kC (sl_W cI cJ h (nI n) F Wt Sz (vp_updL Nu ((8 * r) + j) (Int32.toInt64 (Int8.toInt32 (Int32.toInt8 (Int64.toInt32 v))))) Mb (nI k) G Wk To Sl Ri (nI f) (nI b) oT oS oF (nI an) (nI as) Fo wo pa fa) H := hP
    exact W.vret hx hb hr (fun t9 ht _ => ⟨rfl, by rw [ht]; exact va_P_cast hP (by simp [nrw]), hS.F ht⟩) hS.2.2 dX4_setNumber_67
  · skip
    refine lv_lookup (off := 33) (tgt := 59) hx hb dX4_setNumber_26 (by decide) (by decide) (by decide) ?_
    refine lv_lload_n hx hb dX4_setNumber_59 rfl (lv_at hl 3 rfl) ?_
    refine lv_l2i (v := Int64.toInt32 v) hx hb dX4_setNumber_60 rfl ?_
    refine lv_i2l (v := Int32.toInt64 (Int64.toInt32 v)) hx hb dX4_setNumber_61 (rfl) ?_
    refine lv_goto (tgt := 66) hx hb dX4_setNumber_62 (by decide) ?_
    refine ga_lst hx hb hK hP (sl_D hh) hS 9 rfl ((8 * r) + j) (rfl) (by omega) (by decide) dX4_setNumber_66 (fun H locs hP hS => ?_)
    have hP : va_P D kC (sl_W cI cJ h (nI n) F Wt Sz (vp_updL Nu ((8 * r) + j) (Int32.toInt64 (Int64.toInt32 v))) Mb (nI k) G Wk To Sl Ri (nI f) (nI b) oT oS oF (nI an) (nI as) Fo wo pa fa) H := hP
    exact W.vret hx hb hr (fun t9 ht _ => ⟨rfl, by rw [ht]; exact va_P_cast hP (by simp [nrw]), hS.F ht⟩) hS.2.2 dX4_setNumber_67
set_option maxHeartbeats 4000000 in
set_option maxRecDepth 100000 in
theorem lp_X4_sum {p : Program} {e : Env} {s : State} {m : MethodId} {args : Array Value} {below : List Frame} {meth : Method} {c : Code} {Q : State → Prop} {H : Heap} {locs : List Loc} (hx : p.tables.exec = Jvm.exec) (hb : c.code = cX4_sumOfNumbers) (hml : c.maxLocals = 5) (hown : s.vm.findClass RX4 = some m.cls) (hts : ∀ w ∈ wsX4_sumOfNumbers, w.before args s = true) (hK : wd_K D cI cJ s) (hP : va_P D kC (sl_W cI cJ h (nI n) F Wt Sz Nu Mb (nI k) G Wk To Sl Ri (nI f) (nI b) oT oS oF (nI an) (nI as) Fo wo pa fa) H) (hh : ad_ok h 20) (hn : n ≤ 100) (r z : Nat) (hr9 : r < n) (hz : Sz r = nI z) (hz8 : z ≤ 8) (kk0 : ∀ (_ : Nat), True → ∀ (ls : Array Slot), lv_has ls 5 [(4, .int (nI z)), (2, .long (sumN Nu (8 * r) z)), (0, .ref (h 1)), (1, .int (nI r))] → W p l e (headSpec wsX4_sumOfNumbers { frames := 2, cells := 0, slots := 0, locals := 44 }).room s m args below meth c H locs 0 0 Q (F0 m 31 ls [])) : ∀ (d : Nat) (i : Nat), i + d = z → ∀ (ls : Array Slot), lv_has ls 5 [(4, .int (nI i)), (2, .long (sumN Nu (8 * r) i)), (0, .ref (h 1)), (1, .int (nI r))] → W p l e (headSpec wsX4_sumOfNumbers { frames := 2, cells := 0, slots := 0, locals := 44 }).room s m args below meth c H locs 0 0 Q (F0 m 5 ls []) := by
  intro d
  induction d with
  | zero =>
    intro i hi ls hl
    obtain rfl : i = z := by omega
    refine lv_iload hx hb dX4_sumOfNumbers_5 (lv_at hl 0 rfl) ?_
    refine lv_aload_n hx hb dX4_sumOfNumbers_7 rfl (lv_at hl 2 rfl) ?_
    refine lv_iload_n hx hb dX4_sumOfNumbers_8 rfl (lv_at hl 3 rfl) ?_
    refine pu_calli (va_runV (As := [.int (nI r)]) (rest := [.int (nI i)]) ⟨hx, hb, hml, hown, hts⟩ (c_X4_sizeOf hh hn r (by omega)) (cwV 1 hts gX4_sumOfNumbers_X4_sizeOf rfl rfl rfl (by decide +kernel) ⟨Nat.le_of_ble_eq_true rfl, Nat.le_of_ble_eq_true rfl⟩) (wd_preV (ci := 4) (q0 := 1) hP hK rfl rfl) rfl rfl hl.1 rfl (lv_room (Nat.le_of_ble_eq_true rfl)) dX4_sumOfNumbers_9 ⟨Nat.zero_le _, Nat.zero_le _⟩) ?_
    refine tp_i (y := nI i) (hz) ?_
    refine lv_icmp_ge (tgt := 31) hx hb dX4_sumOfNumbers_12 (by decide) (fun _ => ?_) (fun h9 => absurd (nI_le (Nat.le_refl _) (by omega)) h9)
    exact kk0 0 trivial ls (lv_sub hl [0, 1, 2, 3] rfl)
  | succ d ih =>
    intro i hi ls hl
    refine lv_iload hx hb dX4_sumOfNumbers_5 (lv_at hl 0 rfl) ?_
    refine lv_aload_n hx hb dX4_sumOfNumbers_7 rfl (lv_at hl 2 rfl) ?_
    refine lv_iload_n hx hb dX4_sumOfNumbers_8 rfl (lv_at hl 3 rfl) ?_
    refine pu_calli (va_runV (As := [.int (nI r)]) (rest := [.int (nI i)]) ⟨hx, hb, hml, hown, hts⟩ (c_X4_sizeOf hh hn r (by omega)) (cwV 1 hts gX4_sumOfNumbers_X4_sizeOf rfl rfl rfl (by decide +kernel) ⟨Nat.le_of_ble_eq_true rfl, Nat.le_of_ble_eq_true rfl⟩) (wd_preV (ci := 4) (q0 := 1) hP hK rfl rfl) rfl rfl hl.1 rfl (lv_room (Nat.le_of_ble_eq_true rfl)) dX4_sumOfNumbers_9 ⟨Nat.zero_le _, Nat.zero_le _⟩) ?_
    refine tp_i (y := nI z) (hz) ?_
    refine lv_icmp_ge (tgt := 31) hx hb dX4_sumOfNumbers_12 (by decide) (fun h9 => absurd h9 (nI_ge (by omega) (by omega))) (fun _ => ?_)
    refine lv_lload_n hx hb dX4_sumOfNumbers_15 rfl (lv_at hl 1 rfl) ?_
    refine lv_aload_n hx hb dX4_sumOfNumbers_16 rfl (lv_at hl 2 rfl) ?_
    refine lv_iload_n hx hb dX4_sumOfNumbers_17 rfl (lv_at hl 3 rfl) ?_
    refine lv_iload hx hb dX4_sumOfNumbers_18 (lv_at hl 0 rfl) ?_
    refine pu_calll (va_runV (As := [.int (nI r), .int (nI i)]) (rest := [.long (sumN Nu (8 * r) i)]) ⟨hx, hb, hml, hown, hts⟩ (c_X4_numberAt hh hn r (by omega) i (by omega) (by rw [hz]; exact p_in_nI (by omega) (by omega))) (cwV 2 hts gX4_sumOfNumbers_X4_numberAt rfl rfl rfl (by decide +kernel) ⟨Nat.le_of_ble_eq_true rfl, Nat.le_of_ble_eq_true rfl⟩) (wd_preV (ci := 4) (q0 := 1) hP hK rfl rfl) rfl rfl hl.1 rfl (lv_room (Nat.le_of_ble_eq_true rfl)) dX4_sumOfNumbers_20 ⟨Nat.zero_le _, Nat.zero_le _⟩) ?_
    refine lv_ladd hx hb dX4_sumOfNumbers_23 ?_
    refine lv_lstore_n (lv' := [(2, .long ((sumN Nu (8 * r) i) + (Nu (8 * r + i)))), (4, .int (nI i)), (0, .ref (h 1)), (1, .int (nI r))]) hx hb dX4_sumOfNumbers_24 rfl hl (by decide) rfl (fun ls hl => ?_)
    refine lv_iinc (v := nI (i + 1)) (lv' := [(4, .int (nI (i + 1))), (2, .long ((sumN Nu (8 * r) i) + (Nu (8 * r + i)))), (0, .ref (h 1)), (1, .int (nI r))]) hx hb dX4_sumOfNumbers_25 hl (k := 1) rfl (nI_add i 1) (by decide) rfl (fun ls hl => ?_)
    refine lv_goto (tgt := 5) hx hb dX4_sumOfNumbers_28 (by decide) ?_
    exact ih (i + 1) (by omega) ls (lv_sub hl [0, 1, 2, 3] rfl)
set_option maxHeartbeats 4000000 in
set_option maxRecDepth 100000 in
theorem c_X4_sumOfNumbers (hh : ad_ok h 20) (hn : n ≤ 100) (r z : Nat) (hr9 : r < n) (hz : Sz r = nI z) (hz8 : z ≤ 8) : Met l yX4_sumOfNumbers wsX4_sumOfNumbers ({ frames := 2, cells := 0, slots := 0, locals := 44 }) (wd_P D cI cJ [.ref (h 1), .int (nI r)] (sl_W cI cJ h (nI n) F Wt Sz Nu Mb (nI k) G Wk To Sl Ri (nI f) (nI b) oT oS oF (nI an) (nI as) Fo wo pa fa)) (pu_Q (some (.long (sumN Nu (8 * r) z)))) 0 0 (fun _ => False) := by
  refine Met.ofW (cc := cX4_sumOfNumbers) (maxL := 5) (ret := (some .long)) (by decide) rfl ?_
  intro p e s m args below meth c s₁ B hml hv
  obtain ⟨rfl, hP, hK⟩ := hv
  have hx := B.exec
  have hb := B.bytes
  have hr := B.returns
  have hts := atoms_spec (ws := wsX4_sumOfNumbers) B.pre
  have hown : s.vm.findClass RX4 = some m.cls := findClass_of_methodNamed B.named
  have hlocks := B.notSynchronized
  have hl := lv_entry ([.ref (h 1), .int (nI r)]) (n := 5) (Nat.le_of_ble_eq_true rfl)
  rw [lg_entry_eq]
  generalize (lg_sl ([.ref (h 1), .int (nI r)]) ++ List.replicate (5 - (lg_sl ([.ref (h 1), .int (nI r)])).length) Slot.unset).toArray = ls at hl ⊢
  have hl : lv_has ls 5 [(0, .ref (h 1)), (1, .int (nI r))] := hl
  refine lv_lconst (v := 0) hx hb dX4_sumOfNumbers_0 (by decide) ?_
  refine lv_lstore_n (lv' := [(2, .long 0), (0, .ref (h 1)), (1, .int (nI r))]) hx hb dX4_sumOfNumbers_1 rfl hl (by decide) rfl (fun ls hl => ?_)
  refine lv_iconst (v := 0) hx hb dX4_sumOfNumbers_2 (by decide) ?_
  refine lv_istore (lv' := [(4, .int 0), (2, .long 0), (0, .ref (h 1)), (1, .int (nI r))]) hx hb dX4_sumOfNumbers_3 hl (by decide) rfl (fun ls hl => ?_)
  refine lp_X4_sum hx hb hml hown hts hK hP hh hn r z hr9 hz hz8 (fun _ _ ls hl => ?_) z 0 (by omega) ls (lv_sub hl [0, 1, 2, 3] rfl)
  refine lv_lload_n hx hb dX4_sumOfNumbers_31 rfl (lv_at hl 1 rfl) ?_
  exact W.lret (v := sumN Nu (8 * r) z) hx hb hr (fun t9 ht _ => ⟨congrArg (fun z => Outcome.returned (some (Value.long z))) (rfl), ht⟩) (fun _ h9 => nomatch h9) dX4_sumOfNumbers_32
set_option maxHeartbeats 4000000 in
set_option maxRecDepth 100000 in
theorem c_X4_forget (hh : ad_ok h 20) : Met l yX4_forget wsX4_forget ({ frames := 0, cells := 0, slots := 0, locals := 0 }) (wd_P D cI cJ [.ref (h 1)] (sl_W cI cJ h (nI n) F Wt Sz Nu Mb (nI k) G Wk To Sl Ri (nI f) (nI b) oT oS oF (nI an) (nI as) Fo wo pa fa)) (mu_Q D (ad_A h 20) none (sl_W cI cJ h 0 F Wt Sz Nu Mb (nI k) G Wk To Sl Ri (nI f) (nI b) oT oS oF (nI an) (nI as) Fo wo pa fa)) 0 0 (ad_A h 20) := by
  refine Met.ofW (cc := cX4_forget) (maxL := 1) (ret := none) (by decide) rfl ?_
  intro p e s m args below meth c s₁ B hml hv
  obtain ⟨rfl, hP, hK⟩ := hv
  have hx := B.exec
  have hb := B.bytes
  have hr := B.returns
  have hts := atoms_spec (ws := wsX4_forget) B.pre
  have hown : s.vm.findClass RX4 = some m.cls := findClass_of_methodNamed B.named
  have hlocks := B.notSynchronized
  have hiX4 : ∀ w ∈ u_ws RX4 TX4 6, w ∈ wsX4_forget := by decide +kernel
  have kf28 := hts (.fieldLink RX4 28 "SortingLine$Things" "made" "I") (by decide +kernel)
  have hS : va_S (ad_A h 20) s.heap s.heap [] := va_S.rf
  have hl := lv_entry ([.ref (h 1)]) (n := 1) (Nat.le_of_ble_eq_true rfl)
  rw [lg_entry_eq]
  generalize (lg_sl ([.ref (h 1)]) ++ List.replicate (1 - (lg_sl ([.ref (h 1)])).length) Slot.unset).toArray = ls at hl ⊢
  have hl : lv_has ls 1 [(0, .ref (h 1))] := hl
  refine lv_aload_n hx hb dX4_forget_0 rfl (lv_at hl 0 rfl) ?_
  refine lv_iconst (v := 0) hx hb dX4_forget_1 (by decide) ?_
  refine va_put (D := D) (ci := 4) (v := .int 0) (ty := .int) (C := RX4) (T := TX4) (N := 6) hx hb hts hiX4 tyX4 tyX4_ok nmX4 hown hK.1 hP (sl_D hh) hS 1 rfl rfl 5 (by decide) kf28 (fun _ h9 => h9) rfl (by decide +kernel) rfl rfl (Nat.le_of_ble_eq_true rfl) dX4_forget_2 (fun H locs hP _ hS => ?_)
  have hP : va_P D kC (sl_W cI cJ h 0 F Wt Sz Nu Mb (nI k) G Wk To Sl Ri (nI f) (nI b) oT oS oF (nI an) (nI as) Fo wo pa fa) H := hP
  exact W.vret hx hb hr (fun t9 ht _ => ⟨rfl, by rw [ht]; exact hP, hS.F ht⟩) hS.2.2 dX4_forget_5
end SubA
end
section
theorem mn_nI {a b : Nat} (ha : a < 2 ^ 31) (hb : b < 2 ^ 31) : (if nI b < nI a then nI b else nI a) = nI (min a b) := by
  by_cases h : b < a
  · rw [if_pos (nI_lt h ha), Nat.min_eq_right (by omega)]
  · rw [if_neg (nI_nlt (by omega) hb), Nat.min_eq_left (by omega)]
abbrev z6I (f : Nat → Int32) : Nat → Int32 := upd (upd (upd (upd (upd (upd f 0 0) 1 0) 2 0) 3 0) 4 0) 5 0
theorem sd_ix {an j : Nat} (ha : an < 20) (hj : j < 20) : nI an - 1 - nI j + 20 = nI (an + 19 - j) := by
  apply Int32.toInt_inj.mp
  have e : nI (an + 19 - j) = nI (an + 20) - nI (1 + j) := by
    rw [pk_sub (by omega)]; congr 1; omega
  rw [e]
  have e2 : nI (an + 20) = nI an + 20 := (nI_add an 20).symm
  have e3 : nI (1 + j) = 1 + nI j := (nI_add 1 j).symm
  rw [e2, e3]
  congr 1
  have : ∀ x y z : Int32, x - 1 - y + z = x + z - (1 + y) := by
    intro x y z
    rw [Int32.sub_eq_add_neg, Int32.sub_eq_add_neg, Int32.sub_eq_add_neg, Int32.neg_add, Int32.sub_eq_add_neg]
    ac_rfl
  exact this _ _ _
section SubB
variable {l : Launch} {D : va_G} {cI cJ : ClassId} {h : Nat → Nat} {n k f b an as : Nat} {F Wt Sz : Nat → Int32} {Nu : Nat → Int64} {Mb : Nat → Int32} {G Wk : Nat → Int32} {To : Nat → Int64} {Sl : Nat → Int32} {Ri oT oS oF Fo : Nat → Int32} {wo pa fa : Int32}
set_option maxHeartbeats 4000000 in
set_option maxRecDepth 100000 in
theorem c_X2_howMany (hh : ad_ok h 20) : Met l yX2_howMany wsX2_howMany ({ frames := 0, cells := 0, slots := 0, locals := 0 }) (wd_P D cI cJ [.ref (h 2)] (sl_W cI cJ h (nI n) F Wt Sz Nu Mb (nI k) G Wk To Sl Ri (nI f) (nI b) oT oS oF (nI an) (nI as) Fo wo pa fa)) (pu_Q (some (.int (nI k)))) 0 0 (fun _ => False) := by
  refine Met.ofW (cc := cX2_howMany) (maxL := 1) (ret := (some .int)) (by decide) rfl ?_
  intro p e s m args below meth c s₁ B hml hv
  obtain ⟨rfl, hP, hK⟩ := hv
  have hx := B.exec
  have hb := B.bytes
  have hr := B.returns
  have hts := atoms_spec (ws := wsX2_howMany) B.pre
  have hown : s.vm.findClass RX2 = some m.cls := findClass_of_methodNamed B.named
  have hlocks := B.notSynchronized
  have hiX2 : ∀ w ∈ u_ws RX2 TX2 5, w ∈ wsX2_howMany := by decide +kernel
  have kf25 := hts (.fieldLink RX2 25 "SortingLine$Stations" "made" "I") (by decide +kernel)
  have hl := lv_entry ([.ref (h 2)]) (n := 1) (Nat.le_of_ble_eq_true rfl)
  rw [lg_entry_eq]
  generalize (lg_sl ([.ref (h 2)]) ++ List.replicate (1 - (lg_sl ([.ref (h 2)])).length) Slot.unset).toArray = ls at hl ⊢
  have hl : lv_has ls 1 [(0, .ref (h 2))] := hl
  refine lv_aload_n hx hb dX2_howMany_0 rfl (lv_at hl 0 rfl) ?_
  refine va_get (D := D) (ci := 2) (v := .int (nI k)) (C := RX2) (T := TX2) (N := 5) hx hb hts hiX2 hown hK.1 hP 2 rfl rfl 4 (by decide) kf25 (fun _ h9 => h9) rfl dX2_howMany_1 ?_
  exact W.iret (v := nI k) hx hb hr (fun t9 ht _ => ⟨congrArg (fun z => Outcome.returned (some (Value.int z))) (rfl), ht⟩) (fun _ h9 => nomatch h9) dX2_howMany_4
set_option maxHeartbeats 4000000 in
set_option maxRecDepth 100000 in
theorem c_X2_hold (hh : ad_ok h 20) (t : Int32) : Met l yX2_hold wsX2_hold ({ frames := 0, cells := 0, slots := 0, locals := 0 }) (wd_P D cI cJ [.ref (h 2), .int t] (sl_W cI cJ h (nI n) F Wt Sz Nu Mb (nI k) G Wk To Sl Ri (nI f) (nI b) oT oS oF (nI an) (nI as) Fo wo pa fa)) (pu_Q (some (.int (bI (p_in t (nI k)))))) 0 0 (fun _ => False) := by
  refine Met.ofW (cc := cX2_hold) (maxL := 2) (ret := (some .boolean)) (by decide) rfl ?_
  intro p e s m args below meth c s₁ B hml hv
  obtain ⟨rfl, hP, hK⟩ := hv
  have hx := B.exec
  have hb := B.bytes
  have hr := B.returns
  have hts := atoms_spec (ws := wsX2_hold) B.pre
  have hown : s.vm.findClass RX2 = some m.cls := findClass_of_methodNamed B.named
  have hlocks := B.notSynchronized
  have hiX2 : ∀ w ∈ u_ws RX2 TX2 5, w ∈ wsX2_hold := by decide +kernel
  have kf25 := hts (.fieldLink RX2 25 "SortingLine$Stations" "made" "I") (by decide +kernel)
  have hl := lv_entry ([.ref (h 2), .int t]) (n := 2) (Nat.le_of_ble_eq_true rfl)
  rw [lg_entry_eq]
  generalize (lg_sl ([.ref (h 2), .int t]) ++ List.replicate (2 - (lg_sl ([.ref (h 2), .int t])).length) Slot.unset).toArray = ls at hl ⊢
  have hl : lv_has ls 2 [(0, .ref (h 2)), (1, .int t)] := hl
  refine lv_iload_n hx hb dX2_hold_0 rfl (lv_at hl 1 rfl) ?_
  refine lv_if_lt (tgt := 16) hx hb dX2_hold_1 (by decide) (fun c1 => ?_) (fun c1 => ?_)
  · skip
    refine lv_iconst (v := 0) hx hb dX2_hold_16 (by decide) ?_
    exact W.zret (ty := .boolean) (v := 0) hx hb hr (by decide) (fun t9 ht _ => ⟨congrArg (fun z => Outcome.returned (some (Value.int z))) (by rw [p_in_lt c1]; rfl), ht⟩) (fun _ h9 => nomatch h9) dX2_hold_17
  · skip
    refine lv_iload_n hx hb dX2_hold_4 rfl (lv_at hl 1 rfl) ?_
    refine lv_aload_n hx hb dX2_hold_5 rfl (lv_at hl 0 rfl) ?_
    refine va_get (D := D) (ci := 2) (v := .int (nI k)) (C := RX2) (T := TX2) (N := 5) hx hb hts hiX2 hown hK.1 hP 2 rfl rfl 4 (by decide) kf25 (fun _ h9 => h9) rfl dX2_hold_6 ?_
    refine lv_icmp_ge (tgt := 16) hx hb dX2_hold_9 (by decide) (fun c9 => ?_) (fun c9 => ?_)
    · skip
      refine lv_iconst (v := 0) hx hb dX2_hold_16 (by decide) ?_
      exact W.zret (ty := .boolean) (v := 0) hx hb hr (by decide) (fun t9 ht _ => ⟨congrArg (fun z => Outcome.returned (some (Value.int z))) (by rw [p_in_ge c9]; rfl), ht⟩) (fun _ h9 => nomatch h9) dX2_hold_17
    · skip
      refine lv_iconst (v := 1) hx hb dX2_hold_12 (by decide) ?_
      refine lv_goto (tgt := 17) hx hb dX2_hold_13 (by decide) ?_
      exact W.zret (ty := .boolean) (v := 1) hx hb hr (by decide) (fun t9 ht _ => ⟨congrArg (fun z => Outcome.returned (some (Value.int z))) (by rw [p_in_ok c1 c9]; rfl), ht⟩) (fun _ h9 => nomatch h9) dX2_hold_17
set_option maxHeartbeats 4000000 in
set_option maxRecDepth 100000 in
theorem c_X2_add (hh : ad_ok h 20) (hk : k < 8) (ga wk : Int32) : Met l yX2_add wsX2_add ({ frames := 0, cells := 0, slots := 0, locals := 0 }) (wd_P D cI cJ [.ref (h 2), .int ga, .int wk] (sl_W cI cJ h (nI n) F Wt Sz Nu Mb (nI k) G Wk To Sl Ri (nI f) (nI b) oT oS oF (nI an) (nI as) Fo wo pa fa)) (mu_Q D (ad_A h 20) (some (.int (nI k))) (sl_W cI cJ h (nI n) F Wt Sz Nu Mb (nI (k + 1)) (upd G k ga) (upd Wk k wk) (vp_updL To k 0) (upd Sl k (-5)) Ri (nI f) (nI b) oT oS oF (nI an) (nI as) Fo wo pa fa)) 0 0 (ad_A h 20) := by
  refine Met.ofW (cc := cX2_add) (maxL := 4) (ret := (some .int)) (by decide) rfl ?_
  intro p e s m args below meth c s₁ B hml hv
  obtain ⟨rfl, hP, hK⟩ := hv
  have hx := B.exec
  have hb := B.bytes
  have hr := B.returns
  have hts := atoms_spec (ws := wsX2_add) B.pre
  have hown : s.vm.findClass RX2 = some m.cls := findClass_of_methodNamed B.named
  have hlocks := B.notSynchronized
  have hiX2 : ∀ w ∈ u_ws RX2 TX2 5, w ∈ wsX2_add := by decide +kernel
  have kf25 := hts (.fieldLink RX2 25 "SortingLine$Stations" "made" "I") (by decide +kernel)
  have kf9 := hts (.fieldLink RX2 9 "SortingLine$Stations" "gates" "[I") (by decide +kernel)
  have kf15 := hts (.fieldLink RX2 15 "SortingLine$Stations" "works" "[I") (by decide +kernel)
  have kf18 := hts (.fieldLink RX2 18 "SortingLine$Stations" "totals" "[J") (by decide +kernel)
  have kf22 := hts (.fieldLink RX2 22 "SortingLine$Stations" "slots" "[I") (by decide +kernel)
  have hS : va_S (ad_A h 20) s.heap s.heap [] := va_S.rf
  have hl := lv_entry ([.ref (h 2), .int ga, .int wk]) (n := 4) (Nat.le_of_ble_eq_true rfl)
  rw [lg_entry_eq]
  generalize (lg_sl ([.ref (h 2), .int ga, .int wk]) ++ List.replicate (4 - (lg_sl ([.ref (h 2), .int ga, .int wk])).length) Slot.unset).toArray = ls at hl ⊢
  have hl : lv_has ls 4 [(0, .ref (h 2)), (1, .int ga), (2, .int wk)] := hl
  refine lv_aload_n hx hb dX2_add_0 rfl (lv_at hl 0 rfl) ?_
  refine va_get (D := D) (ci := 2) (v := .int (nI k)) (C := RX2) (T := TX2) (N := 5) hx hb hts hiX2 hown hK.1 hP 2 rfl rfl 4 (by decide) kf25 (fun _ h9 => h9) rfl dX2_add_1 ?_
  refine lv_bipush (v := 8) hx hb dX2_add_4 (by decide) ?_
  refine lv_icmp_lt (tgt := 12) hx hb dX2_add_6 (by decide) (fun _ => ?_) (fun h9 => absurd (nI_lt (a := k) (b := 8) hk (by decide)) h9)
  refine lv_aload_n hx hb dX2_add_12 rfl (lv_at hl 0 rfl) ?_
  refine va_get (D := D) (ci := 2) (v := .int (nI k)) (C := RX2) (T := TX2) (N := 5) hx hb hts hiX2 hown hK.1 hP 2 rfl rfl 4 (by decide) kf25 (fun _ h9 => h9) rfl dX2_add_13 ?_
  refine lv_istore_n (lv' := [(3, .int (nI k)), (0, .ref (h 2)), (1, .int ga), (2, .int wk)]) hx hb dX2_add_16 rfl hl (by decide) rfl (fun ls hl => ?_)
  refine lv_aload_n hx hb dX2_add_17 rfl (lv_at hl 1 rfl) ?_
  refine va_get (D := D) (ci := 2) (v := .ref (h 11)) (C := RX2) (T := TX2) (N := 5) hx hb hts hiX2 hown hK.1 hP 2 rfl rfl 0 (by decide) kf9 (fun _ h9 => h9) rfl dX2_add_18 ?_
  refine lv_iload_n hx hb dX2_add_21 rfl (lv_at hl 0 rfl) ?_
  refine lv_iload_n hx hb dX2_add_22 rfl (lv_at hl 2 rfl) ?_
  refine ga_ist hx hb hK hP (sl_D hh) hS 11 rfl k (rfl) (by omega) (by decide) dX2_add_23 (fun H locs hP hS => ?_)
  have hP : va_P D kC (sl_W cI cJ h (nI n) F Wt Sz Nu Mb (nI k) (upd G k ga) Wk To Sl Ri (nI f) (nI b) oT oS oF (nI an) (nI as) Fo wo pa fa) H := hP
  refine lv_aload_n hx hb dX2_add_24 rfl (lv_at hl 1 rfl) ?_
  refine va_get (D := D) (ci := 2) (v := .ref (h 12)) (C := RX2) (T := TX2) (N := 5) hx hb hts hiX2 hown hK.1 hP 2 rfl rfl 1 (by decide) kf15 (fun _ h9 => h9) rfl dX2_add_25 ?_
  refine lv_iload_n hx hb dX2_add_28 rfl (lv_at hl 0 rfl) ?_
  refine lv_iload_n hx hb dX2_add_29 rfl (lv_at hl 3 rfl) ?_
  refine ga_ist hx hb hK hP (sl_D hh) hS 12 rfl k (rfl) (by omega) (by decide) dX2_add_30 (fun H locs hP hS => ?_)
  have hP : va_P D kC (sl_W cI cJ h (nI n) F Wt Sz Nu Mb (nI k) (upd G k ga) (upd Wk k wk) To Sl Ri (nI f) (nI b) oT oS oF (nI an) (nI as) Fo wo pa fa) H := hP
  refine lv_aload_n hx hb dX2_add_31 rfl (lv_at hl 1 rfl) ?_
  refine va_get (D := D) (ci := 2) (v := .ref (h 13)) (C := RX2) (T := TX2) (N := 5) hx hb hts hiX2 hown hK.1 hP 2 rfl rfl 2 (by decide) kf18 (fun _ h9 => h9) rfl dX2_add_32 ?_
  refine lv_iload_n hx hb dX2_add_35 rfl (lv_at hl 0 rfl) ?_
  refine lv_lconst (v := 0) hx hb dX2_add_36 (by decide) ?_
  refine ga_lst hx hb hK hP (sl_D hh) hS 13 rfl k (rfl) (by omega) (by decide) dX2_add_37 (fun H locs hP hS => ?_)
  have hP : va_P D kC (sl_W cI cJ h (nI n) F Wt Sz Nu Mb (nI k) (upd G k ga) (upd Wk k wk) (vp_updL To k 0) Sl Ri (nI f) (nI b) oT oS oF (nI an) (nI as) Fo wo pa fa) H := hP
  refine lv_aload_n hx hb dX2_add_38 rfl (lv_at hl 1 rfl) ?_
  refine va_get (D := D) (ci := 2) (v := .ref (h 14)) (C := RX2) (T := TX2) (N := 5) hx hb hts hiX2 hown hK.1 hP 2 rfl rfl 3 (by decide) kf22 (fun _ h9 => h9) rfl dX2_add_39 ?_
  refine lv_iload_n hx hb dX2_add_42 rfl (lv_at hl 0 rfl) ?_
  refine lv_bipush (v := (-5)) hx hb dX2_add_43 (by decide) ?_
  refine ga_ist hx hb hK hP (sl_D hh) hS 14 rfl k (rfl) (by omega) (by decide) dX2_add_45 (fun H locs hP hS => ?_)
  have hP : va_P D kC (sl_W cI cJ h (nI n) F Wt Sz Nu Mb (nI k) (upd G k ga) (upd Wk k wk) (vp_updL To k 0) (upd Sl k (-5)) Ri (nI f) (nI b) oT oS oF (nI an) (nI as) Fo wo pa fa) H := hP
  refine lv_aload_n hx hb dX2_add_46 rfl (lv_at hl 1 rfl) ?_
  refine lv_dup hx hb dX2_add_47 rfl ?_
  refine va_get (D := D) (ci := 2) (v := .int (nI k)) (C := RX2) (T := TX2) (N := 5) hx hb hts hiX2 hown hK.1 hP 2 rfl rfl 4 (by decide) kf25 (fun _ h9 => h9) rfl dX2_add_48 ?_
  refine lv_iconst (v := 1) hx hb dX2_add_51 (by decide) ?_
  refine lv_iadd hx hb dX2_add_52 ?_
  refine tp_i (y := nI (k + 1)) (nI_add k 1) ?_
  refine va_put (D := D) (ci := 2) (v := .int (nI (k + 1))) (ty := .int) (C := RX2) (T := TX2) (N := 5) hx hb hts hiX2 tyX2 tyX2_ok nmX2 hown hK.1 hP (sl_D hh) hS 2 rfl rfl 4 (by decide) kf25 (fun _ h9 => h9) rfl (by decide +kernel) rfl rfl (Nat.le_of_ble_eq_true rfl) dX2_add_53 (fun H locs hP _ hS => ?_)
  have hP : va_P D kC (sl_W cI cJ h (nI n) F Wt Sz Nu Mb (nI (k + 1)) (upd G k ga) (upd Wk k wk) (vp_updL To k 0) (upd Sl k (-5)) Ri (nI f) (nI b) oT oS oF (nI an) (nI as) Fo wo pa fa) H := hP
  refine lv_iload_n hx hb dX2_add_56 rfl (lv_at hl 0 rfl) ?_
  exact W.iret (v := nI k) hx hb hr (fun t9 ht _ => ⟨congrArg (fun z => Outcome.returned (some (Value.int z))) (rfl), by rw [ht]; exact hP, hS.F ht⟩) hS.2.2 dX2_add_57
set_option maxHeartbeats 4000000 in
set_option maxRecDepth 100000 in
theorem c_X2_addF (hh : ad_ok h 20) (hk : k = 8) (ga wk : Int32) : Met l yX2_add wsX2_add ({ frames := 0, cells := 0, slots := 0, locals := 0 }) (wd_P D cI cJ [.ref (h 2), .int ga, .int wk] (sl_W cI cJ h (nI n) F Wt Sz Nu Mb (nI k) G Wk To Sl Ri (nI f) (nI b) oT oS oF (nI an) (nI as) Fo wo pa fa)) (pu_Q (some (.int (-4)))) 0 0 (fun _ => False) := by
  refine Met.ofW (cc := cX2_add) (maxL := 4) (ret := (some .int)) (by decide) rfl ?_
  intro p e s m args below meth c s₁ B hml hv
  obtain ⟨rfl, hP, hK⟩ := hv
  have hx := B.exec
  have hb := B.bytes
  have hr := B.returns
  have hts := atoms_spec (ws := wsX2_add) B.pre
  have hown : s.vm.findClass RX2 = some m.cls := findClass_of_methodNamed B.named
  have hlocks := B.notSynchronized
  have hiX2 : ∀ w ∈ u_ws RX2 TX2 5, w ∈ wsX2_add := by decide +kernel
  have kf25 := hts (.fieldLink RX2 25 "SortingLine$Stations" "made" "I") (by decide +kernel)
  have hl := lv_entry ([.ref (h 2), .int ga, .int wk]) (n := 4) (Nat.le_of_ble_eq_true rfl)
  rw [lg_entry_eq]
  generalize (lg_sl ([.ref (h 2), .int ga, .int wk]) ++ List.replicate (4 - (lg_sl ([.ref (h 2), .int ga, .int wk])).length) Slot.unset).toArray = ls at hl ⊢
  have hl : lv_has ls 4 [(0, .ref (h 2)), (1, .int ga), (2, .int wk)] := hl
  refine lv_aload_n hx hb dX2_add_0 rfl (lv_at hl 0 rfl) ?_
  refine va_get (D := D) (ci := 2) (v := .int (nI k)) (C := RX2) (T := TX2) (N := 5) hx hb hts hiX2 hown hK.1 hP 2 rfl rfl 4 (by decide) kf25 (fun _ h9 => h9) rfl dX2_add_1 ?_
  refine lv_bipush (v := 8) hx hb dX2_add_4 (by decide) ?_
  refine lv_icmp_lt (tgt := 12) hx hb dX2_add_6 (by decide) (fun h9 => absurd h9 (nI_nlt (a := k) (b := 8) (by omega) (by omega))) (fun _ => ?_)
  refine lv_bipush (v := (-4)) hx hb dX2_add_9 (by decide) ?_
  exact W.iret (v := (-4)) hx hb hr (fun t9 ht _ => ⟨congrArg (fun z => Outcome.returned (some (Value.int z))) (rfl), ht⟩) (fun _ h9 => nomatch h9) dX2_add_11
set_option maxHeartbeats 4000000 in
set_option maxRecDepth 100000 in
theorem c_X2_gateOf (hh : ad_ok h 20) (hk : k ≤ 8) (i : Nat) (hi : i < k) : Met l yX2_gateOf wsX2_gateOf ({ frames := 1, cells := 0, slots := 0, locals := 21 }) (wd_P D cI cJ [.ref (h 2), .int (nI i)] (sl_W cI cJ h (nI n) F Wt Sz Nu Mb (nI k) G Wk To Sl Ri (nI f) (nI b) oT oS oF (nI an) (nI as) Fo wo pa fa)) (pu_Q (some (.int (G i)))) 0 0 (fun _ => False) := by
  refine Met.ofW (cc := cX2_gateOf) (maxL := 2) (ret := (some .int)) (by decide) rfl ?_
  intro p e s m args below meth c s₁ B hml hv
  obtain ⟨rfl, hP, hK⟩ := hv
  have hx := B.exec
  have hb := B.bytes
  have hr := B.returns
  have hts := atoms_spec (ws := wsX2_gateOf) B.pre
  have hown : s.vm.findClass RX2 = some m.cls := findClass_of_methodNamed B.named
  have hlocks := B.notSynchronized
  have hiX2 : ∀ w ∈ u_ws RX2 TX2 5, w ∈ wsX2_gateOf := by decide +kernel
  have kf9 := hts (.fieldLink RX2 9 "SortingLine$Stations" "gates" "[I") (by decide +kernel)
  have hl := lv_entry ([.ref (h 2), .int (nI i)]) (n := 2) (Nat.le_of_ble_eq_true rfl)
  rw [lg_entry_eq]
  generalize (lg_sl ([.ref (h 2), .int (nI i)]) ++ List.replicate (2 - (lg_sl ([.ref (h 2), .int (nI i)])).length) Slot.unset).toArray = ls at hl ⊢
  have hl : lv_has ls 2 [(0, .ref (h 2)), (1, .int (nI i))] := hl
  refine lv_aload_n hx hb dX2_gateOf_0 rfl (lv_at hl 0 rfl) ?_
  refine lv_iload_n hx hb dX2_gateOf_1 rfl (lv_at hl 1 rfl) ?_
  refine pu_callb (va_runV (As := [.int (nI i)]) (rest := []) ⟨hx, hb, hml, hown, hts⟩ (c_X2_hold hh (nI i)) (cwV 1 hts gX2_gateOf_X2_hold rfl rfl rfl (by decide +kernel) ⟨Nat.le_of_ble_eq_true rfl, Nat.le_of_ble_eq_true rfl⟩) (wd_preV (ci := 2) (q0 := 2) hP hK rfl rfl) rfl rfl hl.1 rfl (lv_room (Nat.le_of_ble_eq_true rfl)) dX2_gateOf_2 ⟨Nat.zero_le _, Nat.zero_le _⟩) (fun _ => ?_) (fun h9 => absurd (p_in_nI hi (by omega)) (by rw [h9]; decide))
  refine lv_if_eq (tgt := 17) hx hb dX2_gateOf_5 (by decide) (fun h9 => absurd h9 (by decide)) (fun _ => ?_)
  refine lv_aload_n hx hb dX2_gateOf_8 rfl (lv_at hl 0 rfl) ?_
  refine va_get (D := D) (ci := 2) (v := .ref (h 11)) (C := RX2) (T := TX2) (N := 5) hx hb hts hiX2 hown hK.1 hP 2 rfl rfl 0 (by decide) kf9 (fun _ h9 => h9) rfl dX2_gateOf_9 ?_
  refine lv_iload_n hx hb dX2_gateOf_12 rfl (lv_at hl 1 rfl) ?_
  refine ga_ild hx hb hK hP 11 rfl i (rfl) (by omega) (by decide) dX2_gateOf_13 ?_
  refine lv_goto (tgt := 19) hx hb dX2_gateOf_14 (by decide) ?_
  exact W.iret (v := G i) hx hb hr (fun t9 ht _ => ⟨congrArg (fun z => Outcome.returned (some (Value.int z))) (rfl), ht⟩) (fun _ h9 => nomatch h9) dX2_gateOf_19
set_option maxHeartbeats 4000000 in
set_option maxRecDepth 100000 in
theorem c_X2_workOf (hh : ad_ok h 20) (hk : k ≤ 8) (i : Nat) (hi : i < k) : Met l yX2_workOf wsX2_workOf ({ frames := 1, cells := 0, slots := 0, locals := 21 }) (wd_P D cI cJ [.ref (h 2), .int (nI i)] (sl_W cI cJ h (nI n) F Wt Sz Nu Mb (nI k) G Wk To Sl Ri (nI f) (nI b) oT oS oF (nI an) (nI as) Fo wo pa fa)) (pu_Q (some (.int (Wk i)))) 0 0 (fun _ => False) := by
  refine Met.ofW (cc := cX2_workOf) (maxL := 2) (ret := (some .int)) (by decide) rfl ?_
  intro p e s m args below meth c s₁ B hml hv
  obtain ⟨rfl, hP, hK⟩ := hv
  have hx := B.exec
  have hb := B.bytes
  have hr := B.returns
  have hts := atoms_spec (ws := wsX2_workOf) B.pre
  have hown : s.vm.findClass RX2 = some m.cls := findClass_of_methodNamed B.named
  have hlocks := B.notSynchronized
  have hiX2 : ∀ w ∈ u_ws RX2 TX2 5, w ∈ wsX2_workOf := by decide +kernel
  have kf15 := hts (.fieldLink RX2 15 "SortingLine$Stations" "works" "[I") (by decide +kernel)
  have hl := lv_entry ([.ref (h 2), .int (nI i)]) (n := 2) (Nat.le_of_ble_eq_true rfl)
  rw [lg_entry_eq]
  generalize (lg_sl ([.ref (h 2), .int (nI i)]) ++ List.replicate (2 - (lg_sl ([.ref (h 2), .int (nI i)])).length) Slot.unset).toArray = ls at hl ⊢
  have hl : lv_has ls 2 [(0, .ref (h 2)), (1, .int (nI i))] := hl
  refine lv_aload_n hx hb dX2_workOf_0 rfl (lv_at hl 0 rfl) ?_
  refine lv_iload_n hx hb dX2_workOf_1 rfl (lv_at hl 1 rfl) ?_
  refine pu_callb (va_runV (As := [.int (nI i)]) (rest := []) ⟨hx, hb, hml, hown, hts⟩ (c_X2_hold hh (nI i)) (cwV 1 hts gX2_workOf_X2_hold rfl rfl rfl (by decide +kernel) ⟨Nat.le_of_ble_eq_true rfl, Nat.le_of_ble_eq_true rfl⟩) (wd_preV (ci := 2) (q0 := 2) hP hK rfl rfl) rfl rfl hl.1 rfl (lv_room (Nat.le_of_ble_eq_true rfl)) dX2_workOf_2 ⟨Nat.zero_le _, Nat.zero_le _⟩) (fun _ => ?_) (fun h9 => absurd (p_in_nI hi (by omega)) (by rw [h9]; decide))
  refine lv_if_eq (tgt := 17) hx hb dX2_workOf_5 (by decide) (fun h9 => absurd h9 (by decide)) (fun _ => ?_)
  refine lv_aload_n hx hb dX2_workOf_8 rfl (lv_at hl 0 rfl) ?_
  refine va_get (D := D) (ci := 2) (v := .ref (h 12)) (C := RX2) (T := TX2) (N := 5) hx hb hts hiX2 hown hK.1 hP 2 rfl rfl 1 (by decide) kf15 (fun _ h9 => h9) rfl dX2_workOf_9 ?_
  refine lv_iload_n hx hb dX2_workOf_12 rfl (lv_at hl 1 rfl) ?_
  refine ga_ild hx hb hK hP 12 rfl i (rfl) (by omega) (by decide) dX2_workOf_13 ?_
  refine lv_goto (tgt := 19) hx hb dX2_workOf_14 (by decide) ?_
  exact W.iret (v := Wk i) hx hb hr (fun t9 ht _ => ⟨congrArg (fun z => Outcome.returned (some (Value.int z))) (rfl), ht⟩) (fun _ h9 => nomatch h9) dX2_workOf_19
set_option maxHeartbeats 4000000 in
set_option maxRecDepth 100000 in
theorem c_X2_totalOf (hh : ad_ok h 20) (hk : k ≤ 8) (i : Nat) (hi : i < k) : Met l yX2_totalOf wsX2_totalOf ({ frames := 1, cells := 0, slots := 0, locals := 21 }) (wd_P D cI cJ [.ref (h 2), .int (nI i)] (sl_W cI cJ h (nI n) F Wt Sz Nu Mb (nI k) G Wk To Sl Ri (nI f) (nI b) oT oS oF (nI an) (nI as) Fo wo pa fa)) (pu_Q (some (.long (To i)))) 0 0 (fun _ => False) := by
  refine Met.ofW (cc := cX2_totalOf) (maxL := 2) (ret := (some .long)) (by decide) rfl ?_
  intro p e s m args below meth c s₁ B hml hv
  obtain ⟨rfl, hP, hK⟩ := hv
  have hx := B.exec
  have hb := B.bytes
  have hr := B.returns
  have hts := atoms_spec (ws := wsX2_totalOf) B.pre
  have hown : s.vm.findClass RX2 = some m.cls := findClass_of_methodNamed B.named
  have hlocks := B.notSynchronized
  have hiX2 : ∀ w ∈ u_ws RX2 TX2 5, w ∈ wsX2_totalOf := by decide +kernel
  have kf18 := hts (.fieldLink RX2 18 "SortingLine$Stations" "totals" "[J") (by decide +kernel)
  have hl := lv_entry ([.ref (h 2), .int (nI i)]) (n := 2) (Nat.le_of_ble_eq_true rfl)
  rw [lg_entry_eq]
  generalize (lg_sl ([.ref (h 2), .int (nI i)]) ++ List.replicate (2 - (lg_sl ([.ref (h 2), .int (nI i)])).length) Slot.unset).toArray = ls at hl ⊢
  have hl : lv_has ls 2 [(0, .ref (h 2)), (1, .int (nI i))] := hl
  refine lv_aload_n hx hb dX2_totalOf_0 rfl (lv_at hl 0 rfl) ?_
  refine lv_iload_n hx hb dX2_totalOf_1 rfl (lv_at hl 1 rfl) ?_
  refine pu_callb (va_runV (As := [.int (nI i)]) (rest := []) ⟨hx, hb, hml, hown, hts⟩ (c_X2_hold hh (nI i)) (cwV 1 hts gX2_totalOf_X2_hold rfl rfl rfl (by decide +kernel) ⟨Nat.le_of_ble_eq_true rfl, Nat.le_of_ble_eq_true rfl⟩) (wd_preV (ci := 2) (q0 := 2) hP hK rfl rfl) rfl rfl hl.1 rfl (lv_room (Nat.le_of_ble_eq_true rfl)) dX2_totalOf_2 ⟨Nat.zero_le _, Nat.zero_le _⟩) (fun _ => ?_) (fun h9 => absurd (p_in_nI hi (by omega)) (by rw [h9]; decide))
  refine lv_if_eq (tgt := 17) hx hb dX2_totalOf_5 (by decide) (fun h9 => absurd h9 (by decide)) (fun _ => ?_)
  refine lv_aload_n hx hb dX2_totalOf_8 rfl (lv_at hl 0 rfl) ?_
  refine va_get (D := D) (ci := 2) (v := .ref (h 13)) (C := RX2) (T := TX2) (N := 5) hx hb hts hiX2 hown hK.1 hP 2 rfl rfl 2 (by decide) kf18 (fun _ h9 => h9) rfl dX2_totalOf_9 ?_
  refine lv_iload_n hx hb dX2_totalOf_12 rfl (lv_at hl 1 rfl) ?_
  refine ga_lld hx hb hK hP 13 rfl i (rfl) (by omega) (by decide) dX2_totalOf_13 ?_
  refine lv_goto (tgt := 18) hx hb dX2_totalOf_14 (by decide) ?_
  exact W.lret (v := To i) hx hb hr (fun t9 ht _ => ⟨congrArg (fun z => Outcome.returned (some (Value.long z))) (rfl), ht⟩) (fun _ h9 => nomatch h9) dX2_totalOf_18
set_option maxHeartbeats 4000000 in
set_option maxRecDepth 100000 in
theorem c_X2_slotOf (hh : ad_ok h 20) (hk : k ≤ 8) (i : Nat) (hi : i < k) : Met l yX2_slotOf wsX2_slotOf ({ frames := 1, cells := 0, slots := 0, locals := 21 }) (wd_P D cI cJ [.ref (h 2), .int (nI i)] (sl_W cI cJ h (nI n) F Wt Sz Nu Mb (nI k) G Wk To Sl Ri (nI f) (nI b) oT oS oF (nI an) (nI as) Fo wo pa fa)) (pu_Q (some (.int (Sl i)))) 0 0 (fun _ => False) := by
  refine Met.ofW (cc := cX2_slotOf) (maxL := 2) (ret := (some .int)) (by decide) rfl ?_
  intro p e s m args below meth c s₁ B hml hv
  obtain ⟨rfl, hP, hK⟩ := hv
  have hx := B.exec
  have hb := B.bytes
  have hr := B.returns
  have hts := atoms_spec (ws := wsX2_slotOf) B.pre
  have hown : s.vm.findClass RX2 = some m.cls := findClass_of_methodNamed B.named
  have hlocks := B.notSynchronized
  have hiX2 : ∀ w ∈ u_ws RX2 TX2 5, w ∈ wsX2_slotOf := by decide +kernel
  have kf22 := hts (.fieldLink RX2 22 "SortingLine$Stations" "slots" "[I") (by decide +kernel)
  have hl := lv_entry ([.ref (h 2), .int (nI i)]) (n := 2) (Nat.le_of_ble_eq_true rfl)
  rw [lg_entry_eq]
  generalize (lg_sl ([.ref (h 2), .int (nI i)]) ++ List.replicate (2 - (lg_sl ([.ref (h 2), .int (nI i)])).length) Slot.unset).toArray = ls at hl ⊢
  have hl : lv_has ls 2 [(0, .ref (h 2)), (1, .int (nI i))] := hl
  refine lv_aload_n hx hb dX2_slotOf_0 rfl (lv_at hl 0 rfl) ?_
  refine lv_iload_n hx hb dX2_slotOf_1 rfl (lv_at hl 1 rfl) ?_
  refine pu_callb (va_runV (As := [.int (nI i)]) (rest := []) ⟨hx, hb, hml, hown, hts⟩ (c_X2_hold hh (nI i)) (cwV 1 hts gX2_slotOf_X2_hold rfl rfl rfl (by decide +kernel) ⟨Nat.le_of_ble_eq_true rfl, Nat.le_of_ble_eq_true rfl⟩) (wd_preV (ci := 2) (q0 := 2) hP hK rfl rfl) rfl rfl hl.1 rfl (lv_room (Nat.le_of_ble_eq_true rfl)) dX2_slotOf_2 ⟨Nat.zero_le _, Nat.zero_le _⟩) (fun _ => ?_) (fun h9 => absurd (p_in_nI hi (by omega)) (by rw [h9]; decide))
  refine lv_if_eq (tgt := 17) hx hb dX2_slotOf_5 (by decide) (fun h9 => absurd h9 (by decide)) (fun _ => ?_)
  refine lv_aload_n hx hb dX2_slotOf_8 rfl (lv_at hl 0 rfl) ?_
  refine va_get (D := D) (ci := 2) (v := .ref (h 14)) (C := RX2) (T := TX2) (N := 5) hx hb hts hiX2 hown hK.1 hP 2 rfl rfl 3 (by decide) kf22 (fun _ h9 => h9) rfl dX2_slotOf_9 ?_
  refine lv_iload_n hx hb dX2_slotOf_12 rfl (lv_at hl 1 rfl) ?_
  refine ga_ild hx hb hK hP 14 rfl i (rfl) (by omega) (by decide) dX2_slotOf_13 ?_
  refine lv_goto (tgt := 19) hx hb dX2_slotOf_14 (by decide) ?_
  exact W.iret (v := Sl i) hx hb hr (fun t9 ht _ => ⟨congrArg (fun z => Outcome.returned (some (Value.int z))) (rfl), ht⟩) (fun _ h9 => nomatch h9) dX2_slotOf_19
set_option maxHeartbeats 4000000 in
set_option maxRecDepth 100000 in
theorem c_X2_totalOfN (hh : ad_ok h 20) (t : Int32) (ht9 : p_in t (nI k) = false) : Met l yX2_totalOf wsX2_totalOf ({ frames := 1, cells := 0, slots := 0, locals := 21 }) (wd_P D cI cJ [.ref (h 2), .int t] (sl_W cI cJ h (nI n) F Wt Sz Nu Mb (nI k) G Wk To Sl Ri (nI f) (nI b) oT oS oF (nI an) (nI as) Fo wo pa fa)) (pu_Q (some (.long 0))) 0 0 (fun _ => False) := by
  refine Met.ofW (cc := cX2_totalOf) (maxL := 2) (ret := (some .long)) (by decide) rfl ?_
  intro p e s m args below meth c s₁ B hml hv
  obtain ⟨rfl, hP, hK⟩ := hv
  have hx := B.exec
  have hb := B.bytes
  have hr := B.returns
  have hts := atoms_spec (ws := wsX2_totalOf) B.pre
  have hown : s.vm.findClass RX2 = some m.cls := findClass_of_methodNamed B.named
  have hlocks := B.notSynchronized
  have hl := lv_entry ([.ref (h 2), .int t]) (n := 2) (Nat.le_of_ble_eq_true rfl)
  rw [lg_entry_eq]
  generalize (lg_sl ([.ref (h 2), .int t]) ++ List.replicate (2 - (lg_sl ([.ref (h 2), .int t])).length) Slot.unset).toArray = ls at hl ⊢
  have hl : lv_has ls 2 [(0, .ref (h 2)), (1, .int t)] := hl
  refine lv_aload_n hx hb dX2_totalOf_0 rfl (lv_at hl 0 rfl) ?_
  refine lv_iload_n hx hb dX2_totalOf_1 rfl (lv_at hl 1 rfl) ?_
  refine pu_callb (va_runV (As := [.int t]) (rest := []) ⟨hx, hb, hml, hown, hts⟩ (c_X2_hold hh t) (cwV 1 hts gX2_totalOf_X2_hold rfl rfl rfl (by decide +kernel) ⟨Nat.le_of_ble_eq_true rfl, Nat.le_of_ble_eq_true rfl⟩) (wd_preV (ci := 2) (q0 := 2) hP hK rfl rfl) rfl rfl hl.1 rfl (lv_room (Nat.le_of_ble_eq_true rfl)) dX2_totalOf_2 ⟨Nat.zero_le _, Nat.zero_le _⟩) (fun h9 => absurd (ht9) (by rw [h9]; decide)) (fun _ => ?_)
  refine lv_if_eq (tgt := 17) hx hb dX2_totalOf_5 (by decide) (fun _ => ?_) (fun h9 => absurd (by decide) h9)
  refine lv_lconst (v := 0) hx hb dX2_totalOf_17 (by decide) ?_
  exact W.lret (v := 0) hx hb hr (fun t9 ht _ => ⟨congrArg (fun z => Outcome.returned (some (Value.long z))) (rfl), ht⟩) (fun _ h9 => nomatch h9) dX2_totalOf_18
set_option maxHeartbeats 4000000 in
set_option maxRecDepth 100000 in
theorem c_X2_grow (hh : ad_ok h 20) (hk : k ≤ 8) (i : Nat) (hi : i < k) (v : Int64) : Met l yX2_grow wsX2_grow ({ frames := 1, cells := 0, slots := 0, locals := 21 }) (wd_P D cI cJ [.ref (h 2), .int (nI i), .long v] (sl_W cI cJ h (nI n) F Wt Sz Nu Mb (nI k) G Wk To Sl Ri (nI f) (nI b) oT oS oF (nI an) (nI as) Fo wo pa fa)) (mu_Q D (ad_A h 20) none (sl_W cI cJ h (nI n) F Wt Sz Nu Mb (nI k) G Wk (vp_updL To i (To i + v)) Sl Ri (nI f) (nI b) oT oS oF (nI an) (nI as) Fo wo pa fa)) 0 0 (ad_A h 20) := by
  refine Met.ofW (cc := cX2_grow) (maxL := 4) (ret := none) (by decide) rfl ?_
  intro p e s m args below meth c s₁ B hml hv
  obtain ⟨rfl, hP, hK⟩ := hv
  have hx := B.exec
  have hb := B.bytes
  have hr := B.returns
  have hts := atoms_spec (ws := wsX2_grow) B.pre
  have hown : s.vm.findClass RX2 = some m.cls := findClass_of_methodNamed B.named
  have hlocks := B.notSynchronized
  have hiX2 : ∀ w ∈ u_ws RX2 TX2 5, w ∈ wsX2_grow := by decide +kernel
  have kf18 := hts (.fieldLink RX2 18 "SortingLine$Stations" "totals" "[J") (by decide +kernel)
  have hS : va_S (ad_A h 20) s.heap s.heap [] := va_S.rf
  have hl := lv_entry ([.ref (h 2), .int (nI i), .long v]) (n := 4) (Nat.le_of_ble_eq_true rfl)
  rw [lg_entry_eq]
  generalize (lg_sl ([.ref (h 2), .int (nI i), .long v]) ++ List.replicate (4 - (lg_sl ([.ref (h 2), .int (nI i), .long v])).length) Slot.unset).toArray = ls at hl ⊢
  have hl : lv_has ls 4 [(0, .ref (h 2)), (1, .int (nI i)), (2, .long v)] := hl
  refine lv_aload_n hx hb dX2_grow_0 rfl (lv_at hl 0 rfl) ?_
  refine lv_iload_n hx hb dX2_grow_1 rfl (lv_at hl 1 rfl) ?_
  refine pu_callb (va_runV (As := [.int (nI i)]) (rest := []) ⟨hx, hb, hml, hown, hts⟩ (c_X2_hold hh (nI i)) (cwV 1 hts gX2_grow_X2_hold rfl rfl rfl (by decide +kernel) ⟨Nat.le_of_ble_eq_true rfl, Nat.le_of_ble_eq_true rfl⟩) (wd_preV (ci := 2) (q0 := 2) hP hK rfl rfl) rfl rfl hl.1 rfl (lv_room (Nat.le_of_ble_eq_true rfl)) dX2_grow_2 ⟨Nat.zero_le _, Nat.zero_le _⟩) (fun _ => ?_) (fun h9 => absurd (p_in_nI hi (by omega)) (by rw [h9]; decide))
  refine lv_if_eq (tgt := 18) hx hb dX2_grow_5 (by decide) (fun h9 => absurd h9 (by decide)) (fun _ => ?_)
  refine lv_aload_n hx hb dX2_grow_8 rfl (lv_at hl 0 rfl) ?_
  refine va_get (D := D) (ci := 2) (v := .ref (h 13)) (C := RX2) (T := TX2) (N := 5) hx hb hts hiX2 hown hK.1 hP 2 rfl rfl 2 (by decide) kf18 (fun _ h9 => h9) rfl dX2_grow_9 ?_
  refine lv_iload_n hx hb dX2_grow_12 rfl (lv_at hl 1 rfl) ?_
  refine lv_dup2_11 hx hb dX2_grow_13 rfl rfl ?_
  refine ga_lld hx hb hK hP 13 rfl i (rfl) (by omega) (by decide) dX2_grow_14 ?_
  refine lv_lload_n hx hb dX2_grow_15 rfl (lv_at hl 2 rfl) ?_
  refine lv_ladd hx hb dX2_grow_16 ?_
  refine ga_lst hx hb hK hP (sl_D hh) hS 13 rfl i (rfl) (by omega) (by decide) dX2_grow_17 (fun H locs hP hS => ?_)
  have hP : va_P D kC (sl_W cI cJ h (nI n) F Wt Sz Nu Mb (nI k) G Wk (vp_updL To i ((To i) + v)) Sl Ri (nI f) (nI b) oT oS oF (nI an) (nI as) Fo wo pa fa) H := hP
  exact W.vret hx hb hr (fun t9 ht _ => ⟨rfl, by rw [ht]; exact hP, hS.F ht⟩) hS.2.2 dX2_grow_18
set_option maxHeartbeats 4000000 in
set_option maxRecDepth 100000 in
theorem c_X2_setSlot (hh : ad_ok h 20) (hk : k ≤ 8) (i : Nat) (hi : i < k) (x : Int32) : Met l yX2_setSlot wsX2_setSlot ({ frames := 1, cells := 0, slots := 0, locals := 21 }) (wd_P D cI cJ [.ref (h 2), .int (nI i), .int x] (sl_W cI cJ h (nI n) F Wt Sz Nu Mb (nI k) G Wk To Sl Ri (nI f) (nI b) oT oS oF (nI an) (nI as) Fo wo pa fa)) (mu_Q D (ad_A h 20) none (sl_W cI cJ h (nI n) F Wt Sz Nu Mb (nI k) G Wk To (upd Sl i x) Ri (nI f) (nI b) oT oS oF (nI an) (nI as) Fo wo pa fa)) 0 0 (ad_A h 20) := by
  refine Met.ofW (cc := cX2_setSlot) (maxL := 3) (ret := none) (by decide) rfl ?_
  intro p e s m args below meth c s₁ B hml hv
  obtain ⟨rfl, hP, hK⟩ := hv
  have hx := B.exec
  have hb := B.bytes
  have hr := B.returns
  have hts := atoms_spec (ws := wsX2_setSlot) B.pre
  have hown : s.vm.findClass RX2 = some m.cls := findClass_of_methodNamed B.named
  have hlocks := B.notSynchronized
  have hiX2 : ∀ w ∈ u_ws RX2 TX2 5, w ∈ wsX2_setSlot := by decide +kernel
  have kf22 := hts (.fieldLink RX2 22 "SortingLine$Stations" "slots" "[I") (by decide +kernel)
  have hS : va_S (ad_A h 20) s.heap s.heap [] := va_S.rf
  have hl := lv_entry ([.ref (h 2), .int (nI i), .int x]) (n := 3) (Nat.le_of_ble_eq_true rfl)
  rw [lg_entry_eq]
  generalize (lg_sl ([.ref (h 2), .int (nI i), .int x]) ++ List.replicate (3 - (lg_sl ([.ref (h 2), .int (nI i), .int x])).length) Slot.unset).toArray = ls at hl ⊢
  have hl : lv_has ls 3 [(0, .ref (h 2)), (1, .int (nI i)), (2, .int x)] := hl
  refine lv_aload_n hx hb dX2_setSlot_0 rfl (lv_at hl 0 rfl) ?_
  refine lv_iload_n hx hb dX2_setSlot_1 rfl (lv_at hl 1 rfl) ?_
  refine pu_callb (va_runV (As := [.int (nI i)]) (rest := []) ⟨hx, hb, hml, hown, hts⟩ (c_X2_hold hh (nI i)) (cwV 1 hts gX2_setSlot_X2_hold rfl rfl rfl (by decide +kernel) ⟨Nat.le_of_ble_eq_true rfl, Nat.le_of_ble_eq_true rfl⟩) (wd_preV (ci := 2) (q0 := 2) hP hK rfl rfl) rfl rfl hl.1 rfl (lv_room (Nat.le_of_ble_eq_true rfl)) dX2_setSlot_2 ⟨Nat.zero_le _, Nat.zero_le _⟩) (fun _ => ?_) (fun h9 => absurd (p_in_nI hi (by omega)) (by rw [h9]; decide))
  refine lv_if_eq (tgt := 15) hx hb dX2_setSlot_5 (by decide) (fun h9 => absurd h9 (by decide)) (fun _ => ?_)
  refine lv_aload_n hx hb dX2_setSlot_8 rfl (lv_at hl 0 rfl) ?_
  refine va_get (D := D) (ci := 2) (v := .ref (h 14)) (C := RX2) (T := TX2) (N := 5) hx hb hts hiX2 hown hK.1 hP 2 rfl rfl 3 (by decide) kf22 (fun _ h9 => h9) rfl dX2_setSlot_9 ?_
  refine lv_iload_n hx hb dX2_setSlot_12 rfl (lv_at hl 1 rfl) ?_
  refine lv_iload_n hx hb dX2_setSlot_13 rfl (lv_at hl 2 rfl) ?_
  refine ga_ist hx hb hK hP (sl_D hh) hS 14 rfl i (rfl) (by omega) (by decide) dX2_setSlot_14 (fun H locs hP hS => ?_)
  have hP : va_P D kC (sl_W cI cJ h (nI n) F Wt Sz Nu Mb (nI k) G Wk To (upd Sl i x) Ri (nI f) (nI b) oT oS oF (nI an) (nI as) Fo wo pa fa) H := hP
  exact W.vret hx hb hr (fun t9 ht _ => ⟨rfl, by rw [ht]; exact hP, hS.F ht⟩) hS.2.2 dX2_setSlot_15
set_option maxHeartbeats 4000000 in
set_option maxRecDepth 100000 in
theorem c_X2_forget (hh : ad_ok h 20) : Met l yX2_forget wsX2_forget ({ frames := 0, cells := 0, slots := 0, locals := 0 }) (wd_P D cI cJ [.ref (h 2)] (sl_W cI cJ h (nI n) F Wt Sz Nu Mb (nI k) G Wk To Sl Ri (nI f) (nI b) oT oS oF (nI an) (nI as) Fo wo pa fa)) (mu_Q D (ad_A h 20) none (sl_W cI cJ h (nI n) F Wt Sz Nu Mb 0 G Wk To Sl Ri (nI f) (nI b) oT oS oF (nI an) (nI as) Fo wo pa fa)) 0 0 (ad_A h 20) := by
  refine Met.ofW (cc := cX2_forget) (maxL := 1) (ret := none) (by decide) rfl ?_
  intro p e s m args below meth c s₁ B hml hv
  obtain ⟨rfl, hP, hK⟩ := hv
  have hx := B.exec
  have hb := B.bytes
  have hr := B.returns
  have hts := atoms_spec (ws := wsX2_forget) B.pre
  have hown : s.vm.findClass RX2 = some m.cls := findClass_of_methodNamed B.named
  have hlocks := B.notSynchronized
  have hiX2 : ∀ w ∈ u_ws RX2 TX2 5, w ∈ wsX2_forget := by decide +kernel
  have kf25 := hts (.fieldLink RX2 25 "SortingLine$Stations" "made" "I") (by decide +kernel)
  have hS : va_S (ad_A h 20) s.heap s.heap [] := va_S.rf
  have hl := lv_entry ([.ref (h 2)]) (n := 1) (Nat.le_of_ble_eq_true rfl)
  rw [lg_entry_eq]
  generalize (lg_sl ([.ref (h 2)]) ++ List.replicate (1 - (lg_sl ([.ref (h 2)])).length) Slot.unset).toArray = ls at hl ⊢
  have hl : lv_has ls 1 [(0, .ref (h 2))] := hl
  refine lv_aload_n hx hb dX2_forget_0 rfl (lv_at hl 0 rfl) ?_
  refine lv_iconst (v := 0) hx hb dX2_forget_1 (by decide) ?_
  refine va_put (D := D) (ci := 2) (v := .int 0) (ty := .int) (C := RX2) (T := TX2) (N := 5) hx hb hts hiX2 tyX2 tyX2_ok nmX2 hown hK.1 hP (sl_D hh) hS 2 rfl rfl 4 (by decide) kf25 (fun _ h9 => h9) rfl (by decide +kernel) rfl rfl (Nat.le_of_ble_eq_true rfl) dX2_forget_2 (fun H locs hP _ hS => ?_)
  have hP : va_P D kC (sl_W cI cJ h (nI n) F Wt Sz Nu Mb 0 G Wk To Sl Ri (nI f) (nI b) oT oS oF (nI an) (nI as) Fo wo pa fa) H := hP
  exact W.vret hx hb hr (fun t9 ht _ => ⟨rfl, by rw [ht]; exact hP, hS.F ht⟩) hS.2.2 dX2_forget_5
set_option maxHeartbeats 4000000 in
set_option maxRecDepth 100000 in
theorem c_X0_size (hh : ad_ok h 20) : Met l yX0_size wsX0_size ({ frames := 0, cells := 0, slots := 0, locals := 0 }) (wd_P D cI cJ [.ref (h 3)] (sl_W cI cJ h (nI n) F Wt Sz Nu Mb (nI k) G Wk To Sl Ri (nI f) (nI b) oT oS oF (nI an) (nI as) Fo wo pa fa)) (pu_Q (some (.int (nI b)))) 0 0 (fun _ => False) := by
  refine Met.ofW (cc := cX0_size) (maxL := 1) (ret := (some .int)) (by decide) rfl ?_
  intro p e s m args below meth c s₁ B hml hv
  obtain ⟨rfl, hP, hK⟩ := hv
  have hx := B.exec
  have hb := B.bytes
  have hr := B.returns
  have hts := atoms_spec (ws := wsX0_size) B.pre
  have hown : s.vm.findClass RX0 = some m.cls := findClass_of_methodNamed B.named
  have hlocks := B.notSynchronized
  have hiX0 : ∀ w ∈ u_ws RX0 TX0 3, w ∈ wsX0_size := by decide +kernel
  have kf19 := hts (.fieldLink RX0 19 "SortingLine$Belt" "size" "I") (by decide +kernel)
  have hl := lv_entry ([.ref (h 3)]) (n := 1) (Nat.le_of_ble_eq_true rfl)
  rw [lg_entry_eq]
  generalize (lg_sl ([.ref (h 3)]) ++ List.replicate (1 - (lg_sl ([.ref (h 3)])).length) Slot.unset).toArray = ls at hl ⊢
  have hl : lv_has ls 1 [(0, .ref (h 3))] := hl
  refine lv_aload_n hx hb dX0_size_0 rfl (lv_at hl 0 rfl) ?_
  refine va_get (D := D) (ci := 0) (v := .int (nI b)) (C := RX0) (T := TX0) (N := 3) hx hb hts hiX0 hown hK.1 hP 3 rfl rfl 2 (by decide) kf19 (fun _ h9 => h9) rfl dX0_size_1 ?_
  exact W.iret (v := nI b) hx hb hr (fun t9 ht _ => ⟨congrArg (fun z => Outcome.returned (some (Value.int z))) (rfl), ht⟩) (fun _ h9 => nomatch h9) dX0_size_4
set_option maxHeartbeats 4000000 in
set_option maxRecDepth 100000 in
theorem c_X0_append (hh : ad_ok h 20) (hf : f < 40) (hb9 : b < 40) (x : Int32) : Met l yX0_append wsX0_append ({ frames := 0, cells := 0, slots := 0, locals := 0 }) (wd_P D cI cJ [.ref (h 3), .int x] (sl_W cI cJ h (nI n) F Wt Sz Nu Mb (nI k) G Wk To Sl Ri (nI f) (nI b) oT oS oF (nI an) (nI as) Fo wo pa fa)) (mu_Q D (ad_A h 20) (some (.int 1)) (sl_W cI cJ h (nI n) F Wt Sz Nu Mb (nI k) G Wk To Sl (upd Ri ((f + b) % 40) x) (nI f) (nI (b + 1)) oT oS oF (nI an) (nI as) Fo wo pa fa)) 0 0 (ad_A h 20) := by
  refine Met.ofW (cc := cX0_append) (maxL := 2) (ret := (some .boolean)) (by decide) rfl ?_
  intro p e s m args below meth c s₁ B hml hv
  obtain ⟨rfl, hP, hK⟩ := hv
  have hx := B.exec
  have hb := B.bytes
  have hr := B.returns
  have hts := atoms_spec (ws := wsX0_append) B.pre
  have hown : s.vm.findClass RX0 = some m.cls := findClass_of_methodNamed B.named
  have hlocks := B.notSynchronized
  have hiX0 : ∀ w ∈ u_ws RX0 TX0 3, w ∈ wsX0_append := by decide +kernel
  have kf19 := hts (.fieldLink RX0 19 "SortingLine$Belt" "size" "I") (by decide +kernel)
  have kf9 := hts (.fieldLink RX0 9 "SortingLine$Belt" "ring" "[I") (by decide +kernel)
  have kf15 := hts (.fieldLink RX0 15 "SortingLine$Belt" "first" "I") (by decide +kernel)
  have hS : va_S (ad_A h 20) s.heap s.heap [] := va_S.rf
  have hl := lv_entry ([.ref (h 3), .int x]) (n := 2) (Nat.le_of_ble_eq_true rfl)
  rw [lg_entry_eq]
  generalize (lg_sl ([.ref (h 3), .int x]) ++ List.replicate (2 - (lg_sl ([.ref (h 3), .int x])).length) Slot.unset).toArray = ls at hl ⊢
  have hl : lv_has ls 2 [(0, .ref (h 3)), (1, .int x)] := hl
  refine lv_aload_n hx hb dX0_append_0 rfl (lv_at hl 0 rfl) ?_
  refine va_get (D := D) (ci := 0) (v := .int (nI b)) (C := RX0) (T := TX0) (N := 3) hx hb hts hiX0 hown hK.1 hP 3 rfl rfl 2 (by decide) kf19 (fun _ h9 => h9) rfl dX0_append_1 ?_
  refine lv_bipush (v := 40) hx hb dX0_append_4 (by decide) ?_
  refine lv_icmp_lt (tgt := 11) hx hb dX0_append_6 (by decide) (fun _ => ?_) (fun h9 => absurd (nI_lt (a := b) (b := 40) hb9 (by decide)) h9)
  refine lv_aload_n hx hb dX0_append_11 rfl (lv_at hl 0 rfl) ?_
  refine va_get (D := D) (ci := 0) (v := .ref (h 15)) (C := RX0) (T := TX0) (N := 3) hx hb hts hiX0 hown hK.1 hP 3 rfl rfl 0 (by decide) kf9 (fun _ h9 => h9) rfl dX0_append_12 ?_
  refine lv_aload_n hx hb dX0_append_15 rfl (lv_at hl 0 rfl) ?_
  refine va_get (D := D) (ci := 0) (v := .int (nI f)) (C := RX0) (T := TX0) (N := 3) hx hb hts hiX0 hown hK.1 hP 3 rfl rfl 1 (by decide) kf15 (fun _ h9 => h9) rfl dX0_append_16 ?_
  refine lv_aload_n hx hb dX0_append_19 rfl (lv_at hl 0 rfl) ?_
  refine va_get (D := D) (ci := 0) (v := .int (nI b)) (C := RX0) (T := TX0) (N := 3) hx hb hts hiX0 hown hK.1 hP 3 rfl rfl 2 (by decide) kf19 (fun _ h9 => h9) rfl dX0_append_20 ?_
  refine lv_iadd hx hb dX0_append_23 ?_
  refine tp_i (y := nI (f + b)) (nI_add f b) ?_
  refine lv_bipush (v := 40) hx hb dX0_append_24 (by decide) ?_
  refine lv_irem hx hb dX0_append_26 (by decide) ?_
  refine tp_i (y := nI ((f + b) % 40)) (pk_rem (by omega) (by decide) (by decide)) ?_
  refine lv_iload_n hx hb dX0_append_27 rfl (lv_at hl 1 rfl) ?_
  refine ga_ist hx hb hK hP (sl_D hh) hS 15 rfl ((f + b) % 40) (rfl) (by omega) (by decide) dX0_append_28 (fun H locs hP hS => ?_)
  have hP : va_P D kC (sl_W cI cJ h (nI n) F Wt Sz Nu Mb (nI k) G Wk To Sl (upd Ri ((f + b) % 40) x) (nI f) (nI b) oT oS oF (nI an) (nI as) Fo wo pa fa) H := hP
  refine lv_aload_n hx hb dX0_append_29 rfl (lv_at hl 0 rfl) ?_
  refine lv_dup hx hb dX0_append_30 rfl ?_
  refine va_get (D := D) (ci := 0) (v := .int (nI b)) (C := RX0) (T := TX0) (N := 3) hx hb hts hiX0 hown hK.1 hP 3 rfl rfl 2 (by decide) kf19 (fun _ h9 => h9) rfl dX0_append_31 ?_
  refine lv_iconst (v := 1) hx hb dX0_append_34 (by decide) ?_
  refine lv_iadd hx hb dX0_append_35 ?_
  refine tp_i (y := nI (b + 1)) (nI_add b 1) ?_
  refine va_put (D := D) (ci := 0) (v := .int (nI (b + 1))) (ty := .int) (C := RX0) (T := TX0) (N := 3) hx hb hts hiX0 tyX0 tyX0_ok nmX0 hown hK.1 hP (sl_D hh) hS 3 rfl rfl 2 (by decide) kf19 (fun _ h9 => h9) rfl (by decide +kernel) rfl rfl (Nat.le_of_ble_eq_true rfl) dX0_append_36 (fun H locs hP _ hS => ?_)
  have hP : va_P D kC (sl_W cI cJ h (nI n) F Wt Sz Nu Mb (nI k) G Wk To Sl (upd Ri ((f + b) % 40) x) (nI f) (nI (b + 1)) oT oS oF (nI an) (nI as) Fo wo pa fa) H := hP
  refine lv_iconst (v := 1) hx hb dX0_append_39 (by decide) ?_
  exact W.zret (ty := .boolean) (v := 1) hx hb hr (by decide) (fun t9 ht _ => ⟨congrArg (fun z => Outcome.returned (some (Value.int z))) (rfl), by rw [ht]; exact hP, hS.F ht⟩) hS.2.2 dX0_append_40
set_option maxHeartbeats 4000000 in
set_option maxRecDepth 100000 in
theorem c_X0_appendF (hh : ad_ok h 20) (hb9 : b = 40) (x : Int32) : Met l yX0_append wsX0_append ({ frames := 0, cells := 0, slots := 0, locals := 0 }) (wd_P D cI cJ [.ref (h 3), .int x] (sl_W cI cJ h (nI n) F Wt Sz Nu Mb (nI k) G Wk To Sl Ri (nI f) (nI b) oT oS oF (nI an) (nI as) Fo wo pa fa)) (pu_Q (some (.int 0))) 0 0 (fun _ => False) := by
  refine Met.ofW (cc := cX0_append) (maxL := 2) (ret := (some .boolean)) (by decide) rfl ?_
  intro p e s m args below meth c s₁ B hml hv
  obtain ⟨rfl, hP, hK⟩ := hv
  have hx := B.exec
  have hb := B.bytes
  have hr := B.returns
  have hts := atoms_spec (ws := wsX0_append) B.pre
  have hown : s.vm.findClass RX0 = some m.cls := findClass_of_methodNamed B.named
  have hlocks := B.notSynchronized
  have hiX0 : ∀ w ∈ u_ws RX0 TX0 3, w ∈ wsX0_append := by decide +kernel
  have kf19 := hts (.fieldLink RX0 19 "SortingLine$Belt" "size" "I") (by decide +kernel)
  have hl := lv_entry ([.ref (h 3), .int x]) (n := 2) (Nat.le_of_ble_eq_true rfl)
  rw [lg_entry_eq]
  generalize (lg_sl ([.ref (h 3), .int x]) ++ List.replicate (2 - (lg_sl ([.ref (h 3), .int x])).length) Slot.unset).toArray = ls at hl ⊢
  have hl : lv_has ls 2 [(0, .ref (h 3)), (1, .int x)] := hl
  refine lv_aload_n hx hb dX0_append_0 rfl (lv_at hl 0 rfl) ?_
  refine va_get (D := D) (ci := 0) (v := .int (nI b)) (C := RX0) (T := TX0) (N := 3) hx hb hts hiX0 hown hK.1 hP 3 rfl rfl 2 (by decide) kf19 (fun _ h9 => h9) rfl dX0_append_1 ?_
  refine lv_bipush (v := 40) hx hb dX0_append_4 (by decide) ?_
  refine lv_icmp_lt (tgt := 11) hx hb dX0_append_6 (by decide) (fun h9 => absurd h9 (nI_nlt (a := b) (b := 40) (by omega) (by omega))) (fun _ => ?_)
  refine lv_iconst (v := 0) hx hb dX0_append_9 (by decide) ?_
  exact W.zret (ty := .boolean) (v := 0) hx hb hr (by decide) (fun t9 ht _ => ⟨congrArg (fun z => Outcome.returned (some (Value.int z))) (rfl), ht⟩) (fun _ h9 => nomatch h9) dX0_append_10
set_option maxHeartbeats 4000000 in
set_option maxRecDepth 100000 in
theorem c_X0_thingAt (hh : ad_ok h 20) (hf : f < 40) (hb9 : b ≤ 40) (j : Nat) (hj : j < b) : Met l yX0_thingAt wsX0_thingAt ({ frames := 0, cells := 0, slots := 0, locals := 0 }) (wd_P D cI cJ [.ref (h 3), .int (nI j)] (sl_W cI cJ h (nI n) F Wt Sz Nu Mb (nI k) G Wk To Sl Ri (nI f) (nI b) oT oS oF (nI an) (nI as) Fo wo pa fa)) (pu_Q (some (.int (Ri ((f + j) % 40))))) 0 0 (fun _ => False) := by
  refine Met.ofW (cc := cX0_thingAt) (maxL := 2) (ret := (some .int)) (by decide) rfl ?_
  intro p e s m args below meth c s₁ B hml hv
  obtain ⟨rfl, hP, hK⟩ := hv
  have hx := B.exec
  have hb := B.bytes
  have hr := B.returns
  have hts := atoms_spec (ws := wsX0_thingAt) B.pre
  have hown : s.vm.findClass RX0 = some m.cls := findClass_of_methodNamed B.named
  have hlocks := B.notSynchronized
  have hiX0 : ∀ w ∈ u_ws RX0 TX0 3, w ∈ wsX0_thingAt := by decide +kernel
  have kf19 := hts (.fieldLink RX0 19 "SortingLine$Belt" "size" "I") (by decide +kernel)
  have kf9 := hts (.fieldLink RX0 9 "SortingLine$Belt" "ring" "[I") (by decide +kernel)
  have kf15 := hts (.fieldLink RX0 15 "SortingLine$Belt" "first" "I") (by decide +kernel)
  have hl := lv_entry ([.ref (h 3), .int (nI j)]) (n := 2) (Nat.le_of_ble_eq_true rfl)
  rw [lg_entry_eq]
  generalize (lg_sl ([.ref (h 3), .int (nI j)]) ++ List.replicate (2 - (lg_sl ([.ref (h 3), .int (nI j)])).length) Slot.unset).toArray = ls at hl ⊢
  have hl : lv_has ls 2 [(0, .ref (h 3)), (1, .int (nI j))] := hl
  refine lv_iload_n hx hb dX0_thingAt_0 rfl (lv_at hl 1 rfl) ?_
  refine lv_if_lt (tgt := 29) hx hb dX0_thingAt_1 (by decide) (fun h9 => absurd h9 (nI_pos (by omega))) (fun _ => ?_)
  refine lv_iload_n hx hb dX0_thingAt_4 rfl (lv_at hl 1 rfl) ?_
  refine lv_aload_n hx hb dX0_thingAt_5 rfl (lv_at hl 0 rfl) ?_
  refine va_get (D := D) (ci := 0) (v := .int (nI b)) (C := RX0) (T := TX0) (N := 3) hx hb hts hiX0 hown hK.1 hP 3 rfl rfl 2 (by decide) kf19 (fun _ h9 => h9) rfl dX0_thingAt_6 ?_
  refine lv_icmp_ge (tgt := 29) hx hb dX0_thingAt_9 (by decide) (fun h9 => absurd h9 (nI_ge hj (by omega))) (fun _ => ?_)
  refine lv_aload_n hx hb dX0_thingAt_12 rfl (lv_at hl 0 rfl) ?_
  refine va_get (D := D) (ci := 0) (v := .ref (h 15)) (C := RX0) (T := TX0) (N := 3) hx hb hts hiX0 hown hK.1 hP 3 rfl rfl 0 (by decide) kf9 (fun _ h9 => h9) rfl dX0_thingAt_13 ?_
  refine lv_aload_n hx hb dX0_thingAt_16 rfl (lv_at hl 0 rfl) ?_
  refine va_get (D := D) (ci := 0) (v := .int (nI f)) (C := RX0) (T := TX0) (N := 3) hx hb hts hiX0 hown hK.1 hP 3 rfl rfl 1 (by decide) kf15 (fun _ h9 => h9) rfl dX0_thingAt_17 ?_
  refine lv_iload_n hx hb dX0_thingAt_20 rfl (lv_at hl 1 rfl) ?_
  refine lv_iadd hx hb dX0_thingAt_21 ?_
  refine tp_i (y := nI (f + j)) (nI_add f j) ?_
  refine lv_bipush (v := 40) hx hb dX0_thingAt_22 (by decide) ?_
  refine lv_irem hx hb dX0_thingAt_24 (by decide) ?_
  refine tp_i (y := nI ((f + j) % 40)) (pk_rem (by omega) (by decide) (by decide)) ?_
  refine ga_ild hx hb hK hP 15 rfl ((f + j) % 40) (rfl) (by omega) (by decide) dX0_thingAt_25 ?_
  refine lv_goto (tgt := 31) hx hb dX0_thingAt_26 (by decide) ?_
  exact W.iret (v := Ri ((f + j) % 40)) hx hb hr (fun t9 ht _ => ⟨congrArg (fun z => Outcome.returned (some (Value.int z))) (rfl), ht⟩) (fun _ h9 => nomatch h9) dX0_thingAt_31
set_option maxHeartbeats 4000000 in
set_option maxRecDepth 100000 in
theorem c_X0_thingAtN (hh : ad_ok h 20) (hf : f < 40) (hb9 : b ≤ 40) (t : Int32) (ht9 : p_in t (nI b) = false) : Met l yX0_thingAt wsX0_thingAt ({ frames := 0, cells := 0, slots := 0, locals := 0 }) (wd_P D cI cJ [.ref (h 3), .int t] (sl_W cI cJ h (nI n) F Wt Sz Nu Mb (nI k) G Wk To Sl Ri (nI f) (nI b) oT oS oF (nI an) (nI as) Fo wo pa fa)) (pu_Q (some (.int (-5)))) 0 0 (fun _ => False) := by
  refine Met.ofW (cc := cX0_thingAt) (maxL := 2) (ret := (some .int)) (by decide) rfl ?_
  intro p e s m args below meth c s₁ B hml hv
  obtain ⟨rfl, hP, hK⟩ := hv
  have hx := B.exec
  have hb := B.bytes
  have hr := B.returns
  have hts := atoms_spec (ws := wsX0_thingAt) B.pre
  have hown : s.vm.findClass RX0 = some m.cls := findClass_of_methodNamed B.named
  have hlocks := B.notSynchronized
  have hiX0 : ∀ w ∈ u_ws RX0 TX0 3, w ∈ wsX0_thingAt := by decide +kernel
  have kf19 := hts (.fieldLink RX0 19 "SortingLine$Belt" "size" "I") (by decide +kernel)
  have hl := lv_entry ([.ref (h 3), .int t]) (n := 2) (Nat.le_of_ble_eq_true rfl)
  rw [lg_entry_eq]
  generalize (lg_sl ([.ref (h 3), .int t]) ++ List.replicate (2 - (lg_sl ([.ref (h 3), .int t])).length) Slot.unset).toArray = ls at hl ⊢
  have hl : lv_has ls 2 [(0, .ref (h 3)), (1, .int t)] := hl
  refine lv_iload_n hx hb dX0_thingAt_0 rfl (lv_at hl 1 rfl) ?_
  refine lv_if_lt (tgt := 29) hx hb dX0_thingAt_1 (by decide) (fun c1 => ?_) (fun c1 => ?_)
  · skip
    refine lv_bipush (v := (-5)) hx hb dX0_thingAt_29 (by decide) ?_
    exact W.iret (v := (-5)) hx hb hr (fun t9 ht _ => ⟨congrArg (fun z => Outcome.returned (some (Value.int z))) (rfl), ht⟩) (fun _ h9 => nomatch h9) dX0_thingAt_31
  · skip
    refine lv_iload_n hx hb dX0_thingAt_4 rfl (lv_at hl 1 rfl) ?_
    refine lv_aload_n hx hb dX0_thingAt_5 rfl (lv_at hl 0 rfl) ?_
    refine va_get (D := D) (ci := 0) (v := .int (nI b)) (C := RX0) (T := TX0) (N := 3) hx hb hts hiX0 hown hK.1 hP 3 rfl rfl 2 (by decide) kf19 (fun _ h9 => h9) rfl dX0_thingAt_6 ?_
    refine lv_icmp_ge (tgt := 29) hx hb dX0_thingAt_9 (by decide) (fun c9 => ?_) (fun c9 => ?_)
    · skip
      refine lv_bipush (v := (-5)) hx hb dX0_thingAt_29 (by decide) ?_
      exact W.iret (v := (-5)) hx hb hr (fun t9 ht _ => ⟨congrArg (fun z => Outcome.returned (some (Value.int z))) (rfl), ht⟩) (fun _ h9 => nomatch h9) dX0_thingAt_31
    · skip
      exact absurd (p_in_ok c1 c9) (by rw [ht9]; decide)
set_option maxHeartbeats 4000000 in
set_option maxRecDepth 100000 in
theorem c_X0_takeFirst (hh : ad_ok h 20) (hf : f < 40) (hb9 : b < 40) : Met l yX0_takeFirst wsX0_takeFirst ({ frames := 0, cells := 0, slots := 0, locals := 0 }) (wd_P D cI cJ [.ref (h 3)] (sl_W cI cJ h (nI n) F Wt Sz Nu Mb (nI k) G Wk To Sl Ri (nI f) (nI (b + 1)) oT oS oF (nI an) (nI as) Fo wo pa fa)) (mu_Q D (ad_A h 20) (some (.int (Ri f))) (sl_W cI cJ h (nI n) F Wt Sz Nu Mb (nI k) G Wk To Sl Ri (nI ((f + 1) % 40)) (nI b) oT oS oF (nI an) (nI as) Fo wo pa fa)) 0 0 (ad_A h 20) := by
  refine Met.ofW (cc := cX0_takeFirst) (maxL := 2) (ret := (some .int)) (by decide) rfl ?_
  intro p e s m args below meth c s₁ B hml hv
  obtain ⟨rfl, hP, hK⟩ := hv
  have hx := B.exec
  have hb := B.bytes
  have hr := B.returns
  have hts := atoms_spec (ws := wsX0_takeFirst) B.pre
  have hown : s.vm.findClass RX0 = some m.cls := findClass_of_methodNamed B.named
  have hlocks := B.notSynchronized
  have hiX0 : ∀ w ∈ u_ws RX0 TX0 3, w ∈ wsX0_takeFirst := by decide +kernel
  have kf19 := hts (.fieldLink RX0 19 "SortingLine$Belt" "size" "I") (by decide +kernel)
  have kf9 := hts (.fieldLink RX0 9 "SortingLine$Belt" "ring" "[I") (by decide +kernel)
  have kf15 := hts (.fieldLink RX0 15 "SortingLine$Belt" "first" "I") (by decide +kernel)
  have hS : va_S (ad_A h 20) s.heap s.heap [] := va_S.rf
  have hl := lv_entry ([.ref (h 3)]) (n := 2) (Nat.le_of_ble_eq_true rfl)
  rw [lg_entry_eq]
  generalize (lg_sl ([.ref (h 3)]) ++ List.replicate (2 - (lg_sl ([.ref (h 3)])).length) Slot.unset).toArray = ls at hl ⊢
  have hl : lv_has ls 2 [(0, .ref (h 3))] := hl
  refine lv_aload_n hx hb dX0_takeFirst_0 rfl (lv_at hl 0 rfl) ?_
  refine va_get (D := D) (ci := 0) (v := .int (nI (b + 1))) (C := RX0) (T := TX0) (N := 3) hx hb hts hiX0 hown hK.1 hP 3 rfl rfl 2 (by decide) kf19 (fun _ h9 => h9) rfl dX0_takeFirst_1 ?_
  refine lv_if_ne (tgt := 10) hx hb dX0_takeFirst_4 (by decide) (fun _ => ?_) (fun h9 => absurd h9 (nI_ne0 (Nat.succ_pos b) (by omega)))
  refine lv_aload_n hx hb dX0_takeFirst_10 rfl (lv_at hl 0 rfl) ?_
  refine va_get (D := D) (ci := 0) (v := .ref (h 15)) (C := RX0) (T := TX0) (N := 3) hx hb hts hiX0 hown hK.1 hP 3 rfl rfl 0 (by decide) kf9 (fun _ h9 => h9) rfl dX0_takeFirst_11 ?_
  refine lv_aload_n hx hb dX0_takeFirst_14 rfl (lv_at hl 0 rfl) ?_
  refine va_get (D := D) (ci := 0) (v := .int (nI f)) (C := RX0) (T := TX0) (N := 3) hx hb hts hiX0 hown hK.1 hP 3 rfl rfl 1 (by decide) kf15 (fun _ h9 => h9) rfl dX0_takeFirst_15 ?_
  refine ga_ild hx hb hK hP 15 rfl f (rfl) (by omega) (by decide) dX0_takeFirst_18 ?_
  refine lv_istore_n (lv' := [(1, .int (Ri f)), (0, .ref (h 3))]) hx hb dX0_takeFirst_19 rfl hl (by decide) rfl (fun ls hl => ?_)
  refine lv_aload_n hx hb dX0_takeFirst_20 rfl (lv_at hl 1 rfl) ?_
  refine lv_aload_n hx hb dX0_takeFirst_21 rfl (lv_at hl 1 rfl) ?_
  refine va_get (D := D) (ci := 0) (v := .int (nI f)) (C := RX0) (T := TX0) (N := 3) hx hb hts hiX0 hown hK.1 hP 3 rfl rfl 1 (by decide) kf15 (fun _ h9 => h9) rfl dX0_takeFirst_22 ?_
  refine lv_iconst (v := 1) hx hb dX0_takeFirst_25 (by decide) ?_
  refine lv_iadd hx hb dX0_takeFirst_26 ?_
  refine tp_i (y := nI (f + 1)) (nI_add f 1) ?_
  refine lv_bipush (v := 40) hx hb dX0_takeFirst_27 (by decide) ?_
  refine lv_irem hx hb dX0_takeFirst_29 (by decide) ?_
  refine tp_i (y := nI ((f + 1) % 40)) (pk_rem (by omega) (by decide) (by decide)) ?_
  refine va_put (D := D) (ci := 0) (v := .int (nI ((f + 1) % 40))) (ty := .int) (C := RX0) (T := TX0) (N := 3) hx hb hts hiX0 tyX0 tyX0_ok nmX0 hown hK.1 hP (sl_D hh) hS 3 rfl rfl 1 (by decide) kf15 (fun _ h9 => h9) rfl (by decide +kernel) rfl rfl (Nat.le_of_ble_eq_true rfl) dX0_takeFirst_30 (fun H locs hP _ hS => ?_)
  have hP : va_P D kC (sl_W cI cJ h (nI n) F Wt Sz Nu Mb (nI k) G Wk To Sl Ri (nI ((f + 1) % 40)) (nI (b + 1)) oT oS oF (nI an) (nI as) Fo wo pa fa) H := hP
  refine lv_aload_n hx hb dX0_takeFirst_33 rfl (lv_at hl 1 rfl) ?_
  refine lv_dup hx hb dX0_takeFirst_34 rfl ?_
  refine va_get (D := D) (ci := 0) (v := .int (nI (b + 1))) (C := RX0) (T := TX0) (N := 3) hx hb hts hiX0 hown hK.1 hP 3 rfl rfl 2 (by decide) kf19 (fun _ h9 => h9) rfl dX0_takeFirst_35 ?_
  refine lv_iconst (v := 1) hx hb dX0_takeFirst_38 (by decide) ?_
  refine lv_isub hx hb dX0_takeFirst_39 ?_
  refine tp_i (y := nI b) (nI_pred b) ?_
  refine va_put (D := D) (ci := 0) (v := .int (nI b)) (ty := .int) (C := RX0) (T := TX0) (N := 3) hx hb hts hiX0 tyX0 tyX0_ok nmX0 hown hK.1 hP (sl_D hh) hS 3 rfl rfl 2 (by decide) kf19 (fun _ h9 => h9) rfl (by decide +kernel) rfl rfl (Nat.le_of_ble_eq_true rfl) dX0_takeFirst_40 (fun H locs hP _ hS => ?_)
  have hP : va_P D kC (sl_W cI cJ h (nI n) F Wt Sz Nu Mb (nI k) G Wk To Sl Ri (nI ((f + 1) % 40)) (nI b) oT oS oF (nI an) (nI as) Fo wo pa fa) H := hP
  refine lv_iload_n hx hb dX0_takeFirst_43 rfl (lv_at hl 0 rfl) ?_
  exact W.iret (v := Ri f) hx hb hr (fun t9 ht _ => ⟨congrArg (fun z => Outcome.returned (some (Value.int z))) (rfl), by rw [ht]; exact hP, hS.F ht⟩) hS.2.2 dX0_takeFirst_44
set_option maxHeartbeats 4000000 in
set_option maxRecDepth 100000 in
theorem c_X0_forget (hh : ad_ok h 20) : Met l yX0_forget wsX0_forget ({ frames := 0, cells := 0, slots := 0, locals := 0 }) (wd_P D cI cJ [.ref (h 3)] (sl_W cI cJ h (nI n) F Wt Sz Nu Mb (nI k) G Wk To Sl Ri (nI f) (nI b) oT oS oF (nI an) (nI as) Fo wo pa fa)) (mu_Q D (ad_A h 20) none (sl_W cI cJ h (nI n) F Wt Sz Nu Mb (nI k) G Wk To Sl Ri 0 0 oT oS oF (nI an) (nI as) Fo wo pa fa)) 0 0 (ad_A h 20) := by
  refine Met.ofW (cc := cX0_forget) (maxL := 1) (ret := none) (by decide) rfl ?_
  intro p e s m args below meth c s₁ B hml hv
  obtain ⟨rfl, hP, hK⟩ := hv
  have hx := B.exec
  have hb := B.bytes
  have hr := B.returns
  have hts := atoms_spec (ws := wsX0_forget) B.pre
  have hown : s.vm.findClass RX0 = some m.cls := findClass_of_methodNamed B.named
  have hlocks := B.notSynchronized
  have hiX0 : ∀ w ∈ u_ws RX0 TX0 3, w ∈ wsX0_forget := by decide +kernel
  have kf15 := hts (.fieldLink RX0 15 "SortingLine$Belt" "first" "I") (by decide +kernel)
  have kf19 := hts (.fieldLink RX0 19 "SortingLine$Belt" "size" "I") (by decide +kernel)
  have hS : va_S (ad_A h 20) s.heap s.heap [] := va_S.rf
  have hl := lv_entry ([.ref (h 3)]) (n := 1) (Nat.le_of_ble_eq_true rfl)
  rw [lg_entry_eq]
  generalize (lg_sl ([.ref (h 3)]) ++ List.replicate (1 - (lg_sl ([.ref (h 3)])).length) Slot.unset).toArray = ls at hl ⊢
  have hl : lv_has ls 1 [(0, .ref (h 3))] := hl
  refine lv_aload_n hx hb dX0_forget_0 rfl (lv_at hl 0 rfl) ?_
  refine lv_iconst (v := 0) hx hb dX0_forget_1 (by decide) ?_
  refine va_put (D := D) (ci := 0) (v := .int 0) (ty := .int) (C := RX0) (T := TX0) (N := 3) hx hb hts hiX0 tyX0 tyX0_ok nmX0 hown hK.1 hP (sl_D hh) hS 3 rfl rfl 1 (by decide) kf15 (fun _ h9 => h9) rfl (by decide +kernel) rfl rfl (Nat.le_of_ble_eq_true rfl) dX0_forget_2 (fun H locs hP _ hS => ?_)
  have hP : va_P D kC (sl_W cI cJ h (nI n) F Wt Sz Nu Mb (nI k) G Wk To Sl Ri 0 (nI b) oT oS oF (nI an) (nI as) Fo wo pa fa) H := hP
  refine lv_aload_n hx hb dX0_forget_5 rfl (lv_at hl 0 rfl) ?_
  refine lv_iconst (v := 0) hx hb dX0_forget_6 (by decide) ?_
  refine va_put (D := D) (ci := 0) (v := .int 0) (ty := .int) (C := RX0) (T := TX0) (N := 3) hx hb hts hiX0 tyX0 tyX0_ok nmX0 hown hK.1 hP (sl_D hh) hS 3 rfl rfl 2 (by decide) kf19 (fun _ h9 => h9) rfl (by decide +kernel) rfl rfl (Nat.le_of_ble_eq_true rfl) dX0_forget_7 (fun H locs hP _ hS => ?_)
  have hP : va_P D kC (sl_W cI cJ h (nI n) F Wt Sz Nu Mb (nI k) G Wk To Sl Ri 0 0 oT oS oF (nI an) (nI as) Fo wo pa fa) H := hP
  exact W.vret hx hb hr (fun t9 ht _ => ⟨rfl, by rw [ht]; exact hP, hS.F ht⟩) hS.2.2 dX0_forget_10
set_option maxHeartbeats 4000000 in
set_option maxRecDepth 100000 in
theorem c_X1_add (hh : ad_ok h 20) (ha : an < 20) (hs : as ≤ 20) (t u v : Int32) : Met l yX1_add wsX1_add ({ frames := 1, cells := 0, slots := 0, locals := 40 }) (wd_P D cI cJ [.ref (h 4), .int t, .int u, .int v] (sl_W cI cJ h (nI n) F Wt Sz Nu Mb (nI k) G Wk To Sl Ri (nI f) (nI b) oT oS oF (nI an) (nI as) Fo wo pa fa)) (mu_Q D (ad_A h 20) none (sl_W cI cJ h (nI n) F Wt Sz Nu Mb (nI k) G Wk To Sl Ri (nI f) (nI b) (upd oT an t) (upd oS an u) (upd oF an v) (nI ((an + 1) % 20)) (nI (min (as + 1) 20)) Fo wo pa fa)) 0 0 (ad_A h 20) := by
  refine Met.ofW (cc := cX1_add) (maxL := 4) (ret := none) (by decide) rfl ?_
  intro p e s m args below meth c s₁ B hml hv
  obtain ⟨rfl, hP, hK⟩ := hv
  have hx := B.exec
  have hb := B.bytes
  have hr := B.returns
  have hts := atoms_spec (ws := wsX1_add) B.pre
  have hown : s.vm.findClass RX1 = some m.cls := findClass_of_methodNamed B.named
  have hlocks := B.notSynchronized
  have hiX1 : ∀ w ∈ u_ws RX1 TX1 5, w ∈ wsX1_add := by decide +kernel
  have kf9 := hts (.fieldLink RX1 9 "SortingLine$Side" "ofThings" "[I") (by decide +kernel)
  have kf21 := hts (.fieldLink RX1 21 "SortingLine$Side" "next" "I") (by decide +kernel)
  have kf15 := hts (.fieldLink RX1 15 "SortingLine$Side" "ofStations" "[I") (by decide +kernel)
  have kf18 := hts (.fieldLink RX1 18 "SortingLine$Side" "ofFindings" "[I") (by decide +kernel)
  have kf25 := hts (.fieldLink RX1 25 "SortingLine$Side" "size" "I") (by decide +kernel)
  have km1 := hts (.methodLink RX1 28 Lib.Math.min.name) (by decide +kernel)
  have km2 := hts (.static Lib.Math.min.name) (by decide +kernel)
  have km3 := hts (.initialized "java/lang/Math") (by decide +kernel)
  have km4 := hts (.code Lib.Math.min.name Lib.Math.min.code 2 (some .int)) (by decide +kernel)
  have hS : va_S (ad_A h 20) s.heap s.heap [] := va_S.rf
  have hl := lv_entry ([.ref (h 4), .int t, .int u, .int v]) (n := 4) (Nat.le_of_ble_eq_true rfl)
  rw [lg_entry_eq]
  generalize (lg_sl ([.ref (h 4), .int t, .int u, .int v]) ++ List.replicate (4 - (lg_sl ([.ref (h 4), .int t, .int u, .int v])).length) Slot.unset).toArray = ls at hl ⊢
  have hl : lv_has ls 4 [(0, .ref (h 4)), (1, .int t), (2, .int u), (3, .int v)] := hl
  refine lv_aload_n hx hb dX1_add_0 rfl (lv_at hl 0 rfl) ?_
  refine va_get (D := D) (ci := 1) (v := .ref (h 16)) (C := RX1) (T := TX1) (N := 5) hx hb hts hiX1 hown hK.1 hP 4 rfl rfl 0 (by decide) kf9 (fun _ h9 => h9) rfl dX1_add_1 ?_
  refine lv_aload_n hx hb dX1_add_4 rfl (lv_at hl 0 rfl) ?_
  refine va_get (D := D) (ci := 1) (v := .int (nI an)) (C := RX1) (T := TX1) (N := 5) hx hb hts hiX1 hown hK.1 hP 4 rfl rfl 3 (by decide) kf21 (fun _ h9 => h9) rfl dX1_add_5 ?_
  refine lv_iload_n hx hb dX1_add_8 rfl (lv_at hl 1 rfl) ?_
  refine ga_ist hx hb hK hP (sl_D hh) hS 16 rfl an (rfl) (by omega) (by decide) dX1_add_9 (fun H locs hP hS => ?_)
  have hP : va_P D kC (sl_W cI cJ h (nI n) F Wt Sz Nu Mb (nI k) G Wk To Sl Ri (nI f) (nI b) (upd oT an t) oS oF (nI an) (nI as) Fo wo pa fa) H := hP
  refine lv_aload_n hx hb dX1_add_10 rfl (lv_at hl 0 rfl) ?_
  refine va_get (D := D) (ci := 1) (v := .ref (h 17)) (C := RX1) (T := TX1) (N := 5) hx hb hts hiX1 hown hK.1 hP 4 rfl rfl 1 (by decide) kf15 (fun _ h9 => h9) rfl dX1_add_11 ?_
  refine lv_aload_n hx hb dX1_add_14 rfl (lv_at hl 0 rfl) ?_
  refine va_get (D := D) (ci := 1) (v := .int (nI an)) (C := RX1) (T := TX1) (N := 5) hx hb hts hiX1 hown hK.1 hP 4 rfl rfl 3 (by decide) kf21 (fun _ h9 => h9) rfl dX1_add_15 ?_
  refine lv_iload_n hx hb dX1_add_18 rfl (lv_at hl 2 rfl) ?_
  refine ga_ist hx hb hK hP (sl_D hh) hS 17 rfl an (rfl) (by omega) (by decide) dX1_add_19 (fun H locs hP hS => ?_)
  have hP : va_P D kC (sl_W cI cJ h (nI n) F Wt Sz Nu Mb (nI k) G Wk To Sl Ri (nI f) (nI b) (upd oT an t) (upd oS an u) oF (nI an) (nI as) Fo wo pa fa) H := hP
  refine lv_aload_n hx hb dX1_add_20 rfl (lv_at hl 0 rfl) ?_
  refine va_get (D := D) (ci := 1) (v := .ref (h 18)) (C := RX1) (T := TX1) (N := 5) hx hb hts hiX1 hown hK.1 hP 4 rfl rfl 2 (by decide) kf18 (fun _ h9 => h9) rfl dX1_add_21 ?_
  refine lv_aload_n hx hb dX1_add_24 rfl (lv_at hl 0 rfl) ?_
  refine va_get (D := D) (ci := 1) (v := .int (nI an)) (C := RX1) (T := TX1) (N := 5) hx hb hts hiX1 hown hK.1 hP 4 rfl rfl 3 (by decide) kf21 (fun _ h9 => h9) rfl dX1_add_25 ?_
  refine lv_iload_n hx hb dX1_add_28 rfl (lv_at hl 3 rfl) ?_
  refine ga_ist hx hb hK hP (sl_D hh) hS 18 rfl an (rfl) (by omega) (by decide) dX1_add_29 (fun H locs hP hS => ?_)
  have hP : va_P D kC (sl_W cI cJ h (nI n) F Wt Sz Nu Mb (nI k) G Wk To Sl Ri (nI f) (nI b) (upd oT an t) (upd oS an u) (upd oF an v) (nI an) (nI as) Fo wo pa fa) H := hP
  refine lv_aload_n hx hb dX1_add_30 rfl (lv_at hl 0 rfl) ?_
  refine lv_aload_n hx hb dX1_add_31 rfl (lv_at hl 0 rfl) ?_
  refine va_get (D := D) (ci := 1) (v := .int (nI an)) (C := RX1) (T := TX1) (N := 5) hx hb hts hiX1 hown hK.1 hP 4 rfl rfl 3 (by decide) kf21 (fun _ h9 => h9) rfl dX1_add_32 ?_
  refine lv_iconst (v := 1) hx hb dX1_add_35 (by decide) ?_
  refine lv_iadd hx hb dX1_add_36 ?_
  refine tp_i (y := nI (an + 1)) (nI_add an 1) ?_
  refine lv_bipush (v := 20) hx hb dX1_add_37 (by decide) ?_
  refine lv_irem hx hb dX1_add_39 (by decide) ?_
  refine tp_i (y := nI ((an + 1) % 20)) (pk_rem (by omega) (by decide) (by decide)) ?_
  refine va_put (D := D) (ci := 1) (v := .int (nI ((an + 1) % 20))) (ty := .int) (C := RX1) (T := TX1) (N := 5) hx hb hts hiX1 tyX1 tyX1_ok nmX1 hown hK.1 hP (sl_D hh) hS 4 rfl rfl 3 (by decide) kf21 (fun _ h9 => h9) rfl (by decide +kernel) rfl rfl (Nat.le_of_ble_eq_true rfl) dX1_add_40 (fun H locs hP _ hS => ?_)
  have hP : va_P D kC (sl_W cI cJ h (nI n) F Wt Sz Nu Mb (nI k) G Wk To Sl Ri (nI f) (nI b) (upd oT an t) (upd oS an u) (upd oF an v) (nI ((an + 1) % 20)) (nI as) Fo wo pa fa) H := hP
  refine lv_aload_n hx hb dX1_add_43 rfl (lv_at hl 0 rfl) ?_
  refine lv_aload_n hx hb dX1_add_44 rfl (lv_at hl 0 rfl) ?_
  refine va_get (D := D) (ci := 1) (v := .int (nI as)) (C := RX1) (T := TX1) (N := 5) hx hb hts hiX1 hown hK.1 hP 4 rfl rfl 4 (by decide) kf25 (fun _ h9 => h9) rfl dX1_add_45 ?_
  refine lv_iconst (v := 1) hx hb dX1_add_48 (by decide) ?_
  refine lv_iadd hx hb dX1_add_49 ?_
  refine tp_i (y := nI (as + 1)) (nI_add as 1) ?_
  refine lv_bipush (v := 20) hx hb dX1_add_50 (by decide) ?_
  refine va_mmin hx hb (hml.trans hl.1.symm) hown km1 km2 km3 km4 (Nat.le_of_ble_eq_true rfl) (Nat.le_of_ble_eq_true rfl) (Nat.zero_le _) (Nat.zero_le _) dX1_add_52 ?_
  refine tp_i (y := nI (min (as + 1) 20)) (mn_nI (a := as + 1) (b := 20) (by omega) (by omega)) ?_
  refine va_put (D := D) (ci := 1) (v := .int (nI (min (as + 1) 20))) (ty := .int) (C := RX1) (T := TX1) (N := 5) hx hb hts hiX1 tyX1 tyX1_ok nmX1 hown hK.1 hP (sl_D hh) hS 4 rfl rfl 4 (by decide) kf25 (fun _ h9 => h9) rfl (by decide +kernel) rfl rfl (Nat.le_of_ble_eq_true rfl) dX1_add_55 (fun H locs hP _ hS => ?_)
  have hP : va_P D kC (sl_W cI cJ h (nI n) F Wt Sz Nu Mb (nI k) G Wk To Sl Ri (nI f) (nI b) (upd oT an t) (upd oS an u) (upd oF an v) (nI ((an + 1) % 20)) (nI (min (as + 1) 20)) Fo wo pa fa) H := hP
  exact W.vret hx hb hr (fun t9 ht _ => ⟨rfl, by rw [ht]; exact hP, hS.F ht⟩) hS.2.2 dX1_add_58
theorem sw_X1_tell_31 (x : Int32) : (Op.lookupswitch.offset [(0, 25), (1, 34)] 43 x.toInt = 43 ∧ ¬ x = 0 ∧ ¬ x = 1) ∨ x = 0 ∨ x = 1 := by
  by_cases h0 : x = 0
  · exact Or.inr (Or.inl <| h0)
  by_cases h1 : x = 1
  · exact Or.inr (Or.inr <| h1)
  refine Or.inl ⟨?_, h0, h1⟩
  have hz : ∀ v : Int32, ¬ x = v → ¬ v.toInt = x.toInt := fun v h h2 => h (Int32.toInt_inj.mp h2.symm)
  have z0 : ¬ (0 : Int) = x.toInt := hz 0 h0
  have y0 : ((0 : Int) == x.toInt) = false := by simpa using z0
  have z1 : ¬ (1 : Int) = x.toInt := hz 1 h1
  have y1 : ((1 : Int) == x.toInt) = false := by simpa using z1
  simp [Op.lookupswitch.offset, List.find?, y0, z0, y1, z1]
set_option maxHeartbeats 4000000 in
set_option maxRecDepth 100000 in
theorem c_X1_tell (hh : ad_ok h 20) (ha : an < 20) (hs : as ≤ 20) (j : Nat) (hj : j < as) (wh : Int32) : Met l yX1_tell wsX1_tell ({ frames := 0, cells := 0, slots := 0, locals := 0 }) (wd_P D cI cJ [.ref (h 4), .int (nI j), .int wh] (sl_W cI cJ h (nI n) F Wt Sz Nu Mb (nI k) G Wk To Sl Ri (nI f) (nI b) oT oS oF (nI an) (nI as) Fo wo pa fa)) (pu_Q (some (.int ((if wh = 0 then oT else if wh = 1 then oS else oF) ((an + 19 - j) % 20))))) 0 0 (fun _ => False) := by
  refine Met.ofW (cc := cX1_tell) (maxL := 4) (ret := (some .int)) (by decide) rfl ?_
  intro p e s m args below meth c s₁ B hml hv
  obtain ⟨rfl, hP, hK⟩ := hv
  have hx := B.exec
  have hb := B.bytes
  have hr := B.returns
  have hts := atoms_spec (ws := wsX1_tell) B.pre
  have hown : s.vm.findClass RX1 = some m.cls := findClass_of_methodNamed B.named
  have hlocks := B.notSynchronized
  have hiX1 : ∀ w ∈ u_ws RX1 TX1 5, w ∈ wsX1_tell := by decide +kernel
  have kf25 := hts (.fieldLink RX1 25 "SortingLine$Side" "size" "I") (by decide +kernel)
  have kf21 := hts (.fieldLink RX1 21 "SortingLine$Side" "next" "I") (by decide +kernel)
  have kf18 := hts (.fieldLink RX1 18 "SortingLine$Side" "ofFindings" "[I") (by decide +kernel)
  have kf9 := hts (.fieldLink RX1 9 "SortingLine$Side" "ofThings" "[I") (by decide +kernel)
  have kf15 := hts (.fieldLink RX1 15 "SortingLine$Side" "ofStations" "[I") (by decide +kernel)
  have hl := lv_entry ([.ref (h 4), .int (nI j), .int wh]) (n := 4) (Nat.le_of_ble_eq_true rfl)
  rw [lg_entry_eq]
  generalize (lg_sl ([.ref (h 4), .int (nI j), .int wh]) ++ List.replicate (4 - (lg_sl ([.ref (h 4), .int (nI j), .int wh])).length) Slot.unset).toArray = ls at hl ⊢
  have hl : lv_has ls 4 [(0, .ref (h 4)), (1, .int (nI j)), (2, .int wh)] := hl
  refine lv_iload_n hx hb dX1_tell_0 rfl (lv_at hl 1 rfl) ?_
  refine lv_if_lt (tgt := 12) hx hb dX1_tell_1 (by decide) (fun h9 => absurd h9 (nI_pos (by omega))) (fun _ => ?_)
  refine lv_iload_n hx hb dX1_tell_4 rfl (lv_at hl 1 rfl) ?_
  refine lv_aload_n hx hb dX1_tell_5 rfl (lv_at hl 0 rfl) ?_
  refine va_get (D := D) (ci := 1) (v := .int (nI as)) (C := RX1) (T := TX1) (N := 5) hx hb hts hiX1 hown hK.1 hP 4 rfl rfl 4 (by decide) kf25 (fun _ h9 => h9) rfl dX1_tell_6 ?_
  refine lv_icmp_lt (tgt := 15) hx hb dX1_tell_9 (by decide) (fun _ => ?_) (fun h9 => absurd (nI_lt hj (by omega)) h9)
  refine lv_aload_n hx hb dX1_tell_15 rfl (lv_at hl 0 rfl) ?_
  refine va_get (D := D) (ci := 1) (v := .int (nI an)) (C := RX1) (T := TX1) (N := 5) hx hb hts hiX1 hown hK.1 hP 4 rfl rfl 3 (by decide) kf21 (fun _ h9 => h9) rfl dX1_tell_16 ?_
  refine lv_iconst (v := 1) hx hb dX1_tell_19 (by decide) ?_
  refine lv_isub hx hb dX1_tell_20 ?_
  refine lv_iload_n hx hb dX1_tell_21 rfl (lv_at hl 1 rfl) ?_
  refine lv_isub hx hb dX1_tell_22 ?_
  refine lv_bipush (v := 20) hx hb dX1_tell_23 (by decide) ?_
  refine lv_iadd hx hb dX1_tell_25 ?_
  refine tp_i (y := nI (an + 19 - j)) (sd_ix ha (by omega)) ?_
  refine lv_bipush (v := 20) hx hb dX1_tell_26 (by decide) ?_
  refine lv_irem hx hb dX1_tell_28 (by decide) ?_
  refine tp_i (y := nI ((an + 19 - j) % 20)) (pk_rem (by omega) (by decide) (by decide)) ?_
  refine lv_istore_n (lv' := [(3, .int (nI ((an + 19 - j) % 20))), (0, .ref (h 4)), (1, .int (nI j)), (2, .int wh)]) hx hb dX1_tell_29 rfl hl (by decide) rfl (fun ls hl => ?_)
  refine lv_iload_n hx hb dX1_tell_30 rfl (lv_at hl 3 rfl) ?_
  rcases (sw_X1_tell_31 wh) with ho31 | rfl | rfl
  · skip
    refine lv_lookup (tgt := 74) hx hb dX1_tell_31 (by decide) ho31.1 (by decide) ?_
    refine lv_aload_n hx hb dX1_tell_74 rfl (lv_at hl 1 rfl) ?_
    refine va_get (D := D) (ci := 1) (v := .ref (h 18)) (C := RX1) (T := TX1) (N := 5) hx hb hts hiX1 hown hK.1 hP 4 rfl rfl 2 (by decide) kf18 (fun _ h9 => h9) rfl dX1_tell_75 ?_
    refine lv_iload_n hx hb dX1_tell_78 rfl (lv_at hl 0 rfl) ?_
    refine ga_ild hx hb hK hP 18 rfl ((an + 19 - j) % 20) (rfl) (by omega) (by decide) dX1_tell_79 ?_
    exact W.iret (v := oF ((an + 19 - j) % 20)) hx hb hr (fun t9 ht _ => ⟨congrArg (fun z => Outcome.returned (some (Value.int z))) (by simp [ho31.2]), ht⟩) (fun _ h9 => nomatch h9) dX1_tell_80
  · skip
    refine lv_lookup (off := 25) (tgt := 56) hx hb dX1_tell_31 (by decide) (by decide) (by decide) ?_
    refine lv_aload_n hx hb dX1_tell_56 rfl (lv_at hl 1 rfl) ?_
    refine va_get (D := D) (ci := 1) (v := .ref (h 16)) (C := RX1) (T := TX1) (N := 5) hx hb hts hiX1 hown hK.1 hP 4 rfl rfl 0 (by decide) kf9 (fun _ h9 => h9) rfl dX1_tell_57 ?_
    refine lv_iload_n hx hb dX1_tell_60 rfl (lv_at hl 0 rfl) ?_
    refine ga_ild hx hb hK hP 16 rfl ((an + 19 - j) % 20) (rfl) (by omega) (by decide) dX1_tell_61 ?_
    refine lv_goto (tgt := 80) hx hb dX1_tell_62 (by decide) ?_
    exact W.iret (v := oT ((an + 19 - j) % 20)) hx hb hr (fun t9 ht _ => ⟨congrArg (fun z => Outcome.returned (some (Value.int z))) (by simp []), ht⟩) (fun _ h9 => nomatch h9) dX1_tell_80
  · skip
    refine lv_lookup (off := 34) (tgt := 65) hx hb dX1_tell_31 (by decide) (by decide) (by decide) ?_
    refine lv_aload_n hx hb dX1_tell_65 rfl (lv_at hl 1 rfl) ?_
    refine va_get (D := D) (ci := 1) (v := .ref (h 17)) (C := RX1) (T := TX1) (N := 5) hx hb hts hiX1 hown hK.1 hP 4 rfl rfl 1 (by decide) kf15 (fun _ h9 => h9) rfl dX1_tell_66 ?_
    refine lv_iload_n hx hb dX1_tell_69 rfl (lv_at hl 0 rfl) ?_
    refine ga_ild hx hb hK hP 17 rfl ((an + 19 - j) % 20) (rfl) (by omega) (by decide) dX1_tell_70 ?_
    refine lv_goto (tgt := 80) hx hb dX1_tell_71 (by decide) ?_
    exact W.iret (v := oS ((an + 19 - j) % 20)) hx hb hr (fun t9 ht _ => ⟨congrArg (fun z => Outcome.returned (some (Value.int z))) (by simp []), ht⟩) (fun _ h9 => nomatch h9) dX1_tell_80
set_option maxHeartbeats 4000000 in
set_option maxRecDepth 100000 in
theorem c_X1_tellN (hh : ad_ok h 20) (t wh : Int32) (ht9 : p_in t (nI as) = false) : Met l yX1_tell wsX1_tell ({ frames := 0, cells := 0, slots := 0, locals := 0 }) (wd_P D cI cJ [.ref (h 4), .int t, .int wh] (sl_W cI cJ h (nI n) F Wt Sz Nu Mb (nI k) G Wk To Sl Ri (nI f) (nI b) oT oS oF (nI an) (nI as) Fo wo pa fa)) (pu_Q (some (.int (-5)))) 0 0 (fun _ => False) := by
  refine Met.ofW (cc := cX1_tell) (maxL := 4) (ret := (some .int)) (by decide) rfl ?_
  intro p e s m args below meth c s₁ B hml hv
  obtain ⟨rfl, hP, hK⟩ := hv
  have hx := B.exec
  have hb := B.bytes
  have hr := B.returns
  have hts := atoms_spec (ws := wsX1_tell) B.pre
  have hown : s.vm.findClass RX1 = some m.cls := findClass_of_methodNamed B.named
  have hlocks := B.notSynchronized
  have hiX1 : ∀ w ∈ u_ws RX1 TX1 5, w ∈ wsX1_tell := by decide +kernel
  have kf25 := hts (.fieldLink RX1 25 "SortingLine$Side" "size" "I") (by decide +kernel)
  have hl := lv_entry ([.ref (h 4), .int t, .int wh]) (n := 4) (Nat.le_of_ble_eq_true rfl)
  rw [lg_entry_eq]
  generalize (lg_sl ([.ref (h 4), .int t, .int wh]) ++ List.replicate (4 - (lg_sl ([.ref (h 4), .int t, .int wh])).length) Slot.unset).toArray = ls at hl ⊢
  have hl : lv_has ls 4 [(0, .ref (h 4)), (1, .int t), (2, .int wh)] := hl
  refine lv_iload_n hx hb dX1_tell_0 rfl (lv_at hl 1 rfl) ?_
  refine lv_if_lt (tgt := 12) hx hb dX1_tell_1 (by decide) (fun c1 => ?_) (fun c1 => ?_)
  · skip
    refine lv_bipush (v := (-5)) hx hb dX1_tell_12 (by decide) ?_
    exact W.iret (v := (-5)) hx hb hr (fun t9 ht _ => ⟨congrArg (fun z => Outcome.returned (some (Value.int z))) (rfl), ht⟩) (fun _ h9 => nomatch h9) dX1_tell_14
  · skip
    refine lv_iload_n hx hb dX1_tell_4 rfl (lv_at hl 1 rfl) ?_
    refine lv_aload_n hx hb dX1_tell_5 rfl (lv_at hl 0 rfl) ?_
    refine va_get (D := D) (ci := 1) (v := .int (nI as)) (C := RX1) (T := TX1) (N := 5) hx hb hts hiX1 hown hK.1 hP 4 rfl rfl 4 (by decide) kf25 (fun _ h9 => h9) rfl dX1_tell_6 ?_
    refine lv_icmp_lt (tgt := 15) hx hb dX1_tell_9 (by decide) (fun c9 => ?_) (fun c9 => ?_)
    · skip
      exact absurd (p_in_ok (z := nI as) c1 (fun h9 => absurd c9 (by rw [Int32.lt_iff_toInt_lt]; rw [Int32.le_iff_toInt_le] at h9; omega))) (by rw [ht9]; decide)
    · skip
      refine lv_bipush (v := (-5)) hx hb dX1_tell_12 (by decide) ?_
      exact W.iret (v := (-5)) hx hb hr (fun t9 ht _ => ⟨congrArg (fun z => Outcome.returned (some (Value.int z))) (rfl), ht⟩) (fun _ h9 => nomatch h9) dX1_tell_14
set_option maxHeartbeats 4000000 in
set_option maxRecDepth 100000 in
theorem c_X1_forget (hh : ad_ok h 20) : Met l yX1_forget wsX1_forget ({ frames := 0, cells := 0, slots := 0, locals := 0 }) (wd_P D cI cJ [.ref (h 4)] (sl_W cI cJ h (nI n) F Wt Sz Nu Mb (nI k) G Wk To Sl Ri (nI f) (nI b) oT oS oF (nI an) (nI as) Fo wo pa fa)) (mu_Q D (ad_A h 20) none (sl_W cI cJ h (nI n) F Wt Sz Nu Mb (nI k) G Wk To Sl Ri (nI f) (nI b) oT oS oF 0 0 Fo wo pa fa)) 0 0 (ad_A h 20) := by
  refine Met.ofW (cc := cX1_forget) (maxL := 1) (ret := none) (by decide) rfl ?_
  intro p e s m args below meth c s₁ B hml hv
  obtain ⟨rfl, hP, hK⟩ := hv
  have hx := B.exec
  have hb := B.bytes
  have hr := B.returns
  have hts := atoms_spec (ws := wsX1_forget) B.pre
  have hown : s.vm.findClass RX1 = some m.cls := findClass_of_methodNamed B.named
  have hlocks := B.notSynchronized
  have hiX1 : ∀ w ∈ u_ws RX1 TX1 5, w ∈ wsX1_forget := by decide +kernel
  have kf21 := hts (.fieldLink RX1 21 "SortingLine$Side" "next" "I") (by decide +kernel)
  have kf25 := hts (.fieldLink RX1 25 "SortingLine$Side" "size" "I") (by decide +kernel)
  have hS : va_S (ad_A h 20) s.heap s.heap [] := va_S.rf
  have hl := lv_entry ([.ref (h 4)]) (n := 1) (Nat.le_of_ble_eq_true rfl)
  rw [lg_entry_eq]
  generalize (lg_sl ([.ref (h 4)]) ++ List.replicate (1 - (lg_sl ([.ref (h 4)])).length) Slot.unset).toArray = ls at hl ⊢
  have hl : lv_has ls 1 [(0, .ref (h 4))] := hl
  refine lv_aload_n hx hb dX1_forget_0 rfl (lv_at hl 0 rfl) ?_
  refine lv_iconst (v := 0) hx hb dX1_forget_1 (by decide) ?_
  refine va_put (D := D) (ci := 1) (v := .int 0) (ty := .int) (C := RX1) (T := TX1) (N := 5) hx hb hts hiX1 tyX1 tyX1_ok nmX1 hown hK.1 hP (sl_D hh) hS 4 rfl rfl 3 (by decide) kf21 (fun _ h9 => h9) rfl (by decide +kernel) rfl rfl (Nat.le_of_ble_eq_true rfl) dX1_forget_2 (fun H locs hP _ hS => ?_)
  have hP : va_P D kC (sl_W cI cJ h (nI n) F Wt Sz Nu Mb (nI k) G Wk To Sl Ri (nI f) (nI b) oT oS oF 0 (nI as) Fo wo pa fa) H := hP
  refine lv_aload_n hx hb dX1_forget_5 rfl (lv_at hl 0 rfl) ?_
  refine lv_iconst (v := 0) hx hb dX1_forget_6 (by decide) ?_
  refine va_put (D := D) (ci := 1) (v := .int 0) (ty := .int) (C := RX1) (T := TX1) (N := 5) hx hb hts hiX1 tyX1 tyX1_ok nmX1 hown hK.1 hP (sl_D hh) hS 4 rfl rfl 4 (by decide) kf25 (fun _ h9 => h9) rfl (by decide +kernel) rfl rfl (Nat.le_of_ble_eq_true rfl) dX1_forget_7 (fun H locs hP _ hS => ?_)
  have hP : va_P D kC (sl_W cI cJ h (nI n) F Wt Sz Nu Mb (nI k) G Wk To Sl Ri (nI f) (nI b) oT oS oF 0 0 Fo wo pa fa) H := hP
  exact W.vret hx hb hr (fun t9 ht _ => ⟨rfl, by rw [ht]; exact hP, hS.F ht⟩) hS.2.2 dX1_forget_10
set_option maxHeartbeats 4000000 in
set_option maxRecDepth 100000 in
theorem c_X3_addWorked (hh : ad_ok h 20) : Met l yX3_addWorked wsX3_addWorked ({ frames := 0, cells := 0, slots := 0, locals := 0 }) (wd_P D cI cJ [.ref (h 5)] (sl_W cI cJ h (nI n) F Wt Sz Nu Mb (nI k) G Wk To Sl Ri (nI f) (nI b) oT oS oF (nI an) (nI as) Fo wo pa fa)) (mu_Q D (ad_A h 20) none (sl_W cI cJ h (nI n) F Wt Sz Nu Mb (nI k) G Wk To Sl Ri (nI f) (nI b) oT oS oF (nI an) (nI as) Fo (wo + 1) pa fa)) 0 0 (ad_A h 20) := by
  refine Met.ofW (cc := cX3_addWorked) (maxL := 1) (ret := none) (by decide) rfl ?_
  intro p e s m args below meth c s₁ B hml hv
  obtain ⟨rfl, hP, hK⟩ := hv
  have hx := B.exec
  have hb := B.bytes
  have hr := B.returns
  have hts := atoms_spec (ws := wsX3_addWorked) B.pre
  have hown : s.vm.findClass RX3 = some m.cls := findClass_of_methodNamed B.named
  have hlocks := B.notSynchronized
  have hiX3 : ∀ w ∈ u_ws RX3 TX3 4, w ∈ wsX3_addWorked := by decide +kernel
  have kf15 := hts (.fieldLink RX3 15 "SortingLine$Tally" "worked" "I") (by decide +kernel)
  have hS : va_S (ad_A h 20) s.heap s.heap [] := va_S.rf
  have hl := lv_entry ([.ref (h 5)]) (n := 1) (Nat.le_of_ble_eq_true rfl)
  rw [lg_entry_eq]
  generalize (lg_sl ([.ref (h 5)]) ++ List.replicate (1 - (lg_sl ([.ref (h 5)])).length) Slot.unset).toArray = ls at hl ⊢
  have hl : lv_has ls 1 [(0, .ref (h 5))] := hl
  refine lv_aload_n hx hb dX3_addWorked_0 rfl (lv_at hl 0 rfl) ?_
  refine lv_dup hx hb dX3_addWorked_1 rfl ?_
  refine va_get (D := D) (ci := 3) (v := .int wo) (C := RX3) (T := TX3) (N := 4) hx hb hts hiX3 hown hK.1 hP 5 rfl rfl 1 (by decide) kf15 (fun _ h9 => h9) rfl dX3_addWorked_2 ?_
  refine lv_iconst (v := 1) hx hb dX3_addWorked_5 (by decide) ?_
  refine lv_iadd hx hb dX3_addWorked_6 ?_
  refine va_put (D := D) (ci := 3) (v := .int (wo + 1)) (ty := .int) (C := RX3) (T := TX3) (N := 4) hx hb hts hiX3 tyX3 tyX3_ok nmX3 hown hK.1 hP (sl_D hh) hS 5 rfl rfl 1 (by decide) kf15 (fun _ h9 => h9) rfl (by decide +kernel) rfl rfl (Nat.le_of_ble_eq_true rfl) dX3_addWorked_7 (fun H locs hP _ hS => ?_)
  have hP : va_P D kC (sl_W cI cJ h (nI n) F Wt Sz Nu Mb (nI k) G Wk To Sl Ri (nI f) (nI b) oT oS oF (nI an) (nI as) Fo (wo + 1) pa fa) H := hP
  exact W.vret hx hb hr (fun t9 ht _ => ⟨rfl, by rw [ht]; exact hP, hS.F ht⟩) hS.2.2 dX3_addWorked_10
set_option maxHeartbeats 4000000 in
set_option maxRecDepth 100000 in
theorem c_X3_addPassed (hh : ad_ok h 20) : Met l yX3_addPassed wsX3_addPassed ({ frames := 0, cells := 0, slots := 0, locals := 0 }) (wd_P D cI cJ [.ref (h 5)] (sl_W cI cJ h (nI n) F Wt Sz Nu Mb (nI k) G Wk To Sl Ri (nI f) (nI b) oT oS oF (nI an) (nI as) Fo wo pa fa)) (mu_Q D (ad_A h 20) none (sl_W cI cJ h (nI n) F Wt Sz Nu Mb (nI k) G Wk To Sl Ri (nI f) (nI b) oT oS oF (nI an) (nI as) Fo wo (pa + 1) fa)) 0 0 (ad_A h 20) := by
  refine Met.ofW (cc := cX3_addPassed) (maxL := 1) (ret := none) (by decide) rfl ?_
  intro p e s m args below meth c s₁ B hml hv
  obtain ⟨rfl, hP, hK⟩ := hv
  have hx := B.exec
  have hb := B.bytes
  have hr := B.returns
  have hts := atoms_spec (ws := wsX3_addPassed) B.pre
  have hown : s.vm.findClass RX3 = some m.cls := findClass_of_methodNamed B.named
  have hlocks := B.notSynchronized
  have hiX3 : ∀ w ∈ u_ws RX3 TX3 4, w ∈ wsX3_addPassed := by decide +kernel
  have kf19 := hts (.fieldLink RX3 19 "SortingLine$Tally" "passed" "I") (by decide +kernel)
  have hS : va_S (ad_A h 20) s.heap s.heap [] := va_S.rf
  have hl := lv_entry ([.ref (h 5)]) (n := 1) (Nat.le_of_ble_eq_true rfl)
  rw [lg_entry_eq]
  generalize (lg_sl ([.ref (h 5)]) ++ List.replicate (1 - (lg_sl ([.ref (h 5)])).length) Slot.unset).toArray = ls at hl ⊢
  have hl : lv_has ls 1 [(0, .ref (h 5))] := hl
  refine lv_aload_n hx hb dX3_addPassed_0 rfl (lv_at hl 0 rfl) ?_
  refine lv_dup hx hb dX3_addPassed_1 rfl ?_
  refine va_get (D := D) (ci := 3) (v := .int pa) (C := RX3) (T := TX3) (N := 4) hx hb hts hiX3 hown hK.1 hP 5 rfl rfl 2 (by decide) kf19 (fun _ h9 => h9) rfl dX3_addPassed_2 ?_
  refine lv_iconst (v := 1) hx hb dX3_addPassed_5 (by decide) ?_
  refine lv_iadd hx hb dX3_addPassed_6 ?_
  refine va_put (D := D) (ci := 3) (v := .int (pa + 1)) (ty := .int) (C := RX3) (T := TX3) (N := 4) hx hb hts hiX3 tyX3 tyX3_ok nmX3 hown hK.1 hP (sl_D hh) hS 5 rfl rfl 2 (by decide) kf19 (fun _ h9 => h9) rfl (by decide +kernel) rfl rfl (Nat.le_of_ble_eq_true rfl) dX3_addPassed_7 (fun H locs hP _ hS => ?_)
  have hP : va_P D kC (sl_W cI cJ h (nI n) F Wt Sz Nu Mb (nI k) G Wk To Sl Ri (nI f) (nI b) oT oS oF (nI an) (nI as) Fo wo (pa + 1) fa) H := hP
  exact W.vret hx hb hr (fun t9 ht _ => ⟨rfl, by rw [ht]; exact hP, hS.F ht⟩) hS.2.2 dX3_addPassed_10
set_option maxHeartbeats 4000000 in
set_option maxRecDepth 100000 in
theorem c_X3_addFailed (hh : ad_ok h 20) : Met l yX3_addFailed wsX3_addFailed ({ frames := 0, cells := 0, slots := 0, locals := 0 }) (wd_P D cI cJ [.ref (h 5)] (sl_W cI cJ h (nI n) F Wt Sz Nu Mb (nI k) G Wk To Sl Ri (nI f) (nI b) oT oS oF (nI an) (nI as) Fo wo pa fa)) (mu_Q D (ad_A h 20) none (sl_W cI cJ h (nI n) F Wt Sz Nu Mb (nI k) G Wk To Sl Ri (nI f) (nI b) oT oS oF (nI an) (nI as) Fo wo pa (fa + 1))) 0 0 (ad_A h 20) := by
  refine Met.ofW (cc := cX3_addFailed) (maxL := 1) (ret := none) (by decide) rfl ?_
  intro p e s m args below meth c s₁ B hml hv
  obtain ⟨rfl, hP, hK⟩ := hv
  have hx := B.exec
  have hb := B.bytes
  have hr := B.returns
  have hts := atoms_spec (ws := wsX3_addFailed) B.pre
  have hown : s.vm.findClass RX3 = some m.cls := findClass_of_methodNamed B.named
  have hlocks := B.notSynchronized
  have hiX3 : ∀ w ∈ u_ws RX3 TX3 4, w ∈ wsX3_addFailed := by decide +kernel
  have kf22 := hts (.fieldLink RX3 22 "SortingLine$Tally" "failed" "I") (by decide +kernel)
  have hS : va_S (ad_A h 20) s.heap s.heap [] := va_S.rf
  have hl := lv_entry ([.ref (h 5)]) (n := 1) (Nat.le_of_ble_eq_true rfl)
  rw [lg_entry_eq]
  generalize (lg_sl ([.ref (h 5)]) ++ List.replicate (1 - (lg_sl ([.ref (h 5)])).length) Slot.unset).toArray = ls at hl ⊢
  have hl : lv_has ls 1 [(0, .ref (h 5))] := hl
  refine lv_aload_n hx hb dX3_addFailed_0 rfl (lv_at hl 0 rfl) ?_
  refine lv_dup hx hb dX3_addFailed_1 rfl ?_
  refine va_get (D := D) (ci := 3) (v := .int fa) (C := RX3) (T := TX3) (N := 4) hx hb hts hiX3 hown hK.1 hP 5 rfl rfl 3 (by decide) kf22 (fun _ h9 => h9) rfl dX3_addFailed_2 ?_
  refine lv_iconst (v := 1) hx hb dX3_addFailed_5 (by decide) ?_
  refine lv_iadd hx hb dX3_addFailed_6 ?_
  refine va_put (D := D) (ci := 3) (v := .int (fa + 1)) (ty := .int) (C := RX3) (T := TX3) (N := 4) hx hb hts hiX3 tyX3 tyX3_ok nmX3 hown hK.1 hP (sl_D hh) hS 5 rfl rfl 3 (by decide) kf22 (fun _ h9 => h9) rfl (by decide +kernel) rfl rfl (Nat.le_of_ble_eq_true rfl) dX3_addFailed_7 (fun H locs hP _ hS => ?_)
  have hP : va_P D kC (sl_W cI cJ h (nI n) F Wt Sz Nu Mb (nI k) G Wk To Sl Ri (nI f) (nI b) oT oS oF (nI an) (nI as) Fo wo pa (fa + 1)) H := hP
  exact W.vret hx hb hr (fun t9 ht _ => ⟨rfl, by rw [ht]; exact hP, hS.F ht⟩) hS.2.2 dX3_addFailed_10
set_option maxHeartbeats 4000000 in
set_option maxRecDepth 100000 in
theorem c_X3_addFinding (hh : ad_ok h 20) (x : Nat) (h1 : 1 ≤ x) (h5 : x ≤ 5) : Met l yX3_addFinding wsX3_addFinding ({ frames := 0, cells := 0, slots := 0, locals := 0 }) (wd_P D cI cJ [.ref (h 5), .int (nI x)] (sl_W cI cJ h (nI n) F Wt Sz Nu Mb (nI k) G Wk To Sl Ri (nI f) (nI b) oT oS oF (nI an) (nI as) Fo wo pa fa)) (mu_Q D (ad_A h 20) none (sl_W cI cJ h (nI n) F Wt Sz Nu Mb (nI k) G Wk To Sl Ri (nI f) (nI b) oT oS oF (nI an) (nI as) (upd Fo x (Fo x + 1)) wo pa fa)) 0 0 (ad_A h 20) := by
  refine Met.ofW (cc := cX3_addFinding) (maxL := 2) (ret := none) (by decide) rfl ?_
  intro p e s m args below meth c s₁ B hml hv
  obtain ⟨rfl, hP, hK⟩ := hv
  have hx := B.exec
  have hb := B.bytes
  have hr := B.returns
  have hts := atoms_spec (ws := wsX3_addFinding) B.pre
  have hown : s.vm.findClass RX3 = some m.cls := findClass_of_methodNamed B.named
  have hlocks := B.notSynchronized
  have hiX3 : ∀ w ∈ u_ws RX3 TX3 4, w ∈ wsX3_addFinding := by decide +kernel
  have kf9 := hts (.fieldLink RX3 9 "SortingLine$Tally" "found" "[I") (by decide +kernel)
  have hS : va_S (ad_A h 20) s.heap s.heap [] := va_S.rf
  have hl := lv_entry ([.ref (h 5), .int (nI x)]) (n := 2) (Nat.le_of_ble_eq_true rfl)
  rw [lg_entry_eq]
  generalize (lg_sl ([.ref (h 5), .int (nI x)]) ++ List.replicate (2 - (lg_sl ([.ref (h 5), .int (nI x)])).length) Slot.unset).toArray = ls at hl ⊢
  have hl : lv_has ls 2 [(0, .ref (h 5)), (1, .int (nI x))] := hl
  refine lv_iload_n hx hb dX3_addFinding_0 rfl (lv_at hl 1 rfl) ?_
  refine lv_iconst (v := 1) hx hb dX3_addFinding_1 (by decide) ?_
  refine lv_icmp_lt (tgt := 20) hx hb dX3_addFinding_2 (by decide) (fun h9 => absurd h9 (nI_nlt (a := x) (b := 1) h1 (by omega))) (fun _ => ?_)
  refine lv_iload_n hx hb dX3_addFinding_5 rfl (lv_at hl 1 rfl) ?_
  refine lv_iconst (v := 5) hx hb dX3_addFinding_6 (by decide) ?_
  refine lv_icmp_gt (tgt := 20) hx hb dX3_addFinding_7 (by decide) (fun h9 => absurd h9 (nI_nlt (a := 5) (b := x) h5 (by decide))) (fun _ => ?_)
  refine lv_aload_n hx hb dX3_addFinding_10 rfl (lv_at hl 0 rfl) ?_
  refine va_get (D := D) (ci := 3) (v := .ref (h 19)) (C := RX3) (T := TX3) (N := 4) hx hb hts hiX3 hown hK.1 hP 5 rfl rfl 0 (by decide) kf9 (fun _ h9 => h9) rfl dX3_addFinding_11 ?_
  refine lv_iload_n hx hb dX3_addFinding_14 rfl (lv_at hl 1 rfl) ?_
  refine lv_dup2_11 hx hb dX3_addFinding_15 rfl rfl ?_
  refine ga_ild hx hb hK hP 19 rfl x (rfl) (by omega) (by decide) dX3_addFinding_16 ?_
  refine lv_iconst (v := 1) hx hb dX3_addFinding_17 (by decide) ?_
  refine lv_iadd hx hb dX3_addFinding_18 ?_
  refine ga_ist hx hb hK hP (sl_D hh) hS 19 rfl x (rfl) (by omega) (by decide) dX3_addFinding_19 (fun H locs hP hS => ?_)
  have hP : va_P D kC (sl_W cI cJ h (nI n) F Wt Sz Nu Mb (nI k) G Wk To Sl Ri (nI f) (nI b) oT oS oF (nI an) (nI as) (upd Fo x ((Fo x) + 1)) wo pa fa) H := hP
  exact W.vret hx hb hr (fun t9 ht _ => ⟨rfl, by rw [ht]; exact hP, hS.F ht⟩) hS.2.2 dX3_addFinding_20
set_option maxHeartbeats 4000000 in
set_option maxRecDepth 100000 in
theorem c_X3_foundOf (hh : ad_ok h 20) (x : Nat) (h1 : 1 ≤ x) (h5 : x ≤ 5) : Met l yX3_foundOf wsX3_foundOf ({ frames := 0, cells := 0, slots := 0, locals := 0 }) (wd_P D cI cJ [.ref (h 5), .int (nI x)] (sl_W cI cJ h (nI n) F Wt Sz Nu Mb (nI k) G Wk To Sl Ri (nI f) (nI b) oT oS oF (nI an) (nI as) Fo wo pa fa)) (pu_Q (some (.int (Fo x)))) 0 0 (fun _ => False) := by
  refine Met.ofW (cc := cX3_foundOf) (maxL := 2) (ret := (some .int)) (by decide) rfl ?_
  intro p e s m args below meth c s₁ B hml hv
  obtain ⟨rfl, hP, hK⟩ := hv
  have hx := B.exec
  have hb := B.bytes
  have hr := B.returns
  have hts := atoms_spec (ws := wsX3_foundOf) B.pre
  have hown : s.vm.findClass RX3 = some m.cls := findClass_of_methodNamed B.named
  have hlocks := B.notSynchronized
  have hiX3 : ∀ w ∈ u_ws RX3 TX3 4, w ∈ wsX3_foundOf := by decide +kernel
  have kf9 := hts (.fieldLink RX3 9 "SortingLine$Tally" "found" "[I") (by decide +kernel)
  have hl := lv_entry ([.ref (h 5), .int (nI x)]) (n := 2) (Nat.le_of_ble_eq_true rfl)
  rw [lg_entry_eq]
  generalize (lg_sl ([.ref (h 5), .int (nI x)]) ++ List.replicate (2 - (lg_sl ([.ref (h 5), .int (nI x)])).length) Slot.unset).toArray = ls at hl ⊢
  have hl : lv_has ls 2 [(0, .ref (h 5)), (1, .int (nI x))] := hl
  refine lv_iload_n hx hb dX3_foundOf_0 rfl (lv_at hl 1 rfl) ?_
  refine lv_iconst (v := 1) hx hb dX3_foundOf_1 (by decide) ?_
  refine lv_icmp_lt (tgt := 19) hx hb dX3_foundOf_2 (by decide) (fun h9 => absurd h9 (nI_nlt (a := x) (b := 1) h1 (by omega))) (fun _ => ?_)
  refine lv_iload_n hx hb dX3_foundOf_5 rfl (lv_at hl 1 rfl) ?_
  refine lv_iconst (v := 5) hx hb dX3_foundOf_6 (by decide) ?_
  refine lv_icmp_gt (tgt := 19) hx hb dX3_foundOf_7 (by decide) (fun h9 => absurd h9 (nI_nlt (a := 5) (b := x) h5 (by decide))) (fun _ => ?_)
  refine lv_aload_n hx hb dX3_foundOf_10 rfl (lv_at hl 0 rfl) ?_
  refine va_get (D := D) (ci := 3) (v := .ref (h 19)) (C := RX3) (T := TX3) (N := 4) hx hb hts hiX3 hown hK.1 hP 5 rfl rfl 0 (by decide) kf9 (fun _ h9 => h9) rfl dX3_foundOf_11 ?_
  refine lv_iload_n hx hb dX3_foundOf_14 rfl (lv_at hl 1 rfl) ?_
  refine ga_ild hx hb hK hP 19 rfl x (rfl) (by omega) (by decide) dX3_foundOf_15 ?_
  refine lv_goto (tgt := 20) hx hb dX3_foundOf_16 (by decide) ?_
  exact W.iret (v := Fo x) hx hb hr (fun t9 ht _ => ⟨congrArg (fun z => Outcome.returned (some (Value.int z))) (rfl), ht⟩) (fun _ h9 => nomatch h9) dX3_foundOf_20
set_option maxHeartbeats 4000000 in
set_option maxRecDepth 100000 in
theorem c_X3_forget (hh : ad_ok h 20) : Met l yX3_forget wsX3_forget ({ frames := 0, cells := 0, slots := 0, locals := 0 }) (wd_P D cI cJ [.ref (h 5)] (sl_W cI cJ h (nI n) F Wt Sz Nu Mb (nI k) G Wk To Sl Ri (nI f) (nI b) oT oS oF (nI an) (nI as) Fo wo pa fa)) (mu_Q D (ad_A h 20) none (sl_W cI cJ h (nI n) F Wt Sz Nu Mb (nI k) G Wk To Sl Ri (nI f) (nI b) oT oS oF (nI an) (nI as) (z6I Fo) 0 0 0)) 0 0 (ad_A h 20) := by
  refine Met.ofW (cc := cX3_forget) (maxL := 2) (ret := none) (by decide) rfl ?_
  intro p e s m args below meth c s₁ B hml hv
  obtain ⟨rfl, hP, hK⟩ := hv
  have hx := B.exec
  have hb := B.bytes
  have hr := B.returns
  have hts := atoms_spec (ws := wsX3_forget) B.pre
  have hown : s.vm.findClass RX3 = some m.cls := findClass_of_methodNamed B.named
  have hlocks := B.notSynchronized
  have hiX3 : ∀ w ∈ u_ws RX3 TX3 4, w ∈ wsX3_forget := by decide +kernel
  have kf15 := hts (.fieldLink RX3 15 "SortingLine$Tally" "worked" "I") (by decide +kernel)
  have kf19 := hts (.fieldLink RX3 19 "SortingLine$Tally" "passed" "I") (by decide +kernel)
  have kf22 := hts (.fieldLink RX3 22 "SortingLine$Tally" "failed" "I") (by decide +kernel)
  have kf9 := hts (.fieldLink RX3 9 "SortingLine$Tally" "found" "[I") (by decide +kernel)
  have hS : va_S (ad_A h 20) s.heap s.heap [] := va_S.rf
  have hl := lv_entry ([.ref (h 5)]) (n := 2) (Nat.le_of_ble_eq_true rfl)
  rw [lg_entry_eq]
  generalize (lg_sl ([.ref (h 5)]) ++ List.replicate (2 - (lg_sl ([.ref (h 5)])).length) Slot.unset).toArray = ls at hl ⊢
  have hl : lv_has ls 2 [(0, .ref (h 5))] := hl
  refine lv_aload_n hx hb dX3_forget_0 rfl (lv_at hl 0 rfl) ?_
  refine lv_iconst (v := 0) hx hb dX3_forget_1 (by decide) ?_
  refine va_put (D := D) (ci := 3) (v := .int 0) (ty := .int) (C := RX3) (T := TX3) (N := 4) hx hb hts hiX3 tyX3 tyX3_ok nmX3 hown hK.1 hP (sl_D hh) hS 5 rfl rfl 1 (by decide) kf15 (fun _ h9 => h9) rfl (by decide +kernel) rfl rfl (Nat.le_of_ble_eq_true rfl) dX3_forget_2 (fun H locs hP _ hS => ?_)
  have hP : va_P D kC (sl_W cI cJ h (nI n) F Wt Sz Nu Mb (nI k) G Wk To Sl Ri (nI f) (nI b) oT oS oF (nI an) (nI as) Fo 0 pa fa) H := hP
  refine lv_aload_n hx hb dX3_forget_5 rfl (lv_at hl 0 rfl) ?_
  refine lv_iconst (v := 0) hx hb dX3_forget_6 (by decide) ?_
  refine va_put (D := D) (ci := 3) (v := .int 0) (ty := .int) (C := RX3) (T := TX3) (N := 4) hx hb hts hiX3 tyX3 tyX3_ok nmX3 hown hK.1 hP (sl_D hh) hS 5 rfl rfl 2 (by decide) kf19 (fun _ h9 => h9) rfl (by decide +kernel) rfl rfl (Nat.le_of_ble_eq_true rfl) dX3_forget_7 (fun H locs hP _ hS => ?_)
  have hP : va_P D kC (sl_W cI cJ h (nI n) F Wt Sz Nu Mb (nI k) G Wk To Sl Ri (nI f) (nI b) oT oS oF (nI an) (nI as) Fo 0 0 fa) H := hP
  refine lv_aload_n hx hb dX3_forget_10 rfl (lv_at hl 0 rfl) ?_
  refine lv_iconst (v := 0) hx hb dX3_forget_11 (by decide) ?_
  refine va_put (D := D) (ci := 3) (v := .int 0) (ty := .int) (C := RX3) (T := TX3) (N := 4) hx hb hts hiX3 tyX3 tyX3_ok nmX3 hown hK.1 hP (sl_D hh) hS 5 rfl rfl 3 (by decide) kf22 (fun _ h9 => h9) rfl (by decide +kernel) rfl rfl (Nat.le_of_ble_eq_true rfl) dX3_forget_12 (fun H locs hP _ hS => ?_)
  have hP : va_P D kC (sl_W cI cJ h (nI n) F Wt Sz Nu Mb (nI k) G Wk To Sl Ri (nI f) (nI b) oT oS oF (nI an) (nI as) Fo 0 0 0) H := hP
  refine lv_iconst (v := 0) hx hb dX3_forget_15 (by decide) ?_
  refine lv_istore_n (lv' := [(1, .int 0), (0, .ref (h 5))]) hx hb dX3_forget_16 rfl hl (by decide) rfl (fun ls hl => ?_)
  refine lv_iload_n hx hb dX3_forget_17 rfl (lv_at hl 0 rfl) ?_
  refine lv_iconst (v := 5) hx hb dX3_forget_18 (by decide) ?_
  refine lv_icmp_gt (tgt := 35) hx hb dX3_forget_19 (by decide) (fun h9 => absurd h9 (by decide)) (fun _ => ?_)
  refine lv_aload_n hx hb dX3_forget_22 rfl (lv_at hl 1 rfl) ?_
  refine va_get (D := D) (ci := 3) (v := .ref (h 19)) (C := RX3) (T := TX3) (N := 4) hx hb hts hiX3 hown hK.1 hP 5 rfl rfl 0 (by decide) kf9 (fun _ h9 => h9) rfl dX3_forget_23 ?_
  refine lv_iload_n hx hb dX3_forget_26 rfl (lv_at hl 0 rfl) ?_
  refine lv_iconst (v := 0) hx hb dX3_forget_27 (by decide) ?_
  refine ga_ist hx hb hK hP (sl_D hh) hS 19 rfl 0 (by decide) (by omega) (by decide) dX3_forget_28 (fun H locs hP hS => ?_)
  have hP : va_P D kC (sl_W cI cJ h (nI n) F Wt Sz Nu Mb (nI k) G Wk To Sl Ri (nI f) (nI b) oT oS oF (nI an) (nI as) (upd Fo 0 0) 0 0 0) H := hP
  refine lv_iinc (v := 1) (lv' := [(1, .int 1), (0, .ref (h 5))]) hx hb dX3_forget_29 hl (k := 0) rfl (by decide) (by decide) rfl (fun ls hl => ?_)
  refine lv_goto (tgt := 17) hx hb dX3_forget_32 (by decide) ?_
  refine lv_iload_n hx hb dX3_forget_17 rfl (lv_at hl 0 rfl) ?_
  refine lv_iconst (v := 5) hx hb dX3_forget_18 (by decide) ?_
  refine lv_icmp_gt (tgt := 35) hx hb dX3_forget_19 (by decide) (fun h9 => absurd h9 (by decide)) (fun _ => ?_)
  refine lv_aload_n hx hb dX3_forget_22 rfl (lv_at hl 1 rfl) ?_
  refine va_get (D := D) (ci := 3) (v := .ref (h 19)) (C := RX3) (T := TX3) (N := 4) hx hb hts hiX3 hown hK.1 hP 5 rfl rfl 0 (by decide) kf9 (fun _ h9 => h9) rfl dX3_forget_23 ?_
  refine lv_iload_n hx hb dX3_forget_26 rfl (lv_at hl 0 rfl) ?_
  refine lv_iconst (v := 0) hx hb dX3_forget_27 (by decide) ?_
  refine ga_ist hx hb hK hP (sl_D hh) hS 19 rfl 1 (by decide) (by omega) (by decide) dX3_forget_28 (fun H locs hP hS => ?_)
  have hP : va_P D kC (sl_W cI cJ h (nI n) F Wt Sz Nu Mb (nI k) G Wk To Sl Ri (nI f) (nI b) oT oS oF (nI an) (nI as) (upd (upd Fo 0 0) 1 0) 0 0 0) H := hP
  refine lv_iinc (v := 2) (lv' := [(1, .int 2), (0, .ref (h 5))]) hx hb dX3_forget_29 hl (k := 0) rfl (by decide) (by decide) rfl (fun ls hl => ?_)
  refine lv_goto (tgt := 17) hx hb dX3_forget_32 (by decide) ?_
  refine lv_iload_n hx hb dX3_forget_17 rfl (lv_at hl 0 rfl) ?_
  refine lv_iconst (v := 5) hx hb dX3_forget_18 (by decide) ?_
  refine lv_icmp_gt (tgt := 35) hx hb dX3_forget_19 (by decide) (fun h9 => absurd h9 (by decide)) (fun _ => ?_)
  refine lv_aload_n hx hb dX3_forget_22 rfl (lv_at hl 1 rfl) ?_
  refine va_get (D := D) (ci := 3) (v := .ref (h 19)) (C := RX3) (T := TX3) (N := 4) hx hb hts hiX3 hown hK.1 hP 5 rfl rfl 0 (by decide) kf9 (fun _ h9 => h9) rfl dX3_forget_23 ?_
  refine lv_iload_n hx hb dX3_forget_26 rfl (lv_at hl 0 rfl) ?_
  refine lv_iconst (v := 0) hx hb dX3_forget_27 (by decide) ?_
  refine ga_ist hx hb hK hP (sl_D hh) hS 19 rfl 2 (by decide) (by omega) (by decide) dX3_forget_28 (fun H locs hP hS => ?_)
  have hP : va_P D kC (sl_W cI cJ h (nI n) F Wt Sz Nu Mb (nI k) G Wk To Sl Ri (nI f) (nI b) oT oS oF (nI an) (nI as) (upd (upd (upd Fo 0 0) 1 0) 2 0) 0 0 0) H := hP
  refine lv_iinc (v := 3) (lv' := [(1, .int 3), (0, .ref (h 5))]) hx hb dX3_forget_29 hl (k := 0) rfl (by decide) (by decide) rfl (fun ls hl => ?_)
  refine lv_goto (tgt := 17) hx hb dX3_forget_32 (by decide) ?_
  refine lv_iload_n hx hb dX3_forget_17 rfl (lv_at hl 0 rfl) ?_
  refine lv_iconst (v := 5) hx hb dX3_forget_18 (by decide) ?_
  refine lv_icmp_gt (tgt := 35) hx hb dX3_forget_19 (by decide) (fun h9 => absurd h9 (by decide)) (fun _ => ?_)
  refine lv_aload_n hx hb dX3_forget_22 rfl (lv_at hl 1 rfl) ?_
  refine va_get (D := D) (ci := 3) (v := .ref (h 19)) (C := RX3) (T := TX3) (N := 4) hx hb hts hiX3 hown hK.1 hP 5 rfl rfl 0 (by decide) kf9 (fun _ h9 => h9) rfl dX3_forget_23 ?_
  refine lv_iload_n hx hb dX3_forget_26 rfl (lv_at hl 0 rfl) ?_
  refine lv_iconst (v := 0) hx hb dX3_forget_27 (by decide) ?_
  refine ga_ist hx hb hK hP (sl_D hh) hS 19 rfl 3 (by decide) (by omega) (by decide) dX3_forget_28 (fun H locs hP hS => ?_)
  have hP : va_P D kC (sl_W cI cJ h (nI n) F Wt Sz Nu Mb (nI k) G Wk To Sl Ri (nI f) (nI b) oT oS oF (nI an) (nI as) (upd (upd (upd (upd Fo 0 0) 1 0) 2 0) 3 0) 0 0 0) H := hP
  refine lv_iinc (v := 4) (lv' := [(1, .int 4), (0, .ref (h 5))]) hx hb dX3_forget_29 hl (k := 0) rfl (by decide) (by decide) rfl (fun ls hl => ?_)
  refine lv_goto (tgt := 17) hx hb dX3_forget_32 (by decide) ?_
  refine lv_iload_n hx hb dX3_forget_17 rfl (lv_at hl 0 rfl) ?_
  refine lv_iconst (v := 5) hx hb dX3_forget_18 (by decide) ?_
  refine lv_icmp_gt (tgt := 35) hx hb dX3_forget_19 (by decide) (fun h9 => absurd h9 (by decide)) (fun _ => ?_)
  refine lv_aload_n hx hb dX3_forget_22 rfl (lv_at hl 1 rfl) ?_
  refine va_get (D := D) (ci := 3) (v := .ref (h 19)) (C := RX3) (T := TX3) (N := 4) hx hb hts hiX3 hown hK.1 hP 5 rfl rfl 0 (by decide) kf9 (fun _ h9 => h9) rfl dX3_forget_23 ?_
  refine lv_iload_n hx hb dX3_forget_26 rfl (lv_at hl 0 rfl) ?_
  refine lv_iconst (v := 0) hx hb dX3_forget_27 (by decide) ?_
  refine ga_ist hx hb hK hP (sl_D hh) hS 19 rfl 4 (by decide) (by omega) (by decide) dX3_forget_28 (fun H locs hP hS => ?_)
  have hP : va_P D kC (sl_W cI cJ h (nI n) F Wt Sz Nu Mb (nI k) G Wk To Sl Ri (nI f) (nI b) oT oS oF (nI an) (nI as) (upd (upd (upd (upd (upd Fo 0 0) 1 0) 2 0) 3 0) 4 0) 0 0 0) H := hP
  refine lv_iinc (v := 5) (lv' := [(1, .int 5), (0, .ref (h 5))]) hx hb dX3_forget_29 hl (k := 0) rfl (by decide) (by decide) rfl (fun ls hl => ?_)
  refine lv_goto (tgt := 17) hx hb dX3_forget_32 (by decide) ?_
  refine lv_iload_n hx hb dX3_forget_17 rfl (lv_at hl 0 rfl) ?_
  refine lv_iconst (v := 5) hx hb dX3_forget_18 (by decide) ?_
  refine lv_icmp_gt (tgt := 35) hx hb dX3_forget_19 (by decide) (fun h9 => absurd h9 (by decide)) (fun _ => ?_)
  refine lv_aload_n hx hb dX3_forget_22 rfl (lv_at hl 1 rfl) ?_
  refine va_get (D := D) (ci := 3) (v := .ref (h 19)) (C := RX3) (T := TX3) (N := 4) hx hb hts hiX3 hown hK.1 hP 5 rfl rfl 0 (by decide) kf9 (fun _ h9 => h9) rfl dX3_forget_23 ?_
  refine lv_iload_n hx hb dX3_forget_26 rfl (lv_at hl 0 rfl) ?_
  refine lv_iconst (v := 0) hx hb dX3_forget_27 (by decide) ?_
  refine ga_ist hx hb hK hP (sl_D hh) hS 19 rfl 5 (by decide) (by omega) (by decide) dX3_forget_28 (fun H locs hP hS => ?_)
  have hP : va_P D kC (sl_W cI cJ h (nI n) F Wt Sz Nu Mb (nI k) G Wk To Sl Ri (nI f) (nI b) oT oS oF (nI an) (nI as) (upd (upd (upd (upd (upd (upd Fo 0 0) 1 0) 2 0) 3 0) 4 0) 5 0) 0 0 0) H := hP
  refine lv_iinc (v := 6) (lv' := [(1, .int 6), (0, .ref (h 5))]) hx hb dX3_forget_29 hl (k := 0) rfl (by decide) (by decide) rfl (fun ls hl => ?_)
  refine lv_goto (tgt := 17) hx hb dX3_forget_32 (by decide) ?_
  refine lv_iload_n hx hb dX3_forget_17 rfl (lv_at hl 0 rfl) ?_
  refine lv_iconst (v := 5) hx hb dX3_forget_18 (by decide) ?_
  refine lv_icmp_gt (tgt := 35) hx hb dX3_forget_19 (by decide) (fun _ => ?_) (fun h9 => absurd (by decide) h9)
  exact W.vret hx hb hr (fun t9 ht _ => ⟨rfl, by rw [ht]; exact hP, hS.F ht⟩) hS.2.2 dX3_forget_35
end SubB
end
