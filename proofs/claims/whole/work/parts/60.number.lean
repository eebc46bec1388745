theorem vaP_eq {D : va_G} {cl : List vw_C} {w : va_W} {H : Heap} {t : State} (ht : t.heap = H) (h : va_P D cl w H) : va_P D cl w t.heap := by rw [ht]; exact h
theorem va_Dq (q : Nat) (e : va_E) : va_D (fun z => z = q) [(q, e)] := by
  refine ⟨(va_D1 q e).1, fun k x hx => ?_⟩
  have h1 : k < 1 := (List.getElem?_eq_some_iff.mp hx).1
  obtain rfl : k = 0 := by omega
  cases hx
  rfl
/-! number: it returns or throws; the law's own number catches -/
abbrev nmC : List String := ["java/lang/RuntimeException", "java/lang/Exception"]
abbrev nmB : List String := ["java/lang/IndexOutOfBoundsException", "java/lang/RuntimeException", "java/lang/Exception"]
def xwC : List Cond := (vx_atS RX5 89 RJx3273f nmC).filter goodWord
def xwB : List Cond := (vx_atS RX5 96 RJx00060 nmB).filter goodWord
abbrev iS (Y : String) : MethodName := ⟨Y, "<init>", "(Ljava/lang/String;)V"⟩
def nwC : List Cond := [.castable RJx3273f RJx3273f, .declares (iS "java/lang/RuntimeException"), .declares (iS "java/lang/Exception"), .declares (iS "java/lang/Throwable")]
def nwB : List Cond := [.castable RJx00060 RJx00060, .declares (iS "java/lang/IndexOutOfBoundsException"), .declares (iS "java/lang/RuntimeException"), .declares (iS "java/lang/Exception"), .declares (iS "java/lang/Throwable")]
def nwx (U : State) : Prop := va_Nw (.castable RJx3273f RJx3273f) U ∧ va_Nw (.castable RJx00060 RJx00060) U ∧ va_Nw (.declares (iS "java/lang/IndexOutOfBoundsException")) U ∧ va_Nw (.declares (iS "java/lang/RuntimeException")) U ∧ va_Nw (.declares (iS "java/lang/Exception")) U ∧ va_Nw (.declares (iS "java/lang/Throwable")) U
theorem nwx.warm {s U : State} (hW : s.WarmedH U.vm) (h : nwx s) : nwx U := by
  obtain ⟨h1, h2, h3, h4, h5, h6⟩ := h
  exact ⟨h1.warmC hW, h2.warmC hW, h3.warmD hW, h4.warmD hW, h5.warmD hW, h6.warmD hW⟩
theorem nwx.same {s U : State} (hv : s.vm = U.vm) (h : nwx s) : nwx U := by
  obtain ⟨h1, h2, h3, h4, h5, h6⟩ := h
  exact ⟨h1.same rfl hv, h2.same rfl hv, h3.same rfl hv, h4.same rfl hv, h5.same rfl hv, h6.same rfl hv⟩
theorem nwx.C {args : Array Value} {s : State} (h : nwx s) : ∀ w ∈ nwC, w.before args s = true :=
  vx_c (va_Nw.use rfl h.1) (vx_c (va_Nw.use rfl h.2.2.2.1) (vx_c (va_Nw.use rfl h.2.2.2.2.1) (vx_c (va_Nw.use rfl h.2.2.2.2.2) vx_n)))
theorem nwx.B {args : Array Value} {s : State} (h : nwx s) : ∀ w ∈ nwB, w.before args s = true :=
  vx_c (va_Nw.use rfl h.2.1) (vx_c (va_Nw.use rfl h.2.2.1) (vx_c (va_Nw.use rfl h.2.2.2.1) (vx_c (va_Nw.use rfl h.2.2.2.2.1) (vx_c (va_Nw.use rfl h.2.2.2.2.2) vx_n))))
theorem nwC_in : ∀ w ∈ (vx_atS RX5 89 RJx3273f nmC).filter (fun w => !goodWord w), w ∈ nwC := by decide +kernel
theorem nwB_in : ∀ w ∈ (vx_atS RX5 96 RJx00060 nmB).filter (fun w => !goodWord w), w ∈ nwB := by decide +kernel
def wsN : List Cond := .code yX5_number cX5_number 5 (some .long) :: (wsX5_number ++ (xwC ++ xwB))
abbrev tbN : List (Nat × Nat × Nat × Nat) := [(0, 11, 14, 13), (0, 11, 18, 15)]
def wsLN : List Cond := .codeWith yL_number cL_number 6 (some .int) tbN :: (wsL_number ++ (xwC ++ xwB))
theorem wsN_sub : ∀ w ∈ wsX5_number, w ∈ wsN := fun _ h => List.mem_cons_of_mem _ (List.mem_append_left _ h)
theorem wsN_C : ∀ w ∈ xwC, w ∈ wsN := fun _ h => List.mem_cons_of_mem _ (List.mem_append_right _ (List.mem_append_left _ h))
theorem wsN_B : ∀ w ∈ xwB, w ∈ wsN := fun _ h => List.mem_cons_of_mem _ (List.mem_append_right _ (List.mem_append_right _ h))
theorem wsLN_sub : ∀ w ∈ wsL_number, w ∈ wsLN := fun _ h => List.mem_cons_of_mem _ (List.mem_append_left _ h)
theorem wsLN_x : ∀ w ∈ xwC ++ xwB, w ∈ wsLN := fun _ h => List.mem_cons_of_mem _ (List.mem_append_right _ h)
theorem xw_good : (xwC ++ xwB).all goodWord = true := by decide +kernel
theorem goodIn_up {a b ws : List Cond} (h : ∀ w ∈ a, w ∈ b) (g : GoodIn a ws) : GoodIn b ws := fun w hw => ⟨h w (g w hw).1, (g w hw).2⟩
theorem gg_N : GoodIn wsLN wsN := by
  intro w hw
  rcases List.mem_cons.mp hw with rfl | hw
  · exact goodIn_up wsLN_sub ggL_number_X5_number _ List.mem_cons_self
  · rcases List.mem_append.mp hw with hw | hw
    · exact goodIn_up wsLN_sub ggL_number_X5_number _ hw
    · exact ⟨wsLN_x w hw, good_of_word (List.all_eq_true.mp xw_good w hw)⟩
theorem g_N : GoodIn wsLN (wsV RL 7 RX5 yX5_number wsN) := goodIn_app (fun w hw => goodIn_up wsLN_sub gL_number_X5_number w (List.mem_append_left _ hw)) gg_N
def tx (S0 sa sb : Nat) (U : State) : Prop := vk_R RX5 87 "the thing is not of that kind" sa U ∧ vk_R RX5 94 "there is no such place" sb U ∧ vx_Zq Bundle.tN "UNASSIGNED_STACK" Bundle.steD (fun q => S0 ≤ q) U U.heap ∧ vx_Zq Bundle.tN "SUPPRESSED_SENTINEL" Bundle.listD (fun q => S0 ≤ q) U U.heap ∧ va_Nc RJx00060 RJx3273f U ∧ nwx U
theorem tx.warm {S0 sa sb : Nat} {s U : State} {H : Heap} {A : Nat → Prop} {locs : List Loc} (hW : s.WarmedH U.vm) (hU : U.heap = H) (hS : va_S A s.heap H locs) (hA : ∀ q, A q → S0 ≤ q) (h : tx S0 sa sb s) : tx S0 sa sb U := by
  obtain ⟨h1, h2, h3, h4, h5, h6⟩ := h
  have hk : ∀ a : Nat, a < s.heap.size → ¬ (fun q => S0 ≤ q) a → U.heap[a]? = s.heap[a]? := fun a ha hn => by rw [hU]; exact hS.2.1 a ha (fun z => hn (hA a z))
  exact ⟨h1.warm hW, h2.warm hW, (h3.moved hW.alike).kept hk, (h4.moved hW.alike).kept hk, h5.moved hW.alike, h6.warm hW⟩
theorem tx.calling {S0 sa sb : Nat} {U : State} (g : JFrame) (mk : MethodId) (a : Array Value) (h : tx S0 sa sb U) : tx S0 sa sb (U.calling g mk a) := by
  obtain ⟨h1, h2, h3, h4, h5, h6⟩ := h
  exact ⟨h1.same rfl, h2.same rfl, h3.moved (u := U) (U := U.calling g mk a) (Vm.Alike.refl U.vm), h4.moved (u := U) (U := U.calling g mk a) (Vm.Alike.refl U.vm), h5.moved (u := U) (U := U.calling g mk a) (Vm.Alike.refl U.vm), h6.same (s := U) (U := U.calling g mk a) rfl⟩
def tx_P (D : va_G) (cI cJ : ClassId) (S0 sa sb : Nat) (vs : List Value) (ws : va_W) : Array Value → State → Prop := va_Pc vs (fun U => va_P D kC ws U.heap ∧ wd_K D cI cJ U ∧ tx S0 sa sb U)
theorem tx_blind {D : va_G} {cI cJ : ClassId} {S0 sa sb : Nat} {vs : List Value} {ws : va_W} : FrameBlind (tx_P D cI cJ S0 sa sb vs ws) := fun a U g mk q => by
  obtain ⟨q0, qP, ⟨qK, qn⟩, qt⟩ := q
  exact ⟨q0, qP, ⟨va_K.moved (u := U) (U := U.calling g mk a) (Vm.Alike.refl U.vm) qK, nx.same (s := U) (U := U.calling g mk a) rfl qn⟩, qt.calling g mk a⟩
abbrev no_Q : Array Value → State → Outcome → State → Prop := va_Ql (fun (_ : Int64) (_ : Unit) => False) (fun _ _ => True) (fun _ => False)
abbrev th_X (cls : String) : String → State → State → Prop := vx_X (fun _ : Unit => True) (fun E _ _ => E = cls) (fun _ => False)
def ln_P (D : va_G) (cI cJ : ClassId) (S0 sa sb oA : Nat) (fo : Nat → Int64) (vs : List Value) (ws : va_W) : Array Value → State → Prop := va_Pc vs (fun U => va_P D kC ws U.heap ∧ wd_K D cI cJ U ∧ tx S0 sa sb U ∧ va_P D kC [(oA, .inl (cJ, 1, .inr (.inl fo)))] U.heap)
theorem ln_blind {D : va_G} {cI cJ : ClassId} {S0 sa sb oA : Nat} {fo : Nat → Int64} {vs : List Value} {ws : va_W} : FrameBlind (ln_P D cI cJ S0 sa sb oA fo vs ws) := fun a U g mk q => by
  obtain ⟨q0, qP, ⟨qK, qn⟩, qt, qo⟩ := q
  exact ⟨q0, qP, ⟨va_K.moved (u := U) (U := U.calling g mk a) (Vm.Alike.refl U.vm) qK, nx.same (s := U) (U := U.calling g mk a) rfl qn⟩, qt.calling g mk a, qo⟩
abbrev ln_Q (D : va_G) (cJ : ClassId) (oA : Nat) (K : Int32) (pu : (Nat → Int64) → Prop) : Array Value → State → Outcome → State → Prop := va_Qi (fun (r : Int32) (u : Nat → Int64) => r = K ∧ pu u) (fun u t => va_P D kC [(oA, .inl (cJ, 1, .inr (.inl u)))] t.heap) (fun q => q = oA)
section Num
variable {l : Launch} {D : va_G} {cI cJ : ClassId} {h : Nat → Nat} {n k f b an as : Nat} {F Wt Sz : Nat → Int32} {Nu : Nat → Int64} {Mb : Nat → Int32} {G Wk : Nat → Int32} {To : Nat → Int64} {Sl : Nat → Int32} {Ri oT oS oF Fo : Nat → Int32} {wo pa fa : Int32} {S0 sa sb : Nat}
set_option maxHeartbeats 4000000 in
set_option maxRecDepth 100000 in
theorem c_X5_number_u (hh : ad_ok h 20) (t kd i : Int32) (h1 : p_in t (nI n) = false) : Met l yX5_number wsX5_number ({ frames := 9, cells := 0, slots := 0, locals := 400 }) (wd_P D cI cJ [.ref (h 0), .int t, .int kd, .int i] (sl_W cI cJ h (nI n) F Wt Sz Nu Mb (nI k) G Wk To Sl Ri (nI f) (nI b) oT oS oF (nI an) (nI as) Fo wo pa fa)) (pu_Q (some (.long 0))) 0 0 (fun _ => False) := by
  refine Met.ofW (cc := cX5_number) (maxL := 5) (ret := (some .long)) (by decide) rfl ?_
  intro p e s m args below meth c s₁ B hml hv
  obtain ⟨rfl, hP, hK⟩ := hv
  have hx := B.exec
  have hb := B.bytes
  have hr := B.returns
  have hts := atoms_spec (ws := wsX5_number) B.pre
  have hown : s.vm.findClass RX5 = some m.cls := findClass_of_methodNamed B.named
  have hlocks := B.notSynchronized
  have hl := lv_entry ([.ref (h 0), .int t, .int kd, .int i]) (n := 5) (Nat.le_of_ble_eq_true rfl)
  rw [lg_entry_eq]
  generalize (lg_sl ([.ref (h 0), .int t, .int kd, .int i]) ++ List.replicate (5 - (lg_sl ([.ref (h 0), .int t, .int kd, .int i])).length) Slot.unset).toArray = ls at hl ⊢
  have hl : lv_has ls 5 [(0, .ref (h 0)), (1, .int t), (2, .int kd), (3, .int i)] := hl
  refine lv_aload_n hx hb dX5_number_0 rfl (lv_at hl 0 rfl) ?_
  refine lv_iload_n hx hb dX5_number_1 rfl (lv_at hl 1 rfl) ?_
  refine lv_iload_n hx hb dX5_number_2 rfl (lv_at hl 2 rfl) ?_
  refine lv_iconst (v := 4) hx hb dX5_number_3 (by decide) ?_
  refine lv_bipush (v := 6) hx hb dX5_number_4 (by decide) ?_
  refine pu_calli (va_runV (As := [.int t, .int kd, .int 4, .int 6]) (rest := []) ⟨hx, hb, hml, hown, hts⟩ (c_X5_refusalOf_u hh t kd 4 6 (by assumption)) (cwV 4 hts gX5_number_X5_refusalOf rfl rfl rfl (by decide +kernel) ⟨Nat.le_of_ble_eq_true rfl, Nat.le_of_ble_eq_true rfl⟩) (wd_preV (ci := 5) (q0 := 0) hP hK rfl rfl) rfl rfl hl.1 rfl (lv_room (Nat.le_of_ble_eq_true rfl)) dX5_number_6 ⟨Nat.zero_le _, Nat.zero_le _⟩) ?_
  refine lv_if_eq (tgt := 14) hx hb dX5_number_9 (by decide) (fun h9 => absurd h9 (by decide)) (fun _ => ?_)
  refine lv_lconst (v := 0) hx hb dX5_number_12 (by decide) ?_
  exact W.lret (v := 0) hx hb hr (fun t9 ht _ => ⟨congrArg (fun z => Outcome.returned (some (Value.long z))) (rfl), ht⟩) (fun _ h9 => nomatch h9) dX5_number_13
set_option maxHeartbeats 4000000 in
set_option maxRecDepth 100000 in
theorem c_X5_number_o (hh : ad_ok h 20) (t kd i : Int32) (h1 : p_in t (nI n) = true) (h2 : q_in kd 4 6 = false) : Met l yX5_number wsX5_number ({ frames := 9, cells := 0, slots := 0, locals := 400 }) (wd_P D cI cJ [.ref (h 0), .int t, .int kd, .int i] (sl_W cI cJ h (nI n) F Wt Sz Nu Mb (nI k) G Wk To Sl Ri (nI f) (nI b) oT oS oF (nI an) (nI as) Fo wo pa fa)) (pu_Q (some (.long 0))) 0 0 (fun _ => False) := by
  refine Met.ofW (cc := cX5_number) (maxL := 5) (ret := (some .long)) (by decide) rfl ?_
  intro p e s m args below meth c s₁ B hml hv
  obtain ⟨rfl, hP, hK⟩ := hv
  have hx := B.exec
  have hb := B.bytes
  have hr := B.returns
  have hts := atoms_spec (ws := wsX5_number) B.pre
  have hown : s.vm.findClass RX5 = some m.cls := findClass_of_methodNamed B.named
  have hlocks := B.notSynchronized
  have hl := lv_entry ([.ref (h 0), .int t, .int kd, .int i]) (n := 5) (Nat.le_of_ble_eq_true rfl)
  rw [lg_entry_eq]
  generalize (lg_sl ([.ref (h 0), .int t, .int kd, .int i]) ++ List.replicate (5 - (lg_sl ([.ref (h 0), .int t, .int kd, .int i])).length) Slot.unset).toArray = ls at hl ⊢
  have hl : lv_has ls 5 [(0, .ref (h 0)), (1, .int t), (2, .int kd), (3, .int i)] := hl
  refine lv_aload_n hx hb dX5_number_0 rfl (lv_at hl 0 rfl) ?_
  refine lv_iload_n hx hb dX5_number_1 rfl (lv_at hl 1 rfl) ?_
  refine lv_iload_n hx hb dX5_number_2 rfl (lv_at hl 2 rfl) ?_
  refine lv_iconst (v := 4) hx hb dX5_number_3 (by decide) ?_
  refine lv_bipush (v := 6) hx hb dX5_number_4 (by decide) ?_
  refine pu_calli (va_runV (As := [.int t, .int kd, .int 4, .int 6]) (rest := []) ⟨hx, hb, hml, hown, hts⟩ (c_X5_refusalOf_o hh t kd 4 6 (by assumption) (by assumption)) (cwV 4 hts gX5_number_X5_refusalOf rfl rfl rfl (by decide +kernel) ⟨Nat.le_of_ble_eq_true rfl, Nat.le_of_ble_eq_true rfl⟩) (wd_preV (ci := 5) (q0 := 0) hP hK rfl rfl) rfl rfl hl.1 rfl (lv_room (Nat.le_of_ble_eq_true rfl)) dX5_number_6 ⟨Nat.zero_le _, Nat.zero_le _⟩) ?_
  refine lv_if_eq (tgt := 14) hx hb dX5_number_9 (by decide) (fun h9 => absurd h9 (by decide)) (fun _ => ?_)
  refine lv_lconst (v := 0) hx hb dX5_number_12 (by decide) ?_
  exact W.lret (v := 0) hx hb hr (fun t9 ht _ => ⟨congrArg (fun z => Outcome.returned (some (Value.long z))) (rfl), ht⟩) (fun _ h9 => nomatch h9) dX5_number_13
set_option maxHeartbeats 4000000 in
set_option maxRecDepth 100000 in
theorem c_X5_number_a (hh : ad_ok h 20) (hn : n ≤ 100) (r : Nat) (hr9 : r < n) (kd : Int32) (hq : q_in kd 4 6 = true) (j : Nat) (hj : j < 8) (h1 : ko (F r) kd = true) (h2 : p_in (nI j) (Sz r) = true) : Met l yX5_number wsX5_number ({ frames := 9, cells := 0, slots := 0, locals := 400 }) (wd_P D cI cJ [.ref (h 0), .int (nI r), .int kd, .int (nI j)] (sl_W cI cJ h (nI n) F Wt Sz Nu Mb (nI k) G Wk To Sl Ri (nI f) (nI b) oT oS oF (nI an) (nI as) Fo wo pa fa)) (pu_Q (some (.long (Nu (8 * r + j))))) 0 0 (fun _ => False) := by
  refine Met.ofW (cc := cX5_number) (maxL := 5) (ret := (some .long)) (by decide) rfl ?_
  intro p e s m args below meth c s₁ B hml hv
  obtain ⟨rfl, hP, hK⟩ := hv
  have hx := B.exec
  have hb := B.bytes
  have hr := B.returns
  have hts := atoms_spec (ws := wsX5_number) B.pre
  have hown : s.vm.findClass RX5 = some m.cls := findClass_of_methodNamed B.named
  have hlocks := B.notSynchronized
  have hiX5 : ∀ w ∈ u_ws RX5 TX5 5, w ∈ wsX5_number := by decide +kernel
  have kf10 := hts (.fieldLink RX5 10 "SortingLine" "things" "LSortingLine$Things;") (by decide +kernel)
  have hl := lv_entry ([.ref (h 0), .int (nI r), .int kd, .int (nI j)]) (n := 5) (Nat.le_of_ble_eq_true rfl)
  rw [lg_entry_eq]
  generalize (lg_sl ([.ref (h 0), .int (nI r), .int kd, .int (nI j)]) ++ List.replicate (5 - (lg_sl ([.ref (h 0), .int (nI r), .int kd, .int (nI j)])).length) Slot.unset).toArray = ls at hl ⊢
  have hl : lv_has ls 5 [(0, .ref (h 0)), (1, .int (nI r)), (2, .int kd), (3, .int (nI j))] := hl
  refine lv_aload_n hx hb dX5_number_0 rfl (lv_at hl 0 rfl) ?_
  refine lv_iload_n hx hb dX5_number_1 rfl (lv_at hl 1 rfl) ?_
  refine lv_iload_n hx hb dX5_number_2 rfl (lv_at hl 2 rfl) ?_
  refine lv_iconst (v := 4) hx hb dX5_number_3 (by decide) ?_
  refine lv_bipush (v := 6) hx hb dX5_number_4 (by decide) ?_
  refine pu_calli (va_runV (As := [.int (nI r), .int kd, .int 4, .int 6]) (rest := []) ⟨hx, hb, hml, hown, hts⟩ (c_X5_refusalOf_a hh (nI r) kd 4 6 (p_in_nI hr9 (by omega)) (by assumption)) (cwV 4 hts gX5_number_X5_refusalOf rfl rfl rfl (by decide +kernel) ⟨Nat.le_of_ble_eq_true rfl, Nat.le_of_ble_eq_true rfl⟩) (wd_preV (ci := 5) (q0 := 0) hP hK rfl rfl) rfl rfl hl.1 rfl (lv_room (Nat.le_of_ble_eq_true rfl)) dX5_number_6 ⟨Nat.zero_le _, Nat.zero_le _⟩) ?_
  refine lv_if_eq (tgt := 14) hx hb dX5_number_9 (by decide) (fun _ => ?_) (fun h9 => absurd (by decide) h9)
  refine lv_aload_n hx hb dX5_number_14 rfl (lv_at hl 0 rfl) ?_
  refine lv_iload_n hx hb dX5_number_15 rfl (lv_at hl 1 rfl) ?_
  refine lv_iload_n hx hb dX5_number_16 rfl (lv_at hl 2 rfl) ?_
  refine lv_iload_n hx hb dX5_number_17 rfl (lv_at hl 3 rfl) ?_
  refine pu_calli (va_runV (As := [.int (nI r), .int kd, .int (nI j)]) (rest := []) ⟨hx, hb, hml, hown, hts⟩ (c_X5_findingAt_o hh hn r (by omega) kd (nI j) (by assumption) (by assumption)) (cwV 3 hts gX5_number_X5_findingAt rfl rfl rfl (by decide +kernel) ⟨Nat.le_of_ble_eq_true rfl, Nat.le_of_ble_eq_true rfl⟩) (wd_preV (ci := 5) (q0 := 0) hP hK rfl rfl) rfl rfl hl.1 rfl (lv_room (Nat.le_of_ble_eq_true rfl)) dX5_number_18 ⟨Nat.zero_le _, Nat.zero_le _⟩) ?_
  refine lv_istore (lv' := [(4, .int 0), (0, .ref (h 0)), (1, .int (nI r)), (2, .int kd), (3, .int (nI j))]) hx hb dX5_number_21 hl (by decide) rfl (fun ls hl => ?_)
  refine lv_iload hx hb dX5_number_23 (lv_at hl 0 rfl) ?_
  refine lv_iconst (v := 1) hx hb dX5_number_25 (by decide) ?_
  refine lv_icmp_ne (tgt := 39) hx hb dX5_number_26 (by decide) (fun _ => ?_) (fun h9 => absurd h9 (by decide))
  refine lv_iload hx hb dX5_number_39 (lv_at hl 0 rfl) ?_
  refine lv_iconst (v := 3) hx hb dX5_number_41 (by decide) ?_
  refine lv_icmp_ne (tgt := 55) hx hb dX5_number_42 (by decide) (fun _ => ?_) (fun h9 => absurd h9 (by decide))
  refine lv_aload_n hx hb dX5_number_55 rfl (lv_at hl 1 rfl) ?_
  refine va_get (D := D) (ci := 5) (v := .ref (h 1)) (C := RX5) (T := TX5) (N := 5) hx hb hts hiX5 hown hK.1 hP 0 rfl rfl 0 (by decide) kf10 (fun _ h9 => h9) rfl dX5_number_56 ?_
  refine lv_iload_n hx hb dX5_number_59 rfl (lv_at hl 2 rfl) ?_
  refine lv_iload_n hx hb dX5_number_60 rfl (lv_at hl 4 rfl) ?_
  refine pu_calll (va_runV (As := [.int (nI r), .int (nI j)]) (rest := []) ⟨hx, hb, hml, hown, hts⟩ (c_X4_numberAt hh hn r (by omega) j (by omega) (h2)) (cwV 2 hts gX5_number_X4_numberAt rfl rfl rfl (by decide +kernel) ⟨Nat.le_of_ble_eq_true rfl, Nat.le_of_ble_eq_true rfl⟩) (wd_preV (ci := 4) (q0 := 1) hP hK rfl rfl) rfl rfl hl.1 rfl (lv_room (Nat.le_of_ble_eq_true rfl)) dX5_number_61 ⟨Nat.zero_le _, Nat.zero_le _⟩) ?_
  exact W.lret (v := Nu (8 * r + j)) hx hb hr (fun t9 ht _ => ⟨congrArg (fun z => Outcome.returned (some (Value.long z))) (rfl), ht⟩) (fun _ h9 => nomatch h9) dX5_number_64
set_option maxHeartbeats 4000000 in
set_option maxRecDepth 100000 in
theorem x_X5_number_c (hlt : l.stackTraces = false) (hh : ad_ok h 20) (hn : n ≤ 100) (r : Nat) (hr9 : r < n) (kd : Int32) (hq : q_in kd 4 6 = true) (i : Int32) (h1 : ko (F r) kd = false) : vx_Met l yX5_number wsN ({ frames := 9, cells := 1, slots := 6, locals := 400 }) (tx_P D cI cJ S0 sa sb [.ref (h 0), .int (nI r), .int kd, .int i] (sl_W cI cJ h (nI n) F Wt Sz Nu Mb (nI k) G Wk To Sl Ri (nI f) (nI b) oT oS oF (nI an) (nI as) Fo wo pa fa)) no_Q (th_X RJx3273f) 1 6 (fun _ => False) := by
  refine vx_ofW (cc := cX5_number) (maxL := 5) (ret := (some .long)) (by decide) rfl ?_
  intro p e s m args below meth c s₁ B hml htab hv
  obtain ⟨rfl, hP, hK, htx⟩ := hv
  have hx := B.exec
  have hb := B.bytes
  have hr := B.returns
  have hts9 := atoms_spec (ws := wsN) B.pre
  have hts := fun w h => hts9 w (wsN_sub w h)
  have hown : s.vm.findClass RX5 = some m.cls := findClass_of_methodNamed B.named
  have hlocks := B.notSynchronized
  have hl := lv_entry ([.ref (h 0), .int (nI r), .int kd, .int i]) (n := 5) (Nat.le_of_ble_eq_true rfl)
  rw [lg_entry_eq]
  generalize (lg_sl ([.ref (h 0), .int (nI r), .int kd, .int i]) ++ List.replicate (5 - (lg_sl ([.ref (h 0), .int (nI r), .int kd, .int i])).length) Slot.unset).toArray = ls at hl ⊢
  have hl : lv_has ls 5 [(0, .ref (h 0)), (1, .int (nI r)), (2, .int kd), (3, .int i)] := hl
  refine lv_aload_n hx hb dX5_number_0 rfl (lv_at hl 0 rfl) ?_
  refine lv_iload_n hx hb dX5_number_1 rfl (lv_at hl 1 rfl) ?_
  refine lv_iload_n hx hb dX5_number_2 rfl (lv_at hl 2 rfl) ?_
  refine lv_iconst (v := 4) hx hb dX5_number_3 (by decide) ?_
  refine lv_bipush (v := 6) hx hb dX5_number_4 (by decide) ?_
  refine pu_calli (va_runV (As := [.int (nI r), .int kd, .int 4, .int 6]) (rest := []) ⟨hx, hb, hml, hown, hts⟩ (c_X5_refusalOf_a hh (nI r) kd 4 6 (p_in_nI hr9 (by omega)) (by assumption)) (cwV 4 hts gX5_number_X5_refusalOf rfl rfl rfl (by decide +kernel) ⟨Nat.le_of_ble_eq_true rfl, Nat.le_of_ble_eq_true rfl⟩) (wd_preV (ci := 5) (q0 := 0) hP hK rfl rfl) rfl rfl hl.1 rfl (lv_room (Nat.le_of_ble_eq_true rfl)) dX5_number_6 ⟨Nat.zero_le _, Nat.zero_le _⟩) ?_
  refine lv_if_eq (tgt := 14) hx hb dX5_number_9 (by decide) (fun _ => ?_) (fun h9 => absurd (by decide) h9)
  refine lv_aload_n hx hb dX5_number_14 rfl (lv_at hl 0 rfl) ?_
  refine lv_iload_n hx hb dX5_number_15 rfl (lv_at hl 1 rfl) ?_
  refine lv_iload_n hx hb dX5_number_16 rfl (lv_at hl 2 rfl) ?_
  refine lv_iload_n hx hb dX5_number_17 rfl (lv_at hl 3 rfl) ?_
  refine pu_calli (va_runV (As := [.int (nI r), .int kd, .int i]) (rest := []) ⟨hx, hb, hml, hown, hts⟩ (c_X5_findingAt_c hh hn r (by omega) kd i (by assumption)) (cwV 3 hts gX5_number_X5_findingAt rfl rfl rfl (by decide +kernel) ⟨Nat.le_of_ble_eq_true rfl, Nat.le_of_ble_eq_true rfl⟩) (wd_preV (ci := 5) (q0 := 0) hP hK rfl rfl) rfl rfl hl.1 rfl (lv_room (Nat.le_of_ble_eq_true rfl)) dX5_number_18 ⟨Nat.zero_le _, Nat.zero_le _⟩) ?_
  refine lv_istore (lv' := [(4, .int 1), (0, .ref (h 0)), (1, .int (nI r)), (2, .int kd), (3, .int i)]) hx hb dX5_number_21 hl (by decide) rfl (fun ls hl => ?_)
  refine lv_iload hx hb dX5_number_23 (lv_at hl 0 rfl) ?_
  refine lv_iconst (v := 1) hx hb dX5_number_25 (by decide) ?_
  refine lv_icmp_ne (tgt := 39) hx hb dX5_number_26 (by decide) (fun h9 => absurd (by decide) h9) (fun _ => ?_)
  exact vx_throwS (A := fun q => S0 ≤ q) (names := nmC) hx hb hlt hown (by decide) (by decide) (hts (.classLink RX5 85 RJx3273f) (by decide +kernel)) (hts (.initialized RJx3273f) (by decide +kernel)) htx.1 (vx_hat (fun w hw => hts9 w (wsN_C w hw)) nwC_in htx.2.2.2.2.2.C) (by decide +kernel) htx.2.2.1 htx.2.2.2.1 va_S.rf (hl.1.trans hml.symm) dX5_number_29 dX5_number_32 dX5_number_33 dX5_number_35 dX5_number_38 (fun x hx => (htab x hx).elim) (by decide) (by decide) (by decide) (by decide) hlocks (fun t _ h1 h2 => ⟨(), trivial, rfl, h1, fun q hq _ => h2 q hq⟩) (fun _ h9 => nomatch h9) (by decide) (by decide)
set_option maxHeartbeats 4000000 in
set_option maxRecDepth 100000 in
theorem x_X5_number_b (hlt : l.stackTraces = false) (hh : ad_ok h 20) (hn : n ≤ 100) (r : Nat) (hr9 : r < n) (kd : Int32) (hq : q_in kd 4 6 = true) (i : Int32) (h1 : ko (F r) kd = true) (h2 : p_in i (Sz r) = false) : vx_Met l yX5_number wsN ({ frames := 9, cells := 1, slots := 6, locals := 400 }) (tx_P D cI cJ S0 sa sb [.ref (h 0), .int (nI r), .int kd, .int i] (sl_W cI cJ h (nI n) F Wt Sz Nu Mb (nI k) G Wk To Sl Ri (nI f) (nI b) oT oS oF (nI an) (nI as) Fo wo pa fa)) no_Q (th_X RJx00060) 1 6 (fun _ => False) := by
  refine vx_ofW (cc := cX5_number) (maxL := 5) (ret := (some .long)) (by decide) rfl ?_
  intro p e s m args below meth c s₁ B hml htab hv
  obtain ⟨rfl, hP, hK, htx⟩ := hv
  have hx := B.exec
  have hb := B.bytes
  have hr := B.returns
  have hts9 := atoms_spec (ws := wsN) B.pre
  have hts := fun w h => hts9 w (wsN_sub w h)
  have hown : s.vm.findClass RX5 = some m.cls := findClass_of_methodNamed B.named
  have hlocks := B.notSynchronized
  have hl := lv_entry ([.ref (h 0), .int (nI r), .int kd, .int i]) (n := 5) (Nat.le_of_ble_eq_true rfl)
  rw [lg_entry_eq]
  generalize (lg_sl ([.ref (h 0), .int (nI r), .int kd, .int i]) ++ List.replicate (5 - (lg_sl ([.ref (h 0), .int (nI r), .int kd, .int i])).length) Slot.unset).toArray = ls at hl ⊢
  have hl : lv_has ls 5 [(0, .ref (h 0)), (1, .int (nI r)), (2, .int kd), (3, .int i)] := hl
  refine lv_aload_n hx hb dX5_number_0 rfl (lv_at hl 0 rfl) ?_
  refine lv_iload_n hx hb dX5_number_1 rfl (lv_at hl 1 rfl) ?_
  refine lv_iload_n hx hb dX5_number_2 rfl (lv_at hl 2 rfl) ?_
  refine lv_iconst (v := 4) hx hb dX5_number_3 (by decide) ?_
  refine lv_bipush (v := 6) hx hb dX5_number_4 (by decide) ?_
  refine pu_calli (va_runV (As := [.int (nI r), .int kd, .int 4, .int 6]) (rest := []) ⟨hx, hb, hml, hown, hts⟩ (c_X5_refusalOf_a hh (nI r) kd 4 6 (p_in_nI hr9 (by omega)) (by assumption)) (cwV 4 hts gX5_number_X5_refusalOf rfl rfl rfl (by decide +kernel) ⟨Nat.le_of_ble_eq_true rfl, Nat.le_of_ble_eq_true rfl⟩) (wd_preV (ci := 5) (q0 := 0) hP hK rfl rfl) rfl rfl hl.1 rfl (lv_room (Nat.le_of_ble_eq_true rfl)) dX5_number_6 ⟨Nat.zero_le _, Nat.zero_le _⟩) ?_
  refine lv_if_eq (tgt := 14) hx hb dX5_number_9 (by decide) (fun _ => ?_) (fun h9 => absurd (by decide) h9)
  refine lv_aload_n hx hb dX5_number_14 rfl (lv_at hl 0 rfl) ?_
  refine lv_iload_n hx hb dX5_number_15 rfl (lv_at hl 1 rfl) ?_
  refine lv_iload_n hx hb dX5_number_16 rfl (lv_at hl 2 rfl) ?_
  refine lv_iload_n hx hb dX5_number_17 rfl (lv_at hl 3 rfl) ?_
  refine pu_calli (va_runV (As := [.int (nI r), .int kd, .int i]) (rest := []) ⟨hx, hb, hml, hown, hts⟩ (c_X5_findingAt_b hh hn r (by omega) kd i (by assumption) (by assumption)) (cwV 3 hts gX5_number_X5_findingAt rfl rfl rfl (by decide +kernel) ⟨Nat.le_of_ble_eq_true rfl, Nat.le_of_ble_eq_true rfl⟩) (wd_preV (ci := 5) (q0 := 0) hP hK rfl rfl) rfl rfl hl.1 rfl (lv_room (Nat.le_of_ble_eq_true rfl)) dX5_number_18 ⟨Nat.zero_le _, Nat.zero_le _⟩) ?_
  refine lv_istore (lv' := [(4, .int 3), (0, .ref (h 0)), (1, .int (nI r)), (2, .int kd), (3, .int i)]) hx hb dX5_number_21 hl (by decide) rfl (fun ls hl => ?_)
  refine lv_iload hx hb dX5_number_23 (lv_at hl 0 rfl) ?_
  refine lv_iconst (v := 1) hx hb dX5_number_25 (by decide) ?_
  refine lv_icmp_ne (tgt := 39) hx hb dX5_number_26 (by decide) (fun _ => ?_) (fun h9 => absurd h9 (by decide))
  refine lv_iload hx hb dX5_number_39 (lv_at hl 0 rfl) ?_
  refine lv_iconst (v := 3) hx hb dX5_number_41 (by decide) ?_
  refine lv_icmp_ne (tgt := 55) hx hb dX5_number_42 (by decide) (fun h9 => absurd (by decide) h9) (fun _ => ?_)
  exact vx_throwS (A := fun q => S0 ≤ q) (names := nmB) hx hb hlt hown (by decide) (by decide) (hts (.classLink RX5 92 RJx00060) (by decide +kernel)) (hts (.initialized RJx00060) (by decide +kernel)) htx.2.1 (vx_hat (fun w hw => hts9 w (wsN_B w hw)) nwB_in htx.2.2.2.2.2.B) (by decide +kernel) htx.2.2.1 htx.2.2.2.1 va_S.rf (hl.1.trans hml.symm) dX5_number_45 dX5_number_48 dX5_number_49 dX5_number_51 dX5_number_54 (fun x hx => (htab x hx).elim) (by decide) (by decide) (by decide) (by decide) hlocks (fun t _ h1 h2 => ⟨(), trivial, rfl, h1, fun q hq _ => h2 q hq⟩) (fun _ h9 => nomatch h9) (by decide) (by decide)
set_option maxHeartbeats 4000000 in
set_option maxRecDepth 100000 in
theorem c_L_number_r (oA : Nat) (fo : Nat → Int64) (t kd i : Int32) (r : Int64) (hM : Met l yX5_number wsX5_number ({ frames := 9, cells := 0, slots := 0, locals := 400 }) (wd_P D cI cJ [.ref (h 0), .int t, .int kd, .int i] (sl_W cI cJ h (nI n) F Wt Sz Nu Mb (nI k) G Wk To Sl Ri (nI f) (nI b) oT oS oF (nI an) (nI as) Fo wo pa fa)) (pu_Q (some (.long r))) 0 0 (fun _ => False)) : Met l yL_number wsLN ({ frames := 10, cells := 1, slots := 6, locals := 500 }) (ln_P D cI cJ S0 sa sb oA fo [.ref (h 0), .int t, .int kd, .int i, .ref oA] (sl_W cI cJ h (nI n) F Wt Sz Nu Mb (nI k) G Wk To Sl Ri (nI f) (nI b) oT oS oF (nI an) (nI as) Fo wo pa fa)) (ln_Q D cJ oA 0 (fun u => u 0 = r)) 1 6 (fun q => q = oA) := by
  refine va_MetW (cc := cL_number) (maxL := 6) (ret := (some .int)) (hh := tbN) (by decide) rfl ?_
  intro p e s m args below meth c s₁ B hml hv
  obtain ⟨rfl, hP, hK, htx, hP2⟩ := hv
  have hx := B.exec
  have hb := B.bytes
  have hr := B.returns
  have hts9 := atoms_spec (ws := wsLN) B.pre
  have hts := fun w h => hts9 w (wsLN_sub w h)
  have hown : s.vm.findClass RL = some m.cls := findClass_of_methodNamed B.named
  have hlocks := B.notSynchronized
  have hS : va_S (fun q => q = oA) s.heap s.heap [] := va_S.rf
  have htab : c.exceptionTable.toList = tableOf tbN := vx_table (x := yL_number) B (hts9 (.codeWith yL_number cL_number 6 (some .int) tbN) List.mem_cons_self)
  have hl := lv_entry ([.ref (h 0), .int t, .int kd, .int i, .ref oA]) (n := 6) (Nat.le_of_ble_eq_true rfl)
  rw [lg_entry_eq]
  generalize (lg_sl ([.ref (h 0), .int t, .int kd, .int i, .ref oA]) ++ List.replicate (6 - (lg_sl ([.ref (h 0), .int t, .int kd, .int i, .ref oA])).length) Slot.unset).toArray = ls at hl ⊢
  have hl : lv_has ls 6 [(0, .ref (h 0)), (1, .int t), (2, .int kd), (3, .int i), (4, .ref oA)] := hl
  refine lv_aload hx hb dL_number_0 (lv_at hl 4 rfl) ?_
  refine lv_iconst (v := 0) hx hb dL_number_2 (by decide) ?_
  refine lv_aload_n hx hb dL_number_3 rfl (lv_at hl 0 rfl) ?_
  refine lv_iload_n hx hb dL_number_4 rfl (lv_at hl 1 rfl) ?_
  refine lv_iload_n hx hb dL_number_5 rfl (lv_at hl 2 rfl) ?_
  refine lv_iload_n hx hb dL_number_6 rfl (lv_at hl 3 rfl) ?_
  refine pu_calll (va_runV (As := [.int t, .int kd, .int i]) (rest := [.int 0, .ref oA]) ⟨hx, hb, hml, hown, hts⟩ hM (cwV 3 hts gL_number_X5_number rfl rfl rfl (by decide +kernel) ⟨Nat.le_of_ble_eq_true rfl, Nat.le_of_ble_eq_true rfl⟩) (wd_preV (ci := 5) (q0 := 0) hP hK rfl rfl) rfl rfl hl.1 rfl (lv_room (Nat.le_of_ble_eq_true rfl)) dL_number_7 ⟨Nat.zero_le _, Nat.zero_le _⟩) ?_
  refine ga_lst hx hb hK hP2 (va_Dq oA _) hS 0 rfl 0 (by decide) (by decide) (by decide) dL_number_10 (fun H locs hP hS => ?_)
  have hP : va_P D kC [(oA, .inl (cJ, 1, .inr (.inl (vp_updL fo 0 r))))] H := hP
  refine lv_goto (tgt := 22) hx hb dL_number_11 (by decide) ?_
  refine lv_iconst (v := 0) hx hb dL_number_22 (by decide) ?_
  refine W.widen (k := 1) (n := 6) (Nat.le_of_ble_eq_true rfl) (Nat.le_of_ble_eq_true rfl) ?_
  exact W.iret (v := 0) hx hb hr (fun t9 ht _ => ⟨⟨0, vp_updL fo 0 r, rfl, ⟨rfl, upL_at⟩, vaP_eq ht hP⟩, hS.F ht⟩) hS.2.2 dL_number_23
set_option maxHeartbeats 4000000 in
set_option maxRecDepth 100000 in
theorem c_L_number_c (oA : Nat) (hoA : S0 ≤ oA) (fo : Nat → Int64) (t kd i : Int32) (hM : vx_Met l yX5_number wsN ({ frames := 9, cells := 1, slots := 6, locals := 400 }) (tx_P D cI cJ S0 sa sb [.ref (h 0), .int t, .int kd, .int i] (sl_W cI cJ h (nI n) F Wt Sz Nu Mb (nI k) G Wk To Sl Ri (nI f) (nI b) oT oS oF (nI an) (nI as) Fo wo pa fa)) no_Q (th_X RJx3273f) 1 6 (fun _ => False)) : Met l yL_number wsLN ({ frames := 10, cells := 1, slots := 6, locals := 500 }) (ln_P D cI cJ S0 sa sb oA fo [.ref (h 0), .int t, .int kd, .int i, .ref oA] (sl_W cI cJ h (nI n) F Wt Sz Nu Mb (nI k) G Wk To Sl Ri (nI f) (nI b) oT oS oF (nI an) (nI as) Fo wo pa fa)) (ln_Q D cJ oA 1 (fun _ => True)) 1 6 (fun q => q = oA) := by
  refine va_MetW (cc := cL_number) (maxL := 6) (ret := (some .int)) (hh := tbN) (by decide) rfl ?_
  intro p e s m args below meth c s₁ B hml hv
  obtain ⟨rfl, hP, hK, htx, hP2⟩ := hv
  have hx := B.exec
  have hb := B.bytes
  have hr := B.returns
  have hts9 := atoms_spec (ws := wsLN) B.pre
  have hts := fun w h => hts9 w (wsLN_sub w h)
  have hown : s.vm.findClass RL = some m.cls := findClass_of_methodNamed B.named
  have hlocks := B.notSynchronized
  have hS : va_S (fun q => q = oA) s.heap s.heap [] := va_S.rf
  have htab : c.exceptionTable.toList = tableOf tbN := vx_table (x := yL_number) B (hts9 (.codeWith yL_number cL_number 6 (some .int) tbN) List.mem_cons_self)
  have hl := lv_entry ([.ref (h 0), .int t, .int kd, .int i, .ref oA]) (n := 6) (Nat.le_of_ble_eq_true rfl)
  rw [lg_entry_eq]
  generalize (lg_sl ([.ref (h 0), .int t, .int kd, .int i, .ref oA]) ++ List.replicate (6 - (lg_sl ([.ref (h 0), .int t, .int kd, .int i, .ref oA])).length) Slot.unset).toArray = ls at hl ⊢
  have hl : lv_has ls 6 [(0, .ref (h 0)), (1, .int t), (2, .int kd), (3, .int i), (4, .ref oA)] := hl
  refine lv_aload hx hb dL_number_0 (lv_at hl 4 rfl) ?_
  refine lv_iconst (v := 0) hx hb dL_number_2 (by decide) ?_
  refine lv_aload_n hx hb dL_number_3 rfl (lv_at hl 0 rfl) ?_
  refine lv_iload_n hx hb dL_number_4 rfl (lv_at hl 1 rfl) ?_
  refine lv_iload_n hx hb dL_number_5 rfl (lv_at hl 2 rfl) ?_
  refine lv_iload_n hx hb dL_number_6 rfl (lv_at hl 3 rfl) ?_
  refine vx_calll (vx_runV (As := [.int t, .int kd, .int i]) (rest := [.int 0, .ref oA]) ⟨hx, hb, hml, hown, hts9⟩ hM (cwV 3 hts9 g_N rfl rfl rfl (by decide +kernel) ⟨Nat.le_of_ble_eq_true rfl, Nat.le_of_ble_eq_true rfl⟩) ⟨tx_blind, va_recv hK.1 hP (ci := 5) (q0 := 0) rfl rfl, fun U hU hW => ⟨rfl, by rw [hU]; exact hP, hK.warm hW, htx.warm hW hU hS (fun q hq => by rw [hq]; exact hoA)⟩⟩ rfl rfl hl.1 rfl (lv_room (Nat.le_of_ble_eq_true rfl)) dL_number_7 ⟨Nat.le_of_ble_eq_true rfl, Nat.le_of_ble_eq_true rfl⟩) hS (fun q _ h => h.elim) (fun q h => h.elim) (fun q _ h => h.elim)
    (fun E ce q9 u t9 H1 locs1 ht hvm _ hE hz hk hS hce hcv hcl => ?_) (fun r9 u t9 H1 locs1 _ _ hp => hp.elim)
  subst hE
  have hP3 : va_P D kC [(oA, .inl (cJ, 1, .inr (.inl fo)))] H1 := hP2.kept (fun k q hq => hk q.1 ((hP2 k q hq).lt) id)
  refine vx_catch (own := RL) (name := "java/lang/ClassCastException") hown [] ⟨0, 11, 14, 13⟩ [⟨0, 11, 18, 15⟩] htab (fun z hz => nomatch hz) (by decide) (by decide) (hts (.classLink RL 13 "java/lang/ClassCastException") (by decide +kernel)) (va_Nw.use rfl htx.2.2.2.2.2.1) hce hcv hcl ?_
  refine W.eq (g2 := F0 m 14 ls [.ref q9]) rfl ?_
  refine lv_astore (lv' := [(5, .ref q9), (0, .ref (h 0)), (1, .int t), (2, .int kd), (3, .int i), (4, .ref oA)]) hx hb dL_number_14 hl (by decide) rfl (fun ls hl => ?_)
  refine lv_iconst (v := 1) hx hb dL_number_16 (by decide) ?_
  refine W.widen (k := 1) (n := 6) (Nat.le_of_ble_eq_true rfl) (Nat.le_of_ble_eq_true rfl) ?_
  exact W.iret (v := 1) hx hb hr (fun t9 ht _ => ⟨⟨1, fo, rfl, ⟨rfl, trivial⟩, vaP_eq ht hP3⟩, hS.F ht⟩) hS.2.2 dL_number_17
set_option maxHeartbeats 4000000 in
set_option maxRecDepth 100000 in
theorem c_L_number_b (oA : Nat) (hoA : S0 ≤ oA) (fo : Nat → Int64) (t kd i : Int32) (hM : vx_Met l yX5_number wsN ({ frames := 9, cells := 1, slots := 6, locals := 400 }) (tx_P D cI cJ S0 sa sb [.ref (h 0), .int t, .int kd, .int i] (sl_W cI cJ h (nI n) F Wt Sz Nu Mb (nI k) G Wk To Sl Ri (nI f) (nI b) oT oS oF (nI an) (nI as) Fo wo pa fa)) no_Q (th_X RJx00060) 1 6 (fun _ => False)) : Met l yL_number wsLN ({ frames := 10, cells := 1, slots := 6, locals := 500 }) (ln_P D cI cJ S0 sa sb oA fo [.ref (h 0), .int t, .int kd, .int i, .ref oA] (sl_W cI cJ h (nI n) F Wt Sz Nu Mb (nI k) G Wk To Sl Ri (nI f) (nI b) oT oS oF (nI an) (nI as) Fo wo pa fa)) (ln_Q D cJ oA 2 (fun _ => True)) 1 6 (fun q => q = oA) := by
  refine va_MetW (cc := cL_number) (maxL := 6) (ret := (some .int)) (hh := tbN) (by decide) rfl ?_
  intro p e s m args below meth c s₁ B hml hv
  obtain ⟨rfl, hP, hK, htx, hP2⟩ := hv
  have hx := B.exec
  have hb := B.bytes
  have hr := B.returns
  have hts9 := atoms_spec (ws := wsLN) B.pre
  have hts := fun w h => hts9 w (wsLN_sub w h)
  have hown : s.vm.findClass RL = some m.cls := findClass_of_methodNamed B.named
  have hlocks := B.notSynchronized
  have hS : va_S (fun q => q = oA) s.heap s.heap [] := va_S.rf
  have htab : c.exceptionTable.toList = tableOf tbN := vx_table (x := yL_number) B (hts9 (.codeWith yL_number cL_number 6 (some .int) tbN) List.mem_cons_self)
  have hl := lv_entry ([.ref (h 0), .int t, .int kd, .int i, .ref oA]) (n := 6) (Nat.le_of_ble_eq_true rfl)
  rw [lg_entry_eq]
  generalize (lg_sl ([.ref (h 0), .int t, .int kd, .int i, .ref oA]) ++ List.replicate (6 - (lg_sl ([.ref (h 0), .int t, .int kd, .int i, .ref oA])).length) Slot.unset).toArray = ls at hl ⊢
  have hl : lv_has ls 6 [(0, .ref (h 0)), (1, .int t), (2, .int kd), (3, .int i), (4, .ref oA)] := hl
  refine lv_aload hx hb dL_number_0 (lv_at hl 4 rfl) ?_
  refine lv_iconst (v := 0) hx hb dL_number_2 (by decide) ?_
  refine lv_aload_n hx hb dL_number_3 rfl (lv_at hl 0 rfl) ?_
  refine lv_iload_n hx hb dL_number_4 rfl (lv_at hl 1 rfl) ?_
  refine lv_iload_n hx hb dL_number_5 rfl (lv_at hl 2 rfl) ?_
  refine lv_iload_n hx hb dL_number_6 rfl (lv_at hl 3 rfl) ?_
  refine vx_calll (vx_runV (As := [.int t, .int kd, .int i]) (rest := [.int 0, .ref oA]) ⟨hx, hb, hml, hown, hts9⟩ hM (cwV 3 hts9 g_N rfl rfl rfl (by decide +kernel) ⟨Nat.le_of_ble_eq_true rfl, Nat.le_of_ble_eq_true rfl⟩) ⟨tx_blind, va_recv hK.1 hP (ci := 5) (q0 := 0) rfl rfl, fun U hU hW => ⟨rfl, by rw [hU]; exact hP, hK.warm hW, htx.warm hW hU hS (fun q hq => by rw [hq]; exact hoA)⟩⟩ rfl rfl hl.1 rfl (lv_room (Nat.le_of_ble_eq_true rfl)) dL_number_7 ⟨Nat.le_of_ble_eq_true rfl, Nat.le_of_ble_eq_true rfl⟩) hS (fun q _ h => h.elim) (fun q h => h.elim) (fun q _ h => h.elim)
    (fun E ce q9 u t9 H1 locs1 ht hvm _ hE hz hk hS hce hcv hcl => ?_) (fun r9 u t9 H1 locs1 _ _ hp => hp.elim)
  subst hE
  have hP3 : va_P D kC [(oA, .inl (cJ, 1, .inr (.inl fo)))] H1 := hP2.kept (fun k q hq => hk q.1 ((hP2 k q hq).lt) id)
  refine vx_catch (own := RL) (name := "java/lang/ArrayIndexOutOfBoundsException") hown [⟨0, 11, 14, 13⟩] ⟨0, 11, 18, 15⟩ [] htab (fun z hz => by rcases List.mem_singleton.mp hz with rfl; exact Or.inr ⟨by decide, _, hts (.classLink RL 13 "java/lang/ClassCastException") (by decide +kernel), htx.2.2.2.2.1⟩) (by decide) (by decide) (hts (.classLink RL 15 "java/lang/ArrayIndexOutOfBoundsException") (by decide +kernel)) (va_Nw.use rfl htx.2.2.2.2.2.2.1) hce hcv hcl ?_
  refine W.eq (g2 := F0 m 18 ls [.ref q9]) rfl ?_
  refine lv_astore (lv' := [(5, .ref q9), (0, .ref (h 0)), (1, .int t), (2, .int kd), (3, .int i), (4, .ref oA)]) hx hb dL_number_18 hl (by decide) rfl (fun ls hl => ?_)
  refine lv_iconst (v := 2) hx hb dL_number_20 (by decide) ?_
  refine W.widen (k := 1) (n := 6) (Nat.le_of_ble_eq_true rfl) (Nat.le_of_ble_eq_true rfl) ?_
  exact W.iret (v := 2) hx hb hr (fun t9 ht _ => ⟨⟨2, fo, rfl, ⟨rfl, trivial⟩, vaP_eq ht hP3⟩, hS.F ht⟩) hS.2.2 dL_number_21
end Num
