/-! the law from its entry -/
theorem z_tl : (fun _ : Nat => (0 : Int32)) = fun j => tl ((fun _ : Nat => (0 : Int32)) j) := funext (fun _ => (by decide : (0 : Int32) = tl 0))
theorem sim_0 {cI cJ : ClassId} {u v : Nat → Nat} : SIM cI cJ u v (sl_W cI cJ u 0 (fun _ => 0) (fun _ => 0) (fun _ => 0) (fun _ => 0) (fun _ => 0) 0 (fun _ => 0) (fun _ => 0) (fun _ => 0) (fun _ => 0) (fun _ => 0) 0 0 (fun _ => 0) (fun _ => 0) (fun _ => 0) 0 0 (fun _ => 0) 0 0 0) (mo_W cI cJ v 0 0 (fun _ => 0) (fun _ => 0) (fun _ => 0) (fun _ => 0) (fun _ => 0) (fun _ => 0) 0 0 (fun _ => 0) (fun _ => 0) (fun _ => 0) (fun _ => 0) (fun _ => 0) 0 0 0 0 (fun _ => 0)) := by
  refine ⟨0, 0, 0, 0, 0, 0, 0, fun _ => 0, fun _ => 0, fun _ => 0, fun _ => 0, fun _ => 0, fun _ => 0, fun _ => 0, fun _ => 0, fun _ => 0, fun _ => 0, fun _ => 0, fun _ => 0, fun _ => 0, fun _ => 0, fun _ => 0, fun _ => 0, 0, 0, 0, ?_, rfl, ⟨by decide, fun j hj => absurd hj (by omega)⟩, ⟨by decide, fun j hj => absurd hj (by omega)⟩, ⟨by decide, by decide, fun j hj => absurd hj (by omega)⟩, ⟨by decide, by decide, fun j hj => absurd hj (by omega)⟩⟩
  have key : ∀ M S : Nat → Int32, M = (fun j => tl ((fun _ : Nat => (0 : Int32)) j)) → S = (fun j => tl ((fun _ : Nat => (0 : Int32)) j)) → sl_W cI cJ u 0 (fun _ => 0) (fun _ => 0) (fun _ => 0) (fun _ => 0) M 0 (fun _ => 0) (fun _ => 0) (fun _ => 0) S (fun _ => 0) 0 0 (fun _ => 0) (fun _ => 0) (fun _ => 0) 0 0 (fun _ => 0) 0 0 0 = sl_W cI cJ u (nI 0) (fun _ => 0) (fun _ => 0) (fun _ => 0) (fun _ => 0) (fun j => tl ((fun _ : Nat => (0 : Int32)) j)) (nI 0) (fun _ => 0) (fun _ => 0) (fun _ => 0) (fun j => tl ((fun _ : Nat => (0 : Int32)) j)) (fun _ => 0) (nI 0) (nI 0) (fun _ => 0) (fun _ => 0) (fun _ => 0) (nI 0) (nI 0) (fun _ => 0) 0 0 0 := by
    intro M S hM hS
    subst hM hS
    rfl
  exact key _ _ z_tl z_tl
theorem xw_in : ∀ w ∈ xwC ++ xwB, w ∈ lw_tbl := by decide +kernel
theorem gg_LN : GoodIn lw_tbl wsLN := by
  intro w hw
  rcases List.mem_cons.mp hw with rfl | hw
  · exact goodIn_up wsL_law_in ggL_law_L_number _ List.mem_cons_self
  · rcases List.mem_append.mp hw with hw | hw
    · exact goodIn_up wsL_law_in ggL_law_L_number _ hw
    · exact ⟨xw_in w hw, good_of_word (List.all_eq_true.mp xw_good w hw)⟩
theorem g_LN : GoodIn lw_tbl (va_wsS RL 54 yL_number wsLN) := goodIn_app (fun w hw => goodIn_up wsL_law_in gL_law_L_number w (List.mem_append_left _ hw)) gg_LN
set_option maxHeartbeats 4000000 in
set_option maxRecDepth 100000 in
theorem whole_start {p : Program} {e : Env} {s : State} {m : MethodId} {below : List Frame} {meth : Method} {c : Code} (l : Launch) (hlt : l.stackTraces = false) {b L : Nat} {xs : Nat → Int32} (hL : L ≤ 3072) (C0 : lw_At p s m meth c b L xs) : W p l e room_1 s m #[Value.ref b] below meth c s.heap [] 0 0 (lw_Z below #[Value.ref b] s) (entryFrame m ([Value.ref b] : List Value).toArray 8) := by
  obtain ⟨hx, hb, hr, hml, hown, htL, hX, hbl, hlocks, hgv⟩ := id C0
  have hts : ∀ w ∈ wsL_law, w.before #[Value.ref b] s = true := fun w h => htL w (wsL_law_in w h)
  have hown : s.vm.findClass RL = some m.cls := hown
  have hA : ∀ q : Nat, s.heap.size ≤ q → (fun q : Nat => s.heap.size ≤ q) q := fun _ h => h
  obtain ⟨c0, j0, hKn0⟩ := u_known (C := RX0) (T := TX0) (N := 3) (n := 3) htL lwf_X0 (htL (.instantiable RX0 3) (List.mem_of_getElem? (i := 108) (by decide +kernel)))
  obtain ⟨c1, j1, hKn1⟩ := u_known (C := RX1) (T := TX1) (N := 5) (n := 5) htL lwf_X1 (htL (.instantiable RX1 5) (List.mem_of_getElem? (i := 124) (by decide +kernel)))
  obtain ⟨c2, j2, hKn2⟩ := u_known (C := RX2) (T := TX2) (N := 5) (n := 5) htL lwf_X2 (htL (.instantiable RX2 5) (List.mem_of_getElem? (i := 86) (by decide +kernel)))
  obtain ⟨c3, j3, hKn3⟩ := u_known (C := RX3) (T := TX3) (N := 4) (n := 4) htL lwf_X3 (htL (.instantiable RX3 4) (List.mem_of_getElem? (i := 146) (by decide +kernel)))
  obtain ⟨c4, j4, hKn4⟩ := u_known (C := RX4) (T := TX4) (N := 6) (n := 6) htL lwf_X4 (htL (.instantiable RX4 6) (List.mem_of_getElem? (i := 59) (by decide +kernel)))
  obtain ⟨c5, j5, hKn5⟩ := u_known (C := RX5) (T := TX5) (N := 5) (n := 5) htL lwf_X5 (htL (.instantiable RX5 5) (List.mem_of_getElem? (i := 51) (by decide +kernel)))
  obtain ⟨c6, j6, hKn6⟩ := u_known (C := RX6) (T := TX6) (N := 23) (n := 23) htL lwf_X6 (htL (.instantiable RX6 23) (List.mem_of_getElem? (i := 604) (by decide +kernel)))
  obtain ⟨dC, dI, hKc⟩ : ∃ (dC : Nat → ClassId) (dI : Nat → Nat → Nat), ∀ (k : Nat) (q : vw_C), kC[k]? = some q → u_Kn s q.1 q.2.1 q.2.2 (dC k) (dI k) := by
    refine ⟨fun k => if k = 0 then c0 else if k = 1 then c1 else if k = 2 then c2 else if k = 3 then c3 else if k = 4 then c4 else if k = 5 then c5 else c6, fun k => if k = 0 then j0 else if k = 1 then j1 else if k = 2 then j2 else if k = 3 then j3 else if k = 4 then j4 else if k = 5 then j5 else j6, ?_⟩
    intro k q hq
    have hk7 : k < 7 := (List.getElem?_eq_some_iff.mp hq).1
    rcases (show k = 0 ∨ k = 1 ∨ k = 2 ∨ k = 3 ∨ k = 4 ∨ k = 5 ∨ k = 6 by omega) with rfl | rfl | rfl | rfl | rfl | rfl | rfl <;> cases hq
    · exact hKn0
    · exact hKn1
    · exact hKn2
    · exact hKn3
    · exact hKn4
    · exact hKn5
    · exact hKn6
  obtain ⟨cI, kI, coI, aI1, aI2, aI3⟩ := Cond.arrayClass_spec (htL (.arrayClass .int) (List.mem_of_getElem? (i := 83) (by decide +kernel)))
  obtain ⟨cJ, kJ, coJ, aJ1, aJ2, aJ3⟩ := Cond.arrayClass_spec (htL (.arrayClass .long) (List.mem_of_getElem? (i := 84) (by decide +kernel)))
  have hK : wd_K (dC, dI) cI cJ s := by
    refine ⟨⟨hKc, fun k q hq => ?_⟩, ?_⟩
    · have hk2 : k < 2 := (List.getElem?_eq_some_iff.mp hq).1
      rcases (show k = 0 ∨ k = 1 by omega) with rfl | rfl <;> cases hq
      · exact ⟨fun n z => ⟨fun k h => (by cases h), kI, aI2, coI, aI3⟩, aI1⟩
      · exact ⟨fun n z => ⟨fun k h => (by cases h), kJ, aJ2, coJ, aJ3⟩, aJ1⟩
    · exact ⟨va_Nw.of rfl (htL (.methodLinkNest RX5 9 yX4_init RX5) (List.mem_of_getElem? (i := 60) (by decide +kernel))), va_Nw.of rfl (htL (.methodLinkNest RX5 18 yX2_init RX5) (List.mem_of_getElem? (i := 87) (by decide +kernel))), va_Nw.of rfl (htL (.methodLinkNest RX5 25 yX0_init RX5) (List.mem_of_getElem? (i := 109) (by decide +kernel))), va_Nw.of rfl (htL (.methodLinkNest RX5 32 yX1_init RX5) (List.mem_of_getElem? (i := 125) (by decide +kernel))), va_Nw.of rfl (htL (.methodLinkNest RX5 39 yX3_init RX5) (List.mem_of_getElem? (i := 147) (by decide +kernel))), va_Nw.of rfl (htL (.fieldLinkNest RX5 162 "SortingLine$Tally" "worked" "I" RX5) (List.mem_of_getElem? (i := 153) (by decide +kernel))), va_Nw.of rfl (htL (.fieldLinkNest RX5 166 "SortingLine$Tally" "passed" "I" RX5) (List.mem_of_getElem? (i := 155) (by decide +kernel))), va_Nw.of rfl (htL (.fieldLinkNest RX5 169 "SortingLine$Tally" "failed" "I" RX5) (List.mem_of_getElem? (i := 157) (by decide +kernel))), va_Nw.of rfl (htL (.methodLinkNest RX4 40 yX5_alsoIs RX5) (List.mem_of_getElem? (i := 225) (by decide +kernel)))⟩
  have hgs := flat_of_before _ hgv
  have hexA : (Cond.exactly (.string "SortingLine" 87) "java/lang/String").before #[Value.ref b] s = true := hgs _ (by decide +kernel)
  have hexB : (Cond.exactly (.string "SortingLine" 94) "java/lang/String").before #[Value.ref b] s = true := hgs _ (by decide +kernel)
  obtain ⟨sa, -, -, -, hsa, -⟩ := Cond.exactly_spec hexA
  obtain ⟨sb, -, -, -, hsb, -⟩ := Cond.exactly_spec hexB
  have hnA : ∀ a : Nat, a < s.heap.size → ¬ (fun q : Nat => s.heap.size ≤ q) a := fun a h => Nat.not_le.mpr h
  have htx : tx s.heap.size sa sb s := ⟨vk_R.of (htL (.stringRef RX5 87 "the thing is not of that kind") (List.mem_of_getElem? (i := 598) (by decide +kernel))) hsa, vk_R.of (htL (.stringRef RX5 94 "there is no such place") (List.mem_of_getElem? (i := 601) (by decide +kernel))) hsb, vx_Zqof (htL (.laysStatic "java/lang/Throwable" "UNASSIGNED_STACK" "[Ljava/lang/StackTraceElement;") (List.mem_of_getElem? (i := 519) (by decide +kernel))) (htL (.initialized "java/lang/Throwable") (List.mem_of_getElem? (i := 42) (by decide +kernel))) (hgs _ (by decide +kernel)) hnA, vx_Zqof (htL (.laysStatic "java/lang/Throwable" "SUPPRESSED_SENTINEL" "Ljava/util/List;") (List.mem_of_getElem? (i := 521) (by decide +kernel))) (htL (.initialized "java/lang/Throwable") (List.mem_of_getElem? (i := 42) (by decide +kernel))) (hgs _ (by decide +kernel)) hnA, va_Nc.of (hgs (.not (.castable "java/lang/ArrayIndexOutOfBoundsException" "java/lang/ClassCastException")) (by decide +kernel)), ⟨va_Nw.of rfl (htL (.castable RJx3273f RJx3273f) (List.mem_of_getElem? (i := 551) (by decide +kernel))), va_Nw.of rfl (htL (.castable RJx00060 RJx00060) (List.mem_of_getElem? (i := 589) (by decide +kernel))), va_Nw.of rfl (htL (.declares ⟨"java/lang/IndexOutOfBoundsException", "<init>", "(Ljava/lang/String;)V"⟩) (List.mem_of_getElem? (i := 591) (by decide +kernel))), va_Nw.of rfl (htL (.declares ⟨"java/lang/RuntimeException", "<init>", "(Ljava/lang/String;)V"⟩) (List.mem_of_getElem? (i := 553) (by decide +kernel))), va_Nw.of rfl (htL (.declares ⟨"java/lang/Exception", "<init>", "(Ljava/lang/String;)V"⟩) (List.mem_of_getElem? (i := 555) (by decide +kernel))), va_Nw.of rfl (htL (.declares ⟨"java/lang/Throwable", "<init>", "(Ljava/lang/String;)V"⟩) (List.mem_of_getElem? (i := 557) (by decide +kernel)))⟩⟩
  have hS : va_S (fun q : Nat => s.heap.size ≤ q) s.heap s.heap [] := va_S.rf
  have hP : va_P (dC, dI) kC [] s.heap := fun k q h => by simp at h
  have hD : va_D (fun q : Nat => s.heap.size ≤ q) [] := ⟨fun i j p q h => by simp at h, fun k q h => by simp at h⟩
  have hl := lv_entry ([.ref b]) (n := 8) (Nat.le_of_ble_eq_true rfl)
  rw [lg_entry_eq]
  generalize (lg_sl ([.ref b]) ++ List.replicate (8 - (lg_sl ([.ref b])).length) Slot.unset).toArray = ls at hl ⊢
  have hl : lv_has ls 8 [(0, .ref b)] := hl
  refine va_new (ci := 5) (fs := [.null, .null, .null, .null, .null]) (C := RX5) (T := TX5) (N := 5) hx hb htL lwf_X5 tyX5 tyX5_ok hown (htL (.classLink RL 8 RX5) (List.mem_of_getElem? (i := 50) (by decide +kernel))) (htL (.instantiable RX5 5) (List.mem_of_getElem? (i := 51) (by decide +kernel))) (htL (.initialized RX5) (List.mem_of_getElem? (i := 35) (by decide +kernel))) hK.1 hP hD hS hA rfl (fun j hj => by rcases (show j = 0 ∨ j = 1 ∨ j = 2 ∨ j = 3 ∨ j = 4 by omega) with rfl | rfl | rfl | rfl | rfl <;> rfl) (Nat.le_of_ble_eq_true rfl) (Nat.le_of_ble_eq_true rfl) dL_law_0 (fun q0 H hP hD hS => ?_)
  have hP : va_P (dC, dI) kC [(q0, .inr (5, [.null, .null, .null, .null, .null]))] H := hP
  have hD : va_D (fun q : Nat => s.heap.size ≤ q) [(q0, .inr (5, [.null, .null, .null, .null, .null]))] := hD
  refine W.widen (k := 1) (n := 5) (by omega) (by omega) ?_
  refine lv_dup hx hb dL_law_3 rfl ?_
  have hFc := va_free (wc := [(q0, .inr (5, [.null, .null, .null, .null, .null]))]) hD hS hA [0] rfl
  refine va_callv (va_runI (As := []) (rest := [.ref q0]) ⟨hx, hb, hml, hown, hts⟩ (c_X5_init (l := l) q0 H.size) (cwI 0 hts ggL_law_X5_init rfl rfl rfl (htL (.initialized RX5) (List.mem_of_getElem? (i := 35) (by decide +kernel))) (htL (.methodLink RL 17 yX5_init) (List.mem_of_getElem? (i := 52) (by decide +kernel))) (htL (.instanceMethod yX5_init) (List.mem_of_getElem? (i := 53) (by decide +kernel))) rfl (by decide +kernel) ⟨Nat.le_of_ble_eq_true rfl, Nat.le_of_ble_eq_true rfl⟩) ⟨in_blind, fun U hU hW => ⟨rfl, by rw [hU], by rw [hU]; exact hP, hK.warm hW⟩⟩ rfl rfl hl.1 rfl (lv_room (Nat.le_of_ble_eq_true rfl)) dL_law_4 ⟨Nat.le_of_ble_eq_true rfl, Nat.le_of_ble_eq_true rfl⟩) hS (fun q _ h => hFc q h) hFc (fun u t H1 locs ht hvm hu hB hz1 hk1 hS => ?_)
  obtain ⟨hP1, hD1⟩ := hB
  rw [ht] at hP1
  have hD2 : va_D (fun q : Nat => s.heap.size ≤ q) (sl_W cI cJ u 0 (fun _ => 0) (fun _ => 0) (fun _ => 0) (fun _ => 0) (fun _ => 0) 0 (fun _ => 0) (fun _ => 0) (fun _ => 0) (fun _ => 0) (fun _ => 0) 0 0 (fun _ => 0) (fun _ => 0) (fun _ => 0) 0 0 (fun _ => 0) 0 0 0) := hD1.weaken (fun k q _ h => hFc q.1 h)
  subst hu
  generalize H1 = H at hP1 hS ⊢
  refine W.widen (k := 20) (n := 2066) (by omega) (by omega) ?_
  refine lv_astore_n (lv' := [(1, .ref (u 0)), (0, .ref b)]) hx hb dL_law_7 rfl hl (by decide) rfl (fun ls hl => ?_)
  refine va_new (ci := 6) (fs := [.int 0, .int 0, .null, .null, .null, .null, .null, .null, .null, .null, .null, .int 0, .int 0, .null, .null, .null, .null, .null, .int 0, .int 0, .int 0, .int 0, .null]) (C := RX6) (T := TX6) (N := 23) hx hb htL lwf_X6 tyX6 tyX6_ok hown (htL (.classLink RL 18 RX6) (List.mem_of_getElem? (i := 603) (by decide +kernel))) (htL (.instantiable RX6 23) (List.mem_of_getElem? (i := 604) (by decide +kernel))) (htL (.initialized RX6) (List.mem_of_getElem? (i := 41) (by decide +kernel))) hK.1 hP1 hD2 hS hA rfl (fun j hj => by rcases (show j = 0 ∨ j = 1 ∨ j = 2 ∨ j = 3 ∨ j = 4 ∨ j = 5 ∨ j = 6 ∨ j = 7 ∨ j = 8 ∨ j = 9 ∨ j = 10 ∨ j = 11 ∨ j = 12 ∨ j = 13 ∨ j = 14 ∨ j = 15 ∨ j = 16 ∨ j = 17 ∨ j = 18 ∨ j = 19 ∨ j = 20 ∨ j = 21 ∨ j = 22 by omega) with rfl | rfl | rfl | rfl | rfl | rfl | rfl | rfl | rfl | rfl | rfl | rfl | rfl | rfl | rfl | rfl | rfl | rfl | rfl | rfl | rfl | rfl | rfl <;> rfl) (Nat.le_of_ble_eq_true rfl) (Nat.le_of_ble_eq_true rfl) dL_law_8 (fun q1 H hP hD hS => ?_)
  refine W.widen (k := 21) (n := 2089) (by omega) (by omega) ?_
  refine lv_dup hx hb dL_law_11 rfl ?_
  have hPc := hP.sub (ws' := [(q1, .inr (6, [.int 0, .int 0, .null, .null, .null, .null, .null, .null, .null, .null, .null, .int 0, .int 0, .null, .null, .null, .null, .null, .int 0, .int 0, .int 0, .int 0, .null]))]) [20] rfl
  have hFc := va_free (wc := [(q1, .inr (6, [.int 0, .int 0, .null, .null, .null, .null, .null, .null, .null, .null, .null, .int 0, .int 0, .null, .null, .null, .null, .null, .int 0, .int 0, .int 0, .int 0, .null]))]) hD hS hA [20] rfl
  refine va_callv (va_runI (As := []) (rest := [.ref q1]) ⟨hx, hb, hml, hown, hts⟩ (c_X6_init (l := l) q1 H.size) (cwI 0 hts ggL_law_X6_init rfl rfl rfl (htL (.initialized RX6) (List.mem_of_getElem? (i := 41) (by decide +kernel))) (htL (.methodLink RL 20 yX6_init) (List.mem_of_getElem? (i := 605) (by decide +kernel))) (htL (.instanceMethod yX6_init) (List.mem_of_getElem? (i := 606) (by decide +kernel))) rfl (by decide +kernel) ⟨Nat.le_of_ble_eq_true rfl, Nat.le_of_ble_eq_true rfl⟩) ⟨in_blind, fun U hU hW => ⟨rfl, by rw [hU], by rw [hU]; exact hPc, hK.warm hW⟩⟩ rfl rfl hl.1 rfl (lv_room (Nat.le_of_ble_eq_true rfl)) dL_law_12 ⟨Nat.le_of_ble_eq_true rfl, Nat.le_of_ble_eq_true rfl⟩) hS (fun q _ h => hFc q h) hFc (fun v t H1 locs ht hvm hv hB hz1 hk1 hS => ?_)
  obtain ⟨hP1, hD1⟩ := hB
  rw [ht] at hP1
  obtain ⟨hP3, hD3⟩ := va_join (wr := sl_W cI cJ u 0 (fun _ => 0) (fun _ => 0) (fun _ => 0) (fun _ => 0) (fun _ => 0) 0 (fun _ => 0) (fun _ => 0) (fun _ => 0) (fun _ => 0) (fun _ => 0) 0 0 (fun _ => 0) (fun _ => 0) (fun _ => 0) 0 0 (fun _ => 0) 0 0 0) (w1 := mo_W cI cJ v 0 0 (fun _ => 0) (fun _ => 0) (fun _ => 0) (fun _ => 0) (fun _ => 0) (fun _ => 0) 0 0 (fun _ => 0) (fun _ => 0) (fun _ => 0) (fun _ => 0) (fun _ => 0) 0 0 0 0 (fun _ => 0)) hP hD [20] [0, 1, 2, 3, 4, 5, 6, 7, 8, 9, 10, 11, 12, 13, 14, 15, 16, 17, 18, 19] rfl rfl (by decide) (by decide) hk1 hFc hP1 hD1
  subst hv
  generalize H1 = H at hP3 hS ⊢
  refine W.widen (k := 36) (n := 4172) (by omega) (by omega) ?_
  refine lv_astore_n (lv' := [(2, .ref (v 0)), (1, .ref (u 0)), (0, .ref b)]) hx hb dL_law_15 rfl hl (by decide) rfl (fun ls hl => ?_)
  refine lv_iconst (v := 1) hx hb dL_law_16 (by decide) ?_
  refine ga_newJ (n := 1) (N := 1) (R := room_1) (cells := 36) (slots := 4172) hx hb (htL (.arrayClass .long) (List.mem_of_getElem? (i := 84) (by decide +kernel))) hK hP3 hD3 hS hA (by decide) (by decide) (by decide) (Nat.le_of_ble_eq_true rfl) (Nat.le_of_ble_eq_true rfl) dL_law_17 (fun oA H hP hD hS => ?_)
  refine W.widen (k := 40 + 0) (n := 5000 + 6 * 0) (by omega) (by omega) ?_
  refine lv_astore_n (lv' := [(3, .ref oA), (2, .ref (v 0)), (1, .ref (u 0)), (0, .ref b)]) hx hb dL_law_19 rfl hl (by decide) rfl (fun ls hl => ?_)
  refine lv_iconst (v := 0) hx hb dL_law_20 (by decide) ?_
  refine lv_istore (lv' := [(4, .int 0), (3, .ref oA), (2, .ref (v 0)), (1, .ref (u 0)), (0, .ref b)]) hx hb dL_law_21 hl (by decide) rfl (fun ls hl => ?_)
  have hc9 : lc u v oA s.heap.size := lc_of hD rfl
  have hH : lH (dC, dI) cJ oA (sl_W cI cJ u 0 (fun _ => 0) (fun _ => 0) (fun _ => 0) (fun _ => 0) (fun _ => 0) 0 (fun _ => 0) (fun _ => 0) (fun _ => 0) (fun _ => 0) (fun _ => 0) 0 0 (fun _ => 0) (fun _ => 0) (fun _ => 0) 0 0 (fun _ => 0) 0 0 0) (mo_W cI cJ v 0 0 (fun _ => 0) (fun _ => 0) (fun _ => 0) (fun _ => 0) (fun _ => 0) (fun _ => 0) 0 0 (fun _ => 0) (fun _ => 0) (fun _ => 0) (fun _ => 0) (fun _ => 0) 0 0 0 0 (fun _ => 0)) (fun _ => 0) H := ⟨hP.sub [0, 1, 2, 3, 4, 5, 6, 7, 8, 9, 10, 11, 12, 13, 14, 15, 16, 17, 18, 19] rfl, hP.sub [20, 21, 22, 23, 24, 25, 26, 27, 28, 29, 30, 31, 32, 33, 34, 35] rfl, hP.sub [36] rfl⟩
  exact law_loop hL hlt C0 hc9 hK htx g_LN (L + 1) 0 (Nat.zero_le L) (by omega) _ _ _ H _ ls sim_0 hH hS (lv_sub hl [0, 4, 3, 2, 1] rfl)
