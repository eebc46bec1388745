/-! stationFor; workOn, outcome by outcome, in one room -/
section SubE
variable {l : Launch} {D : va_G} {cI cJ : ClassId} {h : Nat → Nat} {n k f b an as : Nat} {F Wt Sz : Nat → Int32} {Nu : Nat → Int64} {Mb : Nat → Int32} {G Wk : Nat → Int32} {To : Nat → Int64} {Sl : Nat → Int32} {Ri oT oS oF Fo : Nat → Int32} {wo pa fa : Int32}
set_option maxHeartbeats 4000000 in
set_option maxRecDepth 100000 in
theorem lp_X5_sta {p : Program} {e : Env} {s : State} {m : MethodId} {args : Array Value} {below : List Frame} {meth : Method} {c : Code} {Q : State → Prop} {H : Heap} {locs : List Loc} (hx : p.tables.exec = Jvm.exec) (hb : c.code = cX5_stationFor) (hml : c.maxLocals = 3) (hown : s.vm.findClass RX5 = some m.cls) (hts : ∀ w ∈ wsX5_stationFor, w.before args s = true) (hK : wd_K D cI cJ s) (hP : va_P D kC (sl_W cI cJ h (nI n) F Wt Sz Nu Mb (nI k) G Wk To Sl Ri (nI f) (nI b) oT oS oF (nI an) (nI as) Fo wo pa fa) H) (hh : ad_ok h 20) (hn : n ≤ 100) (hk : k ≤ 8) (r : Nat) (hr9 : r < n) (q : Nat) (hq : q ≤ k) (hv : ∀ j, j < q → ko (F r) (G j) = false) (kk0 : ∀ (_ : Nat), True → ∀ (ls : Array Slot), lv_has ls 3 [(2, .int (nI q)), (0, .ref (h 0)), (1, .int (nI r))] → W p l e (headSpec wsX5_stationFor { frames := 3, cells := 0, slots := 0, locals := 100 }).room s m args below meth c H locs 0 0 Q (F0 m 2 ls [])) : ∀ (d : Nat) (y : Nat), y + d = q → ∀ (ls : Array Slot), lv_has ls 3 [(2, .int (nI y)), (0, .ref (h 0)), (1, .int (nI r))] → W p l e (headSpec wsX5_stationFor { frames := 3, cells := 0, slots := 0, locals := 100 }).room s m args below meth c H locs 0 0 Q (F0 m 2 ls []) := by
  have hiX5 : ∀ w ∈ u_ws RX5 TX5 5, w ∈ wsX5_stationFor := by decide +kernel
  have kf19 := hts (.fieldLink RX5 19 "SortingLine" "stations" "LSortingLine$Stations;") (by decide +kernel)
  have kf10 := hts (.fieldLink RX5 10 "SortingLine" "things" "LSortingLine$Things;") (by decide +kernel)
  intro d
  induction d with
  | zero =>
    intro y hi ls hl
    obtain rfl : y = q := by omega
    exact kk0 0 trivial ls hl
  | succ d ih =>
    intro y hi ls hl
    refine lv_iload_n hx hb dX5_stationFor_2 rfl (lv_at hl 0 rfl) ?_
    refine lv_aload_n hx hb dX5_stationFor_3 rfl (lv_at hl 1 rfl) ?_
    refine va_get (D := D) (ci := 5) (v := .ref (h 2)) (C := RX5) (T := TX5) (N := 5) hx hb hts hiX5 hown hK.1 hP 0 rfl rfl 1 (by decide) kf19 (fun _ h9 => h9) rfl dX5_stationFor_4 ?_
    refine pu_calli (va_runV (As := []) (rest := [.int (nI y)]) ⟨hx, hb, hml, hown, hts⟩ (c_X2_howMany hh) (cwV 0 hts gX5_stationFor_X2_howMany rfl rfl rfl (by decide +kernel) ⟨Nat.le_of_ble_eq_true rfl, Nat.le_of_ble_eq_true rfl⟩) (wd_preV (ci := 2) (q0 := 2) hP hK rfl rfl) rfl rfl hl.1 rfl (lv_room (Nat.le_of_ble_eq_true rfl)) dX5_stationFor_7 ⟨Nat.zero_le _, Nat.zero_le _⟩) ?_
    refine lv_icmp_ge (tgt := 40) hx hb dX5_stationFor_10 (by decide) (fun h9 => absurd h9 (nI_ge (by omega) (by omega))) (fun _ => ?_)
    refine lv_aload_n hx hb dX5_stationFor_13 rfl (lv_at hl 1 rfl) ?_
    refine va_get (D := D) (ci := 5) (v := .ref (h 1)) (C := RX5) (T := TX5) (N := 5) hx hb hts hiX5 hown hK.1 hP 0 rfl rfl 0 (by decide) kf10 (fun _ h9 => h9) rfl dX5_stationFor_14 ?_
    refine lv_iload_n hx hb dX5_stationFor_17 rfl (lv_at hl 2 rfl) ?_
    refine lv_aload_n hx hb dX5_stationFor_18 rfl (lv_at hl 1 rfl) ?_
    refine va_get (D := D) (ci := 5) (v := .ref (h 2)) (C := RX5) (T := TX5) (N := 5) hx hb hts hiX5 hown hK.1 hP 0 rfl rfl 1 (by decide) kf19 (fun _ h9 => h9) rfl dX5_stationFor_19 ?_
    refine lv_iload_n hx hb dX5_stationFor_22 rfl (lv_at hl 0 rfl) ?_
    refine pu_calli (va_runV (As := [.int (nI y)]) (rest := [.int (nI r), .ref (h 1)]) ⟨hx, hb, hml, hown, hts⟩ (c_X2_gateOf hh hk y (by omega)) (cwV 1 hts gX5_stationFor_X2_gateOf rfl rfl rfl (by decide +kernel) ⟨Nat.le_of_ble_eq_true rfl, Nat.le_of_ble_eq_true rfl⟩) (wd_preV (ci := 2) (q0 := 2) hP hK rfl rfl) rfl rfl hl.1 rfl (lv_room (Nat.le_of_ble_eq_true rfl)) dX5_stationFor_23 ⟨Nat.zero_le _, Nat.zero_le _⟩) ?_
    refine pu_callb (va_runV (As := [.int (nI r), .int (G y)]) (rest := []) ⟨hx, hb, hml, hown, hts⟩ (c_X4_isOf hh hn r (by omega) (G y)) (cwV 2 hts gX5_stationFor_X4_isOf rfl rfl rfl (by decide +kernel) ⟨Nat.le_of_ble_eq_true rfl, Nat.le_of_ble_eq_true rfl⟩) (wd_preV (ci := 4) (q0 := 1) hP hK rfl rfl) rfl rfl hl.1 rfl (lv_room (Nat.le_of_ble_eq_true rfl)) dX5_stationFor_26 ⟨Nat.zero_le _, Nat.zero_le _⟩) (fun h9 => absurd (hv y (by omega)) (by rw [h9]; decide)) (fun _ => ?_)
    refine lv_if_eq (tgt := 34) hx hb dX5_stationFor_29 (by decide) (fun _ => ?_) (fun h9 => absurd (by decide) h9)
    refine lv_iinc (v := nI (y + 1)) (lv' := [(2, .int (nI (y + 1))), (0, .ref (h 0)), (1, .int (nI r))]) hx hb dX5_stationFor_34 hl (k := 0) rfl (nI_add y 1) (by decide) rfl (fun ls hl => ?_)
    refine lv_goto (tgt := 2) hx hb dX5_stationFor_37 (by decide) ?_
    exact ih (y + 1) (by omega) ls (lv_sub hl [0, 1, 2] rfl)
set_option maxHeartbeats 4000000 in
set_option maxRecDepth 100000 in
theorem c_X5_stationFor_o (hh : ad_ok h 20) (hn : n ≤ 100) (hk : k ≤ 8) (r : Nat) (hr9 : r < n) (q : Nat) (hq : q ≤ k) (hv : ∀ j, j < q → ko (F r) (G j) = false) (hqk : q < k) (hko : ko (F r) (G q) = true) : Met l yX5_stationFor wsX5_stationFor ({ frames := 3, cells := 0, slots := 0, locals := 100 }) (wd_P D cI cJ [.ref (h 0), .int (nI r)] (sl_W cI cJ h (nI n) F Wt Sz Nu Mb (nI k) G Wk To Sl Ri (nI f) (nI b) oT oS oF (nI an) (nI as) Fo wo pa fa)) (pu_Q (some (.int (nI q)))) 0 0 (fun _ => False) := by
  refine Met.ofW (cc := cX5_stationFor) (maxL := 3) (ret := (some .int)) (by decide) rfl ?_
  intro p e s m args below meth c s₁ B hml hv
  obtain ⟨rfl, hP, hK⟩ := hv
  have hx := B.exec
  have hb := B.bytes
  have hr := B.returns
  have hts := atoms_spec (ws := wsX5_stationFor) B.pre
  have hown : s.vm.findClass RX5 = some m.cls := findClass_of_methodNamed B.named
  have hlocks := B.notSynchronized
  have hiX5 : ∀ w ∈ u_ws RX5 TX5 5, w ∈ wsX5_stationFor := by decide +kernel
  have kf19 := hts (.fieldLink RX5 19 "SortingLine" "stations" "LSortingLine$Stations;") (by decide +kernel)
  have kf10 := hts (.fieldLink RX5 10 "SortingLine" "things" "LSortingLine$Things;") (by decide +kernel)
  have hl := lv_entry ([.ref (h 0), .int (nI r)]) (n := 3) (Nat.le_of_ble_eq_true rfl)
  rw [lg_entry_eq]
  generalize (lg_sl ([.ref (h 0), .int (nI r)]) ++ List.replicate (3 - (lg_sl ([.ref (h 0), .int (nI r)])).length) Slot.unset).toArray = ls at hl ⊢
  have hl : lv_has ls 3 [(0, .ref (h 0)), (1, .int (nI r))] := hl
  refine lv_iconst (v := 0) hx hb dX5_stationFor_0 (by decide) ?_
  refine lv_istore_n (lv' := [(2, .int 0), (0, .ref (h 0)), (1, .int (nI r))]) hx hb dX5_stationFor_1 rfl hl (by decide) rfl (fun ls hl => ?_)
  refine lp_X5_sta hx hb hml hown hts hK hP hh hn hk r hr9 q hq hv (fun _ _ ls hl => ?_) q 0 (by omega) ls (lv_sub hl [0, 1, 2] rfl)
  refine lv_iload_n hx hb dX5_stationFor_2 rfl (lv_at hl 0 rfl) ?_
  refine lv_aload_n hx hb dX5_stationFor_3 rfl (lv_at hl 1 rfl) ?_
  refine va_get (D := D) (ci := 5) (v := .ref (h 2)) (C := RX5) (T := TX5) (N := 5) hx hb hts hiX5 hown hK.1 hP 0 rfl rfl 1 (by decide) kf19 (fun _ h9 => h9) rfl dX5_stationFor_4 ?_
  refine pu_calli (va_runV (As := []) (rest := [.int (nI q)]) ⟨hx, hb, hml, hown, hts⟩ (c_X2_howMany hh) (cwV 0 hts gX5_stationFor_X2_howMany rfl rfl rfl (by decide +kernel) ⟨Nat.le_of_ble_eq_true rfl, Nat.le_of_ble_eq_true rfl⟩) (wd_preV (ci := 2) (q0 := 2) hP hK rfl rfl) rfl rfl hl.1 rfl (lv_room (Nat.le_of_ble_eq_true rfl)) dX5_stationFor_7 ⟨Nat.zero_le _, Nat.zero_le _⟩) ?_
  refine lv_icmp_ge (tgt := 40) hx hb dX5_stationFor_10 (by decide) (fun h9 => absurd h9 (nI_ge hqk (by omega))) (fun _ => ?_)
  refine lv_aload_n hx hb dX5_stationFor_13 rfl (lv_at hl 1 rfl) ?_
  refine va_get (D := D) (ci := 5) (v := .ref (h 1)) (C := RX5) (T := TX5) (N := 5) hx hb hts hiX5 hown hK.1 hP 0 rfl rfl 0 (by decide) kf10 (fun _ h9 => h9) rfl dX5_stationFor_14 ?_
  refine lv_iload_n hx hb dX5_stationFor_17 rfl (lv_at hl 2 rfl) ?_
  refine lv_aload_n hx hb dX5_stationFor_18 rfl (lv_at hl 1 rfl) ?_
  refine va_get (D := D) (ci := 5) (v := .ref (h 2)) (C := RX5) (T := TX5) (N := 5) hx hb hts hiX5 hown hK.1 hP 0 rfl rfl 1 (by decide) kf19 (fun _ h9 => h9) rfl dX5_stationFor_19 ?_
  refine lv_iload_n hx hb dX5_stationFor_22 rfl (lv_at hl 0 rfl) ?_
  refine pu_calli (va_runV (As := [.int (nI q)]) (rest := [.int (nI r), .ref (h 1)]) ⟨hx, hb, hml, hown, hts⟩ (c_X2_gateOf hh hk q (by omega)) (cwV 1 hts gX5_stationFor_X2_gateOf rfl rfl rfl (by decide +kernel) ⟨Nat.le_of_ble_eq_true rfl, Nat.le_of_ble_eq_true rfl⟩) (wd_preV (ci := 2) (q0 := 2) hP hK rfl rfl) rfl rfl hl.1 rfl (lv_room (Nat.le_of_ble_eq_true rfl)) dX5_stationFor_23 ⟨Nat.zero_le _, Nat.zero_le _⟩) ?_
  refine pu_callb (va_runV (As := [.int (nI r), .int (G q)]) (rest := []) ⟨hx, hb, hml, hown, hts⟩ (c_X4_isOf hh hn r (by omega) (G q)) (cwV 2 hts gX5_stationFor_X4_isOf rfl rfl rfl (by decide +kernel) ⟨Nat.le_of_ble_eq_true rfl, Nat.le_of_ble_eq_true rfl⟩) (wd_preV (ci := 4) (q0 := 1) hP hK rfl rfl) rfl rfl hl.1 rfl (lv_room (Nat.le_of_ble_eq_true rfl)) dX5_stationFor_26 ⟨Nat.zero_le _, Nat.zero_le _⟩) (fun _ => ?_) (fun h9 => absurd (hko) (by rw [h9]; decide))
  refine lv_if_eq (tgt := 34) hx hb dX5_stationFor_29 (by decide) (fun h9 => absurd h9 (by decide)) (fun _ => ?_)
  refine lv_iload_n hx hb dX5_stationFor_32 rfl (lv_at hl 0 rfl) ?_
  exact W.iret (v := nI q) hx hb hr (fun t9 ht _ => ⟨congrArg (fun z => Outcome.returned (some (Value.int z))) (rfl), ht⟩) (fun _ h9 => nomatch h9) dX5_stationFor_33
set_option maxHeartbeats 4000000 in
set_option maxRecDepth 100000 in
theorem c_X5_stationFor_n (hh : ad_ok h 20) (hn : n ≤ 100) (hk : k ≤ 8) (r : Nat) (hr9 : r < n) (q : Nat) (hq : q ≤ k) (hv : ∀ j, j < q → ko (F r) (G j) = false) (hqk : q = k) : Met l yX5_stationFor wsX5_stationFor ({ frames := 3, cells := 0, slots := 0, locals := 100 }) (wd_P D cI cJ [.ref (h 0), .int (nI r)] (sl_W cI cJ h (nI n) F Wt Sz Nu Mb (nI k) G Wk To Sl Ri (nI f) (nI b) oT oS oF (nI an) (nI as) Fo wo pa fa)) (pu_Q (some (.int (-5)))) 0 0 (fun _ => False) := by
  refine Met.ofW (cc := cX5_stationFor) (maxL := 3) (ret := (some .int)) (by decide) rfl ?_
  intro p e s m args below meth c s₁ B hml hv
  obtain ⟨rfl, hP, hK⟩ := hv
  have hx := B.exec
  have hb := B.bytes
  have hr := B.returns
  have hts := atoms_spec (ws := wsX5_stationFor) B.pre
  have hown : s.vm.findClass RX5 = some m.cls := findClass_of_methodNamed B.named
  have hlocks := B.notSynchronized
  have hiX5 : ∀ w ∈ u_ws RX5 TX5 5, w ∈ wsX5_stationFor := by decide +kernel
  have kf19 := hts (.fieldLink RX5 19 "SortingLine" "stations" "LSortingLine$Stations;") (by decide +kernel)
  have hl := lv_entry ([.ref (h 0), .int (nI r)]) (n := 3) (Nat.le_of_ble_eq_true rfl)
  rw [lg_entry_eq]
  generalize (lg_sl ([.ref (h 0), .int (nI r)]) ++ List.replicate (3 - (lg_sl ([.ref (h 0), .int (nI r)])).length) Slot.unset).toArray = ls at hl ⊢
  have hl : lv_has ls 3 [(0, .ref (h 0)), (1, .int (nI r))] := hl
  refine lv_iconst (v := 0) hx hb dX5_stationFor_0 (by decide) ?_
  refine lv_istore_n (lv' := [(2, .int 0), (0, .ref (h 0)), (1, .int (nI r))]) hx hb dX5_stationFor_1 rfl hl (by decide) rfl (fun ls hl => ?_)
  refine lp_X5_sta hx hb hml hown hts hK hP hh hn hk r hr9 q hq hv (fun _ _ ls hl => ?_) q 0 (by omega) ls (lv_sub hl [0, 1, 2] rfl)
  refine lv_iload_n hx hb dX5_stationFor_2 rfl (lv_at hl 0 rfl) ?_
  refine lv_aload_n hx hb dX5_stationFor_3 rfl (lv_at hl 1 rfl) ?_
  refine va_get (D := D) (ci := 5) (v := .ref (h 2)) (C := RX5) (T := TX5) (N := 5) hx hb hts hiX5 hown hK.1 hP 0 rfl rfl 1 (by decide) kf19 (fun _ h9 => h9) rfl dX5_stationFor_4 ?_
  refine pu_calli (va_runV (As := []) (rest := [.int (nI q)]) ⟨hx, hb, hml, hown, hts⟩ (c_X2_howMany hh) (cwV 0 hts gX5_stationFor_X2_howMany rfl rfl rfl (by decide +kernel) ⟨Nat.le_of_ble_eq_true rfl, Nat.le_of_ble_eq_true rfl⟩) (wd_preV (ci := 2) (q0 := 2) hP hK rfl rfl) rfl rfl hl.1 rfl (lv_room (Nat.le_of_ble_eq_true rfl)) dX5_stationFor_7 ⟨Nat.zero_le _, Nat.zero_le _⟩) ?_
  refine lv_icmp_ge (tgt := 40) hx hb dX5_stationFor_10 (by decide) (fun _ => ?_) (fun h9 => absurd (nI_le (by omega) (by omega)) h9)
  refine lv_bipush (v := (-5)) hx hb dX5_stationFor_40 (by decide) ?_
  exact W.iret (v := (-5)) hx hb hr (fun t9 ht _ => ⟨congrArg (fun z => Outcome.returned (some (Value.int z))) (rfl), ht⟩) (fun _ h9 => nomatch h9) dX5_stationFor_42
set_option maxHeartbeats 4000000 in
set_option maxRecDepth 100000 in
theorem c_X5_work_c (hh : ad_ok h 20) (hn : n ≤ 100) (hk : k ≤ 8) (r : Nat) (hr9 : r < n) (i : Nat) (hi : i < k) (hko : ko (F r) (kfS (Wk i)) = false) : Met l yX5_workOn wsX5_workOn ({ frames := 6, cells := 0, slots := 0, locals := 200 }) (wd_P D cI cJ [.ref (h 0), .int (nI r), .int (nI i)] (sl_W cI cJ h (nI n) F Wt Sz Nu Mb (nI k) G Wk To Sl Ri (nI f) (nI b) oT oS oF (nI an) (nI as) Fo wo pa fa)) (pu_Q (some (.int 1))) 0 0 (fun _ => False) := by
  refine Met.ofW (cc := cX5_workOn) (maxL := 4) (ret := (some .int)) (by decide) rfl ?_
  intro p e s m args below meth c s₁ B hml hv
  obtain ⟨rfl, hP, hK⟩ := hv
  have hx := B.exec
  have hb := B.bytes
  have hr := B.returns
  have hts := atoms_spec (ws := wsX5_workOn) B.pre
  have hown : s.vm.findClass RX5 = some m.cls := findClass_of_methodNamed B.named
  have hlocks := B.notSynchronized
  have hiX5 : ∀ w ∈ u_ws RX5 TX5 5, w ∈ wsX5_workOn := by decide +kernel
  have kf19 := hts (.fieldLink RX5 19 "SortingLine" "stations" "LSortingLine$Stations;") (by decide +kernel)
  have kf10 := hts (.fieldLink RX5 10 "SortingLine" "things" "LSortingLine$Things;") (by decide +kernel)
  have hl := lv_entry ([.ref (h 0), .int (nI r), .int (nI i)]) (n := 4) (Nat.le_of_ble_eq_true rfl)
  rw [lg_entry_eq]
  generalize (lg_sl ([.ref (h 0), .int (nI r), .int (nI i)]) ++ List.replicate (4 - (lg_sl ([.ref (h 0), .int (nI r), .int (nI i)])).length) Slot.unset).toArray = ls at hl ⊢
  have hl : lv_has ls 4 [(0, .ref (h 0)), (1, .int (nI r)), (2, .int (nI i))] := hl
  refine lv_aload_n hx hb dX5_workOn_0 rfl (lv_at hl 0 rfl) ?_
  refine va_get (D := D) (ci := 5) (v := .ref (h 2)) (C := RX5) (T := TX5) (N := 5) hx hb hts hiX5 hown hK.1 hP 0 rfl rfl 1 (by decide) kf19 (fun _ h9 => h9) rfl dX5_workOn_1 ?_
  refine lv_iload_n hx hb dX5_workOn_4 rfl (lv_at hl 2 rfl) ?_
  refine pu_calli (va_runV (As := [.int (nI i)]) (rest := []) ⟨hx, hb, hml, hown, hts⟩ (c_X2_workOf hh hk i (by omega)) (cwV 1 hts gX5_workOn_X2_workOf rfl rfl rfl (by decide +kernel) ⟨Nat.le_of_ble_eq_true rfl, Nat.le_of_ble_eq_true rfl⟩) (wd_preV (ci := 2) (q0 := 2) hP hK rfl rfl) rfl rfl hl.1 rfl (lv_room (Nat.le_of_ble_eq_true rfl)) dX5_workOn_5 ⟨Nat.zero_le _, Nat.zero_le _⟩) ?_
  refine lv_istore_n (lv' := [(3, .int (Wk i)), (0, .ref (h 0)), (1, .int (nI r)), (2, .int (nI i))]) hx hb dX5_workOn_8 rfl hl (by decide) rfl (fun ls hl => ?_)
  refine lv_aload_n hx hb dX5_workOn_9 rfl (lv_at hl 1 rfl) ?_
  refine va_get (D := D) (ci := 5) (v := .ref (h 1)) (C := RX5) (T := TX5) (N := 5) hx hb hts hiX5 hown hK.1 hP 0 rfl rfl 0 (by decide) kf10 (fun _ h9 => h9) rfl dX5_workOn_10 ?_
  refine lv_iload_n hx hb dX5_workOn_13 rfl (lv_at hl 2 rfl) ?_
  refine lv_iload_n hx hb dX5_workOn_14 rfl (lv_at hl 0 rfl) ?_
  refine pu_calli (va_runS (As := [.int (Wk i)]) (rest := [.int (nI r), .ref (h 1)]) ⟨hx, hb, hml, hown, hts⟩ (c_X5_kindForWork (Wk i)) (cwS 1 hts gX5_workOn_X5_kindForWork rfl rfl rfl (by decide +kernel) ⟨Nat.le_of_ble_eq_true rfl, Nat.le_of_ble_eq_true rfl⟩) (wd_preS hP hK) rfl rfl hl.1 rfl (lv_room (Nat.le_of_ble_eq_true rfl)) dX5_workOn_15 ⟨Nat.zero_le _, Nat.zero_le _⟩) ?_
  refine pu_callb (va_runV (As := [.int (nI r), .int (kfS (Wk i))]) (rest := []) ⟨hx, hb, hml, hown, hts⟩ (c_X4_isOf hh hn r (by omega) (kfS (Wk i))) (cwV 2 hts gX5_workOn_X4_isOf rfl rfl rfl (by decide +kernel) ⟨Nat.le_of_ble_eq_true rfl, Nat.le_of_ble_eq_true rfl⟩) (wd_preV (ci := 4) (q0 := 1) hP hK rfl rfl) rfl rfl hl.1 rfl (lv_room (Nat.le_of_ble_eq_true rfl)) dX5_workOn_18 ⟨Nat.zero_le _, Nat.zero_le _⟩) (fun h9 => absurd (hko) (by rw [h9]; decide)) (fun _ => ?_)
  refine lv_if_ne (tgt := 26) hx hb dX5_workOn_21 (by decide) (fun h9 => absurd (by decide) h9) (fun _ => ?_)
  refine lv_iconst (v := 1) hx hb dX5_workOn_24 (by decide) ?_
  exact W.iret (v := 1) hx hb hr (fun t9 ht _ => ⟨congrArg (fun z => Outcome.returned (some (Value.int z))) (rfl), ht⟩) (fun _ h9 => nomatch h9) dX5_workOn_25
set_option maxHeartbeats 4000000 in
set_option maxRecDepth 100000 in
theorem c_X5_work_0 (hh : ad_ok h 20) (hn : n ≤ 100) (hk : k ≤ 8) (r : Nat) (hr9 : r < n) (i : Nat) (hi : i < k) (hw : Wk i = 0) (hko : ko (F r) (kfS 0) = true) : Met l yX5_workOn wsX5_workOn ({ frames := 6, cells := 0, slots := 0, locals := 200 }) (wd_P D cI cJ [.ref (h 0), .int (nI r), .int (nI i)] (sl_W cI cJ h (nI n) F Wt Sz Nu Mb (nI k) G Wk To Sl Ri (nI f) (nI b) oT oS oF (nI an) (nI as) Fo wo pa fa)) (mu_Q D (ad_A h 20) (some (.int 0)) (sl_W cI cJ h (nI n) F Wt Sz Nu Mb (nI k) G Wk (vp_updL To i (To i + Int32.toInt64 (Wt r))) (upd Sl i (nI r)) Ri (nI f) (nI b) oT oS oF (nI an) (nI as) Fo wo pa fa)) 0 0 (ad_A h 20) := by
  refine Met.ofW (cc := cX5_workOn) (maxL := 4) (ret := (some .int)) (by decide) rfl ?_
  intro p e s m args below meth c s₁ B hml hv
  obtain ⟨rfl, hP, hK⟩ := hv
  have hx := B.exec
  have hb := B.bytes
  have hr := B.returns
  have hts := atoms_spec (ws := wsX5_workOn) B.pre
  have hown : s.vm.findClass RX5 = some m.cls := findClass_of_methodNamed B.named
  have hlocks := B.notSynchronized
  have hiX5 : ∀ w ∈ u_ws RX5 TX5 5, w ∈ wsX5_workOn := by decide +kernel
  have kf19 := hts (.fieldLink RX5 19 "SortingLine" "stations" "LSortingLine$Stations;") (by decide +kernel)
  have kf10 := hts (.fieldLink RX5 10 "SortingLine" "things" "LSortingLine$Things;") (by decide +kernel)
  have hS : va_S (ad_A h 20) s.heap s.heap [] := va_S.rf
  have hl := lv_entry ([.ref (h 0), .int (nI r), .int (nI i)]) (n := 4) (Nat.le_of_ble_eq_true rfl)
  rw [lg_entry_eq]
  generalize (lg_sl ([.ref (h 0), .int (nI r), .int (nI i)]) ++ List.replicate (4 - (lg_sl ([.ref (h 0), .int (nI r), .int (nI i)])).length) Slot.unset).toArray = ls at hl ⊢
  have hl : lv_has ls 4 [(0, .ref (h 0)), (1, .int (nI r)), (2, .int (nI i))] := hl
  refine lv_aload_n hx hb dX5_workOn_0 rfl (lv_at hl 0 rfl) ?_
  refine va_get (D := D) (ci := 5) (v := .ref (h 2)) (C := RX5) (T := TX5) (N := 5) hx hb hts hiX5 hown hK.1 hP 0 rfl rfl 1 (by decide) kf19 (fun _ h9 => h9) rfl dX5_workOn_1 ?_
  refine lv_iload_n hx hb dX5_workOn_4 rfl (lv_at hl 2 rfl) ?_
  refine pu_calli (va_runV (As := [.int (nI i)]) (rest := []) ⟨hx, hb, hml, hown, hts⟩ (c_X2_workOf hh hk i (by omega)) (cwV 1 hts gX5_workOn_X2_workOf rfl rfl rfl (by decide +kernel) ⟨Nat.le_of_ble_eq_true rfl, Nat.le_of_ble_eq_true rfl⟩) (wd_preV (ci := 2) (q0 := 2) hP hK rfl rfl) rfl rfl hl.1 rfl (lv_room (Nat.le_of_ble_eq_true rfl)) dX5_workOn_5 ⟨Nat.zero_le _, Nat.zero_le _⟩) ?_
  refine tp_i (y := 0) (hw) ?_
  refine lv_istore_n (lv' := [(3, .int 0), (0, .ref (h 0)), (1, .int (nI r)), (2, .int (nI i))]) hx hb dX5_workOn_8 rfl hl (by decide) rfl (fun ls hl => ?_)
  refine lv_aload_n hx hb dX5_workOn_9 rfl (lv_at hl 1 rfl) ?_
  refine va_get (D := D) (ci := 5) (v := .ref (h 1)) (C := RX5) (T := TX5) (N := 5) hx hb hts hiX5 hown hK.1 hP 0 rfl rfl 0 (by decide) kf10 (fun _ h9 => h9) rfl dX5_workOn_10 ?_
  refine lv_iload_n hx hb dX5_workOn_13 rfl (lv_at hl 2 rfl) ?_
  refine lv_iload_n hx hb dX5_workOn_14 rfl (lv_at hl 0 rfl) ?_
  refine pu_calli (va_runS (As := [.int 0]) (rest := [.int (nI r), .ref (h 1)]) ⟨hx, hb, hml, hown, hts⟩ (c_X5_kindForWork 0) (cwS 1 hts gX5_workOn_X5_kindForWork rfl rfl rfl (by decide +kernel) ⟨Nat.le_of_ble_eq_true rfl, Nat.le_of_ble_eq_true rfl⟩) (wd_preS hP hK) rfl rfl hl.1 rfl (lv_room (Nat.le_of_ble_eq_true rfl)) dX5_workOn_15 ⟨Nat.zero_le _, Nat.zero_le _⟩) ?_
  refine pu_callb (va_runV (As := [.int (nI r), .int (kfS 0)]) (rest := []) ⟨hx, hb, hml, hown, hts⟩ (c_X4_isOf hh hn r (by omega) (kfS 0)) (cwV 2 hts gX5_workOn_X4_isOf rfl rfl rfl (by decide +kernel) ⟨Nat.le_of_ble_eq_true rfl, Nat.le_of_ble_eq_true rfl⟩) (wd_preV (ci := 4) (q0 := 1) hP hK rfl rfl) rfl rfl hl.1 rfl (lv_room (Nat.le_of_ble_eq_true rfl)) dX5_workOn_18 ⟨Nat.zero_le _, Nat.zero_le _⟩) (fun _ => ?_) (fun h9 => absurd (hko) (by rw [h9]; decide))
  refine lv_if_ne (tgt := 26) hx hb dX5_workOn_21 (by decide) (fun _ => ?_) (fun h9 => absurd h9 (by decide))
  refine lv_iload_n hx hb dX5_workOn_26 rfl (lv_at hl 0 rfl) ?_
  refine lv_tableIn (off := 61) (tgt := 88) hx hb dX5_workOn_27 (by decide) (by decide) (by decide) (by decide) ?_
  refine lv_aload_n hx hb dX5_workOn_88 rfl (lv_at hl 1 rfl) ?_
  refine lv_iload_n hx hb dX5_workOn_89 rfl (lv_at hl 2 rfl) ?_
  refine lv_iload_n hx hb dX5_workOn_90 rfl (lv_at hl 3 rfl) ?_
  refine mu_calli (va_runV (As := [.int (nI r), .int (nI i)]) (rest := []) ⟨hx, hb, hml, hown, hts⟩ (c_X5_weigh hh hn hk r (by omega) i (by omega)) (cwV 2 hts gX5_workOn_X5_weigh rfl rfl rfl (by decide +kernel) ⟨Nat.le_of_ble_eq_true rfl, Nat.le_of_ble_eq_true rfl⟩) (wd_preV (ci := 5) (q0 := 0) hP hK rfl rfl) rfl rfl hl.1 rfl (lv_room (Nat.le_of_ble_eq_true rfl)) dX5_workOn_91 ⟨Nat.zero_le _, Nat.zero_le _⟩) hS (fun H locs hP hS => ?_)
  have hP : va_P D kC (sl_W cI cJ h (nI n) F Wt Sz Nu Mb (nI k) G Wk (vp_updL To i (To i + Int32.toInt64 (Wt r))) (upd Sl i (nI r)) Ri (nI f) (nI b) oT oS oF (nI an) (nI as) Fo wo pa fa) H := hP
  refine lv_goto (tgt := 192) hx hb dX5_workOn_94 (by decide) ?_
  exact W.iret (v := 0) hx hb hr (fun t9 ht _ => ⟨congrArg (fun z => Outcome.returned (some (Value.int z))) (rfl), by rw [ht]; exact hP, hS.F ht⟩) hS.2.2 dX5_workOn_192
set_option maxHeartbeats 4000000 in
set_option maxRecDepth 100000 in
theorem c_X5_work_1 (hh : ad_ok h 20) (hn : n ≤ 100) (hk : k ≤ 8) (r : Nat) (hr9 : r < n) (i : Nat) (hi : i < k) (hw : Wk i = 1) (hko : ko (F r) (kfS 1) = true) : Met l yX5_workOn wsX5_workOn ({ frames := 6, cells := 0, slots := 0, locals := 200 }) (wd_P D cI cJ [.ref (h 0), .int (nI r), .int (nI i)] (sl_W cI cJ h (nI n) F Wt Sz Nu Mb (nI k) G Wk To Sl Ri (nI f) (nI b) oT oS oF (nI an) (nI as) Fo wo pa fa)) (mu_Q D (ad_A h 20) (some (.int 0)) (sl_W cI cJ h (nI n) F Wt Sz Nu Mb (nI k) G Wk (vp_updL To i (To i + Int32.toInt64 (kyO (F r) (Wt r)))) Sl Ri (nI f) (nI b) oT oS oF (nI an) (nI as) Fo wo pa fa)) 0 0 (ad_A h 20) := by
  refine Met.ofW (cc := cX5_workOn) (maxL := 4) (ret := (some .int)) (by decide) rfl ?_
  intro p e s m args below meth c s₁ B hml hv
  obtain ⟨rfl, hP, hK⟩ := hv
  have hx := B.exec
  have hb := B.bytes
  have hr := B.returns
  have hts := atoms_spec (ws := wsX5_workOn) B.pre
  have hown : s.vm.findClass RX5 = some m.cls := findClass_of_methodNamed B.named
  have hlocks := B.notSynchronized
  have hiX5 : ∀ w ∈ u_ws RX5 TX5 5, w ∈ wsX5_workOn := by decide +kernel
  have kf19 := hts (.fieldLink RX5 19 "SortingLine" "stations" "LSortingLine$Stations;") (by decide +kernel)
  have kf10 := hts (.fieldLink RX5 10 "SortingLine" "things" "LSortingLine$Things;") (by decide +kernel)
  have hS : va_S (ad_A h 20) s.heap s.heap [] := va_S.rf
  have hl := lv_entry ([.ref (h 0), .int (nI r), .int (nI i)]) (n := 4) (Nat.le_of_ble_eq_true rfl)
  rw [lg_entry_eq]
  generalize (lg_sl ([.ref (h 0), .int (nI r), .int (nI i)]) ++ List.replicate (4 - (lg_sl ([.ref (h 0), .int (nI r), .int (nI i)])).length) Slot.unset).toArray = ls at hl ⊢
  have hl : lv_has ls 4 [(0, .ref (h 0)), (1, .int (nI r)), (2, .int (nI i))] := hl
  refine lv_aload_n hx hb dX5_workOn_0 rfl (lv_at hl 0 rfl) ?_
  refine va_get (D := D) (ci := 5) (v := .ref (h 2)) (C := RX5) (T := TX5) (N := 5) hx hb hts hiX5 hown hK.1 hP 0 rfl rfl 1 (by decide) kf19 (fun _ h9 => h9) rfl dX5_workOn_1 ?_
  refine lv_iload_n hx hb dX5_workOn_4 rfl (lv_at hl 2 rfl) ?_
  refine pu_calli (va_runV (As := [.int (nI i)]) (rest := []) ⟨hx, hb, hml, hown, hts⟩ (c_X2_workOf hh hk i (by omega)) (cwV 1 hts gX5_workOn_X2_workOf rfl rfl rfl (by decide +kernel) ⟨Nat.le_of_ble_eq_true rfl, Nat.le_of_ble_eq_true rfl⟩) (wd_preV (ci := 2) (q0 := 2) hP hK rfl rfl) rfl rfl hl.1 rfl (lv_room (Nat.le_of_ble_eq_true rfl)) dX5_workOn_5 ⟨Nat.zero_le _, Nat.zero_le _⟩) ?_
  refine tp_i (y := 1) (hw) ?_
  refine lv_istore_n (lv' := [(3, .int 1), (0, .ref (h 0)), (1, .int (nI r)), (2, .int (nI i))]) hx hb dX5_workOn_8 rfl hl (by decide) rfl (fun ls hl => ?_)
  refine lv_aload_n hx hb dX5_workOn_9 rfl (lv_at hl 1 rfl) ?_
  refine va_get (D := D) (ci := 5) (v := .ref (h 1)) (C := RX5) (T := TX5) (N := 5) hx hb hts hiX5 hown hK.1 hP 0 rfl rfl 0 (by decide) kf10 (fun _ h9 => h9) rfl dX5_workOn_10 ?_
  refine lv_iload_n hx hb dX5_workOn_13 rfl (lv_at hl 2 rfl) ?_
  refine lv_iload_n hx hb dX5_workOn_14 rfl (lv_at hl 0 rfl) ?_
  refine pu_calli (va_runS (As := [.int 1]) (rest := [.int (nI r), .ref (h 1)]) ⟨hx, hb, hml, hown, hts⟩ (c_X5_kindForWork 1) (cwS 1 hts gX5_workOn_X5_kindForWork rfl rfl rfl (by decide +kernel) ⟨Nat.le_of_ble_eq_true rfl, Nat.le_of_ble_eq_true rfl⟩) (wd_preS hP hK) rfl rfl hl.1 rfl (lv_room (Nat.le_of_ble_eq_true rfl)) dX5_workOn_15 ⟨Nat.zero_le _, Nat.zero_le _⟩) ?_
  refine pu_callb (va_runV (As := [.int (nI r), .int (kfS 1)]) (rest := []) ⟨hx, hb, hml, hown, hts⟩ (c_X4_isOf hh hn r (by omega) (kfS 1)) (cwV 2 hts gX5_workOn_X4_isOf rfl rfl rfl (by decide +kernel) ⟨Nat.le_of_ble_eq_true rfl, Nat.le_of_ble_eq_true rfl⟩) (wd_preV (ci := 4) (q0 := 1) hP hK rfl rfl) rfl rfl hl.1 rfl (lv_room (Nat.le_of_ble_eq_true rfl)) dX5_workOn_18 ⟨Nat.zero_le _, Nat.zero_le _⟩) (fun _ => ?_) (fun h9 => absurd (hko) (by rw [h9]; decide))
  refine lv_if_ne (tgt := 26) hx hb dX5_workOn_21 (by decide) (fun _ => ?_) (fun h9 => absurd h9 (by decide))
  refine lv_iload_n hx hb dX5_workOn_26 rfl (lv_at hl 0 rfl) ?_
  refine lv_tableIn (off := 70) (tgt := 97) hx hb dX5_workOn_27 (by decide) (by decide) (by decide) (by decide) ?_
  refine lv_aload_n hx hb dX5_workOn_97 rfl (lv_at hl 1 rfl) ?_
  refine lv_iload_n hx hb dX5_workOn_98 rfl (lv_at hl 3 rfl) ?_
  refine lv_aload_n hx hb dX5_workOn_99 rfl (lv_at hl 1 rfl) ?_
  refine va_get (D := D) (ci := 5) (v := .ref (h 1)) (C := RX5) (T := TX5) (N := 5) hx hb hts hiX5 hown hK.1 hP 0 rfl rfl 0 (by decide) kf10 (fun _ h9 => h9) rfl dX5_workOn_100 ?_
  refine lv_iload_n hx hb dX5_workOn_103 rfl (lv_at hl 2 rfl) ?_
  refine pu_calli (va_runV (As := [.int (nI r)]) (rest := [.int (nI i), .ref (h 0)]) ⟨hx, hb, hml, hown, hts⟩ (c_X4_keyOf hh hn r (by omega)) (cwV 1 hts gX5_workOn_X4_keyOf rfl rfl rfl (by decide +kernel) ⟨Nat.le_of_ble_eq_true rfl, Nat.le_of_ble_eq_true rfl⟩) (wd_preV (ci := 4) (q0 := 1) hP hK rfl rfl) rfl rfl hl.1 rfl (lv_room (Nat.le_of_ble_eq_true rfl)) dX5_workOn_104 ⟨Nat.zero_le _, Nat.zero_le _⟩) ?_
  refine lv_i2l (v := Int32.toInt64 (kyO (F r) (Wt r))) hx hb dX5_workOn_107 (rfl) ?_
  refine mu_calli (va_runV (As := [.int (nI i), .long (Int32.toInt64 (kyO (F r) (Wt r)))]) (rest := []) ⟨hx, hb, hml, hown, hts⟩ (c_X5_grow hh hk i (by omega) (Int32.toInt64 (kyO (F r) (Wt r)))) (cwV 2 hts gX5_workOn_X5_grow rfl rfl rfl (by decide +kernel) ⟨Nat.le_of_ble_eq_true rfl, Nat.le_of_ble_eq_true rfl⟩) (wd_preV (ci := 5) (q0 := 0) hP hK rfl rfl) rfl rfl hl.1 rfl (lv_room (Nat.le_of_ble_eq_true rfl)) dX5_workOn_108 ⟨Nat.zero_le _, Nat.zero_le _⟩) hS (fun H locs hP hS => ?_)
  have hP : va_P D kC (sl_W cI cJ h (nI n) F Wt Sz Nu Mb (nI k) G Wk (vp_updL To i (To i + (Int32.toInt64 (kyO (F r) (Wt r))))) Sl Ri (nI f) (nI b) oT oS oF (nI an) (nI as) Fo wo pa fa) H := hP
  refine lv_goto (tgt := 192) hx hb dX5_workOn_111 (by decide) ?_
  exact W.iret (v := 0) hx hb hr (fun t9 ht _ => ⟨congrArg (fun z => Outcome.returned (some (Value.int z))) (rfl), by rw [ht]; exact hP, hS.F ht⟩) hS.2.2 dX5_workOn_192
set_option maxHeartbeats 4000000 in
set_option maxRecDepth 100000 in
theorem c_X5_work_2 (hh : ad_ok h 20) (hn : n ≤ 100) (hk : k ≤ 8) (r : Nat) (hr9 : r < n) (i : Nat) (hi : i < k) (hw : Wk i = 2) (hko : ko (F r) (kfS 2) = true) (z : Nat) (hz : Sz r = nI z) (hz8 : z ≤ 8) : Met l yX5_workOn wsX5_workOn ({ frames := 6, cells := 0, slots := 0, locals := 200 }) (wd_P D cI cJ [.ref (h 0), .int (nI r), .int (nI i)] (sl_W cI cJ h (nI n) F Wt Sz Nu Mb (nI k) G Wk To Sl Ri (nI f) (nI b) oT oS oF (nI an) (nI as) Fo wo pa fa)) (mu_Q D (ad_A h 20) (some (.int 0)) (sl_W cI cJ h (nI n) F Wt Sz Nu Mb (nI k) G Wk (vp_updL To i (To i + sumN Nu (8 * r) z)) Sl Ri (nI f) (nI b) oT oS oF (nI an) (nI as) Fo wo pa fa)) 0 0 (ad_A h 20) := by
  refine Met.ofW (cc := cX5_workOn) (maxL := 4) (ret := (some .int)) (by decide) rfl ?_
  intro p e s m args below meth c s₁ B hml hv
  obtain ⟨rfl, hP, hK⟩ := hv
  have hx := B.exec
  have hb := B.bytes
  have hr := B.returns
  have hts := atoms_spec (ws := wsX5_workOn) B.pre
  have hown : s.vm.findClass RX5 = some m.cls := findClass_of_methodNamed B.named
  have hlocks := B.notSynchronized
  have hiX5 : ∀ w ∈ u_ws RX5 TX5 5, w ∈ wsX5_workOn := by decide +kernel
  have kf19 := hts (.fieldLink RX5 19 "SortingLine" "stations" "LSortingLine$Stations;") (by decide +kernel)
  have kf10 := hts (.fieldLink RX5 10 "SortingLine" "things" "LSortingLine$Things;") (by decide +kernel)
  have hS : va_S (ad_A h 20) s.heap s.heap [] := va_S.rf
  have hl := lv_entry ([.ref (h 0), .int (nI r), .int (nI i)]) (n := 4) (Nat.le_of_ble_eq_true rfl)
  rw [lg_entry_eq]
  generalize (lg_sl ([.ref (h 0), .int (nI r), .int (nI i)]) ++ List.replicate (4 - (lg_sl ([.ref (h 0), .int (nI r), .int (nI i)])).length) Slot.unset).toArray = ls at hl ⊢
  have hl : lv_has ls 4 [(0, .ref (h 0)), (1, .int (nI r)), (2, .int (nI i))] := hl
  refine lv_aload_n hx hb dX5_workOn_0 rfl (lv_at hl 0 rfl) ?_
  refine va_get (D := D) (ci := 5) (v := .ref (h 2)) (C := RX5) (T := TX5) (N := 5) hx hb hts hiX5 hown hK.1 hP 0 rfl rfl 1 (by decide) kf19 (fun _ h9 => h9) rfl dX5_workOn_1 ?_
  refine lv_iload_n hx hb dX5_workOn_4 rfl (lv_at hl 2 rfl) ?_
  refine pu_calli (va_runV (As := [.int (nI i)]) (rest := []) ⟨hx, hb, hml, hown, hts⟩ (c_X2_workOf hh hk i (by omega)) (cwV 1 hts gX5_workOn_X2_workOf rfl rfl rfl (by decide +kernel) ⟨Nat.le_of_ble_eq_true rfl, Nat.le_of_ble_eq_true rfl⟩) (wd_preV (ci := 2) (q0 := 2) hP hK rfl rfl) rfl rfl hl.1 rfl (lv_room (Nat.le_of_ble_eq_true rfl)) dX5_workOn_5 ⟨Nat.zero_le _, Nat.zero_le _⟩) ?_
  refine tp_i (y := 2) (hw) ?_
  refine lv_istore_n (lv' := [(3, .int 2), (0, .ref (h 0)), (1, .int (nI r)), (2, .int (nI i))]) hx hb dX5_workOn_8 rfl hl (by decide) rfl (fun ls hl => ?_)
  refine lv_aload_n hx hb dX5_workOn_9 rfl (lv_at hl 1 rfl) ?_
  refine va_get (D := D) (ci := 5) (v := .ref (h 1)) (C := RX5) (T := TX5) (N := 5) hx hb hts hiX5 hown hK.1 hP 0 rfl rfl 0 (by decide) kf10 (fun _ h9 => h9) rfl dX5_workOn_10 ?_
  refine lv_iload_n hx hb dX5_workOn_13 rfl (lv_at hl 2 rfl) ?_
  refine lv_iload_n hx hb dX5_workOn_14 rfl (lv_at hl 0 rfl) ?_
  refine pu_calli (va_runS (As := [.int 2]) (rest := [.int (nI r), .ref (h 1)]) ⟨hx, hb, hml, hown, hts⟩ (c_X5_kindForWork 2) (cwS 1 hts gX5_workOn_X5_kindForWork rfl rfl rfl (by decide +kernel) ⟨Nat.le_of_ble_eq_true rfl, Nat.le_of_ble_eq_true rfl⟩) (wd_preS hP hK) rfl rfl hl.1 rfl (lv_room (Nat.le_of_ble_eq_true rfl)) dX5_workOn_15 ⟨Nat.zero_le _, Nat.zero_le _⟩) ?_
  refine pu_callb (va_runV (As := [.int (nI r), .int (kfS 2)]) (rest := []) ⟨hx, hb, hml, hown, hts⟩ (c_X4_isOf hh hn r (by omega) (kfS 2)) (cwV 2 hts gX5_workOn_X4_isOf rfl rfl rfl (by decide +kernel) ⟨Nat.le_of_ble_eq_true rfl, Nat.le_of_ble_eq_true rfl⟩) (wd_preV (ci := 4) (q0 := 1) hP hK rfl rfl) rfl rfl hl.1 rfl (lv_room (Nat.le_of_ble_eq_true rfl)) dX5_workOn_18 ⟨Nat.zero_le _, Nat.zero_le _⟩) (fun _ => ?_) (fun h9 => absurd (hko) (by rw [h9]; decide))
  refine lv_if_ne (tgt := 26) hx hb dX5_workOn_21 (by decide) (fun _ => ?_) (fun h9 => absurd h9 (by decide))
  refine lv_iload_n hx hb dX5_workOn_26 rfl (lv_at hl 0 rfl) ?_
  refine lv_tableIn (off := 87) (tgt := 114) hx hb dX5_workOn_27 (by decide) (by decide) (by decide) (by decide) ?_
  refine lv_aload_n hx hb dX5_workOn_114 rfl (lv_at hl 1 rfl) ?_
  refine lv_iload_n hx hb dX5_workOn_115 rfl (lv_at hl 3 rfl) ?_
  refine lv_aload_n hx hb dX5_workOn_116 rfl (lv_at hl 1 rfl) ?_
  refine va_get (D := D) (ci := 5) (v := .ref (h 1)) (C := RX5) (T := TX5) (N := 5) hx hb hts hiX5 hown hK.1 hP 0 rfl rfl 0 (by decide) kf10 (fun _ h9 => h9) rfl dX5_workOn_117 ?_
  refine lv_iload_n hx hb dX5_workOn_120 rfl (lv_at hl 2 rfl) ?_
  refine pu_calll (va_runV (As := [.int (nI r)]) (rest := [.int (nI i), .ref (h 0)]) ⟨hx, hb, hml, hown, hts⟩ (c_X4_sumOfNumbers hh hn r z (by omega) (hz) (by omega)) (cwV 1 hts gX5_workOn_X4_sumOfNumbers rfl rfl rfl (by decide +kernel) ⟨Nat.le_of_ble_eq_true rfl, Nat.le_of_ble_eq_true rfl⟩) (wd_preV (ci := 4) (q0 := 1) hP hK rfl rfl) rfl rfl hl.1 rfl (lv_room (Nat.le_of_ble_eq_true rfl)) dX5_workOn_121 ⟨Nat.zero_le _, Nat.zero_le _⟩) ?_
  refine mu_calli (va_runV (As := [.int (nI i), .long (sumN Nu (8 * r) z)]) (rest := []) ⟨hx, hb, hml, hown, hts⟩ (c_X5_grow hh hk i (by omega) (sumN Nu (8 * r) z)) (cwV 2 hts gX5_workOn_X5_grow rfl rfl rfl (by decide +kernel) ⟨Nat.le_of_ble_eq_true rfl, Nat.le_of_ble_eq_true rfl⟩) (wd_preV (ci := 5) (q0 := 0) hP hK rfl rfl) rfl rfl hl.1 rfl (lv_room (Nat.le_of_ble_eq_true rfl)) dX5_workOn_124 ⟨Nat.zero_le _, Nat.zero_le _⟩) hS (fun H locs hP hS => ?_)
  have hP : va_P D kC (sl_W cI cJ h (nI n) F Wt Sz Nu Mb (nI k) G Wk (vp_updL To i (To i + (sumN Nu (8 * r) z))) Sl Ri (nI f) (nI b) oT oS oF (nI an) (nI as) Fo wo pa fa) H := hP
  refine lv_goto (tgt := 192) hx hb dX5_workOn_127 (by decide) ?_
  exact W.iret (v := 0) hx hb hr (fun t9 ht _ => ⟨congrArg (fun z => Outcome.returned (some (Value.int z))) (rfl), by rw [ht]; exact hP, hS.F ht⟩) hS.2.2 dX5_workOn_192
set_option maxHeartbeats 4000000 in
set_option maxRecDepth 100000 in
theorem c_X5_work_3 (hh : ad_ok h 20) (hn : n ≤ 100) (hk : k ≤ 8) (r : Nat) (hr9 : r < n) (i : Nat) (hi : i < k) (hw : Wk i = 3) (hko : ko (F r) (kfS 3) = true) (z : Nat) (hz : Sz r = nI z) (hz8 : z ≤ 8) : Met l yX5_workOn wsX5_workOn ({ frames := 6, cells := 0, slots := 0, locals := 200 }) (wd_P D cI cJ [.ref (h 0), .int (nI r), .int (nI i)] (sl_W cI cJ h (nI n) F Wt Sz Nu Mb (nI k) G Wk To Sl Ri (nI f) (nI b) oT oS oF (nI an) (nI as) Fo wo pa fa)) (mu_Q D (ad_A h 20) (some (.int 0)) (sl_W cI cJ h (nI n) F Wt Sz Nu Mb (nI k) G Wk (vp_updL To i (To i + sumN Nu (8 * r) z)) Sl Ri (nI f) (nI b) oT oS oF (nI an) (nI as) Fo wo pa fa)) 0 0 (ad_A h 20) := by
  refine Met.ofW (cc := cX5_workOn) (maxL := 4) (ret := (some .int)) (by decide) rfl ?_
  intro p e s m args below meth c s₁ B hml hv
  obtain ⟨rfl, hP, hK⟩ := hv
  have hx := B.exec
  have hb := B.bytes
  have hr := B.returns
  have hts := atoms_spec (ws := wsX5_workOn) B.pre
  have hown : s.vm.findClass RX5 = some m.cls := findClass_of_methodNamed B.named
  have hlocks := B.notSynchronized
  have hiX5 : ∀ w ∈ u_ws RX5 TX5 5, w ∈ wsX5_workOn := by decide +kernel
  have kf19 := hts (.fieldLink RX5 19 "SortingLine" "stations" "LSortingLine$Stations;") (by decide +kernel)
  have kf10 := hts (.fieldLink RX5 10 "SortingLine" "things" "LSortingLine$Things;") (by decide +kernel)
  have hS : va_S (ad_A h 20) s.heap s.heap [] := va_S.rf
  have hl := lv_entry ([.ref (h 0), .int (nI r), .int (nI i)]) (n := 4) (Nat.le_of_ble_eq_true rfl)
  rw [lg_entry_eq]
  generalize (lg_sl ([.ref (h 0), .int (nI r), .int (nI i)]) ++ List.replicate (4 - (lg_sl ([.ref (h 0), .int (nI r), .int (nI i)])).length) Slot.unset).toArray = ls at hl ⊢
  have hl : lv_has ls 4 [(0, .ref (h 0)), (1, .int (nI r)), (2, .int (nI i))] := hl
  refine lv_aload_n hx hb dX5_workOn_0 rfl (lv_at hl 0 rfl) ?_
  refine va_get (D := D) (ci := 5) (v := .ref (h 2)) (C := RX5) (T := TX5) (N := 5) hx hb hts hiX5 hown hK.1 hP 0 rfl rfl 1 (by decide) kf19 (fun _ h9 => h9) rfl dX5_workOn_1 ?_
  refine lv_iload_n hx hb dX5_workOn_4 rfl (lv_at hl 2 rfl) ?_
  refine pu_calli (va_runV (As := [.int (nI i)]) (rest := []) ⟨hx, hb, hml, hown, hts⟩ (c_X2_workOf hh hk i (by omega)) (cwV 1 hts gX5_workOn_X2_workOf rfl rfl rfl (by decide +kernel) ⟨Nat.le_of_ble_eq_true rfl, Nat.le_of_ble_eq_true rfl⟩) (wd_preV (ci := 2) (q0 := 2) hP hK rfl rfl) rfl rfl hl.1 rfl (lv_room (Nat.le_of_ble_eq_true rfl)) dX5_workOn_5 ⟨Nat.zero_le _, Nat.zero_le _⟩) ?_
  refine tp_i (y := 3) (hw) ?_
  refine lv_istore_n (lv' := [(3, .int 3), (0, .ref (h 0)), (1, .int (nI r)), (2, .int (nI i))]) hx hb dX5_workOn_8 rfl hl (by decide) rfl (fun ls hl => ?_)
  refine lv_aload_n hx hb dX5_workOn_9 rfl (lv_at hl 1 rfl) ?_
  refine va_get (D := D) (ci := 5) (v := .ref (h 1)) (C := RX5) (T := TX5) (N := 5) hx hb hts hiX5 hown hK.1 hP 0 rfl rfl 0 (by decide) kf10 (fun _ h9 => h9) rfl dX5_workOn_10 ?_
  refine lv_iload_n hx hb dX5_workOn_13 rfl (lv_at hl 2 rfl) ?_
  refine lv_iload_n hx hb dX5_workOn_14 rfl (lv_at hl 0 rfl) ?_
  refine pu_calli (va_runS (As := [.int 3]) (rest := [.int (nI r), .ref (h 1)]) ⟨hx, hb, hml, hown, hts⟩ (c_X5_kindForWork 3) (cwS 1 hts gX5_workOn_X5_kindForWork rfl rfl rfl (by decide +kernel) ⟨Nat.le_of_ble_eq_true rfl, Nat.le_of_ble_eq_true rfl⟩) (wd_preS hP hK) rfl rfl hl.1 rfl (lv_room (Nat.le_of_ble_eq_true rfl)) dX5_workOn_15 ⟨Nat.zero_le _, Nat.zero_le _⟩) ?_
  refine pu_callb (va_runV (As := [.int (nI r), .int (kfS 3)]) (rest := []) ⟨hx, hb, hml, hown, hts⟩ (c_X4_isOf hh hn r (by omega) (kfS 3)) (cwV 2 hts gX5_workOn_X4_isOf rfl rfl rfl (by decide +kernel) ⟨Nat.le_of_ble_eq_true rfl, Nat.le_of_ble_eq_true rfl⟩) (wd_preV (ci := 4) (q0 := 1) hP hK rfl rfl) rfl rfl hl.1 rfl (lv_room (Nat.le_of_ble_eq_true rfl)) dX5_workOn_18 ⟨Nat.zero_le _, Nat.zero_le _⟩) (fun _ => ?_) (fun h9 => absurd (hko) (by rw [h9]; decide))
  refine lv_if_ne (tgt := 26) hx hb dX5_workOn_21 (by decide) (fun _ => ?_) (fun h9 => absurd h9 (by decide))
  refine lv_iload_n hx hb dX5_workOn_26 rfl (lv_at hl 0 rfl) ?_
  refine lv_tableIn (off := 87) (tgt := 114) hx hb dX5_workOn_27 (by decide) (by decide) (by decide) (by decide) ?_
  refine lv_aload_n hx hb dX5_workOn_114 rfl (lv_at hl 1 rfl) ?_
  refine lv_iload_n hx hb dX5_workOn_115 rfl (lv_at hl 3 rfl) ?_
  refine lv_aload_n hx hb dX5_workOn_116 rfl (lv_at hl 1 rfl) ?_
  refine va_get (D := D) (ci := 5) (v := .ref (h 1)) (C := RX5) (T := TX5) (N := 5) hx hb hts hiX5 hown hK.1 hP 0 rfl rfl 0 (by decide) kf10 (fun _ h9 => h9) rfl dX5_workOn_117 ?_
  refine lv_iload_n hx hb dX5_workOn_120 rfl (lv_at hl 2 rfl) ?_
  refine pu_calll (va_runV (As := [.int (nI r)]) (rest := [.int (nI i), .ref (h 0)]) ⟨hx, hb, hml, hown, hts⟩ (c_X4_sumOfNumbers hh hn r z (by omega) (hz) (by omega)) (cwV 1 hts gX5_workOn_X4_sumOfNumbers rfl rfl rfl (by decide +kernel) ⟨Nat.le_of_ble_eq_true rfl, Nat.le_of_ble_eq_true rfl⟩) (wd_preV (ci := 4) (q0 := 1) hP hK rfl rfl) rfl rfl hl.1 rfl (lv_room (Nat.le_of_ble_eq_true rfl)) dX5_workOn_121 ⟨Nat.zero_le _, Nat.zero_le _⟩) ?_
  refine mu_calli (va_runV (As := [.int (nI i), .long (sumN Nu (8 * r) z)]) (rest := []) ⟨hx, hb, hml, hown, hts⟩ (c_X5_grow hh hk i (by omega) (sumN Nu (8 * r) z)) (cwV 2 hts gX5_workOn_X5_grow rfl rfl rfl (by decide +kernel) ⟨Nat.le_of_ble_eq_true rfl, Nat.le_of_ble_eq_true rfl⟩) (wd_preV (ci := 5) (q0 := 0) hP hK rfl rfl) rfl rfl hl.1 rfl (lv_room (Nat.le_of_ble_eq_true rfl)) dX5_workOn_124 ⟨Nat.zero_le _, Nat.zero_le _⟩) hS (fun H locs hP hS => ?_)
  have hP : va_P D kC (sl_W cI cJ h (nI n) F Wt Sz Nu Mb (nI k) G Wk (vp_updL To i (To i + (sumN Nu (8 * r) z))) Sl Ri (nI f) (nI b) oT oS oF (nI an) (nI as) Fo wo pa fa) H := hP
  refine lv_goto (tgt := 192) hx hb dX5_workOn_127 (by decide) ?_
  exact W.iret (v := 0) hx hb hr (fun t9 ht _ => ⟨congrArg (fun z => Outcome.returned (some (Value.int z))) (rfl), by rw [ht]; exact hP, hS.F ht⟩) hS.2.2 dX5_workOn_192
set_option maxHeartbeats 4000000 in
set_option maxRecDepth 100000 in
theorem c_X5_work_4 (hh : ad_ok h 20) (hn : n ≤ 100) (hk : k ≤ 8) (r : Nat) (hr9 : r < n) (i : Nat) (hi : i < k) (hw : Wk i = 4) (hko : ko (F r) (kfS 4) = true) (z : Nat) (hz : Sz r = nI z) (hz8 : z ≤ 8) : Met l yX5_workOn wsX5_workOn ({ frames := 6, cells := 0, slots := 0, locals := 200 }) (wd_P D cI cJ [.ref (h 0), .int (nI r), .int (nI i)] (sl_W cI cJ h (nI n) F Wt Sz Nu Mb (nI k) G Wk To Sl Ri (nI f) (nI b) oT oS oF (nI an) (nI as) Fo wo pa fa)) (mu_Q D (ad_A h 20) (some (.int 0)) (sl_W cI cJ h (nI n) F Wt Sz Nu Mb (nI k) G Wk (vp_updL To i (To i + sumN Nu (8 * r) z)) Sl Ri (nI f) (nI b) oT oS oF (nI an) (nI as) Fo wo pa fa)) 0 0 (ad_A h 20) := by
  refine Met.ofW (cc := cX5_workOn) (maxL := 4) (ret := (some .int)) (by decide) rfl ?_
  intro p e s m args below meth c s₁ B hml hv
  obtain ⟨rfl, hP, hK⟩ := hv
  have hx := B.exec
  have hb := B.bytes
  have hr := B.returns
  have hts := atoms_spec (ws := wsX5_workOn) B.pre
  have hown : s.vm.findClass RX5 = some m.cls := findClass_of_methodNamed B.named
  have hlocks := B.notSynchronized
  have hiX5 : ∀ w ∈ u_ws RX5 TX5 5, w ∈ wsX5_workOn := by decide +kernel
  have kf19 := hts (.fieldLink RX5 19 "SortingLine" "stations" "LSortingLine$Stations;") (by decide +kernel)
  have kf10 := hts (.fieldLink RX5 10 "SortingLine" "things" "LSortingLine$Things;") (by decide +kernel)
  have hS : va_S (ad_A h 20) s.heap s.heap [] := va_S.rf
  have hl := lv_entry ([.ref (h 0), .int (nI r), .int (nI i)]) (n := 4) (Nat.le_of_ble_eq_true rfl)
  rw [lg_entry_eq]
  generalize (lg_sl ([.ref (h 0), .int (nI r), .int (nI i)]) ++ List.replicate (4 - (lg_sl ([.ref (h 0), .int (nI r), .int (nI i)])).length) Slot.unset).toArray = ls at hl ⊢
  have hl : lv_has ls 4 [(0, .ref (h 0)), (1, .int (nI r)), (2, .int (nI i))] := hl
  refine lv_aload_n hx hb dX5_workOn_0 rfl (lv_at hl 0 rfl) ?_
  refine va_get (D := D) (ci := 5) (v := .ref (h 2)) (C := RX5) (T := TX5) (N := 5) hx hb hts hiX5 hown hK.1 hP 0 rfl rfl 1 (by decide) kf19 (fun _ h9 => h9) rfl dX5_workOn_1 ?_
  refine lv_iload_n hx hb dX5_workOn_4 rfl (lv_at hl 2 rfl) ?_
  refine pu_calli (va_runV (As := [.int (nI i)]) (rest := []) ⟨hx, hb, hml, hown, hts⟩ (c_X2_workOf hh hk i (by omega)) (cwV 1 hts gX5_workOn_X2_workOf rfl rfl rfl (by decide +kernel) ⟨Nat.le_of_ble_eq_true rfl, Nat.le_of_ble_eq_true rfl⟩) (wd_preV (ci := 2) (q0 := 2) hP hK rfl rfl) rfl rfl hl.1 rfl (lv_room (Nat.le_of_ble_eq_true rfl)) dX5_workOn_5 ⟨Nat.zero_le _, Nat.zero_le _⟩) ?_
  refine tp_i (y := 4) (hw) ?_
  refine lv_istore_n (lv' := [(3, .int 4), (0, .ref (h 0)), (1, .int (nI r)), (2, .int (nI i))]) hx hb dX5_workOn_8 rfl hl (by decide) rfl (fun ls hl => ?_)
  refine lv_aload_n hx hb dX5_workOn_9 rfl (lv_at hl 1 rfl) ?_
  refine va_get (D := D) (ci := 5) (v := .ref (h 1)) (C := RX5) (T := TX5) (N := 5) hx hb hts hiX5 hown hK.1 hP 0 rfl rfl 0 (by decide) kf10 (fun _ h9 => h9) rfl dX5_workOn_10 ?_
  refine lv_iload_n hx hb dX5_workOn_13 rfl (lv_at hl 2 rfl) ?_
  refine lv_iload_n hx hb dX5_workOn_14 rfl (lv_at hl 0 rfl) ?_
  refine pu_calli (va_runS (As := [.int 4]) (rest := [.int (nI r), .ref (h 1)]) ⟨hx, hb, hml, hown, hts⟩ (c_X5_kindForWork 4) (cwS 1 hts gX5_workOn_X5_kindForWork rfl rfl rfl (by decide +kernel) ⟨Nat.le_of_ble_eq_true rfl, Nat.le_of_ble_eq_true rfl⟩) (wd_preS hP hK) rfl rfl hl.1 rfl (lv_room (Nat.le_of_ble_eq_true rfl)) dX5_workOn_15 ⟨Nat.zero_le _, Nat.zero_le _⟩) ?_
  refine pu_callb (va_runV (As := [.int (nI r), .int (kfS 4)]) (rest := []) ⟨hx, hb, hml, hown, hts⟩ (c_X4_isOf hh hn r (by omega) (kfS 4)) (cwV 2 hts gX5_workOn_X4_isOf rfl rfl rfl (by decide +kernel) ⟨Nat.le_of_ble_eq_true rfl, Nat.le_of_ble_eq_true rfl⟩) (wd_preV (ci := 4) (q0 := 1) hP hK rfl rfl) rfl rfl hl.1 rfl (lv_room (Nat.le_of_ble_eq_true rfl)) dX5_workOn_18 ⟨Nat.zero_le _, Nat.zero_le _⟩) (fun _ => ?_) (fun h9 => absurd (hko) (by rw [h9]; decide))
  refine lv_if_ne (tgt := 26) hx hb dX5_workOn_21 (by decide) (fun _ => ?_) (fun h9 => absurd h9 (by decide))
  refine lv_iload_n hx hb dX5_workOn_26 rfl (lv_at hl 0 rfl) ?_
  refine lv_tableIn (off := 87) (tgt := 114) hx hb dX5_workOn_27 (by decide) (by decide) (by decide) (by decide) ?_
  refine lv_aload_n hx hb dX5_workOn_114 rfl (lv_at hl 1 rfl) ?_
  refine lv_iload_n hx hb dX5_workOn_115 rfl (lv_at hl 3 rfl) ?_
  refine lv_aload_n hx hb dX5_workOn_116 rfl (lv_at hl 1 rfl) ?_
  refine va_get (D := D) (ci := 5) (v := .ref (h 1)) (C := RX5) (T := TX5) (N := 5) hx hb hts hiX5 hown hK.1 hP 0 rfl rfl 0 (by decide) kf10 (fun _ h9 => h9) rfl dX5_workOn_117 ?_
  refine lv_iload_n hx hb dX5_workOn_120 rfl (lv_at hl 2 rfl) ?_
  refine pu_calll (va_runV (As := [.int (nI r)]) (rest := [.int (nI i), .ref (h 0)]) ⟨hx, hb, hml, hown, hts⟩ (c_X4_sumOfNumbers hh hn r z (by omega) (hz) (by omega)) (cwV 1 hts gX5_workOn_X4_sumOfNumbers rfl rfl rfl (by decide +kernel) ⟨Nat.le_of_ble_eq_true rfl, Nat.le_of_ble_eq_true rfl⟩) (wd_preV (ci := 4) (q0 := 1) hP hK rfl rfl) rfl rfl hl.1 rfl (lv_room (Nat.le_of_ble_eq_true rfl)) dX5_workOn_121 ⟨Nat.zero_le _, Nat.zero_le _⟩) ?_
  refine mu_calli (va_runV (As := [.int (nI i), .long (sumN Nu (8 * r) z)]) (rest := []) ⟨hx, hb, hml, hown, hts⟩ (c_X5_grow hh hk i (by omega) (sumN Nu (8 * r) z)) (cwV 2 hts gX5_workOn_X5_grow rfl rfl rfl (by decide +kernel) ⟨Nat.le_of_ble_eq_true rfl, Nat.le_of_ble_eq_true rfl⟩) (wd_preV (ci := 5) (q0 := 0) hP hK rfl rfl) rfl rfl hl.1 rfl (lv_room (Nat.le_of_ble_eq_true rfl)) dX5_workOn_124 ⟨Nat.zero_le _, Nat.zero_le _⟩) hS (fun H locs hP hS => ?_)
  have hP : va_P D kC (sl_W cI cJ h (nI n) F Wt Sz Nu Mb (nI k) G Wk (vp_updL To i (To i + (sumN Nu (8 * r) z))) Sl Ri (nI f) (nI b) oT oS oF (nI an) (nI as) Fo wo pa fa) H := hP
  refine lv_goto (tgt := 192) hx hb dX5_workOn_127 (by decide) ?_
  exact W.iret (v := 0) hx hb hr (fun t9 ht _ => ⟨congrArg (fun z => Outcome.returned (some (Value.int z))) (rfl), by rw [ht]; exact hP, hS.F ht⟩) hS.2.2 dX5_workOn_192
set_option maxHeartbeats 4000000 in
set_option maxRecDepth 100000 in
theorem c_X5_work_5o (hh : ad_ok h 20) (hn : n ≤ 100) (hk : k ≤ 8) (r : Nat) (hr9 : r < n) (i : Nat) (hi : i < k) (hw : Wk i = 5) (hko : ko (F r) (kfS 5) = true) (z : Nat) (hz : Sz r = nI z) (hz8 : z ≤ 8) (hv : ∀ j, j < z → ∃ p9, p9 < n ∧ Mb (8 * r + j) = nI p9) : Met l yX5_workOn wsX5_workOn ({ frames := 6, cells := 0, slots := 0, locals := 200 }) (wd_P D cI cJ [.ref (h 0), .int (nI r), .int (nI i)] (sl_W cI cJ h (nI n) F Wt Sz Nu Mb (nI k) G Wk To Sl Ri (nI f) (nI b) oT oS oF (nI an) (nI as) Fo wo pa fa)) (mu_Q D (ad_A h 20) (some (.int 0)) (sl_W cI cJ h (nI n) F Wt Sz Nu Mb (nI k) G Wk (vp_updL To i (To i + msum Wt Mb (8 * r) z)) Sl Ri (nI f) (nI b) oT oS oF (nI an) (nI as) Fo wo pa fa)) 0 0 (ad_A h 20) := by
  refine Met.ofW (cc := cX5_workOn) (maxL := 4) (ret := (some .int)) (by decide) rfl ?_
  intro p e s m args below meth c s₁ B hml hv
  obtain ⟨rfl, hP, hK⟩ := hv
  have hx := B.exec
  have hb := B.bytes
  have hr := B.returns
  have hts := atoms_spec (ws := wsX5_workOn) B.pre
  have hown : s.vm.findClass RX5 = some m.cls := findClass_of_methodNamed B.named
  have hlocks := B.notSynchronized
  have hiX5 : ∀ w ∈ u_ws RX5 TX5 5, w ∈ wsX5_workOn := by decide +kernel
  have kf19 := hts (.fieldLink RX5 19 "SortingLine" "stations" "LSortingLine$Stations;") (by decide +kernel)
  have kf10 := hts (.fieldLink RX5 10 "SortingLine" "things" "LSortingLine$Things;") (by decide +kernel)
  have hS : va_S (ad_A h 20) s.heap s.heap [] := va_S.rf
  have hl := lv_entry ([.ref (h 0), .int (nI r), .int (nI i)]) (n := 4) (Nat.le_of_ble_eq_true rfl)
  rw [lg_entry_eq]
  generalize (lg_sl ([.ref (h 0), .int (nI r), .int (nI i)]) ++ List.replicate (4 - (lg_sl ([.ref (h 0), .int (nI r), .int (nI i)])).length) Slot.unset).toArray = ls at hl ⊢
  have hl : lv_has ls 4 [(0, .ref (h 0)), (1, .int (nI r)), (2, .int (nI i))] := hl
  refine lv_aload_n hx hb dX5_workOn_0 rfl (lv_at hl 0 rfl) ?_
  refine va_get (D := D) (ci := 5) (v := .ref (h 2)) (C := RX5) (T := TX5) (N := 5) hx hb hts hiX5 hown hK.1 hP 0 rfl rfl 1 (by decide) kf19 (fun _ h9 => h9) rfl dX5_workOn_1 ?_
  refine lv_iload_n hx hb dX5_workOn_4 rfl (lv_at hl 2 rfl) ?_
  refine pu_calli (va_runV (As := [.int (nI i)]) (rest := []) ⟨hx, hb, hml, hown, hts⟩ (c_X2_workOf hh hk i (by omega)) (cwV 1 hts gX5_workOn_X2_workOf rfl rfl rfl (by decide +kernel) ⟨Nat.le_of_ble_eq_true rfl, Nat.le_of_ble_eq_true rfl⟩) (wd_preV (ci := 2) (q0 := 2) hP hK rfl rfl) rfl rfl hl.1 rfl (lv_room (Nat.le_of_ble_eq_true rfl)) dX5_workOn_5 ⟨Nat.zero_le _, Nat.zero_le _⟩) ?_
  refine tp_i (y := 5) (hw) ?_
  refine lv_istore_n (lv' := [(3, .int 5), (0, .ref (h 0)), (1, .int (nI r)), (2, .int (nI i))]) hx hb dX5_workOn_8 rfl hl (by decide) rfl (fun ls hl => ?_)
  refine lv_aload_n hx hb dX5_workOn_9 rfl (lv_at hl 1 rfl) ?_
  refine va_get (D := D) (ci := 5) (v := .ref (h 1)) (C := RX5) (T := TX5) (N := 5) hx hb hts hiX5 hown hK.1 hP 0 rfl rfl 0 (by decide) kf10 (fun _ h9 => h9) rfl dX5_workOn_10 ?_
  refine lv_iload_n hx hb dX5_workOn_13 rfl (lv_at hl 2 rfl) ?_
  refine lv_iload_n hx hb dX5_workOn_14 rfl (lv_at hl 0 rfl) ?_
  refine pu_calli (va_runS (As := [.int 5]) (rest := [.int (nI r), .ref (h 1)]) ⟨hx, hb, hml, hown, hts⟩ (c_X5_kindForWork 5) (cwS 1 hts gX5_workOn_X5_kindForWork rfl rfl rfl (by decide +kernel) ⟨Nat.le_of_ble_eq_true rfl, Nat.le_of_ble_eq_true rfl⟩) (wd_preS hP hK) rfl rfl hl.1 rfl (lv_room (Nat.le_of_ble_eq_true rfl)) dX5_workOn_15 ⟨Nat.zero_le _, Nat.zero_le _⟩) ?_
  refine pu_callb (va_runV (As := [.int (nI r), .int (kfS 5)]) (rest := []) ⟨hx, hb, hml, hown, hts⟩ (c_X4_isOf hh hn r (by omega) (kfS 5)) (cwV 2 hts gX5_workOn_X4_isOf rfl rfl rfl (by decide +kernel) ⟨Nat.le_of_ble_eq_true rfl, Nat.le_of_ble_eq_true rfl⟩) (wd_preV (ci := 4) (q0 := 1) hP hK rfl rfl) rfl rfl hl.1 rfl (lv_room (Nat.le_of_ble_eq_true rfl)) dX5_workOn_18 ⟨Nat.zero_le _, Nat.zero_le _⟩) (fun _ => ?_) (fun h9 => absurd (hko) (by rw [h9]; decide))
  refine lv_if_ne (tgt := 26) hx hb dX5_workOn_21 (by decide) (fun _ => ?_) (fun h9 => absurd h9 (by decide))
  refine lv_iload_n hx hb dX5_workOn_26 rfl (lv_at hl 0 rfl) ?_
  refine lv_tableIn (off := 103) (tgt := 130) hx hb dX5_workOn_27 (by decide) (by decide) (by decide) (by decide) ?_
  refine lv_aload_n hx hb dX5_workOn_130 rfl (lv_at hl 1 rfl) ?_
  refine lv_iload_n hx hb dX5_workOn_131 rfl (lv_at hl 2 rfl) ?_
  refine lv_iload_n hx hb dX5_workOn_132 rfl (lv_at hl 3 rfl) ?_
  refine lv_iload_n hx hb dX5_workOn_133 rfl (lv_at hl 0 rfl) ?_
  refine mu_calli (va_runV (As := [.int (nI r), .int (nI i), .int 5]) (rest := []) ⟨hx, hb, hml, hown, hts⟩ (c_X5_memh_o hh hn hk r (by omega) i (by omega) z z hz hz8 (Nat.le_refl z) hv rfl) (cwV 3 hts gX5_workOn_X5_addMembers rfl rfl rfl (by decide +kernel) ⟨Nat.le_of_ble_eq_true rfl, Nat.le_of_ble_eq_true rfl⟩) (wd_preV (ci := 5) (q0 := 0) hP hK rfl rfl) rfl rfl hl.1 rfl (lv_room (Nat.le_of_ble_eq_true rfl)) dX5_workOn_134 ⟨Nat.zero_le _, Nat.zero_le _⟩) hS (fun H locs hP hS => ?_)
  have hP : va_P D kC (sl_W cI cJ h (nI n) F Wt Sz Nu Mb (nI k) G Wk (vp_updL To i (To i + msum Wt Mb (8 * r) z)) Sl Ri (nI f) (nI b) oT oS oF (nI an) (nI as) Fo wo pa fa) H := hP
  refine lv_goto (tgt := 192) hx hb dX5_workOn_137 (by decide) ?_
  exact W.iret (v := 0) hx hb hr (fun t9 ht _ => ⟨congrArg (fun z => Outcome.returned (some (Value.int z))) (rfl), by rw [ht]; exact hP, hS.F ht⟩) hS.2.2 dX5_workOn_192
set_option maxHeartbeats 4000000 in
set_option maxRecDepth 100000 in
theorem c_X5_work_5n (hh : ad_ok h 20) (hn : n ≤ 100) (hk : k ≤ 8) (r : Nat) (hr9 : r < n) (i : Nat) (hi : i < k) (hw : Wk i = 5) (hko : ko (F r) (kfS 5) = true) (z q : Nat) (hz : Sz r = nI z) (hz8 : z ≤ 8) (hv : ∀ j, j < q → ∃ p9, p9 < n ∧ Mb (8 * r + j) = nI p9) (hqz : q < z) (hnq : Mb (8 * r + q) = -5) : Met l yX5_workOn wsX5_workOn ({ frames := 6, cells := 0, slots := 0, locals := 200 }) (wd_P D cI cJ [.ref (h 0), .int (nI r), .int (nI i)] (sl_W cI cJ h (nI n) F Wt Sz Nu Mb (nI k) G Wk To Sl Ri (nI f) (nI b) oT oS oF (nI an) (nI as) Fo wo pa fa)) (pu_Q (some (.int 2))) 0 0 (fun _ => False) := by
  refine Met.ofW (cc := cX5_workOn) (maxL := 4) (ret := (some .int)) (by decide) rfl ?_
  intro p e s m args below meth c s₁ B hml hv
  obtain ⟨rfl, hP, hK⟩ := hv
  have hx := B.exec
  have hb := B.bytes
  have hr := B.returns
  have hts := atoms_spec (ws := wsX5_workOn) B.pre
  have hown : s.vm.findClass RX5 = some m.cls := findClass_of_methodNamed B.named
  have hlocks := B.notSynchronized
  have hiX5 : ∀ w ∈ u_ws RX5 TX5 5, w ∈ wsX5_workOn := by decide +kernel
  have kf19 := hts (.fieldLink RX5 19 "SortingLine" "stations" "LSortingLine$Stations;") (by decide +kernel)
  have kf10 := hts (.fieldLink RX5 10 "SortingLine" "things" "LSortingLine$Things;") (by decide +kernel)
  have hl := lv_entry ([.ref (h 0), .int (nI r), .int (nI i)]) (n := 4) (Nat.le_of_ble_eq_true rfl)
  rw [lg_entry_eq]
  generalize (lg_sl ([.ref (h 0), .int (nI r), .int (nI i)]) ++ List.replicate (4 - (lg_sl ([.ref (h 0), .int (nI r), .int (nI i)])).length) Slot.unset).toArray = ls at hl ⊢
  have hl : lv_has ls 4 [(0, .ref (h 0)), (1, .int (nI r)), (2, .int (nI i))] := hl
  refine lv_aload_n hx hb dX5_workOn_0 rfl (lv_at hl 0 rfl) ?_
  refine va_get (D := D) (ci := 5) (v := .ref (h 2)) (C := RX5) (T := TX5) (N := 5) hx hb hts hiX5 hown hK.1 hP 0 rfl rfl 1 (by decide) kf19 (fun _ h9 => h9) rfl dX5_workOn_1 ?_
  refine lv_iload_n hx hb dX5_workOn_4 rfl (lv_at hl 2 rfl) ?_
  refine pu_calli (va_runV (As := [.int (nI i)]) (rest := []) ⟨hx, hb, hml, hown, hts⟩ (c_X2_workOf hh hk i (by omega)) (cwV 1 hts gX5_workOn_X2_workOf rfl rfl rfl (by decide +kernel) ⟨Nat.le_of_ble_eq_true rfl, Nat.le_of_ble_eq_true rfl⟩) (wd_preV (ci := 2) (q0 := 2) hP hK rfl rfl) rfl rfl hl.1 rfl (lv_room (Nat.le_of_ble_eq_true rfl)) dX5_workOn_5 ⟨Nat.zero_le _, Nat.zero_le _⟩) ?_
  refine tp_i (y := 5) (hw) ?_
  refine lv_istore_n (lv' := [(3, .int 5), (0, .ref (h 0)), (1, .int (nI r)), (2, .int (nI i))]) hx hb dX5_workOn_8 rfl hl (by decide) rfl (fun ls hl => ?_)
  refine lv_aload_n hx hb dX5_workOn_9 rfl (lv_at hl 1 rfl) ?_
  refine va_get (D := D) (ci := 5) (v := .ref (h 1)) (C := RX5) (T := TX5) (N := 5) hx hb hts hiX5 hown hK.1 hP 0 rfl rfl 0 (by decide) kf10 (fun _ h9 => h9) rfl dX5_workOn_10 ?_
  refine lv_iload_n hx hb dX5_workOn_13 rfl (lv_at hl 2 rfl) ?_
  refine lv_iload_n hx hb dX5_workOn_14 rfl (lv_at hl 0 rfl) ?_
  refine pu_calli (va_runS (As := [.int 5]) (rest := [.int (nI r), .ref (h 1)]) ⟨hx, hb, hml, hown, hts⟩ (c_X5_kindForWork 5) (cwS 1 hts gX5_workOn_X5_kindForWork rfl rfl rfl (by decide +kernel) ⟨Nat.le_of_ble_eq_true rfl, Nat.le_of_ble_eq_true rfl⟩) (wd_preS hP hK) rfl rfl hl.1 rfl (lv_room (Nat.le_of_ble_eq_true rfl)) dX5_workOn_15 ⟨Nat.zero_le _, Nat.zero_le _⟩) ?_
  refine pu_callb (va_runV (As := [.int (nI r), .int (kfS 5)]) (rest := []) ⟨hx, hb, hml, hown, hts⟩ (c_X4_isOf hh hn r (by omega) (kfS 5)) (cwV 2 hts gX5_workOn_X4_isOf rfl rfl rfl (by decide +kernel) ⟨Nat.le_of_ble_eq_true rfl, Nat.le_of_ble_eq_true rfl⟩) (wd_preV (ci := 4) (q0 := 1) hP hK rfl rfl) rfl rfl hl.1 rfl (lv_room (Nat.le_of_ble_eq_true rfl)) dX5_workOn_18 ⟨Nat.zero_le _, Nat.zero_le _⟩) (fun _ => ?_) (fun h9 => absurd (hko) (by rw [h9]; decide))
  refine lv_if_ne (tgt := 26) hx hb dX5_workOn_21 (by decide) (fun _ => ?_) (fun h9 => absurd h9 (by decide))
  refine lv_iload_n hx hb dX5_workOn_26 rfl (lv_at hl 0 rfl) ?_
  refine lv_tableIn (off := 103) (tgt := 130) hx hb dX5_workOn_27 (by decide) (by decide) (by decide) (by decide) ?_
  refine lv_aload_n hx hb dX5_workOn_130 rfl (lv_at hl 1 rfl) ?_
  refine lv_iload_n hx hb dX5_workOn_131 rfl (lv_at hl 2 rfl) ?_
  refine lv_iload_n hx hb dX5_workOn_132 rfl (lv_at hl 3 rfl) ?_
  refine lv_iload_n hx hb dX5_workOn_133 rfl (lv_at hl 0 rfl) ?_
  refine pu_calli (va_runV (As := [.int (nI r), .int (nI i), .int 5]) (rest := []) ⟨hx, hb, hml, hown, hts⟩ (c_X5_memh_n hh hn hk r (by omega) i (by omega) z q hz hz8 (by omega) hv hqz hnq) (cwV 3 hts gX5_workOn_X5_addMembers rfl rfl rfl (by decide +kernel) ⟨Nat.le_of_ble_eq_true rfl, Nat.le_of_ble_eq_true rfl⟩) (wd_preV (ci := 5) (q0 := 0) hP hK rfl rfl) rfl rfl hl.1 rfl (lv_room (Nat.le_of_ble_eq_true rfl)) dX5_workOn_134 ⟨Nat.zero_le _, Nat.zero_le _⟩) ?_
  refine lv_goto (tgt := 192) hx hb dX5_workOn_137 (by decide) ?_
  exact W.iret (v := 2) hx hb hr (fun t9 ht _ => ⟨congrArg (fun z => Outcome.returned (some (Value.int z))) (rfl), ht⟩) (fun _ h9 => nomatch h9) dX5_workOn_192
set_option maxHeartbeats 4000000 in
set_option maxRecDepth 100000 in
theorem c_X5_work_10o (hh : ad_ok h 20) (hn : n ≤ 100) (hk : k ≤ 8) (r : Nat) (hr9 : r < n) (i : Nat) (hi : i < k) (hw : Wk i = 10) (hko : ko (F r) (kfS 10) = true) (z : Nat) (hz : Sz r = nI z) (hz8 : z ≤ 8) (hv : ∀ j, j < z → ∃ p9, p9 < n ∧ Mb (8 * r + j) = nI p9) : Met l yX5_workOn wsX5_workOn ({ frames := 6, cells := 0, slots := 0, locals := 200 }) (wd_P D cI cJ [.ref (h 0), .int (nI r), .int (nI i)] (sl_W cI cJ h (nI n) F Wt Sz Nu Mb (nI k) G Wk To Sl Ri (nI f) (nI b) oT oS oF (nI an) (nI as) Fo wo pa fa)) (mu_Q D (ad_A h 20) (some (.int 0)) (sl_W cI cJ h (nI n) F Wt Sz Nu Mb (nI k) G Wk (vp_updL To i (To i + msum (fun z => kyO (F z) (Wt z)) Mb (8 * r) z)) Sl Ri (nI f) (nI b) oT oS oF (nI an) (nI as) Fo wo pa fa)) 0 0 (ad_A h 20) := by
  refine Met.ofW (cc := cX5_workOn) (maxL := 4) (ret := (some .int)) (by decide) rfl ?_
  intro p e s m args below meth c s₁ B hml hv
  obtain ⟨rfl, hP, hK⟩ := hv
  have hx := B.exec
  have hb := B.bytes
  have hr := B.returns
  have hts := atoms_spec (ws := wsX5_workOn) B.pre
  have hown : s.vm.findClass RX5 = some m.cls := findClass_of_methodNamed B.named
  have hlocks := B.notSynchronized
  have hiX5 : ∀ w ∈ u_ws RX5 TX5 5, w ∈ wsX5_workOn := by decide +kernel
  have kf19 := hts (.fieldLink RX5 19 "SortingLine" "stations" "LSortingLine$Stations;") (by decide +kernel)
  have kf10 := hts (.fieldLink RX5 10 "SortingLine" "things" "LSortingLine$Things;") (by decide +kernel)
  have hS : va_S (ad_A h 20) s.heap s.heap [] := va_S.rf
  have hl := lv_entry ([.ref (h 0), .int (nI r), .int (nI i)]) (n := 4) (Nat.le_of_ble_eq_true rfl)
  rw [lg_entry_eq]
  generalize (lg_sl ([.ref (h 0), .int (nI r), .int (nI i)]) ++ List.replicate (4 - (lg_sl ([.ref (h 0), .int (nI r), .int (nI i)])).length) Slot.unset).toArray = ls at hl ⊢
  have hl : lv_has ls 4 [(0, .ref (h 0)), (1, .int (nI r)), (2, .int (nI i))] := hl
  refine lv_aload_n hx hb dX5_workOn_0 rfl (lv_at hl 0 rfl) ?_
  refine va_get (D := D) (ci := 5) (v := .ref (h 2)) (C := RX5) (T := TX5) (N := 5) hx hb hts hiX5 hown hK.1 hP 0 rfl rfl 1 (by decide) kf19 (fun _ h9 => h9) rfl dX5_workOn_1 ?_
  refine lv_iload_n hx hb dX5_workOn_4 rfl (lv_at hl 2 rfl) ?_
  refine pu_calli (va_runV (As := [.int (nI i)]) (rest := []) ⟨hx, hb, hml, hown, hts⟩ (c_X2_workOf hh hk i (by omega)) (cwV 1 hts gX5_workOn_X2_workOf rfl rfl rfl (by decide +kernel) ⟨Nat.le_of_ble_eq_true rfl, Nat.le_of_ble_eq_true rfl⟩) (wd_preV (ci := 2) (q0 := 2) hP hK rfl rfl) rfl rfl hl.1 rfl (lv_room (Nat.le_of_ble_eq_true rfl)) dX5_workOn_5 ⟨Nat.zero_le _, Nat.zero_le _⟩) ?_
  refine tp_i (y := 10) (hw) ?_
  refine lv_istore_n (lv' := [(3, .int 10), (0, .ref (h 0)), (1, .int (nI r)), (2, .int (nI i))]) hx hb dX5_workOn_8 rfl hl (by decide) rfl (fun ls hl => ?_)
  refine lv_aload_n hx hb dX5_workOn_9 rfl (lv_at hl 1 rfl) ?_
  refine va_get (D := D) (ci := 5) (v := .ref (h 1)) (C := RX5) (T := TX5) (N := 5) hx hb hts hiX5 hown hK.1 hP 0 rfl rfl 0 (by decide) kf10 (fun _ h9 => h9) rfl dX5_workOn_10 ?_
  refine lv_iload_n hx hb dX5_workOn_13 rfl (lv_at hl 2 rfl) ?_
  refine lv_iload_n hx hb dX5_workOn_14 rfl (lv_at hl 0 rfl) ?_
  refine pu_calli (va_runS (As := [.int 10]) (rest := [.int (nI r), .ref (h 1)]) ⟨hx, hb, hml, hown, hts⟩ (c_X5_kindForWork 10) (cwS 1 hts gX5_workOn_X5_kindForWork rfl rfl rfl (by decide +kernel) ⟨Nat.le_of_ble_eq_true rfl, Nat.le_of_ble_eq_true rfl⟩) (wd_preS hP hK) rfl rfl hl.1 rfl (lv_room (Nat.le_of_ble_eq_true rfl)) dX5_workOn_15 ⟨Nat.zero_le _, Nat.zero_le _⟩) ?_
  refine pu_callb (va_runV (As := [.int (nI r), .int (kfS 10)]) (rest := []) ⟨hx, hb, hml, hown, hts⟩ (c_X4_isOf hh hn r (by omega) (kfS 10)) (cwV 2 hts gX5_workOn_X4_isOf rfl rfl rfl (by decide +kernel) ⟨Nat.le_of_ble_eq_true rfl, Nat.le_of_ble_eq_true rfl⟩) (wd_preV (ci := 4) (q0 := 1) hP hK rfl rfl) rfl rfl hl.1 rfl (lv_room (Nat.le_of_ble_eq_true rfl)) dX5_workOn_18 ⟨Nat.zero_le _, Nat.zero_le _⟩) (fun _ => ?_) (fun h9 => absurd (hko) (by rw [h9]; decide))
  refine lv_if_ne (tgt := 26) hx hb dX5_workOn_21 (by decide) (fun _ => ?_) (fun h9 => absurd h9 (by decide))
  refine lv_iload_n hx hb dX5_workOn_26 rfl (lv_at hl 0 rfl) ?_
  refine lv_tableIn (off := 103) (tgt := 130) hx hb dX5_workOn_27 (by decide) (by decide) (by decide) (by decide) ?_
  refine lv_aload_n hx hb dX5_workOn_130 rfl (lv_at hl 1 rfl) ?_
  refine lv_iload_n hx hb dX5_workOn_131 rfl (lv_at hl 2 rfl) ?_
  refine lv_iload_n hx hb dX5_workOn_132 rfl (lv_at hl 3 rfl) ?_
  refine lv_iload_n hx hb dX5_workOn_133 rfl (lv_at hl 0 rfl) ?_
  refine mu_calli (va_runV (As := [.int (nI r), .int (nI i), .int 10]) (rest := []) ⟨hx, hb, hml, hown, hts⟩ (c_X5_memk_o hh hn hk r (by omega) i (by omega) z z hz hz8 (Nat.le_refl z) hv rfl) (cwV 3 hts gX5_workOn_X5_addMembers rfl rfl rfl (by decide +kernel) ⟨Nat.le_of_ble_eq_true rfl, Nat.le_of_ble_eq_true rfl⟩) (wd_preV (ci := 5) (q0 := 0) hP hK rfl rfl) rfl rfl hl.1 rfl (lv_room (Nat.le_of_ble_eq_true rfl)) dX5_workOn_134 ⟨Nat.zero_le _, Nat.zero_le _⟩) hS (fun H locs hP hS => ?_)
  have hP : va_P D kC (sl_W cI cJ h (nI n) F Wt Sz Nu Mb (nI k) G Wk (vp_updL To i (To i + msum (fun z => kyO (F z) (Wt z)) Mb (8 * r) z)) Sl Ri (nI f) (nI b) oT oS oF (nI an) (nI as) Fo wo pa fa) H := hP
  refine lv_goto (tgt := 192) hx hb dX5_workOn_137 (by decide) ?_
  exact W.iret (v := 0) hx hb hr (fun t9 ht _ => ⟨congrArg (fun z => Outcome.returned (some (Value.int z))) (rfl), by rw [ht]; exact hP, hS.F ht⟩) hS.2.2 dX5_workOn_192
set_option maxHeartbeats 4000000 in
set_option maxRecDepth 100000 in
theorem c_X5_work_10n (hh : ad_ok h 20) (hn : n ≤ 100) (hk : k ≤ 8) (r : Nat) (hr9 : r < n) (i : Nat) (hi : i < k) (hw : Wk i = 10) (hko : ko (F r) (kfS 10) = true) (z q : Nat) (hz : Sz r = nI z) (hz8 : z ≤ 8) (hv : ∀ j, j < q → ∃ p9, p9 < n ∧ Mb (8 * r + j) = nI p9) (hqz : q < z) (hnq : Mb (8 * r + q) = -5) : Met l yX5_workOn wsX5_workOn ({ frames := 6, cells := 0, slots := 0, locals := 200 }) (wd_P D cI cJ [.ref (h 0), .int (nI r), .int (nI i)] (sl_W cI cJ h (nI n) F Wt Sz Nu Mb (nI k) G Wk To Sl Ri (nI f) (nI b) oT oS oF (nI an) (nI as) Fo wo pa fa)) (pu_Q (some (.int 2))) 0 0 (fun _ => False) := by
  refine Met.ofW (cc := cX5_workOn) (maxL := 4) (ret := (some .int)) (by decide) rfl ?_
  intro p e s m args below meth c s₁ B hml hv
  obtain ⟨rfl, hP, hK⟩ := hv
  have hx := B.exec
  have hb := B.bytes
  have hr := B.returns
  have hts := atoms_spec (ws := wsX5_workOn) B.pre
  have hown : s.vm.findClass RX5 = some m.cls := findClass_of_methodNamed B.named
  have hlocks := B.notSynchronized
  have hiX5 : ∀ w ∈ u_ws RX5 TX5 5, w ∈ wsX5_workOn := by decide +kernel
  have kf19 := hts (.fieldLink RX5 19 "SortingLine" "stations" "LSortingLine$Stations;") (by decide +kernel)
  have kf10 := hts (.fieldLink RX5 10 "SortingLine" "things" "LSortingLine$Things;") (by decide +kernel)
  have hl := lv_entry ([.ref (h 0), .int (nI r), .int (nI i)]) (n := 4) (Nat.le_of_ble_eq_true rfl)
  rw [lg_entry_eq]
  generalize (lg_sl ([.ref (h 0), .int (nI r), .int (nI i)]) ++ List.replicate (4 - (lg_sl ([.ref (h 0), .int (nI r), .int (nI i)])).length) Slot.unset).toArray = ls at hl ⊢
  have hl : lv_has ls 4 [(0, .ref (h 0)), (1, .int (nI r)), (2, .int (nI i))] := hl
  refine lv_aload_n hx hb dX5_workOn_0 rfl (lv_at hl 0 rfl) ?_
  refine va_get (D := D) (ci := 5) (v := .ref (h 2)) (C := RX5) (T := TX5) (N := 5) hx hb hts hiX5 hown hK.1 hP 0 rfl rfl 1 (by decide) kf19 (fun _ h9 => h9) rfl dX5_workOn_1 ?_
  refine lv_iload_n hx hb dX5_workOn_4 rfl (lv_at hl 2 rfl) ?_
  refine pu_calli (va_runV (As := [.int (nI i)]) (rest := []) ⟨hx, hb, hml, hown, hts⟩ (c_X2_workOf hh hk i (by omega)) (cwV 1 hts gX5_workOn_X2_workOf rfl rfl rfl (by decide +kernel) ⟨Nat.le_of_ble_eq_true rfl, Nat.le_of_ble_eq_true rfl⟩) (wd_preV (ci := 2) (q0 := 2) hP hK rfl rfl) rfl rfl hl.1 rfl (lv_room (Nat.le_of_ble_eq_true rfl)) dX5_workOn_5 ⟨Nat.zero_le _, Nat.zero_le _⟩) ?_
  refine tp_i (y := 10) (hw) ?_
  refine lv_istore_n (lv' := [(3, .int 10), (0, .ref (h 0)), (1, .int (nI r)), (2, .int (nI i))]) hx hb dX5_workOn_8 rfl hl (by decide) rfl (fun ls hl => ?_)
  refine lv_aload_n hx hb dX5_workOn_9 rfl (lv_at hl 1 rfl) ?_
  refine va_get (D := D) (ci := 5) (v := .ref (h 1)) (C := RX5) (T := TX5) (N := 5) hx hb hts hiX5 hown hK.1 hP 0 rfl rfl 0 (by decide) kf10 (fun _ h9 => h9) rfl dX5_workOn_10 ?_
  refine lv_iload_n hx hb dX5_workOn_13 rfl (lv_at hl 2 rfl) ?_
  refine lv_iload_n hx hb dX5_workOn_14 rfl (lv_at hl 0 rfl) ?_
  refine pu_calli (va_runS (As := [.int 10]) (rest := [.int (nI r), .ref (h 1)]) ⟨hx, hb, hml, hown, hts⟩ (c_X5_kindForWork 10) (cwS 1 hts gX5_workOn_X5_kindForWork rfl rfl rfl (by decide +kernel) ⟨Nat.le_of_ble_eq_true rfl, Nat.le_of_ble_eq_true rfl⟩) (wd_preS hP hK) rfl rfl hl.1 rfl (lv_room (Nat.le_of_ble_eq_true rfl)) dX5_workOn_15 ⟨Nat.zero_le _, Nat.zero_le _⟩) ?_
  refine pu_callb (va_runV (As := [.int (nI r), .int (kfS 10)]) (rest := []) ⟨hx, hb, hml, hown, hts⟩ (c_X4_isOf hh hn r (by omega) (kfS 10)) (cwV 2 hts gX5_workOn_X4_isOf rfl rfl rfl (by decide +kernel) ⟨Nat.le_of_ble_eq_true rfl, Nat.le_of_ble_eq_true rfl⟩) (wd_preV (ci := 4) (q0 := 1) hP hK rfl rfl) rfl rfl hl.1 rfl (lv_room (Nat.le_of_ble_eq_true rfl)) dX5_workOn_18 ⟨Nat.zero_le _, Nat.zero_le _⟩) (fun _ => ?_) (fun h9 => absurd (hko) (by rw [h9]; decide))
  refine lv_if_ne (tgt := 26) hx hb dX5_workOn_21 (by decide) (fun _ => ?_) (fun h9 => absurd h9 (by decide))
  refine lv_iload_n hx hb dX5_workOn_26 rfl (lv_at hl 0 rfl) ?_
  refine lv_tableIn (off := 103) (tgt := 130) hx hb dX5_workOn_27 (by decide) (by decide) (by decide) (by decide) ?_
  refine lv_aload_n hx hb dX5_workOn_130 rfl (lv_at hl 1 rfl) ?_
  refine lv_iload_n hx hb dX5_workOn_131 rfl (lv_at hl 2 rfl) ?_
  refine lv_iload_n hx hb dX5_workOn_132 rfl (lv_at hl 3 rfl) ?_
  refine lv_iload_n hx hb dX5_workOn_133 rfl (lv_at hl 0 rfl) ?_
  refine pu_calli (va_runV (As := [.int (nI r), .int (nI i), .int 10]) (rest := []) ⟨hx, hb, hml, hown, hts⟩ (c_X5_memk_n hh hn hk r (by omega) i (by omega) z q hz hz8 (by omega) hv hqz hnq) (cwV 3 hts gX5_workOn_X5_addMembers rfl rfl rfl (by decide +kernel) ⟨Nat.le_of_ble_eq_true rfl, Nat.le_of_ble_eq_true rfl⟩) (wd_preV (ci := 5) (q0 := 0) hP hK rfl rfl) rfl rfl hl.1 rfl (lv_room (Nat.le_of_ble_eq_true rfl)) dX5_workOn_134 ⟨Nat.zero_le _, Nat.zero_le _⟩) ?_
  refine lv_goto (tgt := 192) hx hb dX5_workOn_137 (by decide) ?_
  exact W.iret (v := 2) hx hb hr (fun t9 ht _ => ⟨congrArg (fun z => Outcome.returned (some (Value.int z))) (rfl), ht⟩) (fun _ h9 => nomatch h9) dX5_workOn_192
set_option maxHeartbeats 4000000 in
set_option maxRecDepth 100000 in
theorem c_X5_work_6nB (hh : ad_ok h 20) (hn : n ≤ 100) (hk : k ≤ 8) (r : Nat) (hr9 : r < n) (i : Nat) (hi : i < k) (hw : Wk i = 6) (hko : ko (F r) (kfS 6) = true) (hs : Sl i = -5) (h2 : p_in 0 (Sz r) = false) : Met l yX5_workOn wsX5_workOn ({ frames := 6, cells := 0, slots := 0, locals := 200 }) (wd_P D cI cJ [.ref (h 0), .int (nI r), .int (nI i)] (sl_W cI cJ h (nI n) F Wt Sz Nu Mb (nI k) G Wk To Sl Ri (nI f) (nI b) oT oS oF (nI an) (nI as) Fo wo pa fa)) (pu_Q (some (.int 3))) 0 0 (fun _ => False) := by
  refine Met.ofW (cc := cX5_workOn) (maxL := 4) (ret := (some .int)) (by decide) rfl ?_
  intro p e s m args below meth c s₁ B hml hv
  obtain ⟨rfl, hP, hK⟩ := hv
  have hx := B.exec
  have hb := B.bytes
  have hr := B.returns
  have hts := atoms_spec (ws := wsX5_workOn) B.pre
  have hown : s.vm.findClass RX5 = some m.cls := findClass_of_methodNamed B.named
  have hlocks := B.notSynchronized
  have hiX5 : ∀ w ∈ u_ws RX5 TX5 5, w ∈ wsX5_workOn := by decide +kernel
  have kf19 := hts (.fieldLink RX5 19 "SortingLine" "stations" "LSortingLine$Stations;") (by decide +kernel)
  have kf10 := hts (.fieldLink RX5 10 "SortingLine" "things" "LSortingLine$Things;") (by decide +kernel)
  have hl := lv_entry ([.ref (h 0), .int (nI r), .int (nI i)]) (n := 4) (Nat.le_of_ble_eq_true rfl)
  rw [lg_entry_eq]
  generalize (lg_sl ([.ref (h 0), .int (nI r), .int (nI i)]) ++ List.replicate (4 - (lg_sl ([.ref (h 0), .int (nI r), .int (nI i)])).length) Slot.unset).toArray = ls at hl ⊢
  have hl : lv_has ls 4 [(0, .ref (h 0)), (1, .int (nI r)), (2, .int (nI i))] := hl
  refine lv_aload_n hx hb dX5_workOn_0 rfl (lv_at hl 0 rfl) ?_
  refine va_get (D := D) (ci := 5) (v := .ref (h 2)) (C := RX5) (T := TX5) (N := 5) hx hb hts hiX5 hown hK.1 hP 0 rfl rfl 1 (by decide) kf19 (fun _ h9 => h9) rfl dX5_workOn_1 ?_
  refine lv_iload_n hx hb dX5_workOn_4 rfl (lv_at hl 2 rfl) ?_
  refine pu_calli (va_runV (As := [.int (nI i)]) (rest := []) ⟨hx, hb, hml, hown, hts⟩ (c_X2_workOf hh hk i (by omega)) (cwV 1 hts gX5_workOn_X2_workOf rfl rfl rfl (by decide +kernel) ⟨Nat.le_of_ble_eq_true rfl, Nat.le_of_ble_eq_true rfl⟩) (wd_preV (ci := 2) (q0 := 2) hP hK rfl rfl) rfl rfl hl.1 rfl (lv_room (Nat.le_of_ble_eq_true rfl)) dX5_workOn_5 ⟨Nat.zero_le _, Nat.zero_le _⟩) ?_
  refine tp_i (y := 6) (hw) ?_
  refine lv_istore_n (lv' := [(3, .int 6), (0, .ref (h 0)), (1, .int (nI r)), (2, .int (nI i))]) hx hb dX5_workOn_8 rfl hl (by decide) rfl (fun ls hl => ?_)
  refine lv_aload_n hx hb dX5_workOn_9 rfl (lv_at hl 1 rfl) ?_
  refine va_get (D := D) (ci := 5) (v := .ref (h 1)) (C := RX5) (T := TX5) (N := 5) hx hb hts hiX5 hown hK.1 hP 0 rfl rfl 0 (by decide) kf10 (fun _ h9 => h9) rfl dX5_workOn_10 ?_
  refine lv_iload_n hx hb dX5_workOn_13 rfl (lv_at hl 2 rfl) ?_
  refine lv_iload_n hx hb dX5_workOn_14 rfl (lv_at hl 0 rfl) ?_
  refine pu_calli (va_runS (As := [.int 6]) (rest := [.int (nI r), .ref (h 1)]) ⟨hx, hb, hml, hown, hts⟩ (c_X5_kindForWork 6) (cwS 1 hts gX5_workOn_X5_kindForWork rfl rfl rfl (by decide +kernel) ⟨Nat.le_of_ble_eq_true rfl, Nat.le_of_ble_eq_true rfl⟩) (wd_preS hP hK) rfl rfl hl.1 rfl (lv_room (Nat.le_of_ble_eq_true rfl)) dX5_workOn_15 ⟨Nat.zero_le _, Nat.zero_le _⟩) ?_
  refine pu_callb (va_runV (As := [.int (nI r), .int (kfS 6)]) (rest := []) ⟨hx, hb, hml, hown, hts⟩ (c_X4_isOf hh hn r (by omega) (kfS 6)) (cwV 2 hts gX5_workOn_X4_isOf rfl rfl rfl (by decide +kernel) ⟨Nat.le_of_ble_eq_true rfl, Nat.le_of_ble_eq_true rfl⟩) (wd_preV (ci := 4) (q0 := 1) hP hK rfl rfl) rfl rfl hl.1 rfl (lv_room (Nat.le_of_ble_eq_true rfl)) dX5_workOn_18 ⟨Nat.zero_le _, Nat.zero_le _⟩) (fun _ => ?_) (fun h9 => absurd (hko) (by rw [h9]; decide))
  refine lv_if_ne (tgt := 26) hx hb dX5_workOn_21 (by decide) (fun _ => ?_) (fun h9 => absurd h9 (by decide))
  refine lv_iload_n hx hb dX5_workOn_26 rfl (lv_at hl 0 rfl) ?_
  refine lv_tableIn (off := 113) (tgt := 140) hx hb dX5_workOn_27 (by decide) (by decide) (by decide) (by decide) ?_
  refine lv_aload_n hx hb dX5_workOn_140 rfl (lv_at hl 1 rfl) ?_
  refine lv_iload_n hx hb dX5_workOn_141 rfl (lv_at hl 2 rfl) ?_
  refine lv_iload_n hx hb dX5_workOn_142 rfl (lv_at hl 3 rfl) ?_
  refine pu_calli (va_runV (As := [.int (nI r), .int (nI i)]) (rest := []) ⟨hx, hb, hml, hown, hts⟩ (c_X5_pack_nB hh hn hk r (by omega) i (by omega) hs h2) (cwV 2 hts gX5_workOn_X5_pack rfl rfl rfl (by decide +kernel) ⟨Nat.le_of_ble_eq_true rfl, Nat.le_of_ble_eq_true rfl⟩) (wd_preV (ci := 5) (q0 := 0) hP hK rfl rfl) rfl rfl hl.1 rfl (lv_room (Nat.le_of_ble_eq_true rfl)) dX5_workOn_143 ⟨Nat.zero_le _, Nat.zero_le _⟩) ?_
  refine lv_goto (tgt := 192) hx hb dX5_workOn_146 (by decide) ?_
  exact W.iret (v := 3) hx hb hr (fun t9 ht _ => ⟨congrArg (fun z => Outcome.returned (some (Value.int z))) (rfl), ht⟩) (fun _ h9 => nomatch h9) dX5_workOn_192
set_option maxHeartbeats 4000000 in
set_option maxRecDepth 100000 in
theorem c_X5_work_6nO (hh : ad_ok h 20) (hn : n ≤ 100) (hk : k ≤ 8) (r : Nat) (hr9 : r < n) (i : Nat) (hi : i < k) (hw : Wk i = 6) (hko : ko (F r) (kfS 6) = true) (hs : Sl i = -5) (h2 : p_in 0 (Sz r) = true) : Met l yX5_workOn wsX5_workOn ({ frames := 6, cells := 0, slots := 0, locals := 200 }) (wd_P D cI cJ [.ref (h 0), .int (nI r), .int (nI i)] (sl_W cI cJ h (nI n) F Wt Sz Nu Mb (nI k) G Wk To Sl Ri (nI f) (nI b) oT oS oF (nI an) (nI as) Fo wo pa fa)) (mu_Q D (ad_A h 20) (some (.int 0)) (sl_W cI cJ h (nI n) F Wt Sz Nu (upd Mb (8 * r + 0) (-5)) (nI k) G Wk To (upd Sl i (-5)) Ri (nI f) (nI b) oT oS oF (nI an) (nI as) Fo wo pa fa)) 0 0 (ad_A h 20) := by
  refine Met.ofW (cc := cX5_workOn) (maxL := 4) (ret := (some .int)) (by decide) rfl ?_
  intro p e s m args below meth c s₁ B hml hv
  obtain ⟨rfl, hP, hK⟩ := hv
  have hx := B.exec
  have hb := B.bytes
  have hr := B.returns
  have hts := atoms_spec (ws := wsX5_workOn) B.pre
  have hown : s.vm.findClass RX5 = some m.cls := findClass_of_methodNamed B.named
  have hlocks := B.notSynchronized
  have hiX5 : ∀ w ∈ u_ws RX5 TX5 5, w ∈ wsX5_workOn := by decide +kernel
  have kf19 := hts (.fieldLink RX5 19 "SortingLine" "stations" "LSortingLine$Stations;") (by decide +kernel)
  have kf10 := hts (.fieldLink RX5 10 "SortingLine" "things" "LSortingLine$Things;") (by decide +kernel)
  have hS : va_S (ad_A h 20) s.heap s.heap [] := va_S.rf
  have hl := lv_entry ([.ref (h 0), .int (nI r), .int (nI i)]) (n := 4) (Nat.le_of_ble_eq_true rfl)
  rw [lg_entry_eq]
  generalize (lg_sl ([.ref (h 0), .int (nI r), .int (nI i)]) ++ List.replicate (4 - (lg_sl ([.ref (h 0), .int (nI r), .int (nI i)])).length) Slot.unset).toArray = ls at hl ⊢
  have hl : lv_has ls 4 [(0, .ref (h 0)), (1, .int (nI r)), (2, .int (nI i))] := hl
  refine lv_aload_n hx hb dX5_workOn_0 rfl (lv_at hl 0 rfl) ?_
  refine va_get (D := D) (ci := 5) (v := .ref (h 2)) (C := RX5) (T := TX5) (N := 5) hx hb hts hiX5 hown hK.1 hP 0 rfl rfl 1 (by decide) kf19 (fun _ h9 => h9) rfl dX5_workOn_1 ?_
  refine lv_iload_n hx hb dX5_workOn_4 rfl (lv_at hl 2 rfl) ?_
  refine pu_calli (va_runV (As := [.int (nI i)]) (rest := []) ⟨hx, hb, hml, hown, hts⟩ (c_X2_workOf hh hk i (by omega)) (cwV 1 hts gX5_workOn_X2_workOf rfl rfl rfl (by decide +kernel) ⟨Nat.le_of_ble_eq_true rfl, Nat.le_of_ble_eq_true rfl⟩) (wd_preV (ci := 2) (q0 := 2) hP hK rfl rfl) rfl rfl hl.1 rfl (lv_room (Nat.le_of_ble_eq_true rfl)) dX5_workOn_5 ⟨Nat.zero_le _, Nat.zero_le _⟩) ?_
  refine tp_i (y := 6) (hw) ?_
  refine lv_istore_n (lv' := [(3, .int 6), (0, .ref (h 0)), (1, .int (nI r)), (2, .int (nI i))]) hx hb dX5_workOn_8 rfl hl (by decide) rfl (fun ls hl => ?_)
  refine lv_aload_n hx hb dX5_workOn_9 rfl (lv_at hl 1 rfl) ?_
  refine va_get (D := D) (ci := 5) (v := .ref (h 1)) (C := RX5) (T := TX5) (N := 5) hx hb hts hiX5 hown hK.1 hP 0 rfl rfl 0 (by decide) kf10 (fun _ h9 => h9) rfl dX5_workOn_10 ?_
  refine lv_iload_n hx hb dX5_workOn_13 rfl (lv_at hl 2 rfl) ?_
  refine lv_iload_n hx hb dX5_workOn_14 rfl (lv_at hl 0 rfl) ?_
  refine pu_calli (va_runS (As := [.int 6]) (rest := [.int (nI r), .ref (h 1)]) ⟨hx, hb, hml, hown, hts⟩ (c_X5_kindForWork 6) (cwS 1 hts gX5_workOn_X5_kindForWork rfl rfl rfl (by decide +kernel) ⟨Nat.le_of_ble_eq_true rfl, Nat.le_of_ble_eq_true rfl⟩) (wd_preS hP hK) rfl rfl hl.1 rfl (lv_room (Nat.le_of_ble_eq_true rfl)) dX5_workOn_15 ⟨Nat.zero_le _, Nat.zero_le _⟩) ?_
  refine pu_callb (va_runV (As := [.int (nI r), .int (kfS 6)]) (rest := []) ⟨hx, hb, hml, hown, hts⟩ (c_X4_isOf hh hn r (by omega) (kfS 6)) (cwV 2 hts gX5_workOn_X4_isOf rfl rfl rfl (by decide +kernel) ⟨Nat.le_of_ble_eq_true rfl, Nat.le_of_ble_eq_true rfl⟩) (wd_preV (ci := 4) (q0 := 1) hP hK rfl rfl) rfl rfl hl.1 rfl (lv_room (Nat.le_of_ble_eq_true rfl)) dX5_workOn_18 ⟨Nat.zero_le _, Nat.zero_le _⟩) (fun _ => ?_) (fun h9 => absurd (hko) (by rw [h9]; decide))
  refine lv_if_ne (tgt := 26) hx hb dX5_workOn_21 (by decide) (fun _ => ?_) (fun h9 => absurd h9 (by decide))
  refine lv_iload_n hx hb dX5_workOn_26 rfl (lv_at hl 0 rfl) ?_
  refine lv_tableIn (off := 113) (tgt := 140) hx hb dX5_workOn_27 (by decide) (by decide) (by decide) (by decide) ?_
  refine lv_aload_n hx hb dX5_workOn_140 rfl (lv_at hl 1 rfl) ?_
  refine lv_iload_n hx hb dX5_workOn_141 rfl (lv_at hl 2 rfl) ?_
  refine lv_iload_n hx hb dX5_workOn_142 rfl (lv_at hl 3 rfl) ?_
  refine mu_calli (va_runV (As := [.int (nI r), .int (nI i)]) (rest := []) ⟨hx, hb, hml, hown, hts⟩ (c_X5_pack_nO hh hn hk r (by omega) i (by omega) hs h2) (cwV 2 hts gX5_workOn_X5_pack rfl rfl rfl (by decide +kernel) ⟨Nat.le_of_ble_eq_true rfl, Nat.le_of_ble_eq_true rfl⟩) (wd_preV (ci := 5) (q0 := 0) hP hK rfl rfl) rfl rfl hl.1 rfl (lv_room (Nat.le_of_ble_eq_true rfl)) dX5_workOn_143 ⟨Nat.zero_le _, Nat.zero_le _⟩) hS (fun H locs hP hS => ?_)
  have hP : va_P D kC (sl_W cI cJ h (nI n) F Wt Sz Nu (upd Mb (8 * r + 0) (-5)) (nI k) G Wk To (upd Sl i (-5)) Ri (nI f) (nI b) oT oS oF (nI an) (nI as) Fo wo pa fa) H := hP
  refine lv_goto (tgt := 192) hx hb dX5_workOn_146 (by decide) ?_
  exact W.iret (v := 0) hx hb hr (fun t9 ht _ => ⟨congrArg (fun z => Outcome.returned (some (Value.int z))) (rfl), by rw [ht]; exact hP, hS.F ht⟩) hS.2.2 dX5_workOn_192
set_option maxHeartbeats 4000000 in
set_option maxRecDepth 100000 in
theorem c_X5_work_6pC (hh : ad_ok h 20) (hn : n ≤ 100) (hk : k ≤ 8) (r : Nat) (hr9 : r < n) (i : Nat) (hi : i < k) (hw : Wk i = 6) (hko : ko (F r) (kfS 6) = true) (p9 : Nat) (hp9 : p9 < n) (hs : Sl i = nI p9) (h1 : ko (F p9) 0 = false) : Met l yX5_workOn wsX5_workOn ({ frames := 6, cells := 0, slots := 0, locals := 200 }) (wd_P D cI cJ [.ref (h 0), .int (nI r), .int (nI i)] (sl_W cI cJ h (nI n) F Wt Sz Nu Mb (nI k) G Wk To Sl Ri (nI f) (nI b) oT oS oF (nI an) (nI as) Fo wo pa fa)) (pu_Q (some (.int 1))) 0 0 (fun _ => False) := by
  refine Met.ofW (cc := cX5_workOn) (maxL := 4) (ret := (some .int)) (by decide) rfl ?_
  intro p e s m args below meth c s₁ B hml hv
  obtain ⟨rfl, hP, hK⟩ := hv
  have hx := B.exec
  have hb := B.bytes
  have hr := B.returns
  have hts := atoms_spec (ws := wsX5_workOn) B.pre
  have hown : s.vm.findClass RX5 = some m.cls := findClass_of_methodNamed B.named
  have hlocks := B.notSynchronized
  have hiX5 : ∀ w ∈ u_ws RX5 TX5 5, w ∈ wsX5_workOn := by decide +kernel
  have kf19 := hts (.fieldLink RX5 19 "SortingLine" "stations" "LSortingLine$Stations;") (by decide +kernel)
  have kf10 := hts (.fieldLink RX5 10 "SortingLine" "things" "LSortingLine$Things;") (by decide +kernel)
  have hl := lv_entry ([.ref (h 0), .int (nI r), .int (nI i)]) (n := 4) (Nat.le_of_ble_eq_true rfl)
  rw [lg_entry_eq]
  generalize (lg_sl ([.ref (h 0), .int (nI r), .int (nI i)]) ++ List.replicate (4 - (lg_sl ([.ref (h 0), .int (nI r), .int (nI i)])).length) Slot.unset).toArray = ls at hl ⊢
  have hl : lv_has ls 4 [(0, .ref (h 0)), (1, .int (nI r)), (2, .int (nI i))] := hl
  refine lv_aload_n hx hb dX5_workOn_0 rfl (lv_at hl 0 rfl) ?_
  refine va_get (D := D) (ci := 5) (v := .ref (h 2)) (C := RX5) (T := TX5) (N := 5) hx hb hts hiX5 hown hK.1 hP 0 rfl rfl 1 (by decide) kf19 (fun _ h9 => h9) rfl dX5_workOn_1 ?_
  refine lv_iload_n hx hb dX5_workOn_4 rfl (lv_at hl 2 rfl) ?_
  refine pu_calli (va_runV (As := [.int (nI i)]) (rest := []) ⟨hx, hb, hml, hown, hts⟩ (c_X2_workOf hh hk i (by omega)) (cwV 1 hts gX5_workOn_X2_workOf rfl rfl rfl (by decide +kernel) ⟨Nat.le_of_ble_eq_true rfl, Nat.le_of_ble_eq_true rfl⟩) (wd_preV (ci := 2) (q0 := 2) hP hK rfl rfl) rfl rfl hl.1 rfl (lv_room (Nat.le_of_ble_eq_true rfl)) dX5_workOn_5 ⟨Nat.zero_le _, Nat.zero_le _⟩) ?_
  refine tp_i (y := 6) (hw) ?_
  refine lv_istore_n (lv' := [(3, .int 6), (0, .ref (h 0)), (1, .int (nI r)), (2, .int (nI i))]) hx hb dX5_workOn_8 rfl hl (by decide) rfl (fun ls hl => ?_)
  refine lv_aload_n hx hb dX5_workOn_9 rfl (lv_at hl 1 rfl) ?_
  refine va_get (D := D) (ci := 5) (v := .ref (h 1)) (C := RX5) (T := TX5) (N := 5) hx hb hts hiX5 hown hK.1 hP 0 rfl rfl 0 (by decide) kf10 (fun _ h9 => h9) rfl dX5_workOn_10 ?_
  refine lv_iload_n hx hb dX5_workOn_13 rfl (lv_at hl 2 rfl) ?_
  refine lv_iload_n hx hb dX5_workOn_14 rfl (lv_at hl 0 rfl) ?_
  refine pu_calli (va_runS (As := [.int 6]) (rest := [.int (nI r), .ref (h 1)]) ⟨hx, hb, hml, hown, hts⟩ (c_X5_kindForWork 6) (cwS 1 hts gX5_workOn_X5_kindForWork rfl rfl rfl (by decide +kernel) ⟨Nat.le_of_ble_eq_true rfl, Nat.le_of_ble_eq_true rfl⟩) (wd_preS hP hK) rfl rfl hl.1 rfl (lv_room (Nat.le_of_ble_eq_true rfl)) dX5_workOn_15 ⟨Nat.zero_le _, Nat.zero_le _⟩) ?_
  refine pu_callb (va_runV (As := [.int (nI r), .int (kfS 6)]) (rest := []) ⟨hx, hb, hml, hown, hts⟩ (c_X4_isOf hh hn r (by omega) (kfS 6)) (cwV 2 hts gX5_workOn_X4_isOf rfl rfl rfl (by decide +kernel) ⟨Nat.le_of_ble_eq_true rfl, Nat.le_of_ble_eq_true rfl⟩) (wd_preV (ci := 4) (q0 := 1) hP hK rfl rfl) rfl rfl hl.1 rfl (lv_room (Nat.le_of_ble_eq_true rfl)) dX5_workOn_18 ⟨Nat.zero_le _, Nat.zero_le _⟩) (fun _ => ?_) (fun h9 => absurd (hko) (by rw [h9]; decide))
  refine lv_if_ne (tgt := 26) hx hb dX5_workOn_21 (by decide) (fun _ => ?_) (fun h9 => absurd h9 (by decide))
  refine lv_iload_n hx hb dX5_workOn_26 rfl (lv_at hl 0 rfl) ?_
  refine lv_tableIn (off := 113) (tgt := 140) hx hb dX5_workOn_27 (by decide) (by decide) (by decide) (by decide) ?_
  refine lv_aload_n hx hb dX5_workOn_140 rfl (lv_at hl 1 rfl) ?_
  refine lv_iload_n hx hb dX5_workOn_141 rfl (lv_at hl 2 rfl) ?_
  refine lv_iload_n hx hb dX5_workOn_142 rfl (lv_at hl 3 rfl) ?_
  refine pu_calli (va_runV (As := [.int (nI r), .int (nI i)]) (rest := []) ⟨hx, hb, hml, hown, hts⟩ (c_X5_pack_pC hh hn hk r (by omega) i (by omega) p9 hp9 hs h1) (cwV 2 hts gX5_workOn_X5_pack rfl rfl rfl (by decide +kernel) ⟨Nat.le_of_ble_eq_true rfl, Nat.le_of_ble_eq_true rfl⟩) (wd_preV (ci := 5) (q0 := 0) hP hK rfl rfl) rfl rfl hl.1 rfl (lv_room (Nat.le_of_ble_eq_true rfl)) dX5_workOn_143 ⟨Nat.zero_le _, Nat.zero_le _⟩) ?_
  refine lv_goto (tgt := 192) hx hb dX5_workOn_146 (by decide) ?_
  exact W.iret (v := 1) hx hb hr (fun t9 ht _ => ⟨congrArg (fun z => Outcome.returned (some (Value.int z))) (rfl), ht⟩) (fun _ h9 => nomatch h9) dX5_workOn_192
set_option maxHeartbeats 4000000 in
set_option maxRecDepth 100000 in
theorem c_X5_work_6pB (hh : ad_ok h 20) (hn : n ≤ 100) (hk : k ≤ 8) (r : Nat) (hr9 : r < n) (i : Nat) (hi : i < k) (hw : Wk i = 6) (hko : ko (F r) (kfS 6) = true) (p9 : Nat) (hp9 : p9 < n) (hs : Sl i = nI p9) (h1 : ko (F p9) 0 = true) (h2 : p_in 0 (Sz r) = false) : Met l yX5_workOn wsX5_workOn ({ frames := 6, cells := 0, slots := 0, locals := 200 }) (wd_P D cI cJ [.ref (h 0), .int (nI r), .int (nI i)] (sl_W cI cJ h (nI n) F Wt Sz Nu Mb (nI k) G Wk To Sl Ri (nI f) (nI b) oT oS oF (nI an) (nI as) Fo wo pa fa)) (pu_Q (some (.int 3))) 0 0 (fun _ => False) := by
  refine Met.ofW (cc := cX5_workOn) (maxL := 4) (ret := (some .int)) (by decide) rfl ?_
  intro p e s m args below meth c s₁ B hml hv
  obtain ⟨rfl, hP, hK⟩ := hv
  have hx := B.exec
  have hb := B.bytes
  have hr := B.returns
  have hts := atoms_spec (ws := wsX5_workOn) B.pre
  have hown : s.vm.findClass RX5 = some m.cls := findClass_of_methodNamed B.named
  have hlocks := B.notSynchronized
  have hiX5 : ∀ w ∈ u_ws RX5 TX5 5, w ∈ wsX5_workOn := by decide +kernel
  have kf19 := hts (.fieldLink RX5 19 "SortingLine" "stations" "LSortingLine$Stations;") (by decide +kernel)
  have kf10 := hts (.fieldLink RX5 10 "SortingLine" "things" "LSortingLine$Things;") (by decide +kernel)
  have hl := lv_entry ([.ref (h 0), .int (nI r), .int (nI i)]) (n := 4) (Nat.le_of_ble_eq_true rfl)
  rw [lg_entry_eq]
  generalize (lg_sl ([.ref (h 0), .int (nI r), .int (nI i)]) ++ List.replicate (4 - (lg_sl ([.ref (h 0), .int (nI r), .int (nI i)])).length) Slot.unset).toArray = ls at hl ⊢
  have hl : lv_has ls 4 [(0, .ref (h 0)), (1, .int (nI r)), (2, .int (nI i))] := hl
  refine lv_aload_n hx hb dX5_workOn_0 rfl (lv_at hl 0 rfl) ?_
  refine va_get (D := D) (ci := 5) (v := .ref (h 2)) (C := RX5) (T := TX5) (N := 5) hx hb hts hiX5 hown hK.1 hP 0 rfl rfl 1 (by decide) kf19 (fun _ h9 => h9) rfl dX5_workOn_1 ?_
  refine lv_iload_n hx hb dX5_workOn_4 rfl (lv_at hl 2 rfl) ?_
  refine pu_calli (va_runV (As := [.int (nI i)]) (rest := []) ⟨hx, hb, hml, hown, hts⟩ (c_X2_workOf hh hk i (by omega)) (cwV 1 hts gX5_workOn_X2_workOf rfl rfl rfl (by decide +kernel) ⟨Nat.le_of_ble_eq_true rfl, Nat.le_of_ble_eq_true rfl⟩) (wd_preV (ci := 2) (q0 := 2) hP hK rfl rfl) rfl rfl hl.1 rfl (lv_room (Nat.le_of_ble_eq_true rfl)) dX5_workOn_5 ⟨Nat.zero_le _, Nat.zero_le _⟩) ?_
  refine tp_i (y := 6) (hw) ?_
  refine lv_istore_n (lv' := [(3, .int 6), (0, .ref (h 0)), (1, .int (nI r)), (2, .int (nI i))]) hx hb dX5_workOn_8 rfl hl (by decide) rfl (fun ls hl => ?_)
  refine lv_aload_n hx hb dX5_workOn_9 rfl (lv_at hl 1 rfl) ?_
  refine va_get (D := D) (ci := 5) (v := .ref (h 1)) (C := RX5) (T := TX5) (N := 5) hx hb hts hiX5 hown hK.1 hP 0 rfl rfl 0 (by decide) kf10 (fun _ h9 => h9) rfl dX5_workOn_10 ?_
  refine lv_iload_n hx hb dX5_workOn_13 rfl (lv_at hl 2 rfl) ?_
  refine lv_iload_n hx hb dX5_workOn_14 rfl (lv_at hl 0 rfl) ?_
  refine pu_calli (va_runS (As := [.int 6]) (rest := [.int (nI r), .ref (h 1)]) ⟨hx, hb, hml, hown, hts⟩ (c_X5_kindForWork 6) (cwS 1 hts gX5_workOn_X5_kindForWork rfl rfl rfl (by decide +kernel) ⟨Nat.le_of_ble_eq_true rfl, Nat.le_of_ble_eq_true rfl⟩) (wd_preS hP hK) rfl rfl hl.1 rfl (lv_room (Nat.le_of_ble_eq_true rfl)) dX5_workOn_15 ⟨Nat.zero_le _, Nat.zero_le _⟩) ?_
  refine pu_callb (va_runV (As := [.int (nI r), .int (kfS 6)]) (rest := []) ⟨hx, hb, hml, hown, hts⟩ (c_X4_isOf hh hn r (by omega) (kfS 6)) (cwV 2 hts gX5_workOn_X4_isOf rfl rfl rfl (by decide +kernel) ⟨Nat.le_of_ble_eq_true rfl, Nat.le_of_ble_eq_true rfl⟩) (wd_preV (ci := 4) (q0 := 1) hP hK rfl rfl) rfl rfl hl.1 rfl (lv_room (Nat.le_of_ble_eq_true rfl)) dX5_workOn_18 ⟨Nat.zero_le _, Nat.zero_le _⟩) (fun _ => ?_) (fun h9 => absurd (hko) (by rw [h9]; decide))
  refine lv_if_ne (tgt := 26) hx hb dX5_workOn_21 (by decide) (fun _ => ?_) (fun h9 => absurd h9 (by decide))
  refine lv_iload_n hx hb dX5_workOn_26 rfl (lv_at hl 0 rfl) ?_
  refine lv_tableIn (off := 113) (tgt := 140) hx hb dX5_workOn_27 (by decide) (by decide) (by decide) (by decide) ?_
  refine lv_aload_n hx hb dX5_workOn_140 rfl (lv_at hl 1 rfl) ?_
  refine lv_iload_n hx hb dX5_workOn_141 rfl (lv_at hl 2 rfl) ?_
  refine lv_iload_n hx hb dX5_workOn_142 rfl (lv_at hl 3 rfl) ?_
  refine pu_calli (va_runV (As := [.int (nI r), .int (nI i)]) (rest := []) ⟨hx, hb, hml, hown, hts⟩ (c_X5_pack_pB hh hn hk r (by omega) i (by omega) p9 hp9 hs h1 h2) (cwV 2 hts gX5_workOn_X5_pack rfl rfl rfl (by decide +kernel) ⟨Nat.le_of_ble_eq_true rfl, Nat.le_of_ble_eq_true rfl⟩) (wd_preV (ci := 5) (q0 := 0) hP hK rfl rfl) rfl rfl hl.1 rfl (lv_room (Nat.le_of_ble_eq_true rfl)) dX5_workOn_143 ⟨Nat.zero_le _, Nat.zero_le _⟩) ?_
  refine lv_goto (tgt := 192) hx hb dX5_workOn_146 (by decide) ?_
  exact W.iret (v := 3) hx hb hr (fun t9 ht _ => ⟨congrArg (fun z => Outcome.returned (some (Value.int z))) (rfl), ht⟩) (fun _ h9 => nomatch h9) dX5_workOn_192
set_option maxHeartbeats 4000000 in
set_option maxRecDepth 100000 in
theorem c_X5_work_6pS (hh : ad_ok h 20) (hn : n ≤ 100) (hk : k ≤ 8) (r : Nat) (hr9 : r < n) (i : Nat) (hi : i < k) (hw : Wk i = 6) (hko : ko (F r) (kfS 6) = true) (p9 : Nat) (hp9 : p9 < n) (hs : Sl i = nI p9) (h1 : ko (F p9) 0 = true) (h2 : p_in 0 (Sz r) = true) (h3 : ko (F p9) (mkS (F r)) = false) : Met l yX5_workOn wsX5_workOn ({ frames := 6, cells := 0, slots := 0, locals := 200 }) (wd_P D cI cJ [.ref (h 0), .int (nI r), .int (nI i)] (sl_W cI cJ h (nI n) F Wt Sz Nu Mb (nI k) G Wk To Sl Ri (nI f) (nI b) oT oS oF (nI an) (nI as) Fo wo pa fa)) (pu_Q (some (.int 4))) 0 0 (fun _ => False) := by
  refine Met.ofW (cc := cX5_workOn) (maxL := 4) (ret := (some .int)) (by decide) rfl ?_
  intro p e s m args below meth c s₁ B hml hv
  obtain ⟨rfl, hP, hK⟩ := hv
  have hx := B.exec
  have hb := B.bytes
  have hr := B.returns
  have hts := atoms_spec (ws := wsX5_workOn) B.pre
  have hown : s.vm.findClass RX5 = some m.cls := findClass_of_methodNamed B.named
  have hlocks := B.notSynchronized
  have hiX5 : ∀ w ∈ u_ws RX5 TX5 5, w ∈ wsX5_workOn := by decide +kernel
  have kf19 := hts (.fieldLink RX5 19 "SortingLine" "stations" "LSortingLine$Stations;") (by decide +kernel)
  have kf10 := hts (.fieldLink RX5 10 "SortingLine" "things" "LSortingLine$Things;") (by decide +kernel)
  have hl := lv_entry ([.ref (h 0), .int (nI r), .int (nI i)]) (n := 4) (Nat.le_of_ble_eq_true rfl)
  rw [lg_entry_eq]
  generalize (lg_sl ([.ref (h 0), .int (nI r), .int (nI i)]) ++ List.replicate (4 - (lg_sl ([.ref (h 0), .int (nI r), .int (nI i)])).length) Slot.unset).toArray = ls at hl ⊢
  have hl : lv_has ls 4 [(0, .ref (h 0)), (1, .int (nI r)), (2, .int (nI i))] := hl
  refine lv_aload_n hx hb dX5_workOn_0 rfl (lv_at hl 0 rfl) ?_
  refine va_get (D := D) (ci := 5) (v := .ref (h 2)) (C := RX5) (T := TX5) (N := 5) hx hb hts hiX5 hown hK.1 hP 0 rfl rfl 1 (by decide) kf19 (fun _ h9 => h9) rfl dX5_workOn_1 ?_
  refine lv_iload_n hx hb dX5_workOn_4 rfl (lv_at hl 2 rfl) ?_
  refine pu_calli (va_runV (As := [.int (nI i)]) (rest := []) ⟨hx, hb, hml, hown, hts⟩ (c_X2_workOf hh hk i (by omega)) (cwV 1 hts gX5_workOn_X2_workOf rfl rfl rfl (by decide +kernel) ⟨Nat.le_of_ble_eq_true rfl, Nat.le_of_ble_eq_true rfl⟩) (wd_preV (ci := 2) (q0 := 2) hP hK rfl rfl) rfl rfl hl.1 rfl (lv_room (Nat.le_of_ble_eq_true rfl)) dX5_workOn_5 ⟨Nat.zero_le _, Nat.zero_le _⟩) ?_
  refine tp_i (y := 6) (hw) ?_
  refine lv_istore_n (lv' := [(3, .int 6), (0, .ref (h 0)), (1, .int (nI r)), (2, .int (nI i))]) hx hb dX5_workOn_8 rfl hl (by decide) rfl (fun ls hl => ?_)
  refine lv_aload_n hx hb dX5_workOn_9 rfl (lv_at hl 1 rfl) ?_
  refine va_get (D := D) (ci := 5) (v := .ref (h 1)) (C := RX5) (T := TX5) (N := 5) hx hb hts hiX5 hown hK.1 hP 0 rfl rfl 0 (by decide) kf10 (fun _ h9 => h9) rfl dX5_workOn_10 ?_
  refine lv_iload_n hx hb dX5_workOn_13 rfl (lv_at hl 2 rfl) ?_
  refine lv_iload_n hx hb dX5_workOn_14 rfl (lv_at hl 0 rfl) ?_
  refine pu_calli (va_runS (As := [.int 6]) (rest := [.int (nI r), .ref (h 1)]) ⟨hx, hb, hml, hown, hts⟩ (c_X5_kindForWork 6) (cwS 1 hts gX5_workOn_X5_kindForWork rfl rfl rfl (by decide +kernel) ⟨Nat.le_of_ble_eq_true rfl, Nat.le_of_ble_eq_true rfl⟩) (wd_preS hP hK) rfl rfl hl.1 rfl (lv_room (Nat.le_of_ble_eq_true rfl)) dX5_workOn_15 ⟨Nat.zero_le _, Nat.zero_le _⟩) ?_
  refine pu_callb (va_runV (As := [.int (nI r), .int (kfS 6)]) (rest := []) ⟨hx, hb, hml, hown, hts⟩ (c_X4_isOf hh hn r (by omega) (kfS 6)) (cwV 2 hts gX5_workOn_X4_isOf rfl rfl rfl (by decide +kernel) ⟨Nat.le_of_ble_eq_true rfl, Nat.le_of_ble_eq_true rfl⟩) (wd_preV (ci := 4) (q0 := 1) hP hK rfl rfl) rfl rfl hl.1 rfl (lv_room (Nat.le_of_ble_eq_true rfl)) dX5_workOn_18 ⟨Nat.zero_le _, Nat.zero_le _⟩) (fun _ => ?_) (fun h9 => absurd (hko) (by rw [h9]; decide))
  refine lv_if_ne (tgt := 26) hx hb dX5_workOn_21 (by decide) (fun _ => ?_) (fun h9 => absurd h9 (by decide))
  refine lv_iload_n hx hb dX5_workOn_26 rfl (lv_at hl 0 rfl) ?_
  refine lv_tableIn (off := 113) (tgt := 140) hx hb dX5_workOn_27 (by decide) (by decide) (by decide) (by decide) ?_
  refine lv_aload_n hx hb dX5_workOn_140 rfl (lv_at hl 1 rfl) ?_
  refine lv_iload_n hx hb dX5_workOn_141 rfl (lv_at hl 2 rfl) ?_
  refine lv_iload_n hx hb dX5_workOn_142 rfl (lv_at hl 3 rfl) ?_
  refine pu_calli (va_runV (As := [.int (nI r), .int (nI i)]) (rest := []) ⟨hx, hb, hml, hown, hts⟩ (c_X5_pack_pS hh hn hk r (by omega) i (by omega) p9 hp9 hs h1 h2 h3) (cwV 2 hts gX5_workOn_X5_pack rfl rfl rfl (by decide +kernel) ⟨Nat.le_of_ble_eq_true rfl, Nat.le_of_ble_eq_true rfl⟩) (wd_preV (ci := 5) (q0 := 0) hP hK rfl rfl) rfl rfl hl.1 rfl (lv_room (Nat.le_of_ble_eq_true rfl)) dX5_workOn_143 ⟨Nat.zero_le _, Nat.zero_le _⟩) ?_
  refine lv_goto (tgt := 192) hx hb dX5_workOn_146 (by decide) ?_
  exact W.iret (v := 4) hx hb hr (fun t9 ht _ => ⟨congrArg (fun z => Outcome.returned (some (Value.int z))) (rfl), ht⟩) (fun _ h9 => nomatch h9) dX5_workOn_192
set_option maxHeartbeats 4000000 in
set_option maxRecDepth 100000 in
theorem c_X5_work_6pO (hh : ad_ok h 20) (hn : n ≤ 100) (hk : k ≤ 8) (r : Nat) (hr9 : r < n) (i : Nat) (hi : i < k) (hw : Wk i = 6) (hko : ko (F r) (kfS 6) = true) (p9 : Nat) (hp9 : p9 < n) (hs : Sl i = nI p9) (h1 : ko (F p9) 0 = true) (h2 : p_in 0 (Sz r) = true) (h3 : ko (F p9) (mkS (F r)) = true) : Met l yX5_workOn wsX5_workOn ({ frames := 6, cells := 0, slots := 0, locals := 200 }) (wd_P D cI cJ [.ref (h 0), .int (nI r), .int (nI i)] (sl_W cI cJ h (nI n) F Wt Sz Nu Mb (nI k) G Wk To Sl Ri (nI f) (nI b) oT oS oF (nI an) (nI as) Fo wo pa fa)) (mu_Q D (ad_A h 20) (some (.int 0)) (sl_W cI cJ h (nI n) F Wt Sz Nu (upd Mb (8 * r + 0) (nI p9)) (nI k) G Wk To (upd Sl i (-5)) Ri (nI f) (nI b) oT oS oF (nI an) (nI as) Fo wo pa fa)) 0 0 (ad_A h 20) := by
  refine Met.ofW (cc := cX5_workOn) (maxL := 4) (ret := (some .int)) (by decide) rfl ?_
  intro p e s m args below meth c s₁ B hml hv
  obtain ⟨rfl, hP, hK⟩ := hv
  have hx := B.exec
  have hb := B.bytes
  have hr := B.returns
  have hts := atoms_spec (ws := wsX5_workOn) B.pre
  have hown : s.vm.findClass RX5 = some m.cls := findClass_of_methodNamed B.named
  have hlocks := B.notSynchronized
  have hiX5 : ∀ w ∈ u_ws RX5 TX5 5, w ∈ wsX5_workOn := by decide +kernel
  have kf19 := hts (.fieldLink RX5 19 "SortingLine" "stations" "LSortingLine$Stations;") (by decide +kernel)
  have kf10 := hts (.fieldLink RX5 10 "SortingLine" "things" "LSortingLine$Things;") (by decide +kernel)
  have hS : va_S (ad_A h 20) s.heap s.heap [] := va_S.rf
  have hl := lv_entry ([.ref (h 0), .int (nI r), .int (nI i)]) (n := 4) (Nat.le_of_ble_eq_true rfl)
  rw [lg_entry_eq]
  generalize (lg_sl ([.ref (h 0), .int (nI r), .int (nI i)]) ++ List.replicate (4 - (lg_sl ([.ref (h 0), .int (nI r), .int (nI i)])).length) Slot.unset).toArray = ls at hl ⊢
  have hl : lv_has ls 4 [(0, .ref (h 0)), (1, .int (nI r)), (2, .int (nI i))] := hl
  refine lv_aload_n hx hb dX5_workOn_0 rfl (lv_at hl 0 rfl) ?_
  refine va_get (D := D) (ci := 5) (v := .ref (h 2)) (C := RX5) (T := TX5) (N := 5) hx hb hts hiX5 hown hK.1 hP 0 rfl rfl 1 (by decide) kf19 (fun _ h9 => h9) rfl dX5_workOn_1 ?_
  refine lv_iload_n hx hb dX5_workOn_4 rfl (lv_at hl 2 rfl) ?_
  refine pu_calli (va_runV (As := [.int (nI i)]) (rest := []) ⟨hx, hb, hml, hown, hts⟩ (c_X2_workOf hh hk i (by omega)) (cwV 1 hts gX5_workOn_X2_workOf rfl rfl rfl (by decide +kernel) ⟨Nat.le_of_ble_eq_true rfl, Nat.le_of_ble_eq_true rfl⟩) (wd_preV (ci := 2) (q0 := 2) hP hK rfl rfl) rfl rfl hl.1 rfl (lv_room (Nat.le_of_ble_eq_true rfl)) dX5_workOn_5 ⟨Nat.zero_le _, Nat.zero_le _⟩) ?_
  refine tp_i (y := 6) (hw) ?_
  refine lv_istore_n (lv' := [(3, .int 6), (0, .ref (h 0)), (1, .int (nI r)), (2, .int (nI i))]) hx hb dX5_workOn_8 rfl hl (by decide) rfl (fun ls hl => ?_)
  refine lv_aload_n hx hb dX5_workOn_9 rfl (lv_at hl 1 rfl) ?_
  refine va_get (D := D) (ci := 5) (v := .ref (h 1)) (C := RX5) (T := TX5) (N := 5) hx hb hts hiX5 hown hK.1 hP 0 rfl rfl 0 (by decide) kf10 (fun _ h9 => h9) rfl dX5_workOn_10 ?_
  refine lv_iload_n hx hb dX5_workOn_13 rfl (lv_at hl 2 rfl) ?_
  refine lv_iload_n hx hb dX5_workOn_14 rfl (lv_at hl 0 rfl) ?_
  refine pu_calli (va_runS (As := [.int 6]) (rest := [.int (nI r), .ref (h 1)]) ⟨hx, hb, hml, hown, hts⟩ (c_X5_kindForWork 6) (cwS 1 hts gX5_workOn_X5_kindForWork rfl rfl rfl (by decide +kernel) ⟨Nat.le_of_ble_eq_true rfl, Nat.le_of_ble_eq_true rfl⟩) (wd_preS hP hK) rfl rfl hl.1 rfl (lv_room (Nat.le_of_ble_eq_true rfl)) dX5_workOn_15 ⟨Nat.zero_le _, Nat.zero_le _⟩) ?_
  refine pu_callb (va_runV (As := [.int (nI r), .int (kfS 6)]) (rest := []) ⟨hx, hb, hml, hown, hts⟩ (c_X4_isOf hh hn r (by omega) (kfS 6)) (cwV 2 hts gX5_workOn_X4_isOf rfl rfl rfl (by decide +kernel) ⟨Nat.le_of_ble_eq_true rfl, Nat.le_of_ble_eq_true rfl⟩) (wd_preV (ci := 4) (q0 := 1) hP hK rfl rfl) rfl rfl hl.1 rfl (lv_room (Nat.le_of_ble_eq_true rfl)) dX5_workOn_18 ⟨Nat.zero_le _, Nat.zero_le _⟩) (fun _ => ?_) (fun h9 => absurd (hko) (by rw [h9]; decide))
  refine lv_if_ne (tgt := 26) hx hb dX5_workOn_21 (by decide) (fun _ => ?_) (fun h9 => absurd h9 (by decide))
  refine lv_iload_n hx hb dX5_workOn_26 rfl (lv_at hl 0 rfl) ?_
  refine lv_tableIn (off := 113) (tgt := 140) hx hb dX5_workOn_27 (by decide) (by decide) (by decide) (by decide) ?_
  refine lv_aload_n hx hb dX5_workOn_140 rfl (lv_at hl 1 rfl) ?_
  refine lv_iload_n hx hb dX5_workOn_141 rfl (lv_at hl 2 rfl) ?_
  refine lv_iload_n hx hb dX5_workOn_142 rfl (lv_at hl 3 rfl) ?_
  refine mu_calli (va_runV (As := [.int (nI r), .int (nI i)]) (rest := []) ⟨hx, hb, hml, hown, hts⟩ (c_X5_pack_pO hh hn hk r (by omega) i (by omega) p9 hp9 hs h1 h2 h3) (cwV 2 hts gX5_workOn_X5_pack rfl rfl rfl (by decide +kernel) ⟨Nat.le_of_ble_eq_true rfl, Nat.le_of_ble_eq_true rfl⟩) (wd_preV (ci := 5) (q0 := 0) hP hK rfl rfl) rfl rfl hl.1 rfl (lv_room (Nat.le_of_ble_eq_true rfl)) dX5_workOn_143 ⟨Nat.zero_le _, Nat.zero_le _⟩) hS (fun H locs hP hS => ?_)
  have hP : va_P D kC (sl_W cI cJ h (nI n) F Wt Sz Nu (upd Mb (8 * r + 0) (nI p9)) (nI k) G Wk To (upd Sl i (-5)) Ri (nI f) (nI b) oT oS oF (nI an) (nI as) Fo wo pa fa) H := hP
  refine lv_goto (tgt := 192) hx hb dX5_workOn_146 (by decide) ?_
  exact W.iret (v := 0) hx hb hr (fun t9 ht _ => ⟨congrArg (fun z => Outcome.returned (some (Value.int z))) (rfl), by rw [ht]; exact hP, hS.F ht⟩) hS.2.2 dX5_workOn_192
set_option maxHeartbeats 4000000 in
set_option maxRecDepth 100000 in
theorem c_X5_work_7f0 (hh : ad_ok h 20) (hn : n ≤ 100) (hk : k ≤ 8) (r : Nat) (hr9 : r < n) (i : Nat) (hi : i < k) (hw : Wk i = 7) (hko : ko (F r) (kfS 7) = true) (x : Nat) (hx9 : x = 2 ∨ x = 3) (ef : fafS Sz Mb r = nI x) : Met l yX5_workOn wsX5_workOn ({ frames := 6, cells := 0, slots := 0, locals := 200 }) (wd_P D cI cJ [.ref (h 0), .int (nI r), .int (nI i)] (sl_W cI cJ h (nI n) F Wt Sz Nu Mb (nI k) G Wk To Sl Ri (nI f) (nI b) oT oS oF (nI an) (nI as) Fo wo pa fa)) (pu_Q (some (.int (nI x)))) 0 0 (fun _ => False) := by
  refine Met.ofW (cc := cX5_workOn) (maxL := 4) (ret := (some .int)) (by decide) rfl ?_
  intro p e s m args below meth c s₁ B hml hv
  obtain ⟨rfl, hP, hK⟩ := hv
  have hx := B.exec
  have hb := B.bytes
  have hr := B.returns
  have hts := atoms_spec (ws := wsX5_workOn) B.pre
  have hown : s.vm.findClass RX5 = some m.cls := findClass_of_methodNamed B.named
  have hlocks := B.notSynchronized
  have hiX5 : ∀ w ∈ u_ws RX5 TX5 5, w ∈ wsX5_workOn := by decide +kernel
  have kf19 := hts (.fieldLink RX5 19 "SortingLine" "stations" "LSortingLine$Stations;") (by decide +kernel)
  have kf10 := hts (.fieldLink RX5 10 "SortingLine" "things" "LSortingLine$Things;") (by decide +kernel)
  have hl := lv_entry ([.ref (h 0), .int (nI r), .int (nI i)]) (n := 4) (Nat.le_of_ble_eq_true rfl)
  rw [lg_entry_eq]
  generalize (lg_sl ([.ref (h 0), .int (nI r), .int (nI i)]) ++ List.replicate (4 - (lg_sl ([.ref (h 0), .int (nI r), .int (nI i)])).length) Slot.unset).toArray = ls at hl ⊢
  have hl : lv_has ls 4 [(0, .ref (h 0)), (1, .int (nI r)), (2, .int (nI i))] := hl
  refine lv_aload_n hx hb dX5_workOn_0 rfl (lv_at hl 0 rfl) ?_
  refine va_get (D := D) (ci := 5) (v := .ref (h 2)) (C := RX5) (T := TX5) (N := 5) hx hb hts hiX5 hown hK.1 hP 0 rfl rfl 1 (by decide) kf19 (fun _ h9 => h9) rfl dX5_workOn_1 ?_
  refine lv_iload_n hx hb dX5_workOn_4 rfl (lv_at hl 2 rfl) ?_
  refine pu_calli (va_runV (As := [.int (nI i)]) (rest := []) ⟨hx, hb, hml, hown, hts⟩ (c_X2_workOf hh hk i (by omega)) (cwV 1 hts gX5_workOn_X2_workOf rfl rfl rfl (by decide +kernel) ⟨Nat.le_of_ble_eq_true rfl, Nat.le_of_ble_eq_true rfl⟩) (wd_preV (ci := 2) (q0 := 2) hP hK rfl rfl) rfl rfl hl.1 rfl (lv_room (Nat.le_of_ble_eq_true rfl)) dX5_workOn_5 ⟨Nat.zero_le _, Nat.zero_le _⟩) ?_
  refine tp_i (y := 7) (hw) ?_
  refine lv_istore_n (lv' := [(3, .int 7), (0, .ref (h 0)), (1, .int (nI r)), (2, .int (nI i))]) hx hb dX5_workOn_8 rfl hl (by decide) rfl (fun ls hl => ?_)
  refine lv_aload_n hx hb dX5_workOn_9 rfl (lv_at hl 1 rfl) ?_
  refine va_get (D := D) (ci := 5) (v := .ref (h 1)) (C := RX5) (T := TX5) (N := 5) hx hb hts hiX5 hown hK.1 hP 0 rfl rfl 0 (by decide) kf10 (fun _ h9 => h9) rfl dX5_workOn_10 ?_
  refine lv_iload_n hx hb dX5_workOn_13 rfl (lv_at hl 2 rfl) ?_
  refine lv_iload_n hx hb dX5_workOn_14 rfl (lv_at hl 0 rfl) ?_
  refine pu_calli (va_runS (As := [.int 7]) (rest := [.int (nI r), .ref (h 1)]) ⟨hx, hb, hml, hown, hts⟩ (c_X5_kindForWork 7) (cwS 1 hts gX5_workOn_X5_kindForWork rfl rfl rfl (by decide +kernel) ⟨Nat.le_of_ble_eq_true rfl, Nat.le_of_ble_eq_true rfl⟩) (wd_preS hP hK) rfl rfl hl.1 rfl (lv_room (Nat.le_of_ble_eq_true rfl)) dX5_workOn_15 ⟨Nat.zero_le _, Nat.zero_le _⟩) ?_
  refine pu_callb (va_runV (As := [.int (nI r), .int (kfS 7)]) (rest := []) ⟨hx, hb, hml, hown, hts⟩ (c_X4_isOf hh hn r (by omega) (kfS 7)) (cwV 2 hts gX5_workOn_X4_isOf rfl rfl rfl (by decide +kernel) ⟨Nat.le_of_ble_eq_true rfl, Nat.le_of_ble_eq_true rfl⟩) (wd_preV (ci := 4) (q0 := 1) hP hK rfl rfl) rfl rfl hl.1 rfl (lv_room (Nat.le_of_ble_eq_true rfl)) dX5_workOn_18 ⟨Nat.zero_le _, Nat.zero_le _⟩) (fun _ => ?_) (fun h9 => absurd (hko) (by rw [h9]; decide))
  refine lv_if_ne (tgt := 26) hx hb dX5_workOn_21 (by decide) (fun _ => ?_) (fun h9 => absurd h9 (by decide))
  refine lv_iload_n hx hb dX5_workOn_26 rfl (lv_at hl 0 rfl) ?_
  refine lv_tableIn (off := 122) (tgt := 149) hx hb dX5_workOn_27 (by decide) (by decide) (by decide) (by decide) ?_
  refine lv_aload_n hx hb dX5_workOn_149 rfl (lv_at hl 1 rfl) ?_
  refine lv_iload_n hx hb dX5_workOn_150 rfl (lv_at hl 2 rfl) ?_
  refine lv_iload_n hx hb dX5_workOn_151 rfl (lv_at hl 3 rfl) ?_
  refine lv_iconst (v := 2) hx hb dX5_workOn_152 (by decide) ?_
  refine pu_calli (va_runV (As := [.int (nI r), .int (nI i), .int 2]) (rest := []) ⟨hx, hb, hml, hown, hts⟩ (c_X5_corner2_f0 hh hn hk r (by omega) i (by omega) x hx9 ef) (cwV 3 hts gX5_workOn_X5_addCorner rfl rfl rfl (by decide +kernel) ⟨Nat.le_of_ble_eq_true rfl, Nat.le_of_ble_eq_true rfl⟩) (wd_preV (ci := 5) (q0 := 0) hP hK rfl rfl) rfl rfl hl.1 rfl (lv_room (Nat.le_of_ble_eq_true rfl)) dX5_workOn_153 ⟨Nat.zero_le _, Nat.zero_le _⟩) ?_
  refine lv_goto (tgt := 192) hx hb dX5_workOn_156 (by decide) ?_
  exact W.iret (v := nI x) hx hb hr (fun t9 ht _ => ⟨congrArg (fun z => Outcome.returned (some (Value.int z))) (rfl), ht⟩) (fun _ h9 => nomatch h9) dX5_workOn_192
set_option maxHeartbeats 4000000 in
set_option maxRecDepth 100000 in
theorem c_X5_work_7f1 (hh : ad_ok h 20) (hn : n ≤ 100) (hk : k ≤ 8) (r : Nat) (hr9 : r < n) (i : Nat) (hi : i < k) (hw : Wk i = 7) (hko : ko (F r) (kfS 7) = true) (p1 : Nat) (hp1 : p1 < n) (e0 : fafS Sz Mb r = 0) (m0 : Mb (8 * r + 0) = nI p1) (x : Nat) (hx9 : x = 2 ∨ x = 3) (ef : fafS Sz Mb p1 = nI x) : Met l yX5_workOn wsX5_workOn ({ frames := 6, cells := 0, slots := 0, locals := 200 }) (wd_P D cI cJ [.ref (h 0), .int (nI r), .int (nI i)] (sl_W cI cJ h (nI n) F Wt Sz Nu Mb (nI k) G Wk To Sl Ri (nI f) (nI b) oT oS oF (nI an) (nI as) Fo wo pa fa)) (pu_Q (some (.int (nI x)))) 0 0 (fun _ => False) := by
  refine Met.ofW (cc := cX5_workOn) (maxL := 4) (ret := (some .int)) (by decide) rfl ?_
  intro p e s m args below meth c s₁ B hml hv
  obtain ⟨rfl, hP, hK⟩ := hv
  have hx := B.exec
  have hb := B.bytes
  have hr := B.returns
  have hts := atoms_spec (ws := wsX5_workOn) B.pre
  have hown : s.vm.findClass RX5 = some m.cls := findClass_of_methodNamed B.named
  have hlocks := B.notSynchronized
  have hiX5 : ∀ w ∈ u_ws RX5 TX5 5, w ∈ wsX5_workOn := by decide +kernel
  have kf19 := hts (.fieldLink RX5 19 "SortingLine" "stations" "LSortingLine$Stations;") (by decide +kernel)
  have kf10 := hts (.fieldLink RX5 10 "SortingLine" "things" "LSortingLine$Things;") (by decide +kernel)
  have hl := lv_entry ([.ref (h 0), .int (nI r), .int (nI i)]) (n := 4) (Nat.le_of_ble_eq_true rfl)
  rw [lg_entry_eq]
  generalize (lg_sl ([.ref (h 0), .int (nI r), .int (nI i)]) ++ List.replicate (4 - (lg_sl ([.ref (h 0), .int (nI r), .int (nI i)])).length) Slot.unset).toArray = ls at hl ⊢
  have hl : lv_has ls 4 [(0, .ref (h 0)), (1, .int (nI r)), (2, .int (nI i))] := hl
  refine lv_aload_n hx hb dX5_workOn_0 rfl (lv_at hl 0 rfl) ?_
  refine va_get (D := D) (ci := 5) (v := .ref (h 2)) (C := RX5) (T := TX5) (N := 5) hx hb hts hiX5 hown hK.1 hP 0 rfl rfl 1 (by decide) kf19 (fun _ h9 => h9) rfl dX5_workOn_1 ?_
  refine lv_iload_n hx hb dX5_workOn_4 rfl (lv_at hl 2 rfl) ?_
  refine pu_calli (va_runV (As := [.int (nI i)]) (rest := []) ⟨hx, hb, hml, hown, hts⟩ (c_X2_workOf hh hk i (by omega)) (cwV 1 hts gX5_workOn_X2_workOf rfl rfl rfl (by decide +kernel) ⟨Nat.le_of_ble_eq_true rfl, Nat.le_of_ble_eq_true rfl⟩) (wd_preV (ci := 2) (q0 := 2) hP hK rfl rfl) rfl rfl hl.1 rfl (lv_room (Nat.le_of_ble_eq_true rfl)) dX5_workOn_5 ⟨Nat.zero_le _, Nat.zero_le _⟩) ?_
  refine tp_i (y := 7) (hw) ?_
  refine lv_istore_n (lv' := [(3, .int 7), (0, .ref (h 0)), (1, .int (nI r)), (2, .int (nI i))]) hx hb dX5_workOn_8 rfl hl (by decide) rfl (fun ls hl => ?_)
  refine lv_aload_n hx hb dX5_workOn_9 rfl (lv_at hl 1 rfl) ?_
  refine va_get (D := D) (ci := 5) (v := .ref (h 1)) (C := RX5) (T := TX5) (N := 5) hx hb hts hiX5 hown hK.1 hP 0 rfl rfl 0 (by decide) kf10 (fun _ h9 => h9) rfl dX5_workOn_10 ?_
  refine lv_iload_n hx hb dX5_workOn_13 rfl (lv_at hl 2 rfl) ?_
  refine lv_iload_n hx hb dX5_workOn_14 rfl (lv_at hl 0 rfl) ?_
  refine pu_calli (va_runS (As := [.int 7]) (rest := [.int (nI r), .ref (h 1)]) ⟨hx, hb, hml, hown, hts⟩ (c_X5_kindForWork 7) (cwS 1 hts gX5_workOn_X5_kindForWork rfl rfl rfl (by decide +kernel) ⟨Nat.le_of_ble_eq_true rfl, Nat.le_of_ble_eq_true rfl⟩) (wd_preS hP hK) rfl rfl hl.1 rfl (lv_room (Nat.le_of_ble_eq_true rfl)) dX5_workOn_15 ⟨Nat.zero_le _, Nat.zero_le _⟩) ?_
  refine pu_callb (va_runV (As := [.int (nI r), .int (kfS 7)]) (rest := []) ⟨hx, hb, hml, hown, hts⟩ (c_X4_isOf hh hn r (by omega) (kfS 7)) (cwV 2 hts gX5_workOn_X4_isOf rfl rfl rfl (by decide +kernel) ⟨Nat.le_of_ble_eq_true rfl, Nat.le_of_ble_eq_true rfl⟩) (wd_preV (ci := 4) (q0 := 1) hP hK rfl rfl) rfl rfl hl.1 rfl (lv_room (Nat.le_of_ble_eq_true rfl)) dX5_workOn_18 ⟨Nat.zero_le _, Nat.zero_le _⟩) (fun _ => ?_) (fun h9 => absurd (hko) (by rw [h9]; decide))
  refine lv_if_ne (tgt := 26) hx hb dX5_workOn_21 (by decide) (fun _ => ?_) (fun h9 => absurd h9 (by decide))
  refine lv_iload_n hx hb dX5_workOn_26 rfl (lv_at hl 0 rfl) ?_
  refine lv_tableIn (off := 122) (tgt := 149) hx hb dX5_workOn_27 (by decide) (by decide) (by decide) (by decide) ?_
  refine lv_aload_n hx hb dX5_workOn_149 rfl (lv_at hl 1 rfl) ?_
  refine lv_iload_n hx hb dX5_workOn_150 rfl (lv_at hl 2 rfl) ?_
  refine lv_iload_n hx hb dX5_workOn_151 rfl (lv_at hl 3 rfl) ?_
  refine lv_iconst (v := 2) hx hb dX5_workOn_152 (by decide) ?_
  refine pu_calli (va_runV (As := [.int (nI r), .int (nI i), .int 2]) (rest := []) ⟨hx, hb, hml, hown, hts⟩ (c_X5_corner2_f1 hh hn hk r (by omega) i (by omega) p1 hp1 e0 m0 x hx9 ef) (cwV 3 hts gX5_workOn_X5_addCorner rfl rfl rfl (by decide +kernel) ⟨Nat.le_of_ble_eq_true rfl, Nat.le_of_ble_eq_true rfl⟩) (wd_preV (ci := 5) (q0 := 0) hP hK rfl rfl) rfl rfl hl.1 rfl (lv_room (Nat.le_of_ble_eq_true rfl)) dX5_workOn_153 ⟨Nat.zero_le _, Nat.zero_le _⟩) ?_
  refine lv_goto (tgt := 192) hx hb dX5_workOn_156 (by decide) ?_
  exact W.iret (v := nI x) hx hb hr (fun t9 ht _ => ⟨congrArg (fun z => Outcome.returned (some (Value.int z))) (rfl), ht⟩) (fun _ h9 => nomatch h9) dX5_workOn_192
set_option maxHeartbeats 4000000 in
set_option maxRecDepth 100000 in
theorem c_X5_work_7o (hh : ad_ok h 20) (hn : n ≤ 100) (hk : k ≤ 8) (r : Nat) (hr9 : r < n) (i : Nat) (hi : i < k) (hw : Wk i = 7) (hko : ko (F r) (kfS 7) = true) (p1 : Nat) (hp1 : p1 < n) (p2 : Nat) (hp2 : p2 < n) (e0 : fafS Sz Mb r = 0) (m0 : Mb (8 * r + 0) = nI p1) (e1 : fafS Sz Mb p1 = 0) (m1 : Mb (8 * p1 + 0) = nI p2) : Met l yX5_workOn wsX5_workOn ({ frames := 6, cells := 0, slots := 0, locals := 200 }) (wd_P D cI cJ [.ref (h 0), .int (nI r), .int (nI i)] (sl_W cI cJ h (nI n) F Wt Sz Nu Mb (nI k) G Wk To Sl Ri (nI f) (nI b) oT oS oF (nI an) (nI as) Fo wo pa fa)) (mu_Q D (ad_A h 20) (some (.int 0)) (sl_W cI cJ h (nI n) F Wt Sz Nu Mb (nI k) G Wk (vp_updL To i (To i + Int32.toInt64 (Wt p2))) Sl Ri (nI f) (nI b) oT oS oF (nI an) (nI as) Fo wo pa fa)) 0 0 (ad_A h 20) := by
  refine Met.ofW (cc := cX5_workOn) (maxL := 4) (ret := (some .int)) (by decide) rfl ?_
  intro p e s m args below meth c s₁ B hml hv
  obtain ⟨rfl, hP, hK⟩ := hv
  have hx := B.exec
  have hb := B.bytes
  have hr := B.returns
  have hts := atoms_spec (ws := wsX5_workOn) B.pre
  have hown : s.vm.findClass RX5 = some m.cls := findClass_of_methodNamed B.named
  have hlocks := B.notSynchronized
  have hiX5 : ∀ w ∈ u_ws RX5 TX5 5, w ∈ wsX5_workOn := by decide +kernel
  have kf19 := hts (.fieldLink RX5 19 "SortingLine" "stations" "LSortingLine$Stations;") (by decide +kernel)
  have kf10 := hts (.fieldLink RX5 10 "SortingLine" "things" "LSortingLine$Things;") (by decide +kernel)
  have hS : va_S (ad_A h 20) s.heap s.heap [] := va_S.rf
  have hl := lv_entry ([.ref (h 0), .int (nI r), .int (nI i)]) (n := 4) (Nat.le_of_ble_eq_true rfl)
  rw [lg_entry_eq]
  generalize (lg_sl ([.ref (h 0), .int (nI r), .int (nI i)]) ++ List.replicate (4 - (lg_sl ([.ref (h 0), .int (nI r), .int (nI i)])).length) Slot.unset).toArray = ls at hl ⊢
  have hl : lv_has ls 4 [(0, .ref (h 0)), (1, .int (nI r)), (2, .int (nI i))] := hl
  refine lv_aload_n hx hb dX5_workOn_0 rfl (lv_at hl 0 rfl) ?_
  refine va_get (D := D) (ci := 5) (v := .ref (h 2)) (C := RX5) (T := TX5) (N := 5) hx hb hts hiX5 hown hK.1 hP 0 rfl rfl 1 (by decide) kf19 (fun _ h9 => h9) rfl dX5_workOn_1 ?_
  refine lv_iload_n hx hb dX5_workOn_4 rfl (lv_at hl 2 rfl) ?_
  refine pu_calli (va_runV (As := [.int (nI i)]) (rest := []) ⟨hx, hb, hml, hown, hts⟩ (c_X2_workOf hh hk i (by omega)) (cwV 1 hts gX5_workOn_X2_workOf rfl rfl rfl (by decide +kernel) ⟨Nat.le_of_ble_eq_true rfl, Nat.le_of_ble_eq_true rfl⟩) (wd_preV (ci := 2) (q0 := 2) hP hK rfl rfl) rfl rfl hl.1 rfl (lv_room (Nat.le_of_ble_eq_true rfl)) dX5_workOn_5 ⟨Nat.zero_le _, Nat.zero_le _⟩) ?_
  refine tp_i (y := 7) (hw) ?_
  refine lv_istore_n (lv' := [(3, .int 7), (0, .ref (h 0)), (1, .int (nI r)), (2, .int (nI i))]) hx hb dX5_workOn_8 rfl hl (by decide) rfl (fun ls hl => ?_)
  refine lv_aload_n hx hb dX5_workOn_9 rfl (lv_at hl 1 rfl) ?_
  refine va_get (D := D) (ci := 5) (v := .ref (h 1)) (C := RX5) (T := TX5) (N := 5) hx hb hts hiX5 hown hK.1 hP 0 rfl rfl 0 (by decide) kf10 (fun _ h9 => h9) rfl dX5_workOn_10 ?_
  refine lv_iload_n hx hb dX5_workOn_13 rfl (lv_at hl 2 rfl) ?_
  refine lv_iload_n hx hb dX5_workOn_14 rfl (lv_at hl 0 rfl) ?_
  refine pu_calli (va_runS (As := [.int 7]) (rest := [.int (nI r), .ref (h 1)]) ⟨hx, hb, hml, hown, hts⟩ (c_X5_kindForWork 7) (cwS 1 hts gX5_workOn_X5_kindForWork rfl rfl rfl (by decide +kernel) ⟨Nat.le_of_ble_eq_true rfl, Nat.le_of_ble_eq_true rfl⟩) (wd_preS hP hK) rfl rfl hl.1 rfl (lv_room (Nat.le_of_ble_eq_true rfl)) dX5_workOn_15 ⟨Nat.zero_le _, Nat.zero_le _⟩) ?_
  refine pu_callb (va_runV (As := [.int (nI r), .int (kfS 7)]) (rest := []) ⟨hx, hb, hml, hown, hts⟩ (c_X4_isOf hh hn r (by omega) (kfS 7)) (cwV 2 hts gX5_workOn_X4_isOf rfl rfl rfl (by decide +kernel) ⟨Nat.le_of_ble_eq_true rfl, Nat.le_of_ble_eq_true rfl⟩) (wd_preV (ci := 4) (q0 := 1) hP hK rfl rfl) rfl rfl hl.1 rfl (lv_room (Nat.le_of_ble_eq_true rfl)) dX5_workOn_18 ⟨Nat.zero_le _, Nat.zero_le _⟩) (fun _ => ?_) (fun h9 => absurd (hko) (by rw [h9]; decide))
  refine lv_if_ne (tgt := 26) hx hb dX5_workOn_21 (by decide) (fun _ => ?_) (fun h9 => absurd h9 (by decide))
  refine lv_iload_n hx hb dX5_workOn_26 rfl (lv_at hl 0 rfl) ?_
  refine lv_tableIn (off := 122) (tgt := 149) hx hb dX5_workOn_27 (by decide) (by decide) (by decide) (by decide) ?_
  refine lv_aload_n hx hb dX5_workOn_149 rfl (lv_at hl 1 rfl) ?_
  refine lv_iload_n hx hb dX5_workOn_150 rfl (lv_at hl 2 rfl) ?_
  refine lv_iload_n hx hb dX5_workOn_151 rfl (lv_at hl 3 rfl) ?_
  refine lv_iconst (v := 2) hx hb dX5_workOn_152 (by decide) ?_
  refine mu_calli (va_runV (As := [.int (nI r), .int (nI i), .int 2]) (rest := []) ⟨hx, hb, hml, hown, hts⟩ (c_X5_corner2_o hh hn hk r (by omega) i (by omega) p1 hp1 p2 hp2 e0 m0 e1 m1) (cwV 3 hts gX5_workOn_X5_addCorner rfl rfl rfl (by decide +kernel) ⟨Nat.le_of_ble_eq_true rfl, Nat.le_of_ble_eq_true rfl⟩) (wd_preV (ci := 5) (q0 := 0) hP hK rfl rfl) rfl rfl hl.1 rfl (lv_room (Nat.le_of_ble_eq_true rfl)) dX5_workOn_153 ⟨Nat.zero_le _, Nat.zero_le _⟩) hS (fun H locs hP hS => ?_)
  have hP : va_P D kC (sl_W cI cJ h (nI n) F Wt Sz Nu Mb (nI k) G Wk (vp_updL To i (To i + Int32.toInt64 (Wt p2))) Sl Ri (nI f) (nI b) oT oS oF (nI an) (nI as) Fo wo pa fa) H := hP
  refine lv_goto (tgt := 192) hx hb dX5_workOn_156 (by decide) ?_
  exact W.iret (v := 0) hx hb hr (fun t9 ht _ => ⟨congrArg (fun z => Outcome.returned (some (Value.int z))) (rfl), by rw [ht]; exact hP, hS.F ht⟩) hS.2.2 dX5_workOn_192
set_option maxHeartbeats 4000000 in
set_option maxRecDepth 100000 in
theorem c_X5_work_9f0 (hh : ad_ok h 20) (hn : n ≤ 100) (hk : k ≤ 8) (r : Nat) (hr9 : r < n) (i : Nat) (hi : i < k) (hw : Wk i = 9) (hko : ko (F r) (kfS 9) = true) (x : Nat) (hx9 : x = 2 ∨ x = 3) (ef : fafS Sz Mb r = nI x) : Met l yX5_workOn wsX5_workOn ({ frames := 6, cells := 0, slots := 0, locals := 200 }) (wd_P D cI cJ [.ref (h 0), .int (nI r), .int (nI i)] (sl_W cI cJ h (nI n) F Wt Sz Nu Mb (nI k) G Wk To Sl Ri (nI f) (nI b) oT oS oF (nI an) (nI as) Fo wo pa fa)) (pu_Q (some (.int (nI x)))) 0 0 (fun _ => False) := by
  refine Met.ofW (cc := cX5_workOn) (maxL := 4) (ret := (some .int)) (by decide) rfl ?_
  intro p e s m args below meth c s₁ B hml hv
  obtain ⟨rfl, hP, hK⟩ := hv
  have hx := B.exec
  have hb := B.bytes
  have hr := B.returns
  have hts := atoms_spec (ws := wsX5_workOn) B.pre
  have hown : s.vm.findClass RX5 = some m.cls := findClass_of_methodNamed B.named
  have hlocks := B.notSynchronized
  have hiX5 : ∀ w ∈ u_ws RX5 TX5 5, w ∈ wsX5_workOn := by decide +kernel
  have kf19 := hts (.fieldLink RX5 19 "SortingLine" "stations" "LSortingLine$Stations;") (by decide +kernel)
  have kf10 := hts (.fieldLink RX5 10 "SortingLine" "things" "LSortingLine$Things;") (by decide +kernel)
  have hl := lv_entry ([.ref (h 0), .int (nI r), .int (nI i)]) (n := 4) (Nat.le_of_ble_eq_true rfl)
  rw [lg_entry_eq]
  generalize (lg_sl ([.ref (h 0), .int (nI r), .int (nI i)]) ++ List.replicate (4 - (lg_sl ([.ref (h 0), .int (nI r), .int (nI i)])).length) Slot.unset).toArray = ls at hl ⊢
  have hl : lv_has ls 4 [(0, .ref (h 0)), (1, .int (nI r)), (2, .int (nI i))] := hl
  refine lv_aload_n hx hb dX5_workOn_0 rfl (lv_at hl 0 rfl) ?_
  refine va_get (D := D) (ci := 5) (v := .ref (h 2)) (C := RX5) (T := TX5) (N := 5) hx hb hts hiX5 hown hK.1 hP 0 rfl rfl 1 (by decide) kf19 (fun _ h9 => h9) rfl dX5_workOn_1 ?_
  refine lv_iload_n hx hb dX5_workOn_4 rfl (lv_at hl 2 rfl) ?_
  refine pu_calli (va_runV (As := [.int (nI i)]) (rest := []) ⟨hx, hb, hml, hown, hts⟩ (c_X2_workOf hh hk i (by omega)) (cwV 1 hts gX5_workOn_X2_workOf rfl rfl rfl (by decide +kernel) ⟨Nat.le_of_ble_eq_true rfl, Nat.le_of_ble_eq_true rfl⟩) (wd_preV (ci := 2) (q0 := 2) hP hK rfl rfl) rfl rfl hl.1 rfl (lv_room (Nat.le_of_ble_eq_true rfl)) dX5_workOn_5 ⟨Nat.zero_le _, Nat.zero_le _⟩) ?_
  refine tp_i (y := 9) (hw) ?_
  refine lv_istore_n (lv' := [(3, .int 9), (0, .ref (h 0)), (1, .int (nI r)), (2, .int (nI i))]) hx hb dX5_workOn_8 rfl hl (by decide) rfl (fun ls hl => ?_)
  refine lv_aload_n hx hb dX5_workOn_9 rfl (lv_at hl 1 rfl) ?_
  refine va_get (D := D) (ci := 5) (v := .ref (h 1)) (C := RX5) (T := TX5) (N := 5) hx hb hts hiX5 hown hK.1 hP 0 rfl rfl 0 (by decide) kf10 (fun _ h9 => h9) rfl dX5_workOn_10 ?_
  refine lv_iload_n hx hb dX5_workOn_13 rfl (lv_at hl 2 rfl) ?_
  refine lv_iload_n hx hb dX5_workOn_14 rfl (lv_at hl 0 rfl) ?_
  refine pu_calli (va_runS (As := [.int 9]) (rest := [.int (nI r), .ref (h 1)]) ⟨hx, hb, hml, hown, hts⟩ (c_X5_kindForWork 9) (cwS 1 hts gX5_workOn_X5_kindForWork rfl rfl rfl (by decide +kernel) ⟨Nat.le_of_ble_eq_true rfl, Nat.le_of_ble_eq_true rfl⟩) (wd_preS hP hK) rfl rfl hl.1 rfl (lv_room (Nat.le_of_ble_eq_true rfl)) dX5_workOn_15 ⟨Nat.zero_le _, Nat.zero_le _⟩) ?_
  refine pu_callb (va_runV (As := [.int (nI r), .int (kfS 9)]) (rest := []) ⟨hx, hb, hml, hown, hts⟩ (c_X4_isOf hh hn r (by omega) (kfS 9)) (cwV 2 hts gX5_workOn_X4_isOf rfl rfl rfl (by decide +kernel) ⟨Nat.le_of_ble_eq_true rfl, Nat.le_of_ble_eq_true rfl⟩) (wd_preV (ci := 4) (q0 := 1) hP hK rfl rfl) rfl rfl hl.1 rfl (lv_room (Nat.le_of_ble_eq_true rfl)) dX5_workOn_18 ⟨Nat.zero_le _, Nat.zero_le _⟩) (fun _ => ?_) (fun h9 => absurd (hko) (by rw [h9]; decide))
  refine lv_if_ne (tgt := 26) hx hb dX5_workOn_21 (by decide) (fun _ => ?_) (fun h9 => absurd h9 (by decide))
  refine lv_iload_n hx hb dX5_workOn_26 rfl (lv_at hl 0 rfl) ?_
  refine lv_tableIn (off := 141) (tgt := 168) hx hb dX5_workOn_27 (by decide) (by decide) (by decide) (by decide) ?_
  refine lv_aload_n hx hb dX5_workOn_168 rfl (lv_at hl 1 rfl) ?_
  refine lv_iload_n hx hb dX5_workOn_169 rfl (lv_at hl 2 rfl) ?_
  refine lv_iload_n hx hb dX5_workOn_170 rfl (lv_at hl 3 rfl) ?_
  refine lv_iconst (v := 3) hx hb dX5_workOn_171 (by decide) ?_
  refine pu_calli (va_runV (As := [.int (nI r), .int (nI i), .int 3]) (rest := []) ⟨hx, hb, hml, hown, hts⟩ (c_X5_corner3_f0 hh hn hk r (by omega) i (by omega) x hx9 ef) (cwV 3 hts gX5_workOn_X5_addCorner rfl rfl rfl (by decide +kernel) ⟨Nat.le_of_ble_eq_true rfl, Nat.le_of_ble_eq_true rfl⟩) (wd_preV (ci := 5) (q0 := 0) hP hK rfl rfl) rfl rfl hl.1 rfl (lv_room (Nat.le_of_ble_eq_true rfl)) dX5_workOn_172 ⟨Nat.zero_le _, Nat.zero_le _⟩) ?_
  refine lv_goto (tgt := 192) hx hb dX5_workOn_175 (by decide) ?_
  exact W.iret (v := nI x) hx hb hr (fun t9 ht _ => ⟨congrArg (fun z => Outcome.returned (some (Value.int z))) (rfl), ht⟩) (fun _ h9 => nomatch h9) dX5_workOn_192
set_option maxHeartbeats 4000000 in
set_option maxRecDepth 100000 in
theorem c_X5_work_9f1 (hh : ad_ok h 20) (hn : n ≤ 100) (hk : k ≤ 8) (r : Nat) (hr9 : r < n) (i : Nat) (hi : i < k) (hw : Wk i = 9) (hko : ko (F r) (kfS 9) = true) (p1 : Nat) (hp1 : p1 < n) (e0 : fafS Sz Mb r = 0) (m0 : Mb (8 * r + 0) = nI p1) (x : Nat) (hx9 : x = 2 ∨ x = 3) (ef : fafS Sz Mb p1 = nI x) : Met l yX5_workOn wsX5_workOn ({ frames := 6, cells := 0, slots := 0, locals := 200 }) (wd_P D cI cJ [.ref (h 0), .int (nI r), .int (nI i)] (sl_W cI cJ h (nI n) F Wt Sz Nu Mb (nI k) G Wk To Sl Ri (nI f) (nI b) oT oS oF (nI an) (nI as) Fo wo pa fa)) (pu_Q (some (.int (nI x)))) 0 0 (fun _ => False) := by
  refine Met.ofW (cc := cX5_workOn) (maxL := 4) (ret := (some .int)) (by decide) rfl ?_
  intro p e s m args below meth c s₁ B hml hv
  obtain ⟨rfl, hP, hK⟩ := hv
  have hx := B.exec
  have hb := B.bytes
  have hr := B.returns
  have hts := atoms_spec (ws := wsX5_workOn) B.pre
  have hown : s.vm.findClass RX5 = some m.cls := findClass_of_methodNamed B.named
  have hlocks := B.notSynchronized
  have hiX5 : ∀ w ∈ u_ws RX5 TX5 5, w ∈ wsX5_workOn := by decide +kernel
  have kf19 := hts (.fieldLink RX5 19 "SortingLine" "stations" "LSortingLine$Stations;") (by decide +kernel)
  have kf10 := hts (.fieldLink RX5 10 "SortingLine" "things" "LSortingLine$Things;") (by decide +kernel)
  have hl := lv_entry ([.ref (h 0), .int (nI r), .int (nI i)]) (n := 4) (Nat.le_of_ble_eq_true rfl)
  rw [lg_entry_eq]
  generalize (lg_sl ([.ref (h 0), .int (nI r), .int (nI i)]) ++ List.replicate (4 - (lg_sl ([.ref (h 0), .int (nI r), .int (nI i)])).length) Slot.unset).toArray = ls at hl ⊢
  have hl : lv_has ls 4 [(0, .ref (h 0)), (1, .int (nI r)), (2, .int (nI i))] := hl
  refine lv_aload_n hx hb dX5_workOn_0 rfl (lv_at hl 0 rfl) ?_
  refine va_get (D := D) (ci := 5) (v := .ref (h 2)) (C := RX5) (T := TX5) (N := 5) hx hb hts hiX5 hown hK.1 hP 0 rfl rfl 1 (by decide) kf19 (fun _ h9 => h9) rfl dX5_workOn_1 ?_
  refine lv_iload_n hx hb dX5_workOn_4 rfl (lv_at hl 2 rfl) ?_
  refine pu_calli (va_runV (As := [.int (nI i)]) (rest := []) ⟨hx, hb, hml, hown, hts⟩ (c_X2_workOf hh hk i (by omega)) (cwV 1 hts gX5_workOn_X2_workOf rfl rfl rfl (by decide +kernel) ⟨Nat.le_of_ble_eq_true rfl, Nat.le_of_ble_eq_true rfl⟩) (wd_preV (ci := 2) (q0 := 2) hP hK rfl rfl) rfl rfl hl.1 rfl (lv_room (Nat.le_of_ble_eq_true rfl)) dX5_workOn_5 ⟨Nat.zero_le _, Nat.zero_le _⟩) ?_
  refine tp_i (y := 9) (hw) ?_
  refine lv_istore_n (lv' := [(3, .int 9), (0, .ref (h 0)), (1, .int (nI r)), (2, .int (nI i))]) hx hb dX5_workOn_8 rfl hl (by decide) rfl (fun ls hl => ?_)
  refine lv_aload_n hx hb dX5_workOn_9 rfl (lv_at hl 1 rfl) ?_
  refine va_get (D := D) (ci := 5) (v := .ref (h 1)) (C := RX5) (T := TX5) (N := 5) hx hb hts hiX5 hown hK.1 hP 0 rfl rfl 0 (by decide) kf10 (fun _ h9 => h9) rfl dX5_workOn_10 ?_
  refine lv_iload_n hx hb dX5_workOn_13 rfl (lv_at hl 2 rfl) ?_
  refine lv_iload_n hx hb dX5_workOn_14 rfl (lv_at hl 0 rfl) ?_
  refine pu_calli (va_runS (As := [.int 9]) (rest := [.int (nI r), .ref (h 1)]) ⟨hx, hb, hml, hown, hts⟩ (c_X5_kindForWork 9) (cwS 1 hts gX5_workOn_X5_kindForWork rfl rfl rfl (by decide +kernel) ⟨Nat.le_of_ble_eq_true rfl, Nat.le_of_ble_eq_true rfl⟩) (wd_preS hP hK) rfl rfl hl.1 rfl (lv_room (Nat.le_of_ble_eq_true rfl)) dX5_workOn_15 ⟨Nat.zero_le _, Nat.zero_le _⟩) ?_
  refine pu_callb (va_runV (As := [.int (nI r), .int (kfS 9)]) (rest := []) ⟨hx, hb, hml, hown, hts⟩ (c_X4_isOf hh hn r (by omega) (kfS 9)) (cwV 2 hts gX5_workOn_X4_isOf rfl rfl rfl (by decide +kernel) ⟨Nat.le_of_ble_eq_true rfl, Nat.le_of_ble_eq_true rfl⟩) (wd_preV (ci := 4) (q0 := 1) hP hK rfl rfl) rfl rfl hl.1 rfl (lv_room (Nat.le_of_ble_eq_true rfl)) dX5_workOn_18 ⟨Nat.zero_le _, Nat.zero_le _⟩) (fun _ => ?_) (fun h9 => absurd (hko) (by rw [h9]; decide))
  refine lv_if_ne (tgt := 26) hx hb dX5_workOn_21 (by decide) (fun _ => ?_) (fun h9 => absurd h9 (by decide))
  refine lv_iload_n hx hb dX5_workOn_26 rfl (lv_at hl 0 rfl) ?_
  refine lv_tableIn (off := 141) (tgt := 168) hx hb dX5_workOn_27 (by decide) (by decide) (by decide) (by decide) ?_
  refine lv_aload_n hx hb dX5_workOn_168 rfl (lv_at hl 1 rfl) ?_
  refine lv_iload_n hx hb dX5_workOn_169 rfl (lv_at hl 2 rfl) ?_
  refine lv_iload_n hx hb dX5_workOn_170 rfl (lv_at hl 3 rfl) ?_
  refine lv_iconst (v := 3) hx hb dX5_workOn_171 (by decide) ?_
  refine pu_calli (va_runV (As := [.int (nI r), .int (nI i), .int 3]) (rest := []) ⟨hx, hb, hml, hown, hts⟩ (c_X5_corner3_f1 hh hn hk r (by omega) i (by omega) p1 hp1 e0 m0 x hx9 ef) (cwV 3 hts gX5_workOn_X5_addCorner rfl rfl rfl (by decide +kernel) ⟨Nat.le_of_ble_eq_true rfl, Nat.le_of_ble_eq_true rfl⟩) (wd_preV (ci := 5) (q0 := 0) hP hK rfl rfl) rfl rfl hl.1 rfl (lv_room (Nat.le_of_ble_eq_true rfl)) dX5_workOn_172 ⟨Nat.zero_le _, Nat.zero_le _⟩) ?_
  refine lv_goto (tgt := 192) hx hb dX5_workOn_175 (by decide) ?_
  exact W.iret (v := nI x) hx hb hr (fun t9 ht _ => ⟨congrArg (fun z => Outcome.returned (some (Value.int z))) (rfl), ht⟩) (fun _ h9 => nomatch h9) dX5_workOn_192
set_option maxHeartbeats 4000000 in
set_option maxRecDepth 100000 in
theorem c_X5_work_9f2 (hh : ad_ok h 20) (hn : n ≤ 100) (hk : k ≤ 8) (r : Nat) (hr9 : r < n) (i : Nat) (hi : i < k) (hw : Wk i = 9) (hko : ko (F r) (kfS 9) = true) (p1 : Nat) (hp1 : p1 < n) (p2 : Nat) (hp2 : p2 < n) (e0 : fafS Sz Mb r = 0) (m0 : Mb (8 * r + 0) = nI p1) (e1 : fafS Sz Mb p1 = 0) (m1 : Mb (8 * p1 + 0) = nI p2) (x : Nat) (hx9 : x = 2 ∨ x = 3) (ef : fafS Sz Mb p2 = nI x) : Met l yX5_workOn wsX5_workOn ({ frames := 6, cells := 0, slots := 0, locals := 200 }) (wd_P D cI cJ [.ref (h 0), .int (nI r), .int (nI i)] (sl_W cI cJ h (nI n) F Wt Sz Nu Mb (nI k) G Wk To Sl Ri (nI f) (nI b) oT oS oF (nI an) (nI as) Fo wo pa fa)) (pu_Q (some (.int (nI x)))) 0 0 (fun _ => False) := by
  refine Met.ofW (cc := cX5_workOn) (maxL := 4) (ret := (some .int)) (by decide) rfl ?_
  intro p e s m args below meth c s₁ B hml hv
  obtain ⟨rfl, hP, hK⟩ := hv
  have hx := B.exec
  have hb := B.bytes
  have hr := B.returns
  have hts := atoms_spec (ws := wsX5_workOn) B.pre
  have hown : s.vm.findClass RX5 = some m.cls := findClass_of_methodNamed B.named
  have hlocks := B.notSynchronized
  have hiX5 : ∀ w ∈ u_ws RX5 TX5 5, w ∈ wsX5_workOn := by decide +kernel
  have kf19 := hts (.fieldLink RX5 19 "SortingLine" "stations" "LSortingLine$Stations;") (by decide +kernel)
  have kf10 := hts (.fieldLink RX5 10 "SortingLine" "things" "LSortingLine$Things;") (by decide +kernel)
  have hl := lv_entry ([.ref (h 0), .int (nI r), .int (nI i)]) (n := 4) (Nat.le_of_ble_eq_true rfl)
  rw [lg_entry_eq]
  generalize (lg_sl ([.ref (h 0), .int (nI r), .int (nI i)]) ++ List.replicate (4 - (lg_sl ([.ref (h 0), .int (nI r), .int (nI i)])).length) Slot.unset).toArray = ls at hl ⊢
  have hl : lv_has ls 4 [(0, .ref (h 0)), (1, .int (nI r)), (2, .int (nI i))] := hl
  refine lv_aload_n hx hb dX5_workOn_0 rfl (lv_at hl 0 rfl) ?_
  refine va_get (D := D) (ci := 5) (v := .ref (h 2)) (C := RX5) (T := TX5) (N := 5) hx hb hts hiX5 hown hK.1 hP 0 rfl rfl 1 (by decide) kf19 (fun _ h9 => h9) rfl dX5_workOn_1 ?_
  refine lv_iload_n hx hb dX5_workOn_4 rfl (lv_at hl 2 rfl) ?_
  refine pu_calli (va_runV (As := [.int (nI i)]) (rest := []) ⟨hx, hb, hml, hown, hts⟩ (c_X2_workOf hh hk i (by omega)) (cwV 1 hts gX5_workOn_X2_workOf rfl rfl rfl (by decide +kernel) ⟨Nat.le_of_ble_eq_true rfl, Nat.le_of_ble_eq_true rfl⟩) (wd_preV (ci := 2) (q0 := 2) hP hK rfl rfl) rfl rfl hl.1 rfl (lv_room (Nat.le_of_ble_eq_true rfl)) dX5_workOn_5 ⟨Nat.zero_le _, Nat.zero_le _⟩) ?_
  refine tp_i (y := 9) (hw) ?_
  refine lv_istore_n (lv' := [(3, .int 9), (0, .ref (h 0)), (1, .int (nI r)), (2, .int (nI i))]) hx hb dX5_workOn_8 rfl hl (by decide) rfl (fun ls hl => ?_)
  refine lv_aload_n hx hb dX5_workOn_9 rfl (lv_at hl 1 rfl) ?_
  refine va_get (D := D) (ci := 5) (v := .ref (h 1)) (C := RX5) (T := TX5) (N := 5) hx hb hts hiX5 hown hK.1 hP 0 rfl rfl 0 (by decide) kf10 (fun _ h9 => h9) rfl dX5_workOn_10 ?_
  refine lv_iload_n hx hb dX5_workOn_13 rfl (lv_at hl 2 rfl) ?_
  refine lv_iload_n hx hb dX5_workOn_14 rfl (lv_at hl 0 rfl) ?_
  refine pu_calli (va_runS (As := [.int 9]) (rest := [.int (nI r), .ref (h 1)]) ⟨hx, hb, hml, hown, hts⟩ (c_X5_kindForWork 9) (cwS 1 hts gX5_workOn_X5_kindForWork rfl rfl rfl (by decide +kernel) ⟨Nat.le_of_ble_eq_true rfl, Nat.le_of_ble_eq_true rfl⟩) (wd_preS hP hK) rfl rfl hl.1 rfl (lv_room (Nat.le_of_ble_eq_true rfl)) dX5_workOn_15 ⟨Nat.zero_le _, Nat.zero_le _⟩) ?_
  refine pu_callb (va_runV (As := [.int (nI r), .int (kfS 9)]) (rest := []) ⟨hx, hb, hml, hown, hts⟩ (c_X4_isOf hh hn r (by omega) (kfS 9)) (cwV 2 hts gX5_workOn_X4_isOf rfl rfl rfl (by decide +kernel) ⟨Nat.le_of_ble_eq_true rfl, Nat.le_of_ble_eq_true rfl⟩) (wd_preV (ci := 4) (q0 := 1) hP hK rfl rfl) rfl rfl hl.1 rfl (lv_room (Nat.le_of_ble_eq_true rfl)) dX5_workOn_18 ⟨Nat.zero_le _, Nat.zero_le _⟩) (fun _ => ?_) (fun h9 => absurd (hko) (by rw [h9]; decide))
  refine lv_if_ne (tgt := 26) hx hb dX5_workOn_21 (by decide) (fun _ => ?_) (fun h9 => absurd h9 (by decide))
  refine lv_iload_n hx hb dX5_workOn_26 rfl (lv_at hl 0 rfl) ?_
  refine lv_tableIn (off := 141) (tgt := 168) hx hb dX5_workOn_27 (by decide) (by decide) (by decide) (by decide) ?_
  refine lv_aload_n hx hb dX5_workOn_168 rfl (lv_at hl 1 rfl) ?_
  refine lv_iload_n hx hb dX5_workOn_169 rfl (lv_at hl 2 rfl) ?_
  refine lv_iload_n hx hb dX5_workOn_170 rfl (lv_at hl 3 rfl) ?_
  refine lv_iconst (v := 3) hx hb dX5_workOn_171 (by decide) ?_
  refine pu_calli (va_runV (As := [.int (nI r), .int (nI i), .int 3]) (rest := []) ⟨hx, hb, hml, hown, hts⟩ (c_X5_corner3_f2 hh hn hk r (by omega) i (by omega) p1 hp1 p2 hp2 e0 m0 e1 m1 x hx9 ef) (cwV 3 hts gX5_workOn_X5_addCorner rfl rfl rfl (by decide +kernel) ⟨Nat.le_of_ble_eq_true rfl, Nat.le_of_ble_eq_true rfl⟩) (wd_preV (ci := 5) (q0 := 0) hP hK rfl rfl) rfl rfl hl.1 rfl (lv_room (Nat.le_of_ble_eq_true rfl)) dX5_workOn_172 ⟨Nat.zero_le _, Nat.zero_le _⟩) ?_
  refine lv_goto (tgt := 192) hx hb dX5_workOn_175 (by decide) ?_
  exact W.iret (v := nI x) hx hb hr (fun t9 ht _ => ⟨congrArg (fun z => Outcome.returned (some (Value.int z))) (rfl), ht⟩) (fun _ h9 => nomatch h9) dX5_workOn_192
set_option maxHeartbeats 4000000 in
set_option maxRecDepth 100000 in
theorem c_X5_work_9o (hh : ad_ok h 20) (hn : n ≤ 100) (hk : k ≤ 8) (r : Nat) (hr9 : r < n) (i : Nat) (hi : i < k) (hw : Wk i = 9) (hko : ko (F r) (kfS 9) = true) (p1 : Nat) (hp1 : p1 < n) (p2 : Nat) (hp2 : p2 < n) (p3 : Nat) (hp3 : p3 < n) (e0 : fafS Sz Mb r = 0) (m0 : Mb (8 * r + 0) = nI p1) (e1 : fafS Sz Mb p1 = 0) (m1 : Mb (8 * p1 + 0) = nI p2) (e2 : fafS Sz Mb p2 = 0) (m2 : Mb (8 * p2 + 0) = nI p3) : Met l yX5_workOn wsX5_workOn ({ frames := 6, cells := 0, slots := 0, locals := 200 }) (wd_P D cI cJ [.ref (h 0), .int (nI r), .int (nI i)] (sl_W cI cJ h (nI n) F Wt Sz Nu Mb (nI k) G Wk To Sl Ri (nI f) (nI b) oT oS oF (nI an) (nI as) Fo wo pa fa)) (mu_Q D (ad_A h 20) (some (.int 0)) (sl_W cI cJ h (nI n) F Wt Sz Nu Mb (nI k) G Wk (vp_updL To i (To i + Int32.toInt64 (Wt p3))) Sl Ri (nI f) (nI b) oT oS oF (nI an) (nI as) Fo wo pa fa)) 0 0 (ad_A h 20) := by
  refine Met.ofW (cc := cX5_workOn) (maxL := 4) (ret := (some .int)) (by decide) rfl ?_
  intro p e s m args below meth c s₁ B hml hv
  obtain ⟨rfl, hP, hK⟩ := hv
  have hx := B.exec
  have hb := B.bytes
  have hr := B.returns
  have hts := atoms_spec (ws := wsX5_workOn) B.pre
  have hown : s.vm.findClass RX5 = some m.cls := findClass_of_methodNamed B.named
  have hlocks := B.notSynchronized
  have hiX5 : ∀ w ∈ u_ws RX5 TX5 5, w ∈ wsX5_workOn := by decide +kernel
  have kf19 := hts (.fieldLink RX5 19 "SortingLine" "stations" "LSortingLine$Stations;") (by decide +kernel)
  have kf10 := hts (.fieldLink RX5 10 "SortingLine" "things" "LSortingLine$Things;") (by decide +kernel)
  have hS : va_S (ad_A h 20) s.heap s.heap [] := va_S.rf
  have hl := lv_entry ([.ref (h 0), .int (nI r), .int (nI i)]) (n := 4) (Nat.le_of_ble_eq_true rfl)
  rw [lg_entry_eq]
  generalize (lg_sl ([.ref (h 0), .int (nI r), .int (nI i)]) ++ List.replicate (4 - (lg_sl ([.ref (h 0), .int (nI r), .int (nI i)])).length) Slot.unset).toArray = ls at hl ⊢
  have hl : lv_has ls 4 [(0, .ref (h 0)), (1, .int (nI r)), (2, .int (nI i))] := hl
  refine lv_aload_n hx hb dX5_workOn_0 rfl (lv_at hl 0 rfl) ?_
  refine va_get (D := D) (ci := 5) (v := .ref (h 2)) (C := RX5) (T := TX5) (N := 5) hx hb hts hiX5 hown hK.1 hP 0 rfl rfl 1 (by decide) kf19 (fun _ h9 => h9) rfl dX5_workOn_1 ?_
  refine lv_iload_n hx hb dX5_workOn_4 rfl (lv_at hl 2 rfl) ?_
  refine pu_calli (va_runV (As := [.int (nI i)]) (rest := []) ⟨hx, hb, hml, hown, hts⟩ (c_X2_workOf hh hk i (by omega)) (cwV 1 hts gX5_workOn_X2_workOf rfl rfl rfl (by decide +kernel) ⟨Nat.le_of_ble_eq_true rfl, Nat.le_of_ble_eq_true rfl⟩) (wd_preV (ci := 2) (q0 := 2) hP hK rfl rfl) rfl rfl hl.1 rfl (lv_room (Nat.le_of_ble_eq_true rfl)) dX5_workOn_5 ⟨Nat.zero_le _, Nat.zero_le _⟩) ?_
  refine tp_i (y := 9) (hw) ?_
  refine lv_istore_n (lv' := [(3, .int 9), (0, .ref (h 0)), (1, .int (nI r)), (2, .int (nI i))]) hx hb dX5_workOn_8 rfl hl (by decide) rfl (fun ls hl => ?_)
  refine lv_aload_n hx hb dX5_workOn_9 rfl (lv_at hl 1 rfl) ?_
  refine va_get (D := D) (ci := 5) (v := .ref (h 1)) (C := RX5) (T := TX5) (N := 5) hx hb hts hiX5 hown hK.1 hP 0 rfl rfl 0 (by decide) kf10 (fun _ h9 => h9) rfl dX5_workOn_10 ?_
  refine lv_iload_n hx hb dX5_workOn_13 rfl (lv_at hl 2 rfl) ?_
  refine lv_iload_n hx hb dX5_workOn_14 rfl (lv_at hl 0 rfl) ?_
  refine pu_calli (va_runS (As := [.int 9]) (rest := [.int (nI r), .ref (h 1)]) ⟨hx, hb, hml, hown, hts⟩ (c_X5_kindForWork 9) (cwS 1 hts gX5_workOn_X5_kindForWork rfl rfl rfl (by decide +kernel) ⟨Nat.le_of_ble_eq_true rfl, Nat.le_of_ble_eq_true rfl⟩) (wd_preS hP hK) rfl rfl hl.1 rfl (lv_room (Nat.le_of_ble_eq_true rfl)) dX5_workOn_15 ⟨Nat.zero_le _, Nat.zero_le _⟩) ?_
  refine pu_callb (va_runV (As := [.int (nI r), .int (kfS 9)]) (rest := []) ⟨hx, hb, hml, hown, hts⟩ (c_X4_isOf hh hn r (by omega) (kfS 9)) (cwV 2 hts gX5_workOn_X4_isOf rfl rfl rfl (by decide +kernel) ⟨Nat.le_of_ble_eq_true rfl, Nat.le_of_ble_eq_true rfl⟩) (wd_preV (ci := 4) (q0 := 1) hP hK rfl rfl) rfl rfl hl.1 rfl (lv_room (Nat.le_of_ble_eq_true rfl)) dX5_workOn_18 ⟨Nat.zero_le _, Nat.zero_le _⟩) (fun _ => ?_) (fun h9 => absurd (hko) (by rw [h9]; decide))
  refine lv_if_ne (tgt := 26) hx hb dX5_workOn_21 (by decide) (fun _ => ?_) (fun h9 => absurd h9 (by decide))
  refine lv_iload_n hx hb dX5_workOn_26 rfl (lv_at hl 0 rfl) ?_
  refine lv_tableIn (off := 141) (tgt := 168) hx hb dX5_workOn_27 (by decide) (by decide) (by decide) (by decide) ?_
  refine lv_aload_n hx hb dX5_workOn_168 rfl (lv_at hl 1 rfl) ?_
  refine lv_iload_n hx hb dX5_workOn_169 rfl (lv_at hl 2 rfl) ?_
  refine lv_iload_n hx hb dX5_workOn_170 rfl (lv_at hl 3 rfl) ?_
  refine lv_iconst (v := 3) hx hb dX5_workOn_171 (by decide) ?_
  refine mu_calli (va_runV (As := [.int (nI r), .int (nI i), .int 3]) (rest := []) ⟨hx, hb, hml, hown, hts⟩ (c_X5_corner3_o hh hn hk r (by omega) i (by omega) p1 hp1 p2 hp2 p3 hp3 e0 m0 e1 m1 e2 m2) (cwV 3 hts gX5_workOn_X5_addCorner rfl rfl rfl (by decide +kernel) ⟨Nat.le_of_ble_eq_true rfl, Nat.le_of_ble_eq_true rfl⟩) (wd_preV (ci := 5) (q0 := 0) hP hK rfl rfl) rfl rfl hl.1 rfl (lv_room (Nat.le_of_ble_eq_true rfl)) dX5_workOn_172 ⟨Nat.zero_le _, Nat.zero_le _⟩) hS (fun H locs hP hS => ?_)
  have hP : va_P D kC (sl_W cI cJ h (nI n) F Wt Sz Nu Mb (nI k) G Wk (vp_updL To i (To i + Int32.toInt64 (Wt p3))) Sl Ri (nI f) (nI b) oT oS oF (nI an) (nI as) Fo wo pa fa) H := hP
  refine lv_goto (tgt := 192) hx hb dX5_workOn_175 (by decide) ?_
  exact W.iret (v := 0) hx hb hr (fun t9 ht _ => ⟨congrArg (fun z => Outcome.returned (some (Value.int z))) (rfl), by rw [ht]; exact hP, hS.F ht⟩) hS.2.2 dX5_workOn_192
set_option maxHeartbeats 4000000 in
set_option maxRecDepth 100000 in
theorem c_X5_work_8f (hh : ad_ok h 20) (hn : n ≤ 100) (hk : k ≤ 8) (r : Nat) (hr9 : r < n) (i : Nat) (hi : i < k) (hw : Wk i = 8) (hko : ko (F r) (kfS 8) = true) (x : Nat) (hx9 : x = 2 ∨ x = 3) (ef : fafS Sz Mb r = nI x) : Met l yX5_workOn wsX5_workOn ({ frames := 6, cells := 0, slots := 0, locals := 200 }) (wd_P D cI cJ [.ref (h 0), .int (nI r), .int (nI i)] (sl_W cI cJ h (nI n) F Wt Sz Nu Mb (nI k) G Wk To Sl Ri (nI f) (nI b) oT oS oF (nI an) (nI as) Fo wo pa fa)) (pu_Q (some (.int (nI x)))) 0 0 (fun _ => False) := by
  refine Met.ofW (cc := cX5_workOn) (maxL := 4) (ret := (some .int)) (by decide) rfl ?_
  intro p e s m args below meth c s₁ B hml hv
  obtain ⟨rfl, hP, hK⟩ := hv
  have hx := B.exec
  have hb := B.bytes
  have hr := B.returns
  have hts := atoms_spec (ws := wsX5_workOn) B.pre
  have hown : s.vm.findClass RX5 = some m.cls := findClass_of_methodNamed B.named
  have hlocks := B.notSynchronized
  have hiX5 : ∀ w ∈ u_ws RX5 TX5 5, w ∈ wsX5_workOn := by decide +kernel
  have kf19 := hts (.fieldLink RX5 19 "SortingLine" "stations" "LSortingLine$Stations;") (by decide +kernel)
  have kf10 := hts (.fieldLink RX5 10 "SortingLine" "things" "LSortingLine$Things;") (by decide +kernel)
  have hl := lv_entry ([.ref (h 0), .int (nI r), .int (nI i)]) (n := 4) (Nat.le_of_ble_eq_true rfl)
  rw [lg_entry_eq]
  generalize (lg_sl ([.ref (h 0), .int (nI r), .int (nI i)]) ++ List.replicate (4 - (lg_sl ([.ref (h 0), .int (nI r), .int (nI i)])).length) Slot.unset).toArray = ls at hl ⊢
  have hl : lv_has ls 4 [(0, .ref (h 0)), (1, .int (nI r)), (2, .int (nI i))] := hl
  refine lv_aload_n hx hb dX5_workOn_0 rfl (lv_at hl 0 rfl) ?_
  refine va_get (D := D) (ci := 5) (v := .ref (h 2)) (C := RX5) (T := TX5) (N := 5) hx hb hts hiX5 hown hK.1 hP 0 rfl rfl 1 (by decide) kf19 (fun _ h9 => h9) rfl dX5_workOn_1 ?_
  refine lv_iload_n hx hb dX5_workOn_4 rfl (lv_at hl 2 rfl) ?_
  refine pu_calli (va_runV (As := [.int (nI i)]) (rest := []) ⟨hx, hb, hml, hown, hts⟩ (c_X2_workOf hh hk i (by omega)) (cwV 1 hts gX5_workOn_X2_workOf rfl rfl rfl (by decide +kernel) ⟨Nat.le_of_ble_eq_true rfl, Nat.le_of_ble_eq_true rfl⟩) (wd_preV (ci := 2) (q0 := 2) hP hK rfl rfl) rfl rfl hl.1 rfl (lv_room (Nat.le_of_ble_eq_true rfl)) dX5_workOn_5 ⟨Nat.zero_le _, Nat.zero_le _⟩) ?_
  refine tp_i (y := 8) (hw) ?_
  refine lv_istore_n (lv' := [(3, .int 8), (0, .ref (h 0)), (1, .int (nI r)), (2, .int (nI i))]) hx hb dX5_workOn_8 rfl hl (by decide) rfl (fun ls hl => ?_)
  refine lv_aload_n hx hb dX5_workOn_9 rfl (lv_at hl 1 rfl) ?_
  refine va_get (D := D) (ci := 5) (v := .ref (h 1)) (C := RX5) (T := TX5) (N := 5) hx hb hts hiX5 hown hK.1 hP 0 rfl rfl 0 (by decide) kf10 (fun _ h9 => h9) rfl dX5_workOn_10 ?_
  refine lv_iload_n hx hb dX5_workOn_13 rfl (lv_at hl 2 rfl) ?_
  refine lv_iload_n hx hb dX5_workOn_14 rfl (lv_at hl 0 rfl) ?_
  refine pu_calli (va_runS (As := [.int 8]) (rest := [.int (nI r), .ref (h 1)]) ⟨hx, hb, hml, hown, hts⟩ (c_X5_kindForWork 8) (cwS 1 hts gX5_workOn_X5_kindForWork rfl rfl rfl (by decide +kernel) ⟨Nat.le_of_ble_eq_true rfl, Nat.le_of_ble_eq_true rfl⟩) (wd_preS hP hK) rfl rfl hl.1 rfl (lv_room (Nat.le_of_ble_eq_true rfl)) dX5_workOn_15 ⟨Nat.zero_le _, Nat.zero_le _⟩) ?_
  refine pu_callb (va_runV (As := [.int (nI r), .int (kfS 8)]) (rest := []) ⟨hx, hb, hml, hown, hts⟩ (c_X4_isOf hh hn r (by omega) (kfS 8)) (cwV 2 hts gX5_workOn_X4_isOf rfl rfl rfl (by decide +kernel) ⟨Nat.le_of_ble_eq_true rfl, Nat.le_of_ble_eq_true rfl⟩) (wd_preV (ci := 4) (q0 := 1) hP hK rfl rfl) rfl rfl hl.1 rfl (lv_room (Nat.le_of_ble_eq_true rfl)) dX5_workOn_18 ⟨Nat.zero_le _, Nat.zero_le _⟩) (fun _ => ?_) (fun h9 => absurd (hko) (by rw [h9]; decide))
  refine lv_if_ne (tgt := 26) hx hb dX5_workOn_21 (by decide) (fun _ => ?_) (fun h9 => absurd h9 (by decide))
  refine lv_iload_n hx hb dX5_workOn_26 rfl (lv_at hl 0 rfl) ?_
  refine lv_tableIn (off := 132) (tgt := 159) hx hb dX5_workOn_27 (by decide) (by decide) (by decide) (by decide) ?_
  refine lv_aload_n hx hb dX5_workOn_159 rfl (lv_at hl 1 rfl) ?_
  refine lv_iload_n hx hb dX5_workOn_160 rfl (lv_at hl 2 rfl) ?_
  refine lv_iload_n hx hb dX5_workOn_161 rfl (lv_at hl 3 rfl) ?_
  refine pu_calli (va_runV (As := [.int (nI r), .int (nI i)]) (rest := []) ⟨hx, hb, hml, hown, hts⟩ (c_X5_cell_f hh hn hk r (by omega) i (by omega) x hx9 ef) (cwV 2 hts gX5_workOn_X5_addCell rfl rfl rfl (by decide +kernel) ⟨Nat.le_of_ble_eq_true rfl, Nat.le_of_ble_eq_true rfl⟩) (wd_preV (ci := 5) (q0 := 0) hP hK rfl rfl) rfl rfl hl.1 rfl (lv_room (Nat.le_of_ble_eq_true rfl)) dX5_workOn_162 ⟨Nat.zero_le _, Nat.zero_le _⟩) ?_
  refine lv_goto (tgt := 192) hx hb dX5_workOn_165 (by decide) ?_
  exact W.iret (v := nI x) hx hb hr (fun t9 ht _ => ⟨congrArg (fun z => Outcome.returned (some (Value.int z))) (rfl), ht⟩) (fun _ h9 => nomatch h9) dX5_workOn_192
set_option maxHeartbeats 4000000 in
set_option maxRecDepth 100000 in
theorem c_X5_work_8b (hh : ad_ok h 20) (hn : n ≤ 100) (hk : k ≤ 8) (r : Nat) (hr9 : r < n) (i : Nat) (hi : i < k) (hw : Wk i = 8) (hko : ko (F r) (kfS 8) = true) (p1 : Nat) (hp1 : p1 < n) (e0 : fafS Sz Mb r = 0) (m0 : Mb (8 * r + 0) = nI p1) (h2 : p_in 0 (Sz p1) = false) : Met l yX5_workOn wsX5_workOn ({ frames := 6, cells := 0, slots := 0, locals := 200 }) (wd_P D cI cJ [.ref (h 0), .int (nI r), .int (nI i)] (sl_W cI cJ h (nI n) F Wt Sz Nu Mb (nI k) G Wk To Sl Ri (nI f) (nI b) oT oS oF (nI an) (nI as) Fo wo pa fa)) (pu_Q (some (.int 3))) 0 0 (fun _ => False) := by
  refine Met.ofW (cc := cX5_workOn) (maxL := 4) (ret := (some .int)) (by decide) rfl ?_
  intro p e s m args below meth c s₁ B hml hv
  obtain ⟨rfl, hP, hK⟩ := hv
  have hx := B.exec
  have hb := B.bytes
  have hr := B.returns
  have hts := atoms_spec (ws := wsX5_workOn) B.pre
  have hown : s.vm.findClass RX5 = some m.cls := findClass_of_methodNamed B.named
  have hlocks := B.notSynchronized
  have hiX5 : ∀ w ∈ u_ws RX5 TX5 5, w ∈ wsX5_workOn := by decide +kernel
  have kf19 := hts (.fieldLink RX5 19 "SortingLine" "stations" "LSortingLine$Stations;") (by decide +kernel)
  have kf10 := hts (.fieldLink RX5 10 "SortingLine" "things" "LSortingLine$Things;") (by decide +kernel)
  have hl := lv_entry ([.ref (h 0), .int (nI r), .int (nI i)]) (n := 4) (Nat.le_of_ble_eq_true rfl)
  rw [lg_entry_eq]
  generalize (lg_sl ([.ref (h 0), .int (nI r), .int (nI i)]) ++ List.replicate (4 - (lg_sl ([.ref (h 0), .int (nI r), .int (nI i)])).length) Slot.unset).toArray = ls at hl ⊢
  have hl : lv_has ls 4 [(0, .ref (h 0)), (1, .int (nI r)), (2, .int (nI i))] := hl
  refine lv_aload_n hx hb dX5_workOn_0 rfl (lv_at hl 0 rfl) ?_
  refine va_get (D := D) (ci := 5) (v := .ref (h 2)) (C := RX5) (T := TX5) (N := 5) hx hb hts hiX5 hown hK.1 hP 0 rfl rfl 1 (by decide) kf19 (fun _ h9 => h9) rfl dX5_workOn_1 ?_
  refine lv_iload_n hx hb dX5_workOn_4 rfl (lv_at hl 2 rfl) ?_
  refine pu_calli (va_runV (As := [.int (nI i)]) (rest := []) ⟨hx, hb, hml, hown, hts⟩ (c_X2_workOf hh hk i (by omega)) (cwV 1 hts gX5_workOn_X2_workOf rfl rfl rfl (by decide +kernel) ⟨Nat.le_of_ble_eq_true rfl, Nat.le_of_ble_eq_true rfl⟩) (wd_preV (ci := 2) (q0 := 2) hP hK rfl rfl) rfl rfl hl.1 rfl (lv_room (Nat.le_of_ble_eq_true rfl)) dX5_workOn_5 ⟨Nat.zero_le _, Nat.zero_le _⟩) ?_
  refine tp_i (y := 8) (hw) ?_
  refine lv_istore_n (lv' := [(3, .int 8), (0, .ref (h 0)), (1, .int (nI r)), (2, .int (nI i))]) hx hb dX5_workOn_8 rfl hl (by decide) rfl (fun ls hl => ?_)
  refine lv_aload_n hx hb dX5_workOn_9 rfl (lv_at hl 1 rfl) ?_
  refine va_get (D := D) (ci := 5) (v := .ref (h 1)) (C := RX5) (T := TX5) (N := 5) hx hb hts hiX5 hown hK.1 hP 0 rfl rfl 0 (by decide) kf10 (fun _ h9 => h9) rfl dX5_workOn_10 ?_
  refine lv_iload_n hx hb dX5_workOn_13 rfl (lv_at hl 2 rfl) ?_
  refine lv_iload_n hx hb dX5_workOn_14 rfl (lv_at hl 0 rfl) ?_
  refine pu_calli (va_runS (As := [.int 8]) (rest := [.int (nI r), .ref (h 1)]) ⟨hx, hb, hml, hown, hts⟩ (c_X5_kindForWork 8) (cwS 1 hts gX5_workOn_X5_kindForWork rfl rfl rfl (by decide +kernel) ⟨Nat.le_of_ble_eq_true rfl, Nat.le_of_ble_eq_true rfl⟩) (wd_preS hP hK) rfl rfl hl.1 rfl (lv_room (Nat.le_of_ble_eq_true rfl)) dX5_workOn_15 ⟨Nat.zero_le _, Nat.zero_le _⟩) ?_
  refine pu_callb (va_runV (As := [.int (nI r), .int (kfS 8)]) (rest := []) ⟨hx, hb, hml, hown, hts⟩ (c_X4_isOf hh hn r (by omega) (kfS 8)) (cwV 2 hts gX5_workOn_X4_isOf rfl rfl rfl (by decide +kernel) ⟨Nat.le_of_ble_eq_true rfl, Nat.le_of_ble_eq_true rfl⟩) (wd_preV (ci := 4) (q0 := 1) hP hK rfl rfl) rfl rfl hl.1 rfl (lv_room (Nat.le_of_ble_eq_true rfl)) dX5_workOn_18 ⟨Nat.zero_le _, Nat.zero_le _⟩) (fun _ => ?_) (fun h9 => absurd (hko) (by rw [h9]; decide))
  refine lv_if_ne (tgt := 26) hx hb dX5_workOn_21 (by decide) (fun _ => ?_) (fun h9 => absurd h9 (by decide))
  refine lv_iload_n hx hb dX5_workOn_26 rfl (lv_at hl 0 rfl) ?_
  refine lv_tableIn (off := 132) (tgt := 159) hx hb dX5_workOn_27 (by decide) (by decide) (by decide) (by decide) ?_
  refine lv_aload_n hx hb dX5_workOn_159 rfl (lv_at hl 1 rfl) ?_
  refine lv_iload_n hx hb dX5_workOn_160 rfl (lv_at hl 2 rfl) ?_
  refine lv_iload_n hx hb dX5_workOn_161 rfl (lv_at hl 3 rfl) ?_
  refine pu_calli (va_runV (As := [.int (nI r), .int (nI i)]) (rest := []) ⟨hx, hb, hml, hown, hts⟩ (c_X5_cell_b hh hn hk r (by omega) i (by omega) p1 hp1 e0 m0 h2) (cwV 2 hts gX5_workOn_X5_addCell rfl rfl rfl (by decide +kernel) ⟨Nat.le_of_ble_eq_true rfl, Nat.le_of_ble_eq_true rfl⟩) (wd_preV (ci := 5) (q0 := 0) hP hK rfl rfl) rfl rfl hl.1 rfl (lv_room (Nat.le_of_ble_eq_true rfl)) dX5_workOn_162 ⟨Nat.zero_le _, Nat.zero_le _⟩) ?_
  refine lv_goto (tgt := 192) hx hb dX5_workOn_165 (by decide) ?_
  exact W.iret (v := 3) hx hb hr (fun t9 ht _ => ⟨congrArg (fun z => Outcome.returned (some (Value.int z))) (rfl), ht⟩) (fun _ h9 => nomatch h9) dX5_workOn_192
set_option maxHeartbeats 4000000 in
set_option maxRecDepth 100000 in
theorem c_X5_work_8o (hh : ad_ok h 20) (hn : n ≤ 100) (hk : k ≤ 8) (r : Nat) (hr9 : r < n) (i : Nat) (hi : i < k) (hw : Wk i = 8) (hko : ko (F r) (kfS 8) = true) (p1 : Nat) (hp1 : p1 < n) (e0 : fafS Sz Mb r = 0) (m0 : Mb (8 * r + 0) = nI p1) (h2 : p_in 0 (Sz p1) = true) : Met l yX5_workOn wsX5_workOn ({ frames := 6, cells := 0, slots := 0, locals := 200 }) (wd_P D cI cJ [.ref (h 0), .int (nI r), .int (nI i)] (sl_W cI cJ h (nI n) F Wt Sz Nu Mb (nI k) G Wk To Sl Ri (nI f) (nI b) oT oS oF (nI an) (nI as) Fo wo pa fa)) (mu_Q D (ad_A h 20) (some (.int 0)) (sl_W cI cJ h (nI n) F Wt Sz Nu Mb (nI k) G Wk (vp_updL To i (To i + Nu (8 * p1 + 0))) Sl Ri (nI f) (nI b) oT oS oF (nI an) (nI as) Fo wo pa fa)) 0 0 (ad_A h 20) := by
  refine Met.ofW (cc := cX5_workOn) (maxL := 4) (ret := (some .int)) (by decide) rfl ?_
  intro p e s m args below meth c s₁ B hml hv
  obtain ⟨rfl, hP, hK⟩ := hv
  have hx := B.exec
  have hb := B.bytes
  have hr := B.returns
  have hts := atoms_spec (ws := wsX5_workOn) B.pre
  have hown : s.vm.findClass RX5 = some m.cls := findClass_of_methodNamed B.named
  have hlocks := B.notSynchronized
  have hiX5 : ∀ w ∈ u_ws RX5 TX5 5, w ∈ wsX5_workOn := by decide +kernel
  have kf19 := hts (.fieldLink RX5 19 "SortingLine" "stations" "LSortingLine$Stations;") (by decide +kernel)
  have kf10 := hts (.fieldLink RX5 10 "SortingLine" "things" "LSortingLine$Things;") (by decide +kernel)
  have hS : va_S (ad_A h 20) s.heap s.heap [] := va_S.rf
  have hl := lv_entry ([.ref (h 0), .int (nI r), .int (nI i)]) (n := 4) (Nat.le_of_ble_eq_true rfl)
  rw [lg_entry_eq]
  generalize (lg_sl ([.ref (h 0), .int (nI r), .int (nI i)]) ++ List.replicate (4 - (lg_sl ([.ref (h 0), .int (nI r), .int (nI i)])).length) Slot.unset).toArray = ls at hl ⊢
  have hl : lv_has ls 4 [(0, .ref (h 0)), (1, .int (nI r)), (2, .int (nI i))] := hl
  refine lv_aload_n hx hb dX5_workOn_0 rfl (lv_at hl 0 rfl) ?_
  refine va_get (D := D) (ci := 5) (v := .ref (h 2)) (C := RX5) (T := TX5) (N := 5) hx hb hts hiX5 hown hK.1 hP 0 rfl rfl 1 (by decide) kf19 (fun _ h9 => h9) rfl dX5_workOn_1 ?_
  refine lv_iload_n hx hb dX5_workOn_4 rfl (lv_at hl 2 rfl) ?_
  refine pu_calli (va_runV (As := [.int (nI i)]) (rest := []) ⟨hx, hb, hml, hown, hts⟩ (c_X2_workOf hh hk i (by omega)) (cwV 1 hts gX5_workOn_X2_workOf rfl rfl rfl (by decide +kernel) ⟨Nat.le_of_ble_eq_true rfl, Nat.le_of_ble_eq_true rfl⟩) (wd_preV (ci := 2) (q0 := 2) hP hK rfl rfl) rfl rfl hl.1 rfl (lv_room (Nat.le_of_ble_eq_true rfl)) dX5_workOn_5 ⟨Nat.zero_le _, Nat.zero_le _⟩) ?_
  refine tp_i (y := 8) (hw) ?_
  refine lv_istore_n (lv' := [(3, .int 8), (0, .ref (h 0)), (1, .int (nI r)), (2, .int (nI i))]) hx hb dX5_workOn_8 rfl hl (by decide) rfl (fun ls hl => ?_)
  refine lv_aload_n hx hb dX5_workOn_9 rfl (lv_at hl 1 rfl) ?_
  refine va_get (D := D) (ci := 5) (v := .ref (h 1)) (C := RX5) (T := TX5) (N := 5) hx hb hts hiX5 hown hK.1 hP 0 rfl rfl 0 (by decide) kf10 (fun _ h9 => h9) rfl dX5_workOn_10 ?_
  refine lv_iload_n hx hb dX5_workOn_13 rfl (lv_at hl 2 rfl) ?_
  refine lv_iload_n hx hb dX5_workOn_14 rfl (lv_at hl 0 rfl) ?_
  refine pu_calli (va_runS (As := [.int 8]) (rest := [.int (nI r), .ref (h 1)]) ⟨hx, hb, hml, hown, hts⟩ (c_X5_kindForWork 8) (cwS 1 hts gX5_workOn_X5_kindForWork rfl rfl rfl (by decide +kernel) ⟨Nat.le_of_ble_eq_true rfl, Nat.le_of_ble_eq_true rfl⟩) (wd_preS hP hK) rfl rfl hl.1 rfl (lv_room (Nat.le_of_ble_eq_true rfl)) dX5_workOn_15 ⟨Nat.zero_le _, Nat.zero_le _⟩) ?_
  refine pu_callb (va_runV (As := [.int (nI r), .int (kfS 8)]) (rest := []) ⟨hx, hb, hml, hown, hts⟩ (c_X4_isOf hh hn r (by omega) (kfS 8)) (cwV 2 hts gX5_workOn_X4_isOf rfl rfl rfl (by decide +kernel) ⟨Nat.le_of_ble_eq_true rfl, Nat.le_of_ble_eq_true rfl⟩) (wd_preV (ci := 4) (q0 := 1) hP hK rfl rfl) rfl rfl hl.1 rfl (lv_room (Nat.le_of_ble_eq_true rfl)) dX5_workOn_18 ⟨Nat.zero_le _, Nat.zero_le _⟩) (fun _ => ?_) (fun h9 => absurd (hko) (by rw [h9]; decide))
  refine lv_if_ne (tgt := 26) hx hb dX5_workOn_21 (by decide) (fun _ => ?_) (fun h9 => absurd h9 (by decide))
  refine lv_iload_n hx hb dX5_workOn_26 rfl (lv_at hl 0 rfl) ?_
  refine lv_tableIn (off := 132) (tgt := 159) hx hb dX5_workOn_27 (by decide) (by decide) (by decide) (by decide) ?_
  refine lv_aload_n hx hb dX5_workOn_159 rfl (lv_at hl 1 rfl) ?_
  refine lv_iload_n hx hb dX5_workOn_160 rfl (lv_at hl 2 rfl) ?_
  refine lv_iload_n hx hb dX5_workOn_161 rfl (lv_at hl 3 rfl) ?_
  refine mu_calli (va_runV (As := [.int (nI r), .int (nI i)]) (rest := []) ⟨hx, hb, hml, hown, hts⟩ (c_X5_cell_o hh hn hk r (by omega) i (by omega) p1 hp1 e0 m0 h2) (cwV 2 hts gX5_workOn_X5_addCell rfl rfl rfl (by decide +kernel) ⟨Nat.le_of_ble_eq_true rfl, Nat.le_of_ble_eq_true rfl⟩) (wd_preV (ci := 5) (q0 := 0) hP hK rfl rfl) rfl rfl hl.1 rfl (lv_room (Nat.le_of_ble_eq_true rfl)) dX5_workOn_162 ⟨Nat.zero_le _, Nat.zero_le _⟩) hS (fun H locs hP hS => ?_)
  have hP : va_P D kC (sl_W cI cJ h (nI n) F Wt Sz Nu Mb (nI k) G Wk (vp_updL To i (To i + Nu (8 * p1 + 0))) Sl Ri (nI f) (nI b) oT oS oF (nI an) (nI as) Fo wo pa fa) H := hP
  refine lv_goto (tgt := 192) hx hb dX5_workOn_165 (by decide) ?_
  exact W.iret (v := 0) hx hb hr (fun t9 ht _ => ⟨congrArg (fun z => Outcome.returned (some (Value.int z))) (rfl), by rw [ht]; exact hP, hS.F ht⟩) hS.2.2 dX5_workOn_192
set_option maxHeartbeats 4000000 in
set_option maxRecDepth 100000 in
theorem c_X5_work_11 (hh : ad_ok h 20) (hn : n ≤ 100) (hk : k ≤ 8) (r : Nat) (hr9 : r < n) (i : Nat) (hi : i < k) (hw : Wk i = 11) (hko : ko (F r) (kfS 11) = true) (hf : f < 40) (hb9 : b ≤ 40) (z : Nat) (hz : Sz r = nI z) (hz8 : z ≤ 8) (M9 R9 : Nat → Int32) (b9 : Nat) (hs8 : spS r f (Mb, Ri, b) z = (M9, R9, b9)) : Met l yX5_workOn wsX5_workOn ({ frames := 6, cells := 0, slots := 0, locals := 200 }) (wd_P D cI cJ [.ref (h 0), .int (nI r), .int (nI i)] (sl_W cI cJ h (nI n) F Wt Sz Nu Mb (nI k) G Wk To Sl Ri (nI f) (nI b) oT oS oF (nI an) (nI as) Fo wo pa fa)) (mu_Q D (ad_A h 20) (some (.int 0)) (sl_W cI cJ h (nI n) F Wt Sz Nu M9 (nI k) G Wk To Sl R9 (nI f) (nI b9) oT oS oF (nI an) (nI as) Fo wo pa fa)) 0 0 (ad_A h 20) := by
  refine Met.ofW (cc := cX5_workOn) (maxL := 4) (ret := (some .int)) (by decide) rfl ?_
  intro p e s m args below meth c s₁ B hml hv
  obtain ⟨rfl, hP, hK⟩ := hv
  have hx := B.exec
  have hb := B.bytes
  have hr := B.returns
  have hts := atoms_spec (ws := wsX5_workOn) B.pre
  have hown : s.vm.findClass RX5 = some m.cls := findClass_of_methodNamed B.named
  have hlocks := B.notSynchronized
  have hiX5 : ∀ w ∈ u_ws RX5 TX5 5, w ∈ wsX5_workOn := by decide +kernel
  have kf19 := hts (.fieldLink RX5 19 "SortingLine" "stations" "LSortingLine$Stations;") (by decide +kernel)
  have kf10 := hts (.fieldLink RX5 10 "SortingLine" "things" "LSortingLine$Things;") (by decide +kernel)
  have hS : va_S (ad_A h 20) s.heap s.heap [] := va_S.rf
  have hl := lv_entry ([.ref (h 0), .int (nI r), .int (nI i)]) (n := 4) (Nat.le_of_ble_eq_true rfl)
  rw [lg_entry_eq]
  generalize (lg_sl ([.ref (h 0), .int (nI r), .int (nI i)]) ++ List.replicate (4 - (lg_sl ([.ref (h 0), .int (nI r), .int (nI i)])).length) Slot.unset).toArray = ls at hl ⊢
  have hl : lv_has ls 4 [(0, .ref (h 0)), (1, .int (nI r)), (2, .int (nI i))] := hl
  refine lv_aload_n hx hb dX5_workOn_0 rfl (lv_at hl 0 rfl) ?_
  refine va_get (D := D) (ci := 5) (v := .ref (h 2)) (C := RX5) (T := TX5) (N := 5) hx hb hts hiX5 hown hK.1 hP 0 rfl rfl 1 (by decide) kf19 (fun _ h9 => h9) rfl dX5_workOn_1 ?_
  refine lv_iload_n hx hb dX5_workOn_4 rfl (lv_at hl 2 rfl) ?_
  refine pu_calli (va_runV (As := [.int (nI i)]) (rest := []) ⟨hx, hb, hml, hown, hts⟩ (c_X2_workOf hh hk i (by omega)) (cwV 1 hts gX5_workOn_X2_workOf rfl rfl rfl (by decide +kernel) ⟨Nat.le_of_ble_eq_true rfl, Nat.le_of_ble_eq_true rfl⟩) (wd_preV (ci := 2) (q0 := 2) hP hK rfl rfl) rfl rfl hl.1 rfl (lv_room (Nat.le_of_ble_eq_true rfl)) dX5_workOn_5 ⟨Nat.zero_le _, Nat.zero_le _⟩) ?_
  refine tp_i (y := 11) (hw) ?_
  refine lv_istore_n (lv' := [(3, .int 11), (0, .ref (h 0)), (1, .int (nI r)), (2, .int (nI i))]) hx hb dX5_workOn_8 rfl hl (by decide) rfl (fun ls hl => ?_)
  refine lv_aload_n hx hb dX5_workOn_9 rfl (lv_at hl 1 rfl) ?_
  refine va_get (D := D) (ci := 5) (v := .ref (h 1)) (C := RX5) (T := TX5) (N := 5) hx hb hts hiX5 hown hK.1 hP 0 rfl rfl 0 (by decide) kf10 (fun _ h9 => h9) rfl dX5_workOn_10 ?_
  refine lv_iload_n hx hb dX5_workOn_13 rfl (lv_at hl 2 rfl) ?_
  refine lv_iload_n hx hb dX5_workOn_14 rfl (lv_at hl 0 rfl) ?_
  refine pu_calli (va_runS (As := [.int 11]) (rest := [.int (nI r), .ref (h 1)]) ⟨hx, hb, hml, hown, hts⟩ (c_X5_kindForWork 11) (cwS 1 hts gX5_workOn_X5_kindForWork rfl rfl rfl (by decide +kernel) ⟨Nat.le_of_ble_eq_true rfl, Nat.le_of_ble_eq_true rfl⟩) (wd_preS hP hK) rfl rfl hl.1 rfl (lv_room (Nat.le_of_ble_eq_true rfl)) dX5_workOn_15 ⟨Nat.zero_le _, Nat.zero_le _⟩) ?_
  refine pu_callb (va_runV (As := [.int (nI r), .int (kfS 11)]) (rest := []) ⟨hx, hb, hml, hown, hts⟩ (c_X4_isOf hh hn r (by omega) (kfS 11)) (cwV 2 hts gX5_workOn_X4_isOf rfl rfl rfl (by decide +kernel) ⟨Nat.le_of_ble_eq_true rfl, Nat.le_of_ble_eq_true rfl⟩) (wd_preV (ci := 4) (q0 := 1) hP hK rfl rfl) rfl rfl hl.1 rfl (lv_room (Nat.le_of_ble_eq_true rfl)) dX5_workOn_18 ⟨Nat.zero_le _, Nat.zero_le _⟩) (fun _ => ?_) (fun h9 => absurd (hko) (by rw [h9]; decide))
  refine lv_if_ne (tgt := 26) hx hb dX5_workOn_21 (by decide) (fun _ => ?_) (fun h9 => absurd h9 (by decide))
  refine lv_iload_n hx hb dX5_workOn_26 rfl (lv_at hl 0 rfl) ?_
  refine lv_tableIn (off := 151) (tgt := 178) hx hb dX5_workOn_27 (by decide) (by decide) (by decide) (by decide) ?_
  refine lv_aload_n hx hb dX5_workOn_178 rfl (lv_at hl 1 rfl) ?_
  refine lv_iload_n hx hb dX5_workOn_179 rfl (lv_at hl 2 rfl) ?_
  refine mu_calli (va_runV (As := [.int (nI r)]) (rest := []) ⟨hx, hb, hml, hown, hts⟩ (c_X5_spill hh hn r (by omega) hf hb9 z hz hz8 M9 R9 b9 hs8) (cwV 1 hts gX5_workOn_X5_spill rfl rfl rfl (by decide +kernel) ⟨Nat.le_of_ble_eq_true rfl, Nat.le_of_ble_eq_true rfl⟩) (wd_preV (ci := 5) (q0 := 0) hP hK rfl rfl) rfl rfl hl.1 rfl (lv_room (Nat.le_of_ble_eq_true rfl)) dX5_workOn_180 ⟨Nat.zero_le _, Nat.zero_le _⟩) hS (fun H locs hP hS => ?_)
  have hP : va_P D kC (sl_W cI cJ h (nI n) F Wt Sz Nu M9 (nI k) G Wk To Sl R9 (nI f) (nI b9) oT oS oF (nI an) (nI as) Fo wo pa fa) H := hP
  refine lv_goto (tgt := 192) hx hb dX5_workOn_183 (by decide) ?_
  exact W.iret (v := 0) hx hb hr (fun t9 ht _ => ⟨congrArg (fun z => Outcome.returned (some (Value.int z))) (rfl), by rw [ht]; exact hP, hS.F ht⟩) hS.2.2 dX5_workOn_192
set_option maxHeartbeats 4000000 in
set_option maxRecDepth 100000 in
theorem c_X5_work_12 (hh : ad_ok h 20) (hn : n ≤ 100) (hk : k ≤ 8) (r : Nat) (hr9 : r < n) (i : Nat) (hi : i < k) (hw : Wk i = 12) (hko : ko (F r) (kfS 12) = true) : Met l yX5_workOn wsX5_workOn ({ frames := 6, cells := 0, slots := 0, locals := 200 }) (wd_P D cI cJ [.ref (h 0), .int (nI r), .int (nI i)] (sl_W cI cJ h (nI n) F Wt Sz Nu Mb (nI k) G Wk To Sl Ri (nI f) (nI b) oT oS oF (nI an) (nI as) Fo wo pa fa)) (mu_Q D (ad_A h 20) (some (.int 0)) (sl_W cI cJ h (nI n) F Wt Sz Nu Mb (nI k) G Wk To (upd Sl i (nI r)) Ri (nI f) (nI b) oT oS oF (nI an) (nI as) Fo wo pa fa)) 0 0 (ad_A h 20) := by
  refine Met.ofW (cc := cX5_workOn) (maxL := 4) (ret := (some .int)) (by decide) rfl ?_
  intro p e s m args below meth c s₁ B hml hv
  obtain ⟨rfl, hP, hK⟩ := hv
  have hx := B.exec
  have hb := B.bytes
  have hr := B.returns
  have hts := atoms_spec (ws := wsX5_workOn) B.pre
  have hown : s.vm.findClass RX5 = some m.cls := findClass_of_methodNamed B.named
  have hlocks := B.notSynchronized
  have hiX5 : ∀ w ∈ u_ws RX5 TX5 5, w ∈ wsX5_workOn := by decide +kernel
  have kf19 := hts (.fieldLink RX5 19 "SortingLine" "stations" "LSortingLine$Stations;") (by decide +kernel)
  have kf10 := hts (.fieldLink RX5 10 "SortingLine" "things" "LSortingLine$Things;") (by decide +kernel)
  have hS : va_S (ad_A h 20) s.heap s.heap [] := va_S.rf
  have hl := lv_entry ([.ref (h 0), .int (nI r), .int (nI i)]) (n := 4) (Nat.le_of_ble_eq_true rfl)
  rw [lg_entry_eq]
  generalize (lg_sl ([.ref (h 0), .int (nI r), .int (nI i)]) ++ List.replicate (4 - (lg_sl ([.ref (h 0), .int (nI r), .int (nI i)])).length) Slot.unset).toArray = ls at hl ⊢
  have hl : lv_has ls 4 [(0, .ref (h 0)), (1, .int (nI r)), (2, .int (nI i))] := hl
  refine lv_aload_n hx hb dX5_workOn_0 rfl (lv_at hl 0 rfl) ?_
  refine va_get (D := D) (ci := 5) (v := .ref (h 2)) (C := RX5) (T := TX5) (N := 5) hx hb hts hiX5 hown hK.1 hP 0 rfl rfl 1 (by decide) kf19 (fun _ h9 => h9) rfl dX5_workOn_1 ?_
  refine lv_iload_n hx hb dX5_workOn_4 rfl (lv_at hl 2 rfl) ?_
  refine pu_calli (va_runV (As := [.int (nI i)]) (rest := []) ⟨hx, hb, hml, hown, hts⟩ (c_X2_workOf hh hk i (by omega)) (cwV 1 hts gX5_workOn_X2_workOf rfl rfl rfl (by decide +kernel) ⟨Nat.le_of_ble_eq_true rfl, Nat.le_of_ble_eq_true rfl⟩) (wd_preV (ci := 2) (q0 := 2) hP hK rfl rfl) rfl rfl hl.1 rfl (lv_room (Nat.le_of_ble_eq_true rfl)) dX5_workOn_5 ⟨Nat.zero_le _, Nat.zero_le _⟩) ?_
  refine tp_i (y := 12) (hw) ?_
  refine lv_istore_n (lv' := [(3, .int 12), (0, .ref (h 0)), (1, .int (nI r)), (2, .int (nI i))]) hx hb dX5_workOn_8 rfl hl (by decide) rfl (fun ls hl => ?_)
  refine lv_aload_n hx hb dX5_workOn_9 rfl (lv_at hl 1 rfl) ?_
  refine va_get (D := D) (ci := 5) (v := .ref (h 1)) (C := RX5) (T := TX5) (N := 5) hx hb hts hiX5 hown hK.1 hP 0 rfl rfl 0 (by decide) kf10 (fun _ h9 => h9) rfl dX5_workOn_10 ?_
  refine lv_iload_n hx hb dX5_workOn_13 rfl (lv_at hl 2 rfl) ?_
  refine lv_iload_n hx hb dX5_workOn_14 rfl (lv_at hl 0 rfl) ?_
  refine pu_calli (va_runS (As := [.int 12]) (rest := [.int (nI r), .ref (h 1)]) ⟨hx, hb, hml, hown, hts⟩ (c_X5_kindForWork 12) (cwS 1 hts gX5_workOn_X5_kindForWork rfl rfl rfl (by decide +kernel) ⟨Nat.le_of_ble_eq_true rfl, Nat.le_of_ble_eq_true rfl⟩) (wd_preS hP hK) rfl rfl hl.1 rfl (lv_room (Nat.le_of_ble_eq_true rfl)) dX5_workOn_15 ⟨Nat.zero_le _, Nat.zero_le _⟩) ?_
  refine pu_callb (va_runV (As := [.int (nI r), .int (kfS 12)]) (rest := []) ⟨hx, hb, hml, hown, hts⟩ (c_X4_isOf hh hn r (by omega) (kfS 12)) (cwV 2 hts gX5_workOn_X4_isOf rfl rfl rfl (by decide +kernel) ⟨Nat.le_of_ble_eq_true rfl, Nat.le_of_ble_eq_true rfl⟩) (wd_preV (ci := 4) (q0 := 1) hP hK rfl rfl) rfl rfl hl.1 rfl (lv_room (Nat.le_of_ble_eq_true rfl)) dX5_workOn_18 ⟨Nat.zero_le _, Nat.zero_le _⟩) (fun _ => ?_) (fun h9 => absurd (hko) (by rw [h9]; decide))
  refine lv_if_ne (tgt := 26) hx hb dX5_workOn_21 (by decide) (fun _ => ?_) (fun h9 => absurd h9 (by decide))
  refine lv_iload_n hx hb dX5_workOn_26 rfl (lv_at hl 0 rfl) ?_
  refine lv_tableOut (tgt := 186) hx hb dX5_workOn_27 (by decide) (by decide) ?_
  refine lv_aload_n hx hb dX5_workOn_186 rfl (lv_at hl 1 rfl) ?_
  refine lv_iload_n hx hb dX5_workOn_187 rfl (lv_at hl 2 rfl) ?_
  refine lv_iload_n hx hb dX5_workOn_188 rfl (lv_at hl 3 rfl) ?_
  refine mu_calli (va_runV (As := [.int (nI r), .int (nI i)]) (rest := []) ⟨hx, hb, hml, hown, hts⟩ (c_X5_keep hh hk (nI r) i (by omega)) (cwV 2 hts gX5_workOn_X5_keep rfl rfl rfl (by decide +kernel) ⟨Nat.le_of_ble_eq_true rfl, Nat.le_of_ble_eq_true rfl⟩) (wd_preV (ci := 5) (q0 := 0) hP hK rfl rfl) rfl rfl hl.1 rfl (lv_room (Nat.le_of_ble_eq_true rfl)) dX5_workOn_189 ⟨Nat.zero_le _, Nat.zero_le _⟩) hS (fun H locs hP hS => ?_)
  have hP : va_P D kC (sl_W cI cJ h (nI n) F Wt Sz Nu Mb (nI k) G Wk To (upd Sl i (nI r)) Ri (nI f) (nI b) oT oS oF (nI an) (nI as) Fo wo pa fa) H := hP
  exact W.iret (v := 0) hx hb hr (fun t9 ht _ => ⟨congrArg (fun z => Outcome.returned (some (Value.int z))) (rfl), by rw [ht]; exact hP, hS.F ht⟩) hS.2.2 dX5_workOn_192
end SubE
