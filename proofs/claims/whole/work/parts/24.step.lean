theorem i_lt {a b : Int32} (h : a < b) : ¬ b ≤ a := by rw [Int32.le_iff_toInt_le]; rw [Int32.lt_iff_toInt_lt] at h; omega
theorem i_nlt {a b : Int32} (h : ¬ a < b) : b ≤ a := by rw [Int32.le_iff_toInt_le]; rw [Int32.lt_iff_toInt_lt] at h; omega
/-! step and run -/
def isW (cI cJ : ClassId) (h : Nat → Nat) (b : Nat) (w : va_W) : Prop := ∃ (n k f an as : Nat) (F Wt Sz : Nat → Int32) (Nu : Nat → Int64) (Mb G Wk : Nat → Int32) (To : Nat → Int64) (Sl Ri oT oS oF Fo : Nat → Int32) (wo pa fa : Int32), w = sl_W cI cJ h (nI n) F Wt Sz Nu Mb (nI k) G Wk To Sl Ri (nI f) (nI b) oT oS oF (nI an) (nI as) Fo wo pa fa
/-- so many steps at most: the worlds between them, what the run answers -/
def runC (l : Launch) (D : va_G) (cI cJ : ClassId) (h : Nat → Nat) : Nat → va_W → Int32 → va_W → Prop
  | 0, w, a, w' => a = 0 ∧ w' = w
  | d + 1, w, a, w' => (isW cI cJ h 0 w ∧ a = 0 ∧ w' = w) ∨ ∃ (b : Nat) (r : Int32) (w1 : va_W) (v a1 : Int32), b < 40 ∧ isW cI cJ h (b + 1) w ∧ Met l yX5_step wsX5_step ({ frames := 8, cells := 0, slots := 0, locals := 300 }) (wd_P D cI cJ [.ref (h 0)] w) (mu_Q D (ad_A h 20) (some (.int r)) w1) 0 0 (ad_A h 20) ∧ ((r < -20 ∧ v = 1000) ∨ (¬ r < -20 ∧ v = 1)) ∧ runC l D cI cJ h d w1 a1 w' ∧ a = v + a1
section SubG
variable {l : Launch} {D : va_G} {cI cJ : ClassId} {h : Nat → Nat} {n k f b an as : Nat} {F Wt Sz : Nat → Int32} {Nu : Nat → Int64} {Mb : Nat → Int32} {G Wk : Nat → Int32} {To : Nat → Int64} {Sl : Nat → Int32} {Ri oT oS oF Fo : Nat → Int32} {wo pa fa : Int32}
set_option maxHeartbeats 4000000 in
set_option maxRecDepth 100000 in
theorem c_X5_step_n (hh : ad_ok h 20) (hb0 : b = 0) : Met l yX5_step wsX5_step ({ frames := 8, cells := 0, slots := 0, locals := 300 }) (wd_P D cI cJ [.ref (h 0)] (sl_W cI cJ h (nI n) F Wt Sz Nu Mb (nI k) G Wk To Sl Ri (nI f) (nI b) oT oS oF (nI an) (nI as) Fo wo pa fa)) (pu_Q (some (.int (-5)))) 0 0 (fun _ => False) := by
  refine Met.ofW (cc := cX5_step) (maxL := 4) (ret := (some .int)) (by decide) rfl ?_
  intro p e s m args below meth c s₁ B hml hv
  obtain ⟨rfl, hP, hK⟩ := hv
  have hx := B.exec
  have hb := B.bytes
  have hr := B.returns
  have hts := atoms_spec (ws := wsX5_step) B.pre
  have hown : s.vm.findClass RX5 = some m.cls := findClass_of_methodNamed B.named
  have hlocks := B.notSynchronized
  have hiX5 : ∀ w ∈ u_ws RX5 TX5 5, w ∈ wsX5_step := by decide +kernel
  have kf26 := hts (.fieldLink RX5 26 "SortingLine" "onBelt" "LSortingLine$Belt;") (by decide +kernel)
  have hl := lv_entry ([.ref (h 0)]) (n := 4) (Nat.le_of_ble_eq_true rfl)
  rw [lg_entry_eq]
  generalize (lg_sl ([.ref (h 0)]) ++ List.replicate (4 - (lg_sl ([.ref (h 0)])).length) Slot.unset).toArray = ls at hl ⊢
  have hl : lv_has ls 4 [(0, .ref (h 0))] := hl
  refine lv_aload_n hx hb dX5_step_0 rfl (lv_at hl 0 rfl) ?_
  refine va_get (D := D) (ci := 5) (v := .ref (h 3)) (C := RX5) (T := TX5) (N := 5) hx hb hts hiX5 hown hK.1 hP 0 rfl rfl 2 (by decide) kf26 (fun _ h9 => h9) rfl dX5_step_1 ?_
  refine pu_calli (va_runV (As := []) (rest := []) ⟨hx, hb, hml, hown, hts⟩ (c_X0_size hh) (cwV 0 hts gX5_step_X0_size rfl rfl rfl (by decide +kernel) ⟨Nat.le_of_ble_eq_true rfl, Nat.le_of_ble_eq_true rfl⟩) (wd_preV (ci := 0) (q0 := 3) hP hK rfl rfl) rfl rfl hl.1 rfl (lv_room (Nat.le_of_ble_eq_true rfl)) dX5_step_4 ⟨Nat.zero_le _, Nat.zero_le _⟩) ?_
  refine lv_if_ne (tgt := 13) hx hb dX5_step_7 (by decide) (fun h9 => absurd (show nI b = 0 by rw [hb0]; rfl) h9) (fun _ => ?_)
  refine lv_bipush (v := (-5)) hx hb dX5_step_10 (by decide) ?_
  exact W.iret (v := (-5)) hx hb hr (fun t9 ht _ => ⟨congrArg (fun z => Outcome.returned (some (Value.int z))) (rfl), ht⟩) (fun _ h9 => nomatch h9) dX5_step_12
set_option maxHeartbeats 4000000 in
set_option maxRecDepth 100000 in
theorem c_X5_step_p (hh : ad_ok h 20) (hn : n ≤ 100) (hk : k ≤ 8) (hf : f < 40) (hb9 : b < 40) (r : Nat) (hr9 : r < n) (hrf : Ri f = nI r) (q : Nat) (hq : q ≤ k) (hv : ∀ j, j < q → ko (F r) (G j) = false) (hqk : q = k) : Met l yX5_step wsX5_step ({ frames := 8, cells := 0, slots := 0, locals := 300 }) (wd_P D cI cJ [.ref (h 0)] (sl_W cI cJ h (nI n) F Wt Sz Nu Mb (nI k) G Wk To Sl Ri (nI f) (nI (b + 1)) oT oS oF (nI an) (nI as) Fo wo pa fa)) (mu_Q D (ad_A h 20) (some (.int (-6))) (sl_W cI cJ h (nI n) F Wt Sz Nu Mb (nI k) G Wk To Sl Ri (nI ((f + 1) % 40)) (nI b) oT oS oF (nI an) (nI as) Fo wo (pa + 1) fa)) 0 0 (ad_A h 20) := by
  refine Met.ofW (cc := cX5_step) (maxL := 4) (ret := (some .int)) (by decide) rfl ?_
  intro p e s m args below meth c s₁ B hml hv
  obtain ⟨rfl, hP, hK⟩ := hv
  have hx := B.exec
  have hb := B.bytes
  have hr := B.returns
  have hts := atoms_spec (ws := wsX5_step) B.pre
  have hown : s.vm.findClass RX5 = some m.cls := findClass_of_methodNamed B.named
  have hlocks := B.notSynchronized
  have hiX5 : ∀ w ∈ u_ws RX5 TX5 5, w ∈ wsX5_step := by decide +kernel
  have kf26 := hts (.fieldLink RX5 26 "SortingLine" "onBelt" "LSortingLine$Belt;") (by decide +kernel)
  have kf40 := hts (.fieldLink RX5 40 "SortingLine" "tally" "LSortingLine$Tally;") (by decide +kernel)
  have hS : va_S (ad_A h 20) s.heap s.heap [] := va_S.rf
  have hl := lv_entry ([.ref (h 0)]) (n := 4) (Nat.le_of_ble_eq_true rfl)
  rw [lg_entry_eq]
  generalize (lg_sl ([.ref (h 0)]) ++ List.replicate (4 - (lg_sl ([.ref (h 0)])).length) Slot.unset).toArray = ls at hl ⊢
  have hl : lv_has ls 4 [(0, .ref (h 0))] := hl
  refine lv_aload_n hx hb dX5_step_0 rfl (lv_at hl 0 rfl) ?_
  refine va_get (D := D) (ci := 5) (v := .ref (h 3)) (C := RX5) (T := TX5) (N := 5) hx hb hts hiX5 hown hK.1 hP 0 rfl rfl 2 (by decide) kf26 (fun _ h9 => h9) rfl dX5_step_1 ?_
  refine pu_calli (va_runV (As := []) (rest := []) ⟨hx, hb, hml, hown, hts⟩ (c_X0_size hh) (cwV 0 hts gX5_step_X0_size rfl rfl rfl (by decide +kernel) ⟨Nat.le_of_ble_eq_true rfl, Nat.le_of_ble_eq_true rfl⟩) (wd_preV (ci := 0) (q0 := 3) hP hK rfl rfl) rfl rfl hl.1 rfl (lv_room (Nat.le_of_ble_eq_true rfl)) dX5_step_4 ⟨Nat.zero_le _, Nat.zero_le _⟩) ?_
  refine lv_if_ne (tgt := 13) hx hb dX5_step_7 (by decide) (fun _ => ?_) (fun h9 => absurd h9 (nI_ne0 (Nat.succ_pos b) (by omega)))
  refine lv_aload_n hx hb dX5_step_13 rfl (lv_at hl 0 rfl) ?_
  refine va_get (D := D) (ci := 5) (v := .ref (h 3)) (C := RX5) (T := TX5) (N := 5) hx hb hts hiX5 hown hK.1 hP 0 rfl rfl 2 (by decide) kf26 (fun _ h9 => h9) rfl dX5_step_14 ?_
  refine mu_calli (va_runV (As := []) (rest := []) ⟨hx, hb, hml, hown, hts⟩ (c_X0_takeFirst hh hf (by omega)) (cwV 0 hts gX5_step_X0_takeFirst rfl rfl rfl (by decide +kernel) ⟨Nat.le_of_ble_eq_true rfl, Nat.le_of_ble_eq_true rfl⟩) (wd_preV (ci := 0) (q0 := 3) hP hK rfl rfl) rfl rfl hl.1 rfl (lv_room (Nat.le_of_ble_eq_true rfl)) dX5_step_17 ⟨Nat.zero_le _, Nat.zero_le _⟩) hS (fun H locs hP hS => ?_)
  have hP : va_P D kC (sl_W cI cJ h (nI n) F Wt Sz Nu Mb (nI k) G Wk To Sl Ri (nI ((f + 1) % 40)) (nI b) oT oS oF (nI an) (nI as) Fo wo pa fa) H := hP
  refine tp_i (y := nI r) (hrf) ?_
  refine lv_istore_n (lv' := [(1, .int (nI r)), (0, .ref (h 0))]) hx hb dX5_step_20 rfl hl (by decide) rfl (fun ls hl => ?_)
  refine lv_aload_n hx hb dX5_step_21 rfl (lv_at hl 1 rfl) ?_
  refine lv_iload_n hx hb dX5_step_22 rfl (lv_at hl 0 rfl) ?_
  refine pu_calli (va_runV (As := [.int (nI r)]) (rest := []) ⟨hx, hb, hml, hown, hts⟩ (c_X5_stationFor_n hh hn hk r (by omega) q hq hv hqk) (cwV 1 hts gX5_step_X5_stationFor rfl rfl rfl (by decide +kernel) ⟨Nat.le_of_ble_eq_true rfl, Nat.le_of_ble_eq_true rfl⟩) (wd_preV (ci := 5) (q0 := 0) hP hK rfl rfl) rfl rfl hl.1 rfl (lv_room (Nat.le_of_ble_eq_true rfl)) dX5_step_23 ⟨Nat.zero_le _, Nat.zero_le _⟩) ?_
  refine lv_istore_n (lv' := [(2, .int (-5)), (1, .int (nI r)), (0, .ref (h 0))]) hx hb dX5_step_26 rfl hl (by decide) rfl (fun ls hl => ?_)
  refine lv_iload_n hx hb dX5_step_27 rfl (lv_at hl 0 rfl) ?_
  refine lv_bipush (v := (-5)) hx hb dX5_step_28 (by decide) ?_
  refine lv_icmp_ne (tgt := 43) hx hb dX5_step_30 (by decide) (fun h9 => absurd (by decide) h9) (fun _ => ?_)
  refine lv_aload_n hx hb dX5_step_33 rfl (lv_at hl 2 rfl) ?_
  refine va_get (D := D) (ci := 5) (v := .ref (h 5)) (C := RX5) (T := TX5) (N := 5) hx hb hts hiX5 hown hK.1 hP 0 rfl rfl 4 (by decide) kf40 (fun _ h9 => h9) rfl dX5_step_34 ?_
  refine mu_callv (va_runV (As := []) (rest := []) ⟨hx, hb, hml, hown, hts⟩ (c_X3_addPassed hh) (cwV 0 hts gX5_step_X3_addPassed rfl rfl rfl (by decide +kernel) ⟨Nat.le_of_ble_eq_true rfl, Nat.le_of_ble_eq_true rfl⟩) (wd_preV (ci := 3) (q0 := 5) hP hK rfl rfl) rfl rfl hl.1 rfl (lv_room (Nat.le_of_ble_eq_true rfl)) dX5_step_37 ⟨Nat.zero_le _, Nat.zero_le _⟩) hS (fun H locs hP hS => ?_)
  have hP : va_P D kC (sl_W cI cJ h (nI n) F Wt Sz Nu Mb (nI k) G Wk To Sl Ri (nI ((f + 1) % 40)) (nI b) oT oS oF (nI an) (nI as) Fo wo (pa + 1) fa) H := hP
  refine lv_bipush (v := (-6)) hx hb dX5_step_40 (by decide) ?_
  exact W.iret (v := (-6)) hx hb hr (fun t9 ht _ => ⟨congrArg (fun z => Outcome.returned (some (Value.int z))) (rfl), by rw [ht]; exact hP, hS.F ht⟩) hS.2.2 dX5_step_42
set_option maxHeartbeats 4000000 in
set_option maxRecDepth 100000 in
theorem c_X5_step_w (hh : ad_ok h 20) (hn : n ≤ 100) (hk : k ≤ 8) (hf : f < 40) (hb9 : b < 40) (r : Nat) (hr9 : r < n) (hrf : Ri f = nI r) (q : Nat) (hq : q ≤ k) (hv : ∀ j, j < q → ko (F r) (G j) = false) (hqk : q < k) (hko : ko (F r) (G q) = true) (x : Nat) (hx0 : x = 0) (T2 : Nat → Int64) (S2 M2 R2 : Nat → Int32) (b2 : Nat) (hWO : Met l yX5_workOn wsX5_workOn ({ frames := 6, cells := 0, slots := 0, locals := 200 }) (wd_P D cI cJ [.ref (h 0), .int (nI r), .int (nI q)] (sl_W cI cJ h (nI n) F Wt Sz Nu Mb (nI k) G Wk To Sl Ri (nI ((f + 1) % 40)) (nI b) oT oS oF (nI an) (nI as) Fo wo pa fa)) (mu_Q D (ad_A h 20) (some (.int (nI x))) (sl_W cI cJ h (nI n) F Wt Sz Nu M2 (nI k) G Wk T2 S2 R2 (nI ((f + 1) % 40)) (nI b2) oT oS oF (nI an) (nI as) Fo wo pa fa)) 0 0 (ad_A h 20)) : Met l yX5_step wsX5_step ({ frames := 8, cells := 0, slots := 0, locals := 300 }) (wd_P D cI cJ [.ref (h 0)] (sl_W cI cJ h (nI n) F Wt Sz Nu Mb (nI k) G Wk To Sl Ri (nI f) (nI (b + 1)) oT oS oF (nI an) (nI as) Fo wo pa fa)) (mu_Q D (ad_A h 20) (some (.int (nI q))) (sl_W cI cJ h (nI n) F Wt Sz Nu M2 (nI k) G Wk T2 S2 R2 (nI ((f + 1) % 40)) (nI b2) oT oS oF (nI an) (nI as) Fo (wo + 1) pa fa)) 0 0 (ad_A h 20) := by
  refine Met.ofW (cc := cX5_step) (maxL := 4) (ret := (some .int)) (by decide) rfl ?_
  intro p e s m args below meth c s₁ B hml hv
  obtain ⟨rfl, hP, hK⟩ := hv
  have hx := B.exec
  have hb := B.bytes
  have hr := B.returns
  have hts := atoms_spec (ws := wsX5_step) B.pre
  have hown : s.vm.findClass RX5 = some m.cls := findClass_of_methodNamed B.named
  have hlocks := B.notSynchronized
  have hiX5 : ∀ w ∈ u_ws RX5 TX5 5, w ∈ wsX5_step := by decide +kernel
  have kf26 := hts (.fieldLink RX5 26 "SortingLine" "onBelt" "LSortingLine$Belt;") (by decide +kernel)
  have kf40 := hts (.fieldLink RX5 40 "SortingLine" "tally" "LSortingLine$Tally;") (by decide +kernel)
  have hS : va_S (ad_A h 20) s.heap s.heap [] := va_S.rf
  have hl := lv_entry ([.ref (h 0)]) (n := 4) (Nat.le_of_ble_eq_true rfl)
  rw [lg_entry_eq]
  generalize (lg_sl ([.ref (h 0)]) ++ List.replicate (4 - (lg_sl ([.ref (h 0)])).length) Slot.unset).toArray = ls at hl ⊢
  have hl : lv_has ls 4 [(0, .ref (h 0))] := hl
  refine lv_aload_n hx hb dX5_step_0 rfl (lv_at hl 0 rfl) ?_
  refine va_get (D := D) (ci := 5) (v := .ref (h 3)) (C := RX5) (T := TX5) (N := 5) hx hb hts hiX5 hown hK.1 hP 0 rfl rfl 2 (by decide) kf26 (fun _ h9 => h9) rfl dX5_step_1 ?_
  refine pu_calli (va_runV (As := []) (rest := []) ⟨hx, hb, hml, hown, hts⟩ (c_X0_size hh) (cwV 0 hts gX5_step_X0_size rfl rfl rfl (by decide +kernel) ⟨Nat.le_of_ble_eq_true rfl, Nat.le_of_ble_eq_true rfl⟩) (wd_preV (ci := 0) (q0 := 3) hP hK rfl rfl) rfl rfl hl.1 rfl (lv_room (Nat.le_of_ble_eq_true rfl)) dX5_step_4 ⟨Nat.zero_le _, Nat.zero_le _⟩) ?_
  refine lv_if_ne (tgt := 13) hx hb dX5_step_7 (by decide) (fun _ => ?_) (fun h9 => absurd h9 (nI_ne0 (Nat.succ_pos b) (by omega)))
  refine lv_aload_n hx hb dX5_step_13 rfl (lv_at hl 0 rfl) ?_
  refine va_get (D := D) (ci := 5) (v := .ref (h 3)) (C := RX5) (T := TX5) (N := 5) hx hb hts hiX5 hown hK.1 hP 0 rfl rfl 2 (by decide) kf26 (fun _ h9 => h9) rfl dX5_step_14 ?_
  refine mu_calli (va_runV (As := []) (rest := []) ⟨hx, hb, hml, hown, hts⟩ (c_X0_takeFirst hh hf (by omega)) (cwV 0 hts gX5_step_X0_takeFirst rfl rfl rfl (by decide +kernel) ⟨Nat.le_of_ble_eq_true rfl, Nat.le_of_ble_eq_true rfl⟩) (wd_preV (ci := 0) (q0 := 3) hP hK rfl rfl) rfl rfl hl.1 rfl (lv_room (Nat.le_of_ble_eq_true rfl)) dX5_step_17 ⟨Nat.zero_le _, Nat.zero_le _⟩) hS (fun H locs hP hS => ?_)
  have hP : va_P D kC (sl_W cI cJ h (nI n) F Wt Sz Nu Mb (nI k) G Wk To Sl Ri (nI ((f + 1) % 40)) (nI b) oT oS oF (nI an) (nI as) Fo wo pa fa) H := hP
  refine tp_i (y := nI r) (hrf) ?_
  refine lv_istore_n (lv' := [(1, .int (nI r)), (0, .ref (h 0))]) hx hb dX5_step_20 rfl hl (by decide) rfl (fun ls hl => ?_)
  refine lv_aload_n hx hb dX5_step_21 rfl (lv_at hl 1 rfl) ?_
  refine lv_iload_n hx hb dX5_step_22 rfl (lv_at hl 0 rfl) ?_
  refine pu_calli (va_runV (As := [.int (nI r)]) (rest := []) ⟨hx, hb, hml, hown, hts⟩ (c_X5_stationFor_o hh hn hk r (by omega) q hq hv hqk hko) (cwV 1 hts gX5_step_X5_stationFor rfl rfl rfl (by decide +kernel) ⟨Nat.le_of_ble_eq_true rfl, Nat.le_of_ble_eq_true rfl⟩) (wd_preV (ci := 5) (q0 := 0) hP hK rfl rfl) rfl rfl hl.1 rfl (lv_room (Nat.le_of_ble_eq_true rfl)) dX5_step_23 ⟨Nat.zero_le _, Nat.zero_le _⟩) ?_
  refine lv_istore_n (lv' := [(2, .int (nI q)), (1, .int (nI r)), (0, .ref (h 0))]) hx hb dX5_step_26 rfl hl (by decide) rfl (fun ls hl => ?_)
  refine lv_iload_n hx hb dX5_step_27 rfl (lv_at hl 0 rfl) ?_
  refine lv_bipush (v := (-5)) hx hb dX5_step_28 (by decide) ?_
  refine lv_icmp_ne (tgt := 43) hx hb dX5_step_30 (by decide) (fun _ => ?_) (fun h9 => absurd h9 (fun h9 => absurd (h9 ▸ nI_pos (n := q) (by omega)) (by decide)))
  refine lv_aload_n hx hb dX5_step_43 rfl (lv_at hl 2 rfl) ?_
  refine lv_iload_n hx hb dX5_step_44 rfl (lv_at hl 1 rfl) ?_
  refine lv_iload_n hx hb dX5_step_45 rfl (lv_at hl 0 rfl) ?_
  refine mu_calli (va_runV (As := [.int (nI r), .int (nI q)]) (rest := []) ⟨hx, hb, hml, hown, hts⟩ (hWO) (cwV 2 hts gX5_step_X5_workOn rfl rfl rfl (by decide +kernel) ⟨Nat.le_of_ble_eq_true rfl, Nat.le_of_ble_eq_true rfl⟩) (wd_preV (ci := 5) (q0 := 0) hP hK rfl rfl) rfl rfl hl.1 rfl (lv_room (Nat.le_of_ble_eq_true rfl)) dX5_step_46 ⟨Nat.zero_le _, Nat.zero_le _⟩) hS (fun H locs hP hS => ?_)
  have hP : va_P D kC (sl_W cI cJ h (nI n) F Wt Sz Nu M2 (nI k) G Wk T2 S2 R2 (nI ((f + 1) % 40)) (nI b2) oT oS oF (nI an) (nI as) Fo wo pa fa) H := hP
  refine lv_istore_n (lv' := [(3, .int (nI x)), (2, .int (nI q)), (1, .int (nI r)), (0, .ref (h 0))]) hx hb dX5_step_49 rfl hl (by decide) rfl (fun ls hl => ?_)
  refine lv_iload_n hx hb dX5_step_50 rfl (lv_at hl 0 rfl) ?_
  refine lv_if_eq (tgt := 77) hx hb dX5_step_51 (by decide) (fun _ => ?_) (fun h9 => absurd (by rw [hx0]; rfl) h9)
  refine lv_aload_n hx hb dX5_step_77 rfl (lv_at hl 3 rfl) ?_
  refine va_get (D := D) (ci := 5) (v := .ref (h 5)) (C := RX5) (T := TX5) (N := 5) hx hb hts hiX5 hown hK.1 hP 0 rfl rfl 4 (by decide) kf40 (fun _ h9 => h9) rfl dX5_step_78 ?_
  refine mu_callv (va_runV (As := []) (rest := []) ⟨hx, hb, hml, hown, hts⟩ (c_X3_addWorked hh) (cwV 0 hts gX5_step_X3_addWorked rfl rfl rfl (by decide +kernel) ⟨Nat.le_of_ble_eq_true rfl, Nat.le_of_ble_eq_true rfl⟩) (wd_preV (ci := 3) (q0 := 5) hP hK rfl rfl) rfl rfl hl.1 rfl (lv_room (Nat.le_of_ble_eq_true rfl)) dX5_step_81 ⟨Nat.zero_le _, Nat.zero_le _⟩) hS (fun H locs hP hS => ?_)
  have hP : va_P D kC (sl_W cI cJ h (nI n) F Wt Sz Nu M2 (nI k) G Wk T2 S2 R2 (nI ((f + 1) % 40)) (nI b2) oT oS oF (nI an) (nI as) Fo (wo + 1) pa fa) H := hP
  refine lv_iload_n hx hb dX5_step_84 rfl (lv_at hl 1 rfl) ?_
  exact W.iret (v := nI q) hx hb hr (fun t9 ht _ => ⟨congrArg (fun z => Outcome.returned (some (Value.int z))) (rfl), by rw [ht]; exact hP, hS.F ht⟩) hS.2.2 dX5_step_85
set_option maxHeartbeats 4000000 in
set_option maxRecDepth 100000 in
theorem c_X5_step_f (hh : ad_ok h 20) (hn : n ≤ 100) (hk : k ≤ 8) (hf : f < 40) (hb9 : b < 40) (r : Nat) (hr9 : r < n) (hrf : Ri f = nI r) (q : Nat) (hq : q ≤ k) (hv : ∀ j, j < q → ko (F r) (G j) = false) (ha : an < 20) (hs : as ≤ 20) (hqk : q < k) (hko : ko (F r) (G q) = true) (x : Nat) (hx1 : 1 ≤ x) (hx5 : x ≤ 5) (T2 : Nat → Int64) (S2 M2 R2 : Nat → Int32) (b2 : Nat) (hWO : Met l yX5_workOn wsX5_workOn ({ frames := 6, cells := 0, slots := 0, locals := 200 }) (wd_P D cI cJ [.ref (h 0), .int (nI r), .int (nI q)] (sl_W cI cJ h (nI n) F Wt Sz Nu Mb (nI k) G Wk To Sl Ri (nI ((f + 1) % 40)) (nI b) oT oS oF (nI an) (nI as) Fo wo pa fa)) (mu_Q D (ad_A h 20) (some (.int (nI x))) (sl_W cI cJ h (nI n) F Wt Sz Nu M2 (nI k) G Wk T2 S2 R2 (nI ((f + 1) % 40)) (nI b2) oT oS oF (nI an) (nI as) Fo wo pa fa)) 0 0 (ad_A h 20)) : Met l yX5_step wsX5_step ({ frames := 8, cells := 0, slots := 0, locals := 300 }) (wd_P D cI cJ [.ref (h 0)] (sl_W cI cJ h (nI n) F Wt Sz Nu Mb (nI k) G Wk To Sl Ri (nI f) (nI (b + 1)) oT oS oF (nI an) (nI as) Fo wo pa fa)) (mu_Q D (ad_A h 20) (some (.int (-20 - nI x))) (sl_W cI cJ h (nI n) F Wt Sz Nu M2 (nI k) G Wk T2 S2 R2 (nI ((f + 1) % 40)) (nI b2) (upd oT an (nI r)) (upd oS an (nI q)) (upd oF an (nI x)) (nI ((an + 1) % 20)) (nI (min (as + 1) 20)) (upd Fo x (Fo x + 1)) wo pa (fa + 1))) 0 0 (ad_A h 20) := by
  refine Met.ofW (cc := cX5_step) (maxL := 4) (ret := (some .int)) (by decide) rfl ?_
  intro p e s m args below meth c s₁ B hml hv
  obtain ⟨rfl, hP, hK⟩ := hv
  have hx := B.exec
  have hb := B.bytes
  have hr := B.returns
  have hts := atoms_spec (ws := wsX5_step) B.pre
  have hown : s.vm.findClass RX5 = some m.cls := findClass_of_methodNamed B.named
  have hlocks := B.notSynchronized
  have hiX5 : ∀ w ∈ u_ws RX5 TX5 5, w ∈ wsX5_step := by decide +kernel
  have kf26 := hts (.fieldLink RX5 26 "SortingLine" "onBelt" "LSortingLine$Belt;") (by decide +kernel)
  have kf33 := hts (.fieldLink RX5 33 "SortingLine" "aside" "LSortingLine$Side;") (by decide +kernel)
  have kf40 := hts (.fieldLink RX5 40 "SortingLine" "tally" "LSortingLine$Tally;") (by decide +kernel)
  have hS : va_S (ad_A h 20) s.heap s.heap [] := va_S.rf
  have hl := lv_entry ([.ref (h 0)]) (n := 4) (Nat.le_of_ble_eq_true rfl)
  rw [lg_entry_eq]
  generalize (lg_sl ([.ref (h 0)]) ++ List.replicate (4 - (lg_sl ([.ref (h 0)])).length) Slot.unset).toArray = ls at hl ⊢
  have hl : lv_has ls 4 [(0, .ref (h 0))] := hl
  refine lv_aload_n hx hb dX5_step_0 rfl (lv_at hl 0 rfl) ?_
  refine va_get (D := D) (ci := 5) (v := .ref (h 3)) (C := RX5) (T := TX5) (N := 5) hx hb hts hiX5 hown hK.1 hP 0 rfl rfl 2 (by decide) kf26 (fun _ h9 => h9) rfl dX5_step_1 ?_
  refine pu_calli (va_runV (As := []) (rest := []) ⟨hx, hb, hml, hown, hts⟩ (c_X0_size hh) (cwV 0 hts gX5_step_X0_size rfl rfl rfl (by decide +kernel) ⟨Nat.le_of_ble_eq_true rfl, Nat.le_of_ble_eq_true rfl⟩) (wd_preV (ci := 0) (q0 := 3) hP hK rfl rfl) rfl rfl hl.1 rfl (lv_room (Nat.le_of_ble_eq_true rfl)) dX5_step_4 ⟨Nat.zero_le _, Nat.zero_le _⟩) ?_
  refine lv_if_ne (tgt := 13) hx hb dX5_step_7 (by decide) (fun _ => ?_) (fun h9 => absurd h9 (nI_ne0 (Nat.succ_pos b) (by omega)))
  refine lv_aload_n hx hb dX5_step_13 rfl (lv_at hl 0 rfl) ?_
  refine va_get (D := D) (ci := 5) (v := .ref (h 3)) (C := RX5) (T := TX5) (N := 5) hx hb hts hiX5 hown hK.1 hP 0 rfl rfl 2 (by decide) kf26 (fun _ h9 => h9) rfl dX5_step_14 ?_
  refine mu_calli (va_runV (As := []) (rest := []) ⟨hx, hb, hml, hown, hts⟩ (c_X0_takeFirst hh hf (by omega)) (cwV 0 hts gX5_step_X0_takeFirst rfl rfl rfl (by decide +kernel) ⟨Nat.le_of_ble_eq_true rfl, Nat.le_of_ble_eq_true rfl⟩) (wd_preV (ci := 0) (q0 := 3) hP hK rfl rfl) rfl rfl hl.1 rfl (lv_room (Nat.le_of_ble_eq_true rfl)) dX5_step_17 ⟨Nat.zero_le _, Nat.zero_le _⟩) hS (fun H locs hP hS => ?_)
  have hP : va_P D kC (sl_W cI cJ h (nI n) F Wt Sz Nu Mb (nI k) G Wk To Sl Ri (nI ((f + 1) % 40)) (nI b) oT oS oF (nI an) (nI as) Fo wo pa fa) H := hP
  refine tp_i (y := nI r) (hrf) ?_
  refine lv_istore_n (lv' := [(1, .int (nI r)), (0, .ref (h 0))]) hx hb dX5_step_20 rfl hl (by decide) rfl (fun ls hl => ?_)
  refine lv_aload_n hx hb dX5_step_21 rfl (lv_at hl 1 rfl) ?_
  refine lv_iload_n hx hb dX5_step_22 rfl (lv_at hl 0 rfl) ?_
  refine pu_calli (va_runV (As := [.int (nI r)]) (rest := []) ⟨hx, hb, hml, hown, hts⟩ (c_X5_stationFor_o hh hn hk r (by omega) q hq hv hqk hko) (cwV 1 hts gX5_step_X5_stationFor rfl rfl rfl (by decide +kernel) ⟨Nat.le_of_ble_eq_true rfl, Nat.le_of_ble_eq_true rfl⟩) (wd_preV (ci := 5) (q0 := 0) hP hK rfl rfl) rfl rfl hl.1 rfl (lv_room (Nat.le_of_ble_eq_true rfl)) dX5_step_23 ⟨Nat.zero_le _, Nat.zero_le _⟩) ?_
  refine lv_istore_n (lv' := [(2, .int (nI q)), (1, .int (nI r)), (0, .ref (h 0))]) hx hb dX5_step_26 rfl hl (by decide) rfl (fun ls hl => ?_)
  refine lv_iload_n hx hb dX5_step_27 rfl (lv_at hl 0 rfl) ?_
  refine lv_bipush (v := (-5)) hx hb dX5_step_28 (by decide) ?_
  refine lv_icmp_ne (tgt := 43) hx hb dX5_step_30 (by decide) (fun _ => ?_) (fun h9 => absurd h9 (fun h9 => absurd (h9 ▸ nI_pos (n := q) (by omega)) (by decide)))
  refine lv_aload_n hx hb dX5_step_43 rfl (lv_at hl 2 rfl) ?_
  refine lv_iload_n hx hb dX5_step_44 rfl (lv_at hl 1 rfl) ?_
  refine lv_iload_n hx hb dX5_step_45 rfl (lv_at hl 0 rfl) ?_
  refine mu_calli (va_runV (As := [.int (nI r), .int (nI q)]) (rest := []) ⟨hx, hb, hml, hown, hts⟩ (hWO) (cwV 2 hts gX5_step_X5_workOn rfl rfl rfl (by decide +kernel) ⟨Nat.le_of_ble_eq_true rfl, Nat.le_of_ble_eq_true rfl⟩) (wd_preV (ci := 5) (q0 := 0) hP hK rfl rfl) rfl rfl hl.1 rfl (lv_room (Nat.le_of_ble_eq_true rfl)) dX5_step_46 ⟨Nat.zero_le _, Nat.zero_le _⟩) hS (fun H locs hP hS => ?_)
  have hP : va_P D kC (sl_W cI cJ h (nI n) F Wt Sz Nu M2 (nI k) G Wk T2 S2 R2 (nI ((f + 1) % 40)) (nI b2) oT oS oF (nI an) (nI as) Fo wo pa fa) H := hP
  refine lv_istore_n (lv' := [(3, .int (nI x)), (2, .int (nI q)), (1, .int (nI r)), (0, .ref (h 0))]) hx hb dX5_step_49 rfl hl (by decide) rfl (fun ls hl => ?_)
  refine lv_iload_n hx hb dX5_step_50 rfl (lv_at hl 0 rfl) ?_
  refine lv_if_eq (tgt := 77) hx hb dX5_step_51 (by decide) (fun h9 => absurd h9 (nI_ne0 (by omega) (by omega))) (fun _ => ?_)
  refine lv_aload_n hx hb dX5_step_54 rfl (lv_at hl 3 rfl) ?_
  refine va_get (D := D) (ci := 5) (v := .ref (h 4)) (C := RX5) (T := TX5) (N := 5) hx hb hts hiX5 hown hK.1 hP 0 rfl rfl 3 (by decide) kf33 (fun _ h9 => h9) rfl dX5_step_55 ?_
  refine lv_iload_n hx hb dX5_step_58 rfl (lv_at hl 2 rfl) ?_
  refine lv_iload_n hx hb dX5_step_59 rfl (lv_at hl 1 rfl) ?_
  refine lv_iload_n hx hb dX5_step_60 rfl (lv_at hl 0 rfl) ?_
  refine mu_callv (va_runV (As := [.int (nI r), .int (nI q), .int (nI x)]) (rest := []) ⟨hx, hb, hml, hown, hts⟩ (c_X1_add hh ha hs (nI r) (nI q) (nI x)) (cwV 3 hts gX5_step_X1_add rfl rfl rfl (by decide +kernel) ⟨Nat.le_of_ble_eq_true rfl, Nat.le_of_ble_eq_true rfl⟩) (wd_preV (ci := 1) (q0 := 4) hP hK rfl rfl) rfl rfl hl.1 rfl (lv_room (Nat.le_of_ble_eq_true rfl)) dX5_step_61 ⟨Nat.zero_le _, Nat.zero_le _⟩) hS (fun H locs hP hS => ?_)
  have hP : va_P D kC (sl_W cI cJ h (nI n) F Wt Sz Nu M2 (nI k) G Wk T2 S2 R2 (nI ((f + 1) % 40)) (nI b2) (upd oT an (nI r)) (upd oS an (nI q)) (upd oF an (nI x)) (nI ((an + 1) % 20)) (nI (min (as + 1) 20)) Fo wo pa fa) H := hP
  refine lv_aload_n hx hb dX5_step_64 rfl (lv_at hl 3 rfl) ?_
  refine va_get (D := D) (ci := 5) (v := .ref (h 5)) (C := RX5) (T := TX5) (N := 5) hx hb hts hiX5 hown hK.1 hP 0 rfl rfl 4 (by decide) kf40 (fun _ h9 => h9) rfl dX5_step_65 ?_
  refine mu_callv (va_runV (As := []) (rest := []) ⟨hx, hb, hml, hown, hts⟩ (c_X3_addFailed hh) (cwV 0 hts gX5_step_X3_addFailed rfl rfl rfl (by decide +kernel) ⟨Nat.le_of_ble_eq_true rfl, Nat.le_of_ble_eq_true rfl⟩) (wd_preV (ci := 3) (q0 := 5) hP hK rfl rfl) rfl rfl hl.1 rfl (lv_room (Nat.le_of_ble_eq_true rfl)) dX5_step_68 ⟨Nat.zero_le _, Nat.zero_le _⟩) hS (fun H locs hP hS => ?_)
  have hP : va_P D kC (sl_W cI cJ h (nI n) F Wt Sz Nu M2 (nI k) G Wk T2 S2 R2 (nI ((f + 1) % 40)) (nI b2) (upd oT an (nI r)) (upd oS an (nI q)) (upd oF an (nI x)) (nI ((an + 1) % 20)) (nI (min (as + 1) 20)) Fo wo pa (fa + 1)) H := hP
  refine lv_aload_n hx hb dX5_step_71 rfl (lv_at hl 3 rfl) ?_
  refine lv_iload_n hx hb dX5_step_72 rfl (lv_at hl 0 rfl) ?_
  refine mu_calli (va_runV (As := [.int (nI x)]) (rest := []) ⟨hx, hb, hml, hown, hts⟩ (c_X5_answerOf hh x (by omega) (by omega)) (cwV 1 hts gX5_step_X5_answerOf rfl rfl rfl (by decide +kernel) ⟨Nat.le_of_ble_eq_true rfl, Nat.le_of_ble_eq_true rfl⟩) (wd_preV (ci := 5) (q0 := 0) hP hK rfl rfl) rfl rfl hl.1 rfl (lv_room (Nat.le_of_ble_eq_true rfl)) dX5_step_73 ⟨Nat.zero_le _, Nat.zero_le _⟩) hS (fun H locs hP hS => ?_)
  have hP : va_P D kC (sl_W cI cJ h (nI n) F Wt Sz Nu M2 (nI k) G Wk T2 S2 R2 (nI ((f + 1) % 40)) (nI b2) (upd oT an (nI r)) (upd oS an (nI q)) (upd oF an (nI x)) (nI ((an + 1) % 20)) (nI (min (as + 1) 20)) (upd Fo x (Fo x + 1)) wo pa (fa + 1)) H := hP
  exact W.iret (v := -20 - nI x) hx hb hr (fun t9 ht _ => ⟨congrArg (fun z => Outcome.returned (some (Value.int z))) (rfl), by rw [ht]; exact hP, hS.F ht⟩) hS.2.2 dX5_step_76
set_option maxHeartbeats 4000000 in
set_option maxRecDepth 100000 in
theorem c_X5_run_o (hh : ad_ok h 20) (m9 : Int32) (h1 : q_in m9 0 100 = false) : Met l yX5_run wsX5_run ({ frames := 9, cells := 0, slots := 0, locals := 400 }) (wd_P D cI cJ [.ref (h 0), .int m9] (sl_W cI cJ h (nI n) F Wt Sz Nu Mb (nI k) G Wk To Sl Ri (nI f) (nI b) oT oS oF (nI an) (nI as) Fo wo pa fa)) (pu_Q (some (.int (-2)))) 0 0 (fun _ => False) := by
  refine Met.ofW (cc := cX5_run) (maxL := 4) (ret := (some .int)) (by decide) rfl ?_
  intro p e s m args below meth c s₁ B hml hv
  obtain ⟨rfl, hP, hK⟩ := hv
  have hx := B.exec
  have hb := B.bytes
  have hr := B.returns
  have hts := atoms_spec (ws := wsX5_run) B.pre
  have hown : s.vm.findClass RX5 = some m.cls := findClass_of_methodNamed B.named
  have hlocks := B.notSynchronized
  have hl := lv_entry ([.ref (h 0), .int m9]) (n := 4) (Nat.le_of_ble_eq_true rfl)
  rw [lg_entry_eq]
  generalize (lg_sl ([.ref (h 0), .int m9]) ++ List.replicate (4 - (lg_sl ([.ref (h 0), .int m9])).length) Slot.unset).toArray = ls at hl ⊢
  have hl : lv_has ls 4 [(0, .ref (h 0)), (1, .int m9)] := hl
  refine lv_iload_n hx hb dX5_run_0 rfl (lv_at hl 1 rfl) ?_
  refine lv_if_lt (tgt := 10) hx hb dX5_run_1 (by decide) (fun c1 => ?_) (fun c1 => ?_)
  · skip
    refine lv_bipush (v := (-2)) hx hb dX5_run_10 (by decide) ?_
    exact W.iret (v := (-2)) hx hb hr (fun t9 ht _ => ⟨congrArg (fun z => Outcome.returned (some (Value.int z))) (rfl), ht⟩) (fun _ h9 => nomatch h9) dX5_run_12
  · skip
    refine lv_iload_n hx hb dX5_run_4 rfl (lv_at hl 1 rfl) ?_
    refine lv_bipush (v := 100) hx hb dX5_run_5 (by decide) ?_
    refine lv_icmp_le (tgt := 13) hx hb dX5_run_7 (by decide) (fun c7 => ?_) (fun c7 => ?_)
    · skip
      exact (bt_f (q_ok c1 c7) h1).elim
    · skip
      refine lv_bipush (v := (-2)) hx hb dX5_run_10 (by decide) ?_
      exact W.iret (v := (-2)) hx hb hr (fun t9 ht _ => ⟨congrArg (fun z => Outcome.returned (some (Value.int z))) (rfl), ht⟩) (fun _ h9 => nomatch h9) dX5_run_12
set_option maxHeartbeats 4000000 in
set_option maxRecDepth 100000 in
theorem lp_X5_run {p : Program} {e : Env} {s : State} {m : MethodId} {args : Array Value} {below : List Frame} {meth : Method} {c : Code} {Q : State → Prop} {H0 : Heap} (hx : p.tables.exec = Jvm.exec) (hb : c.code = cX5_run) (hml : c.maxLocals = 4) (hown : s.vm.findClass RX5 = some m.cls) (hts : ∀ w ∈ wsX5_run, w.before args s = true) (hK : wd_K D cI cJ s) (hh : ad_ok h 20) (N9 : Nat) (hN : N9 ≤ 100) (w9 : va_W) (A9 : Int32) (kk0 : ∀ (_ : Nat), True → ∀ (H : Heap) (locs : List Loc), va_P D kC (w9) H → va_S (ad_A h 20) H0 H locs → ∀ (ls : Array Slot), lv_has ls 4 [(2, .int A9), (0, .ref (h 0)), (1, .int (nI N9))] → W p l e (headSpec wsX5_run { frames := 9, cells := 0, slots := 0, locals := 400 }).room s m args below meth c H locs 0 0 Q (F0 m 57 ls [])) : ∀ (d : Nat) (i : Nat) (acc : Int32) (w : va_W) (a : Int32), i + d = N9 → runC l D cI cJ h d w a w9 → acc + a = A9 → ∀ (H : Heap) (locs : List Loc), va_P D kC (w) H → va_S (ad_A h 20) H0 H locs → ∀ (ls : Array Slot), lv_has ls 4 [(3, .int (nI i)), (2, .int acc), (0, .ref (h 0)), (1, .int (nI N9))] → W p l e (headSpec wsX5_run { frames := 9, cells := 0, slots := 0, locals := 400 }).room s m args below meth c H locs 0 0 Q (F0 m 17 ls []) := by
  have hiX5 : ∀ w ∈ u_ws RX5 TX5 5, w ∈ wsX5_run := by decide +kernel
  have kf26 := hts (.fieldLink RX5 26 "SortingLine" "onBelt" "LSortingLine$Belt;") (by decide +kernel)
  intro d
  induction d with
  | zero =>
    intro i acc w a hi hr9 hA H locs hP hS ls hl
    obtain ⟨rfl, rfl⟩ := hr9
    rw [Int32.add_zero] at hA
    subst hA
    refine lv_iload_n hx hb dX5_run_17 rfl (lv_at hl 0 rfl) ?_
    refine lv_iload_n hx hb dX5_run_18 rfl (lv_at hl 3 rfl) ?_
    refine lv_icmp_ge (tgt := 57) hx hb dX5_run_19 (by decide) (fun _ => ?_) (fun h9 => absurd (nI_le (by omega) (by omega)) h9)
    exact kk0 0 trivial H locs hP hS ls (lv_sub hl [1, 2, 3] rfl)
  | succ d ih =>
    intro i acc w a hi hr9 hA H locs hP hS ls hl
    rcases hr9 with ⟨⟨n, k, f, an, as, F, Wt, Sz, Nu, Mb, G, Wk, To, Sl, Ri, oT, oS, oF, Fo, wo, pa, fa, rfl⟩, rfl, rfl⟩ | ⟨b, r, w1, v, a1, hb40, ⟨n, k, f, an, as, F, Wt, Sz, Nu, Mb, G, Wk, To, Sl, Ri, oT, oS, oF, Fo, wo, pa, fa, rfl⟩, hM, hv, hr1, rfl⟩
    · skip
      rw [Int32.add_zero] at hA
      subst hA
      refine lv_iload_n hx hb dX5_run_17 rfl (lv_at hl 0 rfl) ?_
      refine lv_iload_n hx hb dX5_run_18 rfl (lv_at hl 3 rfl) ?_
      refine lv_icmp_ge (tgt := 57) hx hb dX5_run_19 (by decide) (fun h9 => absurd h9 (nI_ge (by omega) (by omega))) (fun _ => ?_)
      refine lv_aload_n hx hb dX5_run_22 rfl (lv_at hl 2 rfl) ?_
      refine va_get (D := D) (ci := 5) (v := .ref (h 3)) (C := RX5) (T := TX5) (N := 5) hx hb hts hiX5 hown hK.1 hP 0 rfl rfl 2 (by decide) kf26 (fun _ h9 => h9) rfl dX5_run_23 ?_
      refine pu_calli (va_runV (As := []) (rest := []) ⟨hx, hb, hml, hown, hts⟩ (c_X0_size hh) (cwV 0 hts gX5_run_X0_size rfl rfl rfl (by decide +kernel) ⟨Nat.le_of_ble_eq_true rfl, Nat.le_of_ble_eq_true rfl⟩) (wd_preV (ci := 0) (q0 := 3) hP hK rfl rfl) rfl rfl hl.1 rfl (lv_room (Nat.le_of_ble_eq_true rfl)) dX5_run_26 ⟨Nat.zero_le _, Nat.zero_le _⟩) ?_
      refine lv_if_le (tgt := 57) hx hb dX5_run_29 (by decide) (fun _ => ?_) (fun h9 => absurd (by decide) h9)
      exact kk0 0 trivial H locs hP hS ls (lv_sub hl [1, 2, 3] rfl)
    · skip
      refine lv_iload_n hx hb dX5_run_17 rfl (lv_at hl 0 rfl) ?_
      refine lv_iload_n hx hb dX5_run_18 rfl (lv_at hl 3 rfl) ?_
      refine lv_icmp_ge (tgt := 57) hx hb dX5_run_19 (by decide) (fun h9 => absurd h9 (nI_ge (by omega) (by omega))) (fun _ => ?_)
      refine lv_aload_n hx hb dX5_run_22 rfl (lv_at hl 2 rfl) ?_
      refine va_get (D := D) (ci := 5) (v := .ref (h 3)) (C := RX5) (T := TX5) (N := 5) hx hb hts hiX5 hown hK.1 hP 0 rfl rfl 2 (by decide) kf26 (fun _ h9 => h9) rfl dX5_run_23 ?_
      refine pu_calli (va_runV (As := []) (rest := []) ⟨hx, hb, hml, hown, hts⟩ (c_X0_size hh) (cwV 0 hts gX5_run_X0_size rfl rfl rfl (by decide +kernel) ⟨Nat.le_of_ble_eq_true rfl, Nat.le_of_ble_eq_true rfl⟩) (wd_preV (ci := 0) (q0 := 3) hP hK rfl rfl) rfl rfl hl.1 rfl (lv_room (Nat.le_of_ble_eq_true rfl)) dX5_run_26 ⟨Nat.zero_le _, Nat.zero_le _⟩) ?_
      refine lv_if_le (tgt := 57) hx hb dX5_run_29 (by decide) (fun h9 => absurd h9 (nI_nle (Nat.succ_pos b) (by omega))) (fun _ => ?_)
      refine lv_iload_n hx hb dX5_run_32 rfl (lv_at hl 1 rfl) ?_
      refine lv_aload_n hx hb dX5_run_33 rfl (lv_at hl 2 rfl) ?_
      rcases hv with ⟨hlt, rfl⟩ | ⟨hlt, rfl⟩
      · skip
        refine mu_calli (va_runV (As := []) (rest := [.int acc]) ⟨hx, hb, hml, hown, hts⟩ (hM) (cwV 0 hts gX5_run_X5_step rfl rfl rfl (by decide +kernel) ⟨Nat.le_of_ble_eq_true rfl, Nat.le_of_ble_eq_true rfl⟩) (wd_preV (ci := 5) (q0 := 0) hP hK rfl rfl) rfl rfl hl.1 rfl (lv_room (Nat.le_of_ble_eq_true rfl)) dX5_run_34 ⟨Nat.zero_le _, Nat.zero_le _⟩) hS (fun H locs hP hS => ?_)
        have hP : va_P D kC (w1) H := hP
        refine lv_bipush (v := (-20)) hx hb dX5_run_37 (by decide) ?_
        refine lv_icmp_ge (tgt := 48) hx hb dX5_run_39 (by decide) (fun h9 => absurd h9 (i_lt hlt)) (fun _ => ?_)
        refine lv_sipush (v := 1000) hx hb dX5_run_42 (by decide) ?_
        refine lv_goto (tgt := 49) hx hb dX5_run_45 (by decide) ?_
        refine lv_iadd hx hb dX5_run_49 ?_
        refine lv_istore_n (lv' := [(2, .int (acc + 1000)), (3, .int (nI i)), (0, .ref (h 0)), (1, .int (nI N9))]) hx hb dX5_run_50 rfl hl (by decide) rfl (fun ls hl => ?_)
        refine lv_iinc (v := nI (i + 1)) (lv' := [(3, .int (nI (i + 1))), (2, .int (acc + 1000)), (0, .ref (h 0)), (1, .int (nI N9))]) hx hb dX5_run_51 hl (k := 1) rfl (nI_add i 1) (by decide) rfl (fun ls hl => ?_)
        refine lv_goto (tgt := 17) hx hb dX5_run_54 (by decide) ?_
        exact ih (i + 1) _ w1 a1 (by omega) hr1 (by rw [← hA]; exact Int32.add_assoc _ _ _) H locs hP hS ls (lv_sub hl [0, 1, 2, 3] rfl)
      · skip
        refine mu_calli (va_runV (As := []) (rest := [.int acc]) ⟨hx, hb, hml, hown, hts⟩ (hM) (cwV 0 hts gX5_run_X5_step rfl rfl rfl (by decide +kernel) ⟨Nat.le_of_ble_eq_true rfl, Nat.le_of_ble_eq_true rfl⟩) (wd_preV (ci := 5) (q0 := 0) hP hK rfl rfl) rfl rfl hl.1 rfl (lv_room (Nat.le_of_ble_eq_true rfl)) dX5_run_34 ⟨Nat.zero_le _, Nat.zero_le _⟩) hS (fun H locs hP hS => ?_)
        have hP : va_P D kC (w1) H := hP
        refine lv_bipush (v := (-20)) hx hb dX5_run_37 (by decide) ?_
        refine lv_icmp_ge (tgt := 48) hx hb dX5_run_39 (by decide) (fun _ => ?_) (fun h9 => absurd (i_nlt hlt) h9)
        refine lv_iconst (v := 1) hx hb dX5_run_48 (by decide) ?_
        refine lv_iadd hx hb dX5_run_49 ?_
        refine lv_istore_n (lv' := [(2, .int (acc + 1)), (3, .int (nI i)), (0, .ref (h 0)), (1, .int (nI N9))]) hx hb dX5_run_50 rfl hl (by decide) rfl (fun ls hl => ?_)
        refine lv_iinc (v := nI (i + 1)) (lv' := [(3, .int (nI (i + 1))), (2, .int (acc + 1)), (0, .ref (h 0)), (1, .int (nI N9))]) hx hb dX5_run_51 hl (k := 1) rfl (nI_add i 1) (by decide) rfl (fun ls hl => ?_)
        refine lv_goto (tgt := 17) hx hb dX5_run_54 (by decide) ?_
        exact ih (i + 1) _ w1 a1 (by omega) hr1 (by rw [← hA]; exact Int32.add_assoc _ _ _) H locs hP hS ls (lv_sub hl [0, 1, 2, 3] rfl)
set_option maxHeartbeats 4000000 in
set_option maxRecDepth 100000 in
theorem c_X5_run_a (hh : ad_ok h 20) (N9 : Nat) (hN : N9 ≤ 100) (w w9 : va_W) (A9 : Int32) (hR : runC l D cI cJ h N9 w A9 w9) : Met l yX5_run wsX5_run ({ frames := 9, cells := 0, slots := 0, locals := 400 }) (wd_P D cI cJ [.ref (h 0), .int (nI N9)] (w)) (mu_Q D (ad_A h 20) (some (.int A9)) (w9)) 0 0 (ad_A h 20) := by
  refine Met.ofW (cc := cX5_run) (maxL := 4) (ret := (some .int)) (by decide) rfl ?_
  intro p e s m args below meth c s₁ B hml hv
  obtain ⟨rfl, hP, hK⟩ := hv
  have hx := B.exec
  have hb := B.bytes
  have hr := B.returns
  have hts := atoms_spec (ws := wsX5_run) B.pre
  have hown : s.vm.findClass RX5 = some m.cls := findClass_of_methodNamed B.named
  have hlocks := B.notSynchronized
  have hS : va_S (ad_A h 20) s.heap s.heap [] := va_S.rf
  have hl := lv_entry ([.ref (h 0), .int (nI N9)]) (n := 4) (Nat.le_of_ble_eq_true rfl)
  rw [lg_entry_eq]
  generalize (lg_sl ([.ref (h 0), .int (nI N9)]) ++ List.replicate (4 - (lg_sl ([.ref (h 0), .int (nI N9)])).length) Slot.unset).toArray = ls at hl ⊢
  have hl : lv_has ls 4 [(0, .ref (h 0)), (1, .int (nI N9))] := hl
  refine lv_iload_n hx hb dX5_run_0 rfl (lv_at hl 1 rfl) ?_
  refine lv_if_lt (tgt := 10) hx hb dX5_run_1 (by decide) (fun h9 => absurd h9 (nI_pos (by omega))) (fun _ => ?_)
  refine lv_iload_n hx hb dX5_run_4 rfl (lv_at hl 1 rfl) ?_
  refine lv_bipush (v := 100) hx hb dX5_run_5 (by decide) ?_
  refine lv_icmp_le (tgt := 13) hx hb dX5_run_7 (by decide) (fun _ => ?_) (fun h9 => absurd (nI_le (b := 100) hN (by omega)) h9)
  refine lv_iconst (v := 0) hx hb dX5_run_13 (by decide) ?_
  refine lv_istore_n (lv' := [(2, .int 0), (0, .ref (h 0)), (1, .int (nI N9))]) hx hb dX5_run_14 rfl hl (by decide) rfl (fun ls hl => ?_)
  refine lv_iconst (v := 0) hx hb dX5_run_15 (by decide) ?_
  refine lv_istore_n (lv' := [(3, .int 0), (2, .int 0), (0, .ref (h 0)), (1, .int (nI N9))]) hx hb dX5_run_16 rfl hl (by decide) rfl (fun ls hl => ?_)
  refine lp_X5_run hx hb hml hown hts hK hh N9 hN w9 A9 (fun _ _ H locs hP hS ls hl => ?_) N9 0 0 w A9 (by omega) hR (Int32.zero_add _) _ _ hP hS ls (lv_sub hl [0, 1, 2, 3] rfl)
  refine lv_iload_n hx hb dX5_run_57 rfl (lv_at hl 0 rfl) ?_
  exact W.iret (v := A9) hx hb hr (fun t9 ht _ => ⟨congrArg (fun z => Outcome.returned (some (Value.int z))) (rfl), by rw [ht]; exact hP, hS.F ht⟩) hS.2.2 dX5_run_58
end SubG
