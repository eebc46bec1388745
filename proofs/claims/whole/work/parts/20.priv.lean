/-! the class's own private methods, outcome by outcome -/
def q_in (x lo hi : Int32) : Bool := decide (¬ x < lo) && decide (x ≤ hi)
def mkS (x : Int32) : Int32 := if x = 7 then 5 else if x = 8 then 0 else if x = 9 then 1 else if x = 10 then 2 else if x = 11 then 16 else if x = 12 then 8 else if x = 13 then 9 else if x = 14 then 11 else if x = 15 then 12 else -5
def kfS (x : Int32) : Int32 := if x = 0 then 0 else if x = 1 then 16 else if x = 2 then 5 else if x = 3 then 6 else if x = 4 then 4 else if x = 5 then 8 else if x = 6 then 8 else if x = 7 then 12 else if x = 8 then 7 else if x = 9 then 15 else if x = 10 then 11 else if x = 11 then 8 else 17
def fafS (Sz Mb : Nat → Int32) (r : Nat) : Int32 := if p_in 0 (Sz r) then (if Mb (8 * r + 0) = -5 then 2 else 0) else 3
def msum (g : Nat → Int32) (Mb : Nat → Int32) (o : Nat) : Nat → Int64
  | 0 => 0
  | z + 1 => msum g Mb o z + (g (Mb (o + z)).toNatClampNeg).toInt64
section SubC
variable {l : Launch} {D : va_G} {cI cJ : ClassId} {h : Nat → Nat} {n k f b an as : Nat} {F Wt Sz : Nat → Int32} {Nu : Nat → Int64} {Mb : Nat → Int32} {G Wk : Nat → Int32} {To : Nat → Int64} {Sl : Nat → Int32} {Ri oT oS oF Fo : Nat → Int32} {wo pa fa : Int32}
set_option maxHeartbeats 4000000 in
set_option maxRecDepth 100000 in
theorem c_X5_refusalOf_u (hh : ad_ok h 20) (t kd lo hi : Int32) (h1 : p_in t (nI n) = false) : Met l yX5_refusalOf wsX5_refusalOf ({ frames := 1, cells := 0, slots := 0, locals := 21 }) (wd_P D cI cJ [.ref (h 0), .int t, .int kd, .int lo, .int hi] (sl_W cI cJ h (nI n) F Wt Sz Nu Mb (nI k) G Wk To Sl Ri (nI f) (nI b) oT oS oF (nI an) (nI as) Fo wo pa fa)) (pu_Q (some (.int (-1)))) 0 0 (fun _ => False) := by
  refine Met.ofW (cc := cX5_refusalOf) (maxL := 5) (ret := (some .int)) (by decide) rfl ?_
  intro p e s m args below meth c s₁ B hml hv
  obtain ⟨rfl, hP, hK⟩ := hv
  have hx := B.exec
  have hb := B.bytes
  have hr := B.returns
  have hts := atoms_spec (ws := wsX5_refusalOf) B.pre
  have hown : s.vm.findClass RX5 = some m.cls := findClass_of_methodNamed B.named
  have hlocks := B.notSynchronized
  have hiX5 : ∀ w ∈ u_ws RX5 TX5 5, w ∈ wsX5_refusalOf := by decide +kernel
  have kf10 := hts (.fieldLink RX5 10 "SortingLine" "things" "LSortingLine$Things;") (by decide +kernel)
  have hl := lv_entry ([.ref (h 0), .int t, .int kd, .int lo, .int hi]) (n := 5) (Nat.le_of_ble_eq_true rfl)
  rw [lg_entry_eq]
  generalize (lg_sl ([.ref (h 0), .int t, .int kd, .int lo, .int hi]) ++ List.replicate (5 - (lg_sl ([.ref (h 0), .int t, .int kd, .int lo, .int hi])).length) Slot.unset).toArray = ls at hl ⊢
  have hl : lv_has ls 5 [(0, .ref (h 0)), (1, .int t), (2, .int kd), (3, .int lo), (4, .int hi)] := hl
  refine lv_aload_n hx hb dX5_refusalOf_0 rfl (lv_at hl 0 rfl) ?_
  refine va_get (D := D) (ci := 5) (v := .ref (h 1)) (C := RX5) (T := TX5) (N := 5) hx hb hts hiX5 hown hK.1 hP 0 rfl rfl 0 (by decide) kf10 (fun _ h9 => h9) rfl dX5_refusalOf_1 ?_
  refine lv_iload_n hx hb dX5_refusalOf_4 rfl (lv_at hl 1 rfl) ?_
  refine pu_callb (va_runV (As := [.int t]) (rest := []) ⟨hx, hb, hml, hown, hts⟩ (c_X4_hold hh t) (cwV 1 hts gX5_refusalOf_X4_hold rfl rfl rfl (by decide +kernel) ⟨Nat.le_of_ble_eq_true rfl, Nat.le_of_ble_eq_true rfl⟩) (wd_preV (ci := 4) (q0 := 1) hP hK rfl rfl) rfl rfl hl.1 rfl (lv_room (Nat.le_of_ble_eq_true rfl)) dX5_refusalOf_5 ⟨Nat.zero_le _, Nat.zero_le _⟩) (fun h9 => absurd (h1) (by rw [h9]; decide)) (fun _ => ?_)
  refine lv_if_ne (tgt := 13) hx hb dX5_refusalOf_8 (by decide) (fun h9 => absurd (by decide) h9) (fun _ => ?_)
  refine lv_iconst (v := (-1)) hx hb dX5_refusalOf_11 (by decide) ?_
  exact W.iret (v := (-1)) hx hb hr (fun t9 ht _ => ⟨congrArg (fun z => Outcome.returned (some (Value.int z))) (rfl), ht⟩) (fun _ h9 => nomatch h9) dX5_refusalOf_12
set_option maxHeartbeats 4000000 in
set_option maxRecDepth 100000 in
theorem c_X5_refusalOf_o (hh : ad_ok h 20) (t kd lo hi : Int32) (h1 : p_in t (nI n) = true) (h2 : q_in kd lo hi = false) : Met l yX5_refusalOf wsX5_refusalOf ({ frames := 1, cells := 0, slots := 0, locals := 21 }) (wd_P D cI cJ [.ref (h 0), .int t, .int kd, .int lo, .int hi] (sl_W cI cJ h (nI n) F Wt Sz Nu Mb (nI k) G Wk To Sl Ri (nI f) (nI b) oT oS oF (nI an) (nI as) Fo wo pa fa)) (pu_Q (some (.int (-2)))) 0 0 (fun _ => False) := by
  refine Met.ofW (cc := cX5_refusalOf) (maxL := 5) (ret := (some .int)) (by decide) rfl ?_
  intro p e s m args below meth c s₁ B hml hv
  obtain ⟨rfl, hP, hK⟩ := hv
  have hx := B.exec
  have hb := B.bytes
  have hr := B.returns
  have hts := atoms_spec (ws := wsX5_refusalOf) B.pre
  have hown : s.vm.findClass RX5 = some m.cls := findClass_of_methodNamed B.named
  have hlocks := B.notSynchronized
  have hiX5 : ∀ w ∈ u_ws RX5 TX5 5, w ∈ wsX5_refusalOf := by decide +kernel
  have kf10 := hts (.fieldLink RX5 10 "SortingLine" "things" "LSortingLine$Things;") (by decide +kernel)
  have hl := lv_entry ([.ref (h 0), .int t, .int kd, .int lo, .int hi]) (n := 5) (Nat.le_of_ble_eq_true rfl)
  rw [lg_entry_eq]
  generalize (lg_sl ([.ref (h 0), .int t, .int kd, .int lo, .int hi]) ++ List.replicate (5 - (lg_sl ([.ref (h 0), .int t, .int kd, .int lo, .int hi])).length) Slot.unset).toArray = ls at hl ⊢
  have hl : lv_has ls 5 [(0, .ref (h 0)), (1, .int t), (2, .int kd), (3, .int lo), (4, .int hi)] := hl
  refine lv_aload_n hx hb dX5_refusalOf_0 rfl (lv_at hl 0 rfl) ?_
  refine va_get (D := D) (ci := 5) (v := .ref (h 1)) (C := RX5) (T := TX5) (N := 5) hx hb hts hiX5 hown hK.1 hP 0 rfl rfl 0 (by decide) kf10 (fun _ h9 => h9) rfl dX5_refusalOf_1 ?_
  refine lv_iload_n hx hb dX5_refusalOf_4 rfl (lv_at hl 1 rfl) ?_
  refine pu_callb (va_runV (As := [.int t]) (rest := []) ⟨hx, hb, hml, hown, hts⟩ (c_X4_hold hh t) (cwV 1 hts gX5_refusalOf_X4_hold rfl rfl rfl (by decide +kernel) ⟨Nat.le_of_ble_eq_true rfl, Nat.le_of_ble_eq_true rfl⟩) (wd_preV (ci := 4) (q0 := 1) hP hK rfl rfl) rfl rfl hl.1 rfl (lv_room (Nat.le_of_ble_eq_true rfl)) dX5_refusalOf_5 ⟨Nat.zero_le _, Nat.zero_le _⟩) (fun _ => ?_) (fun h9 => absurd (h1) (by rw [h9]; decide))
  refine lv_if_ne (tgt := 13) hx hb dX5_refusalOf_8 (by decide) (fun _ => ?_) (fun h9 => absurd h9 (by decide))
  refine lv_iload_n hx hb dX5_refusalOf_13 rfl (lv_at hl 2 rfl) ?_
  refine lv_iload_n hx hb dX5_refusalOf_14 rfl (lv_at hl 3 rfl) ?_
  refine lv_icmp_lt (tgt := 24) hx hb dX5_refusalOf_15 (by decide) (fun c15 => ?_) (fun c15 => ?_)
  · skip
    refine lv_bipush (v := (-2)) hx hb dX5_refusalOf_24 (by decide) ?_
    refine lv_goto (tgt := 30) hx hb dX5_refusalOf_26 (by decide) ?_
    exact W.iret (v := (-2)) hx hb hr (fun t9 ht _ => ⟨congrArg (fun z => Outcome.returned (some (Value.int z))) (rfl), ht⟩) (fun _ h9 => nomatch h9) dX5_refusalOf_30
  · skip
    refine lv_iload_n hx hb dX5_refusalOf_18 rfl (lv_at hl 2 rfl) ?_
    refine lv_iload hx hb dX5_refusalOf_19 (lv_at hl 4 rfl) ?_
    refine lv_icmp_le (tgt := 29) hx hb dX5_refusalOf_21 (by decide) (fun c21 => ?_) (fun c21 => ?_)
    · skip
      exact absurd (show q_in kd lo hi = true by simp [q_in, c15, c21]) (by rw [h2]; decide)
    · skip
      refine lv_bipush (v := (-2)) hx hb dX5_refusalOf_24 (by decide) ?_
      refine lv_goto (tgt := 30) hx hb dX5_refusalOf_26 (by decide) ?_
      exact W.iret (v := (-2)) hx hb hr (fun t9 ht _ => ⟨congrArg (fun z => Outcome.returned (some (Value.int z))) (rfl), ht⟩) (fun _ h9 => nomatch h9) dX5_refusalOf_30
set_option maxHeartbeats 4000000 in
set_option maxRecDepth 100000 in
theorem c_X5_refusalOf_a (hh : ad_ok h 20) (t kd lo hi : Int32) (h1 : p_in t (nI n) = true) (h2 : q_in kd lo hi = true) : Met l yX5_refusalOf wsX5_refusalOf ({ frames := 1, cells := 0, slots := 0, locals := 21 }) (wd_P D cI cJ [.ref (h 0), .int t, .int kd, .int lo, .int hi] (sl_W cI cJ h (nI n) F Wt Sz Nu Mb (nI k) G Wk To Sl Ri (nI f) (nI b) oT oS oF (nI an) (nI as) Fo wo pa fa)) (pu_Q (some (.int 0))) 0 0 (fun _ => False) := by
  refine Met.ofW (cc := cX5_refusalOf) (maxL := 5) (ret := (some .int)) (by decide) rfl ?_
  intro p e s m args below meth c s₁ B hml hv
  obtain ⟨rfl, hP, hK⟩ := hv
  have hx := B.exec
  have hb := B.bytes
  have hr := B.returns
  have hts := atoms_spec (ws := wsX5_refusalOf) B.pre
  have hown : s.vm.findClass RX5 = some m.cls := findClass_of_methodNamed B.named
  have hlocks := B.notSynchronized
  have hiX5 : ∀ w ∈ u_ws RX5 TX5 5, w ∈ wsX5_refusalOf := by decide +kernel
  have kf10 := hts (.fieldLink RX5 10 "SortingLine" "things" "LSortingLine$Things;") (by decide +kernel)
  have hl := lv_entry ([.ref (h 0), .int t, .int kd, .int lo, .int hi]) (n := 5) (Nat.le_of_ble_eq_true rfl)
  rw [lg_entry_eq]
  generalize (lg_sl ([.ref (h 0), .int t, .int kd, .int lo, .int hi]) ++ List.replicate (5 - (lg_sl ([.ref (h 0), .int t, .int kd, .int lo, .int hi])).length) Slot.unset).toArray = ls at hl ⊢
  have hl : lv_has ls 5 [(0, .ref (h 0)), (1, .int t), (2, .int kd), (3, .int lo), (4, .int hi)] := hl
  refine lv_aload_n hx hb dX5_refusalOf_0 rfl (lv_at hl 0 rfl) ?_
  refine va_get (D := D) (ci := 5) (v := .ref (h 1)) (C := RX5) (T := TX5) (N := 5) hx hb hts hiX5 hown hK.1 hP 0 rfl rfl 0 (by decide) kf10 (fun _ h9 => h9) rfl dX5_refusalOf_1 ?_
  refine lv_iload_n hx hb dX5_refusalOf_4 rfl (lv_at hl 1 rfl) ?_
  refine pu_callb (va_runV (As := [.int t]) (rest := []) ⟨hx, hb, hml, hown, hts⟩ (c_X4_hold hh t) (cwV 1 hts gX5_refusalOf_X4_hold rfl rfl rfl (by decide +kernel) ⟨Nat.le_of_ble_eq_true rfl, Nat.le_of_ble_eq_true rfl⟩) (wd_preV (ci := 4) (q0 := 1) hP hK rfl rfl) rfl rfl hl.1 rfl (lv_room (Nat.le_of_ble_eq_true rfl)) dX5_refusalOf_5 ⟨Nat.zero_le _, Nat.zero_le _⟩) (fun _ => ?_) (fun h9 => absurd (h1) (by rw [h9]; decide))
  refine lv_if_ne (tgt := 13) hx hb dX5_refusalOf_8 (by decide) (fun _ => ?_) (fun h9 => absurd h9 (by decide))
  refine lv_iload_n hx hb dX5_refusalOf_13 rfl (lv_at hl 2 rfl) ?_
  refine lv_iload_n hx hb dX5_refusalOf_14 rfl (lv_at hl 3 rfl) ?_
  refine lv_icmp_lt (tgt := 24) hx hb dX5_refusalOf_15 (by decide) (fun c15 => ?_) (fun c15 => ?_)
  · skip
    exact absurd h2 (by simp [q_in, c15])
  · skip
    refine lv_iload_n hx hb dX5_refusalOf_18 rfl (lv_at hl 2 rfl) ?_
    refine lv_iload hx hb dX5_refusalOf_19 (lv_at hl 4 rfl) ?_
    refine lv_icmp_le (tgt := 29) hx hb dX5_refusalOf_21 (by decide) (fun c21 => ?_) (fun c21 => ?_)
    · skip
      refine lv_iconst (v := 0) hx hb dX5_refusalOf_29 (by decide) ?_
      exact W.iret (v := 0) hx hb hr (fun t9 ht _ => ⟨congrArg (fun z => Outcome.returned (some (Value.int z))) (rfl), ht⟩) (fun _ h9 => nomatch h9) dX5_refusalOf_30
    · skip
      exact absurd h2 (by simp [q_in, c21])
set_option maxHeartbeats 4000000 in
set_option maxRecDepth 100000 in
theorem c_X5_answerOf (hh : ad_ok h 20) (x : Nat) (h1 : 1 ≤ x) (h5 : x ≤ 5) : Met l yX5_answerOf wsX5_answerOf ({ frames := 1, cells := 0, slots := 0, locals := 21 }) (wd_P D cI cJ [.ref (h 0), .int (nI x)] (sl_W cI cJ h (nI n) F Wt Sz Nu Mb (nI k) G Wk To Sl Ri (nI f) (nI b) oT oS oF (nI an) (nI as) Fo wo pa fa)) (mu_Q D (ad_A h 20) (some (.int (-20 - nI x))) (sl_W cI cJ h (nI n) F Wt Sz Nu Mb (nI k) G Wk To Sl Ri (nI f) (nI b) oT oS oF (nI an) (nI as) (upd Fo x (Fo x + 1)) wo pa fa)) 0 0 (ad_A h 20) := by
  refine Met.ofW (cc := cX5_answerOf) (maxL := 2) (ret := (some .int)) (by decide) rfl ?_
  intro p e s m args below meth c s₁ B hml hv
  obtain ⟨rfl, hP, hK⟩ := hv
  have hx := B.exec
  have hb := B.bytes
  have hr := B.returns
  have hts := atoms_spec (ws := wsX5_answerOf) B.pre
  have hown : s.vm.findClass RX5 = some m.cls := findClass_of_methodNamed B.named
  have hlocks := B.notSynchronized
  have hiX5 : ∀ w ∈ u_ws RX5 TX5 5, w ∈ wsX5_answerOf := by decide +kernel
  have kf40 := hts (.fieldLink RX5 40 "SortingLine" "tally" "LSortingLine$Tally;") (by decide +kernel)
  have hS : va_S (ad_A h 20) s.heap s.heap [] := va_S.rf
  have hl := lv_entry ([.ref (h 0), .int (nI x)]) (n := 2) (Nat.le_of_ble_eq_true rfl)
  rw [lg_entry_eq]
  generalize (lg_sl ([.ref (h 0), .int (nI x)]) ++ List.replicate (2 - (lg_sl ([.ref (h 0), .int (nI x)])).length) Slot.unset).toArray = ls at hl ⊢
  have hl : lv_has ls 2 [(0, .ref (h 0)), (1, .int (nI x))] := hl
  refine lv_aload_n hx hb dX5_answerOf_0 rfl (lv_at hl 0 rfl) ?_
  refine va_get (D := D) (ci := 5) (v := .ref (h 5)) (C := RX5) (T := TX5) (N := 5) hx hb hts hiX5 hown hK.1 hP 0 rfl rfl 4 (by decide) kf40 (fun _ h9 => h9) rfl dX5_answerOf_1 ?_
  refine lv_iload_n hx hb dX5_answerOf_4 rfl (lv_at hl 1 rfl) ?_
  refine mu_callv (va_runV (As := [.int (nI x)]) (rest := []) ⟨hx, hb, hml, hown, hts⟩ (c_X3_addFinding hh x (by omega) (by omega)) (cwV 1 hts gX5_answerOf_X3_addFinding rfl rfl rfl (by decide +kernel) ⟨Nat.le_of_ble_eq_true rfl, Nat.le_of_ble_eq_true rfl⟩) (wd_preV (ci := 3) (q0 := 5) hP hK rfl rfl) rfl rfl hl.1 rfl (lv_room (Nat.le_of_ble_eq_true rfl)) dX5_answerOf_5 ⟨Nat.zero_le _, Nat.zero_le _⟩) hS (fun H locs hP hS => ?_)
  have hP : va_P D kC (sl_W cI cJ h (nI n) F Wt Sz Nu Mb (nI k) G Wk To Sl Ri (nI f) (nI b) oT oS oF (nI an) (nI as) (upd Fo x (Fo x + 1)) wo pa fa) H := hP
  refine lv_bipush (v := (-20)) hx hb dX5_answerOf_8 (by decide) ?_
  refine lv_iload_n hx hb dX5_answerOf_10 rfl (lv_at hl 1 rfl) ?_
  refine lv_isub hx hb dX5_answerOf_11 ?_
  exact W.iret (v := (-20) - (nI x)) hx hb hr (fun t9 ht _ => ⟨congrArg (fun z => Outcome.returned (some (Value.int z))) (rfl), by rw [ht]; exact hP, hS.F ht⟩) hS.2.2 dX5_answerOf_12
set_option maxHeartbeats 4000000 in
set_option maxRecDepth 100000 in
theorem c_X5_findingAt_c (hh : ad_ok h 20) (hn : n ≤ 100) (r : Nat) (hr9 : r < n) (kd i : Int32) (h1 : ko (F r) kd = false) : Met l yX5_findingAt wsX5_findingAt ({ frames := 2, cells := 0, slots := 0, locals := 43 }) (wd_P D cI cJ [.ref (h 0), .int (nI r), .int kd, .int i] (sl_W cI cJ h (nI n) F Wt Sz Nu Mb (nI k) G Wk To Sl Ri (nI f) (nI b) oT oS oF (nI an) (nI as) Fo wo pa fa)) (pu_Q (some (.int 1))) 0 0 (fun _ => False) := by
  refine Met.ofW (cc := cX5_findingAt) (maxL := 4) (ret := (some .int)) (by decide) rfl ?_
  intro p e s m args below meth c s₁ B hml hv
  obtain ⟨rfl, hP, hK⟩ := hv
  have hx := B.exec
  have hb := B.bytes
  have hr := B.returns
  have hts := atoms_spec (ws := wsX5_findingAt) B.pre
  have hown : s.vm.findClass RX5 = some m.cls := findClass_of_methodNamed B.named
  have hlocks := B.notSynchronized
  have hiX5 : ∀ w ∈ u_ws RX5 TX5 5, w ∈ wsX5_findingAt := by decide +kernel
  have kf10 := hts (.fieldLink RX5 10 "SortingLine" "things" "LSortingLine$Things;") (by decide +kernel)
  have hl := lv_entry ([.ref (h 0), .int (nI r), .int kd, .int i]) (n := 4) (Nat.le_of_ble_eq_true rfl)
  rw [lg_entry_eq]
  generalize (lg_sl ([.ref (h 0), .int (nI r), .int kd, .int i]) ++ List.replicate (4 - (lg_sl ([.ref (h 0), .int (nI r), .int kd, .int i])).length) Slot.unset).toArray = ls at hl ⊢
  have hl : lv_has ls 4 [(0, .ref (h 0)), (1, .int (nI r)), (2, .int kd), (3, .int i)] := hl
  refine lv_aload_n hx hb dX5_findingAt_0 rfl (lv_at hl 0 rfl) ?_
  refine va_get (D := D) (ci := 5) (v := .ref (h 1)) (C := RX5) (T := TX5) (N := 5) hx hb hts hiX5 hown hK.1 hP 0 rfl rfl 0 (by decide) kf10 (fun _ h9 => h9) rfl dX5_findingAt_1 ?_
  refine lv_iload_n hx hb dX5_findingAt_4 rfl (lv_at hl 1 rfl) ?_
  refine lv_iload_n hx hb dX5_findingAt_5 rfl (lv_at hl 2 rfl) ?_
  refine pu_callb (va_runV (As := [.int (nI r), .int kd]) (rest := []) ⟨hx, hb, hml, hown, hts⟩ (c_X4_isOf hh hn r (by omega) kd) (cwV 2 hts gX5_findingAt_X4_isOf rfl rfl rfl (by decide +kernel) ⟨Nat.le_of_ble_eq_true rfl, Nat.le_of_ble_eq_true rfl⟩) (wd_preV (ci := 4) (q0 := 1) hP hK rfl rfl) rfl rfl hl.1 rfl (lv_room (Nat.le_of_ble_eq_true rfl)) dX5_findingAt_6 ⟨Nat.zero_le _, Nat.zero_le _⟩) (fun h9 => absurd (h1) (by rw [h9]; decide)) (fun _ => ?_)
  refine lv_if_ne (tgt := 14) hx hb dX5_findingAt_9 (by decide) (fun h9 => absurd (by decide) h9) (fun _ => ?_)
  refine lv_iconst (v := 1) hx hb dX5_findingAt_12 (by decide) ?_
  exact W.iret (v := 1) hx hb hr (fun t9 ht _ => ⟨congrArg (fun z => Outcome.returned (some (Value.int z))) (rfl), ht⟩) (fun _ h9 => nomatch h9) dX5_findingAt_13
set_option maxHeartbeats 4000000 in
set_option maxRecDepth 100000 in
theorem c_X5_findingAt_b (hh : ad_ok h 20) (hn : n ≤ 100) (r : Nat) (hr9 : r < n) (kd i : Int32) (h1 : ko (F r) kd = true) (h2 : p_in i (Sz r) = false) : Met l yX5_findingAt wsX5_findingAt ({ frames := 2, cells := 0, slots := 0, locals := 43 }) (wd_P D cI cJ [.ref (h 0), .int (nI r), .int kd, .int i] (sl_W cI cJ h (nI n) F Wt Sz Nu Mb (nI k) G Wk To Sl Ri (nI f) (nI b) oT oS oF (nI an) (nI as) Fo wo pa fa)) (pu_Q (some (.int 3))) 0 0 (fun _ => False) := by
  refine Met.ofW (cc := cX5_findingAt) (maxL := 4) (ret := (some .int)) (by decide) rfl ?_
  intro p e s m args below meth c s₁ B hml hv
  obtain ⟨rfl, hP, hK⟩ := hv
  have hx := B.exec
  have hb := B.bytes
  have hr := B.returns
  have hts := atoms_spec (ws := wsX5_findingAt) B.pre
  have hown : s.vm.findClass RX5 = some m.cls := findClass_of_methodNamed B.named
  have hlocks := B.notSynchronized
  have hiX5 : ∀ w ∈ u_ws RX5 TX5 5, w ∈ wsX5_findingAt := by decide +kernel
  have kf10 := hts (.fieldLink RX5 10 "SortingLine" "things" "LSortingLine$Things;") (by decide +kernel)
  have hl := lv_entry ([.ref (h 0), .int (nI r), .int kd, .int i]) (n := 4) (Nat.le_of_ble_eq_true rfl)
  rw [lg_entry_eq]
  generalize (lg_sl ([.ref (h 0), .int (nI r), .int kd, .int i]) ++ List.replicate (4 - (lg_sl ([.ref (h 0), .int (nI r), .int kd, .int i])).length) Slot.unset).toArray = ls at hl ⊢
  have hl : lv_has ls 4 [(0, .ref (h 0)), (1, .int (nI r)), (2, .int kd), (3, .int i)] := hl
  refine lv_aload_n hx hb dX5_findingAt_0 rfl (lv_at hl 0 rfl) ?_
  refine va_get (D := D) (ci := 5) (v := .ref (h 1)) (C := RX5) (T := TX5) (N := 5) hx hb hts hiX5 hown hK.1 hP 0 rfl rfl 0 (by decide) kf10 (fun _ h9 => h9) rfl dX5_findingAt_1 ?_
  refine lv_iload_n hx hb dX5_findingAt_4 rfl (lv_at hl 1 rfl) ?_
  refine lv_iload_n hx hb dX5_findingAt_5 rfl (lv_at hl 2 rfl) ?_
  refine pu_callb (va_runV (As := [.int (nI r), .int kd]) (rest := []) ⟨hx, hb, hml, hown, hts⟩ (c_X4_isOf hh hn r (by omega) kd) (cwV 2 hts gX5_findingAt_X4_isOf rfl rfl rfl (by decide +kernel) ⟨Nat.le_of_ble_eq_true rfl, Nat.le_of_ble_eq_true rfl⟩) (wd_preV (ci := 4) (q0 := 1) hP hK rfl rfl) rfl rfl hl.1 rfl (lv_room (Nat.le_of_ble_eq_true rfl)) dX5_findingAt_6 ⟨Nat.zero_le _, Nat.zero_le _⟩) (fun _ => ?_) (fun h9 => absurd (h1) (by rw [h9]; decide))
  refine lv_if_ne (tgt := 14) hx hb dX5_findingAt_9 (by decide) (fun _ => ?_) (fun h9 => absurd h9 (by decide))
  refine lv_aload_n hx hb dX5_findingAt_14 rfl (lv_at hl 0 rfl) ?_
  refine va_get (D := D) (ci := 5) (v := .ref (h 1)) (C := RX5) (T := TX5) (N := 5) hx hb hts hiX5 hown hK.1 hP 0 rfl rfl 0 (by decide) kf10 (fun _ h9 => h9) rfl dX5_findingAt_15 ?_
  refine lv_iload_n hx hb dX5_findingAt_18 rfl (lv_at hl 1 rfl) ?_
  refine lv_iload_n hx hb dX5_findingAt_19 rfl (lv_at hl 3 rfl) ?_
  refine pu_callb (va_runV (As := [.int (nI r), .int i]) (rest := []) ⟨hx, hb, hml, hown, hts⟩ (c_X4_hasPlace hh hn r (by omega) i) (cwV 2 hts gX5_findingAt_X4_hasPlace rfl rfl rfl (by decide +kernel) ⟨Nat.le_of_ble_eq_true rfl, Nat.le_of_ble_eq_true rfl⟩) (wd_preV (ci := 4) (q0 := 1) hP hK rfl rfl) rfl rfl hl.1 rfl (lv_room (Nat.le_of_ble_eq_true rfl)) dX5_findingAt_20 ⟨Nat.zero_le _, Nat.zero_le _⟩) (fun h9 => absurd (h2) (by rw [h9]; decide)) (fun _ => ?_)
  refine lv_if_eq (tgt := 30) hx hb dX5_findingAt_23 (by decide) (fun _ => ?_) (fun h9 => absurd (by decide) h9)
  refine lv_iconst (v := 3) hx hb dX5_findingAt_30 (by decide) ?_
  exact W.iret (v := 3) hx hb hr (fun t9 ht _ => ⟨congrArg (fun z => Outcome.returned (some (Value.int z))) (rfl), ht⟩) (fun _ h9 => nomatch h9) dX5_findingAt_31
set_option maxHeartbeats 4000000 in
set_option maxRecDepth 100000 in
theorem c_X5_findingAt_o (hh : ad_ok h 20) (hn : n ≤ 100) (r : Nat) (hr9 : r < n) (kd i : Int32) (h1 : ko (F r) kd = true) (h2 : p_in i (Sz r) = true) : Met l yX5_findingAt wsX5_findingAt ({ frames := 2, cells := 0, slots := 0, locals := 43 }) (wd_P D cI cJ [.ref (h 0), .int (nI r), .int kd, .int i] (sl_W cI cJ h (nI n) F Wt Sz Nu Mb (nI k) G Wk To Sl Ri (nI f) (nI b) oT oS oF (nI an) (nI as) Fo wo pa fa)) (pu_Q (some (.int 0))) 0 0 (fun _ => False) := by
  refine Met.ofW (cc := cX5_findingAt) (maxL := 4) (ret := (some .int)) (by decide) rfl ?_
  intro p e s m args below meth c s₁ B hml hv
  obtain ⟨rfl, hP, hK⟩ := hv
  have hx := B.exec
  have hb := B.bytes
  have hr := B.returns
  have hts := atoms_spec (ws := wsX5_findingAt) B.pre
  have hown : s.vm.findClass RX5 = some m.cls := findClass_of_methodNamed B.named
  have hlocks := B.notSynchronized
  have hiX5 : ∀ w ∈ u_ws RX5 TX5 5, w ∈ wsX5_findingAt := by decide +kernel
  have kf10 := hts (.fieldLink RX5 10 "SortingLine" "things" "LSortingLine$Things;") (by decide +kernel)
  have hl := lv_entry ([.ref (h 0), .int (nI r), .int kd, .int i]) (n := 4) (Nat.le_of_ble_eq_true rfl)
  rw [lg_entry_eq]
  generalize (lg_sl ([.ref (h 0), .int (nI r), .int kd, .int i]) ++ List.replicate (4 - (lg_sl ([.ref (h 0), .int (nI r), .int kd, .int i])).length) Slot.unset).toArray = ls at hl ⊢
  have hl : lv_has ls 4 [(0, .ref (h 0)), (1, .int (nI r)), (2, .int kd), (3, .int i)] := hl
  refine lv_aload_n hx hb dX5_findingAt_0 rfl (lv_at hl 0 rfl) ?_
  refine va_get (D := D) (ci := 5) (v := .ref (h 1)) (C := RX5) (T := TX5) (N := 5) hx hb hts hiX5 hown hK.1 hP 0 rfl rfl 0 (by decide) kf10 (fun _ h9 => h9) rfl dX5_findingAt_1 ?_
  refine lv_iload_n hx hb dX5_findingAt_4 rfl (lv_at hl 1 rfl) ?_
  refine lv_iload_n hx hb dX5_findingAt_5 rfl (lv_at hl 2 rfl) ?_
  refine pu_callb (va_runV (As := [.int (nI r), .int kd]) (rest := []) ⟨hx, hb, hml, hown, hts⟩ (c_X4_isOf hh hn r (by omega) kd) (cwV 2 hts gX5_findingAt_X4_isOf rfl rfl rfl (by decide +kernel) ⟨Nat.le_of_ble_eq_true rfl, Nat.le_of_ble_eq_true rfl⟩) (wd_preV (ci := 4) (q0 := 1) hP hK rfl rfl) rfl rfl hl.1 rfl (lv_room (Nat.le_of_ble_eq_true rfl)) dX5_findingAt_6 ⟨Nat.zero_le _, Nat.zero_le _⟩) (fun _ => ?_) (fun h9 => absurd (h1) (by rw [h9]; decide))
  refine lv_if_ne (tgt := 14) hx hb dX5_findingAt_9 (by decide) (fun _ => ?_) (fun h9 => absurd h9 (by decide))
  refine lv_aload_n hx hb dX5_findingAt_14 rfl (lv_at hl 0 rfl) ?_
  refine va_get (D := D) (ci := 5) (v := .ref (h 1)) (C := RX5) (T := TX5) (N := 5) hx hb hts hiX5 hown hK.1 hP 0 rfl rfl 0 (by decide) kf10 (fun _ h9 => h9) rfl dX5_findingAt_15 ?_
  refine lv_iload_n hx hb dX5_findingAt_18 rfl (lv_at hl 1 rfl) ?_
  refine lv_iload_n hx hb dX5_findingAt_19 rfl (lv_at hl 3 rfl) ?_
  refine pu_callb (va_runV (As := [.int (nI r), .int i]) (rest := []) ⟨hx, hb, hml, hown, hts⟩ (c_X4_hasPlace hh hn r (by omega) i) (cwV 2 hts gX5_findingAt_X4_hasPlace rfl rfl rfl (by decide +kernel) ⟨Nat.le_of_ble_eq_true rfl, Nat.le_of_ble_eq_true rfl⟩) (wd_preV (ci := 4) (q0 := 1) hP hK rfl rfl) rfl rfl hl.1 rfl (lv_room (Nat.le_of_ble_eq_true rfl)) dX5_findingAt_20 ⟨Nat.zero_le _, Nat.zero_le _⟩) (fun _ => ?_) (fun h9 => absurd (h2) (by rw [h9]; decide))
  refine lv_if_eq (tgt := 30) hx hb dX5_findingAt_23 (by decide) (fun h9 => absurd h9 (by decide)) (fun _ => ?_)
  refine lv_iconst (v := 0) hx hb dX5_findingAt_26 (by decide) ?_
  refine lv_goto (tgt := 31) hx hb dX5_findingAt_27 (by decide) ?_
  exact W.iret (v := 0) hx hb hr (fun t9 ht _ => ⟨congrArg (fun z => Outcome.returned (some (Value.int z))) (rfl), ht⟩) (fun _ h9 => nomatch h9) dX5_findingAt_31
theorem sw_X5_memberKind_1 (x : Int32) : ((x.toInt < 7 ∨ 15 < x.toInt) ∧ ¬ x = 7 ∧ ¬ x = 8 ∧ ¬ x = 9 ∧ ¬ x = 10 ∧ ¬ x = 11 ∧ ¬ x = 12 ∧ ¬ x = 13 ∧ ¬ x = 14 ∧ ¬ x = 15) ∨ x = 7 ∨ x = 8 ∨ x = 9 ∨ x = 10 ∨ x = 11 ∨ x = 12 ∨ x = 13 ∨ x = 14 ∨ x = 15 := by
  by_cases h1 : x.toInt < 7
  · exact Or.inl ⟨Or.inl h1, (fun h => by rw [h] at h1; exact absurd h1 (by decide)), (fun h => by rw [h] at h1; exact absurd h1 (by decide)), (fun h => by rw [h] at h1; exact absurd h1 (by decide)), (fun h => by rw [h] at h1; exact absurd h1 (by decide)), (fun h => by rw [h] at h1; exact absurd h1 (by decide)), (fun h => by rw [h] at h1; exact absurd h1 (by decide)), (fun h => by rw [h] at h1; exact absurd h1 (by decide)), (fun h => by rw [h] at h1; exact absurd h1 (by decide)), (fun h => by rw [h] at h1; exact absurd h1 (by decide))⟩
  by_cases h2 : 15 < x.toInt
  · exact Or.inl ⟨Or.inr h2, (fun h => by rw [h] at h2; exact absurd h2 (by decide)), (fun h => by rw [h] at h2; exact absurd h2 (by decide)), (fun h => by rw [h] at h2; exact absurd h2 (by decide)), (fun h => by rw [h] at h2; exact absurd h2 (by decide)), (fun h => by rw [h] at h2; exact absurd h2 (by decide)), (fun h => by rw [h] at h2; exact absurd h2 (by decide)), (fun h => by rw [h] at h2; exact absurd h2 (by decide)), (fun h => by rw [h] at h2; exact absurd h2 (by decide)), (fun h => by rw [h] at h2; exact absurd h2 (by decide))⟩
  have h3 : x.toInt = 7 ∨ x.toInt = 8 ∨ x.toInt = 9 ∨ x.toInt = 10 ∨ x.toInt = 11 ∨ x.toInt = 12 ∨ x.toInt = 13 ∨ x.toInt = 14 ∨ x.toInt = 15 := by omega
  refine Or.inr ?_
  rcases h3 with h | h | h | h | h | h | h | h | h
  · exact Or.inl <| (Int32.toInt_inj.mp (h.trans (by decide)))
  · exact Or.inr <| Or.inl <| (Int32.toInt_inj.mp (h.trans (by decide)))
  · exact Or.inr <| Or.inr <| Or.inl <| (Int32.toInt_inj.mp (h.trans (by decide)))
  · exact Or.inr <| Or.inr <| Or.inr <| Or.inl <| (Int32.toInt_inj.mp (h.trans (by decide)))
  · exact Or.inr <| Or.inr <| Or.inr <| Or.inr <| Or.inl <| (Int32.toInt_inj.mp (h.trans (by decide)))
  · exact Or.inr <| Or.inr <| Or.inr <| Or.inr <| Or.inr <| Or.inl <| (Int32.toInt_inj.mp (h.trans (by decide)))
  · exact Or.inr <| Or.inr <| Or.inr <| Or.inr <| Or.inr <| Or.inr <| Or.inl <| (Int32.toInt_inj.mp (h.trans (by decide)))
  · exact Or.inr <| Or.inr <| Or.inr <| Or.inr <| Or.inr <| Or.inr <| Or.inr <| Or.inl <| (Int32.toInt_inj.mp (h.trans (by decide)))
  · exact Or.inr <| Or.inr <| Or.inr <| Or.inr <| Or.inr <| Or.inr <| Or.inr <| Or.inr <| (Int32.toInt_inj.mp (h.trans (by decide)))
set_option maxHeartbeats 4000000 in
set_option maxRecDepth 100000 in
theorem c_X5_memberKind (x : Int32) : Met l yX5_memberKind wsX5_memberKind ({ frames := 0, cells := 0, slots := 0, locals := 0 }) (wd_P D cI cJ [.int x] (sl_W cI cJ h (nI n) F Wt Sz Nu Mb (nI k) G Wk To Sl Ri (nI f) (nI b) oT oS oF (nI an) (nI as) Fo wo pa fa)) (pu_Q (some (.int (mkS x)))) 0 0 (fun _ => False) := by
  refine Met.ofW (cc := cX5_memberKind) (maxL := 1) (ret := (some .int)) (by decide) rfl ?_
  intro p e s m args below meth c s₁ B hml hv
  obtain ⟨rfl, hP, hK⟩ := hv
  have hx := B.exec
  have hb := B.bytes
  have hr := B.returns
  have hts := atoms_spec (ws := wsX5_memberKind) B.pre
  have hown : s.vm.findClass RX5 = some m.cls := findClass_of_methodNamed B.named
  have hlocks := B.notSynchronized
  have hl := lv_entry ([.int x]) (n := 1) (Nat.le_of_ble_eq_true rfl)
  rw [lg_entry_eq]
  generalize (lg_sl ([.int x]) ++ List.replicate (1 - (lg_sl ([.int x])).length) Slot.unset).toArray = ls at hl ⊢
  have hl : lv_has ls 1 [(0, .int x)] := hl
  refine lv_iload_n hx hb dX5_memberKind_0 rfl (lv_at hl 0 rfl) ?_
  rcases (sw_X5_memberKind_1 x) with ho1 | rfl | rfl | rfl | rfl | rfl | rfl | rfl | rfl | rfl
  · skip
    refine lv_tableOut (tgt := 93) hx hb dX5_memberKind_1 ho1.1 (by decide) ?_
    refine lv_bipush (v := (-5)) hx hb dX5_memberKind_93 (by decide) ?_
    exact W.iret (v := (-5)) hx hb hr (fun t9 ht _ => ⟨congrArg (fun z => Outcome.returned (some (Value.int z))) (by simp [mkS, ho1.2]), ht⟩) (fun _ h9 => nomatch h9) dX5_memberKind_95
  · skip
    refine lv_tableIn (off := 51) (tgt := 52) hx hb dX5_memberKind_1 (by decide) (by decide) (by decide) (by decide) ?_
    refine lv_iconst (v := 5) hx hb dX5_memberKind_52 (by decide) ?_
    refine lv_goto (tgt := 95) hx hb dX5_memberKind_53 (by decide) ?_
    exact W.iret (v := 5) hx hb hr (fun t9 ht _ => ⟨congrArg (fun z => Outcome.returned (some (Value.int z))) (by simp [mkS]), ht⟩) (fun _ h9 => nomatch h9) dX5_memberKind_95
  · skip
    refine lv_tableIn (off := 55) (tgt := 56) hx hb dX5_memberKind_1 (by decide) (by decide) (by decide) (by decide) ?_
    refine lv_iconst (v := 0) hx hb dX5_memberKind_56 (by decide) ?_
    refine lv_goto (tgt := 95) hx hb dX5_memberKind_57 (by decide) ?_
    exact W.iret (v := 0) hx hb hr (fun t9 ht _ => ⟨congrArg (fun z => Outcome.returned (some (Value.int z))) (by simp [mkS]), ht⟩) (fun _ h9 => nomatch h9) dX5_memberKind_95
  · skip
    refine lv_tableIn (off := 59) (tgt := 60) hx hb dX5_memberKind_1 (by decide) (by decide) (by decide) (by decide) ?_
    refine lv_iconst (v := 1) hx hb dX5_memberKind_60 (by decide) ?_
    refine lv_goto (tgt := 95) hx hb dX5_memberKind_61 (by decide) ?_
    exact W.iret (v := 1) hx hb hr (fun t9 ht _ => ⟨congrArg (fun z => Outcome.returned (some (Value.int z))) (by simp [mkS]), ht⟩) (fun _ h9 => nomatch h9) dX5_memberKind_95
  · skip
    refine lv_tableIn (off := 63) (tgt := 64) hx hb dX5_memberKind_1 (by decide) (by decide) (by decide) (by decide) ?_
    refine lv_iconst (v := 2) hx hb dX5_memberKind_64 (by decide) ?_
    refine lv_goto (tgt := 95) hx hb dX5_memberKind_65 (by decide) ?_
    exact W.iret (v := 2) hx hb hr (fun t9 ht _ => ⟨congrArg (fun z => Outcome.returned (some (Value.int z))) (by simp [mkS]), ht⟩) (fun _ h9 => nomatch h9) dX5_memberKind_95
  · skip
    refine lv_tableIn (off := 67) (tgt := 68) hx hb dX5_memberKind_1 (by decide) (by decide) (by decide) (by decide) ?_
    refine lv_bipush (v := 16) hx hb dX5_memberKind_68 (by decide) ?_
    refine lv_goto (tgt := 95) hx hb dX5_memberKind_70 (by decide) ?_
    exact W.iret (v := 16) hx hb hr (fun t9 ht _ => ⟨congrArg (fun z => Outcome.returned (some (Value.int z))) (by simp [mkS]), ht⟩) (fun _ h9 => nomatch h9) dX5_memberKind_95
  · skip
    refine lv_tableIn (off := 72) (tgt := 73) hx hb dX5_memberKind_1 (by decide) (by decide) (by decide) (by decide) ?_
    refine lv_bipush (v := 8) hx hb dX5_memberKind_73 (by decide) ?_
    refine lv_goto (tgt := 95) hx hb dX5_memberKind_75 (by decide) ?_
    exact W.iret (v := 8) hx hb hr (fun t9 ht _ => ⟨congrArg (fun z => Outcome.returned (some (Value.int z))) (by simp [mkS]), ht⟩) (fun _ h9 => nomatch h9) dX5_memberKind_95
  · skip
    refine lv_tableIn (off := 77) (tgt := 78) hx hb dX5_memberKind_1 (by decide) (by decide) (by decide) (by decide) ?_
    refine lv_bipush (v := 9) hx hb dX5_memberKind_78 (by decide) ?_
    refine lv_goto (tgt := 95) hx hb dX5_memberKind_80 (by decide) ?_
    exact W.iret (v := 9) hx hb hr (fun t9 ht _ => ⟨congrArg (fun z => Outcome.returned (some (Value.int z))) (by simp [mkS]), ht⟩) (fun _ h9 => nomatch h9) dX5_memberKind_95
  · skip
    refine lv_tableIn (off := 82) (tgt := 83) hx hb dX5_memberKind_1 (by decide) (by decide) (by decide) (by decide) ?_
    refine lv_bipush (v := 11) hx hb dX5_memberKind_83 (by decide) ?_
    refine lv_goto (tgt := 95) hx hb dX5_memberKind_85 (by decide) ?_
    exact W.iret (v := 11) hx hb hr (fun t9 ht _ => ⟨congrArg (fun z => Outcome.returned (some (Value.int z))) (by simp [mkS]), ht⟩) (fun _ h9 => nomatch h9) dX5_memberKind_95
  · skip
    refine lv_tableIn (off := 87) (tgt := 88) hx hb dX5_memberKind_1 (by decide) (by decide) (by decide) (by decide) ?_
    refine lv_bipush (v := 12) hx hb dX5_memberKind_88 (by decide) ?_
    refine lv_goto (tgt := 95) hx hb dX5_memberKind_90 (by decide) ?_
    exact W.iret (v := 12) hx hb hr (fun t9 ht _ => ⟨congrArg (fun z => Outcome.returned (some (Value.int z))) (by simp [mkS]), ht⟩) (fun _ h9 => nomatch h9) dX5_memberKind_95
theorem sw_X5_kindForWork_1 (x : Int32) : ((x.toInt < 0 ∨ 11 < x.toInt) ∧ ¬ x = 0 ∧ ¬ x = 1 ∧ ¬ x = 2 ∧ ¬ x = 3 ∧ ¬ x = 4 ∧ ¬ x = 5 ∧ ¬ x = 6 ∧ ¬ x = 7 ∧ ¬ x = 8 ∧ ¬ x = 9 ∧ ¬ x = 10 ∧ ¬ x = 11) ∨ x = 0 ∨ x = 1 ∨ x = 2 ∨ x = 3 ∨ x = 4 ∨ x = 5 ∨ x = 6 ∨ x = 7 ∨ x = 8 ∨ x = 9 ∨ x = 10 ∨ x = 11 := by
  by_cases h1 : x.toInt < 0
  · exact Or.inl ⟨Or.inl h1, (fun h => by rw [h] at h1; exact absurd h1 (by decide)), (fun h => by rw [h] at h1; exact absurd h1 (by decide)), (fun h => by rw [h] at h1; exact absurd h1 (by decide)), (fun h => by rw [h] at h1; exact absurd h1 (by decide)), (fun h => by rw [h] at h1; exact absurd h1 (by decide)), (fun h => by rw [h] at h1; exact absurd h1 (by decide)), (fun h => by rw [h] at h1; exact absurd h1 (by decide)), (fun h => by rw [h] at h1; exact absurd h1 (by decide)), (fun h => by rw [h] at h1; exact absurd h1 (by decide)), (fun h => by rw [h] at h1; exact absurd h1 (by decide)), (fun h => by rw [h] at h1; exact absurd h1 (by decide)), (fun h => by rw [h] at h1; exact absurd h1 (by decide))⟩
  by_cases h2 : 11 < x.toInt
  · exact Or.inl ⟨Or.inr h2, (fun h => by rw [h] at h2; exact absurd h2 (by decide)), (fun h => by rw [h] at h2; exact absurd h2 (by decide)), (fun h => by rw [h] at h2; exact absurd h2 (by decide)), (fun h => by rw [h] at h2; exact absurd h2 (by decide)), (fun h => by rw [h] at h2; exact absurd h2 (by decide)), (fun h => by rw [h] at h2; exact absurd h2 (by decide)), (fun h => by rw [h] at h2; exact absurd h2 (by decide)), (fun h => by rw [h] at h2; exact absurd h2 (by decide)), (fun h => by rw [h] at h2; exact absurd h2 (by decide)), (fun h => by rw [h] at h2; exact absurd h2 (by decide)), (fun h => by rw [h] at h2; exact absurd h2 (by decide)), (fun h => by rw [h] at h2; exact absurd h2 (by decide))⟩
  have h3 : x.toInt = 0 ∨ x.toInt = 1 ∨ x.toInt = 2 ∨ x.toInt = 3 ∨ x.toInt = 4 ∨ x.toInt = 5 ∨ x.toInt = 6 ∨ x.toInt = 7 ∨ x.toInt = 8 ∨ x.toInt = 9 ∨ x.toInt = 10 ∨ x.toInt = 11 := by omega
  refine Or.inr ?_
  rcases h3 with h | h | h | h | h | h | h | h | h | h | h | h
  · exact Or.inl <| (Int32.toInt_inj.mp (h.trans (by decide)))
  · exact Or.inr <| Or.inl <| (Int32.toInt_inj.mp (h.trans (by decide)))
  · exact Or.inr <| Or.inr <| Or.inl <| (Int32.toInt_inj.mp (h.trans (by decide)))
  · exact Or.inr <| Or.inr <| Or.inr <| Or.inl <| (Int32.toInt_inj.mp (h.trans (by decide)))
  · exact Or.inr <| Or.inr <| Or.inr <| Or.inr <| Or.inl <| (Int32.toInt_inj.mp (h.trans (by decide)))
  · exact Or.inr <| Or.inr <| Or.inr <| Or.inr <| Or.inr <| Or.inl <| (Int32.toInt_inj.mp (h.trans (by decide)))
  · exact Or.inr <| Or.inr <| Or.inr <| Or.inr <| Or.inr <| Or.inr <| Or.inl <| (Int32.toInt_inj.mp (h.trans (by decide)))
  · exact Or.inr <| Or.inr <| Or.inr <| Or.inr <| Or.inr <| Or.inr <| Or.inr <| Or.inl <| (Int32.toInt_inj.mp (h.trans (by decide)))
  · exact Or.inr <| Or.inr <| Or.inr <| Or.inr <| Or.inr <| Or.inr <| Or.inr <| Or.inr <| Or.inl <| (Int32.toInt_inj.mp (h.trans (by decide)))
  · exact Or.inr <| Or.inr <| Or.inr <| Or.inr <| Or.inr <| Or.inr <| Or.inr <| Or.inr <| Or.inr <| Or.inl <| (Int32.toInt_inj.mp (h.trans (by decide)))
  · exact Or.inr <| Or.inr <| Or.inr <| Or.inr <| Or.inr <| Or.inr <| Or.inr <| Or.inr <| Or.inr <| Or.inr <| Or.inl <| (Int32.toInt_inj.mp (h.trans (by decide)))
  · exact Or.inr <| Or.inr <| Or.inr <| Or.inr <| Or.inr <| Or.inr <| Or.inr <| Or.inr <| Or.inr <| Or.inr <| Or.inr <| (Int32.toInt_inj.mp (h.trans (by decide)))
set_option maxHeartbeats 4000000 in
set_option maxRecDepth 100000 in
theorem c_X5_kindForWork (x : Int32) : Met l yX5_kindForWork wsX5_kindForWork ({ frames := 0, cells := 0, slots := 0, locals := 0 }) (wd_P D cI cJ [.int x] (sl_W cI cJ h (nI n) F Wt Sz Nu Mb (nI k) G Wk To Sl Ri (nI f) (nI b) oT oS oF (nI an) (nI as) Fo wo pa fa)) (pu_Q (some (.int (kfS x)))) 0 0 (fun _ => False) := by
  refine Met.ofW (cc := cX5_kindForWork) (maxL := 1) (ret := (some .int)) (by decide) rfl ?_
  intro p e s m args below meth c s₁ B hml hv
  obtain ⟨rfl, hP, hK⟩ := hv
  have hx := B.exec
  have hb := B.bytes
  have hr := B.returns
  have hts := atoms_spec (ws := wsX5_kindForWork) B.pre
  have hown : s.vm.findClass RX5 = some m.cls := findClass_of_methodNamed B.named
  have hlocks := B.notSynchronized
  have hl := lv_entry ([.int x]) (n := 1) (Nat.le_of_ble_eq_true rfl)
  rw [lg_entry_eq]
  generalize (lg_sl ([.int x]) ++ List.replicate (1 - (lg_sl ([.int x])).length) Slot.unset).toArray = ls at hl ⊢
  have hl : lv_has ls 1 [(0, .int x)] := hl
  refine lv_iload_n hx hb dX5_kindForWork_0 rfl (lv_at hl 0 rfl) ?_
  rcases (sw_X5_kindForWork_1 x) with ho1 | rfl | rfl | rfl | rfl | rfl | rfl | rfl | rfl | rfl | rfl | rfl | rfl
  · skip
    refine lv_tableOut (tgt := 111) hx hb dX5_kindForWork_1 ho1.1 (by decide) ?_
    refine lv_bipush (v := 17) hx hb dX5_kindForWork_111 (by decide) ?_
    exact W.iret (v := 17) hx hb hr (fun t9 ht _ => ⟨congrArg (fun z => Outcome.returned (some (Value.int z))) (by simp [kfS, ho1.2]), ht⟩) (fun _ h9 => nomatch h9) dX5_kindForWork_113
  · skip
    refine lv_tableIn (off := 63) (tgt := 64) hx hb dX5_kindForWork_1 (by decide) (by decide) (by decide) (by decide) ?_
    refine lv_iconst (v := 0) hx hb dX5_kindForWork_64 (by decide) ?_
    refine lv_goto (tgt := 113) hx hb dX5_kindForWork_65 (by decide) ?_
    exact W.iret (v := 0) hx hb hr (fun t9 ht _ => ⟨congrArg (fun z => Outcome.returned (some (Value.int z))) (by simp [kfS]), ht⟩) (fun _ h9 => nomatch h9) dX5_kindForWork_113
  · skip
    refine lv_tableIn (off := 67) (tgt := 68) hx hb dX5_kindForWork_1 (by decide) (by decide) (by decide) (by decide) ?_
    refine lv_bipush (v := 16) hx hb dX5_kindForWork_68 (by decide) ?_
    refine lv_goto (tgt := 113) hx hb dX5_kindForWork_70 (by decide) ?_
    exact W.iret (v := 16) hx hb hr (fun t9 ht _ => ⟨congrArg (fun z => Outcome.returned (some (Value.int z))) (by simp [kfS]), ht⟩) (fun _ h9 => nomatch h9) dX5_kindForWork_113
  · skip
    refine lv_tableIn (off := 72) (tgt := 73) hx hb dX5_kindForWork_1 (by decide) (by decide) (by decide) (by decide) ?_
    refine lv_iconst (v := 5) hx hb dX5_kindForWork_73 (by decide) ?_
    refine lv_goto (tgt := 113) hx hb dX5_kindForWork_74 (by decide) ?_
    exact W.iret (v := 5) hx hb hr (fun t9 ht _ => ⟨congrArg (fun z => Outcome.returned (some (Value.int z))) (by simp [kfS]), ht⟩) (fun _ h9 => nomatch h9) dX5_kindForWork_113
  · skip
    refine lv_tableIn (off := 76) (tgt := 77) hx hb dX5_kindForWork_1 (by decide) (by decide) (by decide) (by decide) ?_
    refine lv_bipush (v := 6) hx hb dX5_kindForWork_77 (by decide) ?_
    refine lv_goto (tgt := 113) hx hb dX5_kindForWork_79 (by decide) ?_
    exact W.iret (v := 6) hx hb hr (fun t9 ht _ => ⟨congrArg (fun z => Outcome.returned (some (Value.int z))) (by simp [kfS]), ht⟩) (fun _ h9 => nomatch h9) dX5_kindForWork_113
  · skip
    refine lv_tableIn (off := 81) (tgt := 82) hx hb dX5_kindForWork_1 (by decide) (by decide) (by decide) (by decide) ?_
    refine lv_iconst (v := 4) hx hb dX5_kindForWork_82 (by decide) ?_
    refine lv_goto (tgt := 113) hx hb dX5_kindForWork_83 (by decide) ?_
    exact W.iret (v := 4) hx hb hr (fun t9 ht _ => ⟨congrArg (fun z => Outcome.returned (some (Value.int z))) (by simp [kfS]), ht⟩) (fun _ h9 => nomatch h9) dX5_kindForWork_113
  · skip
    refine lv_tableIn (off := 85) (tgt := 86) hx hb dX5_kindForWork_1 (by decide) (by decide) (by decide) (by decide) ?_
    refine lv_bipush (v := 8) hx hb dX5_kindForWork_86 (by decide) ?_
    refine lv_goto (tgt := 113) hx hb dX5_kindForWork_88 (by decide) ?_
    exact W.iret (v := 8) hx hb hr (fun t9 ht _ => ⟨congrArg (fun z => Outcome.returned (some (Value.int z))) (by simp [kfS]), ht⟩) (fun _ h9 => nomatch h9) dX5_kindForWork_113
  · skip
    refine lv_tableIn (off := 85) (tgt := 86) hx hb dX5_kindForWork_1 (by decide) (by decide) (by decide) (by decide) ?_
    refine lv_bipush (v := 8) hx hb dX5_kindForWork_86 (by decide) ?_
    refine lv_goto (tgt := 113) hx hb dX5_kindForWork_88 (by decide) ?_
    exact W.iret (v := 8) hx hb hr (fun t9 ht _ => ⟨congrArg (fun z => Outcome.returned (some (Value.int z))) (by simp [kfS]), ht⟩) (fun _ h9 => nomatch h9) dX5_kindForWork_113
  · skip
    refine lv_tableIn (off := 90) (tgt := 91) hx hb dX5_kindForWork_1 (by decide) (by decide) (by decide) (by decide) ?_
    refine lv_bipush (v := 12) hx hb dX5_kindForWork_91 (by decide) ?_
    refine lv_goto (tgt := 113) hx hb dX5_kindForWork_93 (by decide) ?_
    exact W.iret (v := 12) hx hb hr (fun t9 ht _ => ⟨congrArg (fun z => Outcome.returned (some (Value.int z))) (by simp [kfS]), ht⟩) (fun _ h9 => nomatch h9) dX5_kindForWork_113
  · skip
    refine lv_tableIn (off := 95) (tgt := 96) hx hb dX5_kindForWork_1 (by decide) (by decide) (by decide) (by decide) ?_
    refine lv_bipush (v := 7) hx hb dX5_kindForWork_96 (by decide) ?_
    refine lv_goto (tgt := 113) hx hb dX5_kindForWork_98 (by decide) ?_
    exact W.iret (v := 7) hx hb hr (fun t9 ht _ => ⟨congrArg (fun z => Outcome.returned (some (Value.int z))) (by simp [kfS]), ht⟩) (fun _ h9 => nomatch h9) dX5_kindForWork_113
  · skip
    refine lv_tableIn (off := 100) (tgt := 101) hx hb dX5_kindForWork_1 (by decide) (by decide) (by decide) (by decide) ?_
    refine lv_bipush (v := 15) hx hb dX5_kindForWork_101 (by decide) ?_
    refine lv_goto (tgt := 113) hx hb dX5_kindForWork_103 (by decide) ?_
    exact W.iret (v := 15) hx hb hr (fun t9 ht _ => ⟨congrArg (fun z => Outcome.returned (some (Value.int z))) (by simp [kfS]), ht⟩) (fun _ h9 => nomatch h9) dX5_kindForWork_113
  · skip
    refine lv_tableIn (off := 105) (tgt := 106) hx hb dX5_kindForWork_1 (by decide) (by decide) (by decide) (by decide) ?_
    refine lv_bipush (v := 11) hx hb dX5_kindForWork_106 (by decide) ?_
    refine lv_goto (tgt := 113) hx hb dX5_kindForWork_108 (by decide) ?_
    exact W.iret (v := 11) hx hb hr (fun t9 ht _ => ⟨congrArg (fun z => Outcome.returned (some (Value.int z))) (by simp [kfS]), ht⟩) (fun _ h9 => nomatch h9) dX5_kindForWork_113
  · skip
    refine lv_tableIn (off := 85) (tgt := 86) hx hb dX5_kindForWork_1 (by decide) (by decide) (by decide) (by decide) ?_
    refine lv_bipush (v := 8) hx hb dX5_kindForWork_86 (by decide) ?_
    refine lv_goto (tgt := 113) hx hb dX5_kindForWork_88 (by decide) ?_
    exact W.iret (v := 8) hx hb hr (fun t9 ht _ => ⟨congrArg (fun z => Outcome.returned (some (Value.int z))) (by simp [kfS]), ht⟩) (fun _ h9 => nomatch h9) dX5_kindForWork_113
set_option maxHeartbeats 4000000 in
set_option maxRecDepth 100000 in
theorem c_X5_layInto_nB (hh : ad_ok h 20) (hn : n ≤ 100) (r : Nat) (hr9 : r < n) (kd i : Int32) (h2 : p_in i (Sz r) = false) : Met l yX5_layInto wsX5_layInto ({ frames := 3, cells := 0, slots := 0, locals := 100 }) (wd_P D cI cJ [.ref (h 0), .int (nI r), .int i, .int (-5), .int kd] (sl_W cI cJ h (nI n) F Wt Sz Nu Mb (nI k) G Wk To Sl Ri (nI f) (nI b) oT oS oF (nI an) (nI as) Fo wo pa fa)) (pu_Q (some (.int 3))) 0 0 (fun _ => False) := by
  refine Met.ofW (cc := cX5_layInto) (maxL := 5) (ret := (some .int)) (by decide) rfl ?_
  intro p e s m args below meth c s₁ B hml hv
  obtain ⟨rfl, hP, hK⟩ := hv
  have hx := B.exec
  have hb := B.bytes
  have hr := B.returns
  have hts := atoms_spec (ws := wsX5_layInto) B.pre
  have hown : s.vm.findClass RX5 = some m.cls := findClass_of_methodNamed B.named
  have hlocks := B.notSynchronized
  have hiX5 : ∀ w ∈ u_ws RX5 TX5 5, w ∈ wsX5_layInto := by decide +kernel
  have kf10 := hts (.fieldLink RX5 10 "SortingLine" "things" "LSortingLine$Things;") (by decide +kernel)
  have hl := lv_entry ([.ref (h 0), .int (nI r), .int i, .int (-5), .int kd]) (n := 5) (Nat.le_of_ble_eq_true rfl)
  rw [lg_entry_eq]
  generalize (lg_sl ([.ref (h 0), .int (nI r), .int i, .int (-5), .int kd]) ++ List.replicate (5 - (lg_sl ([.ref (h 0), .int (nI r), .int i, .int (-5), .int kd])).length) Slot.unset).toArray = ls at hl ⊢
  have hl : lv_has ls 5 [(0, .ref (h 0)), (1, .int (nI r)), (2, .int i), (3, .int (-5)), (4, .int kd)] := hl
  refine lv_iload_n hx hb dX5_layInto_0 rfl (lv_at hl 3 rfl) ?_
  refine lv_bipush (v := (-5)) hx hb dX5_layInto_1 (by decide) ?_
  refine lv_icmp_eq (tgt := 21) hx hb dX5_layInto_3 (by decide) (fun _ => ?_) (fun h9 => absurd (by decide) h9)
  refine lv_aload_n hx hb dX5_layInto_21 rfl (lv_at hl 0 rfl) ?_
  refine va_get (D := D) (ci := 5) (v := .ref (h 1)) (C := RX5) (T := TX5) (N := 5) hx hb hts hiX5 hown hK.1 hP 0 rfl rfl 0 (by decide) kf10 (fun _ h9 => h9) rfl dX5_layInto_22 ?_
  refine lv_iload_n hx hb dX5_layInto_25 rfl (lv_at hl 1 rfl) ?_
  refine lv_iload_n hx hb dX5_layInto_26 rfl (lv_at hl 2 rfl) ?_
  refine pu_callb (va_runV (As := [.int (nI r), .int i]) (rest := []) ⟨hx, hb, hml, hown, hts⟩ (c_X4_hasPlace hh hn r (by omega) i) (cwV 2 hts gX5_layInto_X4_hasPlace rfl rfl rfl (by decide +kernel) ⟨Nat.le_of_ble_eq_true rfl, Nat.le_of_ble_eq_true rfl⟩) (wd_preV (ci := 4) (q0 := 1) hP hK rfl rfl) rfl rfl hl.1 rfl (lv_room (Nat.le_of_ble_eq_true rfl)) dX5_layInto_27 ⟨Nat.zero_le _, Nat.zero_le _⟩) (fun h9 => absurd (h2) (by rw [h9]; decide)) (fun _ => ?_)
  refine lv_if_ne (tgt := 35) hx hb dX5_layInto_30 (by decide) (fun h9 => absurd (by decide) h9) (fun _ => ?_)
  refine lv_iconst (v := 3) hx hb dX5_layInto_33 (by decide) ?_
  exact W.iret (v := 3) hx hb hr (fun t9 ht _ => ⟨congrArg (fun z => Outcome.returned (some (Value.int z))) (rfl), ht⟩) (fun _ h9 => nomatch h9) dX5_layInto_34
set_option maxHeartbeats 4000000 in
set_option maxRecDepth 100000 in
theorem c_X5_layInto_nO (hh : ad_ok h 20) (hn : n ≤ 100) (r : Nat) (hr9 : r < n) (kd : Int32) (j : Nat) (hj : j < 8) (h2 : p_in (nI j) (Sz r) = true) : Met l yX5_layInto wsX5_layInto ({ frames := 3, cells := 0, slots := 0, locals := 100 }) (wd_P D cI cJ [.ref (h 0), .int (nI r), .int (nI j), .int (-5), .int kd] (sl_W cI cJ h (nI n) F Wt Sz Nu Mb (nI k) G Wk To Sl Ri (nI f) (nI b) oT oS oF (nI an) (nI as) Fo wo pa fa)) (mu_Q D (ad_A h 20) (some (.int 0)) (sl_W cI cJ h (nI n) F Wt Sz Nu (upd Mb (8 * r + j) (-5)) (nI k) G Wk To Sl Ri (nI f) (nI b) oT oS oF (nI an) (nI as) Fo wo pa fa)) 0 0 (ad_A h 20) := by
  refine Met.ofW (cc := cX5_layInto) (maxL := 5) (ret := (some .int)) (by decide) rfl ?_
  intro p e s m args below meth c s₁ B hml hv
  obtain ⟨rfl, hP, hK⟩ := hv
  have hx := B.exec
  have hb := B.bytes
  have hr := B.returns
  have hts := atoms_spec (ws := wsX5_layInto) B.pre
  have hown : s.vm.findClass RX5 = some m.cls := findClass_of_methodNamed B.named
  have hlocks := B.notSynchronized
  have hiX5 : ∀ w ∈ u_ws RX5 TX5 5, w ∈ wsX5_layInto := by decide +kernel
  have kf10 := hts (.fieldLink RX5 10 "SortingLine" "things" "LSortingLine$Things;") (by decide +kernel)
  have hS : va_S (ad_A h 20) s.heap s.heap [] := va_S.rf
  have hl := lv_entry ([.ref (h 0), .int (nI r), .int (nI j), .int (-5), .int kd]) (n := 5) (Nat.le_of_ble_eq_true rfl)
  rw [lg_entry_eq]
  generalize (lg_sl ([.ref (h 0), .int (nI r), .int (nI j), .int (-5), .int kd]) ++ List.replicate (5 - (lg_sl ([.ref (h 0), .int (nI r), .int (nI j), .int (-5), .int kd])).length) Slot.unset).toArray = ls at hl ⊢
  have hl : lv_has ls 5 [(0, .ref (h 0)), (1, .int (nI r)), (2, .int (nI j)), (3, .int (-5)), (4, .int kd)] := hl
  refine lv_iload_n hx hb dX5_layInto_0 rfl (lv_at hl 3 rfl) ?_
  refine lv_bipush (v := (-5)) hx hb dX5_layInto_1 (by decide) ?_
  refine lv_icmp_eq (tgt := 21) hx hb dX5_layInto_3 (by decide) (fun _ => ?_) (fun h9 => absurd (by decide) h9)
  refine lv_aload_n hx hb dX5_layInto_21 rfl (lv_at hl 0 rfl) ?_
  refine va_get (D := D) (ci := 5) (v := .ref (h 1)) (C := RX5) (T := TX5) (N := 5) hx hb hts hiX5 hown hK.1 hP 0 rfl rfl 0 (by decide) kf10 (fun _ h9 => h9) rfl dX5_layInto_22 ?_
  refine lv_iload_n hx hb dX5_layInto_25 rfl (lv_at hl 1 rfl) ?_
  refine lv_iload_n hx hb dX5_layInto_26 rfl (lv_at hl 2 rfl) ?_
  refine pu_callb (va_runV (As := [.int (nI r), .int (nI j)]) (rest := []) ⟨hx, hb, hml, hown, hts⟩ (c_X4_hasPlace hh hn r (by omega) (nI j)) (cwV 2 hts gX5_layInto_X4_hasPlace rfl rfl rfl (by decide +kernel) ⟨Nat.le_of_ble_eq_true rfl, Nat.le_of_ble_eq_true rfl⟩) (wd_preV (ci := 4) (q0 := 1) hP hK rfl rfl) rfl rfl hl.1 rfl (lv_room (Nat.le_of_ble_eq_true rfl)) dX5_layInto_27 ⟨Nat.zero_le _, Nat.zero_le _⟩) (fun _ => ?_) (fun h9 => absurd (h2) (by rw [h9]; decide))
  refine lv_if_ne (tgt := 35) hx hb dX5_layInto_30 (by decide) (fun _ => ?_) (fun h9 => absurd h9 (by decide))
  refine lv_iload_n hx hb dX5_layInto_35 rfl (lv_at hl 3 rfl) ?_
  refine lv_bipush (v := (-5)) hx hb dX5_layInto_36 (by decide) ?_
  refine lv_icmp_eq (tgt := 65) hx hb dX5_layInto_38 (by decide) (fun _ => ?_) (fun h9 => absurd (by decide) h9)
  refine lv_aload_n hx hb dX5_layInto_65 rfl (lv_at hl 0 rfl) ?_
  refine va_get (D := D) (ci := 5) (v := .ref (h 1)) (C := RX5) (T := TX5) (N := 5) hx hb hts hiX5 hown hK.1 hP 0 rfl rfl 0 (by decide) kf10 (fun _ h9 => h9) rfl dX5_layInto_66 ?_
  refine lv_iload_n hx hb dX5_layInto_69 rfl (lv_at hl 1 rfl) ?_
  refine lv_iload_n hx hb dX5_layInto_70 rfl (lv_at hl 2 rfl) ?_
  refine lv_iload_n hx hb dX5_layInto_71 rfl (lv_at hl 3 rfl) ?_
  refine mu_callv (va_runV (As := [.int (nI r), .int (nI j), .int (-5)]) (rest := []) ⟨hx, hb, hml, hown, hts⟩ (c_X4_setMember hh hn r (by omega) j (by omega) (by assumption) (-5)) (cwV 3 hts gX5_layInto_X4_setMember rfl rfl rfl (by decide +kernel) ⟨Nat.le_of_ble_eq_true rfl, Nat.le_of_ble_eq_true rfl⟩) (wd_preV (ci := 4) (q0 := 1) hP hK rfl rfl) rfl rfl hl.1 rfl (lv_room (Nat.le_of_ble_eq_true rfl)) dX5_layInto_72 ⟨Nat.zero_le _, Nat.zero_le _⟩) hS (fun H locs hP hS => ?_)
  have hP : va_P D kC (sl_W cI cJ h (nI n) F Wt Sz Nu (upd Mb (8 * r + j) (-5)) (nI k) G Wk To Sl Ri (nI f) (nI b) oT oS oF (nI an) (nI as) Fo wo pa fa) H := hP
  refine lv_iconst (v := 0) hx hb dX5_layInto_75 (by decide) ?_
  exact W.iret (v := 0) hx hb hr (fun t9 ht _ => ⟨congrArg (fun z => Outcome.returned (some (Value.int z))) (rfl), by rw [ht]; exact hP, hS.F ht⟩) hS.2.2 dX5_layInto_76
set_option maxHeartbeats 4000000 in
set_option maxRecDepth 100000 in
theorem c_X5_layInto_pC (hh : ad_ok h 20) (hn : n ≤ 100) (r : Nat) (hr9 : r < n) (p9 : Nat) (hp9 : p9 < n) (kd : Int32) (i : Int32) (h1 : ko (F p9) kd = false) : Met l yX5_layInto wsX5_layInto ({ frames := 3, cells := 0, slots := 0, locals := 100 }) (wd_P D cI cJ [.ref (h 0), .int (nI r), .int i, .int (nI p9), .int kd] (sl_W cI cJ h (nI n) F Wt Sz Nu Mb (nI k) G Wk To Sl Ri (nI f) (nI b) oT oS oF (nI an) (nI as) Fo wo pa fa)) (pu_Q (some (.int 1))) 0 0 (fun _ => False) := by
  refine Met.ofW (cc := cX5_layInto) (maxL := 5) (ret := (some .int)) (by decide) rfl ?_
  intro p e s m args below meth c s₁ B hml hv
  obtain ⟨rfl, hP, hK⟩ := hv
  have hx := B.exec
  have hb := B.bytes
  have hr := B.returns
  have hts := atoms_spec (ws := wsX5_layInto) B.pre
  have hown : s.vm.findClass RX5 = some m.cls := findClass_of_methodNamed B.named
  have hlocks := B.notSynchronized
  have hiX5 : ∀ w ∈ u_ws RX5 TX5 5, w ∈ wsX5_layInto := by decide +kernel
  have kf10 := hts (.fieldLink RX5 10 "SortingLine" "things" "LSortingLine$Things;") (by decide +kernel)
  have hl := lv_entry ([.ref (h 0), .int (nI r), .int i, .int (nI p9), .int kd]) (n := 5) (Nat.le_of_ble_eq_true rfl)
  rw [lg_entry_eq]
  generalize (lg_sl ([.ref (h 0), .int (nI r), .int i, .int (nI p9), .int kd]) ++ List.replicate (5 - (lg_sl ([.ref (h 0), .int (nI r), .int i, .int (nI p9), .int kd])).length) Slot.unset).toArray = ls at hl ⊢
  have hl : lv_has ls 5 [(0, .ref (h 0)), (1, .int (nI r)), (2, .int i), (3, .int (nI p9)), (4, .int kd)] := hl
  refine lv_iload_n hx hb dX5_layInto_0 rfl (lv_at hl 3 rfl) ?_
  refine lv_bipush (v := (-5)) hx hb dX5_layInto_1 (by decide) ?_
  refine lv_icmp_eq (tgt := 21) hx hb dX5_layInto_3 (by decide) (fun h9 => absurd h9 (fun h9 => absurd (h9 ▸ nI_pos (n := p9) (by omega)) (by decide))) (fun _ => ?_)
  refine lv_aload_n hx hb dX5_layInto_6 rfl (lv_at hl 0 rfl) ?_
  refine va_get (D := D) (ci := 5) (v := .ref (h 1)) (C := RX5) (T := TX5) (N := 5) hx hb hts hiX5 hown hK.1 hP 0 rfl rfl 0 (by decide) kf10 (fun _ h9 => h9) rfl dX5_layInto_7 ?_
  refine lv_iload_n hx hb dX5_layInto_10 rfl (lv_at hl 3 rfl) ?_
  refine lv_iload hx hb dX5_layInto_11 (lv_at hl 4 rfl) ?_
  refine pu_callb (va_runV (As := [.int (nI p9), .int kd]) (rest := []) ⟨hx, hb, hml, hown, hts⟩ (c_X4_isOf hh hn p9 (by omega) kd) (cwV 2 hts gX5_layInto_X4_isOf rfl rfl rfl (by decide +kernel) ⟨Nat.le_of_ble_eq_true rfl, Nat.le_of_ble_eq_true rfl⟩) (wd_preV (ci := 4) (q0 := 1) hP hK rfl rfl) rfl rfl hl.1 rfl (lv_room (Nat.le_of_ble_eq_true rfl)) dX5_layInto_13 ⟨Nat.zero_le _, Nat.zero_le _⟩) (fun h9 => absurd (h1) (by rw [h9]; decide)) (fun _ => ?_)
  refine lv_if_ne (tgt := 21) hx hb dX5_layInto_16 (by decide) (fun h9 => absurd (by decide) h9) (fun _ => ?_)
  refine lv_iconst (v := 1) hx hb dX5_layInto_19 (by decide) ?_
  exact W.iret (v := 1) hx hb hr (fun t9 ht _ => ⟨congrArg (fun z => Outcome.returned (some (Value.int z))) (rfl), ht⟩) (fun _ h9 => nomatch h9) dX5_layInto_20
set_option maxHeartbeats 4000000 in
set_option maxRecDepth 100000 in
theorem c_X5_layInto_pB (hh : ad_ok h 20) (hn : n ≤ 100) (r : Nat) (hr9 : r < n) (p9 : Nat) (hp9 : p9 < n) (kd : Int32) (i : Int32) (h1 : ko (F p9) kd = true) (h2 : p_in i (Sz r) = false) : Met l yX5_layInto wsX5_layInto ({ frames := 3, cells := 0, slots := 0, locals := 100 }) (wd_P D cI cJ [.ref (h 0), .int (nI r), .int i, .int (nI p9), .int kd] (sl_W cI cJ h (nI n) F Wt Sz Nu Mb (nI k) G Wk To Sl Ri (nI f) (nI b) oT oS oF (nI an) (nI as) Fo wo pa fa)) (pu_Q (some (.int 3))) 0 0 (fun _ => False) := by
  refine Met.ofW (cc := cX5_layInto) (maxL := 5) (ret := (some .int)) (by decide) rfl ?_
  intro p e s m args below meth c s₁ B hml hv
  obtain ⟨rfl, hP, hK⟩ := hv
  have hx := B.exec
  have hb := B.bytes
  have hr := B.returns
  have hts := atoms_spec (ws := wsX5_layInto) B.pre
  have hown : s.vm.findClass RX5 = some m.cls := findClass_of_methodNamed B.named
  have hlocks := B.notSynchronized
  have hiX5 : ∀ w ∈ u_ws RX5 TX5 5, w ∈ wsX5_layInto := by decide +kernel
  have kf10 := hts (.fieldLink RX5 10 "SortingLine" "things" "LSortingLine$Things;") (by decide +kernel)
  have hl := lv_entry ([.ref (h 0), .int (nI r), .int i, .int (nI p9), .int kd]) (n := 5) (Nat.le_of_ble_eq_true rfl)
  rw [lg_entry_eq]
  generalize (lg_sl ([.ref (h 0), .int (nI r), .int i, .int (nI p9), .int kd]) ++ List.replicate (5 - (lg_sl ([.ref (h 0), .int (nI r), .int i, .int (nI p9), .int kd])).length) Slot.unset).toArray = ls at hl ⊢
  have hl : lv_has ls 5 [(0, .ref (h 0)), (1, .int (nI r)), (2, .int i), (3, .int (nI p9)), (4, .int kd)] := hl
  refine lv_iload_n hx hb dX5_layInto_0 rfl (lv_at hl 3 rfl) ?_
  refine lv_bipush (v := (-5)) hx hb dX5_layInto_1 (by decide) ?_
  refine lv_icmp_eq (tgt := 21) hx hb dX5_layInto_3 (by decide) (fun h9 => absurd h9 (fun h9 => absurd (h9 ▸ nI_pos (n := p9) (by omega)) (by decide))) (fun _ => ?_)
  refine lv_aload_n hx hb dX5_layInto_6 rfl (lv_at hl 0 rfl) ?_
  refine va_get (D := D) (ci := 5) (v := .ref (h 1)) (C := RX5) (T := TX5) (N := 5) hx hb hts hiX5 hown hK.1 hP 0 rfl rfl 0 (by decide) kf10 (fun _ h9 => h9) rfl dX5_layInto_7 ?_
  refine lv_iload_n hx hb dX5_layInto_10 rfl (lv_at hl 3 rfl) ?_
  refine lv_iload hx hb dX5_layInto_11 (lv_at hl 4 rfl) ?_
  refine pu_callb (va_runV (As := [.int (nI p9), .int kd]) (rest := []) ⟨hx, hb, hml, hown, hts⟩ (c_X4_isOf hh hn p9 (by omega) kd) (cwV 2 hts gX5_layInto_X4_isOf rfl rfl rfl (by decide +kernel) ⟨Nat.le_of_ble_eq_true rfl, Nat.le_of_ble_eq_true rfl⟩) (wd_preV (ci := 4) (q0 := 1) hP hK rfl rfl) rfl rfl hl.1 rfl (lv_room (Nat.le_of_ble_eq_true rfl)) dX5_layInto_13 ⟨Nat.zero_le _, Nat.zero_le _⟩) (fun _ => ?_) (fun h9 => absurd (h1) (by rw [h9]; decide))
  refine lv_if_ne (tgt := 21) hx hb dX5_layInto_16 (by decide) (fun _ => ?_) (fun h9 => absurd h9 (by decide))
  refine lv_aload_n hx hb dX5_layInto_21 rfl (lv_at hl 0 rfl) ?_
  refine va_get (D := D) (ci := 5) (v := .ref (h 1)) (C := RX5) (T := TX5) (N := 5) hx hb hts hiX5 hown hK.1 hP 0 rfl rfl 0 (by decide) kf10 (fun _ h9 => h9) rfl dX5_layInto_22 ?_
  refine lv_iload_n hx hb dX5_layInto_25 rfl (lv_at hl 1 rfl) ?_
  refine lv_iload_n hx hb dX5_layInto_26 rfl (lv_at hl 2 rfl) ?_
  refine pu_callb (va_runV (As := [.int (nI r), .int i]) (rest := []) ⟨hx, hb, hml, hown, hts⟩ (c_X4_hasPlace hh hn r (by omega) i) (cwV 2 hts gX5_layInto_X4_hasPlace rfl rfl rfl (by decide +kernel) ⟨Nat.le_of_ble_eq_true rfl, Nat.le_of_ble_eq_true rfl⟩) (wd_preV (ci := 4) (q0 := 1) hP hK rfl rfl) rfl rfl hl.1 rfl (lv_room (Nat.le_of_ble_eq_true rfl)) dX5_layInto_27 ⟨Nat.zero_le _, Nat.zero_le _⟩) (fun h9 => absurd (h2) (by rw [h9]; decide)) (fun _ => ?_)
  refine lv_if_ne (tgt := 35) hx hb dX5_layInto_30 (by decide) (fun h9 => absurd (by decide) h9) (fun _ => ?_)
  refine lv_iconst (v := 3) hx hb dX5_layInto_33 (by decide) ?_
  exact W.iret (v := 3) hx hb hr (fun t9 ht _ => ⟨congrArg (fun z => Outcome.returned (some (Value.int z))) (rfl), ht⟩) (fun _ h9 => nomatch h9) dX5_layInto_34
set_option maxHeartbeats 4000000 in
set_option maxRecDepth 100000 in
theorem c_X5_layInto_pS (hh : ad_ok h 20) (hn : n ≤ 100) (r : Nat) (hr9 : r < n) (p9 : Nat) (hp9 : p9 < n) (kd : Int32) (i : Int32) (h1 : ko (F p9) kd = true) (h2 : p_in i (Sz r) = true) (h3 : ko (F p9) (mkS (F r)) = false) : Met l yX5_layInto wsX5_layInto ({ frames := 3, cells := 0, slots := 0, locals := 100 }) (wd_P D cI cJ [.ref (h 0), .int (nI r), .int i, .int (nI p9), .int kd] (sl_W cI cJ h (nI n) F Wt Sz Nu Mb (nI k) G Wk To Sl Ri (nI f) (nI b) oT oS oF (nI an) (nI as) Fo wo pa fa)) (pu_Q (some (.int 4))) 0 0 (fun _ => False) := by
  refine Met.ofW (cc := cX5_layInto) (maxL := 5) (ret := (some .int)) (by decide) rfl ?_
  intro p e s m args below meth c s₁ B hml hv
  obtain ⟨rfl, hP, hK⟩ := hv
  have hx := B.exec
  have hb := B.bytes
  have hr := B.returns
  have hts := atoms_spec (ws := wsX5_layInto) B.pre
  have hown : s.vm.findClass RX5 = some m.cls := findClass_of_methodNamed B.named
  have hlocks := B.notSynchronized
  have hiX5 : ∀ w ∈ u_ws RX5 TX5 5, w ∈ wsX5_layInto := by decide +kernel
  have kf10 := hts (.fieldLink RX5 10 "SortingLine" "things" "LSortingLine$Things;") (by decide +kernel)
  have hl := lv_entry ([.ref (h 0), .int (nI r), .int i, .int (nI p9), .int kd]) (n := 5) (Nat.le_of_ble_eq_true rfl)
  rw [lg_entry_eq]
  generalize (lg_sl ([.ref (h 0), .int (nI r), .int i, .int (nI p9), .int kd]) ++ List.replicate (5 - (lg_sl ([.ref (h 0), .int (nI r), .int i, .int (nI p9), .int kd])).length) Slot.unset).toArray = ls at hl ⊢
  have hl : lv_has ls 5 [(0, .ref (h 0)), (1, .int (nI r)), (2, .int i), (3, .int (nI p9)), (4, .int kd)] := hl
  refine lv_iload_n hx hb dX5_layInto_0 rfl (lv_at hl 3 rfl) ?_
  refine lv_bipush (v := (-5)) hx hb dX5_layInto_1 (by decide) ?_
  refine lv_icmp_eq (tgt := 21) hx hb dX5_layInto_3 (by decide) (fun h9 => absurd h9 (fun h9 => absurd (h9 ▸ nI_pos (n := p9) (by omega)) (by decide))) (fun _ => ?_)
  refine lv_aload_n hx hb dX5_layInto_6 rfl (lv_at hl 0 rfl) ?_
  refine va_get (D := D) (ci := 5) (v := .ref (h 1)) (C := RX5) (T := TX5) (N := 5) hx hb hts hiX5 hown hK.1 hP 0 rfl rfl 0 (by decide) kf10 (fun _ h9 => h9) rfl dX5_layInto_7 ?_
  refine lv_iload_n hx hb dX5_layInto_10 rfl (lv_at hl 3 rfl) ?_
  refine lv_iload hx hb dX5_layInto_11 (lv_at hl 4 rfl) ?_
  refine pu_callb (va_runV (As := [.int (nI p9), .int kd]) (rest := []) ⟨hx, hb, hml, hown, hts⟩ (c_X4_isOf hh hn p9 (by omega) kd) (cwV 2 hts gX5_layInto_X4_isOf rfl rfl rfl (by decide +kernel) ⟨Nat.le_of_ble_eq_true rfl, Nat.le_of_ble_eq_true rfl⟩) (wd_preV (ci := 4) (q0 := 1) hP hK rfl rfl) rfl rfl hl.1 rfl (lv_room (Nat.le_of_ble_eq_true rfl)) dX5_layInto_13 ⟨Nat.zero_le _, Nat.zero_le _⟩) (fun _ => ?_) (fun h9 => absurd (h1) (by rw [h9]; decide))
  refine lv_if_ne (tgt := 21) hx hb dX5_layInto_16 (by decide) (fun _ => ?_) (fun h9 => absurd h9 (by decide))
  refine lv_aload_n hx hb dX5_layInto_21 rfl (lv_at hl 0 rfl) ?_
  refine va_get (D := D) (ci := 5) (v := .ref (h 1)) (C := RX5) (T := TX5) (N := 5) hx hb hts hiX5 hown hK.1 hP 0 rfl rfl 0 (by decide) kf10 (fun _ h9 => h9) rfl dX5_layInto_22 ?_
  refine lv_iload_n hx hb dX5_layInto_25 rfl (lv_at hl 1 rfl) ?_
  refine lv_iload_n hx hb dX5_layInto_26 rfl (lv_at hl 2 rfl) ?_
  refine pu_callb (va_runV (As := [.int (nI r), .int i]) (rest := []) ⟨hx, hb, hml, hown, hts⟩ (c_X4_hasPlace hh hn r (by omega) i) (cwV 2 hts gX5_layInto_X4_hasPlace rfl rfl rfl (by decide +kernel) ⟨Nat.le_of_ble_eq_true rfl, Nat.le_of_ble_eq_true rfl⟩) (wd_preV (ci := 4) (q0 := 1) hP hK rfl rfl) rfl rfl hl.1 rfl (lv_room (Nat.le_of_ble_eq_true rfl)) dX5_layInto_27 ⟨Nat.zero_le _, Nat.zero_le _⟩) (fun _ => ?_) (fun h9 => absurd (h2) (by rw [h9]; decide))
  refine lv_if_ne (tgt := 35) hx hb dX5_layInto_30 (by decide) (fun _ => ?_) (fun h9 => absurd h9 (by decide))
  refine lv_iload_n hx hb dX5_layInto_35 rfl (lv_at hl 3 rfl) ?_
  refine lv_bipush (v := (-5)) hx hb dX5_layInto_36 (by decide) ?_
  refine lv_icmp_eq (tgt := 65) hx hb dX5_layInto_38 (by decide) (fun h9 => absurd h9 (fun h9 => absurd (h9 ▸ nI_pos (n := p9) (by omega)) (by decide))) (fun _ => ?_)
  refine lv_aload_n hx hb dX5_layInto_41 rfl (lv_at hl 0 rfl) ?_
  refine va_get (D := D) (ci := 5) (v := .ref (h 1)) (C := RX5) (T := TX5) (N := 5) hx hb hts hiX5 hown hK.1 hP 0 rfl rfl 0 (by decide) kf10 (fun _ h9 => h9) rfl dX5_layInto_42 ?_
  refine lv_iload_n hx hb dX5_layInto_45 rfl (lv_at hl 3 rfl) ?_
  refine lv_aload_n hx hb dX5_layInto_46 rfl (lv_at hl 0 rfl) ?_
  refine va_get (D := D) (ci := 5) (v := .ref (h 1)) (C := RX5) (T := TX5) (N := 5) hx hb hts hiX5 hown hK.1 hP 0 rfl rfl 0 (by decide) kf10 (fun _ h9 => h9) rfl dX5_layInto_47 ?_
  refine lv_iload_n hx hb dX5_layInto_50 rfl (lv_at hl 1 rfl) ?_
  refine pu_calli (va_runV (As := [.int (nI r)]) (rest := [.int (nI p9), .ref (h 1)]) ⟨hx, hb, hml, hown, hts⟩ (c_X4_formOf hh hn r (by omega)) (cwV 1 hts gX5_layInto_X4_formOf rfl rfl rfl (by decide +kernel) ⟨Nat.le_of_ble_eq_true rfl, Nat.le_of_ble_eq_true rfl⟩) (wd_preV (ci := 4) (q0 := 1) hP hK rfl rfl) rfl rfl hl.1 rfl (lv_room (Nat.le_of_ble_eq_true rfl)) dX5_layInto_51 ⟨Nat.zero_le _, Nat.zero_le _⟩) ?_
  refine pu_calli (va_runS (As := [.int (F r)]) (rest := [.int (nI p9), .ref (h 1)]) ⟨hx, hb, hml, hown, hts⟩ (c_X5_memberKind (F r)) (cwS 1 hts gX5_layInto_X5_memberKind rfl rfl rfl (by decide +kernel) ⟨Nat.le_of_ble_eq_true rfl, Nat.le_of_ble_eq_true rfl⟩) (wd_preS hP hK) rfl rfl hl.1 rfl (lv_room (Nat.le_of_ble_eq_true rfl)) dX5_layInto_54 ⟨Nat.zero_le _, Nat.zero_le _⟩) ?_
  refine pu_callb (va_runV (As := [.int (nI p9), .int (mkS (F r))]) (rest := []) ⟨hx, hb, hml, hown, hts⟩ (c_X4_isOf hh hn p9 (by omega) (mkS (F r))) (cwV 2 hts gX5_layInto_X4_isOf rfl rfl rfl (by decide +kernel) ⟨Nat.le_of_ble_eq_true rfl, Nat.le_of_ble_eq_true rfl⟩) (wd_preV (ci := 4) (q0 := 1) hP hK rfl rfl) rfl rfl hl.1 rfl (lv_room (Nat.le_of_ble_eq_true rfl)) dX5_layInto_57 ⟨Nat.zero_le _, Nat.zero_le _⟩) (fun h9 => absurd (h3) (by rw [h9]; decide)) (fun _ => ?_)
  refine lv_if_ne (tgt := 65) hx hb dX5_layInto_60 (by decide) (fun h9 => absurd (by decide) h9) (fun _ => ?_)
  refine lv_iconst (v := 4) hx hb dX5_layInto_63 (by decide) ?_
  exact W.iret (v := 4) hx hb hr (fun t9 ht _ => ⟨congrArg (fun z => Outcome.returned (some (Value.int z))) (rfl), ht⟩) (fun _ h9 => nomatch h9) dX5_layInto_64
set_option maxHeartbeats 4000000 in
set_option maxRecDepth 100000 in
theorem c_X5_layInto_pO (hh : ad_ok h 20) (hn : n ≤ 100) (r : Nat) (hr9 : r < n) (p9 : Nat) (hp9 : p9 < n) (kd : Int32) (j : Nat) (hj : j < 8) (h1 : ko (F p9) kd = true) (h2 : p_in (nI j) (Sz r) = true) (h3 : ko (F p9) (mkS (F r)) = true) : Met l yX5_layInto wsX5_layInto ({ frames := 3, cells := 0, slots := 0, locals := 100 }) (wd_P D cI cJ [.ref (h 0), .int (nI r), .int (nI j), .int (nI p9), .int kd] (sl_W cI cJ h (nI n) F Wt Sz Nu Mb (nI k) G Wk To Sl Ri (nI f) (nI b) oT oS oF (nI an) (nI as) Fo wo pa fa)) (mu_Q D (ad_A h 20) (some (.int 0)) (sl_W cI cJ h (nI n) F Wt Sz Nu (upd Mb (8 * r + j) (nI p9)) (nI k) G Wk To Sl Ri (nI f) (nI b) oT oS oF (nI an) (nI as) Fo wo pa fa)) 0 0 (ad_A h 20) := by
  refine Met.ofW (cc := cX5_layInto) (maxL := 5) (ret := (some .int)) (by decide) rfl ?_
  intro p e s m args below meth c s₁ B hml hv
  obtain ⟨rfl, hP, hK⟩ := hv
  have hx := B.exec
  have hb := B.bytes
  have hr := B.returns
  have hts := atoms_spec (ws := wsX5_layInto) B.pre
  have hown : s.vm.findClass RX5 = some m.cls := findClass_of_methodNamed B.named
  have hlocks := B.notSynchronized
  have hiX5 : ∀ w ∈ u_ws RX5 TX5 5, w ∈ wsX5_layInto := by decide +kernel
  have kf10 := hts (.fieldLink RX5 10 "SortingLine" "things" "LSortingLine$Things;") (by decide +kernel)
  have hS : va_S (ad_A h 20) s.heap s.heap [] := va_S.rf
  have hl := lv_entry ([.ref (h 0), .int (nI r), .int (nI j), .int (nI p9), .int kd]) (n := 5) (Nat.le_of_ble_eq_true rfl)
  rw [lg_entry_eq]
  generalize (lg_sl ([.ref (h 0), .int (nI r), .int (nI j), .int (nI p9), .int kd]) ++ List.replicate (5 - (lg_sl ([.ref (h 0), .int (nI r), .int (nI j), .int (nI p9), .int kd])).length) Slot.unset).toArray = ls at hl ⊢
  have hl : lv_has ls 5 [(0, .ref (h 0)), (1, .int (nI r)), (2, .int (nI j)), (3, .int (nI p9)), (4, .int kd)] := hl
  refine lv_iload_n hx hb dX5_layInto_0 rfl (lv_at hl 3 rfl) ?_
  refine lv_bipush (v := (-5)) hx hb dX5_layInto_1 (by decide) ?_
  refine lv_icmp_eq (tgt := 21) hx hb dX5_layInto_3 (by decide) (fun h9 => absurd h9 (fun h9 => absurd (h9 ▸ nI_pos (n := p9) (by omega)) (by decide))) (fun _ => ?_)
  refine lv_aload_n hx hb dX5_layInto_6 rfl (lv_at hl 0 rfl) ?_
  refine va_get (D := D) (ci := 5) (v := .ref (h 1)) (C := RX5) (T := TX5) (N := 5) hx hb hts hiX5 hown hK.1 hP 0 rfl rfl 0 (by decide) kf10 (fun _ h9 => h9) rfl dX5_layInto_7 ?_
  refine lv_iload_n hx hb dX5_layInto_10 rfl (lv_at hl 3 rfl) ?_
  refine lv_iload hx hb dX5_layInto_11 (lv_at hl 4 rfl) ?_
  refine pu_callb (va_runV (As := [.int (nI p9), .int kd]) (rest := []) ⟨hx, hb, hml, hown, hts⟩ (c_X4_isOf hh hn p9 (by omega) kd) (cwV 2 hts gX5_layInto_X4_isOf rfl rfl rfl (by decide +kernel) ⟨Nat.le_of_ble_eq_true rfl, Nat.le_of_ble_eq_true rfl⟩) (wd_preV (ci := 4) (q0 := 1) hP hK rfl rfl) rfl rfl hl.1 rfl (lv_room (Nat.le_of_ble_eq_true rfl)) dX5_layInto_13 ⟨Nat.zero_le _, Nat.zero_le _⟩) (fun _ => ?_) (fun h9 => absurd (h1) (by rw [h9]; decide))
  refine lv_if_ne (tgt := 21) hx hb dX5_layInto_16 (by decide) (fun _ => ?_) (fun h9 => absurd h9 (by decide))
  refine lv_aload_n hx hb dX5_layInto_21 rfl (lv_at hl 0 rfl) ?_
  refine va_get (D := D) (ci := 5) (v := .ref (h 1)) (C := RX5) (T := TX5) (N := 5) hx hb hts hiX5 hown hK.1 hP 0 rfl rfl 0 (by decide) kf10 (fun _ h9 => h9) rfl dX5_layInto_22 ?_
  refine lv_iload_n hx hb dX5_layInto_25 rfl (lv_at hl 1 rfl) ?_
  refine lv_iload_n hx hb dX5_layInto_26 rfl (lv_at hl 2 rfl) ?_
  refine pu_callb (va_runV (As := [.int (nI r), .int (nI j)]) (rest := []) ⟨hx, hb, hml, hown, hts⟩ (c_X4_hasPlace hh hn r (by omega) (nI j)) (cwV 2 hts gX5_layInto_X4_hasPlace rfl rfl rfl (by decide +kernel) ⟨Nat.le_of_ble_eq_true rfl, Nat.le_of_ble_eq_true rfl⟩) (wd_preV (ci := 4) (q0 := 1) hP hK rfl rfl) rfl rfl hl.1 rfl (lv_room (Nat.le_of_ble_eq_true rfl)) dX5_layInto_27 ⟨Nat.zero_le _, Nat.zero_le _⟩) (fun _ => ?_) (fun h9 => absurd (h2) (by rw [h9]; decide))
  refine lv_if_ne (tgt := 35) hx hb dX5_layInto_30 (by decide) (fun _ => ?_) (fun h9 => absurd h9 (by decide))
  refine lv_iload_n hx hb dX5_layInto_35 rfl (lv_at hl 3 rfl) ?_
  refine lv_bipush (v := (-5)) hx hb dX5_layInto_36 (by decide) ?_
  refine lv_icmp_eq (tgt := 65) hx hb dX5_layInto_38 (by decide) (fun h9 => absurd h9 (fun h9 => absurd (h9 ▸ nI_pos (n := p9) (by omega)) (by decide))) (fun _ => ?_)
  refine lv_aload_n hx hb dX5_layInto_41 rfl (lv_at hl 0 rfl) ?_
  refine va_get (D := D) (ci := 5) (v := .ref (h 1)) (C := RX5) (T := TX5) (N := 5) hx hb hts hiX5 hown hK.1 hP 0 rfl rfl 0 (by decide) kf10 (fun _ h9 => h9) rfl dX5_layInto_42 ?_
  refine lv_iload_n hx hb dX5_layInto_45 rfl (lv_at hl 3 rfl) ?_
  refine lv_aload_n hx hb dX5_layInto_46 rfl (lv_at hl 0 rfl) ?_
  refine va_get (D := D) (ci := 5) (v := .ref (h 1)) (C := RX5) (T := TX5) (N := 5) hx hb hts hiX5 hown hK.1 hP 0 rfl rfl 0 (by decide) kf10 (fun _ h9 => h9) rfl dX5_layInto_47 ?_
  refine lv_iload_n hx hb dX5_layInto_50 rfl (lv_at hl 1 rfl) ?_
  refine pu_calli (va_runV (As := [.int (nI r)]) (rest := [.int (nI p9), .ref (h 1)]) ⟨hx, hb, hml, hown, hts⟩ (c_X4_formOf hh hn r (by omega)) (cwV 1 hts gX5_layInto_X4_formOf rfl rfl rfl (by decide +kernel) ⟨Nat.le_of_ble_eq_true rfl, Nat.le_of_ble_eq_true rfl⟩) (wd_preV (ci := 4) (q0 := 1) hP hK rfl rfl) rfl rfl hl.1 rfl (lv_room (Nat.le_of_ble_eq_true rfl)) dX5_layInto_51 ⟨Nat.zero_le _, Nat.zero_le _⟩) ?_
  refine pu_calli (va_runS (As := [.int (F r)]) (rest := [.int (nI p9), .ref (h 1)]) ⟨hx, hb, hml, hown, hts⟩ (c_X5_memberKind (F r)) (cwS 1 hts gX5_layInto_X5_memberKind rfl rfl rfl (by decide +kernel) ⟨Nat.le_of_ble_eq_true rfl, Nat.le_of_ble_eq_true rfl⟩) (wd_preS hP hK) rfl rfl hl.1 rfl (lv_room (Nat.le_of_ble_eq_true rfl)) dX5_layInto_54 ⟨Nat.zero_le _, Nat.zero_le _⟩) ?_
  refine pu_callb (va_runV (As := [.int (nI p9), .int (mkS (F r))]) (rest := []) ⟨hx, hb, hml, hown, hts⟩ (c_X4_isOf hh hn p9 (by omega) (mkS (F r))) (cwV 2 hts gX5_layInto_X4_isOf rfl rfl rfl (by decide +kernel) ⟨Nat.le_of_ble_eq_true rfl, Nat.le_of_ble_eq_true rfl⟩) (wd_preV (ci := 4) (q0 := 1) hP hK rfl rfl) rfl rfl hl.1 rfl (lv_room (Nat.le_of_ble_eq_true rfl)) dX5_layInto_57 ⟨Nat.zero_le _, Nat.zero_le _⟩) (fun _ => ?_) (fun h9 => absurd (h3) (by rw [h9]; decide))
  refine lv_if_ne (tgt := 65) hx hb dX5_layInto_60 (by decide) (fun _ => ?_) (fun h9 => absurd h9 (by decide))
  refine lv_aload_n hx hb dX5_layInto_65 rfl (lv_at hl 0 rfl) ?_
  refine va_get (D := D) (ci := 5) (v := .ref (h 1)) (C := RX5) (T := TX5) (N := 5) hx hb hts hiX5 hown hK.1 hP 0 rfl rfl 0 (by decide) kf10 (fun _ h9 => h9) rfl dX5_layInto_66 ?_
  refine lv_iload_n hx hb dX5_layInto_69 rfl (lv_at hl 1 rfl) ?_
  refine lv_iload_n hx hb dX5_layInto_70 rfl (lv_at hl 2 rfl) ?_
  refine lv_iload_n hx hb dX5_layInto_71 rfl (lv_at hl 3 rfl) ?_
  refine mu_callv (va_runV (As := [.int (nI r), .int (nI j), .int (nI p9)]) (rest := []) ⟨hx, hb, hml, hown, hts⟩ (c_X4_setMember hh hn r (by omega) j (by omega) (by assumption) (nI p9)) (cwV 3 hts gX5_layInto_X4_setMember rfl rfl rfl (by decide +kernel) ⟨Nat.le_of_ble_eq_true rfl, Nat.le_of_ble_eq_true rfl⟩) (wd_preV (ci := 4) (q0 := 1) hP hK rfl rfl) rfl rfl hl.1 rfl (lv_room (Nat.le_of_ble_eq_true rfl)) dX5_layInto_72 ⟨Nat.zero_le _, Nat.zero_le _⟩) hS (fun H locs hP hS => ?_)
  have hP : va_P D kC (sl_W cI cJ h (nI n) F Wt Sz Nu (upd Mb (8 * r + j) (nI p9)) (nI k) G Wk To Sl Ri (nI f) (nI b) oT oS oF (nI an) (nI as) Fo wo pa fa) H := hP
  refine lv_iconst (v := 0) hx hb dX5_layInto_75 (by decide) ?_
  exact W.iret (v := 0) hx hb hr (fun t9 ht _ => ⟨congrArg (fun z => Outcome.returned (some (Value.int z))) (rfl), by rw [ht]; exact hP, hS.F ht⟩) hS.2.2 dX5_layInto_76
set_option maxHeartbeats 4000000 in
set_option maxRecDepth 100000 in
theorem c_X5_findingAtFirst (hh : ad_ok h 20) (hn : n ≤ 100) (r : Nat) (hr9 : r < n) : Met l yX5_findingAtFirst wsX5_findingAtFirst ({ frames := 2, cells := 0, slots := 0, locals := 44 }) (wd_P D cI cJ [.ref (h 0), .int (nI r)] (sl_W cI cJ h (nI n) F Wt Sz Nu Mb (nI k) G Wk To Sl Ri (nI f) (nI b) oT oS oF (nI an) (nI as) Fo wo pa fa)) (pu_Q (some (.int (fafS Sz Mb r)))) 0 0 (fun _ => False) := by
  refine Met.ofW (cc := cX5_findingAtFirst) (maxL := 2) (ret := (some .int)) (by decide) rfl ?_
  intro p e s m args below meth c s₁ B hml hv
  obtain ⟨rfl, hP, hK⟩ := hv
  have hx := B.exec
  have hb := B.bytes
  have hr := B.returns
  have hts := atoms_spec (ws := wsX5_findingAtFirst) B.pre
  have hown : s.vm.findClass RX5 = some m.cls := findClass_of_methodNamed B.named
  have hlocks := B.notSynchronized
  have hiX5 : ∀ w ∈ u_ws RX5 TX5 5, w ∈ wsX5_findingAtFirst := by decide +kernel
  have kf10 := hts (.fieldLink RX5 10 "SortingLine" "things" "LSortingLine$Things;") (by decide +kernel)
  have hl := lv_entry ([.ref (h 0), .int (nI r)]) (n := 2) (Nat.le_of_ble_eq_true rfl)
  rw [lg_entry_eq]
  generalize (lg_sl ([.ref (h 0), .int (nI r)]) ++ List.replicate (2 - (lg_sl ([.ref (h 0), .int (nI r)])).length) Slot.unset).toArray = ls at hl ⊢
  have hl : lv_has ls 2 [(0, .ref (h 0)), (1, .int (nI r))] := hl
  refine lv_aload_n hx hb dX5_findingAtFirst_0 rfl (lv_at hl 0 rfl) ?_
  refine va_get (D := D) (ci := 5) (v := .ref (h 1)) (C := RX5) (T := TX5) (N := 5) hx hb hts hiX5 hown hK.1 hP 0 rfl rfl 0 (by decide) kf10 (fun _ h9 => h9) rfl dX5_findingAtFirst_1 ?_
  refine lv_iload_n hx hb dX5_findingAtFirst_4 rfl (lv_at hl 1 rfl) ?_
  refine lv_iconst (v := 0) hx hb dX5_findingAtFirst_5 (by decide) ?_
  refine pu_callb (va_runV (As := [.int (nI r), .int 0]) (rest := []) ⟨hx, hb, hml, hown, hts⟩ (c_X4_hasPlace hh hn r (by omega) 0) (cwV 2 hts gX5_findingAtFirst_X4_hasPlace rfl rfl rfl (by decide +kernel) ⟨Nat.le_of_ble_eq_true rfl, Nat.le_of_ble_eq_true rfl⟩) (wd_preV (ci := 4) (q0 := 1) hP hK rfl rfl) rfl rfl hl.1 rfl (lv_room (Nat.le_of_ble_eq_true rfl)) dX5_findingAtFirst_6 ⟨Nat.zero_le _, Nat.zero_le _⟩) (fun c6 => ?_) (fun c6 => ?_)
  · skip
    refine lv_if_ne (tgt := 14) hx hb dX5_findingAtFirst_9 (by decide) (fun _ => ?_) (fun h9 => absurd h9 (by decide))
    refine lv_aload_n hx hb dX5_findingAtFirst_14 rfl (lv_at hl 0 rfl) ?_
    refine va_get (D := D) (ci := 5) (v := .ref (h 1)) (C := RX5) (T := TX5) (N := 5) hx hb hts hiX5 hown hK.1 hP 0 rfl rfl 0 (by decide) kf10 (fun _ h9 => h9) rfl dX5_findingAtFirst_15 ?_
    refine lv_iload_n hx hb dX5_findingAtFirst_18 rfl (lv_at hl 1 rfl) ?_
    refine lv_iconst (v := 0) hx hb dX5_findingAtFirst_19 (by decide) ?_
    refine pu_calli (va_runV (As := [.int (nI r), .int 0]) (rest := []) ⟨hx, hb, hml, hown, hts⟩ (c_X4_memberAt hh hn r (by omega) 0 (by omega) (by assumption)) (cwV 2 hts gX5_findingAtFirst_X4_memberAt rfl rfl rfl (by decide +kernel) ⟨Nat.le_of_ble_eq_true rfl, Nat.le_of_ble_eq_true rfl⟩) (wd_preV (ci := 4) (q0 := 1) hP hK rfl rfl) rfl rfl hl.1 rfl (lv_room (Nat.le_of_ble_eq_true rfl)) dX5_findingAtFirst_20 ⟨Nat.zero_le _, Nat.zero_le _⟩) ?_
    refine lv_bipush (v := (-5)) hx hb dX5_findingAtFirst_23 (by decide) ?_
    refine lv_icmp_ne (tgt := 32) hx hb dX5_findingAtFirst_25 (by decide) (fun c25 => ?_) (fun c25 => ?_)
    · skip
      refine lv_iconst (v := 0) hx hb dX5_findingAtFirst_32 (by decide) ?_
      exact W.iret (v := 0) hx hb hr (fun t9 ht _ => ⟨congrArg (fun z => Outcome.returned (some (Value.int z))) (by unfold fafS; rw [c6, if_pos rfl, if_neg c25]), ht⟩) (fun _ h9 => nomatch h9) dX5_findingAtFirst_33
    · skip
      refine lv_iconst (v := 2) hx hb dX5_findingAtFirst_28 (by decide) ?_
      refine lv_goto (tgt := 33) hx hb dX5_findingAtFirst_29 (by decide) ?_
      exact W.iret (v := 2) hx hb hr (fun t9 ht _ => ⟨congrArg (fun z => Outcome.returned (some (Value.int z))) (by unfold fafS; rw [c6, if_pos rfl, if_pos c25]), ht⟩) (fun _ h9 => nomatch h9) dX5_findingAtFirst_33
  · skip
    refine lv_if_ne (tgt := 14) hx hb dX5_findingAtFirst_9 (by decide) (fun h9 => absurd (by decide) h9) (fun _ => ?_)
    refine lv_iconst (v := 3) hx hb dX5_findingAtFirst_12 (by decide) ?_
    exact W.iret (v := 3) hx hb hr (fun t9 ht _ => ⟨congrArg (fun z => Outcome.returned (some (Value.int z))) (by unfold fafS; rw [c6]; rfl), ht⟩) (fun _ h9 => nomatch h9) dX5_findingAtFirst_13
set_option maxHeartbeats 4000000 in
set_option maxRecDepth 100000 in
theorem c_X5_grow (hh : ad_ok h 20) (hk : k ≤ 8) (i : Nat) (hi : i < k) (v : Int64) : Met l yX5_grow wsX5_grow ({ frames := 2, cells := 0, slots := 0, locals := 44 }) (wd_P D cI cJ [.ref (h 0), .int (nI i), .long v] (sl_W cI cJ h (nI n) F Wt Sz Nu Mb (nI k) G Wk To Sl Ri (nI f) (nI b) oT oS oF (nI an) (nI as) Fo wo pa fa)) (mu_Q D (ad_A h 20) (some (.int 0)) (sl_W cI cJ h (nI n) F Wt Sz Nu Mb (nI k) G Wk (vp_updL To i (To i + v)) Sl Ri (nI f) (nI b) oT oS oF (nI an) (nI as) Fo wo pa fa)) 0 0 (ad_A h 20) := by
  refine Met.ofW (cc := cX5_grow) (maxL := 4) (ret := (some .int)) (by decide) rfl ?_
  intro p e s m args below meth c s₁ B hml hv
  obtain ⟨rfl, hP, hK⟩ := hv
  have hx := B.exec
  have hb := B.bytes
  have hr := B.returns
  have hts := atoms_spec (ws := wsX5_grow) B.pre
  have hown : s.vm.findClass RX5 = some m.cls := findClass_of_methodNamed B.named
  have hlocks := B.notSynchronized
  have hiX5 : ∀ w ∈ u_ws RX5 TX5 5, w ∈ wsX5_grow := by decide +kernel
  have kf19 := hts (.fieldLink RX5 19 "SortingLine" "stations" "LSortingLine$Stations;") (by decide +kernel)
  have hS : va_S (ad_A h 20) s.heap s.heap [] := va_S.rf
  have hl := lv_entry ([.ref (h 0), .int (nI i), .long v]) (n := 4) (Nat.le_of_ble_eq_true rfl)
  rw [lg_entry_eq]
  generalize (lg_sl ([.ref (h 0), .int (nI i), .long v]) ++ List.replicate (4 - (lg_sl ([.ref (h 0), .int (nI i), .long v])).length) Slot.unset).toArray = ls at hl ⊢
  have hl : lv_has ls 4 [(0, .ref (h 0)), (1, .int (nI i)), (2, .long v)] := hl
  refine lv_aload_n hx hb dX5_grow_0 rfl (lv_at hl 0 rfl) ?_
  refine va_get (D := D) (ci := 5) (v := .ref (h 2)) (C := RX5) (T := TX5) (N := 5) hx hb hts hiX5 hown hK.1 hP 0 rfl rfl 1 (by decide) kf19 (fun _ h9 => h9) rfl dX5_grow_1 ?_
  refine lv_iload_n hx hb dX5_grow_4 rfl (lv_at hl 1 rfl) ?_
  refine lv_lload_n hx hb dX5_grow_5 rfl (lv_at hl 2 rfl) ?_
  refine mu_callv (va_runV (As := [.int (nI i), .long v]) (rest := []) ⟨hx, hb, hml, hown, hts⟩ (c_X2_grow hh hk i (by omega) v) (cwV 2 hts gX5_grow_X2_grow rfl rfl rfl (by decide +kernel) ⟨Nat.le_of_ble_eq_true rfl, Nat.le_of_ble_eq_true rfl⟩) (wd_preV (ci := 2) (q0 := 2) hP hK rfl rfl) rfl rfl hl.1 rfl (lv_room (Nat.le_of_ble_eq_true rfl)) dX5_grow_6 ⟨Nat.zero_le _, Nat.zero_le _⟩) hS (fun H locs hP hS => ?_)
  have hP : va_P D kC (sl_W cI cJ h (nI n) F Wt Sz Nu Mb (nI k) G Wk (vp_updL To i (To i + v)) Sl Ri (nI f) (nI b) oT oS oF (nI an) (nI as) Fo wo pa fa) H := hP
  refine lv_iconst (v := 0) hx hb dX5_grow_9 (by decide) ?_
  exact W.iret (v := 0) hx hb hr (fun t9 ht _ => ⟨congrArg (fun z => Outcome.returned (some (Value.int z))) (rfl), by rw [ht]; exact hP, hS.F ht⟩) hS.2.2 dX5_grow_10
set_option maxHeartbeats 4000000 in
set_option maxRecDepth 100000 in
theorem c_X5_keep (hh : ad_ok h 20) (hk : k ≤ 8) (x : Int32) (i : Nat) (hi : i < k) : Met l yX5_keep wsX5_keep ({ frames := 2, cells := 0, slots := 0, locals := 43 }) (wd_P D cI cJ [.ref (h 0), .int x, .int (nI i)] (sl_W cI cJ h (nI n) F Wt Sz Nu Mb (nI k) G Wk To Sl Ri (nI f) (nI b) oT oS oF (nI an) (nI as) Fo wo pa fa)) (mu_Q D (ad_A h 20) (some (.int 0)) (sl_W cI cJ h (nI n) F Wt Sz Nu Mb (nI k) G Wk To (upd Sl i x) Ri (nI f) (nI b) oT oS oF (nI an) (nI as) Fo wo pa fa)) 0 0 (ad_A h 20) := by
  refine Met.ofW (cc := cX5_keep) (maxL := 3) (ret := (some .int)) (by decide) rfl ?_
  intro p e s m args below meth c s₁ B hml hv
  obtain ⟨rfl, hP, hK⟩ := hv
  have hx := B.exec
  have hb := B.bytes
  have hr := B.returns
  have hts := atoms_spec (ws := wsX5_keep) B.pre
  have hown : s.vm.findClass RX5 = some m.cls := findClass_of_methodNamed B.named
  have hlocks := B.notSynchronized
  have hiX5 : ∀ w ∈ u_ws RX5 TX5 5, w ∈ wsX5_keep := by decide +kernel
  have kf19 := hts (.fieldLink RX5 19 "SortingLine" "stations" "LSortingLine$Stations;") (by decide +kernel)
  have hS : va_S (ad_A h 20) s.heap s.heap [] := va_S.rf
  have hl := lv_entry ([.ref (h 0), .int x, .int (nI i)]) (n := 3) (Nat.le_of_ble_eq_true rfl)
  rw [lg_entry_eq]
  generalize (lg_sl ([.ref (h 0), .int x, .int (nI i)]) ++ List.replicate (3 - (lg_sl ([.ref (h 0), .int x, .int (nI i)])).length) Slot.unset).toArray = ls at hl ⊢
  have hl : lv_has ls 3 [(0, .ref (h 0)), (1, .int x), (2, .int (nI i))] := hl
  refine lv_aload_n hx hb dX5_keep_0 rfl (lv_at hl 0 rfl) ?_
  refine va_get (D := D) (ci := 5) (v := .ref (h 2)) (C := RX5) (T := TX5) (N := 5) hx hb hts hiX5 hown hK.1 hP 0 rfl rfl 1 (by decide) kf19 (fun _ h9 => h9) rfl dX5_keep_1 ?_
  refine lv_iload_n hx hb dX5_keep_4 rfl (lv_at hl 2 rfl) ?_
  refine lv_iload_n hx hb dX5_keep_5 rfl (lv_at hl 1 rfl) ?_
  refine mu_callv (va_runV (As := [.int (nI i), .int x]) (rest := []) ⟨hx, hb, hml, hown, hts⟩ (c_X2_setSlot hh hk i (by omega) x) (cwV 2 hts gX5_keep_X2_setSlot rfl rfl rfl (by decide +kernel) ⟨Nat.le_of_ble_eq_true rfl, Nat.le_of_ble_eq_true rfl⟩) (wd_preV (ci := 2) (q0 := 2) hP hK rfl rfl) rfl rfl hl.1 rfl (lv_room (Nat.le_of_ble_eq_true rfl)) dX5_keep_6 ⟨Nat.zero_le _, Nat.zero_le _⟩) hS (fun H locs hP hS => ?_)
  have hP : va_P D kC (sl_W cI cJ h (nI n) F Wt Sz Nu Mb (nI k) G Wk To (upd Sl i x) Ri (nI f) (nI b) oT oS oF (nI an) (nI as) Fo wo pa fa) H := hP
  refine lv_iconst (v := 0) hx hb dX5_keep_9 (by decide) ?_
  exact W.iret (v := 0) hx hb hr (fun t9 ht _ => ⟨congrArg (fun z => Outcome.returned (some (Value.int z))) (rfl), by rw [ht]; exact hP, hS.F ht⟩) hS.2.2 dX5_keep_10
set_option maxHeartbeats 4000000 in
set_option maxRecDepth 100000 in
theorem c_X5_weigh (hh : ad_ok h 20) (hn : n ≤ 100) (hk : k ≤ 8) (r : Nat) (hr9 : r < n) (i : Nat) (hi : i < k) : Met l yX5_weigh wsX5_weigh ({ frames := 3, cells := 0, slots := 0, locals := 65 }) (wd_P D cI cJ [.ref (h 0), .int (nI r), .int (nI i)] (sl_W cI cJ h (nI n) F Wt Sz Nu Mb (nI k) G Wk To Sl Ri (nI f) (nI b) oT oS oF (nI an) (nI as) Fo wo pa fa)) (mu_Q D (ad_A h 20) (some (.int 0)) (sl_W cI cJ h (nI n) F Wt Sz Nu Mb (nI k) G Wk (vp_updL To i (To i + Int32.toInt64 (Wt r))) (upd Sl i (nI r)) Ri (nI f) (nI b) oT oS oF (nI an) (nI as) Fo wo pa fa)) 0 0 (ad_A h 20) := by
  refine Met.ofW (cc := cX5_weigh) (maxL := 3) (ret := (some .int)) (by decide) rfl ?_
  intro p e s m args below meth c s₁ B hml hv
  obtain ⟨rfl, hP, hK⟩ := hv
  have hx := B.exec
  have hb := B.bytes
  have hr := B.returns
  have hts := atoms_spec (ws := wsX5_weigh) B.pre
  have hown : s.vm.findClass RX5 = some m.cls := findClass_of_methodNamed B.named
  have hlocks := B.notSynchronized
  have hiX5 : ∀ w ∈ u_ws RX5 TX5 5, w ∈ wsX5_weigh := by decide +kernel
  have kf19 := hts (.fieldLink RX5 19 "SortingLine" "stations" "LSortingLine$Stations;") (by decide +kernel)
  have kf10 := hts (.fieldLink RX5 10 "SortingLine" "things" "LSortingLine$Things;") (by decide +kernel)
  have hS : va_S (ad_A h 20) s.heap s.heap [] := va_S.rf
  have hl := lv_entry ([.ref (h 0), .int (nI r), .int (nI i)]) (n := 3) (Nat.le_of_ble_eq_true rfl)
  rw [lg_entry_eq]
  generalize (lg_sl ([.ref (h 0), .int (nI r), .int (nI i)]) ++ List.replicate (3 - (lg_sl ([.ref (h 0), .int (nI r), .int (nI i)])).length) Slot.unset).toArray = ls at hl ⊢
  have hl : lv_has ls 3 [(0, .ref (h 0)), (1, .int (nI r)), (2, .int (nI i))] := hl
  refine lv_aload_n hx hb dX5_weigh_0 rfl (lv_at hl 0 rfl) ?_
  refine va_get (D := D) (ci := 5) (v := .ref (h 2)) (C := RX5) (T := TX5) (N := 5) hx hb hts hiX5 hown hK.1 hP 0 rfl rfl 1 (by decide) kf19 (fun _ h9 => h9) rfl dX5_weigh_1 ?_
  refine lv_iload_n hx hb dX5_weigh_4 rfl (lv_at hl 2 rfl) ?_
  refine lv_aload_n hx hb dX5_weigh_5 rfl (lv_at hl 0 rfl) ?_
  refine va_get (D := D) (ci := 5) (v := .ref (h 1)) (C := RX5) (T := TX5) (N := 5) hx hb hts hiX5 hown hK.1 hP 0 rfl rfl 0 (by decide) kf10 (fun _ h9 => h9) rfl dX5_weigh_6 ?_
  refine lv_iload_n hx hb dX5_weigh_9 rfl (lv_at hl 1 rfl) ?_
  refine pu_calli (va_runV (As := [.int (nI r)]) (rest := [.int (nI i), .ref (h 2)]) ⟨hx, hb, hml, hown, hts⟩ (c_X4_weightOf hh hn r (by omega)) (cwV 1 hts gX5_weigh_X4_weightOf rfl rfl rfl (by decide +kernel) ⟨Nat.le_of_ble_eq_true rfl, Nat.le_of_ble_eq_true rfl⟩) (wd_preV (ci := 4) (q0 := 1) hP hK rfl rfl) rfl rfl hl.1 rfl (lv_room (Nat.le_of_ble_eq_true rfl)) dX5_weigh_10 ⟨Nat.zero_le _, Nat.zero_le _⟩) ?_
  refine lv_i2l (v := Int32.toInt64 (Wt r)) hx hb dX5_weigh_13 (rfl) ?_
  refine mu_callv (va_runV (As := [.int (nI i), .long (Int32.toInt64 (Wt r))]) (rest := []) ⟨hx, hb, hml, hown, hts⟩ (c_X2_grow hh hk i (by omega) (Int32.toInt64 (Wt r))) (cwV 2 hts gX5_weigh_X2_grow rfl rfl rfl (by decide +kernel) ⟨Nat.le_of_ble_eq_true rfl, Nat.le_of_ble_eq_true rfl⟩) (wd_preV (ci := 2) (q0 := 2) hP hK rfl rfl) rfl rfl hl.1 rfl (lv_room (Nat.le_of_ble_eq_true rfl)) dX5_weigh_14 ⟨Nat.zero_le _, Nat.zero_le _⟩) hS (fun H locs hP hS => ?_)
  have hP : va_P D kC (sl_W cI cJ h (nI n) F Wt Sz Nu Mb (nI k) G Wk (vp_updL To i (To i + (Int32.toInt64 (Wt r)))) Sl Ri (nI f) (nI b) oT oS oF (nI an) (nI as) Fo wo pa fa) H := hP
  refine lv_aload_n hx hb dX5_weigh_17 rfl (lv_at hl 0 rfl) ?_
  refine lv_iload_n hx hb dX5_weigh_18 rfl (lv_at hl 1 rfl) ?_
  refine lv_iload_n hx hb dX5_weigh_19 rfl (lv_at hl 2 rfl) ?_
  refine mu_calli (va_runV (As := [.int (nI r), .int (nI i)]) (rest := []) ⟨hx, hb, hml, hown, hts⟩ (c_X5_keep hh hk (nI r) i (by omega)) (cwV 2 hts gX5_weigh_X5_keep rfl rfl rfl (by decide +kernel) ⟨Nat.le_of_ble_eq_true rfl, Nat.le_of_ble_eq_true rfl⟩) (wd_preV (ci := 5) (q0 := 0) hP hK rfl rfl) rfl rfl hl.1 rfl (lv_room (Nat.le_of_ble_eq_true rfl)) dX5_weigh_20 ⟨Nat.zero_le _, Nat.zero_le _⟩) hS (fun H locs hP hS => ?_)
  have hP : va_P D kC (sl_W cI cJ h (nI n) F Wt Sz Nu Mb (nI k) G Wk (vp_updL To i (To i + (Int32.toInt64 (Wt r)))) (upd Sl i (nI r)) Ri (nI f) (nI b) oT oS oF (nI an) (nI as) Fo wo pa fa) H := hP
  exact W.iret (v := 0) hx hb hr (fun t9 ht _ => ⟨congrArg (fun z => Outcome.returned (some (Value.int z))) (rfl), by rw [ht]; exact hP, hS.F ht⟩) hS.2.2 dX5_weigh_23
end SubC
