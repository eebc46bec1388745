/-! the reference's public methods, outcome by outcome, in one room; each sets fault -/
section MoE
variable {l : Launch} {D : va_G} {cI cJ : ClassId} {g : Nat → Nat} {n k b as : Nat} {fx : Int32} {F Wt Sz : Nat → Int32} {Nu : Nat → Int64} {Pl Bf G Wk : Nat → Int32} {To : Nat → Int64} {Sl Sd Fo : Nat → Int32} {wo pa fa : Int32}
set_option maxHeartbeats 4000000 in
set_option maxRecDepth 100000 in
theorem c_X6_thing_o (hh : ad_ok g 16) (fo we : Int32) (h1 : (q_in fo 0 3 && q_in we (-1000) 1000) = false) : Met l yX6_thing wsX6_thing ({ frames := 10, cells := 0, slots := 0, locals := 450 }) (wd_P D cI cJ [.ref (g 0), .int fo, .int we] (mo_W cI cJ g fx (nI n) F Wt Sz Nu Pl Bf (nI b) (nI k) G Wk To Sl Sd (nI as) wo pa fa Fo)) (mu_Q D (ad_A g 16) (some (.int (-2))) (mo_W cI cJ g 0 (nI n) F Wt Sz Nu Pl Bf (nI b) (nI k) G Wk To Sl Sd (nI as) wo pa fa Fo)) 0 0 (ad_A g 16) := by
  refine Met.ofW (cc := cX6_thing) (maxL := 3) (ret := (some .int)) (by decide) rfl ?_
  intro p e s m args below meth c s₁ B hml hv
  obtain ⟨rfl, hP, hK⟩ := hv
  have hx := B.exec
  have hb := B.bytes
  have hr := B.returns
  have hts := atoms_spec (ws := wsX6_thing) B.pre
  have hown : s.vm.findClass RX6 = some m.cls := findClass_of_methodNamed B.named
  have hlocks := B.notSynchronized
  have hiX6 : ∀ w ∈ u_ws RX6 TX6 23, w ∈ wsX6_thing := by decide +kernel
  have kf59 := hts (.fieldLink RX6 59 "SortingLineModel" "fault" "I") (by decide +kernel)
  have hS : va_S (ad_A g 16) s.heap s.heap [] := va_S.rf
  have hl := lv_entry ([.ref (g 0), .int fo, .int we]) (n := 3) (Nat.le_of_ble_eq_true rfl)
  rw [lg_entry_eq]
  generalize (lg_sl ([.ref (g 0), .int fo, .int we]) ++ List.replicate (3 - (lg_sl ([.ref (g 0), .int fo, .int we])).length) Slot.unset).toArray = ls at hl ⊢
  have hl : lv_has ls 3 [(0, .ref (g 0)), (1, .int fo), (2, .int we)] := hl
  refine lv_aload_n hx hb dX6_thing_0 rfl (lv_at hl 0 rfl) ?_
  refine lv_iconst (v := 0) hx hb dX6_thing_1 (by decide) ?_
  refine va_put (D := D) (ci := 6) (v := .int 0) (ty := .int) (C := RX6) (T := TX6) (N := 23) hx hb hts hiX6 tyX6 tyX6_ok nmX6 hown hK.1 hP (mo_D hh) hS 0 rfl rfl 0 (by decide) kf59 (fun _ h9 => h9) rfl (by decide +kernel) rfl rfl (Nat.le_of_ble_eq_true rfl) dX6_thing_2 (fun H locs hP _ hS => ?_)
  have hP : va_P D kC (mo_W cI cJ g 0 (nI n) F Wt Sz Nu Pl Bf (nI b) (nI k) G Wk To Sl Sd (nI as) wo pa fa Fo) H := hP
  refine lv_iload_n hx hb dX6_thing_5 rfl (lv_at hl 1 rfl) ?_
  refine lv_iconst (v := 0) hx hb dX6_thing_6 (by decide) ?_
  refine lv_iconst (v := 3) hx hb dX6_thing_7 (by decide) ?_
  refine pu_callb (va_runS (As := [.int fo, .int 0, .int 3]) (rest := []) ⟨hx, hb, hml, hown, hts⟩ (c_X6_in fo 0 3) (cwS 3 hts gX6_thing_X6_in rfl rfl rfl (by decide +kernel) ⟨Nat.le_of_ble_eq_true rfl, Nat.le_of_ble_eq_true rfl⟩) (wd_preS hP hK) rfl rfl hl.1 rfl (lv_room (Nat.le_of_ble_eq_true rfl)) dX6_thing_8 ⟨Nat.zero_le _, Nat.zero_le _⟩) (fun c8 => ?_) (fun c8 => ?_)
  · skip
    refine lv_if_eq (tgt := 27) hx hb dX6_thing_11 (by decide) (fun h9 => absurd h9 (by decide)) (fun _ => ?_)
    refine lv_iload_n hx hb dX6_thing_14 rfl (lv_at hl 2 rfl) ?_
    refine lv_sipush (v := (-1000)) hx hb dX6_thing_15 (by decide) ?_
    refine lv_sipush (v := 1000) hx hb dX6_thing_18 (by decide) ?_
    refine pu_callb (va_runS (As := [.int we, .int (-1000), .int 1000]) (rest := []) ⟨hx, hb, hml, hown, hts⟩ (c_X6_in we (-1000) 1000) (cwS 3 hts gX6_thing_X6_in rfl rfl rfl (by decide +kernel) ⟨Nat.le_of_ble_eq_true rfl, Nat.le_of_ble_eq_true rfl⟩) (wd_preS hP hK) rfl rfl hl.1 rfl (lv_room (Nat.le_of_ble_eq_true rfl)) dX6_thing_21 ⟨Nat.zero_le _, Nat.zero_le _⟩) (fun c21 => ?_) (fun c21 => ?_)
    · skip
      exact (bb_f c8 c21 h1).elim
    · skip
      refine lv_if_ne (tgt := 30) hx hb dX6_thing_24 (by decide) (fun h9 => absurd (by decide) h9) (fun _ => ?_)
      refine lv_bipush (v := (-2)) hx hb dX6_thing_27 (by decide) ?_
      exact W.iret (v := (-2)) hx hb hr (fun t9 ht _ => ⟨congrArg (fun z => Outcome.returned (some (Value.int z))) (rfl), by rw [ht]; exact hP, hS.F ht⟩) hS.2.2 dX6_thing_29
  · skip
    refine lv_if_eq (tgt := 27) hx hb dX6_thing_11 (by decide) (fun _ => ?_) (fun h9 => absurd (by decide) h9)
    refine lv_bipush (v := (-2)) hx hb dX6_thing_27 (by decide) ?_
    exact W.iret (v := (-2)) hx hb hr (fun t9 ht _ => ⟨congrArg (fun z => Outcome.returned (some (Value.int z))) (rfl), by rw [ht]; exact hP, hS.F ht⟩) hS.2.2 dX6_thing_29
set_option maxHeartbeats 4000000 in
set_option maxRecDepth 100000 in
theorem c_X6_thing_f (hh : ad_ok g 16) (fo we : Int32) (h1 : q_in fo 0 3 = true) (h2 : q_in we (-1000) 1000 = true) (hn : n = 100) : Met l yX6_thing wsX6_thing ({ frames := 10, cells := 0, slots := 0, locals := 450 }) (wd_P D cI cJ [.ref (g 0), .int fo, .int we] (mo_W cI cJ g fx (nI n) F Wt Sz Nu Pl Bf (nI b) (nI k) G Wk To Sl Sd (nI as) wo pa fa Fo)) (mu_Q D (ad_A g 16) (some (.int (-4))) (mo_W cI cJ g 0 (nI n) F Wt Sz Nu Pl Bf (nI b) (nI k) G Wk To Sl Sd (nI as) wo pa fa Fo)) 0 0 (ad_A g 16) := by
  refine Met.ofW (cc := cX6_thing) (maxL := 3) (ret := (some .int)) (by decide) rfl ?_
  intro p e s m args below meth c s₁ B hml hv
  obtain ⟨rfl, hP, hK⟩ := hv
  have hx := B.exec
  have hb := B.bytes
  have hr := B.returns
  have hts := atoms_spec (ws := wsX6_thing) B.pre
  have hown : s.vm.findClass RX6 = some m.cls := findClass_of_methodNamed B.named
  have hlocks := B.notSynchronized
  have hiX6 : ∀ w ∈ u_ws RX6 TX6 23, w ∈ wsX6_thing := by decide +kernel
  have kf59 := hts (.fieldLink RX6 59 "SortingLineModel" "fault" "I") (by decide +kernel)
  have kf63 := hts (.fieldLink RX6 63 "SortingLineModel" "things" "I") (by decide +kernel)
  have hS : va_S (ad_A g 16) s.heap s.heap [] := va_S.rf
  have hl := lv_entry ([.ref (g 0), .int fo, .int we]) (n := 3) (Nat.le_of_ble_eq_true rfl)
  rw [lg_entry_eq]
  generalize (lg_sl ([.ref (g 0), .int fo, .int we]) ++ List.replicate (3 - (lg_sl ([.ref (g 0), .int fo, .int we])).length) Slot.unset).toArray = ls at hl ⊢
  have hl : lv_has ls 3 [(0, .ref (g 0)), (1, .int fo), (2, .int we)] := hl
  refine lv_aload_n hx hb dX6_thing_0 rfl (lv_at hl 0 rfl) ?_
  refine lv_iconst (v := 0) hx hb dX6_thing_1 (by decide) ?_
  refine va_put (D := D) (ci := 6) (v := .int 0) (ty := .int) (C := RX6) (T := TX6) (N := 23) hx hb hts hiX6 tyX6 tyX6_ok nmX6 hown hK.1 hP (mo_D hh) hS 0 rfl rfl 0 (by decide) kf59 (fun _ h9 => h9) rfl (by decide +kernel) rfl rfl (Nat.le_of_ble_eq_true rfl) dX6_thing_2 (fun H locs hP _ hS => ?_)
  have hP : va_P D kC (mo_W cI cJ g 0 (nI n) F Wt Sz Nu Pl Bf (nI b) (nI k) G Wk To Sl Sd (nI as) wo pa fa Fo) H := hP
  refine lv_iload_n hx hb dX6_thing_5 rfl (lv_at hl 1 rfl) ?_
  refine lv_iconst (v := 0) hx hb dX6_thing_6 (by decide) ?_
  refine lv_iconst (v := 3) hx hb dX6_thing_7 (by decide) ?_
  refine pu_callb (va_runS (As := [.int fo, .int 0, .int 3]) (rest := []) ⟨hx, hb, hml, hown, hts⟩ (c_X6_in fo 0 3) (cwS 3 hts gX6_thing_X6_in rfl rfl rfl (by decide +kernel) ⟨Nat.le_of_ble_eq_true rfl, Nat.le_of_ble_eq_true rfl⟩) (wd_preS hP hK) rfl rfl hl.1 rfl (lv_room (Nat.le_of_ble_eq_true rfl)) dX6_thing_8 ⟨Nat.zero_le _, Nat.zero_le _⟩) (fun _ => ?_) (fun h9 => absurd (h1) (by rw [h9]; decide))
  refine lv_if_eq (tgt := 27) hx hb dX6_thing_11 (by decide) (fun h9 => absurd h9 (by decide)) (fun _ => ?_)
  refine lv_iload_n hx hb dX6_thing_14 rfl (lv_at hl 2 rfl) ?_
  refine lv_sipush (v := (-1000)) hx hb dX6_thing_15 (by decide) ?_
  refine lv_sipush (v := 1000) hx hb dX6_thing_18 (by decide) ?_
  refine pu_callb (va_runS (As := [.int we, .int (-1000), .int 1000]) (rest := []) ⟨hx, hb, hml, hown, hts⟩ (c_X6_in we (-1000) 1000) (cwS 3 hts gX6_thing_X6_in rfl rfl rfl (by decide +kernel) ⟨Nat.le_of_ble_eq_true rfl, Nat.le_of_ble_eq_true rfl⟩) (wd_preS hP hK) rfl rfl hl.1 rfl (lv_room (Nat.le_of_ble_eq_true rfl)) dX6_thing_21 ⟨Nat.zero_le _, Nat.zero_le _⟩) (fun _ => ?_) (fun h9 => absurd (h2) (by rw [h9]; decide))
  refine lv_if_ne (tgt := 30) hx hb dX6_thing_24 (by decide) (fun _ => ?_) (fun h9 => absurd h9 (by decide))
  refine lv_aload_n hx hb dX6_thing_30 rfl (lv_at hl 0 rfl) ?_
  refine va_get (D := D) (ci := 6) (v := .int (nI n)) (C := RX6) (T := TX6) (N := 23) hx hb hts hiX6 hown hK.1 hP 0 rfl rfl 1 (by decide) kf63 (fun _ h9 => h9) rfl dX6_thing_31 ?_
  refine lv_bipush (v := 100) hx hb dX6_thing_34 (by decide) ?_
  refine lv_icmp_ne (tgt := 44) hx hb dX6_thing_36 (by decide) (fun h9 => absurd (show nI n = 100 by rw [hn]; rfl) h9) (fun _ => ?_)
  refine lv_bipush (v := (-4)) hx hb dX6_thing_39 (by decide) ?_
  refine lv_goto (tgt := 51) hx hb dX6_thing_41 (by decide) ?_
  exact W.iret (v := (-4)) hx hb hr (fun t9 ht _ => ⟨congrArg (fun z => Outcome.returned (some (Value.int z))) (rfl), by rw [ht]; exact hP, hS.F ht⟩) hS.2.2 dX6_thing_51
set_option maxHeartbeats 4000000 in
set_option maxRecDepth 100000 in
theorem c_X6_thing_a (hh : ad_ok g 16) (fo we : Int32) (h1 : q_in fo 0 3 = true) (h2 : q_in we (-1000) 1000 = true) (hn : n < 100) : Met l yX6_thing wsX6_thing ({ frames := 10, cells := 0, slots := 0, locals := 450 }) (wd_P D cI cJ [.ref (g 0), .int fo, .int we] (mo_W cI cJ g fx (nI n) F Wt Sz Nu Pl Bf (nI b) (nI k) G Wk To Sl Sd (nI as) wo pa fa Fo)) (mu_Q D (ad_A g 16) (some (.int (nI n))) (mo_W cI cJ g 0 (nI (n + 1)) (upd F n fo) (upd Wt n we) (upd Sz n 0) (z8L Nu (8 * n) 0) (z8I Pl (8 * n) (-1)) Bf (nI b) (nI k) G Wk To Sl Sd (nI as) wo pa fa Fo)) 0 0 (ad_A g 16) := by
  refine Met.ofW (cc := cX6_thing) (maxL := 3) (ret := (some .int)) (by decide) rfl ?_
  intro p e s m args below meth c s₁ B hml hv
  obtain ⟨rfl, hP, hK⟩ := hv
  have hx := B.exec
  have hb := B.bytes
  have hr := B.returns
  have hts := atoms_spec (ws := wsX6_thing) B.pre
  have hown : s.vm.findClass RX6 = some m.cls := findClass_of_methodNamed B.named
  have hlocks := B.notSynchronized
  have hiX6 : ∀ w ∈ u_ws RX6 TX6 23, w ∈ wsX6_thing := by decide +kernel
  have kf59 := hts (.fieldLink RX6 59 "SortingLineModel" "fault" "I") (by decide +kernel)
  have kf63 := hts (.fieldLink RX6 63 "SortingLineModel" "things" "I") (by decide +kernel)
  have hS : va_S (ad_A g 16) s.heap s.heap [] := va_S.rf
  have hl := lv_entry ([.ref (g 0), .int fo, .int we]) (n := 3) (Nat.le_of_ble_eq_true rfl)
  rw [lg_entry_eq]
  generalize (lg_sl ([.ref (g 0), .int fo, .int we]) ++ List.replicate (3 - (lg_sl ([.ref (g 0), .int fo, .int we])).length) Slot.unset).toArray = ls at hl ⊢
  have hl : lv_has ls 3 [(0, .ref (g 0)), (1, .int fo), (2, .int we)] := hl
  refine lv_aload_n hx hb dX6_thing_0 rfl (lv_at hl 0 rfl) ?_
  refine lv_iconst (v := 0) hx hb dX6_thing_1 (by decide) ?_
  refine va_put (D := D) (ci := 6) (v := .int 0) (ty := .int) (C := RX6) (T := TX6) (N := 23) hx hb hts hiX6 tyX6 tyX6_ok nmX6 hown hK.1 hP (mo_D hh) hS 0 rfl rfl 0 (by decide) kf59 (fun _ h9 => h9) rfl (by decide +kernel) rfl rfl (Nat.le_of_ble_eq_true rfl) dX6_thing_2 (fun H locs hP _ hS => ?_)
  have hP : va_P D kC (mo_W cI cJ g 0 (nI n) F Wt Sz Nu Pl Bf (nI b) (nI k) G Wk To Sl Sd (nI as) wo pa fa Fo) H := hP
  refine lv_iload_n hx hb dX6_thing_5 rfl (lv_at hl 1 rfl) ?_
  refine lv_iconst (v := 0) hx hb dX6_thing_6 (by decide) ?_
  refine lv_iconst (v := 3) hx hb dX6_thing_7 (by decide) ?_
  refine pu_callb (va_runS (As := [.int fo, .int 0, .int 3]) (rest := []) ⟨hx, hb, hml, hown, hts⟩ (c_X6_in fo 0 3) (cwS 3 hts gX6_thing_X6_in rfl rfl rfl (by decide +kernel) ⟨Nat.le_of_ble_eq_true rfl, Nat.le_of_ble_eq_true rfl⟩) (wd_preS hP hK) rfl rfl hl.1 rfl (lv_room (Nat.le_of_ble_eq_true rfl)) dX6_thing_8 ⟨Nat.zero_le _, Nat.zero_le _⟩) (fun _ => ?_) (fun h9 => absurd (h1) (by rw [h9]; decide))
  refine lv_if_eq (tgt := 27) hx hb dX6_thing_11 (by decide) (fun h9 => absurd h9 (by decide)) (fun _ => ?_)
  refine lv_iload_n hx hb dX6_thing_14 rfl (lv_at hl 2 rfl) ?_
  refine lv_sipush (v := (-1000)) hx hb dX6_thing_15 (by decide) ?_
  refine lv_sipush (v := 1000) hx hb dX6_thing_18 (by decide) ?_
  refine pu_callb (va_runS (As := [.int we, .int (-1000), .int 1000]) (rest := []) ⟨hx, hb, hml, hown, hts⟩ (c_X6_in we (-1000) 1000) (cwS 3 hts gX6_thing_X6_in rfl rfl rfl (by decide +kernel) ⟨Nat.le_of_ble_eq_true rfl, Nat.le_of_ble_eq_true rfl⟩) (wd_preS hP hK) rfl rfl hl.1 rfl (lv_room (Nat.le_of_ble_eq_true rfl)) dX6_thing_21 ⟨Nat.zero_le _, Nat.zero_le _⟩) (fun _ => ?_) (fun h9 => absurd (h2) (by rw [h9]; decide))
  refine lv_if_ne (tgt := 30) hx hb dX6_thing_24 (by decide) (fun _ => ?_) (fun h9 => absurd h9 (by decide))
  refine lv_aload_n hx hb dX6_thing_30 rfl (lv_at hl 0 rfl) ?_
  refine va_get (D := D) (ci := 6) (v := .int (nI n)) (C := RX6) (T := TX6) (N := 23) hx hb hts hiX6 hown hK.1 hP 0 rfl rfl 1 (by decide) kf63 (fun _ h9 => h9) rfl dX6_thing_31 ?_
  refine lv_bipush (v := 100) hx hb dX6_thing_34 (by decide) ?_
  refine lv_icmp_ne (tgt := 44) hx hb dX6_thing_36 (by decide) (fun _ => ?_) (fun h9 => absurd h9 (fun h9 => absurd ((nI_eq (a := n) (b := 100) (by omega) (by omega)).mp h9) (by omega)))
  refine lv_aload_n hx hb dX6_thing_44 rfl (lv_at hl 0 rfl) ?_
  refine lv_iload_n hx hb dX6_thing_45 rfl (lv_at hl 1 rfl) ?_
  refine lv_iload_n hx hb dX6_thing_46 rfl (lv_at hl 2 rfl) ?_
  refine lv_iconst (v := 0) hx hb dX6_thing_47 (by decide) ?_
  refine mu_calli (va_runV (As := [.int fo, .int we, .int 0]) (rest := []) ⟨hx, hb, hml, hown, hts⟩ (c_X6_adds hh hn fo we 0) (cwV 3 hts gX6_thing_X6_adds rfl rfl rfl (by decide +kernel) ⟨Nat.le_of_ble_eq_true rfl, Nat.le_of_ble_eq_true rfl⟩) (wd_preV (ci := 6) (q0 := 0) hP hK rfl rfl) rfl rfl hl.1 rfl (lv_room (Nat.le_of_ble_eq_true rfl)) dX6_thing_48 ⟨Nat.zero_le _, Nat.zero_le _⟩) hS (fun H locs hP hS => ?_)
  have hP : va_P D kC (mo_W cI cJ g 0 (nI (n + 1)) (upd F n fo) (upd Wt n we) (upd Sz n 0) (z8L Nu (8 * n) 0) (z8I Pl (8 * n) (-1)) Bf (nI b) (nI k) G Wk To Sl Sd (nI as) wo pa fa Fo) H := hP
  exact W.iret (v := nI n) hx hb hr (fun t9 ht _ => ⟨congrArg (fun z => Outcome.returned (some (Value.int z))) (rfl), by rw [ht]; exact hP, hS.F ht⟩) hS.2.2 dX6_thing_51
set_option maxHeartbeats 4000000 in
set_option maxRecDepth 100000 in
theorem c_X6_row_o (hh : ad_ok g 16) (fo nn : Int32) (h1 : (q_in fo 4 15 && decide (nn ≤ 8)) = false) : Met l yX6_row wsX6_row ({ frames := 10, cells := 0, slots := 0, locals := 450 }) (wd_P D cI cJ [.ref (g 0), .int fo, .int nn] (mo_W cI cJ g fx (nI n) F Wt Sz Nu Pl Bf (nI b) (nI k) G Wk To Sl Sd (nI as) wo pa fa Fo)) (mu_Q D (ad_A g 16) (some (.int (-2))) (mo_W cI cJ g 0 (nI n) F Wt Sz Nu Pl Bf (nI b) (nI k) G Wk To Sl Sd (nI as) wo pa fa Fo)) 0 0 (ad_A g 16) := by
  refine Met.ofW (cc := cX6_row) (maxL := 3) (ret := (some .int)) (by decide) rfl ?_
  intro p e s m args below meth c s₁ B hml hv
  obtain ⟨rfl, hP, hK⟩ := hv
  have hx := B.exec
  have hb := B.bytes
  have hr := B.returns
  have hts := atoms_spec (ws := wsX6_row) B.pre
  have hown : s.vm.findClass RX6 = some m.cls := findClass_of_methodNamed B.named
  have hlocks := B.notSynchronized
  have hiX6 : ∀ w ∈ u_ws RX6 TX6 23, w ∈ wsX6_row := by decide +kernel
  have kf59 := hts (.fieldLink RX6 59 "SortingLineModel" "fault" "I") (by decide +kernel)
  have hS : va_S (ad_A g 16) s.heap s.heap [] := va_S.rf
  have hl := lv_entry ([.ref (g 0), .int fo, .int nn]) (n := 3) (Nat.le_of_ble_eq_true rfl)
  rw [lg_entry_eq]
  generalize (lg_sl ([.ref (g 0), .int fo, .int nn]) ++ List.replicate (3 - (lg_sl ([.ref (g 0), .int fo, .int nn])).length) Slot.unset).toArray = ls at hl ⊢
  have hl : lv_has ls 3 [(0, .ref (g 0)), (1, .int fo), (2, .int nn)] := hl
  refine lv_aload_n hx hb dX6_row_0 rfl (lv_at hl 0 rfl) ?_
  refine lv_iconst (v := 0) hx hb dX6_row_1 (by decide) ?_
  refine va_put (D := D) (ci := 6) (v := .int 0) (ty := .int) (C := RX6) (T := TX6) (N := 23) hx hb hts hiX6 tyX6 tyX6_ok nmX6 hown hK.1 hP (mo_D hh) hS 0 rfl rfl 0 (by decide) kf59 (fun _ h9 => h9) rfl (by decide +kernel) rfl rfl (Nat.le_of_ble_eq_true rfl) dX6_row_2 (fun H locs hP _ hS => ?_)
  have hP : va_P D kC (mo_W cI cJ g 0 (nI n) F Wt Sz Nu Pl Bf (nI b) (nI k) G Wk To Sl Sd (nI as) wo pa fa Fo) H := hP
  refine lv_iload_n hx hb dX6_row_5 rfl (lv_at hl 1 rfl) ?_
  refine lv_iconst (v := 4) hx hb dX6_row_6 (by decide) ?_
  refine lv_bipush (v := 15) hx hb dX6_row_7 (by decide) ?_
  refine pu_callb (va_runS (As := [.int fo, .int 4, .int 15]) (rest := []) ⟨hx, hb, hml, hown, hts⟩ (c_X6_in fo 4 15) (cwS 3 hts gX6_row_X6_in rfl rfl rfl (by decide +kernel) ⟨Nat.le_of_ble_eq_true rfl, Nat.le_of_ble_eq_true rfl⟩) (wd_preS hP hK) rfl rfl hl.1 rfl (lv_room (Nat.le_of_ble_eq_true rfl)) dX6_row_9 ⟨Nat.zero_le _, Nat.zero_le _⟩) (fun c9 => ?_) (fun c9 => ?_)
  · skip
    refine lv_if_eq (tgt := 21) hx hb dX6_row_12 (by decide) (fun h9 => absurd h9 (by decide)) (fun _ => ?_)
    refine lv_iload_n hx hb dX6_row_15 rfl (lv_at hl 2 rfl) ?_
    refine lv_bipush (v := 8) hx hb dX6_row_16 (by decide) ?_
    refine lv_icmp_le (tgt := 24) hx hb dX6_row_18 (by decide) (fun c18 => ?_) (fun c18 => ?_)
    · skip
      exact (bb_f c9 (decide_eq_true c18) h1).elim
    · skip
      refine lv_bipush (v := (-2)) hx hb dX6_row_21 (by decide) ?_
      exact W.iret (v := (-2)) hx hb hr (fun t9 ht _ => ⟨congrArg (fun z => Outcome.returned (some (Value.int z))) (rfl), by rw [ht]; exact hP, hS.F ht⟩) hS.2.2 dX6_row_23
  · skip
    refine lv_if_eq (tgt := 21) hx hb dX6_row_12 (by decide) (fun _ => ?_) (fun h9 => absurd (by decide) h9)
    refine lv_bipush (v := (-2)) hx hb dX6_row_21 (by decide) ?_
    exact W.iret (v := (-2)) hx hb hr (fun t9 ht _ => ⟨congrArg (fun z => Outcome.returned (some (Value.int z))) (rfl), by rw [ht]; exact hP, hS.F ht⟩) hS.2.2 dX6_row_23
set_option maxHeartbeats 4000000 in
set_option maxRecDepth 100000 in
theorem c_X6_row_f (hh : ad_ok g 16) (fo nn : Int32) (h1 : q_in fo 4 15 = true) (h2 : nn ≤ 8) (hn : n = 100) : Met l yX6_row wsX6_row ({ frames := 10, cells := 0, slots := 0, locals := 450 }) (wd_P D cI cJ [.ref (g 0), .int fo, .int nn] (mo_W cI cJ g fx (nI n) F Wt Sz Nu Pl Bf (nI b) (nI k) G Wk To Sl Sd (nI as) wo pa fa Fo)) (mu_Q D (ad_A g 16) (some (.int (-4))) (mo_W cI cJ g 0 (nI n) F Wt Sz Nu Pl Bf (nI b) (nI k) G Wk To Sl Sd (nI as) wo pa fa Fo)) 0 0 (ad_A g 16) := by
  refine Met.ofW (cc := cX6_row) (maxL := 3) (ret := (some .int)) (by decide) rfl ?_
  intro p e s m args below meth c s₁ B hml hv
  obtain ⟨rfl, hP, hK⟩ := hv
  have hx := B.exec
  have hb := B.bytes
  have hr := B.returns
  have hts := atoms_spec (ws := wsX6_row) B.pre
  have hown : s.vm.findClass RX6 = some m.cls := findClass_of_methodNamed B.named
  have hlocks := B.notSynchronized
  have hiX6 : ∀ w ∈ u_ws RX6 TX6 23, w ∈ wsX6_row := by decide +kernel
  have kf59 := hts (.fieldLink RX6 59 "SortingLineModel" "fault" "I") (by decide +kernel)
  have kf63 := hts (.fieldLink RX6 63 "SortingLineModel" "things" "I") (by decide +kernel)
  have hS : va_S (ad_A g 16) s.heap s.heap [] := va_S.rf
  have hl := lv_entry ([.ref (g 0), .int fo, .int nn]) (n := 3) (Nat.le_of_ble_eq_true rfl)
  rw [lg_entry_eq]
  generalize (lg_sl ([.ref (g 0), .int fo, .int nn]) ++ List.replicate (3 - (lg_sl ([.ref (g 0), .int fo, .int nn])).length) Slot.unset).toArray = ls at hl ⊢
  have hl : lv_has ls 3 [(0, .ref (g 0)), (1, .int fo), (2, .int nn)] := hl
  refine lv_aload_n hx hb dX6_row_0 rfl (lv_at hl 0 rfl) ?_
  refine lv_iconst (v := 0) hx hb dX6_row_1 (by decide) ?_
  refine va_put (D := D) (ci := 6) (v := .int 0) (ty := .int) (C := RX6) (T := TX6) (N := 23) hx hb hts hiX6 tyX6 tyX6_ok nmX6 hown hK.1 hP (mo_D hh) hS 0 rfl rfl 0 (by decide) kf59 (fun _ h9 => h9) rfl (by decide +kernel) rfl rfl (Nat.le_of_ble_eq_true rfl) dX6_row_2 (fun H locs hP _ hS => ?_)
  have hP : va_P D kC (mo_W cI cJ g 0 (nI n) F Wt Sz Nu Pl Bf (nI b) (nI k) G Wk To Sl Sd (nI as) wo pa fa Fo) H := hP
  refine lv_iload_n hx hb dX6_row_5 rfl (lv_at hl 1 rfl) ?_
  refine lv_iconst (v := 4) hx hb dX6_row_6 (by decide) ?_
  refine lv_bipush (v := 15) hx hb dX6_row_7 (by decide) ?_
  refine pu_callb (va_runS (As := [.int fo, .int 4, .int 15]) (rest := []) ⟨hx, hb, hml, hown, hts⟩ (c_X6_in fo 4 15) (cwS 3 hts gX6_row_X6_in rfl rfl rfl (by decide +kernel) ⟨Nat.le_of_ble_eq_true rfl, Nat.le_of_ble_eq_true rfl⟩) (wd_preS hP hK) rfl rfl hl.1 rfl (lv_room (Nat.le_of_ble_eq_true rfl)) dX6_row_9 ⟨Nat.zero_le _, Nat.zero_le _⟩) (fun _ => ?_) (fun h9 => absurd (h1) (by rw [h9]; decide))
  refine lv_if_eq (tgt := 21) hx hb dX6_row_12 (by decide) (fun h9 => absurd h9 (by decide)) (fun _ => ?_)
  refine lv_iload_n hx hb dX6_row_15 rfl (lv_at hl 2 rfl) ?_
  refine lv_bipush (v := 8) hx hb dX6_row_16 (by decide) ?_
  refine lv_icmp_le (tgt := 24) hx hb dX6_row_18 (by decide) (fun _ => ?_) (fun h9 => absurd (h2) h9)
  refine lv_aload_n hx hb dX6_row_24 rfl (lv_at hl 0 rfl) ?_
  refine va_get (D := D) (ci := 6) (v := .int (nI n)) (C := RX6) (T := TX6) (N := 23) hx hb hts hiX6 hown hK.1 hP 0 rfl rfl 1 (by decide) kf63 (fun _ h9 => h9) rfl dX6_row_25 ?_
  refine lv_bipush (v := 100) hx hb dX6_row_28 (by decide) ?_
  refine lv_icmp_ne (tgt := 36) hx hb dX6_row_30 (by decide) (fun h9 => absurd (show nI n = 100 by rw [hn]; rfl) h9) (fun _ => ?_)
  refine lv_bipush (v := (-4)) hx hb dX6_row_33 (by decide) ?_
  exact W.iret (v := (-4)) hx hb hr (fun t9 ht _ => ⟨congrArg (fun z => Outcome.returned (some (Value.int z))) (rfl), by rw [ht]; exact hP, hS.F ht⟩) hS.2.2 dX6_row_35
set_option maxHeartbeats 4000000 in
set_option maxRecDepth 100000 in
theorem c_X6_row_s (hh : ad_ok g 16) (fo nn : Int32) (h1 : q_in fo 4 15 = true) (h2 : nn ≤ 8) (hn : n < 100) (h3 : nn < 0) : Met l yX6_row wsX6_row ({ frames := 10, cells := 0, slots := 0, locals := 450 }) (wd_P D cI cJ [.ref (g 0), .int fo, .int nn] (mo_W cI cJ g fx (nI n) F Wt Sz Nu Pl Bf (nI b) (nI k) G Wk To Sl Sd (nI as) wo pa fa Fo)) (mu_Q D (ad_A g 16) (some (.int (-25))) (mo_W cI cJ g 0 (nI n) F Wt Sz Nu Pl Bf (nI b) (nI k) G Wk To Sl Sd (nI as) wo pa fa (upd Fo 5 (Fo 5 + 1)))) 0 0 (ad_A g 16) := by
  refine Met.ofW (cc := cX6_row) (maxL := 3) (ret := (some .int)) (by decide) rfl ?_
  intro p e s m args below meth c s₁ B hml hv
  obtain ⟨rfl, hP, hK⟩ := hv
  have hx := B.exec
  have hb := B.bytes
  have hr := B.returns
  have hts := atoms_spec (ws := wsX6_row) B.pre
  have hown : s.vm.findClass RX6 = some m.cls := findClass_of_methodNamed B.named
  have hlocks := B.notSynchronized
  have hiX6 : ∀ w ∈ u_ws RX6 TX6 23, w ∈ wsX6_row := by decide +kernel
  have kf59 := hts (.fieldLink RX6 59 "SortingLineModel" "fault" "I") (by decide +kernel)
  have kf63 := hts (.fieldLink RX6 63 "SortingLineModel" "things" "I") (by decide +kernel)
  have hS : va_S (ad_A g 16) s.heap s.heap [] := va_S.rf
  have hl := lv_entry ([.ref (g 0), .int fo, .int nn]) (n := 3) (Nat.le_of_ble_eq_true rfl)
  rw [lg_entry_eq]
  generalize (lg_sl ([.ref (g 0), .int fo, .int nn]) ++ List.replicate (3 - (lg_sl ([.ref (g 0), .int fo, .int nn])).length) Slot.unset).toArray = ls at hl ⊢
  have hl : lv_has ls 3 [(0, .ref (g 0)), (1, .int fo), (2, .int nn)] := hl
  refine lv_aload_n hx hb dX6_row_0 rfl (lv_at hl 0 rfl) ?_
  refine lv_iconst (v := 0) hx hb dX6_row_1 (by decide) ?_
  refine va_put (D := D) (ci := 6) (v := .int 0) (ty := .int) (C := RX6) (T := TX6) (N := 23) hx hb hts hiX6 tyX6 tyX6_ok nmX6 hown hK.1 hP (mo_D hh) hS 0 rfl rfl 0 (by decide) kf59 (fun _ h9 => h9) rfl (by decide +kernel) rfl rfl (Nat.le_of_ble_eq_true rfl) dX6_row_2 (fun H locs hP _ hS => ?_)
  have hP : va_P D kC (mo_W cI cJ g 0 (nI n) F Wt Sz Nu Pl Bf (nI b) (nI k) G Wk To Sl Sd (nI as) wo pa fa Fo) H := hP
  refine lv_iload_n hx hb dX6_row_5 rfl (lv_at hl 1 rfl) ?_
  refine lv_iconst (v := 4) hx hb dX6_row_6 (by decide) ?_
  refine lv_bipush (v := 15) hx hb dX6_row_7 (by decide) ?_
  refine pu_callb (va_runS (As := [.int fo, .int 4, .int 15]) (rest := []) ⟨hx, hb, hml, hown, hts⟩ (c_X6_in fo 4 15) (cwS 3 hts gX6_row_X6_in rfl rfl rfl (by decide +kernel) ⟨Nat.le_of_ble_eq_true rfl, Nat.le_of_ble_eq_true rfl⟩) (wd_preS hP hK) rfl rfl hl.1 rfl (lv_room (Nat.le_of_ble_eq_true rfl)) dX6_row_9 ⟨Nat.zero_le _, Nat.zero_le _⟩) (fun _ => ?_) (fun h9 => absurd (h1) (by rw [h9]; decide))
  refine lv_if_eq (tgt := 21) hx hb dX6_row_12 (by decide) (fun h9 => absurd h9 (by decide)) (fun _ => ?_)
  refine lv_iload_n hx hb dX6_row_15 rfl (lv_at hl 2 rfl) ?_
  refine lv_bipush (v := 8) hx hb dX6_row_16 (by decide) ?_
  refine lv_icmp_le (tgt := 24) hx hb dX6_row_18 (by decide) (fun _ => ?_) (fun h9 => absurd (h2) h9)
  refine lv_aload_n hx hb dX6_row_24 rfl (lv_at hl 0 rfl) ?_
  refine va_get (D := D) (ci := 6) (v := .int (nI n)) (C := RX6) (T := TX6) (N := 23) hx hb hts hiX6 hown hK.1 hP 0 rfl rfl 1 (by decide) kf63 (fun _ h9 => h9) rfl dX6_row_25 ?_
  refine lv_bipush (v := 100) hx hb dX6_row_28 (by decide) ?_
  refine lv_icmp_ne (tgt := 36) hx hb dX6_row_30 (by decide) (fun _ => ?_) (fun h9 => absurd h9 (fun h9 => absurd ((nI_eq (a := n) (b := 100) (by omega) (by omega)).mp h9) (by omega)))
  refine lv_iload_n hx hb dX6_row_36 rfl (lv_at hl 2 rfl) ?_
  refine lv_if_ge (tgt := 48) hx hb dX6_row_37 (by decide) (fun h9 => absurd h9 (i_lt h3)) (fun _ => ?_)
  refine lv_aload_n hx hb dX6_row_40 rfl (lv_at hl 0 rfl) ?_
  refine lv_iconst (v := 5) hx hb dX6_row_41 (by decide) ?_
  refine mu_calli (va_runV (As := [.int 5]) (rest := []) ⟨hx, hb, hml, hown, hts⟩ (c_X6_found hh 5 (by omega) (by omega)) (cwV 1 hts gX6_row_X6_found rfl rfl rfl (by decide +kernel) ⟨Nat.le_of_ble_eq_true rfl, Nat.le_of_ble_eq_true rfl⟩) (wd_preV (ci := 6) (q0 := 0) hP hK rfl rfl) rfl rfl hl.1 rfl (lv_room (Nat.le_of_ble_eq_true rfl)) dX6_row_42 ⟨Nat.zero_le _, Nat.zero_le _⟩) hS (fun H locs hP hS => ?_)
  have hP : va_P D kC (mo_W cI cJ g 0 (nI n) F Wt Sz Nu Pl Bf (nI b) (nI k) G Wk To Sl Sd (nI as) wo pa fa (upd Fo 5 (Fo 5 + 1))) H := hP
  refine tp_i (y := (-25)) (by decide) ?_
  refine lv_goto (tgt := 55) hx hb dX6_row_45 (by decide) ?_
  exact W.iret (v := (-25)) hx hb hr (fun t9 ht _ => ⟨congrArg (fun z => Outcome.returned (some (Value.int z))) (rfl), by rw [ht]; exact hP, hS.F ht⟩) hS.2.2 dX6_row_55
set_option maxHeartbeats 4000000 in
set_option maxRecDepth 100000 in
theorem c_X6_row_a (hh : ad_ok g 16) (fo nn : Int32) (h1 : q_in fo 4 15 = true) (h2 : nn ≤ 8) (hn : n < 100) (h3 : ¬ nn < 0) : Met l yX6_row wsX6_row ({ frames := 10, cells := 0, slots := 0, locals := 450 }) (wd_P D cI cJ [.ref (g 0), .int fo, .int nn] (mo_W cI cJ g fx (nI n) F Wt Sz Nu Pl Bf (nI b) (nI k) G Wk To Sl Sd (nI as) wo pa fa Fo)) (mu_Q D (ad_A g 16) (some (.int (nI n))) (mo_W cI cJ g 0 (nI (n + 1)) (upd F n fo) (upd Wt n 0) (upd Sz n nn) (z8L Nu (8 * n) 0) (z8I Pl (8 * n) (-1)) Bf (nI b) (nI k) G Wk To Sl Sd (nI as) wo pa fa Fo)) 0 0 (ad_A g 16) := by
  refine Met.ofW (cc := cX6_row) (maxL := 3) (ret := (some .int)) (by decide) rfl ?_
  intro p e s m args below meth c s₁ B hml hv
  obtain ⟨rfl, hP, hK⟩ := hv
  have hx := B.exec
  have hb := B.bytes
  have hr := B.returns
  have hts := atoms_spec (ws := wsX6_row) B.pre
  have hown : s.vm.findClass RX6 = some m.cls := findClass_of_methodNamed B.named
  have hlocks := B.notSynchronized
  have hiX6 : ∀ w ∈ u_ws RX6 TX6 23, w ∈ wsX6_row := by decide +kernel
  have kf59 := hts (.fieldLink RX6 59 "SortingLineModel" "fault" "I") (by decide +kernel)
  have kf63 := hts (.fieldLink RX6 63 "SortingLineModel" "things" "I") (by decide +kernel)
  have hS : va_S (ad_A g 16) s.heap s.heap [] := va_S.rf
  have hl := lv_entry ([.ref (g 0), .int fo, .int nn]) (n := 3) (Nat.le_of_ble_eq_true rfl)
  rw [lg_entry_eq]
  generalize (lg_sl ([.ref (g 0), .int fo, .int nn]) ++ List.replicate (3 - (lg_sl ([.ref (g 0), .int fo, .int nn])).length) Slot.unset).toArray = ls at hl ⊢
  have hl : lv_has ls 3 [(0, .ref (g 0)), (1, .int fo), (2, .int nn)] := hl
  refine lv_aload_n hx hb dX6_row_0 rfl (lv_at hl 0 rfl) ?_
  refine lv_iconst (v := 0) hx hb dX6_row_1 (by decide) ?_
  refine va_put (D := D) (ci := 6) (v := .int 0) (ty := .int) (C := RX6) (T := TX6) (N := 23) hx hb hts hiX6 tyX6 tyX6_ok nmX6 hown hK.1 hP (mo_D hh) hS 0 rfl rfl 0 (by decide) kf59 (fun _ h9 => h9) rfl (by decide +kernel) rfl rfl (Nat.le_of_ble_eq_true rfl) dX6_row_2 (fun H locs hP _ hS => ?_)
  have hP : va_P D kC (mo_W cI cJ g 0 (nI n) F Wt Sz Nu Pl Bf (nI b) (nI k) G Wk To Sl Sd (nI as) wo pa fa Fo) H := hP
  refine lv_iload_n hx hb dX6_row_5 rfl (lv_at hl 1 rfl) ?_
  refine lv_iconst (v := 4) hx hb dX6_row_6 (by decide) ?_
  refine lv_bipush (v := 15) hx hb dX6_row_7 (by decide) ?_
  refine pu_callb (va_runS (As := [.int fo, .int 4, .int 15]) (rest := []) ⟨hx, hb, hml, hown, hts⟩ (c_X6_in fo 4 15) (cwS 3 hts gX6_row_X6_in rfl rfl rfl (by decide +kernel) ⟨Nat.le_of_ble_eq_true rfl, Nat.le_of_ble_eq_true rfl⟩) (wd_preS hP hK) rfl rfl hl.1 rfl (lv_room (Nat.le_of_ble_eq_true rfl)) dX6_row_9 ⟨Nat.zero_le _, Nat.zero_le _⟩) (fun _ => ?_) (fun h9 => absurd (h1) (by rw [h9]; decide))
  refine lv_if_eq (tgt := 21) hx hb dX6_row_12 (by decide) (fun h9 => absurd h9 (by decide)) (fun _ => ?_)
  refine lv_iload_n hx hb dX6_row_15 rfl (lv_at hl 2 rfl) ?_
  refine lv_bipush (v := 8) hx hb dX6_row_16 (by decide) ?_
  refine lv_icmp_le (tgt := 24) hx hb dX6_row_18 (by decide) (fun _ => ?_) (fun h9 => absurd (h2) h9)
  refine lv_aload_n hx hb dX6_row_24 rfl (lv_at hl 0 rfl) ?_
  refine va_get (D := D) (ci := 6) (v := .int (nI n)) (C := RX6) (T := TX6) (N := 23) hx hb hts hiX6 hown hK.1 hP 0 rfl rfl 1 (by decide) kf63 (fun _ h9 => h9) rfl dX6_row_25 ?_
  refine lv_bipush (v := 100) hx hb dX6_row_28 (by decide) ?_
  refine lv_icmp_ne (tgt := 36) hx hb dX6_row_30 (by decide) (fun _ => ?_) (fun h9 => absurd h9 (fun h9 => absurd ((nI_eq (a := n) (b := 100) (by omega) (by omega)).mp h9) (by omega)))
  refine lv_iload_n hx hb dX6_row_36 rfl (lv_at hl 2 rfl) ?_
  refine lv_if_ge (tgt := 48) hx hb dX6_row_37 (by decide) (fun _ => ?_) (fun h9 => absurd (i_nlt h3) h9)
  refine lv_aload_n hx hb dX6_row_48 rfl (lv_at hl 0 rfl) ?_
  refine lv_iload_n hx hb dX6_row_49 rfl (lv_at hl 1 rfl) ?_
  refine lv_iconst (v := 0) hx hb dX6_row_50 (by decide) ?_
  refine lv_iload_n hx hb dX6_row_51 rfl (lv_at hl 2 rfl) ?_
  refine mu_calli (va_runV (As := [.int fo, .int 0, .int nn]) (rest := []) ⟨hx, hb, hml, hown, hts⟩ (c_X6_adds hh hn fo 0 nn) (cwV 3 hts gX6_row_X6_adds rfl rfl rfl (by decide +kernel) ⟨Nat.le_of_ble_eq_true rfl, Nat.le_of_ble_eq_true rfl⟩) (wd_preV (ci := 6) (q0 := 0) hP hK rfl rfl) rfl rfl hl.1 rfl (lv_room (Nat.le_of_ble_eq_true rfl)) dX6_row_52 ⟨Nat.zero_le _, Nat.zero_le _⟩) hS (fun H locs hP hS => ?_)
  have hP : va_P D kC (mo_W cI cJ g 0 (nI (n + 1)) (upd F n fo) (upd Wt n 0) (upd Sz n nn) (z8L Nu (8 * n) 0) (z8I Pl (8 * n) (-1)) Bf (nI b) (nI k) G Wk To Sl Sd (nI as) wo pa fa Fo) H := hP
  exact W.iret (v := nI n) hx hb hr (fun t9 ht _ => ⟨congrArg (fun z => Outcome.returned (some (Value.int z))) (rfl), by rw [ht]; exact hP, hS.F ht⟩) hS.2.2 dX6_row_55
set_option maxHeartbeats 4000000 in
set_option maxRecDepth 100000 in
theorem c_X6_is_u (hh : ad_ok g 16) (hn : n ≤ 100) (t kd : Int32) (h1 : p_in t (nI n) = false) : Met l yX6_is wsX6_is ({ frames := 10, cells := 0, slots := 0, locals := 450 }) (wd_P D cI cJ [.ref (g 0), .int t, .int kd] (mo_W cI cJ g fx (nI n) F Wt Sz Nu Pl Bf (nI b) (nI k) G Wk To Sl Sd (nI as) wo pa fa Fo)) (mu_Q D (ad_A g 16) (some (.int (-1))) (mo_W cI cJ g 0 (nI n) F Wt Sz Nu Pl Bf (nI b) (nI k) G Wk To Sl Sd (nI as) wo pa fa Fo)) 0 0 (ad_A g 16) := by
  refine Met.ofW (cc := cX6_is) (maxL := 3) (ret := (some .int)) (by decide) rfl ?_
  intro p e s m args below meth c s₁ B hml hv
  obtain ⟨rfl, hP, hK⟩ := hv
  have hx := B.exec
  have hb := B.bytes
  have hr := B.returns
  have hts := atoms_spec (ws := wsX6_is) B.pre
  have hown : s.vm.findClass RX6 = some m.cls := findClass_of_methodNamed B.named
  have hlocks := B.notSynchronized
  have hiX6 : ∀ w ∈ u_ws RX6 TX6 23, w ∈ wsX6_is := by decide +kernel
  have kf59 := hts (.fieldLink RX6 59 "SortingLineModel" "fault" "I") (by decide +kernel)
  have hS : va_S (ad_A g 16) s.heap s.heap [] := va_S.rf
  have hl := lv_entry ([.ref (g 0), .int t, .int kd]) (n := 3) (Nat.le_of_ble_eq_true rfl)
  rw [lg_entry_eq]
  generalize (lg_sl ([.ref (g 0), .int t, .int kd]) ++ List.replicate (3 - (lg_sl ([.ref (g 0), .int t, .int kd])).length) Slot.unset).toArray = ls at hl ⊢
  have hl : lv_has ls 3 [(0, .ref (g 0)), (1, .int t), (2, .int kd)] := hl
  refine lv_aload_n hx hb dX6_is_0 rfl (lv_at hl 0 rfl) ?_
  refine lv_iconst (v := 0) hx hb dX6_is_1 (by decide) ?_
  refine va_put (D := D) (ci := 6) (v := .int 0) (ty := .int) (C := RX6) (T := TX6) (N := 23) hx hb hts hiX6 tyX6 tyX6_ok nmX6 hown hK.1 hP (mo_D hh) hS 0 rfl rfl 0 (by decide) kf59 (fun _ h9 => h9) rfl (by decide +kernel) rfl rfl (Nat.le_of_ble_eq_true rfl) dX6_is_2 (fun H locs hP _ hS => ?_)
  have hP : va_P D kC (mo_W cI cJ g 0 (nI n) F Wt Sz Nu Pl Bf (nI b) (nI k) G Wk To Sl Sd (nI as) wo pa fa Fo) H := hP
  refine lv_aload_n hx hb dX6_is_5 rfl (lv_at hl 0 rfl) ?_
  refine lv_iload_n hx hb dX6_is_6 rfl (lv_at hl 1 rfl) ?_
  refine pu_callb (va_runV (As := [.int t]) (rest := []) ⟨hx, hb, hml, hown, hts⟩ (c_X6_isThing hh (hn) t) (cwV 1 hts gX6_is_X6_isThing rfl rfl rfl (by decide +kernel) ⟨Nat.le_of_ble_eq_true rfl, Nat.le_of_ble_eq_true rfl⟩) (wd_preV (ci := 6) (q0 := 0) hP hK rfl rfl) rfl rfl hl.1 rfl (lv_room (Nat.le_of_ble_eq_true rfl)) dX6_is_7 ⟨Nat.zero_le _, Nat.zero_le _⟩) (fun h9 => absurd (h1) (by rw [h9]; decide)) (fun _ => ?_)
  refine lv_if_ne (tgt := 17) hx hb dX6_is_10 (by decide) (fun h9 => absurd (by decide) h9) (fun _ => ?_)
  refine lv_iconst (v := (-1)) hx hb dX6_is_13 (by decide) ?_
  refine lv_goto (tgt := 46) hx hb dX6_is_14 (by decide) ?_
  exact W.iret (v := (-1)) hx hb hr (fun t9 ht _ => ⟨congrArg (fun z => Outcome.returned (some (Value.int z))) (rfl), by rw [ht]; exact hP, hS.F ht⟩) hS.2.2 dX6_is_46
set_option maxHeartbeats 4000000 in
set_option maxRecDepth 100000 in
theorem c_X6_is_o (hh : ad_ok g 16) (hn : n ≤ 100) (t kd : Int32) (h1 : p_in t (nI n) = true) (h2 : q_in kd 0 17 = false) : Met l yX6_is wsX6_is ({ frames := 10, cells := 0, slots := 0, locals := 450 }) (wd_P D cI cJ [.ref (g 0), .int t, .int kd] (mo_W cI cJ g fx (nI n) F Wt Sz Nu Pl Bf (nI b) (nI k) G Wk To Sl Sd (nI as) wo pa fa Fo)) (mu_Q D (ad_A g 16) (some (.int (-2))) (mo_W cI cJ g 0 (nI n) F Wt Sz Nu Pl Bf (nI b) (nI k) G Wk To Sl Sd (nI as) wo pa fa Fo)) 0 0 (ad_A g 16) := by
  refine Met.ofW (cc := cX6_is) (maxL := 3) (ret := (some .int)) (by decide) rfl ?_
  intro p e s m args below meth c s₁ B hml hv
  obtain ⟨rfl, hP, hK⟩ := hv
  have hx := B.exec
  have hb := B.bytes
  have hr := B.returns
  have hts := atoms_spec (ws := wsX6_is) B.pre
  have hown : s.vm.findClass RX6 = some m.cls := findClass_of_methodNamed B.named
  have hlocks := B.notSynchronized
  have hiX6 : ∀ w ∈ u_ws RX6 TX6 23, w ∈ wsX6_is := by decide +kernel
  have kf59 := hts (.fieldLink RX6 59 "SortingLineModel" "fault" "I") (by decide +kernel)
  have hS : va_S (ad_A g 16) s.heap s.heap [] := va_S.rf
  have hl := lv_entry ([.ref (g 0), .int t, .int kd]) (n := 3) (Nat.le_of_ble_eq_true rfl)
  rw [lg_entry_eq]
  generalize (lg_sl ([.ref (g 0), .int t, .int kd]) ++ List.replicate (3 - (lg_sl ([.ref (g 0), .int t, .int kd])).length) Slot.unset).toArray = ls at hl ⊢
  have hl : lv_has ls 3 [(0, .ref (g 0)), (1, .int t), (2, .int kd)] := hl
  refine lv_aload_n hx hb dX6_is_0 rfl (lv_at hl 0 rfl) ?_
  refine lv_iconst (v := 0) hx hb dX6_is_1 (by decide) ?_
  refine va_put (D := D) (ci := 6) (v := .int 0) (ty := .int) (C := RX6) (T := TX6) (N := 23) hx hb hts hiX6 tyX6 tyX6_ok nmX6 hown hK.1 hP (mo_D hh) hS 0 rfl rfl 0 (by decide) kf59 (fun _ h9 => h9) rfl (by decide +kernel) rfl rfl (Nat.le_of_ble_eq_true rfl) dX6_is_2 (fun H locs hP _ hS => ?_)
  have hP : va_P D kC (mo_W cI cJ g 0 (nI n) F Wt Sz Nu Pl Bf (nI b) (nI k) G Wk To Sl Sd (nI as) wo pa fa Fo) H := hP
  refine lv_aload_n hx hb dX6_is_5 rfl (lv_at hl 0 rfl) ?_
  refine lv_iload_n hx hb dX6_is_6 rfl (lv_at hl 1 rfl) ?_
  refine pu_callb (va_runV (As := [.int t]) (rest := []) ⟨hx, hb, hml, hown, hts⟩ (c_X6_isThing hh (hn) t) (cwV 1 hts gX6_is_X6_isThing rfl rfl rfl (by decide +kernel) ⟨Nat.le_of_ble_eq_true rfl, Nat.le_of_ble_eq_true rfl⟩) (wd_preV (ci := 6) (q0 := 0) hP hK rfl rfl) rfl rfl hl.1 rfl (lv_room (Nat.le_of_ble_eq_true rfl)) dX6_is_7 ⟨Nat.zero_le _, Nat.zero_le _⟩) (fun _ => ?_) (fun h9 => absurd (h1) (by rw [h9]; decide))
  refine lv_if_ne (tgt := 17) hx hb dX6_is_10 (by decide) (fun _ => ?_) (fun h9 => absurd h9 (by decide))
  refine lv_iload_n hx hb dX6_is_17 rfl (lv_at hl 2 rfl) ?_
  refine lv_iconst (v := 0) hx hb dX6_is_18 (by decide) ?_
  refine lv_bipush (v := 17) hx hb dX6_is_19 (by decide) ?_
  refine pu_callb (va_runS (As := [.int kd, .int 0, .int 17]) (rest := []) ⟨hx, hb, hml, hown, hts⟩ (c_X6_in kd 0 17) (cwS 3 hts gX6_is_X6_in rfl rfl rfl (by decide +kernel) ⟨Nat.le_of_ble_eq_true rfl, Nat.le_of_ble_eq_true rfl⟩) (wd_preS hP hK) rfl rfl hl.1 rfl (lv_room (Nat.le_of_ble_eq_true rfl)) dX6_is_21 ⟨Nat.zero_le _, Nat.zero_le _⟩) (fun h9 => absurd (h2) (by rw [h9]; decide)) (fun _ => ?_)
  refine lv_if_ne (tgt := 32) hx hb dX6_is_24 (by decide) (fun h9 => absurd (by decide) h9) (fun _ => ?_)
  refine lv_bipush (v := (-2)) hx hb dX6_is_27 (by decide) ?_
  refine lv_goto (tgt := 46) hx hb dX6_is_29 (by decide) ?_
  exact W.iret (v := (-2)) hx hb hr (fun t9 ht _ => ⟨congrArg (fun z => Outcome.returned (some (Value.int z))) (rfl), by rw [ht]; exact hP, hS.F ht⟩) hS.2.2 dX6_is_46
set_option maxHeartbeats 4000000 in
set_option maxRecDepth 100000 in
theorem c_X6_is_a (hh : ad_ok g 16) (hn : n ≤ 100) (r : Nat) (hr9 : r < n) (a : Nat) (ha : a < 16) (hFa : F r = nI a) (c9 : Nat) (hc : c9 < 18) (hq : q_in (nI c9) 0 17 = true) : Met l yX6_is wsX6_is ({ frames := 10, cells := 0, slots := 0, locals := 450 }) (wd_P D cI cJ [.ref (g 0), .int (nI r), .int (nI c9)] (mo_W cI cJ g fx (nI n) F Wt Sz Nu Pl Bf (nI b) (nI k) G Wk To Sl Sd (nI as) wo pa fa Fo)) (mu_Q D (ad_A g 16) (some (.int (bI (ko (F r) (nI c9))))) (mo_W cI cJ g 0 (nI n) F Wt Sz Nu Pl Bf (nI b) (nI k) G Wk To Sl Sd (nI as) wo pa fa Fo)) 0 0 (ad_A g 16) := by
  refine Met.ofW (cc := cX6_is) (maxL := 3) (ret := (some .int)) (by decide) rfl ?_
  intro p e s m args below meth c s₁ B hml hv
  obtain ⟨rfl, hP, hK⟩ := hv
  have hx := B.exec
  have hb := B.bytes
  have hr := B.returns
  have hts := atoms_spec (ws := wsX6_is) B.pre
  have hown : s.vm.findClass RX6 = some m.cls := findClass_of_methodNamed B.named
  have hlocks := B.notSynchronized
  have hiX6 : ∀ w ∈ u_ws RX6 TX6 23, w ∈ wsX6_is := by decide +kernel
  have kf59 := hts (.fieldLink RX6 59 "SortingLineModel" "fault" "I") (by decide +kernel)
  have hS : va_S (ad_A g 16) s.heap s.heap [] := va_S.rf
  have hl := lv_entry ([.ref (g 0), .int (nI r), .int (nI c9)]) (n := 3) (Nat.le_of_ble_eq_true rfl)
  rw [lg_entry_eq]
  generalize (lg_sl ([.ref (g 0), .int (nI r), .int (nI c9)]) ++ List.replicate (3 - (lg_sl ([.ref (g 0), .int (nI r), .int (nI c9)])).length) Slot.unset).toArray = ls at hl ⊢
  have hl : lv_has ls 3 [(0, .ref (g 0)), (1, .int (nI r)), (2, .int (nI c9))] := hl
  refine lv_aload_n hx hb dX6_is_0 rfl (lv_at hl 0 rfl) ?_
  refine lv_iconst (v := 0) hx hb dX6_is_1 (by decide) ?_
  refine va_put (D := D) (ci := 6) (v := .int 0) (ty := .int) (C := RX6) (T := TX6) (N := 23) hx hb hts hiX6 tyX6 tyX6_ok nmX6 hown hK.1 hP (mo_D hh) hS 0 rfl rfl 0 (by decide) kf59 (fun _ h9 => h9) rfl (by decide +kernel) rfl rfl (Nat.le_of_ble_eq_true rfl) dX6_is_2 (fun H locs hP _ hS => ?_)
  have hP : va_P D kC (mo_W cI cJ g 0 (nI n) F Wt Sz Nu Pl Bf (nI b) (nI k) G Wk To Sl Sd (nI as) wo pa fa Fo) H := hP
  refine lv_aload_n hx hb dX6_is_5 rfl (lv_at hl 0 rfl) ?_
  refine lv_iload_n hx hb dX6_is_6 rfl (lv_at hl 1 rfl) ?_
  refine pu_callb (va_runV (As := [.int (nI r)]) (rest := []) ⟨hx, hb, hml, hown, hts⟩ (c_X6_isThing hh (hn) (nI r)) (cwV 1 hts gX6_is_X6_isThing rfl rfl rfl (by decide +kernel) ⟨Nat.le_of_ble_eq_true rfl, Nat.le_of_ble_eq_true rfl⟩) (wd_preV (ci := 6) (q0 := 0) hP hK rfl rfl) rfl rfl hl.1 rfl (lv_room (Nat.le_of_ble_eq_true rfl)) dX6_is_7 ⟨Nat.zero_le _, Nat.zero_le _⟩) (fun _ => ?_) (fun h9 => absurd (p_in_nI hr9 (by omega)) (by rw [h9]; decide))
  refine lv_if_ne (tgt := 17) hx hb dX6_is_10 (by decide) (fun _ => ?_) (fun h9 => absurd h9 (by decide))
  refine lv_iload_n hx hb dX6_is_17 rfl (lv_at hl 2 rfl) ?_
  refine lv_iconst (v := 0) hx hb dX6_is_18 (by decide) ?_
  refine lv_bipush (v := 17) hx hb dX6_is_19 (by decide) ?_
  refine pu_callb (va_runS (As := [.int (nI c9), .int 0, .int 17]) (rest := []) ⟨hx, hb, hml, hown, hts⟩ (c_X6_in (nI c9) 0 17) (cwS 3 hts gX6_is_X6_in rfl rfl rfl (by decide +kernel) ⟨Nat.le_of_ble_eq_true rfl, Nat.le_of_ble_eq_true rfl⟩) (wd_preS hP hK) rfl rfl hl.1 rfl (lv_room (Nat.le_of_ble_eq_true rfl)) dX6_is_21 ⟨Nat.zero_le _, Nat.zero_le _⟩) (fun _ => ?_) (fun h9 => absurd (hq) (by rw [h9]; decide))
  refine lv_if_ne (tgt := 32) hx hb dX6_is_24 (by decide) (fun _ => ?_) (fun h9 => absurd h9 (by decide))
  refine lv_aload_n hx hb dX6_is_32 rfl (lv_at hl 0 rfl) ?_
  refine lv_iload_n hx hb dX6_is_33 rfl (lv_at hl 1 rfl) ?_
  refine lv_iload_n hx hb dX6_is_34 rfl (lv_at hl 2 rfl) ?_
  refine pu_callb (va_runV (As := [.int (nI r), .int (nI c9)]) (rest := []) ⟨hx, hb, hml, hown, hts⟩ (c_X6_isOf hh hn r (by omega) a ha hFa c9 (by omega)) (cwV 2 hts gX6_is_X6_isOf rfl rfl rfl (by decide +kernel) ⟨Nat.le_of_ble_eq_true rfl, Nat.le_of_ble_eq_true rfl⟩) (wd_preV (ci := 6) (q0 := 0) hP hK rfl rfl) rfl rfl hl.1 rfl (lv_room (Nat.le_of_ble_eq_true rfl)) dX6_is_35 ⟨Nat.zero_le _, Nat.zero_le _⟩) (fun c35 => ?_) (fun c35 => ?_)
  · skip
    refine lv_if_eq (tgt := 45) hx hb dX6_is_38 (by decide) (fun h9 => absurd h9 (by decide)) (fun _ => ?_)
    refine lv_iconst (v := 1) hx hb dX6_is_41 (by decide) ?_
    refine lv_goto (tgt := 46) hx hb dX6_is_42 (by decide) ?_
    exact W.iret (v := 1) hx hb hr (fun t9 ht _ => ⟨congrArg (fun z => Outcome.returned (some (Value.int z))) (by simp [bI, c35]), by rw [ht]; exact hP, hS.F ht⟩) hS.2.2 dX6_is_46
  · skip
    refine lv_if_eq (tgt := 45) hx hb dX6_is_38 (by decide) (fun _ => ?_) (fun h9 => absurd (by decide) h9)
    refine lv_iconst (v := 0) hx hb dX6_is_45 (by decide) ?_
    exact W.iret (v := 0) hx hb hr (fun t9 ht _ => ⟨congrArg (fun z => Outcome.returned (some (Value.int z))) (by simp [bI, c35]), by rw [ht]; exact hP, hS.F ht⟩) hS.2.2 dX6_is_46
set_option maxHeartbeats 4000000 in
set_option maxRecDepth 100000 in
theorem c_X6_weight_u (hh : ad_ok g 16) (hn : n ≤ 100) (t kd : Int32) (h1 : p_in t (nI n) = false) : Met l yX6_weight wsX6_weight ({ frames := 10, cells := 0, slots := 0, locals := 450 }) (wd_P D cI cJ [.ref (g 0), .int t, .int kd] (mo_W cI cJ g fx (nI n) F Wt Sz Nu Pl Bf (nI b) (nI k) G Wk To Sl Sd (nI as) wo pa fa Fo)) (mu_Q D (ad_A g 16) (some (.int (-2000000001))) (mo_W cI cJ g 0 (nI n) F Wt Sz Nu Pl Bf (nI b) (nI k) G Wk To Sl Sd (nI as) wo pa fa Fo)) 0 0 (ad_A g 16) := by
  refine Met.ofW (cc := cX6_weight) (maxL := 3) (ret := (some .int)) (by decide) rfl ?_
  intro p e s m args below meth c s₁ B hml hv
  obtain ⟨rfl, hP, hK⟩ := hv
  have hx := B.exec
  have hb := B.bytes
  have hr := B.returns
  have hts := atoms_spec (ws := wsX6_weight) B.pre
  have hown : s.vm.findClass RX6 = some m.cls := findClass_of_methodNamed B.named
  have hlocks := B.notSynchronized
  have hiX6 : ∀ w ∈ u_ws RX6 TX6 23, w ∈ wsX6_weight := by decide +kernel
  have kf59 := hts (.fieldLink RX6 59 "SortingLineModel" "fault" "I") (by decide +kernel)
  have kc86 := hts (.constant RX6 86 (-2000000001)) (by decide +kernel)
  have hS : va_S (ad_A g 16) s.heap s.heap [] := va_S.rf
  have hl := lv_entry ([.ref (g 0), .int t, .int kd]) (n := 3) (Nat.le_of_ble_eq_true rfl)
  rw [lg_entry_eq]
  generalize (lg_sl ([.ref (g 0), .int t, .int kd]) ++ List.replicate (3 - (lg_sl ([.ref (g 0), .int t, .int kd])).length) Slot.unset).toArray = ls at hl ⊢
  have hl : lv_has ls 3 [(0, .ref (g 0)), (1, .int t), (2, .int kd)] := hl
  refine lv_aload_n hx hb dX6_weight_0 rfl (lv_at hl 0 rfl) ?_
  refine lv_iconst (v := 0) hx hb dX6_weight_1 (by decide) ?_
  refine va_put (D := D) (ci := 6) (v := .int 0) (ty := .int) (C := RX6) (T := TX6) (N := 23) hx hb hts hiX6 tyX6 tyX6_ok nmX6 hown hK.1 hP (mo_D hh) hS 0 rfl rfl 0 (by decide) kf59 (fun _ h9 => h9) rfl (by decide +kernel) rfl rfl (Nat.le_of_ble_eq_true rfl) dX6_weight_2 (fun H locs hP _ hS => ?_)
  have hP : va_P D kC (mo_W cI cJ g 0 (nI n) F Wt Sz Nu Pl Bf (nI b) (nI k) G Wk To Sl Sd (nI as) wo pa fa Fo) H := hP
  refine lv_aload_n hx hb dX6_weight_5 rfl (lv_at hl 0 rfl) ?_
  refine lv_iload_n hx hb dX6_weight_6 rfl (lv_at hl 1 rfl) ?_
  refine pu_callb (va_runV (As := [.int t]) (rest := []) ⟨hx, hb, hml, hown, hts⟩ (c_X6_isThing hh (hn) t) (cwV 1 hts gX6_weight_X6_isThing rfl rfl rfl (by decide +kernel) ⟨Nat.le_of_ble_eq_true rfl, Nat.le_of_ble_eq_true rfl⟩) (wd_preV (ci := 6) (q0 := 0) hP hK rfl rfl) rfl rfl hl.1 rfl (lv_room (Nat.le_of_ble_eq_true rfl)) dX6_weight_7 ⟨Nat.zero_le _, Nat.zero_le _⟩) (fun h9 => absurd (h1) (by rw [h9]; decide)) (fun _ => ?_)
  refine lv_if_ne (tgt := 16) hx hb dX6_weight_10 (by decide) (fun h9 => absurd (by decide) h9) (fun _ => ?_)
  refine lv_ldc (v := (-2000000001)) hx hb hown kc86 dX6_weight_13 ?_
  exact W.iret (v := (-2000000001)) hx hb hr (fun t9 ht _ => ⟨congrArg (fun z => Outcome.returned (some (Value.int z))) (rfl), by rw [ht]; exact hP, hS.F ht⟩) hS.2.2 dX6_weight_15
set_option maxHeartbeats 4000000 in
set_option maxRecDepth 100000 in
theorem c_X6_weight_o (hh : ad_ok g 16) (hn : n ≤ 100) (t kd : Int32) (h1 : p_in t (nI n) = true) (h2 : q_in kd 0 2 = false) : Met l yX6_weight wsX6_weight ({ frames := 10, cells := 0, slots := 0, locals := 450 }) (wd_P D cI cJ [.ref (g 0), .int t, .int kd] (mo_W cI cJ g fx (nI n) F Wt Sz Nu Pl Bf (nI b) (nI k) G Wk To Sl Sd (nI as) wo pa fa Fo)) (mu_Q D (ad_A g 16) (some (.int (-2000000002))) (mo_W cI cJ g 0 (nI n) F Wt Sz Nu Pl Bf (nI b) (nI k) G Wk To Sl Sd (nI as) wo pa fa Fo)) 0 0 (ad_A g 16) := by
  refine Met.ofW (cc := cX6_weight) (maxL := 3) (ret := (some .int)) (by decide) rfl ?_
  intro p e s m args below meth c s₁ B hml hv
  obtain ⟨rfl, hP, hK⟩ := hv
  have hx := B.exec
  have hb := B.bytes
  have hr := B.returns
  have hts := atoms_spec (ws := wsX6_weight) B.pre
  have hown : s.vm.findClass RX6 = some m.cls := findClass_of_methodNamed B.named
  have hlocks := B.notSynchronized
  have hiX6 : ∀ w ∈ u_ws RX6 TX6 23, w ∈ wsX6_weight := by decide +kernel
  have kf59 := hts (.fieldLink RX6 59 "SortingLineModel" "fault" "I") (by decide +kernel)
  have kc87 := hts (.constant RX6 87 (-2000000002)) (by decide +kernel)
  have hS : va_S (ad_A g 16) s.heap s.heap [] := va_S.rf
  have hl := lv_entry ([.ref (g 0), .int t, .int kd]) (n := 3) (Nat.le_of_ble_eq_true rfl)
  rw [lg_entry_eq]
  generalize (lg_sl ([.ref (g 0), .int t, .int kd]) ++ List.replicate (3 - (lg_sl ([.ref (g 0), .int t, .int kd])).length) Slot.unset).toArray = ls at hl ⊢
  have hl : lv_has ls 3 [(0, .ref (g 0)), (1, .int t), (2, .int kd)] := hl
  refine lv_aload_n hx hb dX6_weight_0 rfl (lv_at hl 0 rfl) ?_
  refine lv_iconst (v := 0) hx hb dX6_weight_1 (by decide) ?_
  refine va_put (D := D) (ci := 6) (v := .int 0) (ty := .int) (C := RX6) (T := TX6) (N := 23) hx hb hts hiX6 tyX6 tyX6_ok nmX6 hown hK.1 hP (mo_D hh) hS 0 rfl rfl 0 (by decide) kf59 (fun _ h9 => h9) rfl (by decide +kernel) rfl rfl (Nat.le_of_ble_eq_true rfl) dX6_weight_2 (fun H locs hP _ hS => ?_)
  have hP : va_P D kC (mo_W cI cJ g 0 (nI n) F Wt Sz Nu Pl Bf (nI b) (nI k) G Wk To Sl Sd (nI as) wo pa fa Fo) H := hP
  refine lv_aload_n hx hb dX6_weight_5 rfl (lv_at hl 0 rfl) ?_
  refine lv_iload_n hx hb dX6_weight_6 rfl (lv_at hl 1 rfl) ?_
  refine pu_callb (va_runV (As := [.int t]) (rest := []) ⟨hx, hb, hml, hown, hts⟩ (c_X6_isThing hh (hn) t) (cwV 1 hts gX6_weight_X6_isThing rfl rfl rfl (by decide +kernel) ⟨Nat.le_of_ble_eq_true rfl, Nat.le_of_ble_eq_true rfl⟩) (wd_preV (ci := 6) (q0 := 0) hP hK rfl rfl) rfl rfl hl.1 rfl (lv_room (Nat.le_of_ble_eq_true rfl)) dX6_weight_7 ⟨Nat.zero_le _, Nat.zero_le _⟩) (fun _ => ?_) (fun h9 => absurd (h1) (by rw [h9]; decide))
  refine lv_if_ne (tgt := 16) hx hb dX6_weight_10 (by decide) (fun _ => ?_) (fun h9 => absurd h9 (by decide))
  refine lv_iload_n hx hb dX6_weight_16 rfl (lv_at hl 2 rfl) ?_
  refine lv_iconst (v := 0) hx hb dX6_weight_17 (by decide) ?_
  refine lv_iconst (v := 2) hx hb dX6_weight_18 (by decide) ?_
  refine pu_callb (va_runS (As := [.int kd, .int 0, .int 2]) (rest := []) ⟨hx, hb, hml, hown, hts⟩ (c_X6_in kd 0 2) (cwS 3 hts gX6_weight_X6_in rfl rfl rfl (by decide +kernel) ⟨Nat.le_of_ble_eq_true rfl, Nat.le_of_ble_eq_true rfl⟩) (wd_preS hP hK) rfl rfl hl.1 rfl (lv_room (Nat.le_of_ble_eq_true rfl)) dX6_weight_19 ⟨Nat.zero_le _, Nat.zero_le _⟩) (fun h9 => absurd (h2) (by rw [h9]; decide)) (fun _ => ?_)
  refine lv_if_ne (tgt := 28) hx hb dX6_weight_22 (by decide) (fun h9 => absurd (by decide) h9) (fun _ => ?_)
  refine lv_ldc (v := (-2000000002)) hx hb hown kc87 dX6_weight_25 ?_
  exact W.iret (v := (-2000000002)) hx hb hr (fun t9 ht _ => ⟨congrArg (fun z => Outcome.returned (some (Value.int z))) (rfl), by rw [ht]; exact hP, hS.F ht⟩) hS.2.2 dX6_weight_27
set_option maxHeartbeats 4000000 in
set_option maxRecDepth 100000 in
theorem c_X6_weight_c (hh : ad_ok g 16) (hn : n ≤ 100) (r : Nat) (hr9 : r < n) (a : Nat) (ha : a < 16) (hFa : F r = nI a) (c9 : Nat) (hc : c9 < 18) (hq : q_in (nI c9) 0 2 = true) (h1 : ko (F r) (nI c9) = false) : Met l yX6_weight wsX6_weight ({ frames := 10, cells := 0, slots := 0, locals := 450 }) (wd_P D cI cJ [.ref (g 0), .int (nI r), .int (nI c9)] (mo_W cI cJ g fx (nI n) F Wt Sz Nu Pl Bf (nI b) (nI k) G Wk To Sl Sd (nI as) wo pa fa Fo)) (mu_Q D (ad_A g 16) (some (.int (-2000000021))) (mo_W cI cJ g 0 (nI n) F Wt Sz Nu Pl Bf (nI b) (nI k) G Wk To Sl Sd (nI as) wo pa fa (upd Fo 1 (Fo 1 + 1)))) 0 0 (ad_A g 16) := by
  refine Met.ofW (cc := cX6_weight) (maxL := 3) (ret := (some .int)) (by decide) rfl ?_
  intro p e s m args below meth c s₁ B hml hv
  obtain ⟨rfl, hP, hK⟩ := hv
  have hx := B.exec
  have hb := B.bytes
  have hr := B.returns
  have hts := atoms_spec (ws := wsX6_weight) B.pre
  have hown : s.vm.findClass RX6 = some m.cls := findClass_of_methodNamed B.named
  have hlocks := B.notSynchronized
  have hiX6 : ∀ w ∈ u_ws RX6 TX6 23, w ∈ wsX6_weight := by decide +kernel
  have kf59 := hts (.fieldLink RX6 59 "SortingLineModel" "fault" "I") (by decide +kernel)
  have kc88 := hts (.constant RX6 88 (-2000000000)) (by decide +kernel)
  have hS : va_S (ad_A g 16) s.heap s.heap [] := va_S.rf
  have hl := lv_entry ([.ref (g 0), .int (nI r), .int (nI c9)]) (n := 3) (Nat.le_of_ble_eq_true rfl)
  rw [lg_entry_eq]
  generalize (lg_sl ([.ref (g 0), .int (nI r), .int (nI c9)]) ++ List.replicate (3 - (lg_sl ([.ref (g 0), .int (nI r), .int (nI c9)])).length) Slot.unset).toArray = ls at hl ⊢
  have hl : lv_has ls 3 [(0, .ref (g 0)), (1, .int (nI r)), (2, .int (nI c9))] := hl
  refine lv_aload_n hx hb dX6_weight_0 rfl (lv_at hl 0 rfl) ?_
  refine lv_iconst (v := 0) hx hb dX6_weight_1 (by decide) ?_
  refine va_put (D := D) (ci := 6) (v := .int 0) (ty := .int) (C := RX6) (T := TX6) (N := 23) hx hb hts hiX6 tyX6 tyX6_ok nmX6 hown hK.1 hP (mo_D hh) hS 0 rfl rfl 0 (by decide) kf59 (fun _ h9 => h9) rfl (by decide +kernel) rfl rfl (Nat.le_of_ble_eq_true rfl) dX6_weight_2 (fun H locs hP _ hS => ?_)
  have hP : va_P D kC (mo_W cI cJ g 0 (nI n) F Wt Sz Nu Pl Bf (nI b) (nI k) G Wk To Sl Sd (nI as) wo pa fa Fo) H := hP
  refine lv_aload_n hx hb dX6_weight_5 rfl (lv_at hl 0 rfl) ?_
  refine lv_iload_n hx hb dX6_weight_6 rfl (lv_at hl 1 rfl) ?_
  refine pu_callb (va_runV (As := [.int (nI r)]) (rest := []) ⟨hx, hb, hml, hown, hts⟩ (c_X6_isThing hh (hn) (nI r)) (cwV 1 hts gX6_weight_X6_isThing rfl rfl rfl (by decide +kernel) ⟨Nat.le_of_ble_eq_true rfl, Nat.le_of_ble_eq_true rfl⟩) (wd_preV (ci := 6) (q0 := 0) hP hK rfl rfl) rfl rfl hl.1 rfl (lv_room (Nat.le_of_ble_eq_true rfl)) dX6_weight_7 ⟨Nat.zero_le _, Nat.zero_le _⟩) (fun _ => ?_) (fun h9 => absurd (p_in_nI hr9 (by omega)) (by rw [h9]; decide))
  refine lv_if_ne (tgt := 16) hx hb dX6_weight_10 (by decide) (fun _ => ?_) (fun h9 => absurd h9 (by decide))
  refine lv_iload_n hx hb dX6_weight_16 rfl (lv_at hl 2 rfl) ?_
  refine lv_iconst (v := 0) hx hb dX6_weight_17 (by decide) ?_
  refine lv_iconst (v := 2) hx hb dX6_weight_18 (by decide) ?_
  refine pu_callb (va_runS (As := [.int (nI c9), .int 0, .int 2]) (rest := []) ⟨hx, hb, hml, hown, hts⟩ (c_X6_in (nI c9) 0 2) (cwS 3 hts gX6_weight_X6_in rfl rfl rfl (by decide +kernel) ⟨Nat.le_of_ble_eq_true rfl, Nat.le_of_ble_eq_true rfl⟩) (wd_preS hP hK) rfl rfl hl.1 rfl (lv_room (Nat.le_of_ble_eq_true rfl)) dX6_weight_19 ⟨Nat.zero_le _, Nat.zero_le _⟩) (fun _ => ?_) (fun h9 => absurd (hq) (by rw [h9]; decide))
  refine lv_if_ne (tgt := 28) hx hb dX6_weight_22 (by decide) (fun _ => ?_) (fun h9 => absurd h9 (by decide))
  refine lv_aload_n hx hb dX6_weight_28 rfl (lv_at hl 0 rfl) ?_
  refine lv_iload_n hx hb dX6_weight_29 rfl (lv_at hl 1 rfl) ?_
  refine lv_iload_n hx hb dX6_weight_30 rfl (lv_at hl 2 rfl) ?_
  refine pu_callb (va_runV (As := [.int (nI r), .int (nI c9)]) (rest := []) ⟨hx, hb, hml, hown, hts⟩ (c_X6_isOf hh hn r (by omega) a ha hFa c9 (by omega)) (cwV 2 hts gX6_weight_X6_isOf rfl rfl rfl (by decide +kernel) ⟨Nat.le_of_ble_eq_true rfl, Nat.le_of_ble_eq_true rfl⟩) (wd_preV (ci := 6) (q0 := 0) hP hK rfl rfl) rfl rfl hl.1 rfl (lv_room (Nat.le_of_ble_eq_true rfl)) dX6_weight_31 ⟨Nat.zero_le _, Nat.zero_le _⟩) (fun h9 => absurd (h1) (by rw [h9]; decide)) (fun _ => ?_)
  refine lv_if_eq (tgt := 46) hx hb dX6_weight_34 (by decide) (fun _ => ?_) (fun h9 => absurd (by decide) h9)
  refine lv_ldc (v := (-2000000000)) hx hb hown kc88 dX6_weight_46 ?_
  refine lv_aload_n hx hb dX6_weight_48 rfl (lv_at hl 0 rfl) ?_
  refine lv_iconst (v := 1) hx hb dX6_weight_49 (by decide) ?_
  refine mu_calli (va_runV (As := [.int 1]) (rest := [.int (-2000000000)]) ⟨hx, hb, hml, hown, hts⟩ (c_X6_found hh 1 (by omega) (by omega)) (cwV 1 hts gX6_weight_X6_found rfl rfl rfl (by decide +kernel) ⟨Nat.le_of_ble_eq_true rfl, Nat.le_of_ble_eq_true rfl⟩) (wd_preV (ci := 6) (q0 := 0) hP hK rfl rfl) rfl rfl hl.1 rfl (lv_room (Nat.le_of_ble_eq_true rfl)) dX6_weight_50 ⟨Nat.zero_le _, Nat.zero_le _⟩) hS (fun H locs hP hS => ?_)
  have hP : va_P D kC (mo_W cI cJ g 0 (nI n) F Wt Sz Nu Pl Bf (nI b) (nI k) G Wk To Sl Sd (nI as) wo pa fa (upd Fo 1 (Fo 1 + 1))) H := hP
  refine tp_i (y := (-21)) (by decide) ?_
  refine lv_iadd hx hb dX6_weight_53 ?_
  refine tp_i (show ((-2000000000) : Int32) + (-21) = (-2000000021) by decide) ?_
  exact W.iret (v := (-2000000021)) hx hb hr (fun t9 ht _ => ⟨congrArg (fun z => Outcome.returned (some (Value.int z))) (rfl), by rw [ht]; exact hP, hS.F ht⟩) hS.2.2 dX6_weight_54
set_option maxHeartbeats 4000000 in
set_option maxRecDepth 100000 in
theorem c_X6_weight_a (hh : ad_ok g 16) (hn : n ≤ 100) (r : Nat) (hr9 : r < n) (a : Nat) (ha : a < 16) (hFa : F r = nI a) (c9 : Nat) (hc : c9 < 18) (hq : q_in (nI c9) 0 2 = true) (h1 : ko (F r) (nI c9) = true) : Met l yX6_weight wsX6_weight ({ frames := 10, cells := 0, slots := 0, locals := 450 }) (wd_P D cI cJ [.ref (g 0), .int (nI r), .int (nI c9)] (mo_W cI cJ g fx (nI n) F Wt Sz Nu Pl Bf (nI b) (nI k) G Wk To Sl Sd (nI as) wo pa fa Fo)) (mu_Q D (ad_A g 16) (some (.int (Wt r))) (mo_W cI cJ g 0 (nI n) F Wt Sz Nu Pl Bf (nI b) (nI k) G Wk To Sl Sd (nI as) wo pa fa Fo)) 0 0 (ad_A g 16) := by
  refine Met.ofW (cc := cX6_weight) (maxL := 3) (ret := (some .int)) (by decide) rfl ?_
  intro p e s m args below meth c s₁ B hml hv
  obtain ⟨rfl, hP, hK⟩ := hv
  have hx := B.exec
  have hb := B.bytes
  have hr := B.returns
  have hts := atoms_spec (ws := wsX6_weight) B.pre
  have hown : s.vm.findClass RX6 = some m.cls := findClass_of_methodNamed B.named
  have hlocks := B.notSynchronized
  have hiX6 : ∀ w ∈ u_ws RX6 TX6 23, w ∈ wsX6_weight := by decide +kernel
  have kf59 := hts (.fieldLink RX6 59 "SortingLineModel" "fault" "I") (by decide +kernel)
  have kf13 := hts (.fieldLink RX6 13 "SortingLineModel" "weights" "[I") (by decide +kernel)
  have hS : va_S (ad_A g 16) s.heap s.heap [] := va_S.rf
  have hl := lv_entry ([.ref (g 0), .int (nI r), .int (nI c9)]) (n := 3) (Nat.le_of_ble_eq_true rfl)
  rw [lg_entry_eq]
  generalize (lg_sl ([.ref (g 0), .int (nI r), .int (nI c9)]) ++ List.replicate (3 - (lg_sl ([.ref (g 0), .int (nI r), .int (nI c9)])).length) Slot.unset).toArray = ls at hl ⊢
  have hl : lv_has ls 3 [(0, .ref (g 0)), (1, .int (nI r)), (2, .int (nI c9))] := hl
  refine lv_aload_n hx hb dX6_weight_0 rfl (lv_at hl 0 rfl) ?_
  refine lv_iconst (v := 0) hx hb dX6_weight_1 (by decide) ?_
  refine va_put (D := D) (ci := 6) (v := .int 0) (ty := .int) (C := RX6) (T := TX6) (N := 23) hx hb hts hiX6 tyX6 tyX6_ok nmX6 hown hK.1 hP (mo_D hh) hS 0 rfl rfl 0 (by decide) kf59 (fun _ h9 => h9) rfl (by decide +kernel) rfl rfl (Nat.le_of_ble_eq_true rfl) dX6_weight_2 (fun H locs hP _ hS => ?_)
  have hP : va_P D kC (mo_W cI cJ g 0 (nI n) F Wt Sz Nu Pl Bf (nI b) (nI k) G Wk To Sl Sd (nI as) wo pa fa Fo) H := hP
  refine lv_aload_n hx hb dX6_weight_5 rfl (lv_at hl 0 rfl) ?_
  refine lv_iload_n hx hb dX6_weight_6 rfl (lv_at hl 1 rfl) ?_
  refine pu_callb (va_runV (As := [.int (nI r)]) (rest := []) ⟨hx, hb, hml, hown, hts⟩ (c_X6_isThing hh (hn) (nI r)) (cwV 1 hts gX6_weight_X6_isThing rfl rfl rfl (by decide +kernel) ⟨Nat.le_of_ble_eq_true rfl, Nat.le_of_ble_eq_true rfl⟩) (wd_preV (ci := 6) (q0 := 0) hP hK rfl rfl) rfl rfl hl.1 rfl (lv_room (Nat.le_of_ble_eq_true rfl)) dX6_weight_7 ⟨Nat.zero_le _, Nat.zero_le _⟩) (fun _ => ?_) (fun h9 => absurd (p_in_nI hr9 (by omega)) (by rw [h9]; decide))
  refine lv_if_ne (tgt := 16) hx hb dX6_weight_10 (by decide) (fun _ => ?_) (fun h9 => absurd h9 (by decide))
  refine lv_iload_n hx hb dX6_weight_16 rfl (lv_at hl 2 rfl) ?_
  refine lv_iconst (v := 0) hx hb dX6_weight_17 (by decide) ?_
  refine lv_iconst (v := 2) hx hb dX6_weight_18 (by decide) ?_
  refine pu_callb (va_runS (As := [.int (nI c9), .int 0, .int 2]) (rest := []) ⟨hx, hb, hml, hown, hts⟩ (c_X6_in (nI c9) 0 2) (cwS 3 hts gX6_weight_X6_in rfl rfl rfl (by decide +kernel) ⟨Nat.le_of_ble_eq_true rfl, Nat.le_of_ble_eq_true rfl⟩) (wd_preS hP hK) rfl rfl hl.1 rfl (lv_room (Nat.le_of_ble_eq_true rfl)) dX6_weight_19 ⟨Nat.zero_le _, Nat.zero_le _⟩) (fun _ => ?_) (fun h9 => absurd (hq) (by rw [h9]; decide))
  refine lv_if_ne (tgt := 28) hx hb dX6_weight_22 (by decide) (fun _ => ?_) (fun h9 => absurd h9 (by decide))
  refine lv_aload_n hx hb dX6_weight_28 rfl (lv_at hl 0 rfl) ?_
  refine lv_iload_n hx hb dX6_weight_29 rfl (lv_at hl 1 rfl) ?_
  refine lv_iload_n hx hb dX6_weight_30 rfl (lv_at hl 2 rfl) ?_
  refine pu_callb (va_runV (As := [.int (nI r), .int (nI c9)]) (rest := []) ⟨hx, hb, hml, hown, hts⟩ (c_X6_isOf hh hn r (by omega) a ha hFa c9 (by omega)) (cwV 2 hts gX6_weight_X6_isOf rfl rfl rfl (by decide +kernel) ⟨Nat.le_of_ble_eq_true rfl, Nat.le_of_ble_eq_true rfl⟩) (wd_preV (ci := 6) (q0 := 0) hP hK rfl rfl) rfl rfl hl.1 rfl (lv_room (Nat.le_of_ble_eq_true rfl)) dX6_weight_31 ⟨Nat.zero_le _, Nat.zero_le _⟩) (fun _ => ?_) (fun h9 => absurd (h1) (by rw [h9]; decide))
  refine lv_if_eq (tgt := 46) hx hb dX6_weight_34 (by decide) (fun h9 => absurd h9 (by decide)) (fun _ => ?_)
  refine lv_aload_n hx hb dX6_weight_37 rfl (lv_at hl 0 rfl) ?_
  refine va_get (D := D) (ci := 6) (v := .ref (g 2)) (C := RX6) (T := TX6) (N := 23) hx hb hts hiX6 hown hK.1 hP 0 rfl rfl 3 (by decide) kf13 (fun _ h9 => h9) rfl dX6_weight_38 ?_
  refine lv_iload_n hx hb dX6_weight_41 rfl (lv_at hl 1 rfl) ?_
  refine ga_ild hx hb hK hP 2 rfl r (rfl) (by omega) (by decide) dX6_weight_42 ?_
  refine lv_goto (tgt := 54) hx hb dX6_weight_43 (by decide) ?_
  exact W.iret (v := Wt r) hx hb hr (fun t9 ht _ => ⟨congrArg (fun z => Outcome.returned (some (Value.int z))) (rfl), by rw [ht]; exact hP, hS.F ht⟩) hS.2.2 dX6_weight_54
set_option maxHeartbeats 4000000 in
set_option maxRecDepth 100000 in
theorem c_X6_length_u (hh : ad_ok g 16) (hn : n ≤ 100) (t kd : Int32) (h1 : p_in t (nI n) = false) : Met l yX6_length wsX6_length ({ frames := 10, cells := 0, slots := 0, locals := 450 }) (wd_P D cI cJ [.ref (g 0), .int t, .int kd] (mo_W cI cJ g fx (nI n) F Wt Sz Nu Pl Bf (nI b) (nI k) G Wk To Sl Sd (nI as) wo pa fa Fo)) (mu_Q D (ad_A g 16) (some (.int (-1))) (mo_W cI cJ g 0 (nI n) F Wt Sz Nu Pl Bf (nI b) (nI k) G Wk To Sl Sd (nI as) wo pa fa Fo)) 0 0 (ad_A g 16) := by
  refine Met.ofW (cc := cX6_length) (maxL := 4) (ret := (some .int)) (by decide) rfl ?_
  intro p e s m args below meth c s₁ B hml hv
  obtain ⟨rfl, hP, hK⟩ := hv
  have hx := B.exec
  have hb := B.bytes
  have hr := B.returns
  have hts := atoms_spec (ws := wsX6_length) B.pre
  have hown : s.vm.findClass RX6 = some m.cls := findClass_of_methodNamed B.named
  have hlocks := B.notSynchronized
  have hiX6 : ∀ w ∈ u_ws RX6 TX6 23, w ∈ wsX6_length := by decide +kernel
  have kf59 := hts (.fieldLink RX6 59 "SortingLineModel" "fault" "I") (by decide +kernel)
  have hS : va_S (ad_A g 16) s.heap s.heap [] := va_S.rf
  have hl := lv_entry ([.ref (g 0), .int t, .int kd]) (n := 4) (Nat.le_of_ble_eq_true rfl)
  rw [lg_entry_eq]
  generalize (lg_sl ([.ref (g 0), .int t, .int kd]) ++ List.replicate (4 - (lg_sl ([.ref (g 0), .int t, .int kd])).length) Slot.unset).toArray = ls at hl ⊢
  have hl : lv_has ls 4 [(0, .ref (g 0)), (1, .int t), (2, .int kd)] := hl
  refine lv_aload_n hx hb dX6_length_0 rfl (lv_at hl 0 rfl) ?_
  refine lv_iconst (v := 0) hx hb dX6_length_1 (by decide) ?_
  refine va_put (D := D) (ci := 6) (v := .int 0) (ty := .int) (C := RX6) (T := TX6) (N := 23) hx hb hts hiX6 tyX6 tyX6_ok nmX6 hown hK.1 hP (mo_D hh) hS 0 rfl rfl 0 (by decide) kf59 (fun _ h9 => h9) rfl (by decide +kernel) rfl rfl (Nat.le_of_ble_eq_true rfl) dX6_length_2 (fun H locs hP _ hS => ?_)
  have hP : va_P D kC (mo_W cI cJ g 0 (nI n) F Wt Sz Nu Pl Bf (nI b) (nI k) G Wk To Sl Sd (nI as) wo pa fa Fo) H := hP
  refine lv_aload_n hx hb dX6_length_5 rfl (lv_at hl 0 rfl) ?_
  refine lv_iload_n hx hb dX6_length_6 rfl (lv_at hl 1 rfl) ?_
  refine lv_iload_n hx hb dX6_length_7 rfl (lv_at hl 2 rfl) ?_
  refine lv_iconst (v := 4) hx hb dX6_length_8 (by decide) ?_
  refine lv_bipush (v := 15) hx hb dX6_length_9 (by decide) ?_
  refine pu_calli (va_runV (As := [.int t, .int kd, .int 4, .int 15]) (rest := []) ⟨hx, hb, hml, hown, hts⟩ (c_X6_refusal_u hh hn t kd 4 15 (by assumption)) (cwV 4 hts gX6_length_X6_refusal rfl rfl rfl (by decide +kernel) ⟨Nat.le_of_ble_eq_true rfl, Nat.le_of_ble_eq_true rfl⟩) (wd_preV (ci := 6) (q0 := 0) hP hK rfl rfl) rfl rfl hl.1 rfl (lv_room (Nat.le_of_ble_eq_true rfl)) dX6_length_11 ⟨Nat.zero_le _, Nat.zero_le _⟩) ?_
  refine lv_istore_n (lv' := [(3, .int (-1)), (0, .ref (g 0)), (1, .int t), (2, .int kd)]) hx hb dX6_length_14 rfl hl (by decide) rfl (fun ls hl => ?_)
  refine lv_iload_n hx hb dX6_length_15 rfl (lv_at hl 0 rfl) ?_
  refine lv_if_ge (tgt := 23) hx hb dX6_length_16 (by decide) (fun h9 => absurd h9 (by decide)) (fun _ => ?_)
  refine lv_iload_n hx hb dX6_length_19 rfl (lv_at hl 0 rfl) ?_
  refine lv_goto (tgt := 46) hx hb dX6_length_20 (by decide) ?_
  exact W.iret (v := (-1)) hx hb hr (fun t9 ht _ => ⟨congrArg (fun z => Outcome.returned (some (Value.int z))) (rfl), by rw [ht]; exact hP, hS.F ht⟩) hS.2.2 dX6_length_46
set_option maxHeartbeats 4000000 in
set_option maxRecDepth 100000 in
theorem c_X6_length_o (hh : ad_ok g 16) (hn : n ≤ 100) (t kd : Int32) (h1 : p_in t (nI n) = true) (h2 : q_in kd 4 15 = false) : Met l yX6_length wsX6_length ({ frames := 10, cells := 0, slots := 0, locals := 450 }) (wd_P D cI cJ [.ref (g 0), .int t, .int kd] (mo_W cI cJ g fx (nI n) F Wt Sz Nu Pl Bf (nI b) (nI k) G Wk To Sl Sd (nI as) wo pa fa Fo)) (mu_Q D (ad_A g 16) (some (.int (-2))) (mo_W cI cJ g 0 (nI n) F Wt Sz Nu Pl Bf (nI b) (nI k) G Wk To Sl Sd (nI as) wo pa fa Fo)) 0 0 (ad_A g 16) := by
  refine Met.ofW (cc := cX6_length) (maxL := 4) (ret := (some .int)) (by decide) rfl ?_
  intro p e s m args below meth c s₁ B hml hv
  obtain ⟨rfl, hP, hK⟩ := hv
  have hx := B.exec
  have hb := B.bytes
  have hr := B.returns
  have hts := atoms_spec (ws := wsX6_length) B.pre
  have hown : s.vm.findClass RX6 = some m.cls := findClass_of_methodNamed B.named
  have hlocks := B.notSynchronized
  have hiX6 : ∀ w ∈ u_ws RX6 TX6 23, w ∈ wsX6_length := by decide +kernel
  have kf59 := hts (.fieldLink RX6 59 "SortingLineModel" "fault" "I") (by decide +kernel)
  have hS : va_S (ad_A g 16) s.heap s.heap [] := va_S.rf
  have hl := lv_entry ([.ref (g 0), .int t, .int kd]) (n := 4) (Nat.le_of_ble_eq_true rfl)
  rw [lg_entry_eq]
  generalize (lg_sl ([.ref (g 0), .int t, .int kd]) ++ List.replicate (4 - (lg_sl ([.ref (g 0), .int t, .int kd])).length) Slot.unset).toArray = ls at hl ⊢
  have hl : lv_has ls 4 [(0, .ref (g 0)), (1, .int t), (2, .int kd)] := hl
  refine lv_aload_n hx hb dX6_length_0 rfl (lv_at hl 0 rfl) ?_
  refine lv_iconst (v := 0) hx hb dX6_length_1 (by decide) ?_
  refine va_put (D := D) (ci := 6) (v := .int 0) (ty := .int) (C := RX6) (T := TX6) (N := 23) hx hb hts hiX6 tyX6 tyX6_ok nmX6 hown hK.1 hP (mo_D hh) hS 0 rfl rfl 0 (by decide) kf59 (fun _ h9 => h9) rfl (by decide +kernel) rfl rfl (Nat.le_of_ble_eq_true rfl) dX6_length_2 (fun H locs hP _ hS => ?_)
  have hP : va_P D kC (mo_W cI cJ g 0 (nI n) F Wt Sz Nu Pl Bf (nI b) (nI k) G Wk To Sl Sd (nI as) wo pa fa Fo) H := hP
  refine lv_aload_n hx hb dX6_length_5 rfl (lv_at hl 0 rfl) ?_
  refine lv_iload_n hx hb dX6_length_6 rfl (lv_at hl 1 rfl) ?_
  refine lv_iload_n hx hb dX6_length_7 rfl (lv_at hl 2 rfl) ?_
  refine lv_iconst (v := 4) hx hb dX6_length_8 (by decide) ?_
  refine lv_bipush (v := 15) hx hb dX6_length_9 (by decide) ?_
  refine pu_calli (va_runV (As := [.int t, .int kd, .int 4, .int 15]) (rest := []) ⟨hx, hb, hml, hown, hts⟩ (c_X6_refusal_o hh hn t kd 4 15 (by assumption) (by assumption)) (cwV 4 hts gX6_length_X6_refusal rfl rfl rfl (by decide +kernel) ⟨Nat.le_of_ble_eq_true rfl, Nat.le_of_ble_eq_true rfl⟩) (wd_preV (ci := 6) (q0 := 0) hP hK rfl rfl) rfl rfl hl.1 rfl (lv_room (Nat.le_of_ble_eq_true rfl)) dX6_length_11 ⟨Nat.zero_le _, Nat.zero_le _⟩) ?_
  refine lv_istore_n (lv' := [(3, .int (-2)), (0, .ref (g 0)), (1, .int t), (2, .int kd)]) hx hb dX6_length_14 rfl hl (by decide) rfl (fun ls hl => ?_)
  refine lv_iload_n hx hb dX6_length_15 rfl (lv_at hl 0 rfl) ?_
  refine lv_if_ge (tgt := 23) hx hb dX6_length_16 (by decide) (fun h9 => absurd h9 (by decide)) (fun _ => ?_)
  refine lv_iload_n hx hb dX6_length_19 rfl (lv_at hl 0 rfl) ?_
  refine lv_goto (tgt := 46) hx hb dX6_length_20 (by decide) ?_
  exact W.iret (v := (-2)) hx hb hr (fun t9 ht _ => ⟨congrArg (fun z => Outcome.returned (some (Value.int z))) (rfl), by rw [ht]; exact hP, hS.F ht⟩) hS.2.2 dX6_length_46
set_option maxHeartbeats 4000000 in
set_option maxRecDepth 100000 in
theorem c_X6_put_u (hh : ad_ok g 16) (hn : n ≤ 100) (t kd : Int32) (i : Int32) (v : Int64) (h1 : p_in t (nI n) = false) : Met l yX6_put wsX6_put ({ frames := 10, cells := 0, slots := 0, locals := 450 }) (wd_P D cI cJ [.ref (g 0), .int t, .int kd, .int i, .long v] (mo_W cI cJ g fx (nI n) F Wt Sz Nu Pl Bf (nI b) (nI k) G Wk To Sl Sd (nI as) wo pa fa Fo)) (mu_Q D (ad_A g 16) (some (.int (-1))) (mo_W cI cJ g 0 (nI n) F Wt Sz Nu Pl Bf (nI b) (nI k) G Wk To Sl Sd (nI as) wo pa fa Fo)) 0 0 (ad_A g 16) := by
  refine Met.ofW (cc := cX6_put) (maxL := 7) (ret := (some .int)) (by decide) rfl ?_
  intro p e s m args below meth c s₁ B hml hv
  obtain ⟨rfl, hP, hK⟩ := hv
  have hx := B.exec
  have hb := B.bytes
  have hr := B.returns
  have hts := atoms_spec (ws := wsX6_put) B.pre
  have hown : s.vm.findClass RX6 = some m.cls := findClass_of_methodNamed B.named
  have hlocks := B.notSynchronized
  have hiX6 : ∀ w ∈ u_ws RX6 TX6 23, w ∈ wsX6_put := by decide +kernel
  have kf59 := hts (.fieldLink RX6 59 "SortingLineModel" "fault" "I") (by decide +kernel)
  have hS : va_S (ad_A g 16) s.heap s.heap [] := va_S.rf
  have hl := lv_entry ([.ref (g 0), .int t, .int kd, .int i, .long v]) (n := 7) (Nat.le_of_ble_eq_true rfl)
  rw [lg_entry_eq]
  generalize (lg_sl ([.ref (g 0), .int t, .int kd, .int i, .long v]) ++ List.replicate (7 - (lg_sl ([.ref (g 0), .int t, .int kd, .int i, .long v])).length) Slot.unset).toArray = ls at hl ⊢
  have hl : lv_has ls 7 [(0, .ref (g 0)), (1, .int t), (2, .int kd), (3, .int i), (4, .long v)] := hl
  refine lv_aload_n hx hb dX6_put_0 rfl (lv_at hl 0 rfl) ?_
  refine lv_iconst (v := 0) hx hb dX6_put_1 (by decide) ?_
  refine va_put (D := D) (ci := 6) (v := .int 0) (ty := .int) (C := RX6) (T := TX6) (N := 23) hx hb hts hiX6 tyX6 tyX6_ok nmX6 hown hK.1 hP (mo_D hh) hS 0 rfl rfl 0 (by decide) kf59 (fun _ h9 => h9) rfl (by decide +kernel) rfl rfl (Nat.le_of_ble_eq_true rfl) dX6_put_2 (fun H locs hP _ hS => ?_)
  have hP : va_P D kC (mo_W cI cJ g 0 (nI n) F Wt Sz Nu Pl Bf (nI b) (nI k) G Wk To Sl Sd (nI as) wo pa fa Fo) H := hP
  refine lv_aload_n hx hb dX6_put_5 rfl (lv_at hl 0 rfl) ?_
  refine lv_iload_n hx hb dX6_put_6 rfl (lv_at hl 1 rfl) ?_
  refine lv_iload_n hx hb dX6_put_7 rfl (lv_at hl 2 rfl) ?_
  refine lv_iconst (v := 4) hx hb dX6_put_8 (by decide) ?_
  refine lv_bipush (v := 6) hx hb dX6_put_9 (by decide) ?_
  refine pu_calli (va_runV (As := [.int t, .int kd, .int 4, .int 6]) (rest := []) ⟨hx, hb, hml, hown, hts⟩ (c_X6_refusal_u hh hn t kd 4 6 (by assumption)) (cwV 4 hts gX6_put_X6_refusal rfl rfl rfl (by decide +kernel) ⟨Nat.le_of_ble_eq_true rfl, Nat.le_of_ble_eq_true rfl⟩) (wd_preV (ci := 6) (q0 := 0) hP hK rfl rfl) rfl rfl hl.1 rfl (lv_room (Nat.le_of_ble_eq_true rfl)) dX6_put_11 ⟨Nat.zero_le _, Nat.zero_le _⟩) ?_
  refine lv_istore (lv' := [(6, .int (-1)), (0, .ref (g 0)), (1, .int t), (2, .int kd), (3, .int i), (4, .long v)]) hx hb dX6_put_14 hl (by decide) rfl (fun ls hl => ?_)
  refine lv_iload hx hb dX6_put_16 (lv_at hl 0 rfl) ?_
  refine lv_if_ge (tgt := 24) hx hb dX6_put_18 (by decide) (fun h9 => absurd h9 (by decide)) (fun _ => ?_)
  refine lv_iload hx hb dX6_put_21 (lv_at hl 0 rfl) ?_
  exact W.iret (v := (-1)) hx hb hr (fun t9 ht _ => ⟨congrArg (fun z => Outcome.returned (some (Value.int z))) (rfl), by rw [ht]; exact hP, hS.F ht⟩) hS.2.2 dX6_put_23
set_option maxHeartbeats 4000000 in
set_option maxRecDepth 100000 in
theorem c_X6_put_o (hh : ad_ok g 16) (hn : n ≤ 100) (t kd : Int32) (i : Int32) (v : Int64) (h1 : p_in t (nI n) = true) (h2 : q_in kd 4 6 = false) : Met l yX6_put wsX6_put ({ frames := 10, cells := 0, slots := 0, locals := 450 }) (wd_P D cI cJ [.ref (g 0), .int t, .int kd, .int i, .long v] (mo_W cI cJ g fx (nI n) F Wt Sz Nu Pl Bf (nI b) (nI k) G Wk To Sl Sd (nI as) wo pa fa Fo)) (mu_Q D (ad_A g 16) (some (.int (-2))) (mo_W cI cJ g 0 (nI n) F Wt Sz Nu Pl Bf (nI b) (nI k) G Wk To Sl Sd (nI as) wo pa fa Fo)) 0 0 (ad_A g 16) := by
  refine Met.ofW (cc := cX6_put) (maxL := 7) (ret := (some .int)) (by decide) rfl ?_
  intro p e s m args below meth c s₁ B hml hv
  obtain ⟨rfl, hP, hK⟩ := hv
  have hx := B.exec
  have hb := B.bytes
  have hr := B.returns
  have hts := atoms_spec (ws := wsX6_put) B.pre
  have hown : s.vm.findClass RX6 = some m.cls := findClass_of_methodNamed B.named
  have hlocks := B.notSynchronized
  have hiX6 : ∀ w ∈ u_ws RX6 TX6 23, w ∈ wsX6_put := by decide +kernel
  have kf59 := hts (.fieldLink RX6 59 "SortingLineModel" "fault" "I") (by decide +kernel)
  have hS : va_S (ad_A g 16) s.heap s.heap [] := va_S.rf
  have hl := lv_entry ([.ref (g 0), .int t, .int kd, .int i, .long v]) (n := 7) (Nat.le_of_ble_eq_true rfl)
  rw [lg_entry_eq]
  generalize (lg_sl ([.ref (g 0), .int t, .int kd, .int i, .long v]) ++ List.replicate (7 - (lg_sl ([.ref (g 0), .int t, .int kd, .int i, .long v])).length) Slot.unset).toArray = ls at hl ⊢
  have hl : lv_has ls 7 [(0, .ref (g 0)), (1, .int t), (2, .int kd), (3, .int i), (4, .long v)] := hl
  refine lv_aload_n hx hb dX6_put_0 rfl (lv_at hl 0 rfl) ?_
  refine lv_iconst (v := 0) hx hb dX6_put_1 (by decide) ?_
  refine va_put (D := D) (ci := 6) (v := .int 0) (ty := .int) (C := RX6) (T := TX6) (N := 23) hx hb hts hiX6 tyX6 tyX6_ok nmX6 hown hK.1 hP (mo_D hh) hS 0 rfl rfl 0 (by decide) kf59 (fun _ h9 => h9) rfl (by decide +kernel) rfl rfl (Nat.le_of_ble_eq_true rfl) dX6_put_2 (fun H locs hP _ hS => ?_)
  have hP : va_P D kC (mo_W cI cJ g 0 (nI n) F Wt Sz Nu Pl Bf (nI b) (nI k) G Wk To Sl Sd (nI as) wo pa fa Fo) H := hP
  refine lv_aload_n hx hb dX6_put_5 rfl (lv_at hl 0 rfl) ?_
  refine lv_iload_n hx hb dX6_put_6 rfl (lv_at hl 1 rfl) ?_
  refine lv_iload_n hx hb dX6_put_7 rfl (lv_at hl 2 rfl) ?_
  refine lv_iconst (v := 4) hx hb dX6_put_8 (by decide) ?_
  refine lv_bipush (v := 6) hx hb dX6_put_9 (by decide) ?_
  refine pu_calli (va_runV (As := [.int t, .int kd, .int 4, .int 6]) (rest := []) ⟨hx, hb, hml, hown, hts⟩ (c_X6_refusal_o hh hn t kd 4 6 (by assumption) (by assumption)) (cwV 4 hts gX6_put_X6_refusal rfl rfl rfl (by decide +kernel) ⟨Nat.le_of_ble_eq_true rfl, Nat.le_of_ble_eq_true rfl⟩) (wd_preV (ci := 6) (q0 := 0) hP hK rfl rfl) rfl rfl hl.1 rfl (lv_room (Nat.le_of_ble_eq_true rfl)) dX6_put_11 ⟨Nat.zero_le _, Nat.zero_le _⟩) ?_
  refine lv_istore (lv' := [(6, .int (-2)), (0, .ref (g 0)), (1, .int t), (2, .int kd), (3, .int i), (4, .long v)]) hx hb dX6_put_14 hl (by decide) rfl (fun ls hl => ?_)
  refine lv_iload hx hb dX6_put_16 (lv_at hl 0 rfl) ?_
  refine lv_if_ge (tgt := 24) hx hb dX6_put_18 (by decide) (fun h9 => absurd h9 (by decide)) (fun _ => ?_)
  refine lv_iload hx hb dX6_put_21 (lv_at hl 0 rfl) ?_
  exact W.iret (v := (-2)) hx hb hr (fun t9 ht _ => ⟨congrArg (fun z => Outcome.returned (some (Value.int z))) (rfl), by rw [ht]; exact hP, hS.F ht⟩) hS.2.2 dX6_put_23
set_option maxHeartbeats 4000000 in
set_option maxRecDepth 100000 in
theorem c_X6_place_u (hh : ad_ok g 16) (hn : n ≤ 100) (t kd : Int32) (i : Int32) (h1 : p_in t (nI n) = false) : Met l yX6_place wsX6_place ({ frames := 10, cells := 0, slots := 0, locals := 450 }) (wd_P D cI cJ [.ref (g 0), .int t, .int kd, .int i] (mo_W cI cJ g fx (nI n) F Wt Sz Nu Pl Bf (nI b) (nI k) G Wk To Sl Sd (nI as) wo pa fa Fo)) (mu_Q D (ad_A g 16) (some (.int (-1))) (mo_W cI cJ g 0 (nI n) F Wt Sz Nu Pl Bf (nI b) (nI k) G Wk To Sl Sd (nI as) wo pa fa Fo)) 0 0 (ad_A g 16) := by
  refine Met.ofW (cc := cX6_place) (maxL := 5) (ret := (some .int)) (by decide) rfl ?_
  intro p e s m args below meth c s₁ B hml hv
  obtain ⟨rfl, hP, hK⟩ := hv
  have hx := B.exec
  have hb := B.bytes
  have hr := B.returns
  have hts := atoms_spec (ws := wsX6_place) B.pre
  have hown : s.vm.findClass RX6 = some m.cls := findClass_of_methodNamed B.named
  have hlocks := B.notSynchronized
  have hiX6 : ∀ w ∈ u_ws RX6 TX6 23, w ∈ wsX6_place := by decide +kernel
  have kf59 := hts (.fieldLink RX6 59 "SortingLineModel" "fault" "I") (by decide +kernel)
  have hS : va_S (ad_A g 16) s.heap s.heap [] := va_S.rf
  have hl := lv_entry ([.ref (g 0), .int t, .int kd, .int i]) (n := 5) (Nat.le_of_ble_eq_true rfl)
  rw [lg_entry_eq]
  generalize (lg_sl ([.ref (g 0), .int t, .int kd, .int i]) ++ List.replicate (5 - (lg_sl ([.ref (g 0), .int t, .int kd, .int i])).length) Slot.unset).toArray = ls at hl ⊢
  have hl : lv_has ls 5 [(0, .ref (g 0)), (1, .int t), (2, .int kd), (3, .int i)] := hl
  refine lv_aload_n hx hb dX6_place_0 rfl (lv_at hl 0 rfl) ?_
  refine lv_iconst (v := 0) hx hb dX6_place_1 (by decide) ?_
  refine va_put (D := D) (ci := 6) (v := .int 0) (ty := .int) (C := RX6) (T := TX6) (N := 23) hx hb hts hiX6 tyX6 tyX6_ok nmX6 hown hK.1 hP (mo_D hh) hS 0 rfl rfl 0 (by decide) kf59 (fun _ h9 => h9) rfl (by decide +kernel) rfl rfl (Nat.le_of_ble_eq_true rfl) dX6_place_2 (fun H locs hP _ hS => ?_)
  have hP : va_P D kC (mo_W cI cJ g 0 (nI n) F Wt Sz Nu Pl Bf (nI b) (nI k) G Wk To Sl Sd (nI as) wo pa fa Fo) H := hP
  refine lv_aload_n hx hb dX6_place_5 rfl (lv_at hl 0 rfl) ?_
  refine lv_iload_n hx hb dX6_place_6 rfl (lv_at hl 1 rfl) ?_
  refine lv_iload_n hx hb dX6_place_7 rfl (lv_at hl 2 rfl) ?_
  refine lv_bipush (v := 7) hx hb dX6_place_8 (by decide) ?_
  refine lv_bipush (v := 15) hx hb dX6_place_10 (by decide) ?_
  refine pu_calli (va_runV (As := [.int t, .int kd, .int 7, .int 15]) (rest := []) ⟨hx, hb, hml, hown, hts⟩ (c_X6_refusal_u hh hn t kd 7 15 (by assumption)) (cwV 4 hts gX6_place_X6_refusal rfl rfl rfl (by decide +kernel) ⟨Nat.le_of_ble_eq_true rfl, Nat.le_of_ble_eq_true rfl⟩) (wd_preV (ci := 6) (q0 := 0) hP hK rfl rfl) rfl rfl hl.1 rfl (lv_room (Nat.le_of_ble_eq_true rfl)) dX6_place_12 ⟨Nat.zero_le _, Nat.zero_le _⟩) ?_
  refine lv_istore (lv' := [(4, .int (-1)), (0, .ref (g 0)), (1, .int t), (2, .int kd), (3, .int i)]) hx hb dX6_place_15 hl (by decide) rfl (fun ls hl => ?_)
  refine lv_iload hx hb dX6_place_17 (lv_at hl 0 rfl) ?_
  refine lv_if_ge (tgt := 25) hx hb dX6_place_19 (by decide) (fun h9 => absurd h9 (by decide)) (fun _ => ?_)
  refine lv_iload hx hb dX6_place_22 (lv_at hl 0 rfl) ?_
  exact W.iret (v := (-1)) hx hb hr (fun t9 ht _ => ⟨congrArg (fun z => Outcome.returned (some (Value.int z))) (rfl), by rw [ht]; exact hP, hS.F ht⟩) hS.2.2 dX6_place_24
set_option maxHeartbeats 4000000 in
set_option maxRecDepth 100000 in
theorem c_X6_place_o (hh : ad_ok g 16) (hn : n ≤ 100) (t kd : Int32) (i : Int32) (h1 : p_in t (nI n) = true) (h2 : q_in kd 7 15 = false) : Met l yX6_place wsX6_place ({ frames := 10, cells := 0, slots := 0, locals := 450 }) (wd_P D cI cJ [.ref (g 0), .int t, .int kd, .int i] (mo_W cI cJ g fx (nI n) F Wt Sz Nu Pl Bf (nI b) (nI k) G Wk To Sl Sd (nI as) wo pa fa Fo)) (mu_Q D (ad_A g 16) (some (.int (-2))) (mo_W cI cJ g 0 (nI n) F Wt Sz Nu Pl Bf (nI b) (nI k) G Wk To Sl Sd (nI as) wo pa fa Fo)) 0 0 (ad_A g 16) := by
  refine Met.ofW (cc := cX6_place) (maxL := 5) (ret := (some .int)) (by decide) rfl ?_
  intro p e s m args below meth c s₁ B hml hv
  obtain ⟨rfl, hP, hK⟩ := hv
  have hx := B.exec
  have hb := B.bytes
  have hr := B.returns
  have hts := atoms_spec (ws := wsX6_place) B.pre
  have hown : s.vm.findClass RX6 = some m.cls := findClass_of_methodNamed B.named
  have hlocks := B.notSynchronized
  have hiX6 : ∀ w ∈ u_ws RX6 TX6 23, w ∈ wsX6_place := by decide +kernel
  have kf59 := hts (.fieldLink RX6 59 "SortingLineModel" "fault" "I") (by decide +kernel)
  have hS : va_S (ad_A g 16) s.heap s.heap [] := va_S.rf
  have hl := lv_entry ([.ref (g 0), .int t, .int kd, .int i]) (n := 5) (Nat.le_of_ble_eq_true rfl)
  rw [lg_entry_eq]
  generalize (lg_sl ([.ref (g 0), .int t, .int kd, .int i]) ++ List.replicate (5 - (lg_sl ([.ref (g 0), .int t, .int kd, .int i])).length) Slot.unset).toArray = ls at hl ⊢
  have hl : lv_has ls 5 [(0, .ref (g 0)), (1, .int t), (2, .int kd), (3, .int i)] := hl
  refine lv_aload_n hx hb dX6_place_0 rfl (lv_at hl 0 rfl) ?_
  refine lv_iconst (v := 0) hx hb dX6_place_1 (by decide) ?_
  refine va_put (D := D) (ci := 6) (v := .int 0) (ty := .int) (C := RX6) (T := TX6) (N := 23) hx hb hts hiX6 tyX6 tyX6_ok nmX6 hown hK.1 hP (mo_D hh) hS 0 rfl rfl 0 (by decide) kf59 (fun _ h9 => h9) rfl (by decide +kernel) rfl rfl (Nat.le_of_ble_eq_true rfl) dX6_place_2 (fun H locs hP _ hS => ?_)
  have hP : va_P D kC (mo_W cI cJ g 0 (nI n) F Wt Sz Nu Pl Bf (nI b) (nI k) G Wk To Sl Sd (nI as) wo pa fa Fo) H := hP
  refine lv_aload_n hx hb dX6_place_5 rfl (lv_at hl 0 rfl) ?_
  refine lv_iload_n hx hb dX6_place_6 rfl (lv_at hl 1 rfl) ?_
  refine lv_iload_n hx hb dX6_place_7 rfl (lv_at hl 2 rfl) ?_
  refine lv_bipush (v := 7) hx hb dX6_place_8 (by decide) ?_
  refine lv_bipush (v := 15) hx hb dX6_place_10 (by decide) ?_
  refine pu_calli (va_runV (As := [.int t, .int kd, .int 7, .int 15]) (rest := []) ⟨hx, hb, hml, hown, hts⟩ (c_X6_refusal_o hh hn t kd 7 15 (by assumption) (by assumption)) (cwV 4 hts gX6_place_X6_refusal rfl rfl rfl (by decide +kernel) ⟨Nat.le_of_ble_eq_true rfl, Nat.le_of_ble_eq_true rfl⟩) (wd_preV (ci := 6) (q0 := 0) hP hK rfl rfl) rfl rfl hl.1 rfl (lv_room (Nat.le_of_ble_eq_true rfl)) dX6_place_12 ⟨Nat.zero_le _, Nat.zero_le _⟩) ?_
  refine lv_istore (lv' := [(4, .int (-2)), (0, .ref (g 0)), (1, .int t), (2, .int kd), (3, .int i)]) hx hb dX6_place_15 hl (by decide) rfl (fun ls hl => ?_)
  refine lv_iload hx hb dX6_place_17 (lv_at hl 0 rfl) ?_
  refine lv_if_ge (tgt := 25) hx hb dX6_place_19 (by decide) (fun h9 => absurd h9 (by decide)) (fun _ => ?_)
  refine lv_iload hx hb dX6_place_22 (lv_at hl 0 rfl) ?_
  exact W.iret (v := (-2)) hx hb hr (fun t9 ht _ => ⟨congrArg (fun z => Outcome.returned (some (Value.int z))) (rfl), by rw [ht]; exact hP, hS.F ht⟩) hS.2.2 dX6_place_24
set_option maxHeartbeats 4000000 in
set_option maxRecDepth 100000 in
theorem c_X6_length_c (hh : ad_ok g 16) (hn : n ≤ 100) (r : Nat) (hr9 : r < n) (a : Nat) (ha : a < 16) (hFa : F r = nI a) (c9 : Nat) (hc : c9 < 18) (hq : q_in (nI c9) 4 15 = true) (h1 : ko (F r) (nI c9) = false) : Met l yX6_length wsX6_length ({ frames := 10, cells := 0, slots := 0, locals := 450 }) (wd_P D cI cJ [.ref (g 0), .int (nI r), .int (nI c9)] (mo_W cI cJ g fx (nI n) F Wt Sz Nu Pl Bf (nI b) (nI k) G Wk To Sl Sd (nI as) wo pa fa Fo)) (mu_Q D (ad_A g 16) (some (.int (-21))) (mo_W cI cJ g 0 (nI n) F Wt Sz Nu Pl Bf (nI b) (nI k) G Wk To Sl Sd (nI as) wo pa fa (upd Fo 1 (Fo 1 + 1)))) 0 0 (ad_A g 16) := by
  refine Met.ofW (cc := cX6_length) (maxL := 4) (ret := (some .int)) (by decide) rfl ?_
  intro p e s m args below meth c s₁ B hml hv
  obtain ⟨rfl, hP, hK⟩ := hv
  have hx := B.exec
  have hb := B.bytes
  have hr := B.returns
  have hts := atoms_spec (ws := wsX6_length) B.pre
  have hown : s.vm.findClass RX6 = some m.cls := findClass_of_methodNamed B.named
  have hlocks := B.notSynchronized
  have hiX6 : ∀ w ∈ u_ws RX6 TX6 23, w ∈ wsX6_length := by decide +kernel
  have kf59 := hts (.fieldLink RX6 59 "SortingLineModel" "fault" "I") (by decide +kernel)
  have hS : va_S (ad_A g 16) s.heap s.heap [] := va_S.rf
  have hl := lv_entry ([.ref (g 0), .int (nI r), .int (nI c9)]) (n := 4) (Nat.le_of_ble_eq_true rfl)
  rw [lg_entry_eq]
  generalize (lg_sl ([.ref (g 0), .int (nI r), .int (nI c9)]) ++ List.replicate (4 - (lg_sl ([.ref (g 0), .int (nI r), .int (nI c9)])).length) Slot.unset).toArray = ls at hl ⊢
  have hl : lv_has ls 4 [(0, .ref (g 0)), (1, .int (nI r)), (2, .int (nI c9))] := hl
  refine lv_aload_n hx hb dX6_length_0 rfl (lv_at hl 0 rfl) ?_
  refine lv_iconst (v := 0) hx hb dX6_length_1 (by decide) ?_
  refine va_put (D := D) (ci := 6) (v := .int 0) (ty := .int) (C := RX6) (T := TX6) (N := 23) hx hb hts hiX6 tyX6 tyX6_ok nmX6 hown hK.1 hP (mo_D hh) hS 0 rfl rfl 0 (by decide) kf59 (fun _ h9 => h9) rfl (by decide +kernel) rfl rfl (Nat.le_of_ble_eq_true rfl) dX6_length_2 (fun H locs hP _ hS => ?_)
  have hP : va_P D kC (mo_W cI cJ g 0 (nI n) F Wt Sz Nu Pl Bf (nI b) (nI k) G Wk To Sl Sd (nI as) wo pa fa Fo) H := hP
  refine lv_aload_n hx hb dX6_length_5 rfl (lv_at hl 0 rfl) ?_
  refine lv_iload_n hx hb dX6_length_6 rfl (lv_at hl 1 rfl) ?_
  refine lv_iload_n hx hb dX6_length_7 rfl (lv_at hl 2 rfl) ?_
  refine lv_iconst (v := 4) hx hb dX6_length_8 (by decide) ?_
  refine lv_bipush (v := 15) hx hb dX6_length_9 (by decide) ?_
  refine pu_calli (va_runV (As := [.int (nI r), .int (nI c9), .int 4, .int 15]) (rest := []) ⟨hx, hb, hml, hown, hts⟩ (c_X6_refusal_a hh hn (nI r) (nI c9) 4 15 (p_in_nI hr9 (by omega)) (hq)) (cwV 4 hts gX6_length_X6_refusal rfl rfl rfl (by decide +kernel) ⟨Nat.le_of_ble_eq_true rfl, Nat.le_of_ble_eq_true rfl⟩) (wd_preV (ci := 6) (q0 := 0) hP hK rfl rfl) rfl rfl hl.1 rfl (lv_room (Nat.le_of_ble_eq_true rfl)) dX6_length_11 ⟨Nat.zero_le _, Nat.zero_le _⟩) ?_
  refine lv_istore_n (lv' := [(3, .int 0), (0, .ref (g 0)), (1, .int (nI r)), (2, .int (nI c9))]) hx hb dX6_length_14 rfl hl (by decide) rfl (fun ls hl => ?_)
  refine lv_iload_n hx hb dX6_length_15 rfl (lv_at hl 0 rfl) ?_
  refine lv_if_ge (tgt := 23) hx hb dX6_length_16 (by decide) (fun _ => ?_) (fun h9 => absurd (by decide) h9)
  refine lv_aload_n hx hb dX6_length_23 rfl (lv_at hl 1 rfl) ?_
  refine lv_iload_n hx hb dX6_length_24 rfl (lv_at hl 2 rfl) ?_
  refine lv_iload_n hx hb dX6_length_25 rfl (lv_at hl 3 rfl) ?_
  refine pu_callb (va_runV (As := [.int (nI r), .int (nI c9)]) (rest := []) ⟨hx, hb, hml, hown, hts⟩ (c_X6_isOf hh hn r (by omega) a ha hFa c9 (by omega)) (cwV 2 hts gX6_length_X6_isOf rfl rfl rfl (by decide +kernel) ⟨Nat.le_of_ble_eq_true rfl, Nat.le_of_ble_eq_true rfl⟩) (wd_preV (ci := 6) (q0 := 0) hP hK rfl rfl) rfl rfl hl.1 rfl (lv_room (Nat.le_of_ble_eq_true rfl)) dX6_length_26 ⟨Nat.zero_le _, Nat.zero_le _⟩) (fun h9 => absurd (h1) (by rw [h9]; decide)) (fun _ => ?_)
  refine lv_if_eq (tgt := 41) hx hb dX6_length_29 (by decide) (fun _ => ?_) (fun h9 => absurd (by decide) h9)
  refine lv_aload_n hx hb dX6_length_41 rfl (lv_at hl 1 rfl) ?_
  refine lv_iconst (v := 1) hx hb dX6_length_42 (by decide) ?_
  refine mu_calli (va_runV (As := [.int 1]) (rest := []) ⟨hx, hb, hml, hown, hts⟩ (c_X6_found hh 1 (by omega) (by omega)) (cwV 1 hts gX6_length_X6_found rfl rfl rfl (by decide +kernel) ⟨Nat.le_of_ble_eq_true rfl, Nat.le_of_ble_eq_true rfl⟩) (wd_preV (ci := 6) (q0 := 0) hP hK rfl rfl) rfl rfl hl.1 rfl (lv_room (Nat.le_of_ble_eq_true rfl)) dX6_length_43 ⟨Nat.zero_le _, Nat.zero_le _⟩) hS (fun H locs hP hS => ?_)
  have hP : va_P D kC (mo_W cI cJ g 0 (nI n) F Wt Sz Nu Pl Bf (nI b) (nI k) G Wk To Sl Sd (nI as) wo pa fa (upd Fo 1 (Fo 1 + 1))) H := hP
  refine tp_i (y := (-21)) (by decide) ?_
  exact W.iret (v := (-21)) hx hb hr (fun t9 ht _ => ⟨congrArg (fun z => Outcome.returned (some (Value.int z))) (rfl), by rw [ht]; exact hP, hS.F ht⟩) hS.2.2 dX6_length_46
set_option maxHeartbeats 4000000 in
set_option maxRecDepth 100000 in
theorem c_X6_length_a (hh : ad_ok g 16) (hn : n ≤ 100) (r : Nat) (hr9 : r < n) (a : Nat) (ha : a < 16) (hFa : F r = nI a) (c9 : Nat) (hc : c9 < 18) (hq : q_in (nI c9) 4 15 = true) (h1 : ko (F r) (nI c9) = true) : Met l yX6_length wsX6_length ({ frames := 10, cells := 0, slots := 0, locals := 450 }) (wd_P D cI cJ [.ref (g 0), .int (nI r), .int (nI c9)] (mo_W cI cJ g fx (nI n) F Wt Sz Nu Pl Bf (nI b) (nI k) G Wk To Sl Sd (nI as) wo pa fa Fo)) (mu_Q D (ad_A g 16) (some (.int (Sz r))) (mo_W cI cJ g 0 (nI n) F Wt Sz Nu Pl Bf (nI b) (nI k) G Wk To Sl Sd (nI as) wo pa fa Fo)) 0 0 (ad_A g 16) := by
  refine Met.ofW (cc := cX6_length) (maxL := 4) (ret := (some .int)) (by decide) rfl ?_
  intro p e s m args below meth c s₁ B hml hv
  obtain ⟨rfl, hP, hK⟩ := hv
  have hx := B.exec
  have hb := B.bytes
  have hr := B.returns
  have hts := atoms_spec (ws := wsX6_length) B.pre
  have hown : s.vm.findClass RX6 = some m.cls := findClass_of_methodNamed B.named
  have hlocks := B.notSynchronized
  have hiX6 : ∀ w ∈ u_ws RX6 TX6 23, w ∈ wsX6_length := by decide +kernel
  have kf59 := hts (.fieldLink RX6 59 "SortingLineModel" "fault" "I") (by decide +kernel)
  have kf16 := hts (.fieldLink RX6 16 "SortingLineModel" "sizes" "[I") (by decide +kernel)
  have hS : va_S (ad_A g 16) s.heap s.heap [] := va_S.rf
  have hl := lv_entry ([.ref (g 0), .int (nI r), .int (nI c9)]) (n := 4) (Nat.le_of_ble_eq_true rfl)
  rw [lg_entry_eq]
  generalize (lg_sl ([.ref (g 0), .int (nI r), .int (nI c9)]) ++ List.replicate (4 - (lg_sl ([.ref (g 0), .int (nI r), .int (nI c9)])).length) Slot.unset).toArray = ls at hl ⊢
  have hl : lv_has ls 4 [(0, .ref (g 0)), (1, .int (nI r)), (2, .int (nI c9))] := hl
  refine lv_aload_n hx hb dX6_length_0 rfl (lv_at hl 0 rfl) ?_
  refine lv_iconst (v := 0) hx hb dX6_length_1 (by decide) ?_
  refine va_put (D := D) (ci := 6) (v := .int 0) (ty := .int) (C := RX6) (T := TX6) (N := 23) hx hb hts hiX6 tyX6 tyX6_ok nmX6 hown hK.1 hP (mo_D hh) hS 0 rfl rfl 0 (by decide) kf59 (fun _ h9 => h9) rfl (by decide +kernel) rfl rfl (Nat.le_of_ble_eq_true rfl) dX6_length_2 (fun H locs hP _ hS => ?_)
  have hP : va_P D kC (mo_W cI cJ g 0 (nI n) F Wt Sz Nu Pl Bf (nI b) (nI k) G Wk To Sl Sd (nI as) wo pa fa Fo) H := hP
  refine lv_aload_n hx hb dX6_length_5 rfl (lv_at hl 0 rfl) ?_
  refine lv_iload_n hx hb dX6_length_6 rfl (lv_at hl 1 rfl) ?_
  refine lv_iload_n hx hb dX6_length_7 rfl (lv_at hl 2 rfl) ?_
  refine lv_iconst (v := 4) hx hb dX6_length_8 (by decide) ?_
  refine lv_bipush (v := 15) hx hb dX6_length_9 (by decide) ?_
  refine pu_calli (va_runV (As := [.int (nI r), .int (nI c9), .int 4, .int 15]) (rest := []) ⟨hx, hb, hml, hown, hts⟩ (c_X6_refusal_a hh hn (nI r) (nI c9) 4 15 (p_in_nI hr9 (by omega)) (hq)) (cwV 4 hts gX6_length_X6_refusal rfl rfl rfl (by decide +kernel) ⟨Nat.le_of_ble_eq_true rfl, Nat.le_of_ble_eq_true rfl⟩) (wd_preV (ci := 6) (q0 := 0) hP hK rfl rfl) rfl rfl hl.1 rfl (lv_room (Nat.le_of_ble_eq_true rfl)) dX6_length_11 ⟨Nat.zero_le _, Nat.zero_le _⟩) ?_
  refine lv_istore_n (lv' := [(3, .int 0), (0, .ref (g 0)), (1, .int (nI r)), (2, .int (nI c9))]) hx hb dX6_length_14 rfl hl (by decide) rfl (fun ls hl => ?_)
  refine lv_iload_n hx hb dX6_length_15 rfl (lv_at hl 0 rfl) ?_
  refine lv_if_ge (tgt := 23) hx hb dX6_length_16 (by decide) (fun _ => ?_) (fun h9 => absurd (by decide) h9)
  refine lv_aload_n hx hb dX6_length_23 rfl (lv_at hl 1 rfl) ?_
  refine lv_iload_n hx hb dX6_length_24 rfl (lv_at hl 2 rfl) ?_
  refine lv_iload_n hx hb dX6_length_25 rfl (lv_at hl 3 rfl) ?_
  refine pu_callb (va_runV (As := [.int (nI r), .int (nI c9)]) (rest := []) ⟨hx, hb, hml, hown, hts⟩ (c_X6_isOf hh hn r (by omega) a ha hFa c9 (by omega)) (cwV 2 hts gX6_length_X6_isOf rfl rfl rfl (by decide +kernel) ⟨Nat.le_of_ble_eq_true rfl, Nat.le_of_ble_eq_true rfl⟩) (wd_preV (ci := 6) (q0 := 0) hP hK rfl rfl) rfl rfl hl.1 rfl (lv_room (Nat.le_of_ble_eq_true rfl)) dX6_length_26 ⟨Nat.zero_le _, Nat.zero_le _⟩) (fun _ => ?_) (fun h9 => absurd (h1) (by rw [h9]; decide))
  refine lv_if_eq (tgt := 41) hx hb dX6_length_29 (by decide) (fun h9 => absurd h9 (by decide)) (fun _ => ?_)
  refine lv_aload_n hx hb dX6_length_32 rfl (lv_at hl 1 rfl) ?_
  refine va_get (D := D) (ci := 6) (v := .ref (g 3)) (C := RX6) (T := TX6) (N := 23) hx hb hts hiX6 hown hK.1 hP 0 rfl rfl 4 (by decide) kf16 (fun _ h9 => h9) rfl dX6_length_33 ?_
  refine lv_iload_n hx hb dX6_length_36 rfl (lv_at hl 2 rfl) ?_
  refine ga_ild hx hb hK hP 3 rfl r (rfl) (by omega) (by decide) dX6_length_37 ?_
  refine lv_goto (tgt := 46) hx hb dX6_length_38 (by decide) ?_
  exact W.iret (v := Sz r) hx hb hr (fun t9 ht _ => ⟨congrArg (fun z => Outcome.returned (some (Value.int z))) (rfl), by rw [ht]; exact hP, hS.F ht⟩) hS.2.2 dX6_length_46
set_option maxHeartbeats 4000000 in
set_option maxRecDepth 100000 in
theorem c_X6_put_c (hh : ad_ok g 16) (hn : n ≤ 100) (r : Nat) (hr9 : r < n) (a : Nat) (ha : a < 16) (hFa : F r = nI a) (c9 : Nat) (hc : c9 < 18) (hq : q_in (nI c9) 4 6 = true) (i : Int32) (v : Int64) (h1 : ko (F r) (nI c9) = false) : Met l yX6_put wsX6_put ({ frames := 10, cells := 0, slots := 0, locals := 450 }) (wd_P D cI cJ [.ref (g 0), .int (nI r), .int (nI c9), .int i, .long v] (mo_W cI cJ g fx (nI n) F Wt Sz Nu Pl Bf (nI b) (nI k) G Wk To Sl Sd (nI as) wo pa fa Fo)) (mu_Q D (ad_A g 16) (some (.int (-21))) (mo_W cI cJ g 0 (nI n) F Wt Sz Nu Pl Bf (nI b) (nI k) G Wk To Sl Sd (nI as) wo pa fa (upd Fo 1 (Fo 1 + 1)))) 0 0 (ad_A g 16) := by
  refine Met.ofW (cc := cX6_put) (maxL := 7) (ret := (some .int)) (by decide) rfl ?_
  intro p e s m args below meth c s₁ B hml hv
  obtain ⟨rfl, hP, hK⟩ := hv
  have hx := B.exec
  have hb := B.bytes
  have hr := B.returns
  have hts := atoms_spec (ws := wsX6_put) B.pre
  have hown : s.vm.findClass RX6 = some m.cls := findClass_of_methodNamed B.named
  have hlocks := B.notSynchronized
  have hiX6 : ∀ w ∈ u_ws RX6 TX6 23, w ∈ wsX6_put := by decide +kernel
  have kf59 := hts (.fieldLink RX6 59 "SortingLineModel" "fault" "I") (by decide +kernel)
  have hS : va_S (ad_A g 16) s.heap s.heap [] := va_S.rf
  have hl := lv_entry ([.ref (g 0), .int (nI r), .int (nI c9), .int i, .long v]) (n := 7) (Nat.le_of_ble_eq_true rfl)
  rw [lg_entry_eq]
  generalize (lg_sl ([.ref (g 0), .int (nI r), .int (nI c9), .int i, .long v]) ++ List.replicate (7 - (lg_sl ([.ref (g 0), .int (nI r), .int (nI c9), .int i, .long v])).length) Slot.unset).toArray = ls at hl ⊢
  have hl : lv_has ls 7 [(0, .ref (g 0)), (1, .int (nI r)), (2, .int (nI c9)), (3, .int i), (4, .long v)] := hl
  refine lv_aload_n hx hb dX6_put_0 rfl (lv_at hl 0 rfl) ?_
  refine lv_iconst (v := 0) hx hb dX6_put_1 (by decide) ?_
  refine va_put (D := D) (ci := 6) (v := .int 0) (ty := .int) (C := RX6) (T := TX6) (N := 23) hx hb hts hiX6 tyX6 tyX6_ok nmX6 hown hK.1 hP (mo_D hh) hS 0 rfl rfl 0 (by decide) kf59 (fun _ h9 => h9) rfl (by decide +kernel) rfl rfl (Nat.le_of_ble_eq_true rfl) dX6_put_2 (fun H locs hP _ hS => ?_)
  have hP : va_P D kC (mo_W cI cJ g 0 (nI n) F Wt Sz Nu Pl Bf (nI b) (nI k) G Wk To Sl Sd (nI as) wo pa fa Fo) H := hP
  refine lv_aload_n hx hb dX6_put_5 rfl (lv_at hl 0 rfl) ?_
  refine lv_iload_n hx hb dX6_put_6 rfl (lv_at hl 1 rfl) ?_
  refine lv_iload_n hx hb dX6_put_7 rfl (lv_at hl 2 rfl) ?_
  refine lv_iconst (v := 4) hx hb dX6_put_8 (by decide) ?_
  refine lv_bipush (v := 6) hx hb dX6_put_9 (by decide) ?_
  refine pu_calli (va_runV (As := [.int (nI r), .int (nI c9), .int 4, .int 6]) (rest := []) ⟨hx, hb, hml, hown, hts⟩ (c_X6_refusal_a hh hn (nI r) (nI c9) 4 6 (p_in_nI hr9 (by omega)) (hq)) (cwV 4 hts gX6_put_X6_refusal rfl rfl rfl (by decide +kernel) ⟨Nat.le_of_ble_eq_true rfl, Nat.le_of_ble_eq_true rfl⟩) (wd_preV (ci := 6) (q0 := 0) hP hK rfl rfl) rfl rfl hl.1 rfl (lv_room (Nat.le_of_ble_eq_true rfl)) dX6_put_11 ⟨Nat.zero_le _, Nat.zero_le _⟩) ?_
  refine lv_istore (lv' := [(6, .int 0), (0, .ref (g 0)), (1, .int (nI r)), (2, .int (nI c9)), (3, .int i), (4, .long v)]) hx hb dX6_put_14 hl (by decide) rfl (fun ls hl => ?_)
  refine lv_iload hx hb dX6_put_16 (lv_at hl 0 rfl) ?_
  refine lv_if_ge (tgt := 24) hx hb dX6_put_18 (by decide) (fun _ => ?_) (fun h9 => absurd (by decide) h9)
  refine lv_aload_n hx hb dX6_put_24 rfl (lv_at hl 1 rfl) ?_
  refine lv_iload_n hx hb dX6_put_25 rfl (lv_at hl 2 rfl) ?_
  refine lv_iload_n hx hb dX6_put_26 rfl (lv_at hl 3 rfl) ?_
  refine pu_callb (va_runV (As := [.int (nI r), .int (nI c9)]) (rest := []) ⟨hx, hb, hml, hown, hts⟩ (c_X6_isOf hh hn r (by omega) a ha hFa c9 (by omega)) (cwV 2 hts gX6_put_X6_isOf rfl rfl rfl (by decide +kernel) ⟨Nat.le_of_ble_eq_true rfl, Nat.le_of_ble_eq_true rfl⟩) (wd_preV (ci := 6) (q0 := 0) hP hK rfl rfl) rfl rfl hl.1 rfl (lv_room (Nat.le_of_ble_eq_true rfl)) dX6_put_27 ⟨Nat.zero_le _, Nat.zero_le _⟩) (fun h9 => absurd (h1) (by rw [h9]; decide)) (fun _ => ?_)
  refine lv_if_ne (tgt := 39) hx hb dX6_put_30 (by decide) (fun h9 => absurd (by decide) h9) (fun _ => ?_)
  refine lv_aload_n hx hb dX6_put_33 rfl (lv_at hl 1 rfl) ?_
  refine lv_iconst (v := 1) hx hb dX6_put_34 (by decide) ?_
  refine mu_calli (va_runV (As := [.int 1]) (rest := []) ⟨hx, hb, hml, hown, hts⟩ (c_X6_found hh 1 (by omega) (by omega)) (cwV 1 hts gX6_put_X6_found rfl rfl rfl (by decide +kernel) ⟨Nat.le_of_ble_eq_true rfl, Nat.le_of_ble_eq_true rfl⟩) (wd_preV (ci := 6) (q0 := 0) hP hK rfl rfl) rfl rfl hl.1 rfl (lv_room (Nat.le_of_ble_eq_true rfl)) dX6_put_35 ⟨Nat.zero_le _, Nat.zero_le _⟩) hS (fun H locs hP hS => ?_)
  have hP : va_P D kC (mo_W cI cJ g 0 (nI n) F Wt Sz Nu Pl Bf (nI b) (nI k) G Wk To Sl Sd (nI as) wo pa fa (upd Fo 1 (Fo 1 + 1))) H := hP
  refine tp_i (y := (-21)) (by decide) ?_
  exact W.iret (v := (-21)) hx hb hr (fun t9 ht _ => ⟨congrArg (fun z => Outcome.returned (some (Value.int z))) (rfl), by rw [ht]; exact hP, hS.F ht⟩) hS.2.2 dX6_put_38
set_option maxHeartbeats 4000000 in
set_option maxRecDepth 100000 in
theorem c_X6_put_b (hh : ad_ok g 16) (hn : n ≤ 100) (r : Nat) (hr9 : r < n) (a : Nat) (ha : a < 16) (hFa : F r = nI a) (c9 : Nat) (hc : c9 < 18) (hq : q_in (nI c9) 4 6 = true) (v : Int64) (z : Nat) (hz : Sz r = nI z) (hz8 : z ≤ 8) (i : Int32) (h1 : ko (F r) (nI c9) = true) (h2 : p_in i (Sz r) = false) : Met l yX6_put wsX6_put ({ frames := 10, cells := 0, slots := 0, locals := 450 }) (wd_P D cI cJ [.ref (g 0), .int (nI r), .int (nI c9), .int i, .long v] (mo_W cI cJ g fx (nI n) F Wt Sz Nu Pl Bf (nI b) (nI k) G Wk To Sl Sd (nI as) wo pa fa Fo)) (mu_Q D (ad_A g 16) (some (.int (-23))) (mo_W cI cJ g 0 (nI n) F Wt Sz Nu Pl Bf (nI b) (nI k) G Wk To Sl Sd (nI as) wo pa fa (upd Fo 3 (Fo 3 + 1)))) 0 0 (ad_A g 16) := by
  refine Met.ofW (cc := cX6_put) (maxL := 7) (ret := (some .int)) (by decide) rfl ?_
  intro p e s m args below meth c s₁ B hml hv
  obtain ⟨rfl, hP, hK⟩ := hv
  have hx := B.exec
  have hb := B.bytes
  have hr := B.returns
  have hts := atoms_spec (ws := wsX6_put) B.pre
  have hown : s.vm.findClass RX6 = some m.cls := findClass_of_methodNamed B.named
  have hlocks := B.notSynchronized
  have hiX6 : ∀ w ∈ u_ws RX6 TX6 23, w ∈ wsX6_put := by decide +kernel
  have kf59 := hts (.fieldLink RX6 59 "SortingLineModel" "fault" "I") (by decide +kernel)
  have kf16 := hts (.fieldLink RX6 16 "SortingLineModel" "sizes" "[I") (by decide +kernel)
  have hS : va_S (ad_A g 16) s.heap s.heap [] := va_S.rf
  have hl := lv_entry ([.ref (g 0), .int (nI r), .int (nI c9), .int i, .long v]) (n := 7) (Nat.le_of_ble_eq_true rfl)
  rw [lg_entry_eq]
  generalize (lg_sl ([.ref (g 0), .int (nI r), .int (nI c9), .int i, .long v]) ++ List.replicate (7 - (lg_sl ([.ref (g 0), .int (nI r), .int (nI c9), .int i, .long v])).length) Slot.unset).toArray = ls at hl ⊢
  have hl : lv_has ls 7 [(0, .ref (g 0)), (1, .int (nI r)), (2, .int (nI c9)), (3, .int i), (4, .long v)] := hl
  refine lv_aload_n hx hb dX6_put_0 rfl (lv_at hl 0 rfl) ?_
  refine lv_iconst (v := 0) hx hb dX6_put_1 (by decide) ?_
  refine va_put (D := D) (ci := 6) (v := .int 0) (ty := .int) (C := RX6) (T := TX6) (N := 23) hx hb hts hiX6 tyX6 tyX6_ok nmX6 hown hK.1 hP (mo_D hh) hS 0 rfl rfl 0 (by decide) kf59 (fun _ h9 => h9) rfl (by decide +kernel) rfl rfl (Nat.le_of_ble_eq_true rfl) dX6_put_2 (fun H locs hP _ hS => ?_)
  have hP : va_P D kC (mo_W cI cJ g 0 (nI n) F Wt Sz Nu Pl Bf (nI b) (nI k) G Wk To Sl Sd (nI as) wo pa fa Fo) H := hP
  refine lv_aload_n hx hb dX6_put_5 rfl (lv_at hl 0 rfl) ?_
  refine lv_iload_n hx hb dX6_put_6 rfl (lv_at hl 1 rfl) ?_
  refine lv_iload_n hx hb dX6_put_7 rfl (lv_at hl 2 rfl) ?_
  refine lv_iconst (v := 4) hx hb dX6_put_8 (by decide) ?_
  refine lv_bipush (v := 6) hx hb dX6_put_9 (by decide) ?_
  refine pu_calli (va_runV (As := [.int (nI r), .int (nI c9), .int 4, .int 6]) (rest := []) ⟨hx, hb, hml, hown, hts⟩ (c_X6_refusal_a hh hn (nI r) (nI c9) 4 6 (p_in_nI hr9 (by omega)) (hq)) (cwV 4 hts gX6_put_X6_refusal rfl rfl rfl (by decide +kernel) ⟨Nat.le_of_ble_eq_true rfl, Nat.le_of_ble_eq_true rfl⟩) (wd_preV (ci := 6) (q0 := 0) hP hK rfl rfl) rfl rfl hl.1 rfl (lv_room (Nat.le_of_ble_eq_true rfl)) dX6_put_11 ⟨Nat.zero_le _, Nat.zero_le _⟩) ?_
  refine lv_istore (lv' := [(6, .int 0), (0, .ref (g 0)), (1, .int (nI r)), (2, .int (nI c9)), (3, .int i), (4, .long v)]) hx hb dX6_put_14 hl (by decide) rfl (fun ls hl => ?_)
  refine lv_iload hx hb dX6_put_16 (lv_at hl 0 rfl) ?_
  refine lv_if_ge (tgt := 24) hx hb dX6_put_18 (by decide) (fun _ => ?_) (fun h9 => absurd (by decide) h9)
  refine lv_aload_n hx hb dX6_put_24 rfl (lv_at hl 1 rfl) ?_
  refine lv_iload_n hx hb dX6_put_25 rfl (lv_at hl 2 rfl) ?_
  refine lv_iload_n hx hb dX6_put_26 rfl (lv_at hl 3 rfl) ?_
  refine pu_callb (va_runV (As := [.int (nI r), .int (nI c9)]) (rest := []) ⟨hx, hb, hml, hown, hts⟩ (c_X6_isOf hh hn r (by omega) a ha hFa c9 (by omega)) (cwV 2 hts gX6_put_X6_isOf rfl rfl rfl (by decide +kernel) ⟨Nat.le_of_ble_eq_true rfl, Nat.le_of_ble_eq_true rfl⟩) (wd_preV (ci := 6) (q0 := 0) hP hK rfl rfl) rfl rfl hl.1 rfl (lv_room (Nat.le_of_ble_eq_true rfl)) dX6_put_27 ⟨Nat.zero_le _, Nat.zero_le _⟩) (fun _ => ?_) (fun h9 => absurd (h1) (by rw [h9]; decide))
  refine lv_if_ne (tgt := 39) hx hb dX6_put_30 (by decide) (fun _ => ?_) (fun h9 => absurd h9 (by decide))
  refine lv_iload_n hx hb dX6_put_39 rfl (lv_at hl 4 rfl) ?_
  refine lv_iconst (v := 0) hx hb dX6_put_40 (by decide) ?_
  refine lv_aload_n hx hb dX6_put_41 rfl (lv_at hl 1 rfl) ?_
  refine va_get (D := D) (ci := 6) (v := .ref (g 3)) (C := RX6) (T := TX6) (N := 23) hx hb hts hiX6 hown hK.1 hP 0 rfl rfl 4 (by decide) kf16 (fun _ h9 => h9) rfl dX6_put_42 ?_
  refine lv_iload_n hx hb dX6_put_45 rfl (lv_at hl 2 rfl) ?_
  refine ga_ild hx hb hK hP 3 rfl r (rfl) (by omega) (by decide) dX6_put_46 ?_
  refine tp_i (y := nI z) (hz) ?_
  refine lv_iconst (v := 1) hx hb dX6_put_47 (by decide) ?_
  refine lv_isub hx hb dX6_put_48 ?_
  refine pu_callb (va_runS (As := [.int i, .int 0, .int ((nI z) - 1)]) (rest := []) ⟨hx, hb, hml, hown, hts⟩ (c_X6_in i 0 ((nI z) - 1)) (cwS 3 hts gX6_put_X6_in rfl rfl rfl (by decide +kernel) ⟨Nat.le_of_ble_eq_true rfl, Nat.le_of_ble_eq_true rfl⟩) (wd_preS hP hK) rfl rfl hl.1 rfl (lv_room (Nat.le_of_ble_eq_true rfl)) dX6_put_49 ⟨Nat.zero_le _, Nat.zero_le _⟩) (fun h9 => absurd (show q_in _ 0 (nI z - 1) = false from (q_p (by omega)).trans (hz ▸ h2)) (by rw [h9]; decide)) (fun _ => ?_)
  refine lv_if_ne (tgt := 61) hx hb dX6_put_52 (by decide) (fun h9 => absurd (by decide) h9) (fun _ => ?_)
  refine lv_aload_n hx hb dX6_put_55 rfl (lv_at hl 1 rfl) ?_
  refine lv_iconst (v := 3) hx hb dX6_put_56 (by decide) ?_
  refine mu_calli (va_runV (As := [.int 3]) (rest := []) ⟨hx, hb, hml, hown, hts⟩ (c_X6_found hh 3 (by omega) (by omega)) (cwV 1 hts gX6_put_X6_found rfl rfl rfl (by decide +kernel) ⟨Nat.le_of_ble_eq_true rfl, Nat.le_of_ble_eq_true rfl⟩) (wd_preV (ci := 6) (q0 := 0) hP hK rfl rfl) rfl rfl hl.1 rfl (lv_room (Nat.le_of_ble_eq_true rfl)) dX6_put_57 ⟨Nat.zero_le _, Nat.zero_le _⟩) hS (fun H locs hP hS => ?_)
  have hP : va_P D kC (mo_W cI cJ g 0 (nI n) F Wt Sz Nu Pl Bf (nI b) (nI k) G Wk To Sl Sd (nI as) wo pa fa (upd Fo 3 (Fo 3 + 1))) H := hP
  refine tp_i (y := (-23)) (by decide) ?_
  exact W.iret (v := (-23)) hx hb hr (fun t9 ht _ => ⟨congrArg (fun z => Outcome.returned (some (Value.int z))) (rfl), by rw [ht]; exact hP, hS.F ht⟩) hS.2.2 dX6_put_60
set_option maxHeartbeats 4000000 in
set_option maxRecDepth 100000 in
theorem c_X6_put_a (hh : ad_ok g 16) (hn : n ≤ 100) (r : Nat) (hr9 : r < n) (a : Nat) (ha : a < 16) (hFa : F r = nI a) (c9 : Nat) (hc : c9 < 18) (hq : q_in (nI c9) 4 6 = true) (v : Int64) (z : Nat) (hz : Sz r = nI z) (hz8 : z ≤ 8) (j : Nat) (hj : j < 8) (h1 : ko (F r) (nI c9) = true) (h2 : p_in (nI j) (Sz r) = true) : Met l yX6_put wsX6_put ({ frames := 10, cells := 0, slots := 0, locals := 450 }) (wd_P D cI cJ [.ref (g 0), .int (nI r), .int (nI c9), .int (nI j), .long v] (mo_W cI cJ g fx (nI n) F Wt Sz Nu Pl Bf (nI b) (nI k) G Wk To Sl Sd (nI as) wo pa fa Fo)) (mu_Q D (ad_A g 16) (some (.int 1)) (mo_W cI cJ g 0 (nI n) F Wt Sz (vp_updL Nu (8 * r + j) (lowS (nI c9) v)) Pl Bf (nI b) (nI k) G Wk To Sl Sd (nI as) wo pa fa Fo)) 0 0 (ad_A g 16) := by
  refine Met.ofW (cc := cX6_put) (maxL := 7) (ret := (some .int)) (by decide) rfl ?_
  intro p e s m args below meth c s₁ B hml hv
  obtain ⟨rfl, hP, hK⟩ := hv
  have hx := B.exec
  have hb := B.bytes
  have hr := B.returns
  have hts := atoms_spec (ws := wsX6_put) B.pre
  have hown : s.vm.findClass RX6 = some m.cls := findClass_of_methodNamed B.named
  have hlocks := B.notSynchronized
  have hiX6 : ∀ w ∈ u_ws RX6 TX6 23, w ∈ wsX6_put := by decide +kernel
  have kf59 := hts (.fieldLink RX6 59 "SortingLineModel" "fault" "I") (by decide +kernel)
  have kf16 := hts (.fieldLink RX6 16 "SortingLineModel" "sizes" "[I") (by decide +kernel)
  have kf19 := hts (.fieldLink RX6 19 "SortingLineModel" "numbers" "[J") (by decide +kernel)
  have hS : va_S (ad_A g 16) s.heap s.heap [] := va_S.rf
  have hl := lv_entry ([.ref (g 0), .int (nI r), .int (nI c9), .int (nI j), .long v]) (n := 7) (Nat.le_of_ble_eq_true rfl)
  rw [lg_entry_eq]
  generalize (lg_sl ([.ref (g 0), .int (nI r), .int (nI c9), .int (nI j), .long v]) ++ List.replicate (7 - (lg_sl ([.ref (g 0), .int (nI r), .int (nI c9), .int (nI j), .long v])).length) Slot.unset).toArray = ls at hl ⊢
  have hl : lv_has ls 7 [(0, .ref (g 0)), (1, .int (nI r)), (2, .int (nI c9)), (3, .int (nI j)), (4, .long v)] := hl
  refine lv_aload_n hx hb dX6_put_0 rfl (lv_at hl 0 rfl) ?_
  refine lv_iconst (v := 0) hx hb dX6_put_1 (by decide) ?_
  refine va_put (D := D) (ci := 6) (v := .int 0) (ty := .int) (C := RX6) (T := TX6) (N := 23) hx hb hts hiX6 tyX6 tyX6_ok nmX6 hown hK.1 hP (mo_D hh) hS 0 rfl rfl 0 (by decide) kf59 (fun _ h9 => h9) rfl (by decide +kernel) rfl rfl (Nat.le_of_ble_eq_true rfl) dX6_put_2 (fun H locs hP _ hS => ?_)
  have hP : va_P D kC (mo_W cI cJ g 0 (nI n) F Wt Sz Nu Pl Bf (nI b) (nI k) G Wk To Sl Sd (nI as) wo pa fa Fo) H := hP
  refine lv_aload_n hx hb dX6_put_5 rfl (lv_at hl 0 rfl) ?_
  refine lv_iload_n hx hb dX6_put_6 rfl (lv_at hl 1 rfl) ?_
  refine lv_iload_n hx hb dX6_put_7 rfl (lv_at hl 2 rfl) ?_
  refine lv_iconst (v := 4) hx hb dX6_put_8 (by decide) ?_
  refine lv_bipush (v := 6) hx hb dX6_put_9 (by decide) ?_
  refine pu_calli (va_runV (As := [.int (nI r), .int (nI c9), .int 4, .int 6]) (rest := []) ⟨hx, hb, hml, hown, hts⟩ (c_X6_refusal_a hh hn (nI r) (nI c9) 4 6 (p_in_nI hr9 (by omega)) (hq)) (cwV 4 hts gX6_put_X6_refusal rfl rfl rfl (by decide +kernel) ⟨Nat.le_of_ble_eq_true rfl, Nat.le_of_ble_eq_true rfl⟩) (wd_preV (ci := 6) (q0 := 0) hP hK rfl rfl) rfl rfl hl.1 rfl (lv_room (Nat.le_of_ble_eq_true rfl)) dX6_put_11 ⟨Nat.zero_le _, Nat.zero_le _⟩) ?_
  refine lv_istore (lv' := [(6, .int 0), (0, .ref (g 0)), (1, .int (nI r)), (2, .int (nI c9)), (3, .int (nI j)), (4, .long v)]) hx hb dX6_put_14 hl (by decide) rfl (fun ls hl => ?_)
  refine lv_iload hx hb dX6_put_16 (lv_at hl 0 rfl) ?_
  refine lv_if_ge (tgt := 24) hx hb dX6_put_18 (by decide) (fun _ => ?_) (fun h9 => absurd (by decide) h9)
  refine lv_aload_n hx hb dX6_put_24 rfl (lv_at hl 1 rfl) ?_
  refine lv_iload_n hx hb dX6_put_25 rfl (lv_at hl 2 rfl) ?_
  refine lv_iload_n hx hb dX6_put_26 rfl (lv_at hl 3 rfl) ?_
  refine pu_callb (va_runV (As := [.int (nI r), .int (nI c9)]) (rest := []) ⟨hx, hb, hml, hown, hts⟩ (c_X6_isOf hh hn r (by omega) a ha hFa c9 (by omega)) (cwV 2 hts gX6_put_X6_isOf rfl rfl rfl (by decide +kernel) ⟨Nat.le_of_ble_eq_true rfl, Nat.le_of_ble_eq_true rfl⟩) (wd_preV (ci := 6) (q0 := 0) hP hK rfl rfl) rfl rfl hl.1 rfl (lv_room (Nat.le_of_ble_eq_true rfl)) dX6_put_27 ⟨Nat.zero_le _, Nat.zero_le _⟩) (fun _ => ?_) (fun h9 => absurd (h1) (by rw [h9]; decide))
  refine lv_if_ne (tgt := 39) hx hb dX6_put_30 (by decide) (fun _ => ?_) (fun h9 => absurd h9 (by decide))
  refine lv_iload_n hx hb dX6_put_39 rfl (lv_at hl 4 rfl) ?_
  refine lv_iconst (v := 0) hx hb dX6_put_40 (by decide) ?_
  refine lv_aload_n hx hb dX6_put_41 rfl (lv_at hl 1 rfl) ?_
  refine va_get (D := D) (ci := 6) (v := .ref (g 3)) (C := RX6) (T := TX6) (N := 23) hx hb hts hiX6 hown hK.1 hP 0 rfl rfl 4 (by decide) kf16 (fun _ h9 => h9) rfl dX6_put_42 ?_
  refine lv_iload_n hx hb dX6_put_45 rfl (lv_at hl 2 rfl) ?_
  refine ga_ild hx hb hK hP 3 rfl r (rfl) (by omega) (by decide) dX6_put_46 ?_
  refine tp_i (y := nI z) (hz) ?_
  refine lv_iconst (v := 1) hx hb dX6_put_47 (by decide) ?_
  refine lv_isub hx hb dX6_put_48 ?_
  refine pu_callb (va_runS (As := [.int (nI j), .int 0, .int ((nI z) - 1)]) (rest := []) ⟨hx, hb, hml, hown, hts⟩ (c_X6_in (nI j) 0 ((nI z) - 1)) (cwS 3 hts gX6_put_X6_in rfl rfl rfl (by decide +kernel) ⟨Nat.le_of_ble_eq_true rfl, Nat.le_of_ble_eq_true rfl⟩) (wd_preS hP hK) rfl rfl hl.1 rfl (lv_room (Nat.le_of_ble_eq_true rfl)) dX6_put_49 ⟨Nat.zero_le _, Nat.zero_le _⟩) (fun _ => ?_) (fun h9 => absurd (show q_in _ 0 (nI z - 1) = true from (q_p (by omega)).trans (hz ▸ h2)) (by rw [h9]; decide))
  refine lv_if_ne (tgt := 61) hx hb dX6_put_52 (by decide) (fun _ => ?_) (fun h9 => absurd h9 (by decide))
  refine lv_aload_n hx hb dX6_put_61 rfl (lv_at hl 1 rfl) ?_
  refine va_get (D := D) (ci := 6) (v := .ref (g 4)) (C := RX6) (T := TX6) (N := 23) hx hb hts hiX6 hown hK.1 hP 0 rfl rfl 5 (by decide) kf19 (fun _ h9 => h9) rfl dX6_put_62 ?_
  refine lv_bipush (v := 8) hx hb dX6_put_65 (by decide) ?_
  refine lv_iload_n hx hb dX6_put_67 rfl (lv_at hl 2 rfl) ?_
  refine lv_imul hx hb dX6_put_68 ?_
  refine tp_i (y := nI (8 * r)) (pk_mul 8 r) ?_
  refine lv_iload_n hx hb dX6_put_69 rfl (lv_at hl 4 rfl) ?_
  refine lv_iadd hx hb dX6_put_70 ?_
  refine tp_i (y := nI ((8 * r) + j)) (nI_add (8 * r) j) ?_
  refine lv_iload_n hx hb dX6_put_71 rfl (lv_at hl 3 rfl) ?_
  refine lv_lload hx hb dX6_put_72 (lv_at hl 5 rfl) ?_
  refine pu_calll (va_runS (As := [.int (nI c9), .long v]) (rest := [.int (nI ((8 * r) + j)), .ref (g 4)]) ⟨hx, hb, hml, hown, hts⟩ (c_X6_low (nI c9) v) (cwS 2 hts gX6_put_X6_low rfl rfl rfl (by decide +kernel) ⟨Nat.le_of_ble_eq_true rfl, Nat.le_of_ble_eq_true rfl⟩) (wd_preS hP hK) rfl rfl hl.1 rfl (lv_room (Nat.le_of_ble_eq_true rfl)) dX6_put_74 ⟨Nat.zero_le _, Nat.zero_le _⟩) ?_
  refine ga_lst hx hb hK hP (mo_D hh) hS 4 rfl ((8 * r) + j) (rfl) (by omega) (by decide) dX6_put_77 (fun H locs hP hS => ?_)
  have hP : va_P D kC (mo_W cI cJ g 0 (nI n) F Wt Sz (vp_updL Nu ((8 * r) + j) (lowS (nI c9) v)) Pl Bf (nI b) (nI k) G Wk To Sl Sd (nI as) wo pa fa Fo) H := hP
  refine lv_iconst (v := 1) hx hb dX6_put_78 (by decide) ?_
  exact W.iret (v := 1) hx hb hr (fun t9 ht _ => ⟨congrArg (fun z => Outcome.returned (some (Value.int z))) (rfl), by rw [ht]; exact hP, hS.F ht⟩) hS.2.2 dX6_put_79
set_option maxHeartbeats 4000000 in
set_option maxRecDepth 100000 in
theorem c_X6_place_c (hh : ad_ok g 16) (hn : n ≤ 100) (r : Nat) (hr9 : r < n) (a : Nat) (ha : a < 16) (hFa : F r = nI a) (c9 : Nat) (hc : c9 < 18) (hq : q_in (nI c9) 7 15 = true) (i : Int32) (h1 : ko (F r) (nI c9) = false) : Met l yX6_place wsX6_place ({ frames := 10, cells := 0, slots := 0, locals := 450 }) (wd_P D cI cJ [.ref (g 0), .int (nI r), .int (nI c9), .int i] (mo_W cI cJ g fx (nI n) F Wt Sz Nu Pl Bf (nI b) (nI k) G Wk To Sl Sd (nI as) wo pa fa Fo)) (mu_Q D (ad_A g 16) (some (.int (-21))) (mo_W cI cJ g 0 (nI n) F Wt Sz Nu Pl Bf (nI b) (nI k) G Wk To Sl Sd (nI as) wo pa fa (upd Fo 1 (Fo 1 + 1)))) 0 0 (ad_A g 16) := by
  refine Met.ofW (cc := cX6_place) (maxL := 5) (ret := (some .int)) (by decide) rfl ?_
  intro p e s m args below meth c s₁ B hml hv
  obtain ⟨rfl, hP, hK⟩ := hv
  have hx := B.exec
  have hb := B.bytes
  have hr := B.returns
  have hts := atoms_spec (ws := wsX6_place) B.pre
  have hown : s.vm.findClass RX6 = some m.cls := findClass_of_methodNamed B.named
  have hlocks := B.notSynchronized
  have hiX6 : ∀ w ∈ u_ws RX6 TX6 23, w ∈ wsX6_place := by decide +kernel
  have kf59 := hts (.fieldLink RX6 59 "SortingLineModel" "fault" "I") (by decide +kernel)
  have hS : va_S (ad_A g 16) s.heap s.heap [] := va_S.rf
  have hl := lv_entry ([.ref (g 0), .int (nI r), .int (nI c9), .int i]) (n := 5) (Nat.le_of_ble_eq_true rfl)
  rw [lg_entry_eq]
  generalize (lg_sl ([.ref (g 0), .int (nI r), .int (nI c9), .int i]) ++ List.replicate (5 - (lg_sl ([.ref (g 0), .int (nI r), .int (nI c9), .int i])).length) Slot.unset).toArray = ls at hl ⊢
  have hl : lv_has ls 5 [(0, .ref (g 0)), (1, .int (nI r)), (2, .int (nI c9)), (3, .int i)] := hl
  refine lv_aload_n hx hb dX6_place_0 rfl (lv_at hl 0 rfl) ?_
  refine lv_iconst (v := 0) hx hb dX6_place_1 (by decide) ?_
  refine va_put (D := D) (ci := 6) (v := .int 0) (ty := .int) (C := RX6) (T := TX6) (N := 23) hx hb hts hiX6 tyX6 tyX6_ok nmX6 hown hK.1 hP (mo_D hh) hS 0 rfl rfl 0 (by decide) kf59 (fun _ h9 => h9) rfl (by decide +kernel) rfl rfl (Nat.le_of_ble_eq_true rfl) dX6_place_2 (fun H locs hP _ hS => ?_)
  have hP : va_P D kC (mo_W cI cJ g 0 (nI n) F Wt Sz Nu Pl Bf (nI b) (nI k) G Wk To Sl Sd (nI as) wo pa fa Fo) H := hP
  refine lv_aload_n hx hb dX6_place_5 rfl (lv_at hl 0 rfl) ?_
  refine lv_iload_n hx hb dX6_place_6 rfl (lv_at hl 1 rfl) ?_
  refine lv_iload_n hx hb dX6_place_7 rfl (lv_at hl 2 rfl) ?_
  refine lv_bipush (v := 7) hx hb dX6_place_8 (by decide) ?_
  refine lv_bipush (v := 15) hx hb dX6_place_10 (by decide) ?_
  refine pu_calli (va_runV (As := [.int (nI r), .int (nI c9), .int 7, .int 15]) (rest := []) ⟨hx, hb, hml, hown, hts⟩ (c_X6_refusal_a hh hn (nI r) (nI c9) 7 15 (p_in_nI hr9 (by omega)) (hq)) (cwV 4 hts gX6_place_X6_refusal rfl rfl rfl (by decide +kernel) ⟨Nat.le_of_ble_eq_true rfl, Nat.le_of_ble_eq_true rfl⟩) (wd_preV (ci := 6) (q0 := 0) hP hK rfl rfl) rfl rfl hl.1 rfl (lv_room (Nat.le_of_ble_eq_true rfl)) dX6_place_12 ⟨Nat.zero_le _, Nat.zero_le _⟩) ?_
  refine lv_istore (lv' := [(4, .int 0), (0, .ref (g 0)), (1, .int (nI r)), (2, .int (nI c9)), (3, .int i)]) hx hb dX6_place_15 hl (by decide) rfl (fun ls hl => ?_)
  refine lv_iload hx hb dX6_place_17 (lv_at hl 0 rfl) ?_
  refine lv_if_ge (tgt := 25) hx hb dX6_place_19 (by decide) (fun _ => ?_) (fun h9 => absurd (by decide) h9)
  refine lv_aload_n hx hb dX6_place_25 rfl (lv_at hl 1 rfl) ?_
  refine lv_iload_n hx hb dX6_place_26 rfl (lv_at hl 2 rfl) ?_
  refine lv_iload_n hx hb dX6_place_27 rfl (lv_at hl 3 rfl) ?_
  refine pu_callb (va_runV (As := [.int (nI r), .int (nI c9)]) (rest := []) ⟨hx, hb, hml, hown, hts⟩ (c_X6_isOf hh hn r (by omega) a ha hFa c9 (by omega)) (cwV 2 hts gX6_place_X6_isOf rfl rfl rfl (by decide +kernel) ⟨Nat.le_of_ble_eq_true rfl, Nat.le_of_ble_eq_true rfl⟩) (wd_preV (ci := 6) (q0 := 0) hP hK rfl rfl) rfl rfl hl.1 rfl (lv_room (Nat.le_of_ble_eq_true rfl)) dX6_place_28 ⟨Nat.zero_le _, Nat.zero_le _⟩) (fun h9 => absurd (h1) (by rw [h9]; decide)) (fun _ => ?_)
  refine lv_if_ne (tgt := 40) hx hb dX6_place_31 (by decide) (fun h9 => absurd (by decide) h9) (fun _ => ?_)
  refine lv_aload_n hx hb dX6_place_34 rfl (lv_at hl 1 rfl) ?_
  refine lv_iconst (v := 1) hx hb dX6_place_35 (by decide) ?_
  refine mu_calli (va_runV (As := [.int 1]) (rest := []) ⟨hx, hb, hml, hown, hts⟩ (c_X6_found hh 1 (by omega) (by omega)) (cwV 1 hts gX6_place_X6_found rfl rfl rfl (by decide +kernel) ⟨Nat.le_of_ble_eq_true rfl, Nat.le_of_ble_eq_true rfl⟩) (wd_preV (ci := 6) (q0 := 0) hP hK rfl rfl) rfl rfl hl.1 rfl (lv_room (Nat.le_of_ble_eq_true rfl)) dX6_place_36 ⟨Nat.zero_le _, Nat.zero_le _⟩) hS (fun H locs hP hS => ?_)
  have hP : va_P D kC (mo_W cI cJ g 0 (nI n) F Wt Sz Nu Pl Bf (nI b) (nI k) G Wk To Sl Sd (nI as) wo pa fa (upd Fo 1 (Fo 1 + 1))) H := hP
  refine tp_i (y := (-21)) (by decide) ?_
  exact W.iret (v := (-21)) hx hb hr (fun t9 ht _ => ⟨congrArg (fun z => Outcome.returned (some (Value.int z))) (rfl), by rw [ht]; exact hP, hS.F ht⟩) hS.2.2 dX6_place_39
set_option maxHeartbeats 4000000 in
set_option maxRecDepth 100000 in
theorem c_X6_place_b (hh : ad_ok g 16) (hn : n ≤ 100) (r : Nat) (hr9 : r < n) (a : Nat) (ha : a < 16) (hFa : F r = nI a) (c9 : Nat) (hc : c9 < 18) (hq : q_in (nI c9) 7 15 = true) (z : Nat) (hz : Sz r = nI z) (hz8 : z ≤ 8) (i : Int32) (h1 : ko (F r) (nI c9) = true) (h2 : p_in i (Sz r) = false) : Met l yX6_place wsX6_place ({ frames := 10, cells := 0, slots := 0, locals := 450 }) (wd_P D cI cJ [.ref (g 0), .int (nI r), .int (nI c9), .int i] (mo_W cI cJ g fx (nI n) F Wt Sz Nu Pl Bf (nI b) (nI k) G Wk To Sl Sd (nI as) wo pa fa Fo)) (mu_Q D (ad_A g 16) (some (.int (-23))) (mo_W cI cJ g 0 (nI n) F Wt Sz Nu Pl Bf (nI b) (nI k) G Wk To Sl Sd (nI as) wo pa fa (upd Fo 3 (Fo 3 + 1)))) 0 0 (ad_A g 16) := by
  refine Met.ofW (cc := cX6_place) (maxL := 5) (ret := (some .int)) (by decide) rfl ?_
  intro p e s m args below meth c s₁ B hml hv
  obtain ⟨rfl, hP, hK⟩ := hv
  have hx := B.exec
  have hb := B.bytes
  have hr := B.returns
  have hts := atoms_spec (ws := wsX6_place) B.pre
  have hown : s.vm.findClass RX6 = some m.cls := findClass_of_methodNamed B.named
  have hlocks := B.notSynchronized
  have hiX6 : ∀ w ∈ u_ws RX6 TX6 23, w ∈ wsX6_place := by decide +kernel
  have kf59 := hts (.fieldLink RX6 59 "SortingLineModel" "fault" "I") (by decide +kernel)
  have kf16 := hts (.fieldLink RX6 16 "SortingLineModel" "sizes" "[I") (by decide +kernel)
  have hS : va_S (ad_A g 16) s.heap s.heap [] := va_S.rf
  have hl := lv_entry ([.ref (g 0), .int (nI r), .int (nI c9), .int i]) (n := 5) (Nat.le_of_ble_eq_true rfl)
  rw [lg_entry_eq]
  generalize (lg_sl ([.ref (g 0), .int (nI r), .int (nI c9), .int i]) ++ List.replicate (5 - (lg_sl ([.ref (g 0), .int (nI r), .int (nI c9), .int i])).length) Slot.unset).toArray = ls at hl ⊢
  have hl : lv_has ls 5 [(0, .ref (g 0)), (1, .int (nI r)), (2, .int (nI c9)), (3, .int i)] := hl
  refine lv_aload_n hx hb dX6_place_0 rfl (lv_at hl 0 rfl) ?_
  refine lv_iconst (v := 0) hx hb dX6_place_1 (by decide) ?_
  refine va_put (D := D) (ci := 6) (v := .int 0) (ty := .int) (C := RX6) (T := TX6) (N := 23) hx hb hts hiX6 tyX6 tyX6_ok nmX6 hown hK.1 hP (mo_D hh) hS 0 rfl rfl 0 (by decide) kf59 (fun _ h9 => h9) rfl (by decide +kernel) rfl rfl (Nat.le_of_ble_eq_true rfl) dX6_place_2 (fun H locs hP _ hS => ?_)
  have hP : va_P D kC (mo_W cI cJ g 0 (nI n) F Wt Sz Nu Pl Bf (nI b) (nI k) G Wk To Sl Sd (nI as) wo pa fa Fo) H := hP
  refine lv_aload_n hx hb dX6_place_5 rfl (lv_at hl 0 rfl) ?_
  refine lv_iload_n hx hb dX6_place_6 rfl (lv_at hl 1 rfl) ?_
  refine lv_iload_n hx hb dX6_place_7 rfl (lv_at hl 2 rfl) ?_
  refine lv_bipush (v := 7) hx hb dX6_place_8 (by decide) ?_
  refine lv_bipush (v := 15) hx hb dX6_place_10 (by decide) ?_
  refine pu_calli (va_runV (As := [.int (nI r), .int (nI c9), .int 7, .int 15]) (rest := []) ⟨hx, hb, hml, hown, hts⟩ (c_X6_refusal_a hh hn (nI r) (nI c9) 7 15 (p_in_nI hr9 (by omega)) (hq)) (cwV 4 hts gX6_place_X6_refusal rfl rfl rfl (by decide +kernel) ⟨Nat.le_of_ble_eq_true rfl, Nat.le_of_ble_eq_true rfl⟩) (wd_preV (ci := 6) (q0 := 0) hP hK rfl rfl) rfl rfl hl.1 rfl (lv_room (Nat.le_of_ble_eq_true rfl)) dX6_place_12 ⟨Nat.zero_le _, Nat.zero_le _⟩) ?_
  refine lv_istore (lv' := [(4, .int 0), (0, .ref (g 0)), (1, .int (nI r)), (2, .int (nI c9)), (3, .int i)]) hx hb dX6_place_15 hl (by decide) rfl (fun ls hl => ?_)
  refine lv_iload hx hb dX6_place_17 (lv_at hl 0 rfl) ?_
  refine lv_if_ge (tgt := 25) hx hb dX6_place_19 (by decide) (fun _ => ?_) (fun h9 => absurd (by decide) h9)
  refine lv_aload_n hx hb dX6_place_25 rfl (lv_at hl 1 rfl) ?_
  refine lv_iload_n hx hb dX6_place_26 rfl (lv_at hl 2 rfl) ?_
  refine lv_iload_n hx hb dX6_place_27 rfl (lv_at hl 3 rfl) ?_
  refine pu_callb (va_runV (As := [.int (nI r), .int (nI c9)]) (rest := []) ⟨hx, hb, hml, hown, hts⟩ (c_X6_isOf hh hn r (by omega) a ha hFa c9 (by omega)) (cwV 2 hts gX6_place_X6_isOf rfl rfl rfl (by decide +kernel) ⟨Nat.le_of_ble_eq_true rfl, Nat.le_of_ble_eq_true rfl⟩) (wd_preV (ci := 6) (q0 := 0) hP hK rfl rfl) rfl rfl hl.1 rfl (lv_room (Nat.le_of_ble_eq_true rfl)) dX6_place_28 ⟨Nat.zero_le _, Nat.zero_le _⟩) (fun _ => ?_) (fun h9 => absurd (h1) (by rw [h9]; decide))
  refine lv_if_ne (tgt := 40) hx hb dX6_place_31 (by decide) (fun _ => ?_) (fun h9 => absurd h9 (by decide))
  refine lv_iload_n hx hb dX6_place_40 rfl (lv_at hl 4 rfl) ?_
  refine lv_iconst (v := 0) hx hb dX6_place_41 (by decide) ?_
  refine lv_aload_n hx hb dX6_place_42 rfl (lv_at hl 1 rfl) ?_
  refine va_get (D := D) (ci := 6) (v := .ref (g 3)) (C := RX6) (T := TX6) (N := 23) hx hb hts hiX6 hown hK.1 hP 0 rfl rfl 4 (by decide) kf16 (fun _ h9 => h9) rfl dX6_place_43 ?_
  refine lv_iload_n hx hb dX6_place_46 rfl (lv_at hl 2 rfl) ?_
  refine ga_ild hx hb hK hP 3 rfl r (rfl) (by omega) (by decide) dX6_place_47 ?_
  refine tp_i (y := nI z) (hz) ?_
  refine lv_iconst (v := 1) hx hb dX6_place_48 (by decide) ?_
  refine lv_isub hx hb dX6_place_49 ?_
  refine pu_callb (va_runS (As := [.int i, .int 0, .int ((nI z) - 1)]) (rest := []) ⟨hx, hb, hml, hown, hts⟩ (c_X6_in i 0 ((nI z) - 1)) (cwS 3 hts gX6_place_X6_in rfl rfl rfl (by decide +kernel) ⟨Nat.le_of_ble_eq_true rfl, Nat.le_of_ble_eq_true rfl⟩) (wd_preS hP hK) rfl rfl hl.1 rfl (lv_room (Nat.le_of_ble_eq_true rfl)) dX6_place_50 ⟨Nat.zero_le _, Nat.zero_le _⟩) (fun h9 => absurd (show q_in _ 0 (nI z - 1) = false from (q_p (by omega)).trans (hz ▸ h2)) (by rw [h9]; decide)) (fun _ => ?_)
  refine lv_if_eq (tgt := 73) hx hb dX6_place_53 (by decide) (fun _ => ?_) (fun h9 => absurd (by decide) h9)
  refine lv_aload_n hx hb dX6_place_73 rfl (lv_at hl 1 rfl) ?_
  refine lv_iconst (v := 3) hx hb dX6_place_74 (by decide) ?_
  refine mu_calli (va_runV (As := [.int 3]) (rest := []) ⟨hx, hb, hml, hown, hts⟩ (c_X6_found hh 3 (by omega) (by omega)) (cwV 1 hts gX6_place_X6_found rfl rfl rfl (by decide +kernel) ⟨Nat.le_of_ble_eq_true rfl, Nat.le_of_ble_eq_true rfl⟩) (wd_preV (ci := 6) (q0 := 0) hP hK rfl rfl) rfl rfl hl.1 rfl (lv_room (Nat.le_of_ble_eq_true rfl)) dX6_place_75 ⟨Nat.zero_le _, Nat.zero_le _⟩) hS (fun H locs hP hS => ?_)
  have hP : va_P D kC (mo_W cI cJ g 0 (nI n) F Wt Sz Nu Pl Bf (nI b) (nI k) G Wk To Sl Sd (nI as) wo pa fa (upd Fo 3 (Fo 3 + 1))) H := hP
  refine tp_i (y := (-23)) (by decide) ?_
  exact W.iret (v := (-23)) hx hb hr (fun t9 ht _ => ⟨congrArg (fun z => Outcome.returned (some (Value.int z))) (rfl), by rw [ht]; exact hP, hS.F ht⟩) hS.2.2 dX6_place_78
set_option maxHeartbeats 4000000 in
set_option maxRecDepth 100000 in
theorem c_X6_place_a (hh : ad_ok g 16) (hn : n ≤ 100) (r : Nat) (hr9 : r < n) (a : Nat) (ha : a < 16) (hFa : F r = nI a) (c9 : Nat) (hc : c9 < 18) (hq : q_in (nI c9) 7 15 = true) (z : Nat) (hz : Sz r = nI z) (hz8 : z ≤ 8) (j : Nat) (hj : j < 8) (h1 : ko (F r) (nI c9) = true) (h2 : p_in (nI j) (Sz r) = true) : Met l yX6_place wsX6_place ({ frames := 10, cells := 0, slots := 0, locals := 450 }) (wd_P D cI cJ [.ref (g 0), .int (nI r), .int (nI c9), .int (nI j)] (mo_W cI cJ g fx (nI n) F Wt Sz Nu Pl Bf (nI b) (nI k) G Wk To Sl Sd (nI as) wo pa fa Fo)) (mu_Q D (ad_A g 16) (some (.int (tl (Pl (8 * r + j))))) (mo_W cI cJ g 0 (nI n) F Wt Sz Nu Pl Bf (nI b) (nI k) G Wk To Sl Sd (nI as) wo pa fa Fo)) 0 0 (ad_A g 16) := by
  refine Met.ofW (cc := cX6_place) (maxL := 5) (ret := (some .int)) (by decide) rfl ?_
  intro p e s m args below meth c s₁ B hml hv
  obtain ⟨rfl, hP, hK⟩ := hv
  have hx := B.exec
  have hb := B.bytes
  have hr := B.returns
  have hts := atoms_spec (ws := wsX6_place) B.pre
  have hown : s.vm.findClass RX6 = some m.cls := findClass_of_methodNamed B.named
  have hlocks := B.notSynchronized
  have hiX6 : ∀ w ∈ u_ws RX6 TX6 23, w ∈ wsX6_place := by decide +kernel
  have kf59 := hts (.fieldLink RX6 59 "SortingLineModel" "fault" "I") (by decide +kernel)
  have kf16 := hts (.fieldLink RX6 16 "SortingLineModel" "sizes" "[I") (by decide +kernel)
  have kf23 := hts (.fieldLink RX6 23 "SortingLineModel" "places" "[I") (by decide +kernel)
  have hS : va_S (ad_A g 16) s.heap s.heap [] := va_S.rf
  have hl := lv_entry ([.ref (g 0), .int (nI r), .int (nI c9), .int (nI j)]) (n := 5) (Nat.le_of_ble_eq_true rfl)
  rw [lg_entry_eq]
  generalize (lg_sl ([.ref (g 0), .int (nI r), .int (nI c9), .int (nI j)]) ++ List.replicate (5 - (lg_sl ([.ref (g 0), .int (nI r), .int (nI c9), .int (nI j)])).length) Slot.unset).toArray = ls at hl ⊢
  have hl : lv_has ls 5 [(0, .ref (g 0)), (1, .int (nI r)), (2, .int (nI c9)), (3, .int (nI j))] := hl
  refine lv_aload_n hx hb dX6_place_0 rfl (lv_at hl 0 rfl) ?_
  refine lv_iconst (v := 0) hx hb dX6_place_1 (by decide) ?_
  refine va_put (D := D) (ci := 6) (v := .int 0) (ty := .int) (C := RX6) (T := TX6) (N := 23) hx hb hts hiX6 tyX6 tyX6_ok nmX6 hown hK.1 hP (mo_D hh) hS 0 rfl rfl 0 (by decide) kf59 (fun _ h9 => h9) rfl (by decide +kernel) rfl rfl (Nat.le_of_ble_eq_true rfl) dX6_place_2 (fun H locs hP _ hS => ?_)
  have hP : va_P D kC (mo_W cI cJ g 0 (nI n) F Wt Sz Nu Pl Bf (nI b) (nI k) G Wk To Sl Sd (nI as) wo pa fa Fo) H := hP
  refine lv_aload_n hx hb dX6_place_5 rfl (lv_at hl 0 rfl) ?_
  refine lv_iload_n hx hb dX6_place_6 rfl (lv_at hl 1 rfl) ?_
  refine lv_iload_n hx hb dX6_place_7 rfl (lv_at hl 2 rfl) ?_
  refine lv_bipush (v := 7) hx hb dX6_place_8 (by decide) ?_
  refine lv_bipush (v := 15) hx hb dX6_place_10 (by decide) ?_
  refine pu_calli (va_runV (As := [.int (nI r), .int (nI c9), .int 7, .int 15]) (rest := []) ⟨hx, hb, hml, hown, hts⟩ (c_X6_refusal_a hh hn (nI r) (nI c9) 7 15 (p_in_nI hr9 (by omega)) (hq)) (cwV 4 hts gX6_place_X6_refusal rfl rfl rfl (by decide +kernel) ⟨Nat.le_of_ble_eq_true rfl, Nat.le_of_ble_eq_true rfl⟩) (wd_preV (ci := 6) (q0 := 0) hP hK rfl rfl) rfl rfl hl.1 rfl (lv_room (Nat.le_of_ble_eq_true rfl)) dX6_place_12 ⟨Nat.zero_le _, Nat.zero_le _⟩) ?_
  refine lv_istore (lv' := [(4, .int 0), (0, .ref (g 0)), (1, .int (nI r)), (2, .int (nI c9)), (3, .int (nI j))]) hx hb dX6_place_15 hl (by decide) rfl (fun ls hl => ?_)
  refine lv_iload hx hb dX6_place_17 (lv_at hl 0 rfl) ?_
  refine lv_if_ge (tgt := 25) hx hb dX6_place_19 (by decide) (fun _ => ?_) (fun h9 => absurd (by decide) h9)
  refine lv_aload_n hx hb dX6_place_25 rfl (lv_at hl 1 rfl) ?_
  refine lv_iload_n hx hb dX6_place_26 rfl (lv_at hl 2 rfl) ?_
  refine lv_iload_n hx hb dX6_place_27 rfl (lv_at hl 3 rfl) ?_
  refine pu_callb (va_runV (As := [.int (nI r), .int (nI c9)]) (rest := []) ⟨hx, hb, hml, hown, hts⟩ (c_X6_isOf hh hn r (by omega) a ha hFa c9 (by omega)) (cwV 2 hts gX6_place_X6_isOf rfl rfl rfl (by decide +kernel) ⟨Nat.le_of_ble_eq_true rfl, Nat.le_of_ble_eq_true rfl⟩) (wd_preV (ci := 6) (q0 := 0) hP hK rfl rfl) rfl rfl hl.1 rfl (lv_room (Nat.le_of_ble_eq_true rfl)) dX6_place_28 ⟨Nat.zero_le _, Nat.zero_le _⟩) (fun _ => ?_) (fun h9 => absurd (h1) (by rw [h9]; decide))
  refine lv_if_ne (tgt := 40) hx hb dX6_place_31 (by decide) (fun _ => ?_) (fun h9 => absurd h9 (by decide))
  refine lv_iload_n hx hb dX6_place_40 rfl (lv_at hl 4 rfl) ?_
  refine lv_iconst (v := 0) hx hb dX6_place_41 (by decide) ?_
  refine lv_aload_n hx hb dX6_place_42 rfl (lv_at hl 1 rfl) ?_
  refine va_get (D := D) (ci := 6) (v := .ref (g 3)) (C := RX6) (T := TX6) (N := 23) hx hb hts hiX6 hown hK.1 hP 0 rfl rfl 4 (by decide) kf16 (fun _ h9 => h9) rfl dX6_place_43 ?_
  refine lv_iload_n hx hb dX6_place_46 rfl (lv_at hl 2 rfl) ?_
  refine ga_ild hx hb hK hP 3 rfl r (rfl) (by omega) (by decide) dX6_place_47 ?_
  refine tp_i (y := nI z) (hz) ?_
  refine lv_iconst (v := 1) hx hb dX6_place_48 (by decide) ?_
  refine lv_isub hx hb dX6_place_49 ?_
  refine pu_callb (va_runS (As := [.int (nI j), .int 0, .int ((nI z) - 1)]) (rest := []) ⟨hx, hb, hml, hown, hts⟩ (c_X6_in (nI j) 0 ((nI z) - 1)) (cwS 3 hts gX6_place_X6_in rfl rfl rfl (by decide +kernel) ⟨Nat.le_of_ble_eq_true rfl, Nat.le_of_ble_eq_true rfl⟩) (wd_preS hP hK) rfl rfl hl.1 rfl (lv_room (Nat.le_of_ble_eq_true rfl)) dX6_place_50 ⟨Nat.zero_le _, Nat.zero_le _⟩) (fun _ => ?_) (fun h9 => absurd (show q_in _ 0 (nI z - 1) = true from (q_p (by omega)).trans (hz ▸ h2)) (by rw [h9]; decide))
  refine lv_if_eq (tgt := 73) hx hb dX6_place_53 (by decide) (fun h9 => absurd h9 (by decide)) (fun _ => ?_)
  refine lv_aload_n hx hb dX6_place_56 rfl (lv_at hl 1 rfl) ?_
  refine va_get (D := D) (ci := 6) (v := .ref (g 5)) (C := RX6) (T := TX6) (N := 23) hx hb hts hiX6 hown hK.1 hP 0 rfl rfl 6 (by decide) kf23 (fun _ h9 => h9) rfl dX6_place_57 ?_
  refine lv_bipush (v := 8) hx hb dX6_place_60 (by decide) ?_
  refine lv_iload_n hx hb dX6_place_62 rfl (lv_at hl 2 rfl) ?_
  refine lv_imul hx hb dX6_place_63 ?_
  refine tp_i (y := nI (8 * r)) (pk_mul 8 r) ?_
  refine lv_iload_n hx hb dX6_place_64 rfl (lv_at hl 4 rfl) ?_
  refine lv_iadd hx hb dX6_place_65 ?_
  refine tp_i (y := nI ((8 * r) + j)) (nI_add (8 * r) j) ?_
  refine ga_ild hx hb hK hP 5 rfl ((8 * r) + j) (rfl) (by omega) (by decide) dX6_place_66 ?_
  refine pu_calli (va_runS (As := [.int (Pl ((8 * r) + j))]) (rest := []) ⟨hx, hb, hml, hown, hts⟩ (c_X6_told (Pl ((8 * r) + j))) (cwS 1 hts gX6_place_X6_told rfl rfl rfl (by decide +kernel) ⟨Nat.le_of_ble_eq_true rfl, Nat.le_of_ble_eq_true rfl⟩) (wd_preS hP hK) rfl rfl hl.1 rfl (lv_room (Nat.le_of_ble_eq_true rfl)) dX6_place_67 ⟨Nat.zero_le _, Nat.zero_le _⟩) ?_
  refine lv_goto (tgt := 78) hx hb dX6_place_70 (by decide) ?_
  exact W.iret (v := tl (Pl ((8 * r) + j))) hx hb hr (fun t9 ht _ => ⟨congrArg (fun z => Outcome.returned (some (Value.int z))) (rfl), by rw [ht]; exact hP, hS.F ht⟩) hS.2.2 dX6_place_78
set_option maxHeartbeats 4000000 in
set_option maxRecDepth 100000 in
theorem c_X6_number_u (hh : ad_ok g 16) (hn : n ≤ 100) (t kd i : Int32) (h1 : p_in t (nI n) = false) : Met l yX6_number wsX6_number ({ frames := 10, cells := 0, slots := 0, locals := 450 }) (wd_P D cI cJ [.ref (g 0), .int t, .int kd, .int i] (mo_W cI cJ g fx (nI n) F Wt Sz Nu Pl Bf (nI b) (nI k) G Wk To Sl Sd (nI as) wo pa fa Fo)) (mu_Q D (ad_A g 16) (some (.long 0)) (mo_W cI cJ g 0 (nI n) F Wt Sz Nu Pl Bf (nI b) (nI k) G Wk To Sl Sd (nI as) wo pa fa Fo)) 0 0 (ad_A g 16) := by
  refine Met.ofW (cc := cX6_number) (maxL := 4) (ret := (some .long)) (by decide) rfl ?_
  intro p e s m args below meth c s₁ B hml hv
  obtain ⟨rfl, hP, hK⟩ := hv
  have hx := B.exec
  have hb := B.bytes
  have hr := B.returns
  have hts := atoms_spec (ws := wsX6_number) B.pre
  have hown : s.vm.findClass RX6 = some m.cls := findClass_of_methodNamed B.named
  have hlocks := B.notSynchronized
  have hiX6 : ∀ w ∈ u_ws RX6 TX6 23, w ∈ wsX6_number := by decide +kernel
  have kf59 := hts (.fieldLink RX6 59 "SortingLineModel" "fault" "I") (by decide +kernel)
  have hS : va_S (ad_A g 16) s.heap s.heap [] := va_S.rf
  have hl := lv_entry ([.ref (g 0), .int t, .int kd, .int i]) (n := 4) (Nat.le_of_ble_eq_true rfl)
  rw [lg_entry_eq]
  generalize (lg_sl ([.ref (g 0), .int t, .int kd, .int i]) ++ List.replicate (4 - (lg_sl ([.ref (g 0), .int t, .int kd, .int i])).length) Slot.unset).toArray = ls at hl ⊢
  have hl : lv_has ls 4 [(0, .ref (g 0)), (1, .int t), (2, .int kd), (3, .int i)] := hl
  refine lv_aload_n hx hb dX6_number_0 rfl (lv_at hl 0 rfl) ?_
  refine lv_iconst (v := 0) hx hb dX6_number_1 (by decide) ?_
  refine va_put (D := D) (ci := 6) (v := .int 0) (ty := .int) (C := RX6) (T := TX6) (N := 23) hx hb hts hiX6 tyX6 tyX6_ok nmX6 hown hK.1 hP (mo_D hh) hS 0 rfl rfl 0 (by decide) kf59 (fun _ h9 => h9) rfl (by decide +kernel) rfl rfl (Nat.le_of_ble_eq_true rfl) dX6_number_2 (fun H locs hP _ hS => ?_)
  have hP : va_P D kC (mo_W cI cJ g 0 (nI n) F Wt Sz Nu Pl Bf (nI b) (nI k) G Wk To Sl Sd (nI as) wo pa fa Fo) H := hP
  refine lv_aload_n hx hb dX6_number_5 rfl (lv_at hl 0 rfl) ?_
  refine lv_iload_n hx hb dX6_number_6 rfl (lv_at hl 1 rfl) ?_
  refine lv_iload_n hx hb dX6_number_7 rfl (lv_at hl 2 rfl) ?_
  refine lv_iconst (v := 4) hx hb dX6_number_8 (by decide) ?_
  refine lv_bipush (v := 6) hx hb dX6_number_9 (by decide) ?_
  refine pu_calli (va_runV (As := [.int t, .int kd, .int 4, .int 6]) (rest := []) ⟨hx, hb, hml, hown, hts⟩ (c_X6_refusal_u hh hn t kd 4 6 (by assumption)) (cwV 4 hts gX6_number_X6_refusal rfl rfl rfl (by decide +kernel) ⟨Nat.le_of_ble_eq_true rfl, Nat.le_of_ble_eq_true rfl⟩) (wd_preV (ci := 6) (q0 := 0) hP hK rfl rfl) rfl rfl hl.1 rfl (lv_room (Nat.le_of_ble_eq_true rfl)) dX6_number_11 ⟨Nat.zero_le _, Nat.zero_le _⟩) ?_
  refine lv_if_ge (tgt := 19) hx hb dX6_number_14 (by decide) (fun h9 => absurd h9 (by decide)) (fun _ => ?_)
  refine lv_lconst (v := 0) hx hb dX6_number_17 (by decide) ?_
  exact W.lret (v := 0) hx hb hr (fun t9 ht _ => ⟨congrArg (fun z => Outcome.returned (some (Value.long z))) (rfl), by rw [ht]; exact hP, hS.F ht⟩) hS.2.2 dX6_number_18
set_option maxHeartbeats 4000000 in
set_option maxRecDepth 100000 in
theorem c_X6_number_o (hh : ad_ok g 16) (hn : n ≤ 100) (t kd i : Int32) (h1 : p_in t (nI n) = true) (h2 : q_in kd 4 6 = false) : Met l yX6_number wsX6_number ({ frames := 10, cells := 0, slots := 0, locals := 450 }) (wd_P D cI cJ [.ref (g 0), .int t, .int kd, .int i] (mo_W cI cJ g fx (nI n) F Wt Sz Nu Pl Bf (nI b) (nI k) G Wk To Sl Sd (nI as) wo pa fa Fo)) (mu_Q D (ad_A g 16) (some (.long 0)) (mo_W cI cJ g 0 (nI n) F Wt Sz Nu Pl Bf (nI b) (nI k) G Wk To Sl Sd (nI as) wo pa fa Fo)) 0 0 (ad_A g 16) := by
  refine Met.ofW (cc := cX6_number) (maxL := 4) (ret := (some .long)) (by decide) rfl ?_
  intro p e s m args below meth c s₁ B hml hv
  obtain ⟨rfl, hP, hK⟩ := hv
  have hx := B.exec
  have hb := B.bytes
  have hr := B.returns
  have hts := atoms_spec (ws := wsX6_number) B.pre
  have hown : s.vm.findClass RX6 = some m.cls := findClass_of_methodNamed B.named
  have hlocks := B.notSynchronized
  have hiX6 : ∀ w ∈ u_ws RX6 TX6 23, w ∈ wsX6_number := by decide +kernel
  have kf59 := hts (.fieldLink RX6 59 "SortingLineModel" "fault" "I") (by decide +kernel)
  have hS : va_S (ad_A g 16) s.heap s.heap [] := va_S.rf
  have hl := lv_entry ([.ref (g 0), .int t, .int kd, .int i]) (n := 4) (Nat.le_of_ble_eq_true rfl)
  rw [lg_entry_eq]
  generalize (lg_sl ([.ref (g 0), .int t, .int kd, .int i]) ++ List.replicate (4 - (lg_sl ([.ref (g 0), .int t, .int kd, .int i])).length) Slot.unset).toArray = ls at hl ⊢
  have hl : lv_has ls 4 [(0, .ref (g 0)), (1, .int t), (2, .int kd), (3, .int i)] := hl
  refine lv_aload_n hx hb dX6_number_0 rfl (lv_at hl 0 rfl) ?_
  refine lv_iconst (v := 0) hx hb dX6_number_1 (by decide) ?_
  refine va_put (D := D) (ci := 6) (v := .int 0) (ty := .int) (C := RX6) (T := TX6) (N := 23) hx hb hts hiX6 tyX6 tyX6_ok nmX6 hown hK.1 hP (mo_D hh) hS 0 rfl rfl 0 (by decide) kf59 (fun _ h9 => h9) rfl (by decide +kernel) rfl rfl (Nat.le_of_ble_eq_true rfl) dX6_number_2 (fun H locs hP _ hS => ?_)
  have hP : va_P D kC (mo_W cI cJ g 0 (nI n) F Wt Sz Nu Pl Bf (nI b) (nI k) G Wk To Sl Sd (nI as) wo pa fa Fo) H := hP
  refine lv_aload_n hx hb dX6_number_5 rfl (lv_at hl 0 rfl) ?_
  refine lv_iload_n hx hb dX6_number_6 rfl (lv_at hl 1 rfl) ?_
  refine lv_iload_n hx hb dX6_number_7 rfl (lv_at hl 2 rfl) ?_
  refine lv_iconst (v := 4) hx hb dX6_number_8 (by decide) ?_
  refine lv_bipush (v := 6) hx hb dX6_number_9 (by decide) ?_
  refine pu_calli (va_runV (As := [.int t, .int kd, .int 4, .int 6]) (rest := []) ⟨hx, hb, hml, hown, hts⟩ (c_X6_refusal_o hh hn t kd 4 6 (by assumption) (by assumption)) (cwV 4 hts gX6_number_X6_refusal rfl rfl rfl (by decide +kernel) ⟨Nat.le_of_ble_eq_true rfl, Nat.le_of_ble_eq_true rfl⟩) (wd_preV (ci := 6) (q0 := 0) hP hK rfl rfl) rfl rfl hl.1 rfl (lv_room (Nat.le_of_ble_eq_true rfl)) dX6_number_11 ⟨Nat.zero_le _, Nat.zero_le _⟩) ?_
  refine lv_if_ge (tgt := 19) hx hb dX6_number_14 (by decide) (fun h9 => absurd h9 (by decide)) (fun _ => ?_)
  refine lv_lconst (v := 0) hx hb dX6_number_17 (by decide) ?_
  exact W.lret (v := 0) hx hb hr (fun t9 ht _ => ⟨congrArg (fun z => Outcome.returned (some (Value.long z))) (rfl), by rw [ht]; exact hP, hS.F ht⟩) hS.2.2 dX6_number_18
set_option maxHeartbeats 4000000 in
set_option maxRecDepth 100000 in
theorem c_X6_number_c (hh : ad_ok g 16) (hn : n ≤ 100) (r : Nat) (hr9 : r < n) (a : Nat) (ha : a < 16) (hFa : F r = nI a) (c9 : Nat) (hc : c9 < 18) (hq : q_in (nI c9) 4 6 = true) (i : Int32) (h1 : ko (F r) (nI c9) = false) : Met l yX6_number wsX6_number ({ frames := 10, cells := 0, slots := 0, locals := 450 }) (wd_P D cI cJ [.ref (g 0), .int (nI r), .int (nI c9), .int i] (mo_W cI cJ g fx (nI n) F Wt Sz Nu Pl Bf (nI b) (nI k) G Wk To Sl Sd (nI as) wo pa fa Fo)) (mu_Q D (ad_A g 16) (some (.long 0)) (mo_W cI cJ g 1 (nI n) F Wt Sz Nu Pl Bf (nI b) (nI k) G Wk To Sl Sd (nI as) wo pa fa Fo)) 0 0 (ad_A g 16) := by
  refine Met.ofW (cc := cX6_number) (maxL := 4) (ret := (some .long)) (by decide) rfl ?_
  intro p e s m args below meth c s₁ B hml hv
  obtain ⟨rfl, hP, hK⟩ := hv
  have hx := B.exec
  have hb := B.bytes
  have hr := B.returns
  have hts := atoms_spec (ws := wsX6_number) B.pre
  have hown : s.vm.findClass RX6 = some m.cls := findClass_of_methodNamed B.named
  have hlocks := B.notSynchronized
  have hiX6 : ∀ w ∈ u_ws RX6 TX6 23, w ∈ wsX6_number := by decide +kernel
  have kf59 := hts (.fieldLink RX6 59 "SortingLineModel" "fault" "I") (by decide +kernel)
  have hS : va_S (ad_A g 16) s.heap s.heap [] := va_S.rf
  have hl := lv_entry ([.ref (g 0), .int (nI r), .int (nI c9), .int i]) (n := 4) (Nat.le_of_ble_eq_true rfl)
  rw [lg_entry_eq]
  generalize (lg_sl ([.ref (g 0), .int (nI r), .int (nI c9), .int i]) ++ List.replicate (4 - (lg_sl ([.ref (g 0), .int (nI r), .int (nI c9), .int i])).length) Slot.unset).toArray = ls at hl ⊢
  have hl : lv_has ls 4 [(0, .ref (g 0)), (1, .int (nI r)), (2, .int (nI c9)), (3, .int i)] := hl
  refine lv_aload_n hx hb dX6_number_0 rfl (lv_at hl 0 rfl) ?_
  refine lv_iconst (v := 0) hx hb dX6_number_1 (by decide) ?_
  refine va_put (D := D) (ci := 6) (v := .int 0) (ty := .int) (C := RX6) (T := TX6) (N := 23) hx hb hts hiX6 tyX6 tyX6_ok nmX6 hown hK.1 hP (mo_D hh) hS 0 rfl rfl 0 (by decide) kf59 (fun _ h9 => h9) rfl (by decide +kernel) rfl rfl (Nat.le_of_ble_eq_true rfl) dX6_number_2 (fun H locs hP _ hS => ?_)
  have hP : va_P D kC (mo_W cI cJ g 0 (nI n) F Wt Sz Nu Pl Bf (nI b) (nI k) G Wk To Sl Sd (nI as) wo pa fa Fo) H := hP
  refine lv_aload_n hx hb dX6_number_5 rfl (lv_at hl 0 rfl) ?_
  refine lv_iload_n hx hb dX6_number_6 rfl (lv_at hl 1 rfl) ?_
  refine lv_iload_n hx hb dX6_number_7 rfl (lv_at hl 2 rfl) ?_
  refine lv_iconst (v := 4) hx hb dX6_number_8 (by decide) ?_
  refine lv_bipush (v := 6) hx hb dX6_number_9 (by decide) ?_
  refine pu_calli (va_runV (As := [.int (nI r), .int (nI c9), .int 4, .int 6]) (rest := []) ⟨hx, hb, hml, hown, hts⟩ (c_X6_refusal_a hh hn (nI r) (nI c9) 4 6 (p_in_nI hr9 (by omega)) (hq)) (cwV 4 hts gX6_number_X6_refusal rfl rfl rfl (by decide +kernel) ⟨Nat.le_of_ble_eq_true rfl, Nat.le_of_ble_eq_true rfl⟩) (wd_preV (ci := 6) (q0 := 0) hP hK rfl rfl) rfl rfl hl.1 rfl (lv_room (Nat.le_of_ble_eq_true rfl)) dX6_number_11 ⟨Nat.zero_le _, Nat.zero_le _⟩) ?_
  refine lv_if_ge (tgt := 19) hx hb dX6_number_14 (by decide) (fun _ => ?_) (fun h9 => absurd (by decide) h9)
  refine lv_aload_n hx hb dX6_number_19 rfl (lv_at hl 0 rfl) ?_
  refine lv_aload_n hx hb dX6_number_20 rfl (lv_at hl 0 rfl) ?_
  refine lv_iload_n hx hb dX6_number_21 rfl (lv_at hl 1 rfl) ?_
  refine lv_iload_n hx hb dX6_number_22 rfl (lv_at hl 2 rfl) ?_
  refine pu_callb (va_runV (As := [.int (nI r), .int (nI c9)]) (rest := [.ref (g 0)]) ⟨hx, hb, hml, hown, hts⟩ (c_X6_isOf hh hn r (by omega) a ha hFa c9 (by omega)) (cwV 2 hts gX6_number_X6_isOf rfl rfl rfl (by decide +kernel) ⟨Nat.le_of_ble_eq_true rfl, Nat.le_of_ble_eq_true rfl⟩) (wd_preV (ci := 6) (q0 := 0) hP hK rfl rfl) rfl rfl hl.1 rfl (lv_room (Nat.le_of_ble_eq_true rfl)) dX6_number_23 ⟨Nat.zero_le _, Nat.zero_le _⟩) (fun h9 => absurd (h1) (by rw [h9]; decide)) (fun _ => ?_)
  refine lv_if_ne (tgt := 33) hx hb dX6_number_26 (by decide) (fun h9 => absurd (by decide) h9) (fun _ => ?_)
  refine lv_iconst (v := 1) hx hb dX6_number_29 (by decide) ?_
  refine lv_goto (tgt := 54) hx hb dX6_number_30 (by decide) ?_
  refine va_put (D := D) (ci := 6) (v := .int 1) (ty := .int) (C := RX6) (T := TX6) (N := 23) hx hb hts hiX6 tyX6 tyX6_ok nmX6 hown hK.1 hP (mo_D hh) hS 0 rfl rfl 0 (by decide) kf59 (fun _ h9 => h9) rfl (by decide +kernel) rfl rfl (Nat.le_of_ble_eq_true rfl) dX6_number_54 (fun H locs hP _ hS => ?_)
  have hP : va_P D kC (mo_W cI cJ g 1 (nI n) F Wt Sz Nu Pl Bf (nI b) (nI k) G Wk To Sl Sd (nI as) wo pa fa Fo) H := hP
  refine lv_aload_n hx hb dX6_number_57 rfl (lv_at hl 0 rfl) ?_
  refine va_get (D := D) (ci := 6) (v := .int 1) (C := RX6) (T := TX6) (N := 23) hx hb hts hiX6 hown hK.1 hP 0 rfl rfl 0 (by decide) kf59 (fun _ h9 => h9) rfl dX6_number_58 ?_
  refine lv_if_le (tgt := 68) hx hb dX6_number_61 (by decide) (fun h9 => absurd h9 (by decide)) (fun _ => ?_)
  refine lv_lconst (v := 0) hx hb dX6_number_64 (by decide) ?_
  refine lv_goto (tgt := 79) hx hb dX6_number_65 (by decide) ?_
  exact W.lret (v := 0) hx hb hr (fun t9 ht _ => ⟨congrArg (fun z => Outcome.returned (some (Value.long z))) (rfl), by rw [ht]; exact hP, hS.F ht⟩) hS.2.2 dX6_number_79
set_option maxHeartbeats 4000000 in
set_option maxRecDepth 100000 in
theorem c_X6_number_b (hh : ad_ok g 16) (hn : n ≤ 100) (r : Nat) (hr9 : r < n) (a : Nat) (ha : a < 16) (hFa : F r = nI a) (c9 : Nat) (hc : c9 < 18) (hq : q_in (nI c9) 4 6 = true) (z : Nat) (hz : Sz r = nI z) (hz8 : z ≤ 8) (i : Int32) (h1 : ko (F r) (nI c9) = true) (h2 : p_in i (Sz r) = false) : Met l yX6_number wsX6_number ({ frames := 10, cells := 0, slots := 0, locals := 450 }) (wd_P D cI cJ [.ref (g 0), .int (nI r), .int (nI c9), .int i] (mo_W cI cJ g fx (nI n) F Wt Sz Nu Pl Bf (nI b) (nI k) G Wk To Sl Sd (nI as) wo pa fa Fo)) (mu_Q D (ad_A g 16) (some (.long 0)) (mo_W cI cJ g 2 (nI n) F Wt Sz Nu Pl Bf (nI b) (nI k) G Wk To Sl Sd (nI as) wo pa fa Fo)) 0 0 (ad_A g 16) := by
  refine Met.ofW (cc := cX6_number) (maxL := 4) (ret := (some .long)) (by decide) rfl ?_
  intro p e s m args below meth c s₁ B hml hv
  obtain ⟨rfl, hP, hK⟩ := hv
  have hx := B.exec
  have hb := B.bytes
  have hr := B.returns
  have hts := atoms_spec (ws := wsX6_number) B.pre
  have hown : s.vm.findClass RX6 = some m.cls := findClass_of_methodNamed B.named
  have hlocks := B.notSynchronized
  have hiX6 : ∀ w ∈ u_ws RX6 TX6 23, w ∈ wsX6_number := by decide +kernel
  have kf59 := hts (.fieldLink RX6 59 "SortingLineModel" "fault" "I") (by decide +kernel)
  have kf16 := hts (.fieldLink RX6 16 "SortingLineModel" "sizes" "[I") (by decide +kernel)
  have hS : va_S (ad_A g 16) s.heap s.heap [] := va_S.rf
  have hl := lv_entry ([.ref (g 0), .int (nI r), .int (nI c9), .int i]) (n := 4) (Nat.le_of_ble_eq_true rfl)
  rw [lg_entry_eq]
  generalize (lg_sl ([.ref (g 0), .int (nI r), .int (nI c9), .int i]) ++ List.replicate (4 - (lg_sl ([.ref (g 0), .int (nI r), .int (nI c9), .int i])).length) Slot.unset).toArray = ls at hl ⊢
  have hl : lv_has ls 4 [(0, .ref (g 0)), (1, .int (nI r)), (2, .int (nI c9)), (3, .int i)] := hl
  refine lv_aload_n hx hb dX6_number_0 rfl (lv_at hl 0 rfl) ?_
  refine lv_iconst (v := 0) hx hb dX6_number_1 (by decide) ?_
  refine va_put (D := D) (ci := 6) (v := .int 0) (ty := .int) (C := RX6) (T := TX6) (N := 23) hx hb hts hiX6 tyX6 tyX6_ok nmX6 hown hK.1 hP (mo_D hh) hS 0 rfl rfl 0 (by decide) kf59 (fun _ h9 => h9) rfl (by decide +kernel) rfl rfl (Nat.le_of_ble_eq_true rfl) dX6_number_2 (fun H locs hP _ hS => ?_)
  have hP : va_P D kC (mo_W cI cJ g 0 (nI n) F Wt Sz Nu Pl Bf (nI b) (nI k) G Wk To Sl Sd (nI as) wo pa fa Fo) H := hP
  refine lv_aload_n hx hb dX6_number_5 rfl (lv_at hl 0 rfl) ?_
  refine lv_iload_n hx hb dX6_number_6 rfl (lv_at hl 1 rfl) ?_
  refine lv_iload_n hx hb dX6_number_7 rfl (lv_at hl 2 rfl) ?_
  refine lv_iconst (v := 4) hx hb dX6_number_8 (by decide) ?_
  refine lv_bipush (v := 6) hx hb dX6_number_9 (by decide) ?_
  refine pu_calli (va_runV (As := [.int (nI r), .int (nI c9), .int 4, .int 6]) (rest := []) ⟨hx, hb, hml, hown, hts⟩ (c_X6_refusal_a hh hn (nI r) (nI c9) 4 6 (p_in_nI hr9 (by omega)) (hq)) (cwV 4 hts gX6_number_X6_refusal rfl rfl rfl (by decide +kernel) ⟨Nat.le_of_ble_eq_true rfl, Nat.le_of_ble_eq_true rfl⟩) (wd_preV (ci := 6) (q0 := 0) hP hK rfl rfl) rfl rfl hl.1 rfl (lv_room (Nat.le_of_ble_eq_true rfl)) dX6_number_11 ⟨Nat.zero_le _, Nat.zero_le _⟩) ?_
  refine lv_if_ge (tgt := 19) hx hb dX6_number_14 (by decide) (fun _ => ?_) (fun h9 => absurd (by decide) h9)
  refine lv_aload_n hx hb dX6_number_19 rfl (lv_at hl 0 rfl) ?_
  refine lv_aload_n hx hb dX6_number_20 rfl (lv_at hl 0 rfl) ?_
  refine lv_iload_n hx hb dX6_number_21 rfl (lv_at hl 1 rfl) ?_
  refine lv_iload_n hx hb dX6_number_22 rfl (lv_at hl 2 rfl) ?_
  refine pu_callb (va_runV (As := [.int (nI r), .int (nI c9)]) (rest := [.ref (g 0)]) ⟨hx, hb, hml, hown, hts⟩ (c_X6_isOf hh hn r (by omega) a ha hFa c9 (by omega)) (cwV 2 hts gX6_number_X6_isOf rfl rfl rfl (by decide +kernel) ⟨Nat.le_of_ble_eq_true rfl, Nat.le_of_ble_eq_true rfl⟩) (wd_preV (ci := 6) (q0 := 0) hP hK rfl rfl) rfl rfl hl.1 rfl (lv_room (Nat.le_of_ble_eq_true rfl)) dX6_number_23 ⟨Nat.zero_le _, Nat.zero_le _⟩) (fun _ => ?_) (fun h9 => absurd (h1) (by rw [h9]; decide))
  refine lv_if_ne (tgt := 33) hx hb dX6_number_26 (by decide) (fun _ => ?_) (fun h9 => absurd h9 (by decide))
  refine lv_iload_n hx hb dX6_number_33 rfl (lv_at hl 3 rfl) ?_
  refine lv_iconst (v := 0) hx hb dX6_number_34 (by decide) ?_
  refine lv_aload_n hx hb dX6_number_35 rfl (lv_at hl 0 rfl) ?_
  refine va_get (D := D) (ci := 6) (v := .ref (g 3)) (C := RX6) (T := TX6) (N := 23) hx hb hts hiX6 hown hK.1 hP 0 rfl rfl 4 (by decide) kf16 (fun _ h9 => h9) rfl dX6_number_36 ?_
  refine lv_iload_n hx hb dX6_number_39 rfl (lv_at hl 1 rfl) ?_
  refine ga_ild hx hb hK hP 3 rfl r (rfl) (by omega) (by decide) dX6_number_40 ?_
  refine tp_i (y := nI z) (hz) ?_
  refine lv_iconst (v := 1) hx hb dX6_number_41 (by decide) ?_
  refine lv_isub hx hb dX6_number_42 ?_
  refine pu_callb (va_runS (As := [.int i, .int 0, .int ((nI z) - 1)]) (rest := [.ref (g 0)]) ⟨hx, hb, hml, hown, hts⟩ (c_X6_in i 0 ((nI z) - 1)) (cwS 3 hts gX6_number_X6_in rfl rfl rfl (by decide +kernel) ⟨Nat.le_of_ble_eq_true rfl, Nat.le_of_ble_eq_true rfl⟩) (wd_preS hP hK) rfl rfl hl.1 rfl (lv_room (Nat.le_of_ble_eq_true rfl)) dX6_number_43 ⟨Nat.zero_le _, Nat.zero_le _⟩) (fun h9 => absurd (show q_in _ 0 (nI z - 1) = false from (q_p (by omega)).trans (hz ▸ h2)) (by rw [h9]; decide)) (fun _ => ?_)
  refine lv_if_ne (tgt := 53) hx hb dX6_number_46 (by decide) (fun h9 => absurd (by decide) h9) (fun _ => ?_)
  refine lv_iconst (v := 2) hx hb dX6_number_49 (by decide) ?_
  refine lv_goto (tgt := 54) hx hb dX6_number_50 (by decide) ?_
  refine va_put (D := D) (ci := 6) (v := .int 2) (ty := .int) (C := RX6) (T := TX6) (N := 23) hx hb hts hiX6 tyX6 tyX6_ok nmX6 hown hK.1 hP (mo_D hh) hS 0 rfl rfl 0 (by decide) kf59 (fun _ h9 => h9) rfl (by decide +kernel) rfl rfl (Nat.le_of_ble_eq_true rfl) dX6_number_54 (fun H locs hP _ hS => ?_)
  have hP : va_P D kC (mo_W cI cJ g 2 (nI n) F Wt Sz Nu Pl Bf (nI b) (nI k) G Wk To Sl Sd (nI as) wo pa fa Fo) H := hP
  refine lv_aload_n hx hb dX6_number_57 rfl (lv_at hl 0 rfl) ?_
  refine va_get (D := D) (ci := 6) (v := .int 2) (C := RX6) (T := TX6) (N := 23) hx hb hts hiX6 hown hK.1 hP 0 rfl rfl 0 (by decide) kf59 (fun _ h9 => h9) rfl dX6_number_58 ?_
  refine lv_if_le (tgt := 68) hx hb dX6_number_61 (by decide) (fun h9 => absurd h9 (by decide)) (fun _ => ?_)
  refine lv_lconst (v := 0) hx hb dX6_number_64 (by decide) ?_
  refine lv_goto (tgt := 79) hx hb dX6_number_65 (by decide) ?_
  exact W.lret (v := 0) hx hb hr (fun t9 ht _ => ⟨congrArg (fun z => Outcome.returned (some (Value.long z))) (rfl), by rw [ht]; exact hP, hS.F ht⟩) hS.2.2 dX6_number_79
set_option maxHeartbeats 4000000 in
set_option maxRecDepth 100000 in
theorem c_X6_number_a (hh : ad_ok g 16) (hn : n ≤ 100) (r : Nat) (hr9 : r < n) (a : Nat) (ha : a < 16) (hFa : F r = nI a) (c9 : Nat) (hc : c9 < 18) (hq : q_in (nI c9) 4 6 = true) (z : Nat) (hz : Sz r = nI z) (hz8 : z ≤ 8) (j : Nat) (hj : j < 8) (h1 : ko (F r) (nI c9) = true) (h2 : p_in (nI j) (Sz r) = true) : Met l yX6_number wsX6_number ({ frames := 10, cells := 0, slots := 0, locals := 450 }) (wd_P D cI cJ [.ref (g 0), .int (nI r), .int (nI c9), .int (nI j)] (mo_W cI cJ g fx (nI n) F Wt Sz Nu Pl Bf (nI b) (nI k) G Wk To Sl Sd (nI as) wo pa fa Fo)) (mu_Q D (ad_A g 16) (some (.long (Nu (8 * r + j)))) (mo_W cI cJ g 0 (nI n) F Wt Sz Nu Pl Bf (nI b) (nI k) G Wk To Sl Sd (nI as) wo pa fa Fo)) 0 0 (ad_A g 16) := by
  refine Met.ofW (cc := cX6_number) (maxL := 4) (ret := (some .long)) (by decide) rfl ?_
  intro p e s m args below meth c s₁ B hml hv
  obtain ⟨rfl, hP, hK⟩ := hv
  have hx := B.exec
  have hb := B.bytes
  have hr := B.returns
  have hts := atoms_spec (ws := wsX6_number) B.pre
  have hown : s.vm.findClass RX6 = some m.cls := findClass_of_methodNamed B.named
  have hlocks := B.notSynchronized
  have hiX6 : ∀ w ∈ u_ws RX6 TX6 23, w ∈ wsX6_number := by decide +kernel
  have kf59 := hts (.fieldLink RX6 59 "SortingLineModel" "fault" "I") (by decide +kernel)
  have kf16 := hts (.fieldLink RX6 16 "SortingLineModel" "sizes" "[I") (by decide +kernel)
  have kf19 := hts (.fieldLink RX6 19 "SortingLineModel" "numbers" "[J") (by decide +kernel)
  have hS : va_S (ad_A g 16) s.heap s.heap [] := va_S.rf
  have hl := lv_entry ([.ref (g 0), .int (nI r), .int (nI c9), .int (nI j)]) (n := 4) (Nat.le_of_ble_eq_true rfl)
  rw [lg_entry_eq]
  generalize (lg_sl ([.ref (g 0), .int (nI r), .int (nI c9), .int (nI j)]) ++ List.replicate (4 - (lg_sl ([.ref (g 0), .int (nI r), .int (nI c9), .int (nI j)])).length) Slot.unset).toArray = ls at hl ⊢
  have hl : lv_has ls 4 [(0, .ref (g 0)), (1, .int (nI r)), (2, .int (nI c9)), (3, .int (nI j))] := hl
  refine lv_aload_n hx hb dX6_number_0 rfl (lv_at hl 0 rfl) ?_
  refine lv_iconst (v := 0) hx hb dX6_number_1 (by decide) ?_
  refine va_put (D := D) (ci := 6) (v := .int 0) (ty := .int) (C := RX6) (T := TX6) (N := 23) hx hb hts hiX6 tyX6 tyX6_ok nmX6 hown hK.1 hP (mo_D hh) hS 0 rfl rfl 0 (by decide) kf59 (fun _ h9 => h9) rfl (by decide +kernel) rfl rfl (Nat.le_of_ble_eq_true rfl) dX6_number_2 (fun H locs hP _ hS => ?_)
  have hP : va_P D kC (mo_W cI cJ g 0 (nI n) F Wt Sz Nu Pl Bf (nI b) (nI k) G Wk To Sl Sd (nI as) wo pa fa Fo) H := hP
  refine lv_aload_n hx hb dX6_number_5 rfl (lv_at hl 0 rfl) ?_
  refine lv_iload_n hx hb dX6_number_6 rfl (lv_at hl 1 rfl) ?_
  refine lv_iload_n hx hb dX6_number_7 rfl (lv_at hl 2 rfl) ?_
  refine lv_iconst (v := 4) hx hb dX6_number_8 (by decide) ?_
  refine lv_bipush (v := 6) hx hb dX6_number_9 (by decide) ?_
  refine pu_calli (va_runV (As := [.int (nI r), .int (nI c9), .int 4, .int 6]) (rest := []) ⟨hx, hb, hml, hown, hts⟩ (c_X6_refusal_a hh hn (nI r) (nI c9) 4 6 (p_in_nI hr9 (by omega)) (hq)) (cwV 4 hts gX6_number_X6_refusal rfl rfl rfl (by decide +kernel) ⟨Nat.le_of_ble_eq_true rfl, Nat.le_of_ble_eq_true rfl⟩) (wd_preV (ci := 6) (q0 := 0) hP hK rfl rfl) rfl rfl hl.1 rfl (lv_room (Nat.le_of_ble_eq_true rfl)) dX6_number_11 ⟨Nat.zero_le _, Nat.zero_le _⟩) ?_
  refine lv_if_ge (tgt := 19) hx hb dX6_number_14 (by decide) (fun _ => ?_) (fun h9 => absurd (by decide) h9)
  refine lv_aload_n hx hb dX6_number_19 rfl (lv_at hl 0 rfl) ?_
  refine lv_aload_n hx hb dX6_number_20 rfl (lv_at hl 0 rfl) ?_
  refine lv_iload_n hx hb dX6_number_21 rfl (lv_at hl 1 rfl) ?_
  refine lv_iload_n hx hb dX6_number_22 rfl (lv_at hl 2 rfl) ?_
  refine pu_callb (va_runV (As := [.int (nI r), .int (nI c9)]) (rest := [.ref (g 0)]) ⟨hx, hb, hml, hown, hts⟩ (c_X6_isOf hh hn r (by omega) a ha hFa c9 (by omega)) (cwV 2 hts gX6_number_X6_isOf rfl rfl rfl (by decide +kernel) ⟨Nat.le_of_ble_eq_true rfl, Nat.le_of_ble_eq_true rfl⟩) (wd_preV (ci := 6) (q0 := 0) hP hK rfl rfl) rfl rfl hl.1 rfl (lv_room (Nat.le_of_ble_eq_true rfl)) dX6_number_23 ⟨Nat.zero_le _, Nat.zero_le _⟩) (fun _ => ?_) (fun h9 => absurd (h1) (by rw [h9]; decide))
  refine lv_if_ne (tgt := 33) hx hb dX6_number_26 (by decide) (fun _ => ?_) (fun h9 => absurd h9 (by decide))
  refine lv_iload_n hx hb dX6_number_33 rfl (lv_at hl 3 rfl) ?_
  refine lv_iconst (v := 0) hx hb dX6_number_34 (by decide) ?_
  refine lv_aload_n hx hb dX6_number_35 rfl (lv_at hl 0 rfl) ?_
  refine va_get (D := D) (ci := 6) (v := .ref (g 3)) (C := RX6) (T := TX6) (N := 23) hx hb hts hiX6 hown hK.1 hP 0 rfl rfl 4 (by decide) kf16 (fun _ h9 => h9) rfl dX6_number_36 ?_
  refine lv_iload_n hx hb dX6_number_39 rfl (lv_at hl 1 rfl) ?_
  refine ga_ild hx hb hK hP 3 rfl r (rfl) (by omega) (by decide) dX6_number_40 ?_
  refine tp_i (y := nI z) (hz) ?_
  refine lv_iconst (v := 1) hx hb dX6_number_41 (by decide) ?_
  refine lv_isub hx hb dX6_number_42 ?_
  refine pu_callb (va_runS (As := [.int (nI j), .int 0, .int ((nI z) - 1)]) (rest := [.ref (g 0)]) ⟨hx, hb, hml, hown, hts⟩ (c_X6_in (nI j) 0 ((nI z) - 1)) (cwS 3 hts gX6_number_X6_in rfl rfl rfl (by decide +kernel) ⟨Nat.le_of_ble_eq_true rfl, Nat.le_of_ble_eq_true rfl⟩) (wd_preS hP hK) rfl rfl hl.1 rfl (lv_room (Nat.le_of_ble_eq_true rfl)) dX6_number_43 ⟨Nat.zero_le _, Nat.zero_le _⟩) (fun _ => ?_) (fun h9 => absurd (show q_in _ 0 (nI z - 1) = true from (q_p (by omega)).trans (hz ▸ h2)) (by rw [h9]; decide))
  refine lv_if_ne (tgt := 53) hx hb dX6_number_46 (by decide) (fun _ => ?_) (fun h9 => absurd h9 (by decide))
  refine lv_iconst (v := 0) hx hb dX6_number_53 (by decide) ?_
  refine va_put (D := D) (ci := 6) (v := .int 0) (ty := .int) (C := RX6) (T := TX6) (N := 23) hx hb hts hiX6 tyX6 tyX6_ok nmX6 hown hK.1 hP (mo_D hh) hS 0 rfl rfl 0 (by decide) kf59 (fun _ h9 => h9) rfl (by decide +kernel) rfl rfl (Nat.le_of_ble_eq_true rfl) dX6_number_54 (fun H locs hP _ hS => ?_)
  have hP : va_P D kC (mo_W cI cJ g 0 (nI n) F Wt Sz Nu Pl Bf (nI b) (nI k) G Wk To Sl Sd (nI as) wo pa fa Fo) H := hP
  refine lv_aload_n hx hb dX6_number_57 rfl (lv_at hl 0 rfl) ?_
  refine va_get (D := D) (ci := 6) (v := .int 0) (C := RX6) (T := TX6) (N := 23) hx hb hts hiX6 hown hK.1 hP 0 rfl rfl 0 (by decide) kf59 (fun _ h9 => h9) rfl dX6_number_58 ?_
  refine lv_if_le (tgt := 68) hx hb dX6_number_61 (by decide) (fun _ => ?_) (fun h9 => absurd (by decide) h9)
  refine lv_aload_n hx hb dX6_number_68 rfl (lv_at hl 0 rfl) ?_
  refine va_get (D := D) (ci := 6) (v := .ref (g 4)) (C := RX6) (T := TX6) (N := 23) hx hb hts hiX6 hown hK.1 hP 0 rfl rfl 5 (by decide) kf19 (fun _ h9 => h9) rfl dX6_number_69 ?_
  refine lv_bipush (v := 8) hx hb dX6_number_72 (by decide) ?_
  refine lv_iload_n hx hb dX6_number_74 rfl (lv_at hl 1 rfl) ?_
  refine lv_imul hx hb dX6_number_75 ?_
  refine tp_i (y := nI (8 * r)) (pk_mul 8 r) ?_
  refine lv_iload_n hx hb dX6_number_76 rfl (lv_at hl 3 rfl) ?_
  refine lv_iadd hx hb dX6_number_77 ?_
  refine tp_i (y := nI ((8 * r) + j)) (nI_add (8 * r) j) ?_
  refine ga_lld hx hb hK hP 4 rfl ((8 * r) + j) (rfl) (by omega) (by decide) dX6_number_78 ?_
  exact W.lret (v := Nu ((8 * r) + j)) hx hb hr (fun t9 ht _ => ⟨congrArg (fun z => Outcome.returned (some (Value.long z))) (rfl), by rw [ht]; exact hP, hS.F ht⟩) hS.2.2 dX6_number_79
set_option maxHeartbeats 4000000 in
set_option maxRecDepth 100000 in
theorem c_X6_more_u (hh : ad_ok g 16) (hn : n ≤ 100) (t : Int32) (h1 : p_in t (nI n) = false) : Met l yX6_more wsX6_more ({ frames := 10, cells := 0, slots := 0, locals := 450 }) (wd_P D cI cJ [.ref (g 0), .int t] (mo_W cI cJ g fx (nI n) F Wt Sz Nu Pl Bf (nI b) (nI k) G Wk To Sl Sd (nI as) wo pa fa Fo)) (mu_Q D (ad_A g 16) (some (.int (-1))) (mo_W cI cJ g 0 (nI n) F Wt Sz Nu Pl Bf (nI b) (nI k) G Wk To Sl Sd (nI as) wo pa fa Fo)) 0 0 (ad_A g 16) := by
  refine Met.ofW (cc := cX6_more) (maxL := 3) (ret := (some .int)) (by decide) rfl ?_
  intro p e s m args below meth c s₁ B hml hv
  obtain ⟨rfl, hP, hK⟩ := hv
  have hx := B.exec
  have hb := B.bytes
  have hr := B.returns
  have hts := atoms_spec (ws := wsX6_more) B.pre
  have hown : s.vm.findClass RX6 = some m.cls := findClass_of_methodNamed B.named
  have hlocks := B.notSynchronized
  have hiX6 : ∀ w ∈ u_ws RX6 TX6 23, w ∈ wsX6_more := by decide +kernel
  have kf59 := hts (.fieldLink RX6 59 "SortingLineModel" "fault" "I") (by decide +kernel)
  have hS : va_S (ad_A g 16) s.heap s.heap [] := va_S.rf
  have hl := lv_entry ([.ref (g 0), .int t]) (n := 3) (Nat.le_of_ble_eq_true rfl)
  rw [lg_entry_eq]
  generalize (lg_sl ([.ref (g 0), .int t]) ++ List.replicate (3 - (lg_sl ([.ref (g 0), .int t])).length) Slot.unset).toArray = ls at hl ⊢
  have hl : lv_has ls 3 [(0, .ref (g 0)), (1, .int t)] := hl
  refine lv_aload_n hx hb dX6_more_0 rfl (lv_at hl 0 rfl) ?_
  refine lv_iconst (v := 0) hx hb dX6_more_1 (by decide) ?_
  refine va_put (D := D) (ci := 6) (v := .int 0) (ty := .int) (C := RX6) (T := TX6) (N := 23) hx hb hts hiX6 tyX6 tyX6_ok nmX6 hown hK.1 hP (mo_D hh) hS 0 rfl rfl 0 (by decide) kf59 (fun _ h9 => h9) rfl (by decide +kernel) rfl rfl (Nat.le_of_ble_eq_true rfl) dX6_more_2 (fun H locs hP _ hS => ?_)
  have hP : va_P D kC (mo_W cI cJ g 0 (nI n) F Wt Sz Nu Pl Bf (nI b) (nI k) G Wk To Sl Sd (nI as) wo pa fa Fo) H := hP
  refine lv_aload_n hx hb dX6_more_5 rfl (lv_at hl 0 rfl) ?_
  refine lv_iload_n hx hb dX6_more_6 rfl (lv_at hl 1 rfl) ?_
  refine pu_callb (va_runV (As := [.int t]) (rest := []) ⟨hx, hb, hml, hown, hts⟩ (c_X6_isThing hh (hn) t) (cwV 1 hts gX6_more_X6_isThing rfl rfl rfl (by decide +kernel) ⟨Nat.le_of_ble_eq_true rfl, Nat.le_of_ble_eq_true rfl⟩) (wd_preV (ci := 6) (q0 := 0) hP hK rfl rfl) rfl rfl hl.1 rfl (lv_room (Nat.le_of_ble_eq_true rfl)) dX6_more_7 ⟨Nat.zero_le _, Nat.zero_le _⟩) (fun h9 => absurd (h1) (by rw [h9]; decide)) (fun _ => ?_)
  refine lv_if_ne (tgt := 15) hx hb dX6_more_10 (by decide) (fun h9 => absurd (by decide) h9) (fun _ => ?_)
  refine lv_iconst (v := (-1)) hx hb dX6_more_13 (by decide) ?_
  exact W.iret (v := (-1)) hx hb hr (fun t9 ht _ => ⟨congrArg (fun z => Outcome.returned (some (Value.int z))) (rfl), by rw [ht]; exact hP, hS.F ht⟩) hS.2.2 dX6_more_14
set_option maxHeartbeats 4000000 in
set_option maxRecDepth 100000 in
theorem lp_X6_more {p : Program} {e : Env} {s : State} {m : MethodId} {args : Array Value} {below : List Frame} {meth : Method} {c : Code} {Q : State → Prop} {H : Heap} {locs : List Loc} (hx : p.tables.exec = Jvm.exec) (hb : c.code = cX6_more) (hml : c.maxLocals = 3) (hown : s.vm.findClass RX6 = some m.cls) (hts : ∀ w ∈ wsX6_more, w.before args s = true) (hK : wd_K D cI cJ s) (hP : va_P D kC (mo_W cI cJ g 0 (nI n) F Wt Sz Nu Pl Bf (nI b) (nI k) G Wk To Sl Sd (nI as) wo pa fa Fo) H) (hh : ad_ok g 16) (hn : n ≤ 100) (r : Nat) (hr9 : r < n) (a : Nat) (ha : a < 16) (hFa : F r = nI a) (q : Nat) (hq : q ≤ 17) (hv : ∀ j, j < q → mrS (F r) j = false) (kk0 : ∀ (_ : Nat), True → ∀ (ls : Array Slot), lv_has ls 3 [(2, .int (nI q)), (0, .ref (g 0)), (1, .int (nI r))] → W p l e (headSpec wsX6_more { frames := 10, cells := 0, slots := 0, locals := 450 }).room s m args below meth c H locs 0 0 Q (F0 m 17 ls [])) : ∀ (d : Nat) (y : Nat), y + d = q → ∀ (ls : Array Slot), lv_has ls 3 [(2, .int (nI y)), (0, .ref (g 0)), (1, .int (nI r))] → W p l e (headSpec wsX6_more { frames := 10, cells := 0, slots := 0, locals := 450 }).room s m args below meth c H locs 0 0 Q (F0 m 17 ls []) := by
  have hiX6 : ∀ w ∈ u_ws RX6 TX6 23, w ∈ wsX6_more := by decide +kernel
  have kf7 := hts (.fieldLink RX6 7 "SortingLineModel" "forms" "[I") (by decide +kernel)
  intro d
  induction d with
  | zero =>
    intro y hi ls hl
    obtain rfl : y = q := by omega
    exact kk0 0 trivial ls hl
  | succ d ih =>
    intro y hi ls hl
    refine lv_iload_n hx hb dX6_more_17 rfl (lv_at hl 0 rfl) ?_
    refine lv_bipush (v := 17) hx hb dX6_more_18 (by decide) ?_
    refine lv_icmp_ge (tgt := 50) hx hb dX6_more_20 (by decide) (fun h9 => absurd h9 (nI_ge (a := y) (b := 17) (by omega) (by omega))) (fun _ => ?_)
    refine lv_iload_n hx hb dX6_more_23 rfl (lv_at hl 0 rfl) ?_
    refine lv_aload_n hx hb dX6_more_24 rfl (lv_at hl 1 rfl) ?_
    refine va_get (D := D) (ci := 6) (v := .ref (g 1)) (C := RX6) (T := TX6) (N := 23) hx hb hts hiX6 hown hK.1 hP 0 rfl rfl 2 (by decide) kf7 (fun _ h9 => h9) rfl dX6_more_25 ?_
    refine lv_iload_n hx hb dX6_more_28 rfl (lv_at hl 2 rfl) ?_
    refine ga_ild hx hb hK hP 1 rfl r (rfl) (by omega) (by decide) dX6_more_29 ?_
    refine lv_icmp_eq (tgt := 44) hx hb dX6_more_30 (by decide) (fun c30 => ?_) (fun c30 => ?_)
    · skip
      refine lv_iinc (v := nI (y + 1)) (lv' := [(2, .int (nI (y + 1))), (0, .ref (g 0)), (1, .int (nI r))]) hx hb dX6_more_44 hl (k := 0) rfl (nI_add y 1) (by decide) rfl (fun ls hl => ?_)
      refine lv_goto (tgt := 17) hx hb dX6_more_47 (by decide) ?_
      exact ih (y + 1) (by omega) ls (lv_sub hl [0, 1, 2] rfl)
    · skip
      refine lv_aload_n hx hb dX6_more_33 rfl (lv_at hl 1 rfl) ?_
      refine lv_iload_n hx hb dX6_more_34 rfl (lv_at hl 2 rfl) ?_
      refine lv_iload_n hx hb dX6_more_35 rfl (lv_at hl 0 rfl) ?_
      refine pu_callb (va_runV (As := [.int (nI r), .int (nI y)]) (rest := []) ⟨hx, hb, hml, hown, hts⟩ (c_X6_isOf hh hn r (by omega) a ha hFa y (by omega)) (cwV 2 hts gX6_more_X6_isOf rfl rfl rfl (by decide +kernel) ⟨Nat.le_of_ble_eq_true rfl, Nat.le_of_ble_eq_true rfl⟩) (wd_preV (ci := 6) (q0 := 0) hP hK rfl rfl) rfl rfl hl.1 rfl (lv_room (Nat.le_of_ble_eq_true rfl)) dX6_more_36 ⟨Nat.zero_le _, Nat.zero_le _⟩) (fun h9 => absurd (by have h9 := hv y (by omega); simpa [mrS, c30] using h9) (by rw [h9]; decide)) (fun _ => ?_)
      refine lv_if_eq (tgt := 44) hx hb dX6_more_39 (by decide) (fun _ => ?_) (fun h9 => absurd (by decide) h9)
      refine lv_iinc (v := nI (y + 1)) (lv' := [(2, .int (nI (y + 1))), (0, .ref (g 0)), (1, .int (nI r))]) hx hb dX6_more_44 hl (k := 0) rfl (nI_add y 1) (by decide) rfl (fun ls hl => ?_)
      refine lv_goto (tgt := 17) hx hb dX6_more_47 (by decide) ?_
      exact ih (y + 1) (by omega) ls (lv_sub hl [0, 1, 2] rfl)
set_option maxHeartbeats 4000000 in
set_option maxRecDepth 100000 in
theorem c_X6_more_a (hh : ad_ok g 16) (hn : n ≤ 100) (r : Nat) (hr9 : r < n) (a : Nat) (ha : a < 16) (hFa : F r = nI a) (q : Nat) (hq : q ≤ 17) (hv : ∀ j, j < q → mrS (F r) j = false) (hq7 : q < 17) (hm : mrS (F r) q = true) : Met l yX6_more wsX6_more ({ frames := 10, cells := 0, slots := 0, locals := 450 }) (wd_P D cI cJ [.ref (g 0), .int (nI r)] (mo_W cI cJ g fx (nI n) F Wt Sz Nu Pl Bf (nI b) (nI k) G Wk To Sl Sd (nI as) wo pa fa Fo)) (mu_Q D (ad_A g 16) (some (.int (nI q))) (mo_W cI cJ g 0 (nI n) F Wt Sz Nu Pl Bf (nI b) (nI k) G Wk To Sl Sd (nI as) wo pa fa Fo)) 0 0 (ad_A g 16) := by
  refine Met.ofW (cc := cX6_more) (maxL := 3) (ret := (some .int)) (by decide) rfl ?_
  intro p e s m args below meth c s₁ B hml hv
  obtain ⟨rfl, hP, hK⟩ := hv
  have hx := B.exec
  have hb := B.bytes
  have hr := B.returns
  have hts := atoms_spec (ws := wsX6_more) B.pre
  have hown : s.vm.findClass RX6 = some m.cls := findClass_of_methodNamed B.named
  have hlocks := B.notSynchronized
  have hiX6 : ∀ w ∈ u_ws RX6 TX6 23, w ∈ wsX6_more := by decide +kernel
  have kf59 := hts (.fieldLink RX6 59 "SortingLineModel" "fault" "I") (by decide +kernel)
  have kf7 := hts (.fieldLink RX6 7 "SortingLineModel" "forms" "[I") (by decide +kernel)
  have hS : va_S (ad_A g 16) s.heap s.heap [] := va_S.rf
  have hl := lv_entry ([.ref (g 0), .int (nI r)]) (n := 3) (Nat.le_of_ble_eq_true rfl)
  rw [lg_entry_eq]
  generalize (lg_sl ([.ref (g 0), .int (nI r)]) ++ List.replicate (3 - (lg_sl ([.ref (g 0), .int (nI r)])).length) Slot.unset).toArray = ls at hl ⊢
  have hl : lv_has ls 3 [(0, .ref (g 0)), (1, .int (nI r))] := hl
  refine lv_aload_n hx hb dX6_more_0 rfl (lv_at hl 0 rfl) ?_
  refine lv_iconst (v := 0) hx hb dX6_more_1 (by decide) ?_
  refine va_put (D := D) (ci := 6) (v := .int 0) (ty := .int) (C := RX6) (T := TX6) (N := 23) hx hb hts hiX6 tyX6 tyX6_ok nmX6 hown hK.1 hP (mo_D hh) hS 0 rfl rfl 0 (by decide) kf59 (fun _ h9 => h9) rfl (by decide +kernel) rfl rfl (Nat.le_of_ble_eq_true rfl) dX6_more_2 (fun H locs hP _ hS => ?_)
  have hP : va_P D kC (mo_W cI cJ g 0 (nI n) F Wt Sz Nu Pl Bf (nI b) (nI k) G Wk To Sl Sd (nI as) wo pa fa Fo) H := hP
  refine lv_aload_n hx hb dX6_more_5 rfl (lv_at hl 0 rfl) ?_
  refine lv_iload_n hx hb dX6_more_6 rfl (lv_at hl 1 rfl) ?_
  refine pu_callb (va_runV (As := [.int (nI r)]) (rest := []) ⟨hx, hb, hml, hown, hts⟩ (c_X6_isThing hh (hn) (nI r)) (cwV 1 hts gX6_more_X6_isThing rfl rfl rfl (by decide +kernel) ⟨Nat.le_of_ble_eq_true rfl, Nat.le_of_ble_eq_true rfl⟩) (wd_preV (ci := 6) (q0 := 0) hP hK rfl rfl) rfl rfl hl.1 rfl (lv_room (Nat.le_of_ble_eq_true rfl)) dX6_more_7 ⟨Nat.zero_le _, Nat.zero_le _⟩) (fun _ => ?_) (fun h9 => absurd (p_in_nI hr9 (by omega)) (by rw [h9]; decide))
  refine lv_if_ne (tgt := 15) hx hb dX6_more_10 (by decide) (fun _ => ?_) (fun h9 => absurd h9 (by decide))
  refine lv_iconst (v := 0) hx hb dX6_more_15 (by decide) ?_
  refine lv_istore_n (lv' := [(2, .int 0), (0, .ref (g 0)), (1, .int (nI r))]) hx hb dX6_more_16 rfl hl (by decide) rfl (fun ls hl => ?_)
  refine lp_X6_more hx hb hml hown hts hK hP hh hn r hr9 a ha hFa q hq hv (fun _ _ ls hl => ?_) q 0 (by omega) ls (lv_sub hl [0, 1, 2] rfl)
  refine lv_iload_n hx hb dX6_more_17 rfl (lv_at hl 0 rfl) ?_
  refine lv_bipush (v := 17) hx hb dX6_more_18 (by decide) ?_
  refine lv_icmp_ge (tgt := 50) hx hb dX6_more_20 (by decide) (fun h9 => absurd h9 (nI_ge (a := q) (b := 17) hq7 (by omega))) (fun _ => ?_)
  refine lv_iload_n hx hb dX6_more_23 rfl (lv_at hl 0 rfl) ?_
  refine lv_aload_n hx hb dX6_more_24 rfl (lv_at hl 1 rfl) ?_
  refine va_get (D := D) (ci := 6) (v := .ref (g 1)) (C := RX6) (T := TX6) (N := 23) hx hb hts hiX6 hown hK.1 hP 0 rfl rfl 2 (by decide) kf7 (fun _ h9 => h9) rfl dX6_more_25 ?_
  refine lv_iload_n hx hb dX6_more_28 rfl (lv_at hl 2 rfl) ?_
  refine ga_ild hx hb hK hP 1 rfl r (rfl) (by omega) (by decide) dX6_more_29 ?_
  refine lv_icmp_eq (tgt := 44) hx hb dX6_more_30 (by decide) (fun h9 => absurd h9 (by have h9 := hm; simp only [mrS, Bool.and_eq_true, decide_eq_true_eq] at h9; exact h9.1)) (fun _ => ?_)
  refine lv_aload_n hx hb dX6_more_33 rfl (lv_at hl 1 rfl) ?_
  refine lv_iload_n hx hb dX6_more_34 rfl (lv_at hl 2 rfl) ?_
  refine lv_iload_n hx hb dX6_more_35 rfl (lv_at hl 0 rfl) ?_
  refine pu_callb (va_runV (As := [.int (nI r), .int (nI q)]) (rest := []) ⟨hx, hb, hml, hown, hts⟩ (c_X6_isOf hh hn r (by omega) a ha hFa q (by omega)) (cwV 2 hts gX6_more_X6_isOf rfl rfl rfl (by decide +kernel) ⟨Nat.le_of_ble_eq_true rfl, Nat.le_of_ble_eq_true rfl⟩) (wd_preV (ci := 6) (q0 := 0) hP hK rfl rfl) rfl rfl hl.1 rfl (lv_room (Nat.le_of_ble_eq_true rfl)) dX6_more_36 ⟨Nat.zero_le _, Nat.zero_le _⟩) (fun _ => ?_) (fun h9 => absurd (by have h9 := hm; simp only [mrS, Bool.and_eq_true, decide_eq_true_eq] at h9; exact h9.2) (by rw [h9]; decide))
  refine lv_if_eq (tgt := 44) hx hb dX6_more_39 (by decide) (fun h9 => absurd h9 (by decide)) (fun _ => ?_)
  refine lv_iload_n hx hb dX6_more_42 rfl (lv_at hl 0 rfl) ?_
  exact W.iret (v := nI q) hx hb hr (fun t9 ht _ => ⟨congrArg (fun z => Outcome.returned (some (Value.int z))) (rfl), by rw [ht]; exact hP, hS.F ht⟩) hS.2.2 dX6_more_43
set_option maxHeartbeats 4000000 in
set_option maxRecDepth 100000 in
theorem c_X6_more_n (hh : ad_ok g 16) (hn : n ≤ 100) (r : Nat) (hr9 : r < n) (a : Nat) (ha : a < 16) (hFa : F r = nI a) (q : Nat) (hq : q ≤ 17) (hv : ∀ j, j < q → mrS (F r) j = false) (hq7 : q = 17) : Met l yX6_more wsX6_more ({ frames := 10, cells := 0, slots := 0, locals := 450 }) (wd_P D cI cJ [.ref (g 0), .int (nI r)] (mo_W cI cJ g fx (nI n) F Wt Sz Nu Pl Bf (nI b) (nI k) G Wk To Sl Sd (nI as) wo pa fa Fo)) (mu_Q D (ad_A g 16) (some (.int (-5))) (mo_W cI cJ g 0 (nI n) F Wt Sz Nu Pl Bf (nI b) (nI k) G Wk To Sl Sd (nI as) wo pa fa Fo)) 0 0 (ad_A g 16) := by
  refine Met.ofW (cc := cX6_more) (maxL := 3) (ret := (some .int)) (by decide) rfl ?_
  intro p e s m args below meth c s₁ B hml hv
  obtain ⟨rfl, hP, hK⟩ := hv
  have hx := B.exec
  have hb := B.bytes
  have hr := B.returns
  have hts := atoms_spec (ws := wsX6_more) B.pre
  have hown : s.vm.findClass RX6 = some m.cls := findClass_of_methodNamed B.named
  have hlocks := B.notSynchronized
  have hiX6 : ∀ w ∈ u_ws RX6 TX6 23, w ∈ wsX6_more := by decide +kernel
  have kf59 := hts (.fieldLink RX6 59 "SortingLineModel" "fault" "I") (by decide +kernel)
  have hS : va_S (ad_A g 16) s.heap s.heap [] := va_S.rf
  have hl := lv_entry ([.ref (g 0), .int (nI r)]) (n := 3) (Nat.le_of_ble_eq_true rfl)
  rw [lg_entry_eq]
  generalize (lg_sl ([.ref (g 0), .int (nI r)]) ++ List.replicate (3 - (lg_sl ([.ref (g 0), .int (nI r)])).length) Slot.unset).toArray = ls at hl ⊢
  have hl : lv_has ls 3 [(0, .ref (g 0)), (1, .int (nI r))] := hl
  refine lv_aload_n hx hb dX6_more_0 rfl (lv_at hl 0 rfl) ?_
  refine lv_iconst (v := 0) hx hb dX6_more_1 (by decide) ?_
  refine va_put (D := D) (ci := 6) (v := .int 0) (ty := .int) (C := RX6) (T := TX6) (N := 23) hx hb hts hiX6 tyX6 tyX6_ok nmX6 hown hK.1 hP (mo_D hh) hS 0 rfl rfl 0 (by decide) kf59 (fun _ h9 => h9) rfl (by decide +kernel) rfl rfl (Nat.le_of_ble_eq_true rfl) dX6_more_2 (fun H locs hP _ hS => ?_)
  have hP : va_P D kC (mo_W cI cJ g 0 (nI n) F Wt Sz Nu Pl Bf (nI b) (nI k) G Wk To Sl Sd (nI as) wo pa fa Fo) H := hP
  refine lv_aload_n hx hb dX6_more_5 rfl (lv_at hl 0 rfl) ?_
  refine lv_iload_n hx hb dX6_more_6 rfl (lv_at hl 1 rfl) ?_
  refine pu_callb (va_runV (As := [.int (nI r)]) (rest := []) ⟨hx, hb, hml, hown, hts⟩ (c_X6_isThing hh (hn) (nI r)) (cwV 1 hts gX6_more_X6_isThing rfl rfl rfl (by decide +kernel) ⟨Nat.le_of_ble_eq_true rfl, Nat.le_of_ble_eq_true rfl⟩) (wd_preV (ci := 6) (q0 := 0) hP hK rfl rfl) rfl rfl hl.1 rfl (lv_room (Nat.le_of_ble_eq_true rfl)) dX6_more_7 ⟨Nat.zero_le _, Nat.zero_le _⟩) (fun _ => ?_) (fun h9 => absurd (p_in_nI hr9 (by omega)) (by rw [h9]; decide))
  refine lv_if_ne (tgt := 15) hx hb dX6_more_10 (by decide) (fun _ => ?_) (fun h9 => absurd h9 (by decide))
  refine lv_iconst (v := 0) hx hb dX6_more_15 (by decide) ?_
  refine lv_istore_n (lv' := [(2, .int 0), (0, .ref (g 0)), (1, .int (nI r))]) hx hb dX6_more_16 rfl hl (by decide) rfl (fun ls hl => ?_)
  refine lp_X6_more hx hb hml hown hts hK hP hh hn r hr9 a ha hFa q hq hv (fun _ _ ls hl => ?_) q 0 (by omega) ls (lv_sub hl [0, 1, 2] rfl)
  refine lv_iload_n hx hb dX6_more_17 rfl (lv_at hl 0 rfl) ?_
  refine lv_bipush (v := 17) hx hb dX6_more_18 (by decide) ?_
  refine lv_icmp_ge (tgt := 50) hx hb dX6_more_20 (by decide) (fun _ => ?_) (fun h9 => absurd (nI_le (a := 17) (b := q) (by omega) (by omega)) h9)
  refine lv_bipush (v := (-5)) hx hb dX6_more_50 (by decide) ?_
  exact W.iret (v := (-5)) hx hb hr (fun t9 ht _ => ⟨congrArg (fun z => Outcome.returned (some (Value.int z))) (rfl), by rw [ht]; exact hP, hS.F ht⟩) hS.2.2 dX6_more_52
set_option maxHeartbeats 4000000 in
set_option maxRecDepth 100000 in
theorem c_X6_lay_u (hh : ad_ok g 16) (hn : n ≤ 100) (t kd i ot : Int32) (h1 : p_in t (nI n) = false) : Met l yX6_lay wsX6_lay ({ frames := 10, cells := 0, slots := 0, locals := 450 }) (wd_P D cI cJ [.ref (g 0), .int t, .int kd, .int i, .int ot] (mo_W cI cJ g fx (nI n) F Wt Sz Nu Pl Bf (nI b) (nI k) G Wk To Sl Sd (nI as) wo pa fa Fo)) (mu_Q D (ad_A g 16) (some (.int (-1))) (mo_W cI cJ g 0 (nI n) F Wt Sz Nu Pl Bf (nI b) (nI k) G Wk To Sl Sd (nI as) wo pa fa Fo)) 0 0 (ad_A g 16) := by
  refine Met.ofW (cc := cX6_lay) (maxL := 6) (ret := (some .int)) (by decide) rfl ?_
  intro p e s m args below meth c s₁ B hml hv
  obtain ⟨rfl, hP, hK⟩ := hv
  have hx := B.exec
  have hb := B.bytes
  have hr := B.returns
  have hts := atoms_spec (ws := wsX6_lay) B.pre
  have hown : s.vm.findClass RX6 = some m.cls := findClass_of_methodNamed B.named
  have hlocks := B.notSynchronized
  have hiX6 : ∀ w ∈ u_ws RX6 TX6 23, w ∈ wsX6_lay := by decide +kernel
  have kf59 := hts (.fieldLink RX6 59 "SortingLineModel" "fault" "I") (by decide +kernel)
  have hS : va_S (ad_A g 16) s.heap s.heap [] := va_S.rf
  have hl := lv_entry ([.ref (g 0), .int t, .int kd, .int i, .int ot]) (n := 6) (Nat.le_of_ble_eq_true rfl)
  rw [lg_entry_eq]
  generalize (lg_sl ([.ref (g 0), .int t, .int kd, .int i, .int ot]) ++ List.replicate (6 - (lg_sl ([.ref (g 0), .int t, .int kd, .int i, .int ot])).length) Slot.unset).toArray = ls at hl ⊢
  have hl : lv_has ls 6 [(0, .ref (g 0)), (1, .int t), (2, .int kd), (3, .int i), (4, .int ot)] := hl
  refine lv_aload_n hx hb dX6_lay_0 rfl (lv_at hl 0 rfl) ?_
  refine lv_iconst (v := 0) hx hb dX6_lay_1 (by decide) ?_
  refine va_put (D := D) (ci := 6) (v := .int 0) (ty := .int) (C := RX6) (T := TX6) (N := 23) hx hb hts hiX6 tyX6 tyX6_ok nmX6 hown hK.1 hP (mo_D hh) hS 0 rfl rfl 0 (by decide) kf59 (fun _ h9 => h9) rfl (by decide +kernel) rfl rfl (Nat.le_of_ble_eq_true rfl) dX6_lay_2 (fun H locs hP _ hS => ?_)
  have hP : va_P D kC (mo_W cI cJ g 0 (nI n) F Wt Sz Nu Pl Bf (nI b) (nI k) G Wk To Sl Sd (nI as) wo pa fa Fo) H := hP
  refine lv_aload_n hx hb dX6_lay_5 rfl (lv_at hl 0 rfl) ?_
  refine lv_iload_n hx hb dX6_lay_6 rfl (lv_at hl 1 rfl) ?_
  refine pu_callb (va_runV (As := [.int t]) (rest := []) ⟨hx, hb, hml, hown, hts⟩ (c_X6_isThing hh (hn) t) (cwV 1 hts gX6_lay_X6_isThing rfl rfl rfl (by decide +kernel) ⟨Nat.le_of_ble_eq_true rfl, Nat.le_of_ble_eq_true rfl⟩) (wd_preV (ci := 6) (q0 := 0) hP hK rfl rfl) rfl rfl hl.1 rfl (lv_room (Nat.le_of_ble_eq_true rfl)) dX6_lay_7 ⟨Nat.zero_le _, Nat.zero_le _⟩) (fun h9 => absurd (h1) (by rw [h9]; decide)) (fun _ => ?_)
  refine lv_if_eq (tgt := 29) hx hb dX6_lay_10 (by decide) (fun _ => ?_) (fun h9 => absurd (by decide) h9)
  refine lv_iconst (v := (-1)) hx hb dX6_lay_29 (by decide) ?_
  exact W.iret (v := (-1)) hx hb hr (fun t9 ht _ => ⟨congrArg (fun z => Outcome.returned (some (Value.int z))) (rfl), by rw [ht]; exact hP, hS.F ht⟩) hS.2.2 dX6_lay_30
set_option maxHeartbeats 4000000 in
set_option maxRecDepth 100000 in
theorem c_X6_lay_x (hh : ad_ok g 16) (hn : n ≤ 100) (t kd i ot : Int32) (h0 : p_in t (nI n) = true) (h1 : ¬ ot = -5) (h2 : p_in ot (nI n) = false) : Met l yX6_lay wsX6_lay ({ frames := 10, cells := 0, slots := 0, locals := 450 }) (wd_P D cI cJ [.ref (g 0), .int t, .int kd, .int i, .int ot] (mo_W cI cJ g fx (nI n) F Wt Sz Nu Pl Bf (nI b) (nI k) G Wk To Sl Sd (nI as) wo pa fa Fo)) (mu_Q D (ad_A g 16) (some (.int (-1))) (mo_W cI cJ g 0 (nI n) F Wt Sz Nu Pl Bf (nI b) (nI k) G Wk To Sl Sd (nI as) wo pa fa Fo)) 0 0 (ad_A g 16) := by
  refine Met.ofW (cc := cX6_lay) (maxL := 6) (ret := (some .int)) (by decide) rfl ?_
  intro p e s m args below meth c s₁ B hml hv
  obtain ⟨rfl, hP, hK⟩ := hv
  have hx := B.exec
  have hb := B.bytes
  have hr := B.returns
  have hts := atoms_spec (ws := wsX6_lay) B.pre
  have hown : s.vm.findClass RX6 = some m.cls := findClass_of_methodNamed B.named
  have hlocks := B.notSynchronized
  have hiX6 : ∀ w ∈ u_ws RX6 TX6 23, w ∈ wsX6_lay := by decide +kernel
  have kf59 := hts (.fieldLink RX6 59 "SortingLineModel" "fault" "I") (by decide +kernel)
  have hS : va_S (ad_A g 16) s.heap s.heap [] := va_S.rf
  have hl := lv_entry ([.ref (g 0), .int t, .int kd, .int i, .int ot]) (n := 6) (Nat.le_of_ble_eq_true rfl)
  rw [lg_entry_eq]
  generalize (lg_sl ([.ref (g 0), .int t, .int kd, .int i, .int ot]) ++ List.replicate (6 - (lg_sl ([.ref (g 0), .int t, .int kd, .int i, .int ot])).length) Slot.unset).toArray = ls at hl ⊢
  have hl : lv_has ls 6 [(0, .ref (g 0)), (1, .int t), (2, .int kd), (3, .int i), (4, .int ot)] := hl
  refine lv_aload_n hx hb dX6_lay_0 rfl (lv_at hl 0 rfl) ?_
  refine lv_iconst (v := 0) hx hb dX6_lay_1 (by decide) ?_
  refine va_put (D := D) (ci := 6) (v := .int 0) (ty := .int) (C := RX6) (T := TX6) (N := 23) hx hb hts hiX6 tyX6 tyX6_ok nmX6 hown hK.1 hP (mo_D hh) hS 0 rfl rfl 0 (by decide) kf59 (fun _ h9 => h9) rfl (by decide +kernel) rfl rfl (Nat.le_of_ble_eq_true rfl) dX6_lay_2 (fun H locs hP _ hS => ?_)
  have hP : va_P D kC (mo_W cI cJ g 0 (nI n) F Wt Sz Nu Pl Bf (nI b) (nI k) G Wk To Sl Sd (nI as) wo pa fa Fo) H := hP
  refine lv_aload_n hx hb dX6_lay_5 rfl (lv_at hl 0 rfl) ?_
  refine lv_iload_n hx hb dX6_lay_6 rfl (lv_at hl 1 rfl) ?_
  refine pu_callb (va_runV (As := [.int t]) (rest := []) ⟨hx, hb, hml, hown, hts⟩ (c_X6_isThing hh (hn) t) (cwV 1 hts gX6_lay_X6_isThing rfl rfl rfl (by decide +kernel) ⟨Nat.le_of_ble_eq_true rfl, Nat.le_of_ble_eq_true rfl⟩) (wd_preV (ci := 6) (q0 := 0) hP hK rfl rfl) rfl rfl hl.1 rfl (lv_room (Nat.le_of_ble_eq_true rfl)) dX6_lay_7 ⟨Nat.zero_le _, Nat.zero_le _⟩) (fun _ => ?_) (fun h9 => absurd (h0) (by rw [h9]; decide))
  refine lv_if_eq (tgt := 29) hx hb dX6_lay_10 (by decide) (fun h9 => absurd h9 (by decide)) (fun _ => ?_)
  refine lv_iload hx hb dX6_lay_13 (lv_at hl 4 rfl) ?_
  refine lv_bipush (v := (-5)) hx hb dX6_lay_15 (by decide) ?_
  refine lv_icmp_eq (tgt := 31) hx hb dX6_lay_17 (by decide) (fun h9 => absurd h9 (h1)) (fun _ => ?_)
  refine lv_aload_n hx hb dX6_lay_20 rfl (lv_at hl 0 rfl) ?_
  refine lv_iload hx hb dX6_lay_21 (lv_at hl 4 rfl) ?_
  refine pu_callb (va_runV (As := [.int ot]) (rest := []) ⟨hx, hb, hml, hown, hts⟩ (c_X6_isThing hh (hn) ot) (cwV 1 hts gX6_lay_X6_isThing rfl rfl rfl (by decide +kernel) ⟨Nat.le_of_ble_eq_true rfl, Nat.le_of_ble_eq_true rfl⟩) (wd_preV (ci := 6) (q0 := 0) hP hK rfl rfl) rfl rfl hl.1 rfl (lv_room (Nat.le_of_ble_eq_true rfl)) dX6_lay_23 ⟨Nat.zero_le _, Nat.zero_le _⟩) (fun h9 => absurd (h2) (by rw [h9]; decide)) (fun _ => ?_)
  refine lv_if_ne (tgt := 31) hx hb dX6_lay_26 (by decide) (fun h9 => absurd (by decide) h9) (fun _ => ?_)
  refine lv_iconst (v := (-1)) hx hb dX6_lay_29 (by decide) ?_
  exact W.iret (v := (-1)) hx hb hr (fun t9 ht _ => ⟨congrArg (fun z => Outcome.returned (some (Value.int z))) (rfl), by rw [ht]; exact hP, hS.F ht⟩) hS.2.2 dX6_lay_30
set_option maxHeartbeats 4000000 in
set_option maxRecDepth 100000 in
theorem c_X6_lay_no (hh : ad_ok g 16) (hn : n ≤ 100) (t kd i : Int32) (h1 : p_in t (nI n) = true) (h2 : q_in kd 7 15 = false) : Met l yX6_lay wsX6_lay ({ frames := 10, cells := 0, slots := 0, locals := 450 }) (wd_P D cI cJ [.ref (g 0), .int t, .int kd, .int i, .int (-5)] (mo_W cI cJ g fx (nI n) F Wt Sz Nu Pl Bf (nI b) (nI k) G Wk To Sl Sd (nI as) wo pa fa Fo)) (mu_Q D (ad_A g 16) (some (.int (-2))) (mo_W cI cJ g 0 (nI n) F Wt Sz Nu Pl Bf (nI b) (nI k) G Wk To Sl Sd (nI as) wo pa fa Fo)) 0 0 (ad_A g 16) := by
  refine Met.ofW (cc := cX6_lay) (maxL := 6) (ret := (some .int)) (by decide) rfl ?_
  intro p e s m args below meth c s₁ B hml hv
  obtain ⟨rfl, hP, hK⟩ := hv
  have hx := B.exec
  have hb := B.bytes
  have hr := B.returns
  have hts := atoms_spec (ws := wsX6_lay) B.pre
  have hown : s.vm.findClass RX6 = some m.cls := findClass_of_methodNamed B.named
  have hlocks := B.notSynchronized
  have hiX6 : ∀ w ∈ u_ws RX6 TX6 23, w ∈ wsX6_lay := by decide +kernel
  have kf59 := hts (.fieldLink RX6 59 "SortingLineModel" "fault" "I") (by decide +kernel)
  have hS : va_S (ad_A g 16) s.heap s.heap [] := va_S.rf
  have hl := lv_entry ([.ref (g 0), .int t, .int kd, .int i, .int (-5)]) (n := 6) (Nat.le_of_ble_eq_true rfl)
  rw [lg_entry_eq]
  generalize (lg_sl ([.ref (g 0), .int t, .int kd, .int i, .int (-5)]) ++ List.replicate (6 - (lg_sl ([.ref (g 0), .int t, .int kd, .int i, .int (-5)])).length) Slot.unset).toArray = ls at hl ⊢
  have hl : lv_has ls 6 [(0, .ref (g 0)), (1, .int t), (2, .int kd), (3, .int i), (4, .int (-5))] := hl
  refine lv_aload_n hx hb dX6_lay_0 rfl (lv_at hl 0 rfl) ?_
  refine lv_iconst (v := 0) hx hb dX6_lay_1 (by decide) ?_
  refine va_put (D := D) (ci := 6) (v := .int 0) (ty := .int) (C := RX6) (T := TX6) (N := 23) hx hb hts hiX6 tyX6 tyX6_ok nmX6 hown hK.1 hP (mo_D hh) hS 0 rfl rfl 0 (by decide) kf59 (fun _ h9 => h9) rfl (by decide +kernel) rfl rfl (Nat.le_of_ble_eq_true rfl) dX6_lay_2 (fun H locs hP _ hS => ?_)
  have hP : va_P D kC (mo_W cI cJ g 0 (nI n) F Wt Sz Nu Pl Bf (nI b) (nI k) G Wk To Sl Sd (nI as) wo pa fa Fo) H := hP
  refine lv_aload_n hx hb dX6_lay_5 rfl (lv_at hl 0 rfl) ?_
  refine lv_iload_n hx hb dX6_lay_6 rfl (lv_at hl 1 rfl) ?_
  refine pu_callb (va_runV (As := [.int t]) (rest := []) ⟨hx, hb, hml, hown, hts⟩ (c_X6_isThing hh (hn) t) (cwV 1 hts gX6_lay_X6_isThing rfl rfl rfl (by decide +kernel) ⟨Nat.le_of_ble_eq_true rfl, Nat.le_of_ble_eq_true rfl⟩) (wd_preV (ci := 6) (q0 := 0) hP hK rfl rfl) rfl rfl hl.1 rfl (lv_room (Nat.le_of_ble_eq_true rfl)) dX6_lay_7 ⟨Nat.zero_le _, Nat.zero_le _⟩) (fun _ => ?_) (fun h9 => absurd (h1) (by rw [h9]; decide))
  refine lv_if_eq (tgt := 29) hx hb dX6_lay_10 (by decide) (fun h9 => absurd h9 (by decide)) (fun _ => ?_)
  refine lv_iload hx hb dX6_lay_13 (lv_at hl 4 rfl) ?_
  refine lv_bipush (v := (-5)) hx hb dX6_lay_15 (by decide) ?_
  refine lv_icmp_eq (tgt := 31) hx hb dX6_lay_17 (by decide) (fun _ => ?_) (fun h9 => absurd (by decide) h9)
  refine lv_iload_n hx hb dX6_lay_31 rfl (lv_at hl 2 rfl) ?_
  refine lv_bipush (v := 7) hx hb dX6_lay_32 (by decide) ?_
  refine lv_bipush (v := 15) hx hb dX6_lay_34 (by decide) ?_
  refine pu_callb (va_runS (As := [.int kd, .int 7, .int 15]) (rest := []) ⟨hx, hb, hml, hown, hts⟩ (c_X6_in kd 7 15) (cwS 3 hts gX6_lay_X6_in rfl rfl rfl (by decide +kernel) ⟨Nat.le_of_ble_eq_true rfl, Nat.le_of_ble_eq_true rfl⟩) (wd_preS hP hK) rfl rfl hl.1 rfl (lv_room (Nat.le_of_ble_eq_true rfl)) dX6_lay_36 ⟨Nat.zero_le _, Nat.zero_le _⟩) (fun h9 => absurd (h2) (by rw [h9]; decide)) (fun _ => ?_)
  refine lv_if_ne (tgt := 45) hx hb dX6_lay_39 (by decide) (fun h9 => absurd (by decide) h9) (fun _ => ?_)
  refine lv_bipush (v := (-2)) hx hb dX6_lay_42 (by decide) ?_
  exact W.iret (v := (-2)) hx hb hr (fun t9 ht _ => ⟨congrArg (fun z => Outcome.returned (some (Value.int z))) (rfl), by rw [ht]; exact hP, hS.F ht⟩) hS.2.2 dX6_lay_44
set_option maxHeartbeats 4000000 in
set_option maxRecDepth 100000 in
theorem c_X6_lay_nc (hh : ad_ok g 16) (hn : n ≤ 100) (r : Nat) (hr9 : r < n) (a : Nat) (ha : a < 16) (hFa : F r = nI a) (c9 : Nat) (hc : c9 < 18) (hc16 : c9 < 16) (hq : q_in (nI c9) 7 15 = true) (i : Int32) (h1 : ko (F r) (nI c9) = false) : Met l yX6_lay wsX6_lay ({ frames := 10, cells := 0, slots := 0, locals := 450 }) (wd_P D cI cJ [.ref (g 0), .int (nI r), .int (nI c9), .int i, .int (-5)] (mo_W cI cJ g fx (nI n) F Wt Sz Nu Pl Bf (nI b) (nI k) G Wk To Sl Sd (nI as) wo pa fa Fo)) (mu_Q D (ad_A g 16) (some (.int (-21))) (mo_W cI cJ g 0 (nI n) F Wt Sz Nu Pl Bf (nI b) (nI k) G Wk To Sl Sd (nI as) wo pa fa (upd Fo 1 (Fo 1 + 1)))) 0 0 (ad_A g 16) := by
  refine Met.ofW (cc := cX6_lay) (maxL := 6) (ret := (some .int)) (by decide) rfl ?_
  intro p e s m args below meth c s₁ B hml hv
  obtain ⟨rfl, hP, hK⟩ := hv
  have hx := B.exec
  have hb := B.bytes
  have hr := B.returns
  have hts := atoms_spec (ws := wsX6_lay) B.pre
  have hown : s.vm.findClass RX6 = some m.cls := findClass_of_methodNamed B.named
  have hlocks := B.notSynchronized
  have hiX6 : ∀ w ∈ u_ws RX6 TX6 23, w ∈ wsX6_lay := by decide +kernel
  have kf59 := hts (.fieldLink RX6 59 "SortingLineModel" "fault" "I") (by decide +kernel)
  have hS : va_S (ad_A g 16) s.heap s.heap [] := va_S.rf
  have hl := lv_entry ([.ref (g 0), .int (nI r), .int (nI c9), .int i, .int (-5)]) (n := 6) (Nat.le_of_ble_eq_true rfl)
  rw [lg_entry_eq]
  generalize (lg_sl ([.ref (g 0), .int (nI r), .int (nI c9), .int i, .int (-5)]) ++ List.replicate (6 - (lg_sl ([.ref (g 0), .int (nI r), .int (nI c9), .int i, .int (-5)])).length) Slot.unset).toArray = ls at hl ⊢
  have hl : lv_has ls 6 [(0, .ref (g 0)), (1, .int (nI r)), (2, .int (nI c9)), (3, .int i), (4, .int (-5))] := hl
  refine lv_aload_n hx hb dX6_lay_0 rfl (lv_at hl 0 rfl) ?_
  refine lv_iconst (v := 0) hx hb dX6_lay_1 (by decide) ?_
  refine va_put (D := D) (ci := 6) (v := .int 0) (ty := .int) (C := RX6) (T := TX6) (N := 23) hx hb hts hiX6 tyX6 tyX6_ok nmX6 hown hK.1 hP (mo_D hh) hS 0 rfl rfl 0 (by decide) kf59 (fun _ h9 => h9) rfl (by decide +kernel) rfl rfl (Nat.le_of_ble_eq_true rfl) dX6_lay_2 (fun H locs hP _ hS => ?_)
  have hP : va_P D kC (mo_W cI cJ g 0 (nI n) F Wt Sz Nu Pl Bf (nI b) (nI k) G Wk To Sl Sd (nI as) wo pa fa Fo) H := hP
  refine lv_aload_n hx hb dX6_lay_5 rfl (lv_at hl 0 rfl) ?_
  refine lv_iload_n hx hb dX6_lay_6 rfl (lv_at hl 1 rfl) ?_
  refine pu_callb (va_runV (As := [.int (nI r)]) (rest := []) ⟨hx, hb, hml, hown, hts⟩ (c_X6_isThing hh (hn) (nI r)) (cwV 1 hts gX6_lay_X6_isThing rfl rfl rfl (by decide +kernel) ⟨Nat.le_of_ble_eq_true rfl, Nat.le_of_ble_eq_true rfl⟩) (wd_preV (ci := 6) (q0 := 0) hP hK rfl rfl) rfl rfl hl.1 rfl (lv_room (Nat.le_of_ble_eq_true rfl)) dX6_lay_7 ⟨Nat.zero_le _, Nat.zero_le _⟩) (fun _ => ?_) (fun h9 => absurd (p_in_nI hr9 (by omega)) (by rw [h9]; decide))
  refine lv_if_eq (tgt := 29) hx hb dX6_lay_10 (by decide) (fun h9 => absurd h9 (by decide)) (fun _ => ?_)
  refine lv_iload hx hb dX6_lay_13 (lv_at hl 4 rfl) ?_
  refine lv_bipush (v := (-5)) hx hb dX6_lay_15 (by decide) ?_
  refine lv_icmp_eq (tgt := 31) hx hb dX6_lay_17 (by decide) (fun _ => ?_) (fun h9 => absurd (by decide) h9)
  refine lv_iload_n hx hb dX6_lay_31 rfl (lv_at hl 2 rfl) ?_
  refine lv_bipush (v := 7) hx hb dX6_lay_32 (by decide) ?_
  refine lv_bipush (v := 15) hx hb dX6_lay_34 (by decide) ?_
  refine pu_callb (va_runS (As := [.int (nI c9), .int 7, .int 15]) (rest := []) ⟨hx, hb, hml, hown, hts⟩ (c_X6_in (nI c9) 7 15) (cwS 3 hts gX6_lay_X6_in rfl rfl rfl (by decide +kernel) ⟨Nat.le_of_ble_eq_true rfl, Nat.le_of_ble_eq_true rfl⟩) (wd_preS hP hK) rfl rfl hl.1 rfl (lv_room (Nat.le_of_ble_eq_true rfl)) dX6_lay_36 ⟨Nat.zero_le _, Nat.zero_le _⟩) (fun _ => ?_) (fun h9 => absurd (hq) (by rw [h9]; decide))
  refine lv_if_ne (tgt := 45) hx hb dX6_lay_39 (by decide) (fun _ => ?_) (fun h9 => absurd h9 (by decide))
  refine lv_aload_n hx hb dX6_lay_45 rfl (lv_at hl 0 rfl) ?_
  refine lv_iload_n hx hb dX6_lay_46 rfl (lv_at hl 1 rfl) ?_
  refine lv_iload_n hx hb dX6_lay_47 rfl (lv_at hl 2 rfl) ?_
  refine lv_iload_n hx hb dX6_lay_48 rfl (lv_at hl 3 rfl) ?_
  refine lv_iload hx hb dX6_lay_49 (lv_at hl 4 rfl) ?_
  refine lv_bipush (v := (-5)) hx hb dX6_lay_51 (by decide) ?_
  refine lv_icmp_ne (tgt := 60) hx hb dX6_lay_53 (by decide) (fun h9 => absurd (by decide) h9) (fun _ => ?_)
  refine lv_iconst (v := (-1)) hx hb dX6_lay_56 (by decide) ?_
  refine lv_goto (tgt := 62) hx hb dX6_lay_57 (by decide) ?_
  refine pu_calli (va_runV (As := [.int (nI r), .int (nI c9), .int i, .int (-1)]) (rest := []) ⟨hx, hb, hml, hown, hts⟩ (c_X6_lays_c hh hn r (by omega) a ha hFa c9 (by omega) (by omega) i (-1) h1) (cwV 4 hts gX6_lay_X6_lays rfl rfl rfl (by decide +kernel) ⟨Nat.le_of_ble_eq_true rfl, Nat.le_of_ble_eq_true rfl⟩) (wd_preV (ci := 6) (q0 := 0) hP hK rfl rfl) rfl rfl hl.1 rfl (lv_room (Nat.le_of_ble_eq_true rfl)) dX6_lay_62 ⟨Nat.zero_le _, Nat.zero_le _⟩) ?_
  refine lv_istore (lv' := [(5, .int 1), (0, .ref (g 0)), (1, .int (nI r)), (2, .int (nI c9)), (3, .int i), (4, .int (-5))]) hx hb dX6_lay_65 hl (by decide) rfl (fun ls hl => ?_)
  refine lv_iload hx hb dX6_lay_67 (lv_at hl 0 rfl) ?_
  refine lv_if_ne (tgt := 76) hx hb dX6_lay_69 (by decide) (fun _ => ?_) (fun h9 => absurd h9 (by decide))
  refine lv_aload_n hx hb dX6_lay_76 rfl (lv_at hl 1 rfl) ?_
  refine lv_iload hx hb dX6_lay_77 (lv_at hl 0 rfl) ?_
  refine mu_calli (va_runV (As := [.int 1]) (rest := []) ⟨hx, hb, hml, hown, hts⟩ (c_X6_found hh 1 (by omega) (by omega)) (cwV 1 hts gX6_lay_X6_found rfl rfl rfl (by decide +kernel) ⟨Nat.le_of_ble_eq_true rfl, Nat.le_of_ble_eq_true rfl⟩) (wd_preV (ci := 6) (q0 := 0) hP hK rfl rfl) rfl rfl hl.1 rfl (lv_room (Nat.le_of_ble_eq_true rfl)) dX6_lay_79 ⟨Nat.zero_le _, Nat.zero_le _⟩) hS (fun H locs hP hS => ?_)
  have hP : va_P D kC (mo_W cI cJ g 0 (nI n) F Wt Sz Nu Pl Bf (nI b) (nI k) G Wk To Sl Sd (nI as) wo pa fa (upd Fo 1 (Fo 1 + 1))) H := hP
  refine tp_i (y := (-21)) (by decide) ?_
  exact W.iret (v := (-21)) hx hb hr (fun t9 ht _ => ⟨congrArg (fun z => Outcome.returned (some (Value.int z))) (rfl), by rw [ht]; exact hP, hS.F ht⟩) hS.2.2 dX6_lay_82
set_option maxHeartbeats 4000000 in
set_option maxRecDepth 100000 in
theorem c_X6_lay_nB (hh : ad_ok g 16) (hn : n ≤ 100) (r : Nat) (hr9 : r < n) (a : Nat) (ha : a < 16) (hFa : F r = nI a) (c9 : Nat) (hc : c9 < 18) (hc16 : c9 < 16) (hq : q_in (nI c9) 7 15 = true) (z : Nat) (hz : Sz r = nI z) (hz8 : z ≤ 8) (i : Int32) (h1 : ko (F r) (nI c9) = true) (h2 : p_in i (Sz r) = false) : Met l yX6_lay wsX6_lay ({ frames := 10, cells := 0, slots := 0, locals := 450 }) (wd_P D cI cJ [.ref (g 0), .int (nI r), .int (nI c9), .int i, .int (-5)] (mo_W cI cJ g fx (nI n) F Wt Sz Nu Pl Bf (nI b) (nI k) G Wk To Sl Sd (nI as) wo pa fa Fo)) (mu_Q D (ad_A g 16) (some (.int (-23))) (mo_W cI cJ g 0 (nI n) F Wt Sz Nu Pl Bf (nI b) (nI k) G Wk To Sl Sd (nI as) wo pa fa (upd Fo 3 (Fo 3 + 1)))) 0 0 (ad_A g 16) := by
  refine Met.ofW (cc := cX6_lay) (maxL := 6) (ret := (some .int)) (by decide) rfl ?_
  intro p e s m args below meth c s₁ B hml hv
  obtain ⟨rfl, hP, hK⟩ := hv
  have hx := B.exec
  have hb := B.bytes
  have hr := B.returns
  have hts := atoms_spec (ws := wsX6_lay) B.pre
  have hown : s.vm.findClass RX6 = some m.cls := findClass_of_methodNamed B.named
  have hlocks := B.notSynchronized
  have hiX6 : ∀ w ∈ u_ws RX6 TX6 23, w ∈ wsX6_lay := by decide +kernel
  have kf59 := hts (.fieldLink RX6 59 "SortingLineModel" "fault" "I") (by decide +kernel)
  have hS : va_S (ad_A g 16) s.heap s.heap [] := va_S.rf
  have hl := lv_entry ([.ref (g 0), .int (nI r), .int (nI c9), .int i, .int (-5)]) (n := 6) (Nat.le_of_ble_eq_true rfl)
  rw [lg_entry_eq]
  generalize (lg_sl ([.ref (g 0), .int (nI r), .int (nI c9), .int i, .int (-5)]) ++ List.replicate (6 - (lg_sl ([.ref (g 0), .int (nI r), .int (nI c9), .int i, .int (-5)])).length) Slot.unset).toArray = ls at hl ⊢
  have hl : lv_has ls 6 [(0, .ref (g 0)), (1, .int (nI r)), (2, .int (nI c9)), (3, .int i), (4, .int (-5))] := hl
  refine lv_aload_n hx hb dX6_lay_0 rfl (lv_at hl 0 rfl) ?_
  refine lv_iconst (v := 0) hx hb dX6_lay_1 (by decide) ?_
  refine va_put (D := D) (ci := 6) (v := .int 0) (ty := .int) (C := RX6) (T := TX6) (N := 23) hx hb hts hiX6 tyX6 tyX6_ok nmX6 hown hK.1 hP (mo_D hh) hS 0 rfl rfl 0 (by decide) kf59 (fun _ h9 => h9) rfl (by decide +kernel) rfl rfl (Nat.le_of_ble_eq_true rfl) dX6_lay_2 (fun H locs hP _ hS => ?_)
  have hP : va_P D kC (mo_W cI cJ g 0 (nI n) F Wt Sz Nu Pl Bf (nI b) (nI k) G Wk To Sl Sd (nI as) wo pa fa Fo) H := hP
  refine lv_aload_n hx hb dX6_lay_5 rfl (lv_at hl 0 rfl) ?_
  refine lv_iload_n hx hb dX6_lay_6 rfl (lv_at hl 1 rfl) ?_
  refine pu_callb (va_runV (As := [.int (nI r)]) (rest := []) ⟨hx, hb, hml, hown, hts⟩ (c_X6_isThing hh (hn) (nI r)) (cwV 1 hts gX6_lay_X6_isThing rfl rfl rfl (by decide +kernel) ⟨Nat.le_of_ble_eq_true rfl, Nat.le_of_ble_eq_true rfl⟩) (wd_preV (ci := 6) (q0 := 0) hP hK rfl rfl) rfl rfl hl.1 rfl (lv_room (Nat.le_of_ble_eq_true rfl)) dX6_lay_7 ⟨Nat.zero_le _, Nat.zero_le _⟩) (fun _ => ?_) (fun h9 => absurd (p_in_nI hr9 (by omega)) (by rw [h9]; decide))
  refine lv_if_eq (tgt := 29) hx hb dX6_lay_10 (by decide) (fun h9 => absurd h9 (by decide)) (fun _ => ?_)
  refine lv_iload hx hb dX6_lay_13 (lv_at hl 4 rfl) ?_
  refine lv_bipush (v := (-5)) hx hb dX6_lay_15 (by decide) ?_
  refine lv_icmp_eq (tgt := 31) hx hb dX6_lay_17 (by decide) (fun _ => ?_) (fun h9 => absurd (by decide) h9)
  refine lv_iload_n hx hb dX6_lay_31 rfl (lv_at hl 2 rfl) ?_
  refine lv_bipush (v := 7) hx hb dX6_lay_32 (by decide) ?_
  refine lv_bipush (v := 15) hx hb dX6_lay_34 (by decide) ?_
  refine pu_callb (va_runS (As := [.int (nI c9), .int 7, .int 15]) (rest := []) ⟨hx, hb, hml, hown, hts⟩ (c_X6_in (nI c9) 7 15) (cwS 3 hts gX6_lay_X6_in rfl rfl rfl (by decide +kernel) ⟨Nat.le_of_ble_eq_true rfl, Nat.le_of_ble_eq_true rfl⟩) (wd_preS hP hK) rfl rfl hl.1 rfl (lv_room (Nat.le_of_ble_eq_true rfl)) dX6_lay_36 ⟨Nat.zero_le _, Nat.zero_le _⟩) (fun _ => ?_) (fun h9 => absurd (hq) (by rw [h9]; decide))
  refine lv_if_ne (tgt := 45) hx hb dX6_lay_39 (by decide) (fun _ => ?_) (fun h9 => absurd h9 (by decide))
  refine lv_aload_n hx hb dX6_lay_45 rfl (lv_at hl 0 rfl) ?_
  refine lv_iload_n hx hb dX6_lay_46 rfl (lv_at hl 1 rfl) ?_
  refine lv_iload_n hx hb dX6_lay_47 rfl (lv_at hl 2 rfl) ?_
  refine lv_iload_n hx hb dX6_lay_48 rfl (lv_at hl 3 rfl) ?_
  refine lv_iload hx hb dX6_lay_49 (lv_at hl 4 rfl) ?_
  refine lv_bipush (v := (-5)) hx hb dX6_lay_51 (by decide) ?_
  refine lv_icmp_ne (tgt := 60) hx hb dX6_lay_53 (by decide) (fun h9 => absurd (by decide) h9) (fun _ => ?_)
  refine lv_iconst (v := (-1)) hx hb dX6_lay_56 (by decide) ?_
  refine lv_goto (tgt := 62) hx hb dX6_lay_57 (by decide) ?_
  refine pu_calli (va_runV (As := [.int (nI r), .int (nI c9), .int i, .int (-1)]) (rest := []) ⟨hx, hb, hml, hown, hts⟩ (c_X6_lays_nB hh hn r (by omega) a ha hFa c9 (by omega) (by omega) z hz hz8 i h1 h2) (cwV 4 hts gX6_lay_X6_lays rfl rfl rfl (by decide +kernel) ⟨Nat.le_of_ble_eq_true rfl, Nat.le_of_ble_eq_true rfl⟩) (wd_preV (ci := 6) (q0 := 0) hP hK rfl rfl) rfl rfl hl.1 rfl (lv_room (Nat.le_of_ble_eq_true rfl)) dX6_lay_62 ⟨Nat.zero_le _, Nat.zero_le _⟩) ?_
  refine lv_istore (lv' := [(5, .int 3), (0, .ref (g 0)), (1, .int (nI r)), (2, .int (nI c9)), (3, .int i), (4, .int (-5))]) hx hb dX6_lay_65 hl (by decide) rfl (fun ls hl => ?_)
  refine lv_iload hx hb dX6_lay_67 (lv_at hl 0 rfl) ?_
  refine lv_if_ne (tgt := 76) hx hb dX6_lay_69 (by decide) (fun _ => ?_) (fun h9 => absurd h9 (by decide))
  refine lv_aload_n hx hb dX6_lay_76 rfl (lv_at hl 1 rfl) ?_
  refine lv_iload hx hb dX6_lay_77 (lv_at hl 0 rfl) ?_
  refine mu_calli (va_runV (As := [.int 3]) (rest := []) ⟨hx, hb, hml, hown, hts⟩ (c_X6_found hh 3 (by omega) (by omega)) (cwV 1 hts gX6_lay_X6_found rfl rfl rfl (by decide +kernel) ⟨Nat.le_of_ble_eq_true rfl, Nat.le_of_ble_eq_true rfl⟩) (wd_preV (ci := 6) (q0 := 0) hP hK rfl rfl) rfl rfl hl.1 rfl (lv_room (Nat.le_of_ble_eq_true rfl)) dX6_lay_79 ⟨Nat.zero_le _, Nat.zero_le _⟩) hS (fun H locs hP hS => ?_)
  have hP : va_P D kC (mo_W cI cJ g 0 (nI n) F Wt Sz Nu Pl Bf (nI b) (nI k) G Wk To Sl Sd (nI as) wo pa fa (upd Fo 3 (Fo 3 + 1))) H := hP
  refine tp_i (y := (-23)) (by decide) ?_
  exact W.iret (v := (-23)) hx hb hr (fun t9 ht _ => ⟨congrArg (fun z => Outcome.returned (some (Value.int z))) (rfl), by rw [ht]; exact hP, hS.F ht⟩) hS.2.2 dX6_lay_82
set_option maxHeartbeats 4000000 in
set_option maxRecDepth 100000 in
theorem c_X6_lay_nO (hh : ad_ok g 16) (hn : n ≤ 100) (r : Nat) (hr9 : r < n) (a : Nat) (ha : a < 16) (hFa : F r = nI a) (c9 : Nat) (hc : c9 < 18) (hc16 : c9 < 16) (hq : q_in (nI c9) 7 15 = true) (z : Nat) (hz : Sz r = nI z) (hz8 : z ≤ 8) (j : Nat) (hj : j < 8) (h1 : ko (F r) (nI c9) = true) (h2 : p_in (nI j) (Sz r) = true) : Met l yX6_lay wsX6_lay ({ frames := 10, cells := 0, slots := 0, locals := 450 }) (wd_P D cI cJ [.ref (g 0), .int (nI r), .int (nI c9), .int (nI j), .int (-5)] (mo_W cI cJ g fx (nI n) F Wt Sz Nu Pl Bf (nI b) (nI k) G Wk To Sl Sd (nI as) wo pa fa Fo)) (mu_Q D (ad_A g 16) (some (.int 1)) (mo_W cI cJ g 0 (nI n) F Wt Sz Nu (upd Pl (8 * r + j) (-1)) Bf (nI b) (nI k) G Wk To Sl Sd (nI as) wo pa fa Fo)) 0 0 (ad_A g 16) := by
  refine Met.ofW (cc := cX6_lay) (maxL := 6) (ret := (some .int)) (by decide) rfl ?_
  intro p e s m args below meth c s₁ B hml hv
  obtain ⟨rfl, hP, hK⟩ := hv
  have hx := B.exec
  have hb := B.bytes
  have hr := B.returns
  have hts := atoms_spec (ws := wsX6_lay) B.pre
  have hown : s.vm.findClass RX6 = some m.cls := findClass_of_methodNamed B.named
  have hlocks := B.notSynchronized
  have hiX6 : ∀ w ∈ u_ws RX6 TX6 23, w ∈ wsX6_lay := by decide +kernel
  have kf59 := hts (.fieldLink RX6 59 "SortingLineModel" "fault" "I") (by decide +kernel)
  have hS : va_S (ad_A g 16) s.heap s.heap [] := va_S.rf
  have hl := lv_entry ([.ref (g 0), .int (nI r), .int (nI c9), .int (nI j), .int (-5)]) (n := 6) (Nat.le_of_ble_eq_true rfl)
  rw [lg_entry_eq]
  generalize (lg_sl ([.ref (g 0), .int (nI r), .int (nI c9), .int (nI j), .int (-5)]) ++ List.replicate (6 - (lg_sl ([.ref (g 0), .int (nI r), .int (nI c9), .int (nI j), .int (-5)])).length) Slot.unset).toArray = ls at hl ⊢
  have hl : lv_has ls 6 [(0, .ref (g 0)), (1, .int (nI r)), (2, .int (nI c9)), (3, .int (nI j)), (4, .int (-5))] := hl
  refine lv_aload_n hx hb dX6_lay_0 rfl (lv_at hl 0 rfl) ?_
  refine lv_iconst (v := 0) hx hb dX6_lay_1 (by decide) ?_
  refine va_put (D := D) (ci := 6) (v := .int 0) (ty := .int) (C := RX6) (T := TX6) (N := 23) hx hb hts hiX6 tyX6 tyX6_ok nmX6 hown hK.1 hP (mo_D hh) hS 0 rfl rfl 0 (by decide) kf59 (fun _ h9 => h9) rfl (by decide +kernel) rfl rfl (Nat.le_of_ble_eq_true rfl) dX6_lay_2 (fun H locs hP _ hS => ?_)
  have hP : va_P D kC (mo_W cI cJ g 0 (nI n) F Wt Sz Nu Pl Bf (nI b) (nI k) G Wk To Sl Sd (nI as) wo pa fa Fo) H := hP
  refine lv_aload_n hx hb dX6_lay_5 rfl (lv_at hl 0 rfl) ?_
  refine lv_iload_n hx hb dX6_lay_6 rfl (lv_at hl 1 rfl) ?_
  refine pu_callb (va_runV (As := [.int (nI r)]) (rest := []) ⟨hx, hb, hml, hown, hts⟩ (c_X6_isThing hh (hn) (nI r)) (cwV 1 hts gX6_lay_X6_isThing rfl rfl rfl (by decide +kernel) ⟨Nat.le_of_ble_eq_true rfl, Nat.le_of_ble_eq_true rfl⟩) (wd_preV (ci := 6) (q0 := 0) hP hK rfl rfl) rfl rfl hl.1 rfl (lv_room (Nat.le_of_ble_eq_true rfl)) dX6_lay_7 ⟨Nat.zero_le _, Nat.zero_le _⟩) (fun _ => ?_) (fun h9 => absurd (p_in_nI hr9 (by omega)) (by rw [h9]; decide))
  refine lv_if_eq (tgt := 29) hx hb dX6_lay_10 (by decide) (fun h9 => absurd h9 (by decide)) (fun _ => ?_)
  refine lv_iload hx hb dX6_lay_13 (lv_at hl 4 rfl) ?_
  refine lv_bipush (v := (-5)) hx hb dX6_lay_15 (by decide) ?_
  refine lv_icmp_eq (tgt := 31) hx hb dX6_lay_17 (by decide) (fun _ => ?_) (fun h9 => absurd (by decide) h9)
  refine lv_iload_n hx hb dX6_lay_31 rfl (lv_at hl 2 rfl) ?_
  refine lv_bipush (v := 7) hx hb dX6_lay_32 (by decide) ?_
  refine lv_bipush (v := 15) hx hb dX6_lay_34 (by decide) ?_
  refine pu_callb (va_runS (As := [.int (nI c9), .int 7, .int 15]) (rest := []) ⟨hx, hb, hml, hown, hts⟩ (c_X6_in (nI c9) 7 15) (cwS 3 hts gX6_lay_X6_in rfl rfl rfl (by decide +kernel) ⟨Nat.le_of_ble_eq_true rfl, Nat.le_of_ble_eq_true rfl⟩) (wd_preS hP hK) rfl rfl hl.1 rfl (lv_room (Nat.le_of_ble_eq_true rfl)) dX6_lay_36 ⟨Nat.zero_le _, Nat.zero_le _⟩) (fun _ => ?_) (fun h9 => absurd (hq) (by rw [h9]; decide))
  refine lv_if_ne (tgt := 45) hx hb dX6_lay_39 (by decide) (fun _ => ?_) (fun h9 => absurd h9 (by decide))
  refine lv_aload_n hx hb dX6_lay_45 rfl (lv_at hl 0 rfl) ?_
  refine lv_iload_n hx hb dX6_lay_46 rfl (lv_at hl 1 rfl) ?_
  refine lv_iload_n hx hb dX6_lay_47 rfl (lv_at hl 2 rfl) ?_
  refine lv_iload_n hx hb dX6_lay_48 rfl (lv_at hl 3 rfl) ?_
  refine lv_iload hx hb dX6_lay_49 (lv_at hl 4 rfl) ?_
  refine lv_bipush (v := (-5)) hx hb dX6_lay_51 (by decide) ?_
  refine lv_icmp_ne (tgt := 60) hx hb dX6_lay_53 (by decide) (fun h9 => absurd (by decide) h9) (fun _ => ?_)
  refine lv_iconst (v := (-1)) hx hb dX6_lay_56 (by decide) ?_
  refine lv_goto (tgt := 62) hx hb dX6_lay_57 (by decide) ?_
  refine mu_calli (va_runV (As := [.int (nI r), .int (nI c9), .int (nI j), .int (-1)]) (rest := []) ⟨hx, hb, hml, hown, hts⟩ (c_X6_lays_nO hh hn r (by omega) a ha hFa c9 (by omega) (by omega) z hz hz8 j hj h1 h2) (cwV 4 hts gX6_lay_X6_lays rfl rfl rfl (by decide +kernel) ⟨Nat.le_of_ble_eq_true rfl, Nat.le_of_ble_eq_true rfl⟩) (wd_preV (ci := 6) (q0 := 0) hP hK rfl rfl) rfl rfl hl.1 rfl (lv_room (Nat.le_of_ble_eq_true rfl)) dX6_lay_62 ⟨Nat.zero_le _, Nat.zero_le _⟩) hS (fun H locs hP hS => ?_)
  have hP : va_P D kC (mo_W cI cJ g 0 (nI n) F Wt Sz Nu (upd Pl (8 * r + j) (-1)) Bf (nI b) (nI k) G Wk To Sl Sd (nI as) wo pa fa Fo) H := hP
  refine lv_istore (lv' := [(5, .int 0), (0, .ref (g 0)), (1, .int (nI r)), (2, .int (nI c9)), (3, .int (nI j)), (4, .int (-5))]) hx hb dX6_lay_65 hl (by decide) rfl (fun ls hl => ?_)
  refine lv_iload hx hb dX6_lay_67 (lv_at hl 0 rfl) ?_
  refine lv_if_ne (tgt := 76) hx hb dX6_lay_69 (by decide) (fun h9 => absurd (by decide) h9) (fun _ => ?_)
  refine lv_iconst (v := 1) hx hb dX6_lay_72 (by decide) ?_
  refine lv_goto (tgt := 82) hx hb dX6_lay_73 (by decide) ?_
  exact W.iret (v := 1) hx hb hr (fun t9 ht _ => ⟨congrArg (fun z => Outcome.returned (some (Value.int z))) (rfl), by rw [ht]; exact hP, hS.F ht⟩) hS.2.2 dX6_lay_82
set_option maxHeartbeats 4000000 in
set_option maxRecDepth 100000 in
theorem c_X6_lay_po (hh : ad_ok g 16) (hn : n ≤ 100) (p9 : Nat) (hp9 : p9 < n) (t kd i : Int32) (h1 : p_in t (nI n) = true) (h2 : q_in kd 7 15 = false) : Met l yX6_lay wsX6_lay ({ frames := 10, cells := 0, slots := 0, locals := 450 }) (wd_P D cI cJ [.ref (g 0), .int t, .int kd, .int i, .int (nI p9)] (mo_W cI cJ g fx (nI n) F Wt Sz Nu Pl Bf (nI b) (nI k) G Wk To Sl Sd (nI as) wo pa fa Fo)) (mu_Q D (ad_A g 16) (some (.int (-2))) (mo_W cI cJ g 0 (nI n) F Wt Sz Nu Pl Bf (nI b) (nI k) G Wk To Sl Sd (nI as) wo pa fa Fo)) 0 0 (ad_A g 16) := by
  refine Met.ofW (cc := cX6_lay) (maxL := 6) (ret := (some .int)) (by decide) rfl ?_
  intro p e s m args below meth c s₁ B hml hv
  obtain ⟨rfl, hP, hK⟩ := hv
  have hx := B.exec
  have hb := B.bytes
  have hr := B.returns
  have hts := atoms_spec (ws := wsX6_lay) B.pre
  have hown : s.vm.findClass RX6 = some m.cls := findClass_of_methodNamed B.named
  have hlocks := B.notSynchronized
  have hiX6 : ∀ w ∈ u_ws RX6 TX6 23, w ∈ wsX6_lay := by decide +kernel
  have kf59 := hts (.fieldLink RX6 59 "SortingLineModel" "fault" "I") (by decide +kernel)
  have hS : va_S (ad_A g 16) s.heap s.heap [] := va_S.rf
  have hl := lv_entry ([.ref (g 0), .int t, .int kd, .int i, .int (nI p9)]) (n := 6) (Nat.le_of_ble_eq_true rfl)
  rw [lg_entry_eq]
  generalize (lg_sl ([.ref (g 0), .int t, .int kd, .int i, .int (nI p9)]) ++ List.replicate (6 - (lg_sl ([.ref (g 0), .int t, .int kd, .int i, .int (nI p9)])).length) Slot.unset).toArray = ls at hl ⊢
  have hl : lv_has ls 6 [(0, .ref (g 0)), (1, .int t), (2, .int kd), (3, .int i), (4, .int (nI p9))] := hl
  refine lv_aload_n hx hb dX6_lay_0 rfl (lv_at hl 0 rfl) ?_
  refine lv_iconst (v := 0) hx hb dX6_lay_1 (by decide) ?_
  refine va_put (D := D) (ci := 6) (v := .int 0) (ty := .int) (C := RX6) (T := TX6) (N := 23) hx hb hts hiX6 tyX6 tyX6_ok nmX6 hown hK.1 hP (mo_D hh) hS 0 rfl rfl 0 (by decide) kf59 (fun _ h9 => h9) rfl (by decide +kernel) rfl rfl (Nat.le_of_ble_eq_true rfl) dX6_lay_2 (fun H locs hP _ hS => ?_)
  have hP : va_P D kC (mo_W cI cJ g 0 (nI n) F Wt Sz Nu Pl Bf (nI b) (nI k) G Wk To Sl Sd (nI as) wo pa fa Fo) H := hP
  refine lv_aload_n hx hb dX6_lay_5 rfl (lv_at hl 0 rfl) ?_
  refine lv_iload_n hx hb dX6_lay_6 rfl (lv_at hl 1 rfl) ?_
  refine pu_callb (va_runV (As := [.int t]) (rest := []) ⟨hx, hb, hml, hown, hts⟩ (c_X6_isThing hh (hn) t) (cwV 1 hts gX6_lay_X6_isThing rfl rfl rfl (by decide +kernel) ⟨Nat.le_of_ble_eq_true rfl, Nat.le_of_ble_eq_true rfl⟩) (wd_preV (ci := 6) (q0 := 0) hP hK rfl rfl) rfl rfl hl.1 rfl (lv_room (Nat.le_of_ble_eq_true rfl)) dX6_lay_7 ⟨Nat.zero_le _, Nat.zero_le _⟩) (fun _ => ?_) (fun h9 => absurd (h1) (by rw [h9]; decide))
  refine lv_if_eq (tgt := 29) hx hb dX6_lay_10 (by decide) (fun h9 => absurd h9 (by decide)) (fun _ => ?_)
  refine lv_iload hx hb dX6_lay_13 (lv_at hl 4 rfl) ?_
  refine lv_bipush (v := (-5)) hx hb dX6_lay_15 (by decide) ?_
  refine lv_icmp_eq (tgt := 31) hx hb dX6_lay_17 (by decide) (fun h9 => absurd h9 (fun h9 => absurd (h9 ▸ nI_pos (n := p9) (by omega)) (by decide))) (fun _ => ?_)
  refine lv_aload_n hx hb dX6_lay_20 rfl (lv_at hl 0 rfl) ?_
  refine lv_iload hx hb dX6_lay_21 (lv_at hl 4 rfl) ?_
  refine pu_callb (va_runV (As := [.int (nI p9)]) (rest := []) ⟨hx, hb, hml, hown, hts⟩ (c_X6_isThing hh (hn) (nI p9)) (cwV 1 hts gX6_lay_X6_isThing rfl rfl rfl (by decide +kernel) ⟨Nat.le_of_ble_eq_true rfl, Nat.le_of_ble_eq_true rfl⟩) (wd_preV (ci := 6) (q0 := 0) hP hK rfl rfl) rfl rfl hl.1 rfl (lv_room (Nat.le_of_ble_eq_true rfl)) dX6_lay_23 ⟨Nat.zero_le _, Nat.zero_le _⟩) (fun _ => ?_) (fun h9 => absurd (p_in_nI hp9 (by omega)) (by rw [h9]; decide))
  refine lv_if_ne (tgt := 31) hx hb dX6_lay_26 (by decide) (fun _ => ?_) (fun h9 => absurd h9 (by decide))
  refine lv_iload_n hx hb dX6_lay_31 rfl (lv_at hl 2 rfl) ?_
  refine lv_bipush (v := 7) hx hb dX6_lay_32 (by decide) ?_
  refine lv_bipush (v := 15) hx hb dX6_lay_34 (by decide) ?_
  refine pu_callb (va_runS (As := [.int kd, .int 7, .int 15]) (rest := []) ⟨hx, hb, hml, hown, hts⟩ (c_X6_in kd 7 15) (cwS 3 hts gX6_lay_X6_in rfl rfl rfl (by decide +kernel) ⟨Nat.le_of_ble_eq_true rfl, Nat.le_of_ble_eq_true rfl⟩) (wd_preS hP hK) rfl rfl hl.1 rfl (lv_room (Nat.le_of_ble_eq_true rfl)) dX6_lay_36 ⟨Nat.zero_le _, Nat.zero_le _⟩) (fun h9 => absurd (h2) (by rw [h9]; decide)) (fun _ => ?_)
  refine lv_if_ne (tgt := 45) hx hb dX6_lay_39 (by decide) (fun h9 => absurd (by decide) h9) (fun _ => ?_)
  refine lv_bipush (v := (-2)) hx hb dX6_lay_42 (by decide) ?_
  exact W.iret (v := (-2)) hx hb hr (fun t9 ht _ => ⟨congrArg (fun z => Outcome.returned (some (Value.int z))) (rfl), by rw [ht]; exact hP, hS.F ht⟩) hS.2.2 dX6_lay_44
set_option maxHeartbeats 4000000 in
set_option maxRecDepth 100000 in
theorem c_X6_lay_pc (hh : ad_ok g 16) (hn : n ≤ 100) (r : Nat) (hr9 : r < n) (a : Nat) (ha : a < 16) (hFa : F r = nI a) (c9 : Nat) (hc : c9 < 18) (hc16 : c9 < 16) (hq : q_in (nI c9) 7 15 = true) (p9 : Nat) (hp9 : p9 < n) (a2 : Nat) (ha2 : a2 < 16) (hFa2 : F p9 = nI a2) (i : Int32) (h1 : ko (F r) (nI c9) = false) : Met l yX6_lay wsX6_lay ({ frames := 10, cells := 0, slots := 0, locals := 450 }) (wd_P D cI cJ [.ref (g 0), .int (nI r), .int (nI c9), .int i, .int (nI p9)] (mo_W cI cJ g fx (nI n) F Wt Sz Nu Pl Bf (nI b) (nI k) G Wk To Sl Sd (nI as) wo pa fa Fo)) (mu_Q D (ad_A g 16) (some (.int (-21))) (mo_W cI cJ g 0 (nI n) F Wt Sz Nu Pl Bf (nI b) (nI k) G Wk To Sl Sd (nI as) wo pa fa (upd Fo 1 (Fo 1 + 1)))) 0 0 (ad_A g 16) := by
  refine Met.ofW (cc := cX6_lay) (maxL := 6) (ret := (some .int)) (by decide) rfl ?_
  intro p e s m args below meth c s₁ B hml hv
  obtain ⟨rfl, hP, hK⟩ := hv
  have hx := B.exec
  have hb := B.bytes
  have hr := B.returns
  have hts := atoms_spec (ws := wsX6_lay) B.pre
  have hown : s.vm.findClass RX6 = some m.cls := findClass_of_methodNamed B.named
  have hlocks := B.notSynchronized
  have hiX6 : ∀ w ∈ u_ws RX6 TX6 23, w ∈ wsX6_lay := by decide +kernel
  have kf59 := hts (.fieldLink RX6 59 "SortingLineModel" "fault" "I") (by decide +kernel)
  have hS : va_S (ad_A g 16) s.heap s.heap [] := va_S.rf
  have hl := lv_entry ([.ref (g 0), .int (nI r), .int (nI c9), .int i, .int (nI p9)]) (n := 6) (Nat.le_of_ble_eq_true rfl)
  rw [lg_entry_eq]
  generalize (lg_sl ([.ref (g 0), .int (nI r), .int (nI c9), .int i, .int (nI p9)]) ++ List.replicate (6 - (lg_sl ([.ref (g 0), .int (nI r), .int (nI c9), .int i, .int (nI p9)])).length) Slot.unset).toArray = ls at hl ⊢
  have hl : lv_has ls 6 [(0, .ref (g 0)), (1, .int (nI r)), (2, .int (nI c9)), (3, .int i), (4, .int (nI p9))] := hl
  refine lv_aload_n hx hb dX6_lay_0 rfl (lv_at hl 0 rfl) ?_
  refine lv_iconst (v := 0) hx hb dX6_lay_1 (by decide) ?_
  refine va_put (D := D) (ci := 6) (v := .int 0) (ty := .int) (C := RX6) (T := TX6) (N := 23) hx hb hts hiX6 tyX6 tyX6_ok nmX6 hown hK.1 hP (mo_D hh) hS 0 rfl rfl 0 (by decide) kf59 (fun _ h9 => h9) rfl (by decide +kernel) rfl rfl (Nat.le_of_ble_eq_true rfl) dX6_lay_2 (fun H locs hP _ hS => ?_)
  have hP : va_P D kC (mo_W cI cJ g 0 (nI n) F Wt Sz Nu Pl Bf (nI b) (nI k) G Wk To Sl Sd (nI as) wo pa fa Fo) H := hP
  refine lv_aload_n hx hb dX6_lay_5 rfl (lv_at hl 0 rfl) ?_
  refine lv_iload_n hx hb dX6_lay_6 rfl (lv_at hl 1 rfl) ?_
  refine pu_callb (va_runV (As := [.int (nI r)]) (rest := []) ⟨hx, hb, hml, hown, hts⟩ (c_X6_isThing hh (hn) (nI r)) (cwV 1 hts gX6_lay_X6_isThing rfl rfl rfl (by decide +kernel) ⟨Nat.le_of_ble_eq_true rfl, Nat.le_of_ble_eq_true rfl⟩) (wd_preV (ci := 6) (q0 := 0) hP hK rfl rfl) rfl rfl hl.1 rfl (lv_room (Nat.le_of_ble_eq_true rfl)) dX6_lay_7 ⟨Nat.zero_le _, Nat.zero_le _⟩) (fun _ => ?_) (fun h9 => absurd (p_in_nI hr9 (by omega)) (by rw [h9]; decide))
  refine lv_if_eq (tgt := 29) hx hb dX6_lay_10 (by decide) (fun h9 => absurd h9 (by decide)) (fun _ => ?_)
  refine lv_iload hx hb dX6_lay_13 (lv_at hl 4 rfl) ?_
  refine lv_bipush (v := (-5)) hx hb dX6_lay_15 (by decide) ?_
  refine lv_icmp_eq (tgt := 31) hx hb dX6_lay_17 (by decide) (fun h9 => absurd h9 (fun h9 => absurd (h9 ▸ nI_pos (n := p9) (by omega)) (by decide))) (fun _ => ?_)
  refine lv_aload_n hx hb dX6_lay_20 rfl (lv_at hl 0 rfl) ?_
  refine lv_iload hx hb dX6_lay_21 (lv_at hl 4 rfl) ?_
  refine pu_callb (va_runV (As := [.int (nI p9)]) (rest := []) ⟨hx, hb, hml, hown, hts⟩ (c_X6_isThing hh (hn) (nI p9)) (cwV 1 hts gX6_lay_X6_isThing rfl rfl rfl (by decide +kernel) ⟨Nat.le_of_ble_eq_true rfl, Nat.le_of_ble_eq_true rfl⟩) (wd_preV (ci := 6) (q0 := 0) hP hK rfl rfl) rfl rfl hl.1 rfl (lv_room (Nat.le_of_ble_eq_true rfl)) dX6_lay_23 ⟨Nat.zero_le _, Nat.zero_le _⟩) (fun _ => ?_) (fun h9 => absurd (p_in_nI hp9 (by omega)) (by rw [h9]; decide))
  refine lv_if_ne (tgt := 31) hx hb dX6_lay_26 (by decide) (fun _ => ?_) (fun h9 => absurd h9 (by decide))
  refine lv_iload_n hx hb dX6_lay_31 rfl (lv_at hl 2 rfl) ?_
  refine lv_bipush (v := 7) hx hb dX6_lay_32 (by decide) ?_
  refine lv_bipush (v := 15) hx hb dX6_lay_34 (by decide) ?_
  refine pu_callb (va_runS (As := [.int (nI c9), .int 7, .int 15]) (rest := []) ⟨hx, hb, hml, hown, hts⟩ (c_X6_in (nI c9) 7 15) (cwS 3 hts gX6_lay_X6_in rfl rfl rfl (by decide +kernel) ⟨Nat.le_of_ble_eq_true rfl, Nat.le_of_ble_eq_true rfl⟩) (wd_preS hP hK) rfl rfl hl.1 rfl (lv_room (Nat.le_of_ble_eq_true rfl)) dX6_lay_36 ⟨Nat.zero_le _, Nat.zero_le _⟩) (fun _ => ?_) (fun h9 => absurd (hq) (by rw [h9]; decide))
  refine lv_if_ne (tgt := 45) hx hb dX6_lay_39 (by decide) (fun _ => ?_) (fun h9 => absurd h9 (by decide))
  refine lv_aload_n hx hb dX6_lay_45 rfl (lv_at hl 0 rfl) ?_
  refine lv_iload_n hx hb dX6_lay_46 rfl (lv_at hl 1 rfl) ?_
  refine lv_iload_n hx hb dX6_lay_47 rfl (lv_at hl 2 rfl) ?_
  refine lv_iload_n hx hb dX6_lay_48 rfl (lv_at hl 3 rfl) ?_
  refine lv_iload hx hb dX6_lay_49 (lv_at hl 4 rfl) ?_
  refine lv_bipush (v := (-5)) hx hb dX6_lay_51 (by decide) ?_
  refine lv_icmp_ne (tgt := 60) hx hb dX6_lay_53 (by decide) (fun _ => ?_) (fun h9 => absurd h9 (fun h9 => absurd (h9 ▸ nI_pos (n := p9) (by omega)) (by decide)))
  refine lv_iload hx hb dX6_lay_60 (lv_at hl 4 rfl) ?_
  refine pu_calli (va_runV (As := [.int (nI r), .int (nI c9), .int i, .int (nI p9)]) (rest := []) ⟨hx, hb, hml, hown, hts⟩ (c_X6_lays_c hh hn r (by omega) a ha hFa c9 (by omega) (by omega) i (nI p9) h1) (cwV 4 hts gX6_lay_X6_lays rfl rfl rfl (by decide +kernel) ⟨Nat.le_of_ble_eq_true rfl, Nat.le_of_ble_eq_true rfl⟩) (wd_preV (ci := 6) (q0 := 0) hP hK rfl rfl) rfl rfl hl.1 rfl (lv_room (Nat.le_of_ble_eq_true rfl)) dX6_lay_62 ⟨Nat.zero_le _, Nat.zero_le _⟩) ?_
  refine lv_istore (lv' := [(5, .int 1), (0, .ref (g 0)), (1, .int (nI r)), (2, .int (nI c9)), (3, .int i), (4, .int (nI p9))]) hx hb dX6_lay_65 hl (by decide) rfl (fun ls hl => ?_)
  refine lv_iload hx hb dX6_lay_67 (lv_at hl 0 rfl) ?_
  refine lv_if_ne (tgt := 76) hx hb dX6_lay_69 (by decide) (fun _ => ?_) (fun h9 => absurd h9 (by decide))
  refine lv_aload_n hx hb dX6_lay_76 rfl (lv_at hl 1 rfl) ?_
  refine lv_iload hx hb dX6_lay_77 (lv_at hl 0 rfl) ?_
  refine mu_calli (va_runV (As := [.int 1]) (rest := []) ⟨hx, hb, hml, hown, hts⟩ (c_X6_found hh 1 (by omega) (by omega)) (cwV 1 hts gX6_lay_X6_found rfl rfl rfl (by decide +kernel) ⟨Nat.le_of_ble_eq_true rfl, Nat.le_of_ble_eq_true rfl⟩) (wd_preV (ci := 6) (q0 := 0) hP hK rfl rfl) rfl rfl hl.1 rfl (lv_room (Nat.le_of_ble_eq_true rfl)) dX6_lay_79 ⟨Nat.zero_le _, Nat.zero_le _⟩) hS (fun H locs hP hS => ?_)
  have hP : va_P D kC (mo_W cI cJ g 0 (nI n) F Wt Sz Nu Pl Bf (nI b) (nI k) G Wk To Sl Sd (nI as) wo pa fa (upd Fo 1 (Fo 1 + 1))) H := hP
  refine tp_i (y := (-21)) (by decide) ?_
  exact W.iret (v := (-21)) hx hb hr (fun t9 ht _ => ⟨congrArg (fun z => Outcome.returned (some (Value.int z))) (rfl), by rw [ht]; exact hP, hS.F ht⟩) hS.2.2 dX6_lay_82
set_option maxHeartbeats 4000000 in
set_option maxRecDepth 100000 in
theorem c_X6_lay_pC (hh : ad_ok g 16) (hn : n ≤ 100) (r : Nat) (hr9 : r < n) (a : Nat) (ha : a < 16) (hFa : F r = nI a) (c9 : Nat) (hc : c9 < 18) (hc16 : c9 < 16) (hq : q_in (nI c9) 7 15 = true) (p9 : Nat) (hp9 : p9 < n) (a2 : Nat) (ha2 : a2 < 16) (hFa2 : F p9 = nI a2) (d9 : Nat) (hd : d9 < 18) (hd9 : pt_of c9 = nI d9) (i : Int32) (h1 : ko (F r) (nI c9) = true) (h4 : ko (F p9) (nI d9) = false) : Met l yX6_lay wsX6_lay ({ frames := 10, cells := 0, slots := 0, locals := 450 }) (wd_P D cI cJ [.ref (g 0), .int (nI r), .int (nI c9), .int i, .int (nI p9)] (mo_W cI cJ g fx (nI n) F Wt Sz Nu Pl Bf (nI b) (nI k) G Wk To Sl Sd (nI as) wo pa fa Fo)) (mu_Q D (ad_A g 16) (some (.int (-21))) (mo_W cI cJ g 0 (nI n) F Wt Sz Nu Pl Bf (nI b) (nI k) G Wk To Sl Sd (nI as) wo pa fa (upd Fo 1 (Fo 1 + 1)))) 0 0 (ad_A g 16) := by
  refine Met.ofW (cc := cX6_lay) (maxL := 6) (ret := (some .int)) (by decide) rfl ?_
  intro p e s m args below meth c s₁ B hml hv
  obtain ⟨rfl, hP, hK⟩ := hv
  have hx := B.exec
  have hb := B.bytes
  have hr := B.returns
  have hts := atoms_spec (ws := wsX6_lay) B.pre
  have hown : s.vm.findClass RX6 = some m.cls := findClass_of_methodNamed B.named
  have hlocks := B.notSynchronized
  have hiX6 : ∀ w ∈ u_ws RX6 TX6 23, w ∈ wsX6_lay := by decide +kernel
  have kf59 := hts (.fieldLink RX6 59 "SortingLineModel" "fault" "I") (by decide +kernel)
  have hS : va_S (ad_A g 16) s.heap s.heap [] := va_S.rf
  have hl := lv_entry ([.ref (g 0), .int (nI r), .int (nI c9), .int i, .int (nI p9)]) (n := 6) (Nat.le_of_ble_eq_true rfl)
  rw [lg_entry_eq]
  generalize (lg_sl ([.ref (g 0), .int (nI r), .int (nI c9), .int i, .int (nI p9)]) ++ List.replicate (6 - (lg_sl ([.ref (g 0), .int (nI r), .int (nI c9), .int i, .int (nI p9)])).length) Slot.unset).toArray = ls at hl ⊢
  have hl : lv_has ls 6 [(0, .ref (g 0)), (1, .int (nI r)), (2, .int (nI c9)), (3, .int i), (4, .int (nI p9))] := hl
  refine lv_aload_n hx hb dX6_lay_0 rfl (lv_at hl 0 rfl) ?_
  refine lv_iconst (v := 0) hx hb dX6_lay_1 (by decide) ?_
  refine va_put (D := D) (ci := 6) (v := .int 0) (ty := .int) (C := RX6) (T := TX6) (N := 23) hx hb hts hiX6 tyX6 tyX6_ok nmX6 hown hK.1 hP (mo_D hh) hS 0 rfl rfl 0 (by decide) kf59 (fun _ h9 => h9) rfl (by decide +kernel) rfl rfl (Nat.le_of_ble_eq_true rfl) dX6_lay_2 (fun H locs hP _ hS => ?_)
  have hP : va_P D kC (mo_W cI cJ g 0 (nI n) F Wt Sz Nu Pl Bf (nI b) (nI k) G Wk To Sl Sd (nI as) wo pa fa Fo) H := hP
  refine lv_aload_n hx hb dX6_lay_5 rfl (lv_at hl 0 rfl) ?_
  refine lv_iload_n hx hb dX6_lay_6 rfl (lv_at hl 1 rfl) ?_
  refine pu_callb (va_runV (As := [.int (nI r)]) (rest := []) ⟨hx, hb, hml, hown, hts⟩ (c_X6_isThing hh (hn) (nI r)) (cwV 1 hts gX6_lay_X6_isThing rfl rfl rfl (by decide +kernel) ⟨Nat.le_of_ble_eq_true rfl, Nat.le_of_ble_eq_true rfl⟩) (wd_preV (ci := 6) (q0 := 0) hP hK rfl rfl) rfl rfl hl.1 rfl (lv_room (Nat.le_of_ble_eq_true rfl)) dX6_lay_7 ⟨Nat.zero_le _, Nat.zero_le _⟩) (fun _ => ?_) (fun h9 => absurd (p_in_nI hr9 (by omega)) (by rw [h9]; decide))
  refine lv_if_eq (tgt := 29) hx hb dX6_lay_10 (by decide) (fun h9 => absurd h9 (by decide)) (fun _ => ?_)
  refine lv_iload hx hb dX6_lay_13 (lv_at hl 4 rfl) ?_
  refine lv_bipush (v := (-5)) hx hb dX6_lay_15 (by decide) ?_
  refine lv_icmp_eq (tgt := 31) hx hb dX6_lay_17 (by decide) (fun h9 => absurd h9 (fun h9 => absurd (h9 ▸ nI_pos (n := p9) (by omega)) (by decide))) (fun _ => ?_)
  refine lv_aload_n hx hb dX6_lay_20 rfl (lv_at hl 0 rfl) ?_
  refine lv_iload hx hb dX6_lay_21 (lv_at hl 4 rfl) ?_
  refine pu_callb (va_runV (As := [.int (nI p9)]) (rest := []) ⟨hx, hb, hml, hown, hts⟩ (c_X6_isThing hh (hn) (nI p9)) (cwV 1 hts gX6_lay_X6_isThing rfl rfl rfl (by decide +kernel) ⟨Nat.le_of_ble_eq_true rfl, Nat.le_of_ble_eq_true rfl⟩) (wd_preV (ci := 6) (q0 := 0) hP hK rfl rfl) rfl rfl hl.1 rfl (lv_room (Nat.le_of_ble_eq_true rfl)) dX6_lay_23 ⟨Nat.zero_le _, Nat.zero_le _⟩) (fun _ => ?_) (fun h9 => absurd (p_in_nI hp9 (by omega)) (by rw [h9]; decide))
  refine lv_if_ne (tgt := 31) hx hb dX6_lay_26 (by decide) (fun _ => ?_) (fun h9 => absurd h9 (by decide))
  refine lv_iload_n hx hb dX6_lay_31 rfl (lv_at hl 2 rfl) ?_
  refine lv_bipush (v := 7) hx hb dX6_lay_32 (by decide) ?_
  refine lv_bipush (v := 15) hx hb dX6_lay_34 (by decide) ?_
  refine pu_callb (va_runS (As := [.int (nI c9), .int 7, .int 15]) (rest := []) ⟨hx, hb, hml, hown, hts⟩ (c_X6_in (nI c9) 7 15) (cwS 3 hts gX6_lay_X6_in rfl rfl rfl (by decide +kernel) ⟨Nat.le_of_ble_eq_true rfl, Nat.le_of_ble_eq_true rfl⟩) (wd_preS hP hK) rfl rfl hl.1 rfl (lv_room (Nat.le_of_ble_eq_true rfl)) dX6_lay_36 ⟨Nat.zero_le _, Nat.zero_le _⟩) (fun _ => ?_) (fun h9 => absurd (hq) (by rw [h9]; decide))
  refine lv_if_ne (tgt := 45) hx hb dX6_lay_39 (by decide) (fun _ => ?_) (fun h9 => absurd h9 (by decide))
  refine lv_aload_n hx hb dX6_lay_45 rfl (lv_at hl 0 rfl) ?_
  refine lv_iload_n hx hb dX6_lay_46 rfl (lv_at hl 1 rfl) ?_
  refine lv_iload_n hx hb dX6_lay_47 rfl (lv_at hl 2 rfl) ?_
  refine lv_iload_n hx hb dX6_lay_48 rfl (lv_at hl 3 rfl) ?_
  refine lv_iload hx hb dX6_lay_49 (lv_at hl 4 rfl) ?_
  refine lv_bipush (v := (-5)) hx hb dX6_lay_51 (by decide) ?_
  refine lv_icmp_ne (tgt := 60) hx hb dX6_lay_53 (by decide) (fun _ => ?_) (fun h9 => absurd h9 (fun h9 => absurd (h9 ▸ nI_pos (n := p9) (by omega)) (by decide)))
  refine lv_iload hx hb dX6_lay_60 (lv_at hl 4 rfl) ?_
  refine pu_calli (va_runV (As := [.int (nI r), .int (nI c9), .int i, .int (nI p9)]) (rest := []) ⟨hx, hb, hml, hown, hts⟩ (c_X6_lays_pC hh hn r (by omega) a ha hFa c9 (by omega) (by omega) d9 hd hd9 p9 hp9 a2 ha2 hFa2 i h1 h4) (cwV 4 hts gX6_lay_X6_lays rfl rfl rfl (by decide +kernel) ⟨Nat.le_of_ble_eq_true rfl, Nat.le_of_ble_eq_true rfl⟩) (wd_preV (ci := 6) (q0 := 0) hP hK rfl rfl) rfl rfl hl.1 rfl (lv_room (Nat.le_of_ble_eq_true rfl)) dX6_lay_62 ⟨Nat.zero_le _, Nat.zero_le _⟩) ?_
  refine lv_istore (lv' := [(5, .int 1), (0, .ref (g 0)), (1, .int (nI r)), (2, .int (nI c9)), (3, .int i), (4, .int (nI p9))]) hx hb dX6_lay_65 hl (by decide) rfl (fun ls hl => ?_)
  refine lv_iload hx hb dX6_lay_67 (lv_at hl 0 rfl) ?_
  refine lv_if_ne (tgt := 76) hx hb dX6_lay_69 (by decide) (fun _ => ?_) (fun h9 => absurd h9 (by decide))
  refine lv_aload_n hx hb dX6_lay_76 rfl (lv_at hl 1 rfl) ?_
  refine lv_iload hx hb dX6_lay_77 (lv_at hl 0 rfl) ?_
  refine mu_calli (va_runV (As := [.int 1]) (rest := []) ⟨hx, hb, hml, hown, hts⟩ (c_X6_found hh 1 (by omega) (by omega)) (cwV 1 hts gX6_lay_X6_found rfl rfl rfl (by decide +kernel) ⟨Nat.le_of_ble_eq_true rfl, Nat.le_of_ble_eq_true rfl⟩) (wd_preV (ci := 6) (q0 := 0) hP hK rfl rfl) rfl rfl hl.1 rfl (lv_room (Nat.le_of_ble_eq_true rfl)) dX6_lay_79 ⟨Nat.zero_le _, Nat.zero_le _⟩) hS (fun H locs hP hS => ?_)
  have hP : va_P D kC (mo_W cI cJ g 0 (nI n) F Wt Sz Nu Pl Bf (nI b) (nI k) G Wk To Sl Sd (nI as) wo pa fa (upd Fo 1 (Fo 1 + 1))) H := hP
  refine tp_i (y := (-21)) (by decide) ?_
  exact W.iret (v := (-21)) hx hb hr (fun t9 ht _ => ⟨congrArg (fun z => Outcome.returned (some (Value.int z))) (rfl), by rw [ht]; exact hP, hS.F ht⟩) hS.2.2 dX6_lay_82
set_option maxHeartbeats 4000000 in
set_option maxRecDepth 100000 in
theorem c_X6_lay_pB (hh : ad_ok g 16) (hn : n ≤ 100) (r : Nat) (hr9 : r < n) (a : Nat) (ha : a < 16) (hFa : F r = nI a) (c9 : Nat) (hc : c9 < 18) (hc16 : c9 < 16) (hq : q_in (nI c9) 7 15 = true) (p9 : Nat) (hp9 : p9 < n) (a2 : Nat) (ha2 : a2 < 16) (hFa2 : F p9 = nI a2) (d9 : Nat) (hd : d9 < 18) (hd9 : pt_of c9 = nI d9) (z : Nat) (hz : Sz r = nI z) (hz8 : z ≤ 8) (i : Int32) (h1 : ko (F r) (nI c9) = true) (h4 : ko (F p9) (nI d9) = true) (h2 : p_in i (Sz r) = false) : Met l yX6_lay wsX6_lay ({ frames := 10, cells := 0, slots := 0, locals := 450 }) (wd_P D cI cJ [.ref (g 0), .int (nI r), .int (nI c9), .int i, .int (nI p9)] (mo_W cI cJ g fx (nI n) F Wt Sz Nu Pl Bf (nI b) (nI k) G Wk To Sl Sd (nI as) wo pa fa Fo)) (mu_Q D (ad_A g 16) (some (.int (-23))) (mo_W cI cJ g 0 (nI n) F Wt Sz Nu Pl Bf (nI b) (nI k) G Wk To Sl Sd (nI as) wo pa fa (upd Fo 3 (Fo 3 + 1)))) 0 0 (ad_A g 16) := by
  refine Met.ofW (cc := cX6_lay) (maxL := 6) (ret := (some .int)) (by decide) rfl ?_
  intro p e s m args below meth c s₁ B hml hv
  obtain ⟨rfl, hP, hK⟩ := hv
  have hx := B.exec
  have hb := B.bytes
  have hr := B.returns
  have hts := atoms_spec (ws := wsX6_lay) B.pre
  have hown : s.vm.findClass RX6 = some m.cls := findClass_of_methodNamed B.named
  have hlocks := B.notSynchronized
  have hiX6 : ∀ w ∈ u_ws RX6 TX6 23, w ∈ wsX6_lay := by decide +kernel
  have kf59 := hts (.fieldLink RX6 59 "SortingLineModel" "fault" "I") (by decide +kernel)
  have hS : va_S (ad_A g 16) s.heap s.heap [] := va_S.rf
  have hl := lv_entry ([.ref (g 0), .int (nI r), .int (nI c9), .int i, .int (nI p9)]) (n := 6) (Nat.le_of_ble_eq_true rfl)
  rw [lg_entry_eq]
  generalize (lg_sl ([.ref (g 0), .int (nI r), .int (nI c9), .int i, .int (nI p9)]) ++ List.replicate (6 - (lg_sl ([.ref (g 0), .int (nI r), .int (nI c9), .int i, .int (nI p9)])).length) Slot.unset).toArray = ls at hl ⊢
  have hl : lv_has ls 6 [(0, .ref (g 0)), (1, .int (nI r)), (2, .int (nI c9)), (3, .int i), (4, .int (nI p9))] := hl
  refine lv_aload_n hx hb dX6_lay_0 rfl (lv_at hl 0 rfl) ?_
  refine lv_iconst (v := 0) hx hb dX6_lay_1 (by decide) ?_
  refine va_put (D := D) (ci := 6) (v := .int 0) (ty := .int) (C := RX6) (T := TX6) (N := 23) hx hb hts hiX6 tyX6 tyX6_ok nmX6 hown hK.1 hP (mo_D hh) hS 0 rfl rfl 0 (by decide) kf59 (fun _ h9 => h9) rfl (by decide +kernel) rfl rfl (Nat.le_of_ble_eq_true rfl) dX6_lay_2 (fun H locs hP _ hS => ?_)
  have hP : va_P D kC (mo_W cI cJ g 0 (nI n) F Wt Sz Nu Pl Bf (nI b) (nI k) G Wk To Sl Sd (nI as) wo pa fa Fo) H := hP
  refine lv_aload_n hx hb dX6_lay_5 rfl (lv_at hl 0 rfl) ?_
  refine lv_iload_n hx hb dX6_lay_6 rfl (lv_at hl 1 rfl) ?_
  refine pu_callb (va_runV (As := [.int (nI r)]) (rest := []) ⟨hx, hb, hml, hown, hts⟩ (c_X6_isThing hh (hn) (nI r)) (cwV 1 hts gX6_lay_X6_isThing rfl rfl rfl (by decide +kernel) ⟨Nat.le_of_ble_eq_true rfl, Nat.le_of_ble_eq_true rfl⟩) (wd_preV (ci := 6) (q0 := 0) hP hK rfl rfl) rfl rfl hl.1 rfl (lv_room (Nat.le_of_ble_eq_true rfl)) dX6_lay_7 ⟨Nat.zero_le _, Nat.zero_le _⟩) (fun _ => ?_) (fun h9 => absurd (p_in_nI hr9 (by omega)) (by rw [h9]; decide))
  refine lv_if_eq (tgt := 29) hx hb dX6_lay_10 (by decide) (fun h9 => absurd h9 (by decide)) (fun _ => ?_)
  refine lv_iload hx hb dX6_lay_13 (lv_at hl 4 rfl) ?_
  refine lv_bipush (v := (-5)) hx hb dX6_lay_15 (by decide) ?_
  refine lv_icmp_eq (tgt := 31) hx hb dX6_lay_17 (by decide) (fun h9 => absurd h9 (fun h9 => absurd (h9 ▸ nI_pos (n := p9) (by omega)) (by decide))) (fun _ => ?_)
  refine lv_aload_n hx hb dX6_lay_20 rfl (lv_at hl 0 rfl) ?_
  refine lv_iload hx hb dX6_lay_21 (lv_at hl 4 rfl) ?_
  refine pu_callb (va_runV (As := [.int (nI p9)]) (rest := []) ⟨hx, hb, hml, hown, hts⟩ (c_X6_isThing hh (hn) (nI p9)) (cwV 1 hts gX6_lay_X6_isThing rfl rfl rfl (by decide +kernel) ⟨Nat.le_of_ble_eq_true rfl, Nat.le_of_ble_eq_true rfl⟩) (wd_preV (ci := 6) (q0 := 0) hP hK rfl rfl) rfl rfl hl.1 rfl (lv_room (Nat.le_of_ble_eq_true rfl)) dX6_lay_23 ⟨Nat.zero_le _, Nat.zero_le _⟩) (fun _ => ?_) (fun h9 => absurd (p_in_nI hp9 (by omega)) (by rw [h9]; decide))
  refine lv_if_ne (tgt := 31) hx hb dX6_lay_26 (by decide) (fun _ => ?_) (fun h9 => absurd h9 (by decide))
  refine lv_iload_n hx hb dX6_lay_31 rfl (lv_at hl 2 rfl) ?_
  refine lv_bipush (v := 7) hx hb dX6_lay_32 (by decide) ?_
  refine lv_bipush (v := 15) hx hb dX6_lay_34 (by decide) ?_
  refine pu_callb (va_runS (As := [.int (nI c9), .int 7, .int 15]) (rest := []) ⟨hx, hb, hml, hown, hts⟩ (c_X6_in (nI c9) 7 15) (cwS 3 hts gX6_lay_X6_in rfl rfl rfl (by decide +kernel) ⟨Nat.le_of_ble_eq_true rfl, Nat.le_of_ble_eq_true rfl⟩) (wd_preS hP hK) rfl rfl hl.1 rfl (lv_room (Nat.le_of_ble_eq_true rfl)) dX6_lay_36 ⟨Nat.zero_le _, Nat.zero_le _⟩) (fun _ => ?_) (fun h9 => absurd (hq) (by rw [h9]; decide))
  refine lv_if_ne (tgt := 45) hx hb dX6_lay_39 (by decide) (fun _ => ?_) (fun h9 => absurd h9 (by decide))
  refine lv_aload_n hx hb dX6_lay_45 rfl (lv_at hl 0 rfl) ?_
  refine lv_iload_n hx hb dX6_lay_46 rfl (lv_at hl 1 rfl) ?_
  refine lv_iload_n hx hb dX6_lay_47 rfl (lv_at hl 2 rfl) ?_
  refine lv_iload_n hx hb dX6_lay_48 rfl (lv_at hl 3 rfl) ?_
  refine lv_iload hx hb dX6_lay_49 (lv_at hl 4 rfl) ?_
  refine lv_bipush (v := (-5)) hx hb dX6_lay_51 (by decide) ?_
  refine lv_icmp_ne (tgt := 60) hx hb dX6_lay_53 (by decide) (fun _ => ?_) (fun h9 => absurd h9 (fun h9 => absurd (h9 ▸ nI_pos (n := p9) (by omega)) (by decide)))
  refine lv_iload hx hb dX6_lay_60 (lv_at hl 4 rfl) ?_
  refine pu_calli (va_runV (As := [.int (nI r), .int (nI c9), .int i, .int (nI p9)]) (rest := []) ⟨hx, hb, hml, hown, hts⟩ (c_X6_lays_pB hh hn r (by omega) a ha hFa c9 (by omega) (by omega) d9 hd hd9 p9 hp9 a2 ha2 hFa2 z hz hz8 i h1 h4 h2) (cwV 4 hts gX6_lay_X6_lays rfl rfl rfl (by decide +kernel) ⟨Nat.le_of_ble_eq_true rfl, Nat.le_of_ble_eq_true rfl⟩) (wd_preV (ci := 6) (q0 := 0) hP hK rfl rfl) rfl rfl hl.1 rfl (lv_room (Nat.le_of_ble_eq_true rfl)) dX6_lay_62 ⟨Nat.zero_le _, Nat.zero_le _⟩) ?_
  refine lv_istore (lv' := [(5, .int 3), (0, .ref (g 0)), (1, .int (nI r)), (2, .int (nI c9)), (3, .int i), (4, .int (nI p9))]) hx hb dX6_lay_65 hl (by decide) rfl (fun ls hl => ?_)
  refine lv_iload hx hb dX6_lay_67 (lv_at hl 0 rfl) ?_
  refine lv_if_ne (tgt := 76) hx hb dX6_lay_69 (by decide) (fun _ => ?_) (fun h9 => absurd h9 (by decide))
  refine lv_aload_n hx hb dX6_lay_76 rfl (lv_at hl 1 rfl) ?_
  refine lv_iload hx hb dX6_lay_77 (lv_at hl 0 rfl) ?_
  refine mu_calli (va_runV (As := [.int 3]) (rest := []) ⟨hx, hb, hml, hown, hts⟩ (c_X6_found hh 3 (by omega) (by omega)) (cwV 1 hts gX6_lay_X6_found rfl rfl rfl (by decide +kernel) ⟨Nat.le_of_ble_eq_true rfl, Nat.le_of_ble_eq_true rfl⟩) (wd_preV (ci := 6) (q0 := 0) hP hK rfl rfl) rfl rfl hl.1 rfl (lv_room (Nat.le_of_ble_eq_true rfl)) dX6_lay_79 ⟨Nat.zero_le _, Nat.zero_le _⟩) hS (fun H locs hP hS => ?_)
  have hP : va_P D kC (mo_W cI cJ g 0 (nI n) F Wt Sz Nu Pl Bf (nI b) (nI k) G Wk To Sl Sd (nI as) wo pa fa (upd Fo 3 (Fo 3 + 1))) H := hP
  refine tp_i (y := (-23)) (by decide) ?_
  exact W.iret (v := (-23)) hx hb hr (fun t9 ht _ => ⟨congrArg (fun z => Outcome.returned (some (Value.int z))) (rfl), by rw [ht]; exact hP, hS.F ht⟩) hS.2.2 dX6_lay_82
set_option maxHeartbeats 4000000 in
set_option maxRecDepth 100000 in
theorem c_X6_lay_pS (hh : ad_ok g 16) (hn : n ≤ 100) (r : Nat) (hr9 : r < n) (a : Nat) (ha : a < 16) (hFa : F r = nI a) (c9 : Nat) (hc : c9 < 18) (hc16 : c9 < 16) (hq : q_in (nI c9) 7 15 = true) (p9 : Nat) (hp9 : p9 < n) (a2 : Nat) (ha2 : a2 < 16) (hFa2 : F p9 = nI a2) (d9 : Nat) (hd : d9 < 18) (hd9 : pt_of c9 = nI d9) (e9 : Nat) (he : e9 < 18) (he9 : pt_of a = nI e9) (z : Nat) (hz : Sz r = nI z) (hz8 : z ≤ 8) (i : Int32) (h1 : ko (F r) (nI c9) = true) (h4 : ko (F p9) (nI d9) = true) (h2 : p_in i (Sz r) = true) (h3 : ko (F p9) (nI e9) = false) : Met l yX6_lay wsX6_lay ({ frames := 10, cells := 0, slots := 0, locals := 450 }) (wd_P D cI cJ [.ref (g 0), .int (nI r), .int (nI c9), .int i, .int (nI p9)] (mo_W cI cJ g fx (nI n) F Wt Sz Nu Pl Bf (nI b) (nI k) G Wk To Sl Sd (nI as) wo pa fa Fo)) (mu_Q D (ad_A g 16) (some (.int (-24))) (mo_W cI cJ g 0 (nI n) F Wt Sz Nu Pl Bf (nI b) (nI k) G Wk To Sl Sd (nI as) wo pa fa (upd Fo 4 (Fo 4 + 1)))) 0 0 (ad_A g 16) := by
  refine Met.ofW (cc := cX6_lay) (maxL := 6) (ret := (some .int)) (by decide) rfl ?_
  intro p e s m args below meth c s₁ B hml hv
  obtain ⟨rfl, hP, hK⟩ := hv
  have hx := B.exec
  have hb := B.bytes
  have hr := B.returns
  have hts := atoms_spec (ws := wsX6_lay) B.pre
  have hown : s.vm.findClass RX6 = some m.cls := findClass_of_methodNamed B.named
  have hlocks := B.notSynchronized
  have hiX6 : ∀ w ∈ u_ws RX6 TX6 23, w ∈ wsX6_lay := by decide +kernel
  have kf59 := hts (.fieldLink RX6 59 "SortingLineModel" "fault" "I") (by decide +kernel)
  have hS : va_S (ad_A g 16) s.heap s.heap [] := va_S.rf
  have hl := lv_entry ([.ref (g 0), .int (nI r), .int (nI c9), .int i, .int (nI p9)]) (n := 6) (Nat.le_of_ble_eq_true rfl)
  rw [lg_entry_eq]
  generalize (lg_sl ([.ref (g 0), .int (nI r), .int (nI c9), .int i, .int (nI p9)]) ++ List.replicate (6 - (lg_sl ([.ref (g 0), .int (nI r), .int (nI c9), .int i, .int (nI p9)])).length) Slot.unset).toArray = ls at hl ⊢
  have hl : lv_has ls 6 [(0, .ref (g 0)), (1, .int (nI r)), (2, .int (nI c9)), (3, .int i), (4, .int (nI p9))] := hl
  refine lv_aload_n hx hb dX6_lay_0 rfl (lv_at hl 0 rfl) ?_
  refine lv_iconst (v := 0) hx hb dX6_lay_1 (by decide) ?_
  refine va_put (D := D) (ci := 6) (v := .int 0) (ty := .int) (C := RX6) (T := TX6) (N := 23) hx hb hts hiX6 tyX6 tyX6_ok nmX6 hown hK.1 hP (mo_D hh) hS 0 rfl rfl 0 (by decide) kf59 (fun _ h9 => h9) rfl (by decide +kernel) rfl rfl (Nat.le_of_ble_eq_true rfl) dX6_lay_2 (fun H locs hP _ hS => ?_)
  have hP : va_P D kC (mo_W cI cJ g 0 (nI n) F Wt Sz Nu Pl Bf (nI b) (nI k) G Wk To Sl Sd (nI as) wo pa fa Fo) H := hP
  refine lv_aload_n hx hb dX6_lay_5 rfl (lv_at hl 0 rfl) ?_
  refine lv_iload_n hx hb dX6_lay_6 rfl (lv_at hl 1 rfl) ?_
  refine pu_callb (va_runV (As := [.int (nI r)]) (rest := []) ⟨hx, hb, hml, hown, hts⟩ (c_X6_isThing hh (hn) (nI r)) (cwV 1 hts gX6_lay_X6_isThing rfl rfl rfl (by decide +kernel) ⟨Nat.le_of_ble_eq_true rfl, Nat.le_of_ble_eq_true rfl⟩) (wd_preV (ci := 6) (q0 := 0) hP hK rfl rfl) rfl rfl hl.1 rfl (lv_room (Nat.le_of_ble_eq_true rfl)) dX6_lay_7 ⟨Nat.zero_le _, Nat.zero_le _⟩) (fun _ => ?_) (fun h9 => absurd (p_in_nI hr9 (by omega)) (by rw [h9]; decide))
  refine lv_if_eq (tgt := 29) hx hb dX6_lay_10 (by decide) (fun h9 => absurd h9 (by decide)) (fun _ => ?_)
  refine lv_iload hx hb dX6_lay_13 (lv_at hl 4 rfl) ?_
  refine lv_bipush (v := (-5)) hx hb dX6_lay_15 (by decide) ?_
  refine lv_icmp_eq (tgt := 31) hx hb dX6_lay_17 (by decide) (fun h9 => absurd h9 (fun h9 => absurd (h9 ▸ nI_pos (n := p9) (by omega)) (by decide))) (fun _ => ?_)
  refine lv_aload_n hx hb dX6_lay_20 rfl (lv_at hl 0 rfl) ?_
  refine lv_iload hx hb dX6_lay_21 (lv_at hl 4 rfl) ?_
  refine pu_callb (va_runV (As := [.int (nI p9)]) (rest := []) ⟨hx, hb, hml, hown, hts⟩ (c_X6_isThing hh (hn) (nI p9)) (cwV 1 hts gX6_lay_X6_isThing rfl rfl rfl (by decide +kernel) ⟨Nat.le_of_ble_eq_true rfl, Nat.le_of_ble_eq_true rfl⟩) (wd_preV (ci := 6) (q0 := 0) hP hK rfl rfl) rfl rfl hl.1 rfl (lv_room (Nat.le_of_ble_eq_true rfl)) dX6_lay_23 ⟨Nat.zero_le _, Nat.zero_le _⟩) (fun _ => ?_) (fun h9 => absurd (p_in_nI hp9 (by omega)) (by rw [h9]; decide))
  refine lv_if_ne (tgt := 31) hx hb dX6_lay_26 (by decide) (fun _ => ?_) (fun h9 => absurd h9 (by decide))
  refine lv_iload_n hx hb dX6_lay_31 rfl (lv_at hl 2 rfl) ?_
  refine lv_bipush (v := 7) hx hb dX6_lay_32 (by decide) ?_
  refine lv_bipush (v := 15) hx hb dX6_lay_34 (by decide) ?_
  refine pu_callb (va_runS (As := [.int (nI c9), .int 7, .int 15]) (rest := []) ⟨hx, hb, hml, hown, hts⟩ (c_X6_in (nI c9) 7 15) (cwS 3 hts gX6_lay_X6_in rfl rfl rfl (by decide +kernel) ⟨Nat.le_of_ble_eq_true rfl, Nat.le_of_ble_eq_true rfl⟩) (wd_preS hP hK) rfl rfl hl.1 rfl (lv_room (Nat.le_of_ble_eq_true rfl)) dX6_lay_36 ⟨Nat.zero_le _, Nat.zero_le _⟩) (fun _ => ?_) (fun h9 => absurd (hq) (by rw [h9]; decide))
  refine lv_if_ne (tgt := 45) hx hb dX6_lay_39 (by decide) (fun _ => ?_) (fun h9 => absurd h9 (by decide))
  refine lv_aload_n hx hb dX6_lay_45 rfl (lv_at hl 0 rfl) ?_
  refine lv_iload_n hx hb dX6_lay_46 rfl (lv_at hl 1 rfl) ?_
  refine lv_iload_n hx hb dX6_lay_47 rfl (lv_at hl 2 rfl) ?_
  refine lv_iload_n hx hb dX6_lay_48 rfl (lv_at hl 3 rfl) ?_
  refine lv_iload hx hb dX6_lay_49 (lv_at hl 4 rfl) ?_
  refine lv_bipush (v := (-5)) hx hb dX6_lay_51 (by decide) ?_
  refine lv_icmp_ne (tgt := 60) hx hb dX6_lay_53 (by decide) (fun _ => ?_) (fun h9 => absurd h9 (fun h9 => absurd (h9 ▸ nI_pos (n := p9) (by omega)) (by decide)))
  refine lv_iload hx hb dX6_lay_60 (lv_at hl 4 rfl) ?_
  refine pu_calli (va_runV (As := [.int (nI r), .int (nI c9), .int i, .int (nI p9)]) (rest := []) ⟨hx, hb, hml, hown, hts⟩ (c_X6_lays_pS hh hn r (by omega) a ha hFa c9 (by omega) (by omega) d9 hd hd9 e9 he he9 p9 hp9 a2 ha2 hFa2 z hz hz8 i h1 h4 h2 h3) (cwV 4 hts gX6_lay_X6_lays rfl rfl rfl (by decide +kernel) ⟨Nat.le_of_ble_eq_true rfl, Nat.le_of_ble_eq_true rfl⟩) (wd_preV (ci := 6) (q0 := 0) hP hK rfl rfl) rfl rfl hl.1 rfl (lv_room (Nat.le_of_ble_eq_true rfl)) dX6_lay_62 ⟨Nat.zero_le _, Nat.zero_le _⟩) ?_
  refine lv_istore (lv' := [(5, .int 4), (0, .ref (g 0)), (1, .int (nI r)), (2, .int (nI c9)), (3, .int i), (4, .int (nI p9))]) hx hb dX6_lay_65 hl (by decide) rfl (fun ls hl => ?_)
  refine lv_iload hx hb dX6_lay_67 (lv_at hl 0 rfl) ?_
  refine lv_if_ne (tgt := 76) hx hb dX6_lay_69 (by decide) (fun _ => ?_) (fun h9 => absurd h9 (by decide))
  refine lv_aload_n hx hb dX6_lay_76 rfl (lv_at hl 1 rfl) ?_
  refine lv_iload hx hb dX6_lay_77 (lv_at hl 0 rfl) ?_
  refine mu_calli (va_runV (As := [.int 4]) (rest := []) ⟨hx, hb, hml, hown, hts⟩ (c_X6_found hh 4 (by omega) (by omega)) (cwV 1 hts gX6_lay_X6_found rfl rfl rfl (by decide +kernel) ⟨Nat.le_of_ble_eq_true rfl, Nat.le_of_ble_eq_true rfl⟩) (wd_preV (ci := 6) (q0 := 0) hP hK rfl rfl) rfl rfl hl.1 rfl (lv_room (Nat.le_of_ble_eq_true rfl)) dX6_lay_79 ⟨Nat.zero_le _, Nat.zero_le _⟩) hS (fun H locs hP hS => ?_)
  have hP : va_P D kC (mo_W cI cJ g 0 (nI n) F Wt Sz Nu Pl Bf (nI b) (nI k) G Wk To Sl Sd (nI as) wo pa fa (upd Fo 4 (Fo 4 + 1))) H := hP
  refine tp_i (y := (-24)) (by decide) ?_
  exact W.iret (v := (-24)) hx hb hr (fun t9 ht _ => ⟨congrArg (fun z => Outcome.returned (some (Value.int z))) (rfl), by rw [ht]; exact hP, hS.F ht⟩) hS.2.2 dX6_lay_82
set_option maxHeartbeats 4000000 in
set_option maxRecDepth 100000 in
theorem c_X6_lay_pO (hh : ad_ok g 16) (hn : n ≤ 100) (r : Nat) (hr9 : r < n) (a : Nat) (ha : a < 16) (hFa : F r = nI a) (c9 : Nat) (hc : c9 < 18) (hc16 : c9 < 16) (hq : q_in (nI c9) 7 15 = true) (p9 : Nat) (hp9 : p9 < n) (a2 : Nat) (ha2 : a2 < 16) (hFa2 : F p9 = nI a2) (d9 : Nat) (hd : d9 < 18) (hd9 : pt_of c9 = nI d9) (e9 : Nat) (he : e9 < 18) (he9 : pt_of a = nI e9) (z : Nat) (hz : Sz r = nI z) (hz8 : z ≤ 8) (j : Nat) (hj : j < 8) (h1 : ko (F r) (nI c9) = true) (h4 : ko (F p9) (nI d9) = true) (h2 : p_in (nI j) (Sz r) = true) (h3 : ko (F p9) (nI e9) = true) : Met l yX6_lay wsX6_lay ({ frames := 10, cells := 0, slots := 0, locals := 450 }) (wd_P D cI cJ [.ref (g 0), .int (nI r), .int (nI c9), .int (nI j), .int (nI p9)] (mo_W cI cJ g fx (nI n) F Wt Sz Nu Pl Bf (nI b) (nI k) G Wk To Sl Sd (nI as) wo pa fa Fo)) (mu_Q D (ad_A g 16) (some (.int 1)) (mo_W cI cJ g 0 (nI n) F Wt Sz Nu (upd Pl (8 * r + j) (nI p9)) Bf (nI b) (nI k) G Wk To Sl Sd (nI as) wo pa fa Fo)) 0 0 (ad_A g 16) := by
  refine Met.ofW (cc := cX6_lay) (maxL := 6) (ret := (some .int)) (by decide) rfl ?_
  intro p e s m args below meth c s₁ B hml hv
  obtain ⟨rfl, hP, hK⟩ := hv
  have hx := B.exec
  have hb := B.bytes
  have hr := B.returns
  have hts := atoms_spec (ws := wsX6_lay) B.pre
  have hown : s.vm.findClass RX6 = some m.cls := findClass_of_methodNamed B.named
  have hlocks := B.notSynchronized
  have hiX6 : ∀ w ∈ u_ws RX6 TX6 23, w ∈ wsX6_lay := by decide +kernel
  have kf59 := hts (.fieldLink RX6 59 "SortingLineModel" "fault" "I") (by decide +kernel)
  have hS : va_S (ad_A g 16) s.heap s.heap [] := va_S.rf
  have hl := lv_entry ([.ref (g 0), .int (nI r), .int (nI c9), .int (nI j), .int (nI p9)]) (n := 6) (Nat.le_of_ble_eq_true rfl)
  rw [lg_entry_eq]
  generalize (lg_sl ([.ref (g 0), .int (nI r), .int (nI c9), .int (nI j), .int (nI p9)]) ++ List.replicate (6 - (lg_sl ([.ref (g 0), .int (nI r), .int (nI c9), .int (nI j), .int (nI p9)])).length) Slot.unset).toArray = ls at hl ⊢
  have hl : lv_has ls 6 [(0, .ref (g 0)), (1, .int (nI r)), (2, .int (nI c9)), (3, .int (nI j)), (4, .int (nI p9))] := hl
  refine lv_aload_n hx hb dX6_lay_0 rfl (lv_at hl 0 rfl) ?_
  refine lv_iconst (v := 0) hx hb dX6_lay_1 (by decide) ?_
  refine va_put (D := D) (ci := 6) (v := .int 0) (ty := .int) (C := RX6) (T := TX6) (N := 23) hx hb hts hiX6 tyX6 tyX6_ok nmX6 hown hK.1 hP (mo_D hh) hS 0 rfl rfl 0 (by decide) kf59 (fun _ h9 => h9) rfl (by decide +kernel) rfl rfl (Nat.le_of_ble_eq_true rfl) dX6_lay_2 (fun H locs hP _ hS => ?_)
  have hP : va_P D kC (mo_W cI cJ g 0 (nI n) F Wt Sz Nu Pl Bf (nI b) (nI k) G Wk To Sl Sd (nI as) wo pa fa Fo) H := hP
  refine lv_aload_n hx hb dX6_lay_5 rfl (lv_at hl 0 rfl) ?_
  refine lv_iload_n hx hb dX6_lay_6 rfl (lv_at hl 1 rfl) ?_
  refine pu_callb (va_runV (As := [.int (nI r)]) (rest := []) ⟨hx, hb, hml, hown, hts⟩ (c_X6_isThing hh (hn) (nI r)) (cwV 1 hts gX6_lay_X6_isThing rfl rfl rfl (by decide +kernel) ⟨Nat.le_of_ble_eq_true rfl, Nat.le_of_ble_eq_true rfl⟩) (wd_preV (ci := 6) (q0 := 0) hP hK rfl rfl) rfl rfl hl.1 rfl (lv_room (Nat.le_of_ble_eq_true rfl)) dX6_lay_7 ⟨Nat.zero_le _, Nat.zero_le _⟩) (fun _ => ?_) (fun h9 => absurd (p_in_nI hr9 (by omega)) (by rw [h9]; decide))
  refine lv_if_eq (tgt := 29) hx hb dX6_lay_10 (by decide) (fun h9 => absurd h9 (by decide)) (fun _ => ?_)
  refine lv_iload hx hb dX6_lay_13 (lv_at hl 4 rfl) ?_
  refine lv_bipush (v := (-5)) hx hb dX6_lay_15 (by decide) ?_
  refine lv_icmp_eq (tgt := 31) hx hb dX6_lay_17 (by decide) (fun h9 => absurd h9 (fun h9 => absurd (h9 ▸ nI_pos (n := p9) (by omega)) (by decide))) (fun _ => ?_)
  refine lv_aload_n hx hb dX6_lay_20 rfl (lv_at hl 0 rfl) ?_
  refine lv_iload hx hb dX6_lay_21 (lv_at hl 4 rfl) ?_
  refine pu_callb (va_runV (As := [.int (nI p9)]) (rest := []) ⟨hx, hb, hml, hown, hts⟩ (c_X6_isThing hh (hn) (nI p9)) (cwV 1 hts gX6_lay_X6_isThing rfl rfl rfl (by decide +kernel) ⟨Nat.le_of_ble_eq_true rfl, Nat.le_of_ble_eq_true rfl⟩) (wd_preV (ci := 6) (q0 := 0) hP hK rfl rfl) rfl rfl hl.1 rfl (lv_room (Nat.le_of_ble_eq_true rfl)) dX6_lay_23 ⟨Nat.zero_le _, Nat.zero_le _⟩) (fun _ => ?_) (fun h9 => absurd (p_in_nI hp9 (by omega)) (by rw [h9]; decide))
  refine lv_if_ne (tgt := 31) hx hb dX6_lay_26 (by decide) (fun _ => ?_) (fun h9 => absurd h9 (by decide))
  refine lv_iload_n hx hb dX6_lay_31 rfl (lv_at hl 2 rfl) ?_
  refine lv_bipush (v := 7) hx hb dX6_lay_32 (by decide) ?_
  refine lv_bipush (v := 15) hx hb dX6_lay_34 (by decide) ?_
  refine pu_callb (va_runS (As := [.int (nI c9), .int 7, .int 15]) (rest := []) ⟨hx, hb, hml, hown, hts⟩ (c_X6_in (nI c9) 7 15) (cwS 3 hts gX6_lay_X6_in rfl rfl rfl (by decide +kernel) ⟨Nat.le_of_ble_eq_true rfl, Nat.le_of_ble_eq_true rfl⟩) (wd_preS hP hK) rfl rfl hl.1 rfl (lv_room (Nat.le_of_ble_eq_true rfl)) dX6_lay_36 ⟨Nat.zero_le _, Nat.zero_le _⟩) (fun _ => ?_) (fun h9 => absurd (hq) (by rw [h9]; decide))
  refine lv_if_ne (tgt := 45) hx hb dX6_lay_39 (by decide) (fun _ => ?_) (fun h9 => absurd h9 (by decide))
  refine lv_aload_n hx hb dX6_lay_45 rfl (lv_at hl 0 rfl) ?_
  refine lv_iload_n hx hb dX6_lay_46 rfl (lv_at hl 1 rfl) ?_
  refine lv_iload_n hx hb dX6_lay_47 rfl (lv_at hl 2 rfl) ?_
  refine lv_iload_n hx hb dX6_lay_48 rfl (lv_at hl 3 rfl) ?_
  refine lv_iload hx hb dX6_lay_49 (lv_at hl 4 rfl) ?_
  refine lv_bipush (v := (-5)) hx hb dX6_lay_51 (by decide) ?_
  refine lv_icmp_ne (tgt := 60) hx hb dX6_lay_53 (by decide) (fun _ => ?_) (fun h9 => absurd h9 (fun h9 => absurd (h9 ▸ nI_pos (n := p9) (by omega)) (by decide)))
  refine lv_iload hx hb dX6_lay_60 (lv_at hl 4 rfl) ?_
  refine mu_calli (va_runV (As := [.int (nI r), .int (nI c9), .int (nI j), .int (nI p9)]) (rest := []) ⟨hx, hb, hml, hown, hts⟩ (c_X6_lays_pO hh hn r (by omega) a ha hFa c9 (by omega) (by omega) d9 hd hd9 e9 he he9 p9 hp9 a2 ha2 hFa2 z hz hz8 j hj h1 h4 h2 h3) (cwV 4 hts gX6_lay_X6_lays rfl rfl rfl (by decide +kernel) ⟨Nat.le_of_ble_eq_true rfl, Nat.le_of_ble_eq_true rfl⟩) (wd_preV (ci := 6) (q0 := 0) hP hK rfl rfl) rfl rfl hl.1 rfl (lv_room (Nat.le_of_ble_eq_true rfl)) dX6_lay_62 ⟨Nat.zero_le _, Nat.zero_le _⟩) hS (fun H locs hP hS => ?_)
  have hP : va_P D kC (mo_W cI cJ g 0 (nI n) F Wt Sz Nu (upd Pl (8 * r + j) (nI p9)) Bf (nI b) (nI k) G Wk To Sl Sd (nI as) wo pa fa Fo) H := hP
  refine lv_istore (lv' := [(5, .int 0), (0, .ref (g 0)), (1, .int (nI r)), (2, .int (nI c9)), (3, .int (nI j)), (4, .int (nI p9))]) hx hb dX6_lay_65 hl (by decide) rfl (fun ls hl => ?_)
  refine lv_iload hx hb dX6_lay_67 (lv_at hl 0 rfl) ?_
  refine lv_if_ne (tgt := 76) hx hb dX6_lay_69 (by decide) (fun h9 => absurd (by decide) h9) (fun _ => ?_)
  refine lv_iconst (v := 1) hx hb dX6_lay_72 (by decide) ?_
  refine lv_goto (tgt := 82) hx hb dX6_lay_73 (by decide) ?_
  exact W.iret (v := 1) hx hb hr (fun t9 ht _ => ⟨congrArg (fun z => Outcome.returned (some (Value.int z))) (rfl), by rw [ht]; exact hP, hS.F ht⟩) hS.2.2 dX6_lay_82
set_option maxHeartbeats 4000000 in
set_option maxRecDepth 100000 in
theorem c_X6_station_o (hh : ad_ok g 16) (ga wk : Int32) (h1 : (q_in ga 0 17 && q_in wk 0 12) = false) : Met l yX6_station wsX6_station ({ frames := 10, cells := 0, slots := 0, locals := 450 }) (wd_P D cI cJ [.ref (g 0), .int ga, .int wk] (mo_W cI cJ g fx (nI n) F Wt Sz Nu Pl Bf (nI b) (nI k) G Wk To Sl Sd (nI as) wo pa fa Fo)) (mu_Q D (ad_A g 16) (some (.int (-2))) (mo_W cI cJ g 0 (nI n) F Wt Sz Nu Pl Bf (nI b) (nI k) G Wk To Sl Sd (nI as) wo pa fa Fo)) 0 0 (ad_A g 16) := by
  refine Met.ofW (cc := cX6_station) (maxL := 3) (ret := (some .int)) (by decide) rfl ?_
  intro p e s m args below meth c s₁ B hml hv
  obtain ⟨rfl, hP, hK⟩ := hv
  have hx := B.exec
  have hb := B.bytes
  have hr := B.returns
  have hts := atoms_spec (ws := wsX6_station) B.pre
  have hown : s.vm.findClass RX6 = some m.cls := findClass_of_methodNamed B.named
  have hlocks := B.notSynchronized
  have hiX6 : ∀ w ∈ u_ws RX6 TX6 23, w ∈ wsX6_station := by decide +kernel
  have kf59 := hts (.fieldLink RX6 59 "SortingLineModel" "fault" "I") (by decide +kernel)
  have hS : va_S (ad_A g 16) s.heap s.heap [] := va_S.rf
  have hl := lv_entry ([.ref (g 0), .int ga, .int wk]) (n := 3) (Nat.le_of_ble_eq_true rfl)
  rw [lg_entry_eq]
  generalize (lg_sl ([.ref (g 0), .int ga, .int wk]) ++ List.replicate (3 - (lg_sl ([.ref (g 0), .int ga, .int wk])).length) Slot.unset).toArray = ls at hl ⊢
  have hl : lv_has ls 3 [(0, .ref (g 0)), (1, .int ga), (2, .int wk)] := hl
  refine lv_aload_n hx hb dX6_station_0 rfl (lv_at hl 0 rfl) ?_
  refine lv_iconst (v := 0) hx hb dX6_station_1 (by decide) ?_
  refine va_put (D := D) (ci := 6) (v := .int 0) (ty := .int) (C := RX6) (T := TX6) (N := 23) hx hb hts hiX6 tyX6 tyX6_ok nmX6 hown hK.1 hP (mo_D hh) hS 0 rfl rfl 0 (by decide) kf59 (fun _ h9 => h9) rfl (by decide +kernel) rfl rfl (Nat.le_of_ble_eq_true rfl) dX6_station_2 (fun H locs hP _ hS => ?_)
  have hP : va_P D kC (mo_W cI cJ g 0 (nI n) F Wt Sz Nu Pl Bf (nI b) (nI k) G Wk To Sl Sd (nI as) wo pa fa Fo) H := hP
  refine lv_iload_n hx hb dX6_station_5 rfl (lv_at hl 1 rfl) ?_
  refine lv_iconst (v := 0) hx hb dX6_station_6 (by decide) ?_
  refine lv_bipush (v := 17) hx hb dX6_station_7 (by decide) ?_
  refine pu_callb (va_runS (As := [.int ga, .int 0, .int 17]) (rest := []) ⟨hx, hb, hml, hown, hts⟩ (c_X6_in ga 0 17) (cwS 3 hts gX6_station_X6_in rfl rfl rfl (by decide +kernel) ⟨Nat.le_of_ble_eq_true rfl, Nat.le_of_ble_eq_true rfl⟩) (wd_preS hP hK) rfl rfl hl.1 rfl (lv_room (Nat.le_of_ble_eq_true rfl)) dX6_station_9 ⟨Nat.zero_le _, Nat.zero_le _⟩) (fun c9 => ?_) (fun c9 => ?_)
  · skip
    refine lv_if_eq (tgt := 25) hx hb dX6_station_12 (by decide) (fun h9 => absurd h9 (by decide)) (fun _ => ?_)
    refine lv_iload_n hx hb dX6_station_15 rfl (lv_at hl 2 rfl) ?_
    refine lv_iconst (v := 0) hx hb dX6_station_16 (by decide) ?_
    refine lv_bipush (v := 12) hx hb dX6_station_17 (by decide) ?_
    refine pu_callb (va_runS (As := [.int wk, .int 0, .int 12]) (rest := []) ⟨hx, hb, hml, hown, hts⟩ (c_X6_in wk 0 12) (cwS 3 hts gX6_station_X6_in rfl rfl rfl (by decide +kernel) ⟨Nat.le_of_ble_eq_true rfl, Nat.le_of_ble_eq_true rfl⟩) (wd_preS hP hK) rfl rfl hl.1 rfl (lv_room (Nat.le_of_ble_eq_true rfl)) dX6_station_19 ⟨Nat.zero_le _, Nat.zero_le _⟩) (fun c19 => ?_) (fun c19 => ?_)
    · skip
      exact (bb_f c9 c19 h1).elim
    · skip
      refine lv_if_ne (tgt := 28) hx hb dX6_station_22 (by decide) (fun h9 => absurd (by decide) h9) (fun _ => ?_)
      refine lv_bipush (v := (-2)) hx hb dX6_station_25 (by decide) ?_
      exact W.iret (v := (-2)) hx hb hr (fun t9 ht _ => ⟨congrArg (fun z => Outcome.returned (some (Value.int z))) (rfl), by rw [ht]; exact hP, hS.F ht⟩) hS.2.2 dX6_station_27
  · skip
    refine lv_if_eq (tgt := 25) hx hb dX6_station_12 (by decide) (fun _ => ?_) (fun h9 => absurd (by decide) h9)
    refine lv_bipush (v := (-2)) hx hb dX6_station_25 (by decide) ?_
    exact W.iret (v := (-2)) hx hb hr (fun t9 ht _ => ⟨congrArg (fun z => Outcome.returned (some (Value.int z))) (rfl), by rw [ht]; exact hP, hS.F ht⟩) hS.2.2 dX6_station_27
set_option maxHeartbeats 4000000 in
set_option maxRecDepth 100000 in
theorem c_X6_station_f (hh : ad_ok g 16) (ga wk : Int32) (h1 : q_in ga 0 17 = true) (h2 : q_in wk 0 12 = true) (hk : k = 8) : Met l yX6_station wsX6_station ({ frames := 10, cells := 0, slots := 0, locals := 450 }) (wd_P D cI cJ [.ref (g 0), .int ga, .int wk] (mo_W cI cJ g fx (nI n) F Wt Sz Nu Pl Bf (nI b) (nI k) G Wk To Sl Sd (nI as) wo pa fa Fo)) (mu_Q D (ad_A g 16) (some (.int (-4))) (mo_W cI cJ g 0 (nI n) F Wt Sz Nu Pl Bf (nI b) (nI k) G Wk To Sl Sd (nI as) wo pa fa Fo)) 0 0 (ad_A g 16) := by
  refine Met.ofW (cc := cX6_station) (maxL := 3) (ret := (some .int)) (by decide) rfl ?_
  intro p e s m args below meth c s₁ B hml hv
  obtain ⟨rfl, hP, hK⟩ := hv
  have hx := B.exec
  have hb := B.bytes
  have hr := B.returns
  have hts := atoms_spec (ws := wsX6_station) B.pre
  have hown : s.vm.findClass RX6 = some m.cls := findClass_of_methodNamed B.named
  have hlocks := B.notSynchronized
  have hiX6 : ∀ w ∈ u_ws RX6 TX6 23, w ∈ wsX6_station := by decide +kernel
  have kf59 := hts (.fieldLink RX6 59 "SortingLineModel" "fault" "I") (by decide +kernel)
  have kf106 := hts (.fieldLink RX6 106 "SortingLineModel" "stations" "I") (by decide +kernel)
  have hS : va_S (ad_A g 16) s.heap s.heap [] := va_S.rf
  have hl := lv_entry ([.ref (g 0), .int ga, .int wk]) (n := 3) (Nat.le_of_ble_eq_true rfl)
  rw [lg_entry_eq]
  generalize (lg_sl ([.ref (g 0), .int ga, .int wk]) ++ List.replicate (3 - (lg_sl ([.ref (g 0), .int ga, .int wk])).length) Slot.unset).toArray = ls at hl ⊢
  have hl : lv_has ls 3 [(0, .ref (g 0)), (1, .int ga), (2, .int wk)] := hl
  refine lv_aload_n hx hb dX6_station_0 rfl (lv_at hl 0 rfl) ?_
  refine lv_iconst (v := 0) hx hb dX6_station_1 (by decide) ?_
  refine va_put (D := D) (ci := 6) (v := .int 0) (ty := .int) (C := RX6) (T := TX6) (N := 23) hx hb hts hiX6 tyX6 tyX6_ok nmX6 hown hK.1 hP (mo_D hh) hS 0 rfl rfl 0 (by decide) kf59 (fun _ h9 => h9) rfl (by decide +kernel) rfl rfl (Nat.le_of_ble_eq_true rfl) dX6_station_2 (fun H locs hP _ hS => ?_)
  have hP : va_P D kC (mo_W cI cJ g 0 (nI n) F Wt Sz Nu Pl Bf (nI b) (nI k) G Wk To Sl Sd (nI as) wo pa fa Fo) H := hP
  refine lv_iload_n hx hb dX6_station_5 rfl (lv_at hl 1 rfl) ?_
  refine lv_iconst (v := 0) hx hb dX6_station_6 (by decide) ?_
  refine lv_bipush (v := 17) hx hb dX6_station_7 (by decide) ?_
  refine pu_callb (va_runS (As := [.int ga, .int 0, .int 17]) (rest := []) ⟨hx, hb, hml, hown, hts⟩ (c_X6_in ga 0 17) (cwS 3 hts gX6_station_X6_in rfl rfl rfl (by decide +kernel) ⟨Nat.le_of_ble_eq_true rfl, Nat.le_of_ble_eq_true rfl⟩) (wd_preS hP hK) rfl rfl hl.1 rfl (lv_room (Nat.le_of_ble_eq_true rfl)) dX6_station_9 ⟨Nat.zero_le _, Nat.zero_le _⟩) (fun _ => ?_) (fun h9 => absurd (h1) (by rw [h9]; decide))
  refine lv_if_eq (tgt := 25) hx hb dX6_station_12 (by decide) (fun h9 => absurd h9 (by decide)) (fun _ => ?_)
  refine lv_iload_n hx hb dX6_station_15 rfl (lv_at hl 2 rfl) ?_
  refine lv_iconst (v := 0) hx hb dX6_station_16 (by decide) ?_
  refine lv_bipush (v := 12) hx hb dX6_station_17 (by decide) ?_
  refine pu_callb (va_runS (As := [.int wk, .int 0, .int 12]) (rest := []) ⟨hx, hb, hml, hown, hts⟩ (c_X6_in wk 0 12) (cwS 3 hts gX6_station_X6_in rfl rfl rfl (by decide +kernel) ⟨Nat.le_of_ble_eq_true rfl, Nat.le_of_ble_eq_true rfl⟩) (wd_preS hP hK) rfl rfl hl.1 rfl (lv_room (Nat.le_of_ble_eq_true rfl)) dX6_station_19 ⟨Nat.zero_le _, Nat.zero_le _⟩) (fun _ => ?_) (fun h9 => absurd (h2) (by rw [h9]; decide))
  refine lv_if_ne (tgt := 28) hx hb dX6_station_22 (by decide) (fun _ => ?_) (fun h9 => absurd h9 (by decide))
  refine lv_aload_n hx hb dX6_station_28 rfl (lv_at hl 0 rfl) ?_
  refine va_get (D := D) (ci := 6) (v := .int (nI k)) (C := RX6) (T := TX6) (N := 23) hx hb hts hiX6 hown hK.1 hP 0 rfl rfl 12 (by decide) kf106 (fun _ h9 => h9) rfl dX6_station_29 ?_
  refine lv_bipush (v := 8) hx hb dX6_station_32 (by decide) ?_
  refine lv_icmp_ne (tgt := 40) hx hb dX6_station_34 (by decide) (fun h9 => absurd (show nI k = 8 by rw [hk]; rfl) h9) (fun _ => ?_)
  refine lv_bipush (v := (-4)) hx hb dX6_station_37 (by decide) ?_
  exact W.iret (v := (-4)) hx hb hr (fun t9 ht _ => ⟨congrArg (fun z => Outcome.returned (some (Value.int z))) (rfl), by rw [ht]; exact hP, hS.F ht⟩) hS.2.2 dX6_station_39
set_option maxHeartbeats 4000000 in
set_option maxRecDepth 100000 in
theorem c_X6_station_a (hh : ad_ok g 16) (ga wk : Int32) (h1 : q_in ga 0 17 = true) (h2 : q_in wk 0 12 = true) (hk : k < 8) : Met l yX6_station wsX6_station ({ frames := 10, cells := 0, slots := 0, locals := 450 }) (wd_P D cI cJ [.ref (g 0), .int ga, .int wk] (mo_W cI cJ g fx (nI n) F Wt Sz Nu Pl Bf (nI b) (nI k) G Wk To Sl Sd (nI as) wo pa fa Fo)) (mu_Q D (ad_A g 16) (some (.int (nI k))) (mo_W cI cJ g 0 (nI n) F Wt Sz Nu Pl Bf (nI b) (nI (k + 1)) (upd G k ga) (upd Wk k wk) (vp_updL To k 0) (upd Sl k (-1)) Sd (nI as) wo pa fa Fo)) 0 0 (ad_A g 16) := by
  refine Met.ofW (cc := cX6_station) (maxL := 3) (ret := (some .int)) (by decide) rfl ?_
  intro p e s m args below meth c s₁ B hml hv
  obtain ⟨rfl, hP, hK⟩ := hv
  have hx := B.exec
  have hb := B.bytes
  have hr := B.returns
  have hts := atoms_spec (ws := wsX6_station) B.pre
  have hown : s.vm.findClass RX6 = some m.cls := findClass_of_methodNamed B.named
  have hlocks := B.notSynchronized
  have hiX6 : ∀ w ∈ u_ws RX6 TX6 23, w ∈ wsX6_station := by decide +kernel
  have kf59 := hts (.fieldLink RX6 59 "SortingLineModel" "fault" "I") (by decide +kernel)
  have kf106 := hts (.fieldLink RX6 106 "SortingLineModel" "stations" "I") (by decide +kernel)
  have kf41 := hts (.fieldLink RX6 41 "SortingLineModel" "gates" "[I") (by decide +kernel)
  have kf44 := hts (.fieldLink RX6 44 "SortingLineModel" "works" "[I") (by decide +kernel)
  have kf47 := hts (.fieldLink RX6 47 "SortingLineModel" "totals" "[J") (by decide +kernel)
  have kf50 := hts (.fieldLink RX6 50 "SortingLineModel" "slots" "[I") (by decide +kernel)
  have hS : va_S (ad_A g 16) s.heap s.heap [] := va_S.rf
  have hl := lv_entry ([.ref (g 0), .int ga, .int wk]) (n := 3) (Nat.le_of_ble_eq_true rfl)
  rw [lg_entry_eq]
  generalize (lg_sl ([.ref (g 0), .int ga, .int wk]) ++ List.replicate (3 - (lg_sl ([.ref (g 0), .int ga, .int wk])).length) Slot.unset).toArray = ls at hl ⊢
  have hl : lv_has ls 3 [(0, .ref (g 0)), (1, .int ga), (2, .int wk)] := hl
  refine lv_aload_n hx hb dX6_station_0 rfl (lv_at hl 0 rfl) ?_
  refine lv_iconst (v := 0) hx hb dX6_station_1 (by decide) ?_
  refine va_put (D := D) (ci := 6) (v := .int 0) (ty := .int) (C := RX6) (T := TX6) (N := 23) hx hb hts hiX6 tyX6 tyX6_ok nmX6 hown hK.1 hP (mo_D hh) hS 0 rfl rfl 0 (by decide) kf59 (fun _ h9 => h9) rfl (by decide +kernel) rfl rfl (Nat.le_of_ble_eq_true rfl) dX6_station_2 (fun H locs hP _ hS => ?_)
  have hP : va_P D kC (mo_W cI cJ g 0 (nI n) F Wt Sz Nu Pl Bf (nI b) (nI k) G Wk To Sl Sd (nI as) wo pa fa Fo) H := hP
  refine lv_iload_n hx hb dX6_station_5 rfl (lv_at hl 1 rfl) ?_
  refine lv_iconst (v := 0) hx hb dX6_station_6 (by decide) ?_
  refine lv_bipush (v := 17) hx hb dX6_station_7 (by decide) ?_
  refine pu_callb (va_runS (As := [.int ga, .int 0, .int 17]) (rest := []) ⟨hx, hb, hml, hown, hts⟩ (c_X6_in ga 0 17) (cwS 3 hts gX6_station_X6_in rfl rfl rfl (by decide +kernel) ⟨Nat.le_of_ble_eq_true rfl, Nat.le_of_ble_eq_true rfl⟩) (wd_preS hP hK) rfl rfl hl.1 rfl (lv_room (Nat.le_of_ble_eq_true rfl)) dX6_station_9 ⟨Nat.zero_le _, Nat.zero_le _⟩) (fun _ => ?_) (fun h9 => absurd (h1) (by rw [h9]; decide))
  refine lv_if_eq (tgt := 25) hx hb dX6_station_12 (by decide) (fun h9 => absurd h9 (by decide)) (fun _ => ?_)
  refine lv_iload_n hx hb dX6_station_15 rfl (lv_at hl 2 rfl) ?_
  refine lv_iconst (v := 0) hx hb dX6_station_16 (by decide) ?_
  refine lv_bipush (v := 12) hx hb dX6_station_17 (by decide) ?_
  refine pu_callb (va_runS (As := [.int wk, .int 0, .int 12]) (rest := []) ⟨hx, hb, hml, hown, hts⟩ (c_X6_in wk 0 12) (cwS 3 hts gX6_station_X6_in rfl rfl rfl (by decide +kernel) ⟨Nat.le_of_ble_eq_true rfl, Nat.le_of_ble_eq_true rfl⟩) (wd_preS hP hK) rfl rfl hl.1 rfl (lv_room (Nat.le_of_ble_eq_true rfl)) dX6_station_19 ⟨Nat.zero_le _, Nat.zero_le _⟩) (fun _ => ?_) (fun h9 => absurd (h2) (by rw [h9]; decide))
  refine lv_if_ne (tgt := 28) hx hb dX6_station_22 (by decide) (fun _ => ?_) (fun h9 => absurd h9 (by decide))
  refine lv_aload_n hx hb dX6_station_28 rfl (lv_at hl 0 rfl) ?_
  refine va_get (D := D) (ci := 6) (v := .int (nI k)) (C := RX6) (T := TX6) (N := 23) hx hb hts hiX6 hown hK.1 hP 0 rfl rfl 12 (by decide) kf106 (fun _ h9 => h9) rfl dX6_station_29 ?_
  refine lv_bipush (v := 8) hx hb dX6_station_32 (by decide) ?_
  refine lv_icmp_ne (tgt := 40) hx hb dX6_station_34 (by decide) (fun _ => ?_) (fun h9 => absurd h9 (fun h9 => absurd ((nI_eq (a := k) (b := 8) (by omega) (by omega)).mp h9) (by omega)))
  refine lv_aload_n hx hb dX6_station_40 rfl (lv_at hl 0 rfl) ?_
  refine va_get (D := D) (ci := 6) (v := .ref (g 10)) (C := RX6) (T := TX6) (N := 23) hx hb hts hiX6 hown hK.1 hP 0 rfl rfl 13 (by decide) kf41 (fun _ h9 => h9) rfl dX6_station_41 ?_
  refine lv_aload_n hx hb dX6_station_44 rfl (lv_at hl 0 rfl) ?_
  refine va_get (D := D) (ci := 6) (v := .int (nI k)) (C := RX6) (T := TX6) (N := 23) hx hb hts hiX6 hown hK.1 hP 0 rfl rfl 12 (by decide) kf106 (fun _ h9 => h9) rfl dX6_station_45 ?_
  refine lv_iload_n hx hb dX6_station_48 rfl (lv_at hl 1 rfl) ?_
  refine ga_ist hx hb hK hP (mo_D hh) hS 10 rfl k (rfl) (by omega) (by decide) dX6_station_49 (fun H locs hP hS => ?_)
  have hP : va_P D kC (mo_W cI cJ g 0 (nI n) F Wt Sz Nu Pl Bf (nI b) (nI k) (upd G k ga) Wk To Sl Sd (nI as) wo pa fa Fo) H := hP
  refine lv_aload_n hx hb dX6_station_50 rfl (lv_at hl 0 rfl) ?_
  refine va_get (D := D) (ci := 6) (v := .ref (g 11)) (C := RX6) (T := TX6) (N := 23) hx hb hts hiX6 hown hK.1 hP 0 rfl rfl 14 (by decide) kf44 (fun _ h9 => h9) rfl dX6_station_51 ?_
  refine lv_aload_n hx hb dX6_station_54 rfl (lv_at hl 0 rfl) ?_
  refine va_get (D := D) (ci := 6) (v := .int (nI k)) (C := RX6) (T := TX6) (N := 23) hx hb hts hiX6 hown hK.1 hP 0 rfl rfl 12 (by decide) kf106 (fun _ h9 => h9) rfl dX6_station_55 ?_
  refine lv_iload_n hx hb dX6_station_58 rfl (lv_at hl 2 rfl) ?_
  refine ga_ist hx hb hK hP (mo_D hh) hS 11 rfl k (rfl) (by omega) (by decide) dX6_station_59 (fun H locs hP hS => ?_)
  have hP : va_P D kC (mo_W cI cJ g 0 (nI n) F Wt Sz Nu Pl Bf (nI b) (nI k) (upd G k ga) (upd Wk k wk) To Sl Sd (nI as) wo pa fa Fo) H := hP
  refine lv_aload_n hx hb dX6_station_60 rfl (lv_at hl 0 rfl) ?_
  refine va_get (D := D) (ci := 6) (v := .ref (g 12)) (C := RX6) (T := TX6) (N := 23) hx hb hts hiX6 hown hK.1 hP 0 rfl rfl 15 (by decide) kf47 (fun _ h9 => h9) rfl dX6_station_61 ?_
  refine lv_aload_n hx hb dX6_station_64 rfl (lv_at hl 0 rfl) ?_
  refine va_get (D := D) (ci := 6) (v := .int (nI k)) (C := RX6) (T := TX6) (N := 23) hx hb hts hiX6 hown hK.1 hP 0 rfl rfl 12 (by decide) kf106 (fun _ h9 => h9) rfl dX6_station_65 ?_
  refine lv_lconst (v := 0) hx hb dX6_station_68 (by decide) ?_
  refine ga_lst hx hb hK hP (mo_D hh) hS 12 rfl k (rfl) (by omega) (by decide) dX6_station_69 (fun H locs hP hS => ?_)
  have hP : va_P D kC (mo_W cI cJ g 0 (nI n) F Wt Sz Nu Pl Bf (nI b) (nI k) (upd G k ga) (upd Wk k wk) (vp_updL To k 0) Sl Sd (nI as) wo pa fa Fo) H := hP
  refine lv_aload_n hx hb dX6_station_70 rfl (lv_at hl 0 rfl) ?_
  refine va_get (D := D) (ci := 6) (v := .ref (g 13)) (C := RX6) (T := TX6) (N := 23) hx hb hts hiX6 hown hK.1 hP 0 rfl rfl 16 (by decide) kf50 (fun _ h9 => h9) rfl dX6_station_71 ?_
  refine lv_aload_n hx hb dX6_station_74 rfl (lv_at hl 0 rfl) ?_
  refine va_get (D := D) (ci := 6) (v := .int (nI k)) (C := RX6) (T := TX6) (N := 23) hx hb hts hiX6 hown hK.1 hP 0 rfl rfl 12 (by decide) kf106 (fun _ h9 => h9) rfl dX6_station_75 ?_
  refine lv_iconst (v := (-1)) hx hb dX6_station_78 (by decide) ?_
  refine ga_ist hx hb hK hP (mo_D hh) hS 13 rfl k (rfl) (by omega) (by decide) dX6_station_79 (fun H locs hP hS => ?_)
  have hP : va_P D kC (mo_W cI cJ g 0 (nI n) F Wt Sz Nu Pl Bf (nI b) (nI k) (upd G k ga) (upd Wk k wk) (vp_updL To k 0) (upd Sl k (-1)) Sd (nI as) wo pa fa Fo) H := hP
  refine lv_aload_n hx hb dX6_station_80 rfl (lv_at hl 0 rfl) ?_
  refine lv_dup hx hb dX6_station_81 rfl ?_
  refine va_get (D := D) (ci := 6) (v := .int (nI k)) (C := RX6) (T := TX6) (N := 23) hx hb hts hiX6 hown hK.1 hP 0 rfl rfl 12 (by decide) kf106 (fun _ h9 => h9) rfl dX6_station_82 ?_
  refine lv_iconst (v := 1) hx hb dX6_station_85 (by decide) ?_
  refine lv_iadd hx hb dX6_station_86 ?_
  refine tp_i (y := nI (k + 1)) (nI_add k 1) ?_
  refine va_put (D := D) (ci := 6) (v := .int (nI (k + 1))) (ty := .int) (C := RX6) (T := TX6) (N := 23) hx hb hts hiX6 tyX6 tyX6_ok nmX6 hown hK.1 hP (mo_D hh) hS 0 rfl rfl 12 (by decide) kf106 (fun _ h9 => h9) rfl (by decide +kernel) rfl rfl (Nat.le_of_ble_eq_true rfl) dX6_station_87 (fun H locs hP _ hS => ?_)
  have hP : va_P D kC (mo_W cI cJ g 0 (nI n) F Wt Sz Nu Pl Bf (nI b) (nI (k + 1)) (upd G k ga) (upd Wk k wk) (vp_updL To k 0) (upd Sl k (-1)) Sd (nI as) wo pa fa Fo) H := hP
  refine lv_aload_n hx hb dX6_station_90 rfl (lv_at hl 0 rfl) ?_
  refine va_get (D := D) (ci := 6) (v := .int (nI (k + 1))) (C := RX6) (T := TX6) (N := 23) hx hb hts hiX6 hown hK.1 hP 0 rfl rfl 12 (by decide) kf106 (fun _ h9 => h9) rfl dX6_station_91 ?_
  refine lv_iconst (v := 1) hx hb dX6_station_94 (by decide) ?_
  refine lv_isub hx hb dX6_station_95 ?_
  refine tp_i (y := nI k) (nI_pred k) ?_
  exact W.iret (v := nI k) hx hb hr (fun t9 ht _ => ⟨congrArg (fun z => Outcome.returned (some (Value.int z))) (rfl), by rw [ht]; exact hP, hS.F ht⟩) hS.2.2 dX6_station_96
set_option maxHeartbeats 4000000 in
set_option maxRecDepth 100000 in
theorem c_X6_send_u (hh : ad_ok g 16) (hn : n ≤ 100) (t : Int32) (h1 : p_in t (nI n) = false) : Met l yX6_send wsX6_send ({ frames := 10, cells := 0, slots := 0, locals := 450 }) (wd_P D cI cJ [.ref (g 0), .int t] (mo_W cI cJ g fx (nI n) F Wt Sz Nu Pl Bf (nI b) (nI k) G Wk To Sl Sd (nI as) wo pa fa Fo)) (mu_Q D (ad_A g 16) (some (.int (-1))) (mo_W cI cJ g 0 (nI n) F Wt Sz Nu Pl Bf (nI b) (nI k) G Wk To Sl Sd (nI as) wo pa fa Fo)) 0 0 (ad_A g 16) := by
  refine Met.ofW (cc := cX6_send) (maxL := 2) (ret := (some .int)) (by decide) rfl ?_
  intro p e s m args below meth c s₁ B hml hv
  obtain ⟨rfl, hP, hK⟩ := hv
  have hx := B.exec
  have hb := B.bytes
  have hr := B.returns
  have hts := atoms_spec (ws := wsX6_send) B.pre
  have hown : s.vm.findClass RX6 = some m.cls := findClass_of_methodNamed B.named
  have hlocks := B.notSynchronized
  have hiX6 : ∀ w ∈ u_ws RX6 TX6 23, w ∈ wsX6_send := by decide +kernel
  have kf59 := hts (.fieldLink RX6 59 "SortingLineModel" "fault" "I") (by decide +kernel)
  have hS : va_S (ad_A g 16) s.heap s.heap [] := va_S.rf
  have hl := lv_entry ([.ref (g 0), .int t]) (n := 2) (Nat.le_of_ble_eq_true rfl)
  rw [lg_entry_eq]
  generalize (lg_sl ([.ref (g 0), .int t]) ++ List.replicate (2 - (lg_sl ([.ref (g 0), .int t])).length) Slot.unset).toArray = ls at hl ⊢
  have hl : lv_has ls 2 [(0, .ref (g 0)), (1, .int t)] := hl
  refine lv_aload_n hx hb dX6_send_0 rfl (lv_at hl 0 rfl) ?_
  refine lv_iconst (v := 0) hx hb dX6_send_1 (by decide) ?_
  refine va_put (D := D) (ci := 6) (v := .int 0) (ty := .int) (C := RX6) (T := TX6) (N := 23) hx hb hts hiX6 tyX6 tyX6_ok nmX6 hown hK.1 hP (mo_D hh) hS 0 rfl rfl 0 (by decide) kf59 (fun _ h9 => h9) rfl (by decide +kernel) rfl rfl (Nat.le_of_ble_eq_true rfl) dX6_send_2 (fun H locs hP _ hS => ?_)
  have hP : va_P D kC (mo_W cI cJ g 0 (nI n) F Wt Sz Nu Pl Bf (nI b) (nI k) G Wk To Sl Sd (nI as) wo pa fa Fo) H := hP
  refine lv_aload_n hx hb dX6_send_5 rfl (lv_at hl 0 rfl) ?_
  refine lv_iload_n hx hb dX6_send_6 rfl (lv_at hl 1 rfl) ?_
  refine pu_callb (va_runV (As := [.int t]) (rest := []) ⟨hx, hb, hml, hown, hts⟩ (c_X6_isThing hh (hn) t) (cwV 1 hts gX6_send_X6_isThing rfl rfl rfl (by decide +kernel) ⟨Nat.le_of_ble_eq_true rfl, Nat.le_of_ble_eq_true rfl⟩) (wd_preV (ci := 6) (q0 := 0) hP hK rfl rfl) rfl rfl hl.1 rfl (lv_room (Nat.le_of_ble_eq_true rfl)) dX6_send_7 ⟨Nat.zero_le _, Nat.zero_le _⟩) (fun h9 => absurd (h1) (by rw [h9]; decide)) (fun _ => ?_)
  refine lv_if_ne (tgt := 15) hx hb dX6_send_10 (by decide) (fun h9 => absurd (by decide) h9) (fun _ => ?_)
  refine lv_iconst (v := (-1)) hx hb dX6_send_13 (by decide) ?_
  exact W.iret (v := (-1)) hx hb hr (fun t9 ht _ => ⟨congrArg (fun z => Outcome.returned (some (Value.int z))) (rfl), by rw [ht]; exact hP, hS.F ht⟩) hS.2.2 dX6_send_14
set_option maxHeartbeats 4000000 in
set_option maxRecDepth 100000 in
theorem c_X6_send_f (hh : ad_ok g 16) (hn : n ≤ 100) (t : Int32) (h1 : p_in t (nI n) = true) (hb9 : b = 40) : Met l yX6_send wsX6_send ({ frames := 10, cells := 0, slots := 0, locals := 450 }) (wd_P D cI cJ [.ref (g 0), .int t] (mo_W cI cJ g fx (nI n) F Wt Sz Nu Pl Bf (nI b) (nI k) G Wk To Sl Sd (nI as) wo pa fa Fo)) (mu_Q D (ad_A g 16) (some (.int (-4))) (mo_W cI cJ g 0 (nI n) F Wt Sz Nu Pl Bf (nI b) (nI k) G Wk To Sl Sd (nI as) wo pa fa Fo)) 0 0 (ad_A g 16) := by
  refine Met.ofW (cc := cX6_send) (maxL := 2) (ret := (some .int)) (by decide) rfl ?_
  intro p e s m args below meth c s₁ B hml hv
  obtain ⟨rfl, hP, hK⟩ := hv
  have hx := B.exec
  have hb := B.bytes
  have hr := B.returns
  have hts := atoms_spec (ws := wsX6_send) B.pre
  have hown : s.vm.findClass RX6 = some m.cls := findClass_of_methodNamed B.named
  have hlocks := B.notSynchronized
  have hiX6 : ∀ w ∈ u_ws RX6 TX6 23, w ∈ wsX6_send := by decide +kernel
  have kf59 := hts (.fieldLink RX6 59 "SortingLineModel" "fault" "I") (by decide +kernel)
  have kf109 := hts (.fieldLink RX6 109 "SortingLineModel" "onBelt" "I") (by decide +kernel)
  have hS : va_S (ad_A g 16) s.heap s.heap [] := va_S.rf
  have hl := lv_entry ([.ref (g 0), .int t]) (n := 2) (Nat.le_of_ble_eq_true rfl)
  rw [lg_entry_eq]
  generalize (lg_sl ([.ref (g 0), .int t]) ++ List.replicate (2 - (lg_sl ([.ref (g 0), .int t])).length) Slot.unset).toArray = ls at hl ⊢
  have hl : lv_has ls 2 [(0, .ref (g 0)), (1, .int t)] := hl
  refine lv_aload_n hx hb dX6_send_0 rfl (lv_at hl 0 rfl) ?_
  refine lv_iconst (v := 0) hx hb dX6_send_1 (by decide) ?_
  refine va_put (D := D) (ci := 6) (v := .int 0) (ty := .int) (C := RX6) (T := TX6) (N := 23) hx hb hts hiX6 tyX6 tyX6_ok nmX6 hown hK.1 hP (mo_D hh) hS 0 rfl rfl 0 (by decide) kf59 (fun _ h9 => h9) rfl (by decide +kernel) rfl rfl (Nat.le_of_ble_eq_true rfl) dX6_send_2 (fun H locs hP _ hS => ?_)
  have hP : va_P D kC (mo_W cI cJ g 0 (nI n) F Wt Sz Nu Pl Bf (nI b) (nI k) G Wk To Sl Sd (nI as) wo pa fa Fo) H := hP
  refine lv_aload_n hx hb dX6_send_5 rfl (lv_at hl 0 rfl) ?_
  refine lv_iload_n hx hb dX6_send_6 rfl (lv_at hl 1 rfl) ?_
  refine pu_callb (va_runV (As := [.int t]) (rest := []) ⟨hx, hb, hml, hown, hts⟩ (c_X6_isThing hh (hn) t) (cwV 1 hts gX6_send_X6_isThing rfl rfl rfl (by decide +kernel) ⟨Nat.le_of_ble_eq_true rfl, Nat.le_of_ble_eq_true rfl⟩) (wd_preV (ci := 6) (q0 := 0) hP hK rfl rfl) rfl rfl hl.1 rfl (lv_room (Nat.le_of_ble_eq_true rfl)) dX6_send_7 ⟨Nat.zero_le _, Nat.zero_le _⟩) (fun _ => ?_) (fun h9 => absurd (h1) (by rw [h9]; decide))
  refine lv_if_ne (tgt := 15) hx hb dX6_send_10 (by decide) (fun _ => ?_) (fun h9 => absurd h9 (by decide))
  refine lv_aload_n hx hb dX6_send_15 rfl (lv_at hl 0 rfl) ?_
  refine va_get (D := D) (ci := 6) (v := .int (nI b)) (C := RX6) (T := TX6) (N := 23) hx hb hts hiX6 hown hK.1 hP 0 rfl rfl 11 (by decide) kf109 (fun _ h9 => h9) rfl dX6_send_16 ?_
  refine lv_bipush (v := 40) hx hb dX6_send_19 (by decide) ?_
  refine lv_icmp_ne (tgt := 27) hx hb dX6_send_21 (by decide) (fun h9 => absurd (show nI b = 40 by rw [hb9]; rfl) h9) (fun _ => ?_)
  refine lv_bipush (v := (-4)) hx hb dX6_send_24 (by decide) ?_
  exact W.iret (v := (-4)) hx hb hr (fun t9 ht _ => ⟨congrArg (fun z => Outcome.returned (some (Value.int z))) (rfl), by rw [ht]; exact hP, hS.F ht⟩) hS.2.2 dX6_send_26
set_option maxHeartbeats 4000000 in
set_option maxRecDepth 100000 in
theorem c_X6_send_a (hh : ad_ok g 16) (hn : n ≤ 100) (t : Int32) (h1 : p_in t (nI n) = true) (hb9 : b < 40) : Met l yX6_send wsX6_send ({ frames := 10, cells := 0, slots := 0, locals := 450 }) (wd_P D cI cJ [.ref (g 0), .int t] (mo_W cI cJ g fx (nI n) F Wt Sz Nu Pl Bf (nI b) (nI k) G Wk To Sl Sd (nI as) wo pa fa Fo)) (mu_Q D (ad_A g 16) (some (.int (nI (b + 1)))) (mo_W cI cJ g 0 (nI n) F Wt Sz Nu Pl (upd Bf b t) (nI (b + 1)) (nI k) G Wk To Sl Sd (nI as) wo pa fa Fo)) 0 0 (ad_A g 16) := by
  refine Met.ofW (cc := cX6_send) (maxL := 2) (ret := (some .int)) (by decide) rfl ?_
  intro p e s m args below meth c s₁ B hml hv
  obtain ⟨rfl, hP, hK⟩ := hv
  have hx := B.exec
  have hb := B.bytes
  have hr := B.returns
  have hts := atoms_spec (ws := wsX6_send) B.pre
  have hown : s.vm.findClass RX6 = some m.cls := findClass_of_methodNamed B.named
  have hlocks := B.notSynchronized
  have hiX6 : ∀ w ∈ u_ws RX6 TX6 23, w ∈ wsX6_send := by decide +kernel
  have kf59 := hts (.fieldLink RX6 59 "SortingLineModel" "fault" "I") (by decide +kernel)
  have kf109 := hts (.fieldLink RX6 109 "SortingLineModel" "onBelt" "I") (by decide +kernel)
  have hS : va_S (ad_A g 16) s.heap s.heap [] := va_S.rf
  have hl := lv_entry ([.ref (g 0), .int t]) (n := 2) (Nat.le_of_ble_eq_true rfl)
  rw [lg_entry_eq]
  generalize (lg_sl ([.ref (g 0), .int t]) ++ List.replicate (2 - (lg_sl ([.ref (g 0), .int t])).length) Slot.unset).toArray = ls at hl ⊢
  have hl : lv_has ls 2 [(0, .ref (g 0)), (1, .int t)] := hl
  refine lv_aload_n hx hb dX6_send_0 rfl (lv_at hl 0 rfl) ?_
  refine lv_iconst (v := 0) hx hb dX6_send_1 (by decide) ?_
  refine va_put (D := D) (ci := 6) (v := .int 0) (ty := .int) (C := RX6) (T := TX6) (N := 23) hx hb hts hiX6 tyX6 tyX6_ok nmX6 hown hK.1 hP (mo_D hh) hS 0 rfl rfl 0 (by decide) kf59 (fun _ h9 => h9) rfl (by decide +kernel) rfl rfl (Nat.le_of_ble_eq_true rfl) dX6_send_2 (fun H locs hP _ hS => ?_)
  have hP : va_P D kC (mo_W cI cJ g 0 (nI n) F Wt Sz Nu Pl Bf (nI b) (nI k) G Wk To Sl Sd (nI as) wo pa fa Fo) H := hP
  refine lv_aload_n hx hb dX6_send_5 rfl (lv_at hl 0 rfl) ?_
  refine lv_iload_n hx hb dX6_send_6 rfl (lv_at hl 1 rfl) ?_
  refine pu_callb (va_runV (As := [.int t]) (rest := []) ⟨hx, hb, hml, hown, hts⟩ (c_X6_isThing hh (hn) t) (cwV 1 hts gX6_send_X6_isThing rfl rfl rfl (by decide +kernel) ⟨Nat.le_of_ble_eq_true rfl, Nat.le_of_ble_eq_true rfl⟩) (wd_preV (ci := 6) (q0 := 0) hP hK rfl rfl) rfl rfl hl.1 rfl (lv_room (Nat.le_of_ble_eq_true rfl)) dX6_send_7 ⟨Nat.zero_le _, Nat.zero_le _⟩) (fun _ => ?_) (fun h9 => absurd (h1) (by rw [h9]; decide))
  refine lv_if_ne (tgt := 15) hx hb dX6_send_10 (by decide) (fun _ => ?_) (fun h9 => absurd h9 (by decide))
  refine lv_aload_n hx hb dX6_send_15 rfl (lv_at hl 0 rfl) ?_
  refine va_get (D := D) (ci := 6) (v := .int (nI b)) (C := RX6) (T := TX6) (N := 23) hx hb hts hiX6 hown hK.1 hP 0 rfl rfl 11 (by decide) kf109 (fun _ h9 => h9) rfl dX6_send_16 ?_
  refine lv_bipush (v := 40) hx hb dX6_send_19 (by decide) ?_
  refine lv_icmp_ne (tgt := 27) hx hb dX6_send_21 (by decide) (fun _ => ?_) (fun h9 => absurd h9 (fun h9 => absurd ((nI_eq (a := b) (b := 40) (by omega) (by omega)).mp h9) (by omega)))
  refine lv_aload_n hx hb dX6_send_27 rfl (lv_at hl 0 rfl) ?_
  refine lv_iload_n hx hb dX6_send_28 rfl (lv_at hl 1 rfl) ?_
  refine mu_callv (va_runV (As := [.int t]) (rest := []) ⟨hx, hb, hml, hown, hts⟩ (c_X6_comes hh (hb9) t) (cwV 1 hts gX6_send_X6_comes rfl rfl rfl (by decide +kernel) ⟨Nat.le_of_ble_eq_true rfl, Nat.le_of_ble_eq_true rfl⟩) (wd_preV (ci := 6) (q0 := 0) hP hK rfl rfl) rfl rfl hl.1 rfl (lv_room (Nat.le_of_ble_eq_true rfl)) dX6_send_29 ⟨Nat.zero_le _, Nat.zero_le _⟩) hS (fun H locs hP hS => ?_)
  have hP : va_P D kC (mo_W cI cJ g 0 (nI n) F Wt Sz Nu Pl (upd Bf b t) (nI (b + 1)) (nI k) G Wk To Sl Sd (nI as) wo pa fa Fo) H := hP
  refine lv_aload_n hx hb dX6_send_32 rfl (lv_at hl 0 rfl) ?_
  refine va_get (D := D) (ci := 6) (v := .int (nI (b + 1))) (C := RX6) (T := TX6) (N := 23) hx hb hts hiX6 hown hK.1 hP 0 rfl rfl 11 (by decide) kf109 (fun _ h9 => h9) rfl dX6_send_33 ?_
  exact W.iret (v := nI (b + 1)) hx hb hr (fun t9 ht _ => ⟨congrArg (fun z => Outcome.returned (some (Value.int z))) (rfl), by rw [ht]; exact hP, hS.F ht⟩) hS.2.2 dX6_send_36
set_option maxHeartbeats 4000000 in
set_option maxRecDepth 100000 in
theorem c_X6_total_u (hh : ad_ok g 16) (hk : k ≤ 8) (t : Int32) (h1 : p_in t (nI k) = false) : Met l yX6_total wsX6_total ({ frames := 10, cells := 0, slots := 0, locals := 450 }) (wd_P D cI cJ [.ref (g 0), .int t] (mo_W cI cJ g fx (nI n) F Wt Sz Nu Pl Bf (nI b) (nI k) G Wk To Sl Sd (nI as) wo pa fa Fo)) (mu_Q D (ad_A g 16) (some (.long 0)) (mo_W cI cJ g 0 (nI n) F Wt Sz Nu Pl Bf (nI b) (nI k) G Wk To Sl Sd (nI as) wo pa fa Fo)) 0 0 (ad_A g 16) := by
  refine Met.ofW (cc := cX6_total) (maxL := 2) (ret := (some .long)) (by decide) rfl ?_
  intro p e s m args below meth c s₁ B hml hv
  obtain ⟨rfl, hP, hK⟩ := hv
  have hx := B.exec
  have hb := B.bytes
  have hr := B.returns
  have hts := atoms_spec (ws := wsX6_total) B.pre
  have hown : s.vm.findClass RX6 = some m.cls := findClass_of_methodNamed B.named
  have hlocks := B.notSynchronized
  have hiX6 : ∀ w ∈ u_ws RX6 TX6 23, w ∈ wsX6_total := by decide +kernel
  have kf59 := hts (.fieldLink RX6 59 "SortingLineModel" "fault" "I") (by decide +kernel)
  have kf106 := hts (.fieldLink RX6 106 "SortingLineModel" "stations" "I") (by decide +kernel)
  have hS : va_S (ad_A g 16) s.heap s.heap [] := va_S.rf
  have hl := lv_entry ([.ref (g 0), .int t]) (n := 2) (Nat.le_of_ble_eq_true rfl)
  rw [lg_entry_eq]
  generalize (lg_sl ([.ref (g 0), .int t]) ++ List.replicate (2 - (lg_sl ([.ref (g 0), .int t])).length) Slot.unset).toArray = ls at hl ⊢
  have hl : lv_has ls 2 [(0, .ref (g 0)), (1, .int t)] := hl
  refine lv_aload_n hx hb dX6_total_0 rfl (lv_at hl 0 rfl) ?_
  refine lv_iconst (v := 0) hx hb dX6_total_1 (by decide) ?_
  refine va_put (D := D) (ci := 6) (v := .int 0) (ty := .int) (C := RX6) (T := TX6) (N := 23) hx hb hts hiX6 tyX6 tyX6_ok nmX6 hown hK.1 hP (mo_D hh) hS 0 rfl rfl 0 (by decide) kf59 (fun _ h9 => h9) rfl (by decide +kernel) rfl rfl (Nat.le_of_ble_eq_true rfl) dX6_total_2 (fun H locs hP _ hS => ?_)
  have hP : va_P D kC (mo_W cI cJ g 0 (nI n) F Wt Sz Nu Pl Bf (nI b) (nI k) G Wk To Sl Sd (nI as) wo pa fa Fo) H := hP
  refine lv_iload_n hx hb dX6_total_5 rfl (lv_at hl 1 rfl) ?_
  refine lv_iconst (v := 0) hx hb dX6_total_6 (by decide) ?_
  refine lv_aload_n hx hb dX6_total_7 rfl (lv_at hl 0 rfl) ?_
  refine va_get (D := D) (ci := 6) (v := .int (nI k)) (C := RX6) (T := TX6) (N := 23) hx hb hts hiX6 hown hK.1 hP 0 rfl rfl 12 (by decide) kf106 (fun _ h9 => h9) rfl dX6_total_8 ?_
  refine lv_iconst (v := 1) hx hb dX6_total_11 (by decide) ?_
  refine lv_isub hx hb dX6_total_12 ?_
  refine pu_callb (va_runS (As := [.int t, .int 0, .int ((nI k) - 1)]) (rest := []) ⟨hx, hb, hml, hown, hts⟩ (c_X6_in t 0 ((nI k) - 1)) (cwS 3 hts gX6_total_X6_in rfl rfl rfl (by decide +kernel) ⟨Nat.le_of_ble_eq_true rfl, Nat.le_of_ble_eq_true rfl⟩) (wd_preS hP hK) rfl rfl hl.1 rfl (lv_room (Nat.le_of_ble_eq_true rfl)) dX6_total_13 ⟨Nat.zero_le _, Nat.zero_le _⟩) (fun h9 => absurd (show q_in _ 0 (nI k - 1) = false from (q_p (by omega)).trans h1) (by rw [h9]; decide)) (fun _ => ?_)
  refine lv_if_eq (tgt := 28) hx hb dX6_total_16 (by decide) (fun _ => ?_) (fun h9 => absurd (by decide) h9)
  refine lv_lconst (v := 0) hx hb dX6_total_28 (by decide) ?_
  exact W.lret (v := 0) hx hb hr (fun t9 ht _ => ⟨congrArg (fun z => Outcome.returned (some (Value.long z))) (rfl), by rw [ht]; exact hP, hS.F ht⟩) hS.2.2 dX6_total_29
set_option maxHeartbeats 4000000 in
set_option maxRecDepth 100000 in
theorem c_X6_total_a (hh : ad_ok g 16) (hk : k ≤ 8) (i : Nat) (hi : i < k) : Met l yX6_total wsX6_total ({ frames := 10, cells := 0, slots := 0, locals := 450 }) (wd_P D cI cJ [.ref (g 0), .int (nI i)] (mo_W cI cJ g fx (nI n) F Wt Sz Nu Pl Bf (nI b) (nI k) G Wk To Sl Sd (nI as) wo pa fa Fo)) (mu_Q D (ad_A g 16) (some (.long (To i))) (mo_W cI cJ g 0 (nI n) F Wt Sz Nu Pl Bf (nI b) (nI k) G Wk To Sl Sd (nI as) wo pa fa Fo)) 0 0 (ad_A g 16) := by
  refine Met.ofW (cc := cX6_total) (maxL := 2) (ret := (some .long)) (by decide) rfl ?_
  intro p e s m args below meth c s₁ B hml hv
  obtain ⟨rfl, hP, hK⟩ := hv
  have hx := B.exec
  have hb := B.bytes
  have hr := B.returns
  have hts := atoms_spec (ws := wsX6_total) B.pre
  have hown : s.vm.findClass RX6 = some m.cls := findClass_of_methodNamed B.named
  have hlocks := B.notSynchronized
  have hiX6 : ∀ w ∈ u_ws RX6 TX6 23, w ∈ wsX6_total := by decide +kernel
  have kf59 := hts (.fieldLink RX6 59 "SortingLineModel" "fault" "I") (by decide +kernel)
  have kf106 := hts (.fieldLink RX6 106 "SortingLineModel" "stations" "I") (by decide +kernel)
  have kf47 := hts (.fieldLink RX6 47 "SortingLineModel" "totals" "[J") (by decide +kernel)
  have hS : va_S (ad_A g 16) s.heap s.heap [] := va_S.rf
  have hl := lv_entry ([.ref (g 0), .int (nI i)]) (n := 2) (Nat.le_of_ble_eq_true rfl)
  rw [lg_entry_eq]
  generalize (lg_sl ([.ref (g 0), .int (nI i)]) ++ List.replicate (2 - (lg_sl ([.ref (g 0), .int (nI i)])).length) Slot.unset).toArray = ls at hl ⊢
  have hl : lv_has ls 2 [(0, .ref (g 0)), (1, .int (nI i))] := hl
  refine lv_aload_n hx hb dX6_total_0 rfl (lv_at hl 0 rfl) ?_
  refine lv_iconst (v := 0) hx hb dX6_total_1 (by decide) ?_
  refine va_put (D := D) (ci := 6) (v := .int 0) (ty := .int) (C := RX6) (T := TX6) (N := 23) hx hb hts hiX6 tyX6 tyX6_ok nmX6 hown hK.1 hP (mo_D hh) hS 0 rfl rfl 0 (by decide) kf59 (fun _ h9 => h9) rfl (by decide +kernel) rfl rfl (Nat.le_of_ble_eq_true rfl) dX6_total_2 (fun H locs hP _ hS => ?_)
  have hP : va_P D kC (mo_W cI cJ g 0 (nI n) F Wt Sz Nu Pl Bf (nI b) (nI k) G Wk To Sl Sd (nI as) wo pa fa Fo) H := hP
  refine lv_iload_n hx hb dX6_total_5 rfl (lv_at hl 1 rfl) ?_
  refine lv_iconst (v := 0) hx hb dX6_total_6 (by decide) ?_
  refine lv_aload_n hx hb dX6_total_7 rfl (lv_at hl 0 rfl) ?_
  refine va_get (D := D) (ci := 6) (v := .int (nI k)) (C := RX6) (T := TX6) (N := 23) hx hb hts hiX6 hown hK.1 hP 0 rfl rfl 12 (by decide) kf106 (fun _ h9 => h9) rfl dX6_total_8 ?_
  refine lv_iconst (v := 1) hx hb dX6_total_11 (by decide) ?_
  refine lv_isub hx hb dX6_total_12 ?_
  refine pu_callb (va_runS (As := [.int (nI i), .int 0, .int ((nI k) - 1)]) (rest := []) ⟨hx, hb, hml, hown, hts⟩ (c_X6_in (nI i) 0 ((nI k) - 1)) (cwS 3 hts gX6_total_X6_in rfl rfl rfl (by decide +kernel) ⟨Nat.le_of_ble_eq_true rfl, Nat.le_of_ble_eq_true rfl⟩) (wd_preS hP hK) rfl rfl hl.1 rfl (lv_room (Nat.le_of_ble_eq_true rfl)) dX6_total_13 ⟨Nat.zero_le _, Nat.zero_le _⟩) (fun _ => ?_) (fun h9 => absurd (show q_in _ 0 (nI k - 1) = true from (q_p (by omega)).trans (p_in_nI hi (by omega))) (by rw [h9]; decide))
  refine lv_if_eq (tgt := 28) hx hb dX6_total_16 (by decide) (fun h9 => absurd h9 (by decide)) (fun _ => ?_)
  refine lv_aload_n hx hb dX6_total_19 rfl (lv_at hl 0 rfl) ?_
  refine va_get (D := D) (ci := 6) (v := .ref (g 12)) (C := RX6) (T := TX6) (N := 23) hx hb hts hiX6 hown hK.1 hP 0 rfl rfl 15 (by decide) kf47 (fun _ h9 => h9) rfl dX6_total_20 ?_
  refine lv_iload_n hx hb dX6_total_23 rfl (lv_at hl 1 rfl) ?_
  refine ga_lld hx hb hK hP 12 rfl i (rfl) (by omega) (by decide) dX6_total_24 ?_
  refine lv_goto (tgt := 29) hx hb dX6_total_25 (by decide) ?_
  exact W.lret (v := To i) hx hb hr (fun t9 ht _ => ⟨congrArg (fun z => Outcome.returned (some (Value.long z))) (rfl), by rw [ht]; exact hP, hS.F ht⟩) hS.2.2 dX6_total_29
set_option maxHeartbeats 4000000 in
set_option maxRecDepth 100000 in
theorem c_X6_slot_u (hh : ad_ok g 16) (hk : k ≤ 8) (t : Int32) (h1 : p_in t (nI k) = false) : Met l yX6_slot wsX6_slot ({ frames := 10, cells := 0, slots := 0, locals := 450 }) (wd_P D cI cJ [.ref (g 0), .int t] (mo_W cI cJ g fx (nI n) F Wt Sz Nu Pl Bf (nI b) (nI k) G Wk To Sl Sd (nI as) wo pa fa Fo)) (mu_Q D (ad_A g 16) (some (.int (-1))) (mo_W cI cJ g 0 (nI n) F Wt Sz Nu Pl Bf (nI b) (nI k) G Wk To Sl Sd (nI as) wo pa fa Fo)) 0 0 (ad_A g 16) := by
  refine Met.ofW (cc := cX6_slot) (maxL := 2) (ret := (some .int)) (by decide) rfl ?_
  intro p e s m args below meth c s₁ B hml hv
  obtain ⟨rfl, hP, hK⟩ := hv
  have hx := B.exec
  have hb := B.bytes
  have hr := B.returns
  have hts := atoms_spec (ws := wsX6_slot) B.pre
  have hown : s.vm.findClass RX6 = some m.cls := findClass_of_methodNamed B.named
  have hlocks := B.notSynchronized
  have hiX6 : ∀ w ∈ u_ws RX6 TX6 23, w ∈ wsX6_slot := by decide +kernel
  have kf59 := hts (.fieldLink RX6 59 "SortingLineModel" "fault" "I") (by decide +kernel)
  have kf106 := hts (.fieldLink RX6 106 "SortingLineModel" "stations" "I") (by decide +kernel)
  have hS : va_S (ad_A g 16) s.heap s.heap [] := va_S.rf
  have hl := lv_entry ([.ref (g 0), .int t]) (n := 2) (Nat.le_of_ble_eq_true rfl)
  rw [lg_entry_eq]
  generalize (lg_sl ([.ref (g 0), .int t]) ++ List.replicate (2 - (lg_sl ([.ref (g 0), .int t])).length) Slot.unset).toArray = ls at hl ⊢
  have hl : lv_has ls 2 [(0, .ref (g 0)), (1, .int t)] := hl
  refine lv_aload_n hx hb dX6_slot_0 rfl (lv_at hl 0 rfl) ?_
  refine lv_iconst (v := 0) hx hb dX6_slot_1 (by decide) ?_
  refine va_put (D := D) (ci := 6) (v := .int 0) (ty := .int) (C := RX6) (T := TX6) (N := 23) hx hb hts hiX6 tyX6 tyX6_ok nmX6 hown hK.1 hP (mo_D hh) hS 0 rfl rfl 0 (by decide) kf59 (fun _ h9 => h9) rfl (by decide +kernel) rfl rfl (Nat.le_of_ble_eq_true rfl) dX6_slot_2 (fun H locs hP _ hS => ?_)
  have hP : va_P D kC (mo_W cI cJ g 0 (nI n) F Wt Sz Nu Pl Bf (nI b) (nI k) G Wk To Sl Sd (nI as) wo pa fa Fo) H := hP
  refine lv_iload_n hx hb dX6_slot_5 rfl (lv_at hl 1 rfl) ?_
  refine lv_iconst (v := 0) hx hb dX6_slot_6 (by decide) ?_
  refine lv_aload_n hx hb dX6_slot_7 rfl (lv_at hl 0 rfl) ?_
  refine va_get (D := D) (ci := 6) (v := .int (nI k)) (C := RX6) (T := TX6) (N := 23) hx hb hts hiX6 hown hK.1 hP 0 rfl rfl 12 (by decide) kf106 (fun _ h9 => h9) rfl dX6_slot_8 ?_
  refine lv_iconst (v := 1) hx hb dX6_slot_11 (by decide) ?_
  refine lv_isub hx hb dX6_slot_12 ?_
  refine pu_callb (va_runS (As := [.int t, .int 0, .int ((nI k) - 1)]) (rest := []) ⟨hx, hb, hml, hown, hts⟩ (c_X6_in t 0 ((nI k) - 1)) (cwS 3 hts gX6_slot_X6_in rfl rfl rfl (by decide +kernel) ⟨Nat.le_of_ble_eq_true rfl, Nat.le_of_ble_eq_true rfl⟩) (wd_preS hP hK) rfl rfl hl.1 rfl (lv_room (Nat.le_of_ble_eq_true rfl)) dX6_slot_13 ⟨Nat.zero_le _, Nat.zero_le _⟩) (fun h9 => absurd (show q_in _ 0 (nI k - 1) = false from (q_p (by omega)).trans h1) (by rw [h9]; decide)) (fun _ => ?_)
  refine lv_if_eq (tgt := 31) hx hb dX6_slot_16 (by decide) (fun _ => ?_) (fun h9 => absurd (by decide) h9)
  refine lv_iconst (v := (-1)) hx hb dX6_slot_31 (by decide) ?_
  exact W.iret (v := (-1)) hx hb hr (fun t9 ht _ => ⟨congrArg (fun z => Outcome.returned (some (Value.int z))) (rfl), by rw [ht]; exact hP, hS.F ht⟩) hS.2.2 dX6_slot_32
set_option maxHeartbeats 4000000 in
set_option maxRecDepth 100000 in
theorem c_X6_slot_a (hh : ad_ok g 16) (hk : k ≤ 8) (i : Nat) (hi : i < k) : Met l yX6_slot wsX6_slot ({ frames := 10, cells := 0, slots := 0, locals := 450 }) (wd_P D cI cJ [.ref (g 0), .int (nI i)] (mo_W cI cJ g fx (nI n) F Wt Sz Nu Pl Bf (nI b) (nI k) G Wk To Sl Sd (nI as) wo pa fa Fo)) (mu_Q D (ad_A g 16) (some (.int (tl (Sl i)))) (mo_W cI cJ g 0 (nI n) F Wt Sz Nu Pl Bf (nI b) (nI k) G Wk To Sl Sd (nI as) wo pa fa Fo)) 0 0 (ad_A g 16) := by
  refine Met.ofW (cc := cX6_slot) (maxL := 2) (ret := (some .int)) (by decide) rfl ?_
  intro p e s m args below meth c s₁ B hml hv
  obtain ⟨rfl, hP, hK⟩ := hv
  have hx := B.exec
  have hb := B.bytes
  have hr := B.returns
  have hts := atoms_spec (ws := wsX6_slot) B.pre
  have hown : s.vm.findClass RX6 = some m.cls := findClass_of_methodNamed B.named
  have hlocks := B.notSynchronized
  have hiX6 : ∀ w ∈ u_ws RX6 TX6 23, w ∈ wsX6_slot := by decide +kernel
  have kf59 := hts (.fieldLink RX6 59 "SortingLineModel" "fault" "I") (by decide +kernel)
  have kf106 := hts (.fieldLink RX6 106 "SortingLineModel" "stations" "I") (by decide +kernel)
  have kf50 := hts (.fieldLink RX6 50 "SortingLineModel" "slots" "[I") (by decide +kernel)
  have hS : va_S (ad_A g 16) s.heap s.heap [] := va_S.rf
  have hl := lv_entry ([.ref (g 0), .int (nI i)]) (n := 2) (Nat.le_of_ble_eq_true rfl)
  rw [lg_entry_eq]
  generalize (lg_sl ([.ref (g 0), .int (nI i)]) ++ List.replicate (2 - (lg_sl ([.ref (g 0), .int (nI i)])).length) Slot.unset).toArray = ls at hl ⊢
  have hl : lv_has ls 2 [(0, .ref (g 0)), (1, .int (nI i))] := hl
  refine lv_aload_n hx hb dX6_slot_0 rfl (lv_at hl 0 rfl) ?_
  refine lv_iconst (v := 0) hx hb dX6_slot_1 (by decide) ?_
  refine va_put (D := D) (ci := 6) (v := .int 0) (ty := .int) (C := RX6) (T := TX6) (N := 23) hx hb hts hiX6 tyX6 tyX6_ok nmX6 hown hK.1 hP (mo_D hh) hS 0 rfl rfl 0 (by decide) kf59 (fun _ h9 => h9) rfl (by decide +kernel) rfl rfl (Nat.le_of_ble_eq_true rfl) dX6_slot_2 (fun H locs hP _ hS => ?_)
  have hP : va_P D kC (mo_W cI cJ g 0 (nI n) F Wt Sz Nu Pl Bf (nI b) (nI k) G Wk To Sl Sd (nI as) wo pa fa Fo) H := hP
  refine lv_iload_n hx hb dX6_slot_5 rfl (lv_at hl 1 rfl) ?_
  refine lv_iconst (v := 0) hx hb dX6_slot_6 (by decide) ?_
  refine lv_aload_n hx hb dX6_slot_7 rfl (lv_at hl 0 rfl) ?_
  refine va_get (D := D) (ci := 6) (v := .int (nI k)) (C := RX6) (T := TX6) (N := 23) hx hb hts hiX6 hown hK.1 hP 0 rfl rfl 12 (by decide) kf106 (fun _ h9 => h9) rfl dX6_slot_8 ?_
  refine lv_iconst (v := 1) hx hb dX6_slot_11 (by decide) ?_
  refine lv_isub hx hb dX6_slot_12 ?_
  refine pu_callb (va_runS (As := [.int (nI i), .int 0, .int ((nI k) - 1)]) (rest := []) ⟨hx, hb, hml, hown, hts⟩ (c_X6_in (nI i) 0 ((nI k) - 1)) (cwS 3 hts gX6_slot_X6_in rfl rfl rfl (by decide +kernel) ⟨Nat.le_of_ble_eq_true rfl, Nat.le_of_ble_eq_true rfl⟩) (wd_preS hP hK) rfl rfl hl.1 rfl (lv_room (Nat.le_of_ble_eq_true rfl)) dX6_slot_13 ⟨Nat.zero_le _, Nat.zero_le _⟩) (fun _ => ?_) (fun h9 => absurd (show q_in _ 0 (nI k - 1) = true from (q_p (by omega)).trans (p_in_nI hi (by omega))) (by rw [h9]; decide))
  refine lv_if_eq (tgt := 31) hx hb dX6_slot_16 (by decide) (fun h9 => absurd h9 (by decide)) (fun _ => ?_)
  refine lv_aload_n hx hb dX6_slot_19 rfl (lv_at hl 0 rfl) ?_
  refine va_get (D := D) (ci := 6) (v := .ref (g 13)) (C := RX6) (T := TX6) (N := 23) hx hb hts hiX6 hown hK.1 hP 0 rfl rfl 16 (by decide) kf50 (fun _ h9 => h9) rfl dX6_slot_20 ?_
  refine lv_iload_n hx hb dX6_slot_23 rfl (lv_at hl 1 rfl) ?_
  refine ga_ild hx hb hK hP 13 rfl i (rfl) (by omega) (by decide) dX6_slot_24 ?_
  refine pu_calli (va_runS (As := [.int (Sl i)]) (rest := []) ⟨hx, hb, hml, hown, hts⟩ (c_X6_told (Sl i)) (cwS 1 hts gX6_slot_X6_told rfl rfl rfl (by decide +kernel) ⟨Nat.le_of_ble_eq_true rfl, Nat.le_of_ble_eq_true rfl⟩) (wd_preS hP hK) rfl rfl hl.1 rfl (lv_room (Nat.le_of_ble_eq_true rfl)) dX6_slot_25 ⟨Nat.zero_le _, Nat.zero_le _⟩) ?_
  refine lv_goto (tgt := 32) hx hb dX6_slot_28 (by decide) ?_
  exact W.iret (v := tl (Sl i)) hx hb hr (fun t9 ht _ => ⟨congrArg (fun z => Outcome.returned (some (Value.int z))) (rfl), by rw [ht]; exact hP, hS.F ht⟩) hS.2.2 dX6_slot_32
set_option maxHeartbeats 4000000 in
set_option maxRecDepth 100000 in
theorem c_X6_belt_n (hh : ad_ok g 16) (hb9 : b ≤ 40) (t : Int32) (h1 : p_in t (nI b) = false) : Met l yX6_belt wsX6_belt ({ frames := 10, cells := 0, slots := 0, locals := 450 }) (wd_P D cI cJ [.ref (g 0), .int t] (mo_W cI cJ g fx (nI n) F Wt Sz Nu Pl Bf (nI b) (nI k) G Wk To Sl Sd (nI as) wo pa fa Fo)) (mu_Q D (ad_A g 16) (some (.int (-5))) (mo_W cI cJ g 0 (nI n) F Wt Sz Nu Pl Bf (nI b) (nI k) G Wk To Sl Sd (nI as) wo pa fa Fo)) 0 0 (ad_A g 16) := by
  refine Met.ofW (cc := cX6_belt) (maxL := 2) (ret := (some .int)) (by decide) rfl ?_
  intro p e s m args below meth c s₁ B hml hv
  obtain ⟨rfl, hP, hK⟩ := hv
  have hx := B.exec
  have hb := B.bytes
  have hr := B.returns
  have hts := atoms_spec (ws := wsX6_belt) B.pre
  have hown : s.vm.findClass RX6 = some m.cls := findClass_of_methodNamed B.named
  have hlocks := B.notSynchronized
  have hiX6 : ∀ w ∈ u_ws RX6 TX6 23, w ∈ wsX6_belt := by decide +kernel
  have kf59 := hts (.fieldLink RX6 59 "SortingLineModel" "fault" "I") (by decide +kernel)
  have kf109 := hts (.fieldLink RX6 109 "SortingLineModel" "onBelt" "I") (by decide +kernel)
  have hS : va_S (ad_A g 16) s.heap s.heap [] := va_S.rf
  have hl := lv_entry ([.ref (g 0), .int t]) (n := 2) (Nat.le_of_ble_eq_true rfl)
  rw [lg_entry_eq]
  generalize (lg_sl ([.ref (g 0), .int t]) ++ List.replicate (2 - (lg_sl ([.ref (g 0), .int t])).length) Slot.unset).toArray = ls at hl ⊢
  have hl : lv_has ls 2 [(0, .ref (g 0)), (1, .int t)] := hl
  refine lv_aload_n hx hb dX6_belt_0 rfl (lv_at hl 0 rfl) ?_
  refine lv_iconst (v := 0) hx hb dX6_belt_1 (by decide) ?_
  refine va_put (D := D) (ci := 6) (v := .int 0) (ty := .int) (C := RX6) (T := TX6) (N := 23) hx hb hts hiX6 tyX6 tyX6_ok nmX6 hown hK.1 hP (mo_D hh) hS 0 rfl rfl 0 (by decide) kf59 (fun _ h9 => h9) rfl (by decide +kernel) rfl rfl (Nat.le_of_ble_eq_true rfl) dX6_belt_2 (fun H locs hP _ hS => ?_)
  have hP : va_P D kC (mo_W cI cJ g 0 (nI n) F Wt Sz Nu Pl Bf (nI b) (nI k) G Wk To Sl Sd (nI as) wo pa fa Fo) H := hP
  refine lv_iload_n hx hb dX6_belt_5 rfl (lv_at hl 1 rfl) ?_
  refine lv_iconst (v := 0) hx hb dX6_belt_6 (by decide) ?_
  refine lv_aload_n hx hb dX6_belt_7 rfl (lv_at hl 0 rfl) ?_
  refine va_get (D := D) (ci := 6) (v := .int (nI b)) (C := RX6) (T := TX6) (N := 23) hx hb hts hiX6 hown hK.1 hP 0 rfl rfl 11 (by decide) kf109 (fun _ h9 => h9) rfl dX6_belt_8 ?_
  refine lv_iconst (v := 1) hx hb dX6_belt_11 (by decide) ?_
  refine lv_isub hx hb dX6_belt_12 ?_
  refine pu_callb (va_runS (As := [.int t, .int 0, .int ((nI b) - 1)]) (rest := []) ⟨hx, hb, hml, hown, hts⟩ (c_X6_in t 0 ((nI b) - 1)) (cwS 3 hts gX6_belt_X6_in rfl rfl rfl (by decide +kernel) ⟨Nat.le_of_ble_eq_true rfl, Nat.le_of_ble_eq_true rfl⟩) (wd_preS hP hK) rfl rfl hl.1 rfl (lv_room (Nat.le_of_ble_eq_true rfl)) dX6_belt_13 ⟨Nat.zero_le _, Nat.zero_le _⟩) (fun h9 => absurd (show q_in _ 0 (nI b - 1) = false from (q_p (by omega)).trans h1) (by rw [h9]; decide)) (fun _ => ?_)
  refine lv_if_eq (tgt := 28) hx hb dX6_belt_16 (by decide) (fun _ => ?_) (fun h9 => absurd (by decide) h9)
  refine lv_bipush (v := (-5)) hx hb dX6_belt_28 (by decide) ?_
  exact W.iret (v := (-5)) hx hb hr (fun t9 ht _ => ⟨congrArg (fun z => Outcome.returned (some (Value.int z))) (rfl), by rw [ht]; exact hP, hS.F ht⟩) hS.2.2 dX6_belt_30
set_option maxHeartbeats 4000000 in
set_option maxRecDepth 100000 in
theorem c_X6_belt_a (hh : ad_ok g 16) (hb9 : b ≤ 40) (i : Nat) (hi : i < b) : Met l yX6_belt wsX6_belt ({ frames := 10, cells := 0, slots := 0, locals := 450 }) (wd_P D cI cJ [.ref (g 0), .int (nI i)] (mo_W cI cJ g fx (nI n) F Wt Sz Nu Pl Bf (nI b) (nI k) G Wk To Sl Sd (nI as) wo pa fa Fo)) (mu_Q D (ad_A g 16) (some (.int (Bf i))) (mo_W cI cJ g 0 (nI n) F Wt Sz Nu Pl Bf (nI b) (nI k) G Wk To Sl Sd (nI as) wo pa fa Fo)) 0 0 (ad_A g 16) := by
  refine Met.ofW (cc := cX6_belt) (maxL := 2) (ret := (some .int)) (by decide) rfl ?_
  intro p e s m args below meth c s₁ B hml hv
  obtain ⟨rfl, hP, hK⟩ := hv
  have hx := B.exec
  have hb := B.bytes
  have hr := B.returns
  have hts := atoms_spec (ws := wsX6_belt) B.pre
  have hown : s.vm.findClass RX6 = some m.cls := findClass_of_methodNamed B.named
  have hlocks := B.notSynchronized
  have hiX6 : ∀ w ∈ u_ws RX6 TX6 23, w ∈ wsX6_belt := by decide +kernel
  have kf59 := hts (.fieldLink RX6 59 "SortingLineModel" "fault" "I") (by decide +kernel)
  have kf109 := hts (.fieldLink RX6 109 "SortingLineModel" "onBelt" "I") (by decide +kernel)
  have kf38 := hts (.fieldLink RX6 38 "SortingLineModel" "belt" "[I") (by decide +kernel)
  have hS : va_S (ad_A g 16) s.heap s.heap [] := va_S.rf
  have hl := lv_entry ([.ref (g 0), .int (nI i)]) (n := 2) (Nat.le_of_ble_eq_true rfl)
  rw [lg_entry_eq]
  generalize (lg_sl ([.ref (g 0), .int (nI i)]) ++ List.replicate (2 - (lg_sl ([.ref (g 0), .int (nI i)])).length) Slot.unset).toArray = ls at hl ⊢
  have hl : lv_has ls 2 [(0, .ref (g 0)), (1, .int (nI i))] := hl
  refine lv_aload_n hx hb dX6_belt_0 rfl (lv_at hl 0 rfl) ?_
  refine lv_iconst (v := 0) hx hb dX6_belt_1 (by decide) ?_
  refine va_put (D := D) (ci := 6) (v := .int 0) (ty := .int) (C := RX6) (T := TX6) (N := 23) hx hb hts hiX6 tyX6 tyX6_ok nmX6 hown hK.1 hP (mo_D hh) hS 0 rfl rfl 0 (by decide) kf59 (fun _ h9 => h9) rfl (by decide +kernel) rfl rfl (Nat.le_of_ble_eq_true rfl) dX6_belt_2 (fun H locs hP _ hS => ?_)
  have hP : va_P D kC (mo_W cI cJ g 0 (nI n) F Wt Sz Nu Pl Bf (nI b) (nI k) G Wk To Sl Sd (nI as) wo pa fa Fo) H := hP
  refine lv_iload_n hx hb dX6_belt_5 rfl (lv_at hl 1 rfl) ?_
  refine lv_iconst (v := 0) hx hb dX6_belt_6 (by decide) ?_
  refine lv_aload_n hx hb dX6_belt_7 rfl (lv_at hl 0 rfl) ?_
  refine va_get (D := D) (ci := 6) (v := .int (nI b)) (C := RX6) (T := TX6) (N := 23) hx hb hts hiX6 hown hK.1 hP 0 rfl rfl 11 (by decide) kf109 (fun _ h9 => h9) rfl dX6_belt_8 ?_
  refine lv_iconst (v := 1) hx hb dX6_belt_11 (by decide) ?_
  refine lv_isub hx hb dX6_belt_12 ?_
  refine pu_callb (va_runS (As := [.int (nI i), .int 0, .int ((nI b) - 1)]) (rest := []) ⟨hx, hb, hml, hown, hts⟩ (c_X6_in (nI i) 0 ((nI b) - 1)) (cwS 3 hts gX6_belt_X6_in rfl rfl rfl (by decide +kernel) ⟨Nat.le_of_ble_eq_true rfl, Nat.le_of_ble_eq_true rfl⟩) (wd_preS hP hK) rfl rfl hl.1 rfl (lv_room (Nat.le_of_ble_eq_true rfl)) dX6_belt_13 ⟨Nat.zero_le _, Nat.zero_le _⟩) (fun _ => ?_) (fun h9 => absurd (show q_in _ 0 (nI b - 1) = true from (q_p (by omega)).trans (p_in_nI hi (by omega))) (by rw [h9]; decide))
  refine lv_if_eq (tgt := 28) hx hb dX6_belt_16 (by decide) (fun h9 => absurd h9 (by decide)) (fun _ => ?_)
  refine lv_aload_n hx hb dX6_belt_19 rfl (lv_at hl 0 rfl) ?_
  refine va_get (D := D) (ci := 6) (v := .ref (g 9)) (C := RX6) (T := TX6) (N := 23) hx hb hts hiX6 hown hK.1 hP 0 rfl rfl 10 (by decide) kf38 (fun _ h9 => h9) rfl dX6_belt_20 ?_
  refine lv_iload_n hx hb dX6_belt_23 rfl (lv_at hl 1 rfl) ?_
  refine ga_ild hx hb hK hP 9 rfl i (rfl) (by omega) (by decide) dX6_belt_24 ?_
  refine lv_goto (tgt := 30) hx hb dX6_belt_25 (by decide) ?_
  exact W.iret (v := Bf i) hx hb hr (fun t9 ht _ => ⟨congrArg (fun z => Outcome.returned (some (Value.int z))) (rfl), by rw [ht]; exact hP, hS.F ht⟩) hS.2.2 dX6_belt_30
set_option maxHeartbeats 4000000 in
set_option maxRecDepth 100000 in
theorem c_X6_side_o (hh : ad_ok g 16) (t wh : Int32) (h1 : q_in wh 0 2 = false) : Met l yX6_side wsX6_side ({ frames := 10, cells := 0, slots := 0, locals := 450 }) (wd_P D cI cJ [.ref (g 0), .int t, .int wh] (mo_W cI cJ g fx (nI n) F Wt Sz Nu Pl Bf (nI b) (nI k) G Wk To Sl Sd (nI as) wo pa fa Fo)) (mu_Q D (ad_A g 16) (some (.int (-2))) (mo_W cI cJ g 0 (nI n) F Wt Sz Nu Pl Bf (nI b) (nI k) G Wk To Sl Sd (nI as) wo pa fa Fo)) 0 0 (ad_A g 16) := by
  refine Met.ofW (cc := cX6_side) (maxL := 3) (ret := (some .int)) (by decide) rfl ?_
  intro p e s m args below meth c s₁ B hml hv
  obtain ⟨rfl, hP, hK⟩ := hv
  have hx := B.exec
  have hb := B.bytes
  have hr := B.returns
  have hts := atoms_spec (ws := wsX6_side) B.pre
  have hown : s.vm.findClass RX6 = some m.cls := findClass_of_methodNamed B.named
  have hlocks := B.notSynchronized
  have hiX6 : ∀ w ∈ u_ws RX6 TX6 23, w ∈ wsX6_side := by decide +kernel
  have kf59 := hts (.fieldLink RX6 59 "SortingLineModel" "fault" "I") (by decide +kernel)
  have hS : va_S (ad_A g 16) s.heap s.heap [] := va_S.rf
  have hl := lv_entry ([.ref (g 0), .int t, .int wh]) (n := 3) (Nat.le_of_ble_eq_true rfl)
  rw [lg_entry_eq]
  generalize (lg_sl ([.ref (g 0), .int t, .int wh]) ++ List.replicate (3 - (lg_sl ([.ref (g 0), .int t, .int wh])).length) Slot.unset).toArray = ls at hl ⊢
  have hl : lv_has ls 3 [(0, .ref (g 0)), (1, .int t), (2, .int wh)] := hl
  refine lv_aload_n hx hb dX6_side_0 rfl (lv_at hl 0 rfl) ?_
  refine lv_iconst (v := 0) hx hb dX6_side_1 (by decide) ?_
  refine va_put (D := D) (ci := 6) (v := .int 0) (ty := .int) (C := RX6) (T := TX6) (N := 23) hx hb hts hiX6 tyX6 tyX6_ok nmX6 hown hK.1 hP (mo_D hh) hS 0 rfl rfl 0 (by decide) kf59 (fun _ h9 => h9) rfl (by decide +kernel) rfl rfl (Nat.le_of_ble_eq_true rfl) dX6_side_2 (fun H locs hP _ hS => ?_)
  have hP : va_P D kC (mo_W cI cJ g 0 (nI n) F Wt Sz Nu Pl Bf (nI b) (nI k) G Wk To Sl Sd (nI as) wo pa fa Fo) H := hP
  refine lv_iload_n hx hb dX6_side_5 rfl (lv_at hl 2 rfl) ?_
  refine lv_iconst (v := 0) hx hb dX6_side_6 (by decide) ?_
  refine lv_iconst (v := 2) hx hb dX6_side_7 (by decide) ?_
  refine pu_callb (va_runS (As := [.int wh, .int 0, .int 2]) (rest := []) ⟨hx, hb, hml, hown, hts⟩ (c_X6_in wh 0 2) (cwS 3 hts gX6_side_X6_in rfl rfl rfl (by decide +kernel) ⟨Nat.le_of_ble_eq_true rfl, Nat.le_of_ble_eq_true rfl⟩) (wd_preS hP hK) rfl rfl hl.1 rfl (lv_room (Nat.le_of_ble_eq_true rfl)) dX6_side_8 ⟨Nat.zero_le _, Nat.zero_le _⟩) (fun h9 => absurd (h1) (by rw [h9]; decide)) (fun _ => ?_)
  refine lv_if_ne (tgt := 19) hx hb dX6_side_11 (by decide) (fun h9 => absurd (by decide) h9) (fun _ => ?_)
  refine lv_bipush (v := (-2)) hx hb dX6_side_14 (by decide) ?_
  refine lv_goto (tgt := 48) hx hb dX6_side_16 (by decide) ?_
  exact W.iret (v := (-2)) hx hb hr (fun t9 ht _ => ⟨congrArg (fun z => Outcome.returned (some (Value.int z))) (rfl), by rw [ht]; exact hP, hS.F ht⟩) hS.2.2 dX6_side_48
set_option maxHeartbeats 4000000 in
set_option maxRecDepth 100000 in
theorem c_X6_side_n (hh : ad_ok g 16) (hs : as ≤ 20) (t wh : Int32) (h2 : q_in wh 0 2 = true) (h1 : p_in t (nI as) = false) : Met l yX6_side wsX6_side ({ frames := 10, cells := 0, slots := 0, locals := 450 }) (wd_P D cI cJ [.ref (g 0), .int t, .int wh] (mo_W cI cJ g fx (nI n) F Wt Sz Nu Pl Bf (nI b) (nI k) G Wk To Sl Sd (nI as) wo pa fa Fo)) (mu_Q D (ad_A g 16) (some (.int (-5))) (mo_W cI cJ g 0 (nI n) F Wt Sz Nu Pl Bf (nI b) (nI k) G Wk To Sl Sd (nI as) wo pa fa Fo)) 0 0 (ad_A g 16) := by
  refine Met.ofW (cc := cX6_side) (maxL := 3) (ret := (some .int)) (by decide) rfl ?_
  intro p e s m args below meth c s₁ B hml hv
  obtain ⟨rfl, hP, hK⟩ := hv
  have hx := B.exec
  have hb := B.bytes
  have hr := B.returns
  have hts := atoms_spec (ws := wsX6_side) B.pre
  have hown : s.vm.findClass RX6 = some m.cls := findClass_of_methodNamed B.named
  have hlocks := B.notSynchronized
  have hiX6 : ∀ w ∈ u_ws RX6 TX6 23, w ∈ wsX6_side := by decide +kernel
  have kf59 := hts (.fieldLink RX6 59 "SortingLineModel" "fault" "I") (by decide +kernel)
  have kf139 := hts (.fieldLink RX6 139 "SortingLineModel" "aside" "I") (by decide +kernel)
  have hS : va_S (ad_A g 16) s.heap s.heap [] := va_S.rf
  have hl := lv_entry ([.ref (g 0), .int t, .int wh]) (n := 3) (Nat.le_of_ble_eq_true rfl)
  rw [lg_entry_eq]
  generalize (lg_sl ([.ref (g 0), .int t, .int wh]) ++ List.replicate (3 - (lg_sl ([.ref (g 0), .int t, .int wh])).length) Slot.unset).toArray = ls at hl ⊢
  have hl : lv_has ls 3 [(0, .ref (g 0)), (1, .int t), (2, .int wh)] := hl
  refine lv_aload_n hx hb dX6_side_0 rfl (lv_at hl 0 rfl) ?_
  refine lv_iconst (v := 0) hx hb dX6_side_1 (by decide) ?_
  refine va_put (D := D) (ci := 6) (v := .int 0) (ty := .int) (C := RX6) (T := TX6) (N := 23) hx hb hts hiX6 tyX6 tyX6_ok nmX6 hown hK.1 hP (mo_D hh) hS 0 rfl rfl 0 (by decide) kf59 (fun _ h9 => h9) rfl (by decide +kernel) rfl rfl (Nat.le_of_ble_eq_true rfl) dX6_side_2 (fun H locs hP _ hS => ?_)
  have hP : va_P D kC (mo_W cI cJ g 0 (nI n) F Wt Sz Nu Pl Bf (nI b) (nI k) G Wk To Sl Sd (nI as) wo pa fa Fo) H := hP
  refine lv_iload_n hx hb dX6_side_5 rfl (lv_at hl 2 rfl) ?_
  refine lv_iconst (v := 0) hx hb dX6_side_6 (by decide) ?_
  refine lv_iconst (v := 2) hx hb dX6_side_7 (by decide) ?_
  refine pu_callb (va_runS (As := [.int wh, .int 0, .int 2]) (rest := []) ⟨hx, hb, hml, hown, hts⟩ (c_X6_in wh 0 2) (cwS 3 hts gX6_side_X6_in rfl rfl rfl (by decide +kernel) ⟨Nat.le_of_ble_eq_true rfl, Nat.le_of_ble_eq_true rfl⟩) (wd_preS hP hK) rfl rfl hl.1 rfl (lv_room (Nat.le_of_ble_eq_true rfl)) dX6_side_8 ⟨Nat.zero_le _, Nat.zero_le _⟩) (fun _ => ?_) (fun h9 => absurd (h2) (by rw [h9]; decide))
  refine lv_if_ne (tgt := 19) hx hb dX6_side_11 (by decide) (fun _ => ?_) (fun h9 => absurd h9 (by decide))
  refine lv_iload_n hx hb dX6_side_19 rfl (lv_at hl 1 rfl) ?_
  refine lv_iconst (v := 0) hx hb dX6_side_20 (by decide) ?_
  refine lv_aload_n hx hb dX6_side_21 rfl (lv_at hl 0 rfl) ?_
  refine va_get (D := D) (ci := 6) (v := .int (nI as)) (C := RX6) (T := TX6) (N := 23) hx hb hts hiX6 hown hK.1 hP 0 rfl rfl 18 (by decide) kf139 (fun _ h9 => h9) rfl dX6_side_22 ?_
  refine lv_iconst (v := 1) hx hb dX6_side_25 (by decide) ?_
  refine lv_isub hx hb dX6_side_26 ?_
  refine pu_callb (va_runS (As := [.int t, .int 0, .int ((nI as) - 1)]) (rest := []) ⟨hx, hb, hml, hown, hts⟩ (c_X6_in t 0 ((nI as) - 1)) (cwS 3 hts gX6_side_X6_in rfl rfl rfl (by decide +kernel) ⟨Nat.le_of_ble_eq_true rfl, Nat.le_of_ble_eq_true rfl⟩) (wd_preS hP hK) rfl rfl hl.1 rfl (lv_room (Nat.le_of_ble_eq_true rfl)) dX6_side_27 ⟨Nat.zero_le _, Nat.zero_le _⟩) (fun h9 => absurd (show q_in _ 0 (nI as - 1) = false from (q_p (by omega)).trans h1) (by rw [h9]; decide)) (fun _ => ?_)
  refine lv_if_eq (tgt := 46) hx hb dX6_side_30 (by decide) (fun _ => ?_) (fun h9 => absurd (by decide) h9)
  refine lv_bipush (v := (-5)) hx hb dX6_side_46 (by decide) ?_
  exact W.iret (v := (-5)) hx hb hr (fun t9 ht _ => ⟨congrArg (fun z => Outcome.returned (some (Value.int z))) (rfl), by rw [ht]; exact hP, hS.F ht⟩) hS.2.2 dX6_side_48
set_option maxHeartbeats 4000000 in
set_option maxRecDepth 100000 in
theorem c_X6_side_a (hh : ad_ok g 16) (hs : as ≤ 20) (i : Nat) (hi : i < as) (w9 : Nat) (hw9 : w9 ≤ 2) : Met l yX6_side wsX6_side ({ frames := 10, cells := 0, slots := 0, locals := 450 }) (wd_P D cI cJ [.ref (g 0), .int (nI i), .int (nI w9)] (mo_W cI cJ g fx (nI n) F Wt Sz Nu Pl Bf (nI b) (nI k) G Wk To Sl Sd (nI as) wo pa fa Fo)) (mu_Q D (ad_A g 16) (some (.int (Sd (3 * i + w9)))) (mo_W cI cJ g 0 (nI n) F Wt Sz Nu Pl Bf (nI b) (nI k) G Wk To Sl Sd (nI as) wo pa fa Fo)) 0 0 (ad_A g 16) := by
  refine Met.ofW (cc := cX6_side) (maxL := 3) (ret := (some .int)) (by decide) rfl ?_
  intro p e s m args below meth c s₁ B hml hv
  obtain ⟨rfl, hP, hK⟩ := hv
  have hx := B.exec
  have hb := B.bytes
  have hr := B.returns
  have hts := atoms_spec (ws := wsX6_side) B.pre
  have hown : s.vm.findClass RX6 = some m.cls := findClass_of_methodNamed B.named
  have hlocks := B.notSynchronized
  have hiX6 : ∀ w ∈ u_ws RX6 TX6 23, w ∈ wsX6_side := by decide +kernel
  have kf59 := hts (.fieldLink RX6 59 "SortingLineModel" "fault" "I") (by decide +kernel)
  have kf139 := hts (.fieldLink RX6 139 "SortingLineModel" "aside" "I") (by decide +kernel)
  have kf53 := hts (.fieldLink RX6 53 "SortingLineModel" "side" "[I") (by decide +kernel)
  have hS : va_S (ad_A g 16) s.heap s.heap [] := va_S.rf
  have hl := lv_entry ([.ref (g 0), .int (nI i), .int (nI w9)]) (n := 3) (Nat.le_of_ble_eq_true rfl)
  rw [lg_entry_eq]
  generalize (lg_sl ([.ref (g 0), .int (nI i), .int (nI w9)]) ++ List.replicate (3 - (lg_sl ([.ref (g 0), .int (nI i), .int (nI w9)])).length) Slot.unset).toArray = ls at hl ⊢
  have hl : lv_has ls 3 [(0, .ref (g 0)), (1, .int (nI i)), (2, .int (nI w9))] := hl
  refine lv_aload_n hx hb dX6_side_0 rfl (lv_at hl 0 rfl) ?_
  refine lv_iconst (v := 0) hx hb dX6_side_1 (by decide) ?_
  refine va_put (D := D) (ci := 6) (v := .int 0) (ty := .int) (C := RX6) (T := TX6) (N := 23) hx hb hts hiX6 tyX6 tyX6_ok nmX6 hown hK.1 hP (mo_D hh) hS 0 rfl rfl 0 (by decide) kf59 (fun _ h9 => h9) rfl (by decide +kernel) rfl rfl (Nat.le_of_ble_eq_true rfl) dX6_side_2 (fun H locs hP _ hS => ?_)
  have hP : va_P D kC (mo_W cI cJ g 0 (nI n) F Wt Sz Nu Pl Bf (nI b) (nI k) G Wk To Sl Sd (nI as) wo pa fa Fo) H := hP
  refine lv_iload_n hx hb dX6_side_5 rfl (lv_at hl 2 rfl) ?_
  refine lv_iconst (v := 0) hx hb dX6_side_6 (by decide) ?_
  refine lv_iconst (v := 2) hx hb dX6_side_7 (by decide) ?_
  refine pu_callb (va_runS (As := [.int (nI w9), .int 0, .int 2]) (rest := []) ⟨hx, hb, hml, hown, hts⟩ (c_X6_in (nI w9) 0 2) (cwS 3 hts gX6_side_X6_in rfl rfl rfl (by decide +kernel) ⟨Nat.le_of_ble_eq_true rfl, Nat.le_of_ble_eq_true rfl⟩) (wd_preS hP hK) rfl rfl hl.1 rfl (lv_room (Nat.le_of_ble_eq_true rfl)) dX6_side_8 ⟨Nat.zero_le _, Nat.zero_le _⟩) (fun _ => ?_) (fun h9 => absurd (show q_in (nI w9) 0 2 = true from q_ok (nI_pos (by omega)) (nI_le (b := 2) hw9 (by omega))) (by rw [h9]; decide))
  refine lv_if_ne (tgt := 19) hx hb dX6_side_11 (by decide) (fun _ => ?_) (fun h9 => absurd h9 (by decide))
  refine lv_iload_n hx hb dX6_side_19 rfl (lv_at hl 1 rfl) ?_
  refine lv_iconst (v := 0) hx hb dX6_side_20 (by decide) ?_
  refine lv_aload_n hx hb dX6_side_21 rfl (lv_at hl 0 rfl) ?_
  refine va_get (D := D) (ci := 6) (v := .int (nI as)) (C := RX6) (T := TX6) (N := 23) hx hb hts hiX6 hown hK.1 hP 0 rfl rfl 18 (by decide) kf139 (fun _ h9 => h9) rfl dX6_side_22 ?_
  refine lv_iconst (v := 1) hx hb dX6_side_25 (by decide) ?_
  refine lv_isub hx hb dX6_side_26 ?_
  refine pu_callb (va_runS (As := [.int (nI i), .int 0, .int ((nI as) - 1)]) (rest := []) ⟨hx, hb, hml, hown, hts⟩ (c_X6_in (nI i) 0 ((nI as) - 1)) (cwS 3 hts gX6_side_X6_in rfl rfl rfl (by decide +kernel) ⟨Nat.le_of_ble_eq_true rfl, Nat.le_of_ble_eq_true rfl⟩) (wd_preS hP hK) rfl rfl hl.1 rfl (lv_room (Nat.le_of_ble_eq_true rfl)) dX6_side_27 ⟨Nat.zero_le _, Nat.zero_le _⟩) (fun _ => ?_) (fun h9 => absurd (show q_in _ 0 (nI as - 1) = true from (q_p (by omega)).trans (p_in_nI hi (by omega))) (by rw [h9]; decide))
  refine lv_if_eq (tgt := 46) hx hb dX6_side_30 (by decide) (fun h9 => absurd h9 (by decide)) (fun _ => ?_)
  refine lv_aload_n hx hb dX6_side_33 rfl (lv_at hl 0 rfl) ?_
  refine va_get (D := D) (ci := 6) (v := .ref (g 14)) (C := RX6) (T := TX6) (N := 23) hx hb hts hiX6 hown hK.1 hP 0 rfl rfl 17 (by decide) kf53 (fun _ h9 => h9) rfl dX6_side_34 ?_
  refine lv_iconst (v := 3) hx hb dX6_side_37 (by decide) ?_
  refine lv_iload_n hx hb dX6_side_38 rfl (lv_at hl 1 rfl) ?_
  refine lv_imul hx hb dX6_side_39 ?_
  refine tp_i (y := nI (3 * i)) (pk_mul 3 i) ?_
  refine lv_iload_n hx hb dX6_side_40 rfl (lv_at hl 2 rfl) ?_
  refine lv_iadd hx hb dX6_side_41 ?_
  refine tp_i (y := nI ((3 * i) + w9)) (nI_add (3 * i) w9) ?_
  refine ga_ild hx hb hK hP 14 rfl ((3 * i) + w9) (rfl) (by omega) (by decide) dX6_side_42 ?_
  refine lv_goto (tgt := 48) hx hb dX6_side_43 (by decide) ?_
  exact W.iret (v := Sd ((3 * i) + w9)) hx hb hr (fun t9 ht _ => ⟨congrArg (fun z => Outcome.returned (some (Value.int z))) (rfl), by rw [ht]; exact hP, hS.F ht⟩) hS.2.2 dX6_side_48
set_option maxHeartbeats 4000000 in
set_option maxRecDepth 100000 in
theorem c_X6_count_0 (hh : ad_ok g 16)  : Met l yX6_count wsX6_count ({ frames := 10, cells := 0, slots := 0, locals := 450 }) (wd_P D cI cJ [.ref (g 0), .int 0] (mo_W cI cJ g fx (nI n) F Wt Sz Nu Pl Bf (nI b) (nI k) G Wk To Sl Sd (nI as) wo pa fa Fo)) (mu_Q D (ad_A g 16) (some (.int (nI n))) (mo_W cI cJ g 0 (nI n) F Wt Sz Nu Pl Bf (nI b) (nI k) G Wk To Sl Sd (nI as) wo pa fa Fo)) 0 0 (ad_A g 16) := by
  refine Met.ofW (cc := cX6_count) (maxL := 2) (ret := (some .int)) (by decide) rfl ?_
  intro p e s m args below meth c s₁ B hml hv
  obtain ⟨rfl, hP, hK⟩ := hv
  have hx := B.exec
  have hb := B.bytes
  have hr := B.returns
  have hts := atoms_spec (ws := wsX6_count) B.pre
  have hown : s.vm.findClass RX6 = some m.cls := findClass_of_methodNamed B.named
  have hlocks := B.notSynchronized
  have hiX6 : ∀ w ∈ u_ws RX6 TX6 23, w ∈ wsX6_count := by decide +kernel
  have kf59 := hts (.fieldLink RX6 59 "SortingLineModel" "fault" "I") (by decide +kernel)
  have kf63 := hts (.fieldLink RX6 63 "SortingLineModel" "things" "I") (by decide +kernel)
  have hS : va_S (ad_A g 16) s.heap s.heap [] := va_S.rf
  have hl := lv_entry ([.ref (g 0), .int 0]) (n := 2) (Nat.le_of_ble_eq_true rfl)
  rw [lg_entry_eq]
  generalize (lg_sl ([.ref (g 0), .int 0]) ++ List.replicate (2 - (lg_sl ([.ref (g 0), .int 0])).length) Slot.unset).toArray = ls at hl ⊢
  have hl : lv_has ls 2 [(0, .ref (g 0)), (1, .int 0)] := hl
  refine lv_aload_n hx hb dX6_count_0 rfl (lv_at hl 0 rfl) ?_
  refine lv_iconst (v := 0) hx hb dX6_count_1 (by decide) ?_
  refine va_put (D := D) (ci := 6) (v := .int 0) (ty := .int) (C := RX6) (T := TX6) (N := 23) hx hb hts hiX6 tyX6 tyX6_ok nmX6 hown hK.1 hP (mo_D hh) hS 0 rfl rfl 0 (by decide) kf59 (fun _ h9 => h9) rfl (by decide +kernel) rfl rfl (Nat.le_of_ble_eq_true rfl) dX6_count_2 (fun H locs hP _ hS => ?_)
  have hP : va_P D kC (mo_W cI cJ g 0 (nI n) F Wt Sz Nu Pl Bf (nI b) (nI k) G Wk To Sl Sd (nI as) wo pa fa Fo) H := hP
  refine lv_iload_n hx hb dX6_count_5 rfl (lv_at hl 1 rfl) ?_
  refine lv_tableIn (off := 38) (tgt := 44) hx hb dX6_count_6 (by decide) (by decide) (by decide) (by decide) ?_
  refine lv_aload_n hx hb dX6_count_44 rfl (lv_at hl 0 rfl) ?_
  refine va_get (D := D) (ci := 6) (v := .int (nI n)) (C := RX6) (T := TX6) (N := 23) hx hb hts hiX6 hown hK.1 hP 0 rfl rfl 1 (by decide) kf63 (fun _ h9 => h9) rfl dX6_count_45 ?_
  exact W.iret (v := nI n) hx hb hr (fun t9 ht _ => ⟨congrArg (fun z => Outcome.returned (some (Value.int z))) (rfl), by rw [ht]; exact hP, hS.F ht⟩) hS.2.2 dX6_count_48
set_option maxHeartbeats 4000000 in
set_option maxRecDepth 100000 in
theorem c_X6_count_1 (hh : ad_ok g 16)  : Met l yX6_count wsX6_count ({ frames := 10, cells := 0, slots := 0, locals := 450 }) (wd_P D cI cJ [.ref (g 0), .int 1] (mo_W cI cJ g fx (nI n) F Wt Sz Nu Pl Bf (nI b) (nI k) G Wk To Sl Sd (nI as) wo pa fa Fo)) (mu_Q D (ad_A g 16) (some (.int (nI k))) (mo_W cI cJ g 0 (nI n) F Wt Sz Nu Pl Bf (nI b) (nI k) G Wk To Sl Sd (nI as) wo pa fa Fo)) 0 0 (ad_A g 16) := by
  refine Met.ofW (cc := cX6_count) (maxL := 2) (ret := (some .int)) (by decide) rfl ?_
  intro p e s m args below meth c s₁ B hml hv
  obtain ⟨rfl, hP, hK⟩ := hv
  have hx := B.exec
  have hb := B.bytes
  have hr := B.returns
  have hts := atoms_spec (ws := wsX6_count) B.pre
  have hown : s.vm.findClass RX6 = some m.cls := findClass_of_methodNamed B.named
  have hlocks := B.notSynchronized
  have hiX6 : ∀ w ∈ u_ws RX6 TX6 23, w ∈ wsX6_count := by decide +kernel
  have kf59 := hts (.fieldLink RX6 59 "SortingLineModel" "fault" "I") (by decide +kernel)
  have kf106 := hts (.fieldLink RX6 106 "SortingLineModel" "stations" "I") (by decide +kernel)
  have hS : va_S (ad_A g 16) s.heap s.heap [] := va_S.rf
  have hl := lv_entry ([.ref (g 0), .int 1]) (n := 2) (Nat.le_of_ble_eq_true rfl)
  rw [lg_entry_eq]
  generalize (lg_sl ([.ref (g 0), .int 1]) ++ List.replicate (2 - (lg_sl ([.ref (g 0), .int 1])).length) Slot.unset).toArray = ls at hl ⊢
  have hl : lv_has ls 2 [(0, .ref (g 0)), (1, .int 1)] := hl
  refine lv_aload_n hx hb dX6_count_0 rfl (lv_at hl 0 rfl) ?_
  refine lv_iconst (v := 0) hx hb dX6_count_1 (by decide) ?_
  refine va_put (D := D) (ci := 6) (v := .int 0) (ty := .int) (C := RX6) (T := TX6) (N := 23) hx hb hts hiX6 tyX6 tyX6_ok nmX6 hown hK.1 hP (mo_D hh) hS 0 rfl rfl 0 (by decide) kf59 (fun _ h9 => h9) rfl (by decide +kernel) rfl rfl (Nat.le_of_ble_eq_true rfl) dX6_count_2 (fun H locs hP _ hS => ?_)
  have hP : va_P D kC (mo_W cI cJ g 0 (nI n) F Wt Sz Nu Pl Bf (nI b) (nI k) G Wk To Sl Sd (nI as) wo pa fa Fo) H := hP
  refine lv_iload_n hx hb dX6_count_5 rfl (lv_at hl 1 rfl) ?_
  refine lv_tableIn (off := 43) (tgt := 49) hx hb dX6_count_6 (by decide) (by decide) (by decide) (by decide) ?_
  refine lv_aload_n hx hb dX6_count_49 rfl (lv_at hl 0 rfl) ?_
  refine va_get (D := D) (ci := 6) (v := .int (nI k)) (C := RX6) (T := TX6) (N := 23) hx hb hts hiX6 hown hK.1 hP 0 rfl rfl 12 (by decide) kf106 (fun _ h9 => h9) rfl dX6_count_50 ?_
  exact W.iret (v := nI k) hx hb hr (fun t9 ht _ => ⟨congrArg (fun z => Outcome.returned (some (Value.int z))) (rfl), by rw [ht]; exact hP, hS.F ht⟩) hS.2.2 dX6_count_53
set_option maxHeartbeats 4000000 in
set_option maxRecDepth 100000 in
theorem c_X6_count_2 (hh : ad_ok g 16)  : Met l yX6_count wsX6_count ({ frames := 10, cells := 0, slots := 0, locals := 450 }) (wd_P D cI cJ [.ref (g 0), .int 2] (mo_W cI cJ g fx (nI n) F Wt Sz Nu Pl Bf (nI b) (nI k) G Wk To Sl Sd (nI as) wo pa fa Fo)) (mu_Q D (ad_A g 16) (some (.int (nI b))) (mo_W cI cJ g 0 (nI n) F Wt Sz Nu Pl Bf (nI b) (nI k) G Wk To Sl Sd (nI as) wo pa fa Fo)) 0 0 (ad_A g 16) := by
  refine Met.ofW (cc := cX6_count) (maxL := 2) (ret := (some .int)) (by decide) rfl ?_
  intro p e s m args below meth c s₁ B hml hv
  obtain ⟨rfl, hP, hK⟩ := hv
  have hx := B.exec
  have hb := B.bytes
  have hr := B.returns
  have hts := atoms_spec (ws := wsX6_count) B.pre
  have hown : s.vm.findClass RX6 = some m.cls := findClass_of_methodNamed B.named
  have hlocks := B.notSynchronized
  have hiX6 : ∀ w ∈ u_ws RX6 TX6 23, w ∈ wsX6_count := by decide +kernel
  have kf59 := hts (.fieldLink RX6 59 "SortingLineModel" "fault" "I") (by decide +kernel)
  have kf109 := hts (.fieldLink RX6 109 "SortingLineModel" "onBelt" "I") (by decide +kernel)
  have hS : va_S (ad_A g 16) s.heap s.heap [] := va_S.rf
  have hl := lv_entry ([.ref (g 0), .int 2]) (n := 2) (Nat.le_of_ble_eq_true rfl)
  rw [lg_entry_eq]
  generalize (lg_sl ([.ref (g 0), .int 2]) ++ List.replicate (2 - (lg_sl ([.ref (g 0), .int 2])).length) Slot.unset).toArray = ls at hl ⊢
  have hl : lv_has ls 2 [(0, .ref (g 0)), (1, .int 2)] := hl
  refine lv_aload_n hx hb dX6_count_0 rfl (lv_at hl 0 rfl) ?_
  refine lv_iconst (v := 0) hx hb dX6_count_1 (by decide) ?_
  refine va_put (D := D) (ci := 6) (v := .int 0) (ty := .int) (C := RX6) (T := TX6) (N := 23) hx hb hts hiX6 tyX6 tyX6_ok nmX6 hown hK.1 hP (mo_D hh) hS 0 rfl rfl 0 (by decide) kf59 (fun _ h9 => h9) rfl (by decide +kernel) rfl rfl (Nat.le_of_ble_eq_true rfl) dX6_count_2 (fun H locs hP _ hS => ?_)
  have hP : va_P D kC (mo_W cI cJ g 0 (nI n) F Wt Sz Nu Pl Bf (nI b) (nI k) G Wk To Sl Sd (nI as) wo pa fa Fo) H := hP
  refine lv_iload_n hx hb dX6_count_5 rfl (lv_at hl 1 rfl) ?_
  refine lv_tableIn (off := 48) (tgt := 54) hx hb dX6_count_6 (by decide) (by decide) (by decide) (by decide) ?_
  refine lv_aload_n hx hb dX6_count_54 rfl (lv_at hl 0 rfl) ?_
  refine va_get (D := D) (ci := 6) (v := .int (nI b)) (C := RX6) (T := TX6) (N := 23) hx hb hts hiX6 hown hK.1 hP 0 rfl rfl 11 (by decide) kf109 (fun _ h9 => h9) rfl dX6_count_55 ?_
  exact W.iret (v := nI b) hx hb hr (fun t9 ht _ => ⟨congrArg (fun z => Outcome.returned (some (Value.int z))) (rfl), by rw [ht]; exact hP, hS.F ht⟩) hS.2.2 dX6_count_58
set_option maxHeartbeats 4000000 in
set_option maxRecDepth 100000 in
theorem c_X6_count_3 (hh : ad_ok g 16)  : Met l yX6_count wsX6_count ({ frames := 10, cells := 0, slots := 0, locals := 450 }) (wd_P D cI cJ [.ref (g 0), .int 3] (mo_W cI cJ g fx (nI n) F Wt Sz Nu Pl Bf (nI b) (nI k) G Wk To Sl Sd (nI as) wo pa fa Fo)) (mu_Q D (ad_A g 16) (some (.int wo)) (mo_W cI cJ g 0 (nI n) F Wt Sz Nu Pl Bf (nI b) (nI k) G Wk To Sl Sd (nI as) wo pa fa Fo)) 0 0 (ad_A g 16) := by
  refine Met.ofW (cc := cX6_count) (maxL := 2) (ret := (some .int)) (by decide) rfl ?_
  intro p e s m args below meth c s₁ B hml hv
  obtain ⟨rfl, hP, hK⟩ := hv
  have hx := B.exec
  have hb := B.bytes
  have hr := B.returns
  have hts := atoms_spec (ws := wsX6_count) B.pre
  have hown : s.vm.findClass RX6 = some m.cls := findClass_of_methodNamed B.named
  have hlocks := B.notSynchronized
  have hiX6 : ∀ w ∈ u_ws RX6 TX6 23, w ∈ wsX6_count := by decide +kernel
  have kf59 := hts (.fieldLink RX6 59 "SortingLineModel" "fault" "I") (by decide +kernel)
  have kf147 := hts (.fieldLink RX6 147 "SortingLineModel" "worked" "I") (by decide +kernel)
  have hS : va_S (ad_A g 16) s.heap s.heap [] := va_S.rf
  have hl := lv_entry ([.ref (g 0), .int 3]) (n := 2) (Nat.le_of_ble_eq_true rfl)
  rw [lg_entry_eq]
  generalize (lg_sl ([.ref (g 0), .int 3]) ++ List.replicate (2 - (lg_sl ([.ref (g 0), .int 3])).length) Slot.unset).toArray = ls at hl ⊢
  have hl : lv_has ls 2 [(0, .ref (g 0)), (1, .int 3)] := hl
  refine lv_aload_n hx hb dX6_count_0 rfl (lv_at hl 0 rfl) ?_
  refine lv_iconst (v := 0) hx hb dX6_count_1 (by decide) ?_
  refine va_put (D := D) (ci := 6) (v := .int 0) (ty := .int) (C := RX6) (T := TX6) (N := 23) hx hb hts hiX6 tyX6 tyX6_ok nmX6 hown hK.1 hP (mo_D hh) hS 0 rfl rfl 0 (by decide) kf59 (fun _ h9 => h9) rfl (by decide +kernel) rfl rfl (Nat.le_of_ble_eq_true rfl) dX6_count_2 (fun H locs hP _ hS => ?_)
  have hP : va_P D kC (mo_W cI cJ g 0 (nI n) F Wt Sz Nu Pl Bf (nI b) (nI k) G Wk To Sl Sd (nI as) wo pa fa Fo) H := hP
  refine lv_iload_n hx hb dX6_count_5 rfl (lv_at hl 1 rfl) ?_
  refine lv_tableIn (off := 53) (tgt := 59) hx hb dX6_count_6 (by decide) (by decide) (by decide) (by decide) ?_
  refine lv_aload_n hx hb dX6_count_59 rfl (lv_at hl 0 rfl) ?_
  refine va_get (D := D) (ci := 6) (v := .int wo) (C := RX6) (T := TX6) (N := 23) hx hb hts hiX6 hown hK.1 hP 0 rfl rfl 19 (by decide) kf147 (fun _ h9 => h9) rfl dX6_count_60 ?_
  exact W.iret (v := wo) hx hb hr (fun t9 ht _ => ⟨congrArg (fun z => Outcome.returned (some (Value.int z))) (rfl), by rw [ht]; exact hP, hS.F ht⟩) hS.2.2 dX6_count_63
set_option maxHeartbeats 4000000 in
set_option maxRecDepth 100000 in
theorem c_X6_count_4 (hh : ad_ok g 16)  : Met l yX6_count wsX6_count ({ frames := 10, cells := 0, slots := 0, locals := 450 }) (wd_P D cI cJ [.ref (g 0), .int 4] (mo_W cI cJ g fx (nI n) F Wt Sz Nu Pl Bf (nI b) (nI k) G Wk To Sl Sd (nI as) wo pa fa Fo)) (mu_Q D (ad_A g 16) (some (.int pa)) (mo_W cI cJ g 0 (nI n) F Wt Sz Nu Pl Bf (nI b) (nI k) G Wk To Sl Sd (nI as) wo pa fa Fo)) 0 0 (ad_A g 16) := by
  refine Met.ofW (cc := cX6_count) (maxL := 2) (ret := (some .int)) (by decide) rfl ?_
  intro p e s m args below meth c s₁ B hml hv
  obtain ⟨rfl, hP, hK⟩ := hv
  have hx := B.exec
  have hb := B.bytes
  have hr := B.returns
  have hts := atoms_spec (ws := wsX6_count) B.pre
  have hown : s.vm.findClass RX6 = some m.cls := findClass_of_methodNamed B.named
  have hlocks := B.notSynchronized
  have hiX6 : ∀ w ∈ u_ws RX6 TX6 23, w ∈ wsX6_count := by decide +kernel
  have kf59 := hts (.fieldLink RX6 59 "SortingLineModel" "fault" "I") (by decide +kernel)
  have kf142 := hts (.fieldLink RX6 142 "SortingLineModel" "passed" "I") (by decide +kernel)
  have hS : va_S (ad_A g 16) s.heap s.heap [] := va_S.rf
  have hl := lv_entry ([.ref (g 0), .int 4]) (n := 2) (Nat.le_of_ble_eq_true rfl)
  rw [lg_entry_eq]
  generalize (lg_sl ([.ref (g 0), .int 4]) ++ List.replicate (2 - (lg_sl ([.ref (g 0), .int 4])).length) Slot.unset).toArray = ls at hl ⊢
  have hl : lv_has ls 2 [(0, .ref (g 0)), (1, .int 4)] := hl
  refine lv_aload_n hx hb dX6_count_0 rfl (lv_at hl 0 rfl) ?_
  refine lv_iconst (v := 0) hx hb dX6_count_1 (by decide) ?_
  refine va_put (D := D) (ci := 6) (v := .int 0) (ty := .int) (C := RX6) (T := TX6) (N := 23) hx hb hts hiX6 tyX6 tyX6_ok nmX6 hown hK.1 hP (mo_D hh) hS 0 rfl rfl 0 (by decide) kf59 (fun _ h9 => h9) rfl (by decide +kernel) rfl rfl (Nat.le_of_ble_eq_true rfl) dX6_count_2 (fun H locs hP _ hS => ?_)
  have hP : va_P D kC (mo_W cI cJ g 0 (nI n) F Wt Sz Nu Pl Bf (nI b) (nI k) G Wk To Sl Sd (nI as) wo pa fa Fo) H := hP
  refine lv_iload_n hx hb dX6_count_5 rfl (lv_at hl 1 rfl) ?_
  refine lv_tableIn (off := 58) (tgt := 64) hx hb dX6_count_6 (by decide) (by decide) (by decide) (by decide) ?_
  refine lv_aload_n hx hb dX6_count_64 rfl (lv_at hl 0 rfl) ?_
  refine va_get (D := D) (ci := 6) (v := .int pa) (C := RX6) (T := TX6) (N := 23) hx hb hts hiX6 hown hK.1 hP 0 rfl rfl 20 (by decide) kf142 (fun _ h9 => h9) rfl dX6_count_65 ?_
  exact W.iret (v := pa) hx hb hr (fun t9 ht _ => ⟨congrArg (fun z => Outcome.returned (some (Value.int z))) (rfl), by rw [ht]; exact hP, hS.F ht⟩) hS.2.2 dX6_count_68
set_option maxHeartbeats 4000000 in
set_option maxRecDepth 100000 in
theorem c_X6_count_5 (hh : ad_ok g 16)  : Met l yX6_count wsX6_count ({ frames := 10, cells := 0, slots := 0, locals := 450 }) (wd_P D cI cJ [.ref (g 0), .int 5] (mo_W cI cJ g fx (nI n) F Wt Sz Nu Pl Bf (nI b) (nI k) G Wk To Sl Sd (nI as) wo pa fa Fo)) (mu_Q D (ad_A g 16) (some (.int fa)) (mo_W cI cJ g 0 (nI n) F Wt Sz Nu Pl Bf (nI b) (nI k) G Wk To Sl Sd (nI as) wo pa fa Fo)) 0 0 (ad_A g 16) := by
  refine Met.ofW (cc := cX6_count) (maxL := 2) (ret := (some .int)) (by decide) rfl ?_
  intro p e s m args below meth c s₁ B hml hv
  obtain ⟨rfl, hP, hK⟩ := hv
  have hx := B.exec
  have hb := B.bytes
  have hr := B.returns
  have hts := atoms_spec (ws := wsX6_count) B.pre
  have hown : s.vm.findClass RX6 = some m.cls := findClass_of_methodNamed B.named
  have hlocks := B.notSynchronized
  have hiX6 : ∀ w ∈ u_ws RX6 TX6 23, w ∈ wsX6_count := by decide +kernel
  have kf59 := hts (.fieldLink RX6 59 "SortingLineModel" "fault" "I") (by decide +kernel)
  have kf150 := hts (.fieldLink RX6 150 "SortingLineModel" "failed" "I") (by decide +kernel)
  have hS : va_S (ad_A g 16) s.heap s.heap [] := va_S.rf
  have hl := lv_entry ([.ref (g 0), .int 5]) (n := 2) (Nat.le_of_ble_eq_true rfl)
  rw [lg_entry_eq]
  generalize (lg_sl ([.ref (g 0), .int 5]) ++ List.replicate (2 - (lg_sl ([.ref (g 0), .int 5])).length) Slot.unset).toArray = ls at hl ⊢
  have hl : lv_has ls 2 [(0, .ref (g 0)), (1, .int 5)] := hl
  refine lv_aload_n hx hb dX6_count_0 rfl (lv_at hl 0 rfl) ?_
  refine lv_iconst (v := 0) hx hb dX6_count_1 (by decide) ?_
  refine va_put (D := D) (ci := 6) (v := .int 0) (ty := .int) (C := RX6) (T := TX6) (N := 23) hx hb hts hiX6 tyX6 tyX6_ok nmX6 hown hK.1 hP (mo_D hh) hS 0 rfl rfl 0 (by decide) kf59 (fun _ h9 => h9) rfl (by decide +kernel) rfl rfl (Nat.le_of_ble_eq_true rfl) dX6_count_2 (fun H locs hP _ hS => ?_)
  have hP : va_P D kC (mo_W cI cJ g 0 (nI n) F Wt Sz Nu Pl Bf (nI b) (nI k) G Wk To Sl Sd (nI as) wo pa fa Fo) H := hP
  refine lv_iload_n hx hb dX6_count_5 rfl (lv_at hl 1 rfl) ?_
  refine lv_tableIn (off := 63) (tgt := 69) hx hb dX6_count_6 (by decide) (by decide) (by decide) (by decide) ?_
  refine lv_aload_n hx hb dX6_count_69 rfl (lv_at hl 0 rfl) ?_
  refine va_get (D := D) (ci := 6) (v := .int fa) (C := RX6) (T := TX6) (N := 23) hx hb hts hiX6 hown hK.1 hP 0 rfl rfl 21 (by decide) kf150 (fun _ h9 => h9) rfl dX6_count_70 ?_
  exact W.iret (v := fa) hx hb hr (fun t9 ht _ => ⟨congrArg (fun z => Outcome.returned (some (Value.int z))) (rfl), by rw [ht]; exact hP, hS.F ht⟩) hS.2.2 dX6_count_73
set_option maxHeartbeats 4000000 in
set_option maxRecDepth 100000 in
theorem c_X6_count_6 (hh : ad_ok g 16)  : Met l yX6_count wsX6_count ({ frames := 10, cells := 0, slots := 0, locals := 450 }) (wd_P D cI cJ [.ref (g 0), .int 6] (mo_W cI cJ g fx (nI n) F Wt Sz Nu Pl Bf (nI b) (nI k) G Wk To Sl Sd (nI as) wo pa fa Fo)) (mu_Q D (ad_A g 16) (some (.int (Fo 1))) (mo_W cI cJ g 0 (nI n) F Wt Sz Nu Pl Bf (nI b) (nI k) G Wk To Sl Sd (nI as) wo pa fa Fo)) 0 0 (ad_A g 16) := by
  refine Met.ofW (cc := cX6_count) (maxL := 2) (ret := (some .int)) (by decide) rfl ?_
  intro p e s m args below meth c s₁ B hml hv
  obtain ⟨rfl, hP, hK⟩ := hv
  have hx := B.exec
  have hb := B.bytes
  have hr := B.returns
  have hts := atoms_spec (ws := wsX6_count) B.pre
  have hown : s.vm.findClass RX6 = some m.cls := findClass_of_methodNamed B.named
  have hlocks := B.notSynchronized
  have hiX6 : ∀ w ∈ u_ws RX6 TX6 23, w ∈ wsX6_count := by decide +kernel
  have kf59 := hts (.fieldLink RX6 59 "SortingLineModel" "fault" "I") (by decide +kernel)
  have kf56 := hts (.fieldLink RX6 56 "SortingLineModel" "findings" "[I") (by decide +kernel)
  have hS : va_S (ad_A g 16) s.heap s.heap [] := va_S.rf
  have hl := lv_entry ([.ref (g 0), .int 6]) (n := 2) (Nat.le_of_ble_eq_true rfl)
  rw [lg_entry_eq]
  generalize (lg_sl ([.ref (g 0), .int 6]) ++ List.replicate (2 - (lg_sl ([.ref (g 0), .int 6])).length) Slot.unset).toArray = ls at hl ⊢
  have hl : lv_has ls 2 [(0, .ref (g 0)), (1, .int 6)] := hl
  refine lv_aload_n hx hb dX6_count_0 rfl (lv_at hl 0 rfl) ?_
  refine lv_iconst (v := 0) hx hb dX6_count_1 (by decide) ?_
  refine va_put (D := D) (ci := 6) (v := .int 0) (ty := .int) (C := RX6) (T := TX6) (N := 23) hx hb hts hiX6 tyX6 tyX6_ok nmX6 hown hK.1 hP (mo_D hh) hS 0 rfl rfl 0 (by decide) kf59 (fun _ h9 => h9) rfl (by decide +kernel) rfl rfl (Nat.le_of_ble_eq_true rfl) dX6_count_2 (fun H locs hP _ hS => ?_)
  have hP : va_P D kC (mo_W cI cJ g 0 (nI n) F Wt Sz Nu Pl Bf (nI b) (nI k) G Wk To Sl Sd (nI as) wo pa fa Fo) H := hP
  refine lv_iload_n hx hb dX6_count_5 rfl (lv_at hl 1 rfl) ?_
  refine lv_tableOut (tgt := 74) hx hb dX6_count_6 (by decide) (by decide) ?_
  refine lv_iload_n hx hb dX6_count_74 rfl (lv_at hl 1 rfl) ?_
  refine lv_bipush (v := 6) hx hb dX6_count_75 (by decide) ?_
  refine lv_bipush (v := 10) hx hb dX6_count_77 (by decide) ?_
  refine pu_callb (va_runS (As := [.int 6, .int 6, .int 10]) (rest := []) ⟨hx, hb, hml, hown, hts⟩ (c_X6_in 6 6 10) (cwS 3 hts gX6_count_X6_in rfl rfl rfl (by decide +kernel) ⟨Nat.le_of_ble_eq_true rfl, Nat.le_of_ble_eq_true rfl⟩) (wd_preS hP hK) rfl rfl hl.1 rfl (lv_room (Nat.le_of_ble_eq_true rfl)) dX6_count_79 ⟨Nat.zero_le _, Nat.zero_le _⟩) (fun _ => ?_) (fun h9 => absurd (show q_in 6 6 10 = true by decide) (by rw [h9]; decide))
  refine lv_if_eq (tgt := 96) hx hb dX6_count_82 (by decide) (fun h9 => absurd h9 (by decide)) (fun _ => ?_)
  refine lv_aload_n hx hb dX6_count_85 rfl (lv_at hl 0 rfl) ?_
  refine va_get (D := D) (ci := 6) (v := .ref (g 15)) (C := RX6) (T := TX6) (N := 23) hx hb hts hiX6 hown hK.1 hP 0 rfl rfl 22 (by decide) kf56 (fun _ h9 => h9) rfl dX6_count_86 ?_
  refine lv_iload_n hx hb dX6_count_89 rfl (lv_at hl 1 rfl) ?_
  refine lv_iconst (v := 5) hx hb dX6_count_90 (by decide) ?_
  refine lv_isub hx hb dX6_count_91 ?_
  refine tp_i (show (6 : Int32) - 5 = 1 by decide) ?_
  refine ga_ild hx hb hK hP 15 rfl 1 (by decide) (by omega) (by decide) dX6_count_92 ?_
  refine lv_goto (tgt := 98) hx hb dX6_count_93 (by decide) ?_
  exact W.iret (v := Fo 1) hx hb hr (fun t9 ht _ => ⟨congrArg (fun z => Outcome.returned (some (Value.int z))) (rfl), by rw [ht]; exact hP, hS.F ht⟩) hS.2.2 dX6_count_98
set_option maxHeartbeats 4000000 in
set_option maxRecDepth 100000 in
theorem c_X6_count_7 (hh : ad_ok g 16)  : Met l yX6_count wsX6_count ({ frames := 10, cells := 0, slots := 0, locals := 450 }) (wd_P D cI cJ [.ref (g 0), .int 7] (mo_W cI cJ g fx (nI n) F Wt Sz Nu Pl Bf (nI b) (nI k) G Wk To Sl Sd (nI as) wo pa fa Fo)) (mu_Q D (ad_A g 16) (some (.int (Fo 2))) (mo_W cI cJ g 0 (nI n) F Wt Sz Nu Pl Bf (nI b) (nI k) G Wk To Sl Sd (nI as) wo pa fa Fo)) 0 0 (ad_A g 16) := by
  refine Met.ofW (cc := cX6_count) (maxL := 2) (ret := (some .int)) (by decide) rfl ?_
  intro p e s m args below meth c s₁ B hml hv
  obtain ⟨rfl, hP, hK⟩ := hv
  have hx := B.exec
  have hb := B.bytes
  have hr := B.returns
  have hts := atoms_spec (ws := wsX6_count) B.pre
  have hown : s.vm.findClass RX6 = some m.cls := findClass_of_methodNamed B.named
  have hlocks := B.notSynchronized
  have hiX6 : ∀ w ∈ u_ws RX6 TX6 23, w ∈ wsX6_count := by decide +kernel
  have kf59 := hts (.fieldLink RX6 59 "SortingLineModel" "fault" "I") (by decide +kernel)
  have kf56 := hts (.fieldLink RX6 56 "SortingLineModel" "findings" "[I") (by decide +kernel)
  have hS : va_S (ad_A g 16) s.heap s.heap [] := va_S.rf
  have hl := lv_entry ([.ref (g 0), .int 7]) (n := 2) (Nat.le_of_ble_eq_true rfl)
  rw [lg_entry_eq]
  generalize (lg_sl ([.ref (g 0), .int 7]) ++ List.replicate (2 - (lg_sl ([.ref (g 0), .int 7])).length) Slot.unset).toArray = ls at hl ⊢
  have hl : lv_has ls 2 [(0, .ref (g 0)), (1, .int 7)] := hl
  refine lv_aload_n hx hb dX6_count_0 rfl (lv_at hl 0 rfl) ?_
  refine lv_iconst (v := 0) hx hb dX6_count_1 (by decide) ?_
  refine va_put (D := D) (ci := 6) (v := .int 0) (ty := .int) (C := RX6) (T := TX6) (N := 23) hx hb hts hiX6 tyX6 tyX6_ok nmX6 hown hK.1 hP (mo_D hh) hS 0 rfl rfl 0 (by decide) kf59 (fun _ h9 => h9) rfl (by decide +kernel) rfl rfl (Nat.le_of_ble_eq_true rfl) dX6_count_2 (fun H locs hP _ hS => ?_)
  have hP : va_P D kC (mo_W cI cJ g 0 (nI n) F Wt Sz Nu Pl Bf (nI b) (nI k) G Wk To Sl Sd (nI as) wo pa fa Fo) H := hP
  refine lv_iload_n hx hb dX6_count_5 rfl (lv_at hl 1 rfl) ?_
  refine lv_tableOut (tgt := 74) hx hb dX6_count_6 (by decide) (by decide) ?_
  refine lv_iload_n hx hb dX6_count_74 rfl (lv_at hl 1 rfl) ?_
  refine lv_bipush (v := 6) hx hb dX6_count_75 (by decide) ?_
  refine lv_bipush (v := 10) hx hb dX6_count_77 (by decide) ?_
  refine pu_callb (va_runS (As := [.int 7, .int 6, .int 10]) (rest := []) ⟨hx, hb, hml, hown, hts⟩ (c_X6_in 7 6 10) (cwS 3 hts gX6_count_X6_in rfl rfl rfl (by decide +kernel) ⟨Nat.le_of_ble_eq_true rfl, Nat.le_of_ble_eq_true rfl⟩) (wd_preS hP hK) rfl rfl hl.1 rfl (lv_room (Nat.le_of_ble_eq_true rfl)) dX6_count_79 ⟨Nat.zero_le _, Nat.zero_le _⟩) (fun _ => ?_) (fun h9 => absurd (show q_in 7 6 10 = true by decide) (by rw [h9]; decide))
  refine lv_if_eq (tgt := 96) hx hb dX6_count_82 (by decide) (fun h9 => absurd h9 (by decide)) (fun _ => ?_)
  refine lv_aload_n hx hb dX6_count_85 rfl (lv_at hl 0 rfl) ?_
  refine va_get (D := D) (ci := 6) (v := .ref (g 15)) (C := RX6) (T := TX6) (N := 23) hx hb hts hiX6 hown hK.1 hP 0 rfl rfl 22 (by decide) kf56 (fun _ h9 => h9) rfl dX6_count_86 ?_
  refine lv_iload_n hx hb dX6_count_89 rfl (lv_at hl 1 rfl) ?_
  refine lv_iconst (v := 5) hx hb dX6_count_90 (by decide) ?_
  refine lv_isub hx hb dX6_count_91 ?_
  refine tp_i (show (7 : Int32) - 5 = 2 by decide) ?_
  refine ga_ild hx hb hK hP 15 rfl 2 (by decide) (by omega) (by decide) dX6_count_92 ?_
  refine lv_goto (tgt := 98) hx hb dX6_count_93 (by decide) ?_
  exact W.iret (v := Fo 2) hx hb hr (fun t9 ht _ => ⟨congrArg (fun z => Outcome.returned (some (Value.int z))) (rfl), by rw [ht]; exact hP, hS.F ht⟩) hS.2.2 dX6_count_98
set_option maxHeartbeats 4000000 in
set_option maxRecDepth 100000 in
theorem c_X6_count_8 (hh : ad_ok g 16)  : Met l yX6_count wsX6_count ({ frames := 10, cells := 0, slots := 0, locals := 450 }) (wd_P D cI cJ [.ref (g 0), .int 8] (mo_W cI cJ g fx (nI n) F Wt Sz Nu Pl Bf (nI b) (nI k) G Wk To Sl Sd (nI as) wo pa fa Fo)) (mu_Q D (ad_A g 16) (some (.int (Fo 3))) (mo_W cI cJ g 0 (nI n) F Wt Sz Nu Pl Bf (nI b) (nI k) G Wk To Sl Sd (nI as) wo pa fa Fo)) 0 0 (ad_A g 16) := by
  refine Met.ofW (cc := cX6_count) (maxL := 2) (ret := (some .int)) (by decide) rfl ?_
  intro p e s m args below meth c s₁ B hml hv
  obtain ⟨rfl, hP, hK⟩ := hv
  have hx := B.exec
  have hb := B.bytes
  have hr := B.returns
  have hts := atoms_spec (ws := wsX6_count) B.pre
  have hown : s.vm.findClass RX6 = some m.cls := findClass_of_methodNamed B.named
  have hlocks := B.notSynchronized
  have hiX6 : ∀ w ∈ u_ws RX6 TX6 23, w ∈ wsX6_count := by decide +kernel
  have kf59 := hts (.fieldLink RX6 59 "SortingLineModel" "fault" "I") (by decide +kernel)
  have kf56 := hts (.fieldLink RX6 56 "SortingLineModel" "findings" "[I") (by decide +kernel)
  have hS : va_S (ad_A g 16) s.heap s.heap [] := va_S.rf
  have hl := lv_entry ([.ref (g 0), .int 8]) (n := 2) (Nat.le_of_ble_eq_true rfl)
  rw [lg_entry_eq]
  generalize (lg_sl ([.ref (g 0), .int 8]) ++ List.replicate (2 - (lg_sl ([.ref (g 0), .int 8])).length) Slot.unset).toArray = ls at hl ⊢
  have hl : lv_has ls 2 [(0, .ref (g 0)), (1, .int 8)] := hl
  refine lv_aload_n hx hb dX6_count_0 rfl (lv_at hl 0 rfl) ?_
  refine lv_iconst (v := 0) hx hb dX6_count_1 (by decide) ?_
  refine va_put (D := D) (ci := 6) (v := .int 0) (ty := .int) (C := RX6) (T := TX6) (N := 23) hx hb hts hiX6 tyX6 tyX6_ok nmX6 hown hK.1 hP (mo_D hh) hS 0 rfl rfl 0 (by decide) kf59 (fun _ h9 => h9) rfl (by decide +kernel) rfl rfl (Nat.le_of_ble_eq_true rfl) dX6_count_2 (fun H locs hP _ hS => ?_)
  have hP : va_P D kC (mo_W cI cJ g 0 (nI n) F Wt Sz Nu Pl Bf (nI b) (nI k) G Wk To Sl Sd (nI as) wo pa fa Fo) H := hP
  refine lv_iload_n hx hb dX6_count_5 rfl (lv_at hl 1 rfl) ?_
  refine lv_tableOut (tgt := 74) hx hb dX6_count_6 (by decide) (by decide) ?_
  refine lv_iload_n hx hb dX6_count_74 rfl (lv_at hl 1 rfl) ?_
  refine lv_bipush (v := 6) hx hb dX6_count_75 (by decide) ?_
  refine lv_bipush (v := 10) hx hb dX6_count_77 (by decide) ?_
  refine pu_callb (va_runS (As := [.int 8, .int 6, .int 10]) (rest := []) ⟨hx, hb, hml, hown, hts⟩ (c_X6_in 8 6 10) (cwS 3 hts gX6_count_X6_in rfl rfl rfl (by decide +kernel) ⟨Nat.le_of_ble_eq_true rfl, Nat.le_of_ble_eq_true rfl⟩) (wd_preS hP hK) rfl rfl hl.1 rfl (lv_room (Nat.le_of_ble_eq_true rfl)) dX6_count_79 ⟨Nat.zero_le _, Nat.zero_le _⟩) (fun _ => ?_) (fun h9 => absurd (show q_in 8 6 10 = true by decide) (by rw [h9]; decide))
  refine lv_if_eq (tgt := 96) hx hb dX6_count_82 (by decide) (fun h9 => absurd h9 (by decide)) (fun _ => ?_)
  refine lv_aload_n hx hb dX6_count_85 rfl (lv_at hl 0 rfl) ?_
  refine va_get (D := D) (ci := 6) (v := .ref (g 15)) (C := RX6) (T := TX6) (N := 23) hx hb hts hiX6 hown hK.1 hP 0 rfl rfl 22 (by decide) kf56 (fun _ h9 => h9) rfl dX6_count_86 ?_
  refine lv_iload_n hx hb dX6_count_89 rfl (lv_at hl 1 rfl) ?_
  refine lv_iconst (v := 5) hx hb dX6_count_90 (by decide) ?_
  refine lv_isub hx hb dX6_count_91 ?_
  refine tp_i (show (8 : Int32) - 5 = 3 by decide) ?_
  refine ga_ild hx hb hK hP 15 rfl 3 (by decide) (by omega) (by decide) dX6_count_92 ?_
  refine lv_goto (tgt := 98) hx hb dX6_count_93 (by decide) ?_
  exact W.iret (v := Fo 3) hx hb hr (fun t9 ht _ => ⟨congrArg (fun z => Outcome.returned (some (Value.int z))) (rfl), by rw [ht]; exact hP, hS.F ht⟩) hS.2.2 dX6_count_98
set_option maxHeartbeats 4000000 in
set_option maxRecDepth 100000 in
theorem c_X6_count_9 (hh : ad_ok g 16)  : Met l yX6_count wsX6_count ({ frames := 10, cells := 0, slots := 0, locals := 450 }) (wd_P D cI cJ [.ref (g 0), .int 9] (mo_W cI cJ g fx (nI n) F Wt Sz Nu Pl Bf (nI b) (nI k) G Wk To Sl Sd (nI as) wo pa fa Fo)) (mu_Q D (ad_A g 16) (some (.int (Fo 4))) (mo_W cI cJ g 0 (nI n) F Wt Sz Nu Pl Bf (nI b) (nI k) G Wk To Sl Sd (nI as) wo pa fa Fo)) 0 0 (ad_A g 16) := by
  refine Met.ofW (cc := cX6_count) (maxL := 2) (ret := (some .int)) (by decide) rfl ?_
  intro p e s m args below meth c s₁ B hml hv
  obtain ⟨rfl, hP, hK⟩ := hv
  have hx := B.exec
  have hb := B.bytes
  have hr := B.returns
  have hts := atoms_spec (ws := wsX6_count) B.pre
  have hown : s.vm.findClass RX6 = some m.cls := findClass_of_methodNamed B.named
  have hlocks := B.notSynchronized
  have hiX6 : ∀ w ∈ u_ws RX6 TX6 23, w ∈ wsX6_count := by decide +kernel
  have kf59 := hts (.fieldLink RX6 59 "SortingLineModel" "fault" "I") (by decide +kernel)
  have kf56 := hts (.fieldLink RX6 56 "SortingLineModel" "findings" "[I") (by decide +kernel)
  have hS : va_S (ad_A g 16) s.heap s.heap [] := va_S.rf
  have hl := lv_entry ([.ref (g 0), .int 9]) (n := 2) (Nat.le_of_ble_eq_true rfl)
  rw [lg_entry_eq]
  generalize (lg_sl ([.ref (g 0), .int 9]) ++ List.replicate (2 - (lg_sl ([.ref (g 0), .int 9])).length) Slot.unset).toArray = ls at hl ⊢
  have hl : lv_has ls 2 [(0, .ref (g 0)), (1, .int 9)] := hl
  refine lv_aload_n hx hb dX6_count_0 rfl (lv_at hl 0 rfl) ?_
  refine lv_iconst (v := 0) hx hb dX6_count_1 (by decide) ?_
  refine va_put (D := D) (ci := 6) (v := .int 0) (ty := .int) (C := RX6) (T := TX6) (N := 23) hx hb hts hiX6 tyX6 tyX6_ok nmX6 hown hK.1 hP (mo_D hh) hS 0 rfl rfl 0 (by decide) kf59 (fun _ h9 => h9) rfl (by decide +kernel) rfl rfl (Nat.le_of_ble_eq_true rfl) dX6_count_2 (fun H locs hP _ hS => ?_)
  have hP : va_P D kC (mo_W cI cJ g 0 (nI n) F Wt Sz Nu Pl Bf (nI b) (nI k) G Wk To Sl Sd (nI as) wo pa fa Fo) H := hP
  refine lv_iload_n hx hb dX6_count_5 rfl (lv_at hl 1 rfl) ?_
  refine lv_tableOut (tgt := 74) hx hb dX6_count_6 (by decide) (by decide) ?_
  refine lv_iload_n hx hb dX6_count_74 rfl (lv_at hl 1 rfl) ?_
  refine lv_bipush (v := 6) hx hb dX6_count_75 (by decide) ?_
  refine lv_bipush (v := 10) hx hb dX6_count_77 (by decide) ?_
  refine pu_callb (va_runS (As := [.int 9, .int 6, .int 10]) (rest := []) ⟨hx, hb, hml, hown, hts⟩ (c_X6_in 9 6 10) (cwS 3 hts gX6_count_X6_in rfl rfl rfl (by decide +kernel) ⟨Nat.le_of_ble_eq_true rfl, Nat.le_of_ble_eq_true rfl⟩) (wd_preS hP hK) rfl rfl hl.1 rfl (lv_room (Nat.le_of_ble_eq_true rfl)) dX6_count_79 ⟨Nat.zero_le _, Nat.zero_le _⟩) (fun _ => ?_) (fun h9 => absurd (show q_in 9 6 10 = true by decide) (by rw [h9]; decide))
  refine lv_if_eq (tgt := 96) hx hb dX6_count_82 (by decide) (fun h9 => absurd h9 (by decide)) (fun _ => ?_)
  refine lv_aload_n hx hb dX6_count_85 rfl (lv_at hl 0 rfl) ?_
  refine va_get (D := D) (ci := 6) (v := .ref (g 15)) (C := RX6) (T := TX6) (N := 23) hx hb hts hiX6 hown hK.1 hP 0 rfl rfl 22 (by decide) kf56 (fun _ h9 => h9) rfl dX6_count_86 ?_
  refine lv_iload_n hx hb dX6_count_89 rfl (lv_at hl 1 rfl) ?_
  refine lv_iconst (v := 5) hx hb dX6_count_90 (by decide) ?_
  refine lv_isub hx hb dX6_count_91 ?_
  refine tp_i (show (9 : Int32) - 5 = 4 by decide) ?_
  refine ga_ild hx hb hK hP 15 rfl 4 (by decide) (by omega) (by decide) dX6_count_92 ?_
  refine lv_goto (tgt := 98) hx hb dX6_count_93 (by decide) ?_
  exact W.iret (v := Fo 4) hx hb hr (fun t9 ht _ => ⟨congrArg (fun z => Outcome.returned (some (Value.int z))) (rfl), by rw [ht]; exact hP, hS.F ht⟩) hS.2.2 dX6_count_98
set_option maxHeartbeats 4000000 in
set_option maxRecDepth 100000 in
theorem c_X6_count_10 (hh : ad_ok g 16)  : Met l yX6_count wsX6_count ({ frames := 10, cells := 0, slots := 0, locals := 450 }) (wd_P D cI cJ [.ref (g 0), .int 10] (mo_W cI cJ g fx (nI n) F Wt Sz Nu Pl Bf (nI b) (nI k) G Wk To Sl Sd (nI as) wo pa fa Fo)) (mu_Q D (ad_A g 16) (some (.int (Fo 5))) (mo_W cI cJ g 0 (nI n) F Wt Sz Nu Pl Bf (nI b) (nI k) G Wk To Sl Sd (nI as) wo pa fa Fo)) 0 0 (ad_A g 16) := by
  refine Met.ofW (cc := cX6_count) (maxL := 2) (ret := (some .int)) (by decide) rfl ?_
  intro p e s m args below meth c s₁ B hml hv
  obtain ⟨rfl, hP, hK⟩ := hv
  have hx := B.exec
  have hb := B.bytes
  have hr := B.returns
  have hts := atoms_spec (ws := wsX6_count) B.pre
  have hown : s.vm.findClass RX6 = some m.cls := findClass_of_methodNamed B.named
  have hlocks := B.notSynchronized
  have hiX6 : ∀ w ∈ u_ws RX6 TX6 23, w ∈ wsX6_count := by decide +kernel
  have kf59 := hts (.fieldLink RX6 59 "SortingLineModel" "fault" "I") (by decide +kernel)
  have kf56 := hts (.fieldLink RX6 56 "SortingLineModel" "findings" "[I") (by decide +kernel)
  have hS : va_S (ad_A g 16) s.heap s.heap [] := va_S.rf
  have hl := lv_entry ([.ref (g 0), .int 10]) (n := 2) (Nat.le_of_ble_eq_true rfl)
  rw [lg_entry_eq]
  generalize (lg_sl ([.ref (g 0), .int 10]) ++ List.replicate (2 - (lg_sl ([.ref (g 0), .int 10])).length) Slot.unset).toArray = ls at hl ⊢
  have hl : lv_has ls 2 [(0, .ref (g 0)), (1, .int 10)] := hl
  refine lv_aload_n hx hb dX6_count_0 rfl (lv_at hl 0 rfl) ?_
  refine lv_iconst (v := 0) hx hb dX6_count_1 (by decide) ?_
  refine va_put (D := D) (ci := 6) (v := .int 0) (ty := .int) (C := RX6) (T := TX6) (N := 23) hx hb hts hiX6 tyX6 tyX6_ok nmX6 hown hK.1 hP (mo_D hh) hS 0 rfl rfl 0 (by decide) kf59 (fun _ h9 => h9) rfl (by decide +kernel) rfl rfl (Nat.le_of_ble_eq_true rfl) dX6_count_2 (fun H locs hP _ hS => ?_)
  have hP : va_P D kC (mo_W cI cJ g 0 (nI n) F Wt Sz Nu Pl Bf (nI b) (nI k) G Wk To Sl Sd (nI as) wo pa fa Fo) H := hP
  refine lv_iload_n hx hb dX6_count_5 rfl (lv_at hl 1 rfl) ?_
  refine lv_tableOut (tgt := 74) hx hb dX6_count_6 (by decide) (by decide) ?_
  refine lv_iload_n hx hb dX6_count_74 rfl (lv_at hl 1 rfl) ?_
  refine lv_bipush (v := 6) hx hb dX6_count_75 (by decide) ?_
  refine lv_bipush (v := 10) hx hb dX6_count_77 (by decide) ?_
  refine pu_callb (va_runS (As := [.int 10, .int 6, .int 10]) (rest := []) ⟨hx, hb, hml, hown, hts⟩ (c_X6_in 10 6 10) (cwS 3 hts gX6_count_X6_in rfl rfl rfl (by decide +kernel) ⟨Nat.le_of_ble_eq_true rfl, Nat.le_of_ble_eq_true rfl⟩) (wd_preS hP hK) rfl rfl hl.1 rfl (lv_room (Nat.le_of_ble_eq_true rfl)) dX6_count_79 ⟨Nat.zero_le _, Nat.zero_le _⟩) (fun _ => ?_) (fun h9 => absurd (show q_in 10 6 10 = true by decide) (by rw [h9]; decide))
  refine lv_if_eq (tgt := 96) hx hb dX6_count_82 (by decide) (fun h9 => absurd h9 (by decide)) (fun _ => ?_)
  refine lv_aload_n hx hb dX6_count_85 rfl (lv_at hl 0 rfl) ?_
  refine va_get (D := D) (ci := 6) (v := .ref (g 15)) (C := RX6) (T := TX6) (N := 23) hx hb hts hiX6 hown hK.1 hP 0 rfl rfl 22 (by decide) kf56 (fun _ h9 => h9) rfl dX6_count_86 ?_
  refine lv_iload_n hx hb dX6_count_89 rfl (lv_at hl 1 rfl) ?_
  refine lv_iconst (v := 5) hx hb dX6_count_90 (by decide) ?_
  refine lv_isub hx hb dX6_count_91 ?_
  refine tp_i (show (10 : Int32) - 5 = 5 by decide) ?_
  refine ga_ild hx hb hK hP 15 rfl 5 (by decide) (by omega) (by decide) dX6_count_92 ?_
  refine lv_goto (tgt := 98) hx hb dX6_count_93 (by decide) ?_
  exact W.iret (v := Fo 5) hx hb hr (fun t9 ht _ => ⟨congrArg (fun z => Outcome.returned (some (Value.int z))) (rfl), by rw [ht]; exact hP, hS.F ht⟩) hS.2.2 dX6_count_98
set_option maxHeartbeats 4000000 in
set_option maxRecDepth 100000 in
theorem c_X6_count_o (hh : ad_ok g 16) (wt : Int32) (h1 : wt.toInt < 0 ∨ 10 < wt.toInt) : Met l yX6_count wsX6_count ({ frames := 10, cells := 0, slots := 0, locals := 450 }) (wd_P D cI cJ [.ref (g 0), .int wt] (mo_W cI cJ g fx (nI n) F Wt Sz Nu Pl Bf (nI b) (nI k) G Wk To Sl Sd (nI as) wo pa fa Fo)) (mu_Q D (ad_A g 16) (some (.int (-2))) (mo_W cI cJ g 0 (nI n) F Wt Sz Nu Pl Bf (nI b) (nI k) G Wk To Sl Sd (nI as) wo pa fa Fo)) 0 0 (ad_A g 16) := by
  refine Met.ofW (cc := cX6_count) (maxL := 2) (ret := (some .int)) (by decide) rfl ?_
  intro p e s m args below meth c s₁ B hml hv
  obtain ⟨rfl, hP, hK⟩ := hv
  have hx := B.exec
  have hb := B.bytes
  have hr := B.returns
  have hts := atoms_spec (ws := wsX6_count) B.pre
  have hown : s.vm.findClass RX6 = some m.cls := findClass_of_methodNamed B.named
  have hlocks := B.notSynchronized
  have hiX6 : ∀ w ∈ u_ws RX6 TX6 23, w ∈ wsX6_count := by decide +kernel
  have kf59 := hts (.fieldLink RX6 59 "SortingLineModel" "fault" "I") (by decide +kernel)
  have hS : va_S (ad_A g 16) s.heap s.heap [] := va_S.rf
  have hl := lv_entry ([.ref (g 0), .int wt]) (n := 2) (Nat.le_of_ble_eq_true rfl)
  rw [lg_entry_eq]
  generalize (lg_sl ([.ref (g 0), .int wt]) ++ List.replicate (2 - (lg_sl ([.ref (g 0), .int wt])).length) Slot.unset).toArray = ls at hl ⊢
  have hl : lv_has ls 2 [(0, .ref (g 0)), (1, .int wt)] := hl
  refine lv_aload_n hx hb dX6_count_0 rfl (lv_at hl 0 rfl) ?_
  refine lv_iconst (v := 0) hx hb dX6_count_1 (by decide) ?_
  refine va_put (D := D) (ci := 6) (v := .int 0) (ty := .int) (C := RX6) (T := TX6) (N := 23) hx hb hts hiX6 tyX6 tyX6_ok nmX6 hown hK.1 hP (mo_D hh) hS 0 rfl rfl 0 (by decide) kf59 (fun _ h9 => h9) rfl (by decide +kernel) rfl rfl (Nat.le_of_ble_eq_true rfl) dX6_count_2 (fun H locs hP _ hS => ?_)
  have hP : va_P D kC (mo_W cI cJ g 0 (nI n) F Wt Sz Nu Pl Bf (nI b) (nI k) G Wk To Sl Sd (nI as) wo pa fa Fo) H := hP
  refine lv_iload_n hx hb dX6_count_5 rfl (lv_at hl 1 rfl) ?_
  refine lv_tableOut (tgt := 74) hx hb dX6_count_6 (by omega) (by decide) ?_
  refine lv_iload_n hx hb dX6_count_74 rfl (lv_at hl 1 rfl) ?_
  refine lv_bipush (v := 6) hx hb dX6_count_75 (by decide) ?_
  refine lv_bipush (v := 10) hx hb dX6_count_77 (by decide) ?_
  refine pu_callb (va_runS (As := [.int wt, .int 6, .int 10]) (rest := []) ⟨hx, hb, hml, hown, hts⟩ (c_X6_in wt 6 10) (cwS 3 hts gX6_count_X6_in rfl rfl rfl (by decide +kernel) ⟨Nat.le_of_ble_eq_true rfl, Nat.le_of_ble_eq_true rfl⟩) (wd_preS hP hK) rfl rfl hl.1 rfl (lv_room (Nat.le_of_ble_eq_true rfl)) dX6_count_79 ⟨Nat.zero_le _, Nat.zero_le _⟩) (fun h9 => absurd (show q_in wt 6 10 = false from h1.elim (fun h8 => q_lo (by rw [Int32.lt_iff_toInt_lt]; exact Int.lt_trans h8 (by decide))) (fun h8 => q_hi (by rw [Int32.lt_iff_toInt_lt]; exact h8))) (by rw [h9]; decide)) (fun _ => ?_)
  refine lv_if_eq (tgt := 96) hx hb dX6_count_82 (by decide) (fun _ => ?_) (fun h9 => absurd (by decide) h9)
  refine lv_bipush (v := (-2)) hx hb dX6_count_96 (by decide) ?_
  exact W.iret (v := (-2)) hx hb hr (fun t9 ht _ => ⟨congrArg (fun z => Outcome.returned (some (Value.int z))) (rfl), by rw [ht]; exact hP, hS.F ht⟩) hS.2.2 dX6_count_98
set_option maxHeartbeats 4000000 in
set_option maxRecDepth 100000 in
theorem c_X6_clear_a (hh : ad_ok g 16)  : Met l yX6_clear wsX6_clear ({ frames := 10, cells := 0, slots := 0, locals := 450 }) (wd_P D cI cJ [.ref (g 0)] (mo_W cI cJ g fx (nI n) F Wt Sz Nu Pl Bf (nI b) (nI k) G Wk To Sl Sd (nI as) wo pa fa Fo)) (mu_Q D (ad_A g 16) (some (.int (nI n))) (mo_W cI cJ g 0 0 F Wt Sz Nu Pl Bf 0 0 G Wk To Sl Sd 0 0 0 0 (z6I Fo))) 0 0 (ad_A g 16) := by
  refine Met.ofW (cc := cX6_clear) (maxL := 3) (ret := (some .int)) (by decide) rfl ?_
  intro p e s m args below meth c s₁ B hml hv
  obtain ⟨rfl, hP, hK⟩ := hv
  have hx := B.exec
  have hb := B.bytes
  have hr := B.returns
  have hts := atoms_spec (ws := wsX6_clear) B.pre
  have hown : s.vm.findClass RX6 = some m.cls := findClass_of_methodNamed B.named
  have hlocks := B.notSynchronized
  have hiX6 : ∀ w ∈ u_ws RX6 TX6 23, w ∈ wsX6_clear := by decide +kernel
  have kf59 := hts (.fieldLink RX6 59 "SortingLineModel" "fault" "I") (by decide +kernel)
  have kf63 := hts (.fieldLink RX6 63 "SortingLineModel" "things" "I") (by decide +kernel)
  have kf106 := hts (.fieldLink RX6 106 "SortingLineModel" "stations" "I") (by decide +kernel)
  have kf109 := hts (.fieldLink RX6 109 "SortingLineModel" "onBelt" "I") (by decide +kernel)
  have kf139 := hts (.fieldLink RX6 139 "SortingLineModel" "aside" "I") (by decide +kernel)
  have kf147 := hts (.fieldLink RX6 147 "SortingLineModel" "worked" "I") (by decide +kernel)
  have kf142 := hts (.fieldLink RX6 142 "SortingLineModel" "passed" "I") (by decide +kernel)
  have kf150 := hts (.fieldLink RX6 150 "SortingLineModel" "failed" "I") (by decide +kernel)
  have kf56 := hts (.fieldLink RX6 56 "SortingLineModel" "findings" "[I") (by decide +kernel)
  have hS : va_S (ad_A g 16) s.heap s.heap [] := va_S.rf
  have hl := lv_entry ([.ref (g 0)]) (n := 3) (Nat.le_of_ble_eq_true rfl)
  rw [lg_entry_eq]
  generalize (lg_sl ([.ref (g 0)]) ++ List.replicate (3 - (lg_sl ([.ref (g 0)])).length) Slot.unset).toArray = ls at hl ⊢
  have hl : lv_has ls 3 [(0, .ref (g 0))] := hl
  refine lv_aload_n hx hb dX6_clear_0 rfl (lv_at hl 0 rfl) ?_
  refine lv_iconst (v := 0) hx hb dX6_clear_1 (by decide) ?_
  refine va_put (D := D) (ci := 6) (v := .int 0) (ty := .int) (C := RX6) (T := TX6) (N := 23) hx hb hts hiX6 tyX6 tyX6_ok nmX6 hown hK.1 hP (mo_D hh) hS 0 rfl rfl 0 (by decide) kf59 (fun _ h9 => h9) rfl (by decide +kernel) rfl rfl (Nat.le_of_ble_eq_true rfl) dX6_clear_2 (fun H locs hP _ hS => ?_)
  have hP : va_P D kC (mo_W cI cJ g 0 (nI n) F Wt Sz Nu Pl Bf (nI b) (nI k) G Wk To Sl Sd (nI as) wo pa fa Fo) H := hP
  refine lv_aload_n hx hb dX6_clear_5 rfl (lv_at hl 0 rfl) ?_
  refine va_get (D := D) (ci := 6) (v := .int (nI n)) (C := RX6) (T := TX6) (N := 23) hx hb hts hiX6 hown hK.1 hP 0 rfl rfl 1 (by decide) kf63 (fun _ h9 => h9) rfl dX6_clear_6 ?_
  refine lv_istore_n (lv' := [(1, .int (nI n)), (0, .ref (g 0))]) hx hb dX6_clear_9 rfl hl (by decide) rfl (fun ls hl => ?_)
  refine lv_aload_n hx hb dX6_clear_10 rfl (lv_at hl 1 rfl) ?_
  refine lv_iconst (v := 0) hx hb dX6_clear_11 (by decide) ?_
  refine va_put (D := D) (ci := 6) (v := .int 0) (ty := .int) (C := RX6) (T := TX6) (N := 23) hx hb hts hiX6 tyX6 tyX6_ok nmX6 hown hK.1 hP (mo_D hh) hS 0 rfl rfl 1 (by decide) kf63 (fun _ h9 => h9) rfl (by decide +kernel) rfl rfl (Nat.le_of_ble_eq_true rfl) dX6_clear_12 (fun H locs hP _ hS => ?_)
  have hP : va_P D kC (mo_W cI cJ g 0 0 F Wt Sz Nu Pl Bf (nI b) (nI k) G Wk To Sl Sd (nI as) wo pa fa Fo) H := hP
  refine lv_aload_n hx hb dX6_clear_15 rfl (lv_at hl 1 rfl) ?_
  refine lv_iconst (v := 0) hx hb dX6_clear_16 (by decide) ?_
  refine va_put (D := D) (ci := 6) (v := .int 0) (ty := .int) (C := RX6) (T := TX6) (N := 23) hx hb hts hiX6 tyX6 tyX6_ok nmX6 hown hK.1 hP (mo_D hh) hS 0 rfl rfl 12 (by decide) kf106 (fun _ h9 => h9) rfl (by decide +kernel) rfl rfl (Nat.le_of_ble_eq_true rfl) dX6_clear_17 (fun H locs hP _ hS => ?_)
  have hP : va_P D kC (mo_W cI cJ g 0 0 F Wt Sz Nu Pl Bf (nI b) 0 G Wk To Sl Sd (nI as) wo pa fa Fo) H := hP
  refine lv_aload_n hx hb dX6_clear_20 rfl (lv_at hl 1 rfl) ?_
  refine lv_iconst (v := 0) hx hb dX6_clear_21 (by decide) ?_
  refine va_put (D := D) (ci := 6) (v := .int 0) (ty := .int) (C := RX6) (T := TX6) (N := 23) hx hb hts hiX6 tyX6 tyX6_ok nmX6 hown hK.1 hP (mo_D hh) hS 0 rfl rfl 11 (by decide) kf109 (fun _ h9 => h9) rfl (by decide +kernel) rfl rfl (Nat.le_of_ble_eq_true rfl) dX6_clear_22 (fun H locs hP _ hS => ?_)
  have hP : va_P D kC (mo_W cI cJ g 0 0 F Wt Sz Nu Pl Bf 0 0 G Wk To Sl Sd (nI as) wo pa fa Fo) H := hP
  refine lv_aload_n hx hb dX6_clear_25 rfl (lv_at hl 1 rfl) ?_
  refine lv_iconst (v := 0) hx hb dX6_clear_26 (by decide) ?_
  refine va_put (D := D) (ci := 6) (v := .int 0) (ty := .int) (C := RX6) (T := TX6) (N := 23) hx hb hts hiX6 tyX6 tyX6_ok nmX6 hown hK.1 hP (mo_D hh) hS 0 rfl rfl 18 (by decide) kf139 (fun _ h9 => h9) rfl (by decide +kernel) rfl rfl (Nat.le_of_ble_eq_true rfl) dX6_clear_27 (fun H locs hP _ hS => ?_)
  have hP : va_P D kC (mo_W cI cJ g 0 0 F Wt Sz Nu Pl Bf 0 0 G Wk To Sl Sd 0 wo pa fa Fo) H := hP
  refine lv_aload_n hx hb dX6_clear_30 rfl (lv_at hl 1 rfl) ?_
  refine lv_iconst (v := 0) hx hb dX6_clear_31 (by decide) ?_
  refine va_put (D := D) (ci := 6) (v := .int 0) (ty := .int) (C := RX6) (T := TX6) (N := 23) hx hb hts hiX6 tyX6 tyX6_ok nmX6 hown hK.1 hP (mo_D hh) hS 0 rfl rfl 19 (by decide) kf147 (fun _ h9 => h9) rfl (by decide +kernel) rfl rfl (Nat.le_of_ble_eq_true rfl) dX6_clear_32 (fun H locs hP _ hS => ?_)
  have hP : va_P D kC (mo_W cI cJ g 0 0 F Wt Sz Nu Pl Bf 0 0 G Wk To Sl Sd 0 0 pa fa Fo) H := hP
  refine lv_aload_n hx hb dX6_clear_35 rfl (lv_at hl 1 rfl) ?_
  refine lv_iconst (v := 0) hx hb dX6_clear_36 (by decide) ?_
  refine va_put (D := D) (ci := 6) (v := .int 0) (ty := .int) (C := RX6) (T := TX6) (N := 23) hx hb hts hiX6 tyX6 tyX6_ok nmX6 hown hK.1 hP (mo_D hh) hS 0 rfl rfl 20 (by decide) kf142 (fun _ h9 => h9) rfl (by decide +kernel) rfl rfl (Nat.le_of_ble_eq_true rfl) dX6_clear_37 (fun H locs hP _ hS => ?_)
  have hP : va_P D kC (mo_W cI cJ g 0 0 F Wt Sz Nu Pl Bf 0 0 G Wk To Sl Sd 0 0 0 fa Fo) H := hP
  refine lv_aload_n hx hb dX6_clear_40 rfl (lv_at hl 1 rfl) ?_
  refine lv_iconst (v := 0) hx hb dX6_clear_41 (by decide) ?_
  refine va_put (D := D) (ci := 6) (v := .int 0) (ty := .int) (C := RX6) (T := TX6) (N := 23) hx hb hts hiX6 tyX6 tyX6_ok nmX6 hown hK.1 hP (mo_D hh) hS 0 rfl rfl 21 (by decide) kf150 (fun _ h9 => h9) rfl (by decide +kernel) rfl rfl (Nat.le_of_ble_eq_true rfl) dX6_clear_42 (fun H locs hP _ hS => ?_)
  have hP : va_P D kC (mo_W cI cJ g 0 0 F Wt Sz Nu Pl Bf 0 0 G Wk To Sl Sd 0 0 0 0 Fo) H := hP
  refine lv_iconst (v := 0) hx hb dX6_clear_45 (by decide) ?_
  refine lv_istore_n (lv' := [(2, .int 0), (1, .int (nI n)), (0, .ref (g 0))]) hx hb dX6_clear_46 rfl hl (by decide) rfl (fun ls hl => ?_)
  refine lv_iload_n hx hb dX6_clear_47 rfl (lv_at hl 0 rfl) ?_
  refine lv_bipush (v := 6) hx hb dX6_clear_48 (by decide) ?_
  refine lv_icmp_ge (tgt := 66) hx hb dX6_clear_50 (by decide) (fun h9 => absurd h9 (by decide)) (fun _ => ?_)
  refine lv_aload_n hx hb dX6_clear_53 rfl (lv_at hl 2 rfl) ?_
  refine va_get (D := D) (ci := 6) (v := .ref (g 15)) (C := RX6) (T := TX6) (N := 23) hx hb hts hiX6 hown hK.1 hP 0 rfl rfl 22 (by decide) kf56 (fun _ h9 => h9) rfl dX6_clear_54 ?_
  refine lv_iload_n hx hb dX6_clear_57 rfl (lv_at hl 0 rfl) ?_
  refine lv_iconst (v := 0) hx hb dX6_clear_58 (by decide) ?_
  refine ga_ist hx hb hK hP (mo_D hh) hS 15 rfl 0 (by decide) (by omega) (by decide) dX6_clear_59 (fun H locs hP hS => ?_)
  have hP : va_P D kC (mo_W cI cJ g 0 0 F Wt Sz Nu Pl Bf 0 0 G Wk To Sl Sd 0 0 0 0 (upd Fo 0 0)) H := hP
  refine lv_iinc (v := 1) (lv' := [(2, .int 1), (1, .int (nI n)), (0, .ref (g 0))]) hx hb dX6_clear_60 hl (k := 0) rfl (by decide) (by decide) rfl (fun ls hl => ?_)
  refine lv_goto (tgt := 47) hx hb dX6_clear_63 (by decide) ?_
  refine lv_iload_n hx hb dX6_clear_47 rfl (lv_at hl 0 rfl) ?_
  refine lv_bipush (v := 6) hx hb dX6_clear_48 (by decide) ?_
  refine lv_icmp_ge (tgt := 66) hx hb dX6_clear_50 (by decide) (fun h9 => absurd h9 (by decide)) (fun _ => ?_)
  refine lv_aload_n hx hb dX6_clear_53 rfl (lv_at hl 2 rfl) ?_
  refine va_get (D := D) (ci := 6) (v := .ref (g 15)) (C := RX6) (T := TX6) (N := 23) hx hb hts hiX6 hown hK.1 hP 0 rfl rfl 22 (by decide) kf56 (fun _ h9 => h9) rfl dX6_clear_54 ?_
  refine lv_iload_n hx hb dX6_clear_57 rfl (lv_at hl 0 rfl) ?_
  refine lv_iconst (v := 0) hx hb dX6_clear_58 (by decide) ?_
  refine ga_ist hx hb hK hP (mo_D hh) hS 15 rfl 1 (by decide) (by omega) (by decide) dX6_clear_59 (fun H locs hP hS => ?_)
  have hP : va_P D kC (mo_W cI cJ g 0 0 F Wt Sz Nu Pl Bf 0 0 G Wk To Sl Sd 0 0 0 0 (upd (upd Fo 0 0) 1 0)) H := hP
  refine lv_iinc (v := 2) (lv' := [(2, .int 2), (1, .int (nI n)), (0, .ref (g 0))]) hx hb dX6_clear_60 hl (k := 0) rfl (by decide) (by decide) rfl (fun ls hl => ?_)
  refine lv_goto (tgt := 47) hx hb dX6_clear_63 (by decide) ?_
  refine lv_iload_n hx hb dX6_clear_47 rfl (lv_at hl 0 rfl) ?_
  refine lv_bipush (v := 6) hx hb dX6_clear_48 (by decide) ?_
  refine lv_icmp_ge (tgt := 66) hx hb dX6_clear_50 (by decide) (fun h9 => absurd h9 (by decide)) (fun _ => ?_)
  refine lv_aload_n hx hb dX6_clear_53 rfl (lv_at hl 2 rfl) ?_
  refine va_get (D := D) (ci := 6) (v := .ref (g 15)) (C := RX6) (T := TX6) (N := 23) hx hb hts hiX6 hown hK.1 hP 0 rfl rfl 22 (by decide) kf56 (fun _ h9 => h9) rfl dX6_clear_54 ?_
  refine lv_iload_n hx hb dX6_clear_57 rfl (lv_at hl 0 rfl) ?_
  refine lv_iconst (v := 0) hx hb dX6_clear_58 (by decide) ?_
  refine ga_ist hx hb hK hP (mo_D hh) hS 15 rfl 2 (by decide) (by omega) (by decide) dX6_clear_59 (fun H locs hP hS => ?_)
  have hP : va_P D kC (mo_W cI cJ g 0 0 F Wt Sz Nu Pl Bf 0 0 G Wk To Sl Sd 0 0 0 0 (upd (upd (upd Fo 0 0) 1 0) 2 0)) H := hP
  refine lv_iinc (v := 3) (lv' := [(2, .int 3), (1, .int (nI n)), (0, .ref (g 0))]) hx hb dX6_clear_60 hl (k := 0) rfl (by decide) (by decide) rfl (fun ls hl => ?_)
  refine lv_goto (tgt := 47) hx hb dX6_clear_63 (by decide) ?_
  refine lv_iload_n hx hb dX6_clear_47 rfl (lv_at hl 0 rfl) ?_
  refine lv_bipush (v := 6) hx hb dX6_clear_48 (by decide) ?_
  refine lv_icmp_ge (tgt := 66) hx hb dX6_clear_50 (by decide) (fun h9 => absurd h9 (by decide)) (fun _ => ?_)
  refine lv_aload_n hx hb dX6_clear_53 rfl (lv_at hl 2 rfl) ?_
  refine va_get (D := D) (ci := 6) (v := .ref (g 15)) (C := RX6) (T := TX6) (N := 23) hx hb hts hiX6 hown hK.1 hP 0 rfl rfl 22 (by decide) kf56 (fun _ h9 => h9) rfl dX6_clear_54 ?_
  refine lv_iload_n hx hb dX6_clear_57 rfl (lv_at hl 0 rfl) ?_
  refine lv_iconst (v := 0) hx hb dX6_clear_58 (by decide) ?_
  refine ga_ist hx hb hK hP (mo_D hh) hS 15 rfl 3 (by decide) (by omega) (by decide) dX6_clear_59 (fun H locs hP hS => ?_)
  have hP : va_P D kC (mo_W cI cJ g 0 0 F Wt Sz Nu Pl Bf 0 0 G Wk To Sl Sd 0 0 0 0 (upd (upd (upd (upd Fo 0 0) 1 0) 2 0) 3 0)) H := hP
  refine lv_iinc (v := 4) (lv' := [(2, .int 4), (1, .int (nI n)), (0, .ref (g 0))]) hx hb dX6_clear_60 hl (k := 0) rfl (by decide) (by decide) rfl (fun ls hl => ?_)
  refine lv_goto (tgt := 47) hx hb dX6_clear_63 (by decide) ?_
  refine lv_iload_n hx hb dX6_clear_47 rfl (lv_at hl 0 rfl) ?_
  refine lv_bipush (v := 6) hx hb dX6_clear_48 (by decide) ?_
  refine lv_icmp_ge (tgt := 66) hx hb dX6_clear_50 (by decide) (fun h9 => absurd h9 (by decide)) (fun _ => ?_)
  refine lv_aload_n hx hb dX6_clear_53 rfl (lv_at hl 2 rfl) ?_
  refine va_get (D := D) (ci := 6) (v := .ref (g 15)) (C := RX6) (T := TX6) (N := 23) hx hb hts hiX6 hown hK.1 hP 0 rfl rfl 22 (by decide) kf56 (fun _ h9 => h9) rfl dX6_clear_54 ?_
  refine lv_iload_n hx hb dX6_clear_57 rfl (lv_at hl 0 rfl) ?_
  refine lv_iconst (v := 0) hx hb dX6_clear_58 (by decide) ?_
  refine ga_ist hx hb hK hP (mo_D hh) hS 15 rfl 4 (by decide) (by omega) (by decide) dX6_clear_59 (fun H locs hP hS => ?_)
  have hP : va_P D kC (mo_W cI cJ g 0 0 F Wt Sz Nu Pl Bf 0 0 G Wk To Sl Sd 0 0 0 0 (upd (upd (upd (upd (upd Fo 0 0) 1 0) 2 0) 3 0) 4 0)) H := hP
  refine lv_iinc (v := 5) (lv' := [(2, .int 5), (1, .int (nI n)), (0, .ref (g 0))]) hx hb dX6_clear_60 hl (k := 0) rfl (by decide) (by decide) rfl (fun ls hl => ?_)
  refine lv_goto (tgt := 47) hx hb dX6_clear_63 (by decide) ?_
  refine lv_iload_n hx hb dX6_clear_47 rfl (lv_at hl 0 rfl) ?_
  refine lv_bipush (v := 6) hx hb dX6_clear_48 (by decide) ?_
  refine lv_icmp_ge (tgt := 66) hx hb dX6_clear_50 (by decide) (fun h9 => absurd h9 (by decide)) (fun _ => ?_)
  refine lv_aload_n hx hb dX6_clear_53 rfl (lv_at hl 2 rfl) ?_
  refine va_get (D := D) (ci := 6) (v := .ref (g 15)) (C := RX6) (T := TX6) (N := 23) hx hb hts hiX6 hown hK.1 hP 0 rfl rfl 22 (by decide) kf56 (fun _ h9 => h9) rfl dX6_clear_54 ?_
  refine lv_iload_n hx hb dX6_clear_57 rfl (lv_at hl 0 rfl) ?_
  refine lv_iconst (v := 0) hx hb dX6_clear_58 (by decide) ?_
  refine ga_ist hx hb hK hP (mo_D hh) hS 15 rfl 5 (by decide) (by omega) (by decide) dX6_clear_59 (fun H locs hP hS => ?_)
  have hP : va_P D kC (mo_W cI cJ g 0 0 F Wt Sz Nu Pl Bf 0 0 G Wk To Sl Sd 0 0 0 0 (upd (upd (upd (upd (upd (upd Fo 0 0) 1 0) 2 0) 3 0) 4 0) 5 0)) H := hP
  refine lv_iinc (v := 6) (lv' := [(2, .int 6), (1, .int (nI n)), (0, .ref (g 0))]) hx hb dX6_clear_60 hl (k := 0) rfl (by decide) (by decide) rfl (fun ls hl => ?_)
  refine lv_goto (tgt := 47) hx hb dX6_clear_63 (by decide) ?_
  refine lv_iload_n hx hb dX6_clear_47 rfl (lv_at hl 0 rfl) ?_
  refine lv_bipush (v := 6) hx hb dX6_clear_48 (by decide) ?_
  refine lv_icmp_ge (tgt := 66) hx hb dX6_clear_50 (by decide) (fun _ => ?_) (fun h9 => absurd (by decide) h9)
  refine lv_iload_n hx hb dX6_clear_66 rfl (lv_at hl 1 rfl) ?_
  exact W.iret (v := nI n) hx hb hr (fun t9 ht _ => ⟨congrArg (fun z => Outcome.returned (some (Value.int z))) (rfl), by rw [ht]; exact hP, hS.F ht⟩) hS.2.2 dX6_clear_67
end MoE
