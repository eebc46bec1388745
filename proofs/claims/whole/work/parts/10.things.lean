/-! the kinds, keys and numbers that class and reference share; contracts of Things, Stations, Belt, Side, Tally -/
def also (f k : Int32) : Bool := if f = 1 then decide (k = 0) else if f = 2 then decide (k = 0) || (decide (k = 1) || decide (k = 16)) else if f = 3 then decide (k = 16) else if f = 9 then decide (k = 8) else if f = 10 then decide (k = 8) || (decide (k = 9) || decide (k = 11)) else if f = 13 then decide (k = 12) else false
def ko (f k : Int32) : Bool := decide (k = 17) || (decide (k = f) || also f k)
def kyO (f w : Int32) : Int32 := if f = 2 then w * 3 + 1 else w - 7
def nrw (f : Int32) (v : Int64) : Int64 := if f = 4 then v.toInt32.toInt8.toInt32.toInt64 else if f = 5 then v.toInt32.toInt64 else v
def sumN (Nu : Nat → Int64) (o : Nat) : Nat → Int64
  | 0 => 0
  | z + 1 => sumN Nu o z + Nu (o + z)
abbrev z8I (f : Nat → Int32) (o : Nat) (x : Int32) : Nat → Int32 := upd (upd (upd (upd (upd (upd (upd (upd f (o + 0) x) (o + 1) x) (o + 2) x) (o + 3) x) (o + 4) x) (o + 5) x) (o + 6) x) (o + 7) x
abbrev z8L (f : Nat → Int64) (o : Nat) (x : Int64) : Nat → Int64 := vp_updL (vp_updL (vp_updL (vp_updL (vp_updL (vp_updL (vp_updL (vp_updL f (o + 0) x) (o + 1) x) (o + 2) x) (o + 3) x) (o + 4) x) (o + 5) x) (o + 6) x) (o + 7) x
section SubA
variable {l : Launch} {D : va_G} {cI cJ : ClassId} {h : Nat → Nat} {n k f b an as : Nat} {F Wt Sz : Nat → Int32} {Nu : Nat → Int64} {Mb : Nat → Int32} {G Wk : Nat → Int32} {To : Nat → Int64} {Sl : Nat → Int32} {Ri oT oS oF Fo : Nat → Int32} {wo pa fa : Int32}
set_option maxHeartbeats 4000000 in
set_option maxRecDepth 100000 in
theorem c_X4_howMany (hh : ad_ok h 20) : Met l yX4_howMany wsX4_howMany ({ frames := 0, cells := 0, slots := 0, locals := 0 }) (wd_P D cI cJ [.ref (h 1)] (sl_W cI cJ h (nI n) F Wt Sz Nu Mb (nI k) G Wk To Sl Ri (nI f) (nI b) oT oS oF (nI an) (nI as) Fo wo pa fa)) (pu_Q (some (.int (nI n)))) 0 0 (fun _ => False) := by
  refine Met.ofW (cc := cX4_howMany) (maxL := 1) (ret := (some .int)) (by decide) rfl ?_
  intro p e s m args below meth c s₁ B hml hv
  obtain ⟨rfl, hP, hK⟩ := hv
  have hx := B.exec
  have hb := B.bytes
  have hr := B.returns
  have hts := atoms_spec (ws := wsX4_howMany) B.pre
  have hown : s.vm.findClass RX4 = some m.cls := findClass_of_methodNamed B.named
  have hlocks := B.notSynchronized
  have hiX4 : ∀ w ∈ u_ws RX4 TX4 6, w ∈ wsX4_howMany := by decide +kernel
  have kf28 := hts (.fieldLink RX4 28 "SortingLine$Things" "made" "I") (by decide +kernel)
  have hl := lv_entry ([.ref (h 1)]) (n := 1) (Nat.le_of_ble_eq_true rfl)
  rw [lg_entry_eq]
  generalize (lg_sl ([.ref (h 1)]) ++ List.replicate (1 - (lg_sl ([.ref (h 1)])).length) Slot.unset).toArray = ls at hl ⊢
  have hl : lv_has ls 1 [(0, .ref (h 1))] := hl
  refine lv_aload_n hx hb dX4_howMany_0 rfl (lv_at hl 0 rfl) ?_
  refine va_get (D := D) (ci := 4) (v := .int (nI n)) (C := RX4) (T := TX4) (N := 6) hx hb hts hiX4 hown hK.1 hP 1 rfl rfl 5 (by decide) kf28 (fun _ h9 => h9) rfl dX4_howMany_1 ?_
  exact W.iret (v := nI n) hx hb hr (fun t9 ht _ => ⟨congrArg (fun z => Outcome.returned (some (Value.int z))) (rfl), ht⟩) (fun _ h9 => nomatch h9) dX4_howMany_4
set_option maxHeartbeats 4000000 in
set_option maxRecDepth 100000 in
theorem c_X4_areFull (hh : ad_ok h 20) (hn : n ≤ 100) : Met l yX4_areFull wsX4_areFull ({ frames := 0, cells := 0, slots := 0, locals := 0 }) (wd_P D cI cJ [.ref (h 1)] (sl_W cI cJ h (nI n) F Wt Sz Nu Mb (nI k) G Wk To Sl Ri (nI f) (nI b) oT oS oF (nI an) (nI as) Fo wo pa fa)) (pu_Q (some (.int (bI (decide (100 ≤ n)))))) 0 0 (fun _ => False) := by
  refine Met.ofW (cc := cX4_areFull) (maxL := 1) (ret := (some .boolean)) (by decide) rfl ?_
  intro p e s m args below meth c s₁ B hml hv
  obtain ⟨rfl, hP, hK⟩ := hv
  have hx := B.exec
  have hb := B.bytes
  have hr := B.returns
  have hts := atoms_spec (ws := wsX4_areFull) B.pre
  have hown : s.vm.findClass RX4 = some m.cls := findClass_of_methodNamed B.named
  have hlocks := B.notSynchronized
  have hiX4 : ∀ w ∈ u_ws RX4 TX4 6, w ∈ wsX4_areFull := by decide +kernel
  have kf28 := hts (.fieldLink RX4 28 "SortingLine$Things" "made" "I") (by decide +kernel)
  have hl := lv_entry ([.ref (h 1)]) (n := 1) (Nat.le_of_ble_eq_true rfl)
  rw [lg_entry_eq]
  generalize (lg_sl ([.ref (h 1)]) ++ List.replicate (1 - (lg_sl ([.ref (h 1)])).length) Slot.unset).toArray = ls at hl ⊢
  have hl : lv_has ls 1 [(0, .ref (h 1))] := hl
  refine lv_aload_n hx hb dX4_areFull_0 rfl (lv_at hl 0 rfl) ?_
  refine va_get (D := D) (ci := 4) (v := .int (nI n)) (C := RX4) (T := TX4) (N := 6) hx hb hts hiX4 hown hK.1 hP 1 rfl rfl 5 (by decide) kf28 (fun _ h9 => h9) rfl dX4_areFull_1 ?_
  refine lv_bipush (v := 100) hx hb dX4_areFull_4 (by decide) ?_
  refine lv_icmp_lt (tgt := 13) hx hb dX4_areFull_6 (by decide) (fun c6 => ?_) (fun c6 => ?_)
  · skip
    have c6 : n < 100 := (nI_ltI (a := n) (b := 100) (by omega) (by omega)).mp c6
    refine lv_iconst (v := 0) hx hb dX4_areFull_13 (by decide) ?_
    exact W.zret (ty := .boolean) (v := 0) hx hb hr (by decide) (fun t9 ht _ => ⟨congrArg (fun z => Outcome.returned (some (Value.int z))) (by have h9 : (100 ≤ n) = (¬ n < 100) := (by simp); simp [bI, h9, c6]), ht⟩) (fun _ h9 => nomatch h9) dX4_areFull_14
  · skip
    have c6 : ¬ (n < 100) := fun h9 => c6 ((nI_ltI (a := n) (b := 100) (by omega) (by omega)).mpr h9)
    refine lv_iconst (v := 1) hx hb dX4_areFull_9 (by decide) ?_
    refine lv_goto (tgt := 14) hx hb dX4_areFull_10 (by decide) ?_
    exact W.zret (ty := .boolean) (v := 1) hx hb hr (by decide) (fun t9 ht _ => ⟨congrArg (fun z => Outcome.returned (some (Value.int z))) (by have h9 : (100 ≤ n) = (¬ n < 100) := (by simp); simp [bI, h9, c6]), ht⟩) (fun _ h9 => nomatch h9) dX4_areFull_14
set_option maxHeartbeats 4000000 in
set_option maxRecDepth 100000 in
theorem c_X4_hold (hh : ad_ok h 20) (t : Int32) : Met l yX4_hold wsX4_hold ({ frames := 0, cells := 0, slots := 0, locals := 0 }) (wd_P D cI cJ [.ref (h 1), .int t] (sl_W cI cJ h (nI n) F Wt Sz Nu Mb (nI k) G Wk To Sl Ri (nI f) (nI b) oT oS oF (nI an) (nI as) Fo wo pa fa)) (pu_Q (some (.int (bI (p_in t (nI n)))))) 0 0 (fun _ => False) := by
  refine Met.ofW (cc := cX4_hold) (maxL := 2) (ret := (some .boolean)) (by decide) rfl ?_
  intro p e s m args below meth c s₁ B hml hv
  obtain ⟨rfl, hP, hK⟩ := hv
  have hx := B.exec
  have hb := B.bytes
  have hr := B.returns
  have hts := atoms_spec (ws := wsX4_hold) B.pre
  have hown : s.vm.findClass RX4 = some m.cls := findClass_of_methodNamed B.named
  have hlocks := B.notSynchronized
  have hiX4 : ∀ w ∈ u_ws RX4 TX4 6, w ∈ wsX4_hold := by decide +kernel
  have kf28 := hts (.fieldLink RX4 28 "SortingLine$Things" "made" "I") (by decide +kernel)
  have hl := lv_entry ([.ref (h 1), .int t]) (n := 2) (Nat.le_of_ble_eq_true rfl)
  rw [lg_entry_eq]
  generalize (lg_sl ([.ref (h 1), .int t]) ++ List.replicate (2 - (lg_sl ([.ref (h 1), .int t])).length) Slot.unset).toArray = ls at hl ⊢
  have hl : lv_has ls 2 [(0, .ref (h 1)), (1, .int t)] := hl
  refine lv_iload_n hx hb dX4_hold_0 rfl (lv_at hl 1 rfl) ?_
  refine lv_if_lt (tgt := 16) hx hb dX4_hold_1 (by decide) (fun c1 => ?_) (fun c1 => ?_)
  · skip
    refine lv_iconst (v := 0) hx hb dX4_hold_16 (by decide) ?_
    exact W.zret (ty := .boolean) (v := 0) hx hb hr (by decide) (fun t9 ht _ => ⟨congrArg (fun z => Outcome.returned (some (Value.int z))) (by rw [p_in_lt c1]; rfl), ht⟩) (fun _ h9 => nomatch h9) dX4_hold_17
  · skip
    refine lv_iload_n hx hb dX4_hold_4 rfl (lv_at hl 1 rfl) ?_
    refine lv_aload_n hx hb dX4_hold_5 rfl (lv_at hl 0 rfl) ?_
    refine va_get (D := D) (ci := 4) (v := .int (nI n)) (C := RX4) (T := TX4) (N := 6) hx hb hts hiX4 hown hK.1 hP 1 rfl rfl 5 (by decide) kf28 (fun _ h9 => h9) rfl dX4_hold_6 ?_
    refine lv_icmp_ge (tgt := 16) hx hb dX4_hold_9 (by decide) (fun c9 => ?_) (fun c9 => ?_)
    · skip
      refine lv_iconst (v := 0) hx hb dX4_hold_16 (by decide) ?_
      exact W.zret (ty := .boolean) (v := 0) hx hb hr (by decide) (fun t9 ht _ => ⟨congrArg (fun z => Outcome.returned (some (Value.int z))) (by rw [p_in_ge c9]; rfl), ht⟩) (fun _ h9 => nomatch h9) dX4_hold_17
    · skip
      refine lv_iconst (v := 1) hx hb dX4_hold_12 (by decide) ?_
      refine lv_goto (tgt := 17) hx hb dX4_hold_13 (by decide) ?_
      exact W.zret (ty := .boolean) (v := 1) hx hb hr (by decide) (fun t9 ht _ => ⟨congrArg (fun z => Outcome.returned (some (Value.int z))) (by rw [p_in_ok c1 c9]; rfl), ht⟩) (fun _ h9 => nomatch h9) dX4_hold_17
set_option maxHeartbeats 4000000 in
set_option maxRecDepth 100000 in
theorem c_X4_add (hh : ad_ok h 20) (hn : n < 100) (fo we sz : Int32) : Met l yX4_add wsX4_add ({ frames := 1, cells := 0, slots := 0, locals := 20 }) (wd_P D cI cJ [.ref (h 1), .int fo, .int we, .int sz] (sl_W cI cJ h (nI n) F Wt Sz Nu Mb (nI k) G Wk To Sl Ri (nI f) (nI b) oT oS oF (nI an) (nI as) Fo wo pa fa)) (mu_Q D (ad_A h 20) (some (.int (nI n))) (sl_W cI cJ h (nI (n + 1)) (upd F n fo) (upd Wt n we) (upd Sz n sz) (z8L Nu (8 * n) 0) (z8I Mb (8 * n) (-5)) (nI k) G Wk To Sl Ri (nI f) (nI b) oT oS oF (nI an) (nI as) Fo wo pa fa)) 0 0 (ad_A h 20) := by
  refine Met.ofW (cc := cX4_add) (maxL := 6) (ret := (some .int)) (by decide) rfl ?_
  intro p e s m args below meth c s₁ B hml hv
  obtain ⟨rfl, hP, hK⟩ := hv
  have hx := B.exec
  have hb := B.bytes
  have hr := B.returns
  have hts := atoms_spec (ws := wsX4_add) B.pre
  have hown : s.vm.findClass RX4 = some m.cls := findClass_of_methodNamed B.named
  have hlocks := B.notSynchronized
  have hiX4 : ∀ w ∈ u_ws RX4 TX4 6, w ∈ wsX4_add := by decide +kernel
  have kf28 := hts (.fieldLink RX4 28 "SortingLine$Things" "made" "I") (by decide +kernel)
  have kf9 := hts (.fieldLink RX4 9 "SortingLine$Things" "forms" "[I") (by decide +kernel)
  have kf15 := hts (.fieldLink RX4 15 "SortingLine$Things" "weights" "[I") (by decide +kernel)
  have kf18 := hts (.fieldLink RX4 18 "SortingLine$Things" "sizes" "[I") (by decide +kernel)
  have kf21 := hts (.fieldLink RX4 21 "SortingLine$Things" "numbers" "[J") (by decide +kernel)
  have kf25 := hts (.fieldLink RX4 25 "SortingLine$Things" "members" "[I") (by decide +kernel)
  have hS : va_S (ad_A h 20) s.heap s.heap [] := va_S.rf
  have hl := lv_entry ([.ref (h 1), .int fo, .int we, .int sz]) (n := 6) (Nat.le_of_ble_eq_true rfl)
  rw [lg_entry_eq]
  generalize (lg_sl ([.ref (h 1), .int fo, .int we, .int sz]) ++ List.replicate (6 - (lg_sl ([.ref (h 1), .int fo, .int we, .int sz])).length) Slot.unset).toArray = ls at hl ⊢
  have hl : lv_has ls 6 [(0, .ref (h 1)), (1, .int fo), (2, .int we), (3, .int sz)] := hl
  refine lv_aload_n hx hb dX4_add_0 rfl (lv_at hl 0 rfl) ?_
  refine pu_callb (va_runV (As := []) (rest := []) ⟨hx, hb, hml, hown, hts⟩ (c_X4_areFull hh (by omega)) (cwV 0 hts gX4_add_X4_areFull rfl rfl rfl (by decide +kernel) ⟨Nat.le_of_ble_eq_true rfl, Nat.le_of_ble_eq_true rfl⟩) (wd_preV (ci := 4) (q0 := 1) hP hK rfl rfl) rfl rfl hl.1 rfl (lv_room (Nat.le_of_ble_eq_true rfl)) dX4_add_1 ⟨Nat.zero_le _, Nat.zero_le _⟩) (fun h9 => absurd (show decide (100 ≤ n) = false by simp; omega) (by rw [h9]; decide)) (fun _ => ?_)
  refine lv_if_eq (tgt := 10) hx hb dX4_add_4 (by decide) (fun _ => ?_) (fun h9 => absurd (by decide) h9)
  refine lv_aload_n hx hb dX4_add_10 rfl (lv_at hl 0 rfl) ?_
  refine va_get (D := D) (ci := 4) (v := .int (nI n)) (C := RX4) (T := TX4) (N := 6) hx hb hts hiX4 hown hK.1 hP 1 rfl rfl 5 (by decide) kf28 (fun _ h9 => h9) rfl dX4_add_11 ?_
  refine lv_istore (lv' := [(4, .int (nI n)), (0, .ref (h 1)), (1, .int fo), (2, .int we), (3, .int sz)]) hx hb dX4_add_14 hl (by decide) rfl (fun ls hl => ?_)
  refine lv_aload_n hx hb dX4_add_16 rfl (lv_at hl 1 rfl) ?_
  refine va_get (D := D) (ci := 4) (v := .ref (h 6)) (C := RX4) (T := TX4) (N := 6) hx hb hts hiX4 hown hK.1 hP 1 rfl rfl 0 (by decide) kf9 (fun _ h9 => h9) rfl dX4_add_17 ?_
  refine lv_iload hx hb dX4_add_20 (lv_at hl 0 rfl) ?_
  refine lv_iload_n hx hb dX4_add_22 rfl (lv_at hl 2 rfl) ?_
  refine ga_ist hx hb hK hP (sl_D hh) hS 6 rfl n (rfl) (by omega) (by decide) dX4_add_23 (fun H locs hP hS => ?_)
  have hP : va_P D kC (sl_W cI cJ h (nI n) (upd F n fo) Wt Sz Nu Mb (nI k) G Wk To Sl Ri (nI f) (nI b) oT oS oF (nI an) (nI as) Fo wo pa fa) H := hP
  refine lv_aload_n hx hb dX4_add_24 rfl (lv_at hl 1 rfl) ?_
  refine va_get (D := D) (ci := 4) (v := .ref (h 7)) (C := RX4) (T := TX4) (N := 6) hx hb hts hiX4 hown hK.1 hP 1 rfl rfl 1 (by decide) kf15 (fun _ h9 => h9) rfl dX4_add_25 ?_
  refine lv_iload hx hb dX4_add_28 (lv_at hl 0 rfl) ?_
  refine lv_iload_n hx hb dX4_add_30 rfl (lv_at hl 3 rfl) ?_
  refine ga_ist hx hb hK hP (sl_D hh) hS 7 rfl n (rfl) (by omega) (by decide) dX4_add_31 (fun H locs hP hS => ?_)
  have hP : va_P D kC (sl_W cI cJ h (nI n) (upd F n fo) (upd Wt n we) Sz Nu Mb (nI k) G Wk To Sl Ri (nI f) (nI b) oT oS oF (nI an) (nI as) Fo wo pa fa) H := hP
  refine lv_aload_n hx hb dX4_add_32 rfl (lv_at hl 1 rfl) ?_
  refine va_get (D := D) (ci := 4) (v := .ref (h 8)) (C := RX4) (T := TX4) (N := 6) hx hb hts hiX4 hown hK.1 hP 1 rfl rfl 2 (by decide) kf18 (fun _ h9 => h9) rfl dX4_add_33 ?_
  refine lv_iload hx hb dX4_add_36 (lv_at hl 0 rfl) ?_
  refine lv_iload_n hx hb dX4_add_38 rfl (lv_at hl 4 rfl) ?_
  refine ga_ist hx hb hK hP (sl_D hh) hS 8 rfl n (rfl) (by omega) (by decide) dX4_add_39 (fun H locs hP hS => ?_)
  have hP : va_P D kC (sl_W cI cJ h (nI n) (upd F n fo) (upd Wt n we) (upd Sz n sz) Nu Mb (nI k) G Wk To Sl Ri (nI f) (nI b) oT oS oF (nI an) (nI as) Fo wo pa fa) H := hP
  refine lv_iconst (v := 0) hx hb dX4_add_40 (by decide) ?_
  refine lv_istore (lv' := [(5, .int 0), (4, .int (nI n)), (0, .ref (h 1)), (1, .int fo), (2, .int we), (3, .int sz)]) hx hb dX4_add_41 hl (by decide) rfl (fun ls hl => ?_)
  refine lv_iload hx hb dX4_add_43 (lv_at hl 0 rfl) ?_
  refine lv_bipush (v := 8) hx hb dX4_add_45 (by decide) ?_
  refine lv_icmp_ge (tgt := 85) hx hb dX4_add_47 (by decide) (fun h9 => absurd h9 (by decide)) (fun _ => ?_)
  refine lv_aload_n hx hb dX4_add_50 rfl (lv_at hl 2 rfl) ?_
  refine va_get (D := D) (ci := 4) (v := .ref (h 9)) (C := RX4) (T := TX4) (N := 6) hx hb hts hiX4 hown hK.1 hP 1 rfl rfl 3 (by decide) kf21 (fun _ h9 => h9) rfl dX4_add_51 ?_
  refine lv_iload hx hb dX4_add_54 (lv_at hl 1 rfl) ?_
  refine lv_bipush (v := 8) hx hb dX4_add_56 (by decide) ?_
  refine lv_imul hx hb dX4_add_58 ?_
  refine tp_i (y := nI (8 * n)) ((pk_mul n 8).trans (congrArg nI (Nat.mul_comm _ _))) ?_
  refine lv_iload hx hb dX4_add_59 (lv_at hl 0 rfl) ?_
  refine lv_iadd hx hb dX4_add_61 ?_
  refine tp_i (y := nI ((8 * n) + 0)) (nI_add (8 * n) 0) ?_
  refine lv_lconst (v := 0) hx hb dX4_add_62 (by decide) ?_
  refine ga_lst hx hb hK hP (sl_D hh) hS 9 rfl ((8 * n) + 0) (rfl) (by omega) (by decide) dX4_add_63 (fun H locs hP hS => ?_)
  have hP : va_P D kC (sl_W cI cJ h (nI n) (upd F n fo) (upd Wt n we) (upd Sz n sz) (vp_updL Nu ((8 * n) + 0) 0) Mb (nI k) G Wk To Sl Ri (nI f) (nI b) oT oS oF (nI an) (nI as) Fo wo pa fa) H := hP
  refine lv_aload_n hx hb dX4_add_64 rfl (lv_at hl 2 rfl) ?_
  refine va_get (D := D) (ci := 4) (v := .ref (h 10)) (C := RX4) (T := TX4) (N := 6) hx hb hts hiX4 hown hK.1 hP 1 rfl rfl 4 (by decide) kf25 (fun _ h9 => h9) rfl dX4_add_65 ?_
  refine lv_iload hx hb dX4_add_68 (lv_at hl 1 rfl) ?_
  refine lv_bipush (v := 8) hx hb dX4_add_70 (by decide) ?_
  refine lv_imul hx hb dX4_add_72 ?_
  refine tp_i (y := nI (8 * n)) ((pk_mul n 8).trans (congrArg nI (Nat.mul_comm _ _))) ?_
  refine lv_iload hx hb dX4_add_73 (lv_at hl 0 rfl) ?_
  refine lv_iadd hx hb dX4_add_75 ?_
  refine tp_i (y := nI ((8 * n) + 0)) (nI_add (8 * n) 0) ?_
  refine lv_bipush (v := (-5)) hx hb dX4_add_76 (by decide) ?_
  refine ga_ist hx hb hK hP (sl_D hh) hS 10 rfl ((8 * n) + 0) (rfl) (by omega) (by decide) dX4_add_78 (fun H locs hP hS => ?_)
  have hP : va_P D kC (sl_W cI cJ h (nI n) (upd F n fo) (upd Wt n we) (upd Sz n sz) (vp_updL Nu ((8 * n) + 0) 0) (upd Mb ((8 * n) + 0) (-5)) (nI k) G Wk To Sl Ri (nI f) (nI b) oT oS oF (nI an) (nI as) Fo wo pa fa) H := hP
  refine lv_iinc (v := 1) (lv' := [(5, .int 1), (4, .int (nI n)), (0, .ref (h 1)), (1, .int fo), (2, .int we), (3, .int sz)]) hx hb dX4_add_79 hl (k := 0) rfl (by decide) (by decide) rfl (fun ls hl => ?_)
  refine lv_goto (tgt := 43) hx hb dX4_add_82 (by decide) ?_
  refine lv_iload hx hb dX4_add_43 (lv_at hl 0 rfl) ?_
  refine lv_bipush (v := 8) hx hb dX4_add_45 (by decide) ?_
  refine lv_icmp_ge (tgt := 85) hx hb dX4_add_47 (by decide) (fun h9 => absurd h9 (by decide)) (fun _ => ?_)
  refine lv_aload_n hx hb dX4_add_50 rfl (lv_at hl 2 rfl) ?_
  refine va_get (D := D) (ci := 4) (v := .ref (h 9)) (C := RX4) (T := TX4) (N := 6) hx hb hts hiX4 hown hK.1 hP 1 rfl rfl 3 (by decide) kf21 (fun _ h9 => h9) rfl dX4_add_51 ?_
  refine lv_iload hx hb dX4_add_54 (lv_at hl 1 rfl) ?_
  refine lv_bipush (v := 8) hx hb dX4_add_56 (by decide) ?_
  refine lv_imul hx hb dX4_add_58 ?_
  refine tp_i (y := nI (8 * n)) ((pk_mul n 8).trans (congrArg nI (Nat.mul_comm _ _))) ?_
  refine lv_iload hx hb dX4_add_59 (lv_at hl 0 rfl) ?_
  refine lv_iadd hx hb dX4_add_61 ?_
  refine tp_i (y := nI ((8 * n) + 1)) (nI_add (8 * n) 1) ?_
  refine lv_lconst (v := 0) hx hb dX4_add_62 (by decide) ?_
  refine ga_lst hx hb hK hP (sl_D hh) hS 9 rfl ((8 * n) + 1) (rfl) (by omega) (by decide) dX4_add_63 (fun H locs hP hS => ?_)
  have hP : va_P D kC (sl_W cI cJ h (nI n) (upd F n fo) (upd Wt n we) (upd Sz n sz) (vp_updL (vp_updL Nu ((8 * n) + 0) 0) ((8 * n) + 1) 0) (upd Mb ((8 * n) + 0) (-5)) (nI k) G Wk To Sl Ri (nI f) (nI b) oT oS oF (nI an) (nI as) Fo wo pa fa) H := hP
  refine lv_aload_n hx hb dX4_add_64 rfl (lv_at hl 2 rfl) ?_
  refine va_get (D := D) (ci := 4) (v := .ref (h 10)) (C := RX4) (T := TX4) (N := 6) hx hb hts hiX4 hown hK.1 hP 1 rfl rfl 4 (by decide) kf25 (fun _ h9 => h9) rfl dX4_add_65 ?_
  refine lv_iload hx hb dX4_add_68 (lv_at hl 1 rfl) ?_
  refine lv_bipush (v := 8) hx hb dX4_add_70 (by decide) ?_
  refine lv_imul hx hb dX4_add_72 ?_
  refine tp_i (y := nI (8 * n)) ((pk_mul n 8).trans (congrArg nI (Nat.mul_comm _ _))) ?_
  refine lv_iload hx hb dX4_add_73 (lv_at hl 0 rfl) ?_
  refine lv_iadd hx hb dX4_add_75 ?_
  refine tp_i (y := nI ((8 * n) + 1)) (nI_add (8 * n) 1) ?_
  refine lv_bipush (v := (-5)) hx hb dX4_add_76 (by decide) ?_
  refine ga_ist hx hb hK hP (sl_D hh) hS 10 rfl ((8 * n) + 1) (rfl) (by omega) (by decide) dX4_add_78 (fun H locs hP hS => ?_)
  have hP : va_P D kC (sl_W cI cJ h (nI n) (upd F n fo) (upd Wt n we) (upd Sz n sz) (vp_updL (vp_updL Nu ((8 * n) + 0) 0) ((8 * n) + 1) 0) (upd (upd Mb ((8 * n) + 0) (-5)) ((8 * n) + 1) (-5)) (nI k) G Wk To Sl Ri (nI f) (nI b) oT oS oF (nI an) (nI as) Fo wo pa fa) H := hP
  refine lv_iinc (v := 2) (lv' := [(5, .int 2), (4, .int (nI n)), (0, .ref (h 1)), (1, .int fo), (2, .int we), (3, .int sz)]) hx hb dX4_add_79 hl (k := 0) rfl (by decide) (by decide) rfl (fun ls hl => ?_)
  refine lv_goto (tgt := 43) hx hb dX4_add_82 (by decide) ?_
  refine lv_iload hx hb dX4_add_43 (lv_at hl 0 rfl) ?_
  refine lv_bipush (v := 8) hx hb dX4_add_45 (by decide) ?_
  refine lv_icmp_ge (tgt := 85) hx hb dX4_add_47 (by decide) (fun h9 => absurd h9 (by decide)) (fun _ => ?_)
  refine lv_aload_n hx hb dX4_add_50 rfl (lv_at hl 2 rfl) ?_
  refine va_get (D := D) (ci := 4) (v := .ref (h 9)) (C := RX4) (T := TX4) (N := 6) hx hb hts hiX4 hown hK.1 hP 1 rfl rfl 3 (by decide) kf21 (fun _ h9 => h9) rfl dX4_add_51 ?_
  refine lv_iload hx hb dX4_add_54 (lv_at hl 1 rfl) ?_
  refine lv_bipush (v := 8) hx hb dX4_add_56 (by decide) ?_
  refine lv_imul hx hb dX4_add_58 ?_
  refine tp_i (y := nI (8 * n)) ((pk_mul n 8).trans (congrArg nI (Nat.mul_comm _ _))) ?_
  refine lv_iload hx hb dX4_add_59 (lv_at hl 0 rfl) ?_
  refine lv_iadd hx hb dX4_add_61 ?_
  refine tp_i (y := nI ((8 * n) + 2)) (nI_add (8 * n) 2) ?_
  refine lv_lconst (v := 0) hx hb dX4_add_62 (by decide) ?_
  refine ga_lst hx hb hK hP (sl_D hh) hS 9 rfl ((8 * n) + 2) (rfl) (by omega) (by decide) dX4_add_63 (fun H locs hP hS => ?_)
  have hP : va_P D kC (sl_W cI cJ h (nI n) (upd F n fo) (upd Wt n we) (upd Sz n sz) (vp_updL (vp_updL (vp_updL Nu ((8 * n) + 0) 0) ((8 * n) + 1) 0) ((8 * n) + 2) 0) (upd (upd Mb ((8 * n) + 0) (-5)) ((8 * n) + 1) (-5)) (nI k) G Wk To Sl Ri (nI f) (nI b) oT oS oF (nI an) (nI as) Fo wo pa fa) H := hP
  refine lv_aload_n hx hb dX4_add_64 rfl (lv_at hl 2 rfl) ?_
  refine va_get (D := D) (ci := 4) (v := .ref (h 10)) (C := RX4) (T := TX4) (N := 6) hx hb hts hiX4 hown hK.1 hP 1 rfl rfl 4 (by decide) kf25 (fun _ h9 => h9) rfl dX4_add_65 ?_
  refine lv_iload hx hb dX4_add_68 (lv_at hl 1 rfl) ?_
  refine lv_bipush (v := 8) hx hb dX4_add_70 (by decide) ?_
  refine lv_imul hx hb dX4_add_72 ?_
  refine tp_i (y := nI (8 * n)) ((pk_mul n 8).trans (congrArg nI (Nat.mul_comm _ _))) ?_
  refine lv_iload hx hb dX4_add_73 (lv_at hl 0 rfl) ?_
  refine lv_iadd hx hb dX4_add_75 ?_
  refine tp_i (y := nI ((8 * n) + 2)) (nI_add (8 * n) 2) ?_
  refine lv_bipush (v := (-5)) hx hb dX4_add_76 (by decide) ?_
  refine ga_ist hx hb hK hP (sl_D hh) hS 10 rfl ((8 * n) + 2) (rfl) (by omega) (by decide) dX4_add_78 (fun H locs hP hS => ?_)
  have hP : va_P D kC (sl_W cI cJ h (nI n) (upd F n fo) (upd Wt n we) (upd Sz n sz) (vp_updL (vp_updL (vp_updL Nu ((8 * n) + 0) 0) ((8 * n) + 1) 0) ((8 * n) + 2) 0) (upd (upd (upd Mb ((8 * n) + 0) (-5)) ((8 * n) + 1) (-5)) ((8 * n) + 2) (-5)) (nI k) G Wk To Sl Ri (nI f) (nI b) oT oS oF (nI an) (nI as) Fo wo pa fa) H := hP
  refine lv_iinc (v := 3) (lv' := [(5, .int 3), (4, .int (nI n)), (0, .ref (h 1)), (1, .int fo), (2, .int we), (3, .int sz)]) hx hb dX4_add_79 hl (k := 0) rfl (by decide) (by decide) rfl (fun ls hl => ?_)
  refine lv_goto (tgt := 43) hx hb dX4_add_82 (by decide) ?_
  refine lv_iload hx hb dX4_add_43 (lv_at hl 0 rfl) ?_
  refine lv_bipush (v := 8) hx hb dX4_add_45 (by decide) ?_
  refine lv_icmp_ge (tgt := 85) hx hb dX4_add_47 (by decide) (fun h9 => absurd h9 (by decide)) (fun _ => ?_)
  refine lv_aload_n hx hb dX4_add_50 rfl (lv_at hl 2 rfl) ?_
  refine va_get (D := D) (ci := 4) (v := .ref (h 9)) (C := RX4) (T := TX4) (N := 6) hx hb hts hiX4 hown hK.1 hP 1 rfl rfl 3 (by decide) kf21 (fun _ h9 => h9) rfl dX4_add_51 ?_
  refine lv_iload hx hb dX4_add_54 (lv_at hl 1 rfl) ?_
  refine lv_bipush (v := 8) hx hb dX4_add_56 (by decide) ?_
  refine lv_imul hx hb dX4_add_58 ?_
  refine tp_i (y := nI (8 * n)) ((pk_mul n 8).trans (congrArg nI (Nat.mul_comm _ _))) ?_
  refine lv_iload hx hb dX4_add_59 (lv_at hl 0 rfl) ?_
  refine lv_iadd hx hb dX4_add_61 ?_
  refine tp_i (y := nI ((8 * n) + 3)) (nI_add (8 * n) 3) ?_
  refine lv_lconst (v := 0) hx hb dX4_add_62 (by decide) ?_
  refine ga_lst hx hb hK hP (sl_D hh) hS 9 rfl ((8 * n) + 3) (rfl) (by omega) (by decide) dX4_add_63 (fun H locs hP hS => ?_)
  have hP : va_P D kC (sl_W cI cJ h (nI n) (upd F n fo) (upd Wt n we) (upd Sz n sz) (vp_updL (vp_updL (vp_updL (vp_updL Nu ((8 * n) + 0) 0) ((8 * n) + 1) 0) ((8 * n) + 2) 0) ((8 * n) + 3) 0) (upd (upd (upd Mb ((8 * n) + 0) (-5)) ((8 * n) + 1) (-5)) ((8 * n) + 2) (-5)) (nI k) G Wk To Sl Ri (nI f) (nI b) oT oS oF (nI an) (nI as) Fo wo pa fa) H := hP
  refine lv_aload_n hx hb dX4_add_64 rfl (lv_at hl 2 rfl) ?_
  refine va_get (D := D) (ci := 4) (v := .ref (h 10)) (C := RX4) (T := TX4) (N := 6) hx hb hts hiX4 hown hK.1 hP 1 rfl rfl 4 (by decide) kf25 (fun _ h9 => h9) rfl dX4_add_65 ?_
  refine lv_iload hx hb dX4_add_68 (lv_at hl 1 rfl) ?_
  refine lv_bipush (v := 8) hx hb dX4_add_70 (by decide) ?_
  refine lv_imul hx hb dX4_add_72 ?_
  refine tp_i (y := nI (8 * n)) ((pk_mul n 8).trans (congrArg nI (Nat.mul_comm _ _))) ?_
  refine lv_iload hx hb dX4_add_73 (lv_at hl 0 rfl) ?_
  refine lv_iadd hx hb dX4_add_75 ?_
  refine tp_i (y := nI ((8 * n) + 3)) (nI_add (8 * n) 3) ?_
  refine lv_bipush (v := (-5)) hx hb dX4_add_76 (by decide) ?_
  refine ga_ist hx hb hK hP (sl_D hh) hS 10 rfl ((8 * n) + 3) (rfl) (by omega) (by decide) dX4_add_78 (fun H locs hP hS => ?_)
  have hP : va_P D kC (sl_W cI cJ h (nI n) (upd F n fo) (upd Wt n we) (upd Sz n sz) (vp_updL (vp_updL (vp_updL (vp_updL Nu ((8 * n) + 0) 0) ((8 * n) + 1) 0) ((8 * n) + 2) 0) ((8 * n) + 3) 0) (upd (upd (upd (upd Mb ((8 * n) + 0) (-5)) ((8 * n) + 1) (-5)) ((8 * n) + 2) (-5)) ((8 * n) + 3) (-5)) (nI k) G Wk To Sl Ri (nI f) (nI b) oT oS oF (nI an) (nI as) Fo wo pa fa) H := hP
  refine lv_iinc (v := 4) (lv' := [(5, .int 4), (4, .int (nI n)), (0, .ref (h 1)), (1, .int fo), (2, .int we), (3, .int sz)]) hx hb dX4_add_79 hl (k := 0) rfl (by decide) (by decide) rfl (fun ls hl => ?_)
  refine lv_goto (tgt := 43) hx hb dX4_add_82 (by decide) ?_
  refine lv_iload hx hb dX4_add_43 (lv_at hl 0 rfl) ?_
  refine lv_bipush (v := 8) hx hb dX4_add_45 (by decide) ?_
  refine lv_icmp_ge (tgt := 85) hx hb dX4_add_47 (by decide) (fun h9 => absurd h9 (by decide)) (fun _ => ?_)
  refine lv_aload_n hx hb dX4_add_50 rfl (lv_at hl 2 rfl) ?_
  refine va_get (D := D) (ci := 4) (v := .ref (h 9)) (C := RX4) (T := TX4) (N := 6) hx hb hts hiX4 hown hK.1 hP 1 rfl rfl 3 (by decide) kf21 (fun _ h9 => h9) rfl dX4_add_51 ?_
  refine lv_iload hx hb dX4_add_54 (lv_at hl 1 rfl) ?_
  refine lv_bipush (v := 8) hx hb dX4_add_56 (by decide) ?_
  refine lv_imul hx hb dX4_add_58 ?_
  refine tp_i (y := nI (8 * n)) ((pk_mul n 8).trans (congrArg nI (Nat.mul_comm _ _))) ?_
  refine lv_iload hx hb dX4_add_59 (lv_at hl 0 rfl) ?_
  refine lv_iadd hx hb dX4_add_61 ?_
  refine tp_i (y := nI ((8 * n) + 4)) (nI_add (8 * n) 4) ?_
  refine lv_lconst (v := 0) hx hb dX4_add_62 (by decide) ?_
  refine ga_lst hx hb hK hP (sl_D hh) hS 9 rfl ((8 * n) + 4) (rfl) (by omega) (by decide) dX4_add_63 (fun H locs hP hS => ?_)
  have hP : va_P D kC (sl_W cI cJ h (nI n) (upd F n fo) (upd Wt n we) (upd Sz n sz) (vp_updL (vp_updL (vp_updL (vp_updL (vp_updL Nu ((8 * n) + 0) 0) ((8 * n) + 1) 0) ((8 * n) + 2) 0) ((8 * n) + 3) 0) ((8 * n) + 4) 0) (upd (upd (upd (upd Mb ((8 * n) + 0) (-5)) ((8 * n) + 1) (-5)) ((8 * n) + 2) (-5)) ((8 * n) + 3) (-5)) (nI k) G Wk To Sl Ri (nI f) (nI b) oT oS oF (nI an) (nI as) Fo wo pa fa) H := hP
  refine lv_aload_n hx hb dX4_add_64 rfl (lv_at hl 2 rfl) ?_
  refine va_get (D := D) (ci := 4) (v := .ref (h 10)) (C := RX4) (T := TX4) (N := 6) hx hb hts hiX4 hown hK.1 hP 1 rfl rfl 4 (by decide) kf25 (fun _ h9 => h9) rfl dX4_add_65 ?_
  refine lv_iload hx hb dX4_add_68 (lv_at hl 1 rfl) ?_
  refine lv_bipush (v := 8) hx hb dX4_add_70 (by decide) ?_
  refine lv_imul hx hb dX4_add_72 ?_
  refine tp_i (y := nI (8 * n)) ((pk_mul n 8).trans (congrArg nI (Nat.mul_comm _ _))) ?_
  refine lv_iload hx hb dX4_add_73 (lv_at hl 0 rfl) ?_
  refine lv_iadd hx hb dX4_add_75 ?_
  refine tp_i (y := nI ((8 * n) + 4)) (nI_add (8 * n) 4) ?_
  refine lv_bipush (v := (-5)) hx hb dX4_add_76 (by decide) ?_
  refine ga_ist hx hb hK hP (sl_D hh) hS 10 rfl ((8 * n) + 4) (rfl) (by omega) (by decide) dX4_add_78 (fun H locs hP hS => ?_)
  have hP : va_P D kC (sl_W cI cJ h (nI n) (upd F n fo) (upd Wt n we) (upd Sz n sz) (vp_updL (vp_updL (vp_updL (vp_updL (vp_updL Nu ((8 * n) + 0) 0) ((8 * n) + 1) 0) ((8 * n) + 2) 0) ((8 * n) + 3) 0) ((8 * n) + 4) 0) (upd (upd (upd (upd (upd Mb ((8 * n) + 0) (-5)) ((8 * n) + 1) (-5)) ((8 * n) + 2) (-5)) ((8 * n) + 3) (-5)) ((8 * n) + 4) (-5)) (nI k) G Wk To Sl Ri (nI f) (nI b) oT oS oF (nI an) (nI as) Fo wo pa fa) H := hP
  refine lv_iinc (v := 5) (lv' := [(5, .int 5), (4, .int (nI n)), (0, .ref (h 1)), (1, .int fo), (2, .int we), (3, .int sz)]) hx hb dX4_add_79 hl (k := 0) rfl (by decide) (by decide) rfl (fun ls hl => ?_)
  refine lv_goto (tgt := 43) hx hb dX4_add_82 (by decide) ?_
  refine lv_iload hx hb dX4_add_43 (lv_at hl 0 rfl) ?_
  refine lv_bipush (v := 8) hx hb dX4_add_45 (by decide) ?_
  refine lv_icmp_ge (tgt := 85) hx hb dX4_add_47 (by decide) (fun h9 => absurd h9 (by decide)) (fun _ => ?_)
  refine lv_aload_n hx hb dX4_add_50 rfl (lv_at hl 2 rfl) ?_
  refine va_get (D := D) (ci := 4) (v := .ref (h 9)) (C := RX4) (T := TX4) (N := 6) hx hb hts hiX4 hown hK.1 hP 1 rfl rfl 3 (by decide) kf21 (fun _ h9 => h9) rfl dX4_add_51 ?_
  refine lv_iload hx hb dX4_add_54 (lv_at hl 1 rfl) ?_
  refine lv_bipush (v := 8) hx hb dX4_add_56 (by decide) ?_
  refine lv_imul hx hb dX4_add_58 ?_
  refine tp_i (y := nI (8 * n)) ((pk_mul n 8).trans (congrArg nI (Nat.mul_comm _ _))) ?_
  refine lv_iload hx hb dX4_add_59 (lv_at hl 0 rfl) ?_
  refine lv_iadd hx hb dX4_add_61 ?_
  refine tp_i (y := nI ((8 * n) + 5)) (nI_add (8 * n) 5) ?_
  refine lv_lconst (v := 0) hx hb dX4_add_62 (by decide) ?_
  refine ga_lst hx hb hK hP (sl_D hh) hS 9 rfl ((8 * n) + 5) (rfl) (by omega) (by decide) dX4_add_63 (fun H locs hP hS => ?_)
  have hP : va_P D kC (sl_W cI cJ h (nI n) (upd F n fo) (upd Wt n we) (upd Sz n sz) (vp_updL (vp_updL (vp_updL (vp_updL (vp_updL (vp_updL Nu ((8 * n) + 0) 0) ((8 * n) + 1) 0) ((8 * n) + 2) 0) ((8 * n) + 3) 0) ((8 * n) + 4) 0) ((8 * n) + 5) 0) (upd (upd (upd (upd (upd Mb ((8 * n) + 0) (-5)) ((8 * n) + 1) (-5)) ((8 * n) + 2) (-5)) ((8 * n) + 3) (-5)) ((8 * n) + 4) (-5)) (nI k) G Wk To Sl Ri (nI f) (nI b) oT oS oF (nI an) (nI as) Fo wo pa fa) H := hP
  refine lv_aload_n hx hb dX4_add_64 rfl (lv_at hl 2 rfl) ?_
  refine va_get (D := D) (ci := 4) (v := .ref (h 10)) (C := RX4) (T := TX4) (N := 6) hx hb hts hiX4 hown hK.1 hP 1 rfl rfl 4 (by decide) kf25 (fun _ h9 => h9) rfl dX4_add_65 ?_
  refine lv_iload hx hb dX4_add_68 (lv_at hl 1 rfl) ?_
  refine lv_bipush (v := 8) hx hb dX4_add_70 (by decide) ?_
  refine lv_imul hx hb dX4_add_72 ?_
  refine tp_i (y := nI (8 * n)) ((pk_mul n 8).trans (congrArg nI (Nat.mul_comm _ _))) ?_
  refine lv_iload hx hb dX4_add_73 (lv_at hl 0 rfl) ?_
  refine lv_iadd hx hb dX4_add_75 ?_
  refine tp_i (y := nI ((8 * n) + 5)) (nI_add (8 * n) 5) ?_
  refine lv_bipush (v := (-5)) hx hb dX4_add_76 (by decide) ?_
  refine ga_ist hx hb hK hP (sl_D hh) hS 10 rfl ((8 * n) + 5) (rfl) (by omega) (by decide) dX4_add_78 (fun H locs hP hS => ?_)
  have hP : va_P D kC (sl_W cI cJ h (nI n) (upd F n fo) (upd Wt n we) (upd Sz n sz) (vp_updL (vp_updL (vp_updL (vp_updL (vp_updL (vp_updL Nu ((8 * n) + 0) 0) ((8 * n) + 1) 0) ((8 * n) + 2) 0) ((8 * n) + 3) 0) ((8 * n) + 4) 0) ((8 * n) + 5) 0) (upd (upd (upd (upd (upd (upd Mb ((8 * n) + 0) (-5)) ((8 * n) + 1) (-5)) ((8 * n) + 2) (-5)) ((8 * n) + 3) (-5)) ((8 * n) + 4) (-5)) ((8 * n) + 5) (-5)) (nI k) G Wk To Sl Ri (nI f) (nI b) oT oS oF (nI an) (nI as) Fo wo pa fa) H := hP
  refine lv_iinc (v := 6) (lv' := [(5, .int 6), (4, .int (nI n)), (0, .ref (h 1)), (1, .int fo), (2, .int we), (3, .int sz)]) hx hb dX4_add_79 hl (k := 0) rfl (by decide) (by decide) rfl (fun ls hl => ?_)
  refine lv_goto (tgt := 43) hx hb dX4_add_82 (by decide) ?_
  refine lv_iload hx hb dX4_add_43 (lv_at hl 0 rfl) ?_
  refine lv_bipush (v := 8) hx hb dX4_add_45 (by decide) ?_
  refine lv_icmp_ge (tgt := 85) hx hb dX4_add_47 (by decide) (fun h9 => absurd h9 (by decide)) (fun _ => ?_)
  refine lv_aload_n hx hb dX4_add_50 rfl (lv_at hl 2 rfl) ?_
  refine va_get (D := D) (ci := 4) (v := .ref (h 9)) (C := RX4) (T := TX4) (N := 6) hx hb hts hiX4 hown hK.1 hP 1 rfl rfl 3 (by decide) kf21 (fun _ h9 => h9) rfl dX4_add_51 ?_
  refine lv_iload hx hb dX4_add_54 (lv_at hl 1 rfl) ?_
  refine lv_bipush (v := 8) hx hb dX4_add_56 (by decide) ?_
  refine lv_imul hx hb dX4_add_58 ?_
  refine tp_i (y := nI (8 * n)) ((pk_mul n 8).trans (congrArg nI (Nat.mul_comm _ _))) ?_
  refine lv_iload hx hb dX4_add_59 (lv_at hl 0 rfl) ?_
  refine lv_iadd hx hb dX4_add_61 ?_
  refine tp_i (y := nI ((8 * n) + 6)) (nI_add (8 * n) 6) ?_
  refine lv_lconst (v := 0) hx hb dX4_add_62 (by decide) ?_
  refine ga_lst hx hb hK hP (sl_D hh) hS 9 rfl ((8 * n) + 6) (rfl) (by omega) (by decide) dX4_add_63 (fun H locs hP hS => ?_)
  have hP : va_P D kC (sl_W cI cJ h (nI n) (upd F n fo) (upd Wt n we) (upd Sz n sz) (vp_updL (vp_updL (vp_updL (vp_updL (vp_updL (vp_updL (vp_updL Nu ((8 * n) + 0) 0) ((8 * n) + 1) 0) ((8 * n) + 2) 0) ((8 * n) + 3) 0) ((8 * n) + 4) 0) ((8 * n) + 5) 0) ((8 * n) + 6) 0) (upd (upd (upd (upd (upd (upd Mb ((8 * n) + 0) (-5)) ((8 * n) + 1) (-5)) ((8 * n) + 2) (-5)) ((8 * n) + 3) (-5)) ((8 * n) + 4) (-5)) ((8 * n) + 5) (-5)) (nI k) G Wk To Sl Ri (nI f) (nI b) oT oS oF (nI an) (nI as) Fo wo pa fa) H := hP
  refine lv_aload_n hx hb dX4_add_64 rfl (lv_at hl 2 rfl) ?_
  refine va_get (D := D) (ci := 4) (v := .ref (h 10)) (C := RX4) (T := TX4) (N := 6) hx hb hts hiX4 hown hK.1 hP 1 rfl rfl 4 (by decide) kf25 (fun _ h9 => h9) rfl dX4_add_65 ?_
  refine lv_iload hx hb dX4_add_68 (lv_at hl 1 rfl) ?_
  refine lv_bipush (v := 8) hx hb dX4_add_70 (by decide) ?_
  refine lv_imul hx hb dX4_add_72 ?_
  refine tp_i (y := nI (8 * n)) ((pk_mul n 8).trans (congrArg nI (Nat.mul_comm _ _))) ?_
  refine lv_iload hx hb dX4_add_73 (lv_at hl 0 rfl) ?_
  refine lv_iadd hx hb dX4_add_75 ?_
  refine tp_i (y := nI ((8 * n) + 6)) (nI_add (8 * n) 6) ?_
  refine lv_bipush (v := (-5)) hx hb dX4_add_76 (by decide) ?_
  refine ga_ist hx hb hK hP (sl_D hh) hS 10 rfl ((8 * n) + 6) (rfl) (by omega) (by decide) dX4_add_78 (fun H locs hP hS => ?_)
  have hP : va_P D kC (sl_W cI cJ h (nI n) (upd F n fo) (upd Wt n we) (upd Sz n sz) (vp_updL (vp_updL (vp_updL (vp_updL (vp_updL (vp_updL (vp_updL Nu ((8 * n) + 0) 0) ((8 * n) + 1) 0) ((8 * n) + 2) 0) ((8 * n) + 3) 0) ((8 * n) + 4) 0) ((8 * n) + 5) 0) ((8 * n) + 6) 0) (upd (upd (upd (upd (upd (upd (upd Mb ((8 * n) + 0) (-5)) ((8 * n) + 1) (-5)) ((8 * n) + 2) (-5)) ((8 * n) + 3) (-5)) ((8 * n) + 4) (-5)) ((8 * n) + 5) (-5)) ((8 * n) + 6) (-5)) (nI k) G Wk To Sl Ri (nI f) (nI b) oT oS oF (nI an) (nI as) Fo wo pa fa) H := hP
  refine lv_iinc (v := 7) (lv' := [(5, .int 7), (4, .int (nI n)), (0, .ref (h 1)), (1, .int fo), (2, .int we), (3, .int sz)]) hx hb dX4_add_79 hl (k := 0) rfl (by decide) (by decide) rfl (fun ls hl => ?_)
  refine lv_goto (tgt := 43) hx hb dX4_add_82 (by decide) ?_
  refine lv_iload hx hb dX4_add_43 (lv_at hl 0 rfl) ?_
  refine lv_bipush (v := 8) hx hb dX4_add_45 (by decide) ?_
  refine lv_icmp_ge (tgt := 85) hx hb dX4_add_47 (by decide) (fun h9 => absurd h9 (by decide)) (fun _ => ?_)
  refine lv_aload_n hx hb dX4_add_50 rfl (lv_at hl 2 rfl) ?_
  refine va_get (D := D) (ci := 4) (v := .ref (h 9)) (C := RX4) (T := TX4) (N := 6) hx hb hts hiX4 hown hK.1 hP 1 rfl rfl 3 (by decide) kf21 (fun _ h9 => h9) rfl dX4_add_51 ?_
  refine lv_iload hx hb dX4_add_54 (lv_at hl 1 rfl) ?_
  refine lv_bipush (v := 8) hx hb dX4_add_56 (by decide) ?_
  refine lv_imul hx hb dX4_add_58 ?_
  refine tp_i (y := nI (8 * n)) ((pk_mul n 8).trans (congrArg nI (Nat.mul_comm _ _))) ?_
  refine lv_iload hx hb dX4_add_59 (lv_at hl 0 rfl) ?_
  refine lv_iadd hx hb dX4_add_61 ?_
  refine tp_i (y := nI ((8 * n) + 7)) (nI_add (8 * n) 7) ?_
  refine lv_lconst (v := 0) hx hb dX4_add_62 (by decide) ?_
  refine ga_lst hx hb hK hP (sl_D hh) hS 9 rfl ((8 * n) + 7) (rfl) (by omega) (by decide) dX4_add_63 (fun H locs hP hS => ?_)
  have hP : va_P D kC (sl_W cI cJ h (nI n) (upd F n fo) (upd Wt n we) (upd Sz n sz) (vp_updL (vp_updL (vp_updL (vp_updL (vp_updL (vp_updL (vp_updL (vp_updL Nu ((8 * n) + 0) 0) ((8 * n) + 1) 0) ((8 * n) + 2) 0) ((8 * n) + 3) 0) ((8 * n) + 4) 0) ((8 * n) + 5) 0) ((8 * n) + 6) 0) ((8 * n) + 7) 0) (upd (upd (upd (upd (upd (upd (upd Mb ((8 * n) + 0) (-5)) ((8 * n) + 1) (-5)) ((8 * n) + 2) (-5)) ((8 * n) + 3) (-5)) ((8 * n) + 4) (-5)) ((8 * n) + 5) (-5)) ((8 * n) + 6) (-5)) (nI k) G Wk To Sl Ri (nI f) (nI b) oT oS oF (nI an) (nI as) Fo wo pa fa) H := hP
  refine lv_aload_n hx hb dX4_add_64 rfl (lv_at hl 2 rfl) ?_
  refine va_get (D := D) (ci := 4) (v := .ref (h 10)) (C := RX4) (T := TX4) (N := 6) hx hb hts hiX4 hown hK.1 hP 1 rfl rfl 4 (by decide) kf25 (fun _ h9 => h9) rfl dX4_add_65 ?_
  refine lv_iload hx hb dX4_add_68 (lv_at hl 1 rfl) ?_
  refine lv_bipush (v := 8) hx hb dX4_add_70 (by decide) ?_
  refine lv_imul hx hb dX4_add_72 ?_
  refine tp_i (y := nI (8 * n)) ((pk_mul n 8).trans (congrArg nI (Nat.mul_comm _ _))) ?_
  refine lv_iload hx hb dX4_add_73 (lv_at hl 0 rfl) ?_
  refine lv_iadd hx hb dX4_add_75 ?_
  refine tp_i (y := nI ((8 * n) + 7)) (nI_add (8 * n) 7) ?_
  refine lv_bipush (v := (-5)) hx hb dX4_add_76 (by decide) ?_
  refine ga_ist hx hb hK hP (sl_D hh) hS 10 rfl ((8 * n) + 7) (rfl) (by omega) (by decide) dX4_add_78 (fun H locs hP hS => ?_)
  have hP : va_P D kC (sl_W cI cJ h (nI n) (upd F n fo) (upd Wt n we) (upd Sz n sz) (vp_updL (vp_updL (vp_updL (vp_updL (vp_updL (vp_updL (vp_updL (vp_updL Nu ((8 * n) + 0) 0) ((8 * n) + 1) 0) ((8 * n) + 2) 0) ((8 * n) + 3) 0) ((8 * n) + 4) 0) ((8 * n) + 5) 0) ((8 * n) + 6) 0) ((8 * n) + 7) 0) (upd (upd (upd (upd (upd (upd (upd (upd Mb ((8 * n) + 0) (-5)) ((8 * n) + 1) (-5)) ((8 * n) + 2) (-5)) ((8 * n) + 3) (-5)) ((8 * n) + 4) (-5)) ((8 * n) + 5) (-5)) ((8 * n) + 6) (-5)) ((8 * n) + 7) (-5)) (nI k) G Wk To Sl Ri (nI f) (nI b) oT oS oF (nI an) (nI as) Fo wo pa fa) H := hP
  refine lv_iinc (v := 8) (lv' := [(5, .int 8), (4, .int (nI n)), (0, .ref (h 1)), (1, .int fo), (2, .int we), (3, .int sz)]) hx hb dX4_add_79 hl (k := 0) rfl (by decide) (by decide) rfl (fun ls hl => ?_)
  refine lv_goto (tgt := 43) hx hb dX4_add_82 (by decide) ?_
  refine lv_iload hx hb dX4_add_43 (lv_at hl 0 rfl) ?_
  refine lv_bipush (v := 8) hx hb dX4_add_45 (by decide) ?_
  refine lv_icmp_ge (tgt := 85) hx hb dX4_add_47 (by decide) (fun _ => ?_) (fun h9 => absurd (by decide) h9)
  refine lv_aload_n hx hb dX4_add_85 rfl (lv_at hl 2 rfl) ?_
  refine lv_dup hx hb dX4_add_86 rfl ?_
  refine va_get (D := D) (ci := 4) (v := .int (nI n)) (C := RX4) (T := TX4) (N := 6) hx hb hts hiX4 hown hK.1 hP 1 rfl rfl 5 (by decide) kf28 (fun _ h9 => h9) rfl dX4_add_87 ?_
  refine lv_iconst (v := 1) hx hb dX4_add_90 (by decide) ?_
  refine lv_iadd hx hb dX4_add_91 ?_
  refine tp_i (y := nI (n + 1)) (nI_add n 1) ?_
  refine va_put (D := D) (ci := 4) (v := .int (nI (n + 1))) (ty := .int) (C := RX4) (T := TX4) (N := 6) hx hb hts hiX4 tyX4 tyX4_ok nmX4 hown hK.1 hP (sl_D hh) hS 1 rfl rfl 5 (by decide) kf28 (fun _ h9 => h9) rfl (by decide +kernel) rfl rfl (Nat.le_of_ble_eq_true rfl) dX4_add_92 (fun H locs hP _ hS => ?_)
  have hP : va_P D kC (sl_W cI cJ h (nI (n + 1)) (upd F n fo) (upd Wt n we) (upd Sz n sz) (vp_updL (vp_updL (vp_updL (vp_updL (vp_updL (vp_updL (vp_updL (vp_updL Nu ((8 * n) + 0) 0) ((8 * n) + 1) 0) ((8 * n) + 2) 0) ((8 * n) + 3) 0) ((8 * n) + 4) 0) ((8 * n) + 5) 0) ((8 * n) + 6) 0) ((8 * n) + 7) 0) (upd (upd (upd (upd (upd (upd (upd (upd Mb ((8 * n) + 0) (-5)) ((8 * n) + 1) (-5)) ((8 * n) + 2) (-5)) ((8 * n) + 3) (-5)) ((8 * n) + 4) (-5)) ((8 * n) + 5) (-5)) ((8 * n) + 6) (-5)) ((8 * n) + 7) (-5)) (nI k) G Wk To Sl Ri (nI f) (nI b) oT oS oF (nI an) (nI as) Fo wo pa fa) H := hP
  refine lv_iload hx hb dX4_add_95 (lv_at hl 1 rfl) ?_
  exact W.iret (v := nI n) hx hb hr (fun t9 ht _ => ⟨congrArg (fun z => Outcome.returned (some (Value.int z))) (rfl), by rw [ht]; exact hP, hS.F ht⟩) hS.2.2 dX4_add_97
set_option maxHeartbeats 4000000 in
set_option maxRecDepth 100000 in
theorem c_X4_addF (hh : ad_ok h 20) (hn : n = 100) (fo we sz : Int32) : Met l yX4_add wsX4_add ({ frames := 1, cells := 0, slots := 0, locals := 20 }) (wd_P D cI cJ [.ref (h 1), .int fo, .int we, .int sz] (sl_W cI cJ h (nI n) F Wt Sz Nu Mb (nI k) G Wk To Sl Ri (nI f) (nI b) oT oS oF (nI an) (nI as) Fo wo pa fa)) (pu_Q (some (.int (-4)))) 0 0 (fun _ => False) := by
  refine Met.ofW (cc := cX4_add) (maxL := 6) (ret := (some .int)) (by decide) rfl ?_
  intro p e s m args below meth c s₁ B hml hv
  obtain ⟨rfl, hP, hK⟩ := hv
  have hx := B.exec
  have hb := B.bytes
  have hr := B.returns
  have hts := atoms_spec (ws := wsX4_add) B.pre
  have hown : s.vm.findClass RX4 = some m.cls := findClass_of_methodNamed B.named
  have hlocks := B.notSynchronized
  have hl := lv_entry ([.ref (h 1), .int fo, .int we, .int sz]) (n := 6) (Nat.le_of_ble_eq_true rfl)
  rw [lg_entry_eq]
  generalize (lg_sl ([.ref (h 1), .int fo, .int we, .int sz]) ++ List.replicate (6 - (lg_sl ([.ref (h 1), .int fo, .int we, .int sz])).length) Slot.unset).toArray = ls at hl ⊢
  have hl : lv_has ls 6 [(0, .ref (h 1)), (1, .int fo), (2, .int we), (3, .int sz)] := hl
  refine lv_aload_n hx hb dX4_add_0 rfl (lv_at hl 0 rfl) ?_
  refine pu_callb (va_runV (As := []) (rest := []) ⟨hx, hb, hml, hown, hts⟩ (c_X4_areFull hh (by omega)) (cwV 0 hts gX4_add_X4_areFull rfl rfl rfl (by decide +kernel) ⟨Nat.le_of_ble_eq_true rfl, Nat.le_of_ble_eq_true rfl⟩) (wd_preV (ci := 4) (q0 := 1) hP hK rfl rfl) rfl rfl hl.1 rfl (lv_room (Nat.le_of_ble_eq_true rfl)) dX4_add_1 ⟨Nat.zero_le _, Nat.zero_le _⟩) (fun _ => ?_) (fun h9 => absurd (show decide (100 ≤ n) = true by simp; omega) (by rw [h9]; decide))
  refine lv_if_eq (tgt := 10) hx hb dX4_add_4 (by decide) (fun h9 => absurd h9 (by decide)) (fun _ => ?_)
  refine lv_bipush (v := (-4)) hx hb dX4_add_7 (by decide) ?_
  exact W.iret (v := (-4)) hx hb hr (fun t9 ht _ => ⟨congrArg (fun z => Outcome.returned (some (Value.int z))) (rfl), ht⟩) (fun _ h9 => nomatch h9) dX4_add_9
set_option maxHeartbeats 4000000 in
set_option maxRecDepth 100000 in
theorem c_X4_formOf (hh : ad_ok h 20) (hn : n ≤ 100) (r : Nat) (hr9 : r < n) : Met l yX4_formOf wsX4_formOf ({ frames := 1, cells := 0, slots := 0, locals := 21 }) (wd_P D cI cJ [.ref (h 1), .int (nI r)] (sl_W cI cJ h (nI n) F Wt Sz Nu Mb (nI k) G Wk To Sl Ri (nI f) (nI b) oT oS oF (nI an) (nI as) Fo wo pa fa)) (pu_Q (some (.int (F r)))) 0 0 (fun _ => False) := by
  refine Met.ofW (cc := cX4_formOf) (maxL := 2) (ret := (some .int)) (by decide) rfl ?_
  intro p e s m args below meth c s₁ B hml hv
  obtain ⟨rfl, hP, hK⟩ := hv
  have hx := B.exec
  have hb := B.bytes
  have hr := B.returns
  have hts := atoms_spec (ws := wsX4_formOf) B.pre
  have hown : s.vm.findClass RX4 = some m.cls := findClass_of_methodNamed B.named
  have hlocks := B.notSynchronized
  have hiX4 : ∀ w ∈ u_ws RX4 TX4 6, w ∈ wsX4_formOf := by decide +kernel
  have kf9 := hts (.fieldLink RX4 9 "SortingLine$Things" "forms" "[I") (by decide +kernel)
  have hl := lv_entry ([.ref (h 1), .int (nI r)]) (n := 2) (Nat.le_of_ble_eq_true rfl)
  rw [lg_entry_eq]
  generalize (lg_sl ([.ref (h 1), .int (nI r)]) ++ List.replicate (2 - (lg_sl ([.ref (h 1), .int (nI r)])).length) Slot.unset).toArray = ls at hl ⊢
  have hl : lv_has ls 2 [(0, .ref (h 1)), (1, .int (nI r))] := hl
  refine lv_aload_n hx hb dX4_formOf_0 rfl (lv_at hl 0 rfl) ?_
  refine lv_iload_n hx hb dX4_formOf_1 rfl (lv_at hl 1 rfl) ?_
  refine pu_callb (va_runV (As := [.int (nI r)]) (rest := []) ⟨hx, hb, hml, hown, hts⟩ (c_X4_hold hh (nI r)) (cwV 1 hts gX4_formOf_X4_hold rfl rfl rfl (by decide +kernel) ⟨Nat.le_of_ble_eq_true rfl, Nat.le_of_ble_eq_true rfl⟩) (wd_preV (ci := 4) (q0 := 1) hP hK rfl rfl) rfl rfl hl.1 rfl (lv_room (Nat.le_of_ble_eq_true rfl)) dX4_formOf_2 ⟨Nat.zero_le _, Nat.zero_le _⟩) (fun _ => ?_) (fun h9 => absurd (p_in_nI hr9 (by omega)) (by rw [h9]; decide))
  refine lv_if_eq (tgt := 17) hx hb dX4_formOf_5 (by decide) (fun h9 => absurd h9 (by decide)) (fun _ => ?_)
  refine lv_aload_n hx hb dX4_formOf_8 rfl (lv_at hl 0 rfl) ?_
  refine va_get (D := D) (ci := 4) (v := .ref (h 6)) (C := RX4) (T := TX4) (N := 6) hx hb hts hiX4 hown hK.1 hP 1 rfl rfl 0 (by decide) kf9 (fun _ h9 => h9) rfl dX4_formOf_9 ?_
  refine lv_iload_n hx hb dX4_formOf_12 rfl (lv_at hl 1 rfl) ?_
  refine ga_ild hx hb hK hP 6 rfl r (rfl) (by omega) (by decide) dX4_formOf_13 ?_
  refine lv_goto (tgt := 19) hx hb dX4_formOf_14 (by decide) ?_
  exact W.iret (v := F r) hx hb hr (fun t9 ht _ => ⟨congrArg (fun z => Outcome.returned (some (Value.int z))) (rfl), ht⟩) (fun _ h9 => nomatch h9) dX4_formOf_19
set_option maxHeartbeats 4000000 in
set_option maxRecDepth 100000 in
theorem c_X4_weightOf (hh : ad_ok h 20) (hn : n ≤ 100) (r : Nat) (hr9 : r < n) : Met l yX4_weightOf wsX4_weightOf ({ frames := 1, cells := 0, slots := 0, locals := 21 }) (wd_P D cI cJ [.ref (h 1), .int (nI r)] (sl_W cI cJ h (nI n) F Wt Sz Nu Mb (nI k) G Wk To Sl Ri (nI f) (nI b) oT oS oF (nI an) (nI as) Fo wo pa fa)) (pu_Q (some (.int (Wt r)))) 0 0 (fun _ => False) := by
  refine Met.ofW (cc := cX4_weightOf) (maxL := 2) (ret := (some .int)) (by decide) rfl ?_
  intro p e s m args below meth c s₁ B hml hv
  obtain ⟨rfl, hP, hK⟩ := hv
  have hx := B.exec
  have hb := B.bytes
  have hr := B.returns
  have hts := atoms_spec (ws := wsX4_weightOf) B.pre
  have hown : s.vm.findClass RX4 = some m.cls := findClass_of_methodNamed B.named
  have hlocks := B.notSynchronized
  have hiX4 : ∀ w ∈ u_ws RX4 TX4 6, w ∈ wsX4_weightOf := by decide +kernel
  have kf15 := hts (.fieldLink RX4 15 "SortingLine$Things" "weights" "[I") (by decide +kernel)
  have hl := lv_entry ([.ref (h 1), .int (nI r)]) (n := 2) (Nat.le_of_ble_eq_true rfl)
  rw [lg_entry_eq]
  generalize (lg_sl ([.ref (h 1), .int (nI r)]) ++ List.replicate (2 - (lg_sl ([.ref (h 1), .int (nI r)])).length) Slot.unset).toArray = ls at hl ⊢
  have hl : lv_has ls 2 [(0, .ref (h 1)), (1, .int (nI r))] := hl
  refine lv_aload_n hx hb dX4_weightOf_0 rfl (lv_at hl 0 rfl) ?_
  refine lv_iload_n hx hb dX4_weightOf_1 rfl (lv_at hl 1 rfl) ?_
  refine pu_callb (va_runV (As := [.int (nI r)]) (rest := []) ⟨hx, hb, hml, hown, hts⟩ (c_X4_hold hh (nI r)) (cwV 1 hts gX4_weightOf_X4_hold rfl rfl rfl (by decide +kernel) ⟨Nat.le_of_ble_eq_true rfl, Nat.le_of_ble_eq_true rfl⟩) (wd_preV (ci := 4) (q0 := 1) hP hK rfl rfl) rfl rfl hl.1 rfl (lv_room (Nat.le_of_ble_eq_true rfl)) dX4_weightOf_2 ⟨Nat.zero_le _, Nat.zero_le _⟩) (fun _ => ?_) (fun h9 => absurd (p_in_nI hr9 (by omega)) (by rw [h9]; decide))
  refine lv_if_eq (tgt := 17) hx hb dX4_weightOf_5 (by decide) (fun h9 => absurd h9 (by decide)) (fun _ => ?_)
  refine lv_aload_n hx hb dX4_weightOf_8 rfl (lv_at hl 0 rfl) ?_
  refine va_get (D := D) (ci := 4) (v := .ref (h 7)) (C := RX4) (T := TX4) (N := 6) hx hb hts hiX4 hown hK.1 hP 1 rfl rfl 1 (by decide) kf15 (fun _ h9 => h9) rfl dX4_weightOf_9 ?_
  refine lv_iload_n hx hb dX4_weightOf_12 rfl (lv_at hl 1 rfl) ?_
  refine ga_ild hx hb hK hP 7 rfl r (rfl) (by omega) (by decide) dX4_weightOf_13 ?_
  refine lv_goto (tgt := 18) hx hb dX4_weightOf_14 (by decide) ?_
  exact W.iret (v := Wt r) hx hb hr (fun t9 ht _ => ⟨congrArg (fun z => Outcome.returned (some (Value.int z))) (rfl), ht⟩) (fun _ h9 => nomatch h9) dX4_weightOf_18
set_option maxHeartbeats 4000000 in
set_option maxRecDepth 100000 in
theorem c_X4_sizeOf (hh : ad_ok h 20) (hn : n ≤ 100) (r : Nat) (hr9 : r < n) : Met l yX4_sizeOf wsX4_sizeOf ({ frames := 1, cells := 0, slots := 0, locals := 21 }) (wd_P D cI cJ [.ref (h 1), .int (nI r)] (sl_W cI cJ h (nI n) F Wt Sz Nu Mb (nI k) G Wk To Sl Ri (nI f) (nI b) oT oS oF (nI an) (nI as) Fo wo pa fa)) (pu_Q (some (.int (Sz r)))) 0 0 (fun _ => False) := by
  refine Met.ofW (cc := cX4_sizeOf) (maxL := 2) (ret := (some .int)) (by decide) rfl ?_
  intro p e s m args below meth c s₁ B hml hv
  obtain ⟨rfl, hP, hK⟩ := hv
  have hx := B.exec
  have hb := B.bytes
  have hr := B.returns
  have hts := atoms_spec (ws := wsX4_sizeOf) B.pre
  have hown : s.vm.findClass RX4 = some m.cls := findClass_of_methodNamed B.named
  have hlocks := B.notSynchronized
  have hiX4 : ∀ w ∈ u_ws RX4 TX4 6, w ∈ wsX4_sizeOf := by decide +kernel
  have kf18 := hts (.fieldLink RX4 18 "SortingLine$Things" "sizes" "[I") (by decide +kernel)
  have hl := lv_entry ([.ref (h 1), .int (nI r)]) (n := 2) (Nat.le_of_ble_eq_true rfl)
  rw [lg_entry_eq]
  generalize (lg_sl ([.ref (h 1), .int (nI r)]) ++ List.replicate (2 - (lg_sl ([.ref (h 1), .int (nI r)])).length) Slot.unset).toArray = ls at hl ⊢
  have hl : lv_has ls 2 [(0, .ref (h 1)), (1, .int (nI r))] := hl
  refine lv_aload_n hx hb dX4_sizeOf_0 rfl (lv_at hl 0 rfl) ?_
  refine lv_iload_n hx hb dX4_sizeOf_1 rfl (lv_at hl 1 rfl) ?_
  refine pu_callb (va_runV (As := [.int (nI r)]) (rest := []) ⟨hx, hb, hml, hown, hts⟩ (c_X4_hold hh (nI r)) (cwV 1 hts gX4_sizeOf_X4_hold rfl rfl rfl (by decide +kernel) ⟨Nat.le_of_ble_eq_true rfl, Nat.le_of_ble_eq_true rfl⟩) (wd_preV (ci := 4) (q0 := 1) hP hK rfl rfl) rfl rfl hl.1 rfl (lv_room (Nat.le_of_ble_eq_true rfl)) dX4_sizeOf_2 ⟨Nat.zero_le _, Nat.zero_le _⟩) (fun _ => ?_) (fun h9 => absurd (p_in_nI hr9 (by omega)) (by rw [h9]; decide))
  refine lv_if_eq (tgt := 17) hx hb dX4_sizeOf_5 (by decide) (fun h9 => absurd h9 (by decide)) (fun _ => ?_)
  refine lv_aload_n hx hb dX4_sizeOf_8 rfl (lv_at hl 0 rfl) ?_
  refine va_get (D := D) (ci := 4) (v := .ref (h 8)) (C := RX4) (T := TX4) (N := 6) hx hb hts hiX4 hown hK.1 hP 1 rfl rfl 2 (by decide) kf18 (fun _ h9 => h9) rfl dX4_sizeOf_9 ?_
  refine lv_iload_n hx hb dX4_sizeOf_12 rfl (lv_at hl 1 rfl) ?_
  refine ga_ild hx hb hK hP 8 rfl r (rfl) (by omega) (by decide) dX4_sizeOf_13 ?_
  refine lv_goto (tgt := 18) hx hb dX4_sizeOf_14 (by decide) ?_
  exact W.iret (v := Sz r) hx hb hr (fun t9 ht _ => ⟨congrArg (fun z => Outcome.returned (some (Value.int z))) (rfl), ht⟩) (fun _ h9 => nomatch h9) dX4_sizeOf_18
theorem sw_X5_alsoIs_1 (x : Int32) : ((x.toInt < 1 ∨ 13 < x.toInt) ∧ ¬ x = 1 ∧ ¬ x = 2 ∧ ¬ x = 3 ∧ ¬ x = 4 ∧ ¬ x = 5 ∧ ¬ x = 6 ∧ ¬ x = 7 ∧ ¬ x = 8 ∧ ¬ x = 9 ∧ ¬ x = 10 ∧ ¬ x = 11 ∧ ¬ x = 12 ∧ ¬ x = 13) ∨ x = 1 ∨ x = 2 ∨ x = 3 ∨ x = 4 ∨ x = 5 ∨ x = 6 ∨ x = 7 ∨ x = 8 ∨ x = 9 ∨ x = 10 ∨ x = 11 ∨ x = 12 ∨ x = 13 := by
  by_cases h1 : x.toInt < 1
  · exact Or.inl ⟨Or.inl h1, (fun h => by rw [h] at h1; exact absurd h1 (by decide)), (fun h => by rw [h] at h1; exact absurd h1 (by decide)), (fun h => by rw [h] at h1; exact absurd h1 (by decide)), (fun h => by rw [h] at h1; exact absurd h1 (by decide)), (fun h => by rw [h] at h1; exact absurd h1 (by decide)), (fun h => by rw [h] at h1; exact absurd h1 (by decide)), (fun h => by rw [h] at h1; exact absurd h1 (by decide)), (fun h => by rw [h] at h1; exact absurd h1 (by decide)), (fun h => by rw [h] at h1; exact absurd h1 (by decide)), (fun h => by rw [h] at h1; exact absurd h1 (by decide)), (fun h => by rw [h] at h1; exact absurd h1 (by decide)), (fun h => by rw [h] at h1; exact absurd h1 (by decide)), (fun h => by rw [h] at h1; exact absurd h1 (by decide))⟩
  by_cases h2 : 13 < x.toInt
  · exact Or.inl ⟨Or.inr h2, (fun h => by rw [h] at h2; exact absurd h2 (by decide)), (fun h => by rw [h] at h2; exact absurd h2 (by decide)), (fun h => by rw [h] at h2; exact absurd h2 (by decide)), (fun h => by rw [h] at h2; exact absurd h2 (by decide)), (fun h => by rw [h] at h2; exact absurd h2 (by decide)), (fun h => by rw [h] at h2; exact absurd h2 (by decide)), (fun h => by rw [h] at h2; exact absurd h2 (by decide)), (fun h => by rw [h] at h2; exact absurd h2 (by decide)), (fun h => by rw [h] at h2; exact absurd h2 (by decide)), (fun h => by rw [h] at h2; exact absurd h2 (by decide)), (fun h => by rw [h] at h2; exact absurd h2 (by decide)), (fun h => by rw [h] at h2; exact absurd h2 (by decide)), (fun h => by rw [h] at h2; exact absurd h2 (by decide))⟩
  have h3 : x.toInt = 1 ∨ x.toInt = 2 ∨ x.toInt = 3 ∨ x.toInt = 4 ∨ x.toInt = 5 ∨ x.toInt = 6 ∨ x.toInt = 7 ∨ x.toInt = 8 ∨ x.toInt = 9 ∨ x.toInt = 10 ∨ x.toInt = 11 ∨ x.toInt = 12 ∨ x.toInt = 13 := by omega
  refine Or.inr ?_
  rcases h3 with h | h | h | h | h | h | h | h | h | h | h | h | h
  · exact Or.inl <| (Int32.toInt_inj.mp (h.trans (by decide)))
  · exact Or.inr <| Or.inl <| (Int32.toInt_inj.mp (h.trans (by decide)))
  · exact Or.inr <| Or.inr <| Or.inl <| (Int32.toInt_inj.mp (h.trans (by decide)))
  · exact Or.inr <| Or.inr <| Or.inr <| Or.inl <| (Int32.toInt_inj.mp (h.trans (by decide)))
  · exact Or.inr <| Or.inr <| Or.inr <| Or.inr <| Or.inl <| (Int32.toInt_inj.mp (h.trans (by decide)))
  · exact Or.inr <| Or.inr <| Or.inr <| Or.inr <| Or.inr <| Or.inl <| (Int32.toInt_inj.mp (h.trans (by decide)))
  · exact Or.inr <| Or.inr <| Or.inr <| Or.inr <| Or.inr <| Or.inr <| Or.inl <| (Int32.toInt_inj.mp (h.trans (by decide)))
  · exact Or.inr <| Or.inr <| Or.inr <| Or.inr <| Or.inr <| Or.inr <| Or.inr <| Or.inl <| (Int32.toInt_inj.mp (h.trans (by decide)))
  · exact Or.inr <| Or.inr <| Or.inr <| Or.inr <| Or.inr <| Or.inr <| Or.inr <| Or.inr <| Or.inl <| (Int32.toInt_inj.mp (h.trans (by decide)))
  · exact Or.inr <| Or.inr <| Or.inr <| Or.inr <| Or.inr <| Or.inr <| Or.inr <| Or.inr <| Or.inr <| Or.inl <| (Int32.toInt_inj.mp (h.trans (by decide)))
  · exact Or.inr <| Or.inr <| Or.inr <| Or.inr <| Or.inr <| Or.inr <| Or.inr <| Or.inr <| Or.inr <| Or.inr <| Or.inl <| (Int32.toInt_inj.mp (h.trans (by decide)))
  · exact Or.inr <| Or.inr <| Or.inr <| Or.inr <| Or.inr <| Or.inr <| Or.inr <| Or.inr <| Or.inr <| Or.inr <| Or.inr <| Or.inl <| (Int32.toInt_inj.mp (h.trans (by decide)))
  · exact Or.inr <| Or.inr <| Or.inr <| Or.inr <| Or.inr <| Or.inr <| Or.inr <| Or.inr <| Or.inr <| Or.inr <| Or.inr <| Or.inr <| (Int32.toInt_inj.mp (h.trans (by decide)))
set_option maxHeartbeats 4000000 in
set_option maxRecDepth 100000 in
theorem c_X5_alsoIs (fo kd : Int32) : Met l yX5_alsoIs wsX5_alsoIs ({ frames := 0, cells := 0, slots := 0, locals := 0 }) (wd_P D cI cJ [.int fo, .int kd] (sl_W cI cJ h (nI n) F Wt Sz Nu Mb (nI k) G Wk To Sl Ri (nI f) (nI b) oT oS oF (nI an) (nI as) Fo wo pa fa)) (pu_Q (some (.int (bI (also fo kd))))) 0 0 (fun _ => False) := by
  refine Met.ofW (cc := cX5_alsoIs) (maxL := 2) (ret := (some .boolean)) (by decide) rfl ?_
  intro p e s m args below meth c s₁ B hml hv
  obtain ⟨rfl, hP, hK⟩ := hv
  have hx := B.exec
  have hb := B.bytes
  have hr := B.returns
  have hts := atoms_spec (ws := wsX5_alsoIs) B.pre
  have hown : s.vm.findClass RX5 = some m.cls := findClass_of_methodNamed B.named
  have hlocks := B.notSynchronized
  have hl := lv_entry ([.int fo, .int kd]) (n := 2) (Nat.le_of_ble_eq_true rfl)
  rw [lg_entry_eq]
  generalize (lg_sl ([.int fo, .int kd]) ++ List.replicate (2 - (lg_sl ([.int fo, .int kd])).length) Slot.unset).toArray = ls at hl ⊢
  have hl : lv_has ls 2 [(0, .int fo), (1, .int kd)] := hl
  refine lv_iload_n hx hb dX5_alsoIs_0 rfl (lv_at hl 0 rfl) ?_
  rcases (sw_X5_alsoIs_1 fo) with ho1 | rfl | rfl | rfl | rfl | rfl | rfl | rfl | rfl | rfl | rfl | rfl | rfl | rfl
  · skip
    refine lv_tableOut (tgt := 171) hx hb dX5_alsoIs_1 ho1.1 (by decide) ?_
    refine lv_iconst (v := 0) hx hb dX5_alsoIs_171 (by decide) ?_
    exact W.zret (ty := .boolean) (v := 0) hx hb hr (by decide) (fun t9 ht _ => ⟨congrArg (fun z => Outcome.returned (some (Value.int z))) (by simp [also, bI, ho1.2]), ht⟩) (fun _ h9 => nomatch h9) dX5_alsoIs_172
  · skip
    refine lv_tableIn (off := 67) (tgt := 68) hx hb dX5_alsoIs_1 (by decide) (by decide) (by decide) (by decide) ?_
    refine lv_iload_n hx hb dX5_alsoIs_68 rfl (lv_at hl 1 rfl) ?_
    refine lv_if_ne (tgt := 76) hx hb dX5_alsoIs_69 (by decide) (fun c69 => ?_) (fun c69 => ?_)
    · skip
      refine lv_iconst (v := 0) hx hb dX5_alsoIs_76 (by decide) ?_
      refine lv_goto (tgt := 172) hx hb dX5_alsoIs_77 (by decide) ?_
      exact W.zret (ty := .boolean) (v := 0) hx hb hr (by decide) (fun t9 ht _ => ⟨congrArg (fun z => Outcome.returned (some (Value.int z))) (by simp [also, bI, c69]), ht⟩) (fun _ h9 => nomatch h9) dX5_alsoIs_172
    · skip
      refine lv_iconst (v := 1) hx hb dX5_alsoIs_72 (by decide) ?_
      refine lv_goto (tgt := 172) hx hb dX5_alsoIs_73 (by decide) ?_
      exact W.zret (ty := .boolean) (v := 1) hx hb hr (by decide) (fun t9 ht _ => ⟨congrArg (fun z => Outcome.returned (some (Value.int z))) (by simp [also, bI, c69]), ht⟩) (fun _ h9 => nomatch h9) dX5_alsoIs_172
  · skip
    refine lv_tableIn (off := 79) (tgt := 80) hx hb dX5_alsoIs_1 (by decide) (by decide) (by decide) (by decide) ?_
    refine lv_iload_n hx hb dX5_alsoIs_80 rfl (lv_at hl 1 rfl) ?_
    refine lv_if_eq (tgt := 95) hx hb dX5_alsoIs_81 (by decide) (fun c81 => ?_) (fun c81 => ?_)
    · skip
      refine lv_iconst (v := 1) hx hb dX5_alsoIs_95 (by decide) ?_
      refine lv_goto (tgt := 172) hx hb dX5_alsoIs_96 (by decide) ?_
      exact W.zret (ty := .boolean) (v := 1) hx hb hr (by decide) (fun t9 ht _ => ⟨congrArg (fun z => Outcome.returned (some (Value.int z))) (by simp [also, bI, c81]), ht⟩) (fun _ h9 => nomatch h9) dX5_alsoIs_172
    · skip
      refine lv_iload_n hx hb dX5_alsoIs_84 rfl (lv_at hl 1 rfl) ?_
      refine lv_iconst (v := 1) hx hb dX5_alsoIs_85 (by decide) ?_
      refine lv_icmp_eq (tgt := 95) hx hb dX5_alsoIs_86 (by decide) (fun c86 => ?_) (fun c86 => ?_)
      · skip
        refine lv_iconst (v := 1) hx hb dX5_alsoIs_95 (by decide) ?_
        refine lv_goto (tgt := 172) hx hb dX5_alsoIs_96 (by decide) ?_
        exact W.zret (ty := .boolean) (v := 1) hx hb hr (by decide) (fun t9 ht _ => ⟨congrArg (fun z => Outcome.returned (some (Value.int z))) (by simp [also, bI, c81, c86]), ht⟩) (fun _ h9 => nomatch h9) dX5_alsoIs_172
      · skip
        refine lv_iload_n hx hb dX5_alsoIs_89 rfl (lv_at hl 1 rfl) ?_
        refine lv_bipush (v := 16) hx hb dX5_alsoIs_90 (by decide) ?_
        refine lv_icmp_ne (tgt := 99) hx hb dX5_alsoIs_92 (by decide) (fun c92 => ?_) (fun c92 => ?_)
        · skip
          refine lv_iconst (v := 0) hx hb dX5_alsoIs_99 (by decide) ?_
          refine lv_goto (tgt := 172) hx hb dX5_alsoIs_100 (by decide) ?_
          exact W.zret (ty := .boolean) (v := 0) hx hb hr (by decide) (fun t9 ht _ => ⟨congrArg (fun z => Outcome.returned (some (Value.int z))) (by simp [also, bI, c81, c86, c92]), ht⟩) (fun _ h9 => nomatch h9) dX5_alsoIs_172
        · skip
          refine lv_iconst (v := 1) hx hb dX5_alsoIs_95 (by decide) ?_
          refine lv_goto (tgt := 172) hx hb dX5_alsoIs_96 (by decide) ?_
          exact W.zret (ty := .boolean) (v := 1) hx hb hr (by decide) (fun t9 ht _ => ⟨congrArg (fun z => Outcome.returned (some (Value.int z))) (by simp [also, bI, c81, c86, c92]), ht⟩) (fun _ h9 => nomatch h9) dX5_alsoIs_172
  · skip
    refine lv_tableIn (off := 102) (tgt := 103) hx hb dX5_alsoIs_1 (by decide) (by decide) (by decide) (by decide) ?_
    refine lv_iload_n hx hb dX5_alsoIs_103 rfl (lv_at hl 1 rfl) ?_
    refine lv_bipush (v := 16) hx hb dX5_alsoIs_104 (by decide) ?_
    refine lv_icmp_ne (tgt := 113) hx hb dX5_alsoIs_106 (by decide) (fun c106 => ?_) (fun c106 => ?_)
    · skip
      refine lv_iconst (v := 0) hx hb dX5_alsoIs_113 (by decide) ?_
      refine lv_goto (tgt := 172) hx hb dX5_alsoIs_114 (by decide) ?_
      exact W.zret (ty := .boolean) (v := 0) hx hb hr (by decide) (fun t9 ht _ => ⟨congrArg (fun z => Outcome.returned (some (Value.int z))) (by simp [also, bI, c106]), ht⟩) (fun _ h9 => nomatch h9) dX5_alsoIs_172
    · skip
      refine lv_iconst (v := 1) hx hb dX5_alsoIs_109 (by decide) ?_
      refine lv_goto (tgt := 172) hx hb dX5_alsoIs_110 (by decide) ?_
      exact W.zret (ty := .boolean) (v := 1) hx hb hr (by decide) (fun t9 ht _ => ⟨congrArg (fun z => Outcome.returned (some (Value.int z))) (by simp [also, bI, c106]), ht⟩) (fun _ h9 => nomatch h9) dX5_alsoIs_172
  · skip
    refine lv_tableIn (off := 170) (tgt := 171) hx hb dX5_alsoIs_1 (by decide) (by decide) (by decide) (by decide) ?_
    refine lv_iconst (v := 0) hx hb dX5_alsoIs_171 (by decide) ?_
    exact W.zret (ty := .boolean) (v := 0) hx hb hr (by decide) (fun t9 ht _ => ⟨congrArg (fun z => Outcome.returned (some (Value.int z))) (by simp [also, bI]), ht⟩) (fun _ h9 => nomatch h9) dX5_alsoIs_172
  · skip
    refine lv_tableIn (off := 170) (tgt := 171) hx hb dX5_alsoIs_1 (by decide) (by decide) (by decide) (by decide) ?_
    refine lv_iconst (v := 0) hx hb dX5_alsoIs_171 (by decide) ?_
    exact W.zret (ty := .boolean) (v := 0) hx hb hr (by decide) (fun t9 ht _ => ⟨congrArg (fun z => Outcome.returned (some (Value.int z))) (by simp [also, bI]), ht⟩) (fun _ h9 => nomatch h9) dX5_alsoIs_172
  · skip
    refine lv_tableIn (off := 170) (tgt := 171) hx hb dX5_alsoIs_1 (by decide) (by decide) (by decide) (by decide) ?_
    refine lv_iconst (v := 0) hx hb dX5_alsoIs_171 (by decide) ?_
    exact W.zret (ty := .boolean) (v := 0) hx hb hr (by decide) (fun t9 ht _ => ⟨congrArg (fun z => Outcome.returned (some (Value.int z))) (by simp [also, bI]), ht⟩) (fun _ h9 => nomatch h9) dX5_alsoIs_172
  · skip
    refine lv_tableIn (off := 170) (tgt := 171) hx hb dX5_alsoIs_1 (by decide) (by decide) (by decide) (by decide) ?_
    refine lv_iconst (v := 0) hx hb dX5_alsoIs_171 (by decide) ?_
    exact W.zret (ty := .boolean) (v := 0) hx hb hr (by decide) (fun t9 ht _ => ⟨congrArg (fun z => Outcome.returned (some (Value.int z))) (by simp [also, bI]), ht⟩) (fun _ h9 => nomatch h9) dX5_alsoIs_172
  · skip
    refine lv_tableIn (off := 170) (tgt := 171) hx hb dX5_alsoIs_1 (by decide) (by decide) (by decide) (by decide) ?_
    refine lv_iconst (v := 0) hx hb dX5_alsoIs_171 (by decide) ?_
    exact W.zret (ty := .boolean) (v := 0) hx hb hr (by decide) (fun t9 ht _ => ⟨congrArg (fun z => Outcome.returned (some (Value.int z))) (by simp [also, bI]), ht⟩) (fun _ h9 => nomatch h9) dX5_alsoIs_172
  · skip
    refine lv_tableIn (off := 116) (tgt := 117) hx hb dX5_alsoIs_1 (by decide) (by decide) (by decide) (by decide) ?_
    refine lv_iload_n hx hb dX5_alsoIs_117 rfl (lv_at hl 1 rfl) ?_
    refine lv_bipush (v := 8) hx hb dX5_alsoIs_118 (by decide) ?_
    refine lv_icmp_ne (tgt := 127) hx hb dX5_alsoIs_120 (by decide) (fun c120 => ?_) (fun c120 => ?_)
    · skip
      refine lv_iconst (v := 0) hx hb dX5_alsoIs_127 (by decide) ?_
      refine lv_goto (tgt := 172) hx hb dX5_alsoIs_128 (by decide) ?_
      exact W.zret (ty := .boolean) (v := 0) hx hb hr (by decide) (fun t9 ht _ => ⟨congrArg (fun z => Outcome.returned (some (Value.int z))) (by simp [also, bI, c120]), ht⟩) (fun _ h9 => nomatch h9) dX5_alsoIs_172
    · skip
      refine lv_iconst (v := 1) hx hb dX5_alsoIs_123 (by decide) ?_
      refine lv_goto (tgt := 172) hx hb dX5_alsoIs_124 (by decide) ?_
      exact W.zret (ty := .boolean) (v := 1) hx hb hr (by decide) (fun t9 ht _ => ⟨congrArg (fun z => Outcome.returned (some (Value.int z))) (by simp [also, bI, c120]), ht⟩) (fun _ h9 => nomatch h9) dX5_alsoIs_172
  · skip
    refine lv_tableIn (off := 130) (tgt := 131) hx hb dX5_alsoIs_1 (by decide) (by decide) (by decide) (by decide) ?_
    refine lv_iload_n hx hb dX5_alsoIs_131 rfl (lv_at hl 1 rfl) ?_
    refine lv_bipush (v := 8) hx hb dX5_alsoIs_132 (by decide) ?_
    refine lv_icmp_eq (tgt := 149) hx hb dX5_alsoIs_134 (by decide) (fun c134 => ?_) (fun c134 => ?_)
    · skip
      refine lv_iconst (v := 1) hx hb dX5_alsoIs_149 (by decide) ?_
      refine lv_goto (tgt := 172) hx hb dX5_alsoIs_150 (by decide) ?_
      exact W.zret (ty := .boolean) (v := 1) hx hb hr (by decide) (fun t9 ht _ => ⟨congrArg (fun z => Outcome.returned (some (Value.int z))) (by simp [also, bI, c134]), ht⟩) (fun _ h9 => nomatch h9) dX5_alsoIs_172
    · skip
      refine lv_iload_n hx hb dX5_alsoIs_137 rfl (lv_at hl 1 rfl) ?_
      refine lv_bipush (v := 9) hx hb dX5_alsoIs_138 (by decide) ?_
      refine lv_icmp_eq (tgt := 149) hx hb dX5_alsoIs_140 (by decide) (fun c140 => ?_) (fun c140 => ?_)
      · skip
        refine lv_iconst (v := 1) hx hb dX5_alsoIs_149 (by decide) ?_
        refine lv_goto (tgt := 172) hx hb dX5_alsoIs_150 (by decide) ?_
        exact W.zret (ty := .boolean) (v := 1) hx hb hr (by decide) (fun t9 ht _ => ⟨congrArg (fun z => Outcome.returned (some (Value.int z))) (by simp [also, bI, c134, c140]), ht⟩) (fun _ h9 => nomatch h9) dX5_alsoIs_172
      · skip
        refine lv_iload_n hx hb dX5_alsoIs_143 rfl (lv_at hl 1 rfl) ?_
        refine lv_bipush (v := 11) hx hb dX5_alsoIs_144 (by decide) ?_
        refine lv_icmp_ne (tgt := 153) hx hb dX5_alsoIs_146 (by decide) (fun c146 => ?_) (fun c146 => ?_)
        · skip
          refine lv_iconst (v := 0) hx hb dX5_alsoIs_153 (by decide) ?_
          refine lv_goto (tgt := 172) hx hb dX5_alsoIs_154 (by decide) ?_
          exact W.zret (ty := .boolean) (v := 0) hx hb hr (by decide) (fun t9 ht _ => ⟨congrArg (fun z => Outcome.returned (some (Value.int z))) (by simp [also, bI, c134, c140, c146]), ht⟩) (fun _ h9 => nomatch h9) dX5_alsoIs_172
        · skip
          refine lv_iconst (v := 1) hx hb dX5_alsoIs_149 (by decide) ?_
          refine lv_goto (tgt := 172) hx hb dX5_alsoIs_150 (by decide) ?_
          exact W.zret (ty := .boolean) (v := 1) hx hb hr (by decide) (fun t9 ht _ => ⟨congrArg (fun z => Outcome.returned (some (Value.int z))) (by simp [also, bI, c134, c140, c146]), ht⟩) (fun _ h9 => nomatch h9) dX5_alsoIs_172
  · skip
    refine lv_tableIn (off := 170) (tgt := 171) hx hb dX5_alsoIs_1 (by decide) (by decide) (by decide) (by decide) ?_
    refine lv_iconst (v := 0) hx hb dX5_alsoIs_171 (by decide) ?_
    exact W.zret (ty := .boolean) (v := 0) hx hb hr (by decide) (fun t9 ht _ => ⟨congrArg (fun z => Outcome.returned (some (Value.int z))) (by simp [also, bI]), ht⟩) (fun _ h9 => nomatch h9) dX5_alsoIs_172
  · skip
    refine lv_tableIn (off := 170) (tgt := 171) hx hb dX5_alsoIs_1 (by decide) (by decide) (by decide) (by decide) ?_
    refine lv_iconst (v := 0) hx hb dX5_alsoIs_171 (by decide) ?_
    exact W.zret (ty := .boolean) (v := 0) hx hb hr (by decide) (fun t9 ht _ => ⟨congrArg (fun z => Outcome.returned (some (Value.int z))) (by simp [also, bI]), ht⟩) (fun _ h9 => nomatch h9) dX5_alsoIs_172
  · skip
    refine lv_tableIn (off := 156) (tgt := 157) hx hb dX5_alsoIs_1 (by decide) (by decide) (by decide) (by decide) ?_
    refine lv_iload_n hx hb dX5_alsoIs_157 rfl (lv_at hl 1 rfl) ?_
    refine lv_bipush (v := 12) hx hb dX5_alsoIs_158 (by decide) ?_
    refine lv_icmp_ne (tgt := 167) hx hb dX5_alsoIs_160 (by decide) (fun c160 => ?_) (fun c160 => ?_)
    · skip
      refine lv_iconst (v := 0) hx hb dX5_alsoIs_167 (by decide) ?_
      refine lv_goto (tgt := 172) hx hb dX5_alsoIs_168 (by decide) ?_
      exact W.zret (ty := .boolean) (v := 0) hx hb hr (by decide) (fun t9 ht _ => ⟨congrArg (fun z => Outcome.returned (some (Value.int z))) (by simp [also, bI, c160]), ht⟩) (fun _ h9 => nomatch h9) dX5_alsoIs_172
    · skip
      refine lv_iconst (v := 1) hx hb dX5_alsoIs_163 (by decide) ?_
      refine lv_goto (tgt := 172) hx hb dX5_alsoIs_164 (by decide) ?_
      exact W.zret (ty := .boolean) (v := 1) hx hb hr (by decide) (fun t9 ht _ => ⟨congrArg (fun z => Outcome.returned (some (Value.int z))) (by simp [also, bI, c160]), ht⟩) (fun _ h9 => nomatch h9) dX5_alsoIs_172
set_option maxHeartbeats 4000000 in
set_option maxRecDepth 100000 in
theorem c_X4_isOf (hh : ad_ok h 20) (hn : n ≤ 100) (r : Nat) (hr9 : r < n) (kd : Int32) : Met l yX4_isOf wsX4_isOf ({ frames := 1, cells := 0, slots := 0, locals := 21 }) (wd_P D cI cJ [.ref (h 1), .int (nI r), .int kd] (sl_W cI cJ h (nI n) F Wt Sz Nu Mb (nI k) G Wk To Sl Ri (nI f) (nI b) oT oS oF (nI an) (nI as) Fo wo pa fa)) (pu_Q (some (.int (bI (ko (F r) kd))))) 0 0 (fun _ => False) := by
  refine Met.ofW (cc := cX4_isOf) (maxL := 3) (ret := (some .boolean)) (by decide) rfl ?_
  intro p e s m args below meth c s₁ B hml hv
  obtain ⟨rfl, hP, hK⟩ := hv
  have hx := B.exec
  have hb := B.bytes
  have hr := B.returns
  have hts := atoms_spec (ws := wsX4_isOf) B.pre
  have hown : s.vm.findClass RX4 = some m.cls := findClass_of_methodNamed B.named
  have hlocks := B.notSynchronized
  have hiX4 : ∀ w ∈ u_ws RX4 TX4 6, w ∈ wsX4_isOf := by decide +kernel
  have kf9 := hts (.fieldLink RX4 9 "SortingLine$Things" "forms" "[I") (by decide +kernel)
  have hl := lv_entry ([.ref (h 1), .int (nI r), .int kd]) (n := 3) (Nat.le_of_ble_eq_true rfl)
  rw [lg_entry_eq]
  generalize (lg_sl ([.ref (h 1), .int (nI r), .int kd]) ++ List.replicate (3 - (lg_sl ([.ref (h 1), .int (nI r), .int kd])).length) Slot.unset).toArray = ls at hl ⊢
  have hl : lv_has ls 3 [(0, .ref (h 1)), (1, .int (nI r)), (2, .int kd)] := hl
  refine lv_aload_n hx hb dX4_isOf_0 rfl (lv_at hl 0 rfl) ?_
  refine lv_iload_n hx hb dX4_isOf_1 rfl (lv_at hl 1 rfl) ?_
  refine pu_callb (va_runV (As := [.int (nI r)]) (rest := []) ⟨hx, hb, hml, hown, hts⟩ (c_X4_hold hh (nI r)) (cwV 1 hts gX4_isOf_X4_hold rfl rfl rfl (by decide +kernel) ⟨Nat.le_of_ble_eq_true rfl, Nat.le_of_ble_eq_true rfl⟩) (wd_preV (ci := 4) (q0 := 1) hP hK rfl rfl) rfl rfl hl.1 rfl (lv_room (Nat.le_of_ble_eq_true rfl)) dX4_isOf_2 ⟨Nat.zero_le _, Nat.zero_le _⟩) (fun _ => ?_) (fun h9 => absurd (p_in_nI hr9 (by omega)) (by rw [h9]; decide))
  refine lv_if_ne (tgt := 10) hx hb dX4_isOf_5 (by decide) (fun _ => ?_) (fun h9 => absurd h9 (by decide))
  refine lv_iload_n hx hb dX4_isOf_10 rfl (lv_at hl 2 rfl) ?_
  refine lv_bipush (v := 17) hx hb dX4_isOf_11 (by decide) ?_
  refine lv_icmp_eq (tgt := 39) hx hb dX4_isOf_13 (by decide) (fun c13 => ?_) (fun c13 => ?_)
  · skip
    refine lv_iconst (v := 1) hx hb dX4_isOf_39 (by decide) ?_
    refine lv_goto (tgt := 44) hx hb dX4_isOf_40 (by decide) ?_
    exact W.zret (ty := .boolean) (v := 1) hx hb hr (by decide) (fun t9 ht _ => ⟨congrArg (fun z => Outcome.returned (some (Value.int z))) (by simp [ko, bI, c13]), ht⟩) (fun _ h9 => nomatch h9) dX4_isOf_44
  · skip
    refine lv_iload_n hx hb dX4_isOf_16 rfl (lv_at hl 2 rfl) ?_
    refine lv_aload_n hx hb dX4_isOf_17 rfl (lv_at hl 0 rfl) ?_
    refine va_get (D := D) (ci := 4) (v := .ref (h 6)) (C := RX4) (T := TX4) (N := 6) hx hb hts hiX4 hown hK.1 hP 1 rfl rfl 0 (by decide) kf9 (fun _ h9 => h9) rfl dX4_isOf_18 ?_
    refine lv_iload_n hx hb dX4_isOf_21 rfl (lv_at hl 1 rfl) ?_
    refine ga_ild hx hb hK hP 6 rfl r (rfl) (by omega) (by decide) dX4_isOf_22 ?_
    refine lv_icmp_eq (tgt := 39) hx hb dX4_isOf_23 (by decide) (fun c23 => ?_) (fun c23 => ?_)
    · skip
      refine lv_iconst (v := 1) hx hb dX4_isOf_39 (by decide) ?_
      refine lv_goto (tgt := 44) hx hb dX4_isOf_40 (by decide) ?_
      exact W.zret (ty := .boolean) (v := 1) hx hb hr (by decide) (fun t9 ht _ => ⟨congrArg (fun z => Outcome.returned (some (Value.int z))) (by simp [ko, bI, c13, c23]), ht⟩) (fun _ h9 => nomatch h9) dX4_isOf_44
    · skip
      refine lv_aload_n hx hb dX4_isOf_26 rfl (lv_at hl 0 rfl) ?_
      refine va_get (D := D) (ci := 4) (v := .ref (h 6)) (C := RX4) (T := TX4) (N := 6) hx hb hts hiX4 hown hK.1 hP 1 rfl rfl 0 (by decide) kf9 (fun _ h9 => h9) rfl dX4_isOf_27 ?_
      refine lv_iload_n hx hb dX4_isOf_30 rfl (lv_at hl 1 rfl) ?_
      refine ga_ild hx hb hK hP 6 rfl r (rfl) (by omega) (by decide) dX4_isOf_31 ?_
      refine lv_iload_n hx hb dX4_isOf_32 rfl (lv_at hl 2 rfl) ?_
      refine pu_callb (va_runSN (As := [.int (F r), .int kd]) (rest := []) ⟨hx, hb, hml, hown, hts⟩ (c_X5_alsoIs (F r) kd) ⟨va_cnB 2 hts ggX4_isOf_X5_alsoIs rfl rfl rfl hK.2.2.2.2.2.2.2.2.2 (hts (.initialized RX5) (by decide +kernel)) (by decide +kernel) ⟨Nat.le_of_ble_eq_true rfl, Nat.le_of_ble_eq_true rfl⟩, hts (.static yX5_alsoIs) (by decide +kernel), trivial⟩ (wd_preS hP hK) rfl rfl hl.1 rfl (lv_room (Nat.le_of_ble_eq_true rfl)) dX4_isOf_33 ⟨Nat.zero_le _, Nat.zero_le _⟩) (fun c33 => ?_) (fun c33 => ?_)
      · skip
        refine lv_if_eq (tgt := 43) hx hb dX4_isOf_36 (by decide) (fun h9 => absurd h9 (by decide)) (fun _ => ?_)
        refine lv_iconst (v := 1) hx hb dX4_isOf_39 (by decide) ?_
        refine lv_goto (tgt := 44) hx hb dX4_isOf_40 (by decide) ?_
        exact W.zret (ty := .boolean) (v := 1) hx hb hr (by decide) (fun t9 ht _ => ⟨congrArg (fun z => Outcome.returned (some (Value.int z))) (by simp [ko, bI, c13, c23, c33]), ht⟩) (fun _ h9 => nomatch h9) dX4_isOf_44
      · skip
        refine lv_if_eq (tgt := 43) hx hb dX4_isOf_36 (by decide) (fun _ => ?_) (fun h9 => absurd (by decide) h9)
        refine lv_iconst (v := 0) hx hb dX4_isOf_43 (by decide) ?_
        exact W.zret (ty := .boolean) (v := 0) hx hb hr (by decide) (fun t9 ht _ => ⟨congrArg (fun z => Outcome.returned (some (Value.int z))) (by simp [ko, bI, c13, c23, c33]), ht⟩) (fun _ h9 => nomatch h9) dX4_isOf_44
set_option maxHeartbeats 4000000 in
set_option maxRecDepth 100000 in
theorem c_X4_keyOf (hh : ad_ok h 20) (hn : n ≤ 100) (r : Nat) (hr9 : r < n) : Met l yX4_keyOf wsX4_keyOf ({ frames := 2, cells := 0, slots := 0, locals := 42 }) (wd_P D cI cJ [.ref (h 1), .int (nI r)] (sl_W cI cJ h (nI n) F Wt Sz Nu Mb (nI k) G Wk To Sl Ri (nI f) (nI b) oT oS oF (nI an) (nI as) Fo wo pa fa)) (pu_Q (some (.int (kyO (F r) (Wt r))))) 0 0 (fun _ => False) := by
  refine Met.ofW (cc := cX4_keyOf) (maxL := 2) (ret := (some .int)) (by decide) rfl ?_
  intro p e s m args below meth c s₁ B hml hv
  obtain ⟨rfl, hP, hK⟩ := hv
  have hx := B.exec
  have hb := B.bytes
  have hr := B.returns
  have hts := atoms_spec (ws := wsX4_keyOf) B.pre
  have hown : s.vm.findClass RX4 = some m.cls := findClass_of_methodNamed B.named
  have hlocks := B.notSynchronized
  have hl := lv_entry ([.ref (h 1), .int (nI r)]) (n := 2) (Nat.le_of_ble_eq_true rfl)
  rw [lg_entry_eq]
  generalize (lg_sl ([.ref (h 1), .int (nI r)]) ++ List.replicate (2 - (lg_sl ([.ref (h 1), .int (nI r)])).length) Slot.unset).toArray = ls at hl ⊢
  have hl : lv_has ls 2 [(0, .ref (h 1)), (1, .int (nI r))] := hl
  refine lv_aload_n hx hb dX4_keyOf_0 rfl (lv_at hl 0 rfl) ?_
  refine lv_iload_n hx hb dX4_keyOf_1 rfl (lv_at hl 1 rfl) ?_
  refine pu_calli (va_runV (As := [.int (nI r)]) (rest := []) ⟨hx, hb, hml, hown, hts⟩ (c_X4_formOf hh hn r (by omega)) (cwV 1 hts gX4_keyOf_X4_formOf rfl rfl rfl (by decide +kernel) ⟨Nat.le_of_ble_eq_true rfl, Nat.le_of_ble_eq_true rfl⟩) (wd_preV (ci := 4) (q0 := 1) hP hK rfl rfl) rfl rfl hl.1 rfl (lv_room (Nat.le_of_ble_eq_true rfl)) dX4_keyOf_2 ⟨Nat.zero_le _, Nat.zero_le _⟩) ?_
  refine lv_iconst (v := 2) hx hb dX4_keyOf_5 (by decide) ?_
  refine lv_icmp_ne (tgt := 21) hx hb dX4_keyOf_6 (by decide) (fun c6 => ?_) (fun c6 => ?_)
  · skip
    refine lv_aload_n hx hb dX4_keyOf_21 rfl (lv_at hl 0 rfl) ?_
    refine lv_iload_n hx hb dX4_keyOf_22 rfl (lv_at hl 1 rfl) ?_
    refine pu_calli (va_runV (As := [.int (nI r)]) (rest := []) ⟨hx, hb, hml, hown, hts⟩ (c_X4_weightOf hh hn r (by omega)) (cwV 1 hts gX4_keyOf_X4_weightOf rfl rfl rfl (by decide +kernel) ⟨Nat.le_of_ble_eq_true rfl, Nat.le_of_ble_eq_true rfl⟩) (wd_preV (ci := 4) (q0 := 1) hP hK rfl rfl) rfl rfl hl.1 rfl (lv_room (Nat.le_of_ble_eq_true rfl)) dX4_keyOf_23 ⟨Nat.zero_le _, Nat.zero_le _⟩) ?_
    refine lv_bipush (v := 7) hx hb dX4_keyOf_26 (by decide) ?_
    refine lv_isub hx hb dX4_keyOf_28 ?_
    exact W.iret (v := (Wt r) - 7) hx hb hr (fun t9 ht _ => ⟨congrArg (fun z => Outcome.returned (some (Value.int z))) (by simp [kyO, c6]), ht⟩) (fun _ h9 => nomatch h9) dX4_keyOf_29
  · skip
    refine lv_aload_n hx hb dX4_keyOf_9 rfl (lv_at hl 0 rfl) ?_
    refine lv_iload_n hx hb dX4_keyOf_10 rfl (lv_at hl 1 rfl) ?_
    refine pu_calli (va_runV (As := [.int (nI r)]) (rest := []) ⟨hx, hb, hml, hown, hts⟩ (c_X4_weightOf hh hn r (by omega)) (cwV 1 hts gX4_keyOf_X4_weightOf rfl rfl rfl (by decide +kernel) ⟨Nat.le_of_ble_eq_true rfl, Nat.le_of_ble_eq_true rfl⟩) (wd_preV (ci := 4) (q0 := 1) hP hK rfl rfl) rfl rfl hl.1 rfl (lv_room (Nat.le_of_ble_eq_true rfl)) dX4_keyOf_11 ⟨Nat.zero_le _, Nat.zero_le _⟩) ?_
    refine lv_iconst (v := 3) hx hb dX4_keyOf_14 (by decide) ?_
    refine lv_imul hx hb dX4_keyOf_15 ?_
    refine lv_iconst (v := 1) hx hb dX4_keyOf_16 (by decide) ?_
    refine lv_iadd hx hb dX4_keyOf_17 ?_
    refine lv_goto (tgt := 29) hx hb dX4_keyOf_18 (by decide) ?_
    exact W.iret (v := ((Wt r) * 3) + 1) hx hb hr (fun t9 ht _ => ⟨congrArg (fun z => Outcome.returned (some (Value.int z))) (by simp [kyO, c6]), ht⟩) (fun _ h9 => nomatch h9) dX4_keyOf_29
set_option maxHeartbeats 4000000 in
set_option maxRecDepth 100000 in
theorem c_X4_hasPlace (hh : ad_ok h 20) (hn : n ≤ 100) (r : Nat) (hr9 : r < n) (i : Int32) : Met l yX4_hasPlace wsX4_hasPlace ({ frames := 0, cells := 0, slots := 0, locals := 0 }) (wd_P D cI cJ [.ref (h 1), .int (nI r), .int i] (sl_W cI cJ h (nI n) F Wt Sz Nu Mb (nI k) G Wk To Sl Ri (nI f) (nI b) oT oS oF (nI an) (nI as) Fo wo pa fa)) (pu_Q (some (.int (bI (p_in i (Sz r)))))) 0 0 (fun _ => False) := by
  refine Met.ofW (cc := cX4_hasPlace) (maxL := 3) (ret := (some .boolean)) (by decide) rfl ?_
  intro p e s m args below meth c s₁ B hml hv
  obtain ⟨rfl, hP, hK⟩ := hv
  have hx := B.exec
  have hb := B.bytes
  have hr := B.returns
  have hts := atoms_spec (ws := wsX4_hasPlace) B.pre
  have hown : s.vm.findClass RX4 = some m.cls := findClass_of_methodNamed B.named
  have hlocks := B.notSynchronized
  have hiX4 : ∀ w ∈ u_ws RX4 TX4 6, w ∈ wsX4_hasPlace := by decide +kernel
  have kf28 := hts (.fieldLink RX4 28 "SortingLine$Things" "made" "I") (by decide +kernel)
  have kf18 := hts (.fieldLink RX4 18 "SortingLine$Things" "sizes" "[I") (by decide +kernel)
  have hl := lv_entry ([.ref (h 1), .int (nI r), .int i]) (n := 3) (Nat.le_of_ble_eq_true rfl)
  rw [lg_entry_eq]
  generalize (lg_sl ([.ref (h 1), .int (nI r), .int i]) ++ List.replicate (3 - (lg_sl ([.ref (h 1), .int (nI r), .int i])).length) Slot.unset).toArray = ls at hl ⊢
  have hl : lv_has ls 3 [(0, .ref (h 1)), (1, .int (nI r)), (2, .int i)] := hl
  refine lv_iload_n hx hb dX4_hasPlace_0 rfl (lv_at hl 1 rfl) ?_
  refine lv_if_lt (tgt := 30) hx hb dX4_hasPlace_1 (by decide) (fun h9 => absurd h9 (nI_pos (by omega))) (fun _ => ?_)
  refine lv_iload_n hx hb dX4_hasPlace_4 rfl (lv_at hl 1 rfl) ?_
  refine lv_aload_n hx hb dX4_hasPlace_5 rfl (lv_at hl 0 rfl) ?_
  refine va_get (D := D) (ci := 4) (v := .int (nI n)) (C := RX4) (T := TX4) (N := 6) hx hb hts hiX4 hown hK.1 hP 1 rfl rfl 5 (by decide) kf28 (fun _ h9 => h9) rfl dX4_hasPlace_6 ?_
  refine lv_icmp_ge (tgt := 30) hx hb dX4_hasPlace_9 (by decide) (fun h9 => absurd h9 (nI_ge hr9 (by omega))) (fun _ => ?_)
  refine lv_iload_n hx hb dX4_hasPlace_12 rfl (lv_at hl 2 rfl) ?_
  refine lv_if_lt (tgt := 30) hx hb dX4_hasPlace_13 (by decide) (fun c13 => ?_) (fun c13 => ?_)
  · skip
    refine lv_iconst (v := 0) hx hb dX4_hasPlace_30 (by decide) ?_
    exact W.zret (ty := .boolean) (v := 0) hx hb hr (by decide) (fun t9 ht _ => ⟨congrArg (fun z => Outcome.returned (some (Value.int z))) (by rw [p_in_lt c13]; rfl), ht⟩) (fun _ h9 => nomatch h9) dX4_hasPlace_31
  · skip
    refine lv_iload_n hx hb dX4_hasPlace_16 rfl (lv_at hl 2 rfl) ?_
    refine lv_aload_n hx hb dX4_hasPlace_17 rfl (lv_at hl 0 rfl) ?_
    refine va_get (D := D) (ci := 4) (v := .ref (h 8)) (C := RX4) (T := TX4) (N := 6) hx hb hts hiX4 hown hK.1 hP 1 rfl rfl 2 (by decide) kf18 (fun _ h9 => h9) rfl dX4_hasPlace_18 ?_
    refine lv_iload_n hx hb dX4_hasPlace_21 rfl (lv_at hl 1 rfl) ?_
    refine ga_ild hx hb hK hP 8 rfl r (rfl) (by omega) (by decide) dX4_hasPlace_22 ?_
    refine lv_icmp_ge (tgt := 30) hx hb dX4_hasPlace_23 (by decide) (fun c23 => ?_) (fun c23 => ?_)
    · skip
      refine lv_iconst (v := 0) hx hb dX4_hasPlace_30 (by decide) ?_
      exact W.zret (ty := .boolean) (v := 0) hx hb hr (by decide) (fun t9 ht _ => ⟨congrArg (fun z => Outcome.returned (some (Value.int z))) (by rw [p_in_ge c23]; rfl), ht⟩) (fun _ h9 => nomatch h9) dX4_hasPlace_31
    · skip
      refine lv_iconst (v := 1) hx hb dX4_hasPlace_26 (by decide) ?_
      refine lv_goto (tgt := 31) hx hb dX4_hasPlace_27 (by decide) ?_
      exact W.zret (ty := .boolean) (v := 1) hx hb hr (by decide) (fun t9 ht _ => ⟨congrArg (fun z => Outcome.returned (some (Value.int z))) (by rw [p_in_ok c13 c23]; rfl), ht⟩) (fun _ h9 => nomatch h9) dX4_hasPlace_31
set_option maxHeartbeats 4000000 in
set_option maxRecDepth 100000 in
theorem c_X4_numberAt (hh : ad_ok h 20) (hn : n ≤ 100) (r : Nat) (hr9 : r < n) (j : Nat) (hj : j < 8) (hp : p_in (nI j) (Sz r) = true) : Met l yX4_numberAt wsX4_numberAt ({ frames := 1, cells := 0, slots := 0, locals := 22 }) (wd_P D cI cJ [.ref (h 1), .int (nI r), .int (nI j)] (sl_W cI cJ h (nI n) F Wt Sz Nu Mb (nI k) G Wk To Sl Ri (nI f) (nI b) oT oS oF (nI an) (nI as) Fo wo pa fa)) (pu_Q (some (.long (Nu (8 * r + j))))) 0 0 (fun _ => False) := by
  refine Met.ofW (cc := cX4_numberAt) (maxL := 3) (ret := (some .long)) (by decide) rfl ?_
  intro p e s m args below meth c s₁ B hml hv
  obtain ⟨rfl, hP, hK⟩ := hv
  have hx := B.exec
  have hb := B.bytes
  have hr := B.returns
  have hts := atoms_spec (ws := wsX4_numberAt) B.pre
  have hown : s.vm.findClass RX4 = some m.cls := findClass_of_methodNamed B.named
  have hlocks := B.notSynchronized
  have hiX4 : ∀ w ∈ u_ws RX4 TX4 6, w ∈ wsX4_numberAt := by decide +kernel
  have kf21 := hts (.fieldLink RX4 21 "SortingLine$Things" "numbers" "[J") (by decide +kernel)
  have hl := lv_entry ([.ref (h 1), .int (nI r), .int (nI j)]) (n := 3) (Nat.le_of_ble_eq_true rfl)
  rw [lg_entry_eq]
  generalize (lg_sl ([.ref (h 1), .int (nI r), .int (nI j)]) ++ List.replicate (3 - (lg_sl ([.ref (h 1), .int (nI r), .int (nI j)])).length) Slot.unset).toArray = ls at hl ⊢
  have hl : lv_has ls 3 [(0, .ref (h 1)), (1, .int (nI r)), (2, .int (nI j))] := hl
  refine lv_aload_n hx hb dX4_numberAt_0 rfl (lv_at hl 0 rfl) ?_
  refine lv_iload_n hx hb dX4_numberAt_1 rfl (lv_at hl 1 rfl) ?_
  refine lv_iload_n hx hb dX4_numberAt_2 rfl (lv_at hl 2 rfl) ?_
  refine pu_callb (va_runV (As := [.int (nI r), .int (nI j)]) (rest := []) ⟨hx, hb, hml, hown, hts⟩ (c_X4_hasPlace hh hn r (by omega) (nI j)) (cwV 2 hts gX4_numberAt_X4_hasPlace rfl rfl rfl (by decide +kernel) ⟨Nat.le_of_ble_eq_true rfl, Nat.le_of_ble_eq_true rfl⟩) (wd_preV (ci := 4) (q0 := 1) hP hK rfl rfl) rfl rfl hl.1 rfl (lv_room (Nat.le_of_ble_eq_true rfl)) dX4_numberAt_3 ⟨Nat.zero_le _, Nat.zero_le _⟩) (fun _ => ?_) (fun h9 => absurd (hp) (by rw [h9]; decide))
  refine lv_if_eq (tgt := 23) hx hb dX4_numberAt_6 (by decide) (fun h9 => absurd h9 (by decide)) (fun _ => ?_)
  refine lv_aload_n hx hb dX4_numberAt_9 rfl (lv_at hl 0 rfl) ?_
  refine va_get (D := D) (ci := 4) (v := .ref (h 9)) (C := RX4) (T := TX4) (N := 6) hx hb hts hiX4 hown hK.1 hP 1 rfl rfl 3 (by decide) kf21 (fun _ h9 => h9) rfl dX4_numberAt_10 ?_
  refine lv_iload_n hx hb dX4_numberAt_13 rfl (lv_at hl 1 rfl) ?_
  refine lv_bipush (v := 8) hx hb dX4_numberAt_14 (by decide) ?_
  refine lv_imul hx hb dX4_numberAt_16 ?_
  refine tp_i (y := nI (8 * r)) ((pk_mul r 8).trans (congrArg nI (Nat.mul_comm _ _))) ?_
  refine lv_iload_n hx hb dX4_numberAt_17 rfl (lv_at hl 2 rfl) ?_
  refine lv_iadd hx hb dX4_numberAt_18 ?_
  refine tp_i (y := nI ((8 * r) + j)) (nI_add (8 * r) j) ?_
  refine ga_lld hx hb hK hP 9 rfl ((8 * r) + j) (rfl) (by omega) (by decide) dX4_numberAt_19 ?_
  refine lv_goto (tgt := 24) hx hb dX4_numberAt_20 (by decide) ?_
  exact W.lret (v := Nu ((8 * r) + j)) hx hb hr (fun t9 ht _ => ⟨congrArg (fun z => Outcome.returned (some (Value.long z))) (rfl), ht⟩) (fun _ h9 => nomatch h9) dX4_numberAt_24
set_option maxHeartbeats 4000000 in
set_option maxRecDepth 100000 in
theorem c_X4_memberAt (hh : ad_ok h 20) (hn : n ≤ 100) (r : Nat) (hr9 : r < n) (j : Nat) (hj : j < 8) (hp : p_in (nI j) (Sz r) = true) : Met l yX4_memberAt wsX4_memberAt ({ frames := 1, cells := 0, slots := 0, locals := 22 }) (wd_P D cI cJ [.ref (h 1), .int (nI r), .int (nI j)] (sl_W cI cJ h (nI n) F Wt Sz Nu Mb (nI k) G Wk To Sl Ri (nI f) (nI b) oT oS oF (nI an) (nI as) Fo wo pa fa)) (pu_Q (some (.int (Mb (8 * r + j))))) 0 0 (fun _ => False) := by
  refine Met.ofW (cc := cX4_memberAt) (maxL := 3) (ret := (some .int)) (by decide) rfl ?_
  intro p e s m args below meth c s₁ B hml hv
  obtain ⟨rfl, hP, hK⟩ := hv
  have hx := B.exec
  have hb := B.bytes
  have hr := B.returns
  have hts := atoms_spec (ws := wsX4_memberAt) B.pre
  have hown : s.vm.findClass RX4 = some m.cls := findClass_of_methodNamed B.named
  have hlocks := B.notSynchronized
  have hiX4 : ∀ w ∈ u_ws RX4 TX4 6, w ∈ wsX4_memberAt := by decide +kernel
  have kf25 := hts (.fieldLink RX4 25 "SortingLine$Things" "members" "[I") (by decide +kernel)
  have hl := lv_entry ([.ref (h 1), .int (nI r), .int (nI j)]) (n := 3) (Nat.le_of_ble_eq_true rfl)
  rw [lg_entry_eq]
  generalize (lg_sl ([.ref (h 1), .int (nI r), .int (nI j)]) ++ List.replicate (3 - (lg_sl ([.ref (h 1), .int (nI r), .int (nI j)])).length) Slot.unset).toArray = ls at hl ⊢
  have hl : lv_has ls 3 [(0, .ref (h 1)), (1, .int (nI r)), (2, .int (nI j))] := hl
  refine lv_aload_n hx hb dX4_memberAt_0 rfl (lv_at hl 0 rfl) ?_
  refine lv_iload_n hx hb dX4_memberAt_1 rfl (lv_at hl 1 rfl) ?_
  refine lv_iload_n hx hb dX4_memberAt_2 rfl (lv_at hl 2 rfl) ?_
  refine pu_callb (va_runV (As := [.int (nI r), .int (nI j)]) (rest := []) ⟨hx, hb, hml, hown, hts⟩ (c_X4_hasPlace hh hn r (by omega) (nI j)) (cwV 2 hts gX4_memberAt_X4_hasPlace rfl rfl rfl (by decide +kernel) ⟨Nat.le_of_ble_eq_true rfl, Nat.le_of_ble_eq_true rfl⟩) (wd_preV (ci := 4) (q0 := 1) hP hK rfl rfl) rfl rfl hl.1 rfl (lv_room (Nat.le_of_ble_eq_true rfl)) dX4_memberAt_3 ⟨Nat.zero_le _, Nat.zero_le _⟩) (fun _ => ?_) (fun h9 => absurd (hp) (by rw [h9]; decide))
  refine lv_if_eq (tgt := 23) hx hb dX4_memberAt_6 (by decide) (fun h9 => absurd h9 (by decide)) (fun _ => ?_)
  refine lv_aload_n hx hb dX4_memberAt_9 rfl (lv_at hl 0 rfl) ?_
  refine va_get (D := D) (ci := 4) (v := .ref (h 10)) (C := RX4) (T := TX4) (N := 6) hx hb hts hiX4 hown hK.1 hP 1 rfl rfl 4 (by decide) kf25 (fun _ h9 => h9) rfl dX4_memberAt_10 ?_
  refine lv_iload_n hx hb dX4_memberAt_13 rfl (lv_at hl 1 rfl) ?_
  refine lv_bipush (v := 8) hx hb dX4_memberAt_14 (by decide) ?_
  refine lv_imul hx hb dX4_memberAt_16 ?_
  refine tp_i (y := nI (8 * r)) ((pk_mul r 8).trans (congrArg nI (Nat.mul_comm _ _))) ?_
  refine lv_iload_n hx hb dX4_memberAt_17 rfl (lv_at hl 2 rfl) ?_
  refine lv_iadd hx hb dX4_memberAt_18 ?_
  refine tp_i (y := nI ((8 * r) + j)) (nI_add (8 * r) j) ?_
  refine ga_ild hx hb hK hP 10 rfl ((8 * r) + j) (rfl) (by omega) (by decide) dX4_memberAt_19 ?_
  refine lv_goto (tgt := 25) hx hb dX4_memberAt_20 (by decide) ?_
  exact W.iret (v := Mb ((8 * r) + j)) hx hb hr (fun t9 ht _ => ⟨congrArg (fun z => Outcome.returned (some (Value.int z))) (rfl), ht⟩) (fun _ h9 => nomatch h9) dX4_memberAt_25
set_option maxHeartbeats 4000000 in
set_option maxRecDepth 100000 in
theorem c_X4_setMember (hh : ad_ok h 20) (hn : n ≤ 100) (r : Nat) (hr9 : r < n) (j : Nat) (hj : j < 8) (hp : p_in (nI j) (Sz r) = true) (x : Int32) : Met l yX4_setMember wsX4_setMember ({ frames := 1, cells := 0, slots := 0, locals := 22 }) (wd_P D cI cJ [.ref (h 1), .int (nI r), .int (nI j), .int x] (sl_W cI cJ h (nI n) F Wt Sz Nu Mb (nI k) G Wk To Sl Ri (nI f) (nI b) oT oS oF (nI an) (nI as) Fo wo pa fa)) (mu_Q D (ad_A h 20) none (sl_W cI cJ h (nI n) F Wt Sz Nu (upd Mb (8 * r + j) x) (nI k) G Wk To Sl Ri (nI f) (nI b) oT oS oF (nI an) (nI as) Fo wo pa fa)) 0 0 (ad_A h 20) := by
  refine Met.ofW (cc := cX4_setMember) (maxL := 4) (ret := none) (by decide) rfl ?_
  intro p e s m args below meth c s₁ B hml hv
  obtain ⟨rfl, hP, hK⟩ := hv
  have hx := B.exec
  have hb := B.bytes
  have hr := B.returns
  have hts := atoms_spec (ws := wsX4_setMember) B.pre
  have hown : s.vm.findClass RX4 = some m.cls := findClass_of_methodNamed B.named
  have hlocks := B.notSynchronized
  have hiX4 : ∀ w ∈ u_ws RX4 TX4 6, w ∈ wsX4_setMember := by decide +kernel
  have kf25 := hts (.fieldLink RX4 25 "SortingLine$Things" "members" "[I") (by decide +kernel)
  have hS : va_S (ad_A h 20) s.heap s.heap [] := va_S.rf
  have hl := lv_entry ([.ref (h 1), .int (nI r), .int (nI j), .int x]) (n := 4) (Nat.le_of_ble_eq_true rfl)
  rw [lg_entry_eq]
  generalize (lg_sl ([.ref (h 1), .int (nI r), .int (nI j), .int x]) ++ List.replicate (4 - (lg_sl ([.ref (h 1), .int (nI r), .int (nI j), .int x])).length) Slot.unset).toArray = ls at hl ⊢
  have hl : lv_has ls 4 [(0, .ref (h 1)), (1, .int (nI r)), (2, .int (nI j)), (3, .int x)] := hl
  refine lv_aload_n hx hb dX4_setMember_0 rfl (lv_at hl 0 rfl) ?_
  refine lv_iload_n hx hb dX4_setMember_1 rfl (lv_at hl 1 rfl) ?_
  refine lv_iload_n hx hb dX4_setMember_2 rfl (lv_at hl 2 rfl) ?_
  refine pu_callb (va_runV (As := [.int (nI r), .int (nI j)]) (rest := []) ⟨hx, hb, hml, hown, hts⟩ (c_X4_hasPlace hh hn r (by omega) (nI j)) (cwV 2 hts gX4_setMember_X4_hasPlace rfl rfl rfl (by decide +kernel) ⟨Nat.le_of_ble_eq_true rfl, Nat.le_of_ble_eq_true rfl⟩) (wd_preV (ci := 4) (q0 := 1) hP hK rfl rfl) rfl rfl hl.1 rfl (lv_room (Nat.le_of_ble_eq_true rfl)) dX4_setMember_3 ⟨Nat.zero_le _, Nat.zero_le _⟩) (fun _ => ?_) (fun h9 => absurd (hp) (by rw [h9]; decide))
  refine lv_if_eq (tgt := 21) hx hb dX4_setMember_6 (by decide) (fun h9 => absurd h9 (by decide)) (fun _ => ?_)
  refine lv_aload_n hx hb dX4_setMember_9 rfl (lv_at hl 0 rfl) ?_
  refine va_get (D := D) (ci := 4) (v := .ref (h 10)) (C := RX4) (T := TX4) (N := 6) hx hb hts hiX4 hown hK.1 hP 1 rfl rfl 4 (by decide) kf25 (fun _ h9 => h9) rfl dX4_setMember_10 ?_
  refine lv_iload_n hx hb dX4_setMember_13 rfl (lv_at hl 1 rfl) ?_
  refine lv_bipush (v := 8) hx hb dX4_setMember_14 (by decide) ?_
  refine lv_imul hx hb dX4_setMember_16 ?_
  refine tp_i (y := nI (8 * r)) ((pk_mul r 8).trans (congrArg nI (Nat.mul_comm _ _))) ?_
  refine lv_iload_n hx hb dX4_setMember_17 rfl (lv_at hl 2 rfl) ?_
  refine lv_iadd hx hb dX4_setMember_18 ?_
  refine tp_i (y := nI ((8 * r) + j)) (nI_add (8 * r) j) ?_
  refine lv_iload_n hx hb dX4_setMember_19 rfl (lv_at hl 3 rfl) ?_
  refine ga_ist hx hb hK hP (sl_D hh) hS 10 rfl ((8 * r) + j) (rfl) (by omega) (by decide) dX4_setMember_20 (fun H locs hP hS => ?_)
  have hP : va_P D kC (sl_W cI cJ h (nI n) F Wt Sz Nu (upd Mb ((8 * r) + j) x) (nI k) G Wk To Sl Ri (nI f) (nI b) oT oS oF (nI an) (nI as) Fo wo pa fa) H := hP
  exact W.vret hx hb hr (fun t9 ht _ => ⟨rfl, by rw [ht]; exact hP, hS.F ht⟩) hS.2.2 dX4_setMember_21
theorem sw_X4_setNumber_26 (x : Int32) : (Op.lookupswitch.offset [(4, 26), (5, 33)] 39 x.toInt = 39 ∧ ¬ x = 4 ∧ ¬ x = 5) ∨ x = 4 ∨ x = 5 := by
  by_cases h0 : x = 4
  · exact Or.inr (Or.inl <| h0)
  by_cases h1 : x = 5
  · exact Or.inr (Or.inr <| h1)
  refine Or.inl ⟨?_, h0, h1⟩
  have hz : ∀ v : Int32, ¬ x = v → ¬ v.toInt = x.toInt := fun v h h2 => h (Int32.toInt_inj.mp h2.symm)
  have z0 : ¬ (4 : Int) = x.toInt := hz 4 h0
  have y0 : ((4 : Int) == x.toInt) = false := by simpa using z0
  have z1 : ¬ (5 : Int) = x.toInt := hz 5 h1
  have y1 : ((5 : Int) == x.toInt) = false := by simpa using z1
  simp [Op.lookupswitch.offset, List.find?, y0, z0, y1, z1]
set_option maxHeartbeats 4000000 in
set_option maxRecDepth 100000 in
theorem c_X4_setNumber (hh : ad_ok h 20) (hn : n ≤ 100) (r : Nat) (hr9 : r < n) (j : Nat) (hj : j < 8) (hp : p_in (nI j) (Sz r) = true) (v : Int64) : Met l yX4_setNumber wsX4_setNumber ({ frames := 1, cells := 0, slots := 0, locals := 22 }) (wd_P D cI cJ [.ref (h 1), .int (nI r), .int (nI j), .long v] (sl_W cI cJ h (nI n) F Wt Sz Nu Mb (nI k) G Wk To Sl Ri (nI f) (nI b) oT oS oF (nI an) (nI as) Fo wo pa fa)) (mu_Q D (ad_A h 20) none (sl_W cI cJ h (nI n) F Wt Sz (vp_updL Nu (8 * r + j) (nrw (F r) v)) Mb (nI k) G Wk To Sl Ri (nI f) (nI b) oT oS oF (nI an) (nI as) Fo wo pa fa)) 0 0 (ad_A h 20) := by
  refine Met.ofW (cc := cX4_setNumber) (maxL := 5) (ret := none) (by decide) rfl ?_
  intro p e s m args below meth c s₁ B hml hv
  obtain ⟨rfl, hP, hK⟩ := hv
  have hx := B.exec
  have hb := B.bytes
  have hr := B.returns
  have hts := atoms_spec (ws := wsX4_setNumber) B.pre
  have hown : s.vm.findClass RX4 = some m.cls := findClass_of_methodNamed B.named
  have hlocks := B.notSynchronized
  have hiX4 : ∀ w ∈ u_ws RX4 TX4 6, w ∈ wsX4_setNumber := by decide +kernel
  have kf21 := hts (.fieldLink RX4 21 "SortingLine$Things" "numbers" "[J") (by decide +kernel)
  have kf9 := hts (.fieldLink RX4 9 "SortingLine$Things" "forms" "[I") (by decide +kernel)
  have hS : va_S (ad_A h 20) s.heap s.heap [] := va_S.rf
  have hl := lv_entry ([.ref (h 1), .int (nI r), .int (nI j), .long v]) (n := 5) (Nat.le_of_ble_eq_true rfl)
  rw [lg_entry_eq]
  generalize (lg_sl ([.ref (h 1), .int (nI r), .int (nI j), .long v]) ++ List.replicate (5 - (lg_sl ([.ref (h 1), .int (nI r), .int (nI j), .long v])).length) Slot.unset).toArray = ls at hl ⊢
  have hl : lv_has ls 5 [(0, .ref (h 1)), (1, .int (nI r)), (2, .int (nI j)), (3, .long v)] := hl
  refine lv_aload_n hx hb dX4_setNumber_0 rfl (lv_at hl 0 rfl) ?_
  refine lv_iload_n hx hb dX4_setNumber_1 rfl (lv_at hl 1 rfl) ?_
  refine lv_iload_n hx hb dX4_setNumber_2 rfl (lv_at hl 2 rfl) ?_
  refine pu_callb (va_runV (As := [.int (nI r), .int (nI j)]) (rest := []) ⟨hx, hb, hml, hown, hts⟩ (c_X4_hasPlace hh hn r (by omega) (nI j)) (cwV 2 hts gX4_setNumber_X4_hasPlace rfl rfl rfl (by decide +kernel) ⟨Nat.le_of_ble_eq_true rfl, Nat.le_of_ble_eq_true rfl⟩) (wd_preV (ci := 4) (q0 := 1) hP hK rfl rfl) rfl rfl hl.1 rfl (lv_room (Nat.le_of_ble_eq_true rfl)) dX4_setNumber_3 ⟨Nat.zero_le _, Nat.zero_le _⟩) (fun _ => ?_) (fun h9 => absurd (hp) (by rw [h9]; decide))
  refine lv_if_ne (tgt := 10) hx hb dX4_setNumber_6 (by decide) (fun _ => ?_) (fun h9 => absurd h9 (by decide))
  refine lv_aload_n hx hb dX4_setNumber_10 rfl (lv_at hl 0 rfl) ?_
  refine va_get (D := D) (ci := 4) (v := .ref (h 9)) (C := RX4) (T := TX4) (N := 6) hx hb hts hiX4 hown hK.1 hP 1 rfl rfl 3 (by decide) kf21 (fun _ h9 => h9) rfl dX4_setNumber_11 ?_
  refine lv_iload_n hx hb dX4_setNumber_14 rfl (lv_at hl 1 rfl) ?_
  refine lv_bipush (v := 8) hx hb dX4_setNumber_15 (by decide) ?_
  refine lv_imul hx hb dX4_setNumber_17 ?_
  refine tp_i (y := nI (8 * r)) ((pk_mul r 8).trans (congrArg nI (Nat.mul_comm _ _))) ?_
  refine lv_iload_n hx hb dX4_setNumber_18 rfl (lv_at hl 2 rfl) ?_
  refine lv_iadd hx hb dX4_setNumber_19 ?_
  refine tp_i (y := nI ((8 * r) + j)) (nI_add (8 * r) j) ?_
  refine lv_aload_n hx hb dX4_setNumber_20 rfl (lv_at hl 0 rfl) ?_
  refine va_get (D := D) (ci := 4) (v := .ref (h 6)) (C := RX4) (T := TX4) (N := 6) hx hb hts hiX4 hown hK.1 hP 1 rfl rfl 0 (by decide) kf9 (fun _ h9 => h9) rfl dX4_setNumber_21 ?_
  refine lv_iload_n hx hb dX4_setNumber_24 rfl (lv_at hl 1 rfl) ?_
  refine ga_ild hx hb hK hP 6 rfl r (rfl) (by omega) (by decide) dX4_setNumber_25 ?_
  generalize hfx : F r = fx
  rcases (sw_X4_setNumber_26 fx) with ho26 | rfl | rfl
  · skip
    refine lv_lookup (tgt := 65) hx hb dX4_setNumber_26 (by decide) ho26.1 (by decide) ?_
    refine lv_lload_n hx hb dX4_setNumber_65 rfl (lv_at hl 3 rfl) ?_
    refine ga_lst hx hb hK hP (sl_D hh) hS 9 rfl ((8 * r) + j) (rfl) (by omega) (by decide) dX4_setNumber_66 (fun H locs hP hS => ?_)
    have hP : va_P D kC (sl_W cI cJ h (nI n) F Wt Sz (vp_updL Nu ((8 * r) + j) v) Mb (nI k) G Wk To Sl Ri (nI f) (nI b) oT oS oF (nI an) (nI as) Fo wo pa fa) H := hP
    exact W.vret hx hb hr (fun t9 ht _ => ⟨rfl, by rw [ht]; exact va_P_cast hP (by simp [nrw, ho26.2]), hS.F ht⟩) hS.2.2 dX4_setNumber_67
  · skip
    refine lv_lookup (off := 26) (tgt := 52) hx hb dX4_setNumber_26 (by decide) (by decide) (by decide) ?_
    refine lv_lload_n hx hb dX4_setNumber_52 rfl (lv_at hl 3 rfl) ?_
    refine lv_l2i (v := Int64.toInt32 v) hx hb dX4_setNumber_53 rfl ?_
    refine lv_i2b (v := Int8.toInt32 (Int32.toInt8 (Int64.toInt32 v))) hx hb dX4_setNumber_54 rfl ?_
    refine lv_i2l (v := Int32.toInt64 (Int8.toInt32 (Int32.toInt8 (Int64.toInt32 v)))) hx hb dX4_setNumber_55 (rfl) ?_
    refine lv_goto (tgt := 66) hx hb dX4_setNumber_56 (by decide) ?_
    refine ga_lst hx hb hK hP (sl_D hh) hS 9 rfl ((8 * r) + j) (rfl) (by omega) (by decide) dX4_setNumber_66 (fun H locs hP hS => ?_)
    have hP : va_P D kC (sl_W cI cJ h (nI n) F Wt Sz (vp_updL Nu ((8 * r) + j) (Int32.toInt64 (Int8.toInt32 (Int32.toInt8 (Int64.toInt32 v))))) Mb (nI k) G Wk To Sl Ri (nI f) (nI b) oT oS oF (nI an) (nI as) Fo wo pa fa) H := hP
    exact W.vret hx hb hr (fun t9 ht _ => ⟨rfl, by rw [ht]; exact va_P_cast hP (by simp [nrw]), hS.F ht⟩) hS.2.2 dX4_setNumber_67
  · skip
    refine lv_lookup (off := 33) (tgt := 59) hx hb dX4_setNumber_26 (by decide) (by decide) (by decide) ?_
    refine lv_lload_n hx hb dX4_setNumber_59 rfl (lv_at hl 3 rfl) ?_
    refine lv_l2i (v := Int64.toInt32 v) hx hb dX4_setNumber_60 rfl ?_
    refine lv_i2l (v := Int32.toInt64 (Int64.toInt32 v)) hx hb dX4_setNumber_61 (rfl) ?_
    refine lv_goto (tgt := 66) hx hb dX4_setNumber_62 (by decide) ?_
    refine ga_lst hx hb hK hP (sl_D hh) hS 9 rfl ((8 * r) + j) (rfl) (by omega) (by decide) dX4_setNumber_66 (fun H locs hP hS => ?_)
    have hP : va_P D kC (sl_W cI cJ h (nI n) F Wt Sz (vp_updL Nu ((8 * r) + j) (Int32.toInt64 (Int64.toInt32 v))) Mb (nI k) G Wk To Sl Ri (nI f) (nI b) oT oS oF (nI an) (nI as) Fo wo pa fa) H := hP
    exact W.vret hx hb hr (fun t9 ht _ => ⟨rfl, by rw [ht]; exact va_P_cast hP (by simp [nrw]), hS.F ht⟩) hS.2.2 dX4_setNumber_67
set_option maxHeartbeats 4000000 in
set_option maxRecDepth 100000 in
theorem lp_X4_sum {p : Program} {e : Env} {s : State} {m : MethodId} {args : Array Value} {below : List Frame} {meth : Method} {c : Code} {Q : State → Prop} {H : Heap} {locs : List Loc} (hx : p.tables.exec = Jvm.exec) (hb : c.code = cX4_sumOfNumbers) (hml : c.maxLocals = 5) (hown : s.vm.findClass RX4 = some m.cls) (hts : ∀ w ∈ wsX4_sumOfNumbers, w.before args s = true) (hK : wd_K D cI cJ s) (hP : va_P D kC (sl_W cI cJ h (nI n) F Wt Sz Nu Mb (nI k) G Wk To Sl Ri (nI f) (nI b) oT oS oF (nI an) (nI as) Fo wo pa fa) H) (hh : ad_ok h 20) (hn : n ≤ 100) (r z : Nat) (hr9 : r < n) (hz : Sz r = nI z) (hz8 : z ≤ 8) (kk0 : ∀ (_ : Nat), True → ∀ (ls : Array Slot), lv_has ls 5 [(4, .int (nI z)), (2, .long (sumN Nu (8 * r) z)), (0, .ref (h 1)), (1, .int (nI r))] → W p l e (headSpec wsX4_sumOfNumbers { frames := 2, cells := 0, slots := 0, locals := 44 }).room s m args below meth c H locs 0 0 Q (F0 m 31 ls [])) : ∀ (d : Nat) (i : Nat), i + d = z → ∀ (ls : Array Slot), lv_has ls 5 [(4, .int (nI i)), (2, .long (sumN Nu (8 * r) i)), (0, .ref (h 1)), (1, .int (nI r))] → W p l e (headSpec wsX4_sumOfNumbers { frames := 2, cells := 0, slots := 0, locals := 44 }).room s m args below meth c H locs 0 0 Q (F0 m 5 ls []) := by
  intro d
  induction d with
  | zero =>
    intro i hi ls hl
    obtain rfl : i = z := by omega
    refine lv_iload hx hb dX4_sumOfNumbers_5 (lv_at hl 0 rfl) ?_
    refine lv_aload_n hx hb dX4_sumOfNumbers_7 rfl (lv_at hl 2 rfl) ?_
    refine lv_iload_n hx hb dX4_sumOfNumbers_8 rfl (lv_at hl 3 rfl) ?_
    refine pu_calli (va_runV (As := [.int (nI r)]) (rest := [.int (nI i)]) ⟨hx, hb, hml, hown, hts⟩ (c_X4_sizeOf hh hn r (by omega)) (cwV 1 hts gX4_sumOfNumbers_X4_sizeOf rfl rfl rfl (by decide +kernel) ⟨Nat.le_of_ble_eq_true rfl, Nat.le_of_ble_eq_true rfl⟩) (wd_preV (ci := 4) (q0 := 1) hP hK rfl rfl) rfl rfl hl.1 rfl (lv_room (Nat.le_of_ble_eq_true rfl)) dX4_sumOfNumbers_9 ⟨Nat.zero_le _, Nat.zero_le _⟩) ?_
    refine tp_i (y := nI i) (hz) ?_
    refine lv_icmp_ge (tgt := 31) hx hb dX4_sumOfNumbers_12 (by decide) (fun _ => ?_) (fun h9 => absurd (nI_le (Nat.le_refl _) (by omega)) h9)
    exact kk0 0 trivial ls (lv_sub hl [0, 1, 2, 3] rfl)
  | succ d ih =>
    intro i hi ls hl
    refine lv_iload hx hb dX4_sumOfNumbers_5 (lv_at hl 0 rfl) ?_
    refine lv_aload_n hx hb dX4_sumOfNumbers_7 rfl (lv_at hl 2 rfl) ?_
    refine lv_iload_n hx hb dX4_sumOfNumbers_8 rfl (lv_at hl 3 rfl) ?_
    refine pu_calli (va_runV (As := [.int (nI r)]) (rest := [.int (nI i)]) ⟨hx, hb, hml, hown, hts⟩ (c_X4_sizeOf hh hn r (by omega)) (cwV 1 hts gX4_sumOfNumbers_X4_sizeOf rfl rfl rfl (by decide +kernel) ⟨Nat.le_of_ble_eq_true rfl, Nat.le_of_ble_eq_true rfl⟩) (wd_preV (ci := 4) (q0 := 1) hP hK rfl rfl) rfl rfl hl.1 rfl (lv_room (Nat.le_of_ble_eq_true rfl)) dX4_sumOfNumbers_9 ⟨Nat.zero_le _, Nat.zero_le _⟩) ?_
    refine tp_i (y := nI z) (hz) ?_
    refine lv_icmp_ge (tgt := 31) hx hb dX4_sumOfNumbers_12 (by decide) (fun h9 => absurd h9 (nI_ge (by omega) (by omega))) (fun _ => ?_)
    refine lv_lload_n hx hb dX4_sumOfNumbers_15 rfl (lv_at hl 1 rfl) ?_
    refine lv_aload_n hx hb dX4_sumOfNumbers_16 rfl (lv_at hl 2 rfl) ?_
    refine lv_iload_n hx hb dX4_sumOfNumbers_17 rfl (lv_at hl 3 rfl) ?_
    refine lv_iload hx hb dX4_sumOfNumbers_18 (lv_at hl 0 rfl) ?_
    refine pu_calll (va_runV (As := [.int (nI r), .int (nI i)]) (rest := [.long (sumN Nu (8 * r) i)]) ⟨hx, hb, hml, hown, hts⟩ (c_X4_numberAt hh hn r (by omega) i (by omega) (by rw [hz]; exact p_in_nI (by omega) (by omega))) (cwV 2 hts gX4_sumOfNumbers_X4_numberAt rfl rfl rfl (by decide +kernel) ⟨Nat.le_of_ble_eq_true rfl, Nat.le_of_ble_eq_true rfl⟩) (wd_preV (ci := 4) (q0 := 1) hP hK rfl rfl) rfl rfl hl.1 rfl (lv_room (Nat.le_of_ble_eq_true rfl)) dX4_sumOfNumbers_20 ⟨Nat.zero_le _, Nat.zero_le _⟩) ?_
    refine lv_ladd hx hb dX4_sumOfNumbers_23 ?_
    refine lv_lstore_n (lv' := [(2, .long ((sumN Nu (8 * r) i) + (Nu (8 * r + i)))), (4, .int (nI i)), (0, .ref (h 1)), (1, .int (nI r))]) hx hb dX4_sumOfNumbers_24 rfl hl (by decide) rfl (fun ls hl => ?_)
    refine lv_iinc (v := nI (i + 1)) (lv' := [(4, .int (nI (i + 1))), (2, .long ((sumN Nu (8 * r) i) + (Nu (8 * r + i)))), (0, .ref (h 1)), (1, .int (nI r))]) hx hb dX4_sumOfNumbers_25 hl (k := 1) rfl (nI_add i 1) (by decide) rfl (fun ls hl => ?_)
    refine lv_goto (tgt := 5) hx hb dX4_sumOfNumbers_28 (by decide) ?_
    exact ih (i + 1) (by omega) ls (lv_sub hl [0, 1, 2, 3] rfl)
set_option maxHeartbeats 4000000 in
set_option maxRecDepth 100000 in
theorem c_X4_sumOfNumbers (hh : ad_ok h 20) (hn : n ≤ 100) (r z : Nat) (hr9 : r < n) (hz : Sz r = nI z) (hz8 : z ≤ 8) : Met l yX4_sumOfNumbers wsX4_sumOfNumbers ({ frames := 2, cells := 0, slots := 0, locals := 44 }) (wd_P D cI cJ [.ref (h 1), .int (nI r)] (sl_W cI cJ h (nI n) F Wt Sz Nu Mb (nI k) G Wk To Sl Ri (nI f) (nI b) oT oS oF (nI an) (nI as) Fo wo pa fa)) (pu_Q (some (.long (sumN Nu (8 * r) z)))) 0 0 (fun _ => False) := by
  refine Met.ofW (cc := cX4_sumOfNumbers) (maxL := 5) (ret := (some .long)) (by decide) rfl ?_
  intro p e s m args below meth c s₁ B hml hv
  obtain ⟨rfl, hP, hK⟩ := hv
  have hx := B.exec
  have hb := B.bytes
  have hr := B.returns
  have hts := atoms_spec (ws := wsX4_sumOfNumbers) B.pre
  have hown : s.vm.findClass RX4 = some m.cls := findClass_of_methodNamed B.named
  have hlocks := B.notSynchronized
  have hl := lv_entry ([.ref (h 1), .int (nI r)]) (n := 5) (Nat.le_of_ble_eq_true rfl)
  rw [lg_entry_eq]
  generalize (lg_sl ([.ref (h 1), .int (nI r)]) ++ List.replicate (5 - (lg_sl ([.ref (h 1), .int (nI r)])).length) Slot.unset).toArray = ls at hl ⊢
  have hl : lv_has ls 5 [(0, .ref (h 1)), (1, .int (nI r))] := hl
  refine lv_lconst (v := 0) hx hb dX4_sumOfNumbers_0 (by decide) ?_
  refine lv_lstore_n (lv' := [(2, .long 0), (0, .ref (h 1)), (1, .int (nI r))]) hx hb dX4_sumOfNumbers_1 rfl hl (by decide) rfl (fun ls hl => ?_)
  refine lv_iconst (v := 0) hx hb dX4_sumOfNumbers_2 (by decide) ?_
  refine lv_istore (lv' := [(4, .int 0), (2, .long 0), (0, .ref (h 1)), (1, .int (nI r))]) hx hb dX4_sumOfNumbers_3 hl (by decide) rfl (fun ls hl => ?_)
  refine lp_X4_sum hx hb hml hown hts hK hP hh hn r z hr9 hz hz8 (fun _ _ ls hl => ?_) z 0 (by omega) ls (lv_sub hl [0, 1, 2, 3] rfl)
  refine lv_lload_n hx hb dX4_sumOfNumbers_31 rfl (lv_at hl 1 rfl) ?_
  exact W.lret (v := sumN Nu (8 * r) z) hx hb hr (fun t9 ht _ => ⟨congrArg (fun z => Outcome.returned (some (Value.long z))) (rfl), ht⟩) (fun _ h9 => nomatch h9) dX4_sumOfNumbers_32
set_option maxHeartbeats 4000000 in
set_option maxRecDepth 100000 in
theorem c_X4_forget (hh : ad_ok h 20) : Met l yX4_forget wsX4_forget ({ frames := 0, cells := 0, slots := 0, locals := 0 }) (wd_P D cI cJ [.ref (h 1)] (sl_W cI cJ h (nI n) F Wt Sz Nu Mb (nI k) G Wk To Sl Ri (nI f) (nI b) oT oS oF (nI an) (nI as) Fo wo pa fa)) (mu_Q D (ad_A h 20) none (sl_W cI cJ h 0 F Wt Sz Nu Mb (nI k) G Wk To Sl Ri (nI f) (nI b) oT oS oF (nI an) (nI as) Fo wo pa fa)) 0 0 (ad_A h 20) := by
  refine Met.ofW (cc := cX4_forget) (maxL := 1) (ret := none) (by decide) rfl ?_
  intro p e s m args below meth c s₁ B hml hv
  obtain ⟨rfl, hP, hK⟩ := hv
  have hx := B.exec
  have hb := B.bytes
  have hr := B.returns
  have hts := atoms_spec (ws := wsX4_forget) B.pre
  have hown : s.vm.findClass RX4 = some m.cls := findClass_of_methodNamed B.named
  have hlocks := B.notSynchronized
  have hiX4 : ∀ w ∈ u_ws RX4 TX4 6, w ∈ wsX4_forget := by decide +kernel
  have kf28 := hts (.fieldLink RX4 28 "SortingLine$Things" "made" "I") (by decide +kernel)
  have hS : va_S (ad_A h 20) s.heap s.heap [] := va_S.rf
  have hl := lv_entry ([.ref (h 1)]) (n := 1) (Nat.le_of_ble_eq_true rfl)
  rw [lg_entry_eq]
  generalize (lg_sl ([.ref (h 1)]) ++ List.replicate (1 - (lg_sl ([.ref (h 1)])).length) Slot.unset).toArray = ls at hl ⊢
  have hl : lv_has ls 1 [(0, .ref (h 1))] := hl
  refine lv_aload_n hx hb dX4_forget_0 rfl (lv_at hl 0 rfl) ?_
  refine lv_iconst (v := 0) hx hb dX4_forget_1 (by decide) ?_
  refine va_put (D := D) (ci := 4) (v := .int 0) (ty := .int) (C := RX4) (T := TX4) (N := 6) hx hb hts hiX4 tyX4 tyX4_ok nmX4 hown hK.1 hP (sl_D hh) hS 1 rfl rfl 5 (by decide) kf28 (fun _ h9 => h9) rfl (by decide +kernel) rfl rfl (Nat.le_of_ble_eq_true rfl) dX4_forget_2 (fun H locs hP _ hS => ?_)
  have hP : va_P D kC (sl_W cI cJ h 0 F Wt Sz Nu Mb (nI k) G Wk To Sl Ri (nI f) (nI b) oT oS oF (nI an) (nI as) Fo wo pa fa) H := hP
  exact W.vret hx hb hr (fun t9 ht _ => ⟨rfl, by rw [ht]; exact hP, hS.F ht⟩) hS.2.2 dX4_forget_5
end SubA
