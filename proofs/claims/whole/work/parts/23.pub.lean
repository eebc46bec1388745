/-! the class's public methods (but number and run), outcome by outcome, in one room -/
theorem q_lo {x lo hi : Int32} (h : x < lo) : q_in x lo hi = false := by simp [q_in, h]
theorem q_hi {x lo hi : Int32} (h : hi < x) : q_in x lo hi = false := by
  have : ¬ x ≤ hi := by rw [Int32.le_iff_toInt_le]; rw [Int32.lt_iff_toInt_lt] at h; omega
  simp [q_in, this]
theorem q_hi' {x lo hi : Int32} (h : ¬ x ≤ hi) : q_in x lo hi = false := by simp [q_in, h]
theorem q_ok {x lo hi : Int32} (h : ¬ x < lo) (h2 : x ≤ hi) : q_in x lo hi = true := by simp [q_in, h, h2]
theorem q_ok' {x lo hi : Int32} (h : ¬ x < lo) (h2 : ¬ hi < x) : q_in x lo hi = true := by
  have : x ≤ hi := by rw [Int32.le_iff_toInt_le]; rw [Int32.lt_iff_toInt_lt] at h2; omega
  simp [q_in, h, this]
theorem bb_f {a b : Bool} (ha : a = true) (hb : b = true) (h : (a && b) = false) : False := by rw [ha, hb] at h; exact absurd h (by decide)
theorem bt_f {a : Bool} (ha : a = true) (h : a = false) : False := by rw [ha] at h; exact absurd h (by decide)
def mrS (f : Int32) (y : Nat) : Bool := decide (¬ nI y = f) && ko f (nI y)
theorem pu_mu {l : Launch} {y : MethodName} {ws : List Cond} {rm : Room} {D : va_G} {cI cJ : ClassId} {vs : List Value} {w : va_W} {v : Option Value} {A : Nat → Prop} (hM : Met l y ws rm (wd_P D cI cJ vs w) (pu_Q v) 0 0 (fun _ => False)) : Met l y ws rm (wd_P D cI cJ vs w) (mu_Q D A v w) 0 0 A := by
  intro p e ha hc hk s m args below hf hap hP hK
  obtain ⟨t, o, h1, h2, h3, ⟨hv, hh⟩, L, hF, hL⟩ := hM p e ha hc hk s m args below hf hap hP hK
  exact ⟨t, o, h1, h2, h3, ⟨hv, by rw [hh]; exact hP.2.1, by rw [hh]; exact Nat.le_refl _, fun q _ _ => by rw [hh]⟩, L, hF, fun q hq => (hL q hq).elim⟩
section SubF
variable {l : Launch} {D : va_G} {cI cJ : ClassId} {h : Nat → Nat} {n k f b an as : Nat} {F Wt Sz : Nat → Int32} {Nu : Nat → Int64} {Mb : Nat → Int32} {G Wk : Nat → Int32} {To : Nat → Int64} {Sl : Nat → Int32} {Ri oT oS oF Fo : Nat → Int32} {wo pa fa : Int32}
set_option maxHeartbeats 4000000 in
set_option maxRecDepth 100000 in
theorem c_X5_thing_o (hh : ad_ok h 20) (fo we : Int32) (h1 : (q_in fo 0 3 && q_in we (-1000) 1000) = false) : Met l yX5_thing wsX5_thing ({ frames := 9, cells := 0, slots := 0, locals := 400 }) (wd_P D cI cJ [.ref (h 0), .int fo, .int we] (sl_W cI cJ h (nI n) F Wt Sz Nu Mb (nI k) G Wk To Sl Ri (nI f) (nI b) oT oS oF (nI an) (nI as) Fo wo pa fa)) (pu_Q (some (.int (-2)))) 0 0 (fun _ => False) := by
  refine Met.ofW (cc := cX5_thing) (maxL := 3) (ret := (some .int)) (by decide) rfl ?_
  intro p e s m args below meth c s₁ B hml hv
  obtain ⟨rfl, hP, hK⟩ := hv
  have hx := B.exec
  have hb := B.bytes
  have hr := B.returns
  have hts := atoms_spec (ws := wsX5_thing) B.pre
  have hown : s.vm.findClass RX5 = some m.cls := findClass_of_methodNamed B.named
  have hlocks := B.notSynchronized
  have hl := lv_entry ([.ref (h 0), .int fo, .int we]) (n := 3) (Nat.le_of_ble_eq_true rfl)
  rw [lg_entry_eq]
  generalize (lg_sl ([.ref (h 0), .int fo, .int we]) ++ List.replicate (3 - (lg_sl ([.ref (h 0), .int fo, .int we])).length) Slot.unset).toArray = ls at hl ⊢
  have hl : lv_has ls 3 [(0, .ref (h 0)), (1, .int fo), (2, .int we)] := hl
  refine lv_iload_n hx hb dX5_thing_0 rfl (lv_at hl 1 rfl) ?_
  refine lv_if_lt (tgt := 23) hx hb dX5_thing_1 (by decide) (fun c1 => ?_) (fun c1 => ?_)
  · skip
    refine lv_bipush (v := (-2)) hx hb dX5_thing_23 (by decide) ?_
    exact W.iret (v := (-2)) hx hb hr (fun t9 ht _ => ⟨congrArg (fun z => Outcome.returned (some (Value.int z))) (rfl), ht⟩) (fun _ h9 => nomatch h9) dX5_thing_25
  · skip
    refine lv_iload_n hx hb dX5_thing_4 rfl (lv_at hl 1 rfl) ?_
    refine lv_iconst (v := 3) hx hb dX5_thing_5 (by decide) ?_
    refine lv_icmp_gt (tgt := 23) hx hb dX5_thing_6 (by decide) (fun c6 => ?_) (fun c6 => ?_)
    · skip
      refine lv_bipush (v := (-2)) hx hb dX5_thing_23 (by decide) ?_
      exact W.iret (v := (-2)) hx hb hr (fun t9 ht _ => ⟨congrArg (fun z => Outcome.returned (some (Value.int z))) (rfl), ht⟩) (fun _ h9 => nomatch h9) dX5_thing_25
    · skip
      refine lv_iload_n hx hb dX5_thing_9 rfl (lv_at hl 2 rfl) ?_
      refine lv_sipush (v := (-1000)) hx hb dX5_thing_10 (by decide) ?_
      refine lv_icmp_lt (tgt := 23) hx hb dX5_thing_13 (by decide) (fun c13 => ?_) (fun c13 => ?_)
      · skip
        refine lv_bipush (v := (-2)) hx hb dX5_thing_23 (by decide) ?_
        exact W.iret (v := (-2)) hx hb hr (fun t9 ht _ => ⟨congrArg (fun z => Outcome.returned (some (Value.int z))) (rfl), ht⟩) (fun _ h9 => nomatch h9) dX5_thing_25
      · skip
        refine lv_iload_n hx hb dX5_thing_16 rfl (lv_at hl 2 rfl) ?_
        refine lv_sipush (v := 1000) hx hb dX5_thing_17 (by decide) ?_
        refine lv_icmp_le (tgt := 26) hx hb dX5_thing_20 (by decide) (fun c20 => ?_) (fun c20 => ?_)
        · skip
          exact (bb_f (q_ok' c1 c6) (q_ok c13 c20) h1).elim
        · skip
          refine lv_bipush (v := (-2)) hx hb dX5_thing_23 (by decide) ?_
          exact W.iret (v := (-2)) hx hb hr (fun t9 ht _ => ⟨congrArg (fun z => Outcome.returned (some (Value.int z))) (rfl), ht⟩) (fun _ h9 => nomatch h9) dX5_thing_25
set_option maxHeartbeats 4000000 in
set_option maxRecDepth 100000 in
theorem c_X5_thing_f (hh : ad_ok h 20) (fo we : Int32) (h1 : q_in fo 0 3 = true) (h2 : q_in we (-1000) 1000 = true) (hn : n = 100) : Met l yX5_thing wsX5_thing ({ frames := 9, cells := 0, slots := 0, locals := 400 }) (wd_P D cI cJ [.ref (h 0), .int fo, .int we] (sl_W cI cJ h (nI n) F Wt Sz Nu Mb (nI k) G Wk To Sl Ri (nI f) (nI b) oT oS oF (nI an) (nI as) Fo wo pa fa)) (pu_Q (some (.int (-4)))) 0 0 (fun _ => False) := by
  refine Met.ofW (cc := cX5_thing) (maxL := 3) (ret := (some .int)) (by decide) rfl ?_
  intro p e s m args below meth c s₁ B hml hv
  obtain ⟨rfl, hP, hK⟩ := hv
  have hx := B.exec
  have hb := B.bytes
  have hr := B.returns
  have hts := atoms_spec (ws := wsX5_thing) B.pre
  have hown : s.vm.findClass RX5 = some m.cls := findClass_of_methodNamed B.named
  have hlocks := B.notSynchronized
  have hiX5 : ∀ w ∈ u_ws RX5 TX5 5, w ∈ wsX5_thing := by decide +kernel
  have kf10 := hts (.fieldLink RX5 10 "SortingLine" "things" "LSortingLine$Things;") (by decide +kernel)
  have hl := lv_entry ([.ref (h 0), .int fo, .int we]) (n := 3) (Nat.le_of_ble_eq_true rfl)
  rw [lg_entry_eq]
  generalize (lg_sl ([.ref (h 0), .int fo, .int we]) ++ List.replicate (3 - (lg_sl ([.ref (h 0), .int fo, .int we])).length) Slot.unset).toArray = ls at hl ⊢
  have hl : lv_has ls 3 [(0, .ref (h 0)), (1, .int fo), (2, .int we)] := hl
  refine lv_iload_n hx hb dX5_thing_0 rfl (lv_at hl 1 rfl) ?_
  refine lv_if_lt (tgt := 23) hx hb dX5_thing_1 (by decide) (fun c1 => ?_) (fun c1 => ?_)
  · skip
    exact (bt_f h1 (q_lo c1)).elim
  · skip
    refine lv_iload_n hx hb dX5_thing_4 rfl (lv_at hl 1 rfl) ?_
    refine lv_iconst (v := 3) hx hb dX5_thing_5 (by decide) ?_
    refine lv_icmp_gt (tgt := 23) hx hb dX5_thing_6 (by decide) (fun c6 => ?_) (fun c6 => ?_)
    · skip
      exact (bt_f h1 (q_hi c6)).elim
    · skip
      refine lv_iload_n hx hb dX5_thing_9 rfl (lv_at hl 2 rfl) ?_
      refine lv_sipush (v := (-1000)) hx hb dX5_thing_10 (by decide) ?_
      refine lv_icmp_lt (tgt := 23) hx hb dX5_thing_13 (by decide) (fun c13 => ?_) (fun c13 => ?_)
      · skip
        exact (bt_f h2 (q_lo c13)).elim
      · skip
        refine lv_iload_n hx hb dX5_thing_16 rfl (lv_at hl 2 rfl) ?_
        refine lv_sipush (v := 1000) hx hb dX5_thing_17 (by decide) ?_
        refine lv_icmp_le (tgt := 26) hx hb dX5_thing_20 (by decide) (fun c20 => ?_) (fun c20 => ?_)
        · skip
          refine lv_aload_n hx hb dX5_thing_26 rfl (lv_at hl 0 rfl) ?_
          refine va_get (D := D) (ci := 5) (v := .ref (h 1)) (C := RX5) (T := TX5) (N := 5) hx hb hts hiX5 hown hK.1 hP 0 rfl rfl 0 (by decide) kf10 (fun _ h9 => h9) rfl dX5_thing_27 ?_
          refine lv_iload_n hx hb dX5_thing_30 rfl (lv_at hl 1 rfl) ?_
          refine lv_iload_n hx hb dX5_thing_31 rfl (lv_at hl 2 rfl) ?_
          refine lv_iconst (v := 0) hx hb dX5_thing_32 (by decide) ?_
          refine pu_calli (va_runV (As := [.int fo, .int we, .int 0]) (rest := []) ⟨hx, hb, hml, hown, hts⟩ (c_X4_addF hh (hn) fo we 0) (cwV 3 hts gX5_thing_X4_add rfl rfl rfl (by decide +kernel) ⟨Nat.le_of_ble_eq_true rfl, Nat.le_of_ble_eq_true rfl⟩) (wd_preV (ci := 4) (q0 := 1) hP hK rfl rfl) rfl rfl hl.1 rfl (lv_room (Nat.le_of_ble_eq_true rfl)) dX5_thing_33 ⟨Nat.zero_le _, Nat.zero_le _⟩) ?_
          exact W.iret (v := (-4)) hx hb hr (fun t9 ht _ => ⟨congrArg (fun z => Outcome.returned (some (Value.int z))) (rfl), ht⟩) (fun _ h9 => nomatch h9) dX5_thing_36
        · skip
          exact (bt_f h2 (q_hi' c20)).elim
set_option maxHeartbeats 4000000 in
set_option maxRecDepth 100000 in
theorem c_X5_thing_a (hh : ad_ok h 20) (fo we : Int32) (h1 : q_in fo 0 3 = true) (h2 : q_in we (-1000) 1000 = true) (hn : n < 100) : Met l yX5_thing wsX5_thing ({ frames := 9, cells := 0, slots := 0, locals := 400 }) (wd_P D cI cJ [.ref (h 0), .int fo, .int we] (sl_W cI cJ h (nI n) F Wt Sz Nu Mb (nI k) G Wk To Sl Ri (nI f) (nI b) oT oS oF (nI an) (nI as) Fo wo pa fa)) (mu_Q D (ad_A h 20) (some (.int (nI n))) (sl_W cI cJ h (nI (n + 1)) (upd F n fo) (upd Wt n we) (upd Sz n 0) (z8L Nu (8 * n) 0) (z8I Mb (8 * n) (-5)) (nI k) G Wk To Sl Ri (nI f) (nI b) oT oS oF (nI an) (nI as) Fo wo pa fa)) 0 0 (ad_A h 20) := by
  refine Met.ofW (cc := cX5_thing) (maxL := 3) (ret := (some .int)) (by decide) rfl ?_
  intro p e s m args below meth c s₁ B hml hv
  obtain ⟨rfl, hP, hK⟩ := hv
  have hx := B.exec
  have hb := B.bytes
  have hr := B.returns
  have hts := atoms_spec (ws := wsX5_thing) B.pre
  have hown : s.vm.findClass RX5 = some m.cls := findClass_of_methodNamed B.named
  have hlocks := B.notSynchronized
  have hiX5 : ∀ w ∈ u_ws RX5 TX5 5, w ∈ wsX5_thing := by decide +kernel
  have kf10 := hts (.fieldLink RX5 10 "SortingLine" "things" "LSortingLine$Things;") (by decide +kernel)
  have hS : va_S (ad_A h 20) s.heap s.heap [] := va_S.rf
  have hl := lv_entry ([.ref (h 0), .int fo, .int we]) (n := 3) (Nat.le_of_ble_eq_true rfl)
  rw [lg_entry_eq]
  generalize (lg_sl ([.ref (h 0), .int fo, .int we]) ++ List.replicate (3 - (lg_sl ([.ref (h 0), .int fo, .int we])).length) Slot.unset).toArray = ls at hl ⊢
  have hl : lv_has ls 3 [(0, .ref (h 0)), (1, .int fo), (2, .int we)] := hl
  refine lv_iload_n hx hb dX5_thing_0 rfl (lv_at hl 1 rfl) ?_
  refine lv_if_lt (tgt := 23) hx hb dX5_thing_1 (by decide) (fun c1 => ?_) (fun c1 => ?_)
  · skip
    exact (bt_f h1 (q_lo c1)).elim
  · skip
    refine lv_iload_n hx hb dX5_thing_4 rfl (lv_at hl 1 rfl) ?_
    refine lv_iconst (v := 3) hx hb dX5_thing_5 (by decide) ?_
    refine lv_icmp_gt (tgt := 23) hx hb dX5_thing_6 (by decide) (fun c6 => ?_) (fun c6 => ?_)
    · skip
      exact (bt_f h1 (q_hi c6)).elim
    · skip
      refine lv_iload_n hx hb dX5_thing_9 rfl (lv_at hl 2 rfl) ?_
      refine lv_sipush (v := (-1000)) hx hb dX5_thing_10 (by decide) ?_
      refine lv_icmp_lt (tgt := 23) hx hb dX5_thing_13 (by decide) (fun c13 => ?_) (fun c13 => ?_)
      · skip
        exact (bt_f h2 (q_lo c13)).elim
      · skip
        refine lv_iload_n hx hb dX5_thing_16 rfl (lv_at hl 2 rfl) ?_
        refine lv_sipush (v := 1000) hx hb dX5_thing_17 (by decide) ?_
        refine lv_icmp_le (tgt := 26) hx hb dX5_thing_20 (by decide) (fun c20 => ?_) (fun c20 => ?_)
        · skip
          refine lv_aload_n hx hb dX5_thing_26 rfl (lv_at hl 0 rfl) ?_
          refine va_get (D := D) (ci := 5) (v := .ref (h 1)) (C := RX5) (T := TX5) (N := 5) hx hb hts hiX5 hown hK.1 hP 0 rfl rfl 0 (by decide) kf10 (fun _ h9 => h9) rfl dX5_thing_27 ?_
          refine lv_iload_n hx hb dX5_thing_30 rfl (lv_at hl 1 rfl) ?_
          refine lv_iload_n hx hb dX5_thing_31 rfl (lv_at hl 2 rfl) ?_
          refine lv_iconst (v := 0) hx hb dX5_thing_32 (by decide) ?_
          refine mu_calli (va_runV (As := [.int fo, .int we, .int 0]) (rest := []) ⟨hx, hb, hml, hown, hts⟩ (c_X4_add hh (hn) fo we 0) (cwV 3 hts gX5_thing_X4_add rfl rfl rfl (by decide +kernel) ⟨Nat.le_of_ble_eq_true rfl, Nat.le_of_ble_eq_true rfl⟩) (wd_preV (ci := 4) (q0 := 1) hP hK rfl rfl) rfl rfl hl.1 rfl (lv_room (Nat.le_of_ble_eq_true rfl)) dX5_thing_33 ⟨Nat.zero_le _, Nat.zero_le _⟩) hS (fun H locs hP hS => ?_)
          have hP : va_P D kC (sl_W cI cJ h (nI (n + 1)) (upd F n fo) (upd Wt n we) (upd Sz n 0) (z8L Nu (8 * n) 0) (z8I Mb (8 * n) (-5)) (nI k) G Wk To Sl Ri (nI f) (nI b) oT oS oF (nI an) (nI as) Fo wo pa fa) H := hP
          exact W.iret (v := nI n) hx hb hr (fun t9 ht _ => ⟨congrArg (fun z => Outcome.returned (some (Value.int z))) (rfl), by rw [ht]; exact hP, hS.F ht⟩) hS.2.2 dX5_thing_36
        · skip
          exact (bt_f h2 (q_hi' c20)).elim
set_option maxHeartbeats 4000000 in
set_option maxRecDepth 100000 in
theorem c_X5_row_o (hh : ad_ok h 20) (fo nn : Int32) (h1 : (q_in fo 4 15 && decide (nn ≤ 8)) = false) : Met l yX5_row wsX5_row ({ frames := 9, cells := 0, slots := 0, locals := 400 }) (wd_P D cI cJ [.ref (h 0), .int fo, .int nn] (sl_W cI cJ h (nI n) F Wt Sz Nu Mb (nI k) G Wk To Sl Ri (nI f) (nI b) oT oS oF (nI an) (nI as) Fo wo pa fa)) (pu_Q (some (.int (-2)))) 0 0 (fun _ => False) := by
  refine Met.ofW (cc := cX5_row) (maxL := 3) (ret := (some .int)) (by decide) rfl ?_
  intro p e s m args below meth c s₁ B hml hv
  obtain ⟨rfl, hP, hK⟩ := hv
  have hx := B.exec
  have hb := B.bytes
  have hr := B.returns
  have hts := atoms_spec (ws := wsX5_row) B.pre
  have hown : s.vm.findClass RX5 = some m.cls := findClass_of_methodNamed B.named
  have hlocks := B.notSynchronized
  have hl := lv_entry ([.ref (h 0), .int fo, .int nn]) (n := 3) (Nat.le_of_ble_eq_true rfl)
  rw [lg_entry_eq]
  generalize (lg_sl ([.ref (h 0), .int fo, .int nn]) ++ List.replicate (3 - (lg_sl ([.ref (h 0), .int fo, .int nn])).length) Slot.unset).toArray = ls at hl ⊢
  have hl : lv_has ls 3 [(0, .ref (h 0)), (1, .int fo), (2, .int nn)] := hl
  refine lv_iload_n hx hb dX5_row_0 rfl (lv_at hl 1 rfl) ?_
  refine lv_iconst (v := 4) hx hb dX5_row_1 (by decide) ?_
  refine lv_icmp_lt (tgt := 17) hx hb dX5_row_2 (by decide) (fun c2 => ?_) (fun c2 => ?_)
  · skip
    refine lv_bipush (v := (-2)) hx hb dX5_row_17 (by decide) ?_
    exact W.iret (v := (-2)) hx hb hr (fun t9 ht _ => ⟨congrArg (fun z => Outcome.returned (some (Value.int z))) (rfl), ht⟩) (fun _ h9 => nomatch h9) dX5_row_19
  · skip
    refine lv_iload_n hx hb dX5_row_5 rfl (lv_at hl 1 rfl) ?_
    refine lv_bipush (v := 15) hx hb dX5_row_6 (by decide) ?_
    refine lv_icmp_gt (tgt := 17) hx hb dX5_row_8 (by decide) (fun c8 => ?_) (fun c8 => ?_)
    · skip
      refine lv_bipush (v := (-2)) hx hb dX5_row_17 (by decide) ?_
      exact W.iret (v := (-2)) hx hb hr (fun t9 ht _ => ⟨congrArg (fun z => Outcome.returned (some (Value.int z))) (rfl), ht⟩) (fun _ h9 => nomatch h9) dX5_row_19
    · skip
      refine lv_iload_n hx hb dX5_row_11 rfl (lv_at hl 2 rfl) ?_
      refine lv_bipush (v := 8) hx hb dX5_row_12 (by decide) ?_
      refine lv_icmp_le (tgt := 20) hx hb dX5_row_14 (by decide) (fun c14 => ?_) (fun c14 => ?_)
      · skip
        exact (bb_f (q_ok' c2 c8) (decide_eq_true c14) h1).elim
      · skip
        refine lv_bipush (v := (-2)) hx hb dX5_row_17 (by decide) ?_
        exact W.iret (v := (-2)) hx hb hr (fun t9 ht _ => ⟨congrArg (fun z => Outcome.returned (some (Value.int z))) (rfl), ht⟩) (fun _ h9 => nomatch h9) dX5_row_19
set_option maxHeartbeats 4000000 in
set_option maxRecDepth 100000 in
theorem c_X5_row_f (hh : ad_ok h 20) (fo nn : Int32) (h1 : q_in fo 4 15 = true) (h2 : nn ≤ 8) (hn : n = 100) : Met l yX5_row wsX5_row ({ frames := 9, cells := 0, slots := 0, locals := 400 }) (wd_P D cI cJ [.ref (h 0), .int fo, .int nn] (sl_W cI cJ h (nI n) F Wt Sz Nu Mb (nI k) G Wk To Sl Ri (nI f) (nI b) oT oS oF (nI an) (nI as) Fo wo pa fa)) (pu_Q (some (.int (-4)))) 0 0 (fun _ => False) := by
  refine Met.ofW (cc := cX5_row) (maxL := 3) (ret := (some .int)) (by decide) rfl ?_
  intro p e s m args below meth c s₁ B hml hv
  obtain ⟨rfl, hP, hK⟩ := hv
  have hx := B.exec
  have hb := B.bytes
  have hr := B.returns
  have hts := atoms_spec (ws := wsX5_row) B.pre
  have hown : s.vm.findClass RX5 = some m.cls := findClass_of_methodNamed B.named
  have hlocks := B.notSynchronized
  have hiX5 : ∀ w ∈ u_ws RX5 TX5 5, w ∈ wsX5_row := by decide +kernel
  have kf10 := hts (.fieldLink RX5 10 "SortingLine" "things" "LSortingLine$Things;") (by decide +kernel)
  have hl := lv_entry ([.ref (h 0), .int fo, .int nn]) (n := 3) (Nat.le_of_ble_eq_true rfl)
  rw [lg_entry_eq]
  generalize (lg_sl ([.ref (h 0), .int fo, .int nn]) ++ List.replicate (3 - (lg_sl ([.ref (h 0), .int fo, .int nn])).length) Slot.unset).toArray = ls at hl ⊢
  have hl : lv_has ls 3 [(0, .ref (h 0)), (1, .int fo), (2, .int nn)] := hl
  refine lv_iload_n hx hb dX5_row_0 rfl (lv_at hl 1 rfl) ?_
  refine lv_iconst (v := 4) hx hb dX5_row_1 (by decide) ?_
  refine lv_icmp_lt (tgt := 17) hx hb dX5_row_2 (by decide) (fun c2 => ?_) (fun c2 => ?_)
  · skip
    exact (bt_f h1 (q_lo c2)).elim
  · skip
    refine lv_iload_n hx hb dX5_row_5 rfl (lv_at hl 1 rfl) ?_
    refine lv_bipush (v := 15) hx hb dX5_row_6 (by decide) ?_
    refine lv_icmp_gt (tgt := 17) hx hb dX5_row_8 (by decide) (fun c8 => ?_) (fun c8 => ?_)
    · skip
      exact (bt_f h1 (q_hi c8)).elim
    · skip
      refine lv_iload_n hx hb dX5_row_11 rfl (lv_at hl 2 rfl) ?_
      refine lv_bipush (v := 8) hx hb dX5_row_12 (by decide) ?_
      refine lv_icmp_le (tgt := 20) hx hb dX5_row_14 (by decide) (fun _ => ?_) (fun h9 => absurd (h2) h9)
      refine lv_aload_n hx hb dX5_row_20 rfl (lv_at hl 0 rfl) ?_
      refine va_get (D := D) (ci := 5) (v := .ref (h 1)) (C := RX5) (T := TX5) (N := 5) hx hb hts hiX5 hown hK.1 hP 0 rfl rfl 0 (by decide) kf10 (fun _ h9 => h9) rfl dX5_row_21 ?_
      refine pu_callb (va_runV (As := []) (rest := []) ⟨hx, hb, hml, hown, hts⟩ (c_X4_areFull hh (by omega)) (cwV 0 hts gX5_row_X4_areFull rfl rfl rfl (by decide +kernel) ⟨Nat.le_of_ble_eq_true rfl, Nat.le_of_ble_eq_true rfl⟩) (wd_preV (ci := 4) (q0 := 1) hP hK rfl rfl) rfl rfl hl.1 rfl (lv_room (Nat.le_of_ble_eq_true rfl)) dX5_row_24 ⟨Nat.zero_le _, Nat.zero_le _⟩) (fun _ => ?_) (fun h9 => absurd (show decide (100 ≤ n) = true by simp; omega) (by rw [h9]; decide))
      refine lv_if_eq (tgt := 33) hx hb dX5_row_27 (by decide) (fun h9 => absurd h9 (by decide)) (fun _ => ?_)
      refine lv_bipush (v := (-4)) hx hb dX5_row_30 (by decide) ?_
      exact W.iret (v := (-4)) hx hb hr (fun t9 ht _ => ⟨congrArg (fun z => Outcome.returned (some (Value.int z))) (rfl), ht⟩) (fun _ h9 => nomatch h9) dX5_row_32
set_option maxHeartbeats 4000000 in
set_option maxRecDepth 100000 in
theorem c_X5_row_s (hh : ad_ok h 20) (fo nn : Int32) (h1 : q_in fo 4 15 = true) (h2 : nn ≤ 8) (hn : n < 100) (h3 : nn < 0) : Met l yX5_row wsX5_row ({ frames := 9, cells := 0, slots := 0, locals := 400 }) (wd_P D cI cJ [.ref (h 0), .int fo, .int nn] (sl_W cI cJ h (nI n) F Wt Sz Nu Mb (nI k) G Wk To Sl Ri (nI f) (nI b) oT oS oF (nI an) (nI as) Fo wo pa fa)) (mu_Q D (ad_A h 20) (some (.int (-25))) (sl_W cI cJ h (nI n) F Wt Sz Nu Mb (nI k) G Wk To Sl Ri (nI f) (nI b) oT oS oF (nI an) (nI as) (upd Fo 5 (Fo 5 + 1)) wo pa fa)) 0 0 (ad_A h 20) := by
  refine Met.ofW (cc := cX5_row) (maxL := 3) (ret := (some .int)) (by decide) rfl ?_
  intro p e s m args below meth c s₁ B hml hv
  obtain ⟨rfl, hP, hK⟩ := hv
  have hx := B.exec
  have hb := B.bytes
  have hr := B.returns
  have hts := atoms_spec (ws := wsX5_row) B.pre
  have hown : s.vm.findClass RX5 = some m.cls := findClass_of_methodNamed B.named
  have hlocks := B.notSynchronized
  have hiX5 : ∀ w ∈ u_ws RX5 TX5 5, w ∈ wsX5_row := by decide +kernel
  have kf10 := hts (.fieldLink RX5 10 "SortingLine" "things" "LSortingLine$Things;") (by decide +kernel)
  have hS : va_S (ad_A h 20) s.heap s.heap [] := va_S.rf
  have hl := lv_entry ([.ref (h 0), .int fo, .int nn]) (n := 3) (Nat.le_of_ble_eq_true rfl)
  rw [lg_entry_eq]
  generalize (lg_sl ([.ref (h 0), .int fo, .int nn]) ++ List.replicate (3 - (lg_sl ([.ref (h 0), .int fo, .int nn])).length) Slot.unset).toArray = ls at hl ⊢
  have hl : lv_has ls 3 [(0, .ref (h 0)), (1, .int fo), (2, .int nn)] := hl
  refine lv_iload_n hx hb dX5_row_0 rfl (lv_at hl 1 rfl) ?_
  refine lv_iconst (v := 4) hx hb dX5_row_1 (by decide) ?_
  refine lv_icmp_lt (tgt := 17) hx hb dX5_row_2 (by decide) (fun c2 => ?_) (fun c2 => ?_)
  · skip
    exact (bt_f h1 (q_lo c2)).elim
  · skip
    refine lv_iload_n hx hb dX5_row_5 rfl (lv_at hl 1 rfl) ?_
    refine lv_bipush (v := 15) hx hb dX5_row_6 (by decide) ?_
    refine lv_icmp_gt (tgt := 17) hx hb dX5_row_8 (by decide) (fun c8 => ?_) (fun c8 => ?_)
    · skip
      exact (bt_f h1 (q_hi c8)).elim
    · skip
      refine lv_iload_n hx hb dX5_row_11 rfl (lv_at hl 2 rfl) ?_
      refine lv_bipush (v := 8) hx hb dX5_row_12 (by decide) ?_
      refine lv_icmp_le (tgt := 20) hx hb dX5_row_14 (by decide) (fun _ => ?_) (fun h9 => absurd (h2) h9)
      refine lv_aload_n hx hb dX5_row_20 rfl (lv_at hl 0 rfl) ?_
      refine va_get (D := D) (ci := 5) (v := .ref (h 1)) (C := RX5) (T := TX5) (N := 5) hx hb hts hiX5 hown hK.1 hP 0 rfl rfl 0 (by decide) kf10 (fun _ h9 => h9) rfl dX5_row_21 ?_
      refine pu_callb (va_runV (As := []) (rest := []) ⟨hx, hb, hml, hown, hts⟩ (c_X4_areFull hh (by omega)) (cwV 0 hts gX5_row_X4_areFull rfl rfl rfl (by decide +kernel) ⟨Nat.le_of_ble_eq_true rfl, Nat.le_of_ble_eq_true rfl⟩) (wd_preV (ci := 4) (q0 := 1) hP hK rfl rfl) rfl rfl hl.1 rfl (lv_room (Nat.le_of_ble_eq_true rfl)) dX5_row_24 ⟨Nat.zero_le _, Nat.zero_le _⟩) (fun h9 => absurd (show decide (100 ≤ n) = false by simp; omega) (by rw [h9]; decide)) (fun _ => ?_)
      refine lv_if_eq (tgt := 33) hx hb dX5_row_27 (by decide) (fun _ => ?_) (fun h9 => absurd (by decide) h9)
      refine lv_iload_n hx hb dX5_row_33 rfl (lv_at hl 2 rfl) ?_
      refine lv_if_ge (tgt := 43) hx hb dX5_row_34 (by decide) (fun h9 => absurd h9 (fun h9 => absurd h3 (by rw [Int32.lt_iff_toInt_lt]; rw [Int32.le_iff_toInt_le] at h9; omega))) (fun _ => ?_)
      refine lv_aload_n hx hb dX5_row_37 rfl (lv_at hl 0 rfl) ?_
      refine lv_iconst (v := 5) hx hb dX5_row_38 (by decide) ?_
      refine mu_calli (va_runV (As := [.int 5]) (rest := []) ⟨hx, hb, hml, hown, hts⟩ (c_X5_answerOf hh 5 (by omega) (by omega)) (cwV 1 hts gX5_row_X5_answerOf rfl rfl rfl (by decide +kernel) ⟨Nat.le_of_ble_eq_true rfl, Nat.le_of_ble_eq_true rfl⟩) (wd_preV (ci := 5) (q0 := 0) hP hK rfl rfl) rfl rfl hl.1 rfl (lv_room (Nat.le_of_ble_eq_true rfl)) dX5_row_39 ⟨Nat.zero_le _, Nat.zero_le _⟩) hS (fun H locs hP hS => ?_)
      have hP : va_P D kC (sl_W cI cJ h (nI n) F Wt Sz Nu Mb (nI k) G Wk To Sl Ri (nI f) (nI b) oT oS oF (nI an) (nI as) (upd Fo 5 (Fo 5 + 1)) wo pa fa) H := hP
      refine tp_i (y := (-25)) (by decide) ?_
      exact W.iret (v := (-25)) hx hb hr (fun t9 ht _ => ⟨congrArg (fun z => Outcome.returned (some (Value.int z))) (rfl), by rw [ht]; exact hP, hS.F ht⟩) hS.2.2 dX5_row_42
set_option maxHeartbeats 4000000 in
set_option maxRecDepth 100000 in
theorem c_X5_row_a (hh : ad_ok h 20) (fo nn : Int32) (h1 : q_in fo 4 15 = true) (h2 : nn ≤ 8) (hn : n < 100) (h3 : ¬ nn < 0) : Met l yX5_row wsX5_row ({ frames := 9, cells := 0, slots := 0, locals := 400 }) (wd_P D cI cJ [.ref (h 0), .int fo, .int nn] (sl_W cI cJ h (nI n) F Wt Sz Nu Mb (nI k) G Wk To Sl Ri (nI f) (nI b) oT oS oF (nI an) (nI as) Fo wo pa fa)) (mu_Q D (ad_A h 20) (some (.int (nI n))) (sl_W cI cJ h (nI (n + 1)) (upd F n fo) (upd Wt n 0) (upd Sz n nn) (z8L Nu (8 * n) 0) (z8I Mb (8 * n) (-5)) (nI k) G Wk To Sl Ri (nI f) (nI b) oT oS oF (nI an) (nI as) Fo wo pa fa)) 0 0 (ad_A h 20) := by
  refine Met.ofW (cc := cX5_row) (maxL := 3) (ret := (some .int)) (by decide) rfl ?_
  intro p e s m args below meth c s₁ B hml hv
  obtain ⟨rfl, hP, hK⟩ := hv
  have hx := B.exec
  have hb := B.bytes
  have hr := B.returns
  have hts := atoms_spec (ws := wsX5_row) B.pre
  have hown : s.vm.findClass RX5 = some m.cls := findClass_of_methodNamed B.named
  have hlocks := B.notSynchronized
  have hiX5 : ∀ w ∈ u_ws RX5 TX5 5, w ∈ wsX5_row := by decide +kernel
  have kf10 := hts (.fieldLink RX5 10 "SortingLine" "things" "LSortingLine$Things;") (by decide +kernel)
  have hS : va_S (ad_A h 20) s.heap s.heap [] := va_S.rf
  have hl := lv_entry ([.ref (h 0), .int fo, .int nn]) (n := 3) (Nat.le_of_ble_eq_true rfl)
  rw [lg_entry_eq]
  generalize (lg_sl ([.ref (h 0), .int fo, .int nn]) ++ List.replicate (3 - (lg_sl ([.ref (h 0), .int fo, .int nn])).length) Slot.unset).toArray = ls at hl ⊢
  have hl : lv_has ls 3 [(0, .ref (h 0)), (1, .int fo), (2, .int nn)] := hl
  refine lv_iload_n hx hb dX5_row_0 rfl (lv_at hl 1 rfl) ?_
  refine lv_iconst (v := 4) hx hb dX5_row_1 (by decide) ?_
  refine lv_icmp_lt (tgt := 17) hx hb dX5_row_2 (by decide) (fun c2 => ?_) (fun c2 => ?_)
  · skip
    exact (bt_f h1 (q_lo c2)).elim
  · skip
    refine lv_iload_n hx hb dX5_row_5 rfl (lv_at hl 1 rfl) ?_
    refine lv_bipush (v := 15) hx hb dX5_row_6 (by decide) ?_
    refine lv_icmp_gt (tgt := 17) hx hb dX5_row_8 (by decide) (fun c8 => ?_) (fun c8 => ?_)
    · skip
      exact (bt_f h1 (q_hi c8)).elim
    · skip
      refine lv_iload_n hx hb dX5_row_11 rfl (lv_at hl 2 rfl) ?_
      refine lv_bipush (v := 8) hx hb dX5_row_12 (by decide) ?_
      refine lv_icmp_le (tgt := 20) hx hb dX5_row_14 (by decide) (fun _ => ?_) (fun h9 => absurd (h2) h9)
      refine lv_aload_n hx hb dX5_row_20 rfl (lv_at hl 0 rfl) ?_
      refine va_get (D := D) (ci := 5) (v := .ref (h 1)) (C := RX5) (T := TX5) (N := 5) hx hb hts hiX5 hown hK.1 hP 0 rfl rfl 0 (by decide) kf10 (fun _ h9 => h9) rfl dX5_row_21 ?_
      refine pu_callb (va_runV (As := []) (rest := []) ⟨hx, hb, hml, hown, hts⟩ (c_X4_areFull hh (by omega)) (cwV 0 hts gX5_row_X4_areFull rfl rfl rfl (by decide +kernel) ⟨Nat.le_of_ble_eq_true rfl, Nat.le_of_ble_eq_true rfl⟩) (wd_preV (ci := 4) (q0 := 1) hP hK rfl rfl) rfl rfl hl.1 rfl (lv_room (Nat.le_of_ble_eq_true rfl)) dX5_row_24 ⟨Nat.zero_le _, Nat.zero_le _⟩) (fun h9 => absurd (show decide (100 ≤ n) = false by simp; omega) (by rw [h9]; decide)) (fun _ => ?_)
      refine lv_if_eq (tgt := 33) hx hb dX5_row_27 (by decide) (fun _ => ?_) (fun h9 => absurd (by decide) h9)
      refine lv_iload_n hx hb dX5_row_33 rfl (lv_at hl 2 rfl) ?_
      refine lv_if_ge (tgt := 43) hx hb dX5_row_34 (by decide) (fun _ => ?_) (fun h9 => absurd (by rw [Int32.lt_iff_toInt_lt] at h3; rw [Int32.le_iff_toInt_le]; omega) h9)
      refine lv_aload_n hx hb dX5_row_43 rfl (lv_at hl 0 rfl) ?_
      refine va_get (D := D) (ci := 5) (v := .ref (h 1)) (C := RX5) (T := TX5) (N := 5) hx hb hts hiX5 hown hK.1 hP 0 rfl rfl 0 (by decide) kf10 (fun _ h9 => h9) rfl dX5_row_44 ?_
      refine lv_iload_n hx hb dX5_row_47 rfl (lv_at hl 1 rfl) ?_
      refine lv_iconst (v := 0) hx hb dX5_row_48 (by decide) ?_
      refine lv_iload_n hx hb dX5_row_49 rfl (lv_at hl 2 rfl) ?_
      refine mu_calli (va_runV (As := [.int fo, .int 0, .int nn]) (rest := []) ⟨hx, hb, hml, hown, hts⟩ (c_X4_add hh (hn) fo 0 nn) (cwV 3 hts gX5_row_X4_add rfl rfl rfl (by decide +kernel) ⟨Nat.le_of_ble_eq_true rfl, Nat.le_of_ble_eq_true rfl⟩) (wd_preV (ci := 4) (q0 := 1) hP hK rfl rfl) rfl rfl hl.1 rfl (lv_room (Nat.le_of_ble_eq_true rfl)) dX5_row_50 ⟨Nat.zero_le _, Nat.zero_le _⟩) hS (fun H locs hP hS => ?_)
      have hP : va_P D kC (sl_W cI cJ h (nI (n + 1)) (upd F n fo) (upd Wt n 0) (upd Sz n nn) (z8L Nu (8 * n) 0) (z8I Mb (8 * n) (-5)) (nI k) G Wk To Sl Ri (nI f) (nI b) oT oS oF (nI an) (nI as) Fo wo pa fa) H := hP
      exact W.iret (v := nI n) hx hb hr (fun t9 ht _ => ⟨congrArg (fun z => Outcome.returned (some (Value.int z))) (rfl), by rw [ht]; exact hP, hS.F ht⟩) hS.2.2 dX5_row_53
set_option maxHeartbeats 4000000 in
set_option maxRecDepth 100000 in
theorem c_X5_is_u (hh : ad_ok h 20) (t kd : Int32) (h1 : p_in t (nI n) = false) : Met l yX5_is wsX5_is ({ frames := 9, cells := 0, slots := 0, locals := 400 }) (wd_P D cI cJ [.ref (h 0), .int t, .int kd] (sl_W cI cJ h (nI n) F Wt Sz Nu Mb (nI k) G Wk To Sl Ri (nI f) (nI b) oT oS oF (nI an) (nI as) Fo wo pa fa)) (pu_Q (some (.int (-1)))) 0 0 (fun _ => False) := by
  refine Met.ofW (cc := cX5_is) (maxL := 4) (ret := (some .int)) (by decide) rfl ?_
  intro p e s m args below meth c s₁ B hml hv
  obtain ⟨rfl, hP, hK⟩ := hv
  have hx := B.exec
  have hb := B.bytes
  have hr := B.returns
  have hts := atoms_spec (ws := wsX5_is) B.pre
  have hown : s.vm.findClass RX5 = some m.cls := findClass_of_methodNamed B.named
  have hlocks := B.notSynchronized
  have hl := lv_entry ([.ref (h 0), .int t, .int kd]) (n := 4) (Nat.le_of_ble_eq_true rfl)
  rw [lg_entry_eq]
  generalize (lg_sl ([.ref (h 0), .int t, .int kd]) ++ List.replicate (4 - (lg_sl ([.ref (h 0), .int t, .int kd])).length) Slot.unset).toArray = ls at hl ⊢
  have hl : lv_has ls 4 [(0, .ref (h 0)), (1, .int t), (2, .int kd)] := hl
  refine lv_aload_n hx hb dX5_is_0 rfl (lv_at hl 0 rfl) ?_
  refine lv_iload_n hx hb dX5_is_1 rfl (lv_at hl 1 rfl) ?_
  refine lv_iload_n hx hb dX5_is_2 rfl (lv_at hl 2 rfl) ?_
  refine lv_iconst (v := 0) hx hb dX5_is_3 (by decide) ?_
  refine lv_bipush (v := 17) hx hb dX5_is_4 (by decide) ?_
  refine pu_calli (va_runV (As := [.int t, .int kd, .int 0, .int 17]) (rest := []) ⟨hx, hb, hml, hown, hts⟩ (c_X5_refusalOf_u hh t kd 0 17 (by assumption)) (cwV 4 hts gX5_is_X5_refusalOf rfl rfl rfl (by decide +kernel) ⟨Nat.le_of_ble_eq_true rfl, Nat.le_of_ble_eq_true rfl⟩) (wd_preV (ci := 5) (q0 := 0) hP hK rfl rfl) rfl rfl hl.1 rfl (lv_room (Nat.le_of_ble_eq_true rfl)) dX5_is_6 ⟨Nat.zero_le _, Nat.zero_le _⟩) ?_
  refine lv_istore_n (lv' := [(3, .int (-1)), (0, .ref (h 0)), (1, .int t), (2, .int kd)]) hx hb dX5_is_9 rfl hl (by decide) rfl (fun ls hl => ?_)
  refine lv_iload_n hx hb dX5_is_10 rfl (lv_at hl 0 rfl) ?_
  refine lv_if_eq (tgt := 16) hx hb dX5_is_11 (by decide) (fun h9 => absurd h9 (by decide)) (fun _ => ?_)
  refine lv_iload_n hx hb dX5_is_14 rfl (lv_at hl 0 rfl) ?_
  exact W.iret (v := (-1)) hx hb hr (fun t9 ht _ => ⟨congrArg (fun z => Outcome.returned (some (Value.int z))) (rfl), ht⟩) (fun _ h9 => nomatch h9) dX5_is_15
set_option maxHeartbeats 4000000 in
set_option maxRecDepth 100000 in
theorem c_X5_is_o (hh : ad_ok h 20) (t kd : Int32) (h1 : p_in t (nI n) = true) (h2 : q_in kd 0 17 = false) : Met l yX5_is wsX5_is ({ frames := 9, cells := 0, slots := 0, locals := 400 }) (wd_P D cI cJ [.ref (h 0), .int t, .int kd] (sl_W cI cJ h (nI n) F Wt Sz Nu Mb (nI k) G Wk To Sl Ri (nI f) (nI b) oT oS oF (nI an) (nI as) Fo wo pa fa)) (pu_Q (some (.int (-2)))) 0 0 (fun _ => False) := by
  refine Met.ofW (cc := cX5_is) (maxL := 4) (ret := (some .int)) (by decide) rfl ?_
  intro p e s m args below meth c s₁ B hml hv
  obtain ⟨rfl, hP, hK⟩ := hv
  have hx := B.exec
  have hb := B.bytes
  have hr := B.returns
  have hts := atoms_spec (ws := wsX5_is) B.pre
  have hown : s.vm.findClass RX5 = some m.cls := findClass_of_methodNamed B.named
  have hlocks := B.notSynchronized
  have hl := lv_entry ([.ref (h 0), .int t, .int kd]) (n := 4) (Nat.le_of_ble_eq_true rfl)
  rw [lg_entry_eq]
  generalize (lg_sl ([.ref (h 0), .int t, .int kd]) ++ List.replicate (4 - (lg_sl ([.ref (h 0), .int t, .int kd])).length) Slot.unset).toArray = ls at hl ⊢
  have hl : lv_has ls 4 [(0, .ref (h 0)), (1, .int t), (2, .int kd)] := hl
  refine lv_aload_n hx hb dX5_is_0 rfl (lv_at hl 0 rfl) ?_
  refine lv_iload_n hx hb dX5_is_1 rfl (lv_at hl 1 rfl) ?_
  refine lv_iload_n hx hb dX5_is_2 rfl (lv_at hl 2 rfl) ?_
  refine lv_iconst (v := 0) hx hb dX5_is_3 (by decide) ?_
  refine lv_bipush (v := 17) hx hb dX5_is_4 (by decide) ?_
  refine pu_calli (va_runV (As := [.int t, .int kd, .int 0, .int 17]) (rest := []) ⟨hx, hb, hml, hown, hts⟩ (c_X5_refusalOf_o hh t kd 0 17 (by assumption) (by assumption)) (cwV 4 hts gX5_is_X5_refusalOf rfl rfl rfl (by decide +kernel) ⟨Nat.le_of_ble_eq_true rfl, Nat.le_of_ble_eq_true rfl⟩) (wd_preV (ci := 5) (q0 := 0) hP hK rfl rfl) rfl rfl hl.1 rfl (lv_room (Nat.le_of_ble_eq_true rfl)) dX5_is_6 ⟨Nat.zero_le _, Nat.zero_le _⟩) ?_
  refine lv_istore_n (lv' := [(3, .int (-2)), (0, .ref (h 0)), (1, .int t), (2, .int kd)]) hx hb dX5_is_9 rfl hl (by decide) rfl (fun ls hl => ?_)
  refine lv_iload_n hx hb dX5_is_10 rfl (lv_at hl 0 rfl) ?_
  refine lv_if_eq (tgt := 16) hx hb dX5_is_11 (by decide) (fun h9 => absurd h9 (by decide)) (fun _ => ?_)
  refine lv_iload_n hx hb dX5_is_14 rfl (lv_at hl 0 rfl) ?_
  exact W.iret (v := (-2)) hx hb hr (fun t9 ht _ => ⟨congrArg (fun z => Outcome.returned (some (Value.int z))) (rfl), ht⟩) (fun _ h9 => nomatch h9) dX5_is_15
set_option maxHeartbeats 4000000 in
set_option maxRecDepth 100000 in
theorem c_X5_weight_u (hh : ad_ok h 20) (t kd : Int32) (h1 : p_in t (nI n) = false) : Met l yX5_weight wsX5_weight ({ frames := 9, cells := 0, slots := 0, locals := 400 }) (wd_P D cI cJ [.ref (h 0), .int t, .int kd] (sl_W cI cJ h (nI n) F Wt Sz Nu Mb (nI k) G Wk To Sl Ri (nI f) (nI b) oT oS oF (nI an) (nI as) Fo wo pa fa)) (pu_Q (some (.int (-2000000001)))) 0 0 (fun _ => False) := by
  refine Met.ofW (cc := cX5_weight) (maxL := 4) (ret := (some .int)) (by decide) rfl ?_
  intro p e s m args below meth c s₁ B hml hv
  obtain ⟨rfl, hP, hK⟩ := hv
  have hx := B.exec
  have hb := B.bytes
  have hr := B.returns
  have hts := atoms_spec (ws := wsX5_weight) B.pre
  have hown : s.vm.findClass RX5 = some m.cls := findClass_of_methodNamed B.named
  have hlocks := B.notSynchronized
  have kc71 := hts (.constant RX5 71 (-2000000000)) (by decide +kernel)
  have hl := lv_entry ([.ref (h 0), .int t, .int kd]) (n := 4) (Nat.le_of_ble_eq_true rfl)
  rw [lg_entry_eq]
  generalize (lg_sl ([.ref (h 0), .int t, .int kd]) ++ List.replicate (4 - (lg_sl ([.ref (h 0), .int t, .int kd])).length) Slot.unset).toArray = ls at hl ⊢
  have hl : lv_has ls 4 [(0, .ref (h 0)), (1, .int t), (2, .int kd)] := hl
  refine lv_aload_n hx hb dX5_weight_0 rfl (lv_at hl 0 rfl) ?_
  refine lv_iload_n hx hb dX5_weight_1 rfl (lv_at hl 1 rfl) ?_
  refine lv_iload_n hx hb dX5_weight_2 rfl (lv_at hl 2 rfl) ?_
  refine lv_iconst (v := 0) hx hb dX5_weight_3 (by decide) ?_
  refine lv_iconst (v := 2) hx hb dX5_weight_4 (by decide) ?_
  refine pu_calli (va_runV (As := [.int t, .int kd, .int 0, .int 2]) (rest := []) ⟨hx, hb, hml, hown, hts⟩ (c_X5_refusalOf_u hh t kd 0 2 (by assumption)) (cwV 4 hts gX5_weight_X5_refusalOf rfl rfl rfl (by decide +kernel) ⟨Nat.le_of_ble_eq_true rfl, Nat.le_of_ble_eq_true rfl⟩) (wd_preV (ci := 5) (q0 := 0) hP hK rfl rfl) rfl rfl hl.1 rfl (lv_room (Nat.le_of_ble_eq_true rfl)) dX5_weight_5 ⟨Nat.zero_le _, Nat.zero_le _⟩) ?_
  refine lv_istore_n (lv' := [(3, .int (-1)), (0, .ref (h 0)), (1, .int t), (2, .int kd)]) hx hb dX5_weight_8 rfl hl (by decide) rfl (fun ls hl => ?_)
  refine lv_iload_n hx hb dX5_weight_9 rfl (lv_at hl 0 rfl) ?_
  refine lv_if_eq (tgt := 18) hx hb dX5_weight_10 (by decide) (fun h9 => absurd h9 (by decide)) (fun _ => ?_)
  refine lv_ldc (v := (-2000000000)) hx hb hown kc71 dX5_weight_13 ?_
  refine lv_iload_n hx hb dX5_weight_15 rfl (lv_at hl 0 rfl) ?_
  refine lv_iadd hx hb dX5_weight_16 ?_
  refine tp_i (show ((-2000000000) : Int32) + (-1) = (-2000000001) by decide) ?_
  exact W.iret (v := (-2000000001)) hx hb hr (fun t9 ht _ => ⟨congrArg (fun z => Outcome.returned (some (Value.int z))) (rfl), ht⟩) (fun _ h9 => nomatch h9) dX5_weight_17
set_option maxHeartbeats 4000000 in
set_option maxRecDepth 100000 in
theorem c_X5_weight_o (hh : ad_ok h 20) (t kd : Int32) (h1 : p_in t (nI n) = true) (h2 : q_in kd 0 2 = false) : Met l yX5_weight wsX5_weight ({ frames := 9, cells := 0, slots := 0, locals := 400 }) (wd_P D cI cJ [.ref (h 0), .int t, .int kd] (sl_W cI cJ h (nI n) F Wt Sz Nu Mb (nI k) G Wk To Sl Ri (nI f) (nI b) oT oS oF (nI an) (nI as) Fo wo pa fa)) (pu_Q (some (.int (-2000000002)))) 0 0 (fun _ => False) := by
  refine Met.ofW (cc := cX5_weight) (maxL := 4) (ret := (some .int)) (by decide) rfl ?_
  intro p e s m args below meth c s₁ B hml hv
  obtain ⟨rfl, hP, hK⟩ := hv
  have hx := B.exec
  have hb := B.bytes
  have hr := B.returns
  have hts := atoms_spec (ws := wsX5_weight) B.pre
  have hown : s.vm.findClass RX5 = some m.cls := findClass_of_methodNamed B.named
  have hlocks := B.notSynchronized
  have kc71 := hts (.constant RX5 71 (-2000000000)) (by decide +kernel)
  have hl := lv_entry ([.ref (h 0), .int t, .int kd]) (n := 4) (Nat.le_of_ble_eq_true rfl)
  rw [lg_entry_eq]
  generalize (lg_sl ([.ref (h 0), .int t, .int kd]) ++ List.replicate (4 - (lg_sl ([.ref (h 0), .int t, .int kd])).length) Slot.unset).toArray = ls at hl ⊢
  have hl : lv_has ls 4 [(0, .ref (h 0)), (1, .int t), (2, .int kd)] := hl
  refine lv_aload_n hx hb dX5_weight_0 rfl (lv_at hl 0 rfl) ?_
  refine lv_iload_n hx hb dX5_weight_1 rfl (lv_at hl 1 rfl) ?_
  refine lv_iload_n hx hb dX5_weight_2 rfl (lv_at hl 2 rfl) ?_
  refine lv_iconst (v := 0) hx hb dX5_weight_3 (by decide) ?_
  refine lv_iconst (v := 2) hx hb dX5_weight_4 (by decide) ?_
  refine pu_calli (va_runV (As := [.int t, .int kd, .int 0, .int 2]) (rest := []) ⟨hx, hb, hml, hown, hts⟩ (c_X5_refusalOf_o hh t kd 0 2 (by assumption) (by assumption)) (cwV 4 hts gX5_weight_X5_refusalOf rfl rfl rfl (by decide +kernel) ⟨Nat.le_of_ble_eq_true rfl, Nat.le_of_ble_eq_true rfl⟩) (wd_preV (ci := 5) (q0 := 0) hP hK rfl rfl) rfl rfl hl.1 rfl (lv_room (Nat.le_of_ble_eq_true rfl)) dX5_weight_5 ⟨Nat.zero_le _, Nat.zero_le _⟩) ?_
  refine lv_istore_n (lv' := [(3, .int (-2)), (0, .ref (h 0)), (1, .int t), (2, .int kd)]) hx hb dX5_weight_8 rfl hl (by decide) rfl (fun ls hl => ?_)
  refine lv_iload_n hx hb dX5_weight_9 rfl (lv_at hl 0 rfl) ?_
  refine lv_if_eq (tgt := 18) hx hb dX5_weight_10 (by decide) (fun h9 => absurd h9 (by decide)) (fun _ => ?_)
  refine lv_ldc (v := (-2000000000)) hx hb hown kc71 dX5_weight_13 ?_
  refine lv_iload_n hx hb dX5_weight_15 rfl (lv_at hl 0 rfl) ?_
  refine lv_iadd hx hb dX5_weight_16 ?_
  refine tp_i (show ((-2000000000) : Int32) + (-2) = (-2000000002) by decide) ?_
  exact W.iret (v := (-2000000002)) hx hb hr (fun t9 ht _ => ⟨congrArg (fun z => Outcome.returned (some (Value.int z))) (rfl), ht⟩) (fun _ h9 => nomatch h9) dX5_weight_17
set_option maxHeartbeats 4000000 in
set_option maxRecDepth 100000 in
theorem c_X5_length_u (hh : ad_ok h 20) (t kd : Int32) (h1 : p_in t (nI n) = false) : Met l yX5_length wsX5_length ({ frames := 9, cells := 0, slots := 0, locals := 400 }) (wd_P D cI cJ [.ref (h 0), .int t, .int kd] (sl_W cI cJ h (nI n) F Wt Sz Nu Mb (nI k) G Wk To Sl Ri (nI f) (nI b) oT oS oF (nI an) (nI as) Fo wo pa fa)) (pu_Q (some (.int (-1)))) 0 0 (fun _ => False) := by
  refine Met.ofW (cc := cX5_length) (maxL := 4) (ret := (some .int)) (by decide) rfl ?_
  intro p e s m args below meth c s₁ B hml hv
  obtain ⟨rfl, hP, hK⟩ := hv
  have hx := B.exec
  have hb := B.bytes
  have hr := B.returns
  have hts := atoms_spec (ws := wsX5_length) B.pre
  have hown : s.vm.findClass RX5 = some m.cls := findClass_of_methodNamed B.named
  have hlocks := B.notSynchronized
  have hl := lv_entry ([.ref (h 0), .int t, .int kd]) (n := 4) (Nat.le_of_ble_eq_true rfl)
  rw [lg_entry_eq]
  generalize (lg_sl ([.ref (h 0), .int t, .int kd]) ++ List.replicate (4 - (lg_sl ([.ref (h 0), .int t, .int kd])).length) Slot.unset).toArray = ls at hl ⊢
  have hl : lv_has ls 4 [(0, .ref (h 0)), (1, .int t), (2, .int kd)] := hl
  refine lv_aload_n hx hb dX5_length_0 rfl (lv_at hl 0 rfl) ?_
  refine lv_iload_n hx hb dX5_length_1 rfl (lv_at hl 1 rfl) ?_
  refine lv_iload_n hx hb dX5_length_2 rfl (lv_at hl 2 rfl) ?_
  refine lv_iconst (v := 4) hx hb dX5_length_3 (by decide) ?_
  refine lv_bipush (v := 15) hx hb dX5_length_4 (by decide) ?_
  refine pu_calli (va_runV (As := [.int t, .int kd, .int 4, .int 15]) (rest := []) ⟨hx, hb, hml, hown, hts⟩ (c_X5_refusalOf_u hh t kd 4 15 (by assumption)) (cwV 4 hts gX5_length_X5_refusalOf rfl rfl rfl (by decide +kernel) ⟨Nat.le_of_ble_eq_true rfl, Nat.le_of_ble_eq_true rfl⟩) (wd_preV (ci := 5) (q0 := 0) hP hK rfl rfl) rfl rfl hl.1 rfl (lv_room (Nat.le_of_ble_eq_true rfl)) dX5_length_6 ⟨Nat.zero_le _, Nat.zero_le _⟩) ?_
  refine lv_istore_n (lv' := [(3, .int (-1)), (0, .ref (h 0)), (1, .int t), (2, .int kd)]) hx hb dX5_length_9 rfl hl (by decide) rfl (fun ls hl => ?_)
  refine lv_iload_n hx hb dX5_length_10 rfl (lv_at hl 0 rfl) ?_
  refine lv_if_eq (tgt := 16) hx hb dX5_length_11 (by decide) (fun h9 => absurd h9 (by decide)) (fun _ => ?_)
  refine lv_iload_n hx hb dX5_length_14 rfl (lv_at hl 0 rfl) ?_
  exact W.iret (v := (-1)) hx hb hr (fun t9 ht _ => ⟨congrArg (fun z => Outcome.returned (some (Value.int z))) (rfl), ht⟩) (fun _ h9 => nomatch h9) dX5_length_15
set_option maxHeartbeats 4000000 in
set_option maxRecDepth 100000 in
theorem c_X5_length_o (hh : ad_ok h 20) (t kd : Int32) (h1 : p_in t (nI n) = true) (h2 : q_in kd 4 15 = false) : Met l yX5_length wsX5_length ({ frames := 9, cells := 0, slots := 0, locals := 400 }) (wd_P D cI cJ [.ref (h 0), .int t, .int kd] (sl_W cI cJ h (nI n) F Wt Sz Nu Mb (nI k) G Wk To Sl Ri (nI f) (nI b) oT oS oF (nI an) (nI as) Fo wo pa fa)) (pu_Q (some (.int (-2)))) 0 0 (fun _ => False) := by
  refine Met.ofW (cc := cX5_length) (maxL := 4) (ret := (some .int)) (by decide) rfl ?_
  intro p e s m args below meth c s₁ B hml hv
  obtain ⟨rfl, hP, hK⟩ := hv
  have hx := B.exec
  have hb := B.bytes
  have hr := B.returns
  have hts := atoms_spec (ws := wsX5_length) B.pre
  have hown : s.vm.findClass RX5 = some m.cls := findClass_of_methodNamed B.named
  have hlocks := B.notSynchronized
  have hl := lv_entry ([.ref (h 0), .int t, .int kd]) (n := 4) (Nat.le_of_ble_eq_true rfl)
  rw [lg_entry_eq]
  generalize (lg_sl ([.ref (h 0), .int t, .int kd]) ++ List.replicate (4 - (lg_sl ([.ref (h 0), .int t, .int kd])).length) Slot.unset).toArray = ls at hl ⊢
  have hl : lv_has ls 4 [(0, .ref (h 0)), (1, .int t), (2, .int kd)] := hl
  refine lv_aload_n hx hb dX5_length_0 rfl (lv_at hl 0 rfl) ?_
  refine lv_iload_n hx hb dX5_length_1 rfl (lv_at hl 1 rfl) ?_
  refine lv_iload_n hx hb dX5_length_2 rfl (lv_at hl 2 rfl) ?_
  refine lv_iconst (v := 4) hx hb dX5_length_3 (by decide) ?_
  refine lv_bipush (v := 15) hx hb dX5_length_4 (by decide) ?_
  refine pu_calli (va_runV (As := [.int t, .int kd, .int 4, .int 15]) (rest := []) ⟨hx, hb, hml, hown, hts⟩ (c_X5_refusalOf_o hh t kd 4 15 (by assumption) (by assumption)) (cwV 4 hts gX5_length_X5_refusalOf rfl rfl rfl (by decide +kernel) ⟨Nat.le_of_ble_eq_true rfl, Nat.le_of_ble_eq_true rfl⟩) (wd_preV (ci := 5) (q0 := 0) hP hK rfl rfl) rfl rfl hl.1 rfl (lv_room (Nat.le_of_ble_eq_true rfl)) dX5_length_6 ⟨Nat.zero_le _, Nat.zero_le _⟩) ?_
  refine lv_istore_n (lv' := [(3, .int (-2)), (0, .ref (h 0)), (1, .int t), (2, .int kd)]) hx hb dX5_length_9 rfl hl (by decide) rfl (fun ls hl => ?_)
  refine lv_iload_n hx hb dX5_length_10 rfl (lv_at hl 0 rfl) ?_
  refine lv_if_eq (tgt := 16) hx hb dX5_length_11 (by decide) (fun h9 => absurd h9 (by decide)) (fun _ => ?_)
  refine lv_iload_n hx hb dX5_length_14 rfl (lv_at hl 0 rfl) ?_
  exact W.iret (v := (-2)) hx hb hr (fun t9 ht _ => ⟨congrArg (fun z => Outcome.returned (some (Value.int z))) (rfl), ht⟩) (fun _ h9 => nomatch h9) dX5_length_15
set_option maxHeartbeats 4000000 in
set_option maxRecDepth 100000 in
theorem c_X5_put_u (hh : ad_ok h 20) (t kd : Int32) (i : Int32) (v : Int64) (h1 : p_in t (nI n) = false) : Met l yX5_put wsX5_put ({ frames := 9, cells := 0, slots := 0, locals := 400 }) (wd_P D cI cJ [.ref (h 0), .int t, .int kd, .int i, .long v] (sl_W cI cJ h (nI n) F Wt Sz Nu Mb (nI k) G Wk To Sl Ri (nI f) (nI b) oT oS oF (nI an) (nI as) Fo wo pa fa)) (pu_Q (some (.int (-1)))) 0 0 (fun _ => False) := by
  refine Met.ofW (cc := cX5_put) (maxL := 8) (ret := (some .int)) (by decide) rfl ?_
  intro p e s m args below meth c s₁ B hml hv
  obtain ⟨rfl, hP, hK⟩ := hv
  have hx := B.exec
  have hb := B.bytes
  have hr := B.returns
  have hts := atoms_spec (ws := wsX5_put) B.pre
  have hown : s.vm.findClass RX5 = some m.cls := findClass_of_methodNamed B.named
  have hlocks := B.notSynchronized
  have hl := lv_entry ([.ref (h 0), .int t, .int kd, .int i, .long v]) (n := 8) (Nat.le_of_ble_eq_true rfl)
  rw [lg_entry_eq]
  generalize (lg_sl ([.ref (h 0), .int t, .int kd, .int i, .long v]) ++ List.replicate (8 - (lg_sl ([.ref (h 0), .int t, .int kd, .int i, .long v])).length) Slot.unset).toArray = ls at hl ⊢
  have hl : lv_has ls 8 [(0, .ref (h 0)), (1, .int t), (2, .int kd), (3, .int i), (4, .long v)] := hl
  refine lv_aload_n hx hb dX5_put_0 rfl (lv_at hl 0 rfl) ?_
  refine lv_iload_n hx hb dX5_put_1 rfl (lv_at hl 1 rfl) ?_
  refine lv_iload_n hx hb dX5_put_2 rfl (lv_at hl 2 rfl) ?_
  refine lv_iconst (v := 4) hx hb dX5_put_3 (by decide) ?_
  refine lv_bipush (v := 6) hx hb dX5_put_4 (by decide) ?_
  refine pu_calli (va_runV (As := [.int t, .int kd, .int 4, .int 6]) (rest := []) ⟨hx, hb, hml, hown, hts⟩ (c_X5_refusalOf_u hh t kd 4 6 (by assumption)) (cwV 4 hts gX5_put_X5_refusalOf rfl rfl rfl (by decide +kernel) ⟨Nat.le_of_ble_eq_true rfl, Nat.le_of_ble_eq_true rfl⟩) (wd_preV (ci := 5) (q0 := 0) hP hK rfl rfl) rfl rfl hl.1 rfl (lv_room (Nat.le_of_ble_eq_true rfl)) dX5_put_6 ⟨Nat.zero_le _, Nat.zero_le _⟩) ?_
  refine lv_istore (lv' := [(6, .int (-1)), (0, .ref (h 0)), (1, .int t), (2, .int kd), (3, .int i), (4, .long v)]) hx hb dX5_put_9 hl (by decide) rfl (fun ls hl => ?_)
  refine lv_iload hx hb dX5_put_11 (lv_at hl 0 rfl) ?_
  refine lv_if_eq (tgt := 19) hx hb dX5_put_13 (by decide) (fun h9 => absurd h9 (by decide)) (fun _ => ?_)
  refine lv_iload hx hb dX5_put_16 (lv_at hl 0 rfl) ?_
  exact W.iret (v := (-1)) hx hb hr (fun t9 ht _ => ⟨congrArg (fun z => Outcome.returned (some (Value.int z))) (rfl), ht⟩) (fun _ h9 => nomatch h9) dX5_put_18
set_option maxHeartbeats 4000000 in
set_option maxRecDepth 100000 in
theorem c_X5_put_o (hh : ad_ok h 20) (t kd : Int32) (i : Int32) (v : Int64) (h1 : p_in t (nI n) = true) (h2 : q_in kd 4 6 = false) : Met l yX5_put wsX5_put ({ frames := 9, cells := 0, slots := 0, locals := 400 }) (wd_P D cI cJ [.ref (h 0), .int t, .int kd, .int i, .long v] (sl_W cI cJ h (nI n) F Wt Sz Nu Mb (nI k) G Wk To Sl Ri (nI f) (nI b) oT oS oF (nI an) (nI as) Fo wo pa fa)) (pu_Q (some (.int (-2)))) 0 0 (fun _ => False) := by
  refine Met.ofW (cc := cX5_put) (maxL := 8) (ret := (some .int)) (by decide) rfl ?_
  intro p e s m args below meth c s₁ B hml hv
  obtain ⟨rfl, hP, hK⟩ := hv
  have hx := B.exec
  have hb := B.bytes
  have hr := B.returns
  have hts := atoms_spec (ws := wsX5_put) B.pre
  have hown : s.vm.findClass RX5 = some m.cls := findClass_of_methodNamed B.named
  have hlocks := B.notSynchronized
  have hl := lv_entry ([.ref (h 0), .int t, .int kd, .int i, .long v]) (n := 8) (Nat.le_of_ble_eq_true rfl)
  rw [lg_entry_eq]
  generalize (lg_sl ([.ref (h 0), .int t, .int kd, .int i, .long v]) ++ List.replicate (8 - (lg_sl ([.ref (h 0), .int t, .int kd, .int i, .long v])).length) Slot.unset).toArray = ls at hl ⊢
  have hl : lv_has ls 8 [(0, .ref (h 0)), (1, .int t), (2, .int kd), (3, .int i), (4, .long v)] := hl
  refine lv_aload_n hx hb dX5_put_0 rfl (lv_at hl 0 rfl) ?_
  refine lv_iload_n hx hb dX5_put_1 rfl (lv_at hl 1 rfl) ?_
  refine lv_iload_n hx hb dX5_put_2 rfl (lv_at hl 2 rfl) ?_
  refine lv_iconst (v := 4) hx hb dX5_put_3 (by decide) ?_
  refine lv_bipush (v := 6) hx hb dX5_put_4 (by decide) ?_
  refine pu_calli (va_runV (As := [.int t, .int kd, .int 4, .int 6]) (rest := []) ⟨hx, hb, hml, hown, hts⟩ (c_X5_refusalOf_o hh t kd 4 6 (by assumption) (by assumption)) (cwV 4 hts gX5_put_X5_refusalOf rfl rfl rfl (by decide +kernel) ⟨Nat.le_of_ble_eq_true rfl, Nat.le_of_ble_eq_true rfl⟩) (wd_preV (ci := 5) (q0 := 0) hP hK rfl rfl) rfl rfl hl.1 rfl (lv_room (Nat.le_of_ble_eq_true rfl)) dX5_put_6 ⟨Nat.zero_le _, Nat.zero_le _⟩) ?_
  refine lv_istore (lv' := [(6, .int (-2)), (0, .ref (h 0)), (1, .int t), (2, .int kd), (3, .int i), (4, .long v)]) hx hb dX5_put_9 hl (by decide) rfl (fun ls hl => ?_)
  refine lv_iload hx hb dX5_put_11 (lv_at hl 0 rfl) ?_
  refine lv_if_eq (tgt := 19) hx hb dX5_put_13 (by decide) (fun h9 => absurd h9 (by decide)) (fun _ => ?_)
  refine lv_iload hx hb dX5_put_16 (lv_at hl 0 rfl) ?_
  exact W.iret (v := (-2)) hx hb hr (fun t9 ht _ => ⟨congrArg (fun z => Outcome.returned (some (Value.int z))) (rfl), ht⟩) (fun _ h9 => nomatch h9) dX5_put_18
set_option maxHeartbeats 4000000 in
set_option maxRecDepth 100000 in
theorem c_X5_place_u (hh : ad_ok h 20) (t kd : Int32) (i : Int32) (h1 : p_in t (nI n) = false) : Met l yX5_place wsX5_place ({ frames := 9, cells := 0, slots := 0, locals := 400 }) (wd_P D cI cJ [.ref (h 0), .int t, .int kd, .int i] (sl_W cI cJ h (nI n) F Wt Sz Nu Mb (nI k) G Wk To Sl Ri (nI f) (nI b) oT oS oF (nI an) (nI as) Fo wo pa fa)) (pu_Q (some (.int (-1)))) 0 0 (fun _ => False) := by
  refine Met.ofW (cc := cX5_place) (maxL := 6) (ret := (some .int)) (by decide) rfl ?_
  intro p e s m args below meth c s₁ B hml hv
  obtain ⟨rfl, hP, hK⟩ := hv
  have hx := B.exec
  have hb := B.bytes
  have hr := B.returns
  have hts := atoms_spec (ws := wsX5_place) B.pre
  have hown : s.vm.findClass RX5 = some m.cls := findClass_of_methodNamed B.named
  have hlocks := B.notSynchronized
  have hl := lv_entry ([.ref (h 0), .int t, .int kd, .int i]) (n := 6) (Nat.le_of_ble_eq_true rfl)
  rw [lg_entry_eq]
  generalize (lg_sl ([.ref (h 0), .int t, .int kd, .int i]) ++ List.replicate (6 - (lg_sl ([.ref (h 0), .int t, .int kd, .int i])).length) Slot.unset).toArray = ls at hl ⊢
  have hl : lv_has ls 6 [(0, .ref (h 0)), (1, .int t), (2, .int kd), (3, .int i)] := hl
  refine lv_aload_n hx hb dX5_place_0 rfl (lv_at hl 0 rfl) ?_
  refine lv_iload_n hx hb dX5_place_1 rfl (lv_at hl 1 rfl) ?_
  refine lv_iload_n hx hb dX5_place_2 rfl (lv_at hl 2 rfl) ?_
  refine lv_bipush (v := 7) hx hb dX5_place_3 (by decide) ?_
  refine lv_bipush (v := 15) hx hb dX5_place_5 (by decide) ?_
  refine pu_calli (va_runV (As := [.int t, .int kd, .int 7, .int 15]) (rest := []) ⟨hx, hb, hml, hown, hts⟩ (c_X5_refusalOf_u hh t kd 7 15 (by assumption)) (cwV 4 hts gX5_place_X5_refusalOf rfl rfl rfl (by decide +kernel) ⟨Nat.le_of_ble_eq_true rfl, Nat.le_of_ble_eq_true rfl⟩) (wd_preV (ci := 5) (q0 := 0) hP hK rfl rfl) rfl rfl hl.1 rfl (lv_room (Nat.le_of_ble_eq_true rfl)) dX5_place_7 ⟨Nat.zero_le _, Nat.zero_le _⟩) ?_
  refine lv_istore (lv' := [(4, .int (-1)), (0, .ref (h 0)), (1, .int t), (2, .int kd), (3, .int i)]) hx hb dX5_place_10 hl (by decide) rfl (fun ls hl => ?_)
  refine lv_iload hx hb dX5_place_12 (lv_at hl 0 rfl) ?_
  refine lv_if_eq (tgt := 20) hx hb dX5_place_14 (by decide) (fun h9 => absurd h9 (by decide)) (fun _ => ?_)
  refine lv_iload hx hb dX5_place_17 (lv_at hl 0 rfl) ?_
  exact W.iret (v := (-1)) hx hb hr (fun t9 ht _ => ⟨congrArg (fun z => Outcome.returned (some (Value.int z))) (rfl), ht⟩) (fun _ h9 => nomatch h9) dX5_place_19
set_option maxHeartbeats 4000000 in
set_option maxRecDepth 100000 in
theorem c_X5_place_o (hh : ad_ok h 20) (t kd : Int32) (i : Int32) (h1 : p_in t (nI n) = true) (h2 : q_in kd 7 15 = false) : Met l yX5_place wsX5_place ({ frames := 9, cells := 0, slots := 0, locals := 400 }) (wd_P D cI cJ [.ref (h 0), .int t, .int kd, .int i] (sl_W cI cJ h (nI n) F Wt Sz Nu Mb (nI k) G Wk To Sl Ri (nI f) (nI b) oT oS oF (nI an) (nI as) Fo wo pa fa)) (pu_Q (some (.int (-2)))) 0 0 (fun _ => False) := by
  refine Met.ofW (cc := cX5_place) (maxL := 6) (ret := (some .int)) (by decide) rfl ?_
  intro p e s m args below meth c s₁ B hml hv
  obtain ⟨rfl, hP, hK⟩ := hv
  have hx := B.exec
  have hb := B.bytes
  have hr := B.returns
  have hts := atoms_spec (ws := wsX5_place) B.pre
  have hown : s.vm.findClass RX5 = some m.cls := findClass_of_methodNamed B.named
  have hlocks := B.notSynchronized
  have hl := lv_entry ([.ref (h 0), .int t, .int kd, .int i]) (n := 6) (Nat.le_of_ble_eq_true rfl)
  rw [lg_entry_eq]
  generalize (lg_sl ([.ref (h 0), .int t, .int kd, .int i]) ++ List.replicate (6 - (lg_sl ([.ref (h 0), .int t, .int kd, .int i])).length) Slot.unset).toArray = ls at hl ⊢
  have hl : lv_has ls 6 [(0, .ref (h 0)), (1, .int t), (2, .int kd), (3, .int i)] := hl
  refine lv_aload_n hx hb dX5_place_0 rfl (lv_at hl 0 rfl) ?_
  refine lv_iload_n hx hb dX5_place_1 rfl (lv_at hl 1 rfl) ?_
  refine lv_iload_n hx hb dX5_place_2 rfl (lv_at hl 2 rfl) ?_
  refine lv_bipush (v := 7) hx hb dX5_place_3 (by decide) ?_
  refine lv_bipush (v := 15) hx hb dX5_place_5 (by decide) ?_
  refine pu_calli (va_runV (As := [.int t, .int kd, .int 7, .int 15]) (rest := []) ⟨hx, hb, hml, hown, hts⟩ (c_X5_refusalOf_o hh t kd 7 15 (by assumption) (by assumption)) (cwV 4 hts gX5_place_X5_refusalOf rfl rfl rfl (by decide +kernel) ⟨Nat.le_of_ble_eq_true rfl, Nat.le_of_ble_eq_true rfl⟩) (wd_preV (ci := 5) (q0 := 0) hP hK rfl rfl) rfl rfl hl.1 rfl (lv_room (Nat.le_of_ble_eq_true rfl)) dX5_place_7 ⟨Nat.zero_le _, Nat.zero_le _⟩) ?_
  refine lv_istore (lv' := [(4, .int (-2)), (0, .ref (h 0)), (1, .int t), (2, .int kd), (3, .int i)]) hx hb dX5_place_10 hl (by decide) rfl (fun ls hl => ?_)
  refine lv_iload hx hb dX5_place_12 (lv_at hl 0 rfl) ?_
  refine lv_if_eq (tgt := 20) hx hb dX5_place_14 (by decide) (fun h9 => absurd h9 (by decide)) (fun _ => ?_)
  refine lv_iload hx hb dX5_place_17 (lv_at hl 0 rfl) ?_
  exact W.iret (v := (-2)) hx hb hr (fun t9 ht _ => ⟨congrArg (fun z => Outcome.returned (some (Value.int z))) (rfl), ht⟩) (fun _ h9 => nomatch h9) dX5_place_19
set_option maxHeartbeats 4000000 in
set_option maxRecDepth 100000 in
theorem c_X5_is_a (hh : ad_ok h 20) (hn : n ≤ 100) (r : Nat) (hr9 : r < n) (kd : Int32) (hq : q_in kd 0 17 = true) : Met l yX5_is wsX5_is ({ frames := 9, cells := 0, slots := 0, locals := 400 }) (wd_P D cI cJ [.ref (h 0), .int (nI r), .int kd] (sl_W cI cJ h (nI n) F Wt Sz Nu Mb (nI k) G Wk To Sl Ri (nI f) (nI b) oT oS oF (nI an) (nI as) Fo wo pa fa)) (pu_Q (some (.int (bI (ko (F r) kd))))) 0 0 (fun _ => False) := by
  refine Met.ofW (cc := cX5_is) (maxL := 4) (ret := (some .int)) (by decide) rfl ?_
  intro p e s m args below meth c s₁ B hml hv
  obtain ⟨rfl, hP, hK⟩ := hv
  have hx := B.exec
  have hb := B.bytes
  have hr := B.returns
  have hts := atoms_spec (ws := wsX5_is) B.pre
  have hown : s.vm.findClass RX5 = some m.cls := findClass_of_methodNamed B.named
  have hlocks := B.notSynchronized
  have hiX5 : ∀ w ∈ u_ws RX5 TX5 5, w ∈ wsX5_is := by decide +kernel
  have kf10 := hts (.fieldLink RX5 10 "SortingLine" "things" "LSortingLine$Things;") (by decide +kernel)
  have hl := lv_entry ([.ref (h 0), .int (nI r), .int kd]) (n := 4) (Nat.le_of_ble_eq_true rfl)
  rw [lg_entry_eq]
  generalize (lg_sl ([.ref (h 0), .int (nI r), .int kd]) ++ List.replicate (4 - (lg_sl ([.ref (h 0), .int (nI r), .int kd])).length) Slot.unset).toArray = ls at hl ⊢
  have hl : lv_has ls 4 [(0, .ref (h 0)), (1, .int (nI r)), (2, .int kd)] := hl
  refine lv_aload_n hx hb dX5_is_0 rfl (lv_at hl 0 rfl) ?_
  refine lv_iload_n hx hb dX5_is_1 rfl (lv_at hl 1 rfl) ?_
  refine lv_iload_n hx hb dX5_is_2 rfl (lv_at hl 2 rfl) ?_
  refine lv_iconst (v := 0) hx hb dX5_is_3 (by decide) ?_
  refine lv_bipush (v := 17) hx hb dX5_is_4 (by decide) ?_
  refine pu_calli (va_runV (As := [.int (nI r), .int kd, .int 0, .int 17]) (rest := []) ⟨hx, hb, hml, hown, hts⟩ (c_X5_refusalOf_a hh (nI r) kd 0 17 (p_in_nI hr9 (by omega)) (by assumption)) (cwV 4 hts gX5_is_X5_refusalOf rfl rfl rfl (by decide +kernel) ⟨Nat.le_of_ble_eq_true rfl, Nat.le_of_ble_eq_true rfl⟩) (wd_preV (ci := 5) (q0 := 0) hP hK rfl rfl) rfl rfl hl.1 rfl (lv_room (Nat.le_of_ble_eq_true rfl)) dX5_is_6 ⟨Nat.zero_le _, Nat.zero_le _⟩) ?_
  refine lv_istore_n (lv' := [(3, .int 0), (0, .ref (h 0)), (1, .int (nI r)), (2, .int kd)]) hx hb dX5_is_9 rfl hl (by decide) rfl (fun ls hl => ?_)
  refine lv_iload_n hx hb dX5_is_10 rfl (lv_at hl 0 rfl) ?_
  refine lv_if_eq (tgt := 16) hx hb dX5_is_11 (by decide) (fun _ => ?_) (fun h9 => absurd (by decide) h9)
  refine lv_aload_n hx hb dX5_is_16 rfl (lv_at hl 1 rfl) ?_
  refine va_get (D := D) (ci := 5) (v := .ref (h 1)) (C := RX5) (T := TX5) (N := 5) hx hb hts hiX5 hown hK.1 hP 0 rfl rfl 0 (by decide) kf10 (fun _ h9 => h9) rfl dX5_is_17 ?_
  refine lv_iload_n hx hb dX5_is_20 rfl (lv_at hl 2 rfl) ?_
  refine lv_iload_n hx hb dX5_is_21 rfl (lv_at hl 3 rfl) ?_
  refine pu_callb (va_runV (As := [.int (nI r), .int kd]) (rest := []) ⟨hx, hb, hml, hown, hts⟩ (c_X4_isOf hh hn r (by omega) kd) (cwV 2 hts gX5_is_X4_isOf rfl rfl rfl (by decide +kernel) ⟨Nat.le_of_ble_eq_true rfl, Nat.le_of_ble_eq_true rfl⟩) (wd_preV (ci := 4) (q0 := 1) hP hK rfl rfl) rfl rfl hl.1 rfl (lv_room (Nat.le_of_ble_eq_true rfl)) dX5_is_22 ⟨Nat.zero_le _, Nat.zero_le _⟩) (fun c22 => ?_) (fun c22 => ?_)
  · skip
    refine lv_if_eq (tgt := 32) hx hb dX5_is_25 (by decide) (fun h9 => absurd h9 (by decide)) (fun _ => ?_)
    refine lv_iconst (v := 1) hx hb dX5_is_28 (by decide) ?_
    refine lv_goto (tgt := 33) hx hb dX5_is_29 (by decide) ?_
    exact W.iret (v := 1) hx hb hr (fun t9 ht _ => ⟨congrArg (fun z => Outcome.returned (some (Value.int z))) (by simp [bI, c22]), ht⟩) (fun _ h9 => nomatch h9) dX5_is_33
  · skip
    refine lv_if_eq (tgt := 32) hx hb dX5_is_25 (by decide) (fun _ => ?_) (fun h9 => absurd (by decide) h9)
    refine lv_iconst (v := 0) hx hb dX5_is_32 (by decide) ?_
    exact W.iret (v := 0) hx hb hr (fun t9 ht _ => ⟨congrArg (fun z => Outcome.returned (some (Value.int z))) (by simp [bI, c22]), ht⟩) (fun _ h9 => nomatch h9) dX5_is_33
set_option maxHeartbeats 4000000 in
set_option maxRecDepth 100000 in
theorem c_X5_weight_c (hh : ad_ok h 20) (hn : n ≤ 100) (r : Nat) (hr9 : r < n) (kd : Int32) (hq : q_in kd 0 2 = true) (h1 : ko (F r) kd = false) : Met l yX5_weight wsX5_weight ({ frames := 9, cells := 0, slots := 0, locals := 400 }) (wd_P D cI cJ [.ref (h 0), .int (nI r), .int kd] (sl_W cI cJ h (nI n) F Wt Sz Nu Mb (nI k) G Wk To Sl Ri (nI f) (nI b) oT oS oF (nI an) (nI as) Fo wo pa fa)) (mu_Q D (ad_A h 20) (some (.int (-2000000021))) (sl_W cI cJ h (nI n) F Wt Sz Nu Mb (nI k) G Wk To Sl Ri (nI f) (nI b) oT oS oF (nI an) (nI as) (upd Fo 1 (Fo 1 + 1)) wo pa fa)) 0 0 (ad_A h 20) := by
  refine Met.ofW (cc := cX5_weight) (maxL := 4) (ret := (some .int)) (by decide) rfl ?_
  intro p e s m args below meth c s₁ B hml hv
  obtain ⟨rfl, hP, hK⟩ := hv
  have hx := B.exec
  have hb := B.bytes
  have hr := B.returns
  have hts := atoms_spec (ws := wsX5_weight) B.pre
  have hown : s.vm.findClass RX5 = some m.cls := findClass_of_methodNamed B.named
  have hlocks := B.notSynchronized
  have hiX5 : ∀ w ∈ u_ws RX5 TX5 5, w ∈ wsX5_weight := by decide +kernel
  have kf10 := hts (.fieldLink RX5 10 "SortingLine" "things" "LSortingLine$Things;") (by decide +kernel)
  have kc71 := hts (.constant RX5 71 (-2000000000)) (by decide +kernel)
  have hS : va_S (ad_A h 20) s.heap s.heap [] := va_S.rf
  have hl := lv_entry ([.ref (h 0), .int (nI r), .int kd]) (n := 4) (Nat.le_of_ble_eq_true rfl)
  rw [lg_entry_eq]
  generalize (lg_sl ([.ref (h 0), .int (nI r), .int kd]) ++ List.replicate (4 - (lg_sl ([.ref (h 0), .int (nI r), .int kd])).length) Slot.unset).toArray = ls at hl ⊢
  have hl : lv_has ls 4 [(0, .ref (h 0)), (1, .int (nI r)), (2, .int kd)] := hl
  refine lv_aload_n hx hb dX5_weight_0 rfl (lv_at hl 0 rfl) ?_
  refine lv_iload_n hx hb dX5_weight_1 rfl (lv_at hl 1 rfl) ?_
  refine lv_iload_n hx hb dX5_weight_2 rfl (lv_at hl 2 rfl) ?_
  refine lv_iconst (v := 0) hx hb dX5_weight_3 (by decide) ?_
  refine lv_iconst (v := 2) hx hb dX5_weight_4 (by decide) ?_
  refine pu_calli (va_runV (As := [.int (nI r), .int kd, .int 0, .int 2]) (rest := []) ⟨hx, hb, hml, hown, hts⟩ (c_X5_refusalOf_a hh (nI r) kd 0 2 (p_in_nI hr9 (by omega)) (by assumption)) (cwV 4 hts gX5_weight_X5_refusalOf rfl rfl rfl (by decide +kernel) ⟨Nat.le_of_ble_eq_true rfl, Nat.le_of_ble_eq_true rfl⟩) (wd_preV (ci := 5) (q0 := 0) hP hK rfl rfl) rfl rfl hl.1 rfl (lv_room (Nat.le_of_ble_eq_true rfl)) dX5_weight_5 ⟨Nat.zero_le _, Nat.zero_le _⟩) ?_
  refine lv_istore_n (lv' := [(3, .int 0), (0, .ref (h 0)), (1, .int (nI r)), (2, .int kd)]) hx hb dX5_weight_8 rfl hl (by decide) rfl (fun ls hl => ?_)
  refine lv_iload_n hx hb dX5_weight_9 rfl (lv_at hl 0 rfl) ?_
  refine lv_if_eq (tgt := 18) hx hb dX5_weight_10 (by decide) (fun _ => ?_) (fun h9 => absurd (by decide) h9)
  refine lv_aload_n hx hb dX5_weight_18 rfl (lv_at hl 1 rfl) ?_
  refine va_get (D := D) (ci := 5) (v := .ref (h 1)) (C := RX5) (T := TX5) (N := 5) hx hb hts hiX5 hown hK.1 hP 0 rfl rfl 0 (by decide) kf10 (fun _ h9 => h9) rfl dX5_weight_19 ?_
  refine lv_iload_n hx hb dX5_weight_22 rfl (lv_at hl 2 rfl) ?_
  refine lv_iload_n hx hb dX5_weight_23 rfl (lv_at hl 3 rfl) ?_
  refine pu_callb (va_runV (As := [.int (nI r), .int kd]) (rest := []) ⟨hx, hb, hml, hown, hts⟩ (c_X4_isOf hh hn r (by omega) kd) (cwV 2 hts gX5_weight_X4_isOf rfl rfl rfl (by decide +kernel) ⟨Nat.le_of_ble_eq_true rfl, Nat.le_of_ble_eq_true rfl⟩) (wd_preV (ci := 4) (q0 := 1) hP hK rfl rfl) rfl rfl hl.1 rfl (lv_room (Nat.le_of_ble_eq_true rfl)) dX5_weight_24 ⟨Nat.zero_le _, Nat.zero_le _⟩) (fun h9 => absurd (h1) (by rw [h9]; decide)) (fun _ => ?_)
  refine lv_if_ne (tgt := 39) hx hb dX5_weight_27 (by decide) (fun h9 => absurd (by decide) h9) (fun _ => ?_)
  refine lv_ldc (v := (-2000000000)) hx hb hown kc71 dX5_weight_30 ?_
  refine lv_aload_n hx hb dX5_weight_32 rfl (lv_at hl 1 rfl) ?_
  refine lv_iconst (v := 1) hx hb dX5_weight_33 (by decide) ?_
  refine mu_calli (va_runV (As := [.int 1]) (rest := [.int (-2000000000)]) ⟨hx, hb, hml, hown, hts⟩ (c_X5_answerOf hh 1 (by omega) (by omega)) (cwV 1 hts gX5_weight_X5_answerOf rfl rfl rfl (by decide +kernel) ⟨Nat.le_of_ble_eq_true rfl, Nat.le_of_ble_eq_true rfl⟩) (wd_preV (ci := 5) (q0 := 0) hP hK rfl rfl) rfl rfl hl.1 rfl (lv_room (Nat.le_of_ble_eq_true rfl)) dX5_weight_34 ⟨Nat.zero_le _, Nat.zero_le _⟩) hS (fun H locs hP hS => ?_)
  have hP : va_P D kC (sl_W cI cJ h (nI n) F Wt Sz Nu Mb (nI k) G Wk To Sl Ri (nI f) (nI b) oT oS oF (nI an) (nI as) (upd Fo 1 (Fo 1 + 1)) wo pa fa) H := hP
  refine tp_i (y := (-21)) (by decide) ?_
  refine lv_iadd hx hb dX5_weight_37 ?_
  refine tp_i (show ((-2000000000) : Int32) + (-21) = (-2000000021) by decide) ?_
  exact W.iret (v := (-2000000021)) hx hb hr (fun t9 ht _ => ⟨congrArg (fun z => Outcome.returned (some (Value.int z))) (rfl), by rw [ht]; exact hP, hS.F ht⟩) hS.2.2 dX5_weight_38
set_option maxHeartbeats 4000000 in
set_option maxRecDepth 100000 in
theorem c_X5_weight_a (hh : ad_ok h 20) (hn : n ≤ 100) (r : Nat) (hr9 : r < n) (kd : Int32) (hq : q_in kd 0 2 = true) (h1 : ko (F r) kd = true) : Met l yX5_weight wsX5_weight ({ frames := 9, cells := 0, slots := 0, locals := 400 }) (wd_P D cI cJ [.ref (h 0), .int (nI r), .int kd] (sl_W cI cJ h (nI n) F Wt Sz Nu Mb (nI k) G Wk To Sl Ri (nI f) (nI b) oT oS oF (nI an) (nI as) Fo wo pa fa)) (pu_Q (some (.int (Wt r)))) 0 0 (fun _ => False) := by
  refine Met.ofW (cc := cX5_weight) (maxL := 4) (ret := (some .int)) (by decide) rfl ?_
  intro p e s m args below meth c s₁ B hml hv
  obtain ⟨rfl, hP, hK⟩ := hv
  have hx := B.exec
  have hb := B.bytes
  have hr := B.returns
  have hts := atoms_spec (ws := wsX5_weight) B.pre
  have hown : s.vm.findClass RX5 = some m.cls := findClass_of_methodNamed B.named
  have hlocks := B.notSynchronized
  have hiX5 : ∀ w ∈ u_ws RX5 TX5 5, w ∈ wsX5_weight := by decide +kernel
  have kf10 := hts (.fieldLink RX5 10 "SortingLine" "things" "LSortingLine$Things;") (by decide +kernel)
  have hl := lv_entry ([.ref (h 0), .int (nI r), .int kd]) (n := 4) (Nat.le_of_ble_eq_true rfl)
  rw [lg_entry_eq]
  generalize (lg_sl ([.ref (h 0), .int (nI r), .int kd]) ++ List.replicate (4 - (lg_sl ([.ref (h 0), .int (nI r), .int kd])).length) Slot.unset).toArray = ls at hl ⊢
  have hl : lv_has ls 4 [(0, .ref (h 0)), (1, .int (nI r)), (2, .int kd)] := hl
  refine lv_aload_n hx hb dX5_weight_0 rfl (lv_at hl 0 rfl) ?_
  refine lv_iload_n hx hb dX5_weight_1 rfl (lv_at hl 1 rfl) ?_
  refine lv_iload_n hx hb dX5_weight_2 rfl (lv_at hl 2 rfl) ?_
  refine lv_iconst (v := 0) hx hb dX5_weight_3 (by decide) ?_
  refine lv_iconst (v := 2) hx hb dX5_weight_4 (by decide) ?_
  refine pu_calli (va_runV (As := [.int (nI r), .int kd, .int 0, .int 2]) (rest := []) ⟨hx, hb, hml, hown, hts⟩ (c_X5_refusalOf_a hh (nI r) kd 0 2 (p_in_nI hr9 (by omega)) (by assumption)) (cwV 4 hts gX5_weight_X5_refusalOf rfl rfl rfl (by decide +kernel) ⟨Nat.le_of_ble_eq_true rfl, Nat.le_of_ble_eq_true rfl⟩) (wd_preV (ci := 5) (q0 := 0) hP hK rfl rfl) rfl rfl hl.1 rfl (lv_room (Nat.le_of_ble_eq_true rfl)) dX5_weight_5 ⟨Nat.zero_le _, Nat.zero_le _⟩) ?_
  refine lv_istore_n (lv' := [(3, .int 0), (0, .ref (h 0)), (1, .int (nI r)), (2, .int kd)]) hx hb dX5_weight_8 rfl hl (by decide) rfl (fun ls hl => ?_)
  refine lv_iload_n hx hb dX5_weight_9 rfl (lv_at hl 0 rfl) ?_
  refine lv_if_eq (tgt := 18) hx hb dX5_weight_10 (by decide) (fun _ => ?_) (fun h9 => absurd (by decide) h9)
  refine lv_aload_n hx hb dX5_weight_18 rfl (lv_at hl 1 rfl) ?_
  refine va_get (D := D) (ci := 5) (v := .ref (h 1)) (C := RX5) (T := TX5) (N := 5) hx hb hts hiX5 hown hK.1 hP 0 rfl rfl 0 (by decide) kf10 (fun _ h9 => h9) rfl dX5_weight_19 ?_
  refine lv_iload_n hx hb dX5_weight_22 rfl (lv_at hl 2 rfl) ?_
  refine lv_iload_n hx hb dX5_weight_23 rfl (lv_at hl 3 rfl) ?_
  refine pu_callb (va_runV (As := [.int (nI r), .int kd]) (rest := []) ⟨hx, hb, hml, hown, hts⟩ (c_X4_isOf hh hn r (by omega) kd) (cwV 2 hts gX5_weight_X4_isOf rfl rfl rfl (by decide +kernel) ⟨Nat.le_of_ble_eq_true rfl, Nat.le_of_ble_eq_true rfl⟩) (wd_preV (ci := 4) (q0 := 1) hP hK rfl rfl) rfl rfl hl.1 rfl (lv_room (Nat.le_of_ble_eq_true rfl)) dX5_weight_24 ⟨Nat.zero_le _, Nat.zero_le _⟩) (fun _ => ?_) (fun h9 => absurd (h1) (by rw [h9]; decide))
  refine lv_if_ne (tgt := 39) hx hb dX5_weight_27 (by decide) (fun _ => ?_) (fun h9 => absurd h9 (by decide))
  refine lv_aload_n hx hb dX5_weight_39 rfl (lv_at hl 1 rfl) ?_
  refine va_get (D := D) (ci := 5) (v := .ref (h 1)) (C := RX5) (T := TX5) (N := 5) hx hb hts hiX5 hown hK.1 hP 0 rfl rfl 0 (by decide) kf10 (fun _ h9 => h9) rfl dX5_weight_40 ?_
  refine lv_iload_n hx hb dX5_weight_43 rfl (lv_at hl 2 rfl) ?_
  refine pu_calli (va_runV (As := [.int (nI r)]) (rest := []) ⟨hx, hb, hml, hown, hts⟩ (c_X4_weightOf hh hn r (by omega)) (cwV 1 hts gX5_weight_X4_weightOf rfl rfl rfl (by decide +kernel) ⟨Nat.le_of_ble_eq_true rfl, Nat.le_of_ble_eq_true rfl⟩) (wd_preV (ci := 4) (q0 := 1) hP hK rfl rfl) rfl rfl hl.1 rfl (lv_room (Nat.le_of_ble_eq_true rfl)) dX5_weight_44 ⟨Nat.zero_le _, Nat.zero_le _⟩) ?_
  exact W.iret (v := Wt r) hx hb hr (fun t9 ht _ => ⟨congrArg (fun z => Outcome.returned (some (Value.int z))) (rfl), ht⟩) (fun _ h9 => nomatch h9) dX5_weight_47
set_option maxHeartbeats 4000000 in
set_option maxRecDepth 100000 in
theorem c_X5_length_c (hh : ad_ok h 20) (hn : n ≤ 100) (r : Nat) (hr9 : r < n) (kd : Int32) (hq : q_in kd 4 15 = true) (h1 : ko (F r) kd = false) : Met l yX5_length wsX5_length ({ frames := 9, cells := 0, slots := 0, locals := 400 }) (wd_P D cI cJ [.ref (h 0), .int (nI r), .int kd] (sl_W cI cJ h (nI n) F Wt Sz Nu Mb (nI k) G Wk To Sl Ri (nI f) (nI b) oT oS oF (nI an) (nI as) Fo wo pa fa)) (mu_Q D (ad_A h 20) (some (.int (-21))) (sl_W cI cJ h (nI n) F Wt Sz Nu Mb (nI k) G Wk To Sl Ri (nI f) (nI b) oT oS oF (nI an) (nI as) (upd Fo 1 (Fo 1 + 1)) wo pa fa)) 0 0 (ad_A h 20) := by
  refine Met.ofW (cc := cX5_length) (maxL := 4) (ret := (some .int)) (by decide) rfl ?_
  intro p e s m args below meth c s₁ B hml hv
  obtain ⟨rfl, hP, hK⟩ := hv
  have hx := B.exec
  have hb := B.bytes
  have hr := B.returns
  have hts := atoms_spec (ws := wsX5_length) B.pre
  have hown : s.vm.findClass RX5 = some m.cls := findClass_of_methodNamed B.named
  have hlocks := B.notSynchronized
  have hiX5 : ∀ w ∈ u_ws RX5 TX5 5, w ∈ wsX5_length := by decide +kernel
  have kf10 := hts (.fieldLink RX5 10 "SortingLine" "things" "LSortingLine$Things;") (by decide +kernel)
  have hS : va_S (ad_A h 20) s.heap s.heap [] := va_S.rf
  have hl := lv_entry ([.ref (h 0), .int (nI r), .int kd]) (n := 4) (Nat.le_of_ble_eq_true rfl)
  rw [lg_entry_eq]
  generalize (lg_sl ([.ref (h 0), .int (nI r), .int kd]) ++ List.replicate (4 - (lg_sl ([.ref (h 0), .int (nI r), .int kd])).length) Slot.unset).toArray = ls at hl ⊢
  have hl : lv_has ls 4 [(0, .ref (h 0)), (1, .int (nI r)), (2, .int kd)] := hl
  refine lv_aload_n hx hb dX5_length_0 rfl (lv_at hl 0 rfl) ?_
  refine lv_iload_n hx hb dX5_length_1 rfl (lv_at hl 1 rfl) ?_
  refine lv_iload_n hx hb dX5_length_2 rfl (lv_at hl 2 rfl) ?_
  refine lv_iconst (v := 4) hx hb dX5_length_3 (by decide) ?_
  refine lv_bipush (v := 15) hx hb dX5_length_4 (by decide) ?_
  refine pu_calli (va_runV (As := [.int (nI r), .int kd, .int 4, .int 15]) (rest := []) ⟨hx, hb, hml, hown, hts⟩ (c_X5_refusalOf_a hh (nI r) kd 4 15 (p_in_nI hr9 (by omega)) (by assumption)) (cwV 4 hts gX5_length_X5_refusalOf rfl rfl rfl (by decide +kernel) ⟨Nat.le_of_ble_eq_true rfl, Nat.le_of_ble_eq_true rfl⟩) (wd_preV (ci := 5) (q0 := 0) hP hK rfl rfl) rfl rfl hl.1 rfl (lv_room (Nat.le_of_ble_eq_true rfl)) dX5_length_6 ⟨Nat.zero_le _, Nat.zero_le _⟩) ?_
  refine lv_istore_n (lv' := [(3, .int 0), (0, .ref (h 0)), (1, .int (nI r)), (2, .int kd)]) hx hb dX5_length_9 rfl hl (by decide) rfl (fun ls hl => ?_)
  refine lv_iload_n hx hb dX5_length_10 rfl (lv_at hl 0 rfl) ?_
  refine lv_if_eq (tgt := 16) hx hb dX5_length_11 (by decide) (fun _ => ?_) (fun h9 => absurd (by decide) h9)
  refine lv_aload_n hx hb dX5_length_16 rfl (lv_at hl 1 rfl) ?_
  refine va_get (D := D) (ci := 5) (v := .ref (h 1)) (C := RX5) (T := TX5) (N := 5) hx hb hts hiX5 hown hK.1 hP 0 rfl rfl 0 (by decide) kf10 (fun _ h9 => h9) rfl dX5_length_17 ?_
  refine lv_iload_n hx hb dX5_length_20 rfl (lv_at hl 2 rfl) ?_
  refine lv_iload_n hx hb dX5_length_21 rfl (lv_at hl 3 rfl) ?_
  refine pu_callb (va_runV (As := [.int (nI r), .int kd]) (rest := []) ⟨hx, hb, hml, hown, hts⟩ (c_X4_isOf hh hn r (by omega) kd) (cwV 2 hts gX5_length_X4_isOf rfl rfl rfl (by decide +kernel) ⟨Nat.le_of_ble_eq_true rfl, Nat.le_of_ble_eq_true rfl⟩) (wd_preV (ci := 4) (q0 := 1) hP hK rfl rfl) rfl rfl hl.1 rfl (lv_room (Nat.le_of_ble_eq_true rfl)) dX5_length_22 ⟨Nat.zero_le _, Nat.zero_le _⟩) (fun h9 => absurd (h1) (by rw [h9]; decide)) (fun _ => ?_)
  refine lv_if_ne (tgt := 34) hx hb dX5_length_25 (by decide) (fun h9 => absurd (by decide) h9) (fun _ => ?_)
  refine lv_aload_n hx hb dX5_length_28 rfl (lv_at hl 1 rfl) ?_
  refine lv_iconst (v := 1) hx hb dX5_length_29 (by decide) ?_
  refine mu_calli (va_runV (As := [.int 1]) (rest := []) ⟨hx, hb, hml, hown, hts⟩ (c_X5_answerOf hh 1 (by omega) (by omega)) (cwV 1 hts gX5_length_X5_answerOf rfl rfl rfl (by decide +kernel) ⟨Nat.le_of_ble_eq_true rfl, Nat.le_of_ble_eq_true rfl⟩) (wd_preV (ci := 5) (q0 := 0) hP hK rfl rfl) rfl rfl hl.1 rfl (lv_room (Nat.le_of_ble_eq_true rfl)) dX5_length_30 ⟨Nat.zero_le _, Nat.zero_le _⟩) hS (fun H locs hP hS => ?_)
  have hP : va_P D kC (sl_W cI cJ h (nI n) F Wt Sz Nu Mb (nI k) G Wk To Sl Ri (nI f) (nI b) oT oS oF (nI an) (nI as) (upd Fo 1 (Fo 1 + 1)) wo pa fa) H := hP
  refine tp_i (y := (-21)) (by decide) ?_
  exact W.iret (v := (-21)) hx hb hr (fun t9 ht _ => ⟨congrArg (fun z => Outcome.returned (some (Value.int z))) (rfl), by rw [ht]; exact hP, hS.F ht⟩) hS.2.2 dX5_length_33
set_option maxHeartbeats 4000000 in
set_option maxRecDepth 100000 in
theorem c_X5_length_a (hh : ad_ok h 20) (hn : n ≤ 100) (r : Nat) (hr9 : r < n) (kd : Int32) (hq : q_in kd 4 15 = true) (h1 : ko (F r) kd = true) : Met l yX5_length wsX5_length ({ frames := 9, cells := 0, slots := 0, locals := 400 }) (wd_P D cI cJ [.ref (h 0), .int (nI r), .int kd] (sl_W cI cJ h (nI n) F Wt Sz Nu Mb (nI k) G Wk To Sl Ri (nI f) (nI b) oT oS oF (nI an) (nI as) Fo wo pa fa)) (pu_Q (some (.int (Sz r)))) 0 0 (fun _ => False) := by
  refine Met.ofW (cc := cX5_length) (maxL := 4) (ret := (some .int)) (by decide) rfl ?_
  intro p e s m args below meth c s₁ B hml hv
  obtain ⟨rfl, hP, hK⟩ := hv
  have hx := B.exec
  have hb := B.bytes
  have hr := B.returns
  have hts := atoms_spec (ws := wsX5_length) B.pre
  have hown : s.vm.findClass RX5 = some m.cls := findClass_of_methodNamed B.named
  have hlocks := B.notSynchronized
  have hiX5 : ∀ w ∈ u_ws RX5 TX5 5, w ∈ wsX5_length := by decide +kernel
  have kf10 := hts (.fieldLink RX5 10 "SortingLine" "things" "LSortingLine$Things;") (by decide +kernel)
  have hl := lv_entry ([.ref (h 0), .int (nI r), .int kd]) (n := 4) (Nat.le_of_ble_eq_true rfl)
  rw [lg_entry_eq]
  generalize (lg_sl ([.ref (h 0), .int (nI r), .int kd]) ++ List.replicate (4 - (lg_sl ([.ref (h 0), .int (nI r), .int kd])).length) Slot.unset).toArray = ls at hl ⊢
  have hl : lv_has ls 4 [(0, .ref (h 0)), (1, .int (nI r)), (2, .int kd)] := hl
  refine lv_aload_n hx hb dX5_length_0 rfl (lv_at hl 0 rfl) ?_
  refine lv_iload_n hx hb dX5_length_1 rfl (lv_at hl 1 rfl) ?_
  refine lv_iload_n hx hb dX5_length_2 rfl (lv_at hl 2 rfl) ?_
  refine lv_iconst (v := 4) hx hb dX5_length_3 (by decide) ?_
  refine lv_bipush (v := 15) hx hb dX5_length_4 (by decide) ?_
  refine pu_calli (va_runV (As := [.int (nI r), .int kd, .int 4, .int 15]) (rest := []) ⟨hx, hb, hml, hown, hts⟩ (c_X5_refusalOf_a hh (nI r) kd 4 15 (p_in_nI hr9 (by omega)) (by assumption)) (cwV 4 hts gX5_length_X5_refusalOf rfl rfl rfl (by decide +kernel) ⟨Nat.le_of_ble_eq_true rfl, Nat.le_of_ble_eq_true rfl⟩) (wd_preV (ci := 5) (q0 := 0) hP hK rfl rfl) rfl rfl hl.1 rfl (lv_room (Nat.le_of_ble_eq_true rfl)) dX5_length_6 ⟨Nat.zero_le _, Nat.zero_le _⟩) ?_
  refine lv_istore_n (lv' := [(3, .int 0), (0, .ref (h 0)), (1, .int (nI r)), (2, .int kd)]) hx hb dX5_length_9 rfl hl (by decide) rfl (fun ls hl => ?_)
  refine lv_iload_n hx hb dX5_length_10 rfl (lv_at hl 0 rfl) ?_
  refine lv_if_eq (tgt := 16) hx hb dX5_length_11 (by decide) (fun _ => ?_) (fun h9 => absurd (by decide) h9)
  refine lv_aload_n hx hb dX5_length_16 rfl (lv_at hl 1 rfl) ?_
  refine va_get (D := D) (ci := 5) (v := .ref (h 1)) (C := RX5) (T := TX5) (N := 5) hx hb hts hiX5 hown hK.1 hP 0 rfl rfl 0 (by decide) kf10 (fun _ h9 => h9) rfl dX5_length_17 ?_
  refine lv_iload_n hx hb dX5_length_20 rfl (lv_at hl 2 rfl) ?_
  refine lv_iload_n hx hb dX5_length_21 rfl (lv_at hl 3 rfl) ?_
  refine pu_callb (va_runV (As := [.int (nI r), .int kd]) (rest := []) ⟨hx, hb, hml, hown, hts⟩ (c_X4_isOf hh hn r (by omega) kd) (cwV 2 hts gX5_length_X4_isOf rfl rfl rfl (by decide +kernel) ⟨Nat.le_of_ble_eq_true rfl, Nat.le_of_ble_eq_true rfl⟩) (wd_preV (ci := 4) (q0 := 1) hP hK rfl rfl) rfl rfl hl.1 rfl (lv_room (Nat.le_of_ble_eq_true rfl)) dX5_length_22 ⟨Nat.zero_le _, Nat.zero_le _⟩) (fun _ => ?_) (fun h9 => absurd (h1) (by rw [h9]; decide))
  refine lv_if_ne (tgt := 34) hx hb dX5_length_25 (by decide) (fun _ => ?_) (fun h9 => absurd h9 (by decide))
  refine lv_aload_n hx hb dX5_length_34 rfl (lv_at hl 1 rfl) ?_
  refine va_get (D := D) (ci := 5) (v := .ref (h 1)) (C := RX5) (T := TX5) (N := 5) hx hb hts hiX5 hown hK.1 hP 0 rfl rfl 0 (by decide) kf10 (fun _ h9 => h9) rfl dX5_length_35 ?_
  refine lv_iload_n hx hb dX5_length_38 rfl (lv_at hl 2 rfl) ?_
  refine pu_calli (va_runV (As := [.int (nI r)]) (rest := []) ⟨hx, hb, hml, hown, hts⟩ (c_X4_sizeOf hh hn r (by omega)) (cwV 1 hts gX5_length_X4_sizeOf rfl rfl rfl (by decide +kernel) ⟨Nat.le_of_ble_eq_true rfl, Nat.le_of_ble_eq_true rfl⟩) (wd_preV (ci := 4) (q0 := 1) hP hK rfl rfl) rfl rfl hl.1 rfl (lv_room (Nat.le_of_ble_eq_true rfl)) dX5_length_39 ⟨Nat.zero_le _, Nat.zero_le _⟩) ?_
  exact W.iret (v := Sz r) hx hb hr (fun t9 ht _ => ⟨congrArg (fun z => Outcome.returned (some (Value.int z))) (rfl), ht⟩) (fun _ h9 => nomatch h9) dX5_length_42
set_option maxHeartbeats 4000000 in
set_option maxRecDepth 100000 in
theorem c_X5_put_c (hh : ad_ok h 20) (hn : n ≤ 100) (r : Nat) (hr9 : r < n) (kd : Int32) (i : Int32) (v : Int64) (hq : q_in kd 4 6 = true) (h1 : ko (F r) kd = false) : Met l yX5_put wsX5_put ({ frames := 9, cells := 0, slots := 0, locals := 400 }) (wd_P D cI cJ [.ref (h 0), .int (nI r), .int kd, .int i, .long v] (sl_W cI cJ h (nI n) F Wt Sz Nu Mb (nI k) G Wk To Sl Ri (nI f) (nI b) oT oS oF (nI an) (nI as) Fo wo pa fa)) (mu_Q D (ad_A h 20) (some (.int (-21))) (sl_W cI cJ h (nI n) F Wt Sz Nu Mb (nI k) G Wk To Sl Ri (nI f) (nI b) oT oS oF (nI an) (nI as) (upd Fo 1 (Fo 1 + 1)) wo pa fa)) 0 0 (ad_A h 20) := by
  refine Met.ofW (cc := cX5_put) (maxL := 8) (ret := (some .int)) (by decide) rfl ?_
  intro p e s m args below meth c s₁ B hml hv
  obtain ⟨rfl, hP, hK⟩ := hv
  have hx := B.exec
  have hb := B.bytes
  have hr := B.returns
  have hts := atoms_spec (ws := wsX5_put) B.pre
  have hown : s.vm.findClass RX5 = some m.cls := findClass_of_methodNamed B.named
  have hlocks := B.notSynchronized
  have hS : va_S (ad_A h 20) s.heap s.heap [] := va_S.rf
  have hl := lv_entry ([.ref (h 0), .int (nI r), .int kd, .int i, .long v]) (n := 8) (Nat.le_of_ble_eq_true rfl)
  rw [lg_entry_eq]
  generalize (lg_sl ([.ref (h 0), .int (nI r), .int kd, .int i, .long v]) ++ List.replicate (8 - (lg_sl ([.ref (h 0), .int (nI r), .int kd, .int i, .long v])).length) Slot.unset).toArray = ls at hl ⊢
  have hl : lv_has ls 8 [(0, .ref (h 0)), (1, .int (nI r)), (2, .int kd), (3, .int i), (4, .long v)] := hl
  refine lv_aload_n hx hb dX5_put_0 rfl (lv_at hl 0 rfl) ?_
  refine lv_iload_n hx hb dX5_put_1 rfl (lv_at hl 1 rfl) ?_
  refine lv_iload_n hx hb dX5_put_2 rfl (lv_at hl 2 rfl) ?_
  refine lv_iconst (v := 4) hx hb dX5_put_3 (by decide) ?_
  refine lv_bipush (v := 6) hx hb dX5_put_4 (by decide) ?_
  refine pu_calli (va_runV (As := [.int (nI r), .int kd, .int 4, .int 6]) (rest := []) ⟨hx, hb, hml, hown, hts⟩ (c_X5_refusalOf_a hh (nI r) kd 4 6 (p_in_nI hr9 (by omega)) (by assumption)) (cwV 4 hts gX5_put_X5_refusalOf rfl rfl rfl (by decide +kernel) ⟨Nat.le_of_ble_eq_true rfl, Nat.le_of_ble_eq_true rfl⟩) (wd_preV (ci := 5) (q0 := 0) hP hK rfl rfl) rfl rfl hl.1 rfl (lv_room (Nat.le_of_ble_eq_true rfl)) dX5_put_6 ⟨Nat.zero_le _, Nat.zero_le _⟩) ?_
  refine lv_istore (lv' := [(6, .int 0), (0, .ref (h 0)), (1, .int (nI r)), (2, .int kd), (3, .int i), (4, .long v)]) hx hb dX5_put_9 hl (by decide) rfl (fun ls hl => ?_)
  refine lv_iload hx hb dX5_put_11 (lv_at hl 0 rfl) ?_
  refine lv_if_eq (tgt := 19) hx hb dX5_put_13 (by decide) (fun _ => ?_) (fun h9 => absurd (by decide) h9)
  refine lv_aload_n hx hb dX5_put_19 rfl (lv_at hl 1 rfl) ?_
  refine lv_iload_n hx hb dX5_put_20 rfl (lv_at hl 2 rfl) ?_
  refine lv_iload_n hx hb dX5_put_21 rfl (lv_at hl 3 rfl) ?_
  refine lv_iload_n hx hb dX5_put_22 rfl (lv_at hl 4 rfl) ?_
  refine pu_calli (va_runV (As := [.int (nI r), .int kd, .int i]) (rest := []) ⟨hx, hb, hml, hown, hts⟩ (c_X5_findingAt_c hh hn r (by omega) kd i (by assumption)) (cwV 3 hts gX5_put_X5_findingAt rfl rfl rfl (by decide +kernel) ⟨Nat.le_of_ble_eq_true rfl, Nat.le_of_ble_eq_true rfl⟩) (wd_preV (ci := 5) (q0 := 0) hP hK rfl rfl) rfl rfl hl.1 rfl (lv_room (Nat.le_of_ble_eq_true rfl)) dX5_put_23 ⟨Nat.zero_le _, Nat.zero_le _⟩) ?_
  refine lv_istore (lv' := [(7, .int 1), (6, .int 0), (0, .ref (h 0)), (1, .int (nI r)), (2, .int kd), (3, .int i), (4, .long v)]) hx hb dX5_put_26 hl (by decide) rfl (fun ls hl => ?_)
  refine lv_iload hx hb dX5_put_28 (lv_at hl 0 rfl) ?_
  refine lv_if_eq (tgt := 40) hx hb dX5_put_30 (by decide) (fun h9 => absurd h9 (by decide)) (fun _ => ?_)
  refine lv_aload_n hx hb dX5_put_33 rfl (lv_at hl 2 rfl) ?_
  refine lv_iload hx hb dX5_put_34 (lv_at hl 0 rfl) ?_
  refine mu_calli (va_runV (As := [.int 1]) (rest := []) ⟨hx, hb, hml, hown, hts⟩ (c_X5_answerOf hh 1 (by omega) (by omega)) (cwV 1 hts gX5_put_X5_answerOf rfl rfl rfl (by decide +kernel) ⟨Nat.le_of_ble_eq_true rfl, Nat.le_of_ble_eq_true rfl⟩) (wd_preV (ci := 5) (q0 := 0) hP hK rfl rfl) rfl rfl hl.1 rfl (lv_room (Nat.le_of_ble_eq_true rfl)) dX5_put_36 ⟨Nat.zero_le _, Nat.zero_le _⟩) hS (fun H locs hP hS => ?_)
  have hP : va_P D kC (sl_W cI cJ h (nI n) F Wt Sz Nu Mb (nI k) G Wk To Sl Ri (nI f) (nI b) oT oS oF (nI an) (nI as) (upd Fo 1 (Fo 1 + 1)) wo pa fa) H := hP
  refine tp_i (y := (-21)) (by decide) ?_
  exact W.iret (v := (-21)) hx hb hr (fun t9 ht _ => ⟨congrArg (fun z => Outcome.returned (some (Value.int z))) (rfl), by rw [ht]; exact hP, hS.F ht⟩) hS.2.2 dX5_put_39
set_option maxHeartbeats 4000000 in
set_option maxRecDepth 100000 in
theorem c_X5_put_b (hh : ad_ok h 20) (hn : n ≤ 100) (r : Nat) (hr9 : r < n) (kd : Int32) (i : Int32) (v : Int64) (hq : q_in kd 4 6 = true) (h1 : ko (F r) kd = true) (h2 : p_in i (Sz r) = false) : Met l yX5_put wsX5_put ({ frames := 9, cells := 0, slots := 0, locals := 400 }) (wd_P D cI cJ [.ref (h 0), .int (nI r), .int kd, .int i, .long v] (sl_W cI cJ h (nI n) F Wt Sz Nu Mb (nI k) G Wk To Sl Ri (nI f) (nI b) oT oS oF (nI an) (nI as) Fo wo pa fa)) (mu_Q D (ad_A h 20) (some (.int (-23))) (sl_W cI cJ h (nI n) F Wt Sz Nu Mb (nI k) G Wk To Sl Ri (nI f) (nI b) oT oS oF (nI an) (nI as) (upd Fo 3 (Fo 3 + 1)) wo pa fa)) 0 0 (ad_A h 20) := by
  refine Met.ofW (cc := cX5_put) (maxL := 8) (ret := (some .int)) (by decide) rfl ?_
  intro p e s m args below meth c s₁ B hml hv
  obtain ⟨rfl, hP, hK⟩ := hv
  have hx := B.exec
  have hb := B.bytes
  have hr := B.returns
  have hts := atoms_spec (ws := wsX5_put) B.pre
  have hown : s.vm.findClass RX5 = some m.cls := findClass_of_methodNamed B.named
  have hlocks := B.notSynchronized
  have hS : va_S (ad_A h 20) s.heap s.heap [] := va_S.rf
  have hl := lv_entry ([.ref (h 0), .int (nI r), .int kd, .int i, .long v]) (n := 8) (Nat.le_of_ble_eq_true rfl)
  rw [lg_entry_eq]
  generalize (lg_sl ([.ref (h 0), .int (nI r), .int kd, .int i, .long v]) ++ List.replicate (8 - (lg_sl ([.ref (h 0), .int (nI r), .int kd, .int i, .long v])).length) Slot.unset).toArray = ls at hl ⊢
  have hl : lv_has ls 8 [(0, .ref (h 0)), (1, .int (nI r)), (2, .int kd), (3, .int i), (4, .long v)] := hl
  refine lv_aload_n hx hb dX5_put_0 rfl (lv_at hl 0 rfl) ?_
  refine lv_iload_n hx hb dX5_put_1 rfl (lv_at hl 1 rfl) ?_
  refine lv_iload_n hx hb dX5_put_2 rfl (lv_at hl 2 rfl) ?_
  refine lv_iconst (v := 4) hx hb dX5_put_3 (by decide) ?_
  refine lv_bipush (v := 6) hx hb dX5_put_4 (by decide) ?_
  refine pu_calli (va_runV (As := [.int (nI r), .int kd, .int 4, .int 6]) (rest := []) ⟨hx, hb, hml, hown, hts⟩ (c_X5_refusalOf_a hh (nI r) kd 4 6 (p_in_nI hr9 (by omega)) (by assumption)) (cwV 4 hts gX5_put_X5_refusalOf rfl rfl rfl (by decide +kernel) ⟨Nat.le_of_ble_eq_true rfl, Nat.le_of_ble_eq_true rfl⟩) (wd_preV (ci := 5) (q0 := 0) hP hK rfl rfl) rfl rfl hl.1 rfl (lv_room (Nat.le_of_ble_eq_true rfl)) dX5_put_6 ⟨Nat.zero_le _, Nat.zero_le _⟩) ?_
  refine lv_istore (lv' := [(6, .int 0), (0, .ref (h 0)), (1, .int (nI r)), (2, .int kd), (3, .int i), (4, .long v)]) hx hb dX5_put_9 hl (by decide) rfl (fun ls hl => ?_)
  refine lv_iload hx hb dX5_put_11 (lv_at hl 0 rfl) ?_
  refine lv_if_eq (tgt := 19) hx hb dX5_put_13 (by decide) (fun _ => ?_) (fun h9 => absurd (by decide) h9)
  refine lv_aload_n hx hb dX5_put_19 rfl (lv_at hl 1 rfl) ?_
  refine lv_iload_n hx hb dX5_put_20 rfl (lv_at hl 2 rfl) ?_
  refine lv_iload_n hx hb dX5_put_21 rfl (lv_at hl 3 rfl) ?_
  refine lv_iload_n hx hb dX5_put_22 rfl (lv_at hl 4 rfl) ?_
  refine pu_calli (va_runV (As := [.int (nI r), .int kd, .int i]) (rest := []) ⟨hx, hb, hml, hown, hts⟩ (c_X5_findingAt_b hh hn r (by omega) kd i (by assumption) (by assumption)) (cwV 3 hts gX5_put_X5_findingAt rfl rfl rfl (by decide +kernel) ⟨Nat.le_of_ble_eq_true rfl, Nat.le_of_ble_eq_true rfl⟩) (wd_preV (ci := 5) (q0 := 0) hP hK rfl rfl) rfl rfl hl.1 rfl (lv_room (Nat.le_of_ble_eq_true rfl)) dX5_put_23 ⟨Nat.zero_le _, Nat.zero_le _⟩) ?_
  refine lv_istore (lv' := [(7, .int 3), (6, .int 0), (0, .ref (h 0)), (1, .int (nI r)), (2, .int kd), (3, .int i), (4, .long v)]) hx hb dX5_put_26 hl (by decide) rfl (fun ls hl => ?_)
  refine lv_iload hx hb dX5_put_28 (lv_at hl 0 rfl) ?_
  refine lv_if_eq (tgt := 40) hx hb dX5_put_30 (by decide) (fun h9 => absurd h9 (by decide)) (fun _ => ?_)
  refine lv_aload_n hx hb dX5_put_33 rfl (lv_at hl 2 rfl) ?_
  refine lv_iload hx hb dX5_put_34 (lv_at hl 0 rfl) ?_
  refine mu_calli (va_runV (As := [.int 3]) (rest := []) ⟨hx, hb, hml, hown, hts⟩ (c_X5_answerOf hh 3 (by omega) (by omega)) (cwV 1 hts gX5_put_X5_answerOf rfl rfl rfl (by decide +kernel) ⟨Nat.le_of_ble_eq_true rfl, Nat.le_of_ble_eq_true rfl⟩) (wd_preV (ci := 5) (q0 := 0) hP hK rfl rfl) rfl rfl hl.1 rfl (lv_room (Nat.le_of_ble_eq_true rfl)) dX5_put_36 ⟨Nat.zero_le _, Nat.zero_le _⟩) hS (fun H locs hP hS => ?_)
  have hP : va_P D kC (sl_W cI cJ h (nI n) F Wt Sz Nu Mb (nI k) G Wk To Sl Ri (nI f) (nI b) oT oS oF (nI an) (nI as) (upd Fo 3 (Fo 3 + 1)) wo pa fa) H := hP
  refine tp_i (y := (-23)) (by decide) ?_
  exact W.iret (v := (-23)) hx hb hr (fun t9 ht _ => ⟨congrArg (fun z => Outcome.returned (some (Value.int z))) (rfl), by rw [ht]; exact hP, hS.F ht⟩) hS.2.2 dX5_put_39
set_option maxHeartbeats 4000000 in
set_option maxRecDepth 100000 in
theorem c_X5_put_a (hh : ad_ok h 20) (hn : n ≤ 100) (r : Nat) (hr9 : r < n) (kd : Int32) (v : Int64) (hq : q_in kd 4 6 = true) (j : Nat) (hj : j < 8) (h1 : ko (F r) kd = true) (h2 : p_in (nI j) (Sz r) = true) : Met l yX5_put wsX5_put ({ frames := 9, cells := 0, slots := 0, locals := 400 }) (wd_P D cI cJ [.ref (h 0), .int (nI r), .int kd, .int (nI j), .long v] (sl_W cI cJ h (nI n) F Wt Sz Nu Mb (nI k) G Wk To Sl Ri (nI f) (nI b) oT oS oF (nI an) (nI as) Fo wo pa fa)) (mu_Q D (ad_A h 20) (some (.int 1)) (sl_W cI cJ h (nI n) F Wt Sz (vp_updL Nu (8 * r + j) (nrw (F r) v)) Mb (nI k) G Wk To Sl Ri (nI f) (nI b) oT oS oF (nI an) (nI as) Fo wo pa fa)) 0 0 (ad_A h 20) := by
  refine Met.ofW (cc := cX5_put) (maxL := 8) (ret := (some .int)) (by decide) rfl ?_
  intro p e s m args below meth c s₁ B hml hv
  obtain ⟨rfl, hP, hK⟩ := hv
  have hx := B.exec
  have hb := B.bytes
  have hr := B.returns
  have hts := atoms_spec (ws := wsX5_put) B.pre
  have hown : s.vm.findClass RX5 = some m.cls := findClass_of_methodNamed B.named
  have hlocks := B.notSynchronized
  have hiX5 : ∀ w ∈ u_ws RX5 TX5 5, w ∈ wsX5_put := by decide +kernel
  have kf10 := hts (.fieldLink RX5 10 "SortingLine" "things" "LSortingLine$Things;") (by decide +kernel)
  have hS : va_S (ad_A h 20) s.heap s.heap [] := va_S.rf
  have hl := lv_entry ([.ref (h 0), .int (nI r), .int kd, .int (nI j), .long v]) (n := 8) (Nat.le_of_ble_eq_true rfl)
  rw [lg_entry_eq]
  generalize (lg_sl ([.ref (h 0), .int (nI r), .int kd, .int (nI j), .long v]) ++ List.replicate (8 - (lg_sl ([.ref (h 0), .int (nI r), .int kd, .int (nI j), .long v])).length) Slot.unset).toArray = ls at hl ⊢
  have hl : lv_has ls 8 [(0, .ref (h 0)), (1, .int (nI r)), (2, .int kd), (3, .int (nI j)), (4, .long v)] := hl
  refine lv_aload_n hx hb dX5_put_0 rfl (lv_at hl 0 rfl) ?_
  refine lv_iload_n hx hb dX5_put_1 rfl (lv_at hl 1 rfl) ?_
  refine lv_iload_n hx hb dX5_put_2 rfl (lv_at hl 2 rfl) ?_
  refine lv_iconst (v := 4) hx hb dX5_put_3 (by decide) ?_
  refine lv_bipush (v := 6) hx hb dX5_put_4 (by decide) ?_
  refine pu_calli (va_runV (As := [.int (nI r), .int kd, .int 4, .int 6]) (rest := []) ⟨hx, hb, hml, hown, hts⟩ (c_X5_refusalOf_a hh (nI r) kd 4 6 (p_in_nI hr9 (by omega)) (by assumption)) (cwV 4 hts gX5_put_X5_refusalOf rfl rfl rfl (by decide +kernel) ⟨Nat.le_of_ble_eq_true rfl, Nat.le_of_ble_eq_true rfl⟩) (wd_preV (ci := 5) (q0 := 0) hP hK rfl rfl) rfl rfl hl.1 rfl (lv_room (Nat.le_of_ble_eq_true rfl)) dX5_put_6 ⟨Nat.zero_le _, Nat.zero_le _⟩) ?_
  refine lv_istore (lv' := [(6, .int 0), (0, .ref (h 0)), (1, .int (nI r)), (2, .int kd), (3, .int (nI j)), (4, .long v)]) hx hb dX5_put_9 hl (by decide) rfl (fun ls hl => ?_)
  refine lv_iload hx hb dX5_put_11 (lv_at hl 0 rfl) ?_
  refine lv_if_eq (tgt := 19) hx hb dX5_put_13 (by decide) (fun _ => ?_) (fun h9 => absurd (by decide) h9)
  refine lv_aload_n hx hb dX5_put_19 rfl (lv_at hl 1 rfl) ?_
  refine lv_iload_n hx hb dX5_put_20 rfl (lv_at hl 2 rfl) ?_
  refine lv_iload_n hx hb dX5_put_21 rfl (lv_at hl 3 rfl) ?_
  refine lv_iload_n hx hb dX5_put_22 rfl (lv_at hl 4 rfl) ?_
  refine pu_calli (va_runV (As := [.int (nI r), .int kd, .int (nI j)]) (rest := []) ⟨hx, hb, hml, hown, hts⟩ (c_X5_findingAt_o hh hn r (by omega) kd (nI j) (by assumption) (by assumption)) (cwV 3 hts gX5_put_X5_findingAt rfl rfl rfl (by decide +kernel) ⟨Nat.le_of_ble_eq_true rfl, Nat.le_of_ble_eq_true rfl⟩) (wd_preV (ci := 5) (q0 := 0) hP hK rfl rfl) rfl rfl hl.1 rfl (lv_room (Nat.le_of_ble_eq_true rfl)) dX5_put_23 ⟨Nat.zero_le _, Nat.zero_le _⟩) ?_
  refine lv_istore (lv' := [(7, .int 0), (6, .int 0), (0, .ref (h 0)), (1, .int (nI r)), (2, .int kd), (3, .int (nI j)), (4, .long v)]) hx hb dX5_put_26 hl (by decide) rfl (fun ls hl => ?_)
  refine lv_iload hx hb dX5_put_28 (lv_at hl 0 rfl) ?_
  refine lv_if_eq (tgt := 40) hx hb dX5_put_30 (by decide) (fun _ => ?_) (fun h9 => absurd (by decide) h9)
  refine lv_aload_n hx hb dX5_put_40 rfl (lv_at hl 2 rfl) ?_
  refine va_get (D := D) (ci := 5) (v := .ref (h 1)) (C := RX5) (T := TX5) (N := 5) hx hb hts hiX5 hown hK.1 hP 0 rfl rfl 0 (by decide) kf10 (fun _ h9 => h9) rfl dX5_put_41 ?_
  refine lv_iload_n hx hb dX5_put_44 rfl (lv_at hl 3 rfl) ?_
  refine lv_iload_n hx hb dX5_put_45 rfl (lv_at hl 5 rfl) ?_
  refine lv_lload hx hb dX5_put_46 (lv_at hl 6 rfl) ?_
  refine mu_callv (va_runV (As := [.int (nI r), .int (nI j), .long v]) (rest := []) ⟨hx, hb, hml, hown, hts⟩ (c_X4_setNumber hh hn r (by omega) j (by omega) (h2) v) (cwV 3 hts gX5_put_X4_setNumber rfl rfl rfl (by decide +kernel) ⟨Nat.le_of_ble_eq_true rfl, Nat.le_of_ble_eq_true rfl⟩) (wd_preV (ci := 4) (q0 := 1) hP hK rfl rfl) rfl rfl hl.1 rfl (lv_room (Nat.le_of_ble_eq_true rfl)) dX5_put_48 ⟨Nat.zero_le _, Nat.zero_le _⟩) hS (fun H locs hP hS => ?_)
  have hP : va_P D kC (sl_W cI cJ h (nI n) F Wt Sz (vp_updL Nu (8 * r + j) (nrw (F r) v)) Mb (nI k) G Wk To Sl Ri (nI f) (nI b) oT oS oF (nI an) (nI as) Fo wo pa fa) H := hP
  refine lv_iconst (v := 1) hx hb dX5_put_51 (by decide) ?_
  exact W.iret (v := 1) hx hb hr (fun t9 ht _ => ⟨congrArg (fun z => Outcome.returned (some (Value.int z))) (rfl), by rw [ht]; exact hP, hS.F ht⟩) hS.2.2 dX5_put_52
set_option maxHeartbeats 4000000 in
set_option maxRecDepth 100000 in
theorem c_X5_place_c (hh : ad_ok h 20) (hn : n ≤ 100) (r : Nat) (hr9 : r < n) (kd : Int32) (i : Int32) (hq : q_in kd 7 15 = true) (h1 : ko (F r) kd = false) : Met l yX5_place wsX5_place ({ frames := 9, cells := 0, slots := 0, locals := 400 }) (wd_P D cI cJ [.ref (h 0), .int (nI r), .int kd, .int i] (sl_W cI cJ h (nI n) F Wt Sz Nu Mb (nI k) G Wk To Sl Ri (nI f) (nI b) oT oS oF (nI an) (nI as) Fo wo pa fa)) (mu_Q D (ad_A h 20) (some (.int (-21))) (sl_W cI cJ h (nI n) F Wt Sz Nu Mb (nI k) G Wk To Sl Ri (nI f) (nI b) oT oS oF (nI an) (nI as) (upd Fo 1 (Fo 1 + 1)) wo pa fa)) 0 0 (ad_A h 20) := by
  refine Met.ofW (cc := cX5_place) (maxL := 6) (ret := (some .int)) (by decide) rfl ?_
  intro p e s m args below meth c s₁ B hml hv
  obtain ⟨rfl, hP, hK⟩ := hv
  have hx := B.exec
  have hb := B.bytes
  have hr := B.returns
  have hts := atoms_spec (ws := wsX5_place) B.pre
  have hown : s.vm.findClass RX5 = some m.cls := findClass_of_methodNamed B.named
  have hlocks := B.notSynchronized
  have hS : va_S (ad_A h 20) s.heap s.heap [] := va_S.rf
  have hl := lv_entry ([.ref (h 0), .int (nI r), .int kd, .int i]) (n := 6) (Nat.le_of_ble_eq_true rfl)
  rw [lg_entry_eq]
  generalize (lg_sl ([.ref (h 0), .int (nI r), .int kd, .int i]) ++ List.replicate (6 - (lg_sl ([.ref (h 0), .int (nI r), .int kd, .int i])).length) Slot.unset).toArray = ls at hl ⊢
  have hl : lv_has ls 6 [(0, .ref (h 0)), (1, .int (nI r)), (2, .int kd), (3, .int i)] := hl
  refine lv_aload_n hx hb dX5_place_0 rfl (lv_at hl 0 rfl) ?_
  refine lv_iload_n hx hb dX5_place_1 rfl (lv_at hl 1 rfl) ?_
  refine lv_iload_n hx hb dX5_place_2 rfl (lv_at hl 2 rfl) ?_
  refine lv_bipush (v := 7) hx hb dX5_place_3 (by decide) ?_
  refine lv_bipush (v := 15) hx hb dX5_place_5 (by decide) ?_
  refine pu_calli (va_runV (As := [.int (nI r), .int kd, .int 7, .int 15]) (rest := []) ⟨hx, hb, hml, hown, hts⟩ (c_X5_refusalOf_a hh (nI r) kd 7 15 (p_in_nI hr9 (by omega)) (by assumption)) (cwV 4 hts gX5_place_X5_refusalOf rfl rfl rfl (by decide +kernel) ⟨Nat.le_of_ble_eq_true rfl, Nat.le_of_ble_eq_true rfl⟩) (wd_preV (ci := 5) (q0 := 0) hP hK rfl rfl) rfl rfl hl.1 rfl (lv_room (Nat.le_of_ble_eq_true rfl)) dX5_place_7 ⟨Nat.zero_le _, Nat.zero_le _⟩) ?_
  refine lv_istore (lv' := [(4, .int 0), (0, .ref (h 0)), (1, .int (nI r)), (2, .int kd), (3, .int i)]) hx hb dX5_place_10 hl (by decide) rfl (fun ls hl => ?_)
  refine lv_iload hx hb dX5_place_12 (lv_at hl 0 rfl) ?_
  refine lv_if_eq (tgt := 20) hx hb dX5_place_14 (by decide) (fun _ => ?_) (fun h9 => absurd (by decide) h9)
  refine lv_aload_n hx hb dX5_place_20 rfl (lv_at hl 1 rfl) ?_
  refine lv_iload_n hx hb dX5_place_21 rfl (lv_at hl 2 rfl) ?_
  refine lv_iload_n hx hb dX5_place_22 rfl (lv_at hl 3 rfl) ?_
  refine lv_iload_n hx hb dX5_place_23 rfl (lv_at hl 4 rfl) ?_
  refine pu_calli (va_runV (As := [.int (nI r), .int kd, .int i]) (rest := []) ⟨hx, hb, hml, hown, hts⟩ (c_X5_findingAt_c hh hn r (by omega) kd i (by assumption)) (cwV 3 hts gX5_place_X5_findingAt rfl rfl rfl (by decide +kernel) ⟨Nat.le_of_ble_eq_true rfl, Nat.le_of_ble_eq_true rfl⟩) (wd_preV (ci := 5) (q0 := 0) hP hK rfl rfl) rfl rfl hl.1 rfl (lv_room (Nat.le_of_ble_eq_true rfl)) dX5_place_24 ⟨Nat.zero_le _, Nat.zero_le _⟩) ?_
  refine lv_istore (lv' := [(5, .int 1), (4, .int 0), (0, .ref (h 0)), (1, .int (nI r)), (2, .int kd), (3, .int i)]) hx hb dX5_place_27 hl (by decide) rfl (fun ls hl => ?_)
  refine lv_iload hx hb dX5_place_29 (lv_at hl 0 rfl) ?_
  refine lv_if_ne (tgt := 46) hx hb dX5_place_31 (by decide) (fun _ => ?_) (fun h9 => absurd h9 (by decide))
  refine lv_aload_n hx hb dX5_place_46 rfl (lv_at hl 2 rfl) ?_
  refine lv_iload hx hb dX5_place_47 (lv_at hl 0 rfl) ?_
  refine mu_calli (va_runV (As := [.int 1]) (rest := []) ⟨hx, hb, hml, hown, hts⟩ (c_X5_answerOf hh 1 (by omega) (by omega)) (cwV 1 hts gX5_place_X5_answerOf rfl rfl rfl (by decide +kernel) ⟨Nat.le_of_ble_eq_true rfl, Nat.le_of_ble_eq_true rfl⟩) (wd_preV (ci := 5) (q0 := 0) hP hK rfl rfl) rfl rfl hl.1 rfl (lv_room (Nat.le_of_ble_eq_true rfl)) dX5_place_49 ⟨Nat.zero_le _, Nat.zero_le _⟩) hS (fun H locs hP hS => ?_)
  have hP : va_P D kC (sl_W cI cJ h (nI n) F Wt Sz Nu Mb (nI k) G Wk To Sl Ri (nI f) (nI b) oT oS oF (nI an) (nI as) (upd Fo 1 (Fo 1 + 1)) wo pa fa) H := hP
  refine tp_i (y := (-21)) (by decide) ?_
  exact W.iret (v := (-21)) hx hb hr (fun t9 ht _ => ⟨congrArg (fun z => Outcome.returned (some (Value.int z))) (rfl), by rw [ht]; exact hP, hS.F ht⟩) hS.2.2 dX5_place_52
set_option maxHeartbeats 4000000 in
set_option maxRecDepth 100000 in
theorem c_X5_place_b (hh : ad_ok h 20) (hn : n ≤ 100) (r : Nat) (hr9 : r < n) (kd : Int32) (i : Int32) (hq : q_in kd 7 15 = true) (h1 : ko (F r) kd = true) (h2 : p_in i (Sz r) = false) : Met l yX5_place wsX5_place ({ frames := 9, cells := 0, slots := 0, locals := 400 }) (wd_P D cI cJ [.ref (h 0), .int (nI r), .int kd, .int i] (sl_W cI cJ h (nI n) F Wt Sz Nu Mb (nI k) G Wk To Sl Ri (nI f) (nI b) oT oS oF (nI an) (nI as) Fo wo pa fa)) (mu_Q D (ad_A h 20) (some (.int (-23))) (sl_W cI cJ h (nI n) F Wt Sz Nu Mb (nI k) G Wk To Sl Ri (nI f) (nI b) oT oS oF (nI an) (nI as) (upd Fo 3 (Fo 3 + 1)) wo pa fa)) 0 0 (ad_A h 20) := by
  refine Met.ofW (cc := cX5_place) (maxL := 6) (ret := (some .int)) (by decide) rfl ?_
  intro p e s m args below meth c s₁ B hml hv
  obtain ⟨rfl, hP, hK⟩ := hv
  have hx := B.exec
  have hb := B.bytes
  have hr := B.returns
  have hts := atoms_spec (ws := wsX5_place) B.pre
  have hown : s.vm.findClass RX5 = some m.cls := findClass_of_methodNamed B.named
  have hlocks := B.notSynchronized
  have hS : va_S (ad_A h 20) s.heap s.heap [] := va_S.rf
  have hl := lv_entry ([.ref (h 0), .int (nI r), .int kd, .int i]) (n := 6) (Nat.le_of_ble_eq_true rfl)
  rw [lg_entry_eq]
  generalize (lg_sl ([.ref (h 0), .int (nI r), .int kd, .int i]) ++ List.replicate (6 - (lg_sl ([.ref (h 0), .int (nI r), .int kd, .int i])).length) Slot.unset).toArray = ls at hl ⊢
  have hl : lv_has ls 6 [(0, .ref (h 0)), (1, .int (nI r)), (2, .int kd), (3, .int i)] := hl
  refine lv_aload_n hx hb dX5_place_0 rfl (lv_at hl 0 rfl) ?_
  refine lv_iload_n hx hb dX5_place_1 rfl (lv_at hl 1 rfl) ?_
  refine lv_iload_n hx hb dX5_place_2 rfl (lv_at hl 2 rfl) ?_
  refine lv_bipush (v := 7) hx hb dX5_place_3 (by decide) ?_
  refine lv_bipush (v := 15) hx hb dX5_place_5 (by decide) ?_
  refine pu_calli (va_runV (As := [.int (nI r), .int kd, .int 7, .int 15]) (rest := []) ⟨hx, hb, hml, hown, hts⟩ (c_X5_refusalOf_a hh (nI r) kd 7 15 (p_in_nI hr9 (by omega)) (by assumption)) (cwV 4 hts gX5_place_X5_refusalOf rfl rfl rfl (by decide +kernel) ⟨Nat.le_of_ble_eq_true rfl, Nat.le_of_ble_eq_true rfl⟩) (wd_preV (ci := 5) (q0 := 0) hP hK rfl rfl) rfl rfl hl.1 rfl (lv_room (Nat.le_of_ble_eq_true rfl)) dX5_place_7 ⟨Nat.zero_le _, Nat.zero_le _⟩) ?_
  refine lv_istore (lv' := [(4, .int 0), (0, .ref (h 0)), (1, .int (nI r)), (2, .int kd), (3, .int i)]) hx hb dX5_place_10 hl (by decide) rfl (fun ls hl => ?_)
  refine lv_iload hx hb dX5_place_12 (lv_at hl 0 rfl) ?_
  refine lv_if_eq (tgt := 20) hx hb dX5_place_14 (by decide) (fun _ => ?_) (fun h9 => absurd (by decide) h9)
  refine lv_aload_n hx hb dX5_place_20 rfl (lv_at hl 1 rfl) ?_
  refine lv_iload_n hx hb dX5_place_21 rfl (lv_at hl 2 rfl) ?_
  refine lv_iload_n hx hb dX5_place_22 rfl (lv_at hl 3 rfl) ?_
  refine lv_iload_n hx hb dX5_place_23 rfl (lv_at hl 4 rfl) ?_
  refine pu_calli (va_runV (As := [.int (nI r), .int kd, .int i]) (rest := []) ⟨hx, hb, hml, hown, hts⟩ (c_X5_findingAt_b hh hn r (by omega) kd i (by assumption) (by assumption)) (cwV 3 hts gX5_place_X5_findingAt rfl rfl rfl (by decide +kernel) ⟨Nat.le_of_ble_eq_true rfl, Nat.le_of_ble_eq_true rfl⟩) (wd_preV (ci := 5) (q0 := 0) hP hK rfl rfl) rfl rfl hl.1 rfl (lv_room (Nat.le_of_ble_eq_true rfl)) dX5_place_24 ⟨Nat.zero_le _, Nat.zero_le _⟩) ?_
  refine lv_istore (lv' := [(5, .int 3), (4, .int 0), (0, .ref (h 0)), (1, .int (nI r)), (2, .int kd), (3, .int i)]) hx hb dX5_place_27 hl (by decide) rfl (fun ls hl => ?_)
  refine lv_iload hx hb dX5_place_29 (lv_at hl 0 rfl) ?_
  refine lv_if_ne (tgt := 46) hx hb dX5_place_31 (by decide) (fun _ => ?_) (fun h9 => absurd h9 (by decide))
  refine lv_aload_n hx hb dX5_place_46 rfl (lv_at hl 2 rfl) ?_
  refine lv_iload hx hb dX5_place_47 (lv_at hl 0 rfl) ?_
  refine mu_calli (va_runV (As := [.int 3]) (rest := []) ⟨hx, hb, hml, hown, hts⟩ (c_X5_answerOf hh 3 (by omega) (by omega)) (cwV 1 hts gX5_place_X5_answerOf rfl rfl rfl (by decide +kernel) ⟨Nat.le_of_ble_eq_true rfl, Nat.le_of_ble_eq_true rfl⟩) (wd_preV (ci := 5) (q0 := 0) hP hK rfl rfl) rfl rfl hl.1 rfl (lv_room (Nat.le_of_ble_eq_true rfl)) dX5_place_49 ⟨Nat.zero_le _, Nat.zero_le _⟩) hS (fun H locs hP hS => ?_)
  have hP : va_P D kC (sl_W cI cJ h (nI n) F Wt Sz Nu Mb (nI k) G Wk To Sl Ri (nI f) (nI b) oT oS oF (nI an) (nI as) (upd Fo 3 (Fo 3 + 1)) wo pa fa) H := hP
  refine tp_i (y := (-23)) (by decide) ?_
  exact W.iret (v := (-23)) hx hb hr (fun t9 ht _ => ⟨congrArg (fun z => Outcome.returned (some (Value.int z))) (rfl), by rw [ht]; exact hP, hS.F ht⟩) hS.2.2 dX5_place_52
set_option maxHeartbeats 4000000 in
set_option maxRecDepth 100000 in
theorem c_X5_place_a (hh : ad_ok h 20) (hn : n ≤ 100) (r : Nat) (hr9 : r < n) (kd : Int32) (hq : q_in kd 7 15 = true) (j : Nat) (hj : j < 8) (h1 : ko (F r) kd = true) (h2 : p_in (nI j) (Sz r) = true) : Met l yX5_place wsX5_place ({ frames := 9, cells := 0, slots := 0, locals := 400 }) (wd_P D cI cJ [.ref (h 0), .int (nI r), .int kd, .int (nI j)] (sl_W cI cJ h (nI n) F Wt Sz Nu Mb (nI k) G Wk To Sl Ri (nI f) (nI b) oT oS oF (nI an) (nI as) Fo wo pa fa)) (pu_Q (some (.int (Mb (8 * r + j))))) 0 0 (fun _ => False) := by
  refine Met.ofW (cc := cX5_place) (maxL := 6) (ret := (some .int)) (by decide) rfl ?_
  intro p e s m args below meth c s₁ B hml hv
  obtain ⟨rfl, hP, hK⟩ := hv
  have hx := B.exec
  have hb := B.bytes
  have hr := B.returns
  have hts := atoms_spec (ws := wsX5_place) B.pre
  have hown : s.vm.findClass RX5 = some m.cls := findClass_of_methodNamed B.named
  have hlocks := B.notSynchronized
  have hiX5 : ∀ w ∈ u_ws RX5 TX5 5, w ∈ wsX5_place := by decide +kernel
  have kf10 := hts (.fieldLink RX5 10 "SortingLine" "things" "LSortingLine$Things;") (by decide +kernel)
  have hl := lv_entry ([.ref (h 0), .int (nI r), .int kd, .int (nI j)]) (n := 6) (Nat.le_of_ble_eq_true rfl)
  rw [lg_entry_eq]
  generalize (lg_sl ([.ref (h 0), .int (nI r), .int kd, .int (nI j)]) ++ List.replicate (6 - (lg_sl ([.ref (h 0), .int (nI r), .int kd, .int (nI j)])).length) Slot.unset).toArray = ls at hl ⊢
  have hl : lv_has ls 6 [(0, .ref (h 0)), (1, .int (nI r)), (2, .int kd), (3, .int (nI j))] := hl
  refine lv_aload_n hx hb dX5_place_0 rfl (lv_at hl 0 rfl) ?_
  refine lv_iload_n hx hb dX5_place_1 rfl (lv_at hl 1 rfl) ?_
  refine lv_iload_n hx hb dX5_place_2 rfl (lv_at hl 2 rfl) ?_
  refine lv_bipush (v := 7) hx hb dX5_place_3 (by decide) ?_
  refine lv_bipush (v := 15) hx hb dX5_place_5 (by decide) ?_
  refine pu_calli (va_runV (As := [.int (nI r), .int kd, .int 7, .int 15]) (rest := []) ⟨hx, hb, hml, hown, hts⟩ (c_X5_refusalOf_a hh (nI r) kd 7 15 (p_in_nI hr9 (by omega)) (by assumption)) (cwV 4 hts gX5_place_X5_refusalOf rfl rfl rfl (by decide +kernel) ⟨Nat.le_of_ble_eq_true rfl, Nat.le_of_ble_eq_true rfl⟩) (wd_preV (ci := 5) (q0 := 0) hP hK rfl rfl) rfl rfl hl.1 rfl (lv_room (Nat.le_of_ble_eq_true rfl)) dX5_place_7 ⟨Nat.zero_le _, Nat.zero_le _⟩) ?_
  refine lv_istore (lv' := [(4, .int 0), (0, .ref (h 0)), (1, .int (nI r)), (2, .int kd), (3, .int (nI j))]) hx hb dX5_place_10 hl (by decide) rfl (fun ls hl => ?_)
  refine lv_iload hx hb dX5_place_12 (lv_at hl 0 rfl) ?_
  refine lv_if_eq (tgt := 20) hx hb dX5_place_14 (by decide) (fun _ => ?_) (fun h9 => absurd (by decide) h9)
  refine lv_aload_n hx hb dX5_place_20 rfl (lv_at hl 1 rfl) ?_
  refine lv_iload_n hx hb dX5_place_21 rfl (lv_at hl 2 rfl) ?_
  refine lv_iload_n hx hb dX5_place_22 rfl (lv_at hl 3 rfl) ?_
  refine lv_iload_n hx hb dX5_place_23 rfl (lv_at hl 4 rfl) ?_
  refine pu_calli (va_runV (As := [.int (nI r), .int kd, .int (nI j)]) (rest := []) ⟨hx, hb, hml, hown, hts⟩ (c_X5_findingAt_o hh hn r (by omega) kd (nI j) (by assumption) (by assumption)) (cwV 3 hts gX5_place_X5_findingAt rfl rfl rfl (by decide +kernel) ⟨Nat.le_of_ble_eq_true rfl, Nat.le_of_ble_eq_true rfl⟩) (wd_preV (ci := 5) (q0 := 0) hP hK rfl rfl) rfl rfl hl.1 rfl (lv_room (Nat.le_of_ble_eq_true rfl)) dX5_place_24 ⟨Nat.zero_le _, Nat.zero_le _⟩) ?_
  refine lv_istore (lv' := [(5, .int 0), (4, .int 0), (0, .ref (h 0)), (1, .int (nI r)), (2, .int kd), (3, .int (nI j))]) hx hb dX5_place_27 hl (by decide) rfl (fun ls hl => ?_)
  refine lv_iload hx hb dX5_place_29 (lv_at hl 0 rfl) ?_
  refine lv_if_ne (tgt := 46) hx hb dX5_place_31 (by decide) (fun h9 => absurd (by decide) h9) (fun _ => ?_)
  refine lv_aload_n hx hb dX5_place_34 rfl (lv_at hl 2 rfl) ?_
  refine va_get (D := D) (ci := 5) (v := .ref (h 1)) (C := RX5) (T := TX5) (N := 5) hx hb hts hiX5 hown hK.1 hP 0 rfl rfl 0 (by decide) kf10 (fun _ h9 => h9) rfl dX5_place_35 ?_
  refine lv_iload_n hx hb dX5_place_38 rfl (lv_at hl 3 rfl) ?_
  refine lv_iload_n hx hb dX5_place_39 rfl (lv_at hl 5 rfl) ?_
  refine pu_calli (va_runV (As := [.int (nI r), .int (nI j)]) (rest := []) ⟨hx, hb, hml, hown, hts⟩ (c_X4_memberAt hh hn r (by omega) j (by omega) (h2)) (cwV 2 hts gX5_place_X4_memberAt rfl rfl rfl (by decide +kernel) ⟨Nat.le_of_ble_eq_true rfl, Nat.le_of_ble_eq_true rfl⟩) (wd_preV (ci := 4) (q0 := 1) hP hK rfl rfl) rfl rfl hl.1 rfl (lv_room (Nat.le_of_ble_eq_true rfl)) dX5_place_40 ⟨Nat.zero_le _, Nat.zero_le _⟩) ?_
  refine lv_goto (tgt := 52) hx hb dX5_place_43 (by decide) ?_
  exact W.iret (v := Mb (8 * r + j)) hx hb hr (fun t9 ht _ => ⟨congrArg (fun z => Outcome.returned (some (Value.int z))) (rfl), ht⟩) (fun _ h9 => nomatch h9) dX5_place_52
set_option maxHeartbeats 4000000 in
set_option maxRecDepth 100000 in
theorem c_X5_more_u (hh : ad_ok h 20) (t : Int32) (h1 : p_in t (nI n) = false) : Met l yX5_more wsX5_more ({ frames := 9, cells := 0, slots := 0, locals := 400 }) (wd_P D cI cJ [.ref (h 0), .int t] (sl_W cI cJ h (nI n) F Wt Sz Nu Mb (nI k) G Wk To Sl Ri (nI f) (nI b) oT oS oF (nI an) (nI as) Fo wo pa fa)) (pu_Q (some (.int (-1)))) 0 0 (fun _ => False) := by
  refine Met.ofW (cc := cX5_more) (maxL := 3) (ret := (some .int)) (by decide) rfl ?_
  intro p e s m args below meth c s₁ B hml hv
  obtain ⟨rfl, hP, hK⟩ := hv
  have hx := B.exec
  have hb := B.bytes
  have hr := B.returns
  have hts := atoms_spec (ws := wsX5_more) B.pre
  have hown : s.vm.findClass RX5 = some m.cls := findClass_of_methodNamed B.named
  have hlocks := B.notSynchronized
  have hiX5 : ∀ w ∈ u_ws RX5 TX5 5, w ∈ wsX5_more := by decide +kernel
  have kf10 := hts (.fieldLink RX5 10 "SortingLine" "things" "LSortingLine$Things;") (by decide +kernel)
  have hl := lv_entry ([.ref (h 0), .int t]) (n := 3) (Nat.le_of_ble_eq_true rfl)
  rw [lg_entry_eq]
  generalize (lg_sl ([.ref (h 0), .int t]) ++ List.replicate (3 - (lg_sl ([.ref (h 0), .int t])).length) Slot.unset).toArray = ls at hl ⊢
  have hl : lv_has ls 3 [(0, .ref (h 0)), (1, .int t)] := hl
  refine lv_aload_n hx hb dX5_more_0 rfl (lv_at hl 0 rfl) ?_
  refine va_get (D := D) (ci := 5) (v := .ref (h 1)) (C := RX5) (T := TX5) (N := 5) hx hb hts hiX5 hown hK.1 hP 0 rfl rfl 0 (by decide) kf10 (fun _ h9 => h9) rfl dX5_more_1 ?_
  refine lv_iload_n hx hb dX5_more_4 rfl (lv_at hl 1 rfl) ?_
  refine pu_callb (va_runV (As := [.int t]) (rest := []) ⟨hx, hb, hml, hown, hts⟩ (c_X4_hold hh t) (cwV 1 hts gX5_more_X4_hold rfl rfl rfl (by decide +kernel) ⟨Nat.le_of_ble_eq_true rfl, Nat.le_of_ble_eq_true rfl⟩) (wd_preV (ci := 4) (q0 := 1) hP hK rfl rfl) rfl rfl hl.1 rfl (lv_room (Nat.le_of_ble_eq_true rfl)) dX5_more_5 ⟨Nat.zero_le _, Nat.zero_le _⟩) (fun h9 => absurd (h1) (by rw [h9]; decide)) (fun _ => ?_)
  refine lv_if_ne (tgt := 13) hx hb dX5_more_8 (by decide) (fun h9 => absurd (by decide) h9) (fun _ => ?_)
  refine lv_iconst (v := (-1)) hx hb dX5_more_11 (by decide) ?_
  exact W.iret (v := (-1)) hx hb hr (fun t9 ht _ => ⟨congrArg (fun z => Outcome.returned (some (Value.int z))) (rfl), ht⟩) (fun _ h9 => nomatch h9) dX5_more_12
set_option maxHeartbeats 4000000 in
set_option maxRecDepth 100000 in
theorem lp_X5_more {p : Program} {e : Env} {s : State} {m : MethodId} {args : Array Value} {below : List Frame} {meth : Method} {c : Code} {Q : State → Prop} {H : Heap} {locs : List Loc} (hx : p.tables.exec = Jvm.exec) (hb : c.code = cX5_more) (hml : c.maxLocals = 3) (hown : s.vm.findClass RX5 = some m.cls) (hts : ∀ w ∈ wsX5_more, w.before args s = true) (hK : wd_K D cI cJ s) (hP : va_P D kC (sl_W cI cJ h (nI n) F Wt Sz Nu Mb (nI k) G Wk To Sl Ri (nI f) (nI b) oT oS oF (nI an) (nI as) Fo wo pa fa) H) (hh : ad_ok h 20) (hn : n ≤ 100) (r : Nat) (hr9 : r < n) (q : Nat) (hq : q ≤ 17) (hv : ∀ j, j < q → mrS (F r) j = false) (kk0 : ∀ (_ : Nat), True → ∀ (ls : Array Slot), lv_has ls 3 [(2, .int (nI q)), (0, .ref (h 0)), (1, .int (nI r))] → W p l e (headSpec wsX5_more { frames := 9, cells := 0, slots := 0, locals := 400 }).room s m args below meth c H locs 0 0 Q (F0 m 15 ls [])) : ∀ (d : Nat) (y : Nat), y + d = q → ∀ (ls : Array Slot), lv_has ls 3 [(2, .int (nI y)), (0, .ref (h 0)), (1, .int (nI r))] → W p l e (headSpec wsX5_more { frames := 9, cells := 0, slots := 0, locals := 400 }).room s m args below meth c H locs 0 0 Q (F0 m 15 ls []) := by
  have hiX5 : ∀ w ∈ u_ws RX5 TX5 5, w ∈ wsX5_more := by decide +kernel
  have kf10 := hts (.fieldLink RX5 10 "SortingLine" "things" "LSortingLine$Things;") (by decide +kernel)
  intro d
  induction d with
  | zero =>
    intro y hi ls hl
    obtain rfl : y = q := by omega
    exact kk0 0 trivial ls hl
  | succ d ih =>
    intro y hi ls hl
    refine lv_iload_n hx hb dX5_more_15 rfl (lv_at hl 0 rfl) ?_
    refine lv_bipush (v := 17) hx hb dX5_more_16 (by decide) ?_
    refine lv_icmp_ge (tgt := 53) hx hb dX5_more_18 (by decide) (fun h9 => absurd h9 (nI_ge (a := y) (b := 17) (by omega) (by omega))) (fun _ => ?_)
    refine lv_iload_n hx hb dX5_more_21 rfl (lv_at hl 0 rfl) ?_
    refine lv_aload_n hx hb dX5_more_22 rfl (lv_at hl 1 rfl) ?_
    refine va_get (D := D) (ci := 5) (v := .ref (h 1)) (C := RX5) (T := TX5) (N := 5) hx hb hts hiX5 hown hK.1 hP 0 rfl rfl 0 (by decide) kf10 (fun _ h9 => h9) rfl dX5_more_23 ?_
    refine lv_iload_n hx hb dX5_more_26 rfl (lv_at hl 2 rfl) ?_
    refine pu_calli (va_runV (As := [.int (nI r)]) (rest := [.int (nI y)]) ⟨hx, hb, hml, hown, hts⟩ (c_X4_formOf hh hn r (by omega)) (cwV 1 hts gX5_more_X4_formOf rfl rfl rfl (by decide +kernel) ⟨Nat.le_of_ble_eq_true rfl, Nat.le_of_ble_eq_true rfl⟩) (wd_preV (ci := 4) (q0 := 1) hP hK rfl rfl) rfl rfl hl.1 rfl (lv_room (Nat.le_of_ble_eq_true rfl)) dX5_more_27 ⟨Nat.zero_le _, Nat.zero_le _⟩) ?_
    refine lv_icmp_eq (tgt := 47) hx hb dX5_more_30 (by decide) (fun c30 => ?_) (fun c30 => ?_)
    · skip
      refine lv_iinc (v := nI (y + 1)) (lv' := [(2, .int (nI (y + 1))), (0, .ref (h 0)), (1, .int (nI r))]) hx hb dX5_more_47 hl (k := 0) rfl (nI_add y 1) (by decide) rfl (fun ls hl => ?_)
      refine lv_goto (tgt := 15) hx hb dX5_more_50 (by decide) ?_
      exact ih (y + 1) (by omega) ls (lv_sub hl [0, 1, 2] rfl)
    · skip
      refine lv_aload_n hx hb dX5_more_33 rfl (lv_at hl 1 rfl) ?_
      refine va_get (D := D) (ci := 5) (v := .ref (h 1)) (C := RX5) (T := TX5) (N := 5) hx hb hts hiX5 hown hK.1 hP 0 rfl rfl 0 (by decide) kf10 (fun _ h9 => h9) rfl dX5_more_34 ?_
      refine lv_iload_n hx hb dX5_more_37 rfl (lv_at hl 2 rfl) ?_
      refine lv_iload_n hx hb dX5_more_38 rfl (lv_at hl 0 rfl) ?_
      refine pu_callb (va_runV (As := [.int (nI r), .int (nI y)]) (rest := []) ⟨hx, hb, hml, hown, hts⟩ (c_X4_isOf hh hn r (by omega) (nI y)) (cwV 2 hts gX5_more_X4_isOf rfl rfl rfl (by decide +kernel) ⟨Nat.le_of_ble_eq_true rfl, Nat.le_of_ble_eq_true rfl⟩) (wd_preV (ci := 4) (q0 := 1) hP hK rfl rfl) rfl rfl hl.1 rfl (lv_room (Nat.le_of_ble_eq_true rfl)) dX5_more_39 ⟨Nat.zero_le _, Nat.zero_le _⟩) (fun h9 => absurd (by have h9 := hv y (by omega); simpa [mrS, c30] using h9) (by rw [h9]; decide)) (fun _ => ?_)
      refine lv_if_eq (tgt := 47) hx hb dX5_more_42 (by decide) (fun _ => ?_) (fun h9 => absurd (by decide) h9)
      refine lv_iinc (v := nI (y + 1)) (lv' := [(2, .int (nI (y + 1))), (0, .ref (h 0)), (1, .int (nI r))]) hx hb dX5_more_47 hl (k := 0) rfl (nI_add y 1) (by decide) rfl (fun ls hl => ?_)
      refine lv_goto (tgt := 15) hx hb dX5_more_50 (by decide) ?_
      exact ih (y + 1) (by omega) ls (lv_sub hl [0, 1, 2] rfl)
set_option maxHeartbeats 4000000 in
set_option maxRecDepth 100000 in
theorem c_X5_more_a (hh : ad_ok h 20) (hn : n ≤ 100) (r : Nat) (hr9 : r < n) (q : Nat) (hq : q ≤ 17) (hv : ∀ j, j < q → mrS (F r) j = false) (hq7 : q < 17) (hm : mrS (F r) q = true) : Met l yX5_more wsX5_more ({ frames := 9, cells := 0, slots := 0, locals := 400 }) (wd_P D cI cJ [.ref (h 0), .int (nI r)] (sl_W cI cJ h (nI n) F Wt Sz Nu Mb (nI k) G Wk To Sl Ri (nI f) (nI b) oT oS oF (nI an) (nI as) Fo wo pa fa)) (pu_Q (some (.int (nI q)))) 0 0 (fun _ => False) := by
  refine Met.ofW (cc := cX5_more) (maxL := 3) (ret := (some .int)) (by decide) rfl ?_
  intro p e s m args below meth c s₁ B hml hv
  obtain ⟨rfl, hP, hK⟩ := hv
  have hx := B.exec
  have hb := B.bytes
  have hr := B.returns
  have hts := atoms_spec (ws := wsX5_more) B.pre
  have hown : s.vm.findClass RX5 = some m.cls := findClass_of_methodNamed B.named
  have hlocks := B.notSynchronized
  have hiX5 : ∀ w ∈ u_ws RX5 TX5 5, w ∈ wsX5_more := by decide +kernel
  have kf10 := hts (.fieldLink RX5 10 "SortingLine" "things" "LSortingLine$Things;") (by decide +kernel)
  have hl := lv_entry ([.ref (h 0), .int (nI r)]) (n := 3) (Nat.le_of_ble_eq_true rfl)
  rw [lg_entry_eq]
  generalize (lg_sl ([.ref (h 0), .int (nI r)]) ++ List.replicate (3 - (lg_sl ([.ref (h 0), .int (nI r)])).length) Slot.unset).toArray = ls at hl ⊢
  have hl : lv_has ls 3 [(0, .ref (h 0)), (1, .int (nI r))] := hl
  refine lv_aload_n hx hb dX5_more_0 rfl (lv_at hl 0 rfl) ?_
  refine va_get (D := D) (ci := 5) (v := .ref (h 1)) (C := RX5) (T := TX5) (N := 5) hx hb hts hiX5 hown hK.1 hP 0 rfl rfl 0 (by decide) kf10 (fun _ h9 => h9) rfl dX5_more_1 ?_
  refine lv_iload_n hx hb dX5_more_4 rfl (lv_at hl 1 rfl) ?_
  refine pu_callb (va_runV (As := [.int (nI r)]) (rest := []) ⟨hx, hb, hml, hown, hts⟩ (c_X4_hold hh (nI r)) (cwV 1 hts gX5_more_X4_hold rfl rfl rfl (by decide +kernel) ⟨Nat.le_of_ble_eq_true rfl, Nat.le_of_ble_eq_true rfl⟩) (wd_preV (ci := 4) (q0 := 1) hP hK rfl rfl) rfl rfl hl.1 rfl (lv_room (Nat.le_of_ble_eq_true rfl)) dX5_more_5 ⟨Nat.zero_le _, Nat.zero_le _⟩) (fun _ => ?_) (fun h9 => absurd (p_in_nI hr9 (by omega)) (by rw [h9]; decide))
  refine lv_if_ne (tgt := 13) hx hb dX5_more_8 (by decide) (fun _ => ?_) (fun h9 => absurd h9 (by decide))
  refine lv_iconst (v := 0) hx hb dX5_more_13 (by decide) ?_
  refine lv_istore_n (lv' := [(2, .int 0), (0, .ref (h 0)), (1, .int (nI r))]) hx hb dX5_more_14 rfl hl (by decide) rfl (fun ls hl => ?_)
  refine lp_X5_more hx hb hml hown hts hK hP hh hn r hr9 q hq hv (fun _ _ ls hl => ?_) q 0 (by omega) ls (lv_sub hl [0, 1, 2] rfl)
  refine lv_iload_n hx hb dX5_more_15 rfl (lv_at hl 0 rfl) ?_
  refine lv_bipush (v := 17) hx hb dX5_more_16 (by decide) ?_
  refine lv_icmp_ge (tgt := 53) hx hb dX5_more_18 (by decide) (fun h9 => absurd h9 (nI_ge (a := q) (b := 17) hq7 (by omega))) (fun _ => ?_)
  refine lv_iload_n hx hb dX5_more_21 rfl (lv_at hl 0 rfl) ?_
  refine lv_aload_n hx hb dX5_more_22 rfl (lv_at hl 1 rfl) ?_
  refine va_get (D := D) (ci := 5) (v := .ref (h 1)) (C := RX5) (T := TX5) (N := 5) hx hb hts hiX5 hown hK.1 hP 0 rfl rfl 0 (by decide) kf10 (fun _ h9 => h9) rfl dX5_more_23 ?_
  refine lv_iload_n hx hb dX5_more_26 rfl (lv_at hl 2 rfl) ?_
  refine pu_calli (va_runV (As := [.int (nI r)]) (rest := [.int (nI q)]) ⟨hx, hb, hml, hown, hts⟩ (c_X4_formOf hh hn r (by omega)) (cwV 1 hts gX5_more_X4_formOf rfl rfl rfl (by decide +kernel) ⟨Nat.le_of_ble_eq_true rfl, Nat.le_of_ble_eq_true rfl⟩) (wd_preV (ci := 4) (q0 := 1) hP hK rfl rfl) rfl rfl hl.1 rfl (lv_room (Nat.le_of_ble_eq_true rfl)) dX5_more_27 ⟨Nat.zero_le _, Nat.zero_le _⟩) ?_
  refine lv_icmp_eq (tgt := 47) hx hb dX5_more_30 (by decide) (fun h9 => absurd h9 (by have h9 := hm; simp only [mrS, Bool.and_eq_true, decide_eq_true_eq] at h9; exact h9.1)) (fun _ => ?_)
  refine lv_aload_n hx hb dX5_more_33 rfl (lv_at hl 1 rfl) ?_
  refine va_get (D := D) (ci := 5) (v := .ref (h 1)) (C := RX5) (T := TX5) (N := 5) hx hb hts hiX5 hown hK.1 hP 0 rfl rfl 0 (by decide) kf10 (fun _ h9 => h9) rfl dX5_more_34 ?_
  refine lv_iload_n hx hb dX5_more_37 rfl (lv_at hl 2 rfl) ?_
  refine lv_iload_n hx hb dX5_more_38 rfl (lv_at hl 0 rfl) ?_
  refine pu_callb (va_runV (As := [.int (nI r), .int (nI q)]) (rest := []) ⟨hx, hb, hml, hown, hts⟩ (c_X4_isOf hh hn r (by omega) (nI q)) (cwV 2 hts gX5_more_X4_isOf rfl rfl rfl (by decide +kernel) ⟨Nat.le_of_ble_eq_true rfl, Nat.le_of_ble_eq_true rfl⟩) (wd_preV (ci := 4) (q0 := 1) hP hK rfl rfl) rfl rfl hl.1 rfl (lv_room (Nat.le_of_ble_eq_true rfl)) dX5_more_39 ⟨Nat.zero_le _, Nat.zero_le _⟩) (fun _ => ?_) (fun h9 => absurd (by have h9 := hm; simp only [mrS, Bool.and_eq_true, decide_eq_true_eq] at h9; exact h9.2) (by rw [h9]; decide))
  refine lv_if_eq (tgt := 47) hx hb dX5_more_42 (by decide) (fun h9 => absurd h9 (by decide)) (fun _ => ?_)
  refine lv_iload_n hx hb dX5_more_45 rfl (lv_at hl 0 rfl) ?_
  exact W.iret (v := nI q) hx hb hr (fun t9 ht _ => ⟨congrArg (fun z => Outcome.returned (some (Value.int z))) (rfl), ht⟩) (fun _ h9 => nomatch h9) dX5_more_46
set_option maxHeartbeats 4000000 in
set_option maxRecDepth 100000 in
theorem c_X5_more_n (hh : ad_ok h 20) (hn : n ≤ 100) (r : Nat) (hr9 : r < n) (q : Nat) (hq : q ≤ 17) (hv : ∀ j, j < q → mrS (F r) j = false) (hq7 : q = 17) : Met l yX5_more wsX5_more ({ frames := 9, cells := 0, slots := 0, locals := 400 }) (wd_P D cI cJ [.ref (h 0), .int (nI r)] (sl_W cI cJ h (nI n) F Wt Sz Nu Mb (nI k) G Wk To Sl Ri (nI f) (nI b) oT oS oF (nI an) (nI as) Fo wo pa fa)) (pu_Q (some (.int (-5)))) 0 0 (fun _ => False) := by
  refine Met.ofW (cc := cX5_more) (maxL := 3) (ret := (some .int)) (by decide) rfl ?_
  intro p e s m args below meth c s₁ B hml hv
  obtain ⟨rfl, hP, hK⟩ := hv
  have hx := B.exec
  have hb := B.bytes
  have hr := B.returns
  have hts := atoms_spec (ws := wsX5_more) B.pre
  have hown : s.vm.findClass RX5 = some m.cls := findClass_of_methodNamed B.named
  have hlocks := B.notSynchronized
  have hiX5 : ∀ w ∈ u_ws RX5 TX5 5, w ∈ wsX5_more := by decide +kernel
  have kf10 := hts (.fieldLink RX5 10 "SortingLine" "things" "LSortingLine$Things;") (by decide +kernel)
  have hl := lv_entry ([.ref (h 0), .int (nI r)]) (n := 3) (Nat.le_of_ble_eq_true rfl)
  rw [lg_entry_eq]
  generalize (lg_sl ([.ref (h 0), .int (nI r)]) ++ List.replicate (3 - (lg_sl ([.ref (h 0), .int (nI r)])).length) Slot.unset).toArray = ls at hl ⊢
  have hl : lv_has ls 3 [(0, .ref (h 0)), (1, .int (nI r))] := hl
  refine lv_aload_n hx hb dX5_more_0 rfl (lv_at hl 0 rfl) ?_
  refine va_get (D := D) (ci := 5) (v := .ref (h 1)) (C := RX5) (T := TX5) (N := 5) hx hb hts hiX5 hown hK.1 hP 0 rfl rfl 0 (by decide) kf10 (fun _ h9 => h9) rfl dX5_more_1 ?_
  refine lv_iload_n hx hb dX5_more_4 rfl (lv_at hl 1 rfl) ?_
  refine pu_callb (va_runV (As := [.int (nI r)]) (rest := []) ⟨hx, hb, hml, hown, hts⟩ (c_X4_hold hh (nI r)) (cwV 1 hts gX5_more_X4_hold rfl rfl rfl (by decide +kernel) ⟨Nat.le_of_ble_eq_true rfl, Nat.le_of_ble_eq_true rfl⟩) (wd_preV (ci := 4) (q0 := 1) hP hK rfl rfl) rfl rfl hl.1 rfl (lv_room (Nat.le_of_ble_eq_true rfl)) dX5_more_5 ⟨Nat.zero_le _, Nat.zero_le _⟩) (fun _ => ?_) (fun h9 => absurd (p_in_nI hr9 (by omega)) (by rw [h9]; decide))
  refine lv_if_ne (tgt := 13) hx hb dX5_more_8 (by decide) (fun _ => ?_) (fun h9 => absurd h9 (by decide))
  refine lv_iconst (v := 0) hx hb dX5_more_13 (by decide) ?_
  refine lv_istore_n (lv' := [(2, .int 0), (0, .ref (h 0)), (1, .int (nI r))]) hx hb dX5_more_14 rfl hl (by decide) rfl (fun ls hl => ?_)
  refine lp_X5_more hx hb hml hown hts hK hP hh hn r hr9 q hq hv (fun _ _ ls hl => ?_) q 0 (by omega) ls (lv_sub hl [0, 1, 2] rfl)
  refine lv_iload_n hx hb dX5_more_15 rfl (lv_at hl 0 rfl) ?_
  refine lv_bipush (v := 17) hx hb dX5_more_16 (by decide) ?_
  refine lv_icmp_ge (tgt := 53) hx hb dX5_more_18 (by decide) (fun _ => ?_) (fun h9 => absurd (nI_le (a := 17) (b := q) (by omega) (by omega)) h9)
  refine lv_bipush (v := (-5)) hx hb dX5_more_53 (by decide) ?_
  exact W.iret (v := (-5)) hx hb hr (fun t9 ht _ => ⟨congrArg (fun z => Outcome.returned (some (Value.int z))) (rfl), ht⟩) (fun _ h9 => nomatch h9) dX5_more_55
set_option maxHeartbeats 4000000 in
set_option maxRecDepth 100000 in
theorem c_X5_lay_x (hh : ad_ok h 20) (t kd i ot : Int32) (h1 : ¬ ot = -5) (h2 : p_in ot (nI n) = false) : Met l yX5_lay wsX5_lay ({ frames := 9, cells := 0, slots := 0, locals := 400 }) (wd_P D cI cJ [.ref (h 0), .int t, .int kd, .int i, .int ot] (sl_W cI cJ h (nI n) F Wt Sz Nu Mb (nI k) G Wk To Sl Ri (nI f) (nI b) oT oS oF (nI an) (nI as) Fo wo pa fa)) (pu_Q (some (.int (-1)))) 0 0 (fun _ => False) := by
  refine Met.ofW (cc := cX5_lay) (maxL := 7) (ret := (some .int)) (by decide) rfl ?_
  intro p e s m args below meth c s₁ B hml hv
  obtain ⟨rfl, hP, hK⟩ := hv
  have hx := B.exec
  have hb := B.bytes
  have hr := B.returns
  have hts := atoms_spec (ws := wsX5_lay) B.pre
  have hown : s.vm.findClass RX5 = some m.cls := findClass_of_methodNamed B.named
  have hlocks := B.notSynchronized
  have hiX5 : ∀ w ∈ u_ws RX5 TX5 5, w ∈ wsX5_lay := by decide +kernel
  have kf10 := hts (.fieldLink RX5 10 "SortingLine" "things" "LSortingLine$Things;") (by decide +kernel)
  have hl := lv_entry ([.ref (h 0), .int t, .int kd, .int i, .int ot]) (n := 7) (Nat.le_of_ble_eq_true rfl)
  rw [lg_entry_eq]
  generalize (lg_sl ([.ref (h 0), .int t, .int kd, .int i, .int ot]) ++ List.replicate (7 - (lg_sl ([.ref (h 0), .int t, .int kd, .int i, .int ot])).length) Slot.unset).toArray = ls at hl ⊢
  have hl : lv_has ls 7 [(0, .ref (h 0)), (1, .int t), (2, .int kd), (3, .int i), (4, .int ot)] := hl
  refine lv_iload hx hb dX5_lay_0 (lv_at hl 4 rfl) ?_
  refine lv_bipush (v := (-5)) hx hb dX5_lay_2 (by decide) ?_
  refine lv_icmp_eq (tgt := 21) hx hb dX5_lay_4 (by decide) (fun h9 => absurd h9 (h1)) (fun _ => ?_)
  refine lv_aload_n hx hb dX5_lay_7 rfl (lv_at hl 0 rfl) ?_
  refine va_get (D := D) (ci := 5) (v := .ref (h 1)) (C := RX5) (T := TX5) (N := 5) hx hb hts hiX5 hown hK.1 hP 0 rfl rfl 0 (by decide) kf10 (fun _ h9 => h9) rfl dX5_lay_8 ?_
  refine lv_iload hx hb dX5_lay_11 (lv_at hl 4 rfl) ?_
  refine pu_callb (va_runV (As := [.int ot]) (rest := []) ⟨hx, hb, hml, hown, hts⟩ (c_X4_hold hh ot) (cwV 1 hts gX5_lay_X4_hold rfl rfl rfl (by decide +kernel) ⟨Nat.le_of_ble_eq_true rfl, Nat.le_of_ble_eq_true rfl⟩) (wd_preV (ci := 4) (q0 := 1) hP hK rfl rfl) rfl rfl hl.1 rfl (lv_room (Nat.le_of_ble_eq_true rfl)) dX5_lay_13 ⟨Nat.zero_le _, Nat.zero_le _⟩) (fun h9 => absurd (h2) (by rw [h9]; decide)) (fun _ => ?_)
  refine lv_if_ne (tgt := 21) hx hb dX5_lay_16 (by decide) (fun h9 => absurd (by decide) h9) (fun _ => ?_)
  refine lv_iconst (v := (-1)) hx hb dX5_lay_19 (by decide) ?_
  exact W.iret (v := (-1)) hx hb hr (fun t9 ht _ => ⟨congrArg (fun z => Outcome.returned (some (Value.int z))) (rfl), ht⟩) (fun _ h9 => nomatch h9) dX5_lay_20
set_option maxHeartbeats 4000000 in
set_option maxRecDepth 100000 in
theorem c_X5_lay_nu (hh : ad_ok h 20) (t kd i : Int32) (h1 : p_in t (nI n) = false) : Met l yX5_lay wsX5_lay ({ frames := 9, cells := 0, slots := 0, locals := 400 }) (wd_P D cI cJ [.ref (h 0), .int t, .int kd, .int i, .int (-5)] (sl_W cI cJ h (nI n) F Wt Sz Nu Mb (nI k) G Wk To Sl Ri (nI f) (nI b) oT oS oF (nI an) (nI as) Fo wo pa fa)) (pu_Q (some (.int (-1)))) 0 0 (fun _ => False) := by
  refine Met.ofW (cc := cX5_lay) (maxL := 7) (ret := (some .int)) (by decide) rfl ?_
  intro p e s m args below meth c s₁ B hml hv
  obtain ⟨rfl, hP, hK⟩ := hv
  have hx := B.exec
  have hb := B.bytes
  have hr := B.returns
  have hts := atoms_spec (ws := wsX5_lay) B.pre
  have hown : s.vm.findClass RX5 = some m.cls := findClass_of_methodNamed B.named
  have hlocks := B.notSynchronized
  have hl := lv_entry ([.ref (h 0), .int t, .int kd, .int i, .int (-5)]) (n := 7) (Nat.le_of_ble_eq_true rfl)
  rw [lg_entry_eq]
  generalize (lg_sl ([.ref (h 0), .int t, .int kd, .int i, .int (-5)]) ++ List.replicate (7 - (lg_sl ([.ref (h 0), .int t, .int kd, .int i, .int (-5)])).length) Slot.unset).toArray = ls at hl ⊢
  have hl : lv_has ls 7 [(0, .ref (h 0)), (1, .int t), (2, .int kd), (3, .int i), (4, .int (-5))] := hl
  refine lv_iload hx hb dX5_lay_0 (lv_at hl 4 rfl) ?_
  refine lv_bipush (v := (-5)) hx hb dX5_lay_2 (by decide) ?_
  refine lv_icmp_eq (tgt := 21) hx hb dX5_lay_4 (by decide) (fun _ => ?_) (fun h9 => absurd (by decide) h9)
  refine lv_aload_n hx hb dX5_lay_21 rfl (lv_at hl 0 rfl) ?_
  refine lv_iload_n hx hb dX5_lay_22 rfl (lv_at hl 1 rfl) ?_
  refine lv_iload_n hx hb dX5_lay_23 rfl (lv_at hl 2 rfl) ?_
  refine lv_bipush (v := 7) hx hb dX5_lay_24 (by decide) ?_
  refine lv_bipush (v := 15) hx hb dX5_lay_26 (by decide) ?_
  refine pu_calli (va_runV (As := [.int t, .int kd, .int 7, .int 15]) (rest := []) ⟨hx, hb, hml, hown, hts⟩ (c_X5_refusalOf_u hh t kd 7 15 (by assumption)) (cwV 4 hts gX5_lay_X5_refusalOf rfl rfl rfl (by decide +kernel) ⟨Nat.le_of_ble_eq_true rfl, Nat.le_of_ble_eq_true rfl⟩) (wd_preV (ci := 5) (q0 := 0) hP hK rfl rfl) rfl rfl hl.1 rfl (lv_room (Nat.le_of_ble_eq_true rfl)) dX5_lay_28 ⟨Nat.zero_le _, Nat.zero_le _⟩) ?_
  refine lv_istore (lv' := [(5, .int (-1)), (0, .ref (h 0)), (1, .int t), (2, .int kd), (3, .int i), (4, .int (-5))]) hx hb dX5_lay_31 hl (by decide) rfl (fun ls hl => ?_)
  refine lv_iload hx hb dX5_lay_33 (lv_at hl 0 rfl) ?_
  refine lv_if_eq (tgt := 41) hx hb dX5_lay_35 (by decide) (fun h9 => absurd h9 (by decide)) (fun _ => ?_)
  refine lv_iload hx hb dX5_lay_38 (lv_at hl 0 rfl) ?_
  exact W.iret (v := (-1)) hx hb hr (fun t9 ht _ => ⟨congrArg (fun z => Outcome.returned (some (Value.int z))) (rfl), ht⟩) (fun _ h9 => nomatch h9) dX5_lay_40
set_option maxHeartbeats 4000000 in
set_option maxRecDepth 100000 in
theorem c_X5_lay_no (hh : ad_ok h 20) (t kd i : Int32) (h1 : p_in t (nI n) = true) (h2 : q_in kd 7 15 = false) : Met l yX5_lay wsX5_lay ({ frames := 9, cells := 0, slots := 0, locals := 400 }) (wd_P D cI cJ [.ref (h 0), .int t, .int kd, .int i, .int (-5)] (sl_W cI cJ h (nI n) F Wt Sz Nu Mb (nI k) G Wk To Sl Ri (nI f) (nI b) oT oS oF (nI an) (nI as) Fo wo pa fa)) (pu_Q (some (.int (-2)))) 0 0 (fun _ => False) := by
  refine Met.ofW (cc := cX5_lay) (maxL := 7) (ret := (some .int)) (by decide) rfl ?_
  intro p e s m args below meth c s₁ B hml hv
  obtain ⟨rfl, hP, hK⟩ := hv
  have hx := B.exec
  have hb := B.bytes
  have hr := B.returns
  have hts := atoms_spec (ws := wsX5_lay) B.pre
  have hown : s.vm.findClass RX5 = some m.cls := findClass_of_methodNamed B.named
  have hlocks := B.notSynchronized
  have hl := lv_entry ([.ref (h 0), .int t, .int kd, .int i, .int (-5)]) (n := 7) (Nat.le_of_ble_eq_true rfl)
  rw [lg_entry_eq]
  generalize (lg_sl ([.ref (h 0), .int t, .int kd, .int i, .int (-5)]) ++ List.replicate (7 - (lg_sl ([.ref (h 0), .int t, .int kd, .int i, .int (-5)])).length) Slot.unset).toArray = ls at hl ⊢
  have hl : lv_has ls 7 [(0, .ref (h 0)), (1, .int t), (2, .int kd), (3, .int i), (4, .int (-5))] := hl
  refine lv_iload hx hb dX5_lay_0 (lv_at hl 4 rfl) ?_
  refine lv_bipush (v := (-5)) hx hb dX5_lay_2 (by decide) ?_
  refine lv_icmp_eq (tgt := 21) hx hb dX5_lay_4 (by decide) (fun _ => ?_) (fun h9 => absurd (by decide) h9)
  refine lv_aload_n hx hb dX5_lay_21 rfl (lv_at hl 0 rfl) ?_
  refine lv_iload_n hx hb dX5_lay_22 rfl (lv_at hl 1 rfl) ?_
  refine lv_iload_n hx hb dX5_lay_23 rfl (lv_at hl 2 rfl) ?_
  refine lv_bipush (v := 7) hx hb dX5_lay_24 (by decide) ?_
  refine lv_bipush (v := 15) hx hb dX5_lay_26 (by decide) ?_
  refine pu_calli (va_runV (As := [.int t, .int kd, .int 7, .int 15]) (rest := []) ⟨hx, hb, hml, hown, hts⟩ (c_X5_refusalOf_o hh t kd 7 15 (by assumption) (by assumption)) (cwV 4 hts gX5_lay_X5_refusalOf rfl rfl rfl (by decide +kernel) ⟨Nat.le_of_ble_eq_true rfl, Nat.le_of_ble_eq_true rfl⟩) (wd_preV (ci := 5) (q0 := 0) hP hK rfl rfl) rfl rfl hl.1 rfl (lv_room (Nat.le_of_ble_eq_true rfl)) dX5_lay_28 ⟨Nat.zero_le _, Nat.zero_le _⟩) ?_
  refine lv_istore (lv' := [(5, .int (-2)), (0, .ref (h 0)), (1, .int t), (2, .int kd), (3, .int i), (4, .int (-5))]) hx hb dX5_lay_31 hl (by decide) rfl (fun ls hl => ?_)
  refine lv_iload hx hb dX5_lay_33 (lv_at hl 0 rfl) ?_
  refine lv_if_eq (tgt := 41) hx hb dX5_lay_35 (by decide) (fun h9 => absurd h9 (by decide)) (fun _ => ?_)
  refine lv_iload hx hb dX5_lay_38 (lv_at hl 0 rfl) ?_
  exact W.iret (v := (-2)) hx hb hr (fun t9 ht _ => ⟨congrArg (fun z => Outcome.returned (some (Value.int z))) (rfl), ht⟩) (fun _ h9 => nomatch h9) dX5_lay_40
set_option maxHeartbeats 4000000 in
set_option maxRecDepth 100000 in
theorem c_X5_lay_nc (hh : ad_ok h 20) (hn : n ≤ 100) (r : Nat) (hr9 : r < n) (kd : Int32) (hq : q_in kd 7 15 = true) (i : Int32) (h1 : ko (F r) kd = false) : Met l yX5_lay wsX5_lay ({ frames := 9, cells := 0, slots := 0, locals := 400 }) (wd_P D cI cJ [.ref (h 0), .int (nI r), .int kd, .int i, .int (-5)] (sl_W cI cJ h (nI n) F Wt Sz Nu Mb (nI k) G Wk To Sl Ri (nI f) (nI b) oT oS oF (nI an) (nI as) Fo wo pa fa)) (mu_Q D (ad_A h 20) (some (.int (-21))) (sl_W cI cJ h (nI n) F Wt Sz Nu Mb (nI k) G Wk To Sl Ri (nI f) (nI b) oT oS oF (nI an) (nI as) (upd Fo 1 (Fo 1 + 1)) wo pa fa)) 0 0 (ad_A h 20) := by
  refine Met.ofW (cc := cX5_lay) (maxL := 7) (ret := (some .int)) (by decide) rfl ?_
  intro p e s m args below meth c s₁ B hml hv
  obtain ⟨rfl, hP, hK⟩ := hv
  have hx := B.exec
  have hb := B.bytes
  have hr := B.returns
  have hts := atoms_spec (ws := wsX5_lay) B.pre
  have hown : s.vm.findClass RX5 = some m.cls := findClass_of_methodNamed B.named
  have hlocks := B.notSynchronized
  have hiX5 : ∀ w ∈ u_ws RX5 TX5 5, w ∈ wsX5_lay := by decide +kernel
  have kf10 := hts (.fieldLink RX5 10 "SortingLine" "things" "LSortingLine$Things;") (by decide +kernel)
  have hS : va_S (ad_A h 20) s.heap s.heap [] := va_S.rf
  have hl := lv_entry ([.ref (h 0), .int (nI r), .int kd, .int i, .int (-5)]) (n := 7) (Nat.le_of_ble_eq_true rfl)
  rw [lg_entry_eq]
  generalize (lg_sl ([.ref (h 0), .int (nI r), .int kd, .int i, .int (-5)]) ++ List.replicate (7 - (lg_sl ([.ref (h 0), .int (nI r), .int kd, .int i, .int (-5)])).length) Slot.unset).toArray = ls at hl ⊢
  have hl : lv_has ls 7 [(0, .ref (h 0)), (1, .int (nI r)), (2, .int kd), (3, .int i), (4, .int (-5))] := hl
  refine lv_iload hx hb dX5_lay_0 (lv_at hl 4 rfl) ?_
  refine lv_bipush (v := (-5)) hx hb dX5_lay_2 (by decide) ?_
  refine lv_icmp_eq (tgt := 21) hx hb dX5_lay_4 (by decide) (fun _ => ?_) (fun h9 => absurd (by decide) h9)
  refine lv_aload_n hx hb dX5_lay_21 rfl (lv_at hl 0 rfl) ?_
  refine lv_iload_n hx hb dX5_lay_22 rfl (lv_at hl 1 rfl) ?_
  refine lv_iload_n hx hb dX5_lay_23 rfl (lv_at hl 2 rfl) ?_
  refine lv_bipush (v := 7) hx hb dX5_lay_24 (by decide) ?_
  refine lv_bipush (v := 15) hx hb dX5_lay_26 (by decide) ?_
  refine pu_calli (va_runV (As := [.int (nI r), .int kd, .int 7, .int 15]) (rest := []) ⟨hx, hb, hml, hown, hts⟩ (c_X5_refusalOf_a hh (nI r) kd 7 15 (p_in_nI hr9 (by omega)) (by assumption)) (cwV 4 hts gX5_lay_X5_refusalOf rfl rfl rfl (by decide +kernel) ⟨Nat.le_of_ble_eq_true rfl, Nat.le_of_ble_eq_true rfl⟩) (wd_preV (ci := 5) (q0 := 0) hP hK rfl rfl) rfl rfl hl.1 rfl (lv_room (Nat.le_of_ble_eq_true rfl)) dX5_lay_28 ⟨Nat.zero_le _, Nat.zero_le _⟩) ?_
  refine lv_istore (lv' := [(5, .int 0), (0, .ref (h 0)), (1, .int (nI r)), (2, .int kd), (3, .int i), (4, .int (-5))]) hx hb dX5_lay_31 hl (by decide) rfl (fun ls hl => ?_)
  refine lv_iload hx hb dX5_lay_33 (lv_at hl 0 rfl) ?_
  refine lv_if_eq (tgt := 41) hx hb dX5_lay_35 (by decide) (fun _ => ?_) (fun h9 => absurd (by decide) h9)
  refine lv_aload_n hx hb dX5_lay_41 rfl (lv_at hl 1 rfl) ?_
  refine va_get (D := D) (ci := 5) (v := .ref (h 1)) (C := RX5) (T := TX5) (N := 5) hx hb hts hiX5 hown hK.1 hP 0 rfl rfl 0 (by decide) kf10 (fun _ h9 => h9) rfl dX5_lay_42 ?_
  refine lv_iload_n hx hb dX5_lay_45 rfl (lv_at hl 2 rfl) ?_
  refine lv_iload_n hx hb dX5_lay_46 rfl (lv_at hl 3 rfl) ?_
  refine pu_callb (va_runV (As := [.int (nI r), .int kd]) (rest := []) ⟨hx, hb, hml, hown, hts⟩ (c_X4_isOf hh hn r (by omega) kd) (cwV 2 hts gX5_lay_X4_isOf rfl rfl rfl (by decide +kernel) ⟨Nat.le_of_ble_eq_true rfl, Nat.le_of_ble_eq_true rfl⟩) (wd_preV (ci := 4) (q0 := 1) hP hK rfl rfl) rfl rfl hl.1 rfl (lv_room (Nat.le_of_ble_eq_true rfl)) dX5_lay_47 ⟨Nat.zero_le _, Nat.zero_le _⟩) (fun h9 => absurd (h1) (by rw [h9]; decide)) (fun _ => ?_)
  refine lv_if_eq (tgt := 68) hx hb dX5_lay_50 (by decide) (fun _ => ?_) (fun h9 => absurd (by decide) h9)
  refine lv_iconst (v := 1) hx hb dX5_lay_68 (by decide) ?_
  refine lv_istore (lv' := [(6, .int 1), (5, .int 0), (0, .ref (h 0)), (1, .int (nI r)), (2, .int kd), (3, .int i), (4, .int (-5))]) hx hb dX5_lay_69 hl (by decide) rfl (fun ls hl => ?_)
  refine lv_iload hx hb dX5_lay_71 (lv_at hl 0 rfl) ?_
  refine lv_if_ne (tgt := 80) hx hb dX5_lay_73 (by decide) (fun _ => ?_) (fun h9 => absurd h9 (by decide))
  refine lv_aload_n hx hb dX5_lay_80 rfl (lv_at hl 2 rfl) ?_
  refine lv_iload hx hb dX5_lay_81 (lv_at hl 0 rfl) ?_
  refine mu_calli (va_runV (As := [.int 1]) (rest := []) ⟨hx, hb, hml, hown, hts⟩ (c_X5_answerOf hh 1 (by omega) (by omega)) (cwV 1 hts gX5_lay_X5_answerOf rfl rfl rfl (by decide +kernel) ⟨Nat.le_of_ble_eq_true rfl, Nat.le_of_ble_eq_true rfl⟩) (wd_preV (ci := 5) (q0 := 0) hP hK rfl rfl) rfl rfl hl.1 rfl (lv_room (Nat.le_of_ble_eq_true rfl)) dX5_lay_83 ⟨Nat.zero_le _, Nat.zero_le _⟩) hS (fun H locs hP hS => ?_)
  have hP : va_P D kC (sl_W cI cJ h (nI n) F Wt Sz Nu Mb (nI k) G Wk To Sl Ri (nI f) (nI b) oT oS oF (nI an) (nI as) (upd Fo 1 (Fo 1 + 1)) wo pa fa) H := hP
  refine tp_i (y := (-21)) (by decide) ?_
  exact W.iret (v := (-21)) hx hb hr (fun t9 ht _ => ⟨congrArg (fun z => Outcome.returned (some (Value.int z))) (rfl), by rw [ht]; exact hP, hS.F ht⟩) hS.2.2 dX5_lay_86
set_option maxHeartbeats 4000000 in
set_option maxRecDepth 100000 in
theorem c_X5_lay_nB (hh : ad_ok h 20) (hn : n ≤ 100) (r : Nat) (hr9 : r < n) (kd : Int32) (hq : q_in kd 7 15 = true) (i : Int32) (h1 : ko (F r) kd = true) (h2 : p_in i (Sz r) = false) : Met l yX5_lay wsX5_lay ({ frames := 9, cells := 0, slots := 0, locals := 400 }) (wd_P D cI cJ [.ref (h 0), .int (nI r), .int kd, .int i, .int (-5)] (sl_W cI cJ h (nI n) F Wt Sz Nu Mb (nI k) G Wk To Sl Ri (nI f) (nI b) oT oS oF (nI an) (nI as) Fo wo pa fa)) (mu_Q D (ad_A h 20) (some (.int (-23))) (sl_W cI cJ h (nI n) F Wt Sz Nu Mb (nI k) G Wk To Sl Ri (nI f) (nI b) oT oS oF (nI an) (nI as) (upd Fo 3 (Fo 3 + 1)) wo pa fa)) 0 0 (ad_A h 20) := by
  refine Met.ofW (cc := cX5_lay) (maxL := 7) (ret := (some .int)) (by decide) rfl ?_
  intro p e s m args below meth c s₁ B hml hv
  obtain ⟨rfl, hP, hK⟩ := hv
  have hx := B.exec
  have hb := B.bytes
  have hr := B.returns
  have hts := atoms_spec (ws := wsX5_lay) B.pre
  have hown : s.vm.findClass RX5 = some m.cls := findClass_of_methodNamed B.named
  have hlocks := B.notSynchronized
  have hiX5 : ∀ w ∈ u_ws RX5 TX5 5, w ∈ wsX5_lay := by decide +kernel
  have kf10 := hts (.fieldLink RX5 10 "SortingLine" "things" "LSortingLine$Things;") (by decide +kernel)
  have hS : va_S (ad_A h 20) s.heap s.heap [] := va_S.rf
  have hl := lv_entry ([.ref (h 0), .int (nI r), .int kd, .int i, .int (-5)]) (n := 7) (Nat.le_of_ble_eq_true rfl)
  rw [lg_entry_eq]
  generalize (lg_sl ([.ref (h 0), .int (nI r), .int kd, .int i, .int (-5)]) ++ List.replicate (7 - (lg_sl ([.ref (h 0), .int (nI r), .int kd, .int i, .int (-5)])).length) Slot.unset).toArray = ls at hl ⊢
  have hl : lv_has ls 7 [(0, .ref (h 0)), (1, .int (nI r)), (2, .int kd), (3, .int i), (4, .int (-5))] := hl
  refine lv_iload hx hb dX5_lay_0 (lv_at hl 4 rfl) ?_
  refine lv_bipush (v := (-5)) hx hb dX5_lay_2 (by decide) ?_
  refine lv_icmp_eq (tgt := 21) hx hb dX5_lay_4 (by decide) (fun _ => ?_) (fun h9 => absurd (by decide) h9)
  refine lv_aload_n hx hb dX5_lay_21 rfl (lv_at hl 0 rfl) ?_
  refine lv_iload_n hx hb dX5_lay_22 rfl (lv_at hl 1 rfl) ?_
  refine lv_iload_n hx hb dX5_lay_23 rfl (lv_at hl 2 rfl) ?_
  refine lv_bipush (v := 7) hx hb dX5_lay_24 (by decide) ?_
  refine lv_bipush (v := 15) hx hb dX5_lay_26 (by decide) ?_
  refine pu_calli (va_runV (As := [.int (nI r), .int kd, .int 7, .int 15]) (rest := []) ⟨hx, hb, hml, hown, hts⟩ (c_X5_refusalOf_a hh (nI r) kd 7 15 (p_in_nI hr9 (by omega)) (by assumption)) (cwV 4 hts gX5_lay_X5_refusalOf rfl rfl rfl (by decide +kernel) ⟨Nat.le_of_ble_eq_true rfl, Nat.le_of_ble_eq_true rfl⟩) (wd_preV (ci := 5) (q0 := 0) hP hK rfl rfl) rfl rfl hl.1 rfl (lv_room (Nat.le_of_ble_eq_true rfl)) dX5_lay_28 ⟨Nat.zero_le _, Nat.zero_le _⟩) ?_
  refine lv_istore (lv' := [(5, .int 0), (0, .ref (h 0)), (1, .int (nI r)), (2, .int kd), (3, .int i), (4, .int (-5))]) hx hb dX5_lay_31 hl (by decide) rfl (fun ls hl => ?_)
  refine lv_iload hx hb dX5_lay_33 (lv_at hl 0 rfl) ?_
  refine lv_if_eq (tgt := 41) hx hb dX5_lay_35 (by decide) (fun _ => ?_) (fun h9 => absurd (by decide) h9)
  refine lv_aload_n hx hb dX5_lay_41 rfl (lv_at hl 1 rfl) ?_
  refine va_get (D := D) (ci := 5) (v := .ref (h 1)) (C := RX5) (T := TX5) (N := 5) hx hb hts hiX5 hown hK.1 hP 0 rfl rfl 0 (by decide) kf10 (fun _ h9 => h9) rfl dX5_lay_42 ?_
  refine lv_iload_n hx hb dX5_lay_45 rfl (lv_at hl 2 rfl) ?_
  refine lv_iload_n hx hb dX5_lay_46 rfl (lv_at hl 3 rfl) ?_
  refine pu_callb (va_runV (As := [.int (nI r), .int kd]) (rest := []) ⟨hx, hb, hml, hown, hts⟩ (c_X4_isOf hh hn r (by omega) kd) (cwV 2 hts gX5_lay_X4_isOf rfl rfl rfl (by decide +kernel) ⟨Nat.le_of_ble_eq_true rfl, Nat.le_of_ble_eq_true rfl⟩) (wd_preV (ci := 4) (q0 := 1) hP hK rfl rfl) rfl rfl hl.1 rfl (lv_room (Nat.le_of_ble_eq_true rfl)) dX5_lay_47 ⟨Nat.zero_le _, Nat.zero_le _⟩) (fun _ => ?_) (fun h9 => absurd (h1) (by rw [h9]; decide))
  refine lv_if_eq (tgt := 68) hx hb dX5_lay_50 (by decide) (fun h9 => absurd h9 (by decide)) (fun _ => ?_)
  refine lv_aload_n hx hb dX5_lay_53 rfl (lv_at hl 1 rfl) ?_
  refine lv_iload_n hx hb dX5_lay_54 rfl (lv_at hl 2 rfl) ?_
  refine lv_iload_n hx hb dX5_lay_55 rfl (lv_at hl 4 rfl) ?_
  refine lv_iload hx hb dX5_lay_56 (lv_at hl 5 rfl) ?_
  refine lv_iload_n hx hb dX5_lay_58 rfl (lv_at hl 3 rfl) ?_
  refine pu_calli (va_runS (As := [.int kd]) (rest := [.int (-5), .int i, .int (nI r), .ref (h 0)]) ⟨hx, hb, hml, hown, hts⟩ (c_X5_memberKind kd) (cwS 1 hts gX5_lay_X5_memberKind rfl rfl rfl (by decide +kernel) ⟨Nat.le_of_ble_eq_true rfl, Nat.le_of_ble_eq_true rfl⟩) (wd_preS hP hK) rfl rfl hl.1 rfl (lv_room (Nat.le_of_ble_eq_true rfl)) dX5_lay_59 ⟨Nat.zero_le _, Nat.zero_le _⟩) ?_
  refine pu_calli (va_runV (As := [.int (nI r), .int i, .int (-5), .int (mkS kd)]) (rest := []) ⟨hx, hb, hml, hown, hts⟩ (c_X5_layInto_nB hh hn r (by omega) (mkS kd) i h2) (cwV 4 hts gX5_lay_X5_layInto rfl rfl rfl (by decide +kernel) ⟨Nat.le_of_ble_eq_true rfl, Nat.le_of_ble_eq_true rfl⟩) (wd_preV (ci := 5) (q0 := 0) hP hK rfl rfl) rfl rfl hl.1 rfl (lv_room (Nat.le_of_ble_eq_true rfl)) dX5_lay_62 ⟨Nat.zero_le _, Nat.zero_le _⟩) ?_
  refine lv_goto (tgt := 69) hx hb dX5_lay_65 (by decide) ?_
  refine lv_istore (lv' := [(6, .int 3), (5, .int 0), (0, .ref (h 0)), (1, .int (nI r)), (2, .int kd), (3, .int i), (4, .int (-5))]) hx hb dX5_lay_69 hl (by decide) rfl (fun ls hl => ?_)
  refine lv_iload hx hb dX5_lay_71 (lv_at hl 0 rfl) ?_
  refine lv_if_ne (tgt := 80) hx hb dX5_lay_73 (by decide) (fun _ => ?_) (fun h9 => absurd h9 (by decide))
  refine lv_aload_n hx hb dX5_lay_80 rfl (lv_at hl 2 rfl) ?_
  refine lv_iload hx hb dX5_lay_81 (lv_at hl 0 rfl) ?_
  refine mu_calli (va_runV (As := [.int 3]) (rest := []) ⟨hx, hb, hml, hown, hts⟩ (c_X5_answerOf hh 3 (by omega) (by omega)) (cwV 1 hts gX5_lay_X5_answerOf rfl rfl rfl (by decide +kernel) ⟨Nat.le_of_ble_eq_true rfl, Nat.le_of_ble_eq_true rfl⟩) (wd_preV (ci := 5) (q0 := 0) hP hK rfl rfl) rfl rfl hl.1 rfl (lv_room (Nat.le_of_ble_eq_true rfl)) dX5_lay_83 ⟨Nat.zero_le _, Nat.zero_le _⟩) hS (fun H locs hP hS => ?_)
  have hP : va_P D kC (sl_W cI cJ h (nI n) F Wt Sz Nu Mb (nI k) G Wk To Sl Ri (nI f) (nI b) oT oS oF (nI an) (nI as) (upd Fo 3 (Fo 3 + 1)) wo pa fa) H := hP
  refine tp_i (y := (-23)) (by decide) ?_
  exact W.iret (v := (-23)) hx hb hr (fun t9 ht _ => ⟨congrArg (fun z => Outcome.returned (some (Value.int z))) (rfl), by rw [ht]; exact hP, hS.F ht⟩) hS.2.2 dX5_lay_86
set_option maxHeartbeats 4000000 in
set_option maxRecDepth 100000 in
theorem c_X5_lay_nO (hh : ad_ok h 20) (hn : n ≤ 100) (r : Nat) (hr9 : r < n) (kd : Int32) (hq : q_in kd 7 15 = true) (j : Nat) (hj : j < 8) (h1 : ko (F r) kd = true) (h2 : p_in (nI j) (Sz r) = true) : Met l yX5_lay wsX5_lay ({ frames := 9, cells := 0, slots := 0, locals := 400 }) (wd_P D cI cJ [.ref (h 0), .int (nI r), .int kd, .int (nI j), .int (-5)] (sl_W cI cJ h (nI n) F Wt Sz Nu Mb (nI k) G Wk To Sl Ri (nI f) (nI b) oT oS oF (nI an) (nI as) Fo wo pa fa)) (mu_Q D (ad_A h 20) (some (.int 1)) (sl_W cI cJ h (nI n) F Wt Sz Nu (upd Mb (8 * r + j) (-5)) (nI k) G Wk To Sl Ri (nI f) (nI b) oT oS oF (nI an) (nI as) Fo wo pa fa)) 0 0 (ad_A h 20) := by
  refine Met.ofW (cc := cX5_lay) (maxL := 7) (ret := (some .int)) (by decide) rfl ?_
  intro p e s m args below meth c s₁ B hml hv
  obtain ⟨rfl, hP, hK⟩ := hv
  have hx := B.exec
  have hb := B.bytes
  have hr := B.returns
  have hts := atoms_spec (ws := wsX5_lay) B.pre
  have hown : s.vm.findClass RX5 = some m.cls := findClass_of_methodNamed B.named
  have hlocks := B.notSynchronized
  have hiX5 : ∀ w ∈ u_ws RX5 TX5 5, w ∈ wsX5_lay := by decide +kernel
  have kf10 := hts (.fieldLink RX5 10 "SortingLine" "things" "LSortingLine$Things;") (by decide +kernel)
  have hS : va_S (ad_A h 20) s.heap s.heap [] := va_S.rf
  have hl := lv_entry ([.ref (h 0), .int (nI r), .int kd, .int (nI j), .int (-5)]) (n := 7) (Nat.le_of_ble_eq_true rfl)
  rw [lg_entry_eq]
  generalize (lg_sl ([.ref (h 0), .int (nI r), .int kd, .int (nI j), .int (-5)]) ++ List.replicate (7 - (lg_sl ([.ref (h 0), .int (nI r), .int kd, .int (nI j), .int (-5)])).length) Slot.unset).toArray = ls at hl ⊢
  have hl : lv_has ls 7 [(0, .ref (h 0)), (1, .int (nI r)), (2, .int kd), (3, .int (nI j)), (4, .int (-5))] := hl
  refine lv_iload hx hb dX5_lay_0 (lv_at hl 4 rfl) ?_
  refine lv_bipush (v := (-5)) hx hb dX5_lay_2 (by decide) ?_
  refine lv_icmp_eq (tgt := 21) hx hb dX5_lay_4 (by decide) (fun _ => ?_) (fun h9 => absurd (by decide) h9)
  refine lv_aload_n hx hb dX5_lay_21 rfl (lv_at hl 0 rfl) ?_
  refine lv_iload_n hx hb dX5_lay_22 rfl (lv_at hl 1 rfl) ?_
  refine lv_iload_n hx hb dX5_lay_23 rfl (lv_at hl 2 rfl) ?_
  refine lv_bipush (v := 7) hx hb dX5_lay_24 (by decide) ?_
  refine lv_bipush (v := 15) hx hb dX5_lay_26 (by decide) ?_
  refine pu_calli (va_runV (As := [.int (nI r), .int kd, .int 7, .int 15]) (rest := []) ⟨hx, hb, hml, hown, hts⟩ (c_X5_refusalOf_a hh (nI r) kd 7 15 (p_in_nI hr9 (by omega)) (by assumption)) (cwV 4 hts gX5_lay_X5_refusalOf rfl rfl rfl (by decide +kernel) ⟨Nat.le_of_ble_eq_true rfl, Nat.le_of_ble_eq_true rfl⟩) (wd_preV (ci := 5) (q0 := 0) hP hK rfl rfl) rfl rfl hl.1 rfl (lv_room (Nat.le_of_ble_eq_true rfl)) dX5_lay_28 ⟨Nat.zero_le _, Nat.zero_le _⟩) ?_
  refine lv_istore (lv' := [(5, .int 0), (0, .ref (h 0)), (1, .int (nI r)), (2, .int kd), (3, .int (nI j)), (4, .int (-5))]) hx hb dX5_lay_31 hl (by decide) rfl (fun ls hl => ?_)
  refine lv_iload hx hb dX5_lay_33 (lv_at hl 0 rfl) ?_
  refine lv_if_eq (tgt := 41) hx hb dX5_lay_35 (by decide) (fun _ => ?_) (fun h9 => absurd (by decide) h9)
  refine lv_aload_n hx hb dX5_lay_41 rfl (lv_at hl 1 rfl) ?_
  refine va_get (D := D) (ci := 5) (v := .ref (h 1)) (C := RX5) (T := TX5) (N := 5) hx hb hts hiX5 hown hK.1 hP 0 rfl rfl 0 (by decide) kf10 (fun _ h9 => h9) rfl dX5_lay_42 ?_
  refine lv_iload_n hx hb dX5_lay_45 rfl (lv_at hl 2 rfl) ?_
  refine lv_iload_n hx hb dX5_lay_46 rfl (lv_at hl 3 rfl) ?_
  refine pu_callb (va_runV (As := [.int (nI r), .int kd]) (rest := []) ⟨hx, hb, hml, hown, hts⟩ (c_X4_isOf hh hn r (by omega) kd) (cwV 2 hts gX5_lay_X4_isOf rfl rfl rfl (by decide +kernel) ⟨Nat.le_of_ble_eq_true rfl, Nat.le_of_ble_eq_true rfl⟩) (wd_preV (ci := 4) (q0 := 1) hP hK rfl rfl) rfl rfl hl.1 rfl (lv_room (Nat.le_of_ble_eq_true rfl)) dX5_lay_47 ⟨Nat.zero_le _, Nat.zero_le _⟩) (fun _ => ?_) (fun h9 => absurd (h1) (by rw [h9]; decide))
  refine lv_if_eq (tgt := 68) hx hb dX5_lay_50 (by decide) (fun h9 => absurd h9 (by decide)) (fun _ => ?_)
  refine lv_aload_n hx hb dX5_lay_53 rfl (lv_at hl 1 rfl) ?_
  refine lv_iload_n hx hb dX5_lay_54 rfl (lv_at hl 2 rfl) ?_
  refine lv_iload_n hx hb dX5_lay_55 rfl (lv_at hl 4 rfl) ?_
  refine lv_iload hx hb dX5_lay_56 (lv_at hl 5 rfl) ?_
  refine lv_iload_n hx hb dX5_lay_58 rfl (lv_at hl 3 rfl) ?_
  refine pu_calli (va_runS (As := [.int kd]) (rest := [.int (-5), .int (nI j), .int (nI r), .ref (h 0)]) ⟨hx, hb, hml, hown, hts⟩ (c_X5_memberKind kd) (cwS 1 hts gX5_lay_X5_memberKind rfl rfl rfl (by decide +kernel) ⟨Nat.le_of_ble_eq_true rfl, Nat.le_of_ble_eq_true rfl⟩) (wd_preS hP hK) rfl rfl hl.1 rfl (lv_room (Nat.le_of_ble_eq_true rfl)) dX5_lay_59 ⟨Nat.zero_le _, Nat.zero_le _⟩) ?_
  refine mu_calli (va_runV (As := [.int (nI r), .int (nI j), .int (-5), .int (mkS kd)]) (rest := []) ⟨hx, hb, hml, hown, hts⟩ (c_X5_layInto_nO hh hn r (by omega) (mkS kd) j hj h2) (cwV 4 hts gX5_lay_X5_layInto rfl rfl rfl (by decide +kernel) ⟨Nat.le_of_ble_eq_true rfl, Nat.le_of_ble_eq_true rfl⟩) (wd_preV (ci := 5) (q0 := 0) hP hK rfl rfl) rfl rfl hl.1 rfl (lv_room (Nat.le_of_ble_eq_true rfl)) dX5_lay_62 ⟨Nat.zero_le _, Nat.zero_le _⟩) hS (fun H locs hP hS => ?_)
  have hP : va_P D kC (sl_W cI cJ h (nI n) F Wt Sz Nu (upd Mb (8 * r + j) (-5)) (nI k) G Wk To Sl Ri (nI f) (nI b) oT oS oF (nI an) (nI as) Fo wo pa fa) H := hP
  refine lv_goto (tgt := 69) hx hb dX5_lay_65 (by decide) ?_
  refine lv_istore (lv' := [(6, .int 0), (5, .int 0), (0, .ref (h 0)), (1, .int (nI r)), (2, .int kd), (3, .int (nI j)), (4, .int (-5))]) hx hb dX5_lay_69 hl (by decide) rfl (fun ls hl => ?_)
  refine lv_iload hx hb dX5_lay_71 (lv_at hl 0 rfl) ?_
  refine lv_if_ne (tgt := 80) hx hb dX5_lay_73 (by decide) (fun h9 => absurd (by decide) h9) (fun _ => ?_)
  refine lv_iconst (v := 1) hx hb dX5_lay_76 (by decide) ?_
  refine lv_goto (tgt := 86) hx hb dX5_lay_77 (by decide) ?_
  exact W.iret (v := 1) hx hb hr (fun t9 ht _ => ⟨congrArg (fun z => Outcome.returned (some (Value.int z))) (rfl), by rw [ht]; exact hP, hS.F ht⟩) hS.2.2 dX5_lay_86
set_option maxHeartbeats 4000000 in
set_option maxRecDepth 100000 in
theorem c_X5_lay_pu (hh : ad_ok h 20) (hn : n ≤ 100) (p9 : Nat) (hp9 : p9 < n) (t kd i : Int32) (h1 : p_in t (nI n) = false) : Met l yX5_lay wsX5_lay ({ frames := 9, cells := 0, slots := 0, locals := 400 }) (wd_P D cI cJ [.ref (h 0), .int t, .int kd, .int i, .int (nI p9)] (sl_W cI cJ h (nI n) F Wt Sz Nu Mb (nI k) G Wk To Sl Ri (nI f) (nI b) oT oS oF (nI an) (nI as) Fo wo pa fa)) (pu_Q (some (.int (-1)))) 0 0 (fun _ => False) := by
  refine Met.ofW (cc := cX5_lay) (maxL := 7) (ret := (some .int)) (by decide) rfl ?_
  intro p e s m args below meth c s₁ B hml hv
  obtain ⟨rfl, hP, hK⟩ := hv
  have hx := B.exec
  have hb := B.bytes
  have hr := B.returns
  have hts := atoms_spec (ws := wsX5_lay) B.pre
  have hown : s.vm.findClass RX5 = some m.cls := findClass_of_methodNamed B.named
  have hlocks := B.notSynchronized
  have hiX5 : ∀ w ∈ u_ws RX5 TX5 5, w ∈ wsX5_lay := by decide +kernel
  have kf10 := hts (.fieldLink RX5 10 "SortingLine" "things" "LSortingLine$Things;") (by decide +kernel)
  have hl := lv_entry ([.ref (h 0), .int t, .int kd, .int i, .int (nI p9)]) (n := 7) (Nat.le_of_ble_eq_true rfl)
  rw [lg_entry_eq]
  generalize (lg_sl ([.ref (h 0), .int t, .int kd, .int i, .int (nI p9)]) ++ List.replicate (7 - (lg_sl ([.ref (h 0), .int t, .int kd, .int i, .int (nI p9)])).length) Slot.unset).toArray = ls at hl ⊢
  have hl : lv_has ls 7 [(0, .ref (h 0)), (1, .int t), (2, .int kd), (3, .int i), (4, .int (nI p9))] := hl
  refine lv_iload hx hb dX5_lay_0 (lv_at hl 4 rfl) ?_
  refine lv_bipush (v := (-5)) hx hb dX5_lay_2 (by decide) ?_
  refine lv_icmp_eq (tgt := 21) hx hb dX5_lay_4 (by decide) (fun h9 => absurd h9 (fun h9 => absurd (h9 ▸ nI_pos (n := p9) (by omega)) (by decide))) (fun _ => ?_)
  refine lv_aload_n hx hb dX5_lay_7 rfl (lv_at hl 0 rfl) ?_
  refine va_get (D := D) (ci := 5) (v := .ref (h 1)) (C := RX5) (T := TX5) (N := 5) hx hb hts hiX5 hown hK.1 hP 0 rfl rfl 0 (by decide) kf10 (fun _ h9 => h9) rfl dX5_lay_8 ?_
  refine lv_iload hx hb dX5_lay_11 (lv_at hl 4 rfl) ?_
  refine pu_callb (va_runV (As := [.int (nI p9)]) (rest := []) ⟨hx, hb, hml, hown, hts⟩ (c_X4_hold hh (nI p9)) (cwV 1 hts gX5_lay_X4_hold rfl rfl rfl (by decide +kernel) ⟨Nat.le_of_ble_eq_true rfl, Nat.le_of_ble_eq_true rfl⟩) (wd_preV (ci := 4) (q0 := 1) hP hK rfl rfl) rfl rfl hl.1 rfl (lv_room (Nat.le_of_ble_eq_true rfl)) dX5_lay_13 ⟨Nat.zero_le _, Nat.zero_le _⟩) (fun _ => ?_) (fun h9 => absurd (p_in_nI hp9 (by omega)) (by rw [h9]; decide))
  refine lv_if_ne (tgt := 21) hx hb dX5_lay_16 (by decide) (fun _ => ?_) (fun h9 => absurd h9 (by decide))
  refine lv_aload_n hx hb dX5_lay_21 rfl (lv_at hl 0 rfl) ?_
  refine lv_iload_n hx hb dX5_lay_22 rfl (lv_at hl 1 rfl) ?_
  refine lv_iload_n hx hb dX5_lay_23 rfl (lv_at hl 2 rfl) ?_
  refine lv_bipush (v := 7) hx hb dX5_lay_24 (by decide) ?_
  refine lv_bipush (v := 15) hx hb dX5_lay_26 (by decide) ?_
  refine pu_calli (va_runV (As := [.int t, .int kd, .int 7, .int 15]) (rest := []) ⟨hx, hb, hml, hown, hts⟩ (c_X5_refusalOf_u hh t kd 7 15 (by assumption)) (cwV 4 hts gX5_lay_X5_refusalOf rfl rfl rfl (by decide +kernel) ⟨Nat.le_of_ble_eq_true rfl, Nat.le_of_ble_eq_true rfl⟩) (wd_preV (ci := 5) (q0 := 0) hP hK rfl rfl) rfl rfl hl.1 rfl (lv_room (Nat.le_of_ble_eq_true rfl)) dX5_lay_28 ⟨Nat.zero_le _, Nat.zero_le _⟩) ?_
  refine lv_istore (lv' := [(5, .int (-1)), (0, .ref (h 0)), (1, .int t), (2, .int kd), (3, .int i), (4, .int (nI p9))]) hx hb dX5_lay_31 hl (by decide) rfl (fun ls hl => ?_)
  refine lv_iload hx hb dX5_lay_33 (lv_at hl 0 rfl) ?_
  refine lv_if_eq (tgt := 41) hx hb dX5_lay_35 (by decide) (fun h9 => absurd h9 (by decide)) (fun _ => ?_)
  refine lv_iload hx hb dX5_lay_38 (lv_at hl 0 rfl) ?_
  exact W.iret (v := (-1)) hx hb hr (fun t9 ht _ => ⟨congrArg (fun z => Outcome.returned (some (Value.int z))) (rfl), ht⟩) (fun _ h9 => nomatch h9) dX5_lay_40
set_option maxHeartbeats 4000000 in
set_option maxRecDepth 100000 in
theorem c_X5_lay_po (hh : ad_ok h 20) (hn : n ≤ 100) (p9 : Nat) (hp9 : p9 < n) (t kd i : Int32) (h1 : p_in t (nI n) = true) (h2 : q_in kd 7 15 = false) : Met l yX5_lay wsX5_lay ({ frames := 9, cells := 0, slots := 0, locals := 400 }) (wd_P D cI cJ [.ref (h 0), .int t, .int kd, .int i, .int (nI p9)] (sl_W cI cJ h (nI n) F Wt Sz Nu Mb (nI k) G Wk To Sl Ri (nI f) (nI b) oT oS oF (nI an) (nI as) Fo wo pa fa)) (pu_Q (some (.int (-2)))) 0 0 (fun _ => False) := by
  refine Met.ofW (cc := cX5_lay) (maxL := 7) (ret := (some .int)) (by decide) rfl ?_
  intro p e s m args below meth c s₁ B hml hv
  obtain ⟨rfl, hP, hK⟩ := hv
  have hx := B.exec
  have hb := B.bytes
  have hr := B.returns
  have hts := atoms_spec (ws := wsX5_lay) B.pre
  have hown : s.vm.findClass RX5 = some m.cls := findClass_of_methodNamed B.named
  have hlocks := B.notSynchronized
  have hiX5 : ∀ w ∈ u_ws RX5 TX5 5, w ∈ wsX5_lay := by decide +kernel
  have kf10 := hts (.fieldLink RX5 10 "SortingLine" "things" "LSortingLine$Things;") (by decide +kernel)
  have hl := lv_entry ([.ref (h 0), .int t, .int kd, .int i, .int (nI p9)]) (n := 7) (Nat.le_of_ble_eq_true rfl)
  rw [lg_entry_eq]
  generalize (lg_sl ([.ref (h 0), .int t, .int kd, .int i, .int (nI p9)]) ++ List.replicate (7 - (lg_sl ([.ref (h 0), .int t, .int kd, .int i, .int (nI p9)])).length) Slot.unset).toArray = ls at hl ⊢
  have hl : lv_has ls 7 [(0, .ref (h 0)), (1, .int t), (2, .int kd), (3, .int i), (4, .int (nI p9))] := hl
  refine lv_iload hx hb dX5_lay_0 (lv_at hl 4 rfl) ?_
  refine lv_bipush (v := (-5)) hx hb dX5_lay_2 (by decide) ?_
  refine lv_icmp_eq (tgt := 21) hx hb dX5_lay_4 (by decide) (fun h9 => absurd h9 (fun h9 => absurd (h9 ▸ nI_pos (n := p9) (by omega)) (by decide))) (fun _ => ?_)
  refine lv_aload_n hx hb dX5_lay_7 rfl (lv_at hl 0 rfl) ?_
  refine va_get (D := D) (ci := 5) (v := .ref (h 1)) (C := RX5) (T := TX5) (N := 5) hx hb hts hiX5 hown hK.1 hP 0 rfl rfl 0 (by decide) kf10 (fun _ h9 => h9) rfl dX5_lay_8 ?_
  refine lv_iload hx hb dX5_lay_11 (lv_at hl 4 rfl) ?_
  refine pu_callb (va_runV (As := [.int (nI p9)]) (rest := []) ⟨hx, hb, hml, hown, hts⟩ (c_X4_hold hh (nI p9)) (cwV 1 hts gX5_lay_X4_hold rfl rfl rfl (by decide +kernel) ⟨Nat.le_of_ble_eq_true rfl, Nat.le_of_ble_eq_true rfl⟩) (wd_preV (ci := 4) (q0 := 1) hP hK rfl rfl) rfl rfl hl.1 rfl (lv_room (Nat.le_of_ble_eq_true rfl)) dX5_lay_13 ⟨Nat.zero_le _, Nat.zero_le _⟩) (fun _ => ?_) (fun h9 => absurd (p_in_nI hp9 (by omega)) (by rw [h9]; decide))
  refine lv_if_ne (tgt := 21) hx hb dX5_lay_16 (by decide) (fun _ => ?_) (fun h9 => absurd h9 (by decide))
  refine lv_aload_n hx hb dX5_lay_21 rfl (lv_at hl 0 rfl) ?_
  refine lv_iload_n hx hb dX5_lay_22 rfl (lv_at hl 1 rfl) ?_
  refine lv_iload_n hx hb dX5_lay_23 rfl (lv_at hl 2 rfl) ?_
  refine lv_bipush (v := 7) hx hb dX5_lay_24 (by decide) ?_
  refine lv_bipush (v := 15) hx hb dX5_lay_26 (by decide) ?_
  refine pu_calli (va_runV (As := [.int t, .int kd, .int 7, .int 15]) (rest := []) ⟨hx, hb, hml, hown, hts⟩ (c_X5_refusalOf_o hh t kd 7 15 (by assumption) (by assumption)) (cwV 4 hts gX5_lay_X5_refusalOf rfl rfl rfl (by decide +kernel) ⟨Nat.le_of_ble_eq_true rfl, Nat.le_of_ble_eq_true rfl⟩) (wd_preV (ci := 5) (q0 := 0) hP hK rfl rfl) rfl rfl hl.1 rfl (lv_room (Nat.le_of_ble_eq_true rfl)) dX5_lay_28 ⟨Nat.zero_le _, Nat.zero_le _⟩) ?_
  refine lv_istore (lv' := [(5, .int (-2)), (0, .ref (h 0)), (1, .int t), (2, .int kd), (3, .int i), (4, .int (nI p9))]) hx hb dX5_lay_31 hl (by decide) rfl (fun ls hl => ?_)
  refine lv_iload hx hb dX5_lay_33 (lv_at hl 0 rfl) ?_
  refine lv_if_eq (tgt := 41) hx hb dX5_lay_35 (by decide) (fun h9 => absurd h9 (by decide)) (fun _ => ?_)
  refine lv_iload hx hb dX5_lay_38 (lv_at hl 0 rfl) ?_
  exact W.iret (v := (-2)) hx hb hr (fun t9 ht _ => ⟨congrArg (fun z => Outcome.returned (some (Value.int z))) (rfl), ht⟩) (fun _ h9 => nomatch h9) dX5_lay_40
set_option maxHeartbeats 4000000 in
set_option maxRecDepth 100000 in
theorem c_X5_lay_pc (hh : ad_ok h 20) (hn : n ≤ 100) (p9 : Nat) (hp9 : p9 < n) (r : Nat) (hr9 : r < n) (kd : Int32) (hq : q_in kd 7 15 = true) (i : Int32) (h1 : ko (F r) kd = false) : Met l yX5_lay wsX5_lay ({ frames := 9, cells := 0, slots := 0, locals := 400 }) (wd_P D cI cJ [.ref (h 0), .int (nI r), .int kd, .int i, .int (nI p9)] (sl_W cI cJ h (nI n) F Wt Sz Nu Mb (nI k) G Wk To Sl Ri (nI f) (nI b) oT oS oF (nI an) (nI as) Fo wo pa fa)) (mu_Q D (ad_A h 20) (some (.int (-21))) (sl_W cI cJ h (nI n) F Wt Sz Nu Mb (nI k) G Wk To Sl Ri (nI f) (nI b) oT oS oF (nI an) (nI as) (upd Fo 1 (Fo 1 + 1)) wo pa fa)) 0 0 (ad_A h 20) := by
  refine Met.ofW (cc := cX5_lay) (maxL := 7) (ret := (some .int)) (by decide) rfl ?_
  intro p e s m args below meth c s₁ B hml hv
  obtain ⟨rfl, hP, hK⟩ := hv
  have hx := B.exec
  have hb := B.bytes
  have hr := B.returns
  have hts := atoms_spec (ws := wsX5_lay) B.pre
  have hown : s.vm.findClass RX5 = some m.cls := findClass_of_methodNamed B.named
  have hlocks := B.notSynchronized
  have hiX5 : ∀ w ∈ u_ws RX5 TX5 5, w ∈ wsX5_lay := by decide +kernel
  have kf10 := hts (.fieldLink RX5 10 "SortingLine" "things" "LSortingLine$Things;") (by decide +kernel)
  have hS : va_S (ad_A h 20) s.heap s.heap [] := va_S.rf
  have hl := lv_entry ([.ref (h 0), .int (nI r), .int kd, .int i, .int (nI p9)]) (n := 7) (Nat.le_of_ble_eq_true rfl)
  rw [lg_entry_eq]
  generalize (lg_sl ([.ref (h 0), .int (nI r), .int kd, .int i, .int (nI p9)]) ++ List.replicate (7 - (lg_sl ([.ref (h 0), .int (nI r), .int kd, .int i, .int (nI p9)])).length) Slot.unset).toArray = ls at hl ⊢
  have hl : lv_has ls 7 [(0, .ref (h 0)), (1, .int (nI r)), (2, .int kd), (3, .int i), (4, .int (nI p9))] := hl
  refine lv_iload hx hb dX5_lay_0 (lv_at hl 4 rfl) ?_
  refine lv_bipush (v := (-5)) hx hb dX5_lay_2 (by decide) ?_
  refine lv_icmp_eq (tgt := 21) hx hb dX5_lay_4 (by decide) (fun h9 => absurd h9 (fun h9 => absurd (h9 ▸ nI_pos (n := p9) (by omega)) (by decide))) (fun _ => ?_)
  refine lv_aload_n hx hb dX5_lay_7 rfl (lv_at hl 0 rfl) ?_
  refine va_get (D := D) (ci := 5) (v := .ref (h 1)) (C := RX5) (T := TX5) (N := 5) hx hb hts hiX5 hown hK.1 hP 0 rfl rfl 0 (by decide) kf10 (fun _ h9 => h9) rfl dX5_lay_8 ?_
  refine lv_iload hx hb dX5_lay_11 (lv_at hl 4 rfl) ?_
  refine pu_callb (va_runV (As := [.int (nI p9)]) (rest := []) ⟨hx, hb, hml, hown, hts⟩ (c_X4_hold hh (nI p9)) (cwV 1 hts gX5_lay_X4_hold rfl rfl rfl (by decide +kernel) ⟨Nat.le_of_ble_eq_true rfl, Nat.le_of_ble_eq_true rfl⟩) (wd_preV (ci := 4) (q0 := 1) hP hK rfl rfl) rfl rfl hl.1 rfl (lv_room (Nat.le_of_ble_eq_true rfl)) dX5_lay_13 ⟨Nat.zero_le _, Nat.zero_le _⟩) (fun _ => ?_) (fun h9 => absurd (p_in_nI hp9 (by omega)) (by rw [h9]; decide))
  refine lv_if_ne (tgt := 21) hx hb dX5_lay_16 (by decide) (fun _ => ?_) (fun h9 => absurd h9 (by decide))
  refine lv_aload_n hx hb dX5_lay_21 rfl (lv_at hl 0 rfl) ?_
  refine lv_iload_n hx hb dX5_lay_22 rfl (lv_at hl 1 rfl) ?_
  refine lv_iload_n hx hb dX5_lay_23 rfl (lv_at hl 2 rfl) ?_
  refine lv_bipush (v := 7) hx hb dX5_lay_24 (by decide) ?_
  refine lv_bipush (v := 15) hx hb dX5_lay_26 (by decide) ?_
  refine pu_calli (va_runV (As := [.int (nI r), .int kd, .int 7, .int 15]) (rest := []) ⟨hx, hb, hml, hown, hts⟩ (c_X5_refusalOf_a hh (nI r) kd 7 15 (p_in_nI hr9 (by omega)) (by assumption)) (cwV 4 hts gX5_lay_X5_refusalOf rfl rfl rfl (by decide +kernel) ⟨Nat.le_of_ble_eq_true rfl, Nat.le_of_ble_eq_true rfl⟩) (wd_preV (ci := 5) (q0 := 0) hP hK rfl rfl) rfl rfl hl.1 rfl (lv_room (Nat.le_of_ble_eq_true rfl)) dX5_lay_28 ⟨Nat.zero_le _, Nat.zero_le _⟩) ?_
  refine lv_istore (lv' := [(5, .int 0), (0, .ref (h 0)), (1, .int (nI r)), (2, .int kd), (3, .int i), (4, .int (nI p9))]) hx hb dX5_lay_31 hl (by decide) rfl (fun ls hl => ?_)
  refine lv_iload hx hb dX5_lay_33 (lv_at hl 0 rfl) ?_
  refine lv_if_eq (tgt := 41) hx hb dX5_lay_35 (by decide) (fun _ => ?_) (fun h9 => absurd (by decide) h9)
  refine lv_aload_n hx hb dX5_lay_41 rfl (lv_at hl 1 rfl) ?_
  refine va_get (D := D) (ci := 5) (v := .ref (h 1)) (C := RX5) (T := TX5) (N := 5) hx hb hts hiX5 hown hK.1 hP 0 rfl rfl 0 (by decide) kf10 (fun _ h9 => h9) rfl dX5_lay_42 ?_
  refine lv_iload_n hx hb dX5_lay_45 rfl (lv_at hl 2 rfl) ?_
  refine lv_iload_n hx hb dX5_lay_46 rfl (lv_at hl 3 rfl) ?_
  refine pu_callb (va_runV (As := [.int (nI r), .int kd]) (rest := []) ⟨hx, hb, hml, hown, hts⟩ (c_X4_isOf hh hn r (by omega) kd) (cwV 2 hts gX5_lay_X4_isOf rfl rfl rfl (by decide +kernel) ⟨Nat.le_of_ble_eq_true rfl, Nat.le_of_ble_eq_true rfl⟩) (wd_preV (ci := 4) (q0 := 1) hP hK rfl rfl) rfl rfl hl.1 rfl (lv_room (Nat.le_of_ble_eq_true rfl)) dX5_lay_47 ⟨Nat.zero_le _, Nat.zero_le _⟩) (fun h9 => absurd (h1) (by rw [h9]; decide)) (fun _ => ?_)
  refine lv_if_eq (tgt := 68) hx hb dX5_lay_50 (by decide) (fun _ => ?_) (fun h9 => absurd (by decide) h9)
  refine lv_iconst (v := 1) hx hb dX5_lay_68 (by decide) ?_
  refine lv_istore (lv' := [(6, .int 1), (5, .int 0), (0, .ref (h 0)), (1, .int (nI r)), (2, .int kd), (3, .int i), (4, .int (nI p9))]) hx hb dX5_lay_69 hl (by decide) rfl (fun ls hl => ?_)
  refine lv_iload hx hb dX5_lay_71 (lv_at hl 0 rfl) ?_
  refine lv_if_ne (tgt := 80) hx hb dX5_lay_73 (by decide) (fun _ => ?_) (fun h9 => absurd h9 (by decide))
  refine lv_aload_n hx hb dX5_lay_80 rfl (lv_at hl 2 rfl) ?_
  refine lv_iload hx hb dX5_lay_81 (lv_at hl 0 rfl) ?_
  refine mu_calli (va_runV (As := [.int 1]) (rest := []) ⟨hx, hb, hml, hown, hts⟩ (c_X5_answerOf hh 1 (by omega) (by omega)) (cwV 1 hts gX5_lay_X5_answerOf rfl rfl rfl (by decide +kernel) ⟨Nat.le_of_ble_eq_true rfl, Nat.le_of_ble_eq_true rfl⟩) (wd_preV (ci := 5) (q0 := 0) hP hK rfl rfl) rfl rfl hl.1 rfl (lv_room (Nat.le_of_ble_eq_true rfl)) dX5_lay_83 ⟨Nat.zero_le _, Nat.zero_le _⟩) hS (fun H locs hP hS => ?_)
  have hP : va_P D kC (sl_W cI cJ h (nI n) F Wt Sz Nu Mb (nI k) G Wk To Sl Ri (nI f) (nI b) oT oS oF (nI an) (nI as) (upd Fo 1 (Fo 1 + 1)) wo pa fa) H := hP
  refine tp_i (y := (-21)) (by decide) ?_
  exact W.iret (v := (-21)) hx hb hr (fun t9 ht _ => ⟨congrArg (fun z => Outcome.returned (some (Value.int z))) (rfl), by rw [ht]; exact hP, hS.F ht⟩) hS.2.2 dX5_lay_86
set_option maxHeartbeats 4000000 in
set_option maxRecDepth 100000 in
theorem c_X5_lay_pC (hh : ad_ok h 20) (hn : n ≤ 100) (p9 : Nat) (hp9 : p9 < n) (r : Nat) (hr9 : r < n) (kd : Int32) (hq : q_in kd 7 15 = true) (i : Int32) (h1 : ko (F r) kd = true) (h4 : ko (F p9) (mkS kd) = false) : Met l yX5_lay wsX5_lay ({ frames := 9, cells := 0, slots := 0, locals := 400 }) (wd_P D cI cJ [.ref (h 0), .int (nI r), .int kd, .int i, .int (nI p9)] (sl_W cI cJ h (nI n) F Wt Sz Nu Mb (nI k) G Wk To Sl Ri (nI f) (nI b) oT oS oF (nI an) (nI as) Fo wo pa fa)) (mu_Q D (ad_A h 20) (some (.int (-21))) (sl_W cI cJ h (nI n) F Wt Sz Nu Mb (nI k) G Wk To Sl Ri (nI f) (nI b) oT oS oF (nI an) (nI as) (upd Fo 1 (Fo 1 + 1)) wo pa fa)) 0 0 (ad_A h 20) := by
  refine Met.ofW (cc := cX5_lay) (maxL := 7) (ret := (some .int)) (by decide) rfl ?_
  intro p e s m args below meth c s₁ B hml hv
  obtain ⟨rfl, hP, hK⟩ := hv
  have hx := B.exec
  have hb := B.bytes
  have hr := B.returns
  have hts := atoms_spec (ws := wsX5_lay) B.pre
  have hown : s.vm.findClass RX5 = some m.cls := findClass_of_methodNamed B.named
  have hlocks := B.notSynchronized
  have hiX5 : ∀ w ∈ u_ws RX5 TX5 5, w ∈ wsX5_lay := by decide +kernel
  have kf10 := hts (.fieldLink RX5 10 "SortingLine" "things" "LSortingLine$Things;") (by decide +kernel)
  have hS : va_S (ad_A h 20) s.heap s.heap [] := va_S.rf
  have hl := lv_entry ([.ref (h 0), .int (nI r), .int kd, .int i, .int (nI p9)]) (n := 7) (Nat.le_of_ble_eq_true rfl)
  rw [lg_entry_eq]
  generalize (lg_sl ([.ref (h 0), .int (nI r), .int kd, .int i, .int (nI p9)]) ++ List.replicate (7 - (lg_sl ([.ref (h 0), .int (nI r), .int kd, .int i, .int (nI p9)])).length) Slot.unset).toArray = ls at hl ⊢
  have hl : lv_has ls 7 [(0, .ref (h 0)), (1, .int (nI r)), (2, .int kd), (3, .int i), (4, .int (nI p9))] := hl
  refine lv_iload hx hb dX5_lay_0 (lv_at hl 4 rfl) ?_
  refine lv_bipush (v := (-5)) hx hb dX5_lay_2 (by decide) ?_
  refine lv_icmp_eq (tgt := 21) hx hb dX5_lay_4 (by decide) (fun h9 => absurd h9 (fun h9 => absurd (h9 ▸ nI_pos (n := p9) (by omega)) (by decide))) (fun _ => ?_)
  refine lv_aload_n hx hb dX5_lay_7 rfl (lv_at hl 0 rfl) ?_
  refine va_get (D := D) (ci := 5) (v := .ref (h 1)) (C := RX5) (T := TX5) (N := 5) hx hb hts hiX5 hown hK.1 hP 0 rfl rfl 0 (by decide) kf10 (fun _ h9 => h9) rfl dX5_lay_8 ?_
  refine lv_iload hx hb dX5_lay_11 (lv_at hl 4 rfl) ?_
  refine pu_callb (va_runV (As := [.int (nI p9)]) (rest := []) ⟨hx, hb, hml, hown, hts⟩ (c_X4_hold hh (nI p9)) (cwV 1 hts gX5_lay_X4_hold rfl rfl rfl (by decide +kernel) ⟨Nat.le_of_ble_eq_true rfl, Nat.le_of_ble_eq_true rfl⟩) (wd_preV (ci := 4) (q0 := 1) hP hK rfl rfl) rfl rfl hl.1 rfl (lv_room (Nat.le_of_ble_eq_true rfl)) dX5_lay_13 ⟨Nat.zero_le _, Nat.zero_le _⟩) (fun _ => ?_) (fun h9 => absurd (p_in_nI hp9 (by omega)) (by rw [h9]; decide))
  refine lv_if_ne (tgt := 21) hx hb dX5_lay_16 (by decide) (fun _ => ?_) (fun h9 => absurd h9 (by decide))
  refine lv_aload_n hx hb dX5_lay_21 rfl (lv_at hl 0 rfl) ?_
  refine lv_iload_n hx hb dX5_lay_22 rfl (lv_at hl 1 rfl) ?_
  refine lv_iload_n hx hb dX5_lay_23 rfl (lv_at hl 2 rfl) ?_
  refine lv_bipush (v := 7) hx hb dX5_lay_24 (by decide) ?_
  refine lv_bipush (v := 15) hx hb dX5_lay_26 (by decide) ?_
  refine pu_calli (va_runV (As := [.int (nI r), .int kd, .int 7, .int 15]) (rest := []) ⟨hx, hb, hml, hown, hts⟩ (c_X5_refusalOf_a hh (nI r) kd 7 15 (p_in_nI hr9 (by omega)) (by assumption)) (cwV 4 hts gX5_lay_X5_refusalOf rfl rfl rfl (by decide +kernel) ⟨Nat.le_of_ble_eq_true rfl, Nat.le_of_ble_eq_true rfl⟩) (wd_preV (ci := 5) (q0 := 0) hP hK rfl rfl) rfl rfl hl.1 rfl (lv_room (Nat.le_of_ble_eq_true rfl)) dX5_lay_28 ⟨Nat.zero_le _, Nat.zero_le _⟩) ?_
  refine lv_istore (lv' := [(5, .int 0), (0, .ref (h 0)), (1, .int (nI r)), (2, .int kd), (3, .int i), (4, .int (nI p9))]) hx hb dX5_lay_31 hl (by decide) rfl (fun ls hl => ?_)
  refine lv_iload hx hb dX5_lay_33 (lv_at hl 0 rfl) ?_
  refine lv_if_eq (tgt := 41) hx hb dX5_lay_35 (by decide) (fun _ => ?_) (fun h9 => absurd (by decide) h9)
  refine lv_aload_n hx hb dX5_lay_41 rfl (lv_at hl 1 rfl) ?_
  refine va_get (D := D) (ci := 5) (v := .ref (h 1)) (C := RX5) (T := TX5) (N := 5) hx hb hts hiX5 hown hK.1 hP 0 rfl rfl 0 (by decide) kf10 (fun _ h9 => h9) rfl dX5_lay_42 ?_
  refine lv_iload_n hx hb dX5_lay_45 rfl (lv_at hl 2 rfl) ?_
  refine lv_iload_n hx hb dX5_lay_46 rfl (lv_at hl 3 rfl) ?_
  refine pu_callb (va_runV (As := [.int (nI r), .int kd]) (rest := []) ⟨hx, hb, hml, hown, hts⟩ (c_X4_isOf hh hn r (by omega) kd) (cwV 2 hts gX5_lay_X4_isOf rfl rfl rfl (by decide +kernel) ⟨Nat.le_of_ble_eq_true rfl, Nat.le_of_ble_eq_true rfl⟩) (wd_preV (ci := 4) (q0 := 1) hP hK rfl rfl) rfl rfl hl.1 rfl (lv_room (Nat.le_of_ble_eq_true rfl)) dX5_lay_47 ⟨Nat.zero_le _, Nat.zero_le _⟩) (fun _ => ?_) (fun h9 => absurd (h1) (by rw [h9]; decide))
  refine lv_if_eq (tgt := 68) hx hb dX5_lay_50 (by decide) (fun h9 => absurd h9 (by decide)) (fun _ => ?_)
  refine lv_aload_n hx hb dX5_lay_53 rfl (lv_at hl 1 rfl) ?_
  refine lv_iload_n hx hb dX5_lay_54 rfl (lv_at hl 2 rfl) ?_
  refine lv_iload_n hx hb dX5_lay_55 rfl (lv_at hl 4 rfl) ?_
  refine lv_iload hx hb dX5_lay_56 (lv_at hl 5 rfl) ?_
  refine lv_iload_n hx hb dX5_lay_58 rfl (lv_at hl 3 rfl) ?_
  refine pu_calli (va_runS (As := [.int kd]) (rest := [.int (nI p9), .int i, .int (nI r), .ref (h 0)]) ⟨hx, hb, hml, hown, hts⟩ (c_X5_memberKind kd) (cwS 1 hts gX5_lay_X5_memberKind rfl rfl rfl (by decide +kernel) ⟨Nat.le_of_ble_eq_true rfl, Nat.le_of_ble_eq_true rfl⟩) (wd_preS hP hK) rfl rfl hl.1 rfl (lv_room (Nat.le_of_ble_eq_true rfl)) dX5_lay_59 ⟨Nat.zero_le _, Nat.zero_le _⟩) ?_
  refine pu_calli (va_runV (As := [.int (nI r), .int i, .int (nI p9), .int (mkS kd)]) (rest := []) ⟨hx, hb, hml, hown, hts⟩ (c_X5_layInto_pC hh hn r (by omega) p9 hp9 (mkS kd) i h4) (cwV 4 hts gX5_lay_X5_layInto rfl rfl rfl (by decide +kernel) ⟨Nat.le_of_ble_eq_true rfl, Nat.le_of_ble_eq_true rfl⟩) (wd_preV (ci := 5) (q0 := 0) hP hK rfl rfl) rfl rfl hl.1 rfl (lv_room (Nat.le_of_ble_eq_true rfl)) dX5_lay_62 ⟨Nat.zero_le _, Nat.zero_le _⟩) ?_
  refine lv_goto (tgt := 69) hx hb dX5_lay_65 (by decide) ?_
  refine lv_istore (lv' := [(6, .int 1), (5, .int 0), (0, .ref (h 0)), (1, .int (nI r)), (2, .int kd), (3, .int i), (4, .int (nI p9))]) hx hb dX5_lay_69 hl (by decide) rfl (fun ls hl => ?_)
  refine lv_iload hx hb dX5_lay_71 (lv_at hl 0 rfl) ?_
  refine lv_if_ne (tgt := 80) hx hb dX5_lay_73 (by decide) (fun _ => ?_) (fun h9 => absurd h9 (by decide))
  refine lv_aload_n hx hb dX5_lay_80 rfl (lv_at hl 2 rfl) ?_
  refine lv_iload hx hb dX5_lay_81 (lv_at hl 0 rfl) ?_
  refine mu_calli (va_runV (As := [.int 1]) (rest := []) ⟨hx, hb, hml, hown, hts⟩ (c_X5_answerOf hh 1 (by omega) (by omega)) (cwV 1 hts gX5_lay_X5_answerOf rfl rfl rfl (by decide +kernel) ⟨Nat.le_of_ble_eq_true rfl, Nat.le_of_ble_eq_true rfl⟩) (wd_preV (ci := 5) (q0 := 0) hP hK rfl rfl) rfl rfl hl.1 rfl (lv_room (Nat.le_of_ble_eq_true rfl)) dX5_lay_83 ⟨Nat.zero_le _, Nat.zero_le _⟩) hS (fun H locs hP hS => ?_)
  have hP : va_P D kC (sl_W cI cJ h (nI n) F Wt Sz Nu Mb (nI k) G Wk To Sl Ri (nI f) (nI b) oT oS oF (nI an) (nI as) (upd Fo 1 (Fo 1 + 1)) wo pa fa) H := hP
  refine tp_i (y := (-21)) (by decide) ?_
  exact W.iret (v := (-21)) hx hb hr (fun t9 ht _ => ⟨congrArg (fun z => Outcome.returned (some (Value.int z))) (rfl), by rw [ht]; exact hP, hS.F ht⟩) hS.2.2 dX5_lay_86
set_option maxHeartbeats 4000000 in
set_option maxRecDepth 100000 in
theorem c_X5_lay_pB (hh : ad_ok h 20) (hn : n ≤ 100) (p9 : Nat) (hp9 : p9 < n) (r : Nat) (hr9 : r < n) (kd : Int32) (hq : q_in kd 7 15 = true) (i : Int32) (h1 : ko (F r) kd = true) (h4 : ko (F p9) (mkS kd) = true) (h2 : p_in i (Sz r) = false) : Met l yX5_lay wsX5_lay ({ frames := 9, cells := 0, slots := 0, locals := 400 }) (wd_P D cI cJ [.ref (h 0), .int (nI r), .int kd, .int i, .int (nI p9)] (sl_W cI cJ h (nI n) F Wt Sz Nu Mb (nI k) G Wk To Sl Ri (nI f) (nI b) oT oS oF (nI an) (nI as) Fo wo pa fa)) (mu_Q D (ad_A h 20) (some (.int (-23))) (sl_W cI cJ h (nI n) F Wt Sz Nu Mb (nI k) G Wk To Sl Ri (nI f) (nI b) oT oS oF (nI an) (nI as) (upd Fo 3 (Fo 3 + 1)) wo pa fa)) 0 0 (ad_A h 20) := by
  refine Met.ofW (cc := cX5_lay) (maxL := 7) (ret := (some .int)) (by decide) rfl ?_
  intro p e s m args below meth c s₁ B hml hv
  obtain ⟨rfl, hP, hK⟩ := hv
  have hx := B.exec
  have hb := B.bytes
  have hr := B.returns
  have hts := atoms_spec (ws := wsX5_lay) B.pre
  have hown : s.vm.findClass RX5 = some m.cls := findClass_of_methodNamed B.named
  have hlocks := B.notSynchronized
  have hiX5 : ∀ w ∈ u_ws RX5 TX5 5, w ∈ wsX5_lay := by decide +kernel
  have kf10 := hts (.fieldLink RX5 10 "SortingLine" "things" "LSortingLine$Things;") (by decide +kernel)
  have hS : va_S (ad_A h 20) s.heap s.heap [] := va_S.rf
  have hl := lv_entry ([.ref (h 0), .int (nI r), .int kd, .int i, .int (nI p9)]) (n := 7) (Nat.le_of_ble_eq_true rfl)
  rw [lg_entry_eq]
  generalize (lg_sl ([.ref (h 0), .int (nI r), .int kd, .int i, .int (nI p9)]) ++ List.replicate (7 - (lg_sl ([.ref (h 0), .int (nI r), .int kd, .int i, .int (nI p9)])).length) Slot.unset).toArray = ls at hl ⊢
  have hl : lv_has ls 7 [(0, .ref (h 0)), (1, .int (nI r)), (2, .int kd), (3, .int i), (4, .int (nI p9))] := hl
  refine lv_iload hx hb dX5_lay_0 (lv_at hl 4 rfl) ?_
  refine lv_bipush (v := (-5)) hx hb dX5_lay_2 (by decide) ?_
  refine lv_icmp_eq (tgt := 21) hx hb dX5_lay_4 (by decide) (fun h9 => absurd h9 (fun h9 => absurd (h9 ▸ nI_pos (n := p9) (by omega)) (by decide))) (fun _ => ?_)
  refine lv_aload_n hx hb dX5_lay_7 rfl (lv_at hl 0 rfl) ?_
  refine va_get (D := D) (ci := 5) (v := .ref (h 1)) (C := RX5) (T := TX5) (N := 5) hx hb hts hiX5 hown hK.1 hP 0 rfl rfl 0 (by decide) kf10 (fun _ h9 => h9) rfl dX5_lay_8 ?_
  refine lv_iload hx hb dX5_lay_11 (lv_at hl 4 rfl) ?_
  refine pu_callb (va_runV (As := [.int (nI p9)]) (rest := []) ⟨hx, hb, hml, hown, hts⟩ (c_X4_hold hh (nI p9)) (cwV 1 hts gX5_lay_X4_hold rfl rfl rfl (by decide +kernel) ⟨Nat.le_of_ble_eq_true rfl, Nat.le_of_ble_eq_true rfl⟩) (wd_preV (ci := 4) (q0 := 1) hP hK rfl rfl) rfl rfl hl.1 rfl (lv_room (Nat.le_of_ble_eq_true rfl)) dX5_lay_13 ⟨Nat.zero_le _, Nat.zero_le _⟩) (fun _ => ?_) (fun h9 => absurd (p_in_nI hp9 (by omega)) (by rw [h9]; decide))
  refine lv_if_ne (tgt := 21) hx hb dX5_lay_16 (by decide) (fun _ => ?_) (fun h9 => absurd h9 (by decide))
  refine lv_aload_n hx hb dX5_lay_21 rfl (lv_at hl 0 rfl) ?_
  refine lv_iload_n hx hb dX5_lay_22 rfl (lv_at hl 1 rfl) ?_
  refine lv_iload_n hx hb dX5_lay_23 rfl (lv_at hl 2 rfl) ?_
  refine lv_bipush (v := 7) hx hb dX5_lay_24 (by decide) ?_
  refine lv_bipush (v := 15) hx hb dX5_lay_26 (by decide) ?_
  refine pu_calli (va_runV (As := [.int (nI r), .int kd, .int 7, .int 15]) (rest := []) ⟨hx, hb, hml, hown, hts⟩ (c_X5_refusalOf_a hh (nI r) kd 7 15 (p_in_nI hr9 (by omega)) (by assumption)) (cwV 4 hts gX5_lay_X5_refusalOf rfl rfl rfl (by decide +kernel) ⟨Nat.le_of_ble_eq_true rfl, Nat.le_of_ble_eq_true rfl⟩) (wd_preV (ci := 5) (q0 := 0) hP hK rfl rfl) rfl rfl hl.1 rfl (lv_room (Nat.le_of_ble_eq_true rfl)) dX5_lay_28 ⟨Nat.zero_le _, Nat.zero_le _⟩) ?_
  refine lv_istore (lv' := [(5, .int 0), (0, .ref (h 0)), (1, .int (nI r)), (2, .int kd), (3, .int i), (4, .int (nI p9))]) hx hb dX5_lay_31 hl (by decide) rfl (fun ls hl => ?_)
  refine lv_iload hx hb dX5_lay_33 (lv_at hl 0 rfl) ?_
  refine lv_if_eq (tgt := 41) hx hb dX5_lay_35 (by decide) (fun _ => ?_) (fun h9 => absurd (by decide) h9)
  refine lv_aload_n hx hb dX5_lay_41 rfl (lv_at hl 1 rfl) ?_
  refine va_get (D := D) (ci := 5) (v := .ref (h 1)) (C := RX5) (T := TX5) (N := 5) hx hb hts hiX5 hown hK.1 hP 0 rfl rfl 0 (by decide) kf10 (fun _ h9 => h9) rfl dX5_lay_42 ?_
  refine lv_iload_n hx hb dX5_lay_45 rfl (lv_at hl 2 rfl) ?_
  refine lv_iload_n hx hb dX5_lay_46 rfl (lv_at hl 3 rfl) ?_
  refine pu_callb (va_runV (As := [.int (nI r), .int kd]) (rest := []) ⟨hx, hb, hml, hown, hts⟩ (c_X4_isOf hh hn r (by omega) kd) (cwV 2 hts gX5_lay_X4_isOf rfl rfl rfl (by decide +kernel) ⟨Nat.le_of_ble_eq_true rfl, Nat.le_of_ble_eq_true rfl⟩) (wd_preV (ci := 4) (q0 := 1) hP hK rfl rfl) rfl rfl hl.1 rfl (lv_room (Nat.le_of_ble_eq_true rfl)) dX5_lay_47 ⟨Nat.zero_le _, Nat.zero_le _⟩) (fun _ => ?_) (fun h9 => absurd (h1) (by rw [h9]; decide))
  refine lv_if_eq (tgt := 68) hx hb dX5_lay_50 (by decide) (fun h9 => absurd h9 (by decide)) (fun _ => ?_)
  refine lv_aload_n hx hb dX5_lay_53 rfl (lv_at hl 1 rfl) ?_
  refine lv_iload_n hx hb dX5_lay_54 rfl (lv_at hl 2 rfl) ?_
  refine lv_iload_n hx hb dX5_lay_55 rfl (lv_at hl 4 rfl) ?_
  refine lv_iload hx hb dX5_lay_56 (lv_at hl 5 rfl) ?_
  refine lv_iload_n hx hb dX5_lay_58 rfl (lv_at hl 3 rfl) ?_
  refine pu_calli (va_runS (As := [.int kd]) (rest := [.int (nI p9), .int i, .int (nI r), .ref (h 0)]) ⟨hx, hb, hml, hown, hts⟩ (c_X5_memberKind kd) (cwS 1 hts gX5_lay_X5_memberKind rfl rfl rfl (by decide +kernel) ⟨Nat.le_of_ble_eq_true rfl, Nat.le_of_ble_eq_true rfl⟩) (wd_preS hP hK) rfl rfl hl.1 rfl (lv_room (Nat.le_of_ble_eq_true rfl)) dX5_lay_59 ⟨Nat.zero_le _, Nat.zero_le _⟩) ?_
  refine pu_calli (va_runV (As := [.int (nI r), .int i, .int (nI p9), .int (mkS kd)]) (rest := []) ⟨hx, hb, hml, hown, hts⟩ (c_X5_layInto_pB hh hn r (by omega) p9 hp9 (mkS kd) i h4 h2) (cwV 4 hts gX5_lay_X5_layInto rfl rfl rfl (by decide +kernel) ⟨Nat.le_of_ble_eq_true rfl, Nat.le_of_ble_eq_true rfl⟩) (wd_preV (ci := 5) (q0 := 0) hP hK rfl rfl) rfl rfl hl.1 rfl (lv_room (Nat.le_of_ble_eq_true rfl)) dX5_lay_62 ⟨Nat.zero_le _, Nat.zero_le _⟩) ?_
  refine lv_goto (tgt := 69) hx hb dX5_lay_65 (by decide) ?_
  refine lv_istore (lv' := [(6, .int 3), (5, .int 0), (0, .ref (h 0)), (1, .int (nI r)), (2, .int kd), (3, .int i), (4, .int (nI p9))]) hx hb dX5_lay_69 hl (by decide) rfl (fun ls hl => ?_)
  refine lv_iload hx hb dX5_lay_71 (lv_at hl 0 rfl) ?_
  refine lv_if_ne (tgt := 80) hx hb dX5_lay_73 (by decide) (fun _ => ?_) (fun h9 => absurd h9 (by decide))
  refine lv_aload_n hx hb dX5_lay_80 rfl (lv_at hl 2 rfl) ?_
  refine lv_iload hx hb dX5_lay_81 (lv_at hl 0 rfl) ?_
  refine mu_calli (va_runV (As := [.int 3]) (rest := []) ⟨hx, hb, hml, hown, hts⟩ (c_X5_answerOf hh 3 (by omega) (by omega)) (cwV 1 hts gX5_lay_X5_answerOf rfl rfl rfl (by decide +kernel) ⟨Nat.le_of_ble_eq_true rfl, Nat.le_of_ble_eq_true rfl⟩) (wd_preV (ci := 5) (q0 := 0) hP hK rfl rfl) rfl rfl hl.1 rfl (lv_room (Nat.le_of_ble_eq_true rfl)) dX5_lay_83 ⟨Nat.zero_le _, Nat.zero_le _⟩) hS (fun H locs hP hS => ?_)
  have hP : va_P D kC (sl_W cI cJ h (nI n) F Wt Sz Nu Mb (nI k) G Wk To Sl Ri (nI f) (nI b) oT oS oF (nI an) (nI as) (upd Fo 3 (Fo 3 + 1)) wo pa fa) H := hP
  refine tp_i (y := (-23)) (by decide) ?_
  exact W.iret (v := (-23)) hx hb hr (fun t9 ht _ => ⟨congrArg (fun z => Outcome.returned (some (Value.int z))) (rfl), by rw [ht]; exact hP, hS.F ht⟩) hS.2.2 dX5_lay_86
set_option maxHeartbeats 4000000 in
set_option maxRecDepth 100000 in
theorem c_X5_lay_pS (hh : ad_ok h 20) (hn : n ≤ 100) (p9 : Nat) (hp9 : p9 < n) (r : Nat) (hr9 : r < n) (kd : Int32) (hq : q_in kd 7 15 = true) (i : Int32) (h1 : ko (F r) kd = true) (h4 : ko (F p9) (mkS kd) = true) (h2 : p_in i (Sz r) = true) (h3 : ko (F p9) (mkS (F r)) = false) : Met l yX5_lay wsX5_lay ({ frames := 9, cells := 0, slots := 0, locals := 400 }) (wd_P D cI cJ [.ref (h 0), .int (nI r), .int kd, .int i, .int (nI p9)] (sl_W cI cJ h (nI n) F Wt Sz Nu Mb (nI k) G Wk To Sl Ri (nI f) (nI b) oT oS oF (nI an) (nI as) Fo wo pa fa)) (mu_Q D (ad_A h 20) (some (.int (-24))) (sl_W cI cJ h (nI n) F Wt Sz Nu Mb (nI k) G Wk To Sl Ri (nI f) (nI b) oT oS oF (nI an) (nI as) (upd Fo 4 (Fo 4 + 1)) wo pa fa)) 0 0 (ad_A h 20) := by
  refine Met.ofW (cc := cX5_lay) (maxL := 7) (ret := (some .int)) (by decide) rfl ?_
  intro p e s m args below meth c s₁ B hml hv
  obtain ⟨rfl, hP, hK⟩ := hv
  have hx := B.exec
  have hb := B.bytes
  have hr := B.returns
  have hts := atoms_spec (ws := wsX5_lay) B.pre
  have hown : s.vm.findClass RX5 = some m.cls := findClass_of_methodNamed B.named
  have hlocks := B.notSynchronized
  have hiX5 : ∀ w ∈ u_ws RX5 TX5 5, w ∈ wsX5_lay := by decide +kernel
  have kf10 := hts (.fieldLink RX5 10 "SortingLine" "things" "LSortingLine$Things;") (by decide +kernel)
  have hS : va_S (ad_A h 20) s.heap s.heap [] := va_S.rf
  have hl := lv_entry ([.ref (h 0), .int (nI r), .int kd, .int i, .int (nI p9)]) (n := 7) (Nat.le_of_ble_eq_true rfl)
  rw [lg_entry_eq]
  generalize (lg_sl ([.ref (h 0), .int (nI r), .int kd, .int i, .int (nI p9)]) ++ List.replicate (7 - (lg_sl ([.ref (h 0), .int (nI r), .int kd, .int i, .int (nI p9)])).length) Slot.unset).toArray = ls at hl ⊢
  have hl : lv_has ls 7 [(0, .ref (h 0)), (1, .int (nI r)), (2, .int kd), (3, .int i), (4, .int (nI p9))] := hl
  refine lv_iload hx hb dX5_lay_0 (lv_at hl 4 rfl) ?_
  refine lv_bipush (v := (-5)) hx hb dX5_lay_2 (by decide) ?_
  refine lv_icmp_eq (tgt := 21) hx hb dX5_lay_4 (by decide) (fun h9 => absurd h9 (fun h9 => absurd (h9 ▸ nI_pos (n := p9) (by omega)) (by decide))) (fun _ => ?_)
  refine lv_aload_n hx hb dX5_lay_7 rfl (lv_at hl 0 rfl) ?_
  refine va_get (D := D) (ci := 5) (v := .ref (h 1)) (C := RX5) (T := TX5) (N := 5) hx hb hts hiX5 hown hK.1 hP 0 rfl rfl 0 (by decide) kf10 (fun _ h9 => h9) rfl dX5_lay_8 ?_
  refine lv_iload hx hb dX5_lay_11 (lv_at hl 4 rfl) ?_
  refine pu_callb (va_runV (As := [.int (nI p9)]) (rest := []) ⟨hx, hb, hml, hown, hts⟩ (c_X4_hold hh (nI p9)) (cwV 1 hts gX5_lay_X4_hold rfl rfl rfl (by decide +kernel) ⟨Nat.le_of_ble_eq_true rfl, Nat.le_of_ble_eq_true rfl⟩) (wd_preV (ci := 4) (q0 := 1) hP hK rfl rfl) rfl rfl hl.1 rfl (lv_room (Nat.le_of_ble_eq_true rfl)) dX5_lay_13 ⟨Nat.zero_le _, Nat.zero_le _⟩) (fun _ => ?_) (fun h9 => absurd (p_in_nI hp9 (by omega)) (by rw [h9]; decide))
  refine lv_if_ne (tgt := 21) hx hb dX5_lay_16 (by decide) (fun _ => ?_) (fun h9 => absurd h9 (by decide))
  refine lv_aload_n hx hb dX5_lay_21 rfl (lv_at hl 0 rfl) ?_
  refine lv_iload_n hx hb dX5_lay_22 rfl (lv_at hl 1 rfl) ?_
  refine lv_iload_n hx hb dX5_lay_23 rfl (lv_at hl 2 rfl) ?_
  refine lv_bipush (v := 7) hx hb dX5_lay_24 (by decide) ?_
  refine lv_bipush (v := 15) hx hb dX5_lay_26 (by decide) ?_
  refine pu_calli (va_runV (As := [.int (nI r), .int kd, .int 7, .int 15]) (rest := []) ⟨hx, hb, hml, hown, hts⟩ (c_X5_refusalOf_a hh (nI r) kd 7 15 (p_in_nI hr9 (by omega)) (by assumption)) (cwV 4 hts gX5_lay_X5_refusalOf rfl rfl rfl (by decide +kernel) ⟨Nat.le_of_ble_eq_true rfl, Nat.le_of_ble_eq_true rfl⟩) (wd_preV (ci := 5) (q0 := 0) hP hK rfl rfl) rfl rfl hl.1 rfl (lv_room (Nat.le_of_ble_eq_true rfl)) dX5_lay_28 ⟨Nat.zero_le _, Nat.zero_le _⟩) ?_
  refine lv_istore (lv' := [(5, .int 0), (0, .ref (h 0)), (1, .int (nI r)), (2, .int kd), (3, .int i), (4, .int (nI p9))]) hx hb dX5_lay_31 hl (by decide) rfl (fun ls hl => ?_)
  refine lv_iload hx hb dX5_lay_33 (lv_at hl 0 rfl) ?_
  refine lv_if_eq (tgt := 41) hx hb dX5_lay_35 (by decide) (fun _ => ?_) (fun h9 => absurd (by decide) h9)
  refine lv_aload_n hx hb dX5_lay_41 rfl (lv_at hl 1 rfl) ?_
  refine va_get (D := D) (ci := 5) (v := .ref (h 1)) (C := RX5) (T := TX5) (N := 5) hx hb hts hiX5 hown hK.1 hP 0 rfl rfl 0 (by decide) kf10 (fun _ h9 => h9) rfl dX5_lay_42 ?_
  refine lv_iload_n hx hb dX5_lay_45 rfl (lv_at hl 2 rfl) ?_
  refine lv_iload_n hx hb dX5_lay_46 rfl (lv_at hl 3 rfl) ?_
  refine pu_callb (va_runV (As := [.int (nI r), .int kd]) (rest := []) ⟨hx, hb, hml, hown, hts⟩ (c_X4_isOf hh hn r (by omega) kd) (cwV 2 hts gX5_lay_X4_isOf rfl rfl rfl (by decide +kernel) ⟨Nat.le_of_ble_eq_true rfl, Nat.le_of_ble_eq_true rfl⟩) (wd_preV (ci := 4) (q0 := 1) hP hK rfl rfl) rfl rfl hl.1 rfl (lv_room (Nat.le_of_ble_eq_true rfl)) dX5_lay_47 ⟨Nat.zero_le _, Nat.zero_le _⟩) (fun _ => ?_) (fun h9 => absurd (h1) (by rw [h9]; decide))
  refine lv_if_eq (tgt := 68) hx hb dX5_lay_50 (by decide) (fun h9 => absurd h9 (by decide)) (fun _ => ?_)
  refine lv_aload_n hx hb dX5_lay_53 rfl (lv_at hl 1 rfl) ?_
  refine lv_iload_n hx hb dX5_lay_54 rfl (lv_at hl 2 rfl) ?_
  refine lv_iload_n hx hb dX5_lay_55 rfl (lv_at hl 4 rfl) ?_
  refine lv_iload hx hb dX5_lay_56 (lv_at hl 5 rfl) ?_
  refine lv_iload_n hx hb dX5_lay_58 rfl (lv_at hl 3 rfl) ?_
  refine pu_calli (va_runS (As := [.int kd]) (rest := [.int (nI p9), .int i, .int (nI r), .ref (h 0)]) ⟨hx, hb, hml, hown, hts⟩ (c_X5_memberKind kd) (cwS 1 hts gX5_lay_X5_memberKind rfl rfl rfl (by decide +kernel) ⟨Nat.le_of_ble_eq_true rfl, Nat.le_of_ble_eq_true rfl⟩) (wd_preS hP hK) rfl rfl hl.1 rfl (lv_room (Nat.le_of_ble_eq_true rfl)) dX5_lay_59 ⟨Nat.zero_le _, Nat.zero_le _⟩) ?_
  refine pu_calli (va_runV (As := [.int (nI r), .int i, .int (nI p9), .int (mkS kd)]) (rest := []) ⟨hx, hb, hml, hown, hts⟩ (c_X5_layInto_pS hh hn r (by omega) p9 hp9 (mkS kd) i h4 h2 h3) (cwV 4 hts gX5_lay_X5_layInto rfl rfl rfl (by decide +kernel) ⟨Nat.le_of_ble_eq_true rfl, Nat.le_of_ble_eq_true rfl⟩) (wd_preV (ci := 5) (q0 := 0) hP hK rfl rfl) rfl rfl hl.1 rfl (lv_room (Nat.le_of_ble_eq_true rfl)) dX5_lay_62 ⟨Nat.zero_le _, Nat.zero_le _⟩) ?_
  refine lv_goto (tgt := 69) hx hb dX5_lay_65 (by decide) ?_
  refine lv_istore (lv' := [(6, .int 4), (5, .int 0), (0, .ref (h 0)), (1, .int (nI r)), (2, .int kd), (3, .int i), (4, .int (nI p9))]) hx hb dX5_lay_69 hl (by decide) rfl (fun ls hl => ?_)
  refine lv_iload hx hb dX5_lay_71 (lv_at hl 0 rfl) ?_
  refine lv_if_ne (tgt := 80) hx hb dX5_lay_73 (by decide) (fun _ => ?_) (fun h9 => absurd h9 (by decide))
  refine lv_aload_n hx hb dX5_lay_80 rfl (lv_at hl 2 rfl) ?_
  refine lv_iload hx hb dX5_lay_81 (lv_at hl 0 rfl) ?_
  refine mu_calli (va_runV (As := [.int 4]) (rest := []) ⟨hx, hb, hml, hown, hts⟩ (c_X5_answerOf hh 4 (by omega) (by omega)) (cwV 1 hts gX5_lay_X5_answerOf rfl rfl rfl (by decide +kernel) ⟨Nat.le_of_ble_eq_true rfl, Nat.le_of_ble_eq_true rfl⟩) (wd_preV (ci := 5) (q0 := 0) hP hK rfl rfl) rfl rfl hl.1 rfl (lv_room (Nat.le_of_ble_eq_true rfl)) dX5_lay_83 ⟨Nat.zero_le _, Nat.zero_le _⟩) hS (fun H locs hP hS => ?_)
  have hP : va_P D kC (sl_W cI cJ h (nI n) F Wt Sz Nu Mb (nI k) G Wk To Sl Ri (nI f) (nI b) oT oS oF (nI an) (nI as) (upd Fo 4 (Fo 4 + 1)) wo pa fa) H := hP
  refine tp_i (y := (-24)) (by decide) ?_
  exact W.iret (v := (-24)) hx hb hr (fun t9 ht _ => ⟨congrArg (fun z => Outcome.returned (some (Value.int z))) (rfl), by rw [ht]; exact hP, hS.F ht⟩) hS.2.2 dX5_lay_86
set_option maxHeartbeats 4000000 in
set_option maxRecDepth 100000 in
theorem c_X5_lay_pO (hh : ad_ok h 20) (hn : n ≤ 100) (p9 : Nat) (hp9 : p9 < n) (r : Nat) (hr9 : r < n) (kd : Int32) (hq : q_in kd 7 15 = true) (j : Nat) (hj : j < 8) (h1 : ko (F r) kd = true) (h4 : ko (F p9) (mkS kd) = true) (h2 : p_in (nI j) (Sz r) = true) (h3 : ko (F p9) (mkS (F r)) = true) : Met l yX5_lay wsX5_lay ({ frames := 9, cells := 0, slots := 0, locals := 400 }) (wd_P D cI cJ [.ref (h 0), .int (nI r), .int kd, .int (nI j), .int (nI p9)] (sl_W cI cJ h (nI n) F Wt Sz Nu Mb (nI k) G Wk To Sl Ri (nI f) (nI b) oT oS oF (nI an) (nI as) Fo wo pa fa)) (mu_Q D (ad_A h 20) (some (.int 1)) (sl_W cI cJ h (nI n) F Wt Sz Nu (upd Mb (8 * r + j) (nI p9)) (nI k) G Wk To Sl Ri (nI f) (nI b) oT oS oF (nI an) (nI as) Fo wo pa fa)) 0 0 (ad_A h 20) := by
  refine Met.ofW (cc := cX5_lay) (maxL := 7) (ret := (some .int)) (by decide) rfl ?_
  intro p e s m args below meth c s₁ B hml hv
  obtain ⟨rfl, hP, hK⟩ := hv
  have hx := B.exec
  have hb := B.bytes
  have hr := B.returns
  have hts := atoms_spec (ws := wsX5_lay) B.pre
  have hown : s.vm.findClass RX5 = some m.cls := findClass_of_methodNamed B.named
  have hlocks := B.notSynchronized
  have hiX5 : ∀ w ∈ u_ws RX5 TX5 5, w ∈ wsX5_lay := by decide +kernel
  have kf10 := hts (.fieldLink RX5 10 "SortingLine" "things" "LSortingLine$Things;") (by decide +kernel)
  have hS : va_S (ad_A h 20) s.heap s.heap [] := va_S.rf
  have hl := lv_entry ([.ref (h 0), .int (nI r), .int kd, .int (nI j), .int (nI p9)]) (n := 7) (Nat.le_of_ble_eq_true rfl)
  rw [lg_entry_eq]
  generalize (lg_sl ([.ref (h 0), .int (nI r), .int kd, .int (nI j), .int (nI p9)]) ++ List.replicate (7 - (lg_sl ([.ref (h 0), .int (nI r), .int kd, .int (nI j), .int (nI p9)])).length) Slot.unset).toArray = ls at hl ⊢
  have hl : lv_has ls 7 [(0, .ref (h 0)), (1, .int (nI r)), (2, .int kd), (3, .int (nI j)), (4, .int (nI p9))] := hl
  refine lv_iload hx hb dX5_lay_0 (lv_at hl 4 rfl) ?_
  refine lv_bipush (v := (-5)) hx hb dX5_lay_2 (by decide) ?_
  refine lv_icmp_eq (tgt := 21) hx hb dX5_lay_4 (by decide) (fun h9 => absurd h9 (fun h9 => absurd (h9 ▸ nI_pos (n := p9) (by omega)) (by decide))) (fun _ => ?_)
  refine lv_aload_n hx hb dX5_lay_7 rfl (lv_at hl 0 rfl) ?_
  refine va_get (D := D) (ci := 5) (v := .ref (h 1)) (C := RX5) (T := TX5) (N := 5) hx hb hts hiX5 hown hK.1 hP 0 rfl rfl 0 (by decide) kf10 (fun _ h9 => h9) rfl dX5_lay_8 ?_
  refine lv_iload hx hb dX5_lay_11 (lv_at hl 4 rfl) ?_
  refine pu_callb (va_runV (As := [.int (nI p9)]) (rest := []) ⟨hx, hb, hml, hown, hts⟩ (c_X4_hold hh (nI p9)) (cwV 1 hts gX5_lay_X4_hold rfl rfl rfl (by decide +kernel) ⟨Nat.le_of_ble_eq_true rfl, Nat.le_of_ble_eq_true rfl⟩) (wd_preV (ci := 4) (q0 := 1) hP hK rfl rfl) rfl rfl hl.1 rfl (lv_room (Nat.le_of_ble_eq_true rfl)) dX5_lay_13 ⟨Nat.zero_le _, Nat.zero_le _⟩) (fun _ => ?_) (fun h9 => absurd (p_in_nI hp9 (by omega)) (by rw [h9]; decide))
  refine lv_if_ne (tgt := 21) hx hb dX5_lay_16 (by decide) (fun _ => ?_) (fun h9 => absurd h9 (by decide))
  refine lv_aload_n hx hb dX5_lay_21 rfl (lv_at hl 0 rfl) ?_
  refine lv_iload_n hx hb dX5_lay_22 rfl (lv_at hl 1 rfl) ?_
  refine lv_iload_n hx hb dX5_lay_23 rfl (lv_at hl 2 rfl) ?_
  refine lv_bipush (v := 7) hx hb dX5_lay_24 (by decide) ?_
  refine lv_bipush (v := 15) hx hb dX5_lay_26 (by decide) ?_
  refine pu_calli (va_runV (As := [.int (nI r), .int kd, .int 7, .int 15]) (rest := []) ⟨hx, hb, hml, hown, hts⟩ (c_X5_refusalOf_a hh (nI r) kd 7 15 (p_in_nI hr9 (by omega)) (by assumption)) (cwV 4 hts gX5_lay_X5_refusalOf rfl rfl rfl (by decide +kernel) ⟨Nat.le_of_ble_eq_true rfl, Nat.le_of_ble_eq_true rfl⟩) (wd_preV (ci := 5) (q0 := 0) hP hK rfl rfl) rfl rfl hl.1 rfl (lv_room (Nat.le_of_ble_eq_true rfl)) dX5_lay_28 ⟨Nat.zero_le _, Nat.zero_le _⟩) ?_
  refine lv_istore (lv' := [(5, .int 0), (0, .ref (h 0)), (1, .int (nI r)), (2, .int kd), (3, .int (nI j)), (4, .int (nI p9))]) hx hb dX5_lay_31 hl (by decide) rfl (fun ls hl => ?_)
  refine lv_iload hx hb dX5_lay_33 (lv_at hl 0 rfl) ?_
  refine lv_if_eq (tgt := 41) hx hb dX5_lay_35 (by decide) (fun _ => ?_) (fun h9 => absurd (by decide) h9)
  refine lv_aload_n hx hb dX5_lay_41 rfl (lv_at hl 1 rfl) ?_
  refine va_get (D := D) (ci := 5) (v := .ref (h 1)) (C := RX5) (T := TX5) (N := 5) hx hb hts hiX5 hown hK.1 hP 0 rfl rfl 0 (by decide) kf10 (fun _ h9 => h9) rfl dX5_lay_42 ?_
  refine lv_iload_n hx hb dX5_lay_45 rfl (lv_at hl 2 rfl) ?_
  refine lv_iload_n hx hb dX5_lay_46 rfl (lv_at hl 3 rfl) ?_
  refine pu_callb (va_runV (As := [.int (nI r), .int kd]) (rest := []) ⟨hx, hb, hml, hown, hts⟩ (c_X4_isOf hh hn r (by omega) kd) (cwV 2 hts gX5_lay_X4_isOf rfl rfl rfl (by decide +kernel) ⟨Nat.le_of_ble_eq_true rfl, Nat.le_of_ble_eq_true rfl⟩) (wd_preV (ci := 4) (q0 := 1) hP hK rfl rfl) rfl rfl hl.1 rfl (lv_room (Nat.le_of_ble_eq_true rfl)) dX5_lay_47 ⟨Nat.zero_le _, Nat.zero_le _⟩) (fun _ => ?_) (fun h9 => absurd (h1) (by rw [h9]; decide))
  refine lv_if_eq (tgt := 68) hx hb dX5_lay_50 (by decide) (fun h9 => absurd h9 (by decide)) (fun _ => ?_)
  refine lv_aload_n hx hb dX5_lay_53 rfl (lv_at hl 1 rfl) ?_
  refine lv_iload_n hx hb dX5_lay_54 rfl (lv_at hl 2 rfl) ?_
  refine lv_iload_n hx hb dX5_lay_55 rfl (lv_at hl 4 rfl) ?_
  refine lv_iload hx hb dX5_lay_56 (lv_at hl 5 rfl) ?_
  refine lv_iload_n hx hb dX5_lay_58 rfl (lv_at hl 3 rfl) ?_
  refine pu_calli (va_runS (As := [.int kd]) (rest := [.int (nI p9), .int (nI j), .int (nI r), .ref (h 0)]) ⟨hx, hb, hml, hown, hts⟩ (c_X5_memberKind kd) (cwS 1 hts gX5_lay_X5_memberKind rfl rfl rfl (by decide +kernel) ⟨Nat.le_of_ble_eq_true rfl, Nat.le_of_ble_eq_true rfl⟩) (wd_preS hP hK) rfl rfl hl.1 rfl (lv_room (Nat.le_of_ble_eq_true rfl)) dX5_lay_59 ⟨Nat.zero_le _, Nat.zero_le _⟩) ?_
  refine mu_calli (va_runV (As := [.int (nI r), .int (nI j), .int (nI p9), .int (mkS kd)]) (rest := []) ⟨hx, hb, hml, hown, hts⟩ (c_X5_layInto_pO hh hn r (by omega) p9 hp9 (mkS kd) j hj h4 h2 h3) (cwV 4 hts gX5_lay_X5_layInto rfl rfl rfl (by decide +kernel) ⟨Nat.le_of_ble_eq_true rfl, Nat.le_of_ble_eq_true rfl⟩) (wd_preV (ci := 5) (q0 := 0) hP hK rfl rfl) rfl rfl hl.1 rfl (lv_room (Nat.le_of_ble_eq_true rfl)) dX5_lay_62 ⟨Nat.zero_le _, Nat.zero_le _⟩) hS (fun H locs hP hS => ?_)
  have hP : va_P D kC (sl_W cI cJ h (nI n) F Wt Sz Nu (upd Mb (8 * r + j) (nI p9)) (nI k) G Wk To Sl Ri (nI f) (nI b) oT oS oF (nI an) (nI as) Fo wo pa fa) H := hP
  refine lv_goto (tgt := 69) hx hb dX5_lay_65 (by decide) ?_
  refine lv_istore (lv' := [(6, .int 0), (5, .int 0), (0, .ref (h 0)), (1, .int (nI r)), (2, .int kd), (3, .int (nI j)), (4, .int (nI p9))]) hx hb dX5_lay_69 hl (by decide) rfl (fun ls hl => ?_)
  refine lv_iload hx hb dX5_lay_71 (lv_at hl 0 rfl) ?_
  refine lv_if_ne (tgt := 80) hx hb dX5_lay_73 (by decide) (fun h9 => absurd (by decide) h9) (fun _ => ?_)
  refine lv_iconst (v := 1) hx hb dX5_lay_76 (by decide) ?_
  refine lv_goto (tgt := 86) hx hb dX5_lay_77 (by decide) ?_
  exact W.iret (v := 1) hx hb hr (fun t9 ht _ => ⟨congrArg (fun z => Outcome.returned (some (Value.int z))) (rfl), by rw [ht]; exact hP, hS.F ht⟩) hS.2.2 dX5_lay_86
set_option maxHeartbeats 4000000 in
set_option maxRecDepth 100000 in
theorem c_X5_station_o (hh : ad_ok h 20) (ga wk : Int32) (h1 : (q_in ga 0 17 && q_in wk 0 12) = false) : Met l yX5_station wsX5_station ({ frames := 9, cells := 0, slots := 0, locals := 400 }) (wd_P D cI cJ [.ref (h 0), .int ga, .int wk] (sl_W cI cJ h (nI n) F Wt Sz Nu Mb (nI k) G Wk To Sl Ri (nI f) (nI b) oT oS oF (nI an) (nI as) Fo wo pa fa)) (pu_Q (some (.int (-2)))) 0 0 (fun _ => False) := by
  refine Met.ofW (cc := cX5_station) (maxL := 3) (ret := (some .int)) (by decide) rfl ?_
  intro p e s m args below meth c s₁ B hml hv
  obtain ⟨rfl, hP, hK⟩ := hv
  have hx := B.exec
  have hb := B.bytes
  have hr := B.returns
  have hts := atoms_spec (ws := wsX5_station) B.pre
  have hown : s.vm.findClass RX5 = some m.cls := findClass_of_methodNamed B.named
  have hlocks := B.notSynchronized
  have hl := lv_entry ([.ref (h 0), .int ga, .int wk]) (n := 3) (Nat.le_of_ble_eq_true rfl)
  rw [lg_entry_eq]
  generalize (lg_sl ([.ref (h 0), .int ga, .int wk]) ++ List.replicate (3 - (lg_sl ([.ref (h 0), .int ga, .int wk])).length) Slot.unset).toArray = ls at hl ⊢
  have hl : lv_has ls 3 [(0, .ref (h 0)), (1, .int ga), (2, .int wk)] := hl
  refine lv_iload_n hx hb dX5_station_0 rfl (lv_at hl 1 rfl) ?_
  refine lv_if_lt (tgt := 20) hx hb dX5_station_1 (by decide) (fun c1 => ?_) (fun c1 => ?_)
  · skip
    refine lv_bipush (v := (-2)) hx hb dX5_station_20 (by decide) ?_
    exact W.iret (v := (-2)) hx hb hr (fun t9 ht _ => ⟨congrArg (fun z => Outcome.returned (some (Value.int z))) (rfl), ht⟩) (fun _ h9 => nomatch h9) dX5_station_22
  · skip
    refine lv_iload_n hx hb dX5_station_4 rfl (lv_at hl 1 rfl) ?_
    refine lv_bipush (v := 17) hx hb dX5_station_5 (by decide) ?_
    refine lv_icmp_gt (tgt := 20) hx hb dX5_station_7 (by decide) (fun c7 => ?_) (fun c7 => ?_)
    · skip
      refine lv_bipush (v := (-2)) hx hb dX5_station_20 (by decide) ?_
      exact W.iret (v := (-2)) hx hb hr (fun t9 ht _ => ⟨congrArg (fun z => Outcome.returned (some (Value.int z))) (rfl), ht⟩) (fun _ h9 => nomatch h9) dX5_station_22
    · skip
      refine lv_iload_n hx hb dX5_station_10 rfl (lv_at hl 2 rfl) ?_
      refine lv_if_lt (tgt := 20) hx hb dX5_station_11 (by decide) (fun c11 => ?_) (fun c11 => ?_)
      · skip
        refine lv_bipush (v := (-2)) hx hb dX5_station_20 (by decide) ?_
        exact W.iret (v := (-2)) hx hb hr (fun t9 ht _ => ⟨congrArg (fun z => Outcome.returned (some (Value.int z))) (rfl), ht⟩) (fun _ h9 => nomatch h9) dX5_station_22
      · skip
        refine lv_iload_n hx hb dX5_station_14 rfl (lv_at hl 2 rfl) ?_
        refine lv_bipush (v := 12) hx hb dX5_station_15 (by decide) ?_
        refine lv_icmp_le (tgt := 23) hx hb dX5_station_17 (by decide) (fun c17 => ?_) (fun c17 => ?_)
        · skip
          exact (bb_f (q_ok' c1 c7) (q_ok c11 c17) h1).elim
        · skip
          refine lv_bipush (v := (-2)) hx hb dX5_station_20 (by decide) ?_
          exact W.iret (v := (-2)) hx hb hr (fun t9 ht _ => ⟨congrArg (fun z => Outcome.returned (some (Value.int z))) (rfl), ht⟩) (fun _ h9 => nomatch h9) dX5_station_22
set_option maxHeartbeats 4000000 in
set_option maxRecDepth 100000 in
theorem c_X5_station_f (hh : ad_ok h 20) (ga wk : Int32) (h1 : q_in ga 0 17 = true) (h2 : q_in wk 0 12 = true) (hk : k = 8) : Met l yX5_station wsX5_station ({ frames := 9, cells := 0, slots := 0, locals := 400 }) (wd_P D cI cJ [.ref (h 0), .int ga, .int wk] (sl_W cI cJ h (nI n) F Wt Sz Nu Mb (nI k) G Wk To Sl Ri (nI f) (nI b) oT oS oF (nI an) (nI as) Fo wo pa fa)) (pu_Q (some (.int (-4)))) 0 0 (fun _ => False) := by
  refine Met.ofW (cc := cX5_station) (maxL := 3) (ret := (some .int)) (by decide) rfl ?_
  intro p e s m args below meth c s₁ B hml hv
  obtain ⟨rfl, hP, hK⟩ := hv
  have hx := B.exec
  have hb := B.bytes
  have hr := B.returns
  have hts := atoms_spec (ws := wsX5_station) B.pre
  have hown : s.vm.findClass RX5 = some m.cls := findClass_of_methodNamed B.named
  have hlocks := B.notSynchronized
  have hiX5 : ∀ w ∈ u_ws RX5 TX5 5, w ∈ wsX5_station := by decide +kernel
  have kf19 := hts (.fieldLink RX5 19 "SortingLine" "stations" "LSortingLine$Stations;") (by decide +kernel)
  have hl := lv_entry ([.ref (h 0), .int ga, .int wk]) (n := 3) (Nat.le_of_ble_eq_true rfl)
  rw [lg_entry_eq]
  generalize (lg_sl ([.ref (h 0), .int ga, .int wk]) ++ List.replicate (3 - (lg_sl ([.ref (h 0), .int ga, .int wk])).length) Slot.unset).toArray = ls at hl ⊢
  have hl : lv_has ls 3 [(0, .ref (h 0)), (1, .int ga), (2, .int wk)] := hl
  refine lv_iload_n hx hb dX5_station_0 rfl (lv_at hl 1 rfl) ?_
  refine lv_if_lt (tgt := 20) hx hb dX5_station_1 (by decide) (fun c1 => ?_) (fun c1 => ?_)
  · skip
    exact (bt_f h1 (q_lo c1)).elim
  · skip
    refine lv_iload_n hx hb dX5_station_4 rfl (lv_at hl 1 rfl) ?_
    refine lv_bipush (v := 17) hx hb dX5_station_5 (by decide) ?_
    refine lv_icmp_gt (tgt := 20) hx hb dX5_station_7 (by decide) (fun c7 => ?_) (fun c7 => ?_)
    · skip
      exact (bt_f h1 (q_hi c7)).elim
    · skip
      refine lv_iload_n hx hb dX5_station_10 rfl (lv_at hl 2 rfl) ?_
      refine lv_if_lt (tgt := 20) hx hb dX5_station_11 (by decide) (fun c11 => ?_) (fun c11 => ?_)
      · skip
        exact (bt_f h2 (q_lo c11)).elim
      · skip
        refine lv_iload_n hx hb dX5_station_14 rfl (lv_at hl 2 rfl) ?_
        refine lv_bipush (v := 12) hx hb dX5_station_15 (by decide) ?_
        refine lv_icmp_le (tgt := 23) hx hb dX5_station_17 (by decide) (fun c17 => ?_) (fun c17 => ?_)
        · skip
          refine lv_aload_n hx hb dX5_station_23 rfl (lv_at hl 0 rfl) ?_
          refine va_get (D := D) (ci := 5) (v := .ref (h 2)) (C := RX5) (T := TX5) (N := 5) hx hb hts hiX5 hown hK.1 hP 0 rfl rfl 1 (by decide) kf19 (fun _ h9 => h9) rfl dX5_station_24 ?_
          refine lv_iload_n hx hb dX5_station_27 rfl (lv_at hl 1 rfl) ?_
          refine lv_iload_n hx hb dX5_station_28 rfl (lv_at hl 2 rfl) ?_
          refine pu_calli (va_runV (As := [.int ga, .int wk]) (rest := []) ⟨hx, hb, hml, hown, hts⟩ (c_X2_addF hh (hk) ga wk) (cwV 2 hts gX5_station_X2_add rfl rfl rfl (by decide +kernel) ⟨Nat.le_of_ble_eq_true rfl, Nat.le_of_ble_eq_true rfl⟩) (wd_preV (ci := 2) (q0 := 2) hP hK rfl rfl) rfl rfl hl.1 rfl (lv_room (Nat.le_of_ble_eq_true rfl)) dX5_station_29 ⟨Nat.zero_le _, Nat.zero_le _⟩) ?_
          exact W.iret (v := (-4)) hx hb hr (fun t9 ht _ => ⟨congrArg (fun z => Outcome.returned (some (Value.int z))) (rfl), ht⟩) (fun _ h9 => nomatch h9) dX5_station_32
        · skip
          exact (bt_f h2 (q_hi' c17)).elim
set_option maxHeartbeats 4000000 in
set_option maxRecDepth 100000 in
theorem c_X5_station_a (hh : ad_ok h 20) (ga wk : Int32) (h1 : q_in ga 0 17 = true) (h2 : q_in wk 0 12 = true) (hk : k < 8) : Met l yX5_station wsX5_station ({ frames := 9, cells := 0, slots := 0, locals := 400 }) (wd_P D cI cJ [.ref (h 0), .int ga, .int wk] (sl_W cI cJ h (nI n) F Wt Sz Nu Mb (nI k) G Wk To Sl Ri (nI f) (nI b) oT oS oF (nI an) (nI as) Fo wo pa fa)) (mu_Q D (ad_A h 20) (some (.int (nI k))) (sl_W cI cJ h (nI n) F Wt Sz Nu Mb (nI (k + 1)) (upd G k ga) (upd Wk k wk) (vp_updL To k 0) (upd Sl k (-5)) Ri (nI f) (nI b) oT oS oF (nI an) (nI as) Fo wo pa fa)) 0 0 (ad_A h 20) := by
  refine Met.ofW (cc := cX5_station) (maxL := 3) (ret := (some .int)) (by decide) rfl ?_
  intro p e s m args below meth c s₁ B hml hv
  obtain ⟨rfl, hP, hK⟩ := hv
  have hx := B.exec
  have hb := B.bytes
  have hr := B.returns
  have hts := atoms_spec (ws := wsX5_station) B.pre
  have hown : s.vm.findClass RX5 = some m.cls := findClass_of_methodNamed B.named
  have hlocks := B.notSynchronized
  have hiX5 : ∀ w ∈ u_ws RX5 TX5 5, w ∈ wsX5_station := by decide +kernel
  have kf19 := hts (.fieldLink RX5 19 "SortingLine" "stations" "LSortingLine$Stations;") (by decide +kernel)
  have hS : va_S (ad_A h 20) s.heap s.heap [] := va_S.rf
  have hl := lv_entry ([.ref (h 0), .int ga, .int wk]) (n := 3) (Nat.le_of_ble_eq_true rfl)
  rw [lg_entry_eq]
  generalize (lg_sl ([.ref (h 0), .int ga, .int wk]) ++ List.replicate (3 - (lg_sl ([.ref (h 0), .int ga, .int wk])).length) Slot.unset).toArray = ls at hl ⊢
  have hl : lv_has ls 3 [(0, .ref (h 0)), (1, .int ga), (2, .int wk)] := hl
  refine lv_iload_n hx hb dX5_station_0 rfl (lv_at hl 1 rfl) ?_
  refine lv_if_lt (tgt := 20) hx hb dX5_station_1 (by decide) (fun c1 => ?_) (fun c1 => ?_)
  · skip
    exact (bt_f h1 (q_lo c1)).elim
  · skip
    refine lv_iload_n hx hb dX5_station_4 rfl (lv_at hl 1 rfl) ?_
    refine lv_bipush (v := 17) hx hb dX5_station_5 (by decide) ?_
    refine lv_icmp_gt (tgt := 20) hx hb dX5_station_7 (by decide) (fun c7 => ?_) (fun c7 => ?_)
    · skip
      exact (bt_f h1 (q_hi c7)).elim
    · skip
      refine lv_iload_n hx hb dX5_station_10 rfl (lv_at hl 2 rfl) ?_
      refine lv_if_lt (tgt := 20) hx hb dX5_station_11 (by decide) (fun c11 => ?_) (fun c11 => ?_)
      · skip
        exact (bt_f h2 (q_lo c11)).elim
      · skip
        refine lv_iload_n hx hb dX5_station_14 rfl (lv_at hl 2 rfl) ?_
        refine lv_bipush (v := 12) hx hb dX5_station_15 (by decide) ?_
        refine lv_icmp_le (tgt := 23) hx hb dX5_station_17 (by decide) (fun c17 => ?_) (fun c17 => ?_)
        · skip
          refine lv_aload_n hx hb dX5_station_23 rfl (lv_at hl 0 rfl) ?_
          refine va_get (D := D) (ci := 5) (v := .ref (h 2)) (C := RX5) (T := TX5) (N := 5) hx hb hts hiX5 hown hK.1 hP 0 rfl rfl 1 (by decide) kf19 (fun _ h9 => h9) rfl dX5_station_24 ?_
          refine lv_iload_n hx hb dX5_station_27 rfl (lv_at hl 1 rfl) ?_
          refine lv_iload_n hx hb dX5_station_28 rfl (lv_at hl 2 rfl) ?_
          refine mu_calli (va_runV (As := [.int ga, .int wk]) (rest := []) ⟨hx, hb, hml, hown, hts⟩ (c_X2_add hh (hk) ga wk) (cwV 2 hts gX5_station_X2_add rfl rfl rfl (by decide +kernel) ⟨Nat.le_of_ble_eq_true rfl, Nat.le_of_ble_eq_true rfl⟩) (wd_preV (ci := 2) (q0 := 2) hP hK rfl rfl) rfl rfl hl.1 rfl (lv_room (Nat.le_of_ble_eq_true rfl)) dX5_station_29 ⟨Nat.zero_le _, Nat.zero_le _⟩) hS (fun H locs hP hS => ?_)
          have hP : va_P D kC (sl_W cI cJ h (nI n) F Wt Sz Nu Mb (nI (k + 1)) (upd G k ga) (upd Wk k wk) (vp_updL To k 0) (upd Sl k (-5)) Ri (nI f) (nI b) oT oS oF (nI an) (nI as) Fo wo pa fa) H := hP
          exact W.iret (v := nI k) hx hb hr (fun t9 ht _ => ⟨congrArg (fun z => Outcome.returned (some (Value.int z))) (rfl), by rw [ht]; exact hP, hS.F ht⟩) hS.2.2 dX5_station_32
        · skip
          exact (bt_f h2 (q_hi' c17)).elim
set_option maxHeartbeats 4000000 in
set_option maxRecDepth 100000 in
theorem c_X5_send_u (hh : ad_ok h 20) (t : Int32) (h1 : p_in t (nI n) = false) : Met l yX5_send wsX5_send ({ frames := 9, cells := 0, slots := 0, locals := 400 }) (wd_P D cI cJ [.ref (h 0), .int t] (sl_W cI cJ h (nI n) F Wt Sz Nu Mb (nI k) G Wk To Sl Ri (nI f) (nI b) oT oS oF (nI an) (nI as) Fo wo pa fa)) (pu_Q (some (.int (-1)))) 0 0 (fun _ => False) := by
  refine Met.ofW (cc := cX5_send) (maxL := 2) (ret := (some .int)) (by decide) rfl ?_
  intro p e s m args below meth c s₁ B hml hv
  obtain ⟨rfl, hP, hK⟩ := hv
  have hx := B.exec
  have hb := B.bytes
  have hr := B.returns
  have hts := atoms_spec (ws := wsX5_send) B.pre
  have hown : s.vm.findClass RX5 = some m.cls := findClass_of_methodNamed B.named
  have hlocks := B.notSynchronized
  have hiX5 : ∀ w ∈ u_ws RX5 TX5 5, w ∈ wsX5_send := by decide +kernel
  have kf10 := hts (.fieldLink RX5 10 "SortingLine" "things" "LSortingLine$Things;") (by decide +kernel)
  have hl := lv_entry ([.ref (h 0), .int t]) (n := 2) (Nat.le_of_ble_eq_true rfl)
  rw [lg_entry_eq]
  generalize (lg_sl ([.ref (h 0), .int t]) ++ List.replicate (2 - (lg_sl ([.ref (h 0), .int t])).length) Slot.unset).toArray = ls at hl ⊢
  have hl : lv_has ls 2 [(0, .ref (h 0)), (1, .int t)] := hl
  refine lv_aload_n hx hb dX5_send_0 rfl (lv_at hl 0 rfl) ?_
  refine va_get (D := D) (ci := 5) (v := .ref (h 1)) (C := RX5) (T := TX5) (N := 5) hx hb hts hiX5 hown hK.1 hP 0 rfl rfl 0 (by decide) kf10 (fun _ h9 => h9) rfl dX5_send_1 ?_
  refine lv_iload_n hx hb dX5_send_4 rfl (lv_at hl 1 rfl) ?_
  refine pu_callb (va_runV (As := [.int t]) (rest := []) ⟨hx, hb, hml, hown, hts⟩ (c_X4_hold hh t) (cwV 1 hts gX5_send_X4_hold rfl rfl rfl (by decide +kernel) ⟨Nat.le_of_ble_eq_true rfl, Nat.le_of_ble_eq_true rfl⟩) (wd_preV (ci := 4) (q0 := 1) hP hK rfl rfl) rfl rfl hl.1 rfl (lv_room (Nat.le_of_ble_eq_true rfl)) dX5_send_5 ⟨Nat.zero_le _, Nat.zero_le _⟩) (fun h9 => absurd (h1) (by rw [h9]; decide)) (fun _ => ?_)
  refine lv_if_ne (tgt := 13) hx hb dX5_send_8 (by decide) (fun h9 => absurd (by decide) h9) (fun _ => ?_)
  refine lv_iconst (v := (-1)) hx hb dX5_send_11 (by decide) ?_
  exact W.iret (v := (-1)) hx hb hr (fun t9 ht _ => ⟨congrArg (fun z => Outcome.returned (some (Value.int z))) (rfl), ht⟩) (fun _ h9 => nomatch h9) dX5_send_12
set_option maxHeartbeats 4000000 in
set_option maxRecDepth 100000 in
theorem c_X5_send_f (hh : ad_ok h 20) (t : Int32) (h1 : p_in t (nI n) = true) (hb9 : b = 40) : Met l yX5_send wsX5_send ({ frames := 9, cells := 0, slots := 0, locals := 400 }) (wd_P D cI cJ [.ref (h 0), .int t] (sl_W cI cJ h (nI n) F Wt Sz Nu Mb (nI k) G Wk To Sl Ri (nI f) (nI b) oT oS oF (nI an) (nI as) Fo wo pa fa)) (pu_Q (some (.int (-4)))) 0 0 (fun _ => False) := by
  refine Met.ofW (cc := cX5_send) (maxL := 2) (ret := (some .int)) (by decide) rfl ?_
  intro p e s m args below meth c s₁ B hml hv
  obtain ⟨rfl, hP, hK⟩ := hv
  have hx := B.exec
  have hb := B.bytes
  have hr := B.returns
  have hts := atoms_spec (ws := wsX5_send) B.pre
  have hown : s.vm.findClass RX5 = some m.cls := findClass_of_methodNamed B.named
  have hlocks := B.notSynchronized
  have hiX5 : ∀ w ∈ u_ws RX5 TX5 5, w ∈ wsX5_send := by decide +kernel
  have kf10 := hts (.fieldLink RX5 10 "SortingLine" "things" "LSortingLine$Things;") (by decide +kernel)
  have kf26 := hts (.fieldLink RX5 26 "SortingLine" "onBelt" "LSortingLine$Belt;") (by decide +kernel)
  have hl := lv_entry ([.ref (h 0), .int t]) (n := 2) (Nat.le_of_ble_eq_true rfl)
  rw [lg_entry_eq]
  generalize (lg_sl ([.ref (h 0), .int t]) ++ List.replicate (2 - (lg_sl ([.ref (h 0), .int t])).length) Slot.unset).toArray = ls at hl ⊢
  have hl : lv_has ls 2 [(0, .ref (h 0)), (1, .int t)] := hl
  refine lv_aload_n hx hb dX5_send_0 rfl (lv_at hl 0 rfl) ?_
  refine va_get (D := D) (ci := 5) (v := .ref (h 1)) (C := RX5) (T := TX5) (N := 5) hx hb hts hiX5 hown hK.1 hP 0 rfl rfl 0 (by decide) kf10 (fun _ h9 => h9) rfl dX5_send_1 ?_
  refine lv_iload_n hx hb dX5_send_4 rfl (lv_at hl 1 rfl) ?_
  refine pu_callb (va_runV (As := [.int t]) (rest := []) ⟨hx, hb, hml, hown, hts⟩ (c_X4_hold hh t) (cwV 1 hts gX5_send_X4_hold rfl rfl rfl (by decide +kernel) ⟨Nat.le_of_ble_eq_true rfl, Nat.le_of_ble_eq_true rfl⟩) (wd_preV (ci := 4) (q0 := 1) hP hK rfl rfl) rfl rfl hl.1 rfl (lv_room (Nat.le_of_ble_eq_true rfl)) dX5_send_5 ⟨Nat.zero_le _, Nat.zero_le _⟩) (fun _ => ?_) (fun h9 => absurd (h1) (by rw [h9]; decide))
  refine lv_if_ne (tgt := 13) hx hb dX5_send_8 (by decide) (fun _ => ?_) (fun h9 => absurd h9 (by decide))
  refine lv_aload_n hx hb dX5_send_13 rfl (lv_at hl 0 rfl) ?_
  refine va_get (D := D) (ci := 5) (v := .ref (h 3)) (C := RX5) (T := TX5) (N := 5) hx hb hts hiX5 hown hK.1 hP 0 rfl rfl 2 (by decide) kf26 (fun _ h9 => h9) rfl dX5_send_14 ?_
  refine lv_iload_n hx hb dX5_send_17 rfl (lv_at hl 1 rfl) ?_
  refine pu_calli (va_runV (As := [.int t]) (rest := []) ⟨hx, hb, hml, hown, hts⟩ (c_X0_appendF hh (hb9) t) (cwV 1 hts gX5_send_X0_append rfl rfl rfl (by decide +kernel) ⟨Nat.le_of_ble_eq_true rfl, Nat.le_of_ble_eq_true rfl⟩) (wd_preV (ci := 0) (q0 := 3) hP hK rfl rfl) rfl rfl hl.1 rfl (lv_room (Nat.le_of_ble_eq_true rfl)) dX5_send_18 ⟨Nat.zero_le _, Nat.zero_le _⟩) ?_
  refine lv_if_eq (tgt := 34) hx hb dX5_send_21 (by decide) (fun _ => ?_) (fun h9 => absurd (by decide) h9)
  refine lv_bipush (v := (-4)) hx hb dX5_send_34 (by decide) ?_
  exact W.iret (v := (-4)) hx hb hr (fun t9 ht _ => ⟨congrArg (fun z => Outcome.returned (some (Value.int z))) (rfl), ht⟩) (fun _ h9 => nomatch h9) dX5_send_36
set_option maxHeartbeats 4000000 in
set_option maxRecDepth 100000 in
theorem c_X5_send_a (hh : ad_ok h 20) (t : Int32) (h1 : p_in t (nI n) = true) (hf : f < 40) (hb9 : b < 40) : Met l yX5_send wsX5_send ({ frames := 9, cells := 0, slots := 0, locals := 400 }) (wd_P D cI cJ [.ref (h 0), .int t] (sl_W cI cJ h (nI n) F Wt Sz Nu Mb (nI k) G Wk To Sl Ri (nI f) (nI b) oT oS oF (nI an) (nI as) Fo wo pa fa)) (mu_Q D (ad_A h 20) (some (.int (nI (b + 1)))) (sl_W cI cJ h (nI n) F Wt Sz Nu Mb (nI k) G Wk To Sl (upd Ri ((f + b) % 40) t) (nI f) (nI (b + 1)) oT oS oF (nI an) (nI as) Fo wo pa fa)) 0 0 (ad_A h 20) := by
  refine Met.ofW (cc := cX5_send) (maxL := 2) (ret := (some .int)) (by decide) rfl ?_
  intro p e s m args below meth c s₁ B hml hv
  obtain ⟨rfl, hP, hK⟩ := hv
  have hx := B.exec
  have hb := B.bytes
  have hr := B.returns
  have hts := atoms_spec (ws := wsX5_send) B.pre
  have hown : s.vm.findClass RX5 = some m.cls := findClass_of_methodNamed B.named
  have hlocks := B.notSynchronized
  have hiX5 : ∀ w ∈ u_ws RX5 TX5 5, w ∈ wsX5_send := by decide +kernel
  have kf10 := hts (.fieldLink RX5 10 "SortingLine" "things" "LSortingLine$Things;") (by decide +kernel)
  have kf26 := hts (.fieldLink RX5 26 "SortingLine" "onBelt" "LSortingLine$Belt;") (by decide +kernel)
  have hS : va_S (ad_A h 20) s.heap s.heap [] := va_S.rf
  have hl := lv_entry ([.ref (h 0), .int t]) (n := 2) (Nat.le_of_ble_eq_true rfl)
  rw [lg_entry_eq]
  generalize (lg_sl ([.ref (h 0), .int t]) ++ List.replicate (2 - (lg_sl ([.ref (h 0), .int t])).length) Slot.unset).toArray = ls at hl ⊢
  have hl : lv_has ls 2 [(0, .ref (h 0)), (1, .int t)] := hl
  refine lv_aload_n hx hb dX5_send_0 rfl (lv_at hl 0 rfl) ?_
  refine va_get (D := D) (ci := 5) (v := .ref (h 1)) (C := RX5) (T := TX5) (N := 5) hx hb hts hiX5 hown hK.1 hP 0 rfl rfl 0 (by decide) kf10 (fun _ h9 => h9) rfl dX5_send_1 ?_
  refine lv_iload_n hx hb dX5_send_4 rfl (lv_at hl 1 rfl) ?_
  refine pu_callb (va_runV (As := [.int t]) (rest := []) ⟨hx, hb, hml, hown, hts⟩ (c_X4_hold hh t) (cwV 1 hts gX5_send_X4_hold rfl rfl rfl (by decide +kernel) ⟨Nat.le_of_ble_eq_true rfl, Nat.le_of_ble_eq_true rfl⟩) (wd_preV (ci := 4) (q0 := 1) hP hK rfl rfl) rfl rfl hl.1 rfl (lv_room (Nat.le_of_ble_eq_true rfl)) dX5_send_5 ⟨Nat.zero_le _, Nat.zero_le _⟩) (fun _ => ?_) (fun h9 => absurd (h1) (by rw [h9]; decide))
  refine lv_if_ne (tgt := 13) hx hb dX5_send_8 (by decide) (fun _ => ?_) (fun h9 => absurd h9 (by decide))
  refine lv_aload_n hx hb dX5_send_13 rfl (lv_at hl 0 rfl) ?_
  refine va_get (D := D) (ci := 5) (v := .ref (h 3)) (C := RX5) (T := TX5) (N := 5) hx hb hts hiX5 hown hK.1 hP 0 rfl rfl 2 (by decide) kf26 (fun _ h9 => h9) rfl dX5_send_14 ?_
  refine lv_iload_n hx hb dX5_send_17 rfl (lv_at hl 1 rfl) ?_
  refine mu_calli (va_runV (As := [.int t]) (rest := []) ⟨hx, hb, hml, hown, hts⟩ (c_X0_append hh hf (hb9) t) (cwV 1 hts gX5_send_X0_append rfl rfl rfl (by decide +kernel) ⟨Nat.le_of_ble_eq_true rfl, Nat.le_of_ble_eq_true rfl⟩) (wd_preV (ci := 0) (q0 := 3) hP hK rfl rfl) rfl rfl hl.1 rfl (lv_room (Nat.le_of_ble_eq_true rfl)) dX5_send_18 ⟨Nat.zero_le _, Nat.zero_le _⟩) hS (fun H locs hP hS => ?_)
  have hP : va_P D kC (sl_W cI cJ h (nI n) F Wt Sz Nu Mb (nI k) G Wk To Sl (upd Ri ((f + b) % 40) t) (nI f) (nI (b + 1)) oT oS oF (nI an) (nI as) Fo wo pa fa) H := hP
  refine lv_if_eq (tgt := 34) hx hb dX5_send_21 (by decide) (fun h9 => absurd h9 (by decide)) (fun _ => ?_)
  refine lv_aload_n hx hb dX5_send_24 rfl (lv_at hl 0 rfl) ?_
  refine va_get (D := D) (ci := 5) (v := .ref (h 3)) (C := RX5) (T := TX5) (N := 5) hx hb hts hiX5 hown hK.1 hP 0 rfl rfl 2 (by decide) kf26 (fun _ h9 => h9) rfl dX5_send_25 ?_
  refine pu_calli (va_runV (As := []) (rest := []) ⟨hx, hb, hml, hown, hts⟩ (c_X0_size hh) (cwV 0 hts gX5_send_X0_size rfl rfl rfl (by decide +kernel) ⟨Nat.le_of_ble_eq_true rfl, Nat.le_of_ble_eq_true rfl⟩) (wd_preV (ci := 0) (q0 := 3) hP hK rfl rfl) rfl rfl hl.1 rfl (lv_room (Nat.le_of_ble_eq_true rfl)) dX5_send_28 ⟨Nat.zero_le _, Nat.zero_le _⟩) ?_
  refine lv_goto (tgt := 36) hx hb dX5_send_31 (by decide) ?_
  exact W.iret (v := nI (b + 1)) hx hb hr (fun t9 ht _ => ⟨congrArg (fun z => Outcome.returned (some (Value.int z))) (rfl), by rw [ht]; exact hP, hS.F ht⟩) hS.2.2 dX5_send_36
set_option maxHeartbeats 4000000 in
set_option maxRecDepth 100000 in
theorem c_X5_total_u (hh : ad_ok h 20) (t : Int32) (h1 : p_in t (nI k) = false) : Met l yX5_total wsX5_total ({ frames := 9, cells := 0, slots := 0, locals := 400 }) (wd_P D cI cJ [.ref (h 0), .int t] (sl_W cI cJ h (nI n) F Wt Sz Nu Mb (nI k) G Wk To Sl Ri (nI f) (nI b) oT oS oF (nI an) (nI as) Fo wo pa fa)) (pu_Q (some (.long 0))) 0 0 (fun _ => False) := by
  refine Met.ofW (cc := cX5_total) (maxL := 2) (ret := (some .long)) (by decide) rfl ?_
  intro p e s m args below meth c s₁ B hml hv
  obtain ⟨rfl, hP, hK⟩ := hv
  have hx := B.exec
  have hb := B.bytes
  have hr := B.returns
  have hts := atoms_spec (ws := wsX5_total) B.pre
  have hown : s.vm.findClass RX5 = some m.cls := findClass_of_methodNamed B.named
  have hlocks := B.notSynchronized
  have hiX5 : ∀ w ∈ u_ws RX5 TX5 5, w ∈ wsX5_total := by decide +kernel
  have kf19 := hts (.fieldLink RX5 19 "SortingLine" "stations" "LSortingLine$Stations;") (by decide +kernel)
  have hl := lv_entry ([.ref (h 0), .int t]) (n := 2) (Nat.le_of_ble_eq_true rfl)
  rw [lg_entry_eq]
  generalize (lg_sl ([.ref (h 0), .int t]) ++ List.replicate (2 - (lg_sl ([.ref (h 0), .int t])).length) Slot.unset).toArray = ls at hl ⊢
  have hl : lv_has ls 2 [(0, .ref (h 0)), (1, .int t)] := hl
  refine lv_aload_n hx hb dX5_total_0 rfl (lv_at hl 0 rfl) ?_
  refine va_get (D := D) (ci := 5) (v := .ref (h 2)) (C := RX5) (T := TX5) (N := 5) hx hb hts hiX5 hown hK.1 hP 0 rfl rfl 1 (by decide) kf19 (fun _ h9 => h9) rfl dX5_total_1 ?_
  refine lv_iload_n hx hb dX5_total_4 rfl (lv_at hl 1 rfl) ?_
  refine pu_calll (va_runV (As := [.int t]) (rest := []) ⟨hx, hb, hml, hown, hts⟩ (c_X2_totalOfN hh t (by assumption)) (cwV 1 hts gX5_total_X2_totalOf rfl rfl rfl (by decide +kernel) ⟨Nat.le_of_ble_eq_true rfl, Nat.le_of_ble_eq_true rfl⟩) (wd_preV (ci := 2) (q0 := 2) hP hK rfl rfl) rfl rfl hl.1 rfl (lv_room (Nat.le_of_ble_eq_true rfl)) dX5_total_5 ⟨Nat.zero_le _, Nat.zero_le _⟩) ?_
  exact W.lret (v := 0) hx hb hr (fun t9 ht _ => ⟨congrArg (fun z => Outcome.returned (some (Value.long z))) (rfl), ht⟩) (fun _ h9 => nomatch h9) dX5_total_8
set_option maxHeartbeats 4000000 in
set_option maxRecDepth 100000 in
theorem c_X5_total_a (hh : ad_ok h 20) (hk : k ≤ 8) (i : Nat) (hi : i < k) : Met l yX5_total wsX5_total ({ frames := 9, cells := 0, slots := 0, locals := 400 }) (wd_P D cI cJ [.ref (h 0), .int (nI i)] (sl_W cI cJ h (nI n) F Wt Sz Nu Mb (nI k) G Wk To Sl Ri (nI f) (nI b) oT oS oF (nI an) (nI as) Fo wo pa fa)) (pu_Q (some (.long (To i)))) 0 0 (fun _ => False) := by
  refine Met.ofW (cc := cX5_total) (maxL := 2) (ret := (some .long)) (by decide) rfl ?_
  intro p e s m args below meth c s₁ B hml hv
  obtain ⟨rfl, hP, hK⟩ := hv
  have hx := B.exec
  have hb := B.bytes
  have hr := B.returns
  have hts := atoms_spec (ws := wsX5_total) B.pre
  have hown : s.vm.findClass RX5 = some m.cls := findClass_of_methodNamed B.named
  have hlocks := B.notSynchronized
  have hiX5 : ∀ w ∈ u_ws RX5 TX5 5, w ∈ wsX5_total := by decide +kernel
  have kf19 := hts (.fieldLink RX5 19 "SortingLine" "stations" "LSortingLine$Stations;") (by decide +kernel)
  have hl := lv_entry ([.ref (h 0), .int (nI i)]) (n := 2) (Nat.le_of_ble_eq_true rfl)
  rw [lg_entry_eq]
  generalize (lg_sl ([.ref (h 0), .int (nI i)]) ++ List.replicate (2 - (lg_sl ([.ref (h 0), .int (nI i)])).length) Slot.unset).toArray = ls at hl ⊢
  have hl : lv_has ls 2 [(0, .ref (h 0)), (1, .int (nI i))] := hl
  refine lv_aload_n hx hb dX5_total_0 rfl (lv_at hl 0 rfl) ?_
  refine va_get (D := D) (ci := 5) (v := .ref (h 2)) (C := RX5) (T := TX5) (N := 5) hx hb hts hiX5 hown hK.1 hP 0 rfl rfl 1 (by decide) kf19 (fun _ h9 => h9) rfl dX5_total_1 ?_
  refine lv_iload_n hx hb dX5_total_4 rfl (lv_at hl 1 rfl) ?_
  refine pu_calll (va_runV (As := [.int (nI i)]) (rest := []) ⟨hx, hb, hml, hown, hts⟩ (c_X2_totalOf hh hk i (by omega)) (cwV 1 hts gX5_total_X2_totalOf rfl rfl rfl (by decide +kernel) ⟨Nat.le_of_ble_eq_true rfl, Nat.le_of_ble_eq_true rfl⟩) (wd_preV (ci := 2) (q0 := 2) hP hK rfl rfl) rfl rfl hl.1 rfl (lv_room (Nat.le_of_ble_eq_true rfl)) dX5_total_5 ⟨Nat.zero_le _, Nat.zero_le _⟩) ?_
  exact W.lret (v := To i) hx hb hr (fun t9 ht _ => ⟨congrArg (fun z => Outcome.returned (some (Value.long z))) (rfl), ht⟩) (fun _ h9 => nomatch h9) dX5_total_8
set_option maxHeartbeats 4000000 in
set_option maxRecDepth 100000 in
theorem c_X5_slot_u (hh : ad_ok h 20) (t : Int32) (h1 : p_in t (nI k) = false) : Met l yX5_slot wsX5_slot ({ frames := 9, cells := 0, slots := 0, locals := 400 }) (wd_P D cI cJ [.ref (h 0), .int t] (sl_W cI cJ h (nI n) F Wt Sz Nu Mb (nI k) G Wk To Sl Ri (nI f) (nI b) oT oS oF (nI an) (nI as) Fo wo pa fa)) (pu_Q (some (.int (-1)))) 0 0 (fun _ => False) := by
  refine Met.ofW (cc := cX5_slot) (maxL := 2) (ret := (some .int)) (by decide) rfl ?_
  intro p e s m args below meth c s₁ B hml hv
  obtain ⟨rfl, hP, hK⟩ := hv
  have hx := B.exec
  have hb := B.bytes
  have hr := B.returns
  have hts := atoms_spec (ws := wsX5_slot) B.pre
  have hown : s.vm.findClass RX5 = some m.cls := findClass_of_methodNamed B.named
  have hlocks := B.notSynchronized
  have hiX5 : ∀ w ∈ u_ws RX5 TX5 5, w ∈ wsX5_slot := by decide +kernel
  have kf19 := hts (.fieldLink RX5 19 "SortingLine" "stations" "LSortingLine$Stations;") (by decide +kernel)
  have hl := lv_entry ([.ref (h 0), .int t]) (n := 2) (Nat.le_of_ble_eq_true rfl)
  rw [lg_entry_eq]
  generalize (lg_sl ([.ref (h 0), .int t]) ++ List.replicate (2 - (lg_sl ([.ref (h 0), .int t])).length) Slot.unset).toArray = ls at hl ⊢
  have hl : lv_has ls 2 [(0, .ref (h 0)), (1, .int t)] := hl
  refine lv_aload_n hx hb dX5_slot_0 rfl (lv_at hl 0 rfl) ?_
  refine va_get (D := D) (ci := 5) (v := .ref (h 2)) (C := RX5) (T := TX5) (N := 5) hx hb hts hiX5 hown hK.1 hP 0 rfl rfl 1 (by decide) kf19 (fun _ h9 => h9) rfl dX5_slot_1 ?_
  refine lv_iload_n hx hb dX5_slot_4 rfl (lv_at hl 1 rfl) ?_
  refine pu_callb (va_runV (As := [.int t]) (rest := []) ⟨hx, hb, hml, hown, hts⟩ (c_X2_hold hh t) (cwV 1 hts gX5_slot_X2_hold rfl rfl rfl (by decide +kernel) ⟨Nat.le_of_ble_eq_true rfl, Nat.le_of_ble_eq_true rfl⟩) (wd_preV (ci := 2) (q0 := 2) hP hK rfl rfl) rfl rfl hl.1 rfl (lv_room (Nat.le_of_ble_eq_true rfl)) dX5_slot_5 ⟨Nat.zero_le _, Nat.zero_le _⟩) (fun h9 => absurd (h1) (by rw [h9]; decide)) (fun _ => ?_)
  refine lv_if_eq (tgt := 22) hx hb dX5_slot_8 (by decide) (fun _ => ?_) (fun h9 => absurd (by decide) h9)
  refine lv_iconst (v := (-1)) hx hb dX5_slot_22 (by decide) ?_
  exact W.iret (v := (-1)) hx hb hr (fun t9 ht _ => ⟨congrArg (fun z => Outcome.returned (some (Value.int z))) (rfl), ht⟩) (fun _ h9 => nomatch h9) dX5_slot_23
set_option maxHeartbeats 4000000 in
set_option maxRecDepth 100000 in
theorem c_X5_slot_a (hh : ad_ok h 20) (hk : k ≤ 8) (i : Nat) (hi : i < k) : Met l yX5_slot wsX5_slot ({ frames := 9, cells := 0, slots := 0, locals := 400 }) (wd_P D cI cJ [.ref (h 0), .int (nI i)] (sl_W cI cJ h (nI n) F Wt Sz Nu Mb (nI k) G Wk To Sl Ri (nI f) (nI b) oT oS oF (nI an) (nI as) Fo wo pa fa)) (pu_Q (some (.int (Sl i)))) 0 0 (fun _ => False) := by
  refine Met.ofW (cc := cX5_slot) (maxL := 2) (ret := (some .int)) (by decide) rfl ?_
  intro p e s m args below meth c s₁ B hml hv
  obtain ⟨rfl, hP, hK⟩ := hv
  have hx := B.exec
  have hb := B.bytes
  have hr := B.returns
  have hts := atoms_spec (ws := wsX5_slot) B.pre
  have hown : s.vm.findClass RX5 = some m.cls := findClass_of_methodNamed B.named
  have hlocks := B.notSynchronized
  have hiX5 : ∀ w ∈ u_ws RX5 TX5 5, w ∈ wsX5_slot := by decide +kernel
  have kf19 := hts (.fieldLink RX5 19 "SortingLine" "stations" "LSortingLine$Stations;") (by decide +kernel)
  have hl := lv_entry ([.ref (h 0), .int (nI i)]) (n := 2) (Nat.le_of_ble_eq_true rfl)
  rw [lg_entry_eq]
  generalize (lg_sl ([.ref (h 0), .int (nI i)]) ++ List.replicate (2 - (lg_sl ([.ref (h 0), .int (nI i)])).length) Slot.unset).toArray = ls at hl ⊢
  have hl : lv_has ls 2 [(0, .ref (h 0)), (1, .int (nI i))] := hl
  refine lv_aload_n hx hb dX5_slot_0 rfl (lv_at hl 0 rfl) ?_
  refine va_get (D := D) (ci := 5) (v := .ref (h 2)) (C := RX5) (T := TX5) (N := 5) hx hb hts hiX5 hown hK.1 hP 0 rfl rfl 1 (by decide) kf19 (fun _ h9 => h9) rfl dX5_slot_1 ?_
  refine lv_iload_n hx hb dX5_slot_4 rfl (lv_at hl 1 rfl) ?_
  refine pu_callb (va_runV (As := [.int (nI i)]) (rest := []) ⟨hx, hb, hml, hown, hts⟩ (c_X2_hold hh (nI i)) (cwV 1 hts gX5_slot_X2_hold rfl rfl rfl (by decide +kernel) ⟨Nat.le_of_ble_eq_true rfl, Nat.le_of_ble_eq_true rfl⟩) (wd_preV (ci := 2) (q0 := 2) hP hK rfl rfl) rfl rfl hl.1 rfl (lv_room (Nat.le_of_ble_eq_true rfl)) dX5_slot_5 ⟨Nat.zero_le _, Nat.zero_le _⟩) (fun _ => ?_) (fun h9 => absurd (p_in_nI hi (by omega)) (by rw [h9]; decide))
  refine lv_if_eq (tgt := 22) hx hb dX5_slot_8 (by decide) (fun h9 => absurd h9 (by decide)) (fun _ => ?_)
  refine lv_aload_n hx hb dX5_slot_11 rfl (lv_at hl 0 rfl) ?_
  refine va_get (D := D) (ci := 5) (v := .ref (h 2)) (C := RX5) (T := TX5) (N := 5) hx hb hts hiX5 hown hK.1 hP 0 rfl rfl 1 (by decide) kf19 (fun _ h9 => h9) rfl dX5_slot_12 ?_
  refine lv_iload_n hx hb dX5_slot_15 rfl (lv_at hl 1 rfl) ?_
  refine pu_calli (va_runV (As := [.int (nI i)]) (rest := []) ⟨hx, hb, hml, hown, hts⟩ (c_X2_slotOf hh hk i (by omega)) (cwV 1 hts gX5_slot_X2_slotOf rfl rfl rfl (by decide +kernel) ⟨Nat.le_of_ble_eq_true rfl, Nat.le_of_ble_eq_true rfl⟩) (wd_preV (ci := 2) (q0 := 2) hP hK rfl rfl) rfl rfl hl.1 rfl (lv_room (Nat.le_of_ble_eq_true rfl)) dX5_slot_16 ⟨Nat.zero_le _, Nat.zero_le _⟩) ?_
  refine lv_goto (tgt := 23) hx hb dX5_slot_19 (by decide) ?_
  exact W.iret (v := Sl i) hx hb hr (fun t9 ht _ => ⟨congrArg (fun z => Outcome.returned (some (Value.int z))) (rfl), ht⟩) (fun _ h9 => nomatch h9) dX5_slot_23
set_option maxHeartbeats 4000000 in
set_option maxRecDepth 100000 in
theorem c_X5_belt_n (hh : ad_ok h 20) (hf : f < 40) (hb9 : b ≤ 40) (t : Int32) (h1 : p_in t (nI b) = false) : Met l yX5_belt wsX5_belt ({ frames := 9, cells := 0, slots := 0, locals := 400 }) (wd_P D cI cJ [.ref (h 0), .int t] (sl_W cI cJ h (nI n) F Wt Sz Nu Mb (nI k) G Wk To Sl Ri (nI f) (nI b) oT oS oF (nI an) (nI as) Fo wo pa fa)) (pu_Q (some (.int (-5)))) 0 0 (fun _ => False) := by
  refine Met.ofW (cc := cX5_belt) (maxL := 2) (ret := (some .int)) (by decide) rfl ?_
  intro p e s m args below meth c s₁ B hml hv
  obtain ⟨rfl, hP, hK⟩ := hv
  have hx := B.exec
  have hb := B.bytes
  have hr := B.returns
  have hts := atoms_spec (ws := wsX5_belt) B.pre
  have hown : s.vm.findClass RX5 = some m.cls := findClass_of_methodNamed B.named
  have hlocks := B.notSynchronized
  have hiX5 : ∀ w ∈ u_ws RX5 TX5 5, w ∈ wsX5_belt := by decide +kernel
  have kf26 := hts (.fieldLink RX5 26 "SortingLine" "onBelt" "LSortingLine$Belt;") (by decide +kernel)
  have hl := lv_entry ([.ref (h 0), .int t]) (n := 2) (Nat.le_of_ble_eq_true rfl)
  rw [lg_entry_eq]
  generalize (lg_sl ([.ref (h 0), .int t]) ++ List.replicate (2 - (lg_sl ([.ref (h 0), .int t])).length) Slot.unset).toArray = ls at hl ⊢
  have hl : lv_has ls 2 [(0, .ref (h 0)), (1, .int t)] := hl
  refine lv_aload_n hx hb dX5_belt_0 rfl (lv_at hl 0 rfl) ?_
  refine va_get (D := D) (ci := 5) (v := .ref (h 3)) (C := RX5) (T := TX5) (N := 5) hx hb hts hiX5 hown hK.1 hP 0 rfl rfl 2 (by decide) kf26 (fun _ h9 => h9) rfl dX5_belt_1 ?_
  refine lv_iload_n hx hb dX5_belt_4 rfl (lv_at hl 1 rfl) ?_
  refine pu_calli (va_runV (As := [.int t]) (rest := []) ⟨hx, hb, hml, hown, hts⟩ (c_X0_thingAtN hh hf hb9 t (by assumption)) (cwV 1 hts gX5_belt_X0_thingAt rfl rfl rfl (by decide +kernel) ⟨Nat.le_of_ble_eq_true rfl, Nat.le_of_ble_eq_true rfl⟩) (wd_preV (ci := 0) (q0 := 3) hP hK rfl rfl) rfl rfl hl.1 rfl (lv_room (Nat.le_of_ble_eq_true rfl)) dX5_belt_5 ⟨Nat.zero_le _, Nat.zero_le _⟩) ?_
  exact W.iret (v := (-5)) hx hb hr (fun t9 ht _ => ⟨congrArg (fun z => Outcome.returned (some (Value.int z))) (rfl), ht⟩) (fun _ h9 => nomatch h9) dX5_belt_8
set_option maxHeartbeats 4000000 in
set_option maxRecDepth 100000 in
theorem c_X5_belt_a (hh : ad_ok h 20) (hf : f < 40) (hb9 : b ≤ 40) (j : Nat) (hj : j < b) : Met l yX5_belt wsX5_belt ({ frames := 9, cells := 0, slots := 0, locals := 400 }) (wd_P D cI cJ [.ref (h 0), .int (nI j)] (sl_W cI cJ h (nI n) F Wt Sz Nu Mb (nI k) G Wk To Sl Ri (nI f) (nI b) oT oS oF (nI an) (nI as) Fo wo pa fa)) (pu_Q (some (.int (Ri ((f + j) % 40))))) 0 0 (fun _ => False) := by
  refine Met.ofW (cc := cX5_belt) (maxL := 2) (ret := (some .int)) (by decide) rfl ?_
  intro p e s m args below meth c s₁ B hml hv
  obtain ⟨rfl, hP, hK⟩ := hv
  have hx := B.exec
  have hb := B.bytes
  have hr := B.returns
  have hts := atoms_spec (ws := wsX5_belt) B.pre
  have hown : s.vm.findClass RX5 = some m.cls := findClass_of_methodNamed B.named
  have hlocks := B.notSynchronized
  have hiX5 : ∀ w ∈ u_ws RX5 TX5 5, w ∈ wsX5_belt := by decide +kernel
  have kf26 := hts (.fieldLink RX5 26 "SortingLine" "onBelt" "LSortingLine$Belt;") (by decide +kernel)
  have hl := lv_entry ([.ref (h 0), .int (nI j)]) (n := 2) (Nat.le_of_ble_eq_true rfl)
  rw [lg_entry_eq]
  generalize (lg_sl ([.ref (h 0), .int (nI j)]) ++ List.replicate (2 - (lg_sl ([.ref (h 0), .int (nI j)])).length) Slot.unset).toArray = ls at hl ⊢
  have hl : lv_has ls 2 [(0, .ref (h 0)), (1, .int (nI j))] := hl
  refine lv_aload_n hx hb dX5_belt_0 rfl (lv_at hl 0 rfl) ?_
  refine va_get (D := D) (ci := 5) (v := .ref (h 3)) (C := RX5) (T := TX5) (N := 5) hx hb hts hiX5 hown hK.1 hP 0 rfl rfl 2 (by decide) kf26 (fun _ h9 => h9) rfl dX5_belt_1 ?_
  refine lv_iload_n hx hb dX5_belt_4 rfl (lv_at hl 1 rfl) ?_
  refine pu_calli (va_runV (As := [.int (nI j)]) (rest := []) ⟨hx, hb, hml, hown, hts⟩ (c_X0_thingAt hh hf hb9 j (by omega)) (cwV 1 hts gX5_belt_X0_thingAt rfl rfl rfl (by decide +kernel) ⟨Nat.le_of_ble_eq_true rfl, Nat.le_of_ble_eq_true rfl⟩) (wd_preV (ci := 0) (q0 := 3) hP hK rfl rfl) rfl rfl hl.1 rfl (lv_room (Nat.le_of_ble_eq_true rfl)) dX5_belt_5 ⟨Nat.zero_le _, Nat.zero_le _⟩) ?_
  exact W.iret (v := Ri ((f + j) % 40)) hx hb hr (fun t9 ht _ => ⟨congrArg (fun z => Outcome.returned (some (Value.int z))) (rfl), ht⟩) (fun _ h9 => nomatch h9) dX5_belt_8
set_option maxHeartbeats 4000000 in
set_option maxRecDepth 100000 in
theorem c_X5_side_o (hh : ad_ok h 20) (t wh : Int32) (h1 : q_in wh 0 2 = false) : Met l yX5_side wsX5_side ({ frames := 9, cells := 0, slots := 0, locals := 400 }) (wd_P D cI cJ [.ref (h 0), .int t, .int wh] (sl_W cI cJ h (nI n) F Wt Sz Nu Mb (nI k) G Wk To Sl Ri (nI f) (nI b) oT oS oF (nI an) (nI as) Fo wo pa fa)) (pu_Q (some (.int (-2)))) 0 0 (fun _ => False) := by
  refine Met.ofW (cc := cX5_side) (maxL := 3) (ret := (some .int)) (by decide) rfl ?_
  intro p e s m args below meth c s₁ B hml hv
  obtain ⟨rfl, hP, hK⟩ := hv
  have hx := B.exec
  have hb := B.bytes
  have hr := B.returns
  have hts := atoms_spec (ws := wsX5_side) B.pre
  have hown : s.vm.findClass RX5 = some m.cls := findClass_of_methodNamed B.named
  have hlocks := B.notSynchronized
  have hl := lv_entry ([.ref (h 0), .int t, .int wh]) (n := 3) (Nat.le_of_ble_eq_true rfl)
  rw [lg_entry_eq]
  generalize (lg_sl ([.ref (h 0), .int t, .int wh]) ++ List.replicate (3 - (lg_sl ([.ref (h 0), .int t, .int wh])).length) Slot.unset).toArray = ls at hl ⊢
  have hl : lv_has ls 3 [(0, .ref (h 0)), (1, .int t), (2, .int wh)] := hl
  refine lv_iload_n hx hb dX5_side_0 rfl (lv_at hl 2 rfl) ?_
  refine lv_if_lt (tgt := 9) hx hb dX5_side_1 (by decide) (fun c1 => ?_) (fun c1 => ?_)
  · skip
    refine lv_bipush (v := (-2)) hx hb dX5_side_9 (by decide) ?_
    exact W.iret (v := (-2)) hx hb hr (fun t9 ht _ => ⟨congrArg (fun z => Outcome.returned (some (Value.int z))) (rfl), ht⟩) (fun _ h9 => nomatch h9) dX5_side_11
  · skip
    refine lv_iload_n hx hb dX5_side_4 rfl (lv_at hl 2 rfl) ?_
    refine lv_iconst (v := 2) hx hb dX5_side_5 (by decide) ?_
    refine lv_icmp_le (tgt := 12) hx hb dX5_side_6 (by decide) (fun c6 => ?_) (fun c6 => ?_)
    · skip
      exact (bt_f (q_ok c1 c6) h1).elim
    · skip
      refine lv_bipush (v := (-2)) hx hb dX5_side_9 (by decide) ?_
      exact W.iret (v := (-2)) hx hb hr (fun t9 ht _ => ⟨congrArg (fun z => Outcome.returned (some (Value.int z))) (rfl), ht⟩) (fun _ h9 => nomatch h9) dX5_side_11
set_option maxHeartbeats 4000000 in
set_option maxRecDepth 100000 in
theorem c_X5_side_n (hh : ad_ok h 20) (t wh : Int32) (h1 : q_in wh 0 2 = true) (h2 : p_in t (nI as) = false) : Met l yX5_side wsX5_side ({ frames := 9, cells := 0, slots := 0, locals := 400 }) (wd_P D cI cJ [.ref (h 0), .int t, .int wh] (sl_W cI cJ h (nI n) F Wt Sz Nu Mb (nI k) G Wk To Sl Ri (nI f) (nI b) oT oS oF (nI an) (nI as) Fo wo pa fa)) (pu_Q (some (.int (-5)))) 0 0 (fun _ => False) := by
  refine Met.ofW (cc := cX5_side) (maxL := 3) (ret := (some .int)) (by decide) rfl ?_
  intro p e s m args below meth c s₁ B hml hv
  obtain ⟨rfl, hP, hK⟩ := hv
  have hx := B.exec
  have hb := B.bytes
  have hr := B.returns
  have hts := atoms_spec (ws := wsX5_side) B.pre
  have hown : s.vm.findClass RX5 = some m.cls := findClass_of_methodNamed B.named
  have hlocks := B.notSynchronized
  have hiX5 : ∀ w ∈ u_ws RX5 TX5 5, w ∈ wsX5_side := by decide +kernel
  have kf33 := hts (.fieldLink RX5 33 "SortingLine" "aside" "LSortingLine$Side;") (by decide +kernel)
  have hl := lv_entry ([.ref (h 0), .int t, .int wh]) (n := 3) (Nat.le_of_ble_eq_true rfl)
  rw [lg_entry_eq]
  generalize (lg_sl ([.ref (h 0), .int t, .int wh]) ++ List.replicate (3 - (lg_sl ([.ref (h 0), .int t, .int wh])).length) Slot.unset).toArray = ls at hl ⊢
  have hl : lv_has ls 3 [(0, .ref (h 0)), (1, .int t), (2, .int wh)] := hl
  refine lv_iload_n hx hb dX5_side_0 rfl (lv_at hl 2 rfl) ?_
  refine lv_if_lt (tgt := 9) hx hb dX5_side_1 (by decide) (fun c1 => ?_) (fun c1 => ?_)
  · skip
    exact (bt_f h1 (q_lo c1)).elim
  · skip
    refine lv_iload_n hx hb dX5_side_4 rfl (lv_at hl 2 rfl) ?_
    refine lv_iconst (v := 2) hx hb dX5_side_5 (by decide) ?_
    refine lv_icmp_le (tgt := 12) hx hb dX5_side_6 (by decide) (fun c6 => ?_) (fun c6 => ?_)
    · skip
      refine lv_aload_n hx hb dX5_side_12 rfl (lv_at hl 0 rfl) ?_
      refine va_get (D := D) (ci := 5) (v := .ref (h 4)) (C := RX5) (T := TX5) (N := 5) hx hb hts hiX5 hown hK.1 hP 0 rfl rfl 3 (by decide) kf33 (fun _ h9 => h9) rfl dX5_side_13 ?_
      refine lv_iload_n hx hb dX5_side_16 rfl (lv_at hl 1 rfl) ?_
      refine lv_iload_n hx hb dX5_side_17 rfl (lv_at hl 2 rfl) ?_
      refine pu_calli (va_runV (As := [.int t, .int wh]) (rest := []) ⟨hx, hb, hml, hown, hts⟩ (c_X1_tellN hh t wh (by assumption)) (cwV 2 hts gX5_side_X1_tell rfl rfl rfl (by decide +kernel) ⟨Nat.le_of_ble_eq_true rfl, Nat.le_of_ble_eq_true rfl⟩) (wd_preV (ci := 1) (q0 := 4) hP hK rfl rfl) rfl rfl hl.1 rfl (lv_room (Nat.le_of_ble_eq_true rfl)) dX5_side_18 ⟨Nat.zero_le _, Nat.zero_le _⟩) ?_
      exact W.iret (v := (-5)) hx hb hr (fun t9 ht _ => ⟨congrArg (fun z => Outcome.returned (some (Value.int z))) (rfl), ht⟩) (fun _ h9 => nomatch h9) dX5_side_21
    · skip
      exact (bt_f h1 (q_hi' c6)).elim
set_option maxHeartbeats 4000000 in
set_option maxRecDepth 100000 in
theorem c_X5_side_a (hh : ad_ok h 20) (ha : an < 20) (hs : as ≤ 20) (j : Nat) (hj : j < as) (wh : Int32) (h1 : q_in wh 0 2 = true) : Met l yX5_side wsX5_side ({ frames := 9, cells := 0, slots := 0, locals := 400 }) (wd_P D cI cJ [.ref (h 0), .int (nI j), .int wh] (sl_W cI cJ h (nI n) F Wt Sz Nu Mb (nI k) G Wk To Sl Ri (nI f) (nI b) oT oS oF (nI an) (nI as) Fo wo pa fa)) (pu_Q (some (.int ((if wh = 0 then oT else if wh = 1 then oS else oF) ((an + 19 - j) % 20))))) 0 0 (fun _ => False) := by
  refine Met.ofW (cc := cX5_side) (maxL := 3) (ret := (some .int)) (by decide) rfl ?_
  intro p e s m args below meth c s₁ B hml hv
  obtain ⟨rfl, hP, hK⟩ := hv
  have hx := B.exec
  have hb := B.bytes
  have hr := B.returns
  have hts := atoms_spec (ws := wsX5_side) B.pre
  have hown : s.vm.findClass RX5 = some m.cls := findClass_of_methodNamed B.named
  have hlocks := B.notSynchronized
  have hiX5 : ∀ w ∈ u_ws RX5 TX5 5, w ∈ wsX5_side := by decide +kernel
  have kf33 := hts (.fieldLink RX5 33 "SortingLine" "aside" "LSortingLine$Side;") (by decide +kernel)
  have hl := lv_entry ([.ref (h 0), .int (nI j), .int wh]) (n := 3) (Nat.le_of_ble_eq_true rfl)
  rw [lg_entry_eq]
  generalize (lg_sl ([.ref (h 0), .int (nI j), .int wh]) ++ List.replicate (3 - (lg_sl ([.ref (h 0), .int (nI j), .int wh])).length) Slot.unset).toArray = ls at hl ⊢
  have hl : lv_has ls 3 [(0, .ref (h 0)), (1, .int (nI j)), (2, .int wh)] := hl
  refine lv_iload_n hx hb dX5_side_0 rfl (lv_at hl 2 rfl) ?_
  refine lv_if_lt (tgt := 9) hx hb dX5_side_1 (by decide) (fun c1 => ?_) (fun c1 => ?_)
  · skip
    exact (bt_f h1 (q_lo c1)).elim
  · skip
    refine lv_iload_n hx hb dX5_side_4 rfl (lv_at hl 2 rfl) ?_
    refine lv_iconst (v := 2) hx hb dX5_side_5 (by decide) ?_
    refine lv_icmp_le (tgt := 12) hx hb dX5_side_6 (by decide) (fun c6 => ?_) (fun c6 => ?_)
    · skip
      refine lv_aload_n hx hb dX5_side_12 rfl (lv_at hl 0 rfl) ?_
      refine va_get (D := D) (ci := 5) (v := .ref (h 4)) (C := RX5) (T := TX5) (N := 5) hx hb hts hiX5 hown hK.1 hP 0 rfl rfl 3 (by decide) kf33 (fun _ h9 => h9) rfl dX5_side_13 ?_
      refine lv_iload_n hx hb dX5_side_16 rfl (lv_at hl 1 rfl) ?_
      refine lv_iload_n hx hb dX5_side_17 rfl (lv_at hl 2 rfl) ?_
      refine pu_calli (va_runV (As := [.int (nI j), .int wh]) (rest := []) ⟨hx, hb, hml, hown, hts⟩ (c_X1_tell hh ha hs j (by omega) wh) (cwV 2 hts gX5_side_X1_tell rfl rfl rfl (by decide +kernel) ⟨Nat.le_of_ble_eq_true rfl, Nat.le_of_ble_eq_true rfl⟩) (wd_preV (ci := 1) (q0 := 4) hP hK rfl rfl) rfl rfl hl.1 rfl (lv_room (Nat.le_of_ble_eq_true rfl)) dX5_side_18 ⟨Nat.zero_le _, Nat.zero_le _⟩) ?_
      exact W.iret (v := (if wh = 0 then oT else if wh = 1 then oS else oF) ((an + 19 - j) % 20)) hx hb hr (fun t9 ht _ => ⟨congrArg (fun z => Outcome.returned (some (Value.int z))) (rfl), ht⟩) (fun _ h9 => nomatch h9) dX5_side_21
    · skip
      exact (bt_f h1 (q_hi' c6)).elim
set_option maxHeartbeats 4000000 in
set_option maxRecDepth 100000 in
theorem c_X5_count_0 (hh : ad_ok h 20)  : Met l yX5_count wsX5_count ({ frames := 9, cells := 0, slots := 0, locals := 400 }) (wd_P D cI cJ [.ref (h 0), .int 0] (sl_W cI cJ h (nI n) F Wt Sz Nu Mb (nI k) G Wk To Sl Ri (nI f) (nI b) oT oS oF (nI an) (nI as) Fo wo pa fa)) (pu_Q (some (.int (nI n)))) 0 0 (fun _ => False) := by
  refine Met.ofW (cc := cX5_count) (maxL := 2) (ret := (some .int)) (by decide) rfl ?_
  intro p e s m args below meth c s₁ B hml hv
  obtain ⟨rfl, hP, hK⟩ := hv
  have hx := B.exec
  have hb := B.bytes
  have hr := B.returns
  have hts := atoms_spec (ws := wsX5_count) B.pre
  have hown : s.vm.findClass RX5 = some m.cls := findClass_of_methodNamed B.named
  have hlocks := B.notSynchronized
  have hiX5 : ∀ w ∈ u_ws RX5 TX5 5, w ∈ wsX5_count := by decide +kernel
  have kf10 := hts (.fieldLink RX5 10 "SortingLine" "things" "LSortingLine$Things;") (by decide +kernel)
  have hl := lv_entry ([.ref (h 0), .int 0]) (n := 2) (Nat.le_of_ble_eq_true rfl)
  rw [lg_entry_eq]
  generalize (lg_sl ([.ref (h 0), .int 0]) ++ List.replicate (2 - (lg_sl ([.ref (h 0), .int 0])).length) Slot.unset).toArray = ls at hl ⊢
  have hl : lv_has ls 2 [(0, .ref (h 0)), (1, .int 0)] := hl
  refine lv_iload_n hx hb dX5_count_0 rfl (lv_at hl 1 rfl) ?_
  refine lv_tableIn (off := 59) (tgt := 60) hx hb dX5_count_1 (by decide) (by decide) (by decide) (by decide) ?_
  refine lv_aload_n hx hb dX5_count_60 rfl (lv_at hl 0 rfl) ?_
  refine va_get (D := D) (ci := 5) (v := .ref (h 1)) (C := RX5) (T := TX5) (N := 5) hx hb hts hiX5 hown hK.1 hP 0 rfl rfl 0 (by decide) kf10 (fun _ h9 => h9) rfl dX5_count_61 ?_
  refine pu_calli (va_runV (As := []) (rest := []) ⟨hx, hb, hml, hown, hts⟩ (c_X4_howMany hh) (cwV 0 hts gX5_count_X4_howMany rfl rfl rfl (by decide +kernel) ⟨Nat.le_of_ble_eq_true rfl, Nat.le_of_ble_eq_true rfl⟩) (wd_preV (ci := 4) (q0 := 1) hP hK rfl rfl) rfl rfl hl.1 rfl (lv_room (Nat.le_of_ble_eq_true rfl)) dX5_count_64 ⟨Nat.zero_le _, Nat.zero_le _⟩) ?_
  refine lv_goto (tgt := 135) hx hb dX5_count_67 (by decide) ?_
  exact W.iret (v := nI n) hx hb hr (fun t9 ht _ => ⟨congrArg (fun z => Outcome.returned (some (Value.int z))) (rfl), ht⟩) (fun _ h9 => nomatch h9) dX5_count_135
set_option maxHeartbeats 4000000 in
set_option maxRecDepth 100000 in
theorem c_X5_count_1 (hh : ad_ok h 20)  : Met l yX5_count wsX5_count ({ frames := 9, cells := 0, slots := 0, locals := 400 }) (wd_P D cI cJ [.ref (h 0), .int 1] (sl_W cI cJ h (nI n) F Wt Sz Nu Mb (nI k) G Wk To Sl Ri (nI f) (nI b) oT oS oF (nI an) (nI as) Fo wo pa fa)) (pu_Q (some (.int (nI k)))) 0 0 (fun _ => False) := by
  refine Met.ofW (cc := cX5_count) (maxL := 2) (ret := (some .int)) (by decide) rfl ?_
  intro p e s m args below meth c s₁ B hml hv
  obtain ⟨rfl, hP, hK⟩ := hv
  have hx := B.exec
  have hb := B.bytes
  have hr := B.returns
  have hts := atoms_spec (ws := wsX5_count) B.pre
  have hown : s.vm.findClass RX5 = some m.cls := findClass_of_methodNamed B.named
  have hlocks := B.notSynchronized
  have hiX5 : ∀ w ∈ u_ws RX5 TX5 5, w ∈ wsX5_count := by decide +kernel
  have kf19 := hts (.fieldLink RX5 19 "SortingLine" "stations" "LSortingLine$Stations;") (by decide +kernel)
  have hl := lv_entry ([.ref (h 0), .int 1]) (n := 2) (Nat.le_of_ble_eq_true rfl)
  rw [lg_entry_eq]
  generalize (lg_sl ([.ref (h 0), .int 1]) ++ List.replicate (2 - (lg_sl ([.ref (h 0), .int 1])).length) Slot.unset).toArray = ls at hl ⊢
  have hl : lv_has ls 2 [(0, .ref (h 0)), (1, .int 1)] := hl
  refine lv_iload_n hx hb dX5_count_0 rfl (lv_at hl 1 rfl) ?_
  refine lv_tableIn (off := 69) (tgt := 70) hx hb dX5_count_1 (by decide) (by decide) (by decide) (by decide) ?_
  refine lv_aload_n hx hb dX5_count_70 rfl (lv_at hl 0 rfl) ?_
  refine va_get (D := D) (ci := 5) (v := .ref (h 2)) (C := RX5) (T := TX5) (N := 5) hx hb hts hiX5 hown hK.1 hP 0 rfl rfl 1 (by decide) kf19 (fun _ h9 => h9) rfl dX5_count_71 ?_
  refine pu_calli (va_runV (As := []) (rest := []) ⟨hx, hb, hml, hown, hts⟩ (c_X2_howMany hh) (cwV 0 hts gX5_count_X2_howMany rfl rfl rfl (by decide +kernel) ⟨Nat.le_of_ble_eq_true rfl, Nat.le_of_ble_eq_true rfl⟩) (wd_preV (ci := 2) (q0 := 2) hP hK rfl rfl) rfl rfl hl.1 rfl (lv_room (Nat.le_of_ble_eq_true rfl)) dX5_count_74 ⟨Nat.zero_le _, Nat.zero_le _⟩) ?_
  refine lv_goto (tgt := 135) hx hb dX5_count_77 (by decide) ?_
  exact W.iret (v := nI k) hx hb hr (fun t9 ht _ => ⟨congrArg (fun z => Outcome.returned (some (Value.int z))) (rfl), ht⟩) (fun _ h9 => nomatch h9) dX5_count_135
set_option maxHeartbeats 4000000 in
set_option maxRecDepth 100000 in
theorem c_X5_count_2 (hh : ad_ok h 20)  : Met l yX5_count wsX5_count ({ frames := 9, cells := 0, slots := 0, locals := 400 }) (wd_P D cI cJ [.ref (h 0), .int 2] (sl_W cI cJ h (nI n) F Wt Sz Nu Mb (nI k) G Wk To Sl Ri (nI f) (nI b) oT oS oF (nI an) (nI as) Fo wo pa fa)) (pu_Q (some (.int (nI b)))) 0 0 (fun _ => False) := by
  refine Met.ofW (cc := cX5_count) (maxL := 2) (ret := (some .int)) (by decide) rfl ?_
  intro p e s m args below meth c s₁ B hml hv
  obtain ⟨rfl, hP, hK⟩ := hv
  have hx := B.exec
  have hb := B.bytes
  have hr := B.returns
  have hts := atoms_spec (ws := wsX5_count) B.pre
  have hown : s.vm.findClass RX5 = some m.cls := findClass_of_methodNamed B.named
  have hlocks := B.notSynchronized
  have hiX5 : ∀ w ∈ u_ws RX5 TX5 5, w ∈ wsX5_count := by decide +kernel
  have kf26 := hts (.fieldLink RX5 26 "SortingLine" "onBelt" "LSortingLine$Belt;") (by decide +kernel)
  have hl := lv_entry ([.ref (h 0), .int 2]) (n := 2) (Nat.le_of_ble_eq_true rfl)
  rw [lg_entry_eq]
  generalize (lg_sl ([.ref (h 0), .int 2]) ++ List.replicate (2 - (lg_sl ([.ref (h 0), .int 2])).length) Slot.unset).toArray = ls at hl ⊢
  have hl : lv_has ls 2 [(0, .ref (h 0)), (1, .int 2)] := hl
  refine lv_iload_n hx hb dX5_count_0 rfl (lv_at hl 1 rfl) ?_
  refine lv_tableIn (off := 79) (tgt := 80) hx hb dX5_count_1 (by decide) (by decide) (by decide) (by decide) ?_
  refine lv_aload_n hx hb dX5_count_80 rfl (lv_at hl 0 rfl) ?_
  refine va_get (D := D) (ci := 5) (v := .ref (h 3)) (C := RX5) (T := TX5) (N := 5) hx hb hts hiX5 hown hK.1 hP 0 rfl rfl 2 (by decide) kf26 (fun _ h9 => h9) rfl dX5_count_81 ?_
  refine pu_calli (va_runV (As := []) (rest := []) ⟨hx, hb, hml, hown, hts⟩ (c_X0_size hh) (cwV 0 hts gX5_count_X0_size rfl rfl rfl (by decide +kernel) ⟨Nat.le_of_ble_eq_true rfl, Nat.le_of_ble_eq_true rfl⟩) (wd_preV (ci := 0) (q0 := 3) hP hK rfl rfl) rfl rfl hl.1 rfl (lv_room (Nat.le_of_ble_eq_true rfl)) dX5_count_84 ⟨Nat.zero_le _, Nat.zero_le _⟩) ?_
  refine lv_goto (tgt := 135) hx hb dX5_count_87 (by decide) ?_
  exact W.iret (v := nI b) hx hb hr (fun t9 ht _ => ⟨congrArg (fun z => Outcome.returned (some (Value.int z))) (rfl), ht⟩) (fun _ h9 => nomatch h9) dX5_count_135
set_option maxHeartbeats 4000000 in
set_option maxRecDepth 100000 in
theorem c_X5_count_3 (hh : ad_ok h 20)  : Met l yX5_count wsX5_count ({ frames := 9, cells := 0, slots := 0, locals := 400 }) (wd_P D cI cJ [.ref (h 0), .int 3] (sl_W cI cJ h (nI n) F Wt Sz Nu Mb (nI k) G Wk To Sl Ri (nI f) (nI b) oT oS oF (nI an) (nI as) Fo wo pa fa)) (pu_Q (some (.int wo))) 0 0 (fun _ => False) := by
  refine Met.ofW (cc := cX5_count) (maxL := 2) (ret := (some .int)) (by decide) rfl ?_
  intro p e s m args below meth c s₁ B hml hv
  obtain ⟨rfl, hP, hK⟩ := hv
  have hx := B.exec
  have hb := B.bytes
  have hr := B.returns
  have hts := atoms_spec (ws := wsX5_count) B.pre
  have hown : s.vm.findClass RX5 = some m.cls := findClass_of_methodNamed B.named
  have hlocks := B.notSynchronized
  have hiX5 : ∀ w ∈ u_ws RX5 TX5 5, w ∈ wsX5_count := by decide +kernel
  have kf40 := hts (.fieldLink RX5 40 "SortingLine" "tally" "LSortingLine$Tally;") (by decide +kernel)
  have hiX3 : ∀ w ∈ u_ws RX3 TX3 4, w ∈ wsX5_count := by decide +kernel
  have hl := lv_entry ([.ref (h 0), .int 3]) (n := 2) (Nat.le_of_ble_eq_true rfl)
  rw [lg_entry_eq]
  generalize (lg_sl ([.ref (h 0), .int 3]) ++ List.replicate (2 - (lg_sl ([.ref (h 0), .int 3])).length) Slot.unset).toArray = ls at hl ⊢
  have hl : lv_has ls 2 [(0, .ref (h 0)), (1, .int 3)] := hl
  refine lv_iload_n hx hb dX5_count_0 rfl (lv_at hl 1 rfl) ?_
  refine lv_tableIn (off := 89) (tgt := 90) hx hb dX5_count_1 (by decide) (by decide) (by decide) (by decide) ?_
  refine lv_aload_n hx hb dX5_count_90 rfl (lv_at hl 0 rfl) ?_
  refine va_get (D := D) (ci := 5) (v := .ref (h 5)) (C := RX5) (T := TX5) (N := 5) hx hb hts hiX5 hown hK.1 hP 0 rfl rfl 4 (by decide) kf40 (fun _ h9 => h9) rfl dX5_count_91 ?_
  refine va_getN (D := D) (ci := 3) (v := .int wo) (C := RX3) (T := TX3) (N := 4) hx hb hts hiX3 hown hK.1 hP 5 rfl rfl 1 (by decide) (va_Nw.use rfl hK.2.2.2.2.2.2.1) (fun _ h9 => h9) rfl dX5_count_94 ?_
  refine lv_goto (tgt := 135) hx hb dX5_count_97 (by decide) ?_
  exact W.iret (v := wo) hx hb hr (fun t9 ht _ => ⟨congrArg (fun z => Outcome.returned (some (Value.int z))) (rfl), ht⟩) (fun _ h9 => nomatch h9) dX5_count_135
set_option maxHeartbeats 4000000 in
set_option maxRecDepth 100000 in
theorem c_X5_count_4 (hh : ad_ok h 20)  : Met l yX5_count wsX5_count ({ frames := 9, cells := 0, slots := 0, locals := 400 }) (wd_P D cI cJ [.ref (h 0), .int 4] (sl_W cI cJ h (nI n) F Wt Sz Nu Mb (nI k) G Wk To Sl Ri (nI f) (nI b) oT oS oF (nI an) (nI as) Fo wo pa fa)) (pu_Q (some (.int pa))) 0 0 (fun _ => False) := by
  refine Met.ofW (cc := cX5_count) (maxL := 2) (ret := (some .int)) (by decide) rfl ?_
  intro p e s m args below meth c s₁ B hml hv
  obtain ⟨rfl, hP, hK⟩ := hv
  have hx := B.exec
  have hb := B.bytes
  have hr := B.returns
  have hts := atoms_spec (ws := wsX5_count) B.pre
  have hown : s.vm.findClass RX5 = some m.cls := findClass_of_methodNamed B.named
  have hlocks := B.notSynchronized
  have hiX5 : ∀ w ∈ u_ws RX5 TX5 5, w ∈ wsX5_count := by decide +kernel
  have kf40 := hts (.fieldLink RX5 40 "SortingLine" "tally" "LSortingLine$Tally;") (by decide +kernel)
  have hiX3 : ∀ w ∈ u_ws RX3 TX3 4, w ∈ wsX5_count := by decide +kernel
  have hl := lv_entry ([.ref (h 0), .int 4]) (n := 2) (Nat.le_of_ble_eq_true rfl)
  rw [lg_entry_eq]
  generalize (lg_sl ([.ref (h 0), .int 4]) ++ List.replicate (2 - (lg_sl ([.ref (h 0), .int 4])).length) Slot.unset).toArray = ls at hl ⊢
  have hl : lv_has ls 2 [(0, .ref (h 0)), (1, .int 4)] := hl
  refine lv_iload_n hx hb dX5_count_0 rfl (lv_at hl 1 rfl) ?_
  refine lv_tableIn (off := 99) (tgt := 100) hx hb dX5_count_1 (by decide) (by decide) (by decide) (by decide) ?_
  refine lv_aload_n hx hb dX5_count_100 rfl (lv_at hl 0 rfl) ?_
  refine va_get (D := D) (ci := 5) (v := .ref (h 5)) (C := RX5) (T := TX5) (N := 5) hx hb hts hiX5 hown hK.1 hP 0 rfl rfl 4 (by decide) kf40 (fun _ h9 => h9) rfl dX5_count_101 ?_
  refine va_getN (D := D) (ci := 3) (v := .int pa) (C := RX3) (T := TX3) (N := 4) hx hb hts hiX3 hown hK.1 hP 5 rfl rfl 2 (by decide) (va_Nw.use rfl hK.2.2.2.2.2.2.2.1) (fun _ h9 => h9) rfl dX5_count_104 ?_
  refine lv_goto (tgt := 135) hx hb dX5_count_107 (by decide) ?_
  exact W.iret (v := pa) hx hb hr (fun t9 ht _ => ⟨congrArg (fun z => Outcome.returned (some (Value.int z))) (rfl), ht⟩) (fun _ h9 => nomatch h9) dX5_count_135
set_option maxHeartbeats 4000000 in
set_option maxRecDepth 100000 in
theorem c_X5_count_5 (hh : ad_ok h 20)  : Met l yX5_count wsX5_count ({ frames := 9, cells := 0, slots := 0, locals := 400 }) (wd_P D cI cJ [.ref (h 0), .int 5] (sl_W cI cJ h (nI n) F Wt Sz Nu Mb (nI k) G Wk To Sl Ri (nI f) (nI b) oT oS oF (nI an) (nI as) Fo wo pa fa)) (pu_Q (some (.int fa))) 0 0 (fun _ => False) := by
  refine Met.ofW (cc := cX5_count) (maxL := 2) (ret := (some .int)) (by decide) rfl ?_
  intro p e s m args below meth c s₁ B hml hv
  obtain ⟨rfl, hP, hK⟩ := hv
  have hx := B.exec
  have hb := B.bytes
  have hr := B.returns
  have hts := atoms_spec (ws := wsX5_count) B.pre
  have hown : s.vm.findClass RX5 = some m.cls := findClass_of_methodNamed B.named
  have hlocks := B.notSynchronized
  have hiX5 : ∀ w ∈ u_ws RX5 TX5 5, w ∈ wsX5_count := by decide +kernel
  have kf40 := hts (.fieldLink RX5 40 "SortingLine" "tally" "LSortingLine$Tally;") (by decide +kernel)
  have hiX3 : ∀ w ∈ u_ws RX3 TX3 4, w ∈ wsX5_count := by decide +kernel
  have hl := lv_entry ([.ref (h 0), .int 5]) (n := 2) (Nat.le_of_ble_eq_true rfl)
  rw [lg_entry_eq]
  generalize (lg_sl ([.ref (h 0), .int 5]) ++ List.replicate (2 - (lg_sl ([.ref (h 0), .int 5])).length) Slot.unset).toArray = ls at hl ⊢
  have hl : lv_has ls 2 [(0, .ref (h 0)), (1, .int 5)] := hl
  refine lv_iload_n hx hb dX5_count_0 rfl (lv_at hl 1 rfl) ?_
  refine lv_tableIn (off := 109) (tgt := 110) hx hb dX5_count_1 (by decide) (by decide) (by decide) (by decide) ?_
  refine lv_aload_n hx hb dX5_count_110 rfl (lv_at hl 0 rfl) ?_
  refine va_get (D := D) (ci := 5) (v := .ref (h 5)) (C := RX5) (T := TX5) (N := 5) hx hb hts hiX5 hown hK.1 hP 0 rfl rfl 4 (by decide) kf40 (fun _ h9 => h9) rfl dX5_count_111 ?_
  refine va_getN (D := D) (ci := 3) (v := .int fa) (C := RX3) (T := TX3) (N := 4) hx hb hts hiX3 hown hK.1 hP 5 rfl rfl 3 (by decide) (va_Nw.use rfl hK.2.2.2.2.2.2.2.2.1) (fun _ h9 => h9) rfl dX5_count_114 ?_
  refine lv_goto (tgt := 135) hx hb dX5_count_117 (by decide) ?_
  exact W.iret (v := fa) hx hb hr (fun t9 ht _ => ⟨congrArg (fun z => Outcome.returned (some (Value.int z))) (rfl), ht⟩) (fun _ h9 => nomatch h9) dX5_count_135
set_option maxHeartbeats 4000000 in
set_option maxRecDepth 100000 in
theorem c_X5_count_6 (hh : ad_ok h 20)  : Met l yX5_count wsX5_count ({ frames := 9, cells := 0, slots := 0, locals := 400 }) (wd_P D cI cJ [.ref (h 0), .int 6] (sl_W cI cJ h (nI n) F Wt Sz Nu Mb (nI k) G Wk To Sl Ri (nI f) (nI b) oT oS oF (nI an) (nI as) Fo wo pa fa)) (pu_Q (some (.int (Fo 1)))) 0 0 (fun _ => False) := by
  refine Met.ofW (cc := cX5_count) (maxL := 2) (ret := (some .int)) (by decide) rfl ?_
  intro p e s m args below meth c s₁ B hml hv
  obtain ⟨rfl, hP, hK⟩ := hv
  have hx := B.exec
  have hb := B.bytes
  have hr := B.returns
  have hts := atoms_spec (ws := wsX5_count) B.pre
  have hown : s.vm.findClass RX5 = some m.cls := findClass_of_methodNamed B.named
  have hlocks := B.notSynchronized
  have hiX5 : ∀ w ∈ u_ws RX5 TX5 5, w ∈ wsX5_count := by decide +kernel
  have kf40 := hts (.fieldLink RX5 40 "SortingLine" "tally" "LSortingLine$Tally;") (by decide +kernel)
  have hl := lv_entry ([.ref (h 0), .int 6]) (n := 2) (Nat.le_of_ble_eq_true rfl)
  rw [lg_entry_eq]
  generalize (lg_sl ([.ref (h 0), .int 6]) ++ List.replicate (2 - (lg_sl ([.ref (h 0), .int 6])).length) Slot.unset).toArray = ls at hl ⊢
  have hl : lv_has ls 2 [(0, .ref (h 0)), (1, .int 6)] := hl
  refine lv_iload_n hx hb dX5_count_0 rfl (lv_at hl 1 rfl) ?_
  refine lv_tableIn (off := 119) (tgt := 120) hx hb dX5_count_1 (by decide) (by decide) (by decide) (by decide) ?_
  refine lv_aload_n hx hb dX5_count_120 rfl (lv_at hl 0 rfl) ?_
  refine va_get (D := D) (ci := 5) (v := .ref (h 5)) (C := RX5) (T := TX5) (N := 5) hx hb hts hiX5 hown hK.1 hP 0 rfl rfl 4 (by decide) kf40 (fun _ h9 => h9) rfl dX5_count_121 ?_
  refine lv_iload_n hx hb dX5_count_124 rfl (lv_at hl 1 rfl) ?_
  refine lv_iconst (v := 5) hx hb dX5_count_125 (by decide) ?_
  refine lv_isub hx hb dX5_count_126 ?_
  refine tp_i (show (6 : Int32) - 5 = 1 by decide) ?_
  refine pu_calli (va_runV (As := [.int 1]) (rest := []) ⟨hx, hb, hml, hown, hts⟩ (c_X3_foundOf hh 1 (by omega) (by omega)) (cwV 1 hts gX5_count_X3_foundOf rfl rfl rfl (by decide +kernel) ⟨Nat.le_of_ble_eq_true rfl, Nat.le_of_ble_eq_true rfl⟩) (wd_preV (ci := 3) (q0 := 5) hP hK rfl rfl) rfl rfl hl.1 rfl (lv_room (Nat.le_of_ble_eq_true rfl)) dX5_count_127 ⟨Nat.zero_le _, Nat.zero_le _⟩) ?_
  refine lv_goto (tgt := 135) hx hb dX5_count_130 (by decide) ?_
  exact W.iret (v := Fo 1) hx hb hr (fun t9 ht _ => ⟨congrArg (fun z => Outcome.returned (some (Value.int z))) (rfl), ht⟩) (fun _ h9 => nomatch h9) dX5_count_135
set_option maxHeartbeats 4000000 in
set_option maxRecDepth 100000 in
theorem c_X5_count_7 (hh : ad_ok h 20)  : Met l yX5_count wsX5_count ({ frames := 9, cells := 0, slots := 0, locals := 400 }) (wd_P D cI cJ [.ref (h 0), .int 7] (sl_W cI cJ h (nI n) F Wt Sz Nu Mb (nI k) G Wk To Sl Ri (nI f) (nI b) oT oS oF (nI an) (nI as) Fo wo pa fa)) (pu_Q (some (.int (Fo 2)))) 0 0 (fun _ => False) := by
  refine Met.ofW (cc := cX5_count) (maxL := 2) (ret := (some .int)) (by decide) rfl ?_
  intro p e s m args below meth c s₁ B hml hv
  obtain ⟨rfl, hP, hK⟩ := hv
  have hx := B.exec
  have hb := B.bytes
  have hr := B.returns
  have hts := atoms_spec (ws := wsX5_count) B.pre
  have hown : s.vm.findClass RX5 = some m.cls := findClass_of_methodNamed B.named
  have hlocks := B.notSynchronized
  have hiX5 : ∀ w ∈ u_ws RX5 TX5 5, w ∈ wsX5_count := by decide +kernel
  have kf40 := hts (.fieldLink RX5 40 "SortingLine" "tally" "LSortingLine$Tally;") (by decide +kernel)
  have hl := lv_entry ([.ref (h 0), .int 7]) (n := 2) (Nat.le_of_ble_eq_true rfl)
  rw [lg_entry_eq]
  generalize (lg_sl ([.ref (h 0), .int 7]) ++ List.replicate (2 - (lg_sl ([.ref (h 0), .int 7])).length) Slot.unset).toArray = ls at hl ⊢
  have hl : lv_has ls 2 [(0, .ref (h 0)), (1, .int 7)] := hl
  refine lv_iload_n hx hb dX5_count_0 rfl (lv_at hl 1 rfl) ?_
  refine lv_tableIn (off := 119) (tgt := 120) hx hb dX5_count_1 (by decide) (by decide) (by decide) (by decide) ?_
  refine lv_aload_n hx hb dX5_count_120 rfl (lv_at hl 0 rfl) ?_
  refine va_get (D := D) (ci := 5) (v := .ref (h 5)) (C := RX5) (T := TX5) (N := 5) hx hb hts hiX5 hown hK.1 hP 0 rfl rfl 4 (by decide) kf40 (fun _ h9 => h9) rfl dX5_count_121 ?_
  refine lv_iload_n hx hb dX5_count_124 rfl (lv_at hl 1 rfl) ?_
  refine lv_iconst (v := 5) hx hb dX5_count_125 (by decide) ?_
  refine lv_isub hx hb dX5_count_126 ?_
  refine tp_i (show (7 : Int32) - 5 = 2 by decide) ?_
  refine pu_calli (va_runV (As := [.int 2]) (rest := []) ⟨hx, hb, hml, hown, hts⟩ (c_X3_foundOf hh 2 (by omega) (by omega)) (cwV 1 hts gX5_count_X3_foundOf rfl rfl rfl (by decide +kernel) ⟨Nat.le_of_ble_eq_true rfl, Nat.le_of_ble_eq_true rfl⟩) (wd_preV (ci := 3) (q0 := 5) hP hK rfl rfl) rfl rfl hl.1 rfl (lv_room (Nat.le_of_ble_eq_true rfl)) dX5_count_127 ⟨Nat.zero_le _, Nat.zero_le _⟩) ?_
  refine lv_goto (tgt := 135) hx hb dX5_count_130 (by decide) ?_
  exact W.iret (v := Fo 2) hx hb hr (fun t9 ht _ => ⟨congrArg (fun z => Outcome.returned (some (Value.int z))) (rfl), ht⟩) (fun _ h9 => nomatch h9) dX5_count_135
set_option maxHeartbeats 4000000 in
set_option maxRecDepth 100000 in
theorem c_X5_count_8 (hh : ad_ok h 20)  : Met l yX5_count wsX5_count ({ frames := 9, cells := 0, slots := 0, locals := 400 }) (wd_P D cI cJ [.ref (h 0), .int 8] (sl_W cI cJ h (nI n) F Wt Sz Nu Mb (nI k) G Wk To Sl Ri (nI f) (nI b) oT oS oF (nI an) (nI as) Fo wo pa fa)) (pu_Q (some (.int (Fo 3)))) 0 0 (fun _ => False) := by
  refine Met.ofW (cc := cX5_count) (maxL := 2) (ret := (some .int)) (by decide) rfl ?_
  intro p e s m args below meth c s₁ B hml hv
  obtain ⟨rfl, hP, hK⟩ := hv
  have hx := B.exec
  have hb := B.bytes
  have hr := B.returns
  have hts := atoms_spec (ws := wsX5_count) B.pre
  have hown : s.vm.findClass RX5 = some m.cls := findClass_of_methodNamed B.named
  have hlocks := B.notSynchronized
  have hiX5 : ∀ w ∈ u_ws RX5 TX5 5, w ∈ wsX5_count := by decide +kernel
  have kf40 := hts (.fieldLink RX5 40 "SortingLine" "tally" "LSortingLine$Tally;") (by decide +kernel)
  have hl := lv_entry ([.ref (h 0), .int 8]) (n := 2) (Nat.le_of_ble_eq_true rfl)
  rw [lg_entry_eq]
  generalize (lg_sl ([.ref (h 0), .int 8]) ++ List.replicate (2 - (lg_sl ([.ref (h 0), .int 8])).length) Slot.unset).toArray = ls at hl ⊢
  have hl : lv_has ls 2 [(0, .ref (h 0)), (1, .int 8)] := hl
  refine lv_iload_n hx hb dX5_count_0 rfl (lv_at hl 1 rfl) ?_
  refine lv_tableIn (off := 119) (tgt := 120) hx hb dX5_count_1 (by decide) (by decide) (by decide) (by decide) ?_
  refine lv_aload_n hx hb dX5_count_120 rfl (lv_at hl 0 rfl) ?_
  refine va_get (D := D) (ci := 5) (v := .ref (h 5)) (C := RX5) (T := TX5) (N := 5) hx hb hts hiX5 hown hK.1 hP 0 rfl rfl 4 (by decide) kf40 (fun _ h9 => h9) rfl dX5_count_121 ?_
  refine lv_iload_n hx hb dX5_count_124 rfl (lv_at hl 1 rfl) ?_
  refine lv_iconst (v := 5) hx hb dX5_count_125 (by decide) ?_
  refine lv_isub hx hb dX5_count_126 ?_
  refine tp_i (show (8 : Int32) - 5 = 3 by decide) ?_
  refine pu_calli (va_runV (As := [.int 3]) (rest := []) ⟨hx, hb, hml, hown, hts⟩ (c_X3_foundOf hh 3 (by omega) (by omega)) (cwV 1 hts gX5_count_X3_foundOf rfl rfl rfl (by decide +kernel) ⟨Nat.le_of_ble_eq_true rfl, Nat.le_of_ble_eq_true rfl⟩) (wd_preV (ci := 3) (q0 := 5) hP hK rfl rfl) rfl rfl hl.1 rfl (lv_room (Nat.le_of_ble_eq_true rfl)) dX5_count_127 ⟨Nat.zero_le _, Nat.zero_le _⟩) ?_
  refine lv_goto (tgt := 135) hx hb dX5_count_130 (by decide) ?_
  exact W.iret (v := Fo 3) hx hb hr (fun t9 ht _ => ⟨congrArg (fun z => Outcome.returned (some (Value.int z))) (rfl), ht⟩) (fun _ h9 => nomatch h9) dX5_count_135
set_option maxHeartbeats 4000000 in
set_option maxRecDepth 100000 in
theorem c_X5_count_9 (hh : ad_ok h 20)  : Met l yX5_count wsX5_count ({ frames := 9, cells := 0, slots := 0, locals := 400 }) (wd_P D cI cJ [.ref (h 0), .int 9] (sl_W cI cJ h (nI n) F Wt Sz Nu Mb (nI k) G Wk To Sl Ri (nI f) (nI b) oT oS oF (nI an) (nI as) Fo wo pa fa)) (pu_Q (some (.int (Fo 4)))) 0 0 (fun _ => False) := by
  refine Met.ofW (cc := cX5_count) (maxL := 2) (ret := (some .int)) (by decide) rfl ?_
  intro p e s m args below meth c s₁ B hml hv
  obtain ⟨rfl, hP, hK⟩ := hv
  have hx := B.exec
  have hb := B.bytes
  have hr := B.returns
  have hts := atoms_spec (ws := wsX5_count) B.pre
  have hown : s.vm.findClass RX5 = some m.cls := findClass_of_methodNamed B.named
  have hlocks := B.notSynchronized
  have hiX5 : ∀ w ∈ u_ws RX5 TX5 5, w ∈ wsX5_count := by decide +kernel
  have kf40 := hts (.fieldLink RX5 40 "SortingLine" "tally" "LSortingLine$Tally;") (by decide +kernel)
  have hl := lv_entry ([.ref (h 0), .int 9]) (n := 2) (Nat.le_of_ble_eq_true rfl)
  rw [lg_entry_eq]
  generalize (lg_sl ([.ref (h 0), .int 9]) ++ List.replicate (2 - (lg_sl ([.ref (h 0), .int 9])).length) Slot.unset).toArray = ls at hl ⊢
  have hl : lv_has ls 2 [(0, .ref (h 0)), (1, .int 9)] := hl
  refine lv_iload_n hx hb dX5_count_0 rfl (lv_at hl 1 rfl) ?_
  refine lv_tableIn (off := 119) (tgt := 120) hx hb dX5_count_1 (by decide) (by decide) (by decide) (by decide) ?_
  refine lv_aload_n hx hb dX5_count_120 rfl (lv_at hl 0 rfl) ?_
  refine va_get (D := D) (ci := 5) (v := .ref (h 5)) (C := RX5) (T := TX5) (N := 5) hx hb hts hiX5 hown hK.1 hP 0 rfl rfl 4 (by decide) kf40 (fun _ h9 => h9) rfl dX5_count_121 ?_
  refine lv_iload_n hx hb dX5_count_124 rfl (lv_at hl 1 rfl) ?_
  refine lv_iconst (v := 5) hx hb dX5_count_125 (by decide) ?_
  refine lv_isub hx hb dX5_count_126 ?_
  refine tp_i (show (9 : Int32) - 5 = 4 by decide) ?_
  refine pu_calli (va_runV (As := [.int 4]) (rest := []) ⟨hx, hb, hml, hown, hts⟩ (c_X3_foundOf hh 4 (by omega) (by omega)) (cwV 1 hts gX5_count_X3_foundOf rfl rfl rfl (by decide +kernel) ⟨Nat.le_of_ble_eq_true rfl, Nat.le_of_ble_eq_true rfl⟩) (wd_preV (ci := 3) (q0 := 5) hP hK rfl rfl) rfl rfl hl.1 rfl (lv_room (Nat.le_of_ble_eq_true rfl)) dX5_count_127 ⟨Nat.zero_le _, Nat.zero_le _⟩) ?_
  refine lv_goto (tgt := 135) hx hb dX5_count_130 (by decide) ?_
  exact W.iret (v := Fo 4) hx hb hr (fun t9 ht _ => ⟨congrArg (fun z => Outcome.returned (some (Value.int z))) (rfl), ht⟩) (fun _ h9 => nomatch h9) dX5_count_135
set_option maxHeartbeats 4000000 in
set_option maxRecDepth 100000 in
theorem c_X5_count_10 (hh : ad_ok h 20)  : Met l yX5_count wsX5_count ({ frames := 9, cells := 0, slots := 0, locals := 400 }) (wd_P D cI cJ [.ref (h 0), .int 10] (sl_W cI cJ h (nI n) F Wt Sz Nu Mb (nI k) G Wk To Sl Ri (nI f) (nI b) oT oS oF (nI an) (nI as) Fo wo pa fa)) (pu_Q (some (.int (Fo 5)))) 0 0 (fun _ => False) := by
  refine Met.ofW (cc := cX5_count) (maxL := 2) (ret := (some .int)) (by decide) rfl ?_
  intro p e s m args below meth c s₁ B hml hv
  obtain ⟨rfl, hP, hK⟩ := hv
  have hx := B.exec
  have hb := B.bytes
  have hr := B.returns
  have hts := atoms_spec (ws := wsX5_count) B.pre
  have hown : s.vm.findClass RX5 = some m.cls := findClass_of_methodNamed B.named
  have hlocks := B.notSynchronized
  have hiX5 : ∀ w ∈ u_ws RX5 TX5 5, w ∈ wsX5_count := by decide +kernel
  have kf40 := hts (.fieldLink RX5 40 "SortingLine" "tally" "LSortingLine$Tally;") (by decide +kernel)
  have hl := lv_entry ([.ref (h 0), .int 10]) (n := 2) (Nat.le_of_ble_eq_true rfl)
  rw [lg_entry_eq]
  generalize (lg_sl ([.ref (h 0), .int 10]) ++ List.replicate (2 - (lg_sl ([.ref (h 0), .int 10])).length) Slot.unset).toArray = ls at hl ⊢
  have hl : lv_has ls 2 [(0, .ref (h 0)), (1, .int 10)] := hl
  refine lv_iload_n hx hb dX5_count_0 rfl (lv_at hl 1 rfl) ?_
  refine lv_tableIn (off := 119) (tgt := 120) hx hb dX5_count_1 (by decide) (by decide) (by decide) (by decide) ?_
  refine lv_aload_n hx hb dX5_count_120 rfl (lv_at hl 0 rfl) ?_
  refine va_get (D := D) (ci := 5) (v := .ref (h 5)) (C := RX5) (T := TX5) (N := 5) hx hb hts hiX5 hown hK.1 hP 0 rfl rfl 4 (by decide) kf40 (fun _ h9 => h9) rfl dX5_count_121 ?_
  refine lv_iload_n hx hb dX5_count_124 rfl (lv_at hl 1 rfl) ?_
  refine lv_iconst (v := 5) hx hb dX5_count_125 (by decide) ?_
  refine lv_isub hx hb dX5_count_126 ?_
  refine tp_i (show (10 : Int32) - 5 = 5 by decide) ?_
  refine pu_calli (va_runV (As := [.int 5]) (rest := []) ⟨hx, hb, hml, hown, hts⟩ (c_X3_foundOf hh 5 (by omega) (by omega)) (cwV 1 hts gX5_count_X3_foundOf rfl rfl rfl (by decide +kernel) ⟨Nat.le_of_ble_eq_true rfl, Nat.le_of_ble_eq_true rfl⟩) (wd_preV (ci := 3) (q0 := 5) hP hK rfl rfl) rfl rfl hl.1 rfl (lv_room (Nat.le_of_ble_eq_true rfl)) dX5_count_127 ⟨Nat.zero_le _, Nat.zero_le _⟩) ?_
  refine lv_goto (tgt := 135) hx hb dX5_count_130 (by decide) ?_
  exact W.iret (v := Fo 5) hx hb hr (fun t9 ht _ => ⟨congrArg (fun z => Outcome.returned (some (Value.int z))) (rfl), ht⟩) (fun _ h9 => nomatch h9) dX5_count_135
theorem sw_X5_count_1 (x : Int32) : ((x.toInt < 0 ∨ 10 < x.toInt) ∧ ¬ x = 0 ∧ ¬ x = 1 ∧ ¬ x = 2 ∧ ¬ x = 3 ∧ ¬ x = 4 ∧ ¬ x = 5 ∧ ¬ x = 6 ∧ ¬ x = 7 ∧ ¬ x = 8 ∧ ¬ x = 9 ∧ ¬ x = 10) ∨ x = 0 ∨ x = 1 ∨ x = 2 ∨ x = 3 ∨ x = 4 ∨ x = 5 ∨ x = 6 ∨ x = 7 ∨ x = 8 ∨ x = 9 ∨ x = 10 := by
  by_cases h1 : x.toInt < 0
  · exact Or.inl ⟨Or.inl h1, (fun h => by rw [h] at h1; exact absurd h1 (by decide)), (fun h => by rw [h] at h1; exact absurd h1 (by decide)), (fun h => by rw [h] at h1; exact absurd h1 (by decide)), (fun h => by rw [h] at h1; exact absurd h1 (by decide)), (fun h => by rw [h] at h1; exact absurd h1 (by decide)), (fun h => by rw [h] at h1; exact absurd h1 (by decide)), (fun h => by rw [h] at h1; exact absurd h1 (by decide)), (fun h => by rw [h] at h1; exact absurd h1 (by decide)), (fun h => by rw [h] at h1; exact absurd h1 (by decide)), (fun h => by rw [h] at h1; exact absurd h1 (by decide)), (fun h => by rw [h] at h1; exact absurd h1 (by decide))⟩
  by_cases h2 : 10 < x.toInt
  · exact Or.inl ⟨Or.inr h2, (fun h => by rw [h] at h2; exact absurd h2 (by decide)), (fun h => by rw [h] at h2; exact absurd h2 (by decide)), (fun h => by rw [h] at h2; exact absurd h2 (by decide)), (fun h => by rw [h] at h2; exact absurd h2 (by decide)), (fun h => by rw [h] at h2; exact absurd h2 (by decide)), (fun h => by rw [h] at h2; exact absurd h2 (by decide)), (fun h => by rw [h] at h2; exact absurd h2 (by decide)), (fun h => by rw [h] at h2; exact absurd h2 (by decide)), (fun h => by rw [h] at h2; exact absurd h2 (by decide)), (fun h => by rw [h] at h2; exact absurd h2 (by decide)), (fun h => by rw [h] at h2; exact absurd h2 (by decide))⟩
  have h3 : x.toInt = 0 ∨ x.toInt = 1 ∨ x.toInt = 2 ∨ x.toInt = 3 ∨ x.toInt = 4 ∨ x.toInt = 5 ∨ x.toInt = 6 ∨ x.toInt = 7 ∨ x.toInt = 8 ∨ x.toInt = 9 ∨ x.toInt = 10 := by omega
  refine Or.inr ?_
  rcases h3 with h | h | h | h | h | h | h | h | h | h | h
  · exact Or.inl <| (Int32.toInt_inj.mp (h.trans (by decide)))
  · exact Or.inr <| Or.inl <| (Int32.toInt_inj.mp (h.trans (by decide)))
  · exact Or.inr <| Or.inr <| Or.inl <| (Int32.toInt_inj.mp (h.trans (by decide)))
  · exact Or.inr <| Or.inr <| Or.inr <| Or.inl <| (Int32.toInt_inj.mp (h.trans (by decide)))
  · exact Or.inr <| Or.inr <| Or.inr <| Or.inr <| Or.inl <| (Int32.toInt_inj.mp (h.trans (by decide)))
  · exact Or.inr <| Or.inr <| Or.inr <| Or.inr <| Or.inr <| Or.inl <| (Int32.toInt_inj.mp (h.trans (by decide)))
  · exact Or.inr <| Or.inr <| Or.inr <| Or.inr <| Or.inr <| Or.inr <| Or.inl <| (Int32.toInt_inj.mp (h.trans (by decide)))
  · exact Or.inr <| Or.inr <| Or.inr <| Or.inr <| Or.inr <| Or.inr <| Or.inr <| Or.inl <| (Int32.toInt_inj.mp (h.trans (by decide)))
  · exact Or.inr <| Or.inr <| Or.inr <| Or.inr <| Or.inr <| Or.inr <| Or.inr <| Or.inr <| Or.inl <| (Int32.toInt_inj.mp (h.trans (by decide)))
  · exact Or.inr <| Or.inr <| Or.inr <| Or.inr <| Or.inr <| Or.inr <| Or.inr <| Or.inr <| Or.inr <| Or.inl <| (Int32.toInt_inj.mp (h.trans (by decide)))
  · exact Or.inr <| Or.inr <| Or.inr <| Or.inr <| Or.inr <| Or.inr <| Or.inr <| Or.inr <| Or.inr <| Or.inr <| (Int32.toInt_inj.mp (h.trans (by decide)))
set_option maxHeartbeats 4000000 in
set_option maxRecDepth 100000 in
theorem c_X5_count_o (hh : ad_ok h 20) (wt : Int32) (h1 : wt.toInt < 0 ∨ 10 < wt.toInt) : Met l yX5_count wsX5_count ({ frames := 9, cells := 0, slots := 0, locals := 400 }) (wd_P D cI cJ [.ref (h 0), .int wt] (sl_W cI cJ h (nI n) F Wt Sz Nu Mb (nI k) G Wk To Sl Ri (nI f) (nI b) oT oS oF (nI an) (nI as) Fo wo pa fa)) (pu_Q (some (.int (-2)))) 0 0 (fun _ => False) := by
  refine Met.ofW (cc := cX5_count) (maxL := 2) (ret := (some .int)) (by decide) rfl ?_
  intro p e s m args below meth c s₁ B hml hv
  obtain ⟨rfl, hP, hK⟩ := hv
  have hx := B.exec
  have hb := B.bytes
  have hr := B.returns
  have hts := atoms_spec (ws := wsX5_count) B.pre
  have hown : s.vm.findClass RX5 = some m.cls := findClass_of_methodNamed B.named
  have hlocks := B.notSynchronized
  have hl := lv_entry ([.ref (h 0), .int wt]) (n := 2) (Nat.le_of_ble_eq_true rfl)
  rw [lg_entry_eq]
  generalize (lg_sl ([.ref (h 0), .int wt]) ++ List.replicate (2 - (lg_sl ([.ref (h 0), .int wt])).length) Slot.unset).toArray = ls at hl ⊢
  have hl : lv_has ls 2 [(0, .ref (h 0)), (1, .int wt)] := hl
  refine lv_iload_n hx hb dX5_count_0 rfl (lv_at hl 1 rfl) ?_
  refine lv_tableOut (tgt := 133) hx hb dX5_count_1 h1 (by decide) ?_
  refine lv_bipush (v := (-2)) hx hb dX5_count_133 (by decide) ?_
  exact W.iret (v := (-2)) hx hb hr (fun t9 ht _ => ⟨congrArg (fun z => Outcome.returned (some (Value.int z))) (rfl), ht⟩) (fun _ h9 => nomatch h9) dX5_count_135
set_option maxHeartbeats 4000000 in
set_option maxRecDepth 100000 in
theorem c_X5_clear_a (hh : ad_ok h 20)  : Met l yX5_clear wsX5_clear ({ frames := 9, cells := 0, slots := 0, locals := 400 }) (wd_P D cI cJ [.ref (h 0)] (sl_W cI cJ h (nI n) F Wt Sz Nu Mb (nI k) G Wk To Sl Ri (nI f) (nI b) oT oS oF (nI an) (nI as) Fo wo pa fa)) (mu_Q D (ad_A h 20) (some (.int (nI n))) (sl_W cI cJ h 0 F Wt Sz Nu Mb 0 G Wk To Sl Ri 0 0 oT oS oF 0 0 (z6I Fo) 0 0 0)) 0 0 (ad_A h 20) := by
  refine Met.ofW (cc := cX5_clear) (maxL := 2) (ret := (some .int)) (by decide) rfl ?_
  intro p e s m args below meth c s₁ B hml hv
  obtain ⟨rfl, hP, hK⟩ := hv
  have hx := B.exec
  have hb := B.bytes
  have hr := B.returns
  have hts := atoms_spec (ws := wsX5_clear) B.pre
  have hown : s.vm.findClass RX5 = some m.cls := findClass_of_methodNamed B.named
  have hlocks := B.notSynchronized
  have hiX5 : ∀ w ∈ u_ws RX5 TX5 5, w ∈ wsX5_clear := by decide +kernel
  have kf10 := hts (.fieldLink RX5 10 "SortingLine" "things" "LSortingLine$Things;") (by decide +kernel)
  have kf19 := hts (.fieldLink RX5 19 "SortingLine" "stations" "LSortingLine$Stations;") (by decide +kernel)
  have kf26 := hts (.fieldLink RX5 26 "SortingLine" "onBelt" "LSortingLine$Belt;") (by decide +kernel)
  have kf33 := hts (.fieldLink RX5 33 "SortingLine" "aside" "LSortingLine$Side;") (by decide +kernel)
  have kf40 := hts (.fieldLink RX5 40 "SortingLine" "tally" "LSortingLine$Tally;") (by decide +kernel)
  have hS : va_S (ad_A h 20) s.heap s.heap [] := va_S.rf
  have hl := lv_entry ([.ref (h 0)]) (n := 2) (Nat.le_of_ble_eq_true rfl)
  rw [lg_entry_eq]
  generalize (lg_sl ([.ref (h 0)]) ++ List.replicate (2 - (lg_sl ([.ref (h 0)])).length) Slot.unset).toArray = ls at hl ⊢
  have hl : lv_has ls 2 [(0, .ref (h 0))] := hl
  refine lv_aload_n hx hb dX5_clear_0 rfl (lv_at hl 0 rfl) ?_
  refine va_get (D := D) (ci := 5) (v := .ref (h 1)) (C := RX5) (T := TX5) (N := 5) hx hb hts hiX5 hown hK.1 hP 0 rfl rfl 0 (by decide) kf10 (fun _ h9 => h9) rfl dX5_clear_1 ?_
  refine pu_calli (va_runV (As := []) (rest := []) ⟨hx, hb, hml, hown, hts⟩ (c_X4_howMany hh) (cwV 0 hts gX5_clear_X4_howMany rfl rfl rfl (by decide +kernel) ⟨Nat.le_of_ble_eq_true rfl, Nat.le_of_ble_eq_true rfl⟩) (wd_preV (ci := 4) (q0 := 1) hP hK rfl rfl) rfl rfl hl.1 rfl (lv_room (Nat.le_of_ble_eq_true rfl)) dX5_clear_4 ⟨Nat.zero_le _, Nat.zero_le _⟩) ?_
  refine lv_istore_n (lv' := [(1, .int (nI n)), (0, .ref (h 0))]) hx hb dX5_clear_7 rfl hl (by decide) rfl (fun ls hl => ?_)
  refine lv_aload_n hx hb dX5_clear_8 rfl (lv_at hl 1 rfl) ?_
  refine va_get (D := D) (ci := 5) (v := .ref (h 1)) (C := RX5) (T := TX5) (N := 5) hx hb hts hiX5 hown hK.1 hP 0 rfl rfl 0 (by decide) kf10 (fun _ h9 => h9) rfl dX5_clear_9 ?_
  refine mu_callv (va_runV (As := []) (rest := []) ⟨hx, hb, hml, hown, hts⟩ (c_X4_forget hh) (cwV 0 hts gX5_clear_X4_forget rfl rfl rfl (by decide +kernel) ⟨Nat.le_of_ble_eq_true rfl, Nat.le_of_ble_eq_true rfl⟩) (wd_preV (ci := 4) (q0 := 1) hP hK rfl rfl) rfl rfl hl.1 rfl (lv_room (Nat.le_of_ble_eq_true rfl)) dX5_clear_12 ⟨Nat.zero_le _, Nat.zero_le _⟩) hS (fun H locs hP hS => ?_)
  have hP : va_P D kC (sl_W cI cJ h 0 F Wt Sz Nu Mb (nI k) G Wk To Sl Ri (nI f) (nI b) oT oS oF (nI an) (nI as) Fo wo pa fa) H := hP
  refine lv_aload_n hx hb dX5_clear_15 rfl (lv_at hl 1 rfl) ?_
  refine va_get (D := D) (ci := 5) (v := .ref (h 2)) (C := RX5) (T := TX5) (N := 5) hx hb hts hiX5 hown hK.1 hP 0 rfl rfl 1 (by decide) kf19 (fun _ h9 => h9) rfl dX5_clear_16 ?_
  refine mu_callv (va_runV (As := []) (rest := []) ⟨hx, hb, hml, hown, hts⟩ (c_X2_forget hh) (cwV 0 hts gX5_clear_X2_forget rfl rfl rfl (by decide +kernel) ⟨Nat.le_of_ble_eq_true rfl, Nat.le_of_ble_eq_true rfl⟩) (wd_preV (ci := 2) (q0 := 2) hP hK rfl rfl) rfl rfl hl.1 rfl (lv_room (Nat.le_of_ble_eq_true rfl)) dX5_clear_19 ⟨Nat.zero_le _, Nat.zero_le _⟩) hS (fun H locs hP hS => ?_)
  have hP : va_P D kC (sl_W cI cJ h 0 F Wt Sz Nu Mb 0 G Wk To Sl Ri (nI f) (nI b) oT oS oF (nI an) (nI as) Fo wo pa fa) H := hP
  refine lv_aload_n hx hb dX5_clear_22 rfl (lv_at hl 1 rfl) ?_
  refine va_get (D := D) (ci := 5) (v := .ref (h 3)) (C := RX5) (T := TX5) (N := 5) hx hb hts hiX5 hown hK.1 hP 0 rfl rfl 2 (by decide) kf26 (fun _ h9 => h9) rfl dX5_clear_23 ?_
  refine mu_callv (va_runV (As := []) (rest := []) ⟨hx, hb, hml, hown, hts⟩ (c_X0_forget hh) (cwV 0 hts gX5_clear_X0_forget rfl rfl rfl (by decide +kernel) ⟨Nat.le_of_ble_eq_true rfl, Nat.le_of_ble_eq_true rfl⟩) (wd_preV (ci := 0) (q0 := 3) hP hK rfl rfl) rfl rfl hl.1 rfl (lv_room (Nat.le_of_ble_eq_true rfl)) dX5_clear_26 ⟨Nat.zero_le _, Nat.zero_le _⟩) hS (fun H locs hP hS => ?_)
  have hP : va_P D kC (sl_W cI cJ h 0 F Wt Sz Nu Mb 0 G Wk To Sl Ri 0 0 oT oS oF (nI an) (nI as) Fo wo pa fa) H := hP
  refine lv_aload_n hx hb dX5_clear_29 rfl (lv_at hl 1 rfl) ?_
  refine va_get (D := D) (ci := 5) (v := .ref (h 4)) (C := RX5) (T := TX5) (N := 5) hx hb hts hiX5 hown hK.1 hP 0 rfl rfl 3 (by decide) kf33 (fun _ h9 => h9) rfl dX5_clear_30 ?_
  refine mu_callv (va_runV (As := []) (rest := []) ⟨hx, hb, hml, hown, hts⟩ (c_X1_forget hh) (cwV 0 hts gX5_clear_X1_forget rfl rfl rfl (by decide +kernel) ⟨Nat.le_of_ble_eq_true rfl, Nat.le_of_ble_eq_true rfl⟩) (wd_preV (ci := 1) (q0 := 4) hP hK rfl rfl) rfl rfl hl.1 rfl (lv_room (Nat.le_of_ble_eq_true rfl)) dX5_clear_33 ⟨Nat.zero_le _, Nat.zero_le _⟩) hS (fun H locs hP hS => ?_)
  have hP : va_P D kC (sl_W cI cJ h 0 F Wt Sz Nu Mb 0 G Wk To Sl Ri 0 0 oT oS oF 0 0 Fo wo pa fa) H := hP
  refine lv_aload_n hx hb dX5_clear_36 rfl (lv_at hl 1 rfl) ?_
  refine va_get (D := D) (ci := 5) (v := .ref (h 5)) (C := RX5) (T := TX5) (N := 5) hx hb hts hiX5 hown hK.1 hP 0 rfl rfl 4 (by decide) kf40 (fun _ h9 => h9) rfl dX5_clear_37 ?_
  refine mu_callv (va_runV (As := []) (rest := []) ⟨hx, hb, hml, hown, hts⟩ (c_X3_forget hh) (cwV 0 hts gX5_clear_X3_forget rfl rfl rfl (by decide +kernel) ⟨Nat.le_of_ble_eq_true rfl, Nat.le_of_ble_eq_true rfl⟩) (wd_preV (ci := 3) (q0 := 5) hP hK rfl rfl) rfl rfl hl.1 rfl (lv_room (Nat.le_of_ble_eq_true rfl)) dX5_clear_40 ⟨Nat.zero_le _, Nat.zero_le _⟩) hS (fun H locs hP hS => ?_)
  have hP : va_P D kC (sl_W cI cJ h 0 F Wt Sz Nu Mb 0 G Wk To Sl Ri 0 0 oT oS oF 0 0 (z6I Fo) 0 0 0) H := hP
  refine lv_iload_n hx hb dX5_clear_43 rfl (lv_at hl 0 rfl) ?_
  exact W.iret (v := nI n) hx hb hr (fun t9 ht _ => ⟨congrArg (fun z => Outcome.returned (some (Value.int z))) (rfl), by rw [ht]; exact hP, hS.F ht⟩) hS.2.2 dX5_clear_44
end SubF
