/-! the reference's works, goesAside, steps, step, run -/
def shA (Sd : Nat → Int32) (y : Nat) : Nat → Int32 := fun j => if y < j ∧ j < 60 then Sd (j - 3) else Sd j
theorem shA_0 {Sd : Nat → Int32} : shA Sd 59 = Sd := by
  funext j; unfold shA; rw [if_neg (by omega)]
theorem shA_s {Sd : Nat → Int32} {y : Nat} (h : 3 ≤ y) (h2 : y < 60) : upd (shA Sd y) y (shA Sd y (y - 3)) = shA Sd (y - 1) := by
  funext j
  unfold upd shA
  by_cases e : j = y
  · subst e
    rw [if_pos rfl, if_neg (by omega), if_pos (by omega)]
  · rw [if_neg e]
    by_cases e2 : y < j ∧ j < 60
    · rw [if_pos e2, if_pos (by omega)]
    · rw [if_neg e2, if_neg (by omega)]
def shB (Bf : Nat → Int32) (y : Nat) : Nat → Int32 := fun j => if j < y then Bf (j + 1) else Bf j
theorem shB_0 {Bf : Nat → Int32} : shB Bf 0 = Bf := by funext j; unfold shB; rw [if_neg (by omega)]
theorem shB_s {Bf : Nat → Int32} {y : Nat} : upd (shB Bf y) y (shB Bf y (y + 1)) = shB Bf (y + 1) := by
  funext j
  unfold upd shB
  by_cases e : j = y
  · subst e
    rw [if_pos rfl, if_neg (by omega), if_pos (by omega)]
  · rw [if_neg e]
    by_cases e2 : j < y
    · rw [if_pos e2, if_pos (by omega)]
    · rw [if_neg e2, if_neg (by omega)]
abbrev asD (Sd : Nat → Int32) (t s f : Int32) : Nat → Int32 := upd (upd (upd (shA Sd 2) 0 t) 1 s) 2 f
section MoC
variable {l : Launch} {D : va_G} {cI cJ : ClassId} {g : Nat → Nat} {n k b as : Nat} {fx : Int32} {F Wt Sz : Nat → Int32} {Nu : Nat → Int64} {Pl Bf G Wk : Nat → Int32} {To : Nat → Int64} {Sl Sd Fo : Nat → Int32} {wo pa fa : Int32}
set_option maxHeartbeats 4000000 in
set_option maxRecDepth 100000 in
theorem c_X6_work_c (hh : ad_ok g 16) (hn : n ≤ 100) (hk : k ≤ 8) (r : Nat) (hr9 : r < n) (i : Nat) (hi : i < k) (a : Nat) (ha : a < 16) (hFa : F r = nI a) (w9 : Nat) (hw9 : w9 < 13) (hw : Wk i = nI w9) (c9 : Nat) (hc : c9 < 18) (hwn : wn_ts w9 = nI c9) (hko : ko (F r) (nI c9) = false) : Met l yX6_works wsX6_works ({ frames := 7, cells := 0, slots := 0, locals := 300 }) (wd_P D cI cJ [.ref (g 0), .int (nI i), .int (nI r)] (mo_W cI cJ g fx (nI n) F Wt Sz Nu Pl Bf (nI b) (nI k) G Wk To Sl Sd (nI as) wo pa fa Fo)) (pu_Q (some (.int 1))) 0 0 (fun _ => False) := by
  refine Met.ofW (cc := cX6_works) (maxL := 5) (ret := (some .int)) (by decide) rfl ?_
  intro p e s m args below meth c s₁ B hml hv
  obtain ⟨rfl, hP, hK⟩ := hv
  have hx := B.exec
  have hb := B.bytes
  have hr := B.returns
  have hts := atoms_spec (ws := wsX6_works) B.pre
  have hown : s.vm.findClass RX6 = some m.cls := findClass_of_methodNamed B.named
  have hlocks := B.notSynchronized
  have hiX6 : ∀ w ∈ u_ws RX6 TX6 23, w ∈ wsX6_works := by decide +kernel
  have kf44 := hts (.fieldLink RX6 44 "SortingLineModel" "works" "[I") (by decide +kernel)
  have kf35 := hts (.fieldLink RX6 35 "SortingLineModel" "wants" "[I") (by decide +kernel)
  have hl := lv_entry ([.ref (g 0), .int (nI i), .int (nI r)]) (n := 5) (Nat.le_of_ble_eq_true rfl)
  rw [lg_entry_eq]
  generalize (lg_sl ([.ref (g 0), .int (nI i), .int (nI r)]) ++ List.replicate (5 - (lg_sl ([.ref (g 0), .int (nI i), .int (nI r)])).length) Slot.unset).toArray = ls at hl ⊢
  have hl : lv_has ls 5 [(0, .ref (g 0)), (1, .int (nI i)), (2, .int (nI r))] := hl
  refine lv_aload_n hx hb dX6_works_0 rfl (lv_at hl 0 rfl) ?_
  refine va_get (D := D) (ci := 6) (v := .ref (g 11)) (C := RX6) (T := TX6) (N := 23) hx hb hts hiX6 hown hK.1 hP 0 rfl rfl 14 (by decide) kf44 (fun _ h9 => h9) rfl dX6_works_1 ?_
  refine lv_iload_n hx hb dX6_works_4 rfl (lv_at hl 1 rfl) ?_
  refine ga_ild hx hb hK hP 11 rfl i (rfl) (by omega) (by decide) dX6_works_5 ?_
  refine tp_i (y := nI w9) (hw) ?_
  refine lv_istore_n (lv' := [(3, .int (nI w9)), (0, .ref (g 0)), (1, .int (nI i)), (2, .int (nI r))]) hx hb dX6_works_6 rfl hl (by decide) rfl (fun ls hl => ?_)
  refine lv_aload_n hx hb dX6_works_7 rfl (lv_at hl 1 rfl) ?_
  refine lv_iload_n hx hb dX6_works_8 rfl (lv_at hl 3 rfl) ?_
  refine lv_aload_n hx hb dX6_works_9 rfl (lv_at hl 1 rfl) ?_
  refine va_get (D := D) (ci := 6) (v := .ref (g 8)) (C := RX6) (T := TX6) (N := 23) hx hb hts hiX6 hown hK.1 hP 0 rfl rfl 9 (by decide) kf35 (fun _ h9 => h9) rfl dX6_works_10 ?_
  refine lv_iload_n hx hb dX6_works_13 rfl (lv_at hl 0 rfl) ?_
  refine ga_ild hx hb hK hP 8 rfl w9 (rfl) (by omega) (by decide) dX6_works_14 ?_
  refine tp_i (y := nI c9) (hwn) ?_
  refine pu_callb (va_runV (As := [.int (nI r), .int (nI c9)]) (rest := []) ⟨hx, hb, hml, hown, hts⟩ (c_X6_isOf hh hn r (by omega) a ha hFa c9 (by omega)) (cwV 2 hts gX6_works_X6_isOf rfl rfl rfl (by decide +kernel) ⟨Nat.le_of_ble_eq_true rfl, Nat.le_of_ble_eq_true rfl⟩) (wd_preV (ci := 6) (q0 := 0) hP hK rfl rfl) rfl rfl hl.1 rfl (lv_room (Nat.le_of_ble_eq_true rfl)) dX6_works_15 ⟨Nat.zero_le _, Nat.zero_le _⟩) (fun h9 => absurd (hko) (by rw [h9]; decide)) (fun _ => ?_)
  refine lv_if_ne (tgt := 23) hx hb dX6_works_18 (by decide) (fun h9 => absurd (by decide) h9) (fun _ => ?_)
  refine lv_iconst (v := 1) hx hb dX6_works_21 (by decide) ?_
  exact W.iret (v := 1) hx hb hr (fun t9 ht _ => ⟨congrArg (fun z => Outcome.returned (some (Value.int z))) (rfl), ht⟩) (fun _ h9 => nomatch h9) dX6_works_22
set_option maxHeartbeats 4000000 in
set_option maxRecDepth 100000 in
theorem c_X6_work_0 (hh : ad_ok g 16) (hn : n ≤ 100) (hk : k ≤ 8) (r : Nat) (hr9 : r < n) (i : Nat) (hi : i < k) (a : Nat) (ha : a < 16) (hFa : F r = nI a) (hw : Wk i = 0) (hko : ko (F r) (nI 0) = true) : Met l yX6_works wsX6_works ({ frames := 7, cells := 0, slots := 0, locals := 300 }) (wd_P D cI cJ [.ref (g 0), .int (nI i), .int (nI r)] (mo_W cI cJ g fx (nI n) F Wt Sz Nu Pl Bf (nI b) (nI k) G Wk To Sl Sd (nI as) wo pa fa Fo)) (mu_Q D (ad_A g 16) (some (.int 0)) (mo_W cI cJ g fx (nI n) F Wt Sz Nu Pl Bf (nI b) (nI k) G Wk (vp_updL To i (To i + Int32.toInt64 (Wt r))) (upd Sl i (nI r)) Sd (nI as) wo pa fa Fo)) 0 0 (ad_A g 16) := by
  refine Met.ofW (cc := cX6_works) (maxL := 5) (ret := (some .int)) (by decide) rfl ?_
  intro p e s m args below meth c s₁ B hml hv
  obtain ⟨rfl, hP, hK⟩ := hv
  have hx := B.exec
  have hb := B.bytes
  have hr := B.returns
  have hts := atoms_spec (ws := wsX6_works) B.pre
  have hown : s.vm.findClass RX6 = some m.cls := findClass_of_methodNamed B.named
  have hlocks := B.notSynchronized
  have hiX6 : ∀ w ∈ u_ws RX6 TX6 23, w ∈ wsX6_works := by decide +kernel
  have kf44 := hts (.fieldLink RX6 44 "SortingLineModel" "works" "[I") (by decide +kernel)
  have kf35 := hts (.fieldLink RX6 35 "SortingLineModel" "wants" "[I") (by decide +kernel)
  have kf47 := hts (.fieldLink RX6 47 "SortingLineModel" "totals" "[J") (by decide +kernel)
  have kf13 := hts (.fieldLink RX6 13 "SortingLineModel" "weights" "[I") (by decide +kernel)
  have kf50 := hts (.fieldLink RX6 50 "SortingLineModel" "slots" "[I") (by decide +kernel)
  have hS : va_S (ad_A g 16) s.heap s.heap [] := va_S.rf
  have hl := lv_entry ([.ref (g 0), .int (nI i), .int (nI r)]) (n := 5) (Nat.le_of_ble_eq_true rfl)
  rw [lg_entry_eq]
  generalize (lg_sl ([.ref (g 0), .int (nI i), .int (nI r)]) ++ List.replicate (5 - (lg_sl ([.ref (g 0), .int (nI i), .int (nI r)])).length) Slot.unset).toArray = ls at hl ⊢
  have hl : lv_has ls 5 [(0, .ref (g 0)), (1, .int (nI i)), (2, .int (nI r))] := hl
  refine lv_aload_n hx hb dX6_works_0 rfl (lv_at hl 0 rfl) ?_
  refine va_get (D := D) (ci := 6) (v := .ref (g 11)) (C := RX6) (T := TX6) (N := 23) hx hb hts hiX6 hown hK.1 hP 0 rfl rfl 14 (by decide) kf44 (fun _ h9 => h9) rfl dX6_works_1 ?_
  refine lv_iload_n hx hb dX6_works_4 rfl (lv_at hl 1 rfl) ?_
  refine ga_ild hx hb hK hP 11 rfl i (rfl) (by omega) (by decide) dX6_works_5 ?_
  refine tp_i (y := 0) (hw) ?_
  refine lv_istore_n (lv' := [(3, .int 0), (0, .ref (g 0)), (1, .int (nI i)), (2, .int (nI r))]) hx hb dX6_works_6 rfl hl (by decide) rfl (fun ls hl => ?_)
  refine lv_aload_n hx hb dX6_works_7 rfl (lv_at hl 1 rfl) ?_
  refine lv_iload_n hx hb dX6_works_8 rfl (lv_at hl 3 rfl) ?_
  refine lv_aload_n hx hb dX6_works_9 rfl (lv_at hl 1 rfl) ?_
  refine va_get (D := D) (ci := 6) (v := .ref (g 8)) (C := RX6) (T := TX6) (N := 23) hx hb hts hiX6 hown hK.1 hP 0 rfl rfl 9 (by decide) kf35 (fun _ h9 => h9) rfl dX6_works_10 ?_
  refine lv_iload_n hx hb dX6_works_13 rfl (lv_at hl 0 rfl) ?_
  refine ga_ild hx hb hK hP 8 rfl 0 (by decide) (by decide) (by decide) dX6_works_14 ?_
  refine tp_i (y := 0) (by rfl) ?_
  refine pu_callb (va_runV (As := [.int (nI r), .int 0]) (rest := []) ⟨hx, hb, hml, hown, hts⟩ (c_X6_isOf hh hn r (by omega) a ha hFa 0 (by decide)) (cwV 2 hts gX6_works_X6_isOf rfl rfl rfl (by decide +kernel) ⟨Nat.le_of_ble_eq_true rfl, Nat.le_of_ble_eq_true rfl⟩) (wd_preV (ci := 6) (q0 := 0) hP hK rfl rfl) rfl rfl hl.1 rfl (lv_room (Nat.le_of_ble_eq_true rfl)) dX6_works_15 ⟨Nat.zero_le _, Nat.zero_le _⟩) (fun _ => ?_) (fun h9 => absurd (hko) (by rw [h9]; decide))
  refine lv_if_ne (tgt := 23) hx hb dX6_works_18 (by decide) (fun _ => ?_) (fun h9 => absurd h9 (by decide))
  refine lv_iload_n hx hb dX6_works_23 rfl (lv_at hl 0 rfl) ?_
  refine lv_tableIn (off := 68) (tgt := 92) hx hb dX6_works_24 (by decide) (by decide) (by decide) (by decide) ?_
  refine lv_aload_n hx hb dX6_works_92 rfl (lv_at hl 1 rfl) ?_
  refine va_get (D := D) (ci := 6) (v := .ref (g 12)) (C := RX6) (T := TX6) (N := 23) hx hb hts hiX6 hown hK.1 hP 0 rfl rfl 15 (by decide) kf47 (fun _ h9 => h9) rfl dX6_works_93 ?_
  refine lv_iload_n hx hb dX6_works_96 rfl (lv_at hl 2 rfl) ?_
  refine lv_dup2_11 hx hb dX6_works_97 rfl rfl ?_
  refine ga_lld hx hb hK hP 12 rfl i (rfl) (by omega) (by decide) dX6_works_98 ?_
  refine lv_aload_n hx hb dX6_works_99 rfl (lv_at hl 1 rfl) ?_
  refine va_get (D := D) (ci := 6) (v := .ref (g 2)) (C := RX6) (T := TX6) (N := 23) hx hb hts hiX6 hown hK.1 hP 0 rfl rfl 3 (by decide) kf13 (fun _ h9 => h9) rfl dX6_works_100 ?_
  refine lv_iload_n hx hb dX6_works_103 rfl (lv_at hl 3 rfl) ?_
  refine ga_ild hx hb hK hP 2 rfl r (rfl) (by omega) (by decide) dX6_works_104 ?_
  refine lv_i2l (v := Int32.toInt64 (Wt r)) hx hb dX6_works_105 (rfl) ?_
  refine lv_ladd hx hb dX6_works_106 ?_
  refine ga_lst hx hb hK hP (mo_D hh) hS 12 rfl i (rfl) (by omega) (by decide) dX6_works_107 (fun H locs hP hS => ?_)
  have hP : va_P D kC (mo_W cI cJ g fx (nI n) F Wt Sz Nu Pl Bf (nI b) (nI k) G Wk (vp_updL To i ((To i) + (Int32.toInt64 (Wt r)))) Sl Sd (nI as) wo pa fa Fo) H := hP
  refine lv_aload_n hx hb dX6_works_108 rfl (lv_at hl 1 rfl) ?_
  refine va_get (D := D) (ci := 6) (v := .ref (g 13)) (C := RX6) (T := TX6) (N := 23) hx hb hts hiX6 hown hK.1 hP 0 rfl rfl 16 (by decide) kf50 (fun _ h9 => h9) rfl dX6_works_109 ?_
  refine lv_iload_n hx hb dX6_works_112 rfl (lv_at hl 2 rfl) ?_
  refine lv_iload_n hx hb dX6_works_113 rfl (lv_at hl 3 rfl) ?_
  refine ga_ist hx hb hK hP (mo_D hh) hS 13 rfl i (rfl) (by omega) (by decide) dX6_works_114 (fun H locs hP hS => ?_)
  have hP : va_P D kC (mo_W cI cJ g fx (nI n) F Wt Sz Nu Pl Bf (nI b) (nI k) G Wk (vp_updL To i ((To i) + (Int32.toInt64 (Wt r)))) (upd Sl i (nI r)) Sd (nI as) wo pa fa Fo) H := hP
  refine lv_iconst (v := 0) hx hb dX6_works_115 (by decide) ?_
  exact W.iret (v := 0) hx hb hr (fun t9 ht _ => ⟨congrArg (fun z => Outcome.returned (some (Value.int z))) (rfl), by rw [ht]; exact hP, hS.F ht⟩) hS.2.2 dX6_works_116
set_option maxHeartbeats 4000000 in
set_option maxRecDepth 100000 in
theorem c_X6_work_1 (hh : ad_ok g 16) (hn : n ≤ 100) (hk : k ≤ 8) (r : Nat) (hr9 : r < n) (i : Nat) (hi : i < k) (a : Nat) (ha : a < 16) (hFa : F r = nI a) (hw : Wk i = 1) (hko : ko (F r) (nI 16) = true) : Met l yX6_works wsX6_works ({ frames := 7, cells := 0, slots := 0, locals := 300 }) (wd_P D cI cJ [.ref (g 0), .int (nI i), .int (nI r)] (mo_W cI cJ g fx (nI n) F Wt Sz Nu Pl Bf (nI b) (nI k) G Wk To Sl Sd (nI as) wo pa fa Fo)) (mu_Q D (ad_A g 16) (some (.int 0)) (mo_W cI cJ g fx (nI n) F Wt Sz Nu Pl Bf (nI b) (nI k) G Wk (vp_updL To i (To i + Int32.toInt64 (kyO (F r) (Wt r)))) Sl Sd (nI as) wo pa fa Fo)) 0 0 (ad_A g 16) := by
  refine Met.ofW (cc := cX6_works) (maxL := 5) (ret := (some .int)) (by decide) rfl ?_
  intro p e s m args below meth c s₁ B hml hv
  obtain ⟨rfl, hP, hK⟩ := hv
  have hx := B.exec
  have hb := B.bytes
  have hr := B.returns
  have hts := atoms_spec (ws := wsX6_works) B.pre
  have hown : s.vm.findClass RX6 = some m.cls := findClass_of_methodNamed B.named
  have hlocks := B.notSynchronized
  have hiX6 : ∀ w ∈ u_ws RX6 TX6 23, w ∈ wsX6_works := by decide +kernel
  have kf44 := hts (.fieldLink RX6 44 "SortingLineModel" "works" "[I") (by decide +kernel)
  have kf35 := hts (.fieldLink RX6 35 "SortingLineModel" "wants" "[I") (by decide +kernel)
  have kf47 := hts (.fieldLink RX6 47 "SortingLineModel" "totals" "[J") (by decide +kernel)
  have hS : va_S (ad_A g 16) s.heap s.heap [] := va_S.rf
  have hl := lv_entry ([.ref (g 0), .int (nI i), .int (nI r)]) (n := 5) (Nat.le_of_ble_eq_true rfl)
  rw [lg_entry_eq]
  generalize (lg_sl ([.ref (g 0), .int (nI i), .int (nI r)]) ++ List.replicate (5 - (lg_sl ([.ref (g 0), .int (nI i), .int (nI r)])).length) Slot.unset).toArray = ls at hl ⊢
  have hl : lv_has ls 5 [(0, .ref (g 0)), (1, .int (nI i)), (2, .int (nI r))] := hl
  refine lv_aload_n hx hb dX6_works_0 rfl (lv_at hl 0 rfl) ?_
  refine va_get (D := D) (ci := 6) (v := .ref (g 11)) (C := RX6) (T := TX6) (N := 23) hx hb hts hiX6 hown hK.1 hP 0 rfl rfl 14 (by decide) kf44 (fun _ h9 => h9) rfl dX6_works_1 ?_
  refine lv_iload_n hx hb dX6_works_4 rfl (lv_at hl 1 rfl) ?_
  refine ga_ild hx hb hK hP 11 rfl i (rfl) (by omega) (by decide) dX6_works_5 ?_
  refine tp_i (y := 1) (hw) ?_
  refine lv_istore_n (lv' := [(3, .int 1), (0, .ref (g 0)), (1, .int (nI i)), (2, .int (nI r))]) hx hb dX6_works_6 rfl hl (by decide) rfl (fun ls hl => ?_)
  refine lv_aload_n hx hb dX6_works_7 rfl (lv_at hl 1 rfl) ?_
  refine lv_iload_n hx hb dX6_works_8 rfl (lv_at hl 3 rfl) ?_
  refine lv_aload_n hx hb dX6_works_9 rfl (lv_at hl 1 rfl) ?_
  refine va_get (D := D) (ci := 6) (v := .ref (g 8)) (C := RX6) (T := TX6) (N := 23) hx hb hts hiX6 hown hK.1 hP 0 rfl rfl 9 (by decide) kf35 (fun _ h9 => h9) rfl dX6_works_10 ?_
  refine lv_iload_n hx hb dX6_works_13 rfl (lv_at hl 0 rfl) ?_
  refine ga_ild hx hb hK hP 8 rfl 1 (by decide) (by decide) (by decide) dX6_works_14 ?_
  refine tp_i (y := 16) (by rfl) ?_
  refine pu_callb (va_runV (As := [.int (nI r), .int 16]) (rest := []) ⟨hx, hb, hml, hown, hts⟩ (c_X6_isOf hh hn r (by omega) a ha hFa 16 (by decide)) (cwV 2 hts gX6_works_X6_isOf rfl rfl rfl (by decide +kernel) ⟨Nat.le_of_ble_eq_true rfl, Nat.le_of_ble_eq_true rfl⟩) (wd_preV (ci := 6) (q0 := 0) hP hK rfl rfl) rfl rfl hl.1 rfl (lv_room (Nat.le_of_ble_eq_true rfl)) dX6_works_15 ⟨Nat.zero_le _, Nat.zero_le _⟩) (fun _ => ?_) (fun h9 => absurd (hko) (by rw [h9]; decide))
  refine lv_if_ne (tgt := 23) hx hb dX6_works_18 (by decide) (fun _ => ?_) (fun h9 => absurd h9 (by decide))
  refine lv_iload_n hx hb dX6_works_23 rfl (lv_at hl 0 rfl) ?_
  refine lv_tableIn (off := 93) (tgt := 117) hx hb dX6_works_24 (by decide) (by decide) (by decide) (by decide) ?_
  refine lv_aload_n hx hb dX6_works_117 rfl (lv_at hl 1 rfl) ?_
  refine va_get (D := D) (ci := 6) (v := .ref (g 12)) (C := RX6) (T := TX6) (N := 23) hx hb hts hiX6 hown hK.1 hP 0 rfl rfl 15 (by decide) kf47 (fun _ h9 => h9) rfl dX6_works_118 ?_
  refine lv_iload_n hx hb dX6_works_121 rfl (lv_at hl 2 rfl) ?_
  refine lv_dup2_11 hx hb dX6_works_122 rfl rfl ?_
  refine ga_lld hx hb hK hP 12 rfl i (rfl) (by omega) (by decide) dX6_works_123 ?_
  refine lv_aload_n hx hb dX6_works_124 rfl (lv_at hl 1 rfl) ?_
  refine lv_iload_n hx hb dX6_works_125 rfl (lv_at hl 3 rfl) ?_
  refine pu_calli (va_runV (As := [.int (nI r)]) (rest := [.long (To i), .int (nI i), .ref (g 12)]) ⟨hx, hb, hml, hown, hts⟩ (c_X6_keyOf hh hn r (by omega)) (cwV 1 hts gX6_works_X6_keyOf rfl rfl rfl (by decide +kernel) ⟨Nat.le_of_ble_eq_true rfl, Nat.le_of_ble_eq_true rfl⟩) (wd_preV (ci := 6) (q0 := 0) hP hK rfl rfl) rfl rfl hl.1 rfl (lv_room (Nat.le_of_ble_eq_true rfl)) dX6_works_126 ⟨Nat.zero_le _, Nat.zero_le _⟩) ?_
  refine lv_i2l (v := Int32.toInt64 (kyO (F r) (Wt r))) hx hb dX6_works_129 (rfl) ?_
  refine lv_ladd hx hb dX6_works_130 ?_
  refine ga_lst hx hb hK hP (mo_D hh) hS 12 rfl i (rfl) (by omega) (by decide) dX6_works_131 (fun H locs hP hS => ?_)
  have hP : va_P D kC (mo_W cI cJ g fx (nI n) F Wt Sz Nu Pl Bf (nI b) (nI k) G Wk (vp_updL To i ((To i) + (Int32.toInt64 (kyO (F r) (Wt r))))) Sl Sd (nI as) wo pa fa Fo) H := hP
  refine lv_iconst (v := 0) hx hb dX6_works_132 (by decide) ?_
  exact W.iret (v := 0) hx hb hr (fun t9 ht _ => ⟨congrArg (fun z => Outcome.returned (some (Value.int z))) (rfl), by rw [ht]; exact hP, hS.F ht⟩) hS.2.2 dX6_works_133
set_option maxHeartbeats 4000000 in
set_option maxRecDepth 100000 in
theorem lp_X6_add2 {p : Program} {e : Env} {s : State} {m : MethodId} {args : Array Value} {below : List Frame} {meth : Method} {c : Code} {Q : State → Prop} {H0 : Heap} (hx : p.tables.exec = Jvm.exec) (hb : c.code = cX6_works) (hml : c.maxLocals = 5) (hown : s.vm.findClass RX6 = some m.cls) (hts : ∀ w ∈ wsX6_works, w.before args s = true) (hK : wd_K D cI cJ s) (hh : ad_ok g 16) (hn : n ≤ 100) (hk : k ≤ 8) (r : Nat) (hr9 : r < n) (i : Nat) (hi : i < k) (z : Nat) (hz : Sz r = nI z) (hz8 : z ≤ 8) (kk0 : ∀ (_ : Nat), True → ∀ (H : Heap) (locs : List Loc), va_P D kC (mo_W cI cJ g fx (nI n) F Wt Sz Nu Pl Bf (nI b) (nI k) G Wk (vp_updL To i (To i + sumN Nu (8 * r) z)) Sl Sd (nI as) wo pa fa Fo) H → va_S (ad_A g 16) H0 H locs → ∀ (ls : Array Slot), lv_has ls 5 [(4, .int (nI z)), (0, .ref (g 0)), (1, .int (nI i)), (2, .int (nI r)), (3, .int 2)] → W p l e (headSpec wsX6_works { frames := 7, cells := 0, slots := 0, locals := 300 }).room s m args below meth c H locs 0 0 Q (F0 m 200 ls [])) : ∀ (d : Nat) (y : Nat), y + d = z → ∀ (H : Heap) (locs : List Loc), va_P D kC (mo_W cI cJ g fx (nI n) F Wt Sz Nu Pl Bf (nI b) (nI k) G Wk (vp_updL To i (To i + sumN Nu (8 * r) y)) Sl Sd (nI as) wo pa fa Fo) H → va_S (ad_A g 16) H0 H locs → ∀ (ls : Array Slot), lv_has ls 5 [(4, .int (nI y)), (0, .ref (g 0)), (1, .int (nI i)), (2, .int (nI r)), (3, .int 2)] → W p l e (headSpec wsX6_works { frames := 7, cells := 0, slots := 0, locals := 300 }).room s m args below meth c H locs 0 0 Q (F0 m 200 ls []) := by
  have hiX6 : ∀ w ∈ u_ws RX6 TX6 23, w ∈ wsX6_works := by decide +kernel
  have kf16 := hts (.fieldLink RX6 16 "SortingLineModel" "sizes" "[I") (by decide +kernel)
  have kf47 := hts (.fieldLink RX6 47 "SortingLineModel" "totals" "[J") (by decide +kernel)
  have kf19 := hts (.fieldLink RX6 19 "SortingLineModel" "numbers" "[J") (by decide +kernel)
  intro d
  induction d with
  | zero =>
    intro y hi H locs hP hS ls hl
    obtain rfl : y = z := by omega
    exact kk0 0 trivial H locs hP hS ls hl
  | succ d ih =>
    intro y hi H locs hP hS ls hl
    refine lv_iload hx hb dX6_works_200 (lv_at hl 0 rfl) ?_
    refine lv_aload_n hx hb dX6_works_202 rfl (lv_at hl 1 rfl) ?_
    refine va_get (D := D) (ci := 6) (v := .ref (g 3)) (C := RX6) (T := TX6) (N := 23) hx hb hts hiX6 hown hK.1 hP 0 rfl rfl 4 (by decide) kf16 (fun _ h9 => h9) rfl dX6_works_203 ?_
    refine lv_iload_n hx hb dX6_works_206 rfl (lv_at hl 3 rfl) ?_
    refine ga_ild hx hb hK hP 3 rfl r (rfl) (by omega) (by decide) dX6_works_207 ?_
    refine tp_i (y := nI z) (hz) ?_
    refine lv_icmp_ge (tgt := 238) hx hb dX6_works_208 (by decide) (fun h9 => absurd h9 (nI_ge (by omega) (by omega))) (fun _ => ?_)
    refine lv_aload_n hx hb dX6_works_211 rfl (lv_at hl 1 rfl) ?_
    refine va_get (D := D) (ci := 6) (v := .ref (g 12)) (C := RX6) (T := TX6) (N := 23) hx hb hts hiX6 hown hK.1 hP 0 rfl rfl 15 (by decide) kf47 (fun _ h9 => h9) rfl dX6_works_212 ?_
    refine lv_iload_n hx hb dX6_works_215 rfl (lv_at hl 2 rfl) ?_
    refine lv_dup2_11 hx hb dX6_works_216 rfl rfl ?_
    refine ga_lld hx hb hK hP 12 rfl i (rfl) (by omega) (by decide) dX6_works_217 ?_
    refine tp_l (y := To i + sumN Nu (8 * r) y) (upL_at) ?_
    refine lv_aload_n hx hb dX6_works_218 rfl (lv_at hl 1 rfl) ?_
    refine va_get (D := D) (ci := 6) (v := .ref (g 4)) (C := RX6) (T := TX6) (N := 23) hx hb hts hiX6 hown hK.1 hP 0 rfl rfl 5 (by decide) kf19 (fun _ h9 => h9) rfl dX6_works_219 ?_
    refine lv_bipush (v := 8) hx hb dX6_works_222 (by decide) ?_
    refine lv_iload_n hx hb dX6_works_224 rfl (lv_at hl 3 rfl) ?_
    refine lv_imul hx hb dX6_works_225 ?_
    refine tp_i (y := nI (8 * r)) (pk_mul 8 r) ?_
    refine lv_iload hx hb dX6_works_226 (lv_at hl 0 rfl) ?_
    refine lv_iadd hx hb dX6_works_228 ?_
    refine tp_i (y := nI ((8 * r) + y)) (nI_add (8 * r) y) ?_
    refine ga_lld hx hb hK hP 4 rfl ((8 * r) + y) (rfl) (by omega) (by decide) dX6_works_229 ?_
    refine lv_ladd hx hb dX6_works_230 ?_
    refine ga_lst hx hb hK hP (mo_D hh) hS 12 rfl i (rfl) (by omega) (by decide) dX6_works_231 (fun H locs hP hS => ?_)
    have hP : va_P D kC (mo_W cI cJ g fx (nI n) F Wt Sz Nu Pl Bf (nI b) (nI k) G Wk (vp_updL (vp_updL To i (To i + sumN Nu (8 * r) y)) i ((To i + sumN Nu (8 * r) y) + (Nu ((8 * r) + y)))) Sl Sd (nI as) wo pa fa Fo) H := hP
    rw [upL_2] at hP
    have hP : va_P D kC (mo_W cI cJ g fx (nI n) F Wt Sz Nu Pl Bf (nI b) (nI k) G Wk (vp_updL To i (To i + sumN Nu (8 * r) (y + 1))) Sl Sd (nI as) wo pa fa Fo) H := va_P_cast hP (by rw [show To i + sumN Nu (8 * r) (y + 1) = To i + sumN Nu (8 * r) y + Nu (8 * r + y) from (Int64.add_assoc _ _ _).symm])
    refine lv_iinc (v := nI (y + 1)) (lv' := [(4, .int (nI (y + 1))), (0, .ref (g 0)), (1, .int (nI i)), (2, .int (nI r)), (3, .int 2)]) hx hb dX6_works_232 hl (k := 0) rfl (nI_add y 1) (by decide) rfl (fun ls hl => ?_)
    refine lv_goto (tgt := 200) hx hb dX6_works_235 (by decide) ?_
    exact ih (y + 1) (by omega) H locs hP hS ls (lv_sub hl [0, 1, 2, 3, 4] rfl)
set_option maxHeartbeats 4000000 in
set_option maxRecDepth 100000 in
theorem c_X6_work_2 (hh : ad_ok g 16) (hn : n ≤ 100) (hk : k ≤ 8) (r : Nat) (hr9 : r < n) (i : Nat) (hi : i < k) (a : Nat) (ha : a < 16) (hFa : F r = nI a) (hw : Wk i = 2) (hko : ko (F r) (nI 5) = true) (z : Nat) (hz : Sz r = nI z) (hz8 : z ≤ 8) : Met l yX6_works wsX6_works ({ frames := 7, cells := 0, slots := 0, locals := 300 }) (wd_P D cI cJ [.ref (g 0), .int (nI i), .int (nI r)] (mo_W cI cJ g fx (nI n) F Wt Sz Nu Pl Bf (nI b) (nI k) G Wk To Sl Sd (nI as) wo pa fa Fo)) (mu_Q D (ad_A g 16) (some (.int 0)) (mo_W cI cJ g fx (nI n) F Wt Sz Nu Pl Bf (nI b) (nI k) G Wk (vp_updL To i (To i + sumN Nu (8 * r) z)) Sl Sd (nI as) wo pa fa Fo)) 0 0 (ad_A g 16) := by
  refine Met.ofW (cc := cX6_works) (maxL := 5) (ret := (some .int)) (by decide) rfl ?_
  intro p e s m args below meth c s₁ B hml hv
  obtain ⟨rfl, hP, hK⟩ := hv
  have hx := B.exec
  have hb := B.bytes
  have hr := B.returns
  have hts := atoms_spec (ws := wsX6_works) B.pre
  have hown : s.vm.findClass RX6 = some m.cls := findClass_of_methodNamed B.named
  have hlocks := B.notSynchronized
  have hiX6 : ∀ w ∈ u_ws RX6 TX6 23, w ∈ wsX6_works := by decide +kernel
  have kf44 := hts (.fieldLink RX6 44 "SortingLineModel" "works" "[I") (by decide +kernel)
  have kf35 := hts (.fieldLink RX6 35 "SortingLineModel" "wants" "[I") (by decide +kernel)
  have kf16 := hts (.fieldLink RX6 16 "SortingLineModel" "sizes" "[I") (by decide +kernel)
  have hS : va_S (ad_A g 16) s.heap s.heap [] := va_S.rf
  have hl := lv_entry ([.ref (g 0), .int (nI i), .int (nI r)]) (n := 5) (Nat.le_of_ble_eq_true rfl)
  rw [lg_entry_eq]
  generalize (lg_sl ([.ref (g 0), .int (nI i), .int (nI r)]) ++ List.replicate (5 - (lg_sl ([.ref (g 0), .int (nI i), .int (nI r)])).length) Slot.unset).toArray = ls at hl ⊢
  have hl : lv_has ls 5 [(0, .ref (g 0)), (1, .int (nI i)), (2, .int (nI r))] := hl
  refine lv_aload_n hx hb dX6_works_0 rfl (lv_at hl 0 rfl) ?_
  refine va_get (D := D) (ci := 6) (v := .ref (g 11)) (C := RX6) (T := TX6) (N := 23) hx hb hts hiX6 hown hK.1 hP 0 rfl rfl 14 (by decide) kf44 (fun _ h9 => h9) rfl dX6_works_1 ?_
  refine lv_iload_n hx hb dX6_works_4 rfl (lv_at hl 1 rfl) ?_
  refine ga_ild hx hb hK hP 11 rfl i (rfl) (by omega) (by decide) dX6_works_5 ?_
  refine tp_i (y := 2) (hw) ?_
  refine lv_istore_n (lv' := [(3, .int 2), (0, .ref (g 0)), (1, .int (nI i)), (2, .int (nI r))]) hx hb dX6_works_6 rfl hl (by decide) rfl (fun ls hl => ?_)
  refine lv_aload_n hx hb dX6_works_7 rfl (lv_at hl 1 rfl) ?_
  refine lv_iload_n hx hb dX6_works_8 rfl (lv_at hl 3 rfl) ?_
  refine lv_aload_n hx hb dX6_works_9 rfl (lv_at hl 1 rfl) ?_
  refine va_get (D := D) (ci := 6) (v := .ref (g 8)) (C := RX6) (T := TX6) (N := 23) hx hb hts hiX6 hown hK.1 hP 0 rfl rfl 9 (by decide) kf35 (fun _ h9 => h9) rfl dX6_works_10 ?_
  refine lv_iload_n hx hb dX6_works_13 rfl (lv_at hl 0 rfl) ?_
  refine ga_ild hx hb hK hP 8 rfl 2 (by decide) (by decide) (by decide) dX6_works_14 ?_
  refine tp_i (y := 5) (by rfl) ?_
  refine pu_callb (va_runV (As := [.int (nI r), .int 5]) (rest := []) ⟨hx, hb, hml, hown, hts⟩ (c_X6_isOf hh hn r (by omega) a ha hFa 5 (by decide)) (cwV 2 hts gX6_works_X6_isOf rfl rfl rfl (by decide +kernel) ⟨Nat.le_of_ble_eq_true rfl, Nat.le_of_ble_eq_true rfl⟩) (wd_preV (ci := 6) (q0 := 0) hP hK rfl rfl) rfl rfl hl.1 rfl (lv_room (Nat.le_of_ble_eq_true rfl)) dX6_works_15 ⟨Nat.zero_le _, Nat.zero_le _⟩) (fun _ => ?_) (fun h9 => absurd (hko) (by rw [h9]; decide))
  refine lv_if_ne (tgt := 23) hx hb dX6_works_18 (by decide) (fun _ => ?_) (fun h9 => absurd h9 (by decide))
  refine lv_iload_n hx hb dX6_works_23 rfl (lv_at hl 0 rfl) ?_
  refine lv_tableIn (off := 173) (tgt := 197) hx hb dX6_works_24 (by decide) (by decide) (by decide) (by decide) ?_
  refine lv_iconst (v := 0) hx hb dX6_works_197 (by decide) ?_
  refine lv_istore (lv' := [(4, .int 0), (3, .int 2), (0, .ref (g 0)), (1, .int (nI i)), (2, .int (nI r))]) hx hb dX6_works_198 hl (by decide) rfl (fun ls hl => ?_)
  have hP : va_P D kC (mo_W cI cJ g fx (nI n) F Wt Sz Nu Pl Bf (nI b) (nI k) G Wk (vp_updL To i (To i + sumN Nu (8 * r) 0)) Sl Sd (nI as) wo pa fa Fo) _ := va_P_cast hP (by rw [show vp_updL To i (To i + sumN Nu (8 * r) 0) = To from upL_0])
  refine lp_X6_add2 hx hb hml hown hts hK hh hn hk r hr9 i hi z hz hz8 (fun _ _ H locs hP hS ls hl => ?_) z 0 (by omega) _ _ hP hS ls (lv_sub hl [0, 2, 3, 4, 1] rfl)
  refine lv_iload hx hb dX6_works_200 (lv_at hl 0 rfl) ?_
  refine lv_aload_n hx hb dX6_works_202 rfl (lv_at hl 1 rfl) ?_
  refine va_get (D := D) (ci := 6) (v := .ref (g 3)) (C := RX6) (T := TX6) (N := 23) hx hb hts hiX6 hown hK.1 hP 0 rfl rfl 4 (by decide) kf16 (fun _ h9 => h9) rfl dX6_works_203 ?_
  refine lv_iload_n hx hb dX6_works_206 rfl (lv_at hl 3 rfl) ?_
  refine ga_ild hx hb hK hP 3 rfl r (rfl) (by omega) (by decide) dX6_works_207 ?_
  refine tp_i (y := nI z) (hz) ?_
  refine lv_icmp_ge (tgt := 238) hx hb dX6_works_208 (by decide) (fun _ => ?_) (fun h9 => absurd (nI_le (Nat.le_refl _) (by omega)) h9)
  refine lv_iconst (v := 0) hx hb dX6_works_238 (by decide) ?_
  exact W.iret (v := 0) hx hb hr (fun t9 ht _ => ⟨congrArg (fun z => Outcome.returned (some (Value.int z))) (rfl), by rw [ht]; exact hP, hS.F ht⟩) hS.2.2 dX6_works_239
set_option maxHeartbeats 4000000 in
set_option maxRecDepth 100000 in
theorem lp_X6_add3 {p : Program} {e : Env} {s : State} {m : MethodId} {args : Array Value} {below : List Frame} {meth : Method} {c : Code} {Q : State → Prop} {H0 : Heap} (hx : p.tables.exec = Jvm.exec) (hb : c.code = cX6_works) (hml : c.maxLocals = 5) (hown : s.vm.findClass RX6 = some m.cls) (hts : ∀ w ∈ wsX6_works, w.before args s = true) (hK : wd_K D cI cJ s) (hh : ad_ok g 16) (hn : n ≤ 100) (hk : k ≤ 8) (r : Nat) (hr9 : r < n) (i : Nat) (hi : i < k) (z : Nat) (hz : Sz r = nI z) (hz8 : z ≤ 8) (kk0 : ∀ (_ : Nat), True → ∀ (H : Heap) (locs : List Loc), va_P D kC (mo_W cI cJ g fx (nI n) F Wt Sz Nu Pl Bf (nI b) (nI k) G Wk (vp_updL To i (To i + sumN Nu (8 * r) z)) Sl Sd (nI as) wo pa fa Fo) H → va_S (ad_A g 16) H0 H locs → ∀ (ls : Array Slot), lv_has ls 5 [(4, .int (nI z)), (0, .ref (g 0)), (1, .int (nI i)), (2, .int (nI r)), (3, .int 3)] → W p l e (headSpec wsX6_works { frames := 7, cells := 0, slots := 0, locals := 300 }).room s m args below meth c H locs 0 0 Q (F0 m 200 ls [])) : ∀ (d : Nat) (y : Nat), y + d = z → ∀ (H : Heap) (locs : List Loc), va_P D kC (mo_W cI cJ g fx (nI n) F Wt Sz Nu Pl Bf (nI b) (nI k) G Wk (vp_updL To i (To i + sumN Nu (8 * r) y)) Sl Sd (nI as) wo pa fa Fo) H → va_S (ad_A g 16) H0 H locs → ∀ (ls : Array Slot), lv_has ls 5 [(4, .int (nI y)), (0, .ref (g 0)), (1, .int (nI i)), (2, .int (nI r)), (3, .int 3)] → W p l e (headSpec wsX6_works { frames := 7, cells := 0, slots := 0, locals := 300 }).room s m args below meth c H locs 0 0 Q (F0 m 200 ls []) := by
  have hiX6 : ∀ w ∈ u_ws RX6 TX6 23, w ∈ wsX6_works := by decide +kernel
  have kf16 := hts (.fieldLink RX6 16 "SortingLineModel" "sizes" "[I") (by decide +kernel)
  have kf47 := hts (.fieldLink RX6 47 "SortingLineModel" "totals" "[J") (by decide +kernel)
  have kf19 := hts (.fieldLink RX6 19 "SortingLineModel" "numbers" "[J") (by decide +kernel)
  intro d
  induction d with
  | zero =>
    intro y hi H locs hP hS ls hl
    obtain rfl : y = z := by omega
    exact kk0 0 trivial H locs hP hS ls hl
  | succ d ih =>
    intro y hi H locs hP hS ls hl
    refine lv_iload hx hb dX6_works_200 (lv_at hl 0 rfl) ?_
    refine lv_aload_n hx hb dX6_works_202 rfl (lv_at hl 1 rfl) ?_
    refine va_get (D := D) (ci := 6) (v := .ref (g 3)) (C := RX6) (T := TX6) (N := 23) hx hb hts hiX6 hown hK.1 hP 0 rfl rfl 4 (by decide) kf16 (fun _ h9 => h9) rfl dX6_works_203 ?_
    refine lv_iload_n hx hb dX6_works_206 rfl (lv_at hl 3 rfl) ?_
    refine ga_ild hx hb hK hP 3 rfl r (rfl) (by omega) (by decide) dX6_works_207 ?_
    refine tp_i (y := nI z) (hz) ?_
    refine lv_icmp_ge (tgt := 238) hx hb dX6_works_208 (by decide) (fun h9 => absurd h9 (nI_ge (by omega) (by omega))) (fun _ => ?_)
    refine lv_aload_n hx hb dX6_works_211 rfl (lv_at hl 1 rfl) ?_
    refine va_get (D := D) (ci := 6) (v := .ref (g 12)) (C := RX6) (T := TX6) (N := 23) hx hb hts hiX6 hown hK.1 hP 0 rfl rfl 15 (by decide) kf47 (fun _ h9 => h9) rfl dX6_works_212 ?_
    refine lv_iload_n hx hb dX6_works_215 rfl (lv_at hl 2 rfl) ?_
    refine lv_dup2_11 hx hb dX6_works_216 rfl rfl ?_
    refine ga_lld hx hb hK hP 12 rfl i (rfl) (by omega) (by decide) dX6_works_217 ?_
    refine tp_l (y := To i + sumN Nu (8 * r) y) (upL_at) ?_
    refine lv_aload_n hx hb dX6_works_218 rfl (lv_at hl 1 rfl) ?_
    refine va_get (D := D) (ci := 6) (v := .ref (g 4)) (C := RX6) (T := TX6) (N := 23) hx hb hts hiX6 hown hK.1 hP 0 rfl rfl 5 (by decide) kf19 (fun _ h9 => h9) rfl dX6_works_219 ?_
    refine lv_bipush (v := 8) hx hb dX6_works_222 (by decide) ?_
    refine lv_iload_n hx hb dX6_works_224 rfl (lv_at hl 3 rfl) ?_
    refine lv_imul hx hb dX6_works_225 ?_
    refine tp_i (y := nI (8 * r)) (pk_mul 8 r) ?_
    refine lv_iload hx hb dX6_works_226 (lv_at hl 0 rfl) ?_
    refine lv_iadd hx hb dX6_works_228 ?_
    refine tp_i (y := nI ((8 * r) + y)) (nI_add (8 * r) y) ?_
    refine ga_lld hx hb hK hP 4 rfl ((8 * r) + y) (rfl) (by omega) (by decide) dX6_works_229 ?_
    refine lv_ladd hx hb dX6_works_230 ?_
    refine ga_lst hx hb hK hP (mo_D hh) hS 12 rfl i (rfl) (by omega) (by decide) dX6_works_231 (fun H locs hP hS => ?_)
    have hP : va_P D kC (mo_W cI cJ g fx (nI n) F Wt Sz Nu Pl Bf (nI b) (nI k) G Wk (vp_updL (vp_updL To i (To i + sumN Nu (8 * r) y)) i ((To i + sumN Nu (8 * r) y) + (Nu ((8 * r) + y)))) Sl Sd (nI as) wo pa fa Fo) H := hP
    rw [upL_2] at hP
    have hP : va_P D kC (mo_W cI cJ g fx (nI n) F Wt Sz Nu Pl Bf (nI b) (nI k) G Wk (vp_updL To i (To i + sumN Nu (8 * r) (y + 1))) Sl Sd (nI as) wo pa fa Fo) H := va_P_cast hP (by rw [show To i + sumN Nu (8 * r) (y + 1) = To i + sumN Nu (8 * r) y + Nu (8 * r + y) from (Int64.add_assoc _ _ _).symm])
    refine lv_iinc (v := nI (y + 1)) (lv' := [(4, .int (nI (y + 1))), (0, .ref (g 0)), (1, .int (nI i)), (2, .int (nI r)), (3, .int 3)]) hx hb dX6_works_232 hl (k := 0) rfl (nI_add y 1) (by decide) rfl (fun ls hl => ?_)
    refine lv_goto (tgt := 200) hx hb dX6_works_235 (by decide) ?_
    exact ih (y + 1) (by omega) H locs hP hS ls (lv_sub hl [0, 1, 2, 3, 4] rfl)
set_option maxHeartbeats 4000000 in
set_option maxRecDepth 100000 in
theorem c_X6_work_3 (hh : ad_ok g 16) (hn : n ≤ 100) (hk : k ≤ 8) (r : Nat) (hr9 : r < n) (i : Nat) (hi : i < k) (a : Nat) (ha : a < 16) (hFa : F r = nI a) (hw : Wk i = 3) (hko : ko (F r) (nI 6) = true) (z : Nat) (hz : Sz r = nI z) (hz8 : z ≤ 8) : Met l yX6_works wsX6_works ({ frames := 7, cells := 0, slots := 0, locals := 300 }) (wd_P D cI cJ [.ref (g 0), .int (nI i), .int (nI r)] (mo_W cI cJ g fx (nI n) F Wt Sz Nu Pl Bf (nI b) (nI k) G Wk To Sl Sd (nI as) wo pa fa Fo)) (mu_Q D (ad_A g 16) (some (.int 0)) (mo_W cI cJ g fx (nI n) F Wt Sz Nu Pl Bf (nI b) (nI k) G Wk (vp_updL To i (To i + sumN Nu (8 * r) z)) Sl Sd (nI as) wo pa fa Fo)) 0 0 (ad_A g 16) := by
  refine Met.ofW (cc := cX6_works) (maxL := 5) (ret := (some .int)) (by decide) rfl ?_
  intro p e s m args below meth c s₁ B hml hv
  obtain ⟨rfl, hP, hK⟩ := hv
  have hx := B.exec
  have hb := B.bytes
  have hr := B.returns
  have hts := atoms_spec (ws := wsX6_works) B.pre
  have hown : s.vm.findClass RX6 = some m.cls := findClass_of_methodNamed B.named
  have hlocks := B.notSynchronized
  have hiX6 : ∀ w ∈ u_ws RX6 TX6 23, w ∈ wsX6_works := by decide +kernel
  have kf44 := hts (.fieldLink RX6 44 "SortingLineModel" "works" "[I") (by decide +kernel)
  have kf35 := hts (.fieldLink RX6 35 "SortingLineModel" "wants" "[I") (by decide +kernel)
  have kf16 := hts (.fieldLink RX6 16 "SortingLineModel" "sizes" "[I") (by decide +kernel)
  have hS : va_S (ad_A g 16) s.heap s.heap [] := va_S.rf
  have hl := lv_entry ([.ref (g 0), .int (nI i), .int (nI r)]) (n := 5) (Nat.le_of_ble_eq_true rfl)
  rw [lg_entry_eq]
  generalize (lg_sl ([.ref (g 0), .int (nI i), .int (nI r)]) ++ List.replicate (5 - (lg_sl ([.ref (g 0), .int (nI i), .int (nI r)])).length) Slot.unset).toArray = ls at hl ⊢
  have hl : lv_has ls 5 [(0, .ref (g 0)), (1, .int (nI i)), (2, .int (nI r))] := hl
  refine lv_aload_n hx hb dX6_works_0 rfl (lv_at hl 0 rfl) ?_
  refine va_get (D := D) (ci := 6) (v := .ref (g 11)) (C := RX6) (T := TX6) (N := 23) hx hb hts hiX6 hown hK.1 hP 0 rfl rfl 14 (by decide) kf44 (fun _ h9 => h9) rfl dX6_works_1 ?_
  refine lv_iload_n hx hb dX6_works_4 rfl (lv_at hl 1 rfl) ?_
  refine ga_ild hx hb hK hP 11 rfl i (rfl) (by omega) (by decide) dX6_works_5 ?_
  refine tp_i (y := 3) (hw) ?_
  refine lv_istore_n (lv' := [(3, .int 3), (0, .ref (g 0)), (1, .int (nI i)), (2, .int (nI r))]) hx hb dX6_works_6 rfl hl (by decide) rfl (fun ls hl => ?_)
  refine lv_aload_n hx hb dX6_works_7 rfl (lv_at hl 1 rfl) ?_
  refine lv_iload_n hx hb dX6_works_8 rfl (lv_at hl 3 rfl) ?_
  refine lv_aload_n hx hb dX6_works_9 rfl (lv_at hl 1 rfl) ?_
  refine va_get (D := D) (ci := 6) (v := .ref (g 8)) (C := RX6) (T := TX6) (N := 23) hx hb hts hiX6 hown hK.1 hP 0 rfl rfl 9 (by decide) kf35 (fun _ h9 => h9) rfl dX6_works_10 ?_
  refine lv_iload_n hx hb dX6_works_13 rfl (lv_at hl 0 rfl) ?_
  refine ga_ild hx hb hK hP 8 rfl 3 (by decide) (by decide) (by decide) dX6_works_14 ?_
  refine tp_i (y := 6) (by rfl) ?_
  refine pu_callb (va_runV (As := [.int (nI r), .int 6]) (rest := []) ⟨hx, hb, hml, hown, hts⟩ (c_X6_isOf hh hn r (by omega) a ha hFa 6 (by decide)) (cwV 2 hts gX6_works_X6_isOf rfl rfl rfl (by decide +kernel) ⟨Nat.le_of_ble_eq_true rfl, Nat.le_of_ble_eq_true rfl⟩) (wd_preV (ci := 6) (q0 := 0) hP hK rfl rfl) rfl rfl hl.1 rfl (lv_room (Nat.le_of_ble_eq_true rfl)) dX6_works_15 ⟨Nat.zero_le _, Nat.zero_le _⟩) (fun _ => ?_) (fun h9 => absurd (hko) (by rw [h9]; decide))
  refine lv_if_ne (tgt := 23) hx hb dX6_works_18 (by decide) (fun _ => ?_) (fun h9 => absurd h9 (by decide))
  refine lv_iload_n hx hb dX6_works_23 rfl (lv_at hl 0 rfl) ?_
  refine lv_tableIn (off := 173) (tgt := 197) hx hb dX6_works_24 (by decide) (by decide) (by decide) (by decide) ?_
  refine lv_iconst (v := 0) hx hb dX6_works_197 (by decide) ?_
  refine lv_istore (lv' := [(4, .int 0), (3, .int 3), (0, .ref (g 0)), (1, .int (nI i)), (2, .int (nI r))]) hx hb dX6_works_198 hl (by decide) rfl (fun ls hl => ?_)
  have hP : va_P D kC (mo_W cI cJ g fx (nI n) F Wt Sz Nu Pl Bf (nI b) (nI k) G Wk (vp_updL To i (To i + sumN Nu (8 * r) 0)) Sl Sd (nI as) wo pa fa Fo) _ := va_P_cast hP (by rw [show vp_updL To i (To i + sumN Nu (8 * r) 0) = To from upL_0])
  refine lp_X6_add3 hx hb hml hown hts hK hh hn hk r hr9 i hi z hz hz8 (fun _ _ H locs hP hS ls hl => ?_) z 0 (by omega) _ _ hP hS ls (lv_sub hl [0, 2, 3, 4, 1] rfl)
  refine lv_iload hx hb dX6_works_200 (lv_at hl 0 rfl) ?_
  refine lv_aload_n hx hb dX6_works_202 rfl (lv_at hl 1 rfl) ?_
  refine va_get (D := D) (ci := 6) (v := .ref (g 3)) (C := RX6) (T := TX6) (N := 23) hx hb hts hiX6 hown hK.1 hP 0 rfl rfl 4 (by decide) kf16 (fun _ h9 => h9) rfl dX6_works_203 ?_
  refine lv_iload_n hx hb dX6_works_206 rfl (lv_at hl 3 rfl) ?_
  refine ga_ild hx hb hK hP 3 rfl r (rfl) (by omega) (by decide) dX6_works_207 ?_
  refine tp_i (y := nI z) (hz) ?_
  refine lv_icmp_ge (tgt := 238) hx hb dX6_works_208 (by decide) (fun _ => ?_) (fun h9 => absurd (nI_le (Nat.le_refl _) (by omega)) h9)
  refine lv_iconst (v := 0) hx hb dX6_works_238 (by decide) ?_
  exact W.iret (v := 0) hx hb hr (fun t9 ht _ => ⟨congrArg (fun z => Outcome.returned (some (Value.int z))) (rfl), by rw [ht]; exact hP, hS.F ht⟩) hS.2.2 dX6_works_239
set_option maxHeartbeats 4000000 in
set_option maxRecDepth 100000 in
theorem lp_X6_add4 {p : Program} {e : Env} {s : State} {m : MethodId} {args : Array Value} {below : List Frame} {meth : Method} {c : Code} {Q : State → Prop} {H0 : Heap} (hx : p.tables.exec = Jvm.exec) (hb : c.code = cX6_works) (hml : c.maxLocals = 5) (hown : s.vm.findClass RX6 = some m.cls) (hts : ∀ w ∈ wsX6_works, w.before args s = true) (hK : wd_K D cI cJ s) (hh : ad_ok g 16) (hn : n ≤ 100) (hk : k ≤ 8) (r : Nat) (hr9 : r < n) (i : Nat) (hi : i < k) (z : Nat) (hz : Sz r = nI z) (hz8 : z ≤ 8) (kk0 : ∀ (_ : Nat), True → ∀ (H : Heap) (locs : List Loc), va_P D kC (mo_W cI cJ g fx (nI n) F Wt Sz Nu Pl Bf (nI b) (nI k) G Wk (vp_updL To i (To i + sumN Nu (8 * r) z)) Sl Sd (nI as) wo pa fa Fo) H → va_S (ad_A g 16) H0 H locs → ∀ (ls : Array Slot), lv_has ls 5 [(4, .int (nI z)), (0, .ref (g 0)), (1, .int (nI i)), (2, .int (nI r)), (3, .int 4)] → W p l e (headSpec wsX6_works { frames := 7, cells := 0, slots := 0, locals := 300 }).room s m args below meth c H locs 0 0 Q (F0 m 200 ls [])) : ∀ (d : Nat) (y : Nat), y + d = z → ∀ (H : Heap) (locs : List Loc), va_P D kC (mo_W cI cJ g fx (nI n) F Wt Sz Nu Pl Bf (nI b) (nI k) G Wk (vp_updL To i (To i + sumN Nu (8 * r) y)) Sl Sd (nI as) wo pa fa Fo) H → va_S (ad_A g 16) H0 H locs → ∀ (ls : Array Slot), lv_has ls 5 [(4, .int (nI y)), (0, .ref (g 0)), (1, .int (nI i)), (2, .int (nI r)), (3, .int 4)] → W p l e (headSpec wsX6_works { frames := 7, cells := 0, slots := 0, locals := 300 }).room s m args below meth c H locs 0 0 Q (F0 m 200 ls []) := by
  have hiX6 : ∀ w ∈ u_ws RX6 TX6 23, w ∈ wsX6_works := by decide +kernel
  have kf16 := hts (.fieldLink RX6 16 "SortingLineModel" "sizes" "[I") (by decide +kernel)
  have kf47 := hts (.fieldLink RX6 47 "SortingLineModel" "totals" "[J") (by decide +kernel)
  have kf19 := hts (.fieldLink RX6 19 "SortingLineModel" "numbers" "[J") (by decide +kernel)
  intro d
  induction d with
  | zero =>
    intro y hi H locs hP hS ls hl
    obtain rfl : y = z := by omega
    exact kk0 0 trivial H locs hP hS ls hl
  | succ d ih =>
    intro y hi H locs hP hS ls hl
    refine lv_iload hx hb dX6_works_200 (lv_at hl 0 rfl) ?_
    refine lv_aload_n hx hb dX6_works_202 rfl (lv_at hl 1 rfl) ?_
    refine va_get (D := D) (ci := 6) (v := .ref (g 3)) (C := RX6) (T := TX6) (N := 23) hx hb hts hiX6 hown hK.1 hP 0 rfl rfl 4 (by decide) kf16 (fun _ h9 => h9) rfl dX6_works_203 ?_
    refine lv_iload_n hx hb dX6_works_206 rfl (lv_at hl 3 rfl) ?_
    refine ga_ild hx hb hK hP 3 rfl r (rfl) (by omega) (by decide) dX6_works_207 ?_
    refine tp_i (y := nI z) (hz) ?_
    refine lv_icmp_ge (tgt := 238) hx hb dX6_works_208 (by decide) (fun h9 => absurd h9 (nI_ge (by omega) (by omega))) (fun _ => ?_)
    refine lv_aload_n hx hb dX6_works_211 rfl (lv_at hl 1 rfl) ?_
    refine va_get (D := D) (ci := 6) (v := .ref (g 12)) (C := RX6) (T := TX6) (N := 23) hx hb hts hiX6 hown hK.1 hP 0 rfl rfl 15 (by decide) kf47 (fun _ h9 => h9) rfl dX6_works_212 ?_
    refine lv_iload_n hx hb dX6_works_215 rfl (lv_at hl 2 rfl) ?_
    refine lv_dup2_11 hx hb dX6_works_216 rfl rfl ?_
    refine ga_lld hx hb hK hP 12 rfl i (rfl) (by omega) (by decide) dX6_works_217 ?_
    refine tp_l (y := To i + sumN Nu (8 * r) y) (upL_at) ?_
    refine lv_aload_n hx hb dX6_works_218 rfl (lv_at hl 1 rfl) ?_
    refine va_get (D := D) (ci := 6) (v := .ref (g 4)) (C := RX6) (T := TX6) (N := 23) hx hb hts hiX6 hown hK.1 hP 0 rfl rfl 5 (by decide) kf19 (fun _ h9 => h9) rfl dX6_works_219 ?_
    refine lv_bipush (v := 8) hx hb dX6_works_222 (by decide) ?_
    refine lv_iload_n hx hb dX6_works_224 rfl (lv_at hl 3 rfl) ?_
    refine lv_imul hx hb dX6_works_225 ?_
    refine tp_i (y := nI (8 * r)) (pk_mul 8 r) ?_
    refine lv_iload hx hb dX6_works_226 (lv_at hl 0 rfl) ?_
    refine lv_iadd hx hb dX6_works_228 ?_
    refine tp_i (y := nI ((8 * r) + y)) (nI_add (8 * r) y) ?_
    refine ga_lld hx hb hK hP 4 rfl ((8 * r) + y) (rfl) (by omega) (by decide) dX6_works_229 ?_
    refine lv_ladd hx hb dX6_works_230 ?_
    refine ga_lst hx hb hK hP (mo_D hh) hS 12 rfl i (rfl) (by omega) (by decide) dX6_works_231 (fun H locs hP hS => ?_)
    have hP : va_P D kC (mo_W cI cJ g fx (nI n) F Wt Sz Nu Pl Bf (nI b) (nI k) G Wk (vp_updL (vp_updL To i (To i + sumN Nu (8 * r) y)) i ((To i + sumN Nu (8 * r) y) + (Nu ((8 * r) + y)))) Sl Sd (nI as) wo pa fa Fo) H := hP
    rw [upL_2] at hP
    have hP : va_P D kC (mo_W cI cJ g fx (nI n) F Wt Sz Nu Pl Bf (nI b) (nI k) G Wk (vp_updL To i (To i + sumN Nu (8 * r) (y + 1))) Sl Sd (nI as) wo pa fa Fo) H := va_P_cast hP (by rw [show To i + sumN Nu (8 * r) (y + 1) = To i + sumN Nu (8 * r) y + Nu (8 * r + y) from (Int64.add_assoc _ _ _).symm])
    refine lv_iinc (v := nI (y + 1)) (lv' := [(4, .int (nI (y + 1))), (0, .ref (g 0)), (1, .int (nI i)), (2, .int (nI r)), (3, .int 4)]) hx hb dX6_works_232 hl (k := 0) rfl (nI_add y 1) (by decide) rfl (fun ls hl => ?_)
    refine lv_goto (tgt := 200) hx hb dX6_works_235 (by decide) ?_
    exact ih (y + 1) (by omega) H locs hP hS ls (lv_sub hl [0, 1, 2, 3, 4] rfl)
set_option maxHeartbeats 4000000 in
set_option maxRecDepth 100000 in
theorem c_X6_work_4 (hh : ad_ok g 16) (hn : n ≤ 100) (hk : k ≤ 8) (r : Nat) (hr9 : r < n) (i : Nat) (hi : i < k) (a : Nat) (ha : a < 16) (hFa : F r = nI a) (hw : Wk i = 4) (hko : ko (F r) (nI 4) = true) (z : Nat) (hz : Sz r = nI z) (hz8 : z ≤ 8) : Met l yX6_works wsX6_works ({ frames := 7, cells := 0, slots := 0, locals := 300 }) (wd_P D cI cJ [.ref (g 0), .int (nI i), .int (nI r)] (mo_W cI cJ g fx (nI n) F Wt Sz Nu Pl Bf (nI b) (nI k) G Wk To Sl Sd (nI as) wo pa fa Fo)) (mu_Q D (ad_A g 16) (some (.int 0)) (mo_W cI cJ g fx (nI n) F Wt Sz Nu Pl Bf (nI b) (nI k) G Wk (vp_updL To i (To i + sumN Nu (8 * r) z)) Sl Sd (nI as) wo pa fa Fo)) 0 0 (ad_A g 16) := by
  refine Met.ofW (cc := cX6_works) (maxL := 5) (ret := (some .int)) (by decide) rfl ?_
  intro p e s m args below meth c s₁ B hml hv
  obtain ⟨rfl, hP, hK⟩ := hv
  have hx := B.exec
  have hb := B.bytes
  have hr := B.returns
  have hts := atoms_spec (ws := wsX6_works) B.pre
  have hown : s.vm.findClass RX6 = some m.cls := findClass_of_methodNamed B.named
  have hlocks := B.notSynchronized
  have hiX6 : ∀ w ∈ u_ws RX6 TX6 23, w ∈ wsX6_works := by decide +kernel
  have kf44 := hts (.fieldLink RX6 44 "SortingLineModel" "works" "[I") (by decide +kernel)
  have kf35 := hts (.fieldLink RX6 35 "SortingLineModel" "wants" "[I") (by decide +kernel)
  have kf16 := hts (.fieldLink RX6 16 "SortingLineModel" "sizes" "[I") (by decide +kernel)
  have hS : va_S (ad_A g 16) s.heap s.heap [] := va_S.rf
  have hl := lv_entry ([.ref (g 0), .int (nI i), .int (nI r)]) (n := 5) (Nat.le_of_ble_eq_true rfl)
  rw [lg_entry_eq]
  generalize (lg_sl ([.ref (g 0), .int (nI i), .int (nI r)]) ++ List.replicate (5 - (lg_sl ([.ref (g 0), .int (nI i), .int (nI r)])).length) Slot.unset).toArray = ls at hl ⊢
  have hl : lv_has ls 5 [(0, .ref (g 0)), (1, .int (nI i)), (2, .int (nI r))] := hl
  refine lv_aload_n hx hb dX6_works_0 rfl (lv_at hl 0 rfl) ?_
  refine va_get (D := D) (ci := 6) (v := .ref (g 11)) (C := RX6) (T := TX6) (N := 23) hx hb hts hiX6 hown hK.1 hP 0 rfl rfl 14 (by decide) kf44 (fun _ h9 => h9) rfl dX6_works_1 ?_
  refine lv_iload_n hx hb dX6_works_4 rfl (lv_at hl 1 rfl) ?_
  refine ga_ild hx hb hK hP 11 rfl i (rfl) (by omega) (by decide) dX6_works_5 ?_
  refine tp_i (y := 4) (hw) ?_
  refine lv_istore_n (lv' := [(3, .int 4), (0, .ref (g 0)), (1, .int (nI i)), (2, .int (nI r))]) hx hb dX6_works_6 rfl hl (by decide) rfl (fun ls hl => ?_)
  refine lv_aload_n hx hb dX6_works_7 rfl (lv_at hl 1 rfl) ?_
  refine lv_iload_n hx hb dX6_works_8 rfl (lv_at hl 3 rfl) ?_
  refine lv_aload_n hx hb dX6_works_9 rfl (lv_at hl 1 rfl) ?_
  refine va_get (D := D) (ci := 6) (v := .ref (g 8)) (C := RX6) (T := TX6) (N := 23) hx hb hts hiX6 hown hK.1 hP 0 rfl rfl 9 (by decide) kf35 (fun _ h9 => h9) rfl dX6_works_10 ?_
  refine lv_iload_n hx hb dX6_works_13 rfl (lv_at hl 0 rfl) ?_
  refine ga_ild hx hb hK hP 8 rfl 4 (by decide) (by decide) (by decide) dX6_works_14 ?_
  refine tp_i (y := 4) (by rfl) ?_
  refine pu_callb (va_runV (As := [.int (nI r), .int 4]) (rest := []) ⟨hx, hb, hml, hown, hts⟩ (c_X6_isOf hh hn r (by omega) a ha hFa 4 (by decide)) (cwV 2 hts gX6_works_X6_isOf rfl rfl rfl (by decide +kernel) ⟨Nat.le_of_ble_eq_true rfl, Nat.le_of_ble_eq_true rfl⟩) (wd_preV (ci := 6) (q0 := 0) hP hK rfl rfl) rfl rfl hl.1 rfl (lv_room (Nat.le_of_ble_eq_true rfl)) dX6_works_15 ⟨Nat.zero_le _, Nat.zero_le _⟩) (fun _ => ?_) (fun h9 => absurd (hko) (by rw [h9]; decide))
  refine lv_if_ne (tgt := 23) hx hb dX6_works_18 (by decide) (fun _ => ?_) (fun h9 => absurd h9 (by decide))
  refine lv_iload_n hx hb dX6_works_23 rfl (lv_at hl 0 rfl) ?_
  refine lv_tableIn (off := 173) (tgt := 197) hx hb dX6_works_24 (by decide) (by decide) (by decide) (by decide) ?_
  refine lv_iconst (v := 0) hx hb dX6_works_197 (by decide) ?_
  refine lv_istore (lv' := [(4, .int 0), (3, .int 4), (0, .ref (g 0)), (1, .int (nI i)), (2, .int (nI r))]) hx hb dX6_works_198 hl (by decide) rfl (fun ls hl => ?_)
  have hP : va_P D kC (mo_W cI cJ g fx (nI n) F Wt Sz Nu Pl Bf (nI b) (nI k) G Wk (vp_updL To i (To i + sumN Nu (8 * r) 0)) Sl Sd (nI as) wo pa fa Fo) _ := va_P_cast hP (by rw [show vp_updL To i (To i + sumN Nu (8 * r) 0) = To from upL_0])
  refine lp_X6_add4 hx hb hml hown hts hK hh hn hk r hr9 i hi z hz hz8 (fun _ _ H locs hP hS ls hl => ?_) z 0 (by omega) _ _ hP hS ls (lv_sub hl [0, 2, 3, 4, 1] rfl)
  refine lv_iload hx hb dX6_works_200 (lv_at hl 0 rfl) ?_
  refine lv_aload_n hx hb dX6_works_202 rfl (lv_at hl 1 rfl) ?_
  refine va_get (D := D) (ci := 6) (v := .ref (g 3)) (C := RX6) (T := TX6) (N := 23) hx hb hts hiX6 hown hK.1 hP 0 rfl rfl 4 (by decide) kf16 (fun _ h9 => h9) rfl dX6_works_203 ?_
  refine lv_iload_n hx hb dX6_works_206 rfl (lv_at hl 3 rfl) ?_
  refine ga_ild hx hb hK hP 3 rfl r (rfl) (by omega) (by decide) dX6_works_207 ?_
  refine tp_i (y := nI z) (hz) ?_
  refine lv_icmp_ge (tgt := 238) hx hb dX6_works_208 (by decide) (fun _ => ?_) (fun h9 => absurd (nI_le (Nat.le_refl _) (by omega)) h9)
  refine lv_iconst (v := 0) hx hb dX6_works_238 (by decide) ?_
  exact W.iret (v := 0) hx hb hr (fun t9 ht _ => ⟨congrArg (fun z => Outcome.returned (some (Value.int z))) (rfl), by rw [ht]; exact hP, hS.F ht⟩) hS.2.2 dX6_works_239
set_option maxHeartbeats 4000000 in
set_option maxRecDepth 100000 in
theorem c_X6_work_5o (hh : ad_ok g 16) (hn : n ≤ 100) (hk : k ≤ 8) (r : Nat) (hr9 : r < n) (i : Nat) (hi : i < k) (a : Nat) (ha : a < 16) (hFa : F r = nI a) (hw : Wk i = 5) (hko : ko (F r) (nI 8) = true) (z : Nat) (hz : Sz r = nI z) (hz8 : z ≤ 8) (hv : ∀ j, j < z → ∃ p9, p9 < n ∧ Pl (8 * r + j) = nI p9) : Met l yX6_works wsX6_works ({ frames := 7, cells := 0, slots := 0, locals := 300 }) (wd_P D cI cJ [.ref (g 0), .int (nI i), .int (nI r)] (mo_W cI cJ g fx (nI n) F Wt Sz Nu Pl Bf (nI b) (nI k) G Wk To Sl Sd (nI as) wo pa fa Fo)) (mu_Q D (ad_A g 16) (some (.int 0)) (mo_W cI cJ g fx (nI n) F Wt Sz Nu Pl Bf (nI b) (nI k) G Wk (vp_updL To i (To i + msum Wt Pl (8 * r) z)) Sl Sd (nI as) wo pa fa Fo)) 0 0 (ad_A g 16) := by
  refine Met.ofW (cc := cX6_works) (maxL := 5) (ret := (some .int)) (by decide) rfl ?_
  intro p e s m args below meth c s₁ B hml hv
  obtain ⟨rfl, hP, hK⟩ := hv
  have hx := B.exec
  have hb := B.bytes
  have hr := B.returns
  have hts := atoms_spec (ws := wsX6_works) B.pre
  have hown : s.vm.findClass RX6 = some m.cls := findClass_of_methodNamed B.named
  have hlocks := B.notSynchronized
  have hiX6 : ∀ w ∈ u_ws RX6 TX6 23, w ∈ wsX6_works := by decide +kernel
  have kf44 := hts (.fieldLink RX6 44 "SortingLineModel" "works" "[I") (by decide +kernel)
  have kf35 := hts (.fieldLink RX6 35 "SortingLineModel" "wants" "[I") (by decide +kernel)
  have hS : va_S (ad_A g 16) s.heap s.heap [] := va_S.rf
  have hl := lv_entry ([.ref (g 0), .int (nI i), .int (nI r)]) (n := 5) (Nat.le_of_ble_eq_true rfl)
  rw [lg_entry_eq]
  generalize (lg_sl ([.ref (g 0), .int (nI i), .int (nI r)]) ++ List.replicate (5 - (lg_sl ([.ref (g 0), .int (nI i), .int (nI r)])).length) Slot.unset).toArray = ls at hl ⊢
  have hl : lv_has ls 5 [(0, .ref (g 0)), (1, .int (nI i)), (2, .int (nI r))] := hl
  refine lv_aload_n hx hb dX6_works_0 rfl (lv_at hl 0 rfl) ?_
  refine va_get (D := D) (ci := 6) (v := .ref (g 11)) (C := RX6) (T := TX6) (N := 23) hx hb hts hiX6 hown hK.1 hP 0 rfl rfl 14 (by decide) kf44 (fun _ h9 => h9) rfl dX6_works_1 ?_
  refine lv_iload_n hx hb dX6_works_4 rfl (lv_at hl 1 rfl) ?_
  refine ga_ild hx hb hK hP 11 rfl i (rfl) (by omega) (by decide) dX6_works_5 ?_
  refine tp_i (y := 5) (hw) ?_
  refine lv_istore_n (lv' := [(3, .int 5), (0, .ref (g 0)), (1, .int (nI i)), (2, .int (nI r))]) hx hb dX6_works_6 rfl hl (by decide) rfl (fun ls hl => ?_)
  refine lv_aload_n hx hb dX6_works_7 rfl (lv_at hl 1 rfl) ?_
  refine lv_iload_n hx hb dX6_works_8 rfl (lv_at hl 3 rfl) ?_
  refine lv_aload_n hx hb dX6_works_9 rfl (lv_at hl 1 rfl) ?_
  refine va_get (D := D) (ci := 6) (v := .ref (g 8)) (C := RX6) (T := TX6) (N := 23) hx hb hts hiX6 hown hK.1 hP 0 rfl rfl 9 (by decide) kf35 (fun _ h9 => h9) rfl dX6_works_10 ?_
  refine lv_iload_n hx hb dX6_works_13 rfl (lv_at hl 0 rfl) ?_
  refine ga_ild hx hb hK hP 8 rfl 5 (by decide) (by decide) (by decide) dX6_works_14 ?_
  refine tp_i (y := 8) (by rfl) ?_
  refine pu_callb (va_runV (As := [.int (nI r), .int 8]) (rest := []) ⟨hx, hb, hml, hown, hts⟩ (c_X6_isOf hh hn r (by omega) a ha hFa 8 (by decide)) (cwV 2 hts gX6_works_X6_isOf rfl rfl rfl (by decide +kernel) ⟨Nat.le_of_ble_eq_true rfl, Nat.le_of_ble_eq_true rfl⟩) (wd_preV (ci := 6) (q0 := 0) hP hK rfl rfl) rfl rfl hl.1 rfl (lv_room (Nat.le_of_ble_eq_true rfl)) dX6_works_15 ⟨Nat.zero_le _, Nat.zero_le _⟩) (fun _ => ?_) (fun h9 => absurd (hko) (by rw [h9]; decide))
  refine lv_if_ne (tgt := 23) hx hb dX6_works_18 (by decide) (fun _ => ?_) (fun h9 => absurd h9 (by decide))
  refine lv_iload_n hx hb dX6_works_23 rfl (lv_at hl 0 rfl) ?_
  refine lv_tableIn (off := 110) (tgt := 134) hx hb dX6_works_24 (by decide) (by decide) (by decide) (by decide) ?_
  refine lv_aload_n hx hb dX6_works_134 rfl (lv_at hl 1 rfl) ?_
  refine lv_iload_n hx hb dX6_works_135 rfl (lv_at hl 2 rfl) ?_
  refine lv_iload_n hx hb dX6_works_136 rfl (lv_at hl 3 rfl) ?_
  refine lv_iload_n hx hb dX6_works_137 rfl (lv_at hl 0 rfl) ?_
  refine lv_bipush (v := 10) hx hb dX6_works_138 (by decide) ?_
  refine lv_icmp_ne (tgt := 147) hx hb dX6_works_140 (by decide) (fun _ => ?_) (fun h9 => absurd h9 (by decide))
  refine lv_iconst (v := 0) hx hb dX6_works_147 (by decide) ?_
  refine mu_calli (va_runV (As := [.int (nI i), .int (nI r), .int 0]) (rest := []) ⟨hx, hb, hml, hown, hts⟩ (c_X6_heaph_o hh hn hk r (by omega) i (by omega) z z hz hz8 (Nat.le_refl z) hv rfl) (cwV 3 hts gX6_works_X6_heaps rfl rfl rfl (by decide +kernel) ⟨Nat.le_of_ble_eq_true rfl, Nat.le_of_ble_eq_true rfl⟩) (wd_preV (ci := 6) (q0 := 0) hP hK rfl rfl) rfl rfl hl.1 rfl (lv_room (Nat.le_of_ble_eq_true rfl)) dX6_works_148 ⟨Nat.zero_le _, Nat.zero_le _⟩) hS (fun H locs hP hS => ?_)
  have hP : va_P D kC (mo_W cI cJ g fx (nI n) F Wt Sz Nu Pl Bf (nI b) (nI k) G Wk (vp_updL To i (To i + msum Wt Pl (8 * r) z)) Sl Sd (nI as) wo pa fa Fo) H := hP
  exact W.iret (v := 0) hx hb hr (fun t9 ht _ => ⟨congrArg (fun z => Outcome.returned (some (Value.int z))) (rfl), by rw [ht]; exact hP, hS.F ht⟩) hS.2.2 dX6_works_151
set_option maxHeartbeats 4000000 in
set_option maxRecDepth 100000 in
theorem c_X6_work_5n (hh : ad_ok g 16) (hn : n ≤ 100) (hk : k ≤ 8) (r : Nat) (hr9 : r < n) (i : Nat) (hi : i < k) (a : Nat) (ha : a < 16) (hFa : F r = nI a) (hw : Wk i = 5) (hko : ko (F r) (nI 8) = true) (z q : Nat) (hz : Sz r = nI z) (hz8 : z ≤ 8) (hv : ∀ j, j < q → ∃ p9, p9 < n ∧ Pl (8 * r + j) = nI p9) (hqz : q < z) (hnq : Pl (8 * r + q) = -1) : Met l yX6_works wsX6_works ({ frames := 7, cells := 0, slots := 0, locals := 300 }) (wd_P D cI cJ [.ref (g 0), .int (nI i), .int (nI r)] (mo_W cI cJ g fx (nI n) F Wt Sz Nu Pl Bf (nI b) (nI k) G Wk To Sl Sd (nI as) wo pa fa Fo)) (pu_Q (some (.int 2))) 0 0 (fun _ => False) := by
  refine Met.ofW (cc := cX6_works) (maxL := 5) (ret := (some .int)) (by decide) rfl ?_
  intro p e s m args below meth c s₁ B hml hv
  obtain ⟨rfl, hP, hK⟩ := hv
  have hx := B.exec
  have hb := B.bytes
  have hr := B.returns
  have hts := atoms_spec (ws := wsX6_works) B.pre
  have hown : s.vm.findClass RX6 = some m.cls := findClass_of_methodNamed B.named
  have hlocks := B.notSynchronized
  have hiX6 : ∀ w ∈ u_ws RX6 TX6 23, w ∈ wsX6_works := by decide +kernel
  have kf44 := hts (.fieldLink RX6 44 "SortingLineModel" "works" "[I") (by decide +kernel)
  have kf35 := hts (.fieldLink RX6 35 "SortingLineModel" "wants" "[I") (by decide +kernel)
  have hl := lv_entry ([.ref (g 0), .int (nI i), .int (nI r)]) (n := 5) (Nat.le_of_ble_eq_true rfl)
  rw [lg_entry_eq]
  generalize (lg_sl ([.ref (g 0), .int (nI i), .int (nI r)]) ++ List.replicate (5 - (lg_sl ([.ref (g 0), .int (nI i), .int (nI r)])).length) Slot.unset).toArray = ls at hl ⊢
  have hl : lv_has ls 5 [(0, .ref (g 0)), (1, .int (nI i)), (2, .int (nI r))] := hl
  refine lv_aload_n hx hb dX6_works_0 rfl (lv_at hl 0 rfl) ?_
  refine va_get (D := D) (ci := 6) (v := .ref (g 11)) (C := RX6) (T := TX6) (N := 23) hx hb hts hiX6 hown hK.1 hP 0 rfl rfl 14 (by decide) kf44 (fun _ h9 => h9) rfl dX6_works_1 ?_
  refine lv_iload_n hx hb dX6_works_4 rfl (lv_at hl 1 rfl) ?_
  refine ga_ild hx hb hK hP 11 rfl i (rfl) (by omega) (by decide) dX6_works_5 ?_
  refine tp_i (y := 5) (hw) ?_
  refine lv_istore_n (lv' := [(3, .int 5), (0, .ref (g 0)), (1, .int (nI i)), (2, .int (nI r))]) hx hb dX6_works_6 rfl hl (by decide) rfl (fun ls hl => ?_)
  refine lv_aload_n hx hb dX6_works_7 rfl (lv_at hl 1 rfl) ?_
  refine lv_iload_n hx hb dX6_works_8 rfl (lv_at hl 3 rfl) ?_
  refine lv_aload_n hx hb dX6_works_9 rfl (lv_at hl 1 rfl) ?_
  refine va_get (D := D) (ci := 6) (v := .ref (g 8)) (C := RX6) (T := TX6) (N := 23) hx hb hts hiX6 hown hK.1 hP 0 rfl rfl 9 (by decide) kf35 (fun _ h9 => h9) rfl dX6_works_10 ?_
  refine lv_iload_n hx hb dX6_works_13 rfl (lv_at hl 0 rfl) ?_
  refine ga_ild hx hb hK hP 8 rfl 5 (by decide) (by decide) (by decide) dX6_works_14 ?_
  refine tp_i (y := 8) (by rfl) ?_
  refine pu_callb (va_runV (As := [.int (nI r), .int 8]) (rest := []) ⟨hx, hb, hml, hown, hts⟩ (c_X6_isOf hh hn r (by omega) a ha hFa 8 (by decide)) (cwV 2 hts gX6_works_X6_isOf rfl rfl rfl (by decide +kernel) ⟨Nat.le_of_ble_eq_true rfl, Nat.le_of_ble_eq_true rfl⟩) (wd_preV (ci := 6) (q0 := 0) hP hK rfl rfl) rfl rfl hl.1 rfl (lv_room (Nat.le_of_ble_eq_true rfl)) dX6_works_15 ⟨Nat.zero_le _, Nat.zero_le _⟩) (fun _ => ?_) (fun h9 => absurd (hko) (by rw [h9]; decide))
  refine lv_if_ne (tgt := 23) hx hb dX6_works_18 (by decide) (fun _ => ?_) (fun h9 => absurd h9 (by decide))
  refine lv_iload_n hx hb dX6_works_23 rfl (lv_at hl 0 rfl) ?_
  refine lv_tableIn (off := 110) (tgt := 134) hx hb dX6_works_24 (by decide) (by decide) (by decide) (by decide) ?_
  refine lv_aload_n hx hb dX6_works_134 rfl (lv_at hl 1 rfl) ?_
  refine lv_iload_n hx hb dX6_works_135 rfl (lv_at hl 2 rfl) ?_
  refine lv_iload_n hx hb dX6_works_136 rfl (lv_at hl 3 rfl) ?_
  refine lv_iload_n hx hb dX6_works_137 rfl (lv_at hl 0 rfl) ?_
  refine lv_bipush (v := 10) hx hb dX6_works_138 (by decide) ?_
  refine lv_icmp_ne (tgt := 147) hx hb dX6_works_140 (by decide) (fun _ => ?_) (fun h9 => absurd h9 (by decide))
  refine lv_iconst (v := 0) hx hb dX6_works_147 (by decide) ?_
  refine pu_calli (va_runV (As := [.int (nI i), .int (nI r), .int 0]) (rest := []) ⟨hx, hb, hml, hown, hts⟩ (c_X6_heaph_n hh hn hk r (by omega) i (by omega) z q hz hz8 (by omega) hv hqz hnq) (cwV 3 hts gX6_works_X6_heaps rfl rfl rfl (by decide +kernel) ⟨Nat.le_of_ble_eq_true rfl, Nat.le_of_ble_eq_true rfl⟩) (wd_preV (ci := 6) (q0 := 0) hP hK rfl rfl) rfl rfl hl.1 rfl (lv_room (Nat.le_of_ble_eq_true rfl)) dX6_works_148 ⟨Nat.zero_le _, Nat.zero_le _⟩) ?_
  exact W.iret (v := 2) hx hb hr (fun t9 ht _ => ⟨congrArg (fun z => Outcome.returned (some (Value.int z))) (rfl), ht⟩) (fun _ h9 => nomatch h9) dX6_works_151
set_option maxHeartbeats 4000000 in
set_option maxRecDepth 100000 in
theorem c_X6_work_10o (hh : ad_ok g 16) (hn : n ≤ 100) (hk : k ≤ 8) (r : Nat) (hr9 : r < n) (i : Nat) (hi : i < k) (a : Nat) (ha : a < 16) (hFa : F r = nI a) (hw : Wk i = 10) (hko : ko (F r) (nI 11) = true) (z : Nat) (hz : Sz r = nI z) (hz8 : z ≤ 8) (hv : ∀ j, j < z → ∃ p9, p9 < n ∧ Pl (8 * r + j) = nI p9) : Met l yX6_works wsX6_works ({ frames := 7, cells := 0, slots := 0, locals := 300 }) (wd_P D cI cJ [.ref (g 0), .int (nI i), .int (nI r)] (mo_W cI cJ g fx (nI n) F Wt Sz Nu Pl Bf (nI b) (nI k) G Wk To Sl Sd (nI as) wo pa fa Fo)) (mu_Q D (ad_A g 16) (some (.int 0)) (mo_W cI cJ g fx (nI n) F Wt Sz Nu Pl Bf (nI b) (nI k) G Wk (vp_updL To i (To i + msum (fun z => kyO (F z) (Wt z)) Pl (8 * r) z)) Sl Sd (nI as) wo pa fa Fo)) 0 0 (ad_A g 16) := by
  refine Met.ofW (cc := cX6_works) (maxL := 5) (ret := (some .int)) (by decide) rfl ?_
  intro p e s m args below meth c s₁ B hml hv
  obtain ⟨rfl, hP, hK⟩ := hv
  have hx := B.exec
  have hb := B.bytes
  have hr := B.returns
  have hts := atoms_spec (ws := wsX6_works) B.pre
  have hown : s.vm.findClass RX6 = some m.cls := findClass_of_methodNamed B.named
  have hlocks := B.notSynchronized
  have hiX6 : ∀ w ∈ u_ws RX6 TX6 23, w ∈ wsX6_works := by decide +kernel
  have kf44 := hts (.fieldLink RX6 44 "SortingLineModel" "works" "[I") (by decide +kernel)
  have kf35 := hts (.fieldLink RX6 35 "SortingLineModel" "wants" "[I") (by decide +kernel)
  have hS : va_S (ad_A g 16) s.heap s.heap [] := va_S.rf
  have hl := lv_entry ([.ref (g 0), .int (nI i), .int (nI r)]) (n := 5) (Nat.le_of_ble_eq_true rfl)
  rw [lg_entry_eq]
  generalize (lg_sl ([.ref (g 0), .int (nI i), .int (nI r)]) ++ List.replicate (5 - (lg_sl ([.ref (g 0), .int (nI i), .int (nI r)])).length) Slot.unset).toArray = ls at hl ⊢
  have hl : lv_has ls 5 [(0, .ref (g 0)), (1, .int (nI i)), (2, .int (nI r))] := hl
  refine lv_aload_n hx hb dX6_works_0 rfl (lv_at hl 0 rfl) ?_
  refine va_get (D := D) (ci := 6) (v := .ref (g 11)) (C := RX6) (T := TX6) (N := 23) hx hb hts hiX6 hown hK.1 hP 0 rfl rfl 14 (by decide) kf44 (fun _ h9 => h9) rfl dX6_works_1 ?_
  refine lv_iload_n hx hb dX6_works_4 rfl (lv_at hl 1 rfl) ?_
  refine ga_ild hx hb hK hP 11 rfl i (rfl) (by omega) (by decide) dX6_works_5 ?_
  refine tp_i (y := 10) (hw) ?_
  refine lv_istore_n (lv' := [(3, .int 10), (0, .ref (g 0)), (1, .int (nI i)), (2, .int (nI r))]) hx hb dX6_works_6 rfl hl (by decide) rfl (fun ls hl => ?_)
  refine lv_aload_n hx hb dX6_works_7 rfl (lv_at hl 1 rfl) ?_
  refine lv_iload_n hx hb dX6_works_8 rfl (lv_at hl 3 rfl) ?_
  refine lv_aload_n hx hb dX6_works_9 rfl (lv_at hl 1 rfl) ?_
  refine va_get (D := D) (ci := 6) (v := .ref (g 8)) (C := RX6) (T := TX6) (N := 23) hx hb hts hiX6 hown hK.1 hP 0 rfl rfl 9 (by decide) kf35 (fun _ h9 => h9) rfl dX6_works_10 ?_
  refine lv_iload_n hx hb dX6_works_13 rfl (lv_at hl 0 rfl) ?_
  refine ga_ild hx hb hK hP 8 rfl 10 (by decide) (by decide) (by decide) dX6_works_14 ?_
  refine tp_i (y := 11) (by rfl) ?_
  refine pu_callb (va_runV (As := [.int (nI r), .int 11]) (rest := []) ⟨hx, hb, hml, hown, hts⟩ (c_X6_isOf hh hn r (by omega) a ha hFa 11 (by decide)) (cwV 2 hts gX6_works_X6_isOf rfl rfl rfl (by decide +kernel) ⟨Nat.le_of_ble_eq_true rfl, Nat.le_of_ble_eq_true rfl⟩) (wd_preV (ci := 6) (q0 := 0) hP hK rfl rfl) rfl rfl hl.1 rfl (lv_room (Nat.le_of_ble_eq_true rfl)) dX6_works_15 ⟨Nat.zero_le _, Nat.zero_le _⟩) (fun _ => ?_) (fun h9 => absurd (hko) (by rw [h9]; decide))
  refine lv_if_ne (tgt := 23) hx hb dX6_works_18 (by decide) (fun _ => ?_) (fun h9 => absurd h9 (by decide))
  refine lv_iload_n hx hb dX6_works_23 rfl (lv_at hl 0 rfl) ?_
  refine lv_tableIn (off := 110) (tgt := 134) hx hb dX6_works_24 (by decide) (by decide) (by decide) (by decide) ?_
  refine lv_aload_n hx hb dX6_works_134 rfl (lv_at hl 1 rfl) ?_
  refine lv_iload_n hx hb dX6_works_135 rfl (lv_at hl 2 rfl) ?_
  refine lv_iload_n hx hb dX6_works_136 rfl (lv_at hl 3 rfl) ?_
  refine lv_iload_n hx hb dX6_works_137 rfl (lv_at hl 0 rfl) ?_
  refine lv_bipush (v := 10) hx hb dX6_works_138 (by decide) ?_
  refine lv_icmp_ne (tgt := 147) hx hb dX6_works_140 (by decide) (fun h9 => absurd (by decide) h9) (fun _ => ?_)
  refine lv_iconst (v := 1) hx hb dX6_works_143 (by decide) ?_
  refine lv_goto (tgt := 148) hx hb dX6_works_144 (by decide) ?_
  refine mu_calli (va_runV (As := [.int (nI i), .int (nI r), .int 1]) (rest := []) ⟨hx, hb, hml, hown, hts⟩ (c_X6_heapk_o hh hn hk r (by omega) i (by omega) z z hz hz8 (Nat.le_refl z) hv rfl) (cwV 3 hts gX6_works_X6_heaps rfl rfl rfl (by decide +kernel) ⟨Nat.le_of_ble_eq_true rfl, Nat.le_of_ble_eq_true rfl⟩) (wd_preV (ci := 6) (q0 := 0) hP hK rfl rfl) rfl rfl hl.1 rfl (lv_room (Nat.le_of_ble_eq_true rfl)) dX6_works_148 ⟨Nat.zero_le _, Nat.zero_le _⟩) hS (fun H locs hP hS => ?_)
  have hP : va_P D kC (mo_W cI cJ g fx (nI n) F Wt Sz Nu Pl Bf (nI b) (nI k) G Wk (vp_updL To i (To i + msum (fun z => kyO (F z) (Wt z)) Pl (8 * r) z)) Sl Sd (nI as) wo pa fa Fo) H := hP
  exact W.iret (v := 0) hx hb hr (fun t9 ht _ => ⟨congrArg (fun z => Outcome.returned (some (Value.int z))) (rfl), by rw [ht]; exact hP, hS.F ht⟩) hS.2.2 dX6_works_151
set_option maxHeartbeats 4000000 in
set_option maxRecDepth 100000 in
theorem c_X6_work_10n (hh : ad_ok g 16) (hn : n ≤ 100) (hk : k ≤ 8) (r : Nat) (hr9 : r < n) (i : Nat) (hi : i < k) (a : Nat) (ha : a < 16) (hFa : F r = nI a) (hw : Wk i = 10) (hko : ko (F r) (nI 11) = true) (z q : Nat) (hz : Sz r = nI z) (hz8 : z ≤ 8) (hv : ∀ j, j < q → ∃ p9, p9 < n ∧ Pl (8 * r + j) = nI p9) (hqz : q < z) (hnq : Pl (8 * r + q) = -1) : Met l yX6_works wsX6_works ({ frames := 7, cells := 0, slots := 0, locals := 300 }) (wd_P D cI cJ [.ref (g 0), .int (nI i), .int (nI r)] (mo_W cI cJ g fx (nI n) F Wt Sz Nu Pl Bf (nI b) (nI k) G Wk To Sl Sd (nI as) wo pa fa Fo)) (pu_Q (some (.int 2))) 0 0 (fun _ => False) := by
  refine Met.ofW (cc := cX6_works) (maxL := 5) (ret := (some .int)) (by decide) rfl ?_
  intro p e s m args below meth c s₁ B hml hv
  obtain ⟨rfl, hP, hK⟩ := hv
  have hx := B.exec
  have hb := B.bytes
  have hr := B.returns
  have hts := atoms_spec (ws := wsX6_works) B.pre
  have hown : s.vm.findClass RX6 = some m.cls := findClass_of_methodNamed B.named
  have hlocks := B.notSynchronized
  have hiX6 : ∀ w ∈ u_ws RX6 TX6 23, w ∈ wsX6_works := by decide +kernel
  have kf44 := hts (.fieldLink RX6 44 "SortingLineModel" "works" "[I") (by decide +kernel)
  have kf35 := hts (.fieldLink RX6 35 "SortingLineModel" "wants" "[I") (by decide +kernel)
  have hl := lv_entry ([.ref (g 0), .int (nI i), .int (nI r)]) (n := 5) (Nat.le_of_ble_eq_true rfl)
  rw [lg_entry_eq]
  generalize (lg_sl ([.ref (g 0), .int (nI i), .int (nI r)]) ++ List.replicate (5 - (lg_sl ([.ref (g 0), .int (nI i), .int (nI r)])).length) Slot.unset).toArray = ls at hl ⊢
  have hl : lv_has ls 5 [(0, .ref (g 0)), (1, .int (nI i)), (2, .int (nI r))] := hl
  refine lv_aload_n hx hb dX6_works_0 rfl (lv_at hl 0 rfl) ?_
  refine va_get (D := D) (ci := 6) (v := .ref (g 11)) (C := RX6) (T := TX6) (N := 23) hx hb hts hiX6 hown hK.1 hP 0 rfl rfl 14 (by decide) kf44 (fun _ h9 => h9) rfl dX6_works_1 ?_
  refine lv_iload_n hx hb dX6_works_4 rfl (lv_at hl 1 rfl) ?_
  refine ga_ild hx hb hK hP 11 rfl i (rfl) (by omega) (by decide) dX6_works_5 ?_
  refine tp_i (y := 10) (hw) ?_
  refine lv_istore_n (lv' := [(3, .int 10), (0, .ref (g 0)), (1, .int (nI i)), (2, .int (nI r))]) hx hb dX6_works_6 rfl hl (by decide) rfl (fun ls hl => ?_)
  refine lv_aload_n hx hb dX6_works_7 rfl (lv_at hl 1 rfl) ?_
  refine lv_iload_n hx hb dX6_works_8 rfl (lv_at hl 3 rfl) ?_
  refine lv_aload_n hx hb dX6_works_9 rfl (lv_at hl 1 rfl) ?_
  refine va_get (D := D) (ci := 6) (v := .ref (g 8)) (C := RX6) (T := TX6) (N := 23) hx hb hts hiX6 hown hK.1 hP 0 rfl rfl 9 (by decide) kf35 (fun _ h9 => h9) rfl dX6_works_10 ?_
  refine lv_iload_n hx hb dX6_works_13 rfl (lv_at hl 0 rfl) ?_
  refine ga_ild hx hb hK hP 8 rfl 10 (by decide) (by decide) (by decide) dX6_works_14 ?_
  refine tp_i (y := 11) (by rfl) ?_
  refine pu_callb (va_runV (As := [.int (nI r), .int 11]) (rest := []) ⟨hx, hb, hml, hown, hts⟩ (c_X6_isOf hh hn r (by omega) a ha hFa 11 (by decide)) (cwV 2 hts gX6_works_X6_isOf rfl rfl rfl (by decide +kernel) ⟨Nat.le_of_ble_eq_true rfl, Nat.le_of_ble_eq_true rfl⟩) (wd_preV (ci := 6) (q0 := 0) hP hK rfl rfl) rfl rfl hl.1 rfl (lv_room (Nat.le_of_ble_eq_true rfl)) dX6_works_15 ⟨Nat.zero_le _, Nat.zero_le _⟩) (fun _ => ?_) (fun h9 => absurd (hko) (by rw [h9]; decide))
  refine lv_if_ne (tgt := 23) hx hb dX6_works_18 (by decide) (fun _ => ?_) (fun h9 => absurd h9 (by decide))
  refine lv_iload_n hx hb dX6_works_23 rfl (lv_at hl 0 rfl) ?_
  refine lv_tableIn (off := 110) (tgt := 134) hx hb dX6_works_24 (by decide) (by decide) (by decide) (by decide) ?_
  refine lv_aload_n hx hb dX6_works_134 rfl (lv_at hl 1 rfl) ?_
  refine lv_iload_n hx hb dX6_works_135 rfl (lv_at hl 2 rfl) ?_
  refine lv_iload_n hx hb dX6_works_136 rfl (lv_at hl 3 rfl) ?_
  refine lv_iload_n hx hb dX6_works_137 rfl (lv_at hl 0 rfl) ?_
  refine lv_bipush (v := 10) hx hb dX6_works_138 (by decide) ?_
  refine lv_icmp_ne (tgt := 147) hx hb dX6_works_140 (by decide) (fun h9 => absurd (by decide) h9) (fun _ => ?_)
  refine lv_iconst (v := 1) hx hb dX6_works_143 (by decide) ?_
  refine lv_goto (tgt := 148) hx hb dX6_works_144 (by decide) ?_
  refine pu_calli (va_runV (As := [.int (nI i), .int (nI r), .int 1]) (rest := []) ⟨hx, hb, hml, hown, hts⟩ (c_X6_heapk_n hh hn hk r (by omega) i (by omega) z q hz hz8 (by omega) hv hqz hnq) (cwV 3 hts gX6_works_X6_heaps rfl rfl rfl (by decide +kernel) ⟨Nat.le_of_ble_eq_true rfl, Nat.le_of_ble_eq_true rfl⟩) (wd_preV (ci := 6) (q0 := 0) hP hK rfl rfl) rfl rfl hl.1 rfl (lv_room (Nat.le_of_ble_eq_true rfl)) dX6_works_148 ⟨Nat.zero_le _, Nat.zero_le _⟩) ?_
  exact W.iret (v := 2) hx hb hr (fun t9 ht _ => ⟨congrArg (fun z => Outcome.returned (some (Value.int z))) (rfl), ht⟩) (fun _ h9 => nomatch h9) dX6_works_151
set_option maxHeartbeats 4000000 in
set_option maxRecDepth 100000 in
theorem c_X6_work_6nB (hh : ad_ok g 16) (hn : n ≤ 100) (hk : k ≤ 8) (r : Nat) (hr9 : r < n) (i : Nat) (hi : i < k) (a : Nat) (ha : a < 16) (hFa : F r = nI a) (hw : Wk i = 6) (hko : ko (F r) (nI 8) = true) (hs : Sl i = -1) (z : Nat) (hz : Sz r = nI z) (hz8 : z ≤ 8) (h2 : p_in 0 (Sz r) = false) : Met l yX6_works wsX6_works ({ frames := 7, cells := 0, slots := 0, locals := 300 }) (wd_P D cI cJ [.ref (g 0), .int (nI i), .int (nI r)] (mo_W cI cJ g fx (nI n) F Wt Sz Nu Pl Bf (nI b) (nI k) G Wk To Sl Sd (nI as) wo pa fa Fo)) (mu_Q D (ad_A g 16) (some (.int 3)) (mo_W cI cJ g fx (nI n) F Wt Sz Nu Pl Bf (nI b) (nI k) G Wk To Sl Sd (nI as) wo pa fa Fo)) 0 0 (ad_A g 16) := by
  refine Met.ofW (cc := cX6_works) (maxL := 5) (ret := (some .int)) (by decide) rfl ?_
  intro p e s m args below meth c s₁ B hml hv
  obtain ⟨rfl, hP, hK⟩ := hv
  have hx := B.exec
  have hb := B.bytes
  have hr := B.returns
  have hts := atoms_spec (ws := wsX6_works) B.pre
  have hown : s.vm.findClass RX6 = some m.cls := findClass_of_methodNamed B.named
  have hlocks := B.notSynchronized
  have hiX6 : ∀ w ∈ u_ws RX6 TX6 23, w ∈ wsX6_works := by decide +kernel
  have kf44 := hts (.fieldLink RX6 44 "SortingLineModel" "works" "[I") (by decide +kernel)
  have kf35 := hts (.fieldLink RX6 35 "SortingLineModel" "wants" "[I") (by decide +kernel)
  have hS : va_S (ad_A g 16) s.heap s.heap [] := va_S.rf
  have hl := lv_entry ([.ref (g 0), .int (nI i), .int (nI r)]) (n := 5) (Nat.le_of_ble_eq_true rfl)
  rw [lg_entry_eq]
  generalize (lg_sl ([.ref (g 0), .int (nI i), .int (nI r)]) ++ List.replicate (5 - (lg_sl ([.ref (g 0), .int (nI i), .int (nI r)])).length) Slot.unset).toArray = ls at hl ⊢
  have hl : lv_has ls 5 [(0, .ref (g 0)), (1, .int (nI i)), (2, .int (nI r))] := hl
  refine lv_aload_n hx hb dX6_works_0 rfl (lv_at hl 0 rfl) ?_
  refine va_get (D := D) (ci := 6) (v := .ref (g 11)) (C := RX6) (T := TX6) (N := 23) hx hb hts hiX6 hown hK.1 hP 0 rfl rfl 14 (by decide) kf44 (fun _ h9 => h9) rfl dX6_works_1 ?_
  refine lv_iload_n hx hb dX6_works_4 rfl (lv_at hl 1 rfl) ?_
  refine ga_ild hx hb hK hP 11 rfl i (rfl) (by omega) (by decide) dX6_works_5 ?_
  refine tp_i (y := 6) (hw) ?_
  refine lv_istore_n (lv' := [(3, .int 6), (0, .ref (g 0)), (1, .int (nI i)), (2, .int (nI r))]) hx hb dX6_works_6 rfl hl (by decide) rfl (fun ls hl => ?_)
  refine lv_aload_n hx hb dX6_works_7 rfl (lv_at hl 1 rfl) ?_
  refine lv_iload_n hx hb dX6_works_8 rfl (lv_at hl 3 rfl) ?_
  refine lv_aload_n hx hb dX6_works_9 rfl (lv_at hl 1 rfl) ?_
  refine va_get (D := D) (ci := 6) (v := .ref (g 8)) (C := RX6) (T := TX6) (N := 23) hx hb hts hiX6 hown hK.1 hP 0 rfl rfl 9 (by decide) kf35 (fun _ h9 => h9) rfl dX6_works_10 ?_
  refine lv_iload_n hx hb dX6_works_13 rfl (lv_at hl 0 rfl) ?_
  refine ga_ild hx hb hK hP 8 rfl 6 (by decide) (by decide) (by decide) dX6_works_14 ?_
  refine tp_i (y := 8) (by rfl) ?_
  refine pu_callb (va_runV (As := [.int (nI r), .int 8]) (rest := []) ⟨hx, hb, hml, hown, hts⟩ (c_X6_isOf hh hn r (by omega) a ha hFa 8 (by decide)) (cwV 2 hts gX6_works_X6_isOf rfl rfl rfl (by decide +kernel) ⟨Nat.le_of_ble_eq_true rfl, Nat.le_of_ble_eq_true rfl⟩) (wd_preV (ci := 6) (q0 := 0) hP hK rfl rfl) rfl rfl hl.1 rfl (lv_room (Nat.le_of_ble_eq_true rfl)) dX6_works_15 ⟨Nat.zero_le _, Nat.zero_le _⟩) (fun _ => ?_) (fun h9 => absurd (hko) (by rw [h9]; decide))
  refine lv_if_ne (tgt := 23) hx hb dX6_works_18 (by decide) (fun _ => ?_) (fun h9 => absurd h9 (by decide))
  refine lv_iload_n hx hb dX6_works_23 rfl (lv_at hl 0 rfl) ?_
  refine lv_tableIn (off := 128) (tgt := 152) hx hb dX6_works_24 (by decide) (by decide) (by decide) (by decide) ?_
  refine lv_aload_n hx hb dX6_works_152 rfl (lv_at hl 1 rfl) ?_
  refine lv_iload_n hx hb dX6_works_153 rfl (lv_at hl 2 rfl) ?_
  refine lv_iload_n hx hb dX6_works_154 rfl (lv_at hl 3 rfl) ?_
  refine mu_calli (va_runV (As := [.int (nI i), .int (nI r)]) (rest := []) ⟨hx, hb, hml, hown, hts⟩ (c_X6_packs_nB hh hn hk r (by omega) i (by omega) a ha hFa hko hs z hz hz8 h2) (cwV 2 hts gX6_works_X6_packs rfl rfl rfl (by decide +kernel) ⟨Nat.le_of_ble_eq_true rfl, Nat.le_of_ble_eq_true rfl⟩) (wd_preV (ci := 6) (q0 := 0) hP hK rfl rfl) rfl rfl hl.1 rfl (lv_room (Nat.le_of_ble_eq_true rfl)) dX6_works_155 ⟨Nat.zero_le _, Nat.zero_le _⟩) hS (fun H locs hP hS => ?_)
  have hP : va_P D kC (mo_W cI cJ g fx (nI n) F Wt Sz Nu Pl Bf (nI b) (nI k) G Wk To Sl Sd (nI as) wo pa fa Fo) H := hP
  exact W.iret (v := 3) hx hb hr (fun t9 ht _ => ⟨congrArg (fun z => Outcome.returned (some (Value.int z))) (rfl), by rw [ht]; exact hP, hS.F ht⟩) hS.2.2 dX6_works_158
set_option maxHeartbeats 4000000 in
set_option maxRecDepth 100000 in
theorem c_X6_work_6nO (hh : ad_ok g 16) (hn : n ≤ 100) (hk : k ≤ 8) (r : Nat) (hr9 : r < n) (i : Nat) (hi : i < k) (a : Nat) (ha : a < 16) (hFa : F r = nI a) (hw : Wk i = 6) (hko : ko (F r) (nI 8) = true) (hs : Sl i = -1) (z : Nat) (hz : Sz r = nI z) (hz8 : z ≤ 8) (h2 : p_in 0 (Sz r) = true) : Met l yX6_works wsX6_works ({ frames := 7, cells := 0, slots := 0, locals := 300 }) (wd_P D cI cJ [.ref (g 0), .int (nI i), .int (nI r)] (mo_W cI cJ g fx (nI n) F Wt Sz Nu Pl Bf (nI b) (nI k) G Wk To Sl Sd (nI as) wo pa fa Fo)) (mu_Q D (ad_A g 16) (some (.int 0)) (mo_W cI cJ g fx (nI n) F Wt Sz Nu (upd Pl (8 * r + 0) (-1)) Bf (nI b) (nI k) G Wk To (upd Sl i (-1)) Sd (nI as) wo pa fa Fo)) 0 0 (ad_A g 16) := by
  refine Met.ofW (cc := cX6_works) (maxL := 5) (ret := (some .int)) (by decide) rfl ?_
  intro p e s m args below meth c s₁ B hml hv
  obtain ⟨rfl, hP, hK⟩ := hv
  have hx := B.exec
  have hb := B.bytes
  have hr := B.returns
  have hts := atoms_spec (ws := wsX6_works) B.pre
  have hown : s.vm.findClass RX6 = some m.cls := findClass_of_methodNamed B.named
  have hlocks := B.notSynchronized
  have hiX6 : ∀ w ∈ u_ws RX6 TX6 23, w ∈ wsX6_works := by decide +kernel
  have kf44 := hts (.fieldLink RX6 44 "SortingLineModel" "works" "[I") (by decide +kernel)
  have kf35 := hts (.fieldLink RX6 35 "SortingLineModel" "wants" "[I") (by decide +kernel)
  have hS : va_S (ad_A g 16) s.heap s.heap [] := va_S.rf
  have hl := lv_entry ([.ref (g 0), .int (nI i), .int (nI r)]) (n := 5) (Nat.le_of_ble_eq_true rfl)
  rw [lg_entry_eq]
  generalize (lg_sl ([.ref (g 0), .int (nI i), .int (nI r)]) ++ List.replicate (5 - (lg_sl ([.ref (g 0), .int (nI i), .int (nI r)])).length) Slot.unset).toArray = ls at hl ⊢
  have hl : lv_has ls 5 [(0, .ref (g 0)), (1, .int (nI i)), (2, .int (nI r))] := hl
  refine lv_aload_n hx hb dX6_works_0 rfl (lv_at hl 0 rfl) ?_
  refine va_get (D := D) (ci := 6) (v := .ref (g 11)) (C := RX6) (T := TX6) (N := 23) hx hb hts hiX6 hown hK.1 hP 0 rfl rfl 14 (by decide) kf44 (fun _ h9 => h9) rfl dX6_works_1 ?_
  refine lv_iload_n hx hb dX6_works_4 rfl (lv_at hl 1 rfl) ?_
  refine ga_ild hx hb hK hP 11 rfl i (rfl) (by omega) (by decide) dX6_works_5 ?_
  refine tp_i (y := 6) (hw) ?_
  refine lv_istore_n (lv' := [(3, .int 6), (0, .ref (g 0)), (1, .int (nI i)), (2, .int (nI r))]) hx hb dX6_works_6 rfl hl (by decide) rfl (fun ls hl => ?_)
  refine lv_aload_n hx hb dX6_works_7 rfl (lv_at hl 1 rfl) ?_
  refine lv_iload_n hx hb dX6_works_8 rfl (lv_at hl 3 rfl) ?_
  refine lv_aload_n hx hb dX6_works_9 rfl (lv_at hl 1 rfl) ?_
  refine va_get (D := D) (ci := 6) (v := .ref (g 8)) (C := RX6) (T := TX6) (N := 23) hx hb hts hiX6 hown hK.1 hP 0 rfl rfl 9 (by decide) kf35 (fun _ h9 => h9) rfl dX6_works_10 ?_
  refine lv_iload_n hx hb dX6_works_13 rfl (lv_at hl 0 rfl) ?_
  refine ga_ild hx hb hK hP 8 rfl 6 (by decide) (by decide) (by decide) dX6_works_14 ?_
  refine tp_i (y := 8) (by rfl) ?_
  refine pu_callb (va_runV (As := [.int (nI r), .int 8]) (rest := []) ⟨hx, hb, hml, hown, hts⟩ (c_X6_isOf hh hn r (by omega) a ha hFa 8 (by decide)) (cwV 2 hts gX6_works_X6_isOf rfl rfl rfl (by decide +kernel) ⟨Nat.le_of_ble_eq_true rfl, Nat.le_of_ble_eq_true rfl⟩) (wd_preV (ci := 6) (q0 := 0) hP hK rfl rfl) rfl rfl hl.1 rfl (lv_room (Nat.le_of_ble_eq_true rfl)) dX6_works_15 ⟨Nat.zero_le _, Nat.zero_le _⟩) (fun _ => ?_) (fun h9 => absurd (hko) (by rw [h9]; decide))
  refine lv_if_ne (tgt := 23) hx hb dX6_works_18 (by decide) (fun _ => ?_) (fun h9 => absurd h9 (by decide))
  refine lv_iload_n hx hb dX6_works_23 rfl (lv_at hl 0 rfl) ?_
  refine lv_tableIn (off := 128) (tgt := 152) hx hb dX6_works_24 (by decide) (by decide) (by decide) (by decide) ?_
  refine lv_aload_n hx hb dX6_works_152 rfl (lv_at hl 1 rfl) ?_
  refine lv_iload_n hx hb dX6_works_153 rfl (lv_at hl 2 rfl) ?_
  refine lv_iload_n hx hb dX6_works_154 rfl (lv_at hl 3 rfl) ?_
  refine mu_calli (va_runV (As := [.int (nI i), .int (nI r)]) (rest := []) ⟨hx, hb, hml, hown, hts⟩ (c_X6_packs_nO hh hn hk r (by omega) i (by omega) a ha hFa hko hs z hz hz8 h2) (cwV 2 hts gX6_works_X6_packs rfl rfl rfl (by decide +kernel) ⟨Nat.le_of_ble_eq_true rfl, Nat.le_of_ble_eq_true rfl⟩) (wd_preV (ci := 6) (q0 := 0) hP hK rfl rfl) rfl rfl hl.1 rfl (lv_room (Nat.le_of_ble_eq_true rfl)) dX6_works_155 ⟨Nat.zero_le _, Nat.zero_le _⟩) hS (fun H locs hP hS => ?_)
  have hP : va_P D kC (mo_W cI cJ g fx (nI n) F Wt Sz Nu (upd Pl (8 * r + 0) (-1)) Bf (nI b) (nI k) G Wk To (upd Sl i (-1)) Sd (nI as) wo pa fa Fo) H := hP
  exact W.iret (v := 0) hx hb hr (fun t9 ht _ => ⟨congrArg (fun z => Outcome.returned (some (Value.int z))) (rfl), by rw [ht]; exact hP, hS.F ht⟩) hS.2.2 dX6_works_158
set_option maxHeartbeats 4000000 in
set_option maxRecDepth 100000 in
theorem c_X6_work_6pC (hh : ad_ok g 16) (hn : n ≤ 100) (hk : k ≤ 8) (r : Nat) (hr9 : r < n) (i : Nat) (hi : i < k) (a : Nat) (ha : a < 16) (hFa : F r = nI a) (hw : Wk i = 6) (hko : ko (F r) (nI 8) = true) (p9 : Nat) (hp9 : p9 < n) (a2 : Nat) (ha2 : a2 < 16) (hFa2 : F p9 = nI a2) (hs : Sl i = nI p9) (h4 : ko (F p9) (nI 0) = false) : Met l yX6_works wsX6_works ({ frames := 7, cells := 0, slots := 0, locals := 300 }) (wd_P D cI cJ [.ref (g 0), .int (nI i), .int (nI r)] (mo_W cI cJ g fx (nI n) F Wt Sz Nu Pl Bf (nI b) (nI k) G Wk To Sl Sd (nI as) wo pa fa Fo)) (mu_Q D (ad_A g 16) (some (.int 1)) (mo_W cI cJ g fx (nI n) F Wt Sz Nu Pl Bf (nI b) (nI k) G Wk To Sl Sd (nI as) wo pa fa Fo)) 0 0 (ad_A g 16) := by
  refine Met.ofW (cc := cX6_works) (maxL := 5) (ret := (some .int)) (by decide) rfl ?_
  intro p e s m args below meth c s₁ B hml hv
  obtain ⟨rfl, hP, hK⟩ := hv
  have hx := B.exec
  have hb := B.bytes
  have hr := B.returns
  have hts := atoms_spec (ws := wsX6_works) B.pre
  have hown : s.vm.findClass RX6 = some m.cls := findClass_of_methodNamed B.named
  have hlocks := B.notSynchronized
  have hiX6 : ∀ w ∈ u_ws RX6 TX6 23, w ∈ wsX6_works := by decide +kernel
  have kf44 := hts (.fieldLink RX6 44 "SortingLineModel" "works" "[I") (by decide +kernel)
  have kf35 := hts (.fieldLink RX6 35 "SortingLineModel" "wants" "[I") (by decide +kernel)
  have hS : va_S (ad_A g 16) s.heap s.heap [] := va_S.rf
  have hl := lv_entry ([.ref (g 0), .int (nI i), .int (nI r)]) (n := 5) (Nat.le_of_ble_eq_true rfl)
  rw [lg_entry_eq]
  generalize (lg_sl ([.ref (g 0), .int (nI i), .int (nI r)]) ++ List.replicate (5 - (lg_sl ([.ref (g 0), .int (nI i), .int (nI r)])).length) Slot.unset).toArray = ls at hl ⊢
  have hl : lv_has ls 5 [(0, .ref (g 0)), (1, .int (nI i)), (2, .int (nI r))] := hl
  refine lv_aload_n hx hb dX6_works_0 rfl (lv_at hl 0 rfl) ?_
  refine va_get (D := D) (ci := 6) (v := .ref (g 11)) (C := RX6) (T := TX6) (N := 23) hx hb hts hiX6 hown hK.1 hP 0 rfl rfl 14 (by decide) kf44 (fun _ h9 => h9) rfl dX6_works_1 ?_
  refine lv_iload_n hx hb dX6_works_4 rfl (lv_at hl 1 rfl) ?_
  refine ga_ild hx hb hK hP 11 rfl i (rfl) (by omega) (by decide) dX6_works_5 ?_
  refine tp_i (y := 6) (hw) ?_
  refine lv_istore_n (lv' := [(3, .int 6), (0, .ref (g 0)), (1, .int (nI i)), (2, .int (nI r))]) hx hb dX6_works_6 rfl hl (by decide) rfl (fun ls hl => ?_)
  refine lv_aload_n hx hb dX6_works_7 rfl (lv_at hl 1 rfl) ?_
  refine lv_iload_n hx hb dX6_works_8 rfl (lv_at hl 3 rfl) ?_
  refine lv_aload_n hx hb dX6_works_9 rfl (lv_at hl 1 rfl) ?_
  refine va_get (D := D) (ci := 6) (v := .ref (g 8)) (C := RX6) (T := TX6) (N := 23) hx hb hts hiX6 hown hK.1 hP 0 rfl rfl 9 (by decide) kf35 (fun _ h9 => h9) rfl dX6_works_10 ?_
  refine lv_iload_n hx hb dX6_works_13 rfl (lv_at hl 0 rfl) ?_
  refine ga_ild hx hb hK hP 8 rfl 6 (by decide) (by decide) (by decide) dX6_works_14 ?_
  refine tp_i (y := 8) (by rfl) ?_
  refine pu_callb (va_runV (As := [.int (nI r), .int 8]) (rest := []) ⟨hx, hb, hml, hown, hts⟩ (c_X6_isOf hh hn r (by omega) a ha hFa 8 (by decide)) (cwV 2 hts gX6_works_X6_isOf rfl rfl rfl (by decide +kernel) ⟨Nat.le_of_ble_eq_true rfl, Nat.le_of_ble_eq_true rfl⟩) (wd_preV (ci := 6) (q0 := 0) hP hK rfl rfl) rfl rfl hl.1 rfl (lv_room (Nat.le_of_ble_eq_true rfl)) dX6_works_15 ⟨Nat.zero_le _, Nat.zero_le _⟩) (fun _ => ?_) (fun h9 => absurd (hko) (by rw [h9]; decide))
  refine lv_if_ne (tgt := 23) hx hb dX6_works_18 (by decide) (fun _ => ?_) (fun h9 => absurd h9 (by decide))
  refine lv_iload_n hx hb dX6_works_23 rfl (lv_at hl 0 rfl) ?_
  refine lv_tableIn (off := 128) (tgt := 152) hx hb dX6_works_24 (by decide) (by decide) (by decide) (by decide) ?_
  refine lv_aload_n hx hb dX6_works_152 rfl (lv_at hl 1 rfl) ?_
  refine lv_iload_n hx hb dX6_works_153 rfl (lv_at hl 2 rfl) ?_
  refine lv_iload_n hx hb dX6_works_154 rfl (lv_at hl 3 rfl) ?_
  refine mu_calli (va_runV (As := [.int (nI i), .int (nI r)]) (rest := []) ⟨hx, hb, hml, hown, hts⟩ (c_X6_packs_pC hh hn hk r (by omega) i (by omega) a ha hFa hko p9 hp9 a2 ha2 hFa2 hs h4) (cwV 2 hts gX6_works_X6_packs rfl rfl rfl (by decide +kernel) ⟨Nat.le_of_ble_eq_true rfl, Nat.le_of_ble_eq_true rfl⟩) (wd_preV (ci := 6) (q0 := 0) hP hK rfl rfl) rfl rfl hl.1 rfl (lv_room (Nat.le_of_ble_eq_true rfl)) dX6_works_155 ⟨Nat.zero_le _, Nat.zero_le _⟩) hS (fun H locs hP hS => ?_)
  have hP : va_P D kC (mo_W cI cJ g fx (nI n) F Wt Sz Nu Pl Bf (nI b) (nI k) G Wk To Sl Sd (nI as) wo pa fa Fo) H := hP
  exact W.iret (v := 1) hx hb hr (fun t9 ht _ => ⟨congrArg (fun z => Outcome.returned (some (Value.int z))) (rfl), by rw [ht]; exact hP, hS.F ht⟩) hS.2.2 dX6_works_158
set_option maxHeartbeats 4000000 in
set_option maxRecDepth 100000 in
theorem c_X6_work_6pB (hh : ad_ok g 16) (hn : n ≤ 100) (hk : k ≤ 8) (r : Nat) (hr9 : r < n) (i : Nat) (hi : i < k) (a : Nat) (ha : a < 16) (hFa : F r = nI a) (hw : Wk i = 6) (hko : ko (F r) (nI 8) = true) (p9 : Nat) (hp9 : p9 < n) (a2 : Nat) (ha2 : a2 < 16) (hFa2 : F p9 = nI a2) (hs : Sl i = nI p9) (z : Nat) (hz : Sz r = nI z) (hz8 : z ≤ 8) (h4 : ko (F p9) (nI 0) = true) (h2 : p_in 0 (Sz r) = false) : Met l yX6_works wsX6_works ({ frames := 7, cells := 0, slots := 0, locals := 300 }) (wd_P D cI cJ [.ref (g 0), .int (nI i), .int (nI r)] (mo_W cI cJ g fx (nI n) F Wt Sz Nu Pl Bf (nI b) (nI k) G Wk To Sl Sd (nI as) wo pa fa Fo)) (mu_Q D (ad_A g 16) (some (.int 3)) (mo_W cI cJ g fx (nI n) F Wt Sz Nu Pl Bf (nI b) (nI k) G Wk To Sl Sd (nI as) wo pa fa Fo)) 0 0 (ad_A g 16) := by
  refine Met.ofW (cc := cX6_works) (maxL := 5) (ret := (some .int)) (by decide) rfl ?_
  intro p e s m args below meth c s₁ B hml hv
  obtain ⟨rfl, hP, hK⟩ := hv
  have hx := B.exec
  have hb := B.bytes
  have hr := B.returns
  have hts := atoms_spec (ws := wsX6_works) B.pre
  have hown : s.vm.findClass RX6 = some m.cls := findClass_of_methodNamed B.named
  have hlocks := B.notSynchronized
  have hiX6 : ∀ w ∈ u_ws RX6 TX6 23, w ∈ wsX6_works := by decide +kernel
  have kf44 := hts (.fieldLink RX6 44 "SortingLineModel" "works" "[I") (by decide +kernel)
  have kf35 := hts (.fieldLink RX6 35 "SortingLineModel" "wants" "[I") (by decide +kernel)
  have hS : va_S (ad_A g 16) s.heap s.heap [] := va_S.rf
  have hl := lv_entry ([.ref (g 0), .int (nI i), .int (nI r)]) (n := 5) (Nat.le_of_ble_eq_true rfl)
  rw [lg_entry_eq]
  generalize (lg_sl ([.ref (g 0), .int (nI i), .int (nI r)]) ++ List.replicate (5 - (lg_sl ([.ref (g 0), .int (nI i), .int (nI r)])).length) Slot.unset).toArray = ls at hl ⊢
  have hl : lv_has ls 5 [(0, .ref (g 0)), (1, .int (nI i)), (2, .int (nI r))] := hl
  refine lv_aload_n hx hb dX6_works_0 rfl (lv_at hl 0 rfl) ?_
  refine va_get (D := D) (ci := 6) (v := .ref (g 11)) (C := RX6) (T := TX6) (N := 23) hx hb hts hiX6 hown hK.1 hP 0 rfl rfl 14 (by decide) kf44 (fun _ h9 => h9) rfl dX6_works_1 ?_
  refine lv_iload_n hx hb dX6_works_4 rfl (lv_at hl 1 rfl) ?_
  refine ga_ild hx hb hK hP 11 rfl i (rfl) (by omega) (by decide) dX6_works_5 ?_
  refine tp_i (y := 6) (hw) ?_
  refine lv_istore_n (lv' := [(3, .int 6), (0, .ref (g 0)), (1, .int (nI i)), (2, .int (nI r))]) hx hb dX6_works_6 rfl hl (by decide) rfl (fun ls hl => ?_)
  refine lv_aload_n hx hb dX6_works_7 rfl (lv_at hl 1 rfl) ?_
  refine lv_iload_n hx hb dX6_works_8 rfl (lv_at hl 3 rfl) ?_
  refine lv_aload_n hx hb dX6_works_9 rfl (lv_at hl 1 rfl) ?_
  refine va_get (D := D) (ci := 6) (v := .ref (g 8)) (C := RX6) (T := TX6) (N := 23) hx hb hts hiX6 hown hK.1 hP 0 rfl rfl 9 (by decide) kf35 (fun _ h9 => h9) rfl dX6_works_10 ?_
  refine lv_iload_n hx hb dX6_works_13 rfl (lv_at hl 0 rfl) ?_
  refine ga_ild hx hb hK hP 8 rfl 6 (by decide) (by decide) (by decide) dX6_works_14 ?_
  refine tp_i (y := 8) (by rfl) ?_
  refine pu_callb (va_runV (As := [.int (nI r), .int 8]) (rest := []) ⟨hx, hb, hml, hown, hts⟩ (c_X6_isOf hh hn r (by omega) a ha hFa 8 (by decide)) (cwV 2 hts gX6_works_X6_isOf rfl rfl rfl (by decide +kernel) ⟨Nat.le_of_ble_eq_true rfl, Nat.le_of_ble_eq_true rfl⟩) (wd_preV (ci := 6) (q0 := 0) hP hK rfl rfl) rfl rfl hl.1 rfl (lv_room (Nat.le_of_ble_eq_true rfl)) dX6_works_15 ⟨Nat.zero_le _, Nat.zero_le _⟩) (fun _ => ?_) (fun h9 => absurd (hko) (by rw [h9]; decide))
  refine lv_if_ne (tgt := 23) hx hb dX6_works_18 (by decide) (fun _ => ?_) (fun h9 => absurd h9 (by decide))
  refine lv_iload_n hx hb dX6_works_23 rfl (lv_at hl 0 rfl) ?_
  refine lv_tableIn (off := 128) (tgt := 152) hx hb dX6_works_24 (by decide) (by decide) (by decide) (by decide) ?_
  refine lv_aload_n hx hb dX6_works_152 rfl (lv_at hl 1 rfl) ?_
  refine lv_iload_n hx hb dX6_works_153 rfl (lv_at hl 2 rfl) ?_
  refine lv_iload_n hx hb dX6_works_154 rfl (lv_at hl 3 rfl) ?_
  refine mu_calli (va_runV (As := [.int (nI i), .int (nI r)]) (rest := []) ⟨hx, hb, hml, hown, hts⟩ (c_X6_packs_pB hh hn hk r (by omega) i (by omega) a ha hFa hko p9 hp9 a2 ha2 hFa2 hs z hz hz8 h4 h2) (cwV 2 hts gX6_works_X6_packs rfl rfl rfl (by decide +kernel) ⟨Nat.le_of_ble_eq_true rfl, Nat.le_of_ble_eq_true rfl⟩) (wd_preV (ci := 6) (q0 := 0) hP hK rfl rfl) rfl rfl hl.1 rfl (lv_room (Nat.le_of_ble_eq_true rfl)) dX6_works_155 ⟨Nat.zero_le _, Nat.zero_le _⟩) hS (fun H locs hP hS => ?_)
  have hP : va_P D kC (mo_W cI cJ g fx (nI n) F Wt Sz Nu Pl Bf (nI b) (nI k) G Wk To Sl Sd (nI as) wo pa fa Fo) H := hP
  exact W.iret (v := 3) hx hb hr (fun t9 ht _ => ⟨congrArg (fun z => Outcome.returned (some (Value.int z))) (rfl), by rw [ht]; exact hP, hS.F ht⟩) hS.2.2 dX6_works_158
set_option maxHeartbeats 4000000 in
set_option maxRecDepth 100000 in
theorem c_X6_work_6pS (hh : ad_ok g 16) (hn : n ≤ 100) (hk : k ≤ 8) (r : Nat) (hr9 : r < n) (i : Nat) (hi : i < k) (a : Nat) (ha : a < 16) (hFa : F r = nI a) (hw : Wk i = 6) (hko : ko (F r) (nI 8) = true) (p9 : Nat) (hp9 : p9 < n) (a2 : Nat) (ha2 : a2 < 16) (hFa2 : F p9 = nI a2) (hs : Sl i = nI p9) (e9 : Nat) (he : e9 < 18) (he9 : pt_of a = nI e9) (z : Nat) (hz : Sz r = nI z) (hz8 : z ≤ 8) (h4 : ko (F p9) (nI 0) = true) (h2 : p_in 0 (Sz r) = true) (h3 : ko (F p9) (nI e9) = false) : Met l yX6_works wsX6_works ({ frames := 7, cells := 0, slots := 0, locals := 300 }) (wd_P D cI cJ [.ref (g 0), .int (nI i), .int (nI r)] (mo_W cI cJ g fx (nI n) F Wt Sz Nu Pl Bf (nI b) (nI k) G Wk To Sl Sd (nI as) wo pa fa Fo)) (mu_Q D (ad_A g 16) (some (.int 4)) (mo_W cI cJ g fx (nI n) F Wt Sz Nu Pl Bf (nI b) (nI k) G Wk To Sl Sd (nI as) wo pa fa Fo)) 0 0 (ad_A g 16) := by
  refine Met.ofW (cc := cX6_works) (maxL := 5) (ret := (some .int)) (by decide) rfl ?_
  intro p e s m args below meth c s₁ B hml hv
  obtain ⟨rfl, hP, hK⟩ := hv
  have hx := B.exec
  have hb := B.bytes
  have hr := B.returns
  have hts := atoms_spec (ws := wsX6_works) B.pre
  have hown : s.vm.findClass RX6 = some m.cls := findClass_of_methodNamed B.named
  have hlocks := B.notSynchronized
  have hiX6 : ∀ w ∈ u_ws RX6 TX6 23, w ∈ wsX6_works := by decide +kernel
  have kf44 := hts (.fieldLink RX6 44 "SortingLineModel" "works" "[I") (by decide +kernel)
  have kf35 := hts (.fieldLink RX6 35 "SortingLineModel" "wants" "[I") (by decide +kernel)
  have hS : va_S (ad_A g 16) s.heap s.heap [] := va_S.rf
  have hl := lv_entry ([.ref (g 0), .int (nI i), .int (nI r)]) (n := 5) (Nat.le_of_ble_eq_true rfl)
  rw [lg_entry_eq]
  generalize (lg_sl ([.ref (g 0), .int (nI i), .int (nI r)]) ++ List.replicate (5 - (lg_sl ([.ref (g 0), .int (nI i), .int (nI r)])).length) Slot.unset).toArray = ls at hl ⊢
  have hl : lv_has ls 5 [(0, .ref (g 0)), (1, .int (nI i)), (2, .int (nI r))] := hl
  refine lv_aload_n hx hb dX6_works_0 rfl (lv_at hl 0 rfl) ?_
  refine va_get (D := D) (ci := 6) (v := .ref (g 11)) (C := RX6) (T := TX6) (N := 23) hx hb hts hiX6 hown hK.1 hP 0 rfl rfl 14 (by decide) kf44 (fun _ h9 => h9) rfl dX6_works_1 ?_
  refine lv_iload_n hx hb dX6_works_4 rfl (lv_at hl 1 rfl) ?_
  refine ga_ild hx hb hK hP 11 rfl i (rfl) (by omega) (by decide) dX6_works_5 ?_
  refine tp_i (y := 6) (hw) ?_
  refine lv_istore_n (lv' := [(3, .int 6), (0, .ref (g 0)), (1, .int (nI i)), (2, .int (nI r))]) hx hb dX6_works_6 rfl hl (by decide) rfl (fun ls hl => ?_)
  refine lv_aload_n hx hb dX6_works_7 rfl (lv_at hl 1 rfl) ?_
  refine lv_iload_n hx hb dX6_works_8 rfl (lv_at hl 3 rfl) ?_
  refine lv_aload_n hx hb dX6_works_9 rfl (lv_at hl 1 rfl) ?_
  refine va_get (D := D) (ci := 6) (v := .ref (g 8)) (C := RX6) (T := TX6) (N := 23) hx hb hts hiX6 hown hK.1 hP 0 rfl rfl 9 (by decide) kf35 (fun _ h9 => h9) rfl dX6_works_10 ?_
  refine lv_iload_n hx hb dX6_works_13 rfl (lv_at hl 0 rfl) ?_
  refine ga_ild hx hb hK hP 8 rfl 6 (by decide) (by decide) (by decide) dX6_works_14 ?_
  refine tp_i (y := 8) (by rfl) ?_
  refine pu_callb (va_runV (As := [.int (nI r), .int 8]) (rest := []) ⟨hx, hb, hml, hown, hts⟩ (c_X6_isOf hh hn r (by omega) a ha hFa 8 (by decide)) (cwV 2 hts gX6_works_X6_isOf rfl rfl rfl (by decide +kernel) ⟨Nat.le_of_ble_eq_true rfl, Nat.le_of_ble_eq_true rfl⟩) (wd_preV (ci := 6) (q0 := 0) hP hK rfl rfl) rfl rfl hl.1 rfl (lv_room (Nat.le_of_ble_eq_true rfl)) dX6_works_15 ⟨Nat.zero_le _, Nat.zero_le _⟩) (fun _ => ?_) (fun h9 => absurd (hko) (by rw [h9]; decide))
  refine lv_if_ne (tgt := 23) hx hb dX6_works_18 (by decide) (fun _ => ?_) (fun h9 => absurd h9 (by decide))
  refine lv_iload_n hx hb dX6_works_23 rfl (lv_at hl 0 rfl) ?_
  refine lv_tableIn (off := 128) (tgt := 152) hx hb dX6_works_24 (by decide) (by decide) (by decide) (by decide) ?_
  refine lv_aload_n hx hb dX6_works_152 rfl (lv_at hl 1 rfl) ?_
  refine lv_iload_n hx hb dX6_works_153 rfl (lv_at hl 2 rfl) ?_
  refine lv_iload_n hx hb dX6_works_154 rfl (lv_at hl 3 rfl) ?_
  refine mu_calli (va_runV (As := [.int (nI i), .int (nI r)]) (rest := []) ⟨hx, hb, hml, hown, hts⟩ (c_X6_packs_pS hh hn hk r (by omega) i (by omega) a ha hFa hko p9 hp9 a2 ha2 hFa2 hs e9 he he9 z hz hz8 h4 h2 h3) (cwV 2 hts gX6_works_X6_packs rfl rfl rfl (by decide +kernel) ⟨Nat.le_of_ble_eq_true rfl, Nat.le_of_ble_eq_true rfl⟩) (wd_preV (ci := 6) (q0 := 0) hP hK rfl rfl) rfl rfl hl.1 rfl (lv_room (Nat.le_of_ble_eq_true rfl)) dX6_works_155 ⟨Nat.zero_le _, Nat.zero_le _⟩) hS (fun H locs hP hS => ?_)
  have hP : va_P D kC (mo_W cI cJ g fx (nI n) F Wt Sz Nu Pl Bf (nI b) (nI k) G Wk To Sl Sd (nI as) wo pa fa Fo) H := hP
  exact W.iret (v := 4) hx hb hr (fun t9 ht _ => ⟨congrArg (fun z => Outcome.returned (some (Value.int z))) (rfl), by rw [ht]; exact hP, hS.F ht⟩) hS.2.2 dX6_works_158
set_option maxHeartbeats 4000000 in
set_option maxRecDepth 100000 in
theorem c_X6_work_6pO (hh : ad_ok g 16) (hn : n ≤ 100) (hk : k ≤ 8) (r : Nat) (hr9 : r < n) (i : Nat) (hi : i < k) (a : Nat) (ha : a < 16) (hFa : F r = nI a) (hw : Wk i = 6) (hko : ko (F r) (nI 8) = true) (p9 : Nat) (hp9 : p9 < n) (a2 : Nat) (ha2 : a2 < 16) (hFa2 : F p9 = nI a2) (hs : Sl i = nI p9) (e9 : Nat) (he : e9 < 18) (he9 : pt_of a = nI e9) (z : Nat) (hz : Sz r = nI z) (hz8 : z ≤ 8) (h4 : ko (F p9) (nI 0) = true) (h2 : p_in 0 (Sz r) = true) (h3 : ko (F p9) (nI e9) = true) : Met l yX6_works wsX6_works ({ frames := 7, cells := 0, slots := 0, locals := 300 }) (wd_P D cI cJ [.ref (g 0), .int (nI i), .int (nI r)] (mo_W cI cJ g fx (nI n) F Wt Sz Nu Pl Bf (nI b) (nI k) G Wk To Sl Sd (nI as) wo pa fa Fo)) (mu_Q D (ad_A g 16) (some (.int 0)) (mo_W cI cJ g fx (nI n) F Wt Sz Nu (upd Pl (8 * r + 0) (nI p9)) Bf (nI b) (nI k) G Wk To (upd Sl i (-1)) Sd (nI as) wo pa fa Fo)) 0 0 (ad_A g 16) := by
  refine Met.ofW (cc := cX6_works) (maxL := 5) (ret := (some .int)) (by decide) rfl ?_
  intro p e s m args below meth c s₁ B hml hv
  obtain ⟨rfl, hP, hK⟩ := hv
  have hx := B.exec
  have hb := B.bytes
  have hr := B.returns
  have hts := atoms_spec (ws := wsX6_works) B.pre
  have hown : s.vm.findClass RX6 = some m.cls := findClass_of_methodNamed B.named
  have hlocks := B.notSynchronized
  have hiX6 : ∀ w ∈ u_ws RX6 TX6 23, w ∈ wsX6_works := by decide +kernel
  have kf44 := hts (.fieldLink RX6 44 "SortingLineModel" "works" "[I") (by decide +kernel)
  have kf35 := hts (.fieldLink RX6 35 "SortingLineModel" "wants" "[I") (by decide +kernel)
  have hS : va_S (ad_A g 16) s.heap s.heap [] := va_S.rf
  have hl := lv_entry ([.ref (g 0), .int (nI i), .int (nI r)]) (n := 5) (Nat.le_of_ble_eq_true rfl)
  rw [lg_entry_eq]
  generalize (lg_sl ([.ref (g 0), .int (nI i), .int (nI r)]) ++ List.replicate (5 - (lg_sl ([.ref (g 0), .int (nI i), .int (nI r)])).length) Slot.unset).toArray = ls at hl ⊢
  have hl : lv_has ls 5 [(0, .ref (g 0)), (1, .int (nI i)), (2, .int (nI r))] := hl
  refine lv_aload_n hx hb dX6_works_0 rfl (lv_at hl 0 rfl) ?_
  refine va_get (D := D) (ci := 6) (v := .ref (g 11)) (C := RX6) (T := TX6) (N := 23) hx hb hts hiX6 hown hK.1 hP 0 rfl rfl 14 (by decide) kf44 (fun _ h9 => h9) rfl dX6_works_1 ?_
  refine lv_iload_n hx hb dX6_works_4 rfl (lv_at hl 1 rfl) ?_
  refine ga_ild hx hb hK hP 11 rfl i (rfl) (by omega) (by decide) dX6_works_5 ?_
  refine tp_i (y := 6) (hw) ?_
  refine lv_istore_n (lv' := [(3, .int 6), (0, .ref (g 0)), (1, .int (nI i)), (2, .int (nI r))]) hx hb dX6_works_6 rfl hl (by decide) rfl (fun ls hl => ?_)
  refine lv_aload_n hx hb dX6_works_7 rfl (lv_at hl 1 rfl) ?_
  refine lv_iload_n hx hb dX6_works_8 rfl (lv_at hl 3 rfl) ?_
  refine lv_aload_n hx hb dX6_works_9 rfl (lv_at hl 1 rfl) ?_
  refine va_get (D := D) (ci := 6) (v := .ref (g 8)) (C := RX6) (T := TX6) (N := 23) hx hb hts hiX6 hown hK.1 hP 0 rfl rfl 9 (by decide) kf35 (fun _ h9 => h9) rfl dX6_works_10 ?_
  refine lv_iload_n hx hb dX6_works_13 rfl (lv_at hl 0 rfl) ?_
  refine ga_ild hx hb hK hP 8 rfl 6 (by decide) (by decide) (by decide) dX6_works_14 ?_
  refine tp_i (y := 8) (by rfl) ?_
  refine pu_callb (va_runV (As := [.int (nI r), .int 8]) (rest := []) ⟨hx, hb, hml, hown, hts⟩ (c_X6_isOf hh hn r (by omega) a ha hFa 8 (by decide)) (cwV 2 hts gX6_works_X6_isOf rfl rfl rfl (by decide +kernel) ⟨Nat.le_of_ble_eq_true rfl, Nat.le_of_ble_eq_true rfl⟩) (wd_preV (ci := 6) (q0 := 0) hP hK rfl rfl) rfl rfl hl.1 rfl (lv_room (Nat.le_of_ble_eq_true rfl)) dX6_works_15 ⟨Nat.zero_le _, Nat.zero_le _⟩) (fun _ => ?_) (fun h9 => absurd (hko) (by rw [h9]; decide))
  refine lv_if_ne (tgt := 23) hx hb dX6_works_18 (by decide) (fun _ => ?_) (fun h9 => absurd h9 (by decide))
  refine lv_iload_n hx hb dX6_works_23 rfl (lv_at hl 0 rfl) ?_
  refine lv_tableIn (off := 128) (tgt := 152) hx hb dX6_works_24 (by decide) (by decide) (by decide) (by decide) ?_
  refine lv_aload_n hx hb dX6_works_152 rfl (lv_at hl 1 rfl) ?_
  refine lv_iload_n hx hb dX6_works_153 rfl (lv_at hl 2 rfl) ?_
  refine lv_iload_n hx hb dX6_works_154 rfl (lv_at hl 3 rfl) ?_
  refine mu_calli (va_runV (As := [.int (nI i), .int (nI r)]) (rest := []) ⟨hx, hb, hml, hown, hts⟩ (c_X6_packs_pO hh hn hk r (by omega) i (by omega) a ha hFa hko p9 hp9 a2 ha2 hFa2 hs e9 he he9 z hz hz8 h4 h2 h3) (cwV 2 hts gX6_works_X6_packs rfl rfl rfl (by decide +kernel) ⟨Nat.le_of_ble_eq_true rfl, Nat.le_of_ble_eq_true rfl⟩) (wd_preV (ci := 6) (q0 := 0) hP hK rfl rfl) rfl rfl hl.1 rfl (lv_room (Nat.le_of_ble_eq_true rfl)) dX6_works_155 ⟨Nat.zero_le _, Nat.zero_le _⟩) hS (fun H locs hP hS => ?_)
  have hP : va_P D kC (mo_W cI cJ g fx (nI n) F Wt Sz Nu (upd Pl (8 * r + 0) (nI p9)) Bf (nI b) (nI k) G Wk To (upd Sl i (-1)) Sd (nI as) wo pa fa Fo) H := hP
  exact W.iret (v := 0) hx hb hr (fun t9 ht _ => ⟨congrArg (fun z => Outcome.returned (some (Value.int z))) (rfl), by rw [ht]; exact hP, hS.F ht⟩) hS.2.2 dX6_works_158
set_option maxHeartbeats 4000000 in
set_option maxRecDepth 100000 in
theorem c_X6_work_7f0B (hh : ad_ok g 16) (hn : n ≤ 100) (hk : k ≤ 8) (r : Nat) (hr9 : r < n) (i : Nat) (hi : i < k) (a : Nat) (ha : a < 16) (hFa : F r = nI a) (hw : Wk i = 7) (hko : ko (F r) (nI 12) = true) (sf : Sz r = 0) : Met l yX6_works wsX6_works ({ frames := 7, cells := 0, slots := 0, locals := 300 }) (wd_P D cI cJ [.ref (g 0), .int (nI i), .int (nI r)] (mo_W cI cJ g fx (nI n) F Wt Sz Nu Pl Bf (nI b) (nI k) G Wk To Sl Sd (nI as) wo pa fa Fo)) (mu_Q D (ad_A g 16) (some (.int 3)) (mo_W cI cJ g fx (nI n) F Wt Sz Nu Pl Bf (nI b) (nI k) G Wk To Sl Sd (nI as) wo pa fa Fo)) 0 0 (ad_A g 16) := by
  refine Met.ofW (cc := cX6_works) (maxL := 5) (ret := (some .int)) (by decide) rfl ?_
  intro p e s m args below meth c s₁ B hml hv
  obtain ⟨rfl, hP, hK⟩ := hv
  have hx := B.exec
  have hb := B.bytes
  have hr := B.returns
  have hts := atoms_spec (ws := wsX6_works) B.pre
  have hown : s.vm.findClass RX6 = some m.cls := findClass_of_methodNamed B.named
  have hlocks := B.notSynchronized
  have hiX6 : ∀ w ∈ u_ws RX6 TX6 23, w ∈ wsX6_works := by decide +kernel
  have kf44 := hts (.fieldLink RX6 44 "SortingLineModel" "works" "[I") (by decide +kernel)
  have kf35 := hts (.fieldLink RX6 35 "SortingLineModel" "wants" "[I") (by decide +kernel)
  have hS : va_S (ad_A g 16) s.heap s.heap [] := va_S.rf
  have hl := lv_entry ([.ref (g 0), .int (nI i), .int (nI r)]) (n := 5) (Nat.le_of_ble_eq_true rfl)
  rw [lg_entry_eq]
  generalize (lg_sl ([.ref (g 0), .int (nI i), .int (nI r)]) ++ List.replicate (5 - (lg_sl ([.ref (g 0), .int (nI i), .int (nI r)])).length) Slot.unset).toArray = ls at hl ⊢
  have hl : lv_has ls 5 [(0, .ref (g 0)), (1, .int (nI i)), (2, .int (nI r))] := hl
  refine lv_aload_n hx hb dX6_works_0 rfl (lv_at hl 0 rfl) ?_
  refine va_get (D := D) (ci := 6) (v := .ref (g 11)) (C := RX6) (T := TX6) (N := 23) hx hb hts hiX6 hown hK.1 hP 0 rfl rfl 14 (by decide) kf44 (fun _ h9 => h9) rfl dX6_works_1 ?_
  refine lv_iload_n hx hb dX6_works_4 rfl (lv_at hl 1 rfl) ?_
  refine ga_ild hx hb hK hP 11 rfl i (rfl) (by omega) (by decide) dX6_works_5 ?_
  refine tp_i (y := 7) (hw) ?_
  refine lv_istore_n (lv' := [(3, .int 7), (0, .ref (g 0)), (1, .int (nI i)), (2, .int (nI r))]) hx hb dX6_works_6 rfl hl (by decide) rfl (fun ls hl => ?_)
  refine lv_aload_n hx hb dX6_works_7 rfl (lv_at hl 1 rfl) ?_
  refine lv_iload_n hx hb dX6_works_8 rfl (lv_at hl 3 rfl) ?_
  refine lv_aload_n hx hb dX6_works_9 rfl (lv_at hl 1 rfl) ?_
  refine va_get (D := D) (ci := 6) (v := .ref (g 8)) (C := RX6) (T := TX6) (N := 23) hx hb hts hiX6 hown hK.1 hP 0 rfl rfl 9 (by decide) kf35 (fun _ h9 => h9) rfl dX6_works_10 ?_
  refine lv_iload_n hx hb dX6_works_13 rfl (lv_at hl 0 rfl) ?_
  refine ga_ild hx hb hK hP 8 rfl 7 (by decide) (by decide) (by decide) dX6_works_14 ?_
  refine tp_i (y := 12) (by rfl) ?_
  refine pu_callb (va_runV (As := [.int (nI r), .int 12]) (rest := []) ⟨hx, hb, hml, hown, hts⟩ (c_X6_isOf hh hn r (by omega) a ha hFa 12 (by decide)) (cwV 2 hts gX6_works_X6_isOf rfl rfl rfl (by decide +kernel) ⟨Nat.le_of_ble_eq_true rfl, Nat.le_of_ble_eq_true rfl⟩) (wd_preV (ci := 6) (q0 := 0) hP hK rfl rfl) rfl rfl hl.1 rfl (lv_room (Nat.le_of_ble_eq_true rfl)) dX6_works_15 ⟨Nat.zero_le _, Nat.zero_le _⟩) (fun _ => ?_) (fun h9 => absurd (hko) (by rw [h9]; decide))
  refine lv_if_ne (tgt := 23) hx hb dX6_works_18 (by decide) (fun _ => ?_) (fun h9 => absurd h9 (by decide))
  refine lv_iload_n hx hb dX6_works_23 rfl (lv_at hl 0 rfl) ?_
  refine lv_tableIn (off := 135) (tgt := 159) hx hb dX6_works_24 (by decide) (by decide) (by decide) (by decide) ?_
  refine lv_aload_n hx hb dX6_works_159 rfl (lv_at hl 1 rfl) ?_
  refine lv_iload_n hx hb dX6_works_160 rfl (lv_at hl 2 rfl) ?_
  refine lv_iload_n hx hb dX6_works_161 rfl (lv_at hl 3 rfl) ?_
  refine lv_iconst (v := 2) hx hb dX6_works_162 (by decide) ?_
  refine mu_calli (va_runV (As := [.int (nI i), .int (nI r), .int 2]) (rest := []) ⟨hx, hb, hml, hown, hts⟩ (c_X6_weighs2_f0B hh hn hk r (by omega) i (by omega) sf) (cwV 3 hts gX6_works_X6_weighs rfl rfl rfl (by decide +kernel) ⟨Nat.le_of_ble_eq_true rfl, Nat.le_of_ble_eq_true rfl⟩) (wd_preV (ci := 6) (q0 := 0) hP hK rfl rfl) rfl rfl hl.1 rfl (lv_room (Nat.le_of_ble_eq_true rfl)) dX6_works_163 ⟨Nat.zero_le _, Nat.zero_le _⟩) hS (fun H locs hP hS => ?_)
  have hP : va_P D kC (mo_W cI cJ g fx (nI n) F Wt Sz Nu Pl Bf (nI b) (nI k) G Wk To Sl Sd (nI as) wo pa fa Fo) H := hP
  exact W.iret (v := 3) hx hb hr (fun t9 ht _ => ⟨congrArg (fun z => Outcome.returned (some (Value.int z))) (rfl), by rw [ht]; exact hP, hS.F ht⟩) hS.2.2 dX6_works_166
set_option maxHeartbeats 4000000 in
set_option maxRecDepth 100000 in
theorem c_X6_work_7f0N (hh : ad_ok g 16) (hn : n ≤ 100) (hk : k ≤ 8) (r : Nat) (hr9 : r < n) (i : Nat) (hi : i < k) (a : Nat) (ha : a < 16) (hFa : F r = nI a) (hw : Wk i = 7) (hko : ko (F r) (nI 12) = true) (sf : ¬ Sz r = 0) (mf : Pl (8 * r) = -1) : Met l yX6_works wsX6_works ({ frames := 7, cells := 0, slots := 0, locals := 300 }) (wd_P D cI cJ [.ref (g 0), .int (nI i), .int (nI r)] (mo_W cI cJ g fx (nI n) F Wt Sz Nu Pl Bf (nI b) (nI k) G Wk To Sl Sd (nI as) wo pa fa Fo)) (mu_Q D (ad_A g 16) (some (.int 2)) (mo_W cI cJ g fx (nI n) F Wt Sz Nu Pl Bf (nI b) (nI k) G Wk To Sl Sd (nI as) wo pa fa Fo)) 0 0 (ad_A g 16) := by
  refine Met.ofW (cc := cX6_works) (maxL := 5) (ret := (some .int)) (by decide) rfl ?_
  intro p e s m args below meth c s₁ B hml hv
  obtain ⟨rfl, hP, hK⟩ := hv
  have hx := B.exec
  have hb := B.bytes
  have hr := B.returns
  have hts := atoms_spec (ws := wsX6_works) B.pre
  have hown : s.vm.findClass RX6 = some m.cls := findClass_of_methodNamed B.named
  have hlocks := B.notSynchronized
  have hiX6 : ∀ w ∈ u_ws RX6 TX6 23, w ∈ wsX6_works := by decide +kernel
  have kf44 := hts (.fieldLink RX6 44 "SortingLineModel" "works" "[I") (by decide +kernel)
  have kf35 := hts (.fieldLink RX6 35 "SortingLineModel" "wants" "[I") (by decide +kernel)
  have hS : va_S (ad_A g 16) s.heap s.heap [] := va_S.rf
  have hl := lv_entry ([.ref (g 0), .int (nI i), .int (nI r)]) (n := 5) (Nat.le_of_ble_eq_true rfl)
  rw [lg_entry_eq]
  generalize (lg_sl ([.ref (g 0), .int (nI i), .int (nI r)]) ++ List.replicate (5 - (lg_sl ([.ref (g 0), .int (nI i), .int (nI r)])).length) Slot.unset).toArray = ls at hl ⊢
  have hl : lv_has ls 5 [(0, .ref (g 0)), (1, .int (nI i)), (2, .int (nI r))] := hl
  refine lv_aload_n hx hb dX6_works_0 rfl (lv_at hl 0 rfl) ?_
  refine va_get (D := D) (ci := 6) (v := .ref (g 11)) (C := RX6) (T := TX6) (N := 23) hx hb hts hiX6 hown hK.1 hP 0 rfl rfl 14 (by decide) kf44 (fun _ h9 => h9) rfl dX6_works_1 ?_
  refine lv_iload_n hx hb dX6_works_4 rfl (lv_at hl 1 rfl) ?_
  refine ga_ild hx hb hK hP 11 rfl i (rfl) (by omega) (by decide) dX6_works_5 ?_
  refine tp_i (y := 7) (hw) ?_
  refine lv_istore_n (lv' := [(3, .int 7), (0, .ref (g 0)), (1, .int (nI i)), (2, .int (nI r))]) hx hb dX6_works_6 rfl hl (by decide) rfl (fun ls hl => ?_)
  refine lv_aload_n hx hb dX6_works_7 rfl (lv_at hl 1 rfl) ?_
  refine lv_iload_n hx hb dX6_works_8 rfl (lv_at hl 3 rfl) ?_
  refine lv_aload_n hx hb dX6_works_9 rfl (lv_at hl 1 rfl) ?_
  refine va_get (D := D) (ci := 6) (v := .ref (g 8)) (C := RX6) (T := TX6) (N := 23) hx hb hts hiX6 hown hK.1 hP 0 rfl rfl 9 (by decide) kf35 (fun _ h9 => h9) rfl dX6_works_10 ?_
  refine lv_iload_n hx hb dX6_works_13 rfl (lv_at hl 0 rfl) ?_
  refine ga_ild hx hb hK hP 8 rfl 7 (by decide) (by decide) (by decide) dX6_works_14 ?_
  refine tp_i (y := 12) (by rfl) ?_
  refine pu_callb (va_runV (As := [.int (nI r), .int 12]) (rest := []) ⟨hx, hb, hml, hown, hts⟩ (c_X6_isOf hh hn r (by omega) a ha hFa 12 (by decide)) (cwV 2 hts gX6_works_X6_isOf rfl rfl rfl (by decide +kernel) ⟨Nat.le_of_ble_eq_true rfl, Nat.le_of_ble_eq_true rfl⟩) (wd_preV (ci := 6) (q0 := 0) hP hK rfl rfl) rfl rfl hl.1 rfl (lv_room (Nat.le_of_ble_eq_true rfl)) dX6_works_15 ⟨Nat.zero_le _, Nat.zero_le _⟩) (fun _ => ?_) (fun h9 => absurd (hko) (by rw [h9]; decide))
  refine lv_if_ne (tgt := 23) hx hb dX6_works_18 (by decide) (fun _ => ?_) (fun h9 => absurd h9 (by decide))
  refine lv_iload_n hx hb dX6_works_23 rfl (lv_at hl 0 rfl) ?_
  refine lv_tableIn (off := 135) (tgt := 159) hx hb dX6_works_24 (by decide) (by decide) (by decide) (by decide) ?_
  refine lv_aload_n hx hb dX6_works_159 rfl (lv_at hl 1 rfl) ?_
  refine lv_iload_n hx hb dX6_works_160 rfl (lv_at hl 2 rfl) ?_
  refine lv_iload_n hx hb dX6_works_161 rfl (lv_at hl 3 rfl) ?_
  refine lv_iconst (v := 2) hx hb dX6_works_162 (by decide) ?_
  refine mu_calli (va_runV (As := [.int (nI i), .int (nI r), .int 2]) (rest := []) ⟨hx, hb, hml, hown, hts⟩ (c_X6_weighs2_f0N hh hn hk r (by omega) i (by omega) sf mf) (cwV 3 hts gX6_works_X6_weighs rfl rfl rfl (by decide +kernel) ⟨Nat.le_of_ble_eq_true rfl, Nat.le_of_ble_eq_true rfl⟩) (wd_preV (ci := 6) (q0 := 0) hP hK rfl rfl) rfl rfl hl.1 rfl (lv_room (Nat.le_of_ble_eq_true rfl)) dX6_works_163 ⟨Nat.zero_le _, Nat.zero_le _⟩) hS (fun H locs hP hS => ?_)
  have hP : va_P D kC (mo_W cI cJ g fx (nI n) F Wt Sz Nu Pl Bf (nI b) (nI k) G Wk To Sl Sd (nI as) wo pa fa Fo) H := hP
  exact W.iret (v := 2) hx hb hr (fun t9 ht _ => ⟨congrArg (fun z => Outcome.returned (some (Value.int z))) (rfl), by rw [ht]; exact hP, hS.F ht⟩) hS.2.2 dX6_works_166
set_option maxHeartbeats 4000000 in
set_option maxRecDepth 100000 in
theorem c_X6_work_7f1B (hh : ad_ok g 16) (hn : n ≤ 100) (hk : k ≤ 8) (r : Nat) (hr9 : r < n) (i : Nat) (hi : i < k) (a : Nat) (ha : a < 16) (hFa : F r = nI a) (hw : Wk i = 7) (hko : ko (F r) (nI 12) = true) (p1 : Nat) (hp1 : p1 < n) (s0 : ¬ Sz r = 0) (m0 : Pl (8 * r) = nI p1) (sf : Sz p1 = 0) : Met l yX6_works wsX6_works ({ frames := 7, cells := 0, slots := 0, locals := 300 }) (wd_P D cI cJ [.ref (g 0), .int (nI i), .int (nI r)] (mo_W cI cJ g fx (nI n) F Wt Sz Nu Pl Bf (nI b) (nI k) G Wk To Sl Sd (nI as) wo pa fa Fo)) (mu_Q D (ad_A g 16) (some (.int 3)) (mo_W cI cJ g fx (nI n) F Wt Sz Nu Pl Bf (nI b) (nI k) G Wk To Sl Sd (nI as) wo pa fa Fo)) 0 0 (ad_A g 16) := by
  refine Met.ofW (cc := cX6_works) (maxL := 5) (ret := (some .int)) (by decide) rfl ?_
  intro p e s m args below meth c s₁ B hml hv
  obtain ⟨rfl, hP, hK⟩ := hv
  have hx := B.exec
  have hb := B.bytes
  have hr := B.returns
  have hts := atoms_spec (ws := wsX6_works) B.pre
  have hown : s.vm.findClass RX6 = some m.cls := findClass_of_methodNamed B.named
  have hlocks := B.notSynchronized
  have hiX6 : ∀ w ∈ u_ws RX6 TX6 23, w ∈ wsX6_works := by decide +kernel
  have kf44 := hts (.fieldLink RX6 44 "SortingLineModel" "works" "[I") (by decide +kernel)
  have kf35 := hts (.fieldLink RX6 35 "SortingLineModel" "wants" "[I") (by decide +kernel)
  have hS : va_S (ad_A g 16) s.heap s.heap [] := va_S.rf
  have hl := lv_entry ([.ref (g 0), .int (nI i), .int (nI r)]) (n := 5) (Nat.le_of_ble_eq_true rfl)
  rw [lg_entry_eq]
  generalize (lg_sl ([.ref (g 0), .int (nI i), .int (nI r)]) ++ List.replicate (5 - (lg_sl ([.ref (g 0), .int (nI i), .int (nI r)])).length) Slot.unset).toArray = ls at hl ⊢
  have hl : lv_has ls 5 [(0, .ref (g 0)), (1, .int (nI i)), (2, .int (nI r))] := hl
  refine lv_aload_n hx hb dX6_works_0 rfl (lv_at hl 0 rfl) ?_
  refine va_get (D := D) (ci := 6) (v := .ref (g 11)) (C := RX6) (T := TX6) (N := 23) hx hb hts hiX6 hown hK.1 hP 0 rfl rfl 14 (by decide) kf44 (fun _ h9 => h9) rfl dX6_works_1 ?_
  refine lv_iload_n hx hb dX6_works_4 rfl (lv_at hl 1 rfl) ?_
  refine ga_ild hx hb hK hP 11 rfl i (rfl) (by omega) (by decide) dX6_works_5 ?_
  refine tp_i (y := 7) (hw) ?_
  refine lv_istore_n (lv' := [(3, .int 7), (0, .ref (g 0)), (1, .int (nI i)), (2, .int (nI r))]) hx hb dX6_works_6 rfl hl (by decide) rfl (fun ls hl => ?_)
  refine lv_aload_n hx hb dX6_works_7 rfl (lv_at hl 1 rfl) ?_
  refine lv_iload_n hx hb dX6_works_8 rfl (lv_at hl 3 rfl) ?_
  refine lv_aload_n hx hb dX6_works_9 rfl (lv_at hl 1 rfl) ?_
  refine va_get (D := D) (ci := 6) (v := .ref (g 8)) (C := RX6) (T := TX6) (N := 23) hx hb hts hiX6 hown hK.1 hP 0 rfl rfl 9 (by decide) kf35 (fun _ h9 => h9) rfl dX6_works_10 ?_
  refine lv_iload_n hx hb dX6_works_13 rfl (lv_at hl 0 rfl) ?_
  refine ga_ild hx hb hK hP 8 rfl 7 (by decide) (by decide) (by decide) dX6_works_14 ?_
  refine tp_i (y := 12) (by rfl) ?_
  refine pu_callb (va_runV (As := [.int (nI r), .int 12]) (rest := []) ⟨hx, hb, hml, hown, hts⟩ (c_X6_isOf hh hn r (by omega) a ha hFa 12 (by decide)) (cwV 2 hts gX6_works_X6_isOf rfl rfl rfl (by decide +kernel) ⟨Nat.le_of_ble_eq_true rfl, Nat.le_of_ble_eq_true rfl⟩) (wd_preV (ci := 6) (q0 := 0) hP hK rfl rfl) rfl rfl hl.1 rfl (lv_room (Nat.le_of_ble_eq_true rfl)) dX6_works_15 ⟨Nat.zero_le _, Nat.zero_le _⟩) (fun _ => ?_) (fun h9 => absurd (hko) (by rw [h9]; decide))
  refine lv_if_ne (tgt := 23) hx hb dX6_works_18 (by decide) (fun _ => ?_) (fun h9 => absurd h9 (by decide))
  refine lv_iload_n hx hb dX6_works_23 rfl (lv_at hl 0 rfl) ?_
  refine lv_tableIn (off := 135) (tgt := 159) hx hb dX6_works_24 (by decide) (by decide) (by decide) (by decide) ?_
  refine lv_aload_n hx hb dX6_works_159 rfl (lv_at hl 1 rfl) ?_
  refine lv_iload_n hx hb dX6_works_160 rfl (lv_at hl 2 rfl) ?_
  refine lv_iload_n hx hb dX6_works_161 rfl (lv_at hl 3 rfl) ?_
  refine lv_iconst (v := 2) hx hb dX6_works_162 (by decide) ?_
  refine mu_calli (va_runV (As := [.int (nI i), .int (nI r), .int 2]) (rest := []) ⟨hx, hb, hml, hown, hts⟩ (c_X6_weighs2_f1B hh hn hk r (by omega) i (by omega) p1 hp1 s0 m0 sf) (cwV 3 hts gX6_works_X6_weighs rfl rfl rfl (by decide +kernel) ⟨Nat.le_of_ble_eq_true rfl, Nat.le_of_ble_eq_true rfl⟩) (wd_preV (ci := 6) (q0 := 0) hP hK rfl rfl) rfl rfl hl.1 rfl (lv_room (Nat.le_of_ble_eq_true rfl)) dX6_works_163 ⟨Nat.zero_le _, Nat.zero_le _⟩) hS (fun H locs hP hS => ?_)
  have hP : va_P D kC (mo_W cI cJ g fx (nI n) F Wt Sz Nu Pl Bf (nI b) (nI k) G Wk To Sl Sd (nI as) wo pa fa Fo) H := hP
  exact W.iret (v := 3) hx hb hr (fun t9 ht _ => ⟨congrArg (fun z => Outcome.returned (some (Value.int z))) (rfl), by rw [ht]; exact hP, hS.F ht⟩) hS.2.2 dX6_works_166
set_option maxHeartbeats 4000000 in
set_option maxRecDepth 100000 in
theorem c_X6_work_7f1N (hh : ad_ok g 16) (hn : n ≤ 100) (hk : k ≤ 8) (r : Nat) (hr9 : r < n) (i : Nat) (hi : i < k) (a : Nat) (ha : a < 16) (hFa : F r = nI a) (hw : Wk i = 7) (hko : ko (F r) (nI 12) = true) (p1 : Nat) (hp1 : p1 < n) (s0 : ¬ Sz r = 0) (m0 : Pl (8 * r) = nI p1) (sf : ¬ Sz p1 = 0) (mf : Pl (8 * p1) = -1) : Met l yX6_works wsX6_works ({ frames := 7, cells := 0, slots := 0, locals := 300 }) (wd_P D cI cJ [.ref (g 0), .int (nI i), .int (nI r)] (mo_W cI cJ g fx (nI n) F Wt Sz Nu Pl Bf (nI b) (nI k) G Wk To Sl Sd (nI as) wo pa fa Fo)) (mu_Q D (ad_A g 16) (some (.int 2)) (mo_W cI cJ g fx (nI n) F Wt Sz Nu Pl Bf (nI b) (nI k) G Wk To Sl Sd (nI as) wo pa fa Fo)) 0 0 (ad_A g 16) := by
  refine Met.ofW (cc := cX6_works) (maxL := 5) (ret := (some .int)) (by decide) rfl ?_
  intro p e s m args below meth c s₁ B hml hv
  obtain ⟨rfl, hP, hK⟩ := hv
  have hx := B.exec
  have hb := B.bytes
  have hr := B.returns
  have hts := atoms_spec (ws := wsX6_works) B.pre
  have hown : s.vm.findClass RX6 = some m.cls := findClass_of_methodNamed B.named
  have hlocks := B.notSynchronized
  have hiX6 : ∀ w ∈ u_ws RX6 TX6 23, w ∈ wsX6_works := by decide +kernel
  have kf44 := hts (.fieldLink RX6 44 "SortingLineModel" "works" "[I") (by decide +kernel)
  have kf35 := hts (.fieldLink RX6 35 "SortingLineModel" "wants" "[I") (by decide +kernel)
  have hS : va_S (ad_A g 16) s.heap s.heap [] := va_S.rf
  have hl := lv_entry ([.ref (g 0), .int (nI i), .int (nI r)]) (n := 5) (Nat.le_of_ble_eq_true rfl)
  rw [lg_entry_eq]
  generalize (lg_sl ([.ref (g 0), .int (nI i), .int (nI r)]) ++ List.replicate (5 - (lg_sl ([.ref (g 0), .int (nI i), .int (nI r)])).length) Slot.unset).toArray = ls at hl ⊢
  have hl : lv_has ls 5 [(0, .ref (g 0)), (1, .int (nI i)), (2, .int (nI r))] := hl
  refine lv_aload_n hx hb dX6_works_0 rfl (lv_at hl 0 rfl) ?_
  refine va_get (D := D) (ci := 6) (v := .ref (g 11)) (C := RX6) (T := TX6) (N := 23) hx hb hts hiX6 hown hK.1 hP 0 rfl rfl 14 (by decide) kf44 (fun _ h9 => h9) rfl dX6_works_1 ?_
  refine lv_iload_n hx hb dX6_works_4 rfl (lv_at hl 1 rfl) ?_
  refine ga_ild hx hb hK hP 11 rfl i (rfl) (by omega) (by decide) dX6_works_5 ?_
  refine tp_i (y := 7) (hw) ?_
  refine lv_istore_n (lv' := [(3, .int 7), (0, .ref (g 0)), (1, .int (nI i)), (2, .int (nI r))]) hx hb dX6_works_6 rfl hl (by decide) rfl (fun ls hl => ?_)
  refine lv_aload_n hx hb dX6_works_7 rfl (lv_at hl 1 rfl) ?_
  refine lv_iload_n hx hb dX6_works_8 rfl (lv_at hl 3 rfl) ?_
  refine lv_aload_n hx hb dX6_works_9 rfl (lv_at hl 1 rfl) ?_
  refine va_get (D := D) (ci := 6) (v := .ref (g 8)) (C := RX6) (T := TX6) (N := 23) hx hb hts hiX6 hown hK.1 hP 0 rfl rfl 9 (by decide) kf35 (fun _ h9 => h9) rfl dX6_works_10 ?_
  refine lv_iload_n hx hb dX6_works_13 rfl (lv_at hl 0 rfl) ?_
  refine ga_ild hx hb hK hP 8 rfl 7 (by decide) (by decide) (by decide) dX6_works_14 ?_
  refine tp_i (y := 12) (by rfl) ?_
  refine pu_callb (va_runV (As := [.int (nI r), .int 12]) (rest := []) ⟨hx, hb, hml, hown, hts⟩ (c_X6_isOf hh hn r (by omega) a ha hFa 12 (by decide)) (cwV 2 hts gX6_works_X6_isOf rfl rfl rfl (by decide +kernel) ⟨Nat.le_of_ble_eq_true rfl, Nat.le_of_ble_eq_true rfl⟩) (wd_preV (ci := 6) (q0 := 0) hP hK rfl rfl) rfl rfl hl.1 rfl (lv_room (Nat.le_of_ble_eq_true rfl)) dX6_works_15 ⟨Nat.zero_le _, Nat.zero_le _⟩) (fun _ => ?_) (fun h9 => absurd (hko) (by rw [h9]; decide))
  refine lv_if_ne (tgt := 23) hx hb dX6_works_18 (by decide) (fun _ => ?_) (fun h9 => absurd h9 (by decide))
  refine lv_iload_n hx hb dX6_works_23 rfl (lv_at hl 0 rfl) ?_
  refine lv_tableIn (off := 135) (tgt := 159) hx hb dX6_works_24 (by decide) (by decide) (by decide) (by decide) ?_
  refine lv_aload_n hx hb dX6_works_159 rfl (lv_at hl 1 rfl) ?_
  refine lv_iload_n hx hb dX6_works_160 rfl (lv_at hl 2 rfl) ?_
  refine lv_iload_n hx hb dX6_works_161 rfl (lv_at hl 3 rfl) ?_
  refine lv_iconst (v := 2) hx hb dX6_works_162 (by decide) ?_
  refine mu_calli (va_runV (As := [.int (nI i), .int (nI r), .int 2]) (rest := []) ⟨hx, hb, hml, hown, hts⟩ (c_X6_weighs2_f1N hh hn hk r (by omega) i (by omega) p1 hp1 s0 m0 sf mf) (cwV 3 hts gX6_works_X6_weighs rfl rfl rfl (by decide +kernel) ⟨Nat.le_of_ble_eq_true rfl, Nat.le_of_ble_eq_true rfl⟩) (wd_preV (ci := 6) (q0 := 0) hP hK rfl rfl) rfl rfl hl.1 rfl (lv_room (Nat.le_of_ble_eq_true rfl)) dX6_works_163 ⟨Nat.zero_le _, Nat.zero_le _⟩) hS (fun H locs hP hS => ?_)
  have hP : va_P D kC (mo_W cI cJ g fx (nI n) F Wt Sz Nu Pl Bf (nI b) (nI k) G Wk To Sl Sd (nI as) wo pa fa Fo) H := hP
  exact W.iret (v := 2) hx hb hr (fun t9 ht _ => ⟨congrArg (fun z => Outcome.returned (some (Value.int z))) (rfl), by rw [ht]; exact hP, hS.F ht⟩) hS.2.2 dX6_works_166
set_option maxHeartbeats 4000000 in
set_option maxRecDepth 100000 in
theorem c_X6_work_7o (hh : ad_ok g 16) (hn : n ≤ 100) (hk : k ≤ 8) (r : Nat) (hr9 : r < n) (i : Nat) (hi : i < k) (a : Nat) (ha : a < 16) (hFa : F r = nI a) (hw : Wk i = 7) (hko : ko (F r) (nI 12) = true) (p1 : Nat) (hp1 : p1 < n) (p2 : Nat) (hp2 : p2 < n) (s0 : ¬ Sz r = 0) (m0 : Pl (8 * r) = nI p1) (s1 : ¬ Sz p1 = 0) (m1 : Pl (8 * p1) = nI p2) : Met l yX6_works wsX6_works ({ frames := 7, cells := 0, slots := 0, locals := 300 }) (wd_P D cI cJ [.ref (g 0), .int (nI i), .int (nI r)] (mo_W cI cJ g fx (nI n) F Wt Sz Nu Pl Bf (nI b) (nI k) G Wk To Sl Sd (nI as) wo pa fa Fo)) (mu_Q D (ad_A g 16) (some (.int 0)) (mo_W cI cJ g fx (nI n) F Wt Sz Nu Pl Bf (nI b) (nI k) G Wk (vp_updL To i (To i + Int32.toInt64 (Wt p2))) Sl Sd (nI as) wo pa fa Fo)) 0 0 (ad_A g 16) := by
  refine Met.ofW (cc := cX6_works) (maxL := 5) (ret := (some .int)) (by decide) rfl ?_
  intro p e s m args below meth c s₁ B hml hv
  obtain ⟨rfl, hP, hK⟩ := hv
  have hx := B.exec
  have hb := B.bytes
  have hr := B.returns
  have hts := atoms_spec (ws := wsX6_works) B.pre
  have hown : s.vm.findClass RX6 = some m.cls := findClass_of_methodNamed B.named
  have hlocks := B.notSynchronized
  have hiX6 : ∀ w ∈ u_ws RX6 TX6 23, w ∈ wsX6_works := by decide +kernel
  have kf44 := hts (.fieldLink RX6 44 "SortingLineModel" "works" "[I") (by decide +kernel)
  have kf35 := hts (.fieldLink RX6 35 "SortingLineModel" "wants" "[I") (by decide +kernel)
  have hS : va_S (ad_A g 16) s.heap s.heap [] := va_S.rf
  have hl := lv_entry ([.ref (g 0), .int (nI i), .int (nI r)]) (n := 5) (Nat.le_of_ble_eq_true rfl)
  rw [lg_entry_eq]
  generalize (lg_sl ([.ref (g 0), .int (nI i), .int (nI r)]) ++ List.replicate (5 - (lg_sl ([.ref (g 0), .int (nI i), .int (nI r)])).length) Slot.unset).toArray = ls at hl ⊢
  have hl : lv_has ls 5 [(0, .ref (g 0)), (1, .int (nI i)), (2, .int (nI r))] := hl
  refine lv_aload_n hx hb dX6_works_0 rfl (lv_at hl 0 rfl) ?_
  refine va_get (D := D) (ci := 6) (v := .ref (g 11)) (C := RX6) (T := TX6) (N := 23) hx hb hts hiX6 hown hK.1 hP 0 rfl rfl 14 (by decide) kf44 (fun _ h9 => h9) rfl dX6_works_1 ?_
  refine lv_iload_n hx hb dX6_works_4 rfl (lv_at hl 1 rfl) ?_
  refine ga_ild hx hb hK hP 11 rfl i (rfl) (by omega) (by decide) dX6_works_5 ?_
  refine tp_i (y := 7) (hw) ?_
  refine lv_istore_n (lv' := [(3, .int 7), (0, .ref (g 0)), (1, .int (nI i)), (2, .int (nI r))]) hx hb dX6_works_6 rfl hl (by decide) rfl (fun ls hl => ?_)
  refine lv_aload_n hx hb dX6_works_7 rfl (lv_at hl 1 rfl) ?_
  refine lv_iload_n hx hb dX6_works_8 rfl (lv_at hl 3 rfl) ?_
  refine lv_aload_n hx hb dX6_works_9 rfl (lv_at hl 1 rfl) ?_
  refine va_get (D := D) (ci := 6) (v := .ref (g 8)) (C := RX6) (T := TX6) (N := 23) hx hb hts hiX6 hown hK.1 hP 0 rfl rfl 9 (by decide) kf35 (fun _ h9 => h9) rfl dX6_works_10 ?_
  refine lv_iload_n hx hb dX6_works_13 rfl (lv_at hl 0 rfl) ?_
  refine ga_ild hx hb hK hP 8 rfl 7 (by decide) (by decide) (by decide) dX6_works_14 ?_
  refine tp_i (y := 12) (by rfl) ?_
  refine pu_callb (va_runV (As := [.int (nI r), .int 12]) (rest := []) ⟨hx, hb, hml, hown, hts⟩ (c_X6_isOf hh hn r (by omega) a ha hFa 12 (by decide)) (cwV 2 hts gX6_works_X6_isOf rfl rfl rfl (by decide +kernel) ⟨Nat.le_of_ble_eq_true rfl, Nat.le_of_ble_eq_true rfl⟩) (wd_preV (ci := 6) (q0 := 0) hP hK rfl rfl) rfl rfl hl.1 rfl (lv_room (Nat.le_of_ble_eq_true rfl)) dX6_works_15 ⟨Nat.zero_le _, Nat.zero_le _⟩) (fun _ => ?_) (fun h9 => absurd (hko) (by rw [h9]; decide))
  refine lv_if_ne (tgt := 23) hx hb dX6_works_18 (by decide) (fun _ => ?_) (fun h9 => absurd h9 (by decide))
  refine lv_iload_n hx hb dX6_works_23 rfl (lv_at hl 0 rfl) ?_
  refine lv_tableIn (off := 135) (tgt := 159) hx hb dX6_works_24 (by decide) (by decide) (by decide) (by decide) ?_
  refine lv_aload_n hx hb dX6_works_159 rfl (lv_at hl 1 rfl) ?_
  refine lv_iload_n hx hb dX6_works_160 rfl (lv_at hl 2 rfl) ?_
  refine lv_iload_n hx hb dX6_works_161 rfl (lv_at hl 3 rfl) ?_
  refine lv_iconst (v := 2) hx hb dX6_works_162 (by decide) ?_
  refine mu_calli (va_runV (As := [.int (nI i), .int (nI r), .int 2]) (rest := []) ⟨hx, hb, hml, hown, hts⟩ (c_X6_weighs2_o hh hn hk r (by omega) i (by omega) p1 hp1 p2 hp2 s0 m0 s1 m1) (cwV 3 hts gX6_works_X6_weighs rfl rfl rfl (by decide +kernel) ⟨Nat.le_of_ble_eq_true rfl, Nat.le_of_ble_eq_true rfl⟩) (wd_preV (ci := 6) (q0 := 0) hP hK rfl rfl) rfl rfl hl.1 rfl (lv_room (Nat.le_of_ble_eq_true rfl)) dX6_works_163 ⟨Nat.zero_le _, Nat.zero_le _⟩) hS (fun H locs hP hS => ?_)
  have hP : va_P D kC (mo_W cI cJ g fx (nI n) F Wt Sz Nu Pl Bf (nI b) (nI k) G Wk (vp_updL To i (To i + Int32.toInt64 (Wt p2))) Sl Sd (nI as) wo pa fa Fo) H := hP
  exact W.iret (v := 0) hx hb hr (fun t9 ht _ => ⟨congrArg (fun z => Outcome.returned (some (Value.int z))) (rfl), by rw [ht]; exact hP, hS.F ht⟩) hS.2.2 dX6_works_166
set_option maxHeartbeats 4000000 in
set_option maxRecDepth 100000 in
theorem c_X6_work_9f0B (hh : ad_ok g 16) (hn : n ≤ 100) (hk : k ≤ 8) (r : Nat) (hr9 : r < n) (i : Nat) (hi : i < k) (a : Nat) (ha : a < 16) (hFa : F r = nI a) (hw : Wk i = 9) (hko : ko (F r) (nI 15) = true) (sf : Sz r = 0) : Met l yX6_works wsX6_works ({ frames := 7, cells := 0, slots := 0, locals := 300 }) (wd_P D cI cJ [.ref (g 0), .int (nI i), .int (nI r)] (mo_W cI cJ g fx (nI n) F Wt Sz Nu Pl Bf (nI b) (nI k) G Wk To Sl Sd (nI as) wo pa fa Fo)) (mu_Q D (ad_A g 16) (some (.int 3)) (mo_W cI cJ g fx (nI n) F Wt Sz Nu Pl Bf (nI b) (nI k) G Wk To Sl Sd (nI as) wo pa fa Fo)) 0 0 (ad_A g 16) := by
  refine Met.ofW (cc := cX6_works) (maxL := 5) (ret := (some .int)) (by decide) rfl ?_
  intro p e s m args below meth c s₁ B hml hv
  obtain ⟨rfl, hP, hK⟩ := hv
  have hx := B.exec
  have hb := B.bytes
  have hr := B.returns
  have hts := atoms_spec (ws := wsX6_works) B.pre
  have hown : s.vm.findClass RX6 = some m.cls := findClass_of_methodNamed B.named
  have hlocks := B.notSynchronized
  have hiX6 : ∀ w ∈ u_ws RX6 TX6 23, w ∈ wsX6_works := by decide +kernel
  have kf44 := hts (.fieldLink RX6 44 "SortingLineModel" "works" "[I") (by decide +kernel)
  have kf35 := hts (.fieldLink RX6 35 "SortingLineModel" "wants" "[I") (by decide +kernel)
  have hS : va_S (ad_A g 16) s.heap s.heap [] := va_S.rf
  have hl := lv_entry ([.ref (g 0), .int (nI i), .int (nI r)]) (n := 5) (Nat.le_of_ble_eq_true rfl)
  rw [lg_entry_eq]
  generalize (lg_sl ([.ref (g 0), .int (nI i), .int (nI r)]) ++ List.replicate (5 - (lg_sl ([.ref (g 0), .int (nI i), .int (nI r)])).length) Slot.unset).toArray = ls at hl ⊢
  have hl : lv_has ls 5 [(0, .ref (g 0)), (1, .int (nI i)), (2, .int (nI r))] := hl
  refine lv_aload_n hx hb dX6_works_0 rfl (lv_at hl 0 rfl) ?_
  refine va_get (D := D) (ci := 6) (v := .ref (g 11)) (C := RX6) (T := TX6) (N := 23) hx hb hts hiX6 hown hK.1 hP 0 rfl rfl 14 (by decide) kf44 (fun _ h9 => h9) rfl dX6_works_1 ?_
  refine lv_iload_n hx hb dX6_works_4 rfl (lv_at hl 1 rfl) ?_
  refine ga_ild hx hb hK hP 11 rfl i (rfl) (by omega) (by decide) dX6_works_5 ?_
  refine tp_i (y := 9) (hw) ?_
  refine lv_istore_n (lv' := [(3, .int 9), (0, .ref (g 0)), (1, .int (nI i)), (2, .int (nI r))]) hx hb dX6_works_6 rfl hl (by decide) rfl (fun ls hl => ?_)
  refine lv_aload_n hx hb dX6_works_7 rfl (lv_at hl 1 rfl) ?_
  refine lv_iload_n hx hb dX6_works_8 rfl (lv_at hl 3 rfl) ?_
  refine lv_aload_n hx hb dX6_works_9 rfl (lv_at hl 1 rfl) ?_
  refine va_get (D := D) (ci := 6) (v := .ref (g 8)) (C := RX6) (T := TX6) (N := 23) hx hb hts hiX6 hown hK.1 hP 0 rfl rfl 9 (by decide) kf35 (fun _ h9 => h9) rfl dX6_works_10 ?_
  refine lv_iload_n hx hb dX6_works_13 rfl (lv_at hl 0 rfl) ?_
  refine ga_ild hx hb hK hP 8 rfl 9 (by decide) (by decide) (by decide) dX6_works_14 ?_
  refine tp_i (y := 15) (by rfl) ?_
  refine pu_callb (va_runV (As := [.int (nI r), .int 15]) (rest := []) ⟨hx, hb, hml, hown, hts⟩ (c_X6_isOf hh hn r (by omega) a ha hFa 15 (by decide)) (cwV 2 hts gX6_works_X6_isOf rfl rfl rfl (by decide +kernel) ⟨Nat.le_of_ble_eq_true rfl, Nat.le_of_ble_eq_true rfl⟩) (wd_preV (ci := 6) (q0 := 0) hP hK rfl rfl) rfl rfl hl.1 rfl (lv_room (Nat.le_of_ble_eq_true rfl)) dX6_works_15 ⟨Nat.zero_le _, Nat.zero_le _⟩) (fun _ => ?_) (fun h9 => absurd (hko) (by rw [h9]; decide))
  refine lv_if_ne (tgt := 23) hx hb dX6_works_18 (by decide) (fun _ => ?_) (fun h9 => absurd h9 (by decide))
  refine lv_iload_n hx hb dX6_works_23 rfl (lv_at hl 0 rfl) ?_
  refine lv_tableIn (off := 150) (tgt := 174) hx hb dX6_works_24 (by decide) (by decide) (by decide) (by decide) ?_
  refine lv_aload_n hx hb dX6_works_174 rfl (lv_at hl 1 rfl) ?_
  refine lv_iload_n hx hb dX6_works_175 rfl (lv_at hl 2 rfl) ?_
  refine lv_iload_n hx hb dX6_works_176 rfl (lv_at hl 3 rfl) ?_
  refine lv_iconst (v := 3) hx hb dX6_works_177 (by decide) ?_
  refine mu_calli (va_runV (As := [.int (nI i), .int (nI r), .int 3]) (rest := []) ⟨hx, hb, hml, hown, hts⟩ (c_X6_weighs3_f0B hh hn hk r (by omega) i (by omega) sf) (cwV 3 hts gX6_works_X6_weighs rfl rfl rfl (by decide +kernel) ⟨Nat.le_of_ble_eq_true rfl, Nat.le_of_ble_eq_true rfl⟩) (wd_preV (ci := 6) (q0 := 0) hP hK rfl rfl) rfl rfl hl.1 rfl (lv_room (Nat.le_of_ble_eq_true rfl)) dX6_works_178 ⟨Nat.zero_le _, Nat.zero_le _⟩) hS (fun H locs hP hS => ?_)
  have hP : va_P D kC (mo_W cI cJ g fx (nI n) F Wt Sz Nu Pl Bf (nI b) (nI k) G Wk To Sl Sd (nI as) wo pa fa Fo) H := hP
  exact W.iret (v := 3) hx hb hr (fun t9 ht _ => ⟨congrArg (fun z => Outcome.returned (some (Value.int z))) (rfl), by rw [ht]; exact hP, hS.F ht⟩) hS.2.2 dX6_works_181
set_option maxHeartbeats 4000000 in
set_option maxRecDepth 100000 in
theorem c_X6_work_9f0N (hh : ad_ok g 16) (hn : n ≤ 100) (hk : k ≤ 8) (r : Nat) (hr9 : r < n) (i : Nat) (hi : i < k) (a : Nat) (ha : a < 16) (hFa : F r = nI a) (hw : Wk i = 9) (hko : ko (F r) (nI 15) = true) (sf : ¬ Sz r = 0) (mf : Pl (8 * r) = -1) : Met l yX6_works wsX6_works ({ frames := 7, cells := 0, slots := 0, locals := 300 }) (wd_P D cI cJ [.ref (g 0), .int (nI i), .int (nI r)] (mo_W cI cJ g fx (nI n) F Wt Sz Nu Pl Bf (nI b) (nI k) G Wk To Sl Sd (nI as) wo pa fa Fo)) (mu_Q D (ad_A g 16) (some (.int 2)) (mo_W cI cJ g fx (nI n) F Wt Sz Nu Pl Bf (nI b) (nI k) G Wk To Sl Sd (nI as) wo pa fa Fo)) 0 0 (ad_A g 16) := by
  refine Met.ofW (cc := cX6_works) (maxL := 5) (ret := (some .int)) (by decide) rfl ?_
  intro p e s m args below meth c s₁ B hml hv
  obtain ⟨rfl, hP, hK⟩ := hv
  have hx := B.exec
  have hb := B.bytes
  have hr := B.returns
  have hts := atoms_spec (ws := wsX6_works) B.pre
  have hown : s.vm.findClass RX6 = some m.cls := findClass_of_methodNamed B.named
  have hlocks := B.notSynchronized
  have hiX6 : ∀ w ∈ u_ws RX6 TX6 23, w ∈ wsX6_works := by decide +kernel
  have kf44 := hts (.fieldLink RX6 44 "SortingLineModel" "works" "[I") (by decide +kernel)
  have kf35 := hts (.fieldLink RX6 35 "SortingLineModel" "wants" "[I") (by decide +kernel)
  have hS : va_S (ad_A g 16) s.heap s.heap [] := va_S.rf
  have hl := lv_entry ([.ref (g 0), .int (nI i), .int (nI r)]) (n := 5) (Nat.le_of_ble_eq_true rfl)
  rw [lg_entry_eq]
  generalize (lg_sl ([.ref (g 0), .int (nI i), .int (nI r)]) ++ List.replicate (5 - (lg_sl ([.ref (g 0), .int (nI i), .int (nI r)])).length) Slot.unset).toArray = ls at hl ⊢
  have hl : lv_has ls 5 [(0, .ref (g 0)), (1, .int (nI i)), (2, .int (nI r))] := hl
  refine lv_aload_n hx hb dX6_works_0 rfl (lv_at hl 0 rfl) ?_
  refine va_get (D := D) (ci := 6) (v := .ref (g 11)) (C := RX6) (T := TX6) (N := 23) hx hb hts hiX6 hown hK.1 hP 0 rfl rfl 14 (by decide) kf44 (fun _ h9 => h9) rfl dX6_works_1 ?_
  refine lv_iload_n hx hb dX6_works_4 rfl (lv_at hl 1 rfl) ?_
  refine ga_ild hx hb hK hP 11 rfl i (rfl) (by omega) (by decide) dX6_works_5 ?_
  refine tp_i (y := 9) (hw) ?_
  refine lv_istore_n (lv' := [(3, .int 9), (0, .ref (g 0)), (1, .int (nI i)), (2, .int (nI r))]) hx hb dX6_works_6 rfl hl (by decide) rfl (fun ls hl => ?_)
  refine lv_aload_n hx hb dX6_works_7 rfl (lv_at hl 1 rfl) ?_
  refine lv_iload_n hx hb dX6_works_8 rfl (lv_at hl 3 rfl) ?_
  refine lv_aload_n hx hb dX6_works_9 rfl (lv_at hl 1 rfl) ?_
  refine va_get (D := D) (ci := 6) (v := .ref (g 8)) (C := RX6) (T := TX6) (N := 23) hx hb hts hiX6 hown hK.1 hP 0 rfl rfl 9 (by decide) kf35 (fun _ h9 => h9) rfl dX6_works_10 ?_
  refine lv_iload_n hx hb dX6_works_13 rfl (lv_at hl 0 rfl) ?_
  refine ga_ild hx hb hK hP 8 rfl 9 (by decide) (by decide) (by decide) dX6_works_14 ?_
  refine tp_i (y := 15) (by rfl) ?_
  refine pu_callb (va_runV (As := [.int (nI r), .int 15]) (rest := []) ⟨hx, hb, hml, hown, hts⟩ (c_X6_isOf hh hn r (by omega) a ha hFa 15 (by decide)) (cwV 2 hts gX6_works_X6_isOf rfl rfl rfl (by decide +kernel) ⟨Nat.le_of_ble_eq_true rfl, Nat.le_of_ble_eq_true rfl⟩) (wd_preV (ci := 6) (q0 := 0) hP hK rfl rfl) rfl rfl hl.1 rfl (lv_room (Nat.le_of_ble_eq_true rfl)) dX6_works_15 ⟨Nat.zero_le _, Nat.zero_le _⟩) (fun _ => ?_) (fun h9 => absurd (hko) (by rw [h9]; decide))
  refine lv_if_ne (tgt := 23) hx hb dX6_works_18 (by decide) (fun _ => ?_) (fun h9 => absurd h9 (by decide))
  refine lv_iload_n hx hb dX6_works_23 rfl (lv_at hl 0 rfl) ?_
  refine lv_tableIn (off := 150) (tgt := 174) hx hb dX6_works_24 (by decide) (by decide) (by decide) (by decide) ?_
  refine lv_aload_n hx hb dX6_works_174 rfl (lv_at hl 1 rfl) ?_
  refine lv_iload_n hx hb dX6_works_175 rfl (lv_at hl 2 rfl) ?_
  refine lv_iload_n hx hb dX6_works_176 rfl (lv_at hl 3 rfl) ?_
  refine lv_iconst (v := 3) hx hb dX6_works_177 (by decide) ?_
  refine mu_calli (va_runV (As := [.int (nI i), .int (nI r), .int 3]) (rest := []) ⟨hx, hb, hml, hown, hts⟩ (c_X6_weighs3_f0N hh hn hk r (by omega) i (by omega) sf mf) (cwV 3 hts gX6_works_X6_weighs rfl rfl rfl (by decide +kernel) ⟨Nat.le_of_ble_eq_true rfl, Nat.le_of_ble_eq_true rfl⟩) (wd_preV (ci := 6) (q0 := 0) hP hK rfl rfl) rfl rfl hl.1 rfl (lv_room (Nat.le_of_ble_eq_true rfl)) dX6_works_178 ⟨Nat.zero_le _, Nat.zero_le _⟩) hS (fun H locs hP hS => ?_)
  have hP : va_P D kC (mo_W cI cJ g fx (nI n) F Wt Sz Nu Pl Bf (nI b) (nI k) G Wk To Sl Sd (nI as) wo pa fa Fo) H := hP
  exact W.iret (v := 2) hx hb hr (fun t9 ht _ => ⟨congrArg (fun z => Outcome.returned (some (Value.int z))) (rfl), by rw [ht]; exact hP, hS.F ht⟩) hS.2.2 dX6_works_181
set_option maxHeartbeats 4000000 in
set_option maxRecDepth 100000 in
theorem c_X6_work_9f1B (hh : ad_ok g 16) (hn : n ≤ 100) (hk : k ≤ 8) (r : Nat) (hr9 : r < n) (i : Nat) (hi : i < k) (a : Nat) (ha : a < 16) (hFa : F r = nI a) (hw : Wk i = 9) (hko : ko (F r) (nI 15) = true) (p1 : Nat) (hp1 : p1 < n) (s0 : ¬ Sz r = 0) (m0 : Pl (8 * r) = nI p1) (sf : Sz p1 = 0) : Met l yX6_works wsX6_works ({ frames := 7, cells := 0, slots := 0, locals := 300 }) (wd_P D cI cJ [.ref (g 0), .int (nI i), .int (nI r)] (mo_W cI cJ g fx (nI n) F Wt Sz Nu Pl Bf (nI b) (nI k) G Wk To Sl Sd (nI as) wo pa fa Fo)) (mu_Q D (ad_A g 16) (some (.int 3)) (mo_W cI cJ g fx (nI n) F Wt Sz Nu Pl Bf (nI b) (nI k) G Wk To Sl Sd (nI as) wo pa fa Fo)) 0 0 (ad_A g 16) := by
  refine Met.ofW (cc := cX6_works) (maxL := 5) (ret := (some .int)) (by decide) rfl ?_
  intro p e s m args below meth c s₁ B hml hv
  obtain ⟨rfl, hP, hK⟩ := hv
  have hx := B.exec
  have hb := B.bytes
  have hr := B.returns
  have hts := atoms_spec (ws := wsX6_works) B.pre
  have hown : s.vm.findClass RX6 = some m.cls := findClass_of_methodNamed B.named
  have hlocks := B.notSynchronized
  have hiX6 : ∀ w ∈ u_ws RX6 TX6 23, w ∈ wsX6_works := by decide +kernel
  have kf44 := hts (.fieldLink RX6 44 "SortingLineModel" "works" "[I") (by decide +kernel)
  have kf35 := hts (.fieldLink RX6 35 "SortingLineModel" "wants" "[I") (by decide +kernel)
  have hS : va_S (ad_A g 16) s.heap s.heap [] := va_S.rf
  have hl := lv_entry ([.ref (g 0), .int (nI i), .int (nI r)]) (n := 5) (Nat.le_of_ble_eq_true rfl)
  rw [lg_entry_eq]
  generalize (lg_sl ([.ref (g 0), .int (nI i), .int (nI r)]) ++ List.replicate (5 - (lg_sl ([.ref (g 0), .int (nI i), .int (nI r)])).length) Slot.unset).toArray = ls at hl ⊢
  have hl : lv_has ls 5 [(0, .ref (g 0)), (1, .int (nI i)), (2, .int (nI r))] := hl
  refine lv_aload_n hx hb dX6_works_0 rfl (lv_at hl 0 rfl) ?_
  refine va_get (D := D) (ci := 6) (v := .ref (g 11)) (C := RX6) (T := TX6) (N := 23) hx hb hts hiX6 hown hK.1 hP 0 rfl rfl 14 (by decide) kf44 (fun _ h9 => h9) rfl dX6_works_1 ?_
  refine lv_iload_n hx hb dX6_works_4 rfl (lv_at hl 1 rfl) ?_
  refine ga_ild hx hb hK hP 11 rfl i (rfl) (by omega) (by decide) dX6_works_5 ?_
  refine tp_i (y := 9) (hw) ?_
  refine lv_istore_n (lv' := [(3, .int 9), (0, .ref (g 0)), (1, .int (nI i)), (2, .int (nI r))]) hx hb dX6_works_6 rfl hl (by decide) rfl (fun ls hl => ?_)
  refine lv_aload_n hx hb dX6_works_7 rfl (lv_at hl 1 rfl) ?_
  refine lv_iload_n hx hb dX6_works_8 rfl (lv_at hl 3 rfl) ?_
  refine lv_aload_n hx hb dX6_works_9 rfl (lv_at hl 1 rfl) ?_
  refine va_get (D := D) (ci := 6) (v := .ref (g 8)) (C := RX6) (T := TX6) (N := 23) hx hb hts hiX6 hown hK.1 hP 0 rfl rfl 9 (by decide) kf35 (fun _ h9 => h9) rfl dX6_works_10 ?_
  refine lv_iload_n hx hb dX6_works_13 rfl (lv_at hl 0 rfl) ?_
  refine ga_ild hx hb hK hP 8 rfl 9 (by decide) (by decide) (by decide) dX6_works_14 ?_
  refine tp_i (y := 15) (by rfl) ?_
  refine pu_callb (va_runV (As := [.int (nI r), .int 15]) (rest := []) ⟨hx, hb, hml, hown, hts⟩ (c_X6_isOf hh hn r (by omega) a ha hFa 15 (by decide)) (cwV 2 hts gX6_works_X6_isOf rfl rfl rfl (by decide +kernel) ⟨Nat.le_of_ble_eq_true rfl, Nat.le_of_ble_eq_true rfl⟩) (wd_preV (ci := 6) (q0 := 0) hP hK rfl rfl) rfl rfl hl.1 rfl (lv_room (Nat.le_of_ble_eq_true rfl)) dX6_works_15 ⟨Nat.zero_le _, Nat.zero_le _⟩) (fun _ => ?_) (fun h9 => absurd (hko) (by rw [h9]; decide))
  refine lv_if_ne (tgt := 23) hx hb dX6_works_18 (by decide) (fun _ => ?_) (fun h9 => absurd h9 (by decide))
  refine lv_iload_n hx hb dX6_works_23 rfl (lv_at hl 0 rfl) ?_
  refine lv_tableIn (off := 150) (tgt := 174) hx hb dX6_works_24 (by decide) (by decide) (by decide) (by decide) ?_
  refine lv_aload_n hx hb dX6_works_174 rfl (lv_at hl 1 rfl) ?_
  refine lv_iload_n hx hb dX6_works_175 rfl (lv_at hl 2 rfl) ?_
  refine lv_iload_n hx hb dX6_works_176 rfl (lv_at hl 3 rfl) ?_
  refine lv_iconst (v := 3) hx hb dX6_works_177 (by decide) ?_
  refine mu_calli (va_runV (As := [.int (nI i), .int (nI r), .int 3]) (rest := []) ⟨hx, hb, hml, hown, hts⟩ (c_X6_weighs3_f1B hh hn hk r (by omega) i (by omega) p1 hp1 s0 m0 sf) (cwV 3 hts gX6_works_X6_weighs rfl rfl rfl (by decide +kernel) ⟨Nat.le_of_ble_eq_true rfl, Nat.le_of_ble_eq_true rfl⟩) (wd_preV (ci := 6) (q0 := 0) hP hK rfl rfl) rfl rfl hl.1 rfl (lv_room (Nat.le_of_ble_eq_true rfl)) dX6_works_178 ⟨Nat.zero_le _, Nat.zero_le _⟩) hS (fun H locs hP hS => ?_)
  have hP : va_P D kC (mo_W cI cJ g fx (nI n) F Wt Sz Nu Pl Bf (nI b) (nI k) G Wk To Sl Sd (nI as) wo pa fa Fo) H := hP
  exact W.iret (v := 3) hx hb hr (fun t9 ht _ => ⟨congrArg (fun z => Outcome.returned (some (Value.int z))) (rfl), by rw [ht]; exact hP, hS.F ht⟩) hS.2.2 dX6_works_181
set_option maxHeartbeats 4000000 in
set_option maxRecDepth 100000 in
theorem c_X6_work_9f1N (hh : ad_ok g 16) (hn : n ≤ 100) (hk : k ≤ 8) (r : Nat) (hr9 : r < n) (i : Nat) (hi : i < k) (a : Nat) (ha : a < 16) (hFa : F r = nI a) (hw : Wk i = 9) (hko : ko (F r) (nI 15) = true) (p1 : Nat) (hp1 : p1 < n) (s0 : ¬ Sz r = 0) (m0 : Pl (8 * r) = nI p1) (sf : ¬ Sz p1 = 0) (mf : Pl (8 * p1) = -1) : Met l yX6_works wsX6_works ({ frames := 7, cells := 0, slots := 0, locals := 300 }) (wd_P D cI cJ [.ref (g 0), .int (nI i), .int (nI r)] (mo_W cI cJ g fx (nI n) F Wt Sz Nu Pl Bf (nI b) (nI k) G Wk To Sl Sd (nI as) wo pa fa Fo)) (mu_Q D (ad_A g 16) (some (.int 2)) (mo_W cI cJ g fx (nI n) F Wt Sz Nu Pl Bf (nI b) (nI k) G Wk To Sl Sd (nI as) wo pa fa Fo)) 0 0 (ad_A g 16) := by
  refine Met.ofW (cc := cX6_works) (maxL := 5) (ret := (some .int)) (by decide) rfl ?_
  intro p e s m args below meth c s₁ B hml hv
  obtain ⟨rfl, hP, hK⟩ := hv
  have hx := B.exec
  have hb := B.bytes
  have hr := B.returns
  have hts := atoms_spec (ws := wsX6_works) B.pre
  have hown : s.vm.findClass RX6 = some m.cls := findClass_of_methodNamed B.named
  have hlocks := B.notSynchronized
  have hiX6 : ∀ w ∈ u_ws RX6 TX6 23, w ∈ wsX6_works := by decide +kernel
  have kf44 := hts (.fieldLink RX6 44 "SortingLineModel" "works" "[I") (by decide +kernel)
  have kf35 := hts (.fieldLink RX6 35 "SortingLineModel" "wants" "[I") (by decide +kernel)
  have hS : va_S (ad_A g 16) s.heap s.heap [] := va_S.rf
  have hl := lv_entry ([.ref (g 0), .int (nI i), .int (nI r)]) (n := 5) (Nat.le_of_ble_eq_true rfl)
  rw [lg_entry_eq]
  generalize (lg_sl ([.ref (g 0), .int (nI i), .int (nI r)]) ++ List.replicate (5 - (lg_sl ([.ref (g 0), .int (nI i), .int (nI r)])).length) Slot.unset).toArray = ls at hl ⊢
  have hl : lv_has ls 5 [(0, .ref (g 0)), (1, .int (nI i)), (2, .int (nI r))] := hl
  refine lv_aload_n hx hb dX6_works_0 rfl (lv_at hl 0 rfl) ?_
  refine va_get (D := D) (ci := 6) (v := .ref (g 11)) (C := RX6) (T := TX6) (N := 23) hx hb hts hiX6 hown hK.1 hP 0 rfl rfl 14 (by decide) kf44 (fun _ h9 => h9) rfl dX6_works_1 ?_
  refine lv_iload_n hx hb dX6_works_4 rfl (lv_at hl 1 rfl) ?_
  refine ga_ild hx hb hK hP 11 rfl i (rfl) (by omega) (by decide) dX6_works_5 ?_
  refine tp_i (y := 9) (hw) ?_
  refine lv_istore_n (lv' := [(3, .int 9), (0, .ref (g 0)), (1, .int (nI i)), (2, .int (nI r))]) hx hb dX6_works_6 rfl hl (by decide) rfl (fun ls hl => ?_)
  refine lv_aload_n hx hb dX6_works_7 rfl (lv_at hl 1 rfl) ?_
  refine lv_iload_n hx hb dX6_works_8 rfl (lv_at hl 3 rfl) ?_
  refine lv_aload_n hx hb dX6_works_9 rfl (lv_at hl 1 rfl) ?_
  refine va_get (D := D) (ci := 6) (v := .ref (g 8)) (C := RX6) (T := TX6) (N := 23) hx hb hts hiX6 hown hK.1 hP 0 rfl rfl 9 (by decide) kf35 (fun _ h9 => h9) rfl dX6_works_10 ?_
  refine lv_iload_n hx hb dX6_works_13 rfl (lv_at hl 0 rfl) ?_
  refine ga_ild hx hb hK hP 8 rfl 9 (by decide) (by decide) (by decide) dX6_works_14 ?_
  refine tp_i (y := 15) (by rfl) ?_
  refine pu_callb (va_runV (As := [.int (nI r), .int 15]) (rest := []) ⟨hx, hb, hml, hown, hts⟩ (c_X6_isOf hh hn r (by omega) a ha hFa 15 (by decide)) (cwV 2 hts gX6_works_X6_isOf rfl rfl rfl (by decide +kernel) ⟨Nat.le_of_ble_eq_true rfl, Nat.le_of_ble_eq_true rfl⟩) (wd_preV (ci := 6) (q0 := 0) hP hK rfl rfl) rfl rfl hl.1 rfl (lv_room (Nat.le_of_ble_eq_true rfl)) dX6_works_15 ⟨Nat.zero_le _, Nat.zero_le _⟩) (fun _ => ?_) (fun h9 => absurd (hko) (by rw [h9]; decide))
  refine lv_if_ne (tgt := 23) hx hb dX6_works_18 (by decide) (fun _ => ?_) (fun h9 => absurd h9 (by decide))
  refine lv_iload_n hx hb dX6_works_23 rfl (lv_at hl 0 rfl) ?_
  refine lv_tableIn (off := 150) (tgt := 174) hx hb dX6_works_24 (by decide) (by decide) (by decide) (by decide) ?_
  refine lv_aload_n hx hb dX6_works_174 rfl (lv_at hl 1 rfl) ?_
  refine lv_iload_n hx hb dX6_works_175 rfl (lv_at hl 2 rfl) ?_
  refine lv_iload_n hx hb dX6_works_176 rfl (lv_at hl 3 rfl) ?_
  refine lv_iconst (v := 3) hx hb dX6_works_177 (by decide) ?_
  refine mu_calli (va_runV (As := [.int (nI i), .int (nI r), .int 3]) (rest := []) ⟨hx, hb, hml, hown, hts⟩ (c_X6_weighs3_f1N hh hn hk r (by omega) i (by omega) p1 hp1 s0 m0 sf mf) (cwV 3 hts gX6_works_X6_weighs rfl rfl rfl (by decide +kernel) ⟨Nat.le_of_ble_eq_true rfl, Nat.le_of_ble_eq_true rfl⟩) (wd_preV (ci := 6) (q0 := 0) hP hK rfl rfl) rfl rfl hl.1 rfl (lv_room (Nat.le_of_ble_eq_true rfl)) dX6_works_178 ⟨Nat.zero_le _, Nat.zero_le _⟩) hS (fun H locs hP hS => ?_)
  have hP : va_P D kC (mo_W cI cJ g fx (nI n) F Wt Sz Nu Pl Bf (nI b) (nI k) G Wk To Sl Sd (nI as) wo pa fa Fo) H := hP
  exact W.iret (v := 2) hx hb hr (fun t9 ht _ => ⟨congrArg (fun z => Outcome.returned (some (Value.int z))) (rfl), by rw [ht]; exact hP, hS.F ht⟩) hS.2.2 dX6_works_181
set_option maxHeartbeats 4000000 in
set_option maxRecDepth 100000 in
theorem c_X6_work_9f2B (hh : ad_ok g 16) (hn : n ≤ 100) (hk : k ≤ 8) (r : Nat) (hr9 : r < n) (i : Nat) (hi : i < k) (a : Nat) (ha : a < 16) (hFa : F r = nI a) (hw : Wk i = 9) (hko : ko (F r) (nI 15) = true) (p1 : Nat) (hp1 : p1 < n) (p2 : Nat) (hp2 : p2 < n) (s0 : ¬ Sz r = 0) (m0 : Pl (8 * r) = nI p1) (s1 : ¬ Sz p1 = 0) (m1 : Pl (8 * p1) = nI p2) (sf : Sz p2 = 0) : Met l yX6_works wsX6_works ({ frames := 7, cells := 0, slots := 0, locals := 300 }) (wd_P D cI cJ [.ref (g 0), .int (nI i), .int (nI r)] (mo_W cI cJ g fx (nI n) F Wt Sz Nu Pl Bf (nI b) (nI k) G Wk To Sl Sd (nI as) wo pa fa Fo)) (mu_Q D (ad_A g 16) (some (.int 3)) (mo_W cI cJ g fx (nI n) F Wt Sz Nu Pl Bf (nI b) (nI k) G Wk To Sl Sd (nI as) wo pa fa Fo)) 0 0 (ad_A g 16) := by
  refine Met.ofW (cc := cX6_works) (maxL := 5) (ret := (some .int)) (by decide) rfl ?_
  intro p e s m args below meth c s₁ B hml hv
  obtain ⟨rfl, hP, hK⟩ := hv
  have hx := B.exec
  have hb := B.bytes
  have hr := B.returns
  have hts := atoms_spec (ws := wsX6_works) B.pre
  have hown : s.vm.findClass RX6 = some m.cls := findClass_of_methodNamed B.named
  have hlocks := B.notSynchronized
  have hiX6 : ∀ w ∈ u_ws RX6 TX6 23, w ∈ wsX6_works := by decide +kernel
  have kf44 := hts (.fieldLink RX6 44 "SortingLineModel" "works" "[I") (by decide +kernel)
  have kf35 := hts (.fieldLink RX6 35 "SortingLineModel" "wants" "[I") (by decide +kernel)
  have hS : va_S (ad_A g 16) s.heap s.heap [] := va_S.rf
  have hl := lv_entry ([.ref (g 0), .int (nI i), .int (nI r)]) (n := 5) (Nat.le_of_ble_eq_true rfl)
  rw [lg_entry_eq]
  generalize (lg_sl ([.ref (g 0), .int (nI i), .int (nI r)]) ++ List.replicate (5 - (lg_sl ([.ref (g 0), .int (nI i), .int (nI r)])).length) Slot.unset).toArray = ls at hl ⊢
  have hl : lv_has ls 5 [(0, .ref (g 0)), (1, .int (nI i)), (2, .int (nI r))] := hl
  refine lv_aload_n hx hb dX6_works_0 rfl (lv_at hl 0 rfl) ?_
  refine va_get (D := D) (ci := 6) (v := .ref (g 11)) (C := RX6) (T := TX6) (N := 23) hx hb hts hiX6 hown hK.1 hP 0 rfl rfl 14 (by decide) kf44 (fun _ h9 => h9) rfl dX6_works_1 ?_
  refine lv_iload_n hx hb dX6_works_4 rfl (lv_at hl 1 rfl) ?_
  refine ga_ild hx hb hK hP 11 rfl i (rfl) (by omega) (by decide) dX6_works_5 ?_
  refine tp_i (y := 9) (hw) ?_
  refine lv_istore_n (lv' := [(3, .int 9), (0, .ref (g 0)), (1, .int (nI i)), (2, .int (nI r))]) hx hb dX6_works_6 rfl hl (by decide) rfl (fun ls hl => ?_)
  refine lv_aload_n hx hb dX6_works_7 rfl (lv_at hl 1 rfl) ?_
  refine lv_iload_n hx hb dX6_works_8 rfl (lv_at hl 3 rfl) ?_
  refine lv_aload_n hx hb dX6_works_9 rfl (lv_at hl 1 rfl) ?_
  refine va_get (D := D) (ci := 6) (v := .ref (g 8)) (C := RX6) (T := TX6) (N := 23) hx hb hts hiX6 hown hK.1 hP 0 rfl rfl 9 (by decide) kf35 (fun _ h9 => h9) rfl dX6_works_10 ?_
  refine lv_iload_n hx hb dX6_works_13 rfl (lv_at hl 0 rfl) ?_
  refine ga_ild hx hb hK hP 8 rfl 9 (by decide) (by decide) (by decide) dX6_works_14 ?_
  refine tp_i (y := 15) (by rfl) ?_
  refine pu_callb (va_runV (As := [.int (nI r), .int 15]) (rest := []) ⟨hx, hb, hml, hown, hts⟩ (c_X6_isOf hh hn r (by omega) a ha hFa 15 (by decide)) (cwV 2 hts gX6_works_X6_isOf rfl rfl rfl (by decide +kernel) ⟨Nat.le_of_ble_eq_true rfl, Nat.le_of_ble_eq_true rfl⟩) (wd_preV (ci := 6) (q0 := 0) hP hK rfl rfl) rfl rfl hl.1 rfl (lv_room (Nat.le_of_ble_eq_true rfl)) dX6_works_15 ⟨Nat.zero_le _, Nat.zero_le _⟩) (fun _ => ?_) (fun h9 => absurd (hko) (by rw [h9]; decide))
  refine lv_if_ne (tgt := 23) hx hb dX6_works_18 (by decide) (fun _ => ?_) (fun h9 => absurd h9 (by decide))
  refine lv_iload_n hx hb dX6_works_23 rfl (lv_at hl 0 rfl) ?_
  refine lv_tableIn (off := 150) (tgt := 174) hx hb dX6_works_24 (by decide) (by decide) (by decide) (by decide) ?_
  refine lv_aload_n hx hb dX6_works_174 rfl (lv_at hl 1 rfl) ?_
  refine lv_iload_n hx hb dX6_works_175 rfl (lv_at hl 2 rfl) ?_
  refine lv_iload_n hx hb dX6_works_176 rfl (lv_at hl 3 rfl) ?_
  refine lv_iconst (v := 3) hx hb dX6_works_177 (by decide) ?_
  refine mu_calli (va_runV (As := [.int (nI i), .int (nI r), .int 3]) (rest := []) ⟨hx, hb, hml, hown, hts⟩ (c_X6_weighs3_f2B hh hn hk r (by omega) i (by omega) p1 hp1 p2 hp2 s0 m0 s1 m1 sf) (cwV 3 hts gX6_works_X6_weighs rfl rfl rfl (by decide +kernel) ⟨Nat.le_of_ble_eq_true rfl, Nat.le_of_ble_eq_true rfl⟩) (wd_preV (ci := 6) (q0 := 0) hP hK rfl rfl) rfl rfl hl.1 rfl (lv_room (Nat.le_of_ble_eq_true rfl)) dX6_works_178 ⟨Nat.zero_le _, Nat.zero_le _⟩) hS (fun H locs hP hS => ?_)
  have hP : va_P D kC (mo_W cI cJ g fx (nI n) F Wt Sz Nu Pl Bf (nI b) (nI k) G Wk To Sl Sd (nI as) wo pa fa Fo) H := hP
  exact W.iret (v := 3) hx hb hr (fun t9 ht _ => ⟨congrArg (fun z => Outcome.returned (some (Value.int z))) (rfl), by rw [ht]; exact hP, hS.F ht⟩) hS.2.2 dX6_works_181
set_option maxHeartbeats 4000000 in
set_option maxRecDepth 100000 in
theorem c_X6_work_9f2N (hh : ad_ok g 16) (hn : n ≤ 100) (hk : k ≤ 8) (r : Nat) (hr9 : r < n) (i : Nat) (hi : i < k) (a : Nat) (ha : a < 16) (hFa : F r = nI a) (hw : Wk i = 9) (hko : ko (F r) (nI 15) = true) (p1 : Nat) (hp1 : p1 < n) (p2 : Nat) (hp2 : p2 < n) (s0 : ¬ Sz r = 0) (m0 : Pl (8 * r) = nI p1) (s1 : ¬ Sz p1 = 0) (m1 : Pl (8 * p1) = nI p2) (sf : ¬ Sz p2 = 0) (mf : Pl (8 * p2) = -1) : Met l yX6_works wsX6_works ({ frames := 7, cells := 0, slots := 0, locals := 300 }) (wd_P D cI cJ [.ref (g 0), .int (nI i), .int (nI r)] (mo_W cI cJ g fx (nI n) F Wt Sz Nu Pl Bf (nI b) (nI k) G Wk To Sl Sd (nI as) wo pa fa Fo)) (mu_Q D (ad_A g 16) (some (.int 2)) (mo_W cI cJ g fx (nI n) F Wt Sz Nu Pl Bf (nI b) (nI k) G Wk To Sl Sd (nI as) wo pa fa Fo)) 0 0 (ad_A g 16) := by
  refine Met.ofW (cc := cX6_works) (maxL := 5) (ret := (some .int)) (by decide) rfl ?_
  intro p e s m args below meth c s₁ B hml hv
  obtain ⟨rfl, hP, hK⟩ := hv
  have hx := B.exec
  have hb := B.bytes
  have hr := B.returns
  have hts := atoms_spec (ws := wsX6_works) B.pre
  have hown : s.vm.findClass RX6 = some m.cls := findClass_of_methodNamed B.named
  have hlocks := B.notSynchronized
  have hiX6 : ∀ w ∈ u_ws RX6 TX6 23, w ∈ wsX6_works := by decide +kernel
  have kf44 := hts (.fieldLink RX6 44 "SortingLineModel" "works" "[I") (by decide +kernel)
  have kf35 := hts (.fieldLink RX6 35 "SortingLineModel" "wants" "[I") (by decide +kernel)
  have hS : va_S (ad_A g 16) s.heap s.heap [] := va_S.rf
  have hl := lv_entry ([.ref (g 0), .int (nI i), .int (nI r)]) (n := 5) (Nat.le_of_ble_eq_true rfl)
  rw [lg_entry_eq]
  generalize (lg_sl ([.ref (g 0), .int (nI i), .int (nI r)]) ++ List.replicate (5 - (lg_sl ([.ref (g 0), .int (nI i), .int (nI r)])).length) Slot.unset).toArray = ls at hl ⊢
  have hl : lv_has ls 5 [(0, .ref (g 0)), (1, .int (nI i)), (2, .int (nI r))] := hl
  refine lv_aload_n hx hb dX6_works_0 rfl (lv_at hl 0 rfl) ?_
  refine va_get (D := D) (ci := 6) (v := .ref (g 11)) (C := RX6) (T := TX6) (N := 23) hx hb hts hiX6 hown hK.1 hP 0 rfl rfl 14 (by decide) kf44 (fun _ h9 => h9) rfl dX6_works_1 ?_
  refine lv_iload_n hx hb dX6_works_4 rfl (lv_at hl 1 rfl) ?_
  refine ga_ild hx hb hK hP 11 rfl i (rfl) (by omega) (by decide) dX6_works_5 ?_
  refine tp_i (y := 9) (hw) ?_
  refine lv_istore_n (lv' := [(3, .int 9), (0, .ref (g 0)), (1, .int (nI i)), (2, .int (nI r))]) hx hb dX6_works_6 rfl hl (by decide) rfl (fun ls hl => ?_)
  refine lv_aload_n hx hb dX6_works_7 rfl (lv_at hl 1 rfl) ?_
  refine lv_iload_n hx hb dX6_works_8 rfl (lv_at hl 3 rfl) ?_
  refine lv_aload_n hx hb dX6_works_9 rfl (lv_at hl 1 rfl) ?_
  refine va_get (D := D) (ci := 6) (v := .ref (g 8)) (C := RX6) (T := TX6) (N := 23) hx hb hts hiX6 hown hK.1 hP 0 rfl rfl 9 (by decide) kf35 (fun _ h9 => h9) rfl dX6_works_10 ?_
  refine lv_iload_n hx hb dX6_works_13 rfl (lv_at hl 0 rfl) ?_
  refine ga_ild hx hb hK hP 8 rfl 9 (by decide) (by decide) (by decide) dX6_works_14 ?_
  refine tp_i (y := 15) (by rfl) ?_
  refine pu_callb (va_runV (As := [.int (nI r), .int 15]) (rest := []) ⟨hx, hb, hml, hown, hts⟩ (c_X6_isOf hh hn r (by omega) a ha hFa 15 (by decide)) (cwV 2 hts gX6_works_X6_isOf rfl rfl rfl (by decide +kernel) ⟨Nat.le_of_ble_eq_true rfl, Nat.le_of_ble_eq_true rfl⟩) (wd_preV (ci := 6) (q0 := 0) hP hK rfl rfl) rfl rfl hl.1 rfl (lv_room (Nat.le_of_ble_eq_true rfl)) dX6_works_15 ⟨Nat.zero_le _, Nat.zero_le _⟩) (fun _ => ?_) (fun h9 => absurd (hko) (by rw [h9]; decide))
  refine lv_if_ne (tgt := 23) hx hb dX6_works_18 (by decide) (fun _ => ?_) (fun h9 => absurd h9 (by decide))
  refine lv_iload_n hx hb dX6_works_23 rfl (lv_at hl 0 rfl) ?_
  refine lv_tableIn (off := 150) (tgt := 174) hx hb dX6_works_24 (by decide) (by decide) (by decide) (by decide) ?_
  refine lv_aload_n hx hb dX6_works_174 rfl (lv_at hl 1 rfl) ?_
  refine lv_iload_n hx hb dX6_works_175 rfl (lv_at hl 2 rfl) ?_
  refine lv_iload_n hx hb dX6_works_176 rfl (lv_at hl 3 rfl) ?_
  refine lv_iconst (v := 3) hx hb dX6_works_177 (by decide) ?_
  refine mu_calli (va_runV (As := [.int (nI i), .int (nI r), .int 3]) (rest := []) ⟨hx, hb, hml, hown, hts⟩ (c_X6_weighs3_f2N hh hn hk r (by omega) i (by omega) p1 hp1 p2 hp2 s0 m0 s1 m1 sf mf) (cwV 3 hts gX6_works_X6_weighs rfl rfl rfl (by decide +kernel) ⟨Nat.le_of_ble_eq_true rfl, Nat.le_of_ble_eq_true rfl⟩) (wd_preV (ci := 6) (q0 := 0) hP hK rfl rfl) rfl rfl hl.1 rfl (lv_room (Nat.le_of_ble_eq_true rfl)) dX6_works_178 ⟨Nat.zero_le _, Nat.zero_le _⟩) hS (fun H locs hP hS => ?_)
  have hP : va_P D kC (mo_W cI cJ g fx (nI n) F Wt Sz Nu Pl Bf (nI b) (nI k) G Wk To Sl Sd (nI as) wo pa fa Fo) H := hP
  exact W.iret (v := 2) hx hb hr (fun t9 ht _ => ⟨congrArg (fun z => Outcome.returned (some (Value.int z))) (rfl), by rw [ht]; exact hP, hS.F ht⟩) hS.2.2 dX6_works_181
set_option maxHeartbeats 4000000 in
set_option maxRecDepth 100000 in
theorem c_X6_work_9o (hh : ad_ok g 16) (hn : n ≤ 100) (hk : k ≤ 8) (r : Nat) (hr9 : r < n) (i : Nat) (hi : i < k) (a : Nat) (ha : a < 16) (hFa : F r = nI a) (hw : Wk i = 9) (hko : ko (F r) (nI 15) = true) (p1 : Nat) (hp1 : p1 < n) (p2 : Nat) (hp2 : p2 < n) (p3 : Nat) (hp3 : p3 < n) (s0 : ¬ Sz r = 0) (m0 : Pl (8 * r) = nI p1) (s1 : ¬ Sz p1 = 0) (m1 : Pl (8 * p1) = nI p2) (s2 : ¬ Sz p2 = 0) (m2 : Pl (8 * p2) = nI p3) : Met l yX6_works wsX6_works ({ frames := 7, cells := 0, slots := 0, locals := 300 }) (wd_P D cI cJ [.ref (g 0), .int (nI i), .int (nI r)] (mo_W cI cJ g fx (nI n) F Wt Sz Nu Pl Bf (nI b) (nI k) G Wk To Sl Sd (nI as) wo pa fa Fo)) (mu_Q D (ad_A g 16) (some (.int 0)) (mo_W cI cJ g fx (nI n) F Wt Sz Nu Pl Bf (nI b) (nI k) G Wk (vp_updL To i (To i + Int32.toInt64 (Wt p3))) Sl Sd (nI as) wo pa fa Fo)) 0 0 (ad_A g 16) := by
  refine Met.ofW (cc := cX6_works) (maxL := 5) (ret := (some .int)) (by decide) rfl ?_
  intro p e s m args below meth c s₁ B hml hv
  obtain ⟨rfl, hP, hK⟩ := hv
  have hx := B.exec
  have hb := B.bytes
  have hr := B.returns
  have hts := atoms_spec (ws := wsX6_works) B.pre
  have hown : s.vm.findClass RX6 = some m.cls := findClass_of_methodNamed B.named
  have hlocks := B.notSynchronized
  have hiX6 : ∀ w ∈ u_ws RX6 TX6 23, w ∈ wsX6_works := by decide +kernel
  have kf44 := hts (.fieldLink RX6 44 "SortingLineModel" "works" "[I") (by decide +kernel)
  have kf35 := hts (.fieldLink RX6 35 "SortingLineModel" "wants" "[I") (by decide +kernel)
  have hS : va_S (ad_A g 16) s.heap s.heap [] := va_S.rf
  have hl := lv_entry ([.ref (g 0), .int (nI i), .int (nI r)]) (n := 5) (Nat.le_of_ble_eq_true rfl)
  rw [lg_entry_eq]
  generalize (lg_sl ([.ref (g 0), .int (nI i), .int (nI r)]) ++ List.replicate (5 - (lg_sl ([.ref (g 0), .int (nI i), .int (nI r)])).length) Slot.unset).toArray = ls at hl ⊢
  have hl : lv_has ls 5 [(0, .ref (g 0)), (1, .int (nI i)), (2, .int (nI r))] := hl
  refine lv_aload_n hx hb dX6_works_0 rfl (lv_at hl 0 rfl) ?_
  refine va_get (D := D) (ci := 6) (v := .ref (g 11)) (C := RX6) (T := TX6) (N := 23) hx hb hts hiX6 hown hK.1 hP 0 rfl rfl 14 (by decide) kf44 (fun _ h9 => h9) rfl dX6_works_1 ?_
  refine lv_iload_n hx hb dX6_works_4 rfl (lv_at hl 1 rfl) ?_
  refine ga_ild hx hb hK hP 11 rfl i (rfl) (by omega) (by decide) dX6_works_5 ?_
  refine tp_i (y := 9) (hw) ?_
  refine lv_istore_n (lv' := [(3, .int 9), (0, .ref (g 0)), (1, .int (nI i)), (2, .int (nI r))]) hx hb dX6_works_6 rfl hl (by decide) rfl (fun ls hl => ?_)
  refine lv_aload_n hx hb dX6_works_7 rfl (lv_at hl 1 rfl) ?_
  refine lv_iload_n hx hb dX6_works_8 rfl (lv_at hl 3 rfl) ?_
  refine lv_aload_n hx hb dX6_works_9 rfl (lv_at hl 1 rfl) ?_
  refine va_get (D := D) (ci := 6) (v := .ref (g 8)) (C := RX6) (T := TX6) (N := 23) hx hb hts hiX6 hown hK.1 hP 0 rfl rfl 9 (by decide) kf35 (fun _ h9 => h9) rfl dX6_works_10 ?_
  refine lv_iload_n hx hb dX6_works_13 rfl (lv_at hl 0 rfl) ?_
  refine ga_ild hx hb hK hP 8 rfl 9 (by decide) (by decide) (by decide) dX6_works_14 ?_
  refine tp_i (y := 15) (by rfl) ?_
  refine pu_callb (va_runV (As := [.int (nI r), .int 15]) (rest := []) ⟨hx, hb, hml, hown, hts⟩ (c_X6_isOf hh hn r (by omega) a ha hFa 15 (by decide)) (cwV 2 hts gX6_works_X6_isOf rfl rfl rfl (by decide +kernel) ⟨Nat.le_of_ble_eq_true rfl, Nat.le_of_ble_eq_true rfl⟩) (wd_preV (ci := 6) (q0 := 0) hP hK rfl rfl) rfl rfl hl.1 rfl (lv_room (Nat.le_of_ble_eq_true rfl)) dX6_works_15 ⟨Nat.zero_le _, Nat.zero_le _⟩) (fun _ => ?_) (fun h9 => absurd (hko) (by rw [h9]; decide))
  refine lv_if_ne (tgt := 23) hx hb dX6_works_18 (by decide) (fun _ => ?_) (fun h9 => absurd h9 (by decide))
  refine lv_iload_n hx hb dX6_works_23 rfl (lv_at hl 0 rfl) ?_
  refine lv_tableIn (off := 150) (tgt := 174) hx hb dX6_works_24 (by decide) (by decide) (by decide) (by decide) ?_
  refine lv_aload_n hx hb dX6_works_174 rfl (lv_at hl 1 rfl) ?_
  refine lv_iload_n hx hb dX6_works_175 rfl (lv_at hl 2 rfl) ?_
  refine lv_iload_n hx hb dX6_works_176 rfl (lv_at hl 3 rfl) ?_
  refine lv_iconst (v := 3) hx hb dX6_works_177 (by decide) ?_
  refine mu_calli (va_runV (As := [.int (nI i), .int (nI r), .int 3]) (rest := []) ⟨hx, hb, hml, hown, hts⟩ (c_X6_weighs3_o hh hn hk r (by omega) i (by omega) p1 hp1 p2 hp2 p3 hp3 s0 m0 s1 m1 s2 m2) (cwV 3 hts gX6_works_X6_weighs rfl rfl rfl (by decide +kernel) ⟨Nat.le_of_ble_eq_true rfl, Nat.le_of_ble_eq_true rfl⟩) (wd_preV (ci := 6) (q0 := 0) hP hK rfl rfl) rfl rfl hl.1 rfl (lv_room (Nat.le_of_ble_eq_true rfl)) dX6_works_178 ⟨Nat.zero_le _, Nat.zero_le _⟩) hS (fun H locs hP hS => ?_)
  have hP : va_P D kC (mo_W cI cJ g fx (nI n) F Wt Sz Nu Pl Bf (nI b) (nI k) G Wk (vp_updL To i (To i + Int32.toInt64 (Wt p3))) Sl Sd (nI as) wo pa fa Fo) H := hP
  exact W.iret (v := 0) hx hb hr (fun t9 ht _ => ⟨congrArg (fun z => Outcome.returned (some (Value.int z))) (rfl), by rw [ht]; exact hP, hS.F ht⟩) hS.2.2 dX6_works_181
set_option maxHeartbeats 4000000 in
set_option maxRecDepth 100000 in
theorem c_X6_work_8fB (hh : ad_ok g 16) (hn : n ≤ 100) (hk : k ≤ 8) (r : Nat) (hr9 : r < n) (i : Nat) (hi : i < k) (a : Nat) (ha : a < 16) (hFa : F r = nI a) (hw : Wk i = 8) (hko : ko (F r) (nI 7) = true) (sf : Sz r = 0) : Met l yX6_works wsX6_works ({ frames := 7, cells := 0, slots := 0, locals := 300 }) (wd_P D cI cJ [.ref (g 0), .int (nI i), .int (nI r)] (mo_W cI cJ g fx (nI n) F Wt Sz Nu Pl Bf (nI b) (nI k) G Wk To Sl Sd (nI as) wo pa fa Fo)) (pu_Q (some (.int 3))) 0 0 (fun _ => False) := by
  refine Met.ofW (cc := cX6_works) (maxL := 5) (ret := (some .int)) (by decide) rfl ?_
  intro p e s m args below meth c s₁ B hml hv
  obtain ⟨rfl, hP, hK⟩ := hv
  have hx := B.exec
  have hb := B.bytes
  have hr := B.returns
  have hts := atoms_spec (ws := wsX6_works) B.pre
  have hown : s.vm.findClass RX6 = some m.cls := findClass_of_methodNamed B.named
  have hlocks := B.notSynchronized
  have hiX6 : ∀ w ∈ u_ws RX6 TX6 23, w ∈ wsX6_works := by decide +kernel
  have kf44 := hts (.fieldLink RX6 44 "SortingLineModel" "works" "[I") (by decide +kernel)
  have kf35 := hts (.fieldLink RX6 35 "SortingLineModel" "wants" "[I") (by decide +kernel)
  have hl := lv_entry ([.ref (g 0), .int (nI i), .int (nI r)]) (n := 5) (Nat.le_of_ble_eq_true rfl)
  rw [lg_entry_eq]
  generalize (lg_sl ([.ref (g 0), .int (nI i), .int (nI r)]) ++ List.replicate (5 - (lg_sl ([.ref (g 0), .int (nI i), .int (nI r)])).length) Slot.unset).toArray = ls at hl ⊢
  have hl : lv_has ls 5 [(0, .ref (g 0)), (1, .int (nI i)), (2, .int (nI r))] := hl
  refine lv_aload_n hx hb dX6_works_0 rfl (lv_at hl 0 rfl) ?_
  refine va_get (D := D) (ci := 6) (v := .ref (g 11)) (C := RX6) (T := TX6) (N := 23) hx hb hts hiX6 hown hK.1 hP 0 rfl rfl 14 (by decide) kf44 (fun _ h9 => h9) rfl dX6_works_1 ?_
  refine lv_iload_n hx hb dX6_works_4 rfl (lv_at hl 1 rfl) ?_
  refine ga_ild hx hb hK hP 11 rfl i (rfl) (by omega) (by decide) dX6_works_5 ?_
  refine tp_i (y := 8) (hw) ?_
  refine lv_istore_n (lv' := [(3, .int 8), (0, .ref (g 0)), (1, .int (nI i)), (2, .int (nI r))]) hx hb dX6_works_6 rfl hl (by decide) rfl (fun ls hl => ?_)
  refine lv_aload_n hx hb dX6_works_7 rfl (lv_at hl 1 rfl) ?_
  refine lv_iload_n hx hb dX6_works_8 rfl (lv_at hl 3 rfl) ?_
  refine lv_aload_n hx hb dX6_works_9 rfl (lv_at hl 1 rfl) ?_
  refine va_get (D := D) (ci := 6) (v := .ref (g 8)) (C := RX6) (T := TX6) (N := 23) hx hb hts hiX6 hown hK.1 hP 0 rfl rfl 9 (by decide) kf35 (fun _ h9 => h9) rfl dX6_works_10 ?_
  refine lv_iload_n hx hb dX6_works_13 rfl (lv_at hl 0 rfl) ?_
  refine ga_ild hx hb hK hP 8 rfl 8 (by decide) (by decide) (by decide) dX6_works_14 ?_
  refine tp_i (y := 7) (by rfl) ?_
  refine pu_callb (va_runV (As := [.int (nI r), .int 7]) (rest := []) ⟨hx, hb, hml, hown, hts⟩ (c_X6_isOf hh hn r (by omega) a ha hFa 7 (by decide)) (cwV 2 hts gX6_works_X6_isOf rfl rfl rfl (by decide +kernel) ⟨Nat.le_of_ble_eq_true rfl, Nat.le_of_ble_eq_true rfl⟩) (wd_preV (ci := 6) (q0 := 0) hP hK rfl rfl) rfl rfl hl.1 rfl (lv_room (Nat.le_of_ble_eq_true rfl)) dX6_works_15 ⟨Nat.zero_le _, Nat.zero_le _⟩) (fun _ => ?_) (fun h9 => absurd (hko) (by rw [h9]; decide))
  refine lv_if_ne (tgt := 23) hx hb dX6_works_18 (by decide) (fun _ => ?_) (fun h9 => absurd h9 (by decide))
  refine lv_iload_n hx hb dX6_works_23 rfl (lv_at hl 0 rfl) ?_
  refine lv_tableIn (off := 143) (tgt := 167) hx hb dX6_works_24 (by decide) (by decide) (by decide) (by decide) ?_
  refine lv_aload_n hx hb dX6_works_167 rfl (lv_at hl 1 rfl) ?_
  refine lv_iload_n hx hb dX6_works_168 rfl (lv_at hl 2 rfl) ?_
  refine lv_iload_n hx hb dX6_works_169 rfl (lv_at hl 3 rfl) ?_
  refine pu_calli (va_runV (As := [.int (nI i), .int (nI r)]) (rest := []) ⟨hx, hb, hml, hown, hts⟩ (c_X6_cell_fB hh hn hk r (by omega) i (by omega) sf) (cwV 2 hts gX6_works_X6_cell rfl rfl rfl (by decide +kernel) ⟨Nat.le_of_ble_eq_true rfl, Nat.le_of_ble_eq_true rfl⟩) (wd_preV (ci := 6) (q0 := 0) hP hK rfl rfl) rfl rfl hl.1 rfl (lv_room (Nat.le_of_ble_eq_true rfl)) dX6_works_170 ⟨Nat.zero_le _, Nat.zero_le _⟩) ?_
  exact W.iret (v := 3) hx hb hr (fun t9 ht _ => ⟨congrArg (fun z => Outcome.returned (some (Value.int z))) (rfl), ht⟩) (fun _ h9 => nomatch h9) dX6_works_173
set_option maxHeartbeats 4000000 in
set_option maxRecDepth 100000 in
theorem c_X6_work_8fN (hh : ad_ok g 16) (hn : n ≤ 100) (hk : k ≤ 8) (r : Nat) (hr9 : r < n) (i : Nat) (hi : i < k) (a : Nat) (ha : a < 16) (hFa : F r = nI a) (hw : Wk i = 8) (hko : ko (F r) (nI 7) = true) (sf : ¬ Sz r = 0) (mf : Pl (8 * r) = -1) : Met l yX6_works wsX6_works ({ frames := 7, cells := 0, slots := 0, locals := 300 }) (wd_P D cI cJ [.ref (g 0), .int (nI i), .int (nI r)] (mo_W cI cJ g fx (nI n) F Wt Sz Nu Pl Bf (nI b) (nI k) G Wk To Sl Sd (nI as) wo pa fa Fo)) (pu_Q (some (.int 2))) 0 0 (fun _ => False) := by
  refine Met.ofW (cc := cX6_works) (maxL := 5) (ret := (some .int)) (by decide) rfl ?_
  intro p e s m args below meth c s₁ B hml hv
  obtain ⟨rfl, hP, hK⟩ := hv
  have hx := B.exec
  have hb := B.bytes
  have hr := B.returns
  have hts := atoms_spec (ws := wsX6_works) B.pre
  have hown : s.vm.findClass RX6 = some m.cls := findClass_of_methodNamed B.named
  have hlocks := B.notSynchronized
  have hiX6 : ∀ w ∈ u_ws RX6 TX6 23, w ∈ wsX6_works := by decide +kernel
  have kf44 := hts (.fieldLink RX6 44 "SortingLineModel" "works" "[I") (by decide +kernel)
  have kf35 := hts (.fieldLink RX6 35 "SortingLineModel" "wants" "[I") (by decide +kernel)
  have hl := lv_entry ([.ref (g 0), .int (nI i), .int (nI r)]) (n := 5) (Nat.le_of_ble_eq_true rfl)
  rw [lg_entry_eq]
  generalize (lg_sl ([.ref (g 0), .int (nI i), .int (nI r)]) ++ List.replicate (5 - (lg_sl ([.ref (g 0), .int (nI i), .int (nI r)])).length) Slot.unset).toArray = ls at hl ⊢
  have hl : lv_has ls 5 [(0, .ref (g 0)), (1, .int (nI i)), (2, .int (nI r))] := hl
  refine lv_aload_n hx hb dX6_works_0 rfl (lv_at hl 0 rfl) ?_
  refine va_get (D := D) (ci := 6) (v := .ref (g 11)) (C := RX6) (T := TX6) (N := 23) hx hb hts hiX6 hown hK.1 hP 0 rfl rfl 14 (by decide) kf44 (fun _ h9 => h9) rfl dX6_works_1 ?_
  refine lv_iload_n hx hb dX6_works_4 rfl (lv_at hl 1 rfl) ?_
  refine ga_ild hx hb hK hP 11 rfl i (rfl) (by omega) (by decide) dX6_works_5 ?_
  refine tp_i (y := 8) (hw) ?_
  refine lv_istore_n (lv' := [(3, .int 8), (0, .ref (g 0)), (1, .int (nI i)), (2, .int (nI r))]) hx hb dX6_works_6 rfl hl (by decide) rfl (fun ls hl => ?_)
  refine lv_aload_n hx hb dX6_works_7 rfl (lv_at hl 1 rfl) ?_
  refine lv_iload_n hx hb dX6_works_8 rfl (lv_at hl 3 rfl) ?_
  refine lv_aload_n hx hb dX6_works_9 rfl (lv_at hl 1 rfl) ?_
  refine va_get (D := D) (ci := 6) (v := .ref (g 8)) (C := RX6) (T := TX6) (N := 23) hx hb hts hiX6 hown hK.1 hP 0 rfl rfl 9 (by decide) kf35 (fun _ h9 => h9) rfl dX6_works_10 ?_
  refine lv_iload_n hx hb dX6_works_13 rfl (lv_at hl 0 rfl) ?_
  refine ga_ild hx hb hK hP 8 rfl 8 (by decide) (by decide) (by decide) dX6_works_14 ?_
  refine tp_i (y := 7) (by rfl) ?_
  refine pu_callb (va_runV (As := [.int (nI r), .int 7]) (rest := []) ⟨hx, hb, hml, hown, hts⟩ (c_X6_isOf hh hn r (by omega) a ha hFa 7 (by decide)) (cwV 2 hts gX6_works_X6_isOf rfl rfl rfl (by decide +kernel) ⟨Nat.le_of_ble_eq_true rfl, Nat.le_of_ble_eq_true rfl⟩) (wd_preV (ci := 6) (q0 := 0) hP hK rfl rfl) rfl rfl hl.1 rfl (lv_room (Nat.le_of_ble_eq_true rfl)) dX6_works_15 ⟨Nat.zero_le _, Nat.zero_le _⟩) (fun _ => ?_) (fun h9 => absurd (hko) (by rw [h9]; decide))
  refine lv_if_ne (tgt := 23) hx hb dX6_works_18 (by decide) (fun _ => ?_) (fun h9 => absurd h9 (by decide))
  refine lv_iload_n hx hb dX6_works_23 rfl (lv_at hl 0 rfl) ?_
  refine lv_tableIn (off := 143) (tgt := 167) hx hb dX6_works_24 (by decide) (by decide) (by decide) (by decide) ?_
  refine lv_aload_n hx hb dX6_works_167 rfl (lv_at hl 1 rfl) ?_
  refine lv_iload_n hx hb dX6_works_168 rfl (lv_at hl 2 rfl) ?_
  refine lv_iload_n hx hb dX6_works_169 rfl (lv_at hl 3 rfl) ?_
  refine pu_calli (va_runV (As := [.int (nI i), .int (nI r)]) (rest := []) ⟨hx, hb, hml, hown, hts⟩ (c_X6_cell_fN hh hn hk r (by omega) i (by omega) sf mf) (cwV 2 hts gX6_works_X6_cell rfl rfl rfl (by decide +kernel) ⟨Nat.le_of_ble_eq_true rfl, Nat.le_of_ble_eq_true rfl⟩) (wd_preV (ci := 6) (q0 := 0) hP hK rfl rfl) rfl rfl hl.1 rfl (lv_room (Nat.le_of_ble_eq_true rfl)) dX6_works_170 ⟨Nat.zero_le _, Nat.zero_le _⟩) ?_
  exact W.iret (v := 2) hx hb hr (fun t9 ht _ => ⟨congrArg (fun z => Outcome.returned (some (Value.int z))) (rfl), ht⟩) (fun _ h9 => nomatch h9) dX6_works_173
set_option maxHeartbeats 4000000 in
set_option maxRecDepth 100000 in
theorem c_X6_work_8b (hh : ad_ok g 16) (hn : n ≤ 100) (hk : k ≤ 8) (r : Nat) (hr9 : r < n) (i : Nat) (hi : i < k) (a : Nat) (ha : a < 16) (hFa : F r = nI a) (hw : Wk i = 8) (hko : ko (F r) (nI 7) = true) (p1 : Nat) (hp1 : p1 < n) (s0 : ¬ Sz r = 0) (m0 : Pl (8 * r) = nI p1) (sb : Sz p1 = 0) : Met l yX6_works wsX6_works ({ frames := 7, cells := 0, slots := 0, locals := 300 }) (wd_P D cI cJ [.ref (g 0), .int (nI i), .int (nI r)] (mo_W cI cJ g fx (nI n) F Wt Sz Nu Pl Bf (nI b) (nI k) G Wk To Sl Sd (nI as) wo pa fa Fo)) (pu_Q (some (.int 3))) 0 0 (fun _ => False) := by
  refine Met.ofW (cc := cX6_works) (maxL := 5) (ret := (some .int)) (by decide) rfl ?_
  intro p e s m args below meth c s₁ B hml hv
  obtain ⟨rfl, hP, hK⟩ := hv
  have hx := B.exec
  have hb := B.bytes
  have hr := B.returns
  have hts := atoms_spec (ws := wsX6_works) B.pre
  have hown : s.vm.findClass RX6 = some m.cls := findClass_of_methodNamed B.named
  have hlocks := B.notSynchronized
  have hiX6 : ∀ w ∈ u_ws RX6 TX6 23, w ∈ wsX6_works := by decide +kernel
  have kf44 := hts (.fieldLink RX6 44 "SortingLineModel" "works" "[I") (by decide +kernel)
  have kf35 := hts (.fieldLink RX6 35 "SortingLineModel" "wants" "[I") (by decide +kernel)
  have hl := lv_entry ([.ref (g 0), .int (nI i), .int (nI r)]) (n := 5) (Nat.le_of_ble_eq_true rfl)
  rw [lg_entry_eq]
  generalize (lg_sl ([.ref (g 0), .int (nI i), .int (nI r)]) ++ List.replicate (5 - (lg_sl ([.ref (g 0), .int (nI i), .int (nI r)])).length) Slot.unset).toArray = ls at hl ⊢
  have hl : lv_has ls 5 [(0, .ref (g 0)), (1, .int (nI i)), (2, .int (nI r))] := hl
  refine lv_aload_n hx hb dX6_works_0 rfl (lv_at hl 0 rfl) ?_
  refine va_get (D := D) (ci := 6) (v := .ref (g 11)) (C := RX6) (T := TX6) (N := 23) hx hb hts hiX6 hown hK.1 hP 0 rfl rfl 14 (by decide) kf44 (fun _ h9 => h9) rfl dX6_works_1 ?_
  refine lv_iload_n hx hb dX6_works_4 rfl (lv_at hl 1 rfl) ?_
  refine ga_ild hx hb hK hP 11 rfl i (rfl) (by omega) (by decide) dX6_works_5 ?_
  refine tp_i (y := 8) (hw) ?_
  refine lv_istore_n (lv' := [(3, .int 8), (0, .ref (g 0)), (1, .int (nI i)), (2, .int (nI r))]) hx hb dX6_works_6 rfl hl (by decide) rfl (fun ls hl => ?_)
  refine lv_aload_n hx hb dX6_works_7 rfl (lv_at hl 1 rfl) ?_
  refine lv_iload_n hx hb dX6_works_8 rfl (lv_at hl 3 rfl) ?_
  refine lv_aload_n hx hb dX6_works_9 rfl (lv_at hl 1 rfl) ?_
  refine va_get (D := D) (ci := 6) (v := .ref (g 8)) (C := RX6) (T := TX6) (N := 23) hx hb hts hiX6 hown hK.1 hP 0 rfl rfl 9 (by decide) kf35 (fun _ h9 => h9) rfl dX6_works_10 ?_
  refine lv_iload_n hx hb dX6_works_13 rfl (lv_at hl 0 rfl) ?_
  refine ga_ild hx hb hK hP 8 rfl 8 (by decide) (by decide) (by decide) dX6_works_14 ?_
  refine tp_i (y := 7) (by rfl) ?_
  refine pu_callb (va_runV (As := [.int (nI r), .int 7]) (rest := []) ⟨hx, hb, hml, hown, hts⟩ (c_X6_isOf hh hn r (by omega) a ha hFa 7 (by decide)) (cwV 2 hts gX6_works_X6_isOf rfl rfl rfl (by decide +kernel) ⟨Nat.le_of_ble_eq_true rfl, Nat.le_of_ble_eq_true rfl⟩) (wd_preV (ci := 6) (q0 := 0) hP hK rfl rfl) rfl rfl hl.1 rfl (lv_room (Nat.le_of_ble_eq_true rfl)) dX6_works_15 ⟨Nat.zero_le _, Nat.zero_le _⟩) (fun _ => ?_) (fun h9 => absurd (hko) (by rw [h9]; decide))
  refine lv_if_ne (tgt := 23) hx hb dX6_works_18 (by decide) (fun _ => ?_) (fun h9 => absurd h9 (by decide))
  refine lv_iload_n hx hb dX6_works_23 rfl (lv_at hl 0 rfl) ?_
  refine lv_tableIn (off := 143) (tgt := 167) hx hb dX6_works_24 (by decide) (by decide) (by decide) (by decide) ?_
  refine lv_aload_n hx hb dX6_works_167 rfl (lv_at hl 1 rfl) ?_
  refine lv_iload_n hx hb dX6_works_168 rfl (lv_at hl 2 rfl) ?_
  refine lv_iload_n hx hb dX6_works_169 rfl (lv_at hl 3 rfl) ?_
  refine pu_calli (va_runV (As := [.int (nI i), .int (nI r)]) (rest := []) ⟨hx, hb, hml, hown, hts⟩ (c_X6_cell_b hh hn hk r (by omega) i (by omega) p1 hp1 s0 m0 sb) (cwV 2 hts gX6_works_X6_cell rfl rfl rfl (by decide +kernel) ⟨Nat.le_of_ble_eq_true rfl, Nat.le_of_ble_eq_true rfl⟩) (wd_preV (ci := 6) (q0 := 0) hP hK rfl rfl) rfl rfl hl.1 rfl (lv_room (Nat.le_of_ble_eq_true rfl)) dX6_works_170 ⟨Nat.zero_le _, Nat.zero_le _⟩) ?_
  exact W.iret (v := 3) hx hb hr (fun t9 ht _ => ⟨congrArg (fun z => Outcome.returned (some (Value.int z))) (rfl), ht⟩) (fun _ h9 => nomatch h9) dX6_works_173
set_option maxHeartbeats 4000000 in
set_option maxRecDepth 100000 in
theorem c_X6_work_8o (hh : ad_ok g 16) (hn : n ≤ 100) (hk : k ≤ 8) (r : Nat) (hr9 : r < n) (i : Nat) (hi : i < k) (a : Nat) (ha : a < 16) (hFa : F r = nI a) (hw : Wk i = 8) (hko : ko (F r) (nI 7) = true) (p1 : Nat) (hp1 : p1 < n) (s0 : ¬ Sz r = 0) (m0 : Pl (8 * r) = nI p1) (sb : ¬ Sz p1 = 0) : Met l yX6_works wsX6_works ({ frames := 7, cells := 0, slots := 0, locals := 300 }) (wd_P D cI cJ [.ref (g 0), .int (nI i), .int (nI r)] (mo_W cI cJ g fx (nI n) F Wt Sz Nu Pl Bf (nI b) (nI k) G Wk To Sl Sd (nI as) wo pa fa Fo)) (mu_Q D (ad_A g 16) (some (.int 0)) (mo_W cI cJ g fx (nI n) F Wt Sz Nu Pl Bf (nI b) (nI k) G Wk (vp_updL To i (To i + Nu (8 * p1))) Sl Sd (nI as) wo pa fa Fo)) 0 0 (ad_A g 16) := by
  refine Met.ofW (cc := cX6_works) (maxL := 5) (ret := (some .int)) (by decide) rfl ?_
  intro p e s m args below meth c s₁ B hml hv
  obtain ⟨rfl, hP, hK⟩ := hv
  have hx := B.exec
  have hb := B.bytes
  have hr := B.returns
  have hts := atoms_spec (ws := wsX6_works) B.pre
  have hown : s.vm.findClass RX6 = some m.cls := findClass_of_methodNamed B.named
  have hlocks := B.notSynchronized
  have hiX6 : ∀ w ∈ u_ws RX6 TX6 23, w ∈ wsX6_works := by decide +kernel
  have kf44 := hts (.fieldLink RX6 44 "SortingLineModel" "works" "[I") (by decide +kernel)
  have kf35 := hts (.fieldLink RX6 35 "SortingLineModel" "wants" "[I") (by decide +kernel)
  have hS : va_S (ad_A g 16) s.heap s.heap [] := va_S.rf
  have hl := lv_entry ([.ref (g 0), .int (nI i), .int (nI r)]) (n := 5) (Nat.le_of_ble_eq_true rfl)
  rw [lg_entry_eq]
  generalize (lg_sl ([.ref (g 0), .int (nI i), .int (nI r)]) ++ List.replicate (5 - (lg_sl ([.ref (g 0), .int (nI i), .int (nI r)])).length) Slot.unset).toArray = ls at hl ⊢
  have hl : lv_has ls 5 [(0, .ref (g 0)), (1, .int (nI i)), (2, .int (nI r))] := hl
  refine lv_aload_n hx hb dX6_works_0 rfl (lv_at hl 0 rfl) ?_
  refine va_get (D := D) (ci := 6) (v := .ref (g 11)) (C := RX6) (T := TX6) (N := 23) hx hb hts hiX6 hown hK.1 hP 0 rfl rfl 14 (by decide) kf44 (fun _ h9 => h9) rfl dX6_works_1 ?_
  refine lv_iload_n hx hb dX6_works_4 rfl (lv_at hl 1 rfl) ?_
  refine ga_ild hx hb hK hP 11 rfl i (rfl) (by omega) (by decide) dX6_works_5 ?_
  refine tp_i (y := 8) (hw) ?_
  refine lv_istore_n (lv' := [(3, .int 8), (0, .ref (g 0)), (1, .int (nI i)), (2, .int (nI r))]) hx hb dX6_works_6 rfl hl (by decide) rfl (fun ls hl => ?_)
  refine lv_aload_n hx hb dX6_works_7 rfl (lv_at hl 1 rfl) ?_
  refine lv_iload_n hx hb dX6_works_8 rfl (lv_at hl 3 rfl) ?_
  refine lv_aload_n hx hb dX6_works_9 rfl (lv_at hl 1 rfl) ?_
  refine va_get (D := D) (ci := 6) (v := .ref (g 8)) (C := RX6) (T := TX6) (N := 23) hx hb hts hiX6 hown hK.1 hP 0 rfl rfl 9 (by decide) kf35 (fun _ h9 => h9) rfl dX6_works_10 ?_
  refine lv_iload_n hx hb dX6_works_13 rfl (lv_at hl 0 rfl) ?_
  refine ga_ild hx hb hK hP 8 rfl 8 (by decide) (by decide) (by decide) dX6_works_14 ?_
  refine tp_i (y := 7) (by rfl) ?_
  refine pu_callb (va_runV (As := [.int (nI r), .int 7]) (rest := []) ⟨hx, hb, hml, hown, hts⟩ (c_X6_isOf hh hn r (by omega) a ha hFa 7 (by decide)) (cwV 2 hts gX6_works_X6_isOf rfl rfl rfl (by decide +kernel) ⟨Nat.le_of_ble_eq_true rfl, Nat.le_of_ble_eq_true rfl⟩) (wd_preV (ci := 6) (q0 := 0) hP hK rfl rfl) rfl rfl hl.1 rfl (lv_room (Nat.le_of_ble_eq_true rfl)) dX6_works_15 ⟨Nat.zero_le _, Nat.zero_le _⟩) (fun _ => ?_) (fun h9 => absurd (hko) (by rw [h9]; decide))
  refine lv_if_ne (tgt := 23) hx hb dX6_works_18 (by decide) (fun _ => ?_) (fun h9 => absurd h9 (by decide))
  refine lv_iload_n hx hb dX6_works_23 rfl (lv_at hl 0 rfl) ?_
  refine lv_tableIn (off := 143) (tgt := 167) hx hb dX6_works_24 (by decide) (by decide) (by decide) (by decide) ?_
  refine lv_aload_n hx hb dX6_works_167 rfl (lv_at hl 1 rfl) ?_
  refine lv_iload_n hx hb dX6_works_168 rfl (lv_at hl 2 rfl) ?_
  refine lv_iload_n hx hb dX6_works_169 rfl (lv_at hl 3 rfl) ?_
  refine mu_calli (va_runV (As := [.int (nI i), .int (nI r)]) (rest := []) ⟨hx, hb, hml, hown, hts⟩ (c_X6_cell_o hh hn hk r (by omega) i (by omega) p1 hp1 s0 m0 sb) (cwV 2 hts gX6_works_X6_cell rfl rfl rfl (by decide +kernel) ⟨Nat.le_of_ble_eq_true rfl, Nat.le_of_ble_eq_true rfl⟩) (wd_preV (ci := 6) (q0 := 0) hP hK rfl rfl) rfl rfl hl.1 rfl (lv_room (Nat.le_of_ble_eq_true rfl)) dX6_works_170 ⟨Nat.zero_le _, Nat.zero_le _⟩) hS (fun H locs hP hS => ?_)
  have hP : va_P D kC (mo_W cI cJ g fx (nI n) F Wt Sz Nu Pl Bf (nI b) (nI k) G Wk (vp_updL To i (To i + Nu (8 * p1))) Sl Sd (nI as) wo pa fa Fo) H := hP
  exact W.iret (v := 0) hx hb hr (fun t9 ht _ => ⟨congrArg (fun z => Outcome.returned (some (Value.int z))) (rfl), by rw [ht]; exact hP, hS.F ht⟩) hS.2.2 dX6_works_173
set_option maxHeartbeats 4000000 in
set_option maxRecDepth 100000 in
theorem c_X6_work_11 (hh : ad_ok g 16) (hn : n ≤ 100) (hk : k ≤ 8) (r : Nat) (hr9 : r < n) (i : Nat) (hi : i < k) (a : Nat) (ha : a < 16) (hFa : F r = nI a) (hw : Wk i = 11) (hko : ko (F r) (nI 8) = true) (hb9 : b ≤ 40) (z : Nat) (hz : Sz r = nI z) (hz8 : z ≤ 8) (M9 R9 : Nat → Int32) (b9 : Nat) (hs8 : spR r (Pl, Bf, b) z = (M9, R9, b9)) : Met l yX6_works wsX6_works ({ frames := 7, cells := 0, slots := 0, locals := 300 }) (wd_P D cI cJ [.ref (g 0), .int (nI i), .int (nI r)] (mo_W cI cJ g fx (nI n) F Wt Sz Nu Pl Bf (nI b) (nI k) G Wk To Sl Sd (nI as) wo pa fa Fo)) (mu_Q D (ad_A g 16) (some (.int 0)) (mo_W cI cJ g fx (nI n) F Wt Sz Nu M9 R9 (nI b9) (nI k) G Wk To Sl Sd (nI as) wo pa fa Fo)) 0 0 (ad_A g 16) := by
  refine Met.ofW (cc := cX6_works) (maxL := 5) (ret := (some .int)) (by decide) rfl ?_
  intro p e s m args below meth c s₁ B hml hv
  obtain ⟨rfl, hP, hK⟩ := hv
  have hx := B.exec
  have hb := B.bytes
  have hr := B.returns
  have hts := atoms_spec (ws := wsX6_works) B.pre
  have hown : s.vm.findClass RX6 = some m.cls := findClass_of_methodNamed B.named
  have hlocks := B.notSynchronized
  have hiX6 : ∀ w ∈ u_ws RX6 TX6 23, w ∈ wsX6_works := by decide +kernel
  have kf44 := hts (.fieldLink RX6 44 "SortingLineModel" "works" "[I") (by decide +kernel)
  have kf35 := hts (.fieldLink RX6 35 "SortingLineModel" "wants" "[I") (by decide +kernel)
  have hS : va_S (ad_A g 16) s.heap s.heap [] := va_S.rf
  have hl := lv_entry ([.ref (g 0), .int (nI i), .int (nI r)]) (n := 5) (Nat.le_of_ble_eq_true rfl)
  rw [lg_entry_eq]
  generalize (lg_sl ([.ref (g 0), .int (nI i), .int (nI r)]) ++ List.replicate (5 - (lg_sl ([.ref (g 0), .int (nI i), .int (nI r)])).length) Slot.unset).toArray = ls at hl ⊢
  have hl : lv_has ls 5 [(0, .ref (g 0)), (1, .int (nI i)), (2, .int (nI r))] := hl
  refine lv_aload_n hx hb dX6_works_0 rfl (lv_at hl 0 rfl) ?_
  refine va_get (D := D) (ci := 6) (v := .ref (g 11)) (C := RX6) (T := TX6) (N := 23) hx hb hts hiX6 hown hK.1 hP 0 rfl rfl 14 (by decide) kf44 (fun _ h9 => h9) rfl dX6_works_1 ?_
  refine lv_iload_n hx hb dX6_works_4 rfl (lv_at hl 1 rfl) ?_
  refine ga_ild hx hb hK hP 11 rfl i (rfl) (by omega) (by decide) dX6_works_5 ?_
  refine tp_i (y := 11) (hw) ?_
  refine lv_istore_n (lv' := [(3, .int 11), (0, .ref (g 0)), (1, .int (nI i)), (2, .int (nI r))]) hx hb dX6_works_6 rfl hl (by decide) rfl (fun ls hl => ?_)
  refine lv_aload_n hx hb dX6_works_7 rfl (lv_at hl 1 rfl) ?_
  refine lv_iload_n hx hb dX6_works_8 rfl (lv_at hl 3 rfl) ?_
  refine lv_aload_n hx hb dX6_works_9 rfl (lv_at hl 1 rfl) ?_
  refine va_get (D := D) (ci := 6) (v := .ref (g 8)) (C := RX6) (T := TX6) (N := 23) hx hb hts hiX6 hown hK.1 hP 0 rfl rfl 9 (by decide) kf35 (fun _ h9 => h9) rfl dX6_works_10 ?_
  refine lv_iload_n hx hb dX6_works_13 rfl (lv_at hl 0 rfl) ?_
  refine ga_ild hx hb hK hP 8 rfl 11 (by decide) (by decide) (by decide) dX6_works_14 ?_
  refine tp_i (y := 8) (by rfl) ?_
  refine pu_callb (va_runV (As := [.int (nI r), .int 8]) (rest := []) ⟨hx, hb, hml, hown, hts⟩ (c_X6_isOf hh hn r (by omega) a ha hFa 8 (by decide)) (cwV 2 hts gX6_works_X6_isOf rfl rfl rfl (by decide +kernel) ⟨Nat.le_of_ble_eq_true rfl, Nat.le_of_ble_eq_true rfl⟩) (wd_preV (ci := 6) (q0 := 0) hP hK rfl rfl) rfl rfl hl.1 rfl (lv_room (Nat.le_of_ble_eq_true rfl)) dX6_works_15 ⟨Nat.zero_le _, Nat.zero_le _⟩) (fun _ => ?_) (fun h9 => absurd (hko) (by rw [h9]; decide))
  refine lv_if_ne (tgt := 23) hx hb dX6_works_18 (by decide) (fun _ => ?_) (fun h9 => absurd h9 (by decide))
  refine lv_iload_n hx hb dX6_works_23 rfl (lv_at hl 0 rfl) ?_
  refine lv_tableIn (off := 158) (tgt := 182) hx hb dX6_works_24 (by decide) (by decide) (by decide) (by decide) ?_
  refine lv_aload_n hx hb dX6_works_182 rfl (lv_at hl 1 rfl) ?_
  refine lv_iload_n hx hb dX6_works_183 rfl (lv_at hl 3 rfl) ?_
  refine mu_calli (va_runV (As := [.int (nI r)]) (rest := []) ⟨hx, hb, hml, hown, hts⟩ (c_X6_spills hh hn r (by omega) hb9 z hz hz8 M9 R9 b9 hs8) (cwV 1 hts gX6_works_X6_spills rfl rfl rfl (by decide +kernel) ⟨Nat.le_of_ble_eq_true rfl, Nat.le_of_ble_eq_true rfl⟩) (wd_preV (ci := 6) (q0 := 0) hP hK rfl rfl) rfl rfl hl.1 rfl (lv_room (Nat.le_of_ble_eq_true rfl)) dX6_works_184 ⟨Nat.zero_le _, Nat.zero_le _⟩) hS (fun H locs hP hS => ?_)
  have hP : va_P D kC (mo_W cI cJ g fx (nI n) F Wt Sz Nu M9 R9 (nI b9) (nI k) G Wk To Sl Sd (nI as) wo pa fa Fo) H := hP
  exact W.iret (v := 0) hx hb hr (fun t9 ht _ => ⟨congrArg (fun z => Outcome.returned (some (Value.int z))) (rfl), by rw [ht]; exact hP, hS.F ht⟩) hS.2.2 dX6_works_187
set_option maxHeartbeats 4000000 in
set_option maxRecDepth 100000 in
theorem c_X6_work_12 (hh : ad_ok g 16) (hn : n ≤ 100) (hk : k ≤ 8) (r : Nat) (hr9 : r < n) (i : Nat) (hi : i < k) (a : Nat) (ha : a < 16) (hFa : F r = nI a) (hw : Wk i = 12) (hko : ko (F r) (nI 17) = true) : Met l yX6_works wsX6_works ({ frames := 7, cells := 0, slots := 0, locals := 300 }) (wd_P D cI cJ [.ref (g 0), .int (nI i), .int (nI r)] (mo_W cI cJ g fx (nI n) F Wt Sz Nu Pl Bf (nI b) (nI k) G Wk To Sl Sd (nI as) wo pa fa Fo)) (mu_Q D (ad_A g 16) (some (.int 0)) (mo_W cI cJ g fx (nI n) F Wt Sz Nu Pl Bf (nI b) (nI k) G Wk To (upd Sl i (nI r)) Sd (nI as) wo pa fa Fo)) 0 0 (ad_A g 16) := by
  refine Met.ofW (cc := cX6_works) (maxL := 5) (ret := (some .int)) (by decide) rfl ?_
  intro p e s m args below meth c s₁ B hml hv
  obtain ⟨rfl, hP, hK⟩ := hv
  have hx := B.exec
  have hb := B.bytes
  have hr := B.returns
  have hts := atoms_spec (ws := wsX6_works) B.pre
  have hown : s.vm.findClass RX6 = some m.cls := findClass_of_methodNamed B.named
  have hlocks := B.notSynchronized
  have hiX6 : ∀ w ∈ u_ws RX6 TX6 23, w ∈ wsX6_works := by decide +kernel
  have kf44 := hts (.fieldLink RX6 44 "SortingLineModel" "works" "[I") (by decide +kernel)
  have kf35 := hts (.fieldLink RX6 35 "SortingLineModel" "wants" "[I") (by decide +kernel)
  have kf50 := hts (.fieldLink RX6 50 "SortingLineModel" "slots" "[I") (by decide +kernel)
  have hS : va_S (ad_A g 16) s.heap s.heap [] := va_S.rf
  have hl := lv_entry ([.ref (g 0), .int (nI i), .int (nI r)]) (n := 5) (Nat.le_of_ble_eq_true rfl)
  rw [lg_entry_eq]
  generalize (lg_sl ([.ref (g 0), .int (nI i), .int (nI r)]) ++ List.replicate (5 - (lg_sl ([.ref (g 0), .int (nI i), .int (nI r)])).length) Slot.unset).toArray = ls at hl ⊢
  have hl : lv_has ls 5 [(0, .ref (g 0)), (1, .int (nI i)), (2, .int (nI r))] := hl
  refine lv_aload_n hx hb dX6_works_0 rfl (lv_at hl 0 rfl) ?_
  refine va_get (D := D) (ci := 6) (v := .ref (g 11)) (C := RX6) (T := TX6) (N := 23) hx hb hts hiX6 hown hK.1 hP 0 rfl rfl 14 (by decide) kf44 (fun _ h9 => h9) rfl dX6_works_1 ?_
  refine lv_iload_n hx hb dX6_works_4 rfl (lv_at hl 1 rfl) ?_
  refine ga_ild hx hb hK hP 11 rfl i (rfl) (by omega) (by decide) dX6_works_5 ?_
  refine tp_i (y := 12) (hw) ?_
  refine lv_istore_n (lv' := [(3, .int 12), (0, .ref (g 0)), (1, .int (nI i)), (2, .int (nI r))]) hx hb dX6_works_6 rfl hl (by decide) rfl (fun ls hl => ?_)
  refine lv_aload_n hx hb dX6_works_7 rfl (lv_at hl 1 rfl) ?_
  refine lv_iload_n hx hb dX6_works_8 rfl (lv_at hl 3 rfl) ?_
  refine lv_aload_n hx hb dX6_works_9 rfl (lv_at hl 1 rfl) ?_
  refine va_get (D := D) (ci := 6) (v := .ref (g 8)) (C := RX6) (T := TX6) (N := 23) hx hb hts hiX6 hown hK.1 hP 0 rfl rfl 9 (by decide) kf35 (fun _ h9 => h9) rfl dX6_works_10 ?_
  refine lv_iload_n hx hb dX6_works_13 rfl (lv_at hl 0 rfl) ?_
  refine ga_ild hx hb hK hP 8 rfl 12 (by decide) (by decide) (by decide) dX6_works_14 ?_
  refine tp_i (y := 17) (by rfl) ?_
  refine pu_callb (va_runV (As := [.int (nI r), .int 17]) (rest := []) ⟨hx, hb, hml, hown, hts⟩ (c_X6_isOf hh hn r (by omega) a ha hFa 17 (by decide)) (cwV 2 hts gX6_works_X6_isOf rfl rfl rfl (by decide +kernel) ⟨Nat.le_of_ble_eq_true rfl, Nat.le_of_ble_eq_true rfl⟩) (wd_preV (ci := 6) (q0 := 0) hP hK rfl rfl) rfl rfl hl.1 rfl (lv_room (Nat.le_of_ble_eq_true rfl)) dX6_works_15 ⟨Nat.zero_le _, Nat.zero_le _⟩) (fun _ => ?_) (fun h9 => absurd (hko) (by rw [h9]; decide))
  refine lv_if_ne (tgt := 23) hx hb dX6_works_18 (by decide) (fun _ => ?_) (fun h9 => absurd h9 (by decide))
  refine lv_iload_n hx hb dX6_works_23 rfl (lv_at hl 0 rfl) ?_
  refine lv_tableIn (off := 164) (tgt := 188) hx hb dX6_works_24 (by decide) (by decide) (by decide) (by decide) ?_
  refine lv_aload_n hx hb dX6_works_188 rfl (lv_at hl 1 rfl) ?_
  refine va_get (D := D) (ci := 6) (v := .ref (g 13)) (C := RX6) (T := TX6) (N := 23) hx hb hts hiX6 hown hK.1 hP 0 rfl rfl 16 (by decide) kf50 (fun _ h9 => h9) rfl dX6_works_189 ?_
  refine lv_iload_n hx hb dX6_works_192 rfl (lv_at hl 2 rfl) ?_
  refine lv_iload_n hx hb dX6_works_193 rfl (lv_at hl 3 rfl) ?_
  refine ga_ist hx hb hK hP (mo_D hh) hS 13 rfl i (rfl) (by omega) (by decide) dX6_works_194 (fun H locs hP hS => ?_)
  have hP : va_P D kC (mo_W cI cJ g fx (nI n) F Wt Sz Nu Pl Bf (nI b) (nI k) G Wk To (upd Sl i (nI r)) Sd (nI as) wo pa fa Fo) H := hP
  refine lv_iconst (v := 0) hx hb dX6_works_195 (by decide) ?_
  exact W.iret (v := 0) hx hb hr (fun t9 ht _ => ⟨congrArg (fun z => Outcome.returned (some (Value.int z))) (rfl), by rw [ht]; exact hP, hS.F ht⟩) hS.2.2 dX6_works_196
set_option maxHeartbeats 4000000 in
set_option maxRecDepth 100000 in
theorem lp_X6_aside {p : Program} {e : Env} {s : State} {m : MethodId} {args : Array Value} {below : List Frame} {meth : Method} {c : Code} {Q : State → Prop} {H0 : Heap} (hx : p.tables.exec = Jvm.exec) (hb : c.code = cX6_goesAside) (hml : c.maxLocals = 5) (hown : s.vm.findClass RX6 = some m.cls) (hts : ∀ w ∈ wsX6_goesAside, w.before args s = true) (hK : wd_K D cI cJ s) (hh : ad_ok g 16) (t u v : Int32) (kk0 : ∀ (_ : Nat), True → ∀ (H : Heap) (locs : List Loc), va_P D kC (mo_W cI cJ g fx (nI n) F Wt Sz Nu Pl Bf (nI b) (nI k) G Wk To Sl (shA Sd 2) (nI as) wo pa fa Fo) H → va_S (ad_A g 16) H0 H locs → ∀ (ls : Array Slot), lv_has ls 5 [(4, .int (nI 2)), (0, .ref (g 0)), (1, .int t), (2, .int u), (3, .int v)] → W p l e (headSpec wsX6_goesAside { frames := 1, cells := 0, slots := 0, locals := 60 }).room s m args below meth c H locs 0 0 Q (F0 m 4 ls [])) : ∀ (d : Nat) (y : Nat), y = d + 2 → y < 60 → ∀ (H : Heap) (locs : List Loc), va_P D kC (mo_W cI cJ g fx (nI n) F Wt Sz Nu Pl Bf (nI b) (nI k) G Wk To Sl (shA Sd y) (nI as) wo pa fa Fo) H → va_S (ad_A g 16) H0 H locs → ∀ (ls : Array Slot), lv_has ls 5 [(4, .int (nI y)), (0, .ref (g 0)), (1, .int t), (2, .int u), (3, .int v)] → W p l e (headSpec wsX6_goesAside { frames := 1, cells := 0, slots := 0, locals := 60 }).room s m args below meth c H locs 0 0 Q (F0 m 4 ls []) := by
  have hiX6 : ∀ w ∈ u_ws RX6 TX6 23, w ∈ wsX6_goesAside := by decide +kernel
  have kf53 := hts (.fieldLink RX6 53 "SortingLineModel" "side" "[I") (by decide +kernel)
  intro d
  induction d with
  | zero =>
    intro y hi hy60 H locs hP hS ls hl
    obtain rfl : y = 2 := by omega
    exact kk0 0 trivial H locs hP hS ls hl
  | succ d ih =>
    intro y hi hy60 H locs hP hS ls hl
    refine lv_iload hx hb dX6_goesAside_4 (lv_at hl 0 rfl) ?_
    refine lv_iconst (v := 2) hx hb dX6_goesAside_6 (by decide) ?_
    refine lv_icmp_le (tgt := 32) hx hb dX6_goesAside_7 (by decide) (fun h9 => absurd h9 (fun h9 => absurd ((nI_leI (a := y) (b := 2) (by omega) (by omega)).mp h9) (by omega))) (fun _ => ?_)
    refine lv_aload_n hx hb dX6_goesAside_10 rfl (lv_at hl 1 rfl) ?_
    refine va_get (D := D) (ci := 6) (v := .ref (g 14)) (C := RX6) (T := TX6) (N := 23) hx hb hts hiX6 hown hK.1 hP 0 rfl rfl 17 (by decide) kf53 (fun _ h9 => h9) rfl dX6_goesAside_11 ?_
    refine lv_iload hx hb dX6_goesAside_14 (lv_at hl 0 rfl) ?_
    refine lv_aload_n hx hb dX6_goesAside_16 rfl (lv_at hl 1 rfl) ?_
    refine va_get (D := D) (ci := 6) (v := .ref (g 14)) (C := RX6) (T := TX6) (N := 23) hx hb hts hiX6 hown hK.1 hP 0 rfl rfl 17 (by decide) kf53 (fun _ h9 => h9) rfl dX6_goesAside_17 ?_
    refine lv_iload hx hb dX6_goesAside_20 (lv_at hl 0 rfl) ?_
    refine lv_iconst (v := 3) hx hb dX6_goesAside_22 (by decide) ?_
    refine lv_isub hx hb dX6_goesAside_23 ?_
    refine tp_i (y := nI (y - 3)) (pk_sub (a := y) (b := 3) (by omega)) ?_
    refine ga_ild hx hb hK hP 14 rfl (y - 3) (rfl) (by omega) (by decide) dX6_goesAside_24 ?_
    refine ga_ist hx hb hK hP (mo_D hh) hS 14 rfl y (rfl) (by omega) (by decide) dX6_goesAside_25 (fun H locs hP hS => ?_)
    have hP : va_P D kC (mo_W cI cJ g fx (nI n) F Wt Sz Nu Pl Bf (nI b) (nI k) G Wk To Sl (upd (shA Sd y) y ((shA Sd y) (y - 3))) (nI as) wo pa fa Fo) H := hP
    rw [shA_s (by omega) (by omega)] at hP
    refine lv_iinc (v := nI (y - 1)) (lv' := [(4, .int (nI (y - 1))), (0, .ref (g 0)), (1, .int t), (2, .int u), (3, .int v)]) hx hb dX6_goesAside_26 hl (k := 0) rfl (by obtain ⟨w, rfl⟩ : ∃ w, y = w + 1 := ⟨y - 1, by omega⟩; exact pk_m1 w) (by decide) rfl (fun ls hl => ?_)
    refine lv_goto (tgt := 4) hx hb dX6_goesAside_29 (by decide) ?_
    exact ih (y - 1) (by omega) (by omega) H locs hP hS ls (lv_sub hl [0, 1, 2, 3, 4] rfl)
set_option maxHeartbeats 4000000 in
set_option maxRecDepth 100000 in
theorem c_X6_goesAside (hh : ad_ok g 16) (hs : as ≤ 20) (t u v : Int32) : Met l yX6_goesAside wsX6_goesAside ({ frames := 1, cells := 0, slots := 0, locals := 60 }) (wd_P D cI cJ [.ref (g 0), .int t, .int u, .int v] (mo_W cI cJ g fx (nI n) F Wt Sz Nu Pl Bf (nI b) (nI k) G Wk To Sl Sd (nI as) wo pa fa Fo)) (mu_Q D (ad_A g 16) none (mo_W cI cJ g fx (nI n) F Wt Sz Nu Pl Bf (nI b) (nI k) G Wk To Sl (asD Sd t u v) (nI (min (as + 1) 20)) wo pa fa Fo)) 0 0 (ad_A g 16) := by
  refine Met.ofW (cc := cX6_goesAside) (maxL := 5) (ret := none) (by decide) rfl ?_
  intro p e s m args below meth c s₁ B hml hv
  obtain ⟨rfl, hP, hK⟩ := hv
  have hx := B.exec
  have hb := B.bytes
  have hr := B.returns
  have hts := atoms_spec (ws := wsX6_goesAside) B.pre
  have hown : s.vm.findClass RX6 = some m.cls := findClass_of_methodNamed B.named
  have hlocks := B.notSynchronized
  have hiX6 : ∀ w ∈ u_ws RX6 TX6 23, w ∈ wsX6_goesAside := by decide +kernel
  have kf53 := hts (.fieldLink RX6 53 "SortingLineModel" "side" "[I") (by decide +kernel)
  have kf139 := hts (.fieldLink RX6 139 "SortingLineModel" "aside" "I") (by decide +kernel)
  have hS : va_S (ad_A g 16) s.heap s.heap [] := va_S.rf
  have hl := lv_entry ([.ref (g 0), .int t, .int u, .int v]) (n := 5) (Nat.le_of_ble_eq_true rfl)
  rw [lg_entry_eq]
  generalize (lg_sl ([.ref (g 0), .int t, .int u, .int v]) ++ List.replicate (5 - (lg_sl ([.ref (g 0), .int t, .int u, .int v])).length) Slot.unset).toArray = ls at hl ⊢
  have hl : lv_has ls 5 [(0, .ref (g 0)), (1, .int t), (2, .int u), (3, .int v)] := hl
  refine lv_bipush (v := 59) hx hb dX6_goesAside_0 (by decide) ?_
  refine lv_istore (lv' := [(4, .int 59), (0, .ref (g 0)), (1, .int t), (2, .int u), (3, .int v)]) hx hb dX6_goesAside_2 hl (by decide) rfl (fun ls hl => ?_)
  have hP : va_P D kC (mo_W cI cJ g fx (nI n) F Wt Sz Nu Pl Bf (nI b) (nI k) G Wk To Sl (shA Sd 59) (nI as) wo pa fa Fo) _ := va_P_cast hP (by rw [shA_0])
  refine lp_X6_aside hx hb hml hown hts hK hh t u v (fun _ _ H locs hP hS ls hl => ?_) 57 59 (by omega) (by omega) _ _ hP hS ls (lv_sub hl [0, 1, 2, 3, 4] rfl)
  have hl : lv_has ls 5 [(4, .int 2), (0, .ref (g 0)), (1, .int t), (2, .int u), (3, .int v)] := hl
  refine lv_iload hx hb dX6_goesAside_4 (lv_at hl 0 rfl) ?_
  refine lv_iconst (v := 2) hx hb dX6_goesAside_6 (by decide) ?_
  refine lv_icmp_le (tgt := 32) hx hb dX6_goesAside_7 (by decide) (fun _ => ?_) (fun h9 => absurd (by decide) h9)
  refine lv_aload_n hx hb dX6_goesAside_32 rfl (lv_at hl 1 rfl) ?_
  refine va_get (D := D) (ci := 6) (v := .ref (g 14)) (C := RX6) (T := TX6) (N := 23) hx hb hts hiX6 hown hK.1 hP 0 rfl rfl 17 (by decide) kf53 (fun _ h9 => h9) rfl dX6_goesAside_33 ?_
  refine lv_iconst (v := 0) hx hb dX6_goesAside_36 (by decide) ?_
  refine lv_iload_n hx hb dX6_goesAside_37 rfl (lv_at hl 2 rfl) ?_
  refine ga_ist hx hb hK hP (mo_D hh) hS 14 rfl 0 (by decide) (by omega) (by decide) dX6_goesAside_38 (fun H locs hP hS => ?_)
  have hP : va_P D kC (mo_W cI cJ g fx (nI n) F Wt Sz Nu Pl Bf (nI b) (nI k) G Wk To Sl (upd (shA Sd 2) 0 t) (nI as) wo pa fa Fo) H := hP
  refine lv_aload_n hx hb dX6_goesAside_39 rfl (lv_at hl 1 rfl) ?_
  refine va_get (D := D) (ci := 6) (v := .ref (g 14)) (C := RX6) (T := TX6) (N := 23) hx hb hts hiX6 hown hK.1 hP 0 rfl rfl 17 (by decide) kf53 (fun _ h9 => h9) rfl dX6_goesAside_40 ?_
  refine lv_iconst (v := 1) hx hb dX6_goesAside_43 (by decide) ?_
  refine lv_iload_n hx hb dX6_goesAside_44 rfl (lv_at hl 3 rfl) ?_
  refine ga_ist hx hb hK hP (mo_D hh) hS 14 rfl 1 (by decide) (by omega) (by decide) dX6_goesAside_45 (fun H locs hP hS => ?_)
  have hP : va_P D kC (mo_W cI cJ g fx (nI n) F Wt Sz Nu Pl Bf (nI b) (nI k) G Wk To Sl (upd (upd (shA Sd 2) 0 t) 1 u) (nI as) wo pa fa Fo) H := hP
  refine lv_aload_n hx hb dX6_goesAside_46 rfl (lv_at hl 1 rfl) ?_
  refine va_get (D := D) (ci := 6) (v := .ref (g 14)) (C := RX6) (T := TX6) (N := 23) hx hb hts hiX6 hown hK.1 hP 0 rfl rfl 17 (by decide) kf53 (fun _ h9 => h9) rfl dX6_goesAside_47 ?_
  refine lv_iconst (v := 2) hx hb dX6_goesAside_50 (by decide) ?_
  refine lv_iload_n hx hb dX6_goesAside_51 rfl (lv_at hl 4 rfl) ?_
  refine ga_ist hx hb hK hP (mo_D hh) hS 14 rfl 2 (by decide) (by omega) (by decide) dX6_goesAside_52 (fun H locs hP hS => ?_)
  have hP : va_P D kC (mo_W cI cJ g fx (nI n) F Wt Sz Nu Pl Bf (nI b) (nI k) G Wk To Sl (upd (upd (upd (shA Sd 2) 0 t) 1 u) 2 v) (nI as) wo pa fa Fo) H := hP
  refine lv_aload_n hx hb dX6_goesAside_53 rfl (lv_at hl 1 rfl) ?_
  refine lv_aload_n hx hb dX6_goesAside_54 rfl (lv_at hl 1 rfl) ?_
  refine va_get (D := D) (ci := 6) (v := .int (nI as)) (C := RX6) (T := TX6) (N := 23) hx hb hts hiX6 hown hK.1 hP 0 rfl rfl 18 (by decide) kf139 (fun _ h9 => h9) rfl dX6_goesAside_55 ?_
  refine lv_bipush (v := 20) hx hb dX6_goesAside_58 (by decide) ?_
  refine lv_icmp_ge (tgt := 72) hx hb dX6_goesAside_60 (by decide) (fun c60 => ?_) (fun c60 => ?_)
  · skip
    have c60 : 20 ≤ as := (nI_leI (a := 20) (b := as) (by omega) (by omega)).mp c60
    refine lv_bipush (v := 20) hx hb dX6_goesAside_72 (by decide) ?_
    refine va_put (D := D) (ci := 6) (v := .int 20) (ty := .int) (C := RX6) (T := TX6) (N := 23) hx hb hts hiX6 tyX6 tyX6_ok nmX6 hown hK.1 hP (mo_D hh) hS 0 rfl rfl 18 (by decide) kf139 (fun _ h9 => h9) rfl (by decide +kernel) rfl rfl (Nat.le_of_ble_eq_true rfl) dX6_goesAside_74 (fun H locs hP _ hS => ?_)
    have hP : va_P D kC (mo_W cI cJ g fx (nI n) F Wt Sz Nu Pl Bf (nI b) (nI k) G Wk To Sl (upd (upd (upd (shA Sd 2) 0 t) 1 u) 2 v) 20 wo pa fa Fo) H := hP
    exact W.vret hx hb hr (fun t9 ht _ => ⟨rfl, by rw [ht]; exact va_P_cast hP (by rw [show (20 : Int32) = nI (min (as + 1) 20) from congrArg nI (show 20 = min (as + 1) 20 by omega)]), hS.F ht⟩) hS.2.2 dX6_goesAside_77
  · skip
    have c60 : ¬ (20 ≤ as) := fun h9 => c60 ((nI_leI (a := 20) (b := as) (by omega) (by omega)).mpr h9)
    refine lv_aload_n hx hb dX6_goesAside_63 rfl (lv_at hl 1 rfl) ?_
    refine va_get (D := D) (ci := 6) (v := .int (nI as)) (C := RX6) (T := TX6) (N := 23) hx hb hts hiX6 hown hK.1 hP 0 rfl rfl 18 (by decide) kf139 (fun _ h9 => h9) rfl dX6_goesAside_64 ?_
    refine lv_iconst (v := 1) hx hb dX6_goesAside_67 (by decide) ?_
    refine lv_iadd hx hb dX6_goesAside_68 ?_
    refine tp_i (y := nI (as + 1)) (nI_add as 1) ?_
    refine lv_goto (tgt := 74) hx hb dX6_goesAside_69 (by decide) ?_
    refine va_put (D := D) (ci := 6) (v := .int (nI (as + 1))) (ty := .int) (C := RX6) (T := TX6) (N := 23) hx hb hts hiX6 tyX6 tyX6_ok nmX6 hown hK.1 hP (mo_D hh) hS 0 rfl rfl 18 (by decide) kf139 (fun _ h9 => h9) rfl (by decide +kernel) rfl rfl (Nat.le_of_ble_eq_true rfl) dX6_goesAside_74 (fun H locs hP _ hS => ?_)
    have hP : va_P D kC (mo_W cI cJ g fx (nI n) F Wt Sz Nu Pl Bf (nI b) (nI k) G Wk To Sl (upd (upd (upd (shA Sd 2) 0 t) 1 u) 2 v) (nI (as + 1)) wo pa fa Fo) H := hP
    exact W.vret hx hb hr (fun t9 ht _ => ⟨rfl, by rw [ht]; exact va_P_cast hP (by rw [show min (as + 1) 20 = as + 1 by omega]), hS.F ht⟩) hS.2.2 dX6_goesAside_77
end MoC
