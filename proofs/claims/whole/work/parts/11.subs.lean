theorem mn_nI {a b : Nat} (ha : a < 2 ^ 31) (hb : b < 2 ^ 31) : (if nI b < nI a then nI b else nI a) = nI (min a b) := by
  by_cases h : b < a
  · rw [if_pos (nI_lt h ha), Nat.min_eq_right (by omega)]
  · rw [if_neg (nI_nlt (by omega) hb), Nat.min_eq_left (by omega)]
abbrev z6I (f : Nat → Int32) : Nat → Int32 := upd (upd (upd (upd (upd (upd f 0 0) 1 0) 2 0) 3 0) 4 0) 5 0
theorem sd_ix {an j : Nat} (ha : an < 20) (hj : j < 20) : nI an - 1 - nI j + 20 = nI (an + 19 - j) := by
  apply Int32.toInt_inj.mp
  have e : nI (an + 19 - j) = nI (an + 20) - nI (1 + j) := by
    rw [pk_sub (by omega)]; congr 1; omega
  rw [e]
  have e2 : nI (an + 20) = nI an + 20 := (nI_add an 20).symm
  have e3 : nI (1 + j) = 1 + nI j := (nI_add 1 j).symm
  rw [e2, e3]
  congr 1
  have : ∀ x y z : Int32, x - 1 - y + z = x + z - (1 + y) := by
    intro x y z
    rw [Int32.sub_eq_add_neg, Int32.sub_eq_add_neg, Int32.sub_eq_add_neg, Int32.neg_add, Int32.sub_eq_add_neg]
    ac_rfl
  exact this _ _ _
section SubB
variable {l : Launch} {D : va_G} {cI cJ : ClassId} {h : Nat → Nat} {n k f b an as : Nat} {F Wt Sz : Nat → Int32} {Nu : Nat → Int64} {Mb : Nat → Int32} {G Wk : Nat → Int32} {To : Nat → Int64} {Sl : Nat → Int32} {Ri oT oS oF Fo : Nat → Int32} {wo pa fa : Int32}
set_option maxHeartbeats 4000000 in
set_option maxRecDepth 100000 in
theorem c_X2_howMany (hh : ad_ok h 20) : Met l yX2_howMany wsX2_howMany ({ frames := 0, cells := 0, slots := 0, locals := 0 }) (wd_P D cI cJ [.ref (h 2)] (sl_W cI cJ h (nI n) F Wt Sz Nu Mb (nI k) G Wk To Sl Ri (nI f) (nI b) oT oS oF (nI an) (nI as) Fo wo pa fa)) (pu_Q (some (.int (nI k)))) 0 0 (fun _ => False) := by
  refine Met.ofW (cc := cX2_howMany) (maxL := 1) (ret := (some .int)) (by decide) rfl ?_
  intro p e s m args below meth c s₁ B hml hv
  obtain ⟨rfl, hP, hK⟩ := hv
  have hx := B.exec
  have hb := B.bytes
  have hr := B.returns
  have hts := atoms_spec (ws := wsX2_howMany) B.pre
  have hown : s.vm.findClass RX2 = some m.cls := findClass_of_methodNamed B.named
  have hlocks := B.notSynchronized
  have hiX2 : ∀ w ∈ u_ws RX2 TX2 5, w ∈ wsX2_howMany := by decide +kernel
  have kf25 := hts (.fieldLink RX2 25 "SortingLine$Stations" "made" "I") (by decide +kernel)
  have hl := lv_entry ([.ref (h 2)]) (n := 1) (Nat.le_of_ble_eq_true rfl)
  rw [lg_entry_eq]
  generalize (lg_sl ([.ref (h 2)]) ++ List.replicate (1 - (lg_sl ([.ref (h 2)])).length) Slot.unset).toArray = ls at hl ⊢
  have hl : lv_has ls 1 [(0, .ref (h 2))] := hl
  refine lv_aload_n hx hb dX2_howMany_0 rfl (lv_at hl 0 rfl) ?_
  refine va_get (D := D) (ci := 2) (v := .int (nI k)) (C := RX2) (T := TX2) (N := 5) hx hb hts hiX2 hown hK.1 hP 2 rfl rfl 4 (by decide) kf25 (fun _ h9 => h9) rfl dX2_howMany_1 ?_
  exact W.iret (v := nI k) hx hb hr (fun t9 ht _ => ⟨congrArg (fun z => Outcome.returned (some (Value.int z))) (rfl), ht⟩) (fun _ h9 => nomatch h9) dX2_howMany_4
set_option maxHeartbeats 4000000 in
set_option maxRecDepth 100000 in
theorem c_X2_hold (hh : ad_ok h 20) (t : Int32) : Met l yX2_hold wsX2_hold ({ frames := 0, cells := 0, slots := 0, locals := 0 }) (wd_P D cI cJ [.ref (h 2), .int t] (sl_W cI cJ h (nI n) F Wt Sz Nu Mb (nI k) G Wk To Sl Ri (nI f) (nI b) oT oS oF (nI an) (nI as) Fo wo pa fa)) (pu_Q (some (.int (bI (p_in t (nI k)))))) 0 0 (fun _ => False) := by
  refine Met.ofW (cc := cX2_hold) (maxL := 2) (ret := (some .boolean)) (by decide) rfl ?_
  intro p e s m args below meth c s₁ B hml hv
  obtain ⟨rfl, hP, hK⟩ := hv
  have hx := B.exec
  have hb := B.bytes
  have hr := B.returns
  have hts := atoms_spec (ws := wsX2_hold) B.pre
  have hown : s.vm.findClass RX2 = some m.cls := findClass_of_methodNamed B.named
  have hlocks := B.notSynchronized
  have hiX2 : ∀ w ∈ u_ws RX2 TX2 5, w ∈ wsX2_hold := by decide +kernel
  have kf25 := hts (.fieldLink RX2 25 "SortingLine$Stations" "made" "I") (by decide +kernel)
  have hl := lv_entry ([.ref (h 2), .int t]) (n := 2) (Nat.le_of_ble_eq_true rfl)
  rw [lg_entry_eq]
  generalize (lg_sl ([.ref (h 2), .int t]) ++ List.replicate (2 - (lg_sl ([.ref (h 2), .int t])).length) Slot.unset).toArray = ls at hl ⊢
  have hl : lv_has ls 2 [(0, .ref (h 2)), (1, .int t)] := hl
  refine lv_iload_n hx hb dX2_hold_0 rfl (lv_at hl 1 rfl) ?_
  refine lv_if_lt (tgt := 16) hx hb dX2_hold_1 (by decide) (fun c1 => ?_) (fun c1 => ?_)
  · skip
    refine lv_iconst (v := 0) hx hb dX2_hold_16 (by decide) ?_
    exact W.zret (ty := .boolean) (v := 0) hx hb hr (by decide) (fun t9 ht _ => ⟨congrArg (fun z => Outcome.returned (some (Value.int z))) (by rw [p_in_lt c1]; rfl), ht⟩) (fun _ h9 => nomatch h9) dX2_hold_17
  · skip
    refine lv_iload_n hx hb dX2_hold_4 rfl (lv_at hl 1 rfl) ?_
    refine lv_aload_n hx hb dX2_hold_5 rfl (lv_at hl 0 rfl) ?_
    refine va_get (D := D) (ci := 2) (v := .int (nI k)) (C := RX2) (T := TX2) (N := 5) hx hb hts hiX2 hown hK.1 hP 2 rfl rfl 4 (by decide) kf25 (fun _ h9 => h9) rfl dX2_hold_6 ?_
    refine lv_icmp_ge (tgt := 16) hx hb dX2_hold_9 (by decide) (fun c9 => ?_) (fun c9 => ?_)
    · skip
      refine lv_iconst (v := 0) hx hb dX2_hold_16 (by decide) ?_
      exact W.zret (ty := .boolean) (v := 0) hx hb hr (by decide) (fun t9 ht _ => ⟨congrArg (fun z => Outcome.returned (some (Value.int z))) (by rw [p_in_ge c9]; rfl), ht⟩) (fun _ h9 => nomatch h9) dX2_hold_17
    · skip
      refine lv_iconst (v := 1) hx hb dX2_hold_12 (by decide) ?_
      refine lv_goto (tgt := 17) hx hb dX2_hold_13 (by decide) ?_
      exact W.zret (ty := .boolean) (v := 1) hx hb hr (by decide) (fun t9 ht _ => ⟨congrArg (fun z => Outcome.returned (some (Value.int z))) (by rw [p_in_ok c1 c9]; rfl), ht⟩) (fun _ h9 => nomatch h9) dX2_hold_17
set_option maxHeartbeats 4000000 in
set_option maxRecDepth 100000 in
theorem c_X2_add (hh : ad_ok h 20) (hk : k < 8) (ga wk : Int32) : Met l yX2_add wsX2_add ({ frames := 0, cells := 0, slots := 0, locals := 0 }) (wd_P D cI cJ [.ref (h 2), .int ga, .int wk] (sl_W cI cJ h (nI n) F Wt Sz Nu Mb (nI k) G Wk To Sl Ri (nI f) (nI b) oT oS oF (nI an) (nI as) Fo wo pa fa)) (mu_Q D (ad_A h 20) (some (.int (nI k))) (sl_W cI cJ h (nI n) F Wt Sz Nu Mb (nI (k + 1)) (upd G k ga) (upd Wk k wk) (vp_updL To k 0) (upd Sl k (-5)) Ri (nI f) (nI b) oT oS oF (nI an) (nI as) Fo wo pa fa)) 0 0 (ad_A h 20) := by
  refine Met.ofW (cc := cX2_add) (maxL := 4) (ret := (some .int)) (by decide) rfl ?_
  intro p e s m args below meth c s₁ B hml hv
  obtain ⟨rfl, hP, hK⟩ := hv
  have hx := B.exec
  have hb := B.bytes
  have hr := B.returns
  have hts := atoms_spec (ws := wsX2_add) B.pre
  have hown : s.vm.findClass RX2 = some m.cls := findClass_of_methodNamed B.named
  have hlocks := B.notSynchronized
  have hiX2 : ∀ w ∈ u_ws RX2 TX2 5, w ∈ wsX2_add := by decide +kernel
  have kf25 := hts (.fieldLink RX2 25 "SortingLine$Stations" "made" "I") (by decide +kernel)
  have kf9 := hts (.fieldLink RX2 9 "SortingLine$Stations" "gates" "[I") (by decide +kernel)
  have kf15 := hts (.fieldLink RX2 15 "SortingLine$Stations" "works" "[I") (by decide +kernel)
  have kf18 := hts (.fieldLink RX2 18 "SortingLine$Stations" "totals" "[J") (by decide +kernel)
  have kf22 := hts (.fieldLink RX2 22 "SortingLine$Stations" "slots" "[I") (by decide +kernel)
  have hS : va_S (ad_A h 20) s.heap s.heap [] := va_S.rf
  have hl := lv_entry ([.ref (h 2), .int ga, .int wk]) (n := 4) (Nat.le_of_ble_eq_true rfl)
  rw [lg_entry_eq]
  generalize (lg_sl ([.ref (h 2), .int ga, .int wk]) ++ List.replicate (4 - (lg_sl ([.ref (h 2), .int ga, .int wk])).length) Slot.unset).toArray = ls at hl ⊢
  have hl : lv_has ls 4 [(0, .ref (h 2)), (1, .int ga), (2, .int wk)] := hl
  refine lv_aload_n hx hb dX2_add_0 rfl (lv_at hl 0 rfl) ?_
  refine va_get (D := D) (ci := 2) (v := .int (nI k)) (C := RX2) (T := TX2) (N := 5) hx hb hts hiX2 hown hK.1 hP 2 rfl rfl 4 (by decide) kf25 (fun _ h9 => h9) rfl dX2_add_1 ?_
  refine lv_bipush (v := 8) hx hb dX2_add_4 (by decide) ?_
  refine lv_icmp_lt (tgt := 12) hx hb dX2_add_6 (by decide) (fun _ => ?_) (fun h9 => absurd (nI_lt (a := k) (b := 8) hk (by decide)) h9)
  refine lv_aload_n hx hb dX2_add_12 rfl (lv_at hl 0 rfl) ?_
  refine va_get (D := D) (ci := 2) (v := .int (nI k)) (C := RX2) (T := TX2) (N := 5) hx hb hts hiX2 hown hK.1 hP 2 rfl rfl 4 (by decide) kf25 (fun _ h9 => h9) rfl dX2_add_13 ?_
  refine lv_istore_n (lv' := [(3, .int (nI k)), (0, .ref (h 2)), (1, .int ga), (2, .int wk)]) hx hb dX2_add_16 rfl hl (by decide) rfl (fun ls hl => ?_)
  refine lv_aload_n hx hb dX2_add_17 rfl (lv_at hl 1 rfl) ?_
  refine va_get (D := D) (ci := 2) (v := .ref (h 11)) (C := RX2) (T := TX2) (N := 5) hx hb hts hiX2 hown hK.1 hP 2 rfl rfl 0 (by decide) kf9 (fun _ h9 => h9) rfl dX2_add_18 ?_
  refine lv_iload_n hx hb dX2_add_21 rfl (lv_at hl 0 rfl) ?_
  refine lv_iload_n hx hb dX2_add_22 rfl (lv_at hl 2 rfl) ?_
  refine ga_ist hx hb hK hP (sl_D hh) hS 11 rfl k (rfl) (by omega) (by decide) dX2_add_23 (fun H locs hP hS => ?_)
  have hP : va_P D kC (sl_W cI cJ h (nI n) F Wt Sz Nu Mb (nI k) (upd G k ga) Wk To Sl Ri (nI f) (nI b) oT oS oF (nI an) (nI as) Fo wo pa fa) H := hP
  refine lv_aload_n hx hb dX2_add_24 rfl (lv_at hl 1 rfl) ?_
  refine va_get (D := D) (ci := 2) (v := .ref (h 12)) (C := RX2) (T := TX2) (N := 5) hx hb hts hiX2 hown hK.1 hP 2 rfl rfl 1 (by decide) kf15 (fun _ h9 => h9) rfl dX2_add_25 ?_
  refine lv_iload_n hx hb dX2_add_28 rfl (lv_at hl 0 rfl) ?_
  refine lv_iload_n hx hb dX2_add_29 rfl (lv_at hl 3 rfl) ?_
  refine ga_ist hx hb hK hP (sl_D hh) hS 12 rfl k (rfl) (by omega) (by decide) dX2_add_30 (fun H locs hP hS => ?_)
  have hP : va_P D kC (sl_W cI cJ h (nI n) F Wt Sz Nu Mb (nI k) (upd G k ga) (upd Wk k wk) To Sl Ri (nI f) (nI b) oT oS oF (nI an) (nI as) Fo wo pa fa) H := hP
  refine lv_aload_n hx hb dX2_add_31 rfl (lv_at hl 1 rfl) ?_
  refine va_get (D := D) (ci := 2) (v := .ref (h 13)) (C := RX2) (T := TX2) (N := 5) hx hb hts hiX2 hown hK.1 hP 2 rfl rfl 2 (by decide) kf18 (fun _ h9 => h9) rfl dX2_add_32 ?_
  refine lv_iload_n hx hb dX2_add_35 rfl (lv_at hl 0 rfl) ?_
  refine lv_lconst (v := 0) hx hb dX2_add_36 (by decide) ?_
  refine ga_lst hx hb hK hP (sl_D hh) hS 13 rfl k (rfl) (by omega) (by decide) dX2_add_37 (fun H locs hP hS => ?_)
  have hP : va_P D kC (sl_W cI cJ h (nI n) F Wt Sz Nu Mb (nI k) (upd G k ga) (upd Wk k wk) (vp_updL To k 0) Sl Ri (nI f) (nI b) oT oS oF (nI an) (nI as) Fo wo pa fa) H := hP
  refine lv_aload_n hx hb dX2_add_38 rfl (lv_at hl 1 rfl) ?_
  refine va_get (D := D) (ci := 2) (v := .ref (h 14)) (C := RX2) (T := TX2) (N := 5) hx hb hts hiX2 hown hK.1 hP 2 rfl rfl 3 (by decide) kf22 (fun _ h9 => h9) rfl dX2_add_39 ?_
  refine lv_iload_n hx hb dX2_add_42 rfl (lv_at hl 0 rfl) ?_
  refine lv_bipush (v := (-5)) hx hb dX2_add_43 (by decide) ?_
  refine ga_ist hx hb hK hP (sl_D hh) hS 14 rfl k (rfl) (by omega) (by decide) dX2_add_45 (fun H locs hP hS => ?_)
  have hP : va_P D kC (sl_W cI cJ h (nI n) F Wt Sz Nu Mb (nI k) (upd G k ga) (upd Wk k wk) (vp_updL To k 0) (upd Sl k (-5)) Ri (nI f) (nI b) oT oS oF (nI an) (nI as) Fo wo pa fa) H := hP
  refine lv_aload_n hx hb dX2_add_46 rfl (lv_at hl 1 rfl) ?_
  refine lv_dup hx hb dX2_add_47 rfl ?_
  refine va_get (D := D) (ci := 2) (v := .int (nI k)) (C := RX2) (T := TX2) (N := 5) hx hb hts hiX2 hown hK.1 hP 2 rfl rfl 4 (by decide) kf25 (fun _ h9 => h9) rfl dX2_add_48 ?_
  refine lv_iconst (v := 1) hx hb dX2_add_51 (by decide) ?_
  refine lv_iadd hx hb dX2_add_52 ?_
  refine tp_i (y := nI (k + 1)) (nI_add k 1) ?_
  refine va_put (D := D) (ci := 2) (v := .int (nI (k + 1))) (ty := .int) (C := RX2) (T := TX2) (N := 5) hx hb hts hiX2 tyX2 tyX2_ok nmX2 hown hK.1 hP (sl_D hh) hS 2 rfl rfl 4 (by decide) kf25 (fun _ h9 => h9) rfl (by decide +kernel) rfl rfl (Nat.le_of_ble_eq_true rfl) dX2_add_53 (fun H locs hP _ hS => ?_)
  have hP : va_P D kC (sl_W cI cJ h (nI n) F Wt Sz Nu Mb (nI (k + 1)) (upd G k ga) (upd Wk k wk) (vp_updL To k 0) (upd Sl k (-5)) Ri (nI f) (nI b) oT oS oF (nI an) (nI as) Fo wo pa fa) H := hP
  refine lv_iload_n hx hb dX2_add_56 rfl (lv_at hl 0 rfl) ?_
  exact W.iret (v := nI k) hx hb hr (fun t9 ht _ => ⟨congrArg (fun z => Outcome.returned (some (Value.int z))) (rfl), by rw [ht]; exact hP, hS.F ht⟩) hS.2.2 dX2_add_57
set_option maxHeartbeats 4000000 in
set_option maxRecDepth 100000 in
theorem c_X2_addF (hh : ad_ok h 20) (hk : k = 8) (ga wk : Int32) : Met l yX2_add wsX2_add ({ frames := 0, cells := 0, slots := 0, locals := 0 }) (wd_P D cI cJ [.ref (h 2), .int ga, .int wk] (sl_W cI cJ h (nI n) F Wt Sz Nu Mb (nI k) G Wk To Sl Ri (nI f) (nI b) oT oS oF (nI an) (nI as) Fo wo pa fa)) (pu_Q (some (.int (-4)))) 0 0 (fun _ => False) := by
  refine Met.ofW (cc := cX2_add) (maxL := 4) (ret := (some .int)) (by decide) rfl ?_
  intro p e s m args below meth c s₁ B hml hv
  obtain ⟨rfl, hP, hK⟩ := hv
  have hx := B.exec
  have hb := B.bytes
  have hr := B.returns
  have hts := atoms_spec (ws := wsX2_add) B.pre
  have hown : s.vm.findClass RX2 = some m.cls := findClass_of_methodNamed B.named
  have hlocks := B.notSynchronized
  have hiX2 : ∀ w ∈ u_ws RX2 TX2 5, w ∈ wsX2_add := by decide +kernel
  have kf25 := hts (.fieldLink RX2 25 "SortingLine$Stations" "made" "I") (by decide +kernel)
  have hl := lv_entry ([.ref (h 2), .int ga, .int wk]) (n := 4) (Nat.le_of_ble_eq_true rfl)
  rw [lg_entry_eq]
  generalize (lg_sl ([.ref (h 2), .int ga, .int wk]) ++ List.replicate (4 - (lg_sl ([.ref (h 2), .int ga, .int wk])).length) Slot.unset).toArray = ls at hl ⊢
  have hl : lv_has ls 4 [(0, .ref (h 2)), (1, .int ga), (2, .int wk)] := hl
  refine lv_aload_n hx hb dX2_add_0 rfl (lv_at hl 0 rfl) ?_
  refine va_get (D := D) (ci := 2) (v := .int (nI k)) (C := RX2) (T := TX2) (N := 5) hx hb hts hiX2 hown hK.1 hP 2 rfl rfl 4 (by decide) kf25 (fun _ h9 => h9) rfl dX2_add_1 ?_
  refine lv_bipush (v := 8) hx hb dX2_add_4 (by decide) ?_
  refine lv_icmp_lt (tgt := 12) hx hb dX2_add_6 (by decide) (fun h9 => absurd h9 (nI_nlt (a := k) (b := 8) (by omega) (by omega))) (fun _ => ?_)
  refine lv_bipush (v := (-4)) hx hb dX2_add_9 (by decide) ?_
  exact W.iret (v := (-4)) hx hb hr (fun t9 ht _ => ⟨congrArg (fun z => Outcome.returned (some (Value.int z))) (rfl), ht⟩) (fun _ h9 => nomatch h9) dX2_add_11
set_option maxHeartbeats 4000000 in
set_option maxRecDepth 100000 in
theorem c_X2_gateOf (hh : ad_ok h 20) (hk : k ≤ 8) (i : Nat) (hi : i < k) : Met l yX2_gateOf wsX2_gateOf ({ frames := 1, cells := 0, slots := 0, locals := 21 }) (wd_P D cI cJ [.ref (h 2), .int (nI i)] (sl_W cI cJ h (nI n) F Wt Sz Nu Mb (nI k) G Wk To Sl Ri (nI f) (nI b) oT oS oF (nI an) (nI as) Fo wo pa fa)) (pu_Q (some (.int (G i)))) 0 0 (fun _ => False) := by
  refine Met.ofW (cc := cX2_gateOf) (maxL := 2) (ret := (some .int)) (by decide) rfl ?_
  intro p e s m args below meth c s₁ B hml hv
  obtain ⟨rfl, hP, hK⟩ := hv
  have hx := B.exec
  have hb := B.bytes
  have hr := B.returns
  have hts := atoms_spec (ws := wsX2_gateOf) B.pre
  have hown : s.vm.findClass RX2 = some m.cls := findClass_of_methodNamed B.named
  have hlocks := B.notSynchronized
  have hiX2 : ∀ w ∈ u_ws RX2 TX2 5, w ∈ wsX2_gateOf := by decide +kernel
  have kf9 := hts (.fieldLink RX2 9 "SortingLine$Stations" "gates" "[I") (by decide +kernel)
  have hl := lv_entry ([.ref (h 2), .int (nI i)]) (n := 2) (Nat.le_of_ble_eq_true rfl)
  rw [lg_entry_eq]
  generalize (lg_sl ([.ref (h 2), .int (nI i)]) ++ List.replicate (2 - (lg_sl ([.ref (h 2), .int (nI i)])).length) Slot.unset).toArray = ls at hl ⊢
  have hl : lv_has ls 2 [(0, .ref (h 2)), (1, .int (nI i))] := hl
  refine lv_aload_n hx hb dX2_gateOf_0 rfl (lv_at hl 0 rfl) ?_
  refine lv_iload_n hx hb dX2_gateOf_1 rfl (lv_at hl 1 rfl) ?_
  refine pu_callb (va_runV (As := [.int (nI i)]) (rest := []) ⟨hx, hb, hml, hown, hts⟩ (c_X2_hold hh (nI i)) (cwV 1 hts gX2_gateOf_X2_hold rfl rfl rfl (by decide +kernel) ⟨Nat.le_of_ble_eq_true rfl, Nat.le_of_ble_eq_true rfl⟩) (wd_preV (ci := 2) (q0 := 2) hP hK rfl rfl) rfl rfl hl.1 rfl (lv_room (Nat.le_of_ble_eq_true rfl)) dX2_gateOf_2 ⟨Nat.zero_le _, Nat.zero_le _⟩) (fun _ => ?_) (fun h9 => absurd (p_in_nI hi (by omega)) (by rw [h9]; decide))
  refine lv_if_eq (tgt := 17) hx hb dX2_gateOf_5 (by decide) (fun h9 => absurd h9 (by decide)) (fun _ => ?_)
  refine lv_aload_n hx hb dX2_gateOf_8 rfl (lv_at hl 0 rfl) ?_
  refine va_get (D := D) (ci := 2) (v := .ref (h 11)) (C := RX2) (T := TX2) (N := 5) hx hb hts hiX2 hown hK.1 hP 2 rfl rfl 0 (by decide) kf9 (fun _ h9 => h9) rfl dX2_gateOf_9 ?_
  refine lv_iload_n hx hb dX2_gateOf_12 rfl (lv_at hl 1 rfl) ?_
  refine ga_ild hx hb hK hP 11 rfl i (rfl) (by omega) (by decide) dX2_gateOf_13 ?_
  refine lv_goto (tgt := 19) hx hb dX2_gateOf_14 (by decide) ?_
  exact W.iret (v := G i) hx hb hr (fun t9 ht _ => ⟨congrArg (fun z => Outcome.returned (some (Value.int z))) (rfl), ht⟩) (fun _ h9 => nomatch h9) dX2_gateOf_19
set_option maxHeartbeats 4000000 in
set_option maxRecDepth 100000 in
theorem c_X2_workOf (hh : ad_ok h 20) (hk : k ≤ 8) (i : Nat) (hi : i < k) : Met l yX2_workOf wsX2_workOf ({ frames := 1, cells := 0, slots := 0, locals := 21 }) (wd_P D cI cJ [.ref (h 2), .int (nI i)] (sl_W cI cJ h (nI n) F Wt Sz Nu Mb (nI k) G Wk To Sl Ri (nI f) (nI b) oT oS oF (nI an) (nI as) Fo wo pa fa)) (pu_Q (some (.int (Wk i)))) 0 0 (fun _ => False) := by
  refine Met.ofW (cc := cX2_workOf) (maxL := 2) (ret := (some .int)) (by decide) rfl ?_
  intro p e s m args below meth c s₁ B hml hv
  obtain ⟨rfl, hP, hK⟩ := hv
  have hx := B.exec
  have hb := B.bytes
  have hr := B.returns
  have hts := atoms_spec (ws := wsX2_workOf) B.pre
  have hown : s.vm.findClass RX2 = some m.cls := findClass_of_methodNamed B.named
  have hlocks := B.notSynchronized
  have hiX2 : ∀ w ∈ u_ws RX2 TX2 5, w ∈ wsX2_workOf := by decide +kernel
  have kf15 := hts (.fieldLink RX2 15 "SortingLine$Stations" "works" "[I") (by decide +kernel)
  have hl := lv_entry ([.ref (h 2), .int (nI i)]) (n := 2) (Nat.le_of_ble_eq_true rfl)
  rw [lg_entry_eq]
  generalize (lg_sl ([.ref (h 2), .int (nI i)]) ++ List.replicate (2 - (lg_sl ([.ref (h 2), .int (nI i)])).length) Slot.unset).toArray = ls at hl ⊢
  have hl : lv_has ls 2 [(0, .ref (h 2)), (1, .int (nI i))] := hl
  refine lv_aload_n hx hb dX2_workOf_0 rfl (lv_at hl 0 rfl) ?_
  refine lv_iload_n hx hb dX2_workOf_1 rfl (lv_at hl 1 rfl) ?_
  refine pu_callb (va_runV (As := [.int (nI i)]) (rest := []) ⟨hx, hb, hml, hown, hts⟩ (c_X2_hold hh (nI i)) (cwV 1 hts gX2_workOf_X2_hold rfl rfl rfl (by decide +kernel) ⟨Nat.le_of_ble_eq_true rfl, Nat.le_of_ble_eq_true rfl⟩) (wd_preV (ci := 2) (q0 := 2) hP hK rfl rfl) rfl rfl hl.1 rfl (lv_room (Nat.le_of_ble_eq_true rfl)) dX2_workOf_2 ⟨Nat.zero_le _, Nat.zero_le _⟩) (fun _ => ?_) (fun h9 => absurd (p_in_nI hi (by omega)) (by rw [h9]; decide))
  refine lv_if_eq (tgt := 17) hx hb dX2_workOf_5 (by decide) (fun h9 => absurd h9 (by decide)) (fun _ => ?_)
  refine lv_aload_n hx hb dX2_workOf_8 rfl (lv_at hl 0 rfl) ?_
  refine va_get (D := D) (ci := 2) (v := .ref (h 12)) (C := RX2) (T := TX2) (N := 5) hx hb hts hiX2 hown hK.1 hP 2 rfl rfl 1 (by decide) kf15 (fun _ h9 => h9) rfl dX2_workOf_9 ?_
  refine lv_iload_n hx hb dX2_workOf_12 rfl (lv_at hl 1 rfl) ?_
  refine ga_ild hx hb hK hP 12 rfl i (rfl) (by omega) (by decide) dX2_workOf_13 ?_
  refine lv_goto (tgt := 19) hx hb dX2_workOf_14 (by decide) ?_
  exact W.iret (v := Wk i) hx hb hr (fun t9 ht _ => ⟨congrArg (fun z => Outcome.returned (some (Value.int z))) (rfl), ht⟩) (fun _ h9 => nomatch h9) dX2_workOf_19
set_option maxHeartbeats 4000000 in
set_option maxRecDepth 100000 in
theorem c_X2_totalOf (hh : ad_ok h 20) (hk : k ≤ 8) (i : Nat) (hi : i < k) : Met l yX2_totalOf wsX2_totalOf ({ frames := 1, cells := 0, slots := 0, locals := 21 }) (wd_P D cI cJ [.ref (h 2), .int (nI i)] (sl_W cI cJ h (nI n) F Wt Sz Nu Mb (nI k) G Wk To Sl Ri (nI f) (nI b) oT oS oF (nI an) (nI as) Fo wo pa fa)) (pu_Q (some (.long (To i)))) 0 0 (fun _ => False) := by
  refine Met.ofW (cc := cX2_totalOf) (maxL := 2) (ret := (some .long)) (by decide) rfl ?_
  intro p e s m args below meth c s₁ B hml hv
  obtain ⟨rfl, hP, hK⟩ := hv
  have hx := B.exec
  have hb := B.bytes
  have hr := B.returns
  have hts := atoms_spec (ws := wsX2_totalOf) B.pre
  have hown : s.vm.findClass RX2 = some m.cls := findClass_of_methodNamed B.named
  have hlocks := B.notSynchronized
  have hiX2 : ∀ w ∈ u_ws RX2 TX2 5, w ∈ wsX2_totalOf := by decide +kernel
  have kf18 := hts (.fieldLink RX2 18 "SortingLine$Stations" "totals" "[J") (by decide +kernel)
  have hl := lv_entry ([.ref (h 2), .int (nI i)]) (n := 2) (Nat.le_of_ble_eq_true rfl)
  rw [lg_entry_eq]
  generalize (lg_sl ([.ref (h 2), .int (nI i)]) ++ List.replicate (2 - (lg_sl ([.ref (h 2), .int (nI i)])).length) Slot.unset).toArray = ls at hl ⊢
  have hl : lv_has ls 2 [(0, .ref (h 2)), (1, .int (nI i))] := hl
  refine lv_aload_n hx hb dX2_totalOf_0 rfl (lv_at hl 0 rfl) ?_
  refine lv_iload_n hx hb dX2_totalOf_1 rfl (lv_at hl 1 rfl) ?_
  refine pu_callb (va_runV (As := [.int (nI i)]) (rest := []) ⟨hx, hb, hml, hown, hts⟩ (c_X2_hold hh (nI i)) (cwV 1 hts gX2_totalOf_X2_hold rfl rfl rfl (by decide +kernel) ⟨Nat.le_of_ble_eq_true rfl, Nat.le_of_ble_eq_true rfl⟩) (wd_preV (ci := 2) (q0 := 2) hP hK rfl rfl) rfl rfl hl.1 rfl (lv_room (Nat.le_of_ble_eq_true rfl)) dX2_totalOf_2 ⟨Nat.zero_le _, Nat.zero_le _⟩) (fun _ => ?_) (fun h9 => absurd (p_in_nI hi (by omega)) (by rw [h9]; decide))
  refine lv_if_eq (tgt := 17) hx hb dX2_totalOf_5 (by decide) (fun h9 => absurd h9 (by decide)) (fun _ => ?_)
  refine lv_aload_n hx hb dX2_totalOf_8 rfl (lv_at hl 0 rfl) ?_
  refine va_get (D := D) (ci := 2) (v := .ref (h 13)) (C := RX2) (T := TX2) (N := 5) hx hb hts hiX2 hown hK.1 hP 2 rfl rfl 2 (by decide) kf18 (fun _ h9 => h9) rfl dX2_totalOf_9 ?_
  refine lv_iload_n hx hb dX2_totalOf_12 rfl (lv_at hl 1 rfl) ?_
  refine ga_lld hx hb hK hP 13 rfl i (rfl) (by omega) (by decide) dX2_totalOf_13 ?_
  refine lv_goto (tgt := 18) hx hb dX2_totalOf_14 (by decide) ?_
  exact W.lret (v := To i) hx hb hr (fun t9 ht _ => ⟨congrArg (fun z => Outcome.returned (some (Value.long z))) (rfl), ht⟩) (fun _ h9 => nomatch h9) dX2_totalOf_18
set_option maxHeartbeats 4000000 in
set_option maxRecDepth 100000 in
theorem c_X2_slotOf (hh : ad_ok h 20) (hk : k ≤ 8) (i : Nat) (hi : i < k) : Met l yX2_slotOf wsX2_slotOf ({ frames := 1, cells := 0, slots := 0, locals := 21 }) (wd_P D cI cJ [.ref (h 2), .int (nI i)] (sl_W cI cJ h (nI n) F Wt Sz Nu Mb (nI k) G Wk To Sl Ri (nI f) (nI b) oT oS oF (nI an) (nI as) Fo wo pa fa)) (pu_Q (some (.int (Sl i)))) 0 0 (fun _ => False) := by
  refine Met.ofW (cc := cX2_slotOf) (maxL := 2) (ret := (some .int)) (by decide) rfl ?_
  intro p e s m args below meth c s₁ B hml hv
  obtain ⟨rfl, hP, hK⟩ := hv
  have hx := B.exec
  have hb := B.bytes
  have hr := B.returns
  have hts := atoms_spec (ws := wsX2_slotOf) B.pre
  have hown : s.vm.findClass RX2 = some m.cls := findClass_of_methodNamed B.named
  have hlocks := B.notSynchronized
  have hiX2 : ∀ w ∈ u_ws RX2 TX2 5, w ∈ wsX2_slotOf := by decide +kernel
  have kf22 := hts (.fieldLink RX2 22 "SortingLine$Stations" "slots" "[I") (by decide +kernel)
  have hl := lv_entry ([.ref (h 2), .int (nI i)]) (n := 2) (Nat.le_of_ble_eq_true rfl)
  rw [lg_entry_eq]
  generalize (lg_sl ([.ref (h 2), .int (nI i)]) ++ List.replicate (2 - (lg_sl ([.ref (h 2), .int (nI i)])).length) Slot.unset).toArray = ls at hl ⊢
  have hl : lv_has ls 2 [(0, .ref (h 2)), (1, .int (nI i))] := hl
  refine lv_aload_n hx hb dX2_slotOf_0 rfl (lv_at hl 0 rfl) ?_
  refine lv_iload_n hx hb dX2_slotOf_1 rfl (lv_at hl 1 rfl) ?_
  refine pu_callb (va_runV (As := [.int (nI i)]) (rest := []) ⟨hx, hb, hml, hown, hts⟩ (c_X2_hold hh (nI i)) (cwV 1 hts gX2_slotOf_X2_hold rfl rfl rfl (by decide +kernel) ⟨Nat.le_of_ble_eq_true rfl, Nat.le_of_ble_eq_true rfl⟩) (wd_preV (ci := 2) (q0 := 2) hP hK rfl rfl) rfl rfl hl.1 rfl (lv_room (Nat.le_of_ble_eq_true rfl)) dX2_slotOf_2 ⟨Nat.zero_le _, Nat.zero_le _⟩) (fun _ => ?_) (fun h9 => absurd (p_in_nI hi (by omega)) (by rw [h9]; decide))
  refine lv_if_eq (tgt := 17) hx hb dX2_slotOf_5 (by decide) (fun h9 => absurd h9 (by decide)) (fun _ => ?_)
  refine lv_aload_n hx hb dX2_slotOf_8 rfl (lv_at hl 0 rfl) ?_
  refine va_get (D := D) (ci := 2) (v := .ref (h 14)) (C := RX2) (T := TX2) (N := 5) hx hb hts hiX2 hown hK.1 hP 2 rfl rfl 3 (by decide) kf22 (fun _ h9 => h9) rfl dX2_slotOf_9 ?_
  refine lv_iload_n hx hb dX2_slotOf_12 rfl (lv_at hl 1 rfl) ?_
  refine ga_ild hx hb hK hP 14 rfl i (rfl) (by omega) (by decide) dX2_slotOf_13 ?_
  refine lv_goto (tgt := 19) hx hb dX2_slotOf_14 (by decide) ?_
  exact W.iret (v := Sl i) hx hb hr (fun t9 ht _ => ⟨congrArg (fun z => Outcome.returned (some (Value.int z))) (rfl), ht⟩) (fun _ h9 => nomatch h9) dX2_slotOf_19
set_option maxHeartbeats 4000000 in
set_option maxRecDepth 100000 in
theorem c_X2_totalOfN (hh : ad_ok h 20) (t : Int32) (ht9 : p_in t (nI k) = false) : Met l yX2_totalOf wsX2_totalOf ({ frames := 1, cells := 0, slots := 0, locals := 21 }) (wd_P D cI cJ [.ref (h 2), .int t] (sl_W cI cJ h (nI n) F Wt Sz Nu Mb (nI k) G Wk To Sl Ri (nI f) (nI b) oT oS oF (nI an) (nI as) Fo wo pa fa)) (pu_Q (some (.long 0))) 0 0 (fun _ => False) := by
  refine Met.ofW (cc := cX2_totalOf) (maxL := 2) (ret := (some .long)) (by decide) rfl ?_
  intro p e s m args below meth c s₁ B hml hv
  obtain ⟨rfl, hP, hK⟩ := hv
  have hx := B.exec
  have hb := B.bytes
  have hr := B.returns
  have hts := atoms_spec (ws := wsX2_totalOf) B.pre
  have hown : s.vm.findClass RX2 = some m.cls := findClass_of_methodNamed B.named
  have hlocks := B.notSynchronized
  have hl := lv_entry ([.ref (h 2), .int t]) (n := 2) (Nat.le_of_ble_eq_true rfl)
  rw [lg_entry_eq]
  generalize (lg_sl ([.ref (h 2), .int t]) ++ List.replicate (2 - (lg_sl ([.ref (h 2), .int t])).length) Slot.unset).toArray = ls at hl ⊢
  have hl : lv_has ls 2 [(0, .ref (h 2)), (1, .int t)] := hl
  refine lv_aload_n hx hb dX2_totalOf_0 rfl (lv_at hl 0 rfl) ?_
  refine lv_iload_n hx hb dX2_totalOf_1 rfl (lv_at hl 1 rfl) ?_
  refine pu_callb (va_runV (As := [.int t]) (rest := []) ⟨hx, hb, hml, hown, hts⟩ (c_X2_hold hh t) (cwV 1 hts gX2_totalOf_X2_hold rfl rfl rfl (by decide +kernel) ⟨Nat.le_of_ble_eq_true rfl, Nat.le_of_ble_eq_true rfl⟩) (wd_preV (ci := 2) (q0 := 2) hP hK rfl rfl) rfl rfl hl.1 rfl (lv_room (Nat.le_of_ble_eq_true rfl)) dX2_totalOf_2 ⟨Nat.zero_le _, Nat.zero_le _⟩) (fun h9 => absurd (ht9) (by rw [h9]; decide)) (fun _ => ?_)
  refine lv_if_eq (tgt := 17) hx hb dX2_totalOf_5 (by decide) (fun _ => ?_) (fun h9 => absurd (by decide) h9)
  refine lv_lconst (v := 0) hx hb dX2_totalOf_17 (by decide) ?_
  exact W.lret (v := 0) hx hb hr (fun t9 ht _ => ⟨congrArg (fun z => Outcome.returned (some (Value.long z))) (rfl), ht⟩) (fun _ h9 => nomatch h9) dX2_totalOf_18
set_option maxHeartbeats 4000000 in
set_option maxRecDepth 100000 in
theorem c_X2_grow (hh : ad_ok h 20) (hk : k ≤ 8) (i : Nat) (hi : i < k) (v : Int64) : Met l yX2_grow wsX2_grow ({ frames := 1, cells := 0, slots := 0, locals := 21 }) (wd_P D cI cJ [.ref (h 2), .int (nI i), .long v] (sl_W cI cJ h (nI n) F Wt Sz Nu Mb (nI k) G Wk To Sl Ri (nI f) (nI b) oT oS oF (nI an) (nI as) Fo wo pa fa)) (mu_Q D (ad_A h 20) none (sl_W cI cJ h (nI n) F Wt Sz Nu Mb (nI k) G Wk (vp_updL To i (To i + v)) Sl Ri (nI f) (nI b) oT oS oF (nI an) (nI as) Fo wo pa fa)) 0 0 (ad_A h 20) := by
  refine Met.ofW (cc := cX2_grow) (maxL := 4) (ret := none) (by decide) rfl ?_
  intro p e s m args below meth c s₁ B hml hv
  obtain ⟨rfl, hP, hK⟩ := hv
  have hx := B.exec
  have hb := B.bytes
  have hr := B.returns
  have hts := atoms_spec (ws := wsX2_grow) B.pre
  have hown : s.vm.findClass RX2 = some m.cls := findClass_of_methodNamed B.named
  have hlocks := B.notSynchronized
  have hiX2 : ∀ w ∈ u_ws RX2 TX2 5, w ∈ wsX2_grow := by decide +kernel
  have kf18 := hts (.fieldLink RX2 18 "SortingLine$Stations" "totals" "[J") (by decide +kernel)
  have hS : va_S (ad_A h 20) s.heap s.heap [] := va_S.rf
  have hl := lv_entry ([.ref (h 2), .int (nI i), .long v]) (n := 4) (Nat.le_of_ble_eq_true rfl)
  rw [lg_entry_eq]
  generalize (lg_sl ([.ref (h 2), .int (nI i), .long v]) ++ List.replicate (4 - (lg_sl ([.ref (h 2), .int (nI i), .long v])).length) Slot.unset).toArray = ls at hl ⊢
  have hl : lv_has ls 4 [(0, .ref (h 2)), (1, .int (nI i)), (2, .long v)] := hl
  refine lv_aload_n hx hb dX2_grow_0 rfl (lv_at hl 0 rfl) ?_
  refine lv_iload_n hx hb dX2_grow_1 rfl (lv_at hl 1 rfl) ?_
  refine pu_callb (va_runV (As := [.int (nI i)]) (rest := []) ⟨hx, hb, hml, hown, hts⟩ (c_X2_hold hh (nI i)) (cwV 1 hts gX2_grow_X2_hold rfl rfl rfl (by decide +kernel) ⟨Nat.le_of_ble_eq_true rfl, Nat.le_of_ble_eq_true rfl⟩) (wd_preV (ci := 2) (q0 := 2) hP hK rfl rfl) rfl rfl hl.1 rfl (lv_room (Nat.le_of_ble_eq_true rfl)) dX2_grow_2 ⟨Nat.zero_le _, Nat.zero_le _⟩) (fun _ => ?_) (fun h9 => absurd (p_in_nI hi (by omega)) (by rw [h9]; decide))
  refine lv_if_eq (tgt := 18) hx hb dX2_grow_5 (by decide) (fun h9 => absurd h9 (by decide)) (fun _ => ?_)
  refine lv_aload_n hx hb dX2_grow_8 rfl (lv_at hl 0 rfl) ?_
  refine va_get (D := D) (ci := 2) (v := .ref (h 13)) (C := RX2) (T := TX2) (N := 5) hx hb hts hiX2 hown hK.1 hP 2 rfl rfl 2 (by decide) kf18 (fun _ h9 => h9) rfl dX2_grow_9 ?_
  refine lv_iload_n hx hb dX2_grow_12 rfl (lv_at hl 1 rfl) ?_
  refine lv_dup2_11 hx hb dX2_grow_13 rfl rfl ?_
  refine ga_lld hx hb hK hP 13 rfl i (rfl) (by omega) (by decide) dX2_grow_14 ?_
  refine lv_lload_n hx hb dX2_grow_15 rfl (lv_at hl 2 rfl) ?_
  refine lv_ladd hx hb dX2_grow_16 ?_
  refine ga_lst hx hb hK hP (sl_D hh) hS 13 rfl i (rfl) (by omega) (by decide) dX2_grow_17 (fun H locs hP hS => ?_)
  have hP : va_P D kC (sl_W cI cJ h (nI n) F Wt Sz Nu Mb (nI k) G Wk (vp_updL To i ((To i) + v)) Sl Ri (nI f) (nI b) oT oS oF (nI an) (nI as) Fo wo pa fa) H := hP
  exact W.vret hx hb hr (fun t9 ht _ => ⟨rfl, by rw [ht]; exact hP, hS.F ht⟩) hS.2.2 dX2_grow_18
set_option maxHeartbeats 4000000 in
set_option maxRecDepth 100000 in
theorem c_X2_setSlot (hh : ad_ok h 20) (hk : k ≤ 8) (i : Nat) (hi : i < k) (x : Int32) : Met l yX2_setSlot wsX2_setSlot ({ frames := 1, cells := 0, slots := 0, locals := 21 }) (wd_P D cI cJ [.ref (h 2), .int (nI i), .int x] (sl_W cI cJ h (nI n) F Wt Sz Nu Mb (nI k) G Wk To Sl Ri (nI f) (nI b) oT oS oF (nI an) (nI as) Fo wo pa fa)) (mu_Q D (ad_A h 20) none (sl_W cI cJ h (nI n) F Wt Sz Nu Mb (nI k) G Wk To (upd Sl i x) Ri (nI f) (nI b) oT oS oF (nI an) (nI as) Fo wo pa fa)) 0 0 (ad_A h 20) := by
  refine Met.ofW (cc := cX2_setSlot) (maxL := 3) (ret := none) (by decide) rfl ?_
  intro p e s m args below meth c s₁ B hml hv
  obtain ⟨rfl, hP, hK⟩ := hv
  have hx := B.exec
  have hb := B.bytes
  have hr := B.returns
  have hts := atoms_spec (ws := wsX2_setSlot) B.pre
  have hown : s.vm.findClass RX2 = some m.cls := findClass_of_methodNamed B.named
  have hlocks := B.notSynchronized
  have hiX2 : ∀ w ∈ u_ws RX2 TX2 5, w ∈ wsX2_setSlot := by decide +kernel
  have kf22 := hts (.fieldLink RX2 22 "SortingLine$Stations" "slots" "[I") (by decide +kernel)
  have hS : va_S (ad_A h 20) s.heap s.heap [] := va_S.rf
  have hl := lv_entry ([.ref (h 2), .int (nI i), .int x]) (n := 3) (Nat.le_of_ble_eq_true rfl)
  rw [lg_entry_eq]
  generalize (lg_sl ([.ref (h 2), .int (nI i), .int x]) ++ List.replicate (3 - (lg_sl ([.ref (h 2), .int (nI i), .int x])).length) Slot.unset).toArray = ls at hl ⊢
  have hl : lv_has ls 3 [(0, .ref (h 2)), (1, .int (nI i)), (2, .int x)] := hl
  refine lv_aload_n hx hb dX2_setSlot_0 rfl (lv_at hl 0 rfl) ?_
  refine lv_iload_n hx hb dX2_setSlot_1 rfl (lv_at hl 1 rfl) ?_
  refine pu_callb (va_runV (As := [.int (nI i)]) (rest := []) ⟨hx, hb, hml, hown, hts⟩ (c_X2_hold hh (nI i)) (cwV 1 hts gX2_setSlot_X2_hold rfl rfl rfl (by decide +kernel) ⟨Nat.le_of_ble_eq_true rfl, Nat.le_of_ble_eq_true rfl⟩) (wd_preV (ci := 2) (q0 := 2) hP hK rfl rfl) rfl rfl hl.1 rfl (lv_room (Nat.le_of_ble_eq_true rfl)) dX2_setSlot_2 ⟨Nat.zero_le _, Nat.zero_le _⟩) (fun _ => ?_) (fun h9 => absurd (p_in_nI hi (by omega)) (by rw [h9]; decide))
  refine lv_if_eq (tgt := 15) hx hb dX2_setSlot_5 (by decide) (fun h9 => absurd h9 (by decide)) (fun _ => ?_)
  refine lv_aload_n hx hb dX2_setSlot_8 rfl (lv_at hl 0 rfl) ?_
  refine va_get (D := D) (ci := 2) (v := .ref (h 14)) (C := RX2) (T := TX2) (N := 5) hx hb hts hiX2 hown hK.1 hP 2 rfl rfl 3 (by decide) kf22 (fun _ h9 => h9) rfl dX2_setSlot_9 ?_
  refine lv_iload_n hx hb dX2_setSlot_12 rfl (lv_at hl 1 rfl) ?_
  refine lv_iload_n hx hb dX2_setSlot_13 rfl (lv_at hl 2 rfl) ?_
  refine ga_ist hx hb hK hP (sl_D hh) hS 14 rfl i (rfl) (by omega) (by decide) dX2_setSlot_14 (fun H locs hP hS => ?_)
  have hP : va_P D kC (sl_W cI cJ h (nI n) F Wt Sz Nu Mb (nI k) G Wk To (upd Sl i x) Ri (nI f) (nI b) oT oS oF (nI an) (nI as) Fo wo pa fa) H := hP
  exact W.vret hx hb hr (fun t9 ht _ => ⟨rfl, by rw [ht]; exact hP, hS.F ht⟩) hS.2.2 dX2_setSlot_15
set_option maxHeartbeats 4000000 in
set_option maxRecDepth 100000 in
theorem c_X2_forget (hh : ad_ok h 20) : Met l yX2_forget wsX2_forget ({ frames := 0, cells := 0, slots := 0, locals := 0 }) (wd_P D cI cJ [.ref (h 2)] (sl_W cI cJ h (nI n) F Wt Sz Nu Mb (nI k) G Wk To Sl Ri (nI f) (nI b) oT oS oF (nI an) (nI as) Fo wo pa fa)) (mu_Q D (ad_A h 20) none (sl_W cI cJ h (nI n) F Wt Sz Nu Mb 0 G Wk To Sl Ri (nI f) (nI b) oT oS oF (nI an) (nI as) Fo wo pa fa)) 0 0 (ad_A h 20) := by
  refine Met.ofW (cc := cX2_forget) (maxL := 1) (ret := none) (by decide) rfl ?_
  intro p e s m args below meth c s₁ B hml hv
  obtain ⟨rfl, hP, hK⟩ := hv
  have hx := B.exec
  have hb := B.bytes
  have hr := B.returns
  have hts := atoms_spec (ws := wsX2_forget) B.pre
  have hown : s.vm.findClass RX2 = some m.cls := findClass_of_methodNamed B.named
  have hlocks := B.notSynchronized
  have hiX2 : ∀ w ∈ u_ws RX2 TX2 5, w ∈ wsX2_forget := by decide +kernel
  have kf25 := hts (.fieldLink RX2 25 "SortingLine$Stations" "made" "I") (by decide +kernel)
  have hS : va_S (ad_A h 20) s.heap s.heap [] := va_S.rf
  have hl := lv_entry ([.ref (h 2)]) (n := 1) (Nat.le_of_ble_eq_true rfl)
  rw [lg_entry_eq]
  generalize (lg_sl ([.ref (h 2)]) ++ List.replicate (1 - (lg_sl ([.ref (h 2)])).length) Slot.unset).toArray = ls at hl ⊢
  have hl : lv_has ls 1 [(0, .ref (h 2))] := hl
  refine lv_aload_n hx hb dX2_forget_0 rfl (lv_at hl 0 rfl) ?_
  refine lv_iconst (v := 0) hx hb dX2_forget_1 (by decide) ?_
  refine va_put (D := D) (ci := 2) (v := .int 0) (ty := .int) (C := RX2) (T := TX2) (N := 5) hx hb hts hiX2 tyX2 tyX2_ok nmX2 hown hK.1 hP (sl_D hh) hS 2 rfl rfl 4 (by decide) kf25 (fun _ h9 => h9) rfl (by decide +kernel) rfl rfl (Nat.le_of_ble_eq_true rfl) dX2_forget_2 (fun H locs hP _ hS => ?_)
  have hP : va_P D kC (sl_W cI cJ h (nI n) F Wt Sz Nu Mb 0 G Wk To Sl Ri (nI f) (nI b) oT oS oF (nI an) (nI as) Fo wo pa fa) H := hP
  exact W.vret hx hb hr (fun t9 ht _ => ⟨rfl, by rw [ht]; exact hP, hS.F ht⟩) hS.2.2 dX2_forget_5
set_option maxHeartbeats 4000000 in
set_option maxRecDepth 100000 in
theorem c_X0_size (hh : ad_ok h 20) : Met l yX0_size wsX0_size ({ frames := 0, cells := 0, slots := 0, locals := 0 }) (wd_P D cI cJ [.ref (h 3)] (sl_W cI cJ h (nI n) F Wt Sz Nu Mb (nI k) G Wk To Sl Ri (nI f) (nI b) oT oS oF (nI an) (nI as) Fo wo pa fa)) (pu_Q (some (.int (nI b)))) 0 0 (fun _ => False) := by
  refine Met.ofW (cc := cX0_size) (maxL := 1) (ret := (some .int)) (by decide) rfl ?_
  intro p e s m args below meth c s₁ B hml hv
  obtain ⟨rfl, hP, hK⟩ := hv
  have hx := B.exec
  have hb := B.bytes
  have hr := B.returns
  have hts := atoms_spec (ws := wsX0_size) B.pre
  have hown : s.vm.findClass RX0 = some m.cls := findClass_of_methodNamed B.named
  have hlocks := B.notSynchronized
  have hiX0 : ∀ w ∈ u_ws RX0 TX0 3, w ∈ wsX0_size := by decide +kernel
  have kf19 := hts (.fieldLink RX0 19 "SortingLine$Belt" "size" "I") (by decide +kernel)
  have hl := lv_entry ([.ref (h 3)]) (n := 1) (Nat.le_of_ble_eq_true rfl)
  rw [lg_entry_eq]
  generalize (lg_sl ([.ref (h 3)]) ++ List.replicate (1 - (lg_sl ([.ref (h 3)])).length) Slot.unset).toArray = ls at hl ⊢
  have hl : lv_has ls 1 [(0, .ref (h 3))] := hl
  refine lv_aload_n hx hb dX0_size_0 rfl (lv_at hl 0 rfl) ?_
  refine va_get (D := D) (ci := 0) (v := .int (nI b)) (C := RX0) (T := TX0) (N := 3) hx hb hts hiX0 hown hK.1 hP 3 rfl rfl 2 (by decide) kf19 (fun _ h9 => h9) rfl dX0_size_1 ?_
  exact W.iret (v := nI b) hx hb hr (fun t9 ht _ => ⟨congrArg (fun z => Outcome.returned (some (Value.int z))) (rfl), ht⟩) (fun _ h9 => nomatch h9) dX0_size_4
set_option maxHeartbeats 4000000 in
set_option maxRecDepth 100000 in
theorem c_X0_append (hh : ad_ok h 20) (hf : f < 40) (hb9 : b < 40) (x : Int32) : Met l yX0_append wsX0_append ({ frames := 0, cells := 0, slots := 0, locals := 0 }) (wd_P D cI cJ [.ref (h 3), .int x] (sl_W cI cJ h (nI n) F Wt Sz Nu Mb (nI k) G Wk To Sl Ri (nI f) (nI b) oT oS oF (nI an) (nI as) Fo wo pa fa)) (mu_Q D (ad_A h 20) (some (.int 1)) (sl_W cI cJ h (nI n) F Wt Sz Nu Mb (nI k) G Wk To Sl (upd Ri ((f + b) % 40) x) (nI f) (nI (b + 1)) oT oS oF (nI an) (nI as) Fo wo pa fa)) 0 0 (ad_A h 20) := by
  refine Met.ofW (cc := cX0_append) (maxL := 2) (ret := (some .boolean)) (by decide) rfl ?_
  intro p e s m args below meth c s₁ B hml hv
  obtain ⟨rfl, hP, hK⟩ := hv
  have hx := B.exec
  have hb := B.bytes
  have hr := B.returns
  have hts := atoms_spec (ws := wsX0_append) B.pre
  have hown : s.vm.findClass RX0 = some m.cls := findClass_of_methodNamed B.named
  have hlocks := B.notSynchronized
  have hiX0 : ∀ w ∈ u_ws RX0 TX0 3, w ∈ wsX0_append := by decide +kernel
  have kf19 := hts (.fieldLink RX0 19 "SortingLine$Belt" "size" "I") (by decide +kernel)
  have kf9 := hts (.fieldLink RX0 9 "SortingLine$Belt" "ring" "[I") (by decide +kernel)
  have kf15 := hts (.fieldLink RX0 15 "SortingLine$Belt" "first" "I") (by decide +kernel)
  have hS : va_S (ad_A h 20) s.heap s.heap [] := va_S.rf
  have hl := lv_entry ([.ref (h 3), .int x]) (n := 2) (Nat.le_of_ble_eq_true rfl)
  rw [lg_entry_eq]
  generalize (lg_sl ([.ref (h 3), .int x]) ++ List.replicate (2 - (lg_sl ([.ref (h 3), .int x])).length) Slot.unset).toArray = ls at hl ⊢
  have hl : lv_has ls 2 [(0, .ref (h 3)), (1, .int x)] := hl
  refine lv_aload_n hx hb dX0_append_0 rfl (lv_at hl 0 rfl) ?_
  refine va_get (D := D) (ci := 0) (v := .int (nI b)) (C := RX0) (T := TX0) (N := 3) hx hb hts hiX0 hown hK.1 hP 3 rfl rfl 2 (by decide) kf19 (fun _ h9 => h9) rfl dX0_append_1 ?_
  refine lv_bipush (v := 40) hx hb dX0_append_4 (by decide) ?_
  refine lv_icmp_lt (tgt := 11) hx hb dX0_append_6 (by decide) (fun _ => ?_) (fun h9 => absurd (nI_lt (a := b) (b := 40) hb9 (by decide)) h9)
  refine lv_aload_n hx hb dX0_append_11 rfl (lv_at hl 0 rfl) ?_
  refine va_get (D := D) (ci := 0) (v := .ref (h 15)) (C := RX0) (T := TX0) (N := 3) hx hb hts hiX0 hown hK.1 hP 3 rfl rfl 0 (by decide) kf9 (fun _ h9 => h9) rfl dX0_append_12 ?_
  refine lv_aload_n hx hb dX0_append_15 rfl (lv_at hl 0 rfl) ?_
  refine va_get (D := D) (ci := 0) (v := .int (nI f)) (C := RX0) (T := TX0) (N := 3) hx hb hts hiX0 hown hK.1 hP 3 rfl rfl 1 (by decide) kf15 (fun _ h9 => h9) rfl dX0_append_16 ?_
  refine lv_aload_n hx hb dX0_append_19 rfl (lv_at hl 0 rfl) ?_
  refine va_get (D := D) (ci := 0) (v := .int (nI b)) (C := RX0) (T := TX0) (N := 3) hx hb hts hiX0 hown hK.1 hP 3 rfl rfl 2 (by decide) kf19 (fun _ h9 => h9) rfl dX0_append_20 ?_
  refine lv_iadd hx hb dX0_append_23 ?_
  refine tp_i (y := nI (f + b)) (nI_add f b) ?_
  refine lv_bipush (v := 40) hx hb dX0_append_24 (by decide) ?_
  refine lv_irem hx hb dX0_append_26 (by decide) ?_
  refine tp_i (y := nI ((f + b) % 40)) (pk_rem (by omega) (by decide) (by decide)) ?_
  refine lv_iload_n hx hb dX0_append_27 rfl (lv_at hl 1 rfl) ?_
  refine ga_ist hx hb hK hP (sl_D hh) hS 15 rfl ((f + b) % 40) (rfl) (by omega) (by decide) dX0_append_28 (fun H locs hP hS => ?_)
  have hP : va_P D kC (sl_W cI cJ h (nI n) F Wt Sz Nu Mb (nI k) G Wk To Sl (upd Ri ((f + b) % 40) x) (nI f) (nI b) oT oS oF (nI an) (nI as) Fo wo pa fa) H := hP
  refine lv_aload_n hx hb dX0_append_29 rfl (lv_at hl 0 rfl) ?_
  refine lv_dup hx hb dX0_append_30 rfl ?_
  refine va_get (D := D) (ci := 0) (v := .int (nI b)) (C := RX0) (T := TX0) (N := 3) hx hb hts hiX0 hown hK.1 hP 3 rfl rfl 2 (by decide) kf19 (fun _ h9 => h9) rfl dX0_append_31 ?_
  refine lv_iconst (v := 1) hx hb dX0_append_34 (by decide) ?_
  refine lv_iadd hx hb dX0_append_35 ?_
  refine tp_i (y := nI (b + 1)) (nI_add b 1) ?_
  refine va_put (D := D) (ci := 0) (v := .int (nI (b + 1))) (ty := .int) (C := RX0) (T := TX0) (N := 3) hx hb hts hiX0 tyX0 tyX0_ok nmX0 hown hK.1 hP (sl_D hh) hS 3 rfl rfl 2 (by decide) kf19 (fun _ h9 => h9) rfl (by decide +kernel) rfl rfl (Nat.le_of_ble_eq_true rfl) dX0_append_36 (fun H locs hP _ hS => ?_)
  have hP : va_P D kC (sl_W cI cJ h (nI n) F Wt Sz Nu Mb (nI k) G Wk To Sl (upd Ri ((f + b) % 40) x) (nI f) (nI (b + 1)) oT oS oF (nI an) (nI as) Fo wo pa fa) H := hP
  refine lv_iconst (v := 1) hx hb dX0_append_39 (by decide) ?_
  exact W.zret (ty := .boolean) (v := 1) hx hb hr (by decide) (fun t9 ht _ => ⟨congrArg (fun z => Outcome.returned (some (Value.int z))) (rfl), by rw [ht]; exact hP, hS.F ht⟩) hS.2.2 dX0_append_40
set_option maxHeartbeats 4000000 in
set_option maxRecDepth 100000 in
theorem c_X0_appendF (hh : ad_ok h 20) (hb9 : b = 40) (x : Int32) : Met l yX0_append wsX0_append ({ frames := 0, cells := 0, slots := 0, locals := 0 }) (wd_P D cI cJ [.ref (h 3), .int x] (sl_W cI cJ h (nI n) F Wt Sz Nu Mb (nI k) G Wk To Sl Ri (nI f) (nI b) oT oS oF (nI an) (nI as) Fo wo pa fa)) (pu_Q (some (.int 0))) 0 0 (fun _ => False) := by
  refine Met.ofW (cc := cX0_append) (maxL := 2) (ret := (some .boolean)) (by decide) rfl ?_
  intro p e s m args below meth c s₁ B hml hv
  obtain ⟨rfl, hP, hK⟩ := hv
  have hx := B.exec
  have hb := B.bytes
  have hr := B.returns
  have hts := atoms_spec (ws := wsX0_append) B.pre
  have hown : s.vm.findClass RX0 = some m.cls := findClass_of_methodNamed B.named
  have hlocks := B.notSynchronized
  have hiX0 : ∀ w ∈ u_ws RX0 TX0 3, w ∈ wsX0_append := by decide +kernel
  have kf19 := hts (.fieldLink RX0 19 "SortingLine$Belt" "size" "I") (by decide +kernel)
  have hl := lv_entry ([.ref (h 3), .int x]) (n := 2) (Nat.le_of_ble_eq_true rfl)
  rw [lg_entry_eq]
  generalize (lg_sl ([.ref (h 3), .int x]) ++ List.replicate (2 - (lg_sl ([.ref (h 3), .int x])).length) Slot.unset).toArray = ls at hl ⊢
  have hl : lv_has ls 2 [(0, .ref (h 3)), (1, .int x)] := hl
  refine lv_aload_n hx hb dX0_append_0 rfl (lv_at hl 0 rfl) ?_
  refine va_get (D := D) (ci := 0) (v := .int (nI b)) (C := RX0) (T := TX0) (N := 3) hx hb hts hiX0 hown hK.1 hP 3 rfl rfl 2 (by decide) kf19 (fun _ h9 => h9) rfl dX0_append_1 ?_
  refine lv_bipush (v := 40) hx hb dX0_append_4 (by decide) ?_
  refine lv_icmp_lt (tgt := 11) hx hb dX0_append_6 (by decide) (fun h9 => absurd h9 (nI_nlt (a := b) (b := 40) (by omega) (by omega))) (fun _ => ?_)
  refine lv_iconst (v := 0) hx hb dX0_append_9 (by decide) ?_
  exact W.zret (ty := .boolean) (v := 0) hx hb hr (by decide) (fun t9 ht _ => ⟨congrArg (fun z => Outcome.returned (some (Value.int z))) (rfl), ht⟩) (fun _ h9 => nomatch h9) dX0_append_10
set_option maxHeartbeats 4000000 in
set_option maxRecDepth 100000 in
theorem c_X0_thingAt (hh : ad_ok h 20) (hf : f < 40) (hb9 : b ≤ 40) (j : Nat) (hj : j < b) : Met l yX0_thingAt wsX0_thingAt ({ frames := 0, cells := 0, slots := 0, locals := 0 }) (wd_P D cI cJ [.ref (h 3), .int (nI j)] (sl_W cI cJ h (nI n) F Wt Sz Nu Mb (nI k) G Wk To Sl Ri (nI f) (nI b) oT oS oF (nI an) (nI as) Fo wo pa fa)) (pu_Q (some (.int (Ri ((f + j) % 40))))) 0 0 (fun _ => False) := by
  refine Met.ofW (cc := cX0_thingAt) (maxL := 2) (ret := (some .int)) (by decide) rfl ?_
  intro p e s m args below meth c s₁ B hml hv
  obtain ⟨rfl, hP, hK⟩ := hv
  have hx := B.exec
  have hb := B.bytes
  have hr := B.returns
  have hts := atoms_spec (ws := wsX0_thingAt) B.pre
  have hown : s.vm.findClass RX0 = some m.cls := findClass_of_methodNamed B.named
  have hlocks := B.notSynchronized
  have hiX0 : ∀ w ∈ u_ws RX0 TX0 3, w ∈ wsX0_thingAt := by decide +kernel
  have kf19 := hts (.fieldLink RX0 19 "SortingLine$Belt" "size" "I") (by decide +kernel)
  have kf9 := hts (.fieldLink RX0 9 "SortingLine$Belt" "ring" "[I") (by decide +kernel)
  have kf15 := hts (.fieldLink RX0 15 "SortingLine$Belt" "first" "I") (by decide +kernel)
  have hl := lv_entry ([.ref (h 3), .int (nI j)]) (n := 2) (Nat.le_of_ble_eq_true rfl)
  rw [lg_entry_eq]
  generalize (lg_sl ([.ref (h 3), .int (nI j)]) ++ List.replicate (2 - (lg_sl ([.ref (h 3), .int (nI j)])).length) Slot.unset).toArray = ls at hl ⊢
  have hl : lv_has ls 2 [(0, .ref (h 3)), (1, .int (nI j))] := hl
  refine lv_iload_n hx hb dX0_thingAt_0 rfl (lv_at hl 1 rfl) ?_
  refine lv_if_lt (tgt := 29) hx hb dX0_thingAt_1 (by decide) (fun h9 => absurd h9 (nI_pos (by omega))) (fun _ => ?_)
  refine lv_iload_n hx hb dX0_thingAt_4 rfl (lv_at hl 1 rfl) ?_
  refine lv_aload_n hx hb dX0_thingAt_5 rfl (lv_at hl 0 rfl) ?_
  refine va_get (D := D) (ci := 0) (v := .int (nI b)) (C := RX0) (T := TX0) (N := 3) hx hb hts hiX0 hown hK.1 hP 3 rfl rfl 2 (by decide) kf19 (fun _ h9 => h9) rfl dX0_thingAt_6 ?_
  refine lv_icmp_ge (tgt := 29) hx hb dX0_thingAt_9 (by decide) (fun h9 => absurd h9 (nI_ge hj (by omega))) (fun _ => ?_)
  refine lv_aload_n hx hb dX0_thingAt_12 rfl (lv_at hl 0 rfl) ?_
  refine va_get (D := D) (ci := 0) (v := .ref (h 15)) (C := RX0) (T := TX0) (N := 3) hx hb hts hiX0 hown hK.1 hP 3 rfl rfl 0 (by decide) kf9 (fun _ h9 => h9) rfl dX0_thingAt_13 ?_
  refine lv_aload_n hx hb dX0_thingAt_16 rfl (lv_at hl 0 rfl) ?_
  refine va_get (D := D) (ci := 0) (v := .int (nI f)) (C := RX0) (T := TX0) (N := 3) hx hb hts hiX0 hown hK.1 hP 3 rfl rfl 1 (by decide) kf15 (fun _ h9 => h9) rfl dX0_thingAt_17 ?_
  refine lv_iload_n hx hb dX0_thingAt_20 rfl (lv_at hl 1 rfl) ?_
  refine lv_iadd hx hb dX0_thingAt_21 ?_
  refine tp_i (y := nI (f + j)) (nI_add f j) ?_
  refine lv_bipush (v := 40) hx hb dX0_thingAt_22 (by decide) ?_
  refine lv_irem hx hb dX0_thingAt_24 (by decide) ?_
  refine tp_i (y := nI ((f + j) % 40)) (pk_rem (by omega) (by decide) (by decide)) ?_
  refine ga_ild hx hb hK hP 15 rfl ((f + j) % 40) (rfl) (by omega) (by decide) dX0_thingAt_25 ?_
  refine lv_goto (tgt := 31) hx hb dX0_thingAt_26 (by decide) ?_
  exact W.iret (v := Ri ((f + j) % 40)) hx hb hr (fun t9 ht _ => ⟨congrArg (fun z => Outcome.returned (some (Value.int z))) (rfl), ht⟩) (fun _ h9 => nomatch h9) dX0_thingAt_31
set_option maxHeartbeats 4000000 in
set_option maxRecDepth 100000 in
theorem c_X0_thingAtN (hh : ad_ok h 20) (hf : f < 40) (hb9 : b ≤ 40) (t : Int32) (ht9 : p_in t (nI b) = false) : Met l yX0_thingAt wsX0_thingAt ({ frames := 0, cells := 0, slots := 0, locals := 0 }) (wd_P D cI cJ [.ref (h 3), .int t] (sl_W cI cJ h (nI n) F Wt Sz Nu Mb (nI k) G Wk To Sl Ri (nI f) (nI b) oT oS oF (nI an) (nI as) Fo wo pa fa)) (pu_Q (some (.int (-5)))) 0 0 (fun _ => False) := by
  refine Met.ofW (cc := cX0_thingAt) (maxL := 2) (ret := (some .int)) (by decide) rfl ?_
  intro p e s m args below meth c s₁ B hml hv
  obtain ⟨rfl, hP, hK⟩ := hv
  have hx := B.exec
  have hb := B.bytes
  have hr := B.returns
  have hts := atoms_spec (ws := wsX0_thingAt) B.pre
  have hown : s.vm.findClass RX0 = some m.cls := findClass_of_methodNamed B.named
  have hlocks := B.notSynchronized
  have hiX0 : ∀ w ∈ u_ws RX0 TX0 3, w ∈ wsX0_thingAt := by decide +kernel
  have kf19 := hts (.fieldLink RX0 19 "SortingLine$Belt" "size" "I") (by decide +kernel)
  have hl := lv_entry ([.ref (h 3), .int t]) (n := 2) (Nat.le_of_ble_eq_true rfl)
  rw [lg_entry_eq]
  generalize (lg_sl ([.ref (h 3), .int t]) ++ List.replicate (2 - (lg_sl ([.ref (h 3), .int t])).length) Slot.unset).toArray = ls at hl ⊢
  have hl : lv_has ls 2 [(0, .ref (h 3)), (1, .int t)] := hl
  refine lv_iload_n hx hb dX0_thingAt_0 rfl (lv_at hl 1 rfl) ?_
  refine lv_if_lt (tgt := 29) hx hb dX0_thingAt_1 (by decide) (fun c1 => ?_) (fun c1 => ?_)
  · skip
    refine lv_bipush (v := (-5)) hx hb dX0_thingAt_29 (by decide) ?_
    exact W.iret (v := (-5)) hx hb hr (fun t9 ht _ => ⟨congrArg (fun z => Outcome.returned (some (Value.int z))) (rfl), ht⟩) (fun _ h9 => nomatch h9) dX0_thingAt_31
  · skip
    refine lv_iload_n hx hb dX0_thingAt_4 rfl (lv_at hl 1 rfl) ?_
    refine lv_aload_n hx hb dX0_thingAt_5 rfl (lv_at hl 0 rfl) ?_
    refine va_get (D := D) (ci := 0) (v := .int (nI b)) (C := RX0) (T := TX0) (N := 3) hx hb hts hiX0 hown hK.1 hP 3 rfl rfl 2 (by decide) kf19 (fun _ h9 => h9) rfl dX0_thingAt_6 ?_
    refine lv_icmp_ge (tgt := 29) hx hb dX0_thingAt_9 (by decide) (fun c9 => ?_) (fun c9 => ?_)
    · skip
      refine lv_bipush (v := (-5)) hx hb dX0_thingAt_29 (by decide) ?_
      exact W.iret (v := (-5)) hx hb hr (fun t9 ht _ => ⟨congrArg (fun z => Outcome.returned (some (Value.int z))) (rfl), ht⟩) (fun _ h9 => nomatch h9) dX0_thingAt_31
    · skip
      exact absurd (p_in_ok c1 c9) (by rw [ht9]; decide)
set_option maxHeartbeats 4000000 in
set_option maxRecDepth 100000 in
theorem c_X0_takeFirst (hh : ad_ok h 20) (hf : f < 40) (hb9 : b < 40) : Met l yX0_takeFirst wsX0_takeFirst ({ frames := 0, cells := 0, slots := 0, locals := 0 }) (wd_P D cI cJ [.ref (h 3)] (sl_W cI cJ h (nI n) F Wt Sz Nu Mb (nI k) G Wk To Sl Ri (nI f) (nI (b + 1)) oT oS oF (nI an) (nI as) Fo wo pa fa)) (mu_Q D (ad_A h 20) (some (.int (Ri f))) (sl_W cI cJ h (nI n) F Wt Sz Nu Mb (nI k) G Wk To Sl Ri (nI ((f + 1) % 40)) (nI b) oT oS oF (nI an) (nI as) Fo wo pa fa)) 0 0 (ad_A h 20) := by
  refine Met.ofW (cc := cX0_takeFirst) (maxL := 2) (ret := (some .int)) (by decide) rfl ?_
  intro p e s m args below meth c s₁ B hml hv
  obtain ⟨rfl, hP, hK⟩ := hv
  have hx := B.exec
  have hb := B.bytes
  have hr := B.returns
  have hts := atoms_spec (ws := wsX0_takeFirst) B.pre
  have hown : s.vm.findClass RX0 = some m.cls := findClass_of_methodNamed B.named
  have hlocks := B.notSynchronized
  have hiX0 : ∀ w ∈ u_ws RX0 TX0 3, w ∈ wsX0_takeFirst := by decide +kernel
  have kf19 := hts (.fieldLink RX0 19 "SortingLine$Belt" "size" "I") (by decide +kernel)
  have kf9 := hts (.fieldLink RX0 9 "SortingLine$Belt" "ring" "[I") (by decide +kernel)
  have kf15 := hts (.fieldLink RX0 15 "SortingLine$Belt" "first" "I") (by decide +kernel)
  have hS : va_S (ad_A h 20) s.heap s.heap [] := va_S.rf
  have hl := lv_entry ([.ref (h 3)]) (n := 2) (Nat.le_of_ble_eq_true rfl)
  rw [lg_entry_eq]
  generalize (lg_sl ([.ref (h 3)]) ++ List.replicate (2 - (lg_sl ([.ref (h 3)])).length) Slot.unset).toArray = ls at hl ⊢
  have hl : lv_has ls 2 [(0, .ref (h 3))] := hl
  refine lv_aload_n hx hb dX0_takeFirst_0 rfl (lv_at hl 0 rfl) ?_
  refine va_get (D := D) (ci := 0) (v := .int (nI (b + 1))) (C := RX0) (T := TX0) (N := 3) hx hb hts hiX0 hown hK.1 hP 3 rfl rfl 2 (by decide) kf19 (fun _ h9 => h9) rfl dX0_takeFirst_1 ?_
  refine lv_if_ne (tgt := 10) hx hb dX0_takeFirst_4 (by decide) (fun _ => ?_) (fun h9 => absurd h9 (nI_ne0 (Nat.succ_pos b) (by omega)))
  refine lv_aload_n hx hb dX0_takeFirst_10 rfl (lv_at hl 0 rfl) ?_
  refine va_get (D := D) (ci := 0) (v := .ref (h 15)) (C := RX0) (T := TX0) (N := 3) hx hb hts hiX0 hown hK.1 hP 3 rfl rfl 0 (by decide) kf9 (fun _ h9 => h9) rfl dX0_takeFirst_11 ?_
  refine lv_aload_n hx hb dX0_takeFirst_14 rfl (lv_at hl 0 rfl) ?_
  refine va_get (D := D) (ci := 0) (v := .int (nI f)) (C := RX0) (T := TX0) (N := 3) hx hb hts hiX0 hown hK.1 hP 3 rfl rfl 1 (by decide) kf15 (fun _ h9 => h9) rfl dX0_takeFirst_15 ?_
  refine ga_ild hx hb hK hP 15 rfl f (rfl) (by omega) (by decide) dX0_takeFirst_18 ?_
  refine lv_istore_n (lv' := [(1, .int (Ri f)), (0, .ref (h 3))]) hx hb dX0_takeFirst_19 rfl hl (by decide) rfl (fun ls hl => ?_)
  refine lv_aload_n hx hb dX0_takeFirst_20 rfl (lv_at hl 1 rfl) ?_
  refine lv_aload_n hx hb dX0_takeFirst_21 rfl (lv_at hl 1 rfl) ?_
  refine va_get (D := D) (ci := 0) (v := .int (nI f)) (C := RX0) (T := TX0) (N := 3) hx hb hts hiX0 hown hK.1 hP 3 rfl rfl 1 (by decide) kf15 (fun _ h9 => h9) rfl dX0_takeFirst_22 ?_
  refine lv_iconst (v := 1) hx hb dX0_takeFirst_25 (by decide) ?_
  refine lv_iadd hx hb dX0_takeFirst_26 ?_
  refine tp_i (y := nI (f + 1)) (nI_add f 1) ?_
  refine lv_bipush (v := 40) hx hb dX0_takeFirst_27 (by decide) ?_
  refine lv_irem hx hb dX0_takeFirst_29 (by decide) ?_
  refine tp_i (y := nI ((f + 1) % 40)) (pk_rem (by omega) (by decide) (by decide)) ?_
  refine va_put (D := D) (ci := 0) (v := .int (nI ((f + 1) % 40))) (ty := .int) (C := RX0) (T := TX0) (N := 3) hx hb hts hiX0 tyX0 tyX0_ok nmX0 hown hK.1 hP (sl_D hh) hS 3 rfl rfl 1 (by decide) kf15 (fun _ h9 => h9) rfl (by decide +kernel) rfl rfl (Nat.le_of_ble_eq_true rfl) dX0_takeFirst_30 (fun H locs hP _ hS => ?_)
  have hP : va_P D kC (sl_W cI cJ h (nI n) F Wt Sz Nu Mb (nI k) G Wk To Sl Ri (nI ((f + 1) % 40)) (nI (b + 1)) oT oS oF (nI an) (nI as) Fo wo pa fa) H := hP
  refine lv_aload_n hx hb dX0_takeFirst_33 rfl (lv_at hl 1 rfl) ?_
  refine lv_dup hx hb dX0_takeFirst_34 rfl ?_
  refine va_get (D := D) (ci := 0) (v := .int (nI (b + 1))) (C := RX0) (T := TX0) (N := 3) hx hb hts hiX0 hown hK.1 hP 3 rfl rfl 2 (by decide) kf19 (fun _ h9 => h9) rfl dX0_takeFirst_35 ?_
  refine lv_iconst (v := 1) hx hb dX0_takeFirst_38 (by decide) ?_
  refine lv_isub hx hb dX0_takeFirst_39 ?_
  refine tp_i (y := nI b) (nI_pred b) ?_
  refine va_put (D := D) (ci := 0) (v := .int (nI b)) (ty := .int) (C := RX0) (T := TX0) (N := 3) hx hb hts hiX0 tyX0 tyX0_ok nmX0 hown hK.1 hP (sl_D hh) hS 3 rfl rfl 2 (by decide) kf19 (fun _ h9 => h9) rfl (by decide +kernel) rfl rfl (Nat.le_of_ble_eq_true rfl) dX0_takeFirst_40 (fun H locs hP _ hS => ?_)
  have hP : va_P D kC (sl_W cI cJ h (nI n) F Wt Sz Nu Mb (nI k) G Wk To Sl Ri (nI ((f + 1) % 40)) (nI b) oT oS oF (nI an) (nI as) Fo wo pa fa) H := hP
  refine lv_iload_n hx hb dX0_takeFirst_43 rfl (lv_at hl 0 rfl) ?_
  exact W.iret (v := Ri f) hx hb hr (fun t9 ht _ => ⟨congrArg (fun z => Outcome.returned (some (Value.int z))) (rfl), by rw [ht]; exact hP, hS.F ht⟩) hS.2.2 dX0_takeFirst_44
set_option maxHeartbeats 4000000 in
set_option maxRecDepth 100000 in
theorem c_X0_forget (hh : ad_ok h 20) : Met l yX0_forget wsX0_forget ({ frames := 0, cells := 0, slots := 0, locals := 0 }) (wd_P D cI cJ [.ref (h 3)] (sl_W cI cJ h (nI n) F Wt Sz Nu Mb (nI k) G Wk To Sl Ri (nI f) (nI b) oT oS oF (nI an) (nI as) Fo wo pa fa)) (mu_Q D (ad_A h 20) none (sl_W cI cJ h (nI n) F Wt Sz Nu Mb (nI k) G Wk To Sl Ri 0 0 oT oS oF (nI an) (nI as) Fo wo pa fa)) 0 0 (ad_A h 20) := by
  refine Met.ofW (cc := cX0_forget) (maxL := 1) (ret := none) (by decide) rfl ?_
  intro p e s m args below meth c s₁ B hml hv
  obtain ⟨rfl, hP, hK⟩ := hv
  have hx := B.exec
  have hb := B.bytes
  have hr := B.returns
  have hts := atoms_spec (ws := wsX0_forget) B.pre
  have hown : s.vm.findClass RX0 = some m.cls := findClass_of_methodNamed B.named
  have hlocks := B.notSynchronized
  have hiX0 : ∀ w ∈ u_ws RX0 TX0 3, w ∈ wsX0_forget := by decide +kernel
  have kf15 := hts (.fieldLink RX0 15 "SortingLine$Belt" "first" "I") (by decide +kernel)
  have kf19 := hts (.fieldLink RX0 19 "SortingLine$Belt" "size" "I") (by decide +kernel)
  have hS : va_S (ad_A h 20) s.heap s.heap [] := va_S.rf
  have hl := lv_entry ([.ref (h 3)]) (n := 1) (Nat.le_of_ble_eq_true rfl)
  rw [lg_entry_eq]
  generalize (lg_sl ([.ref (h 3)]) ++ List.replicate (1 - (lg_sl ([.ref (h 3)])).length) Slot.unset).toArray = ls at hl ⊢
  have hl : lv_has ls 1 [(0, .ref (h 3))] := hl
  refine lv_aload_n hx hb dX0_forget_0 rfl (lv_at hl 0 rfl) ?_
  refine lv_iconst (v := 0) hx hb dX0_forget_1 (by decide) ?_
  refine va_put (D := D) (ci := 0) (v := .int 0) (ty := .int) (C := RX0) (T := TX0) (N := 3) hx hb hts hiX0 tyX0 tyX0_ok nmX0 hown hK.1 hP (sl_D hh) hS 3 rfl rfl 1 (by decide) kf15 (fun _ h9 => h9) rfl (by decide +kernel) rfl rfl (Nat.le_of_ble_eq_true rfl) dX0_forget_2 (fun H locs hP _ hS => ?_)
  have hP : va_P D kC (sl_W cI cJ h (nI n) F Wt Sz Nu Mb (nI k) G Wk To Sl Ri 0 (nI b) oT oS oF (nI an) (nI as) Fo wo pa fa) H := hP
  refine lv_aload_n hx hb dX0_forget_5 rfl (lv_at hl 0 rfl) ?_
  refine lv_iconst (v := 0) hx hb dX0_forget_6 (by decide) ?_
  refine va_put (D := D) (ci := 0) (v := .int 0) (ty := .int) (C := RX0) (T := TX0) (N := 3) hx hb hts hiX0 tyX0 tyX0_ok nmX0 hown hK.1 hP (sl_D hh) hS 3 rfl rfl 2 (by decide) kf19 (fun _ h9 => h9) rfl (by decide +kernel) rfl rfl (Nat.le_of_ble_eq_true rfl) dX0_forget_7 (fun H locs hP _ hS => ?_)
  have hP : va_P D kC (sl_W cI cJ h (nI n) F Wt Sz Nu Mb (nI k) G Wk To Sl Ri 0 0 oT oS oF (nI an) (nI as) Fo wo pa fa) H := hP
  exact W.vret hx hb hr (fun t9 ht _ => ⟨rfl, by rw [ht]; exact hP, hS.F ht⟩) hS.2.2 dX0_forget_10
set_option maxHeartbeats 4000000 in
set_option maxRecDepth 100000 in
theorem c_X1_add (hh : ad_ok h 20) (ha : an < 20) (hs : as ≤ 20) (t u v : Int32) : Met l yX1_add wsX1_add ({ frames := 1, cells := 0, slots := 0, locals := 40 }) (wd_P D cI cJ [.ref (h 4), .int t, .int u, .int v] (sl_W cI cJ h (nI n) F Wt Sz Nu Mb (nI k) G Wk To Sl Ri (nI f) (nI b) oT oS oF (nI an) (nI as) Fo wo pa fa)) (mu_Q D (ad_A h 20) none (sl_W cI cJ h (nI n) F Wt Sz Nu Mb (nI k) G Wk To Sl Ri (nI f) (nI b) (upd oT an t) (upd oS an u) (upd oF an v) (nI ((an + 1) % 20)) (nI (min (as + 1) 20)) Fo wo pa fa)) 0 0 (ad_A h 20) := by
  refine Met.ofW (cc := cX1_add) (maxL := 4) (ret := none) (by decide) rfl ?_
  intro p e s m args below meth c s₁ B hml hv
  obtain ⟨rfl, hP, hK⟩ := hv
  have hx := B.exec
  have hb := B.bytes
  have hr := B.returns
  have hts := atoms_spec (ws := wsX1_add) B.pre
  have hown : s.vm.findClass RX1 = some m.cls := findClass_of_methodNamed B.named
  have hlocks := B.notSynchronized
  have hiX1 : ∀ w ∈ u_ws RX1 TX1 5, w ∈ wsX1_add := by decide +kernel
  have kf9 := hts (.fieldLink RX1 9 "SortingLine$Side" "ofThings" "[I") (by decide +kernel)
  have kf21 := hts (.fieldLink RX1 21 "SortingLine$Side" "next" "I") (by decide +kernel)
  have kf15 := hts (.fieldLink RX1 15 "SortingLine$Side" "ofStations" "[I") (by decide +kernel)
  have kf18 := hts (.fieldLink RX1 18 "SortingLine$Side" "ofFindings" "[I") (by decide +kernel)
  have kf25 := hts (.fieldLink RX1 25 "SortingLine$Side" "size" "I") (by decide +kernel)
  have km1 := hts (.methodLink RX1 28 Lib.Math.min.name) (by decide +kernel)
  have km2 := hts (.static Lib.Math.min.name) (by decide +kernel)
  have km3 := hts (.initialized "java/lang/Math") (by decide +kernel)
  have km4 := hts (.code Lib.Math.min.name Lib.Math.min.code 2 (some .int)) (by decide +kernel)
  have hS : va_S (ad_A h 20) s.heap s.heap [] := va_S.rf
  have hl := lv_entry ([.ref (h 4), .int t, .int u, .int v]) (n := 4) (Nat.le_of_ble_eq_true rfl)
  rw [lg_entry_eq]
  generalize (lg_sl ([.ref (h 4), .int t, .int u, .int v]) ++ List.replicate (4 - (lg_sl ([.ref (h 4), .int t, .int u, .int v])).length) Slot.unset).toArray = ls at hl ⊢
  have hl : lv_has ls 4 [(0, .ref (h 4)), (1, .int t), (2, .int u), (3, .int v)] := hl
  refine lv_aload_n hx hb dX1_add_0 rfl (lv_at hl 0 rfl) ?_
  refine va_get (D := D) (ci := 1) (v := .ref (h 16)) (C := RX1) (T := TX1) (N := 5) hx hb hts hiX1 hown hK.1 hP 4 rfl rfl 0 (by decide) kf9 (fun _ h9 => h9) rfl dX1_add_1 ?_
  refine lv_aload_n hx hb dX1_add_4 rfl (lv_at hl 0 rfl) ?_
  refine va_get (D := D) (ci := 1) (v := .int (nI an)) (C := RX1) (T := TX1) (N := 5) hx hb hts hiX1 hown hK.1 hP 4 rfl rfl 3 (by decide) kf21 (fun _ h9 => h9) rfl dX1_add_5 ?_
  refine lv_iload_n hx hb dX1_add_8 rfl (lv_at hl 1 rfl) ?_
  refine ga_ist hx hb hK hP (sl_D hh) hS 16 rfl an (rfl) (by omega) (by decide) dX1_add_9 (fun H locs hP hS => ?_)
  have hP : va_P D kC (sl_W cI cJ h (nI n) F Wt Sz Nu Mb (nI k) G Wk To Sl Ri (nI f) (nI b) (upd oT an t) oS oF (nI an) (nI as) Fo wo pa fa) H := hP
  refine lv_aload_n hx hb dX1_add_10 rfl (lv_at hl 0 rfl) ?_
  refine va_get (D := D) (ci := 1) (v := .ref (h 17)) (C := RX1) (T := TX1) (N := 5) hx hb hts hiX1 hown hK.1 hP 4 rfl rfl 1 (by decide) kf15 (fun _ h9 => h9) rfl dX1_add_11 ?_
  refine lv_aload_n hx hb dX1_add_14 rfl (lv_at hl 0 rfl) ?_
  refine va_get (D := D) (ci := 1) (v := .int (nI an)) (C := RX1) (T := TX1) (N := 5) hx hb hts hiX1 hown hK.1 hP 4 rfl rfl 3 (by decide) kf21 (fun _ h9 => h9) rfl dX1_add_15 ?_
  refine lv_iload_n hx hb dX1_add_18 rfl (lv_at hl 2 rfl) ?_
  refine ga_ist hx hb hK hP (sl_D hh) hS 17 rfl an (rfl) (by omega) (by decide) dX1_add_19 (fun H locs hP hS => ?_)
  have hP : va_P D kC (sl_W cI cJ h (nI n) F Wt Sz Nu Mb (nI k) G Wk To Sl Ri (nI f) (nI b) (upd oT an t) (upd oS an u) oF (nI an) (nI as) Fo wo pa fa) H := hP
  refine lv_aload_n hx hb dX1_add_20 rfl (lv_at hl 0 rfl) ?_
  refine va_get (D := D) (ci := 1) (v := .ref (h 18)) (C := RX1) (T := TX1) (N := 5) hx hb hts hiX1 hown hK.1 hP 4 rfl rfl 2 (by decide) kf18 (fun _ h9 => h9) rfl dX1_add_21 ?_
  refine lv_aload_n hx hb dX1_add_24 rfl (lv_at hl 0 rfl) ?_
  refine va_get (D := D) (ci := 1) (v := .int (nI an)) (C := RX1) (T := TX1) (N := 5) hx hb hts hiX1 hown hK.1 hP 4 rfl rfl 3 (by decide) kf21 (fun _ h9 => h9) rfl dX1_add_25 ?_
  refine lv_iload_n hx hb dX1_add_28 rfl (lv_at hl 3 rfl) ?_
  refine ga_ist hx hb hK hP (sl_D hh) hS 18 rfl an (rfl) (by omega) (by decide) dX1_add_29 (fun H locs hP hS => ?_)
  have hP : va_P D kC (sl_W cI cJ h (nI n) F Wt Sz Nu Mb (nI k) G Wk To Sl Ri (nI f) (nI b) (upd oT an t) (upd oS an u) (upd oF an v) (nI an) (nI as) Fo wo pa fa) H := hP
  refine lv_aload_n hx hb dX1_add_30 rfl (lv_at hl 0 rfl) ?_
  refine lv_aload_n hx hb dX1_add_31 rfl (lv_at hl 0 rfl) ?_
  refine va_get (D := D) (ci := 1) (v := .int (nI an)) (C := RX1) (T := TX1) (N := 5) hx hb hts hiX1 hown hK.1 hP 4 rfl rfl 3 (by decide) kf21 (fun _ h9 => h9) rfl dX1_add_32 ?_
  refine lv_iconst (v := 1) hx hb dX1_add_35 (by decide) ?_
  refine lv_iadd hx hb dX1_add_36 ?_
  refine tp_i (y := nI (an + 1)) (nI_add an 1) ?_
  refine lv_bipush (v := 20) hx hb dX1_add_37 (by decide) ?_
  refine lv_irem hx hb dX1_add_39 (by decide) ?_
  refine tp_i (y := nI ((an + 1) % 20)) (pk_rem (by omega) (by decide) (by decide)) ?_
  refine va_put (D := D) (ci := 1) (v := .int (nI ((an + 1) % 20))) (ty := .int) (C := RX1) (T := TX1) (N := 5) hx hb hts hiX1 tyX1 tyX1_ok nmX1 hown hK.1 hP (sl_D hh) hS 4 rfl rfl 3 (by decide) kf21 (fun _ h9 => h9) rfl (by decide +kernel) rfl rfl (Nat.le_of_ble_eq_true rfl) dX1_add_40 (fun H locs hP _ hS => ?_)
  have hP : va_P D kC (sl_W cI cJ h (nI n) F Wt Sz Nu Mb (nI k) G Wk To Sl Ri (nI f) (nI b) (upd oT an t) (upd oS an u) (upd oF an v) (nI ((an + 1) % 20)) (nI as) Fo wo pa fa) H := hP
  refine lv_aload_n hx hb dX1_add_43 rfl (lv_at hl 0 rfl) ?_
  refine lv_aload_n hx hb dX1_add_44 rfl (lv_at hl 0 rfl) ?_
  refine va_get (D := D) (ci := 1) (v := .int (nI as)) (C := RX1) (T := TX1) (N := 5) hx hb hts hiX1 hown hK.1 hP 4 rfl rfl 4 (by decide) kf25 (fun _ h9 => h9) rfl dX1_add_45 ?_
  refine lv_iconst (v := 1) hx hb dX1_add_48 (by decide) ?_
  refine lv_iadd hx hb dX1_add_49 ?_
  refine tp_i (y := nI (as + 1)) (nI_add as 1) ?_
  refine lv_bipush (v := 20) hx hb dX1_add_50 (by decide) ?_
  refine va_mmin hx hb (hml.trans hl.1.symm) hown km1 km2 km3 km4 (Nat.le_of_ble_eq_true rfl) (Nat.le_of_ble_eq_true rfl) (Nat.zero_le _) (Nat.zero_le _) dX1_add_52 ?_
  refine tp_i (y := nI (min (as + 1) 20)) (mn_nI (a := as + 1) (b := 20) (by omega) (by omega)) ?_
  refine va_put (D := D) (ci := 1) (v := .int (nI (min (as + 1) 20))) (ty := .int) (C := RX1) (T := TX1) (N := 5) hx hb hts hiX1 tyX1 tyX1_ok nmX1 hown hK.1 hP (sl_D hh) hS 4 rfl rfl 4 (by decide) kf25 (fun _ h9 => h9) rfl (by decide +kernel) rfl rfl (Nat.le_of_ble_eq_true rfl) dX1_add_55 (fun H locs hP _ hS => ?_)
  have hP : va_P D kC (sl_W cI cJ h (nI n) F Wt Sz Nu Mb (nI k) G Wk To Sl Ri (nI f) (nI b) (upd oT an t) (upd oS an u) (upd oF an v) (nI ((an + 1) % 20)) (nI (min (as + 1) 20)) Fo wo pa fa) H := hP
  exact W.vret hx hb hr (fun t9 ht _ => ⟨rfl, by rw [ht]; exact hP, hS.F ht⟩) hS.2.2 dX1_add_58
theorem sw_X1_tell_31 (x : Int32) : (Op.lookupswitch.offset [(0, 25), (1, 34)] 43 x.toInt = 43 ∧ ¬ x = 0 ∧ ¬ x = 1) ∨ x = 0 ∨ x = 1 := by
  by_cases h0 : x = 0
  · exact Or.inr (Or.inl <| h0)
  by_cases h1 : x = 1
  · exact Or.inr (Or.inr <| h1)
  refine Or.inl ⟨?_, h0, h1⟩
  have hz : ∀ v : Int32, ¬ x = v → ¬ v.toInt = x.toInt := fun v h h2 => h (Int32.toInt_inj.mp h2.symm)
  have z0 : ¬ (0 : Int) = x.toInt := hz 0 h0
  have y0 : ((0 : Int) == x.toInt) = false := by simpa using z0
  have z1 : ¬ (1 : Int) = x.toInt := hz 1 h1
  have y1 : ((1 : Int) == x.toInt) = false := by simpa using z1
  simp [Op.lookupswitch.offset, List.find?, y0, z0, y1, z1]
set_option maxHeartbeats 4000000 in
set_option maxRecDepth 100000 in
theorem c_X1_tell (hh : ad_ok h 20) (ha : an < 20) (hs : as ≤ 20) (j : Nat) (hj : j < as) (wh : Int32) : Met l yX1_tell wsX1_tell ({ frames := 0, cells := 0, slots := 0, locals := 0 }) (wd_P D cI cJ [.ref (h 4), .int (nI j), .int wh] (sl_W cI cJ h (nI n) F Wt Sz Nu Mb (nI k) G Wk To Sl Ri (nI f) (nI b) oT oS oF (nI an) (nI as) Fo wo pa fa)) (pu_Q (some (.int ((if wh = 0 then oT else if wh = 1 then oS else oF) ((an + 19 - j) % 20))))) 0 0 (fun _ => False) := by
  refine Met.ofW (cc := cX1_tell) (maxL := 4) (ret := (some .int)) (by decide) rfl ?_
  intro p e s m args below meth c s₁ B hml hv
  obtain ⟨rfl, hP, hK⟩ := hv
  have hx := B.exec
  have hb := B.bytes
  have hr := B.returns
  have hts := atoms_spec (ws := wsX1_tell) B.pre
  have hown : s.vm.findClass RX1 = some m.cls := findClass_of_methodNamed B.named
  have hlocks := B.notSynchronized
  have hiX1 : ∀ w ∈ u_ws RX1 TX1 5, w ∈ wsX1_tell := by decide +kernel
  have kf25 := hts (.fieldLink RX1 25 "SortingLine$Side" "size" "I") (by decide +kernel)
  have kf21 := hts (.fieldLink RX1 21 "SortingLine$Side" "next" "I") (by decide +kernel)
  have kf18 := hts (.fieldLink RX1 18 "SortingLine$Side" "ofFindings" "[I") (by decide +kernel)
  have kf9 := hts (.fieldLink RX1 9 "SortingLine$Side" "ofThings" "[I") (by decide +kernel)
  have kf15 := hts (.fieldLink RX1 15 "SortingLine$Side" "ofStations" "[I") (by decide +kernel)
  have hl := lv_entry ([.ref (h 4), .int (nI j), .int wh]) (n := 4) (Nat.le_of_ble_eq_true rfl)
  rw [lg_entry_eq]
  generalize (lg_sl ([.ref (h 4), .int (nI j), .int wh]) ++ List.replicate (4 - (lg_sl ([.ref (h 4), .int (nI j), .int wh])).length) Slot.unset).toArray = ls at hl ⊢
  have hl : lv_has ls 4 [(0, .ref (h 4)), (1, .int (nI j)), (2, .int wh)] := hl
  refine lv_iload_n hx hb dX1_tell_0 rfl (lv_at hl 1 rfl) ?_
  refine lv_if_lt (tgt := 12) hx hb dX1_tell_1 (by decide) (fun h9 => absurd h9 (nI_pos (by omega))) (fun _ => ?_)
  refine lv_iload_n hx hb dX1_tell_4 rfl (lv_at hl 1 rfl) ?_
  refine lv_aload_n hx hb dX1_tell_5 rfl (lv_at hl 0 rfl) ?_
  refine va_get (D := D) (ci := 1) (v := .int (nI as)) (C := RX1) (T := TX1) (N := 5) hx hb hts hiX1 hown hK.1 hP 4 rfl rfl 4 (by decide) kf25 (fun _ h9 => h9) rfl dX1_tell_6 ?_
  refine lv_icmp_lt (tgt := 15) hx hb dX1_tell_9 (by decide) (fun _ => ?_) (fun h9 => absurd (nI_lt hj (by omega)) h9)
  refine lv_aload_n hx hb dX1_tell_15 rfl (lv_at hl 0 rfl) ?_
  refine va_get (D := D) (ci := 1) (v := .int (nI an)) (C := RX1) (T := TX1) (N := 5) hx hb hts hiX1 hown hK.1 hP 4 rfl rfl 3 (by decide) kf21 (fun _ h9 => h9) rfl dX1_tell_16 ?_
  refine lv_iconst (v := 1) hx hb dX1_tell_19 (by decide) ?_
  refine lv_isub hx hb dX1_tell_20 ?_
  refine lv_iload_n hx hb dX1_tell_21 rfl (lv_at hl 1 rfl) ?_
  refine lv_isub hx hb dX1_tell_22 ?_
  refine lv_bipush (v := 20) hx hb dX1_tell_23 (by decide) ?_
  refine lv_iadd hx hb dX1_tell_25 ?_
  refine tp_i (y := nI (an + 19 - j)) (sd_ix ha (by omega)) ?_
  refine lv_bipush (v := 20) hx hb dX1_tell_26 (by decide) ?_
  refine lv_irem hx hb dX1_tell_28 (by decide) ?_
  refine tp_i (y := nI ((an + 19 - j) % 20)) (pk_rem (by omega) (by decide) (by decide)) ?_
  refine lv_istore_n (lv' := [(3, .int (nI ((an + 19 - j) % 20))), (0, .ref (h 4)), (1, .int (nI j)), (2, .int wh)]) hx hb dX1_tell_29 rfl hl (by decide) rfl (fun ls hl => ?_)
  refine lv_iload_n hx hb dX1_tell_30 rfl (lv_at hl 3 rfl) ?_
  rcases (sw_X1_tell_31 wh) with ho31 | rfl | rfl
  · skip
    refine lv_lookup (tgt := 74) hx hb dX1_tell_31 (by decide) ho31.1 (by decide) ?_
    refine lv_aload_n hx hb dX1_tell_74 rfl (lv_at hl 1 rfl) ?_
    refine va_get (D := D) (ci := 1) (v := .ref (h 18)) (C := RX1) (T := TX1) (N := 5) hx hb hts hiX1 hown hK.1 hP 4 rfl rfl 2 (by decide) kf18 (fun _ h9 => h9) rfl dX1_tell_75 ?_
    refine lv_iload_n hx hb dX1_tell_78 rfl (lv_at hl 0 rfl) ?_
    refine ga_ild hx hb hK hP 18 rfl ((an + 19 - j) % 20) (rfl) (by omega) (by decide) dX1_tell_79 ?_
    exact W.iret (v := oF ((an + 19 - j) % 20)) hx hb hr (fun t9 ht _ => ⟨congrArg (fun z => Outcome.returned (some (Value.int z))) (by simp [ho31.2]), ht⟩) (fun _ h9 => nomatch h9) dX1_tell_80
  · skip
    refine lv_lookup (off := 25) (tgt := 56) hx hb dX1_tell_31 (by decide) (by decide) (by decide) ?_
    refine lv_aload_n hx hb dX1_tell_56 rfl (lv_at hl 1 rfl) ?_
    refine va_get (D := D) (ci := 1) (v := .ref (h 16)) (C := RX1) (T := TX1) (N := 5) hx hb hts hiX1 hown hK.1 hP 4 rfl rfl 0 (by decide) kf9 (fun _ h9 => h9) rfl dX1_tell_57 ?_
    refine lv_iload_n hx hb dX1_tell_60 rfl (lv_at hl 0 rfl) ?_
    refine ga_ild hx hb hK hP 16 rfl ((an + 19 - j) % 20) (rfl) (by omega) (by decide) dX1_tell_61 ?_
    refine lv_goto (tgt := 80) hx hb dX1_tell_62 (by decide) ?_
    exact W.iret (v := oT ((an + 19 - j) % 20)) hx hb hr (fun t9 ht _ => ⟨congrArg (fun z => Outcome.returned (some (Value.int z))) (by simp []), ht⟩) (fun _ h9 => nomatch h9) dX1_tell_80
  · skip
    refine lv_lookup (off := 34) (tgt := 65) hx hb dX1_tell_31 (by decide) (by decide) (by decide) ?_
    refine lv_aload_n hx hb dX1_tell_65 rfl (lv_at hl 1 rfl) ?_
    refine va_get (D := D) (ci := 1) (v := .ref (h 17)) (C := RX1) (T := TX1) (N := 5) hx hb hts hiX1 hown hK.1 hP 4 rfl rfl 1 (by decide) kf15 (fun _ h9 => h9) rfl dX1_tell_66 ?_
    refine lv_iload_n hx hb dX1_tell_69 rfl (lv_at hl 0 rfl) ?_
    refine ga_ild hx hb hK hP 17 rfl ((an + 19 - j) % 20) (rfl) (by omega) (by decide) dX1_tell_70 ?_
    refine lv_goto (tgt := 80) hx hb dX1_tell_71 (by decide) ?_
    exact W.iret (v := oS ((an + 19 - j) % 20)) hx hb hr (fun t9 ht _ => ⟨congrArg (fun z => Outcome.returned (some (Value.int z))) (by simp []), ht⟩) (fun _ h9 => nomatch h9) dX1_tell_80
set_option maxHeartbeats 4000000 in
set_option maxRecDepth 100000 in
theorem c_X1_tellN (hh : ad_ok h 20) (t wh : Int32) (ht9 : p_in t (nI as) = false) : Met l yX1_tell wsX1_tell ({ frames := 0, cells := 0, slots := 0, locals := 0 }) (wd_P D cI cJ [.ref (h 4), .int t, .int wh] (sl_W cI cJ h (nI n) F Wt Sz Nu Mb (nI k) G Wk To Sl Ri (nI f) (nI b) oT oS oF (nI an) (nI as) Fo wo pa fa)) (pu_Q (some (.int (-5)))) 0 0 (fun _ => False) := by
  refine Met.ofW (cc := cX1_tell) (maxL := 4) (ret := (some .int)) (by decide) rfl ?_
  intro p e s m args below meth c s₁ B hml hv
  obtain ⟨rfl, hP, hK⟩ := hv
  have hx := B.exec
  have hb := B.bytes
  have hr := B.returns
  have hts := atoms_spec (ws := wsX1_tell) B.pre
  have hown : s.vm.findClass RX1 = some m.cls := findClass_of_methodNamed B.named
  have hlocks := B.notSynchronized
  have hiX1 : ∀ w ∈ u_ws RX1 TX1 5, w ∈ wsX1_tell := by decide +kernel
  have kf25 := hts (.fieldLink RX1 25 "SortingLine$Side" "size" "I") (by decide +kernel)
  have hl := lv_entry ([.ref (h 4), .int t, .int wh]) (n := 4) (Nat.le_of_ble_eq_true rfl)
  rw [lg_entry_eq]
  generalize (lg_sl ([.ref (h 4), .int t, .int wh]) ++ List.replicate (4 - (lg_sl ([.ref (h 4), .int t, .int wh])).length) Slot.unset).toArray = ls at hl ⊢
  have hl : lv_has ls 4 [(0, .ref (h 4)), (1, .int t), (2, .int wh)] := hl
  refine lv_iload_n hx hb dX1_tell_0 rfl (lv_at hl 1 rfl) ?_
  refine lv_if_lt (tgt := 12) hx hb dX1_tell_1 (by decide) (fun c1 => ?_) (fun c1 => ?_)
  · skip
    refine lv_bipush (v := (-5)) hx hb dX1_tell_12 (by decide) ?_
    exact W.iret (v := (-5)) hx hb hr (fun t9 ht _ => ⟨congrArg (fun z => Outcome.returned (some (Value.int z))) (rfl), ht⟩) (fun _ h9 => nomatch h9) dX1_tell_14
  · skip
    refine lv_iload_n hx hb dX1_tell_4 rfl (lv_at hl 1 rfl) ?_
    refine lv_aload_n hx hb dX1_tell_5 rfl (lv_at hl 0 rfl) ?_
    refine va_get (D := D) (ci := 1) (v := .int (nI as)) (C := RX1) (T := TX1) (N := 5) hx hb hts hiX1 hown hK.1 hP 4 rfl rfl 4 (by decide) kf25 (fun _ h9 => h9) rfl dX1_tell_6 ?_
    refine lv_icmp_lt (tgt := 15) hx hb dX1_tell_9 (by decide) (fun c9 => ?_) (fun c9 => ?_)
    · skip
      exact absurd (p_in_ok (z := nI as) c1 (fun h9 => absurd c9 (by rw [Int32.lt_iff_toInt_lt]; rw [Int32.le_iff_toInt_le] at h9; omega))) (by rw [ht9]; decide)
    · skip
      refine lv_bipush (v := (-5)) hx hb dX1_tell_12 (by decide) ?_
      exact W.iret (v := (-5)) hx hb hr (fun t9 ht _ => ⟨congrArg (fun z => Outcome.returned (some (Value.int z))) (rfl), ht⟩) (fun _ h9 => nomatch h9) dX1_tell_14
set_option maxHeartbeats 4000000 in
set_option maxRecDepth 100000 in
theorem c_X1_forget (hh : ad_ok h 20) : Met l yX1_forget wsX1_forget ({ frames := 0, cells := 0, slots := 0, locals := 0 }) (wd_P D cI cJ [.ref (h 4)] (sl_W cI cJ h (nI n) F Wt Sz Nu Mb (nI k) G Wk To Sl Ri (nI f) (nI b) oT oS oF (nI an) (nI as) Fo wo pa fa)) (mu_Q D (ad_A h 20) none (sl_W cI cJ h (nI n) F Wt Sz Nu Mb (nI k) G Wk To Sl Ri (nI f) (nI b) oT oS oF 0 0 Fo wo pa fa)) 0 0 (ad_A h 20) := by
  refine Met.ofW (cc := cX1_forget) (maxL := 1) (ret := none) (by decide) rfl ?_
  intro p e s m args below meth c s₁ B hml hv
  obtain ⟨rfl, hP, hK⟩ := hv
  have hx := B.exec
  have hb := B.bytes
  have hr := B.returns
  have hts := atoms_spec (ws := wsX1_forget) B.pre
  have hown : s.vm.findClass RX1 = some m.cls := findClass_of_methodNamed B.named
  have hlocks := B.notSynchronized
  have hiX1 : ∀ w ∈ u_ws RX1 TX1 5, w ∈ wsX1_forget := by decide +kernel
  have kf21 := hts (.fieldLink RX1 21 "SortingLine$Side" "next" "I") (by decide +kernel)
  have kf25 := hts (.fieldLink RX1 25 "SortingLine$Side" "size" "I") (by decide +kernel)
  have hS : va_S (ad_A h 20) s.heap s.heap [] := va_S.rf
  have hl := lv_entry ([.ref (h 4)]) (n := 1) (Nat.le_of_ble_eq_true rfl)
  rw [lg_entry_eq]
  generalize (lg_sl ([.ref (h 4)]) ++ List.replicate (1 - (lg_sl ([.ref (h 4)])).length) Slot.unset).toArray = ls at hl ⊢
  have hl : lv_has ls 1 [(0, .ref (h 4))] := hl
  refine lv_aload_n hx hb dX1_forget_0 rfl (lv_at hl 0 rfl) ?_
  refine lv_iconst (v := 0) hx hb dX1_forget_1 (by decide) ?_
  refine va_put (D := D) (ci := 1) (v := .int 0) (ty := .int) (C := RX1) (T := TX1) (N := 5) hx hb hts hiX1 tyX1 tyX1_ok nmX1 hown hK.1 hP (sl_D hh) hS 4 rfl rfl 3 (by decide) kf21 (fun _ h9 => h9) rfl (by decide +kernel) rfl rfl (Nat.le_of_ble_eq_true rfl) dX1_forget_2 (fun H locs hP _ hS => ?_)
  have hP : va_P D kC (sl_W cI cJ h (nI n) F Wt Sz Nu Mb (nI k) G Wk To Sl Ri (nI f) (nI b) oT oS oF 0 (nI as) Fo wo pa fa) H := hP
  refine lv_aload_n hx hb dX1_forget_5 rfl (lv_at hl 0 rfl) ?_
  refine lv_iconst (v := 0) hx hb dX1_forget_6 (by decide) ?_
  refine va_put (D := D) (ci := 1) (v := .int 0) (ty := .int) (C := RX1) (T := TX1) (N := 5) hx hb hts hiX1 tyX1 tyX1_ok nmX1 hown hK.1 hP (sl_D hh) hS 4 rfl rfl 4 (by decide) kf25 (fun _ h9 => h9) rfl (by decide +kernel) rfl rfl (Nat.le_of_ble_eq_true rfl) dX1_forget_7 (fun H locs hP _ hS => ?_)
  have hP : va_P D kC (sl_W cI cJ h (nI n) F Wt Sz Nu Mb (nI k) G Wk To Sl Ri (nI f) (nI b) oT oS oF 0 0 Fo wo pa fa) H := hP
  exact W.vret hx hb hr (fun t9 ht _ => ⟨rfl, by rw [ht]; exact hP, hS.F ht⟩) hS.2.2 dX1_forget_10
set_option maxHeartbeats 4000000 in
set_option maxRecDepth 100000 in
theorem c_X3_addWorked (hh : ad_ok h 20) : Met l yX3_addWorked wsX3_addWorked ({ frames := 0, cells := 0, slots := 0, locals := 0 }) (wd_P D cI cJ [.ref (h 5)] (sl_W cI cJ h (nI n) F Wt Sz Nu Mb (nI k) G Wk To Sl Ri (nI f) (nI b) oT oS oF (nI an) (nI as) Fo wo pa fa)) (mu_Q D (ad_A h 20) none (sl_W cI cJ h (nI n) F Wt Sz Nu Mb (nI k) G Wk To Sl Ri (nI f) (nI b) oT oS oF (nI an) (nI as) Fo (wo + 1) pa fa)) 0 0 (ad_A h 20) := by
  refine Met.ofW (cc := cX3_addWorked) (maxL := 1) (ret := none) (by decide) rfl ?_
  intro p e s m args below meth c s₁ B hml hv
  obtain ⟨rfl, hP, hK⟩ := hv
  have hx := B.exec
  have hb := B.bytes
  have hr := B.returns
  have hts := atoms_spec (ws := wsX3_addWorked) B.pre
  have hown : s.vm.findClass RX3 = some m.cls := findClass_of_methodNamed B.named
  have hlocks := B.notSynchronized
  have hiX3 : ∀ w ∈ u_ws RX3 TX3 4, w ∈ wsX3_addWorked := by decide +kernel
  have kf15 := hts (.fieldLink RX3 15 "SortingLine$Tally" "worked" "I") (by decide +kernel)
  have hS : va_S (ad_A h 20) s.heap s.heap [] := va_S.rf
  have hl := lv_entry ([.ref (h 5)]) (n := 1) (Nat.le_of_ble_eq_true rfl)
  rw [lg_entry_eq]
  generalize (lg_sl ([.ref (h 5)]) ++ List.replicate (1 - (lg_sl ([.ref (h 5)])).length) Slot.unset).toArray = ls at hl ⊢
  have hl : lv_has ls 1 [(0, .ref (h 5))] := hl
  refine lv_aload_n hx hb dX3_addWorked_0 rfl (lv_at hl 0 rfl) ?_
  refine lv_dup hx hb dX3_addWorked_1 rfl ?_
  refine va_get (D := D) (ci := 3) (v := .int wo) (C := RX3) (T := TX3) (N := 4) hx hb hts hiX3 hown hK.1 hP 5 rfl rfl 1 (by decide) kf15 (fun _ h9 => h9) rfl dX3_addWorked_2 ?_
  refine lv_iconst (v := 1) hx hb dX3_addWorked_5 (by decide) ?_
  refine lv_iadd hx hb dX3_addWorked_6 ?_
  refine va_put (D := D) (ci := 3) (v := .int (wo + 1)) (ty := .int) (C := RX3) (T := TX3) (N := 4) hx hb hts hiX3 tyX3 tyX3_ok nmX3 hown hK.1 hP (sl_D hh) hS 5 rfl rfl 1 (by decide) kf15 (fun _ h9 => h9) rfl (by decide +kernel) rfl rfl (Nat.le_of_ble_eq_true rfl) dX3_addWorked_7 (fun H locs hP _ hS => ?_)
  have hP : va_P D kC (sl_W cI cJ h (nI n) F Wt Sz Nu Mb (nI k) G Wk To Sl Ri (nI f) (nI b) oT oS oF (nI an) (nI as) Fo (wo + 1) pa fa) H := hP
  exact W.vret hx hb hr (fun t9 ht _ => ⟨rfl, by rw [ht]; exact hP, hS.F ht⟩) hS.2.2 dX3_addWorked_10
set_option maxHeartbeats 4000000 in
set_option maxRecDepth 100000 in
theorem c_X3_addPassed (hh : ad_ok h 20) : Met l yX3_addPassed wsX3_addPassed ({ frames := 0, cells := 0, slots := 0, locals := 0 }) (wd_P D cI cJ [.ref (h 5)] (sl_W cI cJ h (nI n) F Wt Sz Nu Mb (nI k) G Wk To Sl Ri (nI f) (nI b) oT oS oF (nI an) (nI as) Fo wo pa fa)) (mu_Q D (ad_A h 20) none (sl_W cI cJ h (nI n) F Wt Sz Nu Mb (nI k) G Wk To Sl Ri (nI f) (nI b) oT oS oF (nI an) (nI as) Fo wo (pa + 1) fa)) 0 0 (ad_A h 20) := by
  refine Met.ofW (cc := cX3_addPassed) (maxL := 1) (ret := none) (by decide) rfl ?_
  intro p e s m args below meth c s₁ B hml hv
  obtain ⟨rfl, hP, hK⟩ := hv
  have hx := B.exec
  have hb := B.bytes
  have hr := B.returns
  have hts := atoms_spec (ws := wsX3_addPassed) B.pre
  have hown : s.vm.findClass RX3 = some m.cls := findClass_of_methodNamed B.named
  have hlocks := B.notSynchronized
  have hiX3 : ∀ w ∈ u_ws RX3 TX3 4, w ∈ wsX3_addPassed := by decide +kernel
  have kf19 := hts (.fieldLink RX3 19 "SortingLine$Tally" "passed" "I") (by decide +kernel)
  have hS : va_S (ad_A h 20) s.heap s.heap [] := va_S.rf
  have hl := lv_entry ([.ref (h 5)]) (n := 1) (Nat.le_of_ble_eq_true rfl)
  rw [lg_entry_eq]
  generalize (lg_sl ([.ref (h 5)]) ++ List.replicate (1 - (lg_sl ([.ref (h 5)])).length) Slot.unset).toArray = ls at hl ⊢
  have hl : lv_has ls 1 [(0, .ref (h 5))] := hl
  refine lv_aload_n hx hb dX3_addPassed_0 rfl (lv_at hl 0 rfl) ?_
  refine lv_dup hx hb dX3_addPassed_1 rfl ?_
  refine va_get (D := D) (ci := 3) (v := .int pa) (C := RX3) (T := TX3) (N := 4) hx hb hts hiX3 hown hK.1 hP 5 rfl rfl 2 (by decide) kf19 (fun _ h9 => h9) rfl dX3_addPassed_2 ?_
  refine lv_iconst (v := 1) hx hb dX3_addPassed_5 (by decide) ?_
  refine lv_iadd hx hb dX3_addPassed_6 ?_
  refine va_put (D := D) (ci := 3) (v := .int (pa + 1)) (ty := .int) (C := RX3) (T := TX3) (N := 4) hx hb hts hiX3 tyX3 tyX3_ok nmX3 hown hK.1 hP (sl_D hh) hS 5 rfl rfl 2 (by decide) kf19 (fun _ h9 => h9) rfl (by decide +kernel) rfl rfl (Nat.le_of_ble_eq_true rfl) dX3_addPassed_7 (fun H locs hP _ hS => ?_)
  have hP : va_P D kC (sl_W cI cJ h (nI n) F Wt Sz Nu Mb (nI k) G Wk To Sl Ri (nI f) (nI b) oT oS oF (nI an) (nI as) Fo wo (pa + 1) fa) H := hP
  exact W.vret hx hb hr (fun t9 ht _ => ⟨rfl, by rw [ht]; exact hP, hS.F ht⟩) hS.2.2 dX3_addPassed_10
set_option maxHeartbeats 4000000 in
set_option maxRecDepth 100000 in
theorem c_X3_addFailed (hh : ad_ok h 20) : Met l yX3_addFailed wsX3_addFailed ({ frames := 0, cells := 0, slots := 0, locals := 0 }) (wd_P D cI cJ [.ref (h 5)] (sl_W cI cJ h (nI n) F Wt Sz Nu Mb (nI k) G Wk To Sl Ri (nI f) (nI b) oT oS oF (nI an) (nI as) Fo wo pa fa)) (mu_Q D (ad_A h 20) none (sl_W cI cJ h (nI n) F Wt Sz Nu Mb (nI k) G Wk To Sl Ri (nI f) (nI b) oT oS oF (nI an) (nI as) Fo wo pa (fa + 1))) 0 0 (ad_A h 20) := by
  refine Met.ofW (cc := cX3_addFailed) (maxL := 1) (ret := none) (by decide) rfl ?_
  intro p e s m args below meth c s₁ B hml hv
  obtain ⟨rfl, hP, hK⟩ := hv
  have hx := B.exec
  have hb := B.bytes
  have hr := B.returns
  have hts := atoms_spec (ws := wsX3_addFailed) B.pre
  have hown : s.vm.findClass RX3 = some m.cls := findClass_of_methodNamed B.named
  have hlocks := B.notSynchronized
  have hiX3 : ∀ w ∈ u_ws RX3 TX3 4, w ∈ wsX3_addFailed := by decide +kernel
  have kf22 := hts (.fieldLink RX3 22 "SortingLine$Tally" "failed" "I") (by decide +kernel)
  have hS : va_S (ad_A h 20) s.heap s.heap [] := va_S.rf
  have hl := lv_entry ([.ref (h 5)]) (n := 1) (Nat.le_of_ble_eq_true rfl)
  rw [lg_entry_eq]
  generalize (lg_sl ([.ref (h 5)]) ++ List.replicate (1 - (lg_sl ([.ref (h 5)])).length) Slot.unset).toArray = ls at hl ⊢
  have hl : lv_has ls 1 [(0, .ref (h 5))] := hl
  refine lv_aload_n hx hb dX3_addFailed_0 rfl (lv_at hl 0 rfl) ?_
  refine lv_dup hx hb dX3_addFailed_1 rfl ?_
  refine va_get (D := D) (ci := 3) (v := .int fa) (C := RX3) (T := TX3) (N := 4) hx hb hts hiX3 hown hK.1 hP 5 rfl rfl 3 (by decide) kf22 (fun _ h9 => h9) rfl dX3_addFailed_2 ?_
  refine lv_iconst (v := 1) hx hb dX3_addFailed_5 (by decide) ?_
  refine lv_iadd hx hb dX3_addFailed_6 ?_
  refine va_put (D := D) (ci := 3) (v := .int (fa + 1)) (ty := .int) (C := RX3) (T := TX3) (N := 4) hx hb hts hiX3 tyX3 tyX3_ok nmX3 hown hK.1 hP (sl_D hh) hS 5 rfl rfl 3 (by decide) kf22 (fun _ h9 => h9) rfl (by decide +kernel) rfl rfl (Nat.le_of_ble_eq_true rfl) dX3_addFailed_7 (fun H locs hP _ hS => ?_)
  have hP : va_P D kC (sl_W cI cJ h (nI n) F Wt Sz Nu Mb (nI k) G Wk To Sl Ri (nI f) (nI b) oT oS oF (nI an) (nI as) Fo wo pa (fa + 1)) H := hP
  exact W.vret hx hb hr (fun t9 ht _ => ⟨rfl, by rw [ht]; exact hP, hS.F ht⟩) hS.2.2 dX3_addFailed_10
set_option maxHeartbeats 4000000 in
set_option maxRecDepth 100000 in
theorem c_X3_addFinding (hh : ad_ok h 20) (x : Nat) (h1 : 1 ≤ x) (h5 : x ≤ 5) : Met l yX3_addFinding wsX3_addFinding ({ frames := 0, cells := 0, slots := 0, locals := 0 }) (wd_P D cI cJ [.ref (h 5), .int (nI x)] (sl_W cI cJ h (nI n) F Wt Sz Nu Mb (nI k) G Wk To Sl Ri (nI f) (nI b) oT oS oF (nI an) (nI as) Fo wo pa fa)) (mu_Q D (ad_A h 20) none (sl_W cI cJ h (nI n) F Wt Sz Nu Mb (nI k) G Wk To Sl Ri (nI f) (nI b) oT oS oF (nI an) (nI as) (upd Fo x (Fo x + 1)) wo pa fa)) 0 0 (ad_A h 20) := by
  refine Met.ofW (cc := cX3_addFinding) (maxL := 2) (ret := none) (by decide) rfl ?_
  intro p e s m args below meth c s₁ B hml hv
  obtain ⟨rfl, hP, hK⟩ := hv
  have hx := B.exec
  have hb := B.bytes
  have hr := B.returns
  have hts := atoms_spec (ws := wsX3_addFinding) B.pre
  have hown : s.vm.findClass RX3 = some m.cls := findClass_of_methodNamed B.named
  have hlocks := B.notSynchronized
  have hiX3 : ∀ w ∈ u_ws RX3 TX3 4, w ∈ wsX3_addFinding := by decide +kernel
  have kf9 := hts (.fieldLink RX3 9 "SortingLine$Tally" "found" "[I") (by decide +kernel)
  have hS : va_S (ad_A h 20) s.heap s.heap [] := va_S.rf
  have hl := lv_entry ([.ref (h 5), .int (nI x)]) (n := 2) (Nat.le_of_ble_eq_true rfl)
  rw [lg_entry_eq]
  generalize (lg_sl ([.ref (h 5), .int (nI x)]) ++ List.replicate (2 - (lg_sl ([.ref (h 5), .int (nI x)])).length) Slot.unset).toArray = ls at hl ⊢
  have hl : lv_has ls 2 [(0, .ref (h 5)), (1, .int (nI x))] := hl
  refine lv_iload_n hx hb dX3_addFinding_0 rfl (lv_at hl 1 rfl) ?_
  refine lv_iconst (v := 1) hx hb dX3_addFinding_1 (by decide) ?_
  refine lv_icmp_lt (tgt := 20) hx hb dX3_addFinding_2 (by decide) (fun h9 => absurd h9 (nI_nlt (a := x) (b := 1) h1 (by omega))) (fun _ => ?_)
  refine lv_iload_n hx hb dX3_addFinding_5 rfl (lv_at hl 1 rfl) ?_
  refine lv_iconst (v := 5) hx hb dX3_addFinding_6 (by decide) ?_
  refine lv_icmp_gt (tgt := 20) hx hb dX3_addFinding_7 (by decide) (fun h9 => absurd h9 (nI_nlt (a := 5) (b := x) h5 (by decide))) (fun _ => ?_)
  refine lv_aload_n hx hb dX3_addFinding_10 rfl (lv_at hl 0 rfl) ?_
  refine va_get (D := D) (ci := 3) (v := .ref (h 19)) (C := RX3) (T := TX3) (N := 4) hx hb hts hiX3 hown hK.1 hP 5 rfl rfl 0 (by decide) kf9 (fun _ h9 => h9) rfl dX3_addFinding_11 ?_
  refine lv_iload_n hx hb dX3_addFinding_14 rfl (lv_at hl 1 rfl) ?_
  refine lv_dup2_11 hx hb dX3_addFinding_15 rfl rfl ?_
  refine ga_ild hx hb hK hP 19 rfl x (rfl) (by omega) (by decide) dX3_addFinding_16 ?_
  refine lv_iconst (v := 1) hx hb dX3_addFinding_17 (by decide) ?_
  refine lv_iadd hx hb dX3_addFinding_18 ?_
  refine ga_ist hx hb hK hP (sl_D hh) hS 19 rfl x (rfl) (by omega) (by decide) dX3_addFinding_19 (fun H locs hP hS => ?_)
  have hP : va_P D kC (sl_W cI cJ h (nI n) F Wt Sz Nu Mb (nI k) G Wk To Sl Ri (nI f) (nI b) oT oS oF (nI an) (nI as) (upd Fo x ((Fo x) + 1)) wo pa fa) H := hP
  exact W.vret hx hb hr (fun t9 ht _ => ⟨rfl, by rw [ht]; exact hP, hS.F ht⟩) hS.2.2 dX3_addFinding_20
set_option maxHeartbeats 4000000 in
set_option maxRecDepth 100000 in
theorem c_X3_foundOf (hh : ad_ok h 20) (x : Nat) (h1 : 1 ≤ x) (h5 : x ≤ 5) : Met l yX3_foundOf wsX3_foundOf ({ frames := 0, cells := 0, slots := 0, locals := 0 }) (wd_P D cI cJ [.ref (h 5), .int (nI x)] (sl_W cI cJ h (nI n) F Wt Sz Nu Mb (nI k) G Wk To Sl Ri (nI f) (nI b) oT oS oF (nI an) (nI as) Fo wo pa fa)) (pu_Q (some (.int (Fo x)))) 0 0 (fun _ => False) := by
  refine Met.ofW (cc := cX3_foundOf) (maxL := 2) (ret := (some .int)) (by decide) rfl ?_
  intro p e s m args below meth c s₁ B hml hv
  obtain ⟨rfl, hP, hK⟩ := hv
  have hx := B.exec
  have hb := B.bytes
  have hr := B.returns
  have hts := atoms_spec (ws := wsX3_foundOf) B.pre
  have hown : s.vm.findClass RX3 = some m.cls := findClass_of_methodNamed B.named
  have hlocks := B.notSynchronized
  have hiX3 : ∀ w ∈ u_ws RX3 TX3 4, w ∈ wsX3_foundOf := by decide +kernel
  have kf9 := hts (.fieldLink RX3 9 "SortingLine$Tally" "found" "[I") (by decide +kernel)
  have hl := lv_entry ([.ref (h 5), .int (nI x)]) (n := 2) (Nat.le_of_ble_eq_true rfl)
  rw [lg_entry_eq]
  generalize (lg_sl ([.ref (h 5), .int (nI x)]) ++ List.replicate (2 - (lg_sl ([.ref (h 5), .int (nI x)])).length) Slot.unset).toArray = ls at hl ⊢
  have hl : lv_has ls 2 [(0, .ref (h 5)), (1, .int (nI x))] := hl
  refine lv_iload_n hx hb dX3_foundOf_0 rfl (lv_at hl 1 rfl) ?_
  refine lv_iconst (v := 1) hx hb dX3_foundOf_1 (by decide) ?_
  refine lv_icmp_lt (tgt := 19) hx hb dX3_foundOf_2 (by decide) (fun h9 => absurd h9 (nI_nlt (a := x) (b := 1) h1 (by omega))) (fun _ => ?_)
  refine lv_iload_n hx hb dX3_foundOf_5 rfl (lv_at hl 1 rfl) ?_
  refine lv_iconst (v := 5) hx hb dX3_foundOf_6 (by decide) ?_
  refine lv_icmp_gt (tgt := 19) hx hb dX3_foundOf_7 (by decide) (fun h9 => absurd h9 (nI_nlt (a := 5) (b := x) h5 (by decide))) (fun _ => ?_)
  refine lv_aload_n hx hb dX3_foundOf_10 rfl (lv_at hl 0 rfl) ?_
  refine va_get (D := D) (ci := 3) (v := .ref (h 19)) (C := RX3) (T := TX3) (N := 4) hx hb hts hiX3 hown hK.1 hP 5 rfl rfl 0 (by decide) kf9 (fun _ h9 => h9) rfl dX3_foundOf_11 ?_
  refine lv_iload_n hx hb dX3_foundOf_14 rfl (lv_at hl 1 rfl) ?_
  refine ga_ild hx hb hK hP 19 rfl x (rfl) (by omega) (by decide) dX3_foundOf_15 ?_
  refine lv_goto (tgt := 20) hx hb dX3_foundOf_16 (by decide) ?_
  exact W.iret (v := Fo x) hx hb hr (fun t9 ht _ => ⟨congrArg (fun z => Outcome.returned (some (Value.int z))) (rfl), ht⟩) (fun _ h9 => nomatch h9) dX3_foundOf_20
set_option maxHeartbeats 4000000 in
set_option maxRecDepth 100000 in
theorem c_X3_forget (hh : ad_ok h 20) : Met l yX3_forget wsX3_forget ({ frames := 0, cells := 0, slots := 0, locals := 0 }) (wd_P D cI cJ [.ref (h 5)] (sl_W cI cJ h (nI n) F Wt Sz Nu Mb (nI k) G Wk To Sl Ri (nI f) (nI b) oT oS oF (nI an) (nI as) Fo wo pa fa)) (mu_Q D (ad_A h 20) none (sl_W cI cJ h (nI n) F Wt Sz Nu Mb (nI k) G Wk To Sl Ri (nI f) (nI b) oT oS oF (nI an) (nI as) (z6I Fo) 0 0 0)) 0 0 (ad_A h 20) := by
  refine Met.ofW (cc := cX3_forget) (maxL := 2) (ret := none) (by decide) rfl ?_
  intro p e s m args below meth c s₁ B hml hv
  obtain ⟨rfl, hP, hK⟩ := hv
  have hx := B.exec
  have hb := B.bytes
  have hr := B.returns
  have hts := atoms_spec (ws := wsX3_forget) B.pre
  have hown : s.vm.findClass RX3 = some m.cls := findClass_of_methodNamed B.named
  have hlocks := B.notSynchronized
  have hiX3 : ∀ w ∈ u_ws RX3 TX3 4, w ∈ wsX3_forget := by decide +kernel
  have kf15 := hts (.fieldLink RX3 15 "SortingLine$Tally" "worked" "I") (by decide +kernel)
  have kf19 := hts (.fieldLink RX3 19 "SortingLine$Tally" "passed" "I") (by decide +kernel)
  have kf22 := hts (.fieldLink RX3 22 "SortingLine$Tally" "failed" "I") (by decide +kernel)
  have kf9 := hts (.fieldLink RX3 9 "SortingLine$Tally" "found" "[I") (by decide +kernel)
  have hS : va_S (ad_A h 20) s.heap s.heap [] := va_S.rf
  have hl := lv_entry ([.ref (h 5)]) (n := 2) (Nat.le_of_ble_eq_true rfl)
  rw [lg_entry_eq]
  generalize (lg_sl ([.ref (h 5)]) ++ List.replicate (2 - (lg_sl ([.ref (h 5)])).length) Slot.unset).toArray = ls at hl ⊢
  have hl : lv_has ls 2 [(0, .ref (h 5))] := hl
  refine lv_aload_n hx hb dX3_forget_0 rfl (lv_at hl 0 rfl) ?_
  refine lv_iconst (v := 0) hx hb dX3_forget_1 (by decide) ?_
  refine va_put (D := D) (ci := 3) (v := .int 0) (ty := .int) (C := RX3) (T := TX3) (N := 4) hx hb hts hiX3 tyX3 tyX3_ok nmX3 hown hK.1 hP (sl_D hh) hS 5 rfl rfl 1 (by decide) kf15 (fun _ h9 => h9) rfl (by decide +kernel) rfl rfl (Nat.le_of_ble_eq_true rfl) dX3_forget_2 (fun H locs hP _ hS => ?_)
  have hP : va_P D kC (sl_W cI cJ h (nI n) F Wt Sz Nu Mb (nI k) G Wk To Sl Ri (nI f) (nI b) oT oS oF (nI an) (nI as) Fo 0 pa fa) H := hP
  refine lv_aload_n hx hb dX3_forget_5 rfl (lv_at hl 0 rfl) ?_
  refine lv_iconst (v := 0) hx hb dX3_forget_6 (by decide) ?_
  refine va_put (D := D) (ci := 3) (v := .int 0) (ty := .int) (C := RX3) (T := TX3) (N := 4) hx hb hts hiX3 tyX3 tyX3_ok nmX3 hown hK.1 hP (sl_D hh) hS 5 rfl rfl 2 (by decide) kf19 (fun _ h9 => h9) rfl (by decide +kernel) rfl rfl (Nat.le_of_ble_eq_true rfl) dX3_forget_7 (fun H locs hP _ hS => ?_)
  have hP : va_P D kC (sl_W cI cJ h (nI n) F Wt Sz Nu Mb (nI k) G Wk To Sl Ri (nI f) (nI b) oT oS oF (nI an) (nI as) Fo 0 0 fa) H := hP
  refine lv_aload_n hx hb dX3_forget_10 rfl (lv_at hl 0 rfl) ?_
  refine lv_iconst (v := 0) hx hb dX3_forget_11 (by decide) ?_
  refine va_put (D := D) (ci := 3) (v := .int 0) (ty := .int) (C := RX3) (T := TX3) (N := 4) hx hb hts hiX3 tyX3 tyX3_ok nmX3 hown hK.1 hP (sl_D hh) hS 5 rfl rfl 3 (by decide) kf22 (fun _ h9 => h9) rfl (by decide +kernel) rfl rfl (Nat.le_of_ble_eq_true rfl) dX3_forget_12 (fun H locs hP _ hS => ?_)
  have hP : va_P D kC (sl_W cI cJ h (nI n) F Wt Sz Nu Mb (nI k) G Wk To Sl Ri (nI f) (nI b) oT oS oF (nI an) (nI as) Fo 0 0 0) H := hP
  refine lv_iconst (v := 0) hx hb dX3_forget_15 (by decide) ?_
  refine lv_istore_n (lv' := [(1, .int 0), (0, .ref (h 5))]) hx hb dX3_forget_16 rfl hl (by decide) rfl (fun ls hl => ?_)
  refine lv_iload_n hx hb dX3_forget_17 rfl (lv_at hl 0 rfl) ?_
  refine lv_iconst (v := 5) hx hb dX3_forget_18 (by decide) ?_
  refine lv_icmp_gt (tgt := 35) hx hb dX3_forget_19 (by decide) (fun h9 => absurd h9 (by decide)) (fun _ => ?_)
  refine lv_aload_n hx hb dX3_forget_22 rfl (lv_at hl 1 rfl) ?_
  refine va_get (D := D) (ci := 3) (v := .ref (h 19)) (C := RX3) (T := TX3) (N := 4) hx hb hts hiX3 hown hK.1 hP 5 rfl rfl 0 (by decide) kf9 (fun _ h9 => h9) rfl dX3_forget_23 ?_
  refine lv_iload_n hx hb dX3_forget_26 rfl (lv_at hl 0 rfl) ?_
  refine lv_iconst (v := 0) hx hb dX3_forget_27 (by decide) ?_
  refine ga_ist hx hb hK hP (sl_D hh) hS 19 rfl 0 (by decide) (by omega) (by decide) dX3_forget_28 (fun H locs hP hS => ?_)
  have hP : va_P D kC (sl_W cI cJ h (nI n) F Wt Sz Nu Mb (nI k) G Wk To Sl Ri (nI f) (nI b) oT oS oF (nI an) (nI as) (upd Fo 0 0) 0 0 0) H := hP
  refine lv_iinc (v := 1) (lv' := [(1, .int 1), (0, .ref (h 5))]) hx hb dX3_forget_29 hl (k := 0) rfl (by decide) (by decide) rfl (fun ls hl => ?_)
  refine lv_goto (tgt := 17) hx hb dX3_forget_32 (by decide) ?_
  refine lv_iload_n hx hb dX3_forget_17 rfl (lv_at hl 0 rfl) ?_
  refine lv_iconst (v := 5) hx hb dX3_forget_18 (by decide) ?_
  refine lv_icmp_gt (tgt := 35) hx hb dX3_forget_19 (by decide) (fun h9 => absurd h9 (by decide)) (fun _ => ?_)
  refine lv_aload_n hx hb dX3_forget_22 rfl (lv_at hl 1 rfl) ?_
  refine va_get (D := D) (ci := 3) (v := .ref (h 19)) (C := RX3) (T := TX3) (N := 4) hx hb hts hiX3 hown hK.1 hP 5 rfl rfl 0 (by decide) kf9 (fun _ h9 => h9) rfl dX3_forget_23 ?_
  refine lv_iload_n hx hb dX3_forget_26 rfl (lv_at hl 0 rfl) ?_
  refine lv_iconst (v := 0) hx hb dX3_forget_27 (by decide) ?_
  refine ga_ist hx hb hK hP (sl_D hh) hS 19 rfl 1 (by decide) (by omega) (by decide) dX3_forget_28 (fun H locs hP hS => ?_)
  have hP : va_P D kC (sl_W cI cJ h (nI n) F Wt Sz Nu Mb (nI k) G Wk To Sl Ri (nI f) (nI b) oT oS oF (nI an) (nI as) (upd (upd Fo 0 0) 1 0) 0 0 0) H := hP
  refine lv_iinc (v := 2) (lv' := [(1, .int 2), (0, .ref (h 5))]) hx hb dX3_forget_29 hl (k := 0) rfl (by decide) (by decide) rfl (fun ls hl => ?_)
  refine lv_goto (tgt := 17) hx hb dX3_forget_32 (by decide) ?_
  refine lv_iload_n hx hb dX3_forget_17 rfl (lv_at hl 0 rfl) ?_
  refine lv_iconst (v := 5) hx hb dX3_forget_18 (by decide) ?_
  refine lv_icmp_gt (tgt := 35) hx hb dX3_forget_19 (by decide) (fun h9 => absurd h9 (by decide)) (fun _ => ?_)
  refine lv_aload_n hx hb dX3_forget_22 rfl (lv_at hl 1 rfl) ?_
  refine va_get (D := D) (ci := 3) (v := .ref (h 19)) (C := RX3) (T := TX3) (N := 4) hx hb hts hiX3 hown hK.1 hP 5 rfl rfl 0 (by decide) kf9 (fun _ h9 => h9) rfl dX3_forget_23 ?_
  refine lv_iload_n hx hb dX3_forget_26 rfl (lv_at hl 0 rfl) ?_
  refine lv_iconst (v := 0) hx hb dX3_forget_27 (by decide) ?_
  refine ga_ist hx hb hK hP (sl_D hh) hS 19 rfl 2 (by decide) (by omega) (by decide) dX3_forget_28 (fun H locs hP hS => ?_)
  have hP : va_P D kC (sl_W cI cJ h (nI n) F Wt Sz Nu Mb (nI k) G Wk To Sl Ri (nI f) (nI b) oT oS oF (nI an) (nI as) (upd (upd (upd Fo 0 0) 1 0) 2 0) 0 0 0) H := hP
  refine lv_iinc (v := 3) (lv' := [(1, .int 3), (0, .ref (h 5))]) hx hb dX3_forget_29 hl (k := 0) rfl (by decide) (by decide) rfl (fun ls hl => ?_)
  refine lv_goto (tgt := 17) hx hb dX3_forget_32 (by decide) ?_
  refine lv_iload_n hx hb dX3_forget_17 rfl (lv_at hl 0 rfl) ?_
  refine lv_iconst (v := 5) hx hb dX3_forget_18 (by decide) ?_
  refine lv_icmp_gt (tgt := 35) hx hb dX3_forget_19 (by decide) (fun h9 => absurd h9 (by decide)) (fun _ => ?_)
  refine lv_aload_n hx hb dX3_forget_22 rfl (lv_at hl 1 rfl) ?_
  refine va_get (D := D) (ci := 3) (v := .ref (h 19)) (C := RX3) (T := TX3) (N := 4) hx hb hts hiX3 hown hK.1 hP 5 rfl rfl 0 (by decide) kf9 (fun _ h9 => h9) rfl dX3_forget_23 ?_
  refine lv_iload_n hx hb dX3_forget_26 rfl (lv_at hl 0 rfl) ?_
  refine lv_iconst (v := 0) hx hb dX3_forget_27 (by decide) ?_
  refine ga_ist hx hb hK hP (sl_D hh) hS 19 rfl 3 (by decide) (by omega) (by decide) dX3_forget_28 (fun H locs hP hS => ?_)
  have hP : va_P D kC (sl_W cI cJ h (nI n) F Wt Sz Nu Mb (nI k) G Wk To Sl Ri (nI f) (nI b) oT oS oF (nI an) (nI as) (upd (upd (upd (upd Fo 0 0) 1 0) 2 0) 3 0) 0 0 0) H := hP
  refine lv_iinc (v := 4) (lv' := [(1, .int 4), (0, .ref (h 5))]) hx hb dX3_forget_29 hl (k := 0) rfl (by decide) (by decide) rfl (fun ls hl => ?_)
  refine lv_goto (tgt := 17) hx hb dX3_forget_32 (by decide) ?_
  refine lv_iload_n hx hb dX3_forget_17 rfl (lv_at hl 0 rfl) ?_
  refine lv_iconst (v := 5) hx hb dX3_forget_18 (by decide) ?_
  refine lv_icmp_gt (tgt := 35) hx hb dX3_forget_19 (by decide) (fun h9 => absurd h9 (by decide)) (fun _ => ?_)
  refine lv_aload_n hx hb dX3_forget_22 rfl (lv_at hl 1 rfl) ?_
  refine va_get (D := D) (ci := 3) (v := .ref (h 19)) (C := RX3) (T := TX3) (N := 4) hx hb hts hiX3 hown hK.1 hP 5 rfl rfl 0 (by decide) kf9 (fun _ h9 => h9) rfl dX3_forget_23 ?_
  refine lv_iload_n hx hb dX3_forget_26 rfl (lv_at hl 0 rfl) ?_
  refine lv_iconst (v := 0) hx hb dX3_forget_27 (by decide) ?_
  refine ga_ist hx hb hK hP (sl_D hh) hS 19 rfl 4 (by decide) (by omega) (by decide) dX3_forget_28 (fun H locs hP hS => ?_)
  have hP : va_P D kC (sl_W cI cJ h (nI n) F Wt Sz Nu Mb (nI k) G Wk To Sl Ri (nI f) (nI b) oT oS oF (nI an) (nI as) (upd (upd (upd (upd (upd Fo 0 0) 1 0) 2 0) 3 0) 4 0) 0 0 0) H := hP
  refine lv_iinc (v := 5) (lv' := [(1, .int 5), (0, .ref (h 5))]) hx hb dX3_forget_29 hl (k := 0) rfl (by decide) (by decide) rfl (fun ls hl => ?_)
  refine lv_goto (tgt := 17) hx hb dX3_forget_32 (by decide) ?_
  refine lv_iload_n hx hb dX3_forget_17 rfl (lv_at hl 0 rfl) ?_
  refine lv_iconst (v := 5) hx hb dX3_forget_18 (by decide) ?_
  refine lv_icmp_gt (tgt := 35) hx hb dX3_forget_19 (by decide) (fun h9 => absurd h9 (by decide)) (fun _ => ?_)
  refine lv_aload_n hx hb dX3_forget_22 rfl (lv_at hl 1 rfl) ?_
  refine va_get (D := D) (ci := 3) (v := .ref (h 19)) (C := RX3) (T := TX3) (N := 4) hx hb hts hiX3 hown hK.1 hP 5 rfl rfl 0 (by decide) kf9 (fun _ h9 => h9) rfl dX3_forget_23 ?_
  refine lv_iload_n hx hb dX3_forget_26 rfl (lv_at hl 0 rfl) ?_
  refine lv_iconst (v := 0) hx hb dX3_forget_27 (by decide) ?_
  refine ga_ist hx hb hK hP (sl_D hh) hS 19 rfl 5 (by decide) (by omega) (by decide) dX3_forget_28 (fun H locs hP hS => ?_)
  have hP : va_P D kC (sl_W cI cJ h (nI n) F Wt Sz Nu Mb (nI k) G Wk To Sl Ri (nI f) (nI b) oT oS oF (nI an) (nI as) (upd (upd (upd (upd (upd (upd Fo 0 0) 1 0) 2 0) 3 0) 4 0) 5 0) 0 0 0) H := hP
  refine lv_iinc (v := 6) (lv' := [(1, .int 6), (0, .ref (h 5))]) hx hb dX3_forget_29 hl (k := 0) rfl (by decide) (by decide) rfl (fun ls hl => ?_)
  refine lv_goto (tgt := 17) hx hb dX3_forget_32 (by decide) ?_
  refine lv_iload_n hx hb dX3_forget_17 rfl (lv_at hl 0 rfl) ?_
  refine lv_iconst (v := 5) hx hb dX3_forget_18 (by decide) ?_
  refine lv_icmp_gt (tgt := 35) hx hb dX3_forget_19 (by decide) (fun _ => ?_) (fun h9 => absurd (by decide) h9)
  exact W.vret hx hb hr (fun t9 ht _ => ⟨rfl, by rw [ht]; exact hP, hS.F ht⟩) hS.2.2 dX3_forget_35
end SubB
