/-! the reference: its 16 cells, at g 0 .. g 15; its private methods -/
def kd_of : Nat → Int32 := (upd (upd (upd (upd (upd (upd (upd (upd (upd (upd (upd (upd (upd (upd (upd (upd (fun _ => 0) 0 1) 1 3) 2 65543) 3 65544) 4 16) 5 32) 6 64) 7 128) 8 256) 9 768) 10 3840) 11 2048) 12 4096) 13 12288) 14 16384) 15 32768)
def pt_of : Nat → Int32 := (upd (upd (upd (upd (upd (upd (upd (upd (upd (upd (upd (upd (upd (upd (upd (upd (fun _ => 0) 0 0) 1 0) 2 0) 3 0) 4 0) 5 0) 6 0) 7 5) 8 0) 9 1) 10 2) 11 16) 12 8) 13 9) 14 11) 15 12)
def wn_ts : Nat → Int32 := (upd (upd (upd (upd (upd (upd (upd (upd (upd (upd (upd (upd (upd (fun _ => 0) 0 0) 1 16) 2 5) 3 6) 4 4) 5 8) 6 8) 7 12) 8 7) 9 15) 10 11) 11 8) 12 17)
abbrev mo_W (cI cJ : ClassId) (g : Nat → Nat) (fx mT : Int32) (F Wt Sz : Nat → Int32) (Nu : Nat → Int64) (Pl Bf : Nat → Int32) (mB mS : Int32) (G Wk : Nat → Int32) (To : Nat → Int64) (Sl Sd : Nat → Int32) (mA wo pa fa : Int32) (Fo : Nat → Int32) : va_W :=
  [(g 0, .inr (6, [.int fx, .int mT, .ref (g 1), .ref (g 2), .ref (g 3), .ref (g 4), .ref (g 5), .ref (g 6), .ref (g 7), .ref (g 8), .ref (g 9), .int mB, .int mS, .ref (g 10), .ref (g 11), .ref (g 12), .ref (g 13), .ref (g 14), .int mA, .int wo, .int pa, .int fa, .ref (g 15)])),
   (g 1, .inl (cI, 100, .inl F)), (g 2, .inl (cI, 100, .inl Wt)), (g 3, .inl (cI, 100, .inl Sz)), (g 4, .inl (cJ, 800, .inr (.inl Nu))), (g 5, .inl (cI, 800, .inl Pl)), (g 6, .inl (cI, 16, .inl kd_of)), (g 7, .inl (cI, 16, .inl pt_of)), (g 8, .inl (cI, 13, .inl wn_ts)), (g 9, .inl (cI, 40, .inl Bf)),
   (g 10, .inl (cI, 8, .inl G)), (g 11, .inl (cI, 8, .inl Wk)), (g 12, .inl (cJ, 8, .inr (.inl To))), (g 13, .inl (cI, 8, .inl Sl)), (g 14, .inl (cI, 60, .inl Sd)), (g 15, .inl (cI, 6, .inl Fo))]
theorem mo_D {cI cJ : ClassId} {g : Nat → Nat} (hh : ad_ok g 16) {fx mT : Int32} {F Wt Sz : Nat → Int32} {Nu : Nat → Int64} {Pl Bf : Nat → Int32} {mB mS : Int32} {G Wk : Nat → Int32} {To : Nat → Int64} {Sl Sd : Nat → Int32} {mA wo pa fa : Int32} {Fo : Nat → Int32} : va_D (ad_A g 16) (mo_W cI cJ g fx mT F Wt Sz Nu Pl Bf mB mS G Wk To Sl Sd mA wo pa fa Fo) := ad_D hh rfl
theorem q_p {t : Int32} {n : Nat} (hn : n < 2 ^ 30) : q_in t 0 (nI n - 1) = p_in t (nI n) := by
  have e : (nI n - 1).toInt = (n : Int) - 1 := pk_sub_toInt (a := n) (b := 1) hn (by decide)
  have e2 : (nI n).toInt = (n : Int) := nI_toInt (by omega)
  unfold q_in p_in
  congr 1
  rw [decide_eq_decide, Int32.le_iff_toInt_le, Int32.lt_iff_toInt_lt, e, e2]
  omega
theorem ko_bit {a c : Nat} (ha : a < 16) (hc : c < 17) : ((kd_of a >>> (nI c &&& 31)) &&& 1 = 1) ↔ ko (nI a) (nI c) = true := by
  have h : ∀ a, a < 16 → ∀ c, c < 17 → (((kd_of a >>> (nI c &&& 31)) &&& 1 = 1) ↔ ko (nI a) (nI c) = true) := by decide +kernel
  exact h a ha c hc
theorem ko_17 {f : Int32} {c : Nat} (h : c = 17) : ko f (nI c) = true := by subst h; rfl
def lowS (x : Int32) (v : Int64) : Int64 := if x = 4 then (v <<< (Int32.toInt64 56 &&& 63)) >>> (Int32.toInt64 56 &&& 63) else if x = 5 then (v <<< (Int32.toInt64 32 &&& 63)) >>> (Int32.toInt64 32 &&& 63) else v
def tl (x : Int32) : Int32 := if x < 0 then -5 else x
section MoA
variable {l : Launch} {D : va_G} {cI cJ : ClassId} {g : Nat → Nat} {n k b as : Nat} {fx : Int32} {F Wt Sz : Nat → Int32} {Nu : Nat → Int64} {Pl Bf G Wk : Nat → Int32} {To : Nat → Int64} {Sl Sd Fo : Nat → Int32} {wo pa fa : Int32}
set_option maxHeartbeats 4000000 in
set_option maxRecDepth 100000 in
theorem c_X6_in (v lo hi : Int32) : Met l yX6_in wsX6_in ({ frames := 0, cells := 0, slots := 0, locals := 0 }) (wd_P D cI cJ [.int v, .int lo, .int hi] (mo_W cI cJ g fx (nI n) F Wt Sz Nu Pl Bf (nI b) (nI k) G Wk To Sl Sd (nI as) wo pa fa Fo)) (pu_Q (some (.int (bI (q_in v lo hi))))) 0 0 (fun _ => False) := by
  refine Met.ofW (cc := cX6_in) (maxL := 3) (ret := (some .boolean)) (by decide) rfl ?_
  intro p e s m args below meth c s₁ B hml hv
  obtain ⟨rfl, hP, hK⟩ := hv
  have hx := B.exec
  have hb := B.bytes
  have hr := B.returns
  have hts := atoms_spec (ws := wsX6_in) B.pre
  have hown : s.vm.findClass RX6 = some m.cls := findClass_of_methodNamed B.named
  have hlocks := B.notSynchronized
  have hl := lv_entry ([.int v, .int lo, .int hi]) (n := 3) (Nat.le_of_ble_eq_true rfl)
  rw [lg_entry_eq]
  generalize (lg_sl ([.int v, .int lo, .int hi]) ++ List.replicate (3 - (lg_sl ([.int v, .int lo, .int hi])).length) Slot.unset).toArray = ls at hl ⊢
  have hl : lv_has ls 3 [(0, .int v), (1, .int lo), (2, .int hi)] := hl
  refine lv_iload_n hx hb dX6_in_0 rfl (lv_at hl 0 rfl) ?_
  refine lv_iload_n hx hb dX6_in_1 rfl (lv_at hl 1 rfl) ?_
  refine lv_icmp_lt (tgt := 14) hx hb dX6_in_2 (by decide) (fun c2 => ?_) (fun c2 => ?_)
  · skip
    refine lv_iconst (v := 0) hx hb dX6_in_14 (by decide) ?_
    exact W.zret (ty := .boolean) (v := 0) hx hb hr (by decide) (fun t9 ht _ => ⟨congrArg (fun z => Outcome.returned (some (Value.int z))) (by rw [q_lo c2]; rfl), ht⟩) (fun _ h9 => nomatch h9) dX6_in_15
  · skip
    refine lv_iload_n hx hb dX6_in_5 rfl (lv_at hl 0 rfl) ?_
    refine lv_iload_n hx hb dX6_in_6 rfl (lv_at hl 2 rfl) ?_
    refine lv_icmp_gt (tgt := 14) hx hb dX6_in_7 (by decide) (fun c7 => ?_) (fun c7 => ?_)
    · skip
      refine lv_iconst (v := 0) hx hb dX6_in_14 (by decide) ?_
      exact W.zret (ty := .boolean) (v := 0) hx hb hr (by decide) (fun t9 ht _ => ⟨congrArg (fun z => Outcome.returned (some (Value.int z))) (by rw [q_hi c7]; rfl), ht⟩) (fun _ h9 => nomatch h9) dX6_in_15
    · skip
      refine lv_iconst (v := 1) hx hb dX6_in_10 (by decide) ?_
      refine lv_goto (tgt := 15) hx hb dX6_in_11 (by decide) ?_
      exact W.zret (ty := .boolean) (v := 1) hx hb hr (by decide) (fun t9 ht _ => ⟨congrArg (fun z => Outcome.returned (some (Value.int z))) (by rw [q_ok' c2 c7]; rfl), ht⟩) (fun _ h9 => nomatch h9) dX6_in_15
set_option maxHeartbeats 4000000 in
set_option maxRecDepth 100000 in
theorem c_X6_thrown (hh : ad_ok g 16)  : Met l yX6_thrown wsX6_thrown ({ frames := 0, cells := 0, slots := 0, locals := 0 }) (wd_P D cI cJ [.ref (g 0)] (mo_W cI cJ g fx (nI n) F Wt Sz Nu Pl Bf (nI b) (nI k) G Wk To Sl Sd (nI as) wo pa fa Fo)) (pu_Q (some (.int fx))) 0 0 (fun _ => False) := by
  refine Met.ofW (cc := cX6_thrown) (maxL := 1) (ret := (some .int)) (by decide) rfl ?_
  intro p e s m args below meth c s₁ B hml hv
  obtain ⟨rfl, hP, hK⟩ := hv
  have hx := B.exec
  have hb := B.bytes
  have hr := B.returns
  have hts := atoms_spec (ws := wsX6_thrown) B.pre
  have hown : s.vm.findClass RX6 = some m.cls := findClass_of_methodNamed B.named
  have hlocks := B.notSynchronized
  have hiX6 : ∀ w ∈ u_ws RX6 TX6 23, w ∈ wsX6_thrown := by decide +kernel
  have kf59 := hts (.fieldLink RX6 59 "SortingLineModel" "fault" "I") (by decide +kernel)
  have hl := lv_entry ([.ref (g 0)]) (n := 1) (Nat.le_of_ble_eq_true rfl)
  rw [lg_entry_eq]
  generalize (lg_sl ([.ref (g 0)]) ++ List.replicate (1 - (lg_sl ([.ref (g 0)])).length) Slot.unset).toArray = ls at hl ⊢
  have hl : lv_has ls 1 [(0, .ref (g 0))] := hl
  refine lv_aload_n hx hb dX6_thrown_0 rfl (lv_at hl 0 rfl) ?_
  refine va_get (D := D) (ci := 6) (v := .int fx) (C := RX6) (T := TX6) (N := 23) hx hb hts hiX6 hown hK.1 hP 0 rfl rfl 0 (by decide) kf59 (fun _ h9 => h9) rfl dX6_thrown_1 ?_
  exact W.iret (v := fx) hx hb hr (fun t9 ht _ => ⟨congrArg (fun z => Outcome.returned (some (Value.int z))) (rfl), ht⟩) (fun _ h9 => nomatch h9) dX6_thrown_4
set_option maxHeartbeats 4000000 in
set_option maxRecDepth 100000 in
theorem c_X6_isThing (hh : ad_ok g 16) (hn : n ≤ 100) (t : Int32) : Met l yX6_isThing wsX6_isThing ({ frames := 1, cells := 0, slots := 0, locals := 22 }) (wd_P D cI cJ [.ref (g 0), .int t] (mo_W cI cJ g fx (nI n) F Wt Sz Nu Pl Bf (nI b) (nI k) G Wk To Sl Sd (nI as) wo pa fa Fo)) (pu_Q (some (.int (bI (p_in t (nI n)))))) 0 0 (fun _ => False) := by
  refine Met.ofW (cc := cX6_isThing) (maxL := 2) (ret := (some .boolean)) (by decide) rfl ?_
  intro p e s m args below meth c s₁ B hml hv
  obtain ⟨rfl, hP, hK⟩ := hv
  have hx := B.exec
  have hb := B.bytes
  have hr := B.returns
  have hts := atoms_spec (ws := wsX6_isThing) B.pre
  have hown : s.vm.findClass RX6 = some m.cls := findClass_of_methodNamed B.named
  have hlocks := B.notSynchronized
  have hiX6 : ∀ w ∈ u_ws RX6 TX6 23, w ∈ wsX6_isThing := by decide +kernel
  have kf63 := hts (.fieldLink RX6 63 "SortingLineModel" "things" "I") (by decide +kernel)
  have hl := lv_entry ([.ref (g 0), .int t]) (n := 2) (Nat.le_of_ble_eq_true rfl)
  rw [lg_entry_eq]
  generalize (lg_sl ([.ref (g 0), .int t]) ++ List.replicate (2 - (lg_sl ([.ref (g 0), .int t])).length) Slot.unset).toArray = ls at hl ⊢
  have hl : lv_has ls 2 [(0, .ref (g 0)), (1, .int t)] := hl
  refine lv_iload_n hx hb dX6_isThing_0 rfl (lv_at hl 1 rfl) ?_
  refine lv_iconst (v := 0) hx hb dX6_isThing_1 (by decide) ?_
  refine lv_aload_n hx hb dX6_isThing_2 rfl (lv_at hl 0 rfl) ?_
  refine va_get (D := D) (ci := 6) (v := .int (nI n)) (C := RX6) (T := TX6) (N := 23) hx hb hts hiX6 hown hK.1 hP 0 rfl rfl 1 (by decide) kf63 (fun _ h9 => h9) rfl dX6_isThing_3 ?_
  refine lv_iconst (v := 1) hx hb dX6_isThing_6 (by decide) ?_
  refine lv_isub hx hb dX6_isThing_7 ?_
  refine pu_callb (va_runS (As := [.int t, .int 0, .int ((nI n) - 1)]) (rest := []) ⟨hx, hb, hml, hown, hts⟩ (c_X6_in t 0 ((nI n) - 1)) (cwS 3 hts gX6_isThing_X6_in rfl rfl rfl (by decide +kernel) ⟨Nat.le_of_ble_eq_true rfl, Nat.le_of_ble_eq_true rfl⟩) (wd_preS hP hK) rfl rfl hl.1 rfl (lv_room (Nat.le_of_ble_eq_true rfl)) dX6_isThing_8 ⟨Nat.zero_le _, Nat.zero_le _⟩) (fun c8 => ?_) (fun c8 => ?_)
  · skip
    exact W.zret (ty := .boolean) (v := 1) hx hb hr (by decide) (fun t9 ht _ => ⟨congrArg (fun z => Outcome.returned (some (Value.int z))) (by rw [← q_p (n := n) (by omega), c8]; rfl), ht⟩) (fun _ h9 => nomatch h9) dX6_isThing_11
  · skip
    exact W.zret (ty := .boolean) (v := 0) hx hb hr (by decide) (fun t9 ht _ => ⟨congrArg (fun z => Outcome.returned (some (Value.int z))) (by rw [← q_p (n := n) (by omega), c8]; rfl), ht⟩) (fun _ h9 => nomatch h9) dX6_isThing_11
set_option maxHeartbeats 4000000 in
set_option maxRecDepth 100000 in
theorem c_X6_isOf (hh : ad_ok g 16) (hn : n ≤ 100) (r : Nat) (hr9 : r < n) (a : Nat) (ha : a < 16) (hFa : F r = nI a) (c9 : Nat) (hc : c9 < 18)  : Met l yX6_isOf wsX6_isOf ({ frames := 0, cells := 0, slots := 0, locals := 0 }) (wd_P D cI cJ [.ref (g 0), .int (nI r), .int (nI c9)] (mo_W cI cJ g fx (nI n) F Wt Sz Nu Pl Bf (nI b) (nI k) G Wk To Sl Sd (nI as) wo pa fa Fo)) (pu_Q (some (.int (bI (ko (F r) (nI c9)))))) 0 0 (fun _ => False) := by
  refine Met.ofW (cc := cX6_isOf) (maxL := 3) (ret := (some .boolean)) (by decide) rfl ?_
  intro p e s m args below meth c s₁ B hml hv
  obtain ⟨rfl, hP, hK⟩ := hv
  have hx := B.exec
  have hb := B.bytes
  have hr := B.returns
  have hts := atoms_spec (ws := wsX6_isOf) B.pre
  have hown : s.vm.findClass RX6 = some m.cls := findClass_of_methodNamed B.named
  have hlocks := B.notSynchronized
  have hiX6 : ∀ w ∈ u_ws RX6 TX6 23, w ∈ wsX6_isOf := by decide +kernel
  have kf29 := hts (.fieldLink RX6 29 "SortingLineModel" "kindsOf" "[I") (by decide +kernel)
  have kf7 := hts (.fieldLink RX6 7 "SortingLineModel" "forms" "[I") (by decide +kernel)
  have hl := lv_entry ([.ref (g 0), .int (nI r), .int (nI c9)]) (n := 3) (Nat.le_of_ble_eq_true rfl)
  rw [lg_entry_eq]
  generalize (lg_sl ([.ref (g 0), .int (nI r), .int (nI c9)]) ++ List.replicate (3 - (lg_sl ([.ref (g 0), .int (nI r), .int (nI c9)])).length) Slot.unset).toArray = ls at hl ⊢
  have hl : lv_has ls 3 [(0, .ref (g 0)), (1, .int (nI r)), (2, .int (nI c9))] := hl
  refine lv_iload_n hx hb dX6_isOf_0 rfl (lv_at hl 2 rfl) ?_
  refine lv_bipush (v := 17) hx hb dX6_isOf_1 (by decide) ?_
  refine lv_icmp_eq (tgt := 25) hx hb dX6_isOf_3 (by decide) (fun c3 => ?_) (fun c3 => ?_)
  · skip
    have c3 : c9 = 17 := (nI_eq (a := c9) (b := 17) (by omega) (by omega)).mp c3
    refine lv_iconst (v := 1) hx hb dX6_isOf_25 (by decide) ?_
    refine lv_goto (tgt := 30) hx hb dX6_isOf_26 (by decide) ?_
    exact W.zret (ty := .boolean) (v := 1) hx hb hr (by decide) (fun t9 ht _ => ⟨congrArg (fun z => Outcome.returned (some (Value.int z))) (by rw [ko_17 c3]; rfl), ht⟩) (fun _ h9 => nomatch h9) dX6_isOf_30
  · skip
    have c3 : ¬ (c9 = 17) := fun h9 => c3 ((nI_eq (a := c9) (b := 17) (by omega) (by omega)).mpr h9)
    refine lv_aload_n hx hb dX6_isOf_6 rfl (lv_at hl 0 rfl) ?_
    refine va_get (D := D) (ci := 6) (v := .ref (g 6)) (C := RX6) (T := TX6) (N := 23) hx hb hts hiX6 hown hK.1 hP 0 rfl rfl 7 (by decide) kf29 (fun _ h9 => h9) rfl dX6_isOf_7 ?_
    refine lv_aload_n hx hb dX6_isOf_10 rfl (lv_at hl 0 rfl) ?_
    refine va_get (D := D) (ci := 6) (v := .ref (g 1)) (C := RX6) (T := TX6) (N := 23) hx hb hts hiX6 hown hK.1 hP 0 rfl rfl 2 (by decide) kf7 (fun _ h9 => h9) rfl dX6_isOf_11 ?_
    refine lv_iload_n hx hb dX6_isOf_14 rfl (lv_at hl 1 rfl) ?_
    refine ga_ild hx hb hK hP 1 rfl r (rfl) (by omega) (by decide) dX6_isOf_15 ?_
    refine tp_i (y := nI a) (hFa) ?_
    refine ga_ild hx hb hK hP 6 rfl a (rfl) (by omega) (by decide) dX6_isOf_16 ?_
    refine lv_iload_n hx hb dX6_isOf_17 rfl (lv_at hl 2 rfl) ?_
    refine lv_ishr hx hb dX6_isOf_18 ?_
    refine lv_iconst (v := 1) hx hb dX6_isOf_19 (by decide) ?_
    refine lv_iand hx hb dX6_isOf_20 ?_
    refine lv_iconst (v := 1) hx hb dX6_isOf_21 (by decide) ?_
    refine lv_icmp_ne (tgt := 29) hx hb dX6_isOf_22 (by decide) (fun c22 => ?_) (fun c22 => ?_)
    · skip
      refine lv_iconst (v := 0) hx hb dX6_isOf_29 (by decide) ?_
      exact W.zret (ty := .boolean) (v := 0) hx hb hr (by decide) (fun t9 ht _ => ⟨congrArg (fun z => Outcome.returned (some (Value.int z))) (by rw [hFa, Bool.eq_false_iff.mpr (fun h9 => c22 ((ko_bit ha (by omega)).mpr h9))]; rfl), ht⟩) (fun _ h9 => nomatch h9) dX6_isOf_30
    · skip
      refine lv_iconst (v := 1) hx hb dX6_isOf_25 (by decide) ?_
      refine lv_goto (tgt := 30) hx hb dX6_isOf_26 (by decide) ?_
      exact W.zret (ty := .boolean) (v := 1) hx hb hr (by decide) (fun t9 ht _ => ⟨congrArg (fun z => Outcome.returned (some (Value.int z))) (by rw [hFa, (ko_bit ha (by omega)).mp c22]; rfl), ht⟩) (fun _ h9 => nomatch h9) dX6_isOf_30
set_option maxHeartbeats 4000000 in
set_option maxRecDepth 100000 in
theorem c_X6_passes_n (hh : ad_ok g 16) (kd : Int32) : Met l yX6_passes wsX6_passes ({ frames := 0, cells := 0, slots := 0, locals := 0 }) (wd_P D cI cJ [.ref (g 0), .int (-1), .int kd] (mo_W cI cJ g fx (nI n) F Wt Sz Nu Pl Bf (nI b) (nI k) G Wk To Sl Sd (nI as) wo pa fa Fo)) (pu_Q (some (.int 1))) 0 0 (fun _ => False) := by
  refine Met.ofW (cc := cX6_passes) (maxL := 3) (ret := (some .boolean)) (by decide) rfl ?_
  intro p e s m args below meth c s₁ B hml hv
  obtain ⟨rfl, hP, hK⟩ := hv
  have hx := B.exec
  have hb := B.bytes
  have hr := B.returns
  have hts := atoms_spec (ws := wsX6_passes) B.pre
  have hown : s.vm.findClass RX6 = some m.cls := findClass_of_methodNamed B.named
  have hlocks := B.notSynchronized
  have hl := lv_entry ([.ref (g 0), .int (-1), .int kd]) (n := 3) (Nat.le_of_ble_eq_true rfl)
  rw [lg_entry_eq]
  generalize (lg_sl ([.ref (g 0), .int (-1), .int kd]) ++ List.replicate (3 - (lg_sl ([.ref (g 0), .int (-1), .int kd])).length) Slot.unset).toArray = ls at hl ⊢
  have hl : lv_has ls 3 [(0, .ref (g 0)), (1, .int (-1)), (2, .int kd)] := hl
  refine lv_iload_n hx hb dX6_passes_0 rfl (lv_at hl 1 rfl) ?_
  refine lv_if_lt (tgt := 13) hx hb dX6_passes_1 (by decide) (fun _ => ?_) (fun h9 => absurd (by decide) h9)
  refine lv_iconst (v := 1) hx hb dX6_passes_13 (by decide) ?_
  refine lv_goto (tgt := 18) hx hb dX6_passes_14 (by decide) ?_
  exact W.zret (ty := .boolean) (v := 1) hx hb hr (by decide) (fun t9 ht _ => ⟨congrArg (fun z => Outcome.returned (some (Value.int z))) (rfl), ht⟩) (fun _ h9 => nomatch h9) dX6_passes_18
set_option maxHeartbeats 4000000 in
set_option maxRecDepth 100000 in
theorem c_X6_passes_p (hh : ad_ok g 16) (hn : n ≤ 100) (r : Nat) (hr9 : r < n) (a : Nat) (ha : a < 16) (hFa : F r = nI a) (c9 : Nat) (hc : c9 < 18)  : Met l yX6_passes wsX6_passes ({ frames := 1, cells := 0, slots := 0, locals := 22 }) (wd_P D cI cJ [.ref (g 0), .int (nI r), .int (nI c9)] (mo_W cI cJ g fx (nI n) F Wt Sz Nu Pl Bf (nI b) (nI k) G Wk To Sl Sd (nI as) wo pa fa Fo)) (pu_Q (some (.int (bI (ko (F r) (nI c9)))))) 0 0 (fun _ => False) := by
  refine Met.ofW (cc := cX6_passes) (maxL := 3) (ret := (some .boolean)) (by decide) rfl ?_
  intro p e s m args below meth c s₁ B hml hv
  obtain ⟨rfl, hP, hK⟩ := hv
  have hx := B.exec
  have hb := B.bytes
  have hr := B.returns
  have hts := atoms_spec (ws := wsX6_passes) B.pre
  have hown : s.vm.findClass RX6 = some m.cls := findClass_of_methodNamed B.named
  have hlocks := B.notSynchronized
  have hl := lv_entry ([.ref (g 0), .int (nI r), .int (nI c9)]) (n := 3) (Nat.le_of_ble_eq_true rfl)
  rw [lg_entry_eq]
  generalize (lg_sl ([.ref (g 0), .int (nI r), .int (nI c9)]) ++ List.replicate (3 - (lg_sl ([.ref (g 0), .int (nI r), .int (nI c9)])).length) Slot.unset).toArray = ls at hl ⊢
  have hl : lv_has ls 3 [(0, .ref (g 0)), (1, .int (nI r)), (2, .int (nI c9))] := hl
  refine lv_iload_n hx hb dX6_passes_0 rfl (lv_at hl 1 rfl) ?_
  refine lv_if_lt (tgt := 13) hx hb dX6_passes_1 (by decide) (fun h9 => absurd h9 (nI_pos (by omega))) (fun _ => ?_)
  refine lv_aload_n hx hb dX6_passes_4 rfl (lv_at hl 0 rfl) ?_
  refine lv_iload_n hx hb dX6_passes_5 rfl (lv_at hl 1 rfl) ?_
  refine lv_iload_n hx hb dX6_passes_6 rfl (lv_at hl 2 rfl) ?_
  refine pu_callb (va_runV (As := [.int (nI r), .int (nI c9)]) (rest := []) ⟨hx, hb, hml, hown, hts⟩ (c_X6_isOf hh hn r (by omega) a ha hFa c9 (by omega)) (cwV 2 hts gX6_passes_X6_isOf rfl rfl rfl (by decide +kernel) ⟨Nat.le_of_ble_eq_true rfl, Nat.le_of_ble_eq_true rfl⟩) (wd_preV (ci := 6) (q0 := 0) hP hK rfl rfl) rfl rfl hl.1 rfl (lv_room (Nat.le_of_ble_eq_true rfl)) dX6_passes_7 ⟨Nat.zero_le _, Nat.zero_le _⟩) (fun c7 => ?_) (fun c7 => ?_)
  · skip
    refine lv_if_eq (tgt := 17) hx hb dX6_passes_10 (by decide) (fun h9 => absurd h9 (by decide)) (fun _ => ?_)
    refine lv_iconst (v := 1) hx hb dX6_passes_13 (by decide) ?_
    refine lv_goto (tgt := 18) hx hb dX6_passes_14 (by decide) ?_
    exact W.zret (ty := .boolean) (v := 1) hx hb hr (by decide) (fun t9 ht _ => ⟨congrArg (fun z => Outcome.returned (some (Value.int z))) (by simp [bI, c7]), ht⟩) (fun _ h9 => nomatch h9) dX6_passes_18
  · skip
    refine lv_if_eq (tgt := 17) hx hb dX6_passes_10 (by decide) (fun _ => ?_) (fun h9 => absurd (by decide) h9)
    refine lv_iconst (v := 0) hx hb dX6_passes_17 (by decide) ?_
    exact W.zret (ty := .boolean) (v := 0) hx hb hr (by decide) (fun t9 ht _ => ⟨congrArg (fun z => Outcome.returned (some (Value.int z))) (by simp [bI, c7]), ht⟩) (fun _ h9 => nomatch h9) dX6_passes_18
set_option maxHeartbeats 4000000 in
set_option maxRecDepth 100000 in
theorem c_X6_found (hh : ad_ok g 16) (x : Nat) (h1 : 1 ≤ x) (h5 : x ≤ 5) : Met l yX6_found wsX6_found ({ frames := 0, cells := 0, slots := 0, locals := 0 }) (wd_P D cI cJ [.ref (g 0), .int (nI x)] (mo_W cI cJ g fx (nI n) F Wt Sz Nu Pl Bf (nI b) (nI k) G Wk To Sl Sd (nI as) wo pa fa Fo)) (mu_Q D (ad_A g 16) (some (.int (-20 - nI x))) (mo_W cI cJ g fx (nI n) F Wt Sz Nu Pl Bf (nI b) (nI k) G Wk To Sl Sd (nI as) wo pa fa (upd Fo x (Fo x + 1)))) 0 0 (ad_A g 16) := by
  refine Met.ofW (cc := cX6_found) (maxL := 2) (ret := (some .int)) (by decide) rfl ?_
  intro p e s m args below meth c s₁ B hml hv
  obtain ⟨rfl, hP, hK⟩ := hv
  have hx := B.exec
  have hb := B.bytes
  have hr := B.returns
  have hts := atoms_spec (ws := wsX6_found) B.pre
  have hown : s.vm.findClass RX6 = some m.cls := findClass_of_methodNamed B.named
  have hlocks := B.notSynchronized
  have hiX6 : ∀ w ∈ u_ws RX6 TX6 23, w ∈ wsX6_found := by decide +kernel
  have kf56 := hts (.fieldLink RX6 56 "SortingLineModel" "findings" "[I") (by decide +kernel)
  have hS : va_S (ad_A g 16) s.heap s.heap [] := va_S.rf
  have hl := lv_entry ([.ref (g 0), .int (nI x)]) (n := 2) (Nat.le_of_ble_eq_true rfl)
  rw [lg_entry_eq]
  generalize (lg_sl ([.ref (g 0), .int (nI x)]) ++ List.replicate (2 - (lg_sl ([.ref (g 0), .int (nI x)])).length) Slot.unset).toArray = ls at hl ⊢
  have hl : lv_has ls 2 [(0, .ref (g 0)), (1, .int (nI x))] := hl
  refine lv_aload_n hx hb dX6_found_0 rfl (lv_at hl 0 rfl) ?_
  refine va_get (D := D) (ci := 6) (v := .ref (g 15)) (C := RX6) (T := TX6) (N := 23) hx hb hts hiX6 hown hK.1 hP 0 rfl rfl 22 (by decide) kf56 (fun _ h9 => h9) rfl dX6_found_1 ?_
  refine lv_iload_n hx hb dX6_found_4 rfl (lv_at hl 1 rfl) ?_
  refine lv_dup2_11 hx hb dX6_found_5 rfl rfl ?_
  refine ga_ild hx hb hK hP 15 rfl x (rfl) (by omega) (by decide) dX6_found_6 ?_
  refine lv_iconst (v := 1) hx hb dX6_found_7 (by decide) ?_
  refine lv_iadd hx hb dX6_found_8 ?_
  refine ga_ist hx hb hK hP (mo_D hh) hS 15 rfl x (rfl) (by omega) (by decide) dX6_found_9 (fun H locs hP hS => ?_)
  have hP : va_P D kC (mo_W cI cJ g fx (nI n) F Wt Sz Nu Pl Bf (nI b) (nI k) G Wk To Sl Sd (nI as) wo pa fa (upd Fo x ((Fo x) + 1))) H := hP
  refine lv_bipush (v := (-20)) hx hb dX6_found_10 (by decide) ?_
  refine lv_iload_n hx hb dX6_found_12 rfl (lv_at hl 1 rfl) ?_
  refine lv_isub hx hb dX6_found_13 ?_
  exact W.iret (v := (-20) - (nI x)) hx hb hr (fun t9 ht _ => ⟨congrArg (fun z => Outcome.returned (some (Value.int z))) (rfl), by rw [ht]; exact hP, hS.F ht⟩) hS.2.2 dX6_found_14
set_option maxHeartbeats 4000000 in
set_option maxRecDepth 100000 in
theorem c_X6_adds (hh : ad_ok g 16) (hn : n < 100) (fo we sz : Int32) : Met l yX6_adds wsX6_adds ({ frames := 0, cells := 0, slots := 0, locals := 0 }) (wd_P D cI cJ [.ref (g 0), .int fo, .int we, .int sz] (mo_W cI cJ g fx (nI n) F Wt Sz Nu Pl Bf (nI b) (nI k) G Wk To Sl Sd (nI as) wo pa fa Fo)) (mu_Q D (ad_A g 16) (some (.int (nI n))) (mo_W cI cJ g fx (nI (n + 1)) (upd F n fo) (upd Wt n we) (upd Sz n sz) (z8L Nu (8 * n) 0) (z8I Pl (8 * n) (-1)) Bf (nI b) (nI k) G Wk To Sl Sd (nI as) wo pa fa Fo)) 0 0 (ad_A g 16) := by
  refine Met.ofW (cc := cX6_adds) (maxL := 5) (ret := (some .int)) (by decide) rfl ?_
  intro p e s m args below meth c s₁ B hml hv
  obtain ⟨rfl, hP, hK⟩ := hv
  have hx := B.exec
  have hb := B.bytes
  have hr := B.returns
  have hts := atoms_spec (ws := wsX6_adds) B.pre
  have hown : s.vm.findClass RX6 = some m.cls := findClass_of_methodNamed B.named
  have hlocks := B.notSynchronized
  have hiX6 : ∀ w ∈ u_ws RX6 TX6 23, w ∈ wsX6_adds := by decide +kernel
  have kf7 := hts (.fieldLink RX6 7 "SortingLineModel" "forms" "[I") (by decide +kernel)
  have kf63 := hts (.fieldLink RX6 63 "SortingLineModel" "things" "I") (by decide +kernel)
  have kf13 := hts (.fieldLink RX6 13 "SortingLineModel" "weights" "[I") (by decide +kernel)
  have kf16 := hts (.fieldLink RX6 16 "SortingLineModel" "sizes" "[I") (by decide +kernel)
  have kf19 := hts (.fieldLink RX6 19 "SortingLineModel" "numbers" "[J") (by decide +kernel)
  have kf23 := hts (.fieldLink RX6 23 "SortingLineModel" "places" "[I") (by decide +kernel)
  have hS : va_S (ad_A g 16) s.heap s.heap [] := va_S.rf
  have hl := lv_entry ([.ref (g 0), .int fo, .int we, .int sz]) (n := 5) (Nat.le_of_ble_eq_true rfl)
  rw [lg_entry_eq]
  generalize (lg_sl ([.ref (g 0), .int fo, .int we, .int sz]) ++ List.replicate (5 - (lg_sl ([.ref (g 0), .int fo, .int we, .int sz])).length) Slot.unset).toArray = ls at hl ⊢
  have hl : lv_has ls 5 [(0, .ref (g 0)), (1, .int fo), (2, .int we), (3, .int sz)] := hl
  refine lv_aload_n hx hb dX6_adds_0 rfl (lv_at hl 0 rfl) ?_
  refine va_get (D := D) (ci := 6) (v := .ref (g 1)) (C := RX6) (T := TX6) (N := 23) hx hb hts hiX6 hown hK.1 hP 0 rfl rfl 2 (by decide) kf7 (fun _ h9 => h9) rfl dX6_adds_1 ?_
  refine lv_aload_n hx hb dX6_adds_4 rfl (lv_at hl 0 rfl) ?_
  refine va_get (D := D) (ci := 6) (v := .int (nI n)) (C := RX6) (T := TX6) (N := 23) hx hb hts hiX6 hown hK.1 hP 0 rfl rfl 1 (by decide) kf63 (fun _ h9 => h9) rfl dX6_adds_5 ?_
  refine lv_iload_n hx hb dX6_adds_8 rfl (lv_at hl 1 rfl) ?_
  refine ga_ist hx hb hK hP (mo_D hh) hS 1 rfl n (rfl) (by omega) (by decide) dX6_adds_9 (fun H locs hP hS => ?_)
  have hP : va_P D kC (mo_W cI cJ g fx (nI n) (upd F n fo) Wt Sz Nu Pl Bf (nI b) (nI k) G Wk To Sl Sd (nI as) wo pa fa Fo) H := hP
  refine lv_aload_n hx hb dX6_adds_10 rfl (lv_at hl 0 rfl) ?_
  refine va_get (D := D) (ci := 6) (v := .ref (g 2)) (C := RX6) (T := TX6) (N := 23) hx hb hts hiX6 hown hK.1 hP 0 rfl rfl 3 (by decide) kf13 (fun _ h9 => h9) rfl dX6_adds_11 ?_
  refine lv_aload_n hx hb dX6_adds_14 rfl (lv_at hl 0 rfl) ?_
  refine va_get (D := D) (ci := 6) (v := .int (nI n)) (C := RX6) (T := TX6) (N := 23) hx hb hts hiX6 hown hK.1 hP 0 rfl rfl 1 (by decide) kf63 (fun _ h9 => h9) rfl dX6_adds_15 ?_
  refine lv_iload_n hx hb dX6_adds_18 rfl (lv_at hl 2 rfl) ?_
  refine ga_ist hx hb hK hP (mo_D hh) hS 2 rfl n (rfl) (by omega) (by decide) dX6_adds_19 (fun H locs hP hS => ?_)
  have hP : va_P D kC (mo_W cI cJ g fx (nI n) (upd F n fo) (upd Wt n we) Sz Nu Pl Bf (nI b) (nI k) G Wk To Sl Sd (nI as) wo pa fa Fo) H := hP
  refine lv_aload_n hx hb dX6_adds_20 rfl (lv_at hl 0 rfl) ?_
  refine va_get (D := D) (ci := 6) (v := .ref (g 3)) (C := RX6) (T := TX6) (N := 23) hx hb hts hiX6 hown hK.1 hP 0 rfl rfl 4 (by decide) kf16 (fun _ h9 => h9) rfl dX6_adds_21 ?_
  refine lv_aload_n hx hb dX6_adds_24 rfl (lv_at hl 0 rfl) ?_
  refine va_get (D := D) (ci := 6) (v := .int (nI n)) (C := RX6) (T := TX6) (N := 23) hx hb hts hiX6 hown hK.1 hP 0 rfl rfl 1 (by decide) kf63 (fun _ h9 => h9) rfl dX6_adds_25 ?_
  refine lv_iload_n hx hb dX6_adds_28 rfl (lv_at hl 3 rfl) ?_
  refine ga_ist hx hb hK hP (mo_D hh) hS 3 rfl n (rfl) (by omega) (by decide) dX6_adds_29 (fun H locs hP hS => ?_)
  have hP : va_P D kC (mo_W cI cJ g fx (nI n) (upd F n fo) (upd Wt n we) (upd Sz n sz) Nu Pl Bf (nI b) (nI k) G Wk To Sl Sd (nI as) wo pa fa Fo) H := hP
  refine lv_iconst (v := 0) hx hb dX6_adds_30 (by decide) ?_
  refine lv_istore (lv' := [(4, .int 0), (0, .ref (g 0)), (1, .int fo), (2, .int we), (3, .int sz)]) hx hb dX6_adds_31 hl (by decide) rfl (fun ls hl => ?_)
  refine lv_iload hx hb dX6_adds_33 (lv_at hl 0 rfl) ?_
  refine lv_bipush (v := 8) hx hb dX6_adds_35 (by decide) ?_
  refine lv_icmp_ge (tgt := 78) hx hb dX6_adds_37 (by decide) (fun h9 => absurd h9 (by decide)) (fun _ => ?_)
  refine lv_aload_n hx hb dX6_adds_40 rfl (lv_at hl 1 rfl) ?_
  refine va_get (D := D) (ci := 6) (v := .ref (g 4)) (C := RX6) (T := TX6) (N := 23) hx hb hts hiX6 hown hK.1 hP 0 rfl rfl 5 (by decide) kf19 (fun _ h9 => h9) rfl dX6_adds_41 ?_
  refine lv_bipush (v := 8) hx hb dX6_adds_44 (by decide) ?_
  refine lv_aload_n hx hb dX6_adds_46 rfl (lv_at hl 1 rfl) ?_
  refine va_get (D := D) (ci := 6) (v := .int (nI n)) (C := RX6) (T := TX6) (N := 23) hx hb hts hiX6 hown hK.1 hP 0 rfl rfl 1 (by decide) kf63 (fun _ h9 => h9) rfl dX6_adds_47 ?_
  refine lv_imul hx hb dX6_adds_50 ?_
  refine tp_i (y := nI (8 * n)) (pk_mul 8 n) ?_
  refine lv_iload hx hb dX6_adds_51 (lv_at hl 0 rfl) ?_
  refine lv_iadd hx hb dX6_adds_53 ?_
  refine tp_i (y := nI ((8 * n) + 0)) (nI_add (8 * n) 0) ?_
  refine lv_lconst (v := 0) hx hb dX6_adds_54 (by decide) ?_
  refine ga_lst hx hb hK hP (mo_D hh) hS 4 rfl ((8 * n) + 0) (rfl) (by omega) (by decide) dX6_adds_55 (fun H locs hP hS => ?_)
  have hP : va_P D kC (mo_W cI cJ g fx (nI n) (upd F n fo) (upd Wt n we) (upd Sz n sz) (vp_updL Nu ((8 * n) + 0) 0) Pl Bf (nI b) (nI k) G Wk To Sl Sd (nI as) wo pa fa Fo) H := hP
  refine lv_aload_n hx hb dX6_adds_56 rfl (lv_at hl 1 rfl) ?_
  refine va_get (D := D) (ci := 6) (v := .ref (g 5)) (C := RX6) (T := TX6) (N := 23) hx hb hts hiX6 hown hK.1 hP 0 rfl rfl 6 (by decide) kf23 (fun _ h9 => h9) rfl dX6_adds_57 ?_
  refine lv_bipush (v := 8) hx hb dX6_adds_60 (by decide) ?_
  refine lv_aload_n hx hb dX6_adds_62 rfl (lv_at hl 1 rfl) ?_
  refine va_get (D := D) (ci := 6) (v := .int (nI n)) (C := RX6) (T := TX6) (N := 23) hx hb hts hiX6 hown hK.1 hP 0 rfl rfl 1 (by decide) kf63 (fun _ h9 => h9) rfl dX6_adds_63 ?_
  refine lv_imul hx hb dX6_adds_66 ?_
  refine tp_i (y := nI (8 * n)) (pk_mul 8 n) ?_
  refine lv_iload hx hb dX6_adds_67 (lv_at hl 0 rfl) ?_
  refine lv_iadd hx hb dX6_adds_69 ?_
  refine tp_i (y := nI ((8 * n) + 0)) (nI_add (8 * n) 0) ?_
  refine lv_iconst (v := (-1)) hx hb dX6_adds_70 (by decide) ?_
  refine ga_ist hx hb hK hP (mo_D hh) hS 5 rfl ((8 * n) + 0) (rfl) (by omega) (by decide) dX6_adds_71 (fun H locs hP hS => ?_)
  have hP : va_P D kC (mo_W cI cJ g fx (nI n) (upd F n fo) (upd Wt n we) (upd Sz n sz) (vp_updL Nu ((8 * n) + 0) 0) (upd Pl ((8 * n) + 0) (-1)) Bf (nI b) (nI k) G Wk To Sl Sd (nI as) wo pa fa Fo) H := hP
  refine lv_iinc (v := 1) (lv' := [(4, .int 1), (0, .ref (g 0)), (1, .int fo), (2, .int we), (3, .int sz)]) hx hb dX6_adds_72 hl (k := 0) rfl (by decide) (by decide) rfl (fun ls hl => ?_)
  refine lv_goto (tgt := 33) hx hb dX6_adds_75 (by decide) ?_
  refine lv_iload hx hb dX6_adds_33 (lv_at hl 0 rfl) ?_
  refine lv_bipush (v := 8) hx hb dX6_adds_35 (by decide) ?_
  refine lv_icmp_ge (tgt := 78) hx hb dX6_adds_37 (by decide) (fun h9 => absurd h9 (by decide)) (fun _ => ?_)
  refine lv_aload_n hx hb dX6_adds_40 rfl (lv_at hl 1 rfl) ?_
  refine va_get (D := D) (ci := 6) (v := .ref (g 4)) (C := RX6) (T := TX6) (N := 23) hx hb hts hiX6 hown hK.1 hP 0 rfl rfl 5 (by decide) kf19 (fun _ h9 => h9) rfl dX6_adds_41 ?_
  refine lv_bipush (v := 8) hx hb dX6_adds_44 (by decide) ?_
  refine lv_aload_n hx hb dX6_adds_46 rfl (lv_at hl 1 rfl) ?_
  refine va_get (D := D) (ci := 6) (v := .int (nI n)) (C := RX6) (T := TX6) (N := 23) hx hb hts hiX6 hown hK.1 hP 0 rfl rfl 1 (by decide) kf63 (fun _ h9 => h9) rfl dX6_adds_47 ?_
  refine lv_imul hx hb dX6_adds_50 ?_
  refine tp_i (y := nI (8 * n)) (pk_mul 8 n) ?_
  refine lv_iload hx hb dX6_adds_51 (lv_at hl 0 rfl) ?_
  refine lv_iadd hx hb dX6_adds_53 ?_
  refine tp_i (y := nI ((8 * n) + 1)) (nI_add (8 * n) 1) ?_
  refine lv_lconst (v := 0) hx hb dX6_adds_54 (by decide) ?_
  refine ga_lst hx hb hK hP (mo_D hh) hS 4 rfl ((8 * n) + 1) (rfl) (by omega) (by decide) dX6_adds_55 (fun H locs hP hS => ?_)
  have hP : va_P D kC (mo_W cI cJ g fx (nI n) (upd F n fo) (upd Wt n we) (upd Sz n sz) (vp_updL (vp_updL Nu ((8 * n) + 0) 0) ((8 * n) + 1) 0) (upd Pl ((8 * n) + 0) (-1)) Bf (nI b) (nI k) G Wk To Sl Sd (nI as) wo pa fa Fo) H := hP
  refine lv_aload_n hx hb dX6_adds_56 rfl (lv_at hl 1 rfl) ?_
  refine va_get (D := D) (ci := 6) (v := .ref (g 5)) (C := RX6) (T := TX6) (N := 23) hx hb hts hiX6 hown hK.1 hP 0 rfl rfl 6 (by decide) kf23 (fun _ h9 => h9) rfl dX6_adds_57 ?_
  refine lv_bipush (v := 8) hx hb dX6_adds_60 (by decide) ?_
  refine lv_aload_n hx hb dX6_adds_62 rfl (lv_at hl 1 rfl) ?_
  refine va_get (D := D) (ci := 6) (v := .int (nI n)) (C := RX6) (T := TX6) (N := 23) hx hb hts hiX6 hown hK.1 hP 0 rfl rfl 1 (by decide) kf63 (fun _ h9 => h9) rfl dX6_adds_63 ?_
  refine lv_imul hx hb dX6_adds_66 ?_
  refine tp_i (y := nI (8 * n)) (pk_mul 8 n) ?_
  refine lv_iload hx hb dX6_adds_67 (lv_at hl 0 rfl) ?_
  refine lv_iadd hx hb dX6_adds_69 ?_
  refine tp_i (y := nI ((8 * n) + 1)) (nI_add (8 * n) 1) ?_
  refine lv_iconst (v := (-1)) hx hb dX6_adds_70 (by decide) ?_
  refine ga_ist hx hb hK hP (mo_D hh) hS 5 rfl ((8 * n) + 1) (rfl) (by omega) (by decide) dX6_adds_71 (fun H locs hP hS => ?_)
  have hP : va_P D kC (mo_W cI cJ g fx (nI n) (upd F n fo) (upd Wt n we) (upd Sz n sz) (vp_updL (vp_updL Nu ((8 * n) + 0) 0) ((8 * n) + 1) 0) (upd (upd Pl ((8 * n) + 0) (-1)) ((8 * n) + 1) (-1)) Bf (nI b) (nI k) G Wk To Sl Sd (nI as) wo pa fa Fo) H := hP
  refine lv_iinc (v := 2) (lv' := [(4, .int 2), (0, .ref (g 0)), (1, .int fo), (2, .int we), (3, .int sz)]) hx hb dX6_adds_72 hl (k := 0) rfl (by decide) (by decide) rfl (fun ls hl => ?_)
  refine lv_goto (tgt := 33) hx hb dX6_adds_75 (by decide) ?_
  refine lv_iload hx hb dX6_adds_33 (lv_at hl 0 rfl) ?_
  refine lv_bipush (v := 8) hx hb dX6_adds_35 (by decide) ?_
  refine lv_icmp_ge (tgt := 78) hx hb dX6_adds_37 (by decide) (fun h9 => absurd h9 (by decide)) (fun _ => ?_)
  refine lv_aload_n hx hb dX6_adds_40 rfl (lv_at hl 1 rfl) ?_
  refine va_get (D := D) (ci := 6) (v := .ref (g 4)) (C := RX6) (T := TX6) (N := 23) hx hb hts hiX6 hown hK.1 hP 0 rfl rfl 5 (by decide) kf19 (fun _ h9 => h9) rfl dX6_adds_41 ?_
  refine lv_bipush (v := 8) hx hb dX6_adds_44 (by decide) ?_
  refine lv_aload_n hx hb dX6_adds_46 rfl (lv_at hl 1 rfl) ?_
  refine va_get (D := D) (ci := 6) (v := .int (nI n)) (C := RX6) (T := TX6) (N := 23) hx hb hts hiX6 hown hK.1 hP 0 rfl rfl 1 (by decide) kf63 (fun _ h9 => h9) rfl dX6_adds_47 ?_
  refine lv_imul hx hb dX6_adds_50 ?_
  refine tp_i (y := nI (8 * n)) (pk_mul 8 n) ?_
  refine lv_iload hx hb dX6_adds_51 (lv_at hl 0 rfl) ?_
  refine lv_iadd hx hb dX6_adds_53 ?_
  refine tp_i (y := nI ((8 * n) + 2)) (nI_add (8 * n) 2) ?_
  refine lv_lconst (v := 0) hx hb dX6_adds_54 (by decide) ?_
  refine ga_lst hx hb hK hP (mo_D hh) hS 4 rfl ((8 * n) + 2) (rfl) (by omega) (by decide) dX6_adds_55 (fun H locs hP hS => ?_)
  have hP : va_P D kC (mo_W cI cJ g fx (nI n) (upd F n fo) (upd Wt n we) (upd Sz n sz) (vp_updL (vp_updL (vp_updL Nu ((8 * n) + 0) 0) ((8 * n) + 1) 0) ((8 * n) + 2) 0) (upd (upd Pl ((8 * n) + 0) (-1)) ((8 * n) + 1) (-1)) Bf (nI b) (nI k) G Wk To Sl Sd (nI as) wo pa fa Fo) H := hP
  refine lv_aload_n hx hb dX6_adds_56 rfl (lv_at hl 1 rfl) ?_
  refine va_get (D := D) (ci := 6) (v := .ref (g 5)) (C := RX6) (T := TX6) (N := 23) hx hb hts hiX6 hown hK.1 hP 0 rfl rfl 6 (by decide) kf23 (fun _ h9 => h9) rfl dX6_adds_57 ?_
  refine lv_bipush (v := 8) hx hb dX6_adds_60 (by decide) ?_
  refine lv_aload_n hx hb dX6_adds_62 rfl (lv_at hl 1 rfl) ?_
  refine va_get (D := D) (ci := 6) (v := .int (nI n)) (C := RX6) (T := TX6) (N := 23) hx hb hts hiX6 hown hK.1 hP 0 rfl rfl 1 (by decide) kf63 (fun _ h9 => h9) rfl dX6_adds_63 ?_
  refine lv_imul hx hb dX6_adds_66 ?_
  refine tp_i (y := nI (8 * n)) (pk_mul 8 n) ?_
  refine lv_iload hx hb dX6_adds_67 (lv_at hl 0 rfl) ?_
  refine lv_iadd hx hb dX6_adds_69 ?_
  refine tp_i (y := nI ((8 * n) + 2)) (nI_add (8 * n) 2) ?_
  refine lv_iconst (v := (-1)) hx hb dX6_adds_70 (by decide) ?_
  refine ga_ist hx hb hK hP (mo_D hh) hS 5 rfl ((8 * n) + 2) (rfl) (by omega) (by decide) dX6_adds_71 (fun H locs hP hS => ?_)
  have hP : va_P D kC (mo_W cI cJ g fx (nI n) (upd F n fo) (upd Wt n we) (upd Sz n sz) (vp_updL (vp_updL (vp_updL Nu ((8 * n) + 0) 0) ((8 * n) + 1) 0) ((8 * n) + 2) 0) (upd (upd (upd Pl ((8 * n) + 0) (-1)) ((8 * n) + 1) (-1)) ((8 * n) + 2) (-1)) Bf (nI b) (nI k) G Wk To Sl Sd (nI as) wo pa fa Fo) H := hP
  refine lv_iinc (v := 3) (lv' := [(4, .int 3), (0, .ref (g 0)), (1, .int fo), (2, .int we), (3, .int sz)]) hx hb dX6_adds_72 hl (k := 0) rfl (by decide) (by decide) rfl (fun ls hl => ?_)
  refine lv_goto (tgt := 33) hx hb dX6_adds_75 (by decide) ?_
  refine lv_iload hx hb dX6_adds_33 (lv_at hl 0 rfl) ?_
  refine lv_bipush (v := 8) hx hb dX6_adds_35 (by decide) ?_
  refine lv_icmp_ge (tgt := 78) hx hb dX6_adds_37 (by decide) (fun h9 => absurd h9 (by decide)) (fun _ => ?_)
  refine lv_aload_n hx hb dX6_adds_40 rfl (lv_at hl 1 rfl) ?_
  refine va_get (D := D) (ci := 6) (v := .ref (g 4)) (C := RX6) (T := TX6) (N := 23) hx hb hts hiX6 hown hK.1 hP 0 rfl rfl 5 (by decide) kf19 (fun _ h9 => h9) rfl dX6_adds_41 ?_
  refine lv_bipush (v := 8) hx hb dX6_adds_44 (by decide) ?_
  refine lv_aload_n hx hb dX6_adds_46 rfl (lv_at hl 1 rfl) ?_
  refine va_get (D := D) (ci := 6) (v := .int (nI n)) (C := RX6) (T := TX6) (N := 23) hx hb hts hiX6 hown hK.1 hP 0 rfl rfl 1 (by decide) kf63 (fun _ h9 => h9) rfl dX6_adds_47 ?_
  refine lv_imul hx hb dX6_adds_50 ?_
  refine tp_i (y := nI (8 * n)) (pk_mul 8 n) ?_
  refine lv_iload hx hb dX6_adds_51 (lv_at hl 0 rfl) ?_
  refine lv_iadd hx hb dX6_adds_53 ?_
  refine tp_i (y := nI ((8 * n) + 3)) (nI_add (8 * n) 3) ?_
  refine lv_lconst (v := 0) hx hb dX6_adds_54 (by decide) ?_
  refine ga_lst hx hb hK hP (mo_D hh) hS 4 rfl ((8 * n) + 3) (rfl) (by omega) (by decide) dX6_adds_55 (fun H locs hP hS => ?_)
  have hP : va_P D kC (mo_W cI cJ g fx (nI n) (upd F n fo) (upd Wt n we) (upd Sz n sz) (vp_updL (vp_updL (vp_updL (vp_updL Nu ((8 * n) + 0) 0) ((8 * n) + 1) 0) ((8 * n) + 2) 0) ((8 * n) + 3) 0) (upd (upd (upd Pl ((8 * n) + 0) (-1)) ((8 * n) + 1) (-1)) ((8 * n) + 2) (-1)) Bf (nI b) (nI k) G Wk To Sl Sd (nI as) wo pa fa Fo) H := hP
  refine lv_aload_n hx hb dX6_adds_56 rfl (lv_at hl 1 rfl) ?_
  refine va_get (D := D) (ci := 6) (v := .ref (g 5)) (C := RX6) (T := TX6) (N := 23) hx hb hts hiX6 hown hK.1 hP 0 rfl rfl 6 (by decide) kf23 (fun _ h9 => h9) rfl dX6_adds_57 ?_
  refine lv_bipush (v := 8) hx hb dX6_adds_60 (by decide) ?_
  refine lv_aload_n hx hb dX6_adds_62 rfl (lv_at hl 1 rfl) ?_
  refine va_get (D := D) (ci := 6) (v := .int (nI n)) (C := RX6) (T := TX6) (N := 23) hx hb hts hiX6 hown hK.1 hP 0 rfl rfl 1 (by decide) kf63 (fun _ h9 => h9) rfl dX6_adds_63 ?_
  refine lv_imul hx hb dX6_adds_66 ?_
  refine tp_i (y := nI (8 * n)) (pk_mul 8 n) ?_
  refine lv_iload hx hb dX6_adds_67 (lv_at hl 0 rfl) ?_
  refine lv_iadd hx hb dX6_adds_69 ?_
  refine tp_i (y := nI ((8 * n) + 3)) (nI_add (8 * n) 3) ?_
  refine lv_iconst (v := (-1)) hx hb dX6_adds_70 (by decide) ?_
  refine ga_ist hx hb hK hP (mo_D hh) hS 5 rfl ((8 * n) + 3) (rfl) (by omega) (by decide) dX6_adds_71 (fun H locs hP hS => ?_)
  have hP : va_P D kC (mo_W cI cJ g fx (nI n) (upd F n fo) (upd Wt n we) (upd Sz n sz) (vp_updL (vp_updL (vp_updL (vp_updL Nu ((8 * n) + 0) 0) ((8 * n) + 1) 0) ((8 * n) + 2) 0) ((8 * n) + 3) 0) (upd (upd (upd (upd Pl ((8 * n) + 0) (-1)) ((8 * n) + 1) (-1)) ((8 * n) + 2) (-1)) ((8 * n) + 3) (-1)) Bf (nI b) (nI k) G Wk To Sl Sd (nI as) wo pa fa Fo) H := hP
  refine lv_iinc (v := 4) (lv' := [(4, .int 4), (0, .ref (g 0)), (1, .int fo), (2, .int we), (3, .int sz)]) hx hb dX6_adds_72 hl (k := 0) rfl (by decide) (by decide) rfl (fun ls hl => ?_)
  refine lv_goto (tgt := 33) hx hb dX6_adds_75 (by decide) ?_
  refine lv_iload hx hb dX6_adds_33 (lv_at hl 0 rfl) ?_
  refine lv_bipush (v := 8) hx hb dX6_adds_35 (by decide) ?_
  refine lv_icmp_ge (tgt := 78) hx hb dX6_adds_37 (by decide) (fun h9 => absurd h9 (by decide)) (fun _ => ?_)
  refine lv_aload_n hx hb dX6_adds_40 rfl (lv_at hl 1 rfl) ?_
  refine va_get (D := D) (ci := 6) (v := .ref (g 4)) (C := RX6) (T := TX6) (N := 23) hx hb hts hiX6 hown hK.1 hP 0 rfl rfl 5 (by decide) kf19 (fun _ h9 => h9) rfl dX6_adds_41 ?_
  refine lv_bipush (v := 8) hx hb dX6_adds_44 (by decide) ?_
  refine lv_aload_n hx hb dX6_adds_46 rfl (lv_at hl 1 rfl) ?_
  refine va_get (D := D) (ci := 6) (v := .int (nI n)) (C := RX6) (T := TX6) (N := 23) hx hb hts hiX6 hown hK.1 hP 0 rfl rfl 1 (by decide) kf63 (fun _ h9 => h9) rfl dX6_adds_47 ?_
  refine lv_imul hx hb dX6_adds_50 ?_
  refine tp_i (y := nI (8 * n)) (pk_mul 8 n) ?_
  refine lv_iload hx hb dX6_adds_51 (lv_at hl 0 rfl) ?_
  refine lv_iadd hx hb dX6_adds_53 ?_
  refine tp_i (y := nI ((8 * n) + 4)) (nI_add (8 * n) 4) ?_
  refine lv_lconst (v := 0) hx hb dX6_adds_54 (by decide) ?_
  refine ga_lst hx hb hK hP (mo_D hh) hS 4 rfl ((8 * n) + 4) (rfl) (by omega) (by decide) dX6_adds_55 (fun H locs hP hS => ?_)
  have hP : va_P D kC (mo_W cI cJ g fx (nI n) (upd F n fo) (upd Wt n we) (upd Sz n sz) (vp_updL (vp_updL (vp_updL (vp_updL (vp_updL Nu ((8 * n) + 0) 0) ((8 * n) + 1) 0) ((8 * n) + 2) 0) ((8 * n) + 3) 0) ((8 * n) + 4) 0) (upd (upd (upd (upd Pl ((8 * n) + 0) (-1)) ((8 * n) + 1) (-1)) ((8 * n) + 2) (-1)) ((8 * n) + 3) (-1)) Bf (nI b) (nI k) G Wk To Sl Sd (nI as) wo pa fa Fo) H := hP
  refine lv_aload_n hx hb dX6_adds_56 rfl (lv_at hl 1 rfl) ?_
  refine va_get (D := D) (ci := 6) (v := .ref (g 5)) (C := RX6) (T := TX6) (N := 23) hx hb hts hiX6 hown hK.1 hP 0 rfl rfl 6 (by decide) kf23 (fun _ h9 => h9) rfl dX6_adds_57 ?_
  refine lv_bipush (v := 8) hx hb dX6_adds_60 (by decide) ?_
  refine lv_aload_n hx hb dX6_adds_62 rfl (lv_at hl 1 rfl) ?_
  refine va_get (D := D) (ci := 6) (v := .int (nI n)) (C := RX6) (T := TX6) (N := 23) hx hb hts hiX6 hown hK.1 hP 0 rfl rfl 1 (by decide) kf63 (fun _ h9 => h9) rfl dX6_adds_63 ?_
  refine lv_imul hx hb dX6_adds_66 ?_
  refine tp_i (y := nI (8 * n)) (pk_mul 8 n) ?_
  refine lv_iload hx hb dX6_adds_67 (lv_at hl 0 rfl) ?_
  refine lv_iadd hx hb dX6_adds_69 ?_
  refine tp_i (y := nI ((8 * n) + 4)) (nI_add (8 * n) 4) ?_
  refine lv_iconst (v := (-1)) hx hb dX6_adds_70 (by decide) ?_
  refine ga_ist hx hb hK hP (mo_D hh) hS 5 rfl ((8 * n) + 4) (rfl) (by omega) (by decide) dX6_adds_71 (fun H locs hP hS => ?_)
  have hP : va_P D kC (mo_W cI cJ g fx (nI n) (upd F n fo) (upd Wt n we) (upd Sz n sz) (vp_updL (vp_updL (vp_updL (vp_updL (vp_updL Nu ((8 * n) + 0) 0) ((8 * n) + 1) 0) ((8 * n) + 2) 0) ((8 * n) + 3) 0) ((8 * n) + 4) 0) (upd (upd (upd (upd (upd Pl ((8 * n) + 0) (-1)) ((8 * n) + 1) (-1)) ((8 * n) + 2) (-1)) ((8 * n) + 3) (-1)) ((8 * n) + 4) (-1)) Bf (nI b) (nI k) G Wk To Sl Sd (nI as) wo pa fa Fo) H := hP
  refine lv_iinc (v := 5) (lv' := [(4, .int 5), (0, .ref (g 0)), (1, .int fo), (2, .int we), (3, .int sz)]) hx hb dX6_adds_72 hl (k := 0) rfl (by decide) (by decide) rfl (fun ls hl => ?_)
  refine lv_goto (tgt := 33) hx hb dX6_adds_75 (by decide) ?_
  refine lv_iload hx hb dX6_adds_33 (lv_at hl 0 rfl) ?_
  refine lv_bipush (v := 8) hx hb dX6_adds_35 (by decide) ?_
  refine lv_icmp_ge (tgt := 78) hx hb dX6_adds_37 (by decide) (fun h9 => absurd h9 (by decide)) (fun _ => ?_)
  refine lv_aload_n hx hb dX6_adds_40 rfl (lv_at hl 1 rfl) ?_
  refine va_get (D := D) (ci := 6) (v := .ref (g 4)) (C := RX6) (T := TX6) (N := 23) hx hb hts hiX6 hown hK.1 hP 0 rfl rfl 5 (by decide) kf19 (fun _ h9 => h9) rfl dX6_adds_41 ?_
  refine lv_bipush (v := 8) hx hb dX6_adds_44 (by decide) ?_
  refine lv_aload_n hx hb dX6_adds_46 rfl (lv_at hl 1 rfl) ?_
  refine va_get (D := D) (ci := 6) (v := .int (nI n)) (C := RX6) (T := TX6) (N := 23) hx hb hts hiX6 hown hK.1 hP 0 rfl rfl 1 (by decide) kf63 (fun _ h9 => h9) rfl dX6_adds_47 ?_
  refine lv_imul hx hb dX6_adds_50 ?_
  refine tp_i (y := nI (8 * n)) (pk_mul 8 n) ?_
  refine lv_iload hx hb dX6_adds_51 (lv_at hl 0 rfl) ?_
  refine lv_iadd hx hb dX6_adds_53 ?_
  refine tp_i (y := nI ((8 * n) + 5)) (nI_add (8 * n) 5) ?_
  refine lv_lconst (v := 0) hx hb dX6_adds_54 (by decide) ?_
  refine ga_lst hx hb hK hP (mo_D hh) hS 4 rfl ((8 * n) + 5) (rfl) (by omega) (by decide) dX6_adds_55 (fun H locs hP hS => ?_)
  have hP : va_P D kC (mo_W cI cJ g fx (nI n) (upd F n fo) (upd Wt n we) (upd Sz n sz) (vp_updL (vp_updL (vp_updL (vp_updL (vp_updL (vp_updL Nu ((8 * n) + 0) 0) ((8 * n) + 1) 0) ((8 * n) + 2) 0) ((8 * n) + 3) 0) ((8 * n) + 4) 0) ((8 * n) + 5) 0) (upd (upd (upd (upd (upd Pl ((8 * n) + 0) (-1)) ((8 * n) + 1) (-1)) ((8 * n) + 2) (-1)) ((8 * n) + 3) (-1)) ((8 * n) + 4) (-1)) Bf (nI b) (nI k) G Wk To Sl Sd (nI as) wo pa fa Fo) H := hP
  refine lv_aload_n hx hb dX6_adds_56 rfl (lv_at hl 1 rfl) ?_
  refine va_get (D := D) (ci := 6) (v := .ref (g 5)) (C := RX6) (T := TX6) (N := 23) hx hb hts hiX6 hown hK.1 hP 0 rfl rfl 6 (by decide) kf23 (fun _ h9 => h9) rfl dX6_adds_57 ?_
  refine lv_bipush (v := 8) hx hb dX6_adds_60 (by decide) ?_
  refine lv_aload_n hx hb dX6_adds_62 rfl (lv_at hl 1 rfl) ?_
  refine va_get (D := D) (ci := 6) (v := .int (nI n)) (C := RX6) (T := TX6) (N := 23) hx hb hts hiX6 hown hK.1 hP 0 rfl rfl 1 (by decide) kf63 (fun _ h9 => h9) rfl dX6_adds_63 ?_
  refine lv_imul hx hb dX6_adds_66 ?_
  refine tp_i (y := nI (8 * n)) (pk_mul 8 n) ?_
  refine lv_iload hx hb dX6_adds_67 (lv_at hl 0 rfl) ?_
  refine lv_iadd hx hb dX6_adds_69 ?_
  refine tp_i (y := nI ((8 * n) + 5)) (nI_add (8 * n) 5) ?_
  refine lv_iconst (v := (-1)) hx hb dX6_adds_70 (by decide) ?_
  refine ga_ist hx hb hK hP (mo_D hh) hS 5 rfl ((8 * n) + 5) (rfl) (by omega) (by decide) dX6_adds_71 (fun H locs hP hS => ?_)
  have hP : va_P D kC (mo_W cI cJ g fx (nI n) (upd F n fo) (upd Wt n we) (upd Sz n sz) (vp_updL (vp_updL (vp_updL (vp_updL (vp_updL (vp_updL Nu ((8 * n) + 0) 0) ((8 * n) + 1) 0) ((8 * n) + 2) 0) ((8 * n) + 3) 0) ((8 * n) + 4) 0) ((8 * n) + 5) 0) (upd (upd (upd (upd (upd (upd Pl ((8 * n) + 0) (-1)) ((8 * n) + 1) (-1)) ((8 * n) + 2) (-1)) ((8 * n) + 3) (-1)) ((8 * n) + 4) (-1)) ((8 * n) + 5) (-1)) Bf (nI b) (nI k) G Wk To Sl Sd (nI as) wo pa fa Fo) H := hP
  refine lv_iinc (v := 6) (lv' := [(4, .int 6), (0, .ref (g 0)), (1, .int fo), (2, .int we), (3, .int sz)]) hx hb dX6_adds_72 hl (k := 0) rfl (by decide) (by decide) rfl (fun ls hl => ?_)
  refine lv_goto (tgt := 33) hx hb dX6_adds_75 (by decide) ?_
  refine lv_iload hx hb dX6_adds_33 (lv_at hl 0 rfl) ?_
  refine lv_bipush (v := 8) hx hb dX6_adds_35 (by decide) ?_
  refine lv_icmp_ge (tgt := 78) hx hb dX6_adds_37 (by decide) (fun h9 => absurd h9 (by decide)) (fun _ => ?_)
  refine lv_aload_n hx hb dX6_adds_40 rfl (lv_at hl 1 rfl) ?_
  refine va_get (D := D) (ci := 6) (v := .ref (g 4)) (C := RX6) (T := TX6) (N := 23) hx hb hts hiX6 hown hK.1 hP 0 rfl rfl 5 (by decide) kf19 (fun _ h9 => h9) rfl dX6_adds_41 ?_
  refine lv_bipush (v := 8) hx hb dX6_adds_44 (by decide) ?_
  refine lv_aload_n hx hb dX6_adds_46 rfl (lv_at hl 1 rfl) ?_
  refine va_get (D := D) (ci := 6) (v := .int (nI n)) (C := RX6) (T := TX6) (N := 23) hx hb hts hiX6 hown hK.1 hP 0 rfl rfl 1 (by decide) kf63 (fun _ h9 => h9) rfl dX6_adds_47 ?_
  refine lv_imul hx hb dX6_adds_50 ?_
  refine tp_i (y := nI (8 * n)) (pk_mul 8 n) ?_
  refine lv_iload hx hb dX6_adds_51 (lv_at hl 0 rfl) ?_
  refine lv_iadd hx hb dX6_adds_53 ?_
  refine tp_i (y := nI ((8 * n) + 6)) (nI_add (8 * n) 6) ?_
  refine lv_lconst (v := 0) hx hb dX6_adds_54 (by decide) ?_
  refine ga_lst hx hb hK hP (mo_D hh) hS 4 rfl ((8 * n) + 6) (rfl) (by omega) (by decide) dX6_adds_55 (fun H locs hP hS => ?_)
  have hP : va_P D kC (mo_W cI cJ g fx (nI n) (upd F n fo) (upd Wt n we) (upd Sz n sz) (vp_updL (vp_updL (vp_updL (vp_updL (vp_updL (vp_updL (vp_updL Nu ((8 * n) + 0) 0) ((8 * n) + 1) 0) ((8 * n) + 2) 0) ((8 * n) + 3) 0) ((8 * n) + 4) 0) ((8 * n) + 5) 0) ((8 * n) + 6) 0) (upd (upd (upd (upd (upd (upd Pl ((8 * n) + 0) (-1)) ((8 * n) + 1) (-1)) ((8 * n) + 2) (-1)) ((8 * n) + 3) (-1)) ((8 * n) + 4) (-1)) ((8 * n) + 5) (-1)) Bf (nI b) (nI k) G Wk To Sl Sd (nI as) wo pa fa Fo) H := hP
  refine lv_aload_n hx hb dX6_adds_56 rfl (lv_at hl 1 rfl) ?_
  refine va_get (D := D) (ci := 6) (v := .ref (g 5)) (C := RX6) (T := TX6) (N := 23) hx hb hts hiX6 hown hK.1 hP 0 rfl rfl 6 (by decide) kf23 (fun _ h9 => h9) rfl dX6_adds_57 ?_
  refine lv_bipush (v := 8) hx hb dX6_adds_60 (by decide) ?_
  refine lv_aload_n hx hb dX6_adds_62 rfl (lv_at hl 1 rfl) ?_
  refine va_get (D := D) (ci := 6) (v := .int (nI n)) (C := RX6) (T := TX6) (N := 23) hx hb hts hiX6 hown hK.1 hP 0 rfl rfl 1 (by decide) kf63 (fun _ h9 => h9) rfl dX6_adds_63 ?_
  refine lv_imul hx hb dX6_adds_66 ?_
  refine tp_i (y := nI (8 * n)) (pk_mul 8 n) ?_
  refine lv_iload hx hb dX6_adds_67 (lv_at hl 0 rfl) ?_
  refine lv_iadd hx hb dX6_adds_69 ?_
  refine tp_i (y := nI ((8 * n) + 6)) (nI_add (8 * n) 6) ?_
  refine lv_iconst (v := (-1)) hx hb dX6_adds_70 (by decide) ?_
  refine ga_ist hx hb hK hP (mo_D hh) hS 5 rfl ((8 * n) + 6) (rfl) (by omega) (by decide) dX6_adds_71 (fun H locs hP hS => ?_)
  have hP : va_P D kC (mo_W cI cJ g fx (nI n) (upd F n fo) (upd Wt n we) (upd Sz n sz) (vp_updL (vp_updL (vp_updL (vp_updL (vp_updL (vp_updL (vp_updL Nu ((8 * n) + 0) 0) ((8 * n) + 1) 0) ((8 * n) + 2) 0) ((8 * n) + 3) 0) ((8 * n) + 4) 0) ((8 * n) + 5) 0) ((8 * n) + 6) 0) (upd (upd (upd (upd (upd (upd (upd Pl ((8 * n) + 0) (-1)) ((8 * n) + 1) (-1)) ((8 * n) + 2) (-1)) ((8 * n) + 3) (-1)) ((8 * n) + 4) (-1)) ((8 * n) + 5) (-1)) ((8 * n) + 6) (-1)) Bf (nI b) (nI k) G Wk To Sl Sd (nI as) wo pa fa Fo) H := hP
  refine lv_iinc (v := 7) (lv' := [(4, .int 7), (0, .ref (g 0)), (1, .int fo), (2, .int we), (3, .int sz)]) hx hb dX6_adds_72 hl (k := 0) rfl (by decide) (by decide) rfl (fun ls hl => ?_)
  refine lv_goto (tgt := 33) hx hb dX6_adds_75 (by decide) ?_
  refine lv_iload hx hb dX6_adds_33 (lv_at hl 0 rfl) ?_
  refine lv_bipush (v := 8) hx hb dX6_adds_35 (by decide) ?_
  refine lv_icmp_ge (tgt := 78) hx hb dX6_adds_37 (by decide) (fun h9 => absurd h9 (by decide)) (fun _ => ?_)
  refine lv_aload_n hx hb dX6_adds_40 rfl (lv_at hl 1 rfl) ?_
  refine va_get (D := D) (ci := 6) (v := .ref (g 4)) (C := RX6) (T := TX6) (N := 23) hx hb hts hiX6 hown hK.1 hP 0 rfl rfl 5 (by decide) kf19 (fun _ h9 => h9) rfl dX6_adds_41 ?_
  refine lv_bipush (v := 8) hx hb dX6_adds_44 (by decide) ?_
  refine lv_aload_n hx hb dX6_adds_46 rfl (lv_at hl 1 rfl) ?_
  refine va_get (D := D) (ci := 6) (v := .int (nI n)) (C := RX6) (T := TX6) (N := 23) hx hb hts hiX6 hown hK.1 hP 0 rfl rfl 1 (by decide) kf63 (fun _ h9 => h9) rfl dX6_adds_47 ?_
  refine lv_imul hx hb dX6_adds_50 ?_
  refine tp_i (y := nI (8 * n)) (pk_mul 8 n) ?_
  refine lv_iload hx hb dX6_adds_51 (lv_at hl 0 rfl) ?_
  refine lv_iadd hx hb dX6_adds_53 ?_
  refine tp_i (y := nI ((8 * n) + 7)) (nI_add (8 * n) 7) ?_
  refine lv_lconst (v := 0) hx hb dX6_adds_54 (by decide) ?_
  refine ga_lst hx hb hK hP (mo_D hh) hS 4 rfl ((8 * n) + 7) (rfl) (by omega) (by decide) dX6_adds_55 (fun H locs hP hS => ?_)
  have hP : va_P D kC (mo_W cI cJ g fx (nI n) (upd F n fo) (upd Wt n we) (upd Sz n sz) (vp_updL (vp_updL (vp_updL (vp_updL (vp_updL (vp_updL (vp_updL (vp_updL Nu ((8 * n) + 0) 0) ((8 * n) + 1) 0) ((8 * n) + 2) 0) ((8 * n) + 3) 0) ((8 * n) + 4) 0) ((8 * n) + 5) 0) ((8 * n) + 6) 0) ((8 * n) + 7) 0) (upd (upd (upd (upd (upd (upd (upd Pl ((8 * n) + 0) (-1)) ((8 * n) + 1) (-1)) ((8 * n) + 2) (-1)) ((8 * n) + 3) (-1)) ((8 * n) + 4) (-1)) ((8 * n) + 5) (-1)) ((8 * n) + 6) (-1)) Bf (nI b) (nI k) G Wk To Sl Sd (nI as) wo pa fa Fo) H := hP
  refine lv_aload_n hx hb dX6_adds_56 rfl (lv_at hl 1 rfl) ?_
  refine va_get (D := D) (ci := 6) (v := .ref (g 5)) (C := RX6) (T := TX6) (N := 23) hx hb hts hiX6 hown hK.1 hP 0 rfl rfl 6 (by decide) kf23 (fun _ h9 => h9) rfl dX6_adds_57 ?_
  refine lv_bipush (v := 8) hx hb dX6_adds_60 (by decide) ?_
  refine lv_aload_n hx hb dX6_adds_62 rfl (lv_at hl 1 rfl) ?_
  refine va_get (D := D) (ci := 6) (v := .int (nI n)) (C := RX6) (T := TX6) (N := 23) hx hb hts hiX6 hown hK.1 hP 0 rfl rfl 1 (by decide) kf63 (fun _ h9 => h9) rfl dX6_adds_63 ?_
  refine lv_imul hx hb dX6_adds_66 ?_
  refine tp_i (y := nI (8 * n)) (pk_mul 8 n) ?_
  refine lv_iload hx hb dX6_adds_67 (lv_at hl 0 rfl) ?_
  refine lv_iadd hx hb dX6_adds_69 ?_
  refine tp_i (y := nI ((8 * n) + 7)) (nI_add (8 * n) 7) ?_
  refine lv_iconst (v := (-1)) hx hb dX6_adds_70 (by decide) ?_
  refine ga_ist hx hb hK hP (mo_D hh) hS 5 rfl ((8 * n) + 7) (rfl) (by omega) (by decide) dX6_adds_71 (fun H locs hP hS => ?_)
  have hP : va_P D kC (mo_W cI cJ g fx (nI n) (upd F n fo) (upd Wt n we) (upd Sz n sz) (vp_updL (vp_updL (vp_updL (vp_updL (vp_updL (vp_updL (vp_updL (vp_updL Nu ((8 * n) + 0) 0) ((8 * n) + 1) 0) ((8 * n) + 2) 0) ((8 * n) + 3) 0) ((8 * n) + 4) 0) ((8 * n) + 5) 0) ((8 * n) + 6) 0) ((8 * n) + 7) 0) (upd (upd (upd (upd (upd (upd (upd (upd Pl ((8 * n) + 0) (-1)) ((8 * n) + 1) (-1)) ((8 * n) + 2) (-1)) ((8 * n) + 3) (-1)) ((8 * n) + 4) (-1)) ((8 * n) + 5) (-1)) ((8 * n) + 6) (-1)) ((8 * n) + 7) (-1)) Bf (nI b) (nI k) G Wk To Sl Sd (nI as) wo pa fa Fo) H := hP
  refine lv_iinc (v := 8) (lv' := [(4, .int 8), (0, .ref (g 0)), (1, .int fo), (2, .int we), (3, .int sz)]) hx hb dX6_adds_72 hl (k := 0) rfl (by decide) (by decide) rfl (fun ls hl => ?_)
  refine lv_goto (tgt := 33) hx hb dX6_adds_75 (by decide) ?_
  refine lv_iload hx hb dX6_adds_33 (lv_at hl 0 rfl) ?_
  refine lv_bipush (v := 8) hx hb dX6_adds_35 (by decide) ?_
  refine lv_icmp_ge (tgt := 78) hx hb dX6_adds_37 (by decide) (fun _ => ?_) (fun h9 => absurd (by decide) h9)
  refine lv_aload_n hx hb dX6_adds_78 rfl (lv_at hl 1 rfl) ?_
  refine lv_dup hx hb dX6_adds_79 rfl ?_
  refine va_get (D := D) (ci := 6) (v := .int (nI n)) (C := RX6) (T := TX6) (N := 23) hx hb hts hiX6 hown hK.1 hP 0 rfl rfl 1 (by decide) kf63 (fun _ h9 => h9) rfl dX6_adds_80 ?_
  refine lv_iconst (v := 1) hx hb dX6_adds_83 (by decide) ?_
  refine lv_iadd hx hb dX6_adds_84 ?_
  refine tp_i (y := nI (n + 1)) (nI_add n 1) ?_
  refine va_put (D := D) (ci := 6) (v := .int (nI (n + 1))) (ty := .int) (C := RX6) (T := TX6) (N := 23) hx hb hts hiX6 tyX6 tyX6_ok nmX6 hown hK.1 hP (mo_D hh) hS 0 rfl rfl 1 (by decide) kf63 (fun _ h9 => h9) rfl (by decide +kernel) rfl rfl (Nat.le_of_ble_eq_true rfl) dX6_adds_85 (fun H locs hP _ hS => ?_)
  have hP : va_P D kC (mo_W cI cJ g fx (nI (n + 1)) (upd F n fo) (upd Wt n we) (upd Sz n sz) (vp_updL (vp_updL (vp_updL (vp_updL (vp_updL (vp_updL (vp_updL (vp_updL Nu ((8 * n) + 0) 0) ((8 * n) + 1) 0) ((8 * n) + 2) 0) ((8 * n) + 3) 0) ((8 * n) + 4) 0) ((8 * n) + 5) 0) ((8 * n) + 6) 0) ((8 * n) + 7) 0) (upd (upd (upd (upd (upd (upd (upd (upd Pl ((8 * n) + 0) (-1)) ((8 * n) + 1) (-1)) ((8 * n) + 2) (-1)) ((8 * n) + 3) (-1)) ((8 * n) + 4) (-1)) ((8 * n) + 5) (-1)) ((8 * n) + 6) (-1)) ((8 * n) + 7) (-1)) Bf (nI b) (nI k) G Wk To Sl Sd (nI as) wo pa fa Fo) H := hP
  refine lv_aload_n hx hb dX6_adds_88 rfl (lv_at hl 1 rfl) ?_
  refine va_get (D := D) (ci := 6) (v := .int (nI (n + 1))) (C := RX6) (T := TX6) (N := 23) hx hb hts hiX6 hown hK.1 hP 0 rfl rfl 1 (by decide) kf63 (fun _ h9 => h9) rfl dX6_adds_89 ?_
  refine lv_iconst (v := 1) hx hb dX6_adds_92 (by decide) ?_
  refine lv_isub hx hb dX6_adds_93 ?_
  refine tp_i (y := nI n) (nI_pred n) ?_
  exact W.iret (v := nI n) hx hb hr (fun t9 ht _ => ⟨congrArg (fun z => Outcome.returned (some (Value.int z))) (rfl), by rw [ht]; exact hP, hS.F ht⟩) hS.2.2 dX6_adds_94
set_option maxHeartbeats 4000000 in
set_option maxRecDepth 100000 in
theorem c_X6_refusal_u (hh : ad_ok g 16) (hn : n ≤ 100) (t kd lo hi : Int32) (h1 : p_in t (nI n) = false) : Met l yX6_refusal wsX6_refusal ({ frames := 2, cells := 0, slots := 0, locals := 43 }) (wd_P D cI cJ [.ref (g 0), .int t, .int kd, .int lo, .int hi] (mo_W cI cJ g fx (nI n) F Wt Sz Nu Pl Bf (nI b) (nI k) G Wk To Sl Sd (nI as) wo pa fa Fo)) (pu_Q (some (.int (-1)))) 0 0 (fun _ => False) := by
  refine Met.ofW (cc := cX6_refusal) (maxL := 5) (ret := (some .int)) (by decide) rfl ?_
  intro p e s m args below meth c s₁ B hml hv
  obtain ⟨rfl, hP, hK⟩ := hv
  have hx := B.exec
  have hb := B.bytes
  have hr := B.returns
  have hts := atoms_spec (ws := wsX6_refusal) B.pre
  have hown : s.vm.findClass RX6 = some m.cls := findClass_of_methodNamed B.named
  have hlocks := B.notSynchronized
  have hl := lv_entry ([.ref (g 0), .int t, .int kd, .int lo, .int hi]) (n := 5) (Nat.le_of_ble_eq_true rfl)
  rw [lg_entry_eq]
  generalize (lg_sl ([.ref (g 0), .int t, .int kd, .int lo, .int hi]) ++ List.replicate (5 - (lg_sl ([.ref (g 0), .int t, .int kd, .int lo, .int hi])).length) Slot.unset).toArray = ls at hl ⊢
  have hl : lv_has ls 5 [(0, .ref (g 0)), (1, .int t), (2, .int kd), (3, .int lo), (4, .int hi)] := hl
  refine lv_aload_n hx hb dX6_refusal_0 rfl (lv_at hl 0 rfl) ?_
  refine lv_iload_n hx hb dX6_refusal_1 rfl (lv_at hl 1 rfl) ?_
  refine pu_callb (va_runV (As := [.int t]) (rest := []) ⟨hx, hb, hml, hown, hts⟩ (c_X6_isThing hh (hn) t) (cwV 1 hts gX6_refusal_X6_isThing rfl rfl rfl (by decide +kernel) ⟨Nat.le_of_ble_eq_true rfl, Nat.le_of_ble_eq_true rfl⟩) (wd_preV (ci := 6) (q0 := 0) hP hK rfl rfl) rfl rfl hl.1 rfl (lv_room (Nat.le_of_ble_eq_true rfl)) dX6_refusal_2 ⟨Nat.zero_le _, Nat.zero_le _⟩) (fun h9 => absurd (h1) (by rw [h9]; decide)) (fun _ => ?_)
  refine lv_if_ne (tgt := 12) hx hb dX6_refusal_5 (by decide) (fun h9 => absurd (by decide) h9) (fun _ => ?_)
  refine lv_iconst (v := (-1)) hx hb dX6_refusal_8 (by decide) ?_
  refine lv_goto (tgt := 28) hx hb dX6_refusal_9 (by decide) ?_
  exact W.iret (v := (-1)) hx hb hr (fun t9 ht _ => ⟨congrArg (fun z => Outcome.returned (some (Value.int z))) (rfl), ht⟩) (fun _ h9 => nomatch h9) dX6_refusal_28
set_option maxHeartbeats 4000000 in
set_option maxRecDepth 100000 in
theorem c_X6_refusal_o (hh : ad_ok g 16) (hn : n ≤ 100) (t kd lo hi : Int32) (h1 : p_in t (nI n) = true) (h2 : q_in kd lo hi = false) : Met l yX6_refusal wsX6_refusal ({ frames := 2, cells := 0, slots := 0, locals := 43 }) (wd_P D cI cJ [.ref (g 0), .int t, .int kd, .int lo, .int hi] (mo_W cI cJ g fx (nI n) F Wt Sz Nu Pl Bf (nI b) (nI k) G Wk To Sl Sd (nI as) wo pa fa Fo)) (pu_Q (some (.int (-2)))) 0 0 (fun _ => False) := by
  refine Met.ofW (cc := cX6_refusal) (maxL := 5) (ret := (some .int)) (by decide) rfl ?_
  intro p e s m args below meth c s₁ B hml hv
  obtain ⟨rfl, hP, hK⟩ := hv
  have hx := B.exec
  have hb := B.bytes
  have hr := B.returns
  have hts := atoms_spec (ws := wsX6_refusal) B.pre
  have hown : s.vm.findClass RX6 = some m.cls := findClass_of_methodNamed B.named
  have hlocks := B.notSynchronized
  have hl := lv_entry ([.ref (g 0), .int t, .int kd, .int lo, .int hi]) (n := 5) (Nat.le_of_ble_eq_true rfl)
  rw [lg_entry_eq]
  generalize (lg_sl ([.ref (g 0), .int t, .int kd, .int lo, .int hi]) ++ List.replicate (5 - (lg_sl ([.ref (g 0), .int t, .int kd, .int lo, .int hi])).length) Slot.unset).toArray = ls at hl ⊢
  have hl : lv_has ls 5 [(0, .ref (g 0)), (1, .int t), (2, .int kd), (3, .int lo), (4, .int hi)] := hl
  refine lv_aload_n hx hb dX6_refusal_0 rfl (lv_at hl 0 rfl) ?_
  refine lv_iload_n hx hb dX6_refusal_1 rfl (lv_at hl 1 rfl) ?_
  refine pu_callb (va_runV (As := [.int t]) (rest := []) ⟨hx, hb, hml, hown, hts⟩ (c_X6_isThing hh (hn) t) (cwV 1 hts gX6_refusal_X6_isThing rfl rfl rfl (by decide +kernel) ⟨Nat.le_of_ble_eq_true rfl, Nat.le_of_ble_eq_true rfl⟩) (wd_preV (ci := 6) (q0 := 0) hP hK rfl rfl) rfl rfl hl.1 rfl (lv_room (Nat.le_of_ble_eq_true rfl)) dX6_refusal_2 ⟨Nat.zero_le _, Nat.zero_le _⟩) (fun _ => ?_) (fun h9 => absurd (h1) (by rw [h9]; decide))
  refine lv_if_ne (tgt := 12) hx hb dX6_refusal_5 (by decide) (fun _ => ?_) (fun h9 => absurd h9 (by decide))
  refine lv_iload_n hx hb dX6_refusal_12 rfl (lv_at hl 2 rfl) ?_
  refine lv_iload_n hx hb dX6_refusal_13 rfl (lv_at hl 3 rfl) ?_
  refine lv_iload hx hb dX6_refusal_14 (lv_at hl 4 rfl) ?_
  refine pu_callb (va_runS (As := [.int kd, .int lo, .int hi]) (rest := []) ⟨hx, hb, hml, hown, hts⟩ (c_X6_in kd lo hi) (cwS 3 hts gX6_refusal_X6_in rfl rfl rfl (by decide +kernel) ⟨Nat.le_of_ble_eq_true rfl, Nat.le_of_ble_eq_true rfl⟩) (wd_preS hP hK) rfl rfl hl.1 rfl (lv_room (Nat.le_of_ble_eq_true rfl)) dX6_refusal_16 ⟨Nat.zero_le _, Nat.zero_le _⟩) (fun h9 => absurd (h2) (by rw [h9]; decide)) (fun _ => ?_)
  refine lv_if_ne (tgt := 27) hx hb dX6_refusal_19 (by decide) (fun h9 => absurd (by decide) h9) (fun _ => ?_)
  refine lv_bipush (v := (-2)) hx hb dX6_refusal_22 (by decide) ?_
  refine lv_goto (tgt := 28) hx hb dX6_refusal_24 (by decide) ?_
  exact W.iret (v := (-2)) hx hb hr (fun t9 ht _ => ⟨congrArg (fun z => Outcome.returned (some (Value.int z))) (rfl), ht⟩) (fun _ h9 => nomatch h9) dX6_refusal_28
set_option maxHeartbeats 4000000 in
set_option maxRecDepth 100000 in
theorem c_X6_refusal_a (hh : ad_ok g 16) (hn : n ≤ 100) (t kd lo hi : Int32) (h1 : p_in t (nI n) = true) (h2 : q_in kd lo hi = true) : Met l yX6_refusal wsX6_refusal ({ frames := 2, cells := 0, slots := 0, locals := 43 }) (wd_P D cI cJ [.ref (g 0), .int t, .int kd, .int lo, .int hi] (mo_W cI cJ g fx (nI n) F Wt Sz Nu Pl Bf (nI b) (nI k) G Wk To Sl Sd (nI as) wo pa fa Fo)) (pu_Q (some (.int 0))) 0 0 (fun _ => False) := by
  refine Met.ofW (cc := cX6_refusal) (maxL := 5) (ret := (some .int)) (by decide) rfl ?_
  intro p e s m args below meth c s₁ B hml hv
  obtain ⟨rfl, hP, hK⟩ := hv
  have hx := B.exec
  have hb := B.bytes
  have hr := B.returns
  have hts := atoms_spec (ws := wsX6_refusal) B.pre
  have hown : s.vm.findClass RX6 = some m.cls := findClass_of_methodNamed B.named
  have hlocks := B.notSynchronized
  have hl := lv_entry ([.ref (g 0), .int t, .int kd, .int lo, .int hi]) (n := 5) (Nat.le_of_ble_eq_true rfl)
  rw [lg_entry_eq]
  generalize (lg_sl ([.ref (g 0), .int t, .int kd, .int lo, .int hi]) ++ List.replicate (5 - (lg_sl ([.ref (g 0), .int t, .int kd, .int lo, .int hi])).length) Slot.unset).toArray = ls at hl ⊢
  have hl : lv_has ls 5 [(0, .ref (g 0)), (1, .int t), (2, .int kd), (3, .int lo), (4, .int hi)] := hl
  refine lv_aload_n hx hb dX6_refusal_0 rfl (lv_at hl 0 rfl) ?_
  refine lv_iload_n hx hb dX6_refusal_1 rfl (lv_at hl 1 rfl) ?_
  refine pu_callb (va_runV (As := [.int t]) (rest := []) ⟨hx, hb, hml, hown, hts⟩ (c_X6_isThing hh (hn) t) (cwV 1 hts gX6_refusal_X6_isThing rfl rfl rfl (by decide +kernel) ⟨Nat.le_of_ble_eq_true rfl, Nat.le_of_ble_eq_true rfl⟩) (wd_preV (ci := 6) (q0 := 0) hP hK rfl rfl) rfl rfl hl.1 rfl (lv_room (Nat.le_of_ble_eq_true rfl)) dX6_refusal_2 ⟨Nat.zero_le _, Nat.zero_le _⟩) (fun _ => ?_) (fun h9 => absurd (h1) (by rw [h9]; decide))
  refine lv_if_ne (tgt := 12) hx hb dX6_refusal_5 (by decide) (fun _ => ?_) (fun h9 => absurd h9 (by decide))
  refine lv_iload_n hx hb dX6_refusal_12 rfl (lv_at hl 2 rfl) ?_
  refine lv_iload_n hx hb dX6_refusal_13 rfl (lv_at hl 3 rfl) ?_
  refine lv_iload hx hb dX6_refusal_14 (lv_at hl 4 rfl) ?_
  refine pu_callb (va_runS (As := [.int kd, .int lo, .int hi]) (rest := []) ⟨hx, hb, hml, hown, hts⟩ (c_X6_in kd lo hi) (cwS 3 hts gX6_refusal_X6_in rfl rfl rfl (by decide +kernel) ⟨Nat.le_of_ble_eq_true rfl, Nat.le_of_ble_eq_true rfl⟩) (wd_preS hP hK) rfl rfl hl.1 rfl (lv_room (Nat.le_of_ble_eq_true rfl)) dX6_refusal_16 ⟨Nat.zero_le _, Nat.zero_le _⟩) (fun _ => ?_) (fun h9 => absurd (h2) (by rw [h9]; decide))
  refine lv_if_ne (tgt := 27) hx hb dX6_refusal_19 (by decide) (fun _ => ?_) (fun h9 => absurd h9 (by decide))
  refine lv_iconst (v := 0) hx hb dX6_refusal_27 (by decide) ?_
  exact W.iret (v := 0) hx hb hr (fun t9 ht _ => ⟨congrArg (fun z => Outcome.returned (some (Value.int z))) (rfl), ht⟩) (fun _ h9 => nomatch h9) dX6_refusal_28
set_option maxHeartbeats 4000000 in
set_option maxRecDepth 100000 in
theorem c_X6_low (x : Int32) (v : Int64) : Met l yX6_low wsX6_low ({ frames := 0, cells := 0, slots := 0, locals := 0 }) (wd_P D cI cJ [.int x, .long v] (mo_W cI cJ g fx (nI n) F Wt Sz Nu Pl Bf (nI b) (nI k) G Wk To Sl Sd (nI as) wo pa fa Fo)) (pu_Q (some (.long (lowS x v)))) 0 0 (fun _ => False) := by
  refine Met.ofW (cc := cX6_low) (maxL := 3) (ret := (some .long)) (by decide) rfl ?_
  intro p e s m args below meth c s₁ B hml hv
  obtain ⟨rfl, hP, hK⟩ := hv
  have hx := B.exec
  have hb := B.bytes
  have hr := B.returns
  have hts := atoms_spec (ws := wsX6_low) B.pre
  have hown : s.vm.findClass RX6 = some m.cls := findClass_of_methodNamed B.named
  have hlocks := B.notSynchronized
  have hl := lv_entry ([.int x, .long v]) (n := 3) (Nat.le_of_ble_eq_true rfl)
  rw [lg_entry_eq]
  generalize (lg_sl ([.int x, .long v]) ++ List.replicate (3 - (lg_sl ([.int x, .long v])).length) Slot.unset).toArray = ls at hl ⊢
  have hl : lv_has ls 3 [(0, .int x), (1, .long v)] := hl
  refine lv_iload_n hx hb dX6_low_0 rfl (lv_at hl 0 rfl) ?_
  refine lv_iconst (v := 4) hx hb dX6_low_1 (by decide) ?_
  refine lv_icmp_ne (tgt := 15) hx hb dX6_low_2 (by decide) (fun c2 => ?_) (fun c2 => ?_)
  · skip
    refine lv_iload_n hx hb dX6_low_15 rfl (lv_at hl 0 rfl) ?_
    refine lv_iconst (v := 5) hx hb dX6_low_16 (by decide) ?_
    refine lv_icmp_ne (tgt := 30) hx hb dX6_low_17 (by decide) (fun c17 => ?_) (fun c17 => ?_)
    · skip
      refine lv_lload_n hx hb dX6_low_30 rfl (lv_at hl 1 rfl) ?_
      exact W.lret (v := v) hx hb hr (fun t9 ht _ => ⟨congrArg (fun z => Outcome.returned (some (Value.long z))) (by simp [lowS, c2, c17]), ht⟩) (fun _ h9 => nomatch h9) dX6_low_31
    · skip
      refine lv_lload_n hx hb dX6_low_20 rfl (lv_at hl 1 rfl) ?_
      refine lv_bipush (v := 32) hx hb dX6_low_21 (by decide) ?_
      refine lv_lshl (v := v <<< (Int32.toInt64 32 &&& 63)) hx hb dX6_low_23 rfl ?_
      refine lv_bipush (v := 32) hx hb dX6_low_24 (by decide) ?_
      refine lv_lshr (v := (v <<< (Int32.toInt64 32 &&& 63)) >>> (Int32.toInt64 32 &&& 63)) hx hb dX6_low_26 rfl ?_
      refine lv_goto (tgt := 31) hx hb dX6_low_27 (by decide) ?_
      exact W.lret (v := (v <<< (Int32.toInt64 32 &&& 63)) >>> (Int32.toInt64 32 &&& 63)) hx hb hr (fun t9 ht _ => ⟨congrArg (fun z => Outcome.returned (some (Value.long z))) (by simp [lowS, c2, c17]), ht⟩) (fun _ h9 => nomatch h9) dX6_low_31
  · skip
    refine lv_lload_n hx hb dX6_low_5 rfl (lv_at hl 1 rfl) ?_
    refine lv_bipush (v := 56) hx hb dX6_low_6 (by decide) ?_
    refine lv_lshl (v := v <<< (Int32.toInt64 56 &&& 63)) hx hb dX6_low_8 rfl ?_
    refine lv_bipush (v := 56) hx hb dX6_low_9 (by decide) ?_
    refine lv_lshr (v := (v <<< (Int32.toInt64 56 &&& 63)) >>> (Int32.toInt64 56 &&& 63)) hx hb dX6_low_11 rfl ?_
    refine lv_goto (tgt := 31) hx hb dX6_low_12 (by decide) ?_
    exact W.lret (v := (v <<< (Int32.toInt64 56 &&& 63)) >>> (Int32.toInt64 56 &&& 63)) hx hb hr (fun t9 ht _ => ⟨congrArg (fun z => Outcome.returned (some (Value.long z))) (by simp [lowS, c2]), ht⟩) (fun _ h9 => nomatch h9) dX6_low_31
set_option maxHeartbeats 4000000 in
set_option maxRecDepth 100000 in
theorem c_X6_told (x : Int32) : Met l yX6_told wsX6_told ({ frames := 0, cells := 0, slots := 0, locals := 0 }) (wd_P D cI cJ [.int x] (mo_W cI cJ g fx (nI n) F Wt Sz Nu Pl Bf (nI b) (nI k) G Wk To Sl Sd (nI as) wo pa fa Fo)) (pu_Q (some (.int (tl x)))) 0 0 (fun _ => False) := by
  refine Met.ofW (cc := cX6_told) (maxL := 1) (ret := (some .int)) (by decide) rfl ?_
  intro p e s m args below meth c s₁ B hml hv
  obtain ⟨rfl, hP, hK⟩ := hv
  have hx := B.exec
  have hb := B.bytes
  have hr := B.returns
  have hts := atoms_spec (ws := wsX6_told) B.pre
  have hown : s.vm.findClass RX6 = some m.cls := findClass_of_methodNamed B.named
  have hlocks := B.notSynchronized
  have hl := lv_entry ([.int x]) (n := 1) (Nat.le_of_ble_eq_true rfl)
  rw [lg_entry_eq]
  generalize (lg_sl ([.int x]) ++ List.replicate (1 - (lg_sl ([.int x])).length) Slot.unset).toArray = ls at hl ⊢
  have hl : lv_has ls 1 [(0, .int x)] := hl
  refine lv_iload_n hx hb dX6_told_0 rfl (lv_at hl 0 rfl) ?_
  refine lv_if_ge (tgt := 9) hx hb dX6_told_1 (by decide) (fun c1 => ?_) (fun c1 => ?_)
  · skip
    refine lv_iload_n hx hb dX6_told_9 rfl (lv_at hl 0 rfl) ?_
    exact W.iret (v := x) hx hb hr (fun t9 ht _ => ⟨congrArg (fun z => Outcome.returned (some (Value.int z))) (by unfold tl; rw [if_neg (by rw [Int32.lt_iff_toInt_lt]; rw [Int32.le_iff_toInt_le] at c1; omega)]), ht⟩) (fun _ h9 => nomatch h9) dX6_told_10
  · skip
    refine lv_bipush (v := (-5)) hx hb dX6_told_4 (by decide) ?_
    refine lv_goto (tgt := 10) hx hb dX6_told_6 (by decide) ?_
    exact W.iret (v := (-5)) hx hb hr (fun t9 ht _ => ⟨congrArg (fun z => Outcome.returned (some (Value.int z))) (by unfold tl; rw [if_pos (by rw [Int32.lt_iff_toInt_lt]; rw [Int32.le_iff_toInt_le] at c1; omega)]), ht⟩) (fun _ h9 => nomatch h9) dX6_told_10
set_option maxHeartbeats 4000000 in
set_option maxRecDepth 100000 in
theorem c_X6_lays_c (hh : ad_ok g 16) (hn : n ≤ 100) (r : Nat) (hr9 : r < n) (a : Nat) (ha : a < 16) (hFa : F r = nI a) (c9 : Nat) (hc : c9 < 18) (hc16 : c9 < 16) (i ot : Int32) (h1 : ko (F r) (nI c9) = false) : Met l yX6_lays wsX6_lays ({ frames := 3, cells := 0, slots := 0, locals := 120 }) (wd_P D cI cJ [.ref (g 0), .int (nI r), .int (nI c9), .int i, .int ot] (mo_W cI cJ g fx (nI n) F Wt Sz Nu Pl Bf (nI b) (nI k) G Wk To Sl Sd (nI as) wo pa fa Fo)) (pu_Q (some (.int 1))) 0 0 (fun _ => False) := by
  refine Met.ofW (cc := cX6_lays) (maxL := 5) (ret := (some .int)) (by decide) rfl ?_
  intro p e s m args below meth c s₁ B hml hv
  obtain ⟨rfl, hP, hK⟩ := hv
  have hx := B.exec
  have hb := B.bytes
  have hr := B.returns
  have hts := atoms_spec (ws := wsX6_lays) B.pre
  have hown : s.vm.findClass RX6 = some m.cls := findClass_of_methodNamed B.named
  have hlocks := B.notSynchronized
  have hl := lv_entry ([.ref (g 0), .int (nI r), .int (nI c9), .int i, .int ot]) (n := 5) (Nat.le_of_ble_eq_true rfl)
  rw [lg_entry_eq]
  generalize (lg_sl ([.ref (g 0), .int (nI r), .int (nI c9), .int i, .int ot]) ++ List.replicate (5 - (lg_sl ([.ref (g 0), .int (nI r), .int (nI c9), .int i, .int ot])).length) Slot.unset).toArray = ls at hl ⊢
  have hl : lv_has ls 5 [(0, .ref (g 0)), (1, .int (nI r)), (2, .int (nI c9)), (3, .int i), (4, .int ot)] := hl
  refine lv_aload_n hx hb dX6_lays_0 rfl (lv_at hl 0 rfl) ?_
  refine lv_iload_n hx hb dX6_lays_1 rfl (lv_at hl 1 rfl) ?_
  refine lv_iload_n hx hb dX6_lays_2 rfl (lv_at hl 2 rfl) ?_
  refine pu_callb (va_runV (As := [.int (nI r), .int (nI c9)]) (rest := []) ⟨hx, hb, hml, hown, hts⟩ (c_X6_isOf hh hn r (by omega) a ha hFa c9 (by omega)) (cwV 2 hts gX6_lays_X6_isOf rfl rfl rfl (by decide +kernel) ⟨Nat.le_of_ble_eq_true rfl, Nat.le_of_ble_eq_true rfl⟩) (wd_preV (ci := 6) (q0 := 0) hP hK rfl rfl) rfl rfl hl.1 rfl (lv_room (Nat.le_of_ble_eq_true rfl)) dX6_lays_3 ⟨Nat.zero_le _, Nat.zero_le _⟩) (fun h9 => absurd (h1) (by rw [h9]; decide)) (fun _ => ?_)
  refine lv_if_eq (tgt := 24) hx hb dX6_lays_6 (by decide) (fun _ => ?_) (fun h9 => absurd (by decide) h9)
  refine lv_iconst (v := 1) hx hb dX6_lays_24 (by decide) ?_
  exact W.iret (v := 1) hx hb hr (fun t9 ht _ => ⟨congrArg (fun z => Outcome.returned (some (Value.int z))) (rfl), ht⟩) (fun _ h9 => nomatch h9) dX6_lays_25
set_option maxHeartbeats 4000000 in
set_option maxRecDepth 100000 in
theorem c_X6_lays_nB (hh : ad_ok g 16) (hn : n ≤ 100) (r : Nat) (hr9 : r < n) (a : Nat) (ha : a < 16) (hFa : F r = nI a) (c9 : Nat) (hc : c9 < 18) (hc16 : c9 < 16) (z : Nat) (hz : Sz r = nI z) (hz8 : z ≤ 8) (i : Int32) (h1 : ko (F r) (nI c9) = true) (h2 : p_in i (Sz r) = false) : Met l yX6_lays wsX6_lays ({ frames := 3, cells := 0, slots := 0, locals := 120 }) (wd_P D cI cJ [.ref (g 0), .int (nI r), .int (nI c9), .int i, .int (-1)] (mo_W cI cJ g fx (nI n) F Wt Sz Nu Pl Bf (nI b) (nI k) G Wk To Sl Sd (nI as) wo pa fa Fo)) (pu_Q (some (.int 3))) 0 0 (fun _ => False) := by
  refine Met.ofW (cc := cX6_lays) (maxL := 5) (ret := (some .int)) (by decide) rfl ?_
  intro p e s m args below meth c s₁ B hml hv
  obtain ⟨rfl, hP, hK⟩ := hv
  have hx := B.exec
  have hb := B.bytes
  have hr := B.returns
  have hts := atoms_spec (ws := wsX6_lays) B.pre
  have hown : s.vm.findClass RX6 = some m.cls := findClass_of_methodNamed B.named
  have hlocks := B.notSynchronized
  have hiX6 : ∀ w ∈ u_ws RX6 TX6 23, w ∈ wsX6_lays := by decide +kernel
  have kf32 := hts (.fieldLink RX6 32 "SortingLineModel" "partOf" "[I") (by decide +kernel)
  have kf16 := hts (.fieldLink RX6 16 "SortingLineModel" "sizes" "[I") (by decide +kernel)
  have hl := lv_entry ([.ref (g 0), .int (nI r), .int (nI c9), .int i, .int (-1)]) (n := 5) (Nat.le_of_ble_eq_true rfl)
  rw [lg_entry_eq]
  generalize (lg_sl ([.ref (g 0), .int (nI r), .int (nI c9), .int i, .int (-1)]) ++ List.replicate (5 - (lg_sl ([.ref (g 0), .int (nI r), .int (nI c9), .int i, .int (-1)])).length) Slot.unset).toArray = ls at hl ⊢
  have hl : lv_has ls 5 [(0, .ref (g 0)), (1, .int (nI r)), (2, .int (nI c9)), (3, .int i), (4, .int (-1))] := hl
  refine lv_aload_n hx hb dX6_lays_0 rfl (lv_at hl 0 rfl) ?_
  refine lv_iload_n hx hb dX6_lays_1 rfl (lv_at hl 1 rfl) ?_
  refine lv_iload_n hx hb dX6_lays_2 rfl (lv_at hl 2 rfl) ?_
  refine pu_callb (va_runV (As := [.int (nI r), .int (nI c9)]) (rest := []) ⟨hx, hb, hml, hown, hts⟩ (c_X6_isOf hh hn r (by omega) a ha hFa c9 (by omega)) (cwV 2 hts gX6_lays_X6_isOf rfl rfl rfl (by decide +kernel) ⟨Nat.le_of_ble_eq_true rfl, Nat.le_of_ble_eq_true rfl⟩) (wd_preV (ci := 6) (q0 := 0) hP hK rfl rfl) rfl rfl hl.1 rfl (lv_room (Nat.le_of_ble_eq_true rfl)) dX6_lays_3 ⟨Nat.zero_le _, Nat.zero_le _⟩) (fun _ => ?_) (fun h9 => absurd (h1) (by rw [h9]; decide))
  refine lv_if_eq (tgt := 24) hx hb dX6_lays_6 (by decide) (fun h9 => absurd h9 (by decide)) (fun _ => ?_)
  refine lv_aload_n hx hb dX6_lays_9 rfl (lv_at hl 0 rfl) ?_
  refine lv_iload hx hb dX6_lays_10 (lv_at hl 4 rfl) ?_
  refine lv_aload_n hx hb dX6_lays_12 rfl (lv_at hl 0 rfl) ?_
  refine va_get (D := D) (ci := 6) (v := .ref (g 7)) (C := RX6) (T := TX6) (N := 23) hx hb hts hiX6 hown hK.1 hP 0 rfl rfl 8 (by decide) kf32 (fun _ h9 => h9) rfl dX6_lays_13 ?_
  refine lv_iload_n hx hb dX6_lays_16 rfl (lv_at hl 2 rfl) ?_
  refine ga_ild hx hb hK hP 7 rfl c9 (rfl) (by omega) (by decide) dX6_lays_17 ?_
  refine pu_calli (va_runV (As := [.int (-1), .int (pt_of c9)]) (rest := []) ⟨hx, hb, hml, hown, hts⟩ (c_X6_passes_n hh (pt_of c9)) (cwV 2 hts gX6_lays_X6_passes rfl rfl rfl (by decide +kernel) ⟨Nat.le_of_ble_eq_true rfl, Nat.le_of_ble_eq_true rfl⟩) (wd_preV (ci := 6) (q0 := 0) hP hK rfl rfl) rfl rfl hl.1 rfl (lv_room (Nat.le_of_ble_eq_true rfl)) dX6_lays_18 ⟨Nat.zero_le _, Nat.zero_le _⟩) ?_
  refine lv_if_ne (tgt := 26) hx hb dX6_lays_21 (by decide) (fun _ => ?_) (fun h9 => absurd h9 (by decide))
  refine lv_iload_n hx hb dX6_lays_26 rfl (lv_at hl 3 rfl) ?_
  refine lv_iconst (v := 0) hx hb dX6_lays_27 (by decide) ?_
  refine lv_aload_n hx hb dX6_lays_28 rfl (lv_at hl 0 rfl) ?_
  refine va_get (D := D) (ci := 6) (v := .ref (g 3)) (C := RX6) (T := TX6) (N := 23) hx hb hts hiX6 hown hK.1 hP 0 rfl rfl 4 (by decide) kf16 (fun _ h9 => h9) rfl dX6_lays_29 ?_
  refine lv_iload_n hx hb dX6_lays_32 rfl (lv_at hl 1 rfl) ?_
  refine ga_ild hx hb hK hP 3 rfl r (rfl) (by omega) (by decide) dX6_lays_33 ?_
  refine tp_i (y := nI z) (hz) ?_
  refine lv_iconst (v := 1) hx hb dX6_lays_34 (by decide) ?_
  refine lv_isub hx hb dX6_lays_35 ?_
  refine pu_callb (va_runS (As := [.int i, .int 0, .int ((nI z) - 1)]) (rest := []) ⟨hx, hb, hml, hown, hts⟩ (c_X6_in i 0 ((nI z) - 1)) (cwS 3 hts gX6_lays_X6_in rfl rfl rfl (by decide +kernel) ⟨Nat.le_of_ble_eq_true rfl, Nat.le_of_ble_eq_true rfl⟩) (wd_preS hP hK) rfl rfl hl.1 rfl (lv_room (Nat.le_of_ble_eq_true rfl)) dX6_lays_36 ⟨Nat.zero_le _, Nat.zero_le _⟩) (fun h9 => absurd (show q_in _ 0 (nI z - 1) = false from (q_p (by omega)).trans (hz ▸ h2)) (by rw [h9]; decide)) (fun _ => ?_)
  refine lv_if_ne (tgt := 44) hx hb dX6_lays_39 (by decide) (fun h9 => absurd (by decide) h9) (fun _ => ?_)
  refine lv_iconst (v := 3) hx hb dX6_lays_42 (by decide) ?_
  exact W.iret (v := 3) hx hb hr (fun t9 ht _ => ⟨congrArg (fun z => Outcome.returned (some (Value.int z))) (rfl), ht⟩) (fun _ h9 => nomatch h9) dX6_lays_43
set_option maxHeartbeats 4000000 in
set_option maxRecDepth 100000 in
theorem c_X6_lays_nO (hh : ad_ok g 16) (hn : n ≤ 100) (r : Nat) (hr9 : r < n) (a : Nat) (ha : a < 16) (hFa : F r = nI a) (c9 : Nat) (hc : c9 < 18) (hc16 : c9 < 16) (z : Nat) (hz : Sz r = nI z) (hz8 : z ≤ 8) (j : Nat) (hj : j < 8) (h1 : ko (F r) (nI c9) = true) (h2 : p_in (nI j) (Sz r) = true) : Met l yX6_lays wsX6_lays ({ frames := 3, cells := 0, slots := 0, locals := 120 }) (wd_P D cI cJ [.ref (g 0), .int (nI r), .int (nI c9), .int (nI j), .int (-1)] (mo_W cI cJ g fx (nI n) F Wt Sz Nu Pl Bf (nI b) (nI k) G Wk To Sl Sd (nI as) wo pa fa Fo)) (mu_Q D (ad_A g 16) (some (.int 0)) (mo_W cI cJ g fx (nI n) F Wt Sz Nu (upd Pl (8 * r + j) (-1)) Bf (nI b) (nI k) G Wk To Sl Sd (nI as) wo pa fa Fo)) 0 0 (ad_A g 16) := by
  refine Met.ofW (cc := cX6_lays) (maxL := 5) (ret := (some .int)) (by decide) rfl ?_
  intro p e s m args below meth c s₁ B hml hv
  obtain ⟨rfl, hP, hK⟩ := hv
  have hx := B.exec
  have hb := B.bytes
  have hr := B.returns
  have hts := atoms_spec (ws := wsX6_lays) B.pre
  have hown : s.vm.findClass RX6 = some m.cls := findClass_of_methodNamed B.named
  have hlocks := B.notSynchronized
  have hiX6 : ∀ w ∈ u_ws RX6 TX6 23, w ∈ wsX6_lays := by decide +kernel
  have kf32 := hts (.fieldLink RX6 32 "SortingLineModel" "partOf" "[I") (by decide +kernel)
  have kf16 := hts (.fieldLink RX6 16 "SortingLineModel" "sizes" "[I") (by decide +kernel)
  have kf7 := hts (.fieldLink RX6 7 "SortingLineModel" "forms" "[I") (by decide +kernel)
  have kf23 := hts (.fieldLink RX6 23 "SortingLineModel" "places" "[I") (by decide +kernel)
  have hS : va_S (ad_A g 16) s.heap s.heap [] := va_S.rf
  have hl := lv_entry ([.ref (g 0), .int (nI r), .int (nI c9), .int (nI j), .int (-1)]) (n := 5) (Nat.le_of_ble_eq_true rfl)
  rw [lg_entry_eq]
  generalize (lg_sl ([.ref (g 0), .int (nI r), .int (nI c9), .int (nI j), .int (-1)]) ++ List.replicate (5 - (lg_sl ([.ref (g 0), .int (nI r), .int (nI c9), .int (nI j), .int (-1)])).length) Slot.unset).toArray = ls at hl ⊢
  have hl : lv_has ls 5 [(0, .ref (g 0)), (1, .int (nI r)), (2, .int (nI c9)), (3, .int (nI j)), (4, .int (-1))] := hl
  refine lv_aload_n hx hb dX6_lays_0 rfl (lv_at hl 0 rfl) ?_
  refine lv_iload_n hx hb dX6_lays_1 rfl (lv_at hl 1 rfl) ?_
  refine lv_iload_n hx hb dX6_lays_2 rfl (lv_at hl 2 rfl) ?_
  refine pu_callb (va_runV (As := [.int (nI r), .int (nI c9)]) (rest := []) ⟨hx, hb, hml, hown, hts⟩ (c_X6_isOf hh hn r (by omega) a ha hFa c9 (by omega)) (cwV 2 hts gX6_lays_X6_isOf rfl rfl rfl (by decide +kernel) ⟨Nat.le_of_ble_eq_true rfl, Nat.le_of_ble_eq_true rfl⟩) (wd_preV (ci := 6) (q0 := 0) hP hK rfl rfl) rfl rfl hl.1 rfl (lv_room (Nat.le_of_ble_eq_true rfl)) dX6_lays_3 ⟨Nat.zero_le _, Nat.zero_le _⟩) (fun _ => ?_) (fun h9 => absurd (h1) (by rw [h9]; decide))
  refine lv_if_eq (tgt := 24) hx hb dX6_lays_6 (by decide) (fun h9 => absurd h9 (by decide)) (fun _ => ?_)
  refine lv_aload_n hx hb dX6_lays_9 rfl (lv_at hl 0 rfl) ?_
  refine lv_iload hx hb dX6_lays_10 (lv_at hl 4 rfl) ?_
  refine lv_aload_n hx hb dX6_lays_12 rfl (lv_at hl 0 rfl) ?_
  refine va_get (D := D) (ci := 6) (v := .ref (g 7)) (C := RX6) (T := TX6) (N := 23) hx hb hts hiX6 hown hK.1 hP 0 rfl rfl 8 (by decide) kf32 (fun _ h9 => h9) rfl dX6_lays_13 ?_
  refine lv_iload_n hx hb dX6_lays_16 rfl (lv_at hl 2 rfl) ?_
  refine ga_ild hx hb hK hP 7 rfl c9 (rfl) (by omega) (by decide) dX6_lays_17 ?_
  refine pu_calli (va_runV (As := [.int (-1), .int (pt_of c9)]) (rest := []) ⟨hx, hb, hml, hown, hts⟩ (c_X6_passes_n hh (pt_of c9)) (cwV 2 hts gX6_lays_X6_passes rfl rfl rfl (by decide +kernel) ⟨Nat.le_of_ble_eq_true rfl, Nat.le_of_ble_eq_true rfl⟩) (wd_preV (ci := 6) (q0 := 0) hP hK rfl rfl) rfl rfl hl.1 rfl (lv_room (Nat.le_of_ble_eq_true rfl)) dX6_lays_18 ⟨Nat.zero_le _, Nat.zero_le _⟩) ?_
  refine lv_if_ne (tgt := 26) hx hb dX6_lays_21 (by decide) (fun _ => ?_) (fun h9 => absurd h9 (by decide))
  refine lv_iload_n hx hb dX6_lays_26 rfl (lv_at hl 3 rfl) ?_
  refine lv_iconst (v := 0) hx hb dX6_lays_27 (by decide) ?_
  refine lv_aload_n hx hb dX6_lays_28 rfl (lv_at hl 0 rfl) ?_
  refine va_get (D := D) (ci := 6) (v := .ref (g 3)) (C := RX6) (T := TX6) (N := 23) hx hb hts hiX6 hown hK.1 hP 0 rfl rfl 4 (by decide) kf16 (fun _ h9 => h9) rfl dX6_lays_29 ?_
  refine lv_iload_n hx hb dX6_lays_32 rfl (lv_at hl 1 rfl) ?_
  refine ga_ild hx hb hK hP 3 rfl r (rfl) (by omega) (by decide) dX6_lays_33 ?_
  refine tp_i (y := nI z) (hz) ?_
  refine lv_iconst (v := 1) hx hb dX6_lays_34 (by decide) ?_
  refine lv_isub hx hb dX6_lays_35 ?_
  refine pu_callb (va_runS (As := [.int (nI j), .int 0, .int ((nI z) - 1)]) (rest := []) ⟨hx, hb, hml, hown, hts⟩ (c_X6_in (nI j) 0 ((nI z) - 1)) (cwS 3 hts gX6_lays_X6_in rfl rfl rfl (by decide +kernel) ⟨Nat.le_of_ble_eq_true rfl, Nat.le_of_ble_eq_true rfl⟩) (wd_preS hP hK) rfl rfl hl.1 rfl (lv_room (Nat.le_of_ble_eq_true rfl)) dX6_lays_36 ⟨Nat.zero_le _, Nat.zero_le _⟩) (fun _ => ?_) (fun h9 => absurd (show q_in _ 0 (nI z - 1) = true from (q_p (by omega)).trans (hz ▸ h2)) (by rw [h9]; decide))
  refine lv_if_ne (tgt := 44) hx hb dX6_lays_39 (by decide) (fun _ => ?_) (fun h9 => absurd h9 (by decide))
  refine lv_aload_n hx hb dX6_lays_44 rfl (lv_at hl 0 rfl) ?_
  refine lv_iload hx hb dX6_lays_45 (lv_at hl 4 rfl) ?_
  refine lv_aload_n hx hb dX6_lays_47 rfl (lv_at hl 0 rfl) ?_
  refine va_get (D := D) (ci := 6) (v := .ref (g 7)) (C := RX6) (T := TX6) (N := 23) hx hb hts hiX6 hown hK.1 hP 0 rfl rfl 8 (by decide) kf32 (fun _ h9 => h9) rfl dX6_lays_48 ?_
  refine lv_aload_n hx hb dX6_lays_51 rfl (lv_at hl 0 rfl) ?_
  refine va_get (D := D) (ci := 6) (v := .ref (g 1)) (C := RX6) (T := TX6) (N := 23) hx hb hts hiX6 hown hK.1 hP 0 rfl rfl 2 (by decide) kf7 (fun _ h9 => h9) rfl dX6_lays_52 ?_
  refine lv_iload_n hx hb dX6_lays_55 rfl (lv_at hl 1 rfl) ?_
  refine ga_ild hx hb hK hP 1 rfl r (rfl) (by omega) (by decide) dX6_lays_56 ?_
  refine tp_i (y := nI a) (hFa) ?_
  refine ga_ild hx hb hK hP 7 rfl a (rfl) (by omega) (by decide) dX6_lays_57 ?_
  refine pu_calli (va_runV (As := [.int (-1), .int (pt_of a)]) (rest := []) ⟨hx, hb, hml, hown, hts⟩ (c_X6_passes_n hh (pt_of a)) (cwV 2 hts gX6_lays_X6_passes rfl rfl rfl (by decide +kernel) ⟨Nat.le_of_ble_eq_true rfl, Nat.le_of_ble_eq_true rfl⟩) (wd_preV (ci := 6) (q0 := 0) hP hK rfl rfl) rfl rfl hl.1 rfl (lv_room (Nat.le_of_ble_eq_true rfl)) dX6_lays_58 ⟨Nat.zero_le _, Nat.zero_le _⟩) ?_
  refine lv_if_ne (tgt := 66) hx hb dX6_lays_61 (by decide) (fun _ => ?_) (fun h9 => absurd h9 (by decide))
  refine lv_aload_n hx hb dX6_lays_66 rfl (lv_at hl 0 rfl) ?_
  refine va_get (D := D) (ci := 6) (v := .ref (g 5)) (C := RX6) (T := TX6) (N := 23) hx hb hts hiX6 hown hK.1 hP 0 rfl rfl 6 (by decide) kf23 (fun _ h9 => h9) rfl dX6_lays_67 ?_
  refine lv_bipush (v := 8) hx hb dX6_lays_70 (by decide) ?_
  refine lv_iload_n hx hb dX6_lays_72 rfl (lv_at hl 1 rfl) ?_
  refine lv_imul hx hb dX6_lays_73 ?_
  refine tp_i (y := nI (8 * r)) (pk_mul 8 r) ?_
  refine lv_iload_n hx hb dX6_lays_74 rfl (lv_at hl 3 rfl) ?_
  refine lv_iadd hx hb dX6_lays_75 ?_
  refine tp_i (y := nI ((8 * r) + j)) (nI_add (8 * r) j) ?_
  refine lv_iload hx hb dX6_lays_76 (lv_at hl 4 rfl) ?_
  refine ga_ist hx hb hK hP (mo_D hh) hS 5 rfl ((8 * r) + j) (rfl) (by omega) (by decide) dX6_lays_78 (fun H locs hP hS => ?_)
  have hP : va_P D kC (mo_W cI cJ g fx (nI n) F Wt Sz Nu (upd Pl ((8 * r) + j) (-1)) Bf (nI b) (nI k) G Wk To Sl Sd (nI as) wo pa fa Fo) H := hP
  refine lv_iconst (v := 0) hx hb dX6_lays_79 (by decide) ?_
  exact W.iret (v := 0) hx hb hr (fun t9 ht _ => ⟨congrArg (fun z => Outcome.returned (some (Value.int z))) (rfl), by rw [ht]; exact hP, hS.F ht⟩) hS.2.2 dX6_lays_80
set_option maxHeartbeats 4000000 in
set_option maxRecDepth 100000 in
theorem c_X6_lays_pC (hh : ad_ok g 16) (hn : n ≤ 100) (r : Nat) (hr9 : r < n) (a : Nat) (ha : a < 16) (hFa : F r = nI a) (c9 : Nat) (hc : c9 < 18) (hc16 : c9 < 16) (d9 : Nat) (hd : d9 < 18) (hd9 : pt_of c9 = nI d9) (p9 : Nat) (hp9 : p9 < n) (a2 : Nat) (ha2 : a2 < 16) (hFa2 : F p9 = nI a2) (i : Int32) (h1 : ko (F r) (nI c9) = true) (h4 : ko (F p9) (nI d9) = false) : Met l yX6_lays wsX6_lays ({ frames := 3, cells := 0, slots := 0, locals := 120 }) (wd_P D cI cJ [.ref (g 0), .int (nI r), .int (nI c9), .int i, .int (nI p9)] (mo_W cI cJ g fx (nI n) F Wt Sz Nu Pl Bf (nI b) (nI k) G Wk To Sl Sd (nI as) wo pa fa Fo)) (pu_Q (some (.int 1))) 0 0 (fun _ => False) := by
  refine Met.ofW (cc := cX6_lays) (maxL := 5) (ret := (some .int)) (by decide) rfl ?_
  intro p e s m args below meth c s₁ B hml hv
  obtain ⟨rfl, hP, hK⟩ := hv
  have hx := B.exec
  have hb := B.bytes
  have hr := B.returns
  have hts := atoms_spec (ws := wsX6_lays) B.pre
  have hown : s.vm.findClass RX6 = some m.cls := findClass_of_methodNamed B.named
  have hlocks := B.notSynchronized
  have hiX6 : ∀ w ∈ u_ws RX6 TX6 23, w ∈ wsX6_lays := by decide +kernel
  have kf32 := hts (.fieldLink RX6 32 "SortingLineModel" "partOf" "[I") (by decide +kernel)
  have hl := lv_entry ([.ref (g 0), .int (nI r), .int (nI c9), .int i, .int (nI p9)]) (n := 5) (Nat.le_of_ble_eq_true rfl)
  rw [lg_entry_eq]
  generalize (lg_sl ([.ref (g 0), .int (nI r), .int (nI c9), .int i, .int (nI p9)]) ++ List.replicate (5 - (lg_sl ([.ref (g 0), .int (nI r), .int (nI c9), .int i, .int (nI p9)])).length) Slot.unset).toArray = ls at hl ⊢
  have hl : lv_has ls 5 [(0, .ref (g 0)), (1, .int (nI r)), (2, .int (nI c9)), (3, .int i), (4, .int (nI p9))] := hl
  refine lv_aload_n hx hb dX6_lays_0 rfl (lv_at hl 0 rfl) ?_
  refine lv_iload_n hx hb dX6_lays_1 rfl (lv_at hl 1 rfl) ?_
  refine lv_iload_n hx hb dX6_lays_2 rfl (lv_at hl 2 rfl) ?_
  refine pu_callb (va_runV (As := [.int (nI r), .int (nI c9)]) (rest := []) ⟨hx, hb, hml, hown, hts⟩ (c_X6_isOf hh hn r (by omega) a ha hFa c9 (by omega)) (cwV 2 hts gX6_lays_X6_isOf rfl rfl rfl (by decide +kernel) ⟨Nat.le_of_ble_eq_true rfl, Nat.le_of_ble_eq_true rfl⟩) (wd_preV (ci := 6) (q0 := 0) hP hK rfl rfl) rfl rfl hl.1 rfl (lv_room (Nat.le_of_ble_eq_true rfl)) dX6_lays_3 ⟨Nat.zero_le _, Nat.zero_le _⟩) (fun _ => ?_) (fun h9 => absurd (h1) (by rw [h9]; decide))
  refine lv_if_eq (tgt := 24) hx hb dX6_lays_6 (by decide) (fun h9 => absurd h9 (by decide)) (fun _ => ?_)
  refine lv_aload_n hx hb dX6_lays_9 rfl (lv_at hl 0 rfl) ?_
  refine lv_iload hx hb dX6_lays_10 (lv_at hl 4 rfl) ?_
  refine lv_aload_n hx hb dX6_lays_12 rfl (lv_at hl 0 rfl) ?_
  refine va_get (D := D) (ci := 6) (v := .ref (g 7)) (C := RX6) (T := TX6) (N := 23) hx hb hts hiX6 hown hK.1 hP 0 rfl rfl 8 (by decide) kf32 (fun _ h9 => h9) rfl dX6_lays_13 ?_
  refine lv_iload_n hx hb dX6_lays_16 rfl (lv_at hl 2 rfl) ?_
  refine ga_ild hx hb hK hP 7 rfl c9 (rfl) (by omega) (by decide) dX6_lays_17 ?_
  refine tp_i (y := nI d9) (hd9) ?_
  refine pu_callb (va_runV (As := [.int (nI p9), .int (nI d9)]) (rest := []) ⟨hx, hb, hml, hown, hts⟩ (c_X6_passes_p hh hn p9 (by omega) a2 ha2 hFa2 d9 (by omega)) (cwV 2 hts gX6_lays_X6_passes rfl rfl rfl (by decide +kernel) ⟨Nat.le_of_ble_eq_true rfl, Nat.le_of_ble_eq_true rfl⟩) (wd_preV (ci := 6) (q0 := 0) hP hK rfl rfl) rfl rfl hl.1 rfl (lv_room (Nat.le_of_ble_eq_true rfl)) dX6_lays_18 ⟨Nat.zero_le _, Nat.zero_le _⟩) (fun h9 => absurd (h4) (by rw [h9]; decide)) (fun _ => ?_)
  refine lv_if_ne (tgt := 26) hx hb dX6_lays_21 (by decide) (fun h9 => absurd (by decide) h9) (fun _ => ?_)
  refine lv_iconst (v := 1) hx hb dX6_lays_24 (by decide) ?_
  exact W.iret (v := 1) hx hb hr (fun t9 ht _ => ⟨congrArg (fun z => Outcome.returned (some (Value.int z))) (rfl), ht⟩) (fun _ h9 => nomatch h9) dX6_lays_25
set_option maxHeartbeats 4000000 in
set_option maxRecDepth 100000 in
theorem c_X6_lays_pB (hh : ad_ok g 16) (hn : n ≤ 100) (r : Nat) (hr9 : r < n) (a : Nat) (ha : a < 16) (hFa : F r = nI a) (c9 : Nat) (hc : c9 < 18) (hc16 : c9 < 16) (d9 : Nat) (hd : d9 < 18) (hd9 : pt_of c9 = nI d9) (p9 : Nat) (hp9 : p9 < n) (a2 : Nat) (ha2 : a2 < 16) (hFa2 : F p9 = nI a2) (z : Nat) (hz : Sz r = nI z) (hz8 : z ≤ 8) (i : Int32) (h1 : ko (F r) (nI c9) = true) (h4 : ko (F p9) (nI d9) = true) (h2 : p_in i (Sz r) = false) : Met l yX6_lays wsX6_lays ({ frames := 3, cells := 0, slots := 0, locals := 120 }) (wd_P D cI cJ [.ref (g 0), .int (nI r), .int (nI c9), .int i, .int (nI p9)] (mo_W cI cJ g fx (nI n) F Wt Sz Nu Pl Bf (nI b) (nI k) G Wk To Sl Sd (nI as) wo pa fa Fo)) (pu_Q (some (.int 3))) 0 0 (fun _ => False) := by
  refine Met.ofW (cc := cX6_lays) (maxL := 5) (ret := (some .int)) (by decide) rfl ?_
  intro p e s m args below meth c s₁ B hml hv
  obtain ⟨rfl, hP, hK⟩ := hv
  have hx := B.exec
  have hb := B.bytes
  have hr := B.returns
  have hts := atoms_spec (ws := wsX6_lays) B.pre
  have hown : s.vm.findClass RX6 = some m.cls := findClass_of_methodNamed B.named
  have hlocks := B.notSynchronized
  have hiX6 : ∀ w ∈ u_ws RX6 TX6 23, w ∈ wsX6_lays := by decide +kernel
  have kf32 := hts (.fieldLink RX6 32 "SortingLineModel" "partOf" "[I") (by decide +kernel)
  have kf16 := hts (.fieldLink RX6 16 "SortingLineModel" "sizes" "[I") (by decide +kernel)
  have hl := lv_entry ([.ref (g 0), .int (nI r), .int (nI c9), .int i, .int (nI p9)]) (n := 5) (Nat.le_of_ble_eq_true rfl)
  rw [lg_entry_eq]
  generalize (lg_sl ([.ref (g 0), .int (nI r), .int (nI c9), .int i, .int (nI p9)]) ++ List.replicate (5 - (lg_sl ([.ref (g 0), .int (nI r), .int (nI c9), .int i, .int (nI p9)])).length) Slot.unset).toArray = ls at hl ⊢
  have hl : lv_has ls 5 [(0, .ref (g 0)), (1, .int (nI r)), (2, .int (nI c9)), (3, .int i), (4, .int (nI p9))] := hl
  refine lv_aload_n hx hb dX6_lays_0 rfl (lv_at hl 0 rfl) ?_
  refine lv_iload_n hx hb dX6_lays_1 rfl (lv_at hl 1 rfl) ?_
  refine lv_iload_n hx hb dX6_lays_2 rfl (lv_at hl 2 rfl) ?_
  refine pu_callb (va_runV (As := [.int (nI r), .int (nI c9)]) (rest := []) ⟨hx, hb, hml, hown, hts⟩ (c_X6_isOf hh hn r (by omega) a ha hFa c9 (by omega)) (cwV 2 hts gX6_lays_X6_isOf rfl rfl rfl (by decide +kernel) ⟨Nat.le_of_ble_eq_true rfl, Nat.le_of_ble_eq_true rfl⟩) (wd_preV (ci := 6) (q0 := 0) hP hK rfl rfl) rfl rfl hl.1 rfl (lv_room (Nat.le_of_ble_eq_true rfl)) dX6_lays_3 ⟨Nat.zero_le _, Nat.zero_le _⟩) (fun _ => ?_) (fun h9 => absurd (h1) (by rw [h9]; decide))
  refine lv_if_eq (tgt := 24) hx hb dX6_lays_6 (by decide) (fun h9 => absurd h9 (by decide)) (fun _ => ?_)
  refine lv_aload_n hx hb dX6_lays_9 rfl (lv_at hl 0 rfl) ?_
  refine lv_iload hx hb dX6_lays_10 (lv_at hl 4 rfl) ?_
  refine lv_aload_n hx hb dX6_lays_12 rfl (lv_at hl 0 rfl) ?_
  refine va_get (D := D) (ci := 6) (v := .ref (g 7)) (C := RX6) (T := TX6) (N := 23) hx hb hts hiX6 hown hK.1 hP 0 rfl rfl 8 (by decide) kf32 (fun _ h9 => h9) rfl dX6_lays_13 ?_
  refine lv_iload_n hx hb dX6_lays_16 rfl (lv_at hl 2 rfl) ?_
  refine ga_ild hx hb hK hP 7 rfl c9 (rfl) (by omega) (by decide) dX6_lays_17 ?_
  refine tp_i (y := nI d9) (hd9) ?_
  refine pu_callb (va_runV (As := [.int (nI p9), .int (nI d9)]) (rest := []) ⟨hx, hb, hml, hown, hts⟩ (c_X6_passes_p hh hn p9 (by omega) a2 ha2 hFa2 d9 (by omega)) (cwV 2 hts gX6_lays_X6_passes rfl rfl rfl (by decide +kernel) ⟨Nat.le_of_ble_eq_true rfl, Nat.le_of_ble_eq_true rfl⟩) (wd_preV (ci := 6) (q0 := 0) hP hK rfl rfl) rfl rfl hl.1 rfl (lv_room (Nat.le_of_ble_eq_true rfl)) dX6_lays_18 ⟨Nat.zero_le _, Nat.zero_le _⟩) (fun _ => ?_) (fun h9 => absurd (h4) (by rw [h9]; decide))
  refine lv_if_ne (tgt := 26) hx hb dX6_lays_21 (by decide) (fun _ => ?_) (fun h9 => absurd h9 (by decide))
  refine lv_iload_n hx hb dX6_lays_26 rfl (lv_at hl 3 rfl) ?_
  refine lv_iconst (v := 0) hx hb dX6_lays_27 (by decide) ?_
  refine lv_aload_n hx hb dX6_lays_28 rfl (lv_at hl 0 rfl) ?_
  refine va_get (D := D) (ci := 6) (v := .ref (g 3)) (C := RX6) (T := TX6) (N := 23) hx hb hts hiX6 hown hK.1 hP 0 rfl rfl 4 (by decide) kf16 (fun _ h9 => h9) rfl dX6_lays_29 ?_
  refine lv_iload_n hx hb dX6_lays_32 rfl (lv_at hl 1 rfl) ?_
  refine ga_ild hx hb hK hP 3 rfl r (rfl) (by omega) (by decide) dX6_lays_33 ?_
  refine tp_i (y := nI z) (hz) ?_
  refine lv_iconst (v := 1) hx hb dX6_lays_34 (by decide) ?_
  refine lv_isub hx hb dX6_lays_35 ?_
  refine pu_callb (va_runS (As := [.int i, .int 0, .int ((nI z) - 1)]) (rest := []) ⟨hx, hb, hml, hown, hts⟩ (c_X6_in i 0 ((nI z) - 1)) (cwS 3 hts gX6_lays_X6_in rfl rfl rfl (by decide +kernel) ⟨Nat.le_of_ble_eq_true rfl, Nat.le_of_ble_eq_true rfl⟩) (wd_preS hP hK) rfl rfl hl.1 rfl (lv_room (Nat.le_of_ble_eq_true rfl)) dX6_lays_36 ⟨Nat.zero_le _, Nat.zero_le _⟩) (fun h9 => absurd (show q_in _ 0 (nI z - 1) = false from (q_p (by omega)).trans (hz ▸ h2)) (by rw [h9]; decide)) (fun _ => ?_)
  refine lv_if_ne (tgt := 44) hx hb dX6_lays_39 (by decide) (fun h9 => absurd (by decide) h9) (fun _ => ?_)
  refine lv_iconst (v := 3) hx hb dX6_lays_42 (by decide) ?_
  exact W.iret (v := 3) hx hb hr (fun t9 ht _ => ⟨congrArg (fun z => Outcome.returned (some (Value.int z))) (rfl), ht⟩) (fun _ h9 => nomatch h9) dX6_lays_43
set_option maxHeartbeats 4000000 in
set_option maxRecDepth 100000 in
theorem c_X6_lays_pS (hh : ad_ok g 16) (hn : n ≤ 100) (r : Nat) (hr9 : r < n) (a : Nat) (ha : a < 16) (hFa : F r = nI a) (c9 : Nat) (hc : c9 < 18) (hc16 : c9 < 16) (d9 : Nat) (hd : d9 < 18) (hd9 : pt_of c9 = nI d9) (e9 : Nat) (he : e9 < 18) (he9 : pt_of a = nI e9) (p9 : Nat) (hp9 : p9 < n) (a2 : Nat) (ha2 : a2 < 16) (hFa2 : F p9 = nI a2) (z : Nat) (hz : Sz r = nI z) (hz8 : z ≤ 8) (i : Int32) (h1 : ko (F r) (nI c9) = true) (h4 : ko (F p9) (nI d9) = true) (h2 : p_in i (Sz r) = true) (h3 : ko (F p9) (nI e9) = false) : Met l yX6_lays wsX6_lays ({ frames := 3, cells := 0, slots := 0, locals := 120 }) (wd_P D cI cJ [.ref (g 0), .int (nI r), .int (nI c9), .int i, .int (nI p9)] (mo_W cI cJ g fx (nI n) F Wt Sz Nu Pl Bf (nI b) (nI k) G Wk To Sl Sd (nI as) wo pa fa Fo)) (pu_Q (some (.int 4))) 0 0 (fun _ => False) := by
  refine Met.ofW (cc := cX6_lays) (maxL := 5) (ret := (some .int)) (by decide) rfl ?_
  intro p e s m args below meth c s₁ B hml hv
  obtain ⟨rfl, hP, hK⟩ := hv
  have hx := B.exec
  have hb := B.bytes
  have hr := B.returns
  have hts := atoms_spec (ws := wsX6_lays) B.pre
  have hown : s.vm.findClass RX6 = some m.cls := findClass_of_methodNamed B.named
  have hlocks := B.notSynchronized
  have hiX6 : ∀ w ∈ u_ws RX6 TX6 23, w ∈ wsX6_lays := by decide +kernel
  have kf32 := hts (.fieldLink RX6 32 "SortingLineModel" "partOf" "[I") (by decide +kernel)
  have kf16 := hts (.fieldLink RX6 16 "SortingLineModel" "sizes" "[I") (by decide +kernel)
  have kf7 := hts (.fieldLink RX6 7 "SortingLineModel" "forms" "[I") (by decide +kernel)
  have hl := lv_entry ([.ref (g 0), .int (nI r), .int (nI c9), .int i, .int (nI p9)]) (n := 5) (Nat.le_of_ble_eq_true rfl)
  rw [lg_entry_eq]
  generalize (lg_sl ([.ref (g 0), .int (nI r), .int (nI c9), .int i, .int (nI p9)]) ++ List.replicate (5 - (lg_sl ([.ref (g 0), .int (nI r), .int (nI c9), .int i, .int (nI p9)])).length) Slot.unset).toArray = ls at hl ⊢
  have hl : lv_has ls 5 [(0, .ref (g 0)), (1, .int (nI r)), (2, .int (nI c9)), (3, .int i), (4, .int (nI p9))] := hl
  refine lv_aload_n hx hb dX6_lays_0 rfl (lv_at hl 0 rfl) ?_
  refine lv_iload_n hx hb dX6_lays_1 rfl (lv_at hl 1 rfl) ?_
  refine lv_iload_n hx hb dX6_lays_2 rfl (lv_at hl 2 rfl) ?_
  refine pu_callb (va_runV (As := [.int (nI r), .int (nI c9)]) (rest := []) ⟨hx, hb, hml, hown, hts⟩ (c_X6_isOf hh hn r (by omega) a ha hFa c9 (by omega)) (cwV 2 hts gX6_lays_X6_isOf rfl rfl rfl (by decide +kernel) ⟨Nat.le_of_ble_eq_true rfl, Nat.le_of_ble_eq_true rfl⟩) (wd_preV (ci := 6) (q0 := 0) hP hK rfl rfl) rfl rfl hl.1 rfl (lv_room (Nat.le_of_ble_eq_true rfl)) dX6_lays_3 ⟨Nat.zero_le _, Nat.zero_le _⟩) (fun _ => ?_) (fun h9 => absurd (h1) (by rw [h9]; decide))
  refine lv_if_eq (tgt := 24) hx hb dX6_lays_6 (by decide) (fun h9 => absurd h9 (by decide)) (fun _ => ?_)
  refine lv_aload_n hx hb dX6_lays_9 rfl (lv_at hl 0 rfl) ?_
  refine lv_iload hx hb dX6_lays_10 (lv_at hl 4 rfl) ?_
  refine lv_aload_n hx hb dX6_lays_12 rfl (lv_at hl 0 rfl) ?_
  refine va_get (D := D) (ci := 6) (v := .ref (g 7)) (C := RX6) (T := TX6) (N := 23) hx hb hts hiX6 hown hK.1 hP 0 rfl rfl 8 (by decide) kf32 (fun _ h9 => h9) rfl dX6_lays_13 ?_
  refine lv_iload_n hx hb dX6_lays_16 rfl (lv_at hl 2 rfl) ?_
  refine ga_ild hx hb hK hP 7 rfl c9 (rfl) (by omega) (by decide) dX6_lays_17 ?_
  refine tp_i (y := nI d9) (hd9) ?_
  refine pu_callb (va_runV (As := [.int (nI p9), .int (nI d9)]) (rest := []) ⟨hx, hb, hml, hown, hts⟩ (c_X6_passes_p hh hn p9 (by omega) a2 ha2 hFa2 d9 (by omega)) (cwV 2 hts gX6_lays_X6_passes rfl rfl rfl (by decide +kernel) ⟨Nat.le_of_ble_eq_true rfl, Nat.le_of_ble_eq_true rfl⟩) (wd_preV (ci := 6) (q0 := 0) hP hK rfl rfl) rfl rfl hl.1 rfl (lv_room (Nat.le_of_ble_eq_true rfl)) dX6_lays_18 ⟨Nat.zero_le _, Nat.zero_le _⟩) (fun _ => ?_) (fun h9 => absurd (h4) (by rw [h9]; decide))
  refine lv_if_ne (tgt := 26) hx hb dX6_lays_21 (by decide) (fun _ => ?_) (fun h9 => absurd h9 (by decide))
  refine lv_iload_n hx hb dX6_lays_26 rfl (lv_at hl 3 rfl) ?_
  refine lv_iconst (v := 0) hx hb dX6_lays_27 (by decide) ?_
  refine lv_aload_n hx hb dX6_lays_28 rfl (lv_at hl 0 rfl) ?_
  refine va_get (D := D) (ci := 6) (v := .ref (g 3)) (C := RX6) (T := TX6) (N := 23) hx hb hts hiX6 hown hK.1 hP 0 rfl rfl 4 (by decide) kf16 (fun _ h9 => h9) rfl dX6_lays_29 ?_
  refine lv_iload_n hx hb dX6_lays_32 rfl (lv_at hl 1 rfl) ?_
  refine ga_ild hx hb hK hP 3 rfl r (rfl) (by omega) (by decide) dX6_lays_33 ?_
  refine tp_i (y := nI z) (hz) ?_
  refine lv_iconst (v := 1) hx hb dX6_lays_34 (by decide) ?_
  refine lv_isub hx hb dX6_lays_35 ?_
  refine pu_callb (va_runS (As := [.int i, .int 0, .int ((nI z) - 1)]) (rest := []) ⟨hx, hb, hml, hown, hts⟩ (c_X6_in i 0 ((nI z) - 1)) (cwS 3 hts gX6_lays_X6_in rfl rfl rfl (by decide +kernel) ⟨Nat.le_of_ble_eq_true rfl, Nat.le_of_ble_eq_true rfl⟩) (wd_preS hP hK) rfl rfl hl.1 rfl (lv_room (Nat.le_of_ble_eq_true rfl)) dX6_lays_36 ⟨Nat.zero_le _, Nat.zero_le _⟩) (fun _ => ?_) (fun h9 => absurd (show q_in _ 0 (nI z - 1) = true from (q_p (by omega)).trans (hz ▸ h2)) (by rw [h9]; decide))
  refine lv_if_ne (tgt := 44) hx hb dX6_lays_39 (by decide) (fun _ => ?_) (fun h9 => absurd h9 (by decide))
  refine lv_aload_n hx hb dX6_lays_44 rfl (lv_at hl 0 rfl) ?_
  refine lv_iload hx hb dX6_lays_45 (lv_at hl 4 rfl) ?_
  refine lv_aload_n hx hb dX6_lays_47 rfl (lv_at hl 0 rfl) ?_
  refine va_get (D := D) (ci := 6) (v := .ref (g 7)) (C := RX6) (T := TX6) (N := 23) hx hb hts hiX6 hown hK.1 hP 0 rfl rfl 8 (by decide) kf32 (fun _ h9 => h9) rfl dX6_lays_48 ?_
  refine lv_aload_n hx hb dX6_lays_51 rfl (lv_at hl 0 rfl) ?_
  refine va_get (D := D) (ci := 6) (v := .ref (g 1)) (C := RX6) (T := TX6) (N := 23) hx hb hts hiX6 hown hK.1 hP 0 rfl rfl 2 (by decide) kf7 (fun _ h9 => h9) rfl dX6_lays_52 ?_
  refine lv_iload_n hx hb dX6_lays_55 rfl (lv_at hl 1 rfl) ?_
  refine ga_ild hx hb hK hP 1 rfl r (rfl) (by omega) (by decide) dX6_lays_56 ?_
  refine tp_i (y := nI a) (hFa) ?_
  refine ga_ild hx hb hK hP 7 rfl a (rfl) (by omega) (by decide) dX6_lays_57 ?_
  refine tp_i (y := nI e9) (he9) ?_
  refine pu_callb (va_runV (As := [.int (nI p9), .int (nI e9)]) (rest := []) ⟨hx, hb, hml, hown, hts⟩ (c_X6_passes_p hh hn p9 (by omega) a2 ha2 hFa2 e9 (by omega)) (cwV 2 hts gX6_lays_X6_passes rfl rfl rfl (by decide +kernel) ⟨Nat.le_of_ble_eq_true rfl, Nat.le_of_ble_eq_true rfl⟩) (wd_preV (ci := 6) (q0 := 0) hP hK rfl rfl) rfl rfl hl.1 rfl (lv_room (Nat.le_of_ble_eq_true rfl)) dX6_lays_58 ⟨Nat.zero_le _, Nat.zero_le _⟩) (fun h9 => absurd (h3) (by rw [h9]; decide)) (fun _ => ?_)
  refine lv_if_ne (tgt := 66) hx hb dX6_lays_61 (by decide) (fun h9 => absurd (by decide) h9) (fun _ => ?_)
  refine lv_iconst (v := 4) hx hb dX6_lays_64 (by decide) ?_
  exact W.iret (v := 4) hx hb hr (fun t9 ht _ => ⟨congrArg (fun z => Outcome.returned (some (Value.int z))) (rfl), ht⟩) (fun _ h9 => nomatch h9) dX6_lays_65
set_option maxHeartbeats 4000000 in
set_option maxRecDepth 100000 in
theorem c_X6_lays_pO (hh : ad_ok g 16) (hn : n ≤ 100) (r : Nat) (hr9 : r < n) (a : Nat) (ha : a < 16) (hFa : F r = nI a) (c9 : Nat) (hc : c9 < 18) (hc16 : c9 < 16) (d9 : Nat) (hd : d9 < 18) (hd9 : pt_of c9 = nI d9) (e9 : Nat) (he : e9 < 18) (he9 : pt_of a = nI e9) (p9 : Nat) (hp9 : p9 < n) (a2 : Nat) (ha2 : a2 < 16) (hFa2 : F p9 = nI a2) (z : Nat) (hz : Sz r = nI z) (hz8 : z ≤ 8) (j : Nat) (hj : j < 8) (h1 : ko (F r) (nI c9) = true) (h4 : ko (F p9) (nI d9) = true) (h2 : p_in (nI j) (Sz r) = true) (h3 : ko (F p9) (nI e9) = true) : Met l yX6_lays wsX6_lays ({ frames := 3, cells := 0, slots := 0, locals := 120 }) (wd_P D cI cJ [.ref (g 0), .int (nI r), .int (nI c9), .int (nI j), .int (nI p9)] (mo_W cI cJ g fx (nI n) F Wt Sz Nu Pl Bf (nI b) (nI k) G Wk To Sl Sd (nI as) wo pa fa Fo)) (mu_Q D (ad_A g 16) (some (.int 0)) (mo_W cI cJ g fx (nI n) F Wt Sz Nu (upd Pl (8 * r + j) (nI p9)) Bf (nI b) (nI k) G Wk To Sl Sd (nI as) wo pa fa Fo)) 0 0 (ad_A g 16) := by
  refine Met.ofW (cc := cX6_lays) (maxL := 5) (ret := (some .int)) (by decide) rfl ?_
  intro p e s m args below meth c s₁ B hml hv
  obtain ⟨rfl, hP, hK⟩ := hv
  have hx := B.exec
  have hb := B.bytes
  have hr := B.returns
  have hts := atoms_spec (ws := wsX6_lays) B.pre
  have hown : s.vm.findClass RX6 = some m.cls := findClass_of_methodNamed B.named
  have hlocks := B.notSynchronized
  have hiX6 : ∀ w ∈ u_ws RX6 TX6 23, w ∈ wsX6_lays := by decide +kernel
  have kf32 := hts (.fieldLink RX6 32 "SortingLineModel" "partOf" "[I") (by decide +kernel)
  have kf16 := hts (.fieldLink RX6 16 "SortingLineModel" "sizes" "[I") (by decide +kernel)
  have kf7 := hts (.fieldLink RX6 7 "SortingLineModel" "forms" "[I") (by decide +kernel)
  have kf23 := hts (.fieldLink RX6 23 "SortingLineModel" "places" "[I") (by decide +kernel)
  have hS : va_S (ad_A g 16) s.heap s.heap [] := va_S.rf
  have hl := lv_entry ([.ref (g 0), .int (nI r), .int (nI c9), .int (nI j), .int (nI p9)]) (n := 5) (Nat.le_of_ble_eq_true rfl)
  rw [lg_entry_eq]
  generalize (lg_sl ([.ref (g 0), .int (nI r), .int (nI c9), .int (nI j), .int (nI p9)]) ++ List.replicate (5 - (lg_sl ([.ref (g 0), .int (nI r), .int (nI c9), .int (nI j), .int (nI p9)])).length) Slot.unset).toArray = ls at hl ⊢
  have hl : lv_has ls 5 [(0, .ref (g 0)), (1, .int (nI r)), (2, .int (nI c9)), (3, .int (nI j)), (4, .int (nI p9))] := hl
  refine lv_aload_n hx hb dX6_lays_0 rfl (lv_at hl 0 rfl) ?_
  refine lv_iload_n hx hb dX6_lays_1 rfl (lv_at hl 1 rfl) ?_
  refine lv_iload_n hx hb dX6_lays_2 rfl (lv_at hl 2 rfl) ?_
  refine pu_callb (va_runV (As := [.int (nI r), .int (nI c9)]) (rest := []) ⟨hx, hb, hml, hown, hts⟩ (c_X6_isOf hh hn r (by omega) a ha hFa c9 (by omega)) (cwV 2 hts gX6_lays_X6_isOf rfl rfl rfl (by decide +kernel) ⟨Nat.le_of_ble_eq_true rfl, Nat.le_of_ble_eq_true rfl⟩) (wd_preV (ci := 6) (q0 := 0) hP hK rfl rfl) rfl rfl hl.1 rfl (lv_room (Nat.le_of_ble_eq_true rfl)) dX6_lays_3 ⟨Nat.zero_le _, Nat.zero_le _⟩) (fun _ => ?_) (fun h9 => absurd (h1) (by rw [h9]; decide))
  refine lv_if_eq (tgt := 24) hx hb dX6_lays_6 (by decide) (fun h9 => absurd h9 (by decide)) (fun _ => ?_)
  refine lv_aload_n hx hb dX6_lays_9 rfl (lv_at hl 0 rfl) ?_
  refine lv_iload hx hb dX6_lays_10 (lv_at hl 4 rfl) ?_
  refine lv_aload_n hx hb dX6_lays_12 rfl (lv_at hl 0 rfl) ?_
  refine va_get (D := D) (ci := 6) (v := .ref (g 7)) (C := RX6) (T := TX6) (N := 23) hx hb hts hiX6 hown hK.1 hP 0 rfl rfl 8 (by decide) kf32 (fun _ h9 => h9) rfl dX6_lays_13 ?_
  refine lv_iload_n hx hb dX6_lays_16 rfl (lv_at hl 2 rfl) ?_
  refine ga_ild hx hb hK hP 7 rfl c9 (rfl) (by omega) (by decide) dX6_lays_17 ?_
  refine tp_i (y := nI d9) (hd9) ?_
  refine pu_callb (va_runV (As := [.int (nI p9), .int (nI d9)]) (rest := []) ⟨hx, hb, hml, hown, hts⟩ (c_X6_passes_p hh hn p9 (by omega) a2 ha2 hFa2 d9 (by omega)) (cwV 2 hts gX6_lays_X6_passes rfl rfl rfl (by decide +kernel) ⟨Nat.le_of_ble_eq_true rfl, Nat.le_of_ble_eq_true rfl⟩) (wd_preV (ci := 6) (q0 := 0) hP hK rfl rfl) rfl rfl hl.1 rfl (lv_room (Nat.le_of_ble_eq_true rfl)) dX6_lays_18 ⟨Nat.zero_le _, Nat.zero_le _⟩) (fun _ => ?_) (fun h9 => absurd (h4) (by rw [h9]; decide))
  refine lv_if_ne (tgt := 26) hx hb dX6_lays_21 (by decide) (fun _ => ?_) (fun h9 => absurd h9 (by decide))
  refine lv_iload_n hx hb dX6_lays_26 rfl (lv_at hl 3 rfl) ?_
  refine lv_iconst (v := 0) hx hb dX6_lays_27 (by decide) ?_
  refine lv_aload_n hx hb dX6_lays_28 rfl (lv_at hl 0 rfl) ?_
  refine va_get (D := D) (ci := 6) (v := .ref (g 3)) (C := RX6) (T := TX6) (N := 23) hx hb hts hiX6 hown hK.1 hP 0 rfl rfl 4 (by decide) kf16 (fun _ h9 => h9) rfl dX6_lays_29 ?_
  refine lv_iload_n hx hb dX6_lays_32 rfl (lv_at hl 1 rfl) ?_
  refine ga_ild hx hb hK hP 3 rfl r (rfl) (by omega) (by decide) dX6_lays_33 ?_
  refine tp_i (y := nI z) (hz) ?_
  refine lv_iconst (v := 1) hx hb dX6_lays_34 (by decide) ?_
  refine lv_isub hx hb dX6_lays_35 ?_
  refine pu_callb (va_runS (As := [.int (nI j), .int 0, .int ((nI z) - 1)]) (rest := []) ⟨hx, hb, hml, hown, hts⟩ (c_X6_in (nI j) 0 ((nI z) - 1)) (cwS 3 hts gX6_lays_X6_in rfl rfl rfl (by decide +kernel) ⟨Nat.le_of_ble_eq_true rfl, Nat.le_of_ble_eq_true rfl⟩) (wd_preS hP hK) rfl rfl hl.1 rfl (lv_room (Nat.le_of_ble_eq_true rfl)) dX6_lays_36 ⟨Nat.zero_le _, Nat.zero_le _⟩) (fun _ => ?_) (fun h9 => absurd (show q_in _ 0 (nI z - 1) = true from (q_p (by omega)).trans (hz ▸ h2)) (by rw [h9]; decide))
  refine lv_if_ne (tgt := 44) hx hb dX6_lays_39 (by decide) (fun _ => ?_) (fun h9 => absurd h9 (by decide))
  refine lv_aload_n hx hb dX6_lays_44 rfl (lv_at hl 0 rfl) ?_
  refine lv_iload hx hb dX6_lays_45 (lv_at hl 4 rfl) ?_
  refine lv_aload_n hx hb dX6_lays_47 rfl (lv_at hl 0 rfl) ?_
  refine va_get (D := D) (ci := 6) (v := .ref (g 7)) (C := RX6) (T := TX6) (N := 23) hx hb hts hiX6 hown hK.1 hP 0 rfl rfl 8 (by decide) kf32 (fun _ h9 => h9) rfl dX6_lays_48 ?_
  refine lv_aload_n hx hb dX6_lays_51 rfl (lv_at hl 0 rfl) ?_
  refine va_get (D := D) (ci := 6) (v := .ref (g 1)) (C := RX6) (T := TX6) (N := 23) hx hb hts hiX6 hown hK.1 hP 0 rfl rfl 2 (by decide) kf7 (fun _ h9 => h9) rfl dX6_lays_52 ?_
  refine lv_iload_n hx hb dX6_lays_55 rfl (lv_at hl 1 rfl) ?_
  refine ga_ild hx hb hK hP 1 rfl r (rfl) (by omega) (by decide) dX6_lays_56 ?_
  refine tp_i (y := nI a) (hFa) ?_
  refine ga_ild hx hb hK hP 7 rfl a (rfl) (by omega) (by decide) dX6_lays_57 ?_
  refine tp_i (y := nI e9) (he9) ?_
  refine pu_callb (va_runV (As := [.int (nI p9), .int (nI e9)]) (rest := []) ⟨hx, hb, hml, hown, hts⟩ (c_X6_passes_p hh hn p9 (by omega) a2 ha2 hFa2 e9 (by omega)) (cwV 2 hts gX6_lays_X6_passes rfl rfl rfl (by decide +kernel) ⟨Nat.le_of_ble_eq_true rfl, Nat.le_of_ble_eq_true rfl⟩) (wd_preV (ci := 6) (q0 := 0) hP hK rfl rfl) rfl rfl hl.1 rfl (lv_room (Nat.le_of_ble_eq_true rfl)) dX6_lays_58 ⟨Nat.zero_le _, Nat.zero_le _⟩) (fun _ => ?_) (fun h9 => absurd (h3) (by rw [h9]; decide))
  refine lv_if_ne (tgt := 66) hx hb dX6_lays_61 (by decide) (fun _ => ?_) (fun h9 => absurd h9 (by decide))
  refine lv_aload_n hx hb dX6_lays_66 rfl (lv_at hl 0 rfl) ?_
  refine va_get (D := D) (ci := 6) (v := .ref (g 5)) (C := RX6) (T := TX6) (N := 23) hx hb hts hiX6 hown hK.1 hP 0 rfl rfl 6 (by decide) kf23 (fun _ h9 => h9) rfl dX6_lays_67 ?_
  refine lv_bipush (v := 8) hx hb dX6_lays_70 (by decide) ?_
  refine lv_iload_n hx hb dX6_lays_72 rfl (lv_at hl 1 rfl) ?_
  refine lv_imul hx hb dX6_lays_73 ?_
  refine tp_i (y := nI (8 * r)) (pk_mul 8 r) ?_
  refine lv_iload_n hx hb dX6_lays_74 rfl (lv_at hl 3 rfl) ?_
  refine lv_iadd hx hb dX6_lays_75 ?_
  refine tp_i (y := nI ((8 * r) + j)) (nI_add (8 * r) j) ?_
  refine lv_iload hx hb dX6_lays_76 (lv_at hl 4 rfl) ?_
  refine ga_ist hx hb hK hP (mo_D hh) hS 5 rfl ((8 * r) + j) (rfl) (by omega) (by decide) dX6_lays_78 (fun H locs hP hS => ?_)
  have hP : va_P D kC (mo_W cI cJ g fx (nI n) F Wt Sz Nu (upd Pl ((8 * r) + j) (nI p9)) Bf (nI b) (nI k) G Wk To Sl Sd (nI as) wo pa fa Fo) H := hP
  refine lv_iconst (v := 0) hx hb dX6_lays_79 (by decide) ?_
  exact W.iret (v := 0) hx hb hr (fun t9 ht _ => ⟨congrArg (fun z => Outcome.returned (some (Value.int z))) (rfl), by rw [ht]; exact hP, hS.F ht⟩) hS.2.2 dX6_lays_80
set_option maxHeartbeats 4000000 in
set_option maxRecDepth 100000 in
theorem c_X6_comes (hh : ad_ok g 16) (hb9 : b < 40) (t : Int32) : Met l yX6_comes wsX6_comes ({ frames := 0, cells := 0, slots := 0, locals := 0 }) (wd_P D cI cJ [.ref (g 0), .int t] (mo_W cI cJ g fx (nI n) F Wt Sz Nu Pl Bf (nI b) (nI k) G Wk To Sl Sd (nI as) wo pa fa Fo)) (mu_Q D (ad_A g 16) none (mo_W cI cJ g fx (nI n) F Wt Sz Nu Pl (upd Bf b t) (nI (b + 1)) (nI k) G Wk To Sl Sd (nI as) wo pa fa Fo)) 0 0 (ad_A g 16) := by
  refine Met.ofW (cc := cX6_comes) (maxL := 2) (ret := none) (by decide) rfl ?_
  intro p e s m args below meth c s₁ B hml hv
  obtain ⟨rfl, hP, hK⟩ := hv
  have hx := B.exec
  have hb := B.bytes
  have hr := B.returns
  have hts := atoms_spec (ws := wsX6_comes) B.pre
  have hown : s.vm.findClass RX6 = some m.cls := findClass_of_methodNamed B.named
  have hlocks := B.notSynchronized
  have hiX6 : ∀ w ∈ u_ws RX6 TX6 23, w ∈ wsX6_comes := by decide +kernel
  have kf38 := hts (.fieldLink RX6 38 "SortingLineModel" "belt" "[I") (by decide +kernel)
  have kf109 := hts (.fieldLink RX6 109 "SortingLineModel" "onBelt" "I") (by decide +kernel)
  have hS : va_S (ad_A g 16) s.heap s.heap [] := va_S.rf
  have hl := lv_entry ([.ref (g 0), .int t]) (n := 2) (Nat.le_of_ble_eq_true rfl)
  rw [lg_entry_eq]
  generalize (lg_sl ([.ref (g 0), .int t]) ++ List.replicate (2 - (lg_sl ([.ref (g 0), .int t])).length) Slot.unset).toArray = ls at hl ⊢
  have hl : lv_has ls 2 [(0, .ref (g 0)), (1, .int t)] := hl
  refine lv_aload_n hx hb dX6_comes_0 rfl (lv_at hl 0 rfl) ?_
  refine va_get (D := D) (ci := 6) (v := .ref (g 9)) (C := RX6) (T := TX6) (N := 23) hx hb hts hiX6 hown hK.1 hP 0 rfl rfl 10 (by decide) kf38 (fun _ h9 => h9) rfl dX6_comes_1 ?_
  refine lv_aload_n hx hb dX6_comes_4 rfl (lv_at hl 0 rfl) ?_
  refine va_get (D := D) (ci := 6) (v := .int (nI b)) (C := RX6) (T := TX6) (N := 23) hx hb hts hiX6 hown hK.1 hP 0 rfl rfl 11 (by decide) kf109 (fun _ h9 => h9) rfl dX6_comes_5 ?_
  refine lv_iload_n hx hb dX6_comes_8 rfl (lv_at hl 1 rfl) ?_
  refine ga_ist hx hb hK hP (mo_D hh) hS 9 rfl b (rfl) (by omega) (by decide) dX6_comes_9 (fun H locs hP hS => ?_)
  have hP : va_P D kC (mo_W cI cJ g fx (nI n) F Wt Sz Nu Pl (upd Bf b t) (nI b) (nI k) G Wk To Sl Sd (nI as) wo pa fa Fo) H := hP
  refine lv_aload_n hx hb dX6_comes_10 rfl (lv_at hl 0 rfl) ?_
  refine lv_dup hx hb dX6_comes_11 rfl ?_
  refine va_get (D := D) (ci := 6) (v := .int (nI b)) (C := RX6) (T := TX6) (N := 23) hx hb hts hiX6 hown hK.1 hP 0 rfl rfl 11 (by decide) kf109 (fun _ h9 => h9) rfl dX6_comes_12 ?_
  refine lv_iconst (v := 1) hx hb dX6_comes_15 (by decide) ?_
  refine lv_iadd hx hb dX6_comes_16 ?_
  refine tp_i (y := nI (b + 1)) (nI_add b 1) ?_
  refine va_put (D := D) (ci := 6) (v := .int (nI (b + 1))) (ty := .int) (C := RX6) (T := TX6) (N := 23) hx hb hts hiX6 tyX6 tyX6_ok nmX6 hown hK.1 hP (mo_D hh) hS 0 rfl rfl 11 (by decide) kf109 (fun _ h9 => h9) rfl (by decide +kernel) rfl rfl (Nat.le_of_ble_eq_true rfl) dX6_comes_17 (fun H locs hP _ hS => ?_)
  have hP : va_P D kC (mo_W cI cJ g fx (nI n) F Wt Sz Nu Pl (upd Bf b t) (nI (b + 1)) (nI k) G Wk To Sl Sd (nI as) wo pa fa Fo) H := hP
  exact W.vret hx hb hr (fun t9 ht _ => ⟨rfl, by rw [ht]; exact hP, hS.F ht⟩) hS.2.2 dX6_comes_20
set_option maxHeartbeats 4000000 in
set_option maxRecDepth 100000 in
theorem c_X6_keyOf (hh : ad_ok g 16) (hn : n ≤ 100) (r : Nat) (hr9 : r < n) : Met l yX6_keyOf wsX6_keyOf ({ frames := 0, cells := 0, slots := 0, locals := 0 }) (wd_P D cI cJ [.ref (g 0), .int (nI r)] (mo_W cI cJ g fx (nI n) F Wt Sz Nu Pl Bf (nI b) (nI k) G Wk To Sl Sd (nI as) wo pa fa Fo)) (pu_Q (some (.int (kyO (F r) (Wt r))))) 0 0 (fun _ => False) := by
  refine Met.ofW (cc := cX6_keyOf) (maxL := 2) (ret := (some .int)) (by decide) rfl ?_
  intro p e s m args below meth c s₁ B hml hv
  obtain ⟨rfl, hP, hK⟩ := hv
  have hx := B.exec
  have hb := B.bytes
  have hr := B.returns
  have hts := atoms_spec (ws := wsX6_keyOf) B.pre
  have hown : s.vm.findClass RX6 = some m.cls := findClass_of_methodNamed B.named
  have hlocks := B.notSynchronized
  have hiX6 : ∀ w ∈ u_ws RX6 TX6 23, w ∈ wsX6_keyOf := by decide +kernel
  have kf7 := hts (.fieldLink RX6 7 "SortingLineModel" "forms" "[I") (by decide +kernel)
  have kf13 := hts (.fieldLink RX6 13 "SortingLineModel" "weights" "[I") (by decide +kernel)
  have hl := lv_entry ([.ref (g 0), .int (nI r)]) (n := 2) (Nat.le_of_ble_eq_true rfl)
  rw [lg_entry_eq]
  generalize (lg_sl ([.ref (g 0), .int (nI r)]) ++ List.replicate (2 - (lg_sl ([.ref (g 0), .int (nI r)])).length) Slot.unset).toArray = ls at hl ⊢
  have hl : lv_has ls 2 [(0, .ref (g 0)), (1, .int (nI r))] := hl
  refine lv_aload_n hx hb dX6_keyOf_0 rfl (lv_at hl 0 rfl) ?_
  refine va_get (D := D) (ci := 6) (v := .ref (g 1)) (C := RX6) (T := TX6) (N := 23) hx hb hts hiX6 hown hK.1 hP 0 rfl rfl 2 (by decide) kf7 (fun _ h9 => h9) rfl dX6_keyOf_1 ?_
  refine lv_iload_n hx hb dX6_keyOf_4 rfl (lv_at hl 1 rfl) ?_
  refine ga_ild hx hb hK hP 1 rfl r (rfl) (by omega) (by decide) dX6_keyOf_5 ?_
  refine lv_iconst (v := 2) hx hb dX6_keyOf_6 (by decide) ?_
  refine lv_icmp_ne (tgt := 23) hx hb dX6_keyOf_7 (by decide) (fun c7 => ?_) (fun c7 => ?_)
  · skip
    refine lv_aload_n hx hb dX6_keyOf_23 rfl (lv_at hl 0 rfl) ?_
    refine va_get (D := D) (ci := 6) (v := .ref (g 2)) (C := RX6) (T := TX6) (N := 23) hx hb hts hiX6 hown hK.1 hP 0 rfl rfl 3 (by decide) kf13 (fun _ h9 => h9) rfl dX6_keyOf_24 ?_
    refine lv_iload_n hx hb dX6_keyOf_27 rfl (lv_at hl 1 rfl) ?_
    refine ga_ild hx hb hK hP 2 rfl r (rfl) (by omega) (by decide) dX6_keyOf_28 ?_
    refine lv_bipush (v := 7) hx hb dX6_keyOf_29 (by decide) ?_
    refine lv_isub hx hb dX6_keyOf_31 ?_
    exact W.iret (v := (Wt r) - 7) hx hb hr (fun t9 ht _ => ⟨congrArg (fun z => Outcome.returned (some (Value.int z))) (by simp [kyO, c7]), ht⟩) (fun _ h9 => nomatch h9) dX6_keyOf_32
  · skip
    refine lv_iconst (v := 3) hx hb dX6_keyOf_10 (by decide) ?_
    refine lv_aload_n hx hb dX6_keyOf_11 rfl (lv_at hl 0 rfl) ?_
    refine va_get (D := D) (ci := 6) (v := .ref (g 2)) (C := RX6) (T := TX6) (N := 23) hx hb hts hiX6 hown hK.1 hP 0 rfl rfl 3 (by decide) kf13 (fun _ h9 => h9) rfl dX6_keyOf_12 ?_
    refine lv_iload_n hx hb dX6_keyOf_15 rfl (lv_at hl 1 rfl) ?_
    refine ga_ild hx hb hK hP 2 rfl r (rfl) (by omega) (by decide) dX6_keyOf_16 ?_
    refine lv_imul hx hb dX6_keyOf_17 ?_
    refine lv_iconst (v := 1) hx hb dX6_keyOf_18 (by decide) ?_
    refine lv_iadd hx hb dX6_keyOf_19 ?_
    refine lv_goto (tgt := 32) hx hb dX6_keyOf_20 (by decide) ?_
    exact W.iret (v := (3 * (Wt r)) + 1) hx hb hr (fun t9 ht _ => ⟨congrArg (fun z => Outcome.returned (some (Value.int z))) (by simp [kyO, c7, Int32.mul_comm]), ht⟩) (fun _ h9 => nomatch h9) dX6_keyOf_32
end MoA
