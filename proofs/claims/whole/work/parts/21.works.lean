/-! the class's works, outcome by outcome (workOn's contracts all have one room) -/
/-- a spill: the members of a row, the ring, how many are on it -/
def spS (r f : Nat) (st : (Nat → Int32) × (Nat → Int32) × Nat) : Nat → (Nat → Int32) × (Nat → Int32) × Nat
  | 0 => st
  | i + 1 => if (spS r f st i).1 (8 * r + i) = -5 then spS r f st i else if (spS r f st i).2.2 < 40 then (upd (spS r f st i).1 (8 * r + i) (-5), upd (spS r f st i).2.1 ((f + (spS r f st i).2.2) % 40) ((spS r f st i).1 (8 * r + i)), (spS r f st i).2.2 + 1) else spS r f st i
theorem spS_le (r f : Nat) (st : (Nat → Int32) × (Nat → Int32) × Nat) (h : st.2.2 ≤ 40) : ∀ i, (spS r f st i).2.2 ≤ 40 := by
  intro i
  induction i with
  | zero => exact h
  | succ i ih =>
    unfold spS
    split
    · exact ih
    · split
      · show _ + 1 ≤ 40; omega
      · exact ih
theorem spS_n {r f i : Nat} {st : (Nat → Int32) × (Nat → Int32) × Nat} {M R : Nat → Int32} {c : Nat} (e : spS r f st i = (M, R, c)) (h : M (8 * r + i) = -5) : spS r f st (i + 1) = (M, R, c) := by
  rw [spS, e]; exact if_pos h
theorem spS_o {r f i : Nat} {st : (Nat → Int32) × (Nat → Int32) × Nat} {M R : Nat → Int32} {c : Nat} (e : spS r f st i = (M, R, c)) (h : ¬ M (8 * r + i) = -5) (h2 : c < 40) : spS r f st (i + 1) = (upd M (8 * r + i) (-5), upd R ((f + c) % 40) (M (8 * r + i)), c + 1) := by
  rw [spS, e]; dsimp only; rw [if_neg h, if_pos h2]
theorem spS_f {r f i : Nat} {st : (Nat → Int32) × (Nat → Int32) × Nat} {M R : Nat → Int32} {c : Nat} (e : spS r f st i = (M, R, c)) (h : ¬ M (8 * r + i) = -5) (h2 : ¬ c < 40) : spS r f st (i + 1) = (M, R, c) := by
  rw [spS, e]; dsimp only; rw [if_neg h, if_neg h2]

theorem faf_p {Sz Mb : Nat → Int32} {r : Nat} {x : Int32} (e : fafS Sz Mb r = x) (hx : x = 0 ∨ x = 2) : p_in 0 (Sz r) = true := by
  cases h : p_in 0 (Sz r) with
  | true => rfl
  | false =>
    unfold fafS at e
    rw [h, if_neg (by decide)] at e
    rcases hx with rfl | rfl <;> exact absurd e (by decide)
section SubD
variable {l : Launch} {D : va_G} {cI cJ : ClassId} {h : Nat → Nat} {n k f b an as : Nat} {F Wt Sz : Nat → Int32} {Nu : Nat → Int64} {Mb : Nat → Int32} {G Wk : Nat → Int32} {To : Nat → Int64} {Sl : Nat → Int32} {Ri oT oS oF Fo : Nat → Int32} {wo pa fa : Int32}
set_option maxHeartbeats 4000000 in
set_option maxRecDepth 100000 in
theorem lp_X5_memh {p : Program} {e : Env} {s : State} {m : MethodId} {args : Array Value} {below : List Frame} {meth : Method} {c : Code} {Q : State → Prop} {H : Heap} {locs : List Loc} (hx : p.tables.exec = Jvm.exec) (hb : c.code = cX5_addMembers) (hml : c.maxLocals = 8) (hown : s.vm.findClass RX5 = some m.cls) (hts : ∀ w ∈ wsX5_addMembers, w.before args s = true) (hK : wd_K D cI cJ s) (hP : va_P D kC (sl_W cI cJ h (nI n) F Wt Sz Nu Mb (nI k) G Wk To Sl Ri (nI f) (nI b) oT oS oF (nI an) (nI as) Fo wo pa fa) H) (hh : ad_ok h 20) (hn : n ≤ 100) (hk : k ≤ 8) (r : Nat) (hr9 : r < n) (i : Nat) (hi : i < k) (z q : Nat) (hz : Sz r = nI z) (hz8 : z ≤ 8) (hq : q ≤ z) (hv : ∀ j, j < q → ∃ p9, p9 < n ∧ Mb (8 * r + j) = nI p9) (kk0 : ∀ (_ : Nat), True → ∀ (ls : Array Slot), lv_has ls 8 [(6, .int (nI q)), (4, .long (msum Wt Mb (8 * r) q)), (0, .ref (h 0)), (1, .int (nI r)), (2, .int (nI i)), (3, .int 5)] → W p l e (headSpec wsX5_addMembers { frames := 5, cells := 0, slots := 0, locals := 160 }).room s m args below meth c H locs 0 0 Q (F0 m 6 ls [])) : ∀ (d : Nat) (y : Nat), y + d = q → ∀ (ls : Array Slot), lv_has ls 8 [(6, .int (nI y)), (4, .long (msum Wt Mb (8 * r) y)), (0, .ref (h 0)), (1, .int (nI r)), (2, .int (nI i)), (3, .int 5)] → W p l e (headSpec wsX5_addMembers { frames := 5, cells := 0, slots := 0, locals := 160 }).room s m args below meth c H locs 0 0 Q (F0 m 6 ls []) := by
  have hiX5 : ∀ w ∈ u_ws RX5 TX5 5, w ∈ wsX5_addMembers := by decide +kernel
  have kf10 := hts (.fieldLink RX5 10 "SortingLine" "things" "LSortingLine$Things;") (by decide +kernel)
  intro d
  induction d with
  | zero =>
    intro y hi ls hl
    obtain rfl : y = q := by omega
    exact kk0 0 trivial ls hl
  | succ d ih =>
    intro y hi ls hl
    obtain ⟨p9, hpn, hp9⟩ := hv y (by omega)
    refine lv_iload hx hb dX5_addMembers_6 (lv_at hl 0 rfl) ?_
    refine lv_aload_n hx hb dX5_addMembers_8 rfl (lv_at hl 2 rfl) ?_
    refine va_get (D := D) (ci := 5) (v := .ref (h 1)) (C := RX5) (T := TX5) (N := 5) hx hb hts hiX5 hown hK.1 hP 0 rfl rfl 0 (by decide) kf10 (fun _ h9 => h9) rfl dX5_addMembers_9 ?_
    refine lv_iload_n hx hb dX5_addMembers_12 rfl (lv_at hl 3 rfl) ?_
    refine pu_calli (va_runV (As := [.int (nI r)]) (rest := [.int (nI y)]) ⟨hx, hb, hml, hown, hts⟩ (c_X4_sizeOf hh hn r (by omega)) (cwV 1 hts gX5_addMembers_X4_sizeOf rfl rfl rfl (by decide +kernel) ⟨Nat.le_of_ble_eq_true rfl, Nat.le_of_ble_eq_true rfl⟩) (wd_preV (ci := 4) (q0 := 1) hP hK rfl rfl) rfl rfl hl.1 rfl (lv_room (Nat.le_of_ble_eq_true rfl)) dX5_addMembers_13 ⟨Nat.zero_le _, Nat.zero_le _⟩) ?_
    refine tp_i (y := nI z) (hz) ?_
    refine lv_icmp_ge (tgt := 80) hx hb dX5_addMembers_16 (by decide) (fun h9 => absurd h9 (nI_ge (by omega) (by omega))) (fun _ => ?_)
    refine lv_aload_n hx hb dX5_addMembers_19 rfl (lv_at hl 2 rfl) ?_
    refine va_get (D := D) (ci := 5) (v := .ref (h 1)) (C := RX5) (T := TX5) (N := 5) hx hb hts hiX5 hown hK.1 hP 0 rfl rfl 0 (by decide) kf10 (fun _ h9 => h9) rfl dX5_addMembers_20 ?_
    refine lv_iload_n hx hb dX5_addMembers_23 rfl (lv_at hl 3 rfl) ?_
    refine lv_iload hx hb dX5_addMembers_24 (lv_at hl 0 rfl) ?_
    refine pu_calli (va_runV (As := [.int (nI r), .int (nI y)]) (rest := []) ⟨hx, hb, hml, hown, hts⟩ (c_X4_memberAt hh hn r (by omega) y (by omega) (by rw [hz]; exact p_in_nI (by omega) (by omega))) (cwV 2 hts gX5_addMembers_X4_memberAt rfl rfl rfl (by decide +kernel) ⟨Nat.le_of_ble_eq_true rfl, Nat.le_of_ble_eq_true rfl⟩) (wd_preV (ci := 4) (q0 := 1) hP hK rfl rfl) rfl rfl hl.1 rfl (lv_room (Nat.le_of_ble_eq_true rfl)) dX5_addMembers_26 ⟨Nat.zero_le _, Nat.zero_le _⟩) ?_
    refine tp_i (y := nI p9) (hp9) ?_
    refine lv_istore (lv' := [(7, .int (nI p9)), (6, .int (nI y)), (4, .long (msum Wt Mb (8 * r) y)), (0, .ref (h 0)), (1, .int (nI r)), (2, .int (nI i)), (3, .int 5)]) hx hb dX5_addMembers_29 hl (by decide) rfl (fun ls hl => ?_)
    refine lv_iload hx hb dX5_addMembers_31 (lv_at hl 0 rfl) ?_
    refine lv_bipush (v := (-5)) hx hb dX5_addMembers_33 (by decide) ?_
    refine lv_icmp_ne (tgt := 40) hx hb dX5_addMembers_35 (by decide) (fun _ => ?_) (fun h9 => absurd h9 (fun h9 => absurd (h9 ▸ nI_pos (n := p9) (by omega)) (by decide)))
    refine lv_lload hx hb dX5_addMembers_40 (lv_at hl 2 rfl) ?_
    refine lv_iload_n hx hb dX5_addMembers_42 rfl (lv_at hl 6 rfl) ?_
    refine lv_bipush (v := 10) hx hb dX5_addMembers_43 (by decide) ?_
    refine lv_icmp_ne (tgt := 61) hx hb dX5_addMembers_45 (by decide) (fun _ => ?_) (fun h9 => absurd h9 (by decide))
    refine lv_aload_n hx hb dX5_addMembers_61 rfl (lv_at hl 3 rfl) ?_
    refine va_get (D := D) (ci := 5) (v := .ref (h 1)) (C := RX5) (T := TX5) (N := 5) hx hb hts hiX5 hown hK.1 hP 0 rfl rfl 0 (by decide) kf10 (fun _ h9 => h9) rfl dX5_addMembers_62 ?_
    refine lv_iload hx hb dX5_addMembers_65 (lv_at hl 0 rfl) ?_
    refine pu_calli (va_runV (As := [.int (nI p9)]) (rest := [.long (msum Wt Mb (8 * r) y)]) ⟨hx, hb, hml, hown, hts⟩ (c_X4_weightOf hh hn p9 (by omega)) (cwV 1 hts gX5_addMembers_X4_weightOf rfl rfl rfl (by decide +kernel) ⟨Nat.le_of_ble_eq_true rfl, Nat.le_of_ble_eq_true rfl⟩) (wd_preV (ci := 4) (q0 := 1) hP hK rfl rfl) rfl rfl hl.1 rfl (lv_room (Nat.le_of_ble_eq_true rfl)) dX5_addMembers_67 ⟨Nat.zero_le _, Nat.zero_le _⟩) ?_
    refine lv_i2l (v := Int32.toInt64 (Wt p9)) hx hb dX5_addMembers_70 (rfl) ?_
    refine lv_ladd hx hb dX5_addMembers_71 ?_
    refine lv_lstore (lv' := [(4, .long ((msum Wt Mb (8 * r) y) + (Int32.toInt64 (Wt p9)))), (7, .int (nI p9)), (6, .int (nI y)), (0, .ref (h 0)), (1, .int (nI r)), (2, .int (nI i)), (3, .int 5)]) hx hb dX5_addMembers_72 hl (by decide) rfl (fun ls hl => ?_)
    refine lv_iinc (v := nI (y + 1)) (lv' := [(6, .int (nI (y + 1))), (4, .long ((msum Wt Mb (8 * r) y) + (Int32.toInt64 (Wt p9)))), (7, .int (nI p9)), (0, .ref (h 0)), (1, .int (nI r)), (2, .int (nI i)), (3, .int 5)]) hx hb dX5_addMembers_74 hl (k := 2) rfl (nI_add y 1) (by decide) rfl (fun ls hl => ?_)
    refine lv_goto (tgt := 6) hx hb dX5_addMembers_77 (by decide) ?_
    exact ih (y + 1) (by omega) ls (lv_sub hl [0, 1, 3, 4, 5, 6] (by rw [show msum Wt Mb (8 * r) (y + 1) = msum Wt Mb (8 * r) y + Int32.toInt64 (Wt p9) from by rw [msum, hp9, nI_clamp (by omega)]]; rfl))
set_option maxHeartbeats 4000000 in
set_option maxRecDepth 100000 in
theorem c_X5_memh_o (hh : ad_ok h 20) (hn : n ≤ 100) (hk : k ≤ 8) (r : Nat) (hr9 : r < n) (i : Nat) (hi : i < k) (z q : Nat) (hz : Sz r = nI z) (hz8 : z ≤ 8) (hq : q ≤ z) (hv : ∀ j, j < q → ∃ p9, p9 < n ∧ Mb (8 * r + j) = nI p9) (hqz : q = z) : Met l yX5_addMembers wsX5_addMembers ({ frames := 5, cells := 0, slots := 0, locals := 160 }) (wd_P D cI cJ [.ref (h 0), .int (nI r), .int (nI i), .int 5] (sl_W cI cJ h (nI n) F Wt Sz Nu Mb (nI k) G Wk To Sl Ri (nI f) (nI b) oT oS oF (nI an) (nI as) Fo wo pa fa)) (mu_Q D (ad_A h 20) (some (.int 0)) (sl_W cI cJ h (nI n) F Wt Sz Nu Mb (nI k) G Wk (vp_updL To i (To i + msum Wt Mb (8 * r) q)) Sl Ri (nI f) (nI b) oT oS oF (nI an) (nI as) Fo wo pa fa)) 0 0 (ad_A h 20) := by
  refine Met.ofW (cc := cX5_addMembers) (maxL := 8) (ret := (some .int)) (by decide) rfl ?_
  intro p e s m args below meth c s₁ B hml hv
  obtain ⟨rfl, hP, hK⟩ := hv
  have hx := B.exec
  have hb := B.bytes
  have hr := B.returns
  have hts := atoms_spec (ws := wsX5_addMembers) B.pre
  have hown : s.vm.findClass RX5 = some m.cls := findClass_of_methodNamed B.named
  have hlocks := B.notSynchronized
  have hiX5 : ∀ w ∈ u_ws RX5 TX5 5, w ∈ wsX5_addMembers := by decide +kernel
  have kf10 := hts (.fieldLink RX5 10 "SortingLine" "things" "LSortingLine$Things;") (by decide +kernel)
  have hS : va_S (ad_A h 20) s.heap s.heap [] := va_S.rf
  have hl := lv_entry ([.ref (h 0), .int (nI r), .int (nI i), .int 5]) (n := 8) (Nat.le_of_ble_eq_true rfl)
  rw [lg_entry_eq]
  generalize (lg_sl ([.ref (h 0), .int (nI r), .int (nI i), .int 5]) ++ List.replicate (8 - (lg_sl ([.ref (h 0), .int (nI r), .int (nI i), .int 5])).length) Slot.unset).toArray = ls at hl ⊢
  have hl : lv_has ls 8 [(0, .ref (h 0)), (1, .int (nI r)), (2, .int (nI i)), (3, .int 5)] := hl
  refine lv_lconst (v := 0) hx hb dX5_addMembers_0 (by decide) ?_
  refine lv_lstore (lv' := [(4, .long 0), (0, .ref (h 0)), (1, .int (nI r)), (2, .int (nI i)), (3, .int 5)]) hx hb dX5_addMembers_1 hl (by decide) rfl (fun ls hl => ?_)
  refine lv_iconst (v := 0) hx hb dX5_addMembers_3 (by decide) ?_
  refine lv_istore (lv' := [(6, .int 0), (4, .long 0), (0, .ref (h 0)), (1, .int (nI r)), (2, .int (nI i)), (3, .int 5)]) hx hb dX5_addMembers_4 hl (by decide) rfl (fun ls hl => ?_)
  refine lp_X5_memh hx hb hml hown hts hK hP hh hn hk r hr9 i hi z q hz hz8 hq hv (fun _ _ ls hl => ?_) q 0 (by omega) ls (lv_sub hl [0, 1, 2, 3, 4, 5] rfl)
  refine lv_iload hx hb dX5_addMembers_6 (lv_at hl 0 rfl) ?_
  refine lv_aload_n hx hb dX5_addMembers_8 rfl (lv_at hl 2 rfl) ?_
  refine va_get (D := D) (ci := 5) (v := .ref (h 1)) (C := RX5) (T := TX5) (N := 5) hx hb hts hiX5 hown hK.1 hP 0 rfl rfl 0 (by decide) kf10 (fun _ h9 => h9) rfl dX5_addMembers_9 ?_
  refine lv_iload_n hx hb dX5_addMembers_12 rfl (lv_at hl 3 rfl) ?_
  refine pu_calli (va_runV (As := [.int (nI r)]) (rest := [.int (nI q)]) ⟨hx, hb, hml, hown, hts⟩ (c_X4_sizeOf hh hn r (by omega)) (cwV 1 hts gX5_addMembers_X4_sizeOf rfl rfl rfl (by decide +kernel) ⟨Nat.le_of_ble_eq_true rfl, Nat.le_of_ble_eq_true rfl⟩) (wd_preV (ci := 4) (q0 := 1) hP hK rfl rfl) rfl rfl hl.1 rfl (lv_room (Nat.le_of_ble_eq_true rfl)) dX5_addMembers_13 ⟨Nat.zero_le _, Nat.zero_le _⟩) ?_
  refine tp_i (y := nI z) (hz) ?_
  refine lv_icmp_ge (tgt := 80) hx hb dX5_addMembers_16 (by decide) (fun _ => ?_) (fun h9 => absurd (nI_le (by omega) (by omega)) h9)
  refine lv_aload_n hx hb dX5_addMembers_80 rfl (lv_at hl 2 rfl) ?_
  refine lv_iload_n hx hb dX5_addMembers_81 rfl (lv_at hl 4 rfl) ?_
  refine lv_lload hx hb dX5_addMembers_82 (lv_at hl 1 rfl) ?_
  refine mu_calli (va_runV (As := [.int (nI i), .long (msum Wt Mb (8 * r) q)]) (rest := []) ⟨hx, hb, hml, hown, hts⟩ (c_X5_grow hh hk i (by omega) (msum Wt Mb (8 * r) q)) (cwV 2 hts gX5_addMembers_X5_grow rfl rfl rfl (by decide +kernel) ⟨Nat.le_of_ble_eq_true rfl, Nat.le_of_ble_eq_true rfl⟩) (wd_preV (ci := 5) (q0 := 0) hP hK rfl rfl) rfl rfl hl.1 rfl (lv_room (Nat.le_of_ble_eq_true rfl)) dX5_addMembers_84 ⟨Nat.zero_le _, Nat.zero_le _⟩) hS (fun H locs hP hS => ?_)
  have hP : va_P D kC (sl_W cI cJ h (nI n) F Wt Sz Nu Mb (nI k) G Wk (vp_updL To i (To i + (msum Wt Mb (8 * r) q))) Sl Ri (nI f) (nI b) oT oS oF (nI an) (nI as) Fo wo pa fa) H := hP
  exact W.iret (v := 0) hx hb hr (fun t9 ht _ => ⟨congrArg (fun z => Outcome.returned (some (Value.int z))) (rfl), by rw [ht]; exact hP, hS.F ht⟩) hS.2.2 dX5_addMembers_87
set_option maxHeartbeats 4000000 in
set_option maxRecDepth 100000 in
theorem c_X5_memh_n (hh : ad_ok h 20) (hn : n ≤ 100) (hk : k ≤ 8) (r : Nat) (hr9 : r < n) (i : Nat) (hi : i < k) (z q : Nat) (hz : Sz r = nI z) (hz8 : z ≤ 8) (hq : q ≤ z) (hv : ∀ j, j < q → ∃ p9, p9 < n ∧ Mb (8 * r + j) = nI p9) (hqz : q < z) (hnq : Mb (8 * r + q) = -5) : Met l yX5_addMembers wsX5_addMembers ({ frames := 5, cells := 0, slots := 0, locals := 160 }) (wd_P D cI cJ [.ref (h 0), .int (nI r), .int (nI i), .int 5] (sl_W cI cJ h (nI n) F Wt Sz Nu Mb (nI k) G Wk To Sl Ri (nI f) (nI b) oT oS oF (nI an) (nI as) Fo wo pa fa)) (pu_Q (some (.int 2))) 0 0 (fun _ => False) := by
  refine Met.ofW (cc := cX5_addMembers) (maxL := 8) (ret := (some .int)) (by decide) rfl ?_
  intro p e s m args below meth c s₁ B hml hv
  obtain ⟨rfl, hP, hK⟩ := hv
  have hx := B.exec
  have hb := B.bytes
  have hr := B.returns
  have hts := atoms_spec (ws := wsX5_addMembers) B.pre
  have hown : s.vm.findClass RX5 = some m.cls := findClass_of_methodNamed B.named
  have hlocks := B.notSynchronized
  have hiX5 : ∀ w ∈ u_ws RX5 TX5 5, w ∈ wsX5_addMembers := by decide +kernel
  have kf10 := hts (.fieldLink RX5 10 "SortingLine" "things" "LSortingLine$Things;") (by decide +kernel)
  have hl := lv_entry ([.ref (h 0), .int (nI r), .int (nI i), .int 5]) (n := 8) (Nat.le_of_ble_eq_true rfl)
  rw [lg_entry_eq]
  generalize (lg_sl ([.ref (h 0), .int (nI r), .int (nI i), .int 5]) ++ List.replicate (8 - (lg_sl ([.ref (h 0), .int (nI r), .int (nI i), .int 5])).length) Slot.unset).toArray = ls at hl ⊢
  have hl : lv_has ls 8 [(0, .ref (h 0)), (1, .int (nI r)), (2, .int (nI i)), (3, .int 5)] := hl
  refine lv_lconst (v := 0) hx hb dX5_addMembers_0 (by decide) ?_
  refine lv_lstore (lv' := [(4, .long 0), (0, .ref (h 0)), (1, .int (nI r)), (2, .int (nI i)), (3, .int 5)]) hx hb dX5_addMembers_1 hl (by decide) rfl (fun ls hl => ?_)
  refine lv_iconst (v := 0) hx hb dX5_addMembers_3 (by decide) ?_
  refine lv_istore (lv' := [(6, .int 0), (4, .long 0), (0, .ref (h 0)), (1, .int (nI r)), (2, .int (nI i)), (3, .int 5)]) hx hb dX5_addMembers_4 hl (by decide) rfl (fun ls hl => ?_)
  refine lp_X5_memh hx hb hml hown hts hK hP hh hn hk r hr9 i hi z q hz hz8 hq hv (fun _ _ ls hl => ?_) q 0 (by omega) ls (lv_sub hl [0, 1, 2, 3, 4, 5] rfl)
  refine lv_iload hx hb dX5_addMembers_6 (lv_at hl 0 rfl) ?_
  refine lv_aload_n hx hb dX5_addMembers_8 rfl (lv_at hl 2 rfl) ?_
  refine va_get (D := D) (ci := 5) (v := .ref (h 1)) (C := RX5) (T := TX5) (N := 5) hx hb hts hiX5 hown hK.1 hP 0 rfl rfl 0 (by decide) kf10 (fun _ h9 => h9) rfl dX5_addMembers_9 ?_
  refine lv_iload_n hx hb dX5_addMembers_12 rfl (lv_at hl 3 rfl) ?_
  refine pu_calli (va_runV (As := [.int (nI r)]) (rest := [.int (nI q)]) ⟨hx, hb, hml, hown, hts⟩ (c_X4_sizeOf hh hn r (by omega)) (cwV 1 hts gX5_addMembers_X4_sizeOf rfl rfl rfl (by decide +kernel) ⟨Nat.le_of_ble_eq_true rfl, Nat.le_of_ble_eq_true rfl⟩) (wd_preV (ci := 4) (q0 := 1) hP hK rfl rfl) rfl rfl hl.1 rfl (lv_room (Nat.le_of_ble_eq_true rfl)) dX5_addMembers_13 ⟨Nat.zero_le _, Nat.zero_le _⟩) ?_
  refine tp_i (y := nI z) (hz) ?_
  refine lv_icmp_ge (tgt := 80) hx hb dX5_addMembers_16 (by decide) (fun h9 => absurd h9 (nI_ge (by omega) (by omega))) (fun _ => ?_)
  refine lv_aload_n hx hb dX5_addMembers_19 rfl (lv_at hl 2 rfl) ?_
  refine va_get (D := D) (ci := 5) (v := .ref (h 1)) (C := RX5) (T := TX5) (N := 5) hx hb hts hiX5 hown hK.1 hP 0 rfl rfl 0 (by decide) kf10 (fun _ h9 => h9) rfl dX5_addMembers_20 ?_
  refine lv_iload_n hx hb dX5_addMembers_23 rfl (lv_at hl 3 rfl) ?_
  refine lv_iload hx hb dX5_addMembers_24 (lv_at hl 0 rfl) ?_
  refine pu_calli (va_runV (As := [.int (nI r), .int (nI q)]) (rest := []) ⟨hx, hb, hml, hown, hts⟩ (c_X4_memberAt hh hn r (by omega) q (by omega) (by rw [hz]; exact p_in_nI (by omega) (by omega))) (cwV 2 hts gX5_addMembers_X4_memberAt rfl rfl rfl (by decide +kernel) ⟨Nat.le_of_ble_eq_true rfl, Nat.le_of_ble_eq_true rfl⟩) (wd_preV (ci := 4) (q0 := 1) hP hK rfl rfl) rfl rfl hl.1 rfl (lv_room (Nat.le_of_ble_eq_true rfl)) dX5_addMembers_26 ⟨Nat.zero_le _, Nat.zero_le _⟩) ?_
  refine tp_i (y := -5) (hnq) ?_
  refine lv_istore (lv' := [(7, .int (-5)), (6, .int (nI q)), (4, .long (msum Wt Mb (8 * r) q)), (0, .ref (h 0)), (1, .int (nI r)), (2, .int (nI i)), (3, .int 5)]) hx hb dX5_addMembers_29 hl (by decide) rfl (fun ls hl => ?_)
  refine lv_iload hx hb dX5_addMembers_31 (lv_at hl 0 rfl) ?_
  refine lv_bipush (v := (-5)) hx hb dX5_addMembers_33 (by decide) ?_
  refine lv_icmp_ne (tgt := 40) hx hb dX5_addMembers_35 (by decide) (fun h9 => absurd (by decide) h9) (fun _ => ?_)
  refine lv_iconst (v := 2) hx hb dX5_addMembers_38 (by decide) ?_
  exact W.iret (v := 2) hx hb hr (fun t9 ht _ => ⟨congrArg (fun z => Outcome.returned (some (Value.int z))) (rfl), ht⟩) (fun _ h9 => nomatch h9) dX5_addMembers_39
set_option maxHeartbeats 4000000 in
set_option maxRecDepth 100000 in
theorem lp_X5_memk {p : Program} {e : Env} {s : State} {m : MethodId} {args : Array Value} {below : List Frame} {meth : Method} {c : Code} {Q : State → Prop} {H : Heap} {locs : List Loc} (hx : p.tables.exec = Jvm.exec) (hb : c.code = cX5_addMembers) (hml : c.maxLocals = 8) (hown : s.vm.findClass RX5 = some m.cls) (hts : ∀ w ∈ wsX5_addMembers, w.before args s = true) (hK : wd_K D cI cJ s) (hP : va_P D kC (sl_W cI cJ h (nI n) F Wt Sz Nu Mb (nI k) G Wk To Sl Ri (nI f) (nI b) oT oS oF (nI an) (nI as) Fo wo pa fa) H) (hh : ad_ok h 20) (hn : n ≤ 100) (hk : k ≤ 8) (r : Nat) (hr9 : r < n) (i : Nat) (hi : i < k) (z q : Nat) (hz : Sz r = nI z) (hz8 : z ≤ 8) (hq : q ≤ z) (hv : ∀ j, j < q → ∃ p9, p9 < n ∧ Mb (8 * r + j) = nI p9) (kk0 : ∀ (_ : Nat), True → ∀ (ls : Array Slot), lv_has ls 8 [(6, .int (nI q)), (4, .long (msum (fun z => kyO (F z) (Wt z)) Mb (8 * r) q)), (0, .ref (h 0)), (1, .int (nI r)), (2, .int (nI i)), (3, .int 10)] → W p l e (headSpec wsX5_addMembers { frames := 5, cells := 0, slots := 0, locals := 160 }).room s m args below meth c H locs 0 0 Q (F0 m 6 ls [])) : ∀ (d : Nat) (y : Nat), y + d = q → ∀ (ls : Array Slot), lv_has ls 8 [(6, .int (nI y)), (4, .long (msum (fun z => kyO (F z) (Wt z)) Mb (8 * r) y)), (0, .ref (h 0)), (1, .int (nI r)), (2, .int (nI i)), (3, .int 10)] → W p l e (headSpec wsX5_addMembers { frames := 5, cells := 0, slots := 0, locals := 160 }).room s m args below meth c H locs 0 0 Q (F0 m 6 ls []) := by
  have hiX5 : ∀ w ∈ u_ws RX5 TX5 5, w ∈ wsX5_addMembers := by decide +kernel
  have kf10 := hts (.fieldLink RX5 10 "SortingLine" "things" "LSortingLine$Things;") (by decide +kernel)
  intro d
  induction d with
  | zero =>
    intro y hi ls hl
    obtain rfl : y = q := by omega
    exact kk0 0 trivial ls hl
  | succ d ih =>
    intro y hi ls hl
    obtain ⟨p9, hpn, hp9⟩ := hv y (by omega)
    refine lv_iload hx hb dX5_addMembers_6 (lv_at hl 0 rfl) ?_
    refine lv_aload_n hx hb dX5_addMembers_8 rfl (lv_at hl 2 rfl) ?_
    refine va_get (D := D) (ci := 5) (v := .ref (h 1)) (C := RX5) (T := TX5) (N := 5) hx hb hts hiX5 hown hK.1 hP 0 rfl rfl 0 (by decide) kf10 (fun _ h9 => h9) rfl dX5_addMembers_9 ?_
    refine lv_iload_n hx hb dX5_addMembers_12 rfl (lv_at hl 3 rfl) ?_
    refine pu_calli (va_runV (As := [.int (nI r)]) (rest := [.int (nI y)]) ⟨hx, hb, hml, hown, hts⟩ (c_X4_sizeOf hh hn r (by omega)) (cwV 1 hts gX5_addMembers_X4_sizeOf rfl rfl rfl (by decide +kernel) ⟨Nat.le_of_ble_eq_true rfl, Nat.le_of_ble_eq_true rfl⟩) (wd_preV (ci := 4) (q0 := 1) hP hK rfl rfl) rfl rfl hl.1 rfl (lv_room (Nat.le_of_ble_eq_true rfl)) dX5_addMembers_13 ⟨Nat.zero_le _, Nat.zero_le _⟩) ?_
    refine tp_i (y := nI z) (hz) ?_
    refine lv_icmp_ge (tgt := 80) hx hb dX5_addMembers_16 (by decide) (fun h9 => absurd h9 (nI_ge (by omega) (by omega))) (fun _ => ?_)
    refine lv_aload_n hx hb dX5_addMembers_19 rfl (lv_at hl 2 rfl) ?_
    refine va_get (D := D) (ci := 5) (v := .ref (h 1)) (C := RX5) (T := TX5) (N := 5) hx hb hts hiX5 hown hK.1 hP 0 rfl rfl 0 (by decide) kf10 (fun _ h9 => h9) rfl dX5_addMembers_20 ?_
    refine lv_iload_n hx hb dX5_addMembers_23 rfl (lv_at hl 3 rfl) ?_
    refine lv_iload hx hb dX5_addMembers_24 (lv_at hl 0 rfl) ?_
    refine pu_calli (va_runV (As := [.int (nI r), .int (nI y)]) (rest := []) ⟨hx, hb, hml, hown, hts⟩ (c_X4_memberAt hh hn r (by omega) y (by omega) (by rw [hz]; exact p_in_nI (by omega) (by omega))) (cwV 2 hts gX5_addMembers_X4_memberAt rfl rfl rfl (by decide +kernel) ⟨Nat.le_of_ble_eq_true rfl, Nat.le_of_ble_eq_true rfl⟩) (wd_preV (ci := 4) (q0 := 1) hP hK rfl rfl) rfl rfl hl.1 rfl (lv_room (Nat.le_of_ble_eq_true rfl)) dX5_addMembers_26 ⟨Nat.zero_le _, Nat.zero_le _⟩) ?_
    refine tp_i (y := nI p9) (hp9) ?_
    refine lv_istore (lv' := [(7, .int (nI p9)), (6, .int (nI y)), (4, .long (msum (fun z => kyO (F z) (Wt z)) Mb (8 * r) y)), (0, .ref (h 0)), (1, .int (nI r)), (2, .int (nI i)), (3, .int 10)]) hx hb dX5_addMembers_29 hl (by decide) rfl (fun ls hl => ?_)
    refine lv_iload hx hb dX5_addMembers_31 (lv_at hl 0 rfl) ?_
    refine lv_bipush (v := (-5)) hx hb dX5_addMembers_33 (by decide) ?_
    refine lv_icmp_ne (tgt := 40) hx hb dX5_addMembers_35 (by decide) (fun _ => ?_) (fun h9 => absurd h9 (fun h9 => absurd (h9 ▸ nI_pos (n := p9) (by omega)) (by decide)))
    refine lv_lload hx hb dX5_addMembers_40 (lv_at hl 2 rfl) ?_
    refine lv_iload_n hx hb dX5_addMembers_42 rfl (lv_at hl 6 rfl) ?_
    refine lv_bipush (v := 10) hx hb dX5_addMembers_43 (by decide) ?_
    refine lv_icmp_ne (tgt := 61) hx hb dX5_addMembers_45 (by decide) (fun h9 => absurd (by decide) h9) (fun _ => ?_)
    refine lv_aload_n hx hb dX5_addMembers_48 rfl (lv_at hl 3 rfl) ?_
    refine va_get (D := D) (ci := 5) (v := .ref (h 1)) (C := RX5) (T := TX5) (N := 5) hx hb hts hiX5 hown hK.1 hP 0 rfl rfl 0 (by decide) kf10 (fun _ h9 => h9) rfl dX5_addMembers_49 ?_
    refine lv_iload hx hb dX5_addMembers_52 (lv_at hl 0 rfl) ?_
    refine pu_calli (va_runV (As := [.int (nI p9)]) (rest := [.long (msum (fun z => kyO (F z) (Wt z)) Mb (8 * r) y)]) ⟨hx, hb, hml, hown, hts⟩ (c_X4_keyOf hh hn p9 (by omega)) (cwV 1 hts gX5_addMembers_X4_keyOf rfl rfl rfl (by decide +kernel) ⟨Nat.le_of_ble_eq_true rfl, Nat.le_of_ble_eq_true rfl⟩) (wd_preV (ci := 4) (q0 := 1) hP hK rfl rfl) rfl rfl hl.1 rfl (lv_room (Nat.le_of_ble_eq_true rfl)) dX5_addMembers_54 ⟨Nat.zero_le _, Nat.zero_le _⟩) ?_
    refine lv_i2l (v := Int32.toInt64 (kyO (F p9) (Wt p9))) hx hb dX5_addMembers_57 (rfl) ?_
    refine lv_goto (tgt := 71) hx hb dX5_addMembers_58 (by decide) ?_
    refine lv_ladd hx hb dX5_addMembers_71 ?_
    refine lv_lstore (lv' := [(4, .long ((msum (fun z => kyO (F z) (Wt z)) Mb (8 * r) y) + (Int32.toInt64 (kyO (F p9) (Wt p9))))), (7, .int (nI p9)), (6, .int (nI y)), (0, .ref (h 0)), (1, .int (nI r)), (2, .int (nI i)), (3, .int 10)]) hx hb dX5_addMembers_72 hl (by decide) rfl (fun ls hl => ?_)
    refine lv_iinc (v := nI (y + 1)) (lv' := [(6, .int (nI (y + 1))), (4, .long ((msum (fun z => kyO (F z) (Wt z)) Mb (8 * r) y) + (Int32.toInt64 (kyO (F p9) (Wt p9))))), (7, .int (nI p9)), (0, .ref (h 0)), (1, .int (nI r)), (2, .int (nI i)), (3, .int 10)]) hx hb dX5_addMembers_74 hl (k := 2) rfl (nI_add y 1) (by decide) rfl (fun ls hl => ?_)
    refine lv_goto (tgt := 6) hx hb dX5_addMembers_77 (by decide) ?_
    exact ih (y + 1) (by omega) ls (lv_sub hl [0, 1, 3, 4, 5, 6] (by rw [show msum (fun z => kyO (F z) (Wt z)) Mb (8 * r) (y + 1) = msum (fun z => kyO (F z) (Wt z)) Mb (8 * r) y + Int32.toInt64 ((fun z => kyO (F z) (Wt z)) p9) from by rw [msum, hp9, nI_clamp (by omega)]]; rfl))
set_option maxHeartbeats 4000000 in
set_option maxRecDepth 100000 in
theorem c_X5_memk_o (hh : ad_ok h 20) (hn : n ≤ 100) (hk : k ≤ 8) (r : Nat) (hr9 : r < n) (i : Nat) (hi : i < k) (z q : Nat) (hz : Sz r = nI z) (hz8 : z ≤ 8) (hq : q ≤ z) (hv : ∀ j, j < q → ∃ p9, p9 < n ∧ Mb (8 * r + j) = nI p9) (hqz : q = z) : Met l yX5_addMembers wsX5_addMembers ({ frames := 5, cells := 0, slots := 0, locals := 160 }) (wd_P D cI cJ [.ref (h 0), .int (nI r), .int (nI i), .int 10] (sl_W cI cJ h (nI n) F Wt Sz Nu Mb (nI k) G Wk To Sl Ri (nI f) (nI b) oT oS oF (nI an) (nI as) Fo wo pa fa)) (mu_Q D (ad_A h 20) (some (.int 0)) (sl_W cI cJ h (nI n) F Wt Sz Nu Mb (nI k) G Wk (vp_updL To i (To i + msum (fun z => kyO (F z) (Wt z)) Mb (8 * r) q)) Sl Ri (nI f) (nI b) oT oS oF (nI an) (nI as) Fo wo pa fa)) 0 0 (ad_A h 20) := by
  refine Met.ofW (cc := cX5_addMembers) (maxL := 8) (ret := (some .int)) (by decide) rfl ?_
  intro p e s m args below meth c s₁ B hml hv
  obtain ⟨rfl, hP, hK⟩ := hv
  have hx := B.exec
  have hb := B.bytes
  have hr := B.returns
  have hts := atoms_spec (ws := wsX5_addMembers) B.pre
  have hown : s.vm.findClass RX5 = some m.cls := findClass_of_methodNamed B.named
  have hlocks := B.notSynchronized
  have hiX5 : ∀ w ∈ u_ws RX5 TX5 5, w ∈ wsX5_addMembers := by decide +kernel
  have kf10 := hts (.fieldLink RX5 10 "SortingLine" "things" "LSortingLine$Things;") (by decide +kernel)
  have hS : va_S (ad_A h 20) s.heap s.heap [] := va_S.rf
  have hl := lv_entry ([.ref (h 0), .int (nI r), .int (nI i), .int 10]) (n := 8) (Nat.le_of_ble_eq_true rfl)
  rw [lg_entry_eq]
  generalize (lg_sl ([.ref (h 0), .int (nI r), .int (nI i), .int 10]) ++ List.replicate (8 - (lg_sl ([.ref (h 0), .int (nI r), .int (nI i), .int 10])).length) Slot.unset).toArray = ls at hl ⊢
  have hl : lv_has ls 8 [(0, .ref (h 0)), (1, .int (nI r)), (2, .int (nI i)), (3, .int 10)] := hl
  refine lv_lconst (v := 0) hx hb dX5_addMembers_0 (by decide) ?_
  refine lv_lstore (lv' := [(4, .long 0), (0, .ref (h 0)), (1, .int (nI r)), (2, .int (nI i)), (3, .int 10)]) hx hb dX5_addMembers_1 hl (by decide) rfl (fun ls hl => ?_)
  refine lv_iconst (v := 0) hx hb dX5_addMembers_3 (by decide) ?_
  refine lv_istore (lv' := [(6, .int 0), (4, .long 0), (0, .ref (h 0)), (1, .int (nI r)), (2, .int (nI i)), (3, .int 10)]) hx hb dX5_addMembers_4 hl (by decide) rfl (fun ls hl => ?_)
  refine lp_X5_memk hx hb hml hown hts hK hP hh hn hk r hr9 i hi z q hz hz8 hq hv (fun _ _ ls hl => ?_) q 0 (by omega) ls (lv_sub hl [0, 1, 2, 3, 4, 5] rfl)
  refine lv_iload hx hb dX5_addMembers_6 (lv_at hl 0 rfl) ?_
  refine lv_aload_n hx hb dX5_addMembers_8 rfl (lv_at hl 2 rfl) ?_
  refine va_get (D := D) (ci := 5) (v := .ref (h 1)) (C := RX5) (T := TX5) (N := 5) hx hb hts hiX5 hown hK.1 hP 0 rfl rfl 0 (by decide) kf10 (fun _ h9 => h9) rfl dX5_addMembers_9 ?_
  refine lv_iload_n hx hb dX5_addMembers_12 rfl (lv_at hl 3 rfl) ?_
  refine pu_calli (va_runV (As := [.int (nI r)]) (rest := [.int (nI q)]) ⟨hx, hb, hml, hown, hts⟩ (c_X4_sizeOf hh hn r (by omega)) (cwV 1 hts gX5_addMembers_X4_sizeOf rfl rfl rfl (by decide +kernel) ⟨Nat.le_of_ble_eq_true rfl, Nat.le_of_ble_eq_true rfl⟩) (wd_preV (ci := 4) (q0 := 1) hP hK rfl rfl) rfl rfl hl.1 rfl (lv_room (Nat.le_of_ble_eq_true rfl)) dX5_addMembers_13 ⟨Nat.zero_le _, Nat.zero_le _⟩) ?_
  refine tp_i (y := nI z) (hz) ?_
  refine lv_icmp_ge (tgt := 80) hx hb dX5_addMembers_16 (by decide) (fun _ => ?_) (fun h9 => absurd (nI_le (by omega) (by omega)) h9)
  refine lv_aload_n hx hb dX5_addMembers_80 rfl (lv_at hl 2 rfl) ?_
  refine lv_iload_n hx hb dX5_addMembers_81 rfl (lv_at hl 4 rfl) ?_
  refine lv_lload hx hb dX5_addMembers_82 (lv_at hl 1 rfl) ?_
  refine mu_calli (va_runV (As := [.int (nI i), .long (msum (fun z => kyO (F z) (Wt z)) Mb (8 * r) q)]) (rest := []) ⟨hx, hb, hml, hown, hts⟩ (c_X5_grow hh hk i (by omega) (msum (fun z => kyO (F z) (Wt z)) Mb (8 * r) q)) (cwV 2 hts gX5_addMembers_X5_grow rfl rfl rfl (by decide +kernel) ⟨Nat.le_of_ble_eq_true rfl, Nat.le_of_ble_eq_true rfl⟩) (wd_preV (ci := 5) (q0 := 0) hP hK rfl rfl) rfl rfl hl.1 rfl (lv_room (Nat.le_of_ble_eq_true rfl)) dX5_addMembers_84 ⟨Nat.zero_le _, Nat.zero_le _⟩) hS (fun H locs hP hS => ?_)
  have hP : va_P D kC (sl_W cI cJ h (nI n) F Wt Sz Nu Mb (nI k) G Wk (vp_updL To i (To i + (msum (fun z => kyO (F z) (Wt z)) Mb (8 * r) q))) Sl Ri (nI f) (nI b) oT oS oF (nI an) (nI as) Fo wo pa fa) H := hP
  exact W.iret (v := 0) hx hb hr (fun t9 ht _ => ⟨congrArg (fun z => Outcome.returned (some (Value.int z))) (rfl), by rw [ht]; exact hP, hS.F ht⟩) hS.2.2 dX5_addMembers_87
set_option maxHeartbeats 4000000 in
set_option maxRecDepth 100000 in
theorem c_X5_memk_n (hh : ad_ok h 20) (hn : n ≤ 100) (hk : k ≤ 8) (r : Nat) (hr9 : r < n) (i : Nat) (hi : i < k) (z q : Nat) (hz : Sz r = nI z) (hz8 : z ≤ 8) (hq : q ≤ z) (hv : ∀ j, j < q → ∃ p9, p9 < n ∧ Mb (8 * r + j) = nI p9) (hqz : q < z) (hnq : Mb (8 * r + q) = -5) : Met l yX5_addMembers wsX5_addMembers ({ frames := 5, cells := 0, slots := 0, locals := 160 }) (wd_P D cI cJ [.ref (h 0), .int (nI r), .int (nI i), .int 10] (sl_W cI cJ h (nI n) F Wt Sz Nu Mb (nI k) G Wk To Sl Ri (nI f) (nI b) oT oS oF (nI an) (nI as) Fo wo pa fa)) (pu_Q (some (.int 2))) 0 0 (fun _ => False) := by
  refine Met.ofW (cc := cX5_addMembers) (maxL := 8) (ret := (some .int)) (by decide) rfl ?_
  intro p e s m args below meth c s₁ B hml hv
  obtain ⟨rfl, hP, hK⟩ := hv
  have hx := B.exec
  have hb := B.bytes
  have hr := B.returns
  have hts := atoms_spec (ws := wsX5_addMembers) B.pre
  have hown : s.vm.findClass RX5 = some m.cls := findClass_of_methodNamed B.named
  have hlocks := B.notSynchronized
  have hiX5 : ∀ w ∈ u_ws RX5 TX5 5, w ∈ wsX5_addMembers := by decide +kernel
  have kf10 := hts (.fieldLink RX5 10 "SortingLine" "things" "LSortingLine$Things;") (by decide +kernel)
  have hl := lv_entry ([.ref (h 0), .int (nI r), .int (nI i), .int 10]) (n := 8) (Nat.le_of_ble_eq_true rfl)
  rw [lg_entry_eq]
  generalize (lg_sl ([.ref (h 0), .int (nI r), .int (nI i), .int 10]) ++ List.replicate (8 - (lg_sl ([.ref (h 0), .int (nI r), .int (nI i), .int 10])).length) Slot.unset).toArray = ls at hl ⊢
  have hl : lv_has ls 8 [(0, .ref (h 0)), (1, .int (nI r)), (2, .int (nI i)), (3, .int 10)] := hl
  refine lv_lconst (v := 0) hx hb dX5_addMembers_0 (by decide) ?_
  refine lv_lstore (lv' := [(4, .long 0), (0, .ref (h 0)), (1, .int (nI r)), (2, .int (nI i)), (3, .int 10)]) hx hb dX5_addMembers_1 hl (by decide) rfl (fun ls hl => ?_)
  refine lv_iconst (v := 0) hx hb dX5_addMembers_3 (by decide) ?_
  refine lv_istore (lv' := [(6, .int 0), (4, .long 0), (0, .ref (h 0)), (1, .int (nI r)), (2, .int (nI i)), (3, .int 10)]) hx hb dX5_addMembers_4 hl (by decide) rfl (fun ls hl => ?_)
  refine lp_X5_memk hx hb hml hown hts hK hP hh hn hk r hr9 i hi z q hz hz8 hq hv (fun _ _ ls hl => ?_) q 0 (by omega) ls (lv_sub hl [0, 1, 2, 3, 4, 5] rfl)
  refine lv_iload hx hb dX5_addMembers_6 (lv_at hl 0 rfl) ?_
  refine lv_aload_n hx hb dX5_addMembers_8 rfl (lv_at hl 2 rfl) ?_
  refine va_get (D := D) (ci := 5) (v := .ref (h 1)) (C := RX5) (T := TX5) (N := 5) hx hb hts hiX5 hown hK.1 hP 0 rfl rfl 0 (by decide) kf10 (fun _ h9 => h9) rfl dX5_addMembers_9 ?_
  refine lv_iload_n hx hb dX5_addMembers_12 rfl (lv_at hl 3 rfl) ?_
  refine pu_calli (va_runV (As := [.int (nI r)]) (rest := [.int (nI q)]) ⟨hx, hb, hml, hown, hts⟩ (c_X4_sizeOf hh hn r (by omega)) (cwV 1 hts gX5_addMembers_X4_sizeOf rfl rfl rfl (by decide +kernel) ⟨Nat.le_of_ble_eq_true rfl, Nat.le_of_ble_eq_true rfl⟩) (wd_preV (ci := 4) (q0 := 1) hP hK rfl rfl) rfl rfl hl.1 rfl (lv_room (Nat.le_of_ble_eq_true rfl)) dX5_addMembers_13 ⟨Nat.zero_le _, Nat.zero_le _⟩) ?_
  refine tp_i (y := nI z) (hz) ?_
  refine lv_icmp_ge (tgt := 80) hx hb dX5_addMembers_16 (by decide) (fun h9 => absurd h9 (nI_ge (by omega) (by omega))) (fun _ => ?_)
  refine lv_aload_n hx hb dX5_addMembers_19 rfl (lv_at hl 2 rfl) ?_
  refine va_get (D := D) (ci := 5) (v := .ref (h 1)) (C := RX5) (T := TX5) (N := 5) hx hb hts hiX5 hown hK.1 hP 0 rfl rfl 0 (by decide) kf10 (fun _ h9 => h9) rfl dX5_addMembers_20 ?_
  refine lv_iload_n hx hb dX5_addMembers_23 rfl (lv_at hl 3 rfl) ?_
  refine lv_iload hx hb dX5_addMembers_24 (lv_at hl 0 rfl) ?_
  refine pu_calli (va_runV (As := [.int (nI r), .int (nI q)]) (rest := []) ⟨hx, hb, hml, hown, hts⟩ (c_X4_memberAt hh hn r (by omega) q (by omega) (by rw [hz]; exact p_in_nI (by omega) (by omega))) (cwV 2 hts gX5_addMembers_X4_memberAt rfl rfl rfl (by decide +kernel) ⟨Nat.le_of_ble_eq_true rfl, Nat.le_of_ble_eq_true rfl⟩) (wd_preV (ci := 4) (q0 := 1) hP hK rfl rfl) rfl rfl hl.1 rfl (lv_room (Nat.le_of_ble_eq_true rfl)) dX5_addMembers_26 ⟨Nat.zero_le _, Nat.zero_le _⟩) ?_
  refine tp_i (y := -5) (hnq) ?_
  refine lv_istore (lv' := [(7, .int (-5)), (6, .int (nI q)), (4, .long (msum (fun z => kyO (F z) (Wt z)) Mb (8 * r) q)), (0, .ref (h 0)), (1, .int (nI r)), (2, .int (nI i)), (3, .int 10)]) hx hb dX5_addMembers_29 hl (by decide) rfl (fun ls hl => ?_)
  refine lv_iload hx hb dX5_addMembers_31 (lv_at hl 0 rfl) ?_
  refine lv_bipush (v := (-5)) hx hb dX5_addMembers_33 (by decide) ?_
  refine lv_icmp_ne (tgt := 40) hx hb dX5_addMembers_35 (by decide) (fun h9 => absurd (by decide) h9) (fun _ => ?_)
  refine lv_iconst (v := 2) hx hb dX5_addMembers_38 (by decide) ?_
  exact W.iret (v := 2) hx hb hr (fun t9 ht _ => ⟨congrArg (fun z => Outcome.returned (some (Value.int z))) (rfl), ht⟩) (fun _ h9 => nomatch h9) dX5_addMembers_39
set_option maxHeartbeats 4000000 in
set_option maxRecDepth 100000 in
theorem c_X5_pack_nB (hh : ad_ok h 20) (hn : n ≤ 100) (hk : k ≤ 8) (r : Nat) (hr9 : r < n) (i : Nat) (hi : i < k) (hs : Sl i = -5) (h2 : p_in 0 (Sz r) = false) : Met l yX5_pack wsX5_pack ({ frames := 5, cells := 0, slots := 0, locals := 160 }) (wd_P D cI cJ [.ref (h 0), .int (nI r), .int (nI i)] (sl_W cI cJ h (nI n) F Wt Sz Nu Mb (nI k) G Wk To Sl Ri (nI f) (nI b) oT oS oF (nI an) (nI as) Fo wo pa fa)) (pu_Q (some (.int 3))) 0 0 (fun _ => False) := by
  refine Met.ofW (cc := cX5_pack) (maxL := 4) (ret := (some .int)) (by decide) rfl ?_
  intro p e s m args below meth c s₁ B hml hv
  obtain ⟨rfl, hP, hK⟩ := hv
  have hx := B.exec
  have hb := B.bytes
  have hr := B.returns
  have hts := atoms_spec (ws := wsX5_pack) B.pre
  have hown : s.vm.findClass RX5 = some m.cls := findClass_of_methodNamed B.named
  have hlocks := B.notSynchronized
  have hiX5 : ∀ w ∈ u_ws RX5 TX5 5, w ∈ wsX5_pack := by decide +kernel
  have kf19 := hts (.fieldLink RX5 19 "SortingLine" "stations" "LSortingLine$Stations;") (by decide +kernel)
  have hl := lv_entry ([.ref (h 0), .int (nI r), .int (nI i)]) (n := 4) (Nat.le_of_ble_eq_true rfl)
  rw [lg_entry_eq]
  generalize (lg_sl ([.ref (h 0), .int (nI r), .int (nI i)]) ++ List.replicate (4 - (lg_sl ([.ref (h 0), .int (nI r), .int (nI i)])).length) Slot.unset).toArray = ls at hl ⊢
  have hl : lv_has ls 4 [(0, .ref (h 0)), (1, .int (nI r)), (2, .int (nI i))] := hl
  refine lv_aload_n hx hb dX5_pack_0 rfl (lv_at hl 0 rfl) ?_
  refine lv_iload_n hx hb dX5_pack_1 rfl (lv_at hl 1 rfl) ?_
  refine lv_iconst (v := 0) hx hb dX5_pack_2 (by decide) ?_
  refine lv_aload_n hx hb dX5_pack_3 rfl (lv_at hl 0 rfl) ?_
  refine va_get (D := D) (ci := 5) (v := .ref (h 2)) (C := RX5) (T := TX5) (N := 5) hx hb hts hiX5 hown hK.1 hP 0 rfl rfl 1 (by decide) kf19 (fun _ h9 => h9) rfl dX5_pack_4 ?_
  refine lv_iload_n hx hb dX5_pack_7 rfl (lv_at hl 2 rfl) ?_
  refine pu_calli (va_runV (As := [.int (nI i)]) (rest := [.int 0, .int (nI r), .ref (h 0)]) ⟨hx, hb, hml, hown, hts⟩ (c_X2_slotOf hh hk i (by omega)) (cwV 1 hts gX5_pack_X2_slotOf rfl rfl rfl (by decide +kernel) ⟨Nat.le_of_ble_eq_true rfl, Nat.le_of_ble_eq_true rfl⟩) (wd_preV (ci := 2) (q0 := 2) hP hK rfl rfl) rfl rfl hl.1 rfl (lv_room (Nat.le_of_ble_eq_true rfl)) dX5_pack_8 ⟨Nat.zero_le _, Nat.zero_le _⟩) ?_
  refine tp_i (y := -5) (hs) ?_
  refine lv_iconst (v := 0) hx hb dX5_pack_11 (by decide) ?_
  refine pu_calli (va_runV (As := [.int (nI r), .int 0, .int (-5), .int 0]) (rest := []) ⟨hx, hb, hml, hown, hts⟩ (c_X5_layInto_nB hh hn r (by omega) 0 0 h2) (cwV 4 hts gX5_pack_X5_layInto rfl rfl rfl (by decide +kernel) ⟨Nat.le_of_ble_eq_true rfl, Nat.le_of_ble_eq_true rfl⟩) (wd_preV (ci := 5) (q0 := 0) hP hK rfl rfl) rfl rfl hl.1 rfl (lv_room (Nat.le_of_ble_eq_true rfl)) dX5_pack_12 ⟨Nat.zero_le _, Nat.zero_le _⟩) ?_
  refine lv_istore_n (lv' := [(3, .int 3), (0, .ref (h 0)), (1, .int (nI r)), (2, .int (nI i))]) hx hb dX5_pack_15 rfl hl (by decide) rfl (fun ls hl => ?_)
  refine lv_iload_n hx hb dX5_pack_16 rfl (lv_at hl 0 rfl) ?_
  refine lv_if_ne (tgt := 30) hx hb dX5_pack_17 (by decide) (fun _ => ?_) (fun h9 => absurd h9 (by decide))
  refine lv_iload_n hx hb dX5_pack_30 rfl (lv_at hl 0 rfl) ?_
  exact W.iret (v := 3) hx hb hr (fun t9 ht _ => ⟨congrArg (fun z => Outcome.returned (some (Value.int z))) (rfl), ht⟩) (fun _ h9 => nomatch h9) dX5_pack_31
set_option maxHeartbeats 4000000 in
set_option maxRecDepth 100000 in
theorem c_X5_pack_nO (hh : ad_ok h 20) (hn : n ≤ 100) (hk : k ≤ 8) (r : Nat) (hr9 : r < n) (i : Nat) (hi : i < k) (hs : Sl i = -5) (h2 : p_in 0 (Sz r) = true) : Met l yX5_pack wsX5_pack ({ frames := 5, cells := 0, slots := 0, locals := 160 }) (wd_P D cI cJ [.ref (h 0), .int (nI r), .int (nI i)] (sl_W cI cJ h (nI n) F Wt Sz Nu Mb (nI k) G Wk To Sl Ri (nI f) (nI b) oT oS oF (nI an) (nI as) Fo wo pa fa)) (mu_Q D (ad_A h 20) (some (.int 0)) (sl_W cI cJ h (nI n) F Wt Sz Nu (upd Mb (8 * r + 0) (-5)) (nI k) G Wk To (upd Sl i (-5)) Ri (nI f) (nI b) oT oS oF (nI an) (nI as) Fo wo pa fa)) 0 0 (ad_A h 20) := by
  refine Met.ofW (cc := cX5_pack) (maxL := 4) (ret := (some .int)) (by decide) rfl ?_
  intro p e s m args below meth c s₁ B hml hv
  obtain ⟨rfl, hP, hK⟩ := hv
  have hx := B.exec
  have hb := B.bytes
  have hr := B.returns
  have hts := atoms_spec (ws := wsX5_pack) B.pre
  have hown : s.vm.findClass RX5 = some m.cls := findClass_of_methodNamed B.named
  have hlocks := B.notSynchronized
  have hiX5 : ∀ w ∈ u_ws RX5 TX5 5, w ∈ wsX5_pack := by decide +kernel
  have kf19 := hts (.fieldLink RX5 19 "SortingLine" "stations" "LSortingLine$Stations;") (by decide +kernel)
  have hS : va_S (ad_A h 20) s.heap s.heap [] := va_S.rf
  have hl := lv_entry ([.ref (h 0), .int (nI r), .int (nI i)]) (n := 4) (Nat.le_of_ble_eq_true rfl)
  rw [lg_entry_eq]
  generalize (lg_sl ([.ref (h 0), .int (nI r), .int (nI i)]) ++ List.replicate (4 - (lg_sl ([.ref (h 0), .int (nI r), .int (nI i)])).length) Slot.unset).toArray = ls at hl ⊢
  have hl : lv_has ls 4 [(0, .ref (h 0)), (1, .int (nI r)), (2, .int (nI i))] := hl
  refine lv_aload_n hx hb dX5_pack_0 rfl (lv_at hl 0 rfl) ?_
  refine lv_iload_n hx hb dX5_pack_1 rfl (lv_at hl 1 rfl) ?_
  refine lv_iconst (v := 0) hx hb dX5_pack_2 (by decide) ?_
  refine lv_aload_n hx hb dX5_pack_3 rfl (lv_at hl 0 rfl) ?_
  refine va_get (D := D) (ci := 5) (v := .ref (h 2)) (C := RX5) (T := TX5) (N := 5) hx hb hts hiX5 hown hK.1 hP 0 rfl rfl 1 (by decide) kf19 (fun _ h9 => h9) rfl dX5_pack_4 ?_
  refine lv_iload_n hx hb dX5_pack_7 rfl (lv_at hl 2 rfl) ?_
  refine pu_calli (va_runV (As := [.int (nI i)]) (rest := [.int 0, .int (nI r), .ref (h 0)]) ⟨hx, hb, hml, hown, hts⟩ (c_X2_slotOf hh hk i (by omega)) (cwV 1 hts gX5_pack_X2_slotOf rfl rfl rfl (by decide +kernel) ⟨Nat.le_of_ble_eq_true rfl, Nat.le_of_ble_eq_true rfl⟩) (wd_preV (ci := 2) (q0 := 2) hP hK rfl rfl) rfl rfl hl.1 rfl (lv_room (Nat.le_of_ble_eq_true rfl)) dX5_pack_8 ⟨Nat.zero_le _, Nat.zero_le _⟩) ?_
  refine tp_i (y := -5) (hs) ?_
  refine lv_iconst (v := 0) hx hb dX5_pack_11 (by decide) ?_
  refine mu_calli (va_runV (As := [.int (nI r), .int 0, .int (-5), .int 0]) (rest := []) ⟨hx, hb, hml, hown, hts⟩ (c_X5_layInto_nO hh hn r (by omega) 0 0 (by decide) h2) (cwV 4 hts gX5_pack_X5_layInto rfl rfl rfl (by decide +kernel) ⟨Nat.le_of_ble_eq_true rfl, Nat.le_of_ble_eq_true rfl⟩) (wd_preV (ci := 5) (q0 := 0) hP hK rfl rfl) rfl rfl hl.1 rfl (lv_room (Nat.le_of_ble_eq_true rfl)) dX5_pack_12 ⟨Nat.zero_le _, Nat.zero_le _⟩) hS (fun H locs hP hS => ?_)
  have hP : va_P D kC (sl_W cI cJ h (nI n) F Wt Sz Nu (upd Mb (8 * r + 0) (-5)) (nI k) G Wk To Sl Ri (nI f) (nI b) oT oS oF (nI an) (nI as) Fo wo pa fa) H := hP
  refine lv_istore_n (lv' := [(3, .int 0), (0, .ref (h 0)), (1, .int (nI r)), (2, .int (nI i))]) hx hb dX5_pack_15 rfl hl (by decide) rfl (fun ls hl => ?_)
  refine lv_iload_n hx hb dX5_pack_16 rfl (lv_at hl 0 rfl) ?_
  refine lv_if_ne (tgt := 30) hx hb dX5_pack_17 (by decide) (fun h9 => absurd (by decide) h9) (fun _ => ?_)
  refine lv_aload_n hx hb dX5_pack_20 rfl (lv_at hl 1 rfl) ?_
  refine va_get (D := D) (ci := 5) (v := .ref (h 2)) (C := RX5) (T := TX5) (N := 5) hx hb hts hiX5 hown hK.1 hP 0 rfl rfl 1 (by decide) kf19 (fun _ h9 => h9) rfl dX5_pack_21 ?_
  refine lv_iload_n hx hb dX5_pack_24 rfl (lv_at hl 3 rfl) ?_
  refine lv_bipush (v := (-5)) hx hb dX5_pack_25 (by decide) ?_
  refine mu_callv (va_runV (As := [.int (nI i), .int (-5)]) (rest := []) ⟨hx, hb, hml, hown, hts⟩ (c_X2_setSlot hh hk i (by omega) (-5)) (cwV 2 hts gX5_pack_X2_setSlot rfl rfl rfl (by decide +kernel) ⟨Nat.le_of_ble_eq_true rfl, Nat.le_of_ble_eq_true rfl⟩) (wd_preV (ci := 2) (q0 := 2) hP hK rfl rfl) rfl rfl hl.1 rfl (lv_room (Nat.le_of_ble_eq_true rfl)) dX5_pack_27 ⟨Nat.zero_le _, Nat.zero_le _⟩) hS (fun H locs hP hS => ?_)
  have hP : va_P D kC (sl_W cI cJ h (nI n) F Wt Sz Nu (upd Mb (8 * r + 0) (-5)) (nI k) G Wk To (upd Sl i (-5)) Ri (nI f) (nI b) oT oS oF (nI an) (nI as) Fo wo pa fa) H := hP
  refine lv_iload_n hx hb dX5_pack_30 rfl (lv_at hl 0 rfl) ?_
  exact W.iret (v := 0) hx hb hr (fun t9 ht _ => ⟨congrArg (fun z => Outcome.returned (some (Value.int z))) (rfl), by rw [ht]; exact hP, hS.F ht⟩) hS.2.2 dX5_pack_31
set_option maxHeartbeats 4000000 in
set_option maxRecDepth 100000 in
theorem c_X5_pack_pC (hh : ad_ok h 20) (hn : n ≤ 100) (hk : k ≤ 8) (r : Nat) (hr9 : r < n) (i : Nat) (hi : i < k) (p9 : Nat) (hp9 : p9 < n) (hs : Sl i = nI p9) (h1 : ko (F p9) 0 = false) : Met l yX5_pack wsX5_pack ({ frames := 5, cells := 0, slots := 0, locals := 160 }) (wd_P D cI cJ [.ref (h 0), .int (nI r), .int (nI i)] (sl_W cI cJ h (nI n) F Wt Sz Nu Mb (nI k) G Wk To Sl Ri (nI f) (nI b) oT oS oF (nI an) (nI as) Fo wo pa fa)) (pu_Q (some (.int 1))) 0 0 (fun _ => False) := by
  refine Met.ofW (cc := cX5_pack) (maxL := 4) (ret := (some .int)) (by decide) rfl ?_
  intro p e s m args below meth c s₁ B hml hv
  obtain ⟨rfl, hP, hK⟩ := hv
  have hx := B.exec
  have hb := B.bytes
  have hr := B.returns
  have hts := atoms_spec (ws := wsX5_pack) B.pre
  have hown : s.vm.findClass RX5 = some m.cls := findClass_of_methodNamed B.named
  have hlocks := B.notSynchronized
  have hiX5 : ∀ w ∈ u_ws RX5 TX5 5, w ∈ wsX5_pack := by decide +kernel
  have kf19 := hts (.fieldLink RX5 19 "SortingLine" "stations" "LSortingLine$Stations;") (by decide +kernel)
  have hl := lv_entry ([.ref (h 0), .int (nI r), .int (nI i)]) (n := 4) (Nat.le_of_ble_eq_true rfl)
  rw [lg_entry_eq]
  generalize (lg_sl ([.ref (h 0), .int (nI r), .int (nI i)]) ++ List.replicate (4 - (lg_sl ([.ref (h 0), .int (nI r), .int (nI i)])).length) Slot.unset).toArray = ls at hl ⊢
  have hl : lv_has ls 4 [(0, .ref (h 0)), (1, .int (nI r)), (2, .int (nI i))] := hl
  refine lv_aload_n hx hb dX5_pack_0 rfl (lv_at hl 0 rfl) ?_
  refine lv_iload_n hx hb dX5_pack_1 rfl (lv_at hl 1 rfl) ?_
  refine lv_iconst (v := 0) hx hb dX5_pack_2 (by decide) ?_
  refine lv_aload_n hx hb dX5_pack_3 rfl (lv_at hl 0 rfl) ?_
  refine va_get (D := D) (ci := 5) (v := .ref (h 2)) (C := RX5) (T := TX5) (N := 5) hx hb hts hiX5 hown hK.1 hP 0 rfl rfl 1 (by decide) kf19 (fun _ h9 => h9) rfl dX5_pack_4 ?_
  refine lv_iload_n hx hb dX5_pack_7 rfl (lv_at hl 2 rfl) ?_
  refine pu_calli (va_runV (As := [.int (nI i)]) (rest := [.int 0, .int (nI r), .ref (h 0)]) ⟨hx, hb, hml, hown, hts⟩ (c_X2_slotOf hh hk i (by omega)) (cwV 1 hts gX5_pack_X2_slotOf rfl rfl rfl (by decide +kernel) ⟨Nat.le_of_ble_eq_true rfl, Nat.le_of_ble_eq_true rfl⟩) (wd_preV (ci := 2) (q0 := 2) hP hK rfl rfl) rfl rfl hl.1 rfl (lv_room (Nat.le_of_ble_eq_true rfl)) dX5_pack_8 ⟨Nat.zero_le _, Nat.zero_le _⟩) ?_
  refine tp_i (y := nI p9) (hs) ?_
  refine lv_iconst (v := 0) hx hb dX5_pack_11 (by decide) ?_
  refine pu_calli (va_runV (As := [.int (nI r), .int 0, .int (nI p9), .int 0]) (rest := []) ⟨hx, hb, hml, hown, hts⟩ (c_X5_layInto_pC hh hn r (by omega) p9 hp9 0 0 h1) (cwV 4 hts gX5_pack_X5_layInto rfl rfl rfl (by decide +kernel) ⟨Nat.le_of_ble_eq_true rfl, Nat.le_of_ble_eq_true rfl⟩) (wd_preV (ci := 5) (q0 := 0) hP hK rfl rfl) rfl rfl hl.1 rfl (lv_room (Nat.le_of_ble_eq_true rfl)) dX5_pack_12 ⟨Nat.zero_le _, Nat.zero_le _⟩) ?_
  refine lv_istore_n (lv' := [(3, .int 1), (0, .ref (h 0)), (1, .int (nI r)), (2, .int (nI i))]) hx hb dX5_pack_15 rfl hl (by decide) rfl (fun ls hl => ?_)
  refine lv_iload_n hx hb dX5_pack_16 rfl (lv_at hl 0 rfl) ?_
  refine lv_if_ne (tgt := 30) hx hb dX5_pack_17 (by decide) (fun _ => ?_) (fun h9 => absurd h9 (by decide))
  refine lv_iload_n hx hb dX5_pack_30 rfl (lv_at hl 0 rfl) ?_
  exact W.iret (v := 1) hx hb hr (fun t9 ht _ => ⟨congrArg (fun z => Outcome.returned (some (Value.int z))) (rfl), ht⟩) (fun _ h9 => nomatch h9) dX5_pack_31
set_option maxHeartbeats 4000000 in
set_option maxRecDepth 100000 in
theorem c_X5_pack_pB (hh : ad_ok h 20) (hn : n ≤ 100) (hk : k ≤ 8) (r : Nat) (hr9 : r < n) (i : Nat) (hi : i < k) (p9 : Nat) (hp9 : p9 < n) (hs : Sl i = nI p9) (h1 : ko (F p9) 0 = true) (h2 : p_in 0 (Sz r) = false) : Met l yX5_pack wsX5_pack ({ frames := 5, cells := 0, slots := 0, locals := 160 }) (wd_P D cI cJ [.ref (h 0), .int (nI r), .int (nI i)] (sl_W cI cJ h (nI n) F Wt Sz Nu Mb (nI k) G Wk To Sl Ri (nI f) (nI b) oT oS oF (nI an) (nI as) Fo wo pa fa)) (pu_Q (some (.int 3))) 0 0 (fun _ => False) := by
  refine Met.ofW (cc := cX5_pack) (maxL := 4) (ret := (some .int)) (by decide) rfl ?_
  intro p e s m args below meth c s₁ B hml hv
  obtain ⟨rfl, hP, hK⟩ := hv
  have hx := B.exec
  have hb := B.bytes
  have hr := B.returns
  have hts := atoms_spec (ws := wsX5_pack) B.pre
  have hown : s.vm.findClass RX5 = some m.cls := findClass_of_methodNamed B.named
  have hlocks := B.notSynchronized
  have hiX5 : ∀ w ∈ u_ws RX5 TX5 5, w ∈ wsX5_pack := by decide +kernel
  have kf19 := hts (.fieldLink RX5 19 "SortingLine" "stations" "LSortingLine$Stations;") (by decide +kernel)
  have hl := lv_entry ([.ref (h 0), .int (nI r), .int (nI i)]) (n := 4) (Nat.le_of_ble_eq_true rfl)
  rw [lg_entry_eq]
  generalize (lg_sl ([.ref (h 0), .int (nI r), .int (nI i)]) ++ List.replicate (4 - (lg_sl ([.ref (h 0), .int (nI r), .int (nI i)])).length) Slot.unset).toArray = ls at hl ⊢
  have hl : lv_has ls 4 [(0, .ref (h 0)), (1, .int (nI r)), (2, .int (nI i))] := hl
  refine lv_aload_n hx hb dX5_pack_0 rfl (lv_at hl 0 rfl) ?_
  refine lv_iload_n hx hb dX5_pack_1 rfl (lv_at hl 1 rfl) ?_
  refine lv_iconst (v := 0) hx hb dX5_pack_2 (by decide) ?_
  refine lv_aload_n hx hb dX5_pack_3 rfl (lv_at hl 0 rfl) ?_
  refine va_get (D := D) (ci := 5) (v := .ref (h 2)) (C := RX5) (T := TX5) (N := 5) hx hb hts hiX5 hown hK.1 hP 0 rfl rfl 1 (by decide) kf19 (fun _ h9 => h9) rfl dX5_pack_4 ?_
  refine lv_iload_n hx hb dX5_pack_7 rfl (lv_at hl 2 rfl) ?_
  refine pu_calli (va_runV (As := [.int (nI i)]) (rest := [.int 0, .int (nI r), .ref (h 0)]) ⟨hx, hb, hml, hown, hts⟩ (c_X2_slotOf hh hk i (by omega)) (cwV 1 hts gX5_pack_X2_slotOf rfl rfl rfl (by decide +kernel) ⟨Nat.le_of_ble_eq_true rfl, Nat.le_of_ble_eq_true rfl⟩) (wd_preV (ci := 2) (q0 := 2) hP hK rfl rfl) rfl rfl hl.1 rfl (lv_room (Nat.le_of_ble_eq_true rfl)) dX5_pack_8 ⟨Nat.zero_le _, Nat.zero_le _⟩) ?_
  refine tp_i (y := nI p9) (hs) ?_
  refine lv_iconst (v := 0) hx hb dX5_pack_11 (by decide) ?_
  refine pu_calli (va_runV (As := [.int (nI r), .int 0, .int (nI p9), .int 0]) (rest := []) ⟨hx, hb, hml, hown, hts⟩ (c_X5_layInto_pB hh hn r (by omega) p9 hp9 0 0 h1 h2) (cwV 4 hts gX5_pack_X5_layInto rfl rfl rfl (by decide +kernel) ⟨Nat.le_of_ble_eq_true rfl, Nat.le_of_ble_eq_true rfl⟩) (wd_preV (ci := 5) (q0 := 0) hP hK rfl rfl) rfl rfl hl.1 rfl (lv_room (Nat.le_of_ble_eq_true rfl)) dX5_pack_12 ⟨Nat.zero_le _, Nat.zero_le _⟩) ?_
  refine lv_istore_n (lv' := [(3, .int 3), (0, .ref (h 0)), (1, .int (nI r)), (2, .int (nI i))]) hx hb dX5_pack_15 rfl hl (by decide) rfl (fun ls hl => ?_)
  refine lv_iload_n hx hb dX5_pack_16 rfl (lv_at hl 0 rfl) ?_
  refine lv_if_ne (tgt := 30) hx hb dX5_pack_17 (by decide) (fun _ => ?_) (fun h9 => absurd h9 (by decide))
  refine lv_iload_n hx hb dX5_pack_30 rfl (lv_at hl 0 rfl) ?_
  exact W.iret (v := 3) hx hb hr (fun t9 ht _ => ⟨congrArg (fun z => Outcome.returned (some (Value.int z))) (rfl), ht⟩) (fun _ h9 => nomatch h9) dX5_pack_31
set_option maxHeartbeats 4000000 in
set_option maxRecDepth 100000 in
theorem c_X5_pack_pS (hh : ad_ok h 20) (hn : n ≤ 100) (hk : k ≤ 8) (r : Nat) (hr9 : r < n) (i : Nat) (hi : i < k) (p9 : Nat) (hp9 : p9 < n) (hs : Sl i = nI p9) (h1 : ko (F p9) 0 = true) (h2 : p_in 0 (Sz r) = true) (h3 : ko (F p9) (mkS (F r)) = false) : Met l yX5_pack wsX5_pack ({ frames := 5, cells := 0, slots := 0, locals := 160 }) (wd_P D cI cJ [.ref (h 0), .int (nI r), .int (nI i)] (sl_W cI cJ h (nI n) F Wt Sz Nu Mb (nI k) G Wk To Sl Ri (nI f) (nI b) oT oS oF (nI an) (nI as) Fo wo pa fa)) (pu_Q (some (.int 4))) 0 0 (fun _ => False) := by
  refine Met.ofW (cc := cX5_pack) (maxL := 4) (ret := (some .int)) (by decide) rfl ?_
  intro p e s m args below meth c s₁ B hml hv
  obtain ⟨rfl, hP, hK⟩ := hv
  have hx := B.exec
  have hb := B.bytes
  have hr := B.returns
  have hts := atoms_spec (ws := wsX5_pack) B.pre
  have hown : s.vm.findClass RX5 = some m.cls := findClass_of_methodNamed B.named
  have hlocks := B.notSynchronized
  have hiX5 : ∀ w ∈ u_ws RX5 TX5 5, w ∈ wsX5_pack := by decide +kernel
  have kf19 := hts (.fieldLink RX5 19 "SortingLine" "stations" "LSortingLine$Stations;") (by decide +kernel)
  have hl := lv_entry ([.ref (h 0), .int (nI r), .int (nI i)]) (n := 4) (Nat.le_of_ble_eq_true rfl)
  rw [lg_entry_eq]
  generalize (lg_sl ([.ref (h 0), .int (nI r), .int (nI i)]) ++ List.replicate (4 - (lg_sl ([.ref (h 0), .int (nI r), .int (nI i)])).length) Slot.unset).toArray = ls at hl ⊢
  have hl : lv_has ls 4 [(0, .ref (h 0)), (1, .int (nI r)), (2, .int (nI i))] := hl
  refine lv_aload_n hx hb dX5_pack_0 rfl (lv_at hl 0 rfl) ?_
  refine lv_iload_n hx hb dX5_pack_1 rfl (lv_at hl 1 rfl) ?_
  refine lv_iconst (v := 0) hx hb dX5_pack_2 (by decide) ?_
  refine lv_aload_n hx hb dX5_pack_3 rfl (lv_at hl 0 rfl) ?_
  refine va_get (D := D) (ci := 5) (v := .ref (h 2)) (C := RX5) (T := TX5) (N := 5) hx hb hts hiX5 hown hK.1 hP 0 rfl rfl 1 (by decide) kf19 (fun _ h9 => h9) rfl dX5_pack_4 ?_
  refine lv_iload_n hx hb dX5_pack_7 rfl (lv_at hl 2 rfl) ?_
  refine pu_calli (va_runV (As := [.int (nI i)]) (rest := [.int 0, .int (nI r), .ref (h 0)]) ⟨hx, hb, hml, hown, hts⟩ (c_X2_slotOf hh hk i (by omega)) (cwV 1 hts gX5_pack_X2_slotOf rfl rfl rfl (by decide +kernel) ⟨Nat.le_of_ble_eq_true rfl, Nat.le_of_ble_eq_true rfl⟩) (wd_preV (ci := 2) (q0 := 2) hP hK rfl rfl) rfl rfl hl.1 rfl (lv_room (Nat.le_of_ble_eq_true rfl)) dX5_pack_8 ⟨Nat.zero_le _, Nat.zero_le _⟩) ?_
  refine tp_i (y := nI p9) (hs) ?_
  refine lv_iconst (v := 0) hx hb dX5_pack_11 (by decide) ?_
  refine pu_calli (va_runV (As := [.int (nI r), .int 0, .int (nI p9), .int 0]) (rest := []) ⟨hx, hb, hml, hown, hts⟩ (c_X5_layInto_pS hh hn r (by omega) p9 hp9 0 0 h1 h2 h3) (cwV 4 hts gX5_pack_X5_layInto rfl rfl rfl (by decide +kernel) ⟨Nat.le_of_ble_eq_true rfl, Nat.le_of_ble_eq_true rfl⟩) (wd_preV (ci := 5) (q0 := 0) hP hK rfl rfl) rfl rfl hl.1 rfl (lv_room (Nat.le_of_ble_eq_true rfl)) dX5_pack_12 ⟨Nat.zero_le _, Nat.zero_le _⟩) ?_
  refine lv_istore_n (lv' := [(3, .int 4), (0, .ref (h 0)), (1, .int (nI r)), (2, .int (nI i))]) hx hb dX5_pack_15 rfl hl (by decide) rfl (fun ls hl => ?_)
  refine lv_iload_n hx hb dX5_pack_16 rfl (lv_at hl 0 rfl) ?_
  refine lv_if_ne (tgt := 30) hx hb dX5_pack_17 (by decide) (fun _ => ?_) (fun h9 => absurd h9 (by decide))
  refine lv_iload_n hx hb dX5_pack_30 rfl (lv_at hl 0 rfl) ?_
  exact W.iret (v := 4) hx hb hr (fun t9 ht _ => ⟨congrArg (fun z => Outcome.returned (some (Value.int z))) (rfl), ht⟩) (fun _ h9 => nomatch h9) dX5_pack_31
set_option maxHeartbeats 4000000 in
set_option maxRecDepth 100000 in
theorem c_X5_pack_pO (hh : ad_ok h 20) (hn : n ≤ 100) (hk : k ≤ 8) (r : Nat) (hr9 : r < n) (i : Nat) (hi : i < k) (p9 : Nat) (hp9 : p9 < n) (hs : Sl i = nI p9) (h1 : ko (F p9) 0 = true) (h2 : p_in 0 (Sz r) = true) (h3 : ko (F p9) (mkS (F r)) = true) : Met l yX5_pack wsX5_pack ({ frames := 5, cells := 0, slots := 0, locals := 160 }) (wd_P D cI cJ [.ref (h 0), .int (nI r), .int (nI i)] (sl_W cI cJ h (nI n) F Wt Sz Nu Mb (nI k) G Wk To Sl Ri (nI f) (nI b) oT oS oF (nI an) (nI as) Fo wo pa fa)) (mu_Q D (ad_A h 20) (some (.int 0)) (sl_W cI cJ h (nI n) F Wt Sz Nu (upd Mb (8 * r + 0) (nI p9)) (nI k) G Wk To (upd Sl i (-5)) Ri (nI f) (nI b) oT oS oF (nI an) (nI as) Fo wo pa fa)) 0 0 (ad_A h 20) := by
  refine Met.ofW (cc := cX5_pack) (maxL := 4) (ret := (some .int)) (by decide) rfl ?_
  intro p e s m args below meth c s₁ B hml hv
  obtain ⟨rfl, hP, hK⟩ := hv
  have hx := B.exec
  have hb := B.bytes
  have hr := B.returns
  have hts := atoms_spec (ws := wsX5_pack) B.pre
  have hown : s.vm.findClass RX5 = some m.cls := findClass_of_methodNamed B.named
  have hlocks := B.notSynchronized
  have hiX5 : ∀ w ∈ u_ws RX5 TX5 5, w ∈ wsX5_pack := by decide +kernel
  have kf19 := hts (.fieldLink RX5 19 "SortingLine" "stations" "LSortingLine$Stations;") (by decide +kernel)
  have hS : va_S (ad_A h 20) s.heap s.heap [] := va_S.rf
  have hl := lv_entry ([.ref (h 0), .int (nI r), .int (nI i)]) (n := 4) (Nat.le_of_ble_eq_true rfl)
  rw [lg_entry_eq]
  generalize (lg_sl ([.ref (h 0), .int (nI r), .int (nI i)]) ++ List.replicate (4 - (lg_sl ([.ref (h 0), .int (nI r), .int (nI i)])).length) Slot.unset).toArray = ls at hl ⊢
  have hl : lv_has ls 4 [(0, .ref (h 0)), (1, .int (nI r)), (2, .int (nI i))] := hl
  refine lv_aload_n hx hb dX5_pack_0 rfl (lv_at hl 0 rfl) ?_
  refine lv_iload_n hx hb dX5_pack_1 rfl (lv_at hl 1 rfl) ?_
  refine lv_iconst (v := 0) hx hb dX5_pack_2 (by decide) ?_
  refine lv_aload_n hx hb dX5_pack_3 rfl (lv_at hl 0 rfl) ?_
  refine va_get (D := D) (ci := 5) (v := .ref (h 2)) (C := RX5) (T := TX5) (N := 5) hx hb hts hiX5 hown hK.1 hP 0 rfl rfl 1 (by decide) kf19 (fun _ h9 => h9) rfl dX5_pack_4 ?_
  refine lv_iload_n hx hb dX5_pack_7 rfl (lv_at hl 2 rfl) ?_
  refine pu_calli (va_runV (As := [.int (nI i)]) (rest := [.int 0, .int (nI r), .ref (h 0)]) ⟨hx, hb, hml, hown, hts⟩ (c_X2_slotOf hh hk i (by omega)) (cwV 1 hts gX5_pack_X2_slotOf rfl rfl rfl (by decide +kernel) ⟨Nat.le_of_ble_eq_true rfl, Nat.le_of_ble_eq_true rfl⟩) (wd_preV (ci := 2) (q0 := 2) hP hK rfl rfl) rfl rfl hl.1 rfl (lv_room (Nat.le_of_ble_eq_true rfl)) dX5_pack_8 ⟨Nat.zero_le _, Nat.zero_le _⟩) ?_
  refine tp_i (y := nI p9) (hs) ?_
  refine lv_iconst (v := 0) hx hb dX5_pack_11 (by decide) ?_
  refine mu_calli (va_runV (As := [.int (nI r), .int 0, .int (nI p9), .int 0]) (rest := []) ⟨hx, hb, hml, hown, hts⟩ (c_X5_layInto_pO hh hn r (by omega) p9 hp9 0 0 (by decide) h1 h2 h3) (cwV 4 hts gX5_pack_X5_layInto rfl rfl rfl (by decide +kernel) ⟨Nat.le_of_ble_eq_true rfl, Nat.le_of_ble_eq_true rfl⟩) (wd_preV (ci := 5) (q0 := 0) hP hK rfl rfl) rfl rfl hl.1 rfl (lv_room (Nat.le_of_ble_eq_true rfl)) dX5_pack_12 ⟨Nat.zero_le _, Nat.zero_le _⟩) hS (fun H locs hP hS => ?_)
  have hP : va_P D kC (sl_W cI cJ h (nI n) F Wt Sz Nu (upd Mb (8 * r + 0) (nI p9)) (nI k) G Wk To Sl Ri (nI f) (nI b) oT oS oF (nI an) (nI as) Fo wo pa fa) H := hP
  refine lv_istore_n (lv' := [(3, .int 0), (0, .ref (h 0)), (1, .int (nI r)), (2, .int (nI i))]) hx hb dX5_pack_15 rfl hl (by decide) rfl (fun ls hl => ?_)
  refine lv_iload_n hx hb dX5_pack_16 rfl (lv_at hl 0 rfl) ?_
  refine lv_if_ne (tgt := 30) hx hb dX5_pack_17 (by decide) (fun h9 => absurd (by decide) h9) (fun _ => ?_)
  refine lv_aload_n hx hb dX5_pack_20 rfl (lv_at hl 1 rfl) ?_
  refine va_get (D := D) (ci := 5) (v := .ref (h 2)) (C := RX5) (T := TX5) (N := 5) hx hb hts hiX5 hown hK.1 hP 0 rfl rfl 1 (by decide) kf19 (fun _ h9 => h9) rfl dX5_pack_21 ?_
  refine lv_iload_n hx hb dX5_pack_24 rfl (lv_at hl 3 rfl) ?_
  refine lv_bipush (v := (-5)) hx hb dX5_pack_25 (by decide) ?_
  refine mu_callv (va_runV (As := [.int (nI i), .int (-5)]) (rest := []) ⟨hx, hb, hml, hown, hts⟩ (c_X2_setSlot hh hk i (by omega) (-5)) (cwV 2 hts gX5_pack_X2_setSlot rfl rfl rfl (by decide +kernel) ⟨Nat.le_of_ble_eq_true rfl, Nat.le_of_ble_eq_true rfl⟩) (wd_preV (ci := 2) (q0 := 2) hP hK rfl rfl) rfl rfl hl.1 rfl (lv_room (Nat.le_of_ble_eq_true rfl)) dX5_pack_27 ⟨Nat.zero_le _, Nat.zero_le _⟩) hS (fun H locs hP hS => ?_)
  have hP : va_P D kC (sl_W cI cJ h (nI n) F Wt Sz Nu (upd Mb (8 * r + 0) (nI p9)) (nI k) G Wk To (upd Sl i (-5)) Ri (nI f) (nI b) oT oS oF (nI an) (nI as) Fo wo pa fa) H := hP
  refine lv_iload_n hx hb dX5_pack_30 rfl (lv_at hl 0 rfl) ?_
  exact W.iret (v := 0) hx hb hr (fun t9 ht _ => ⟨congrArg (fun z => Outcome.returned (some (Value.int z))) (rfl), by rw [ht]; exact hP, hS.F ht⟩) hS.2.2 dX5_pack_31
set_option maxHeartbeats 4000000 in
set_option maxRecDepth 100000 in
theorem c_X5_corner2_f0 (hh : ad_ok h 20) (hn : n ≤ 100) (hk : k ≤ 8) (r : Nat) (hr9 : r < n) (i : Nat) (hi : i < k) (x : Nat) (hx9 : x = 2 ∨ x = 3) (ef : fafS Sz Mb r = nI x) : Met l yX5_addCorner wsX5_addCorner ({ frames := 5, cells := 0, slots := 0, locals := 160 }) (wd_P D cI cJ [.ref (h 0), .int (nI r), .int (nI i), .int 2] (sl_W cI cJ h (nI n) F Wt Sz Nu Mb (nI k) G Wk To Sl Ri (nI f) (nI b) oT oS oF (nI an) (nI as) Fo wo pa fa)) (pu_Q (some (.int (nI x)))) 0 0 (fun _ => False) := by
  refine Met.ofW (cc := cX5_addCorner) (maxL := 7) (ret := (some .int)) (by decide) rfl ?_
  intro p e s m args below meth c s₁ B hml hv
  obtain ⟨rfl, hP, hK⟩ := hv
  have hx := B.exec
  have hb := B.bytes
  have hr := B.returns
  have hts := atoms_spec (ws := wsX5_addCorner) B.pre
  have hown : s.vm.findClass RX5 = some m.cls := findClass_of_methodNamed B.named
  have hlocks := B.notSynchronized
  have hl := lv_entry ([.ref (h 0), .int (nI r), .int (nI i), .int 2]) (n := 7) (Nat.le_of_ble_eq_true rfl)
  rw [lg_entry_eq]
  generalize (lg_sl ([.ref (h 0), .int (nI r), .int (nI i), .int 2]) ++ List.replicate (7 - (lg_sl ([.ref (h 0), .int (nI r), .int (nI i), .int 2])).length) Slot.unset).toArray = ls at hl ⊢
  have hl : lv_has ls 7 [(0, .ref (h 0)), (1, .int (nI r)), (2, .int (nI i)), (3, .int 2)] := hl
  refine lv_iload_n hx hb dX5_addCorner_0 rfl (lv_at hl 1 rfl) ?_
  refine lv_istore (lv' := [(4, .int (nI r)), (0, .ref (h 0)), (1, .int (nI r)), (2, .int (nI i)), (3, .int 2)]) hx hb dX5_addCorner_1 hl (by decide) rfl (fun ls hl => ?_)
  refine lv_iconst (v := 0) hx hb dX5_addCorner_3 (by decide) ?_
  refine lv_istore (lv' := [(5, .int 0), (4, .int (nI r)), (0, .ref (h 0)), (1, .int (nI r)), (2, .int (nI i)), (3, .int 2)]) hx hb dX5_addCorner_4 hl (by decide) rfl (fun ls hl => ?_)
  refine lv_iload hx hb dX5_addCorner_6 (lv_at hl 0 rfl) ?_
  refine lv_iload_n hx hb dX5_addCorner_8 rfl (lv_at hl 5 rfl) ?_
  refine lv_icmp_ge (tgt := 46) hx hb dX5_addCorner_9 (by decide) (fun h9 => absurd h9 (by decide)) (fun _ => ?_)
  refine lv_aload_n hx hb dX5_addCorner_12 rfl (lv_at hl 2 rfl) ?_
  refine lv_iload hx hb dX5_addCorner_13 (lv_at hl 1 rfl) ?_
  refine pu_calli (va_runV (As := [.int (nI r)]) (rest := []) ⟨hx, hb, hml, hown, hts⟩ (c_X5_findingAtFirst hh hn r (by omega)) (cwV 1 hts gX5_addCorner_X5_findingAtFirst rfl rfl rfl (by decide +kernel) ⟨Nat.le_of_ble_eq_true rfl, Nat.le_of_ble_eq_true rfl⟩) (wd_preV (ci := 5) (q0 := 0) hP hK rfl rfl) rfl rfl hl.1 rfl (lv_room (Nat.le_of_ble_eq_true rfl)) dX5_addCorner_15 ⟨Nat.zero_le _, Nat.zero_le _⟩) ?_
  refine tp_i (y := nI x) (ef) ?_
  refine lv_istore (lv' := [(6, .int (nI x)), (5, .int 0), (4, .int (nI r)), (0, .ref (h 0)), (1, .int (nI r)), (2, .int (nI i)), (3, .int 2)]) hx hb dX5_addCorner_18 hl (by decide) rfl (fun ls hl => ?_)
  refine lv_iload hx hb dX5_addCorner_20 (lv_at hl 0 rfl) ?_
  refine lv_if_eq (tgt := 28) hx hb dX5_addCorner_22 (by decide) (fun h9 => absurd h9 (by rcases hx9 with rfl | rfl <;> decide)) (fun _ => ?_)
  refine lv_iload hx hb dX5_addCorner_25 (lv_at hl 0 rfl) ?_
  exact W.iret (v := nI x) hx hb hr (fun t9 ht _ => ⟨congrArg (fun z => Outcome.returned (some (Value.int z))) (rfl), ht⟩) (fun _ h9 => nomatch h9) dX5_addCorner_27
set_option maxHeartbeats 4000000 in
set_option maxRecDepth 100000 in
theorem c_X5_corner2_f1 (hh : ad_ok h 20) (hn : n ≤ 100) (hk : k ≤ 8) (r : Nat) (hr9 : r < n) (i : Nat) (hi : i < k) (p1 : Nat) (hp1 : p1 < n) (e0 : fafS Sz Mb r = 0) (m0 : Mb (8 * r + 0) = nI p1) (x : Nat) (hx9 : x = 2 ∨ x = 3) (ef : fafS Sz Mb p1 = nI x) : Met l yX5_addCorner wsX5_addCorner ({ frames := 5, cells := 0, slots := 0, locals := 160 }) (wd_P D cI cJ [.ref (h 0), .int (nI r), .int (nI i), .int 2] (sl_W cI cJ h (nI n) F Wt Sz Nu Mb (nI k) G Wk To Sl Ri (nI f) (nI b) oT oS oF (nI an) (nI as) Fo wo pa fa)) (pu_Q (some (.int (nI x)))) 0 0 (fun _ => False) := by
  refine Met.ofW (cc := cX5_addCorner) (maxL := 7) (ret := (some .int)) (by decide) rfl ?_
  intro p e s m args below meth c s₁ B hml hv
  obtain ⟨rfl, hP, hK⟩ := hv
  have hx := B.exec
  have hb := B.bytes
  have hr := B.returns
  have hts := atoms_spec (ws := wsX5_addCorner) B.pre
  have hown : s.vm.findClass RX5 = some m.cls := findClass_of_methodNamed B.named
  have hlocks := B.notSynchronized
  have hiX5 : ∀ w ∈ u_ws RX5 TX5 5, w ∈ wsX5_addCorner := by decide +kernel
  have kf10 := hts (.fieldLink RX5 10 "SortingLine" "things" "LSortingLine$Things;") (by decide +kernel)
  have hl := lv_entry ([.ref (h 0), .int (nI r), .int (nI i), .int 2]) (n := 7) (Nat.le_of_ble_eq_true rfl)
  rw [lg_entry_eq]
  generalize (lg_sl ([.ref (h 0), .int (nI r), .int (nI i), .int 2]) ++ List.replicate (7 - (lg_sl ([.ref (h 0), .int (nI r), .int (nI i), .int 2])).length) Slot.unset).toArray = ls at hl ⊢
  have hl : lv_has ls 7 [(0, .ref (h 0)), (1, .int (nI r)), (2, .int (nI i)), (3, .int 2)] := hl
  refine lv_iload_n hx hb dX5_addCorner_0 rfl (lv_at hl 1 rfl) ?_
  refine lv_istore (lv' := [(4, .int (nI r)), (0, .ref (h 0)), (1, .int (nI r)), (2, .int (nI i)), (3, .int 2)]) hx hb dX5_addCorner_1 hl (by decide) rfl (fun ls hl => ?_)
  refine lv_iconst (v := 0) hx hb dX5_addCorner_3 (by decide) ?_
  refine lv_istore (lv' := [(5, .int 0), (4, .int (nI r)), (0, .ref (h 0)), (1, .int (nI r)), (2, .int (nI i)), (3, .int 2)]) hx hb dX5_addCorner_4 hl (by decide) rfl (fun ls hl => ?_)
  refine lv_iload hx hb dX5_addCorner_6 (lv_at hl 0 rfl) ?_
  refine lv_iload_n hx hb dX5_addCorner_8 rfl (lv_at hl 5 rfl) ?_
  refine lv_icmp_ge (tgt := 46) hx hb dX5_addCorner_9 (by decide) (fun h9 => absurd h9 (by decide)) (fun _ => ?_)
  refine lv_aload_n hx hb dX5_addCorner_12 rfl (lv_at hl 2 rfl) ?_
  refine lv_iload hx hb dX5_addCorner_13 (lv_at hl 1 rfl) ?_
  refine pu_calli (va_runV (As := [.int (nI r)]) (rest := []) ⟨hx, hb, hml, hown, hts⟩ (c_X5_findingAtFirst hh hn r (by omega)) (cwV 1 hts gX5_addCorner_X5_findingAtFirst rfl rfl rfl (by decide +kernel) ⟨Nat.le_of_ble_eq_true rfl, Nat.le_of_ble_eq_true rfl⟩) (wd_preV (ci := 5) (q0 := 0) hP hK rfl rfl) rfl rfl hl.1 rfl (lv_room (Nat.le_of_ble_eq_true rfl)) dX5_addCorner_15 ⟨Nat.zero_le _, Nat.zero_le _⟩) ?_
  refine tp_i (y := 0) (e0) ?_
  refine lv_istore (lv' := [(6, .int 0), (5, .int 0), (4, .int (nI r)), (0, .ref (h 0)), (1, .int (nI r)), (2, .int (nI i)), (3, .int 2)]) hx hb dX5_addCorner_18 hl (by decide) rfl (fun ls hl => ?_)
  refine lv_iload hx hb dX5_addCorner_20 (lv_at hl 0 rfl) ?_
  refine lv_if_eq (tgt := 28) hx hb dX5_addCorner_22 (by decide) (fun _ => ?_) (fun h9 => absurd (by decide) h9)
  refine lv_aload_n hx hb dX5_addCorner_28 rfl (lv_at hl 3 rfl) ?_
  refine va_get (D := D) (ci := 5) (v := .ref (h 1)) (C := RX5) (T := TX5) (N := 5) hx hb hts hiX5 hown hK.1 hP 0 rfl rfl 0 (by decide) kf10 (fun _ h9 => h9) rfl dX5_addCorner_29 ?_
  refine lv_iload hx hb dX5_addCorner_32 (lv_at hl 2 rfl) ?_
  refine lv_iconst (v := 0) hx hb dX5_addCorner_34 (by decide) ?_
  refine pu_calli (va_runV (As := [.int (nI r), .int 0]) (rest := []) ⟨hx, hb, hml, hown, hts⟩ (c_X4_memberAt hh hn r (by omega) 0 (by omega) (faf_p (Sz := Sz) (Mb := Mb) (x := 0) e0 (Or.inl rfl))) (cwV 2 hts gX5_addCorner_X4_memberAt rfl rfl rfl (by decide +kernel) ⟨Nat.le_of_ble_eq_true rfl, Nat.le_of_ble_eq_true rfl⟩) (wd_preV (ci := 4) (q0 := 1) hP hK rfl rfl) rfl rfl hl.1 rfl (lv_room (Nat.le_of_ble_eq_true rfl)) dX5_addCorner_35 ⟨Nat.zero_le _, Nat.zero_le _⟩) ?_
  refine tp_i (y := nI p1) (m0) ?_
  refine lv_istore (lv' := [(4, .int (nI p1)), (6, .int 0), (5, .int 0), (0, .ref (h 0)), (1, .int (nI r)), (2, .int (nI i)), (3, .int 2)]) hx hb dX5_addCorner_38 hl (by decide) rfl (fun ls hl => ?_)
  refine lv_iinc (v := 1) (lv' := [(5, .int 1), (4, .int (nI p1)), (6, .int 0), (0, .ref (h 0)), (1, .int (nI r)), (2, .int (nI i)), (3, .int 2)]) hx hb dX5_addCorner_40 hl (k := 2) rfl (by decide) (by decide) rfl (fun ls hl => ?_)
  refine lv_goto (tgt := 6) hx hb dX5_addCorner_43 (by decide) ?_
  refine lv_iload hx hb dX5_addCorner_6 (lv_at hl 0 rfl) ?_
  refine lv_iload_n hx hb dX5_addCorner_8 rfl (lv_at hl 6 rfl) ?_
  refine lv_icmp_ge (tgt := 46) hx hb dX5_addCorner_9 (by decide) (fun h9 => absurd h9 (by decide)) (fun _ => ?_)
  refine lv_aload_n hx hb dX5_addCorner_12 rfl (lv_at hl 3 rfl) ?_
  refine lv_iload hx hb dX5_addCorner_13 (lv_at hl 1 rfl) ?_
  refine pu_calli (va_runV (As := [.int (nI p1)]) (rest := []) ⟨hx, hb, hml, hown, hts⟩ (c_X5_findingAtFirst hh hn p1 (by omega)) (cwV 1 hts gX5_addCorner_X5_findingAtFirst rfl rfl rfl (by decide +kernel) ⟨Nat.le_of_ble_eq_true rfl, Nat.le_of_ble_eq_true rfl⟩) (wd_preV (ci := 5) (q0 := 0) hP hK rfl rfl) rfl rfl hl.1 rfl (lv_room (Nat.le_of_ble_eq_true rfl)) dX5_addCorner_15 ⟨Nat.zero_le _, Nat.zero_le _⟩) ?_
  refine tp_i (y := nI x) (ef) ?_
  refine lv_istore (lv' := [(6, .int (nI x)), (5, .int 1), (4, .int (nI p1)), (0, .ref (h 0)), (1, .int (nI r)), (2, .int (nI i)), (3, .int 2)]) hx hb dX5_addCorner_18 hl (by decide) rfl (fun ls hl => ?_)
  refine lv_iload hx hb dX5_addCorner_20 (lv_at hl 0 rfl) ?_
  refine lv_if_eq (tgt := 28) hx hb dX5_addCorner_22 (by decide) (fun h9 => absurd h9 (by rcases hx9 with rfl | rfl <;> decide)) (fun _ => ?_)
  refine lv_iload hx hb dX5_addCorner_25 (lv_at hl 0 rfl) ?_
  exact W.iret (v := nI x) hx hb hr (fun t9 ht _ => ⟨congrArg (fun z => Outcome.returned (some (Value.int z))) (rfl), ht⟩) (fun _ h9 => nomatch h9) dX5_addCorner_27
set_option maxHeartbeats 4000000 in
set_option maxRecDepth 100000 in
theorem c_X5_corner2_o (hh : ad_ok h 20) (hn : n ≤ 100) (hk : k ≤ 8) (r : Nat) (hr9 : r < n) (i : Nat) (hi : i < k) (p1 : Nat) (hp1 : p1 < n) (p2 : Nat) (hp2 : p2 < n) (e0 : fafS Sz Mb r = 0) (m0 : Mb (8 * r + 0) = nI p1) (e1 : fafS Sz Mb p1 = 0) (m1 : Mb (8 * p1 + 0) = nI p2) : Met l yX5_addCorner wsX5_addCorner ({ frames := 5, cells := 0, slots := 0, locals := 160 }) (wd_P D cI cJ [.ref (h 0), .int (nI r), .int (nI i), .int 2] (sl_W cI cJ h (nI n) F Wt Sz Nu Mb (nI k) G Wk To Sl Ri (nI f) (nI b) oT oS oF (nI an) (nI as) Fo wo pa fa)) (mu_Q D (ad_A h 20) (some (.int 0)) (sl_W cI cJ h (nI n) F Wt Sz Nu Mb (nI k) G Wk (vp_updL To i (To i + Int32.toInt64 (Wt p2))) Sl Ri (nI f) (nI b) oT oS oF (nI an) (nI as) Fo wo pa fa)) 0 0 (ad_A h 20) := by
  refine Met.ofW (cc := cX5_addCorner) (maxL := 7) (ret := (some .int)) (by decide) rfl ?_
  intro p e s m args below meth c s₁ B hml hv
  obtain ⟨rfl, hP, hK⟩ := hv
  have hx := B.exec
  have hb := B.bytes
  have hr := B.returns
  have hts := atoms_spec (ws := wsX5_addCorner) B.pre
  have hown : s.vm.findClass RX5 = some m.cls := findClass_of_methodNamed B.named
  have hlocks := B.notSynchronized
  have hiX5 : ∀ w ∈ u_ws RX5 TX5 5, w ∈ wsX5_addCorner := by decide +kernel
  have kf10 := hts (.fieldLink RX5 10 "SortingLine" "things" "LSortingLine$Things;") (by decide +kernel)
  have hS : va_S (ad_A h 20) s.heap s.heap [] := va_S.rf
  have hl := lv_entry ([.ref (h 0), .int (nI r), .int (nI i), .int 2]) (n := 7) (Nat.le_of_ble_eq_true rfl)
  rw [lg_entry_eq]
  generalize (lg_sl ([.ref (h 0), .int (nI r), .int (nI i), .int 2]) ++ List.replicate (7 - (lg_sl ([.ref (h 0), .int (nI r), .int (nI i), .int 2])).length) Slot.unset).toArray = ls at hl ⊢
  have hl : lv_has ls 7 [(0, .ref (h 0)), (1, .int (nI r)), (2, .int (nI i)), (3, .int 2)] := hl
  refine lv_iload_n hx hb dX5_addCorner_0 rfl (lv_at hl 1 rfl) ?_
  refine lv_istore (lv' := [(4, .int (nI r)), (0, .ref (h 0)), (1, .int (nI r)), (2, .int (nI i)), (3, .int 2)]) hx hb dX5_addCorner_1 hl (by decide) rfl (fun ls hl => ?_)
  refine lv_iconst (v := 0) hx hb dX5_addCorner_3 (by decide) ?_
  refine lv_istore (lv' := [(5, .int 0), (4, .int (nI r)), (0, .ref (h 0)), (1, .int (nI r)), (2, .int (nI i)), (3, .int 2)]) hx hb dX5_addCorner_4 hl (by decide) rfl (fun ls hl => ?_)
  refine lv_iload hx hb dX5_addCorner_6 (lv_at hl 0 rfl) ?_
  refine lv_iload_n hx hb dX5_addCorner_8 rfl (lv_at hl 5 rfl) ?_
  refine lv_icmp_ge (tgt := 46) hx hb dX5_addCorner_9 (by decide) (fun h9 => absurd h9 (by decide)) (fun _ => ?_)
  refine lv_aload_n hx hb dX5_addCorner_12 rfl (lv_at hl 2 rfl) ?_
  refine lv_iload hx hb dX5_addCorner_13 (lv_at hl 1 rfl) ?_
  refine pu_calli (va_runV (As := [.int (nI r)]) (rest := []) ⟨hx, hb, hml, hown, hts⟩ (c_X5_findingAtFirst hh hn r (by omega)) (cwV 1 hts gX5_addCorner_X5_findingAtFirst rfl rfl rfl (by decide +kernel) ⟨Nat.le_of_ble_eq_true rfl, Nat.le_of_ble_eq_true rfl⟩) (wd_preV (ci := 5) (q0 := 0) hP hK rfl rfl) rfl rfl hl.1 rfl (lv_room (Nat.le_of_ble_eq_true rfl)) dX5_addCorner_15 ⟨Nat.zero_le _, Nat.zero_le _⟩) ?_
  refine tp_i (y := 0) (e0) ?_
  refine lv_istore (lv' := [(6, .int 0), (5, .int 0), (4, .int (nI r)), (0, .ref (h 0)), (1, .int (nI r)), (2, .int (nI i)), (3, .int 2)]) hx hb dX5_addCorner_18 hl (by decide) rfl (fun ls hl => ?_)
  refine lv_iload hx hb dX5_addCorner_20 (lv_at hl 0 rfl) ?_
  refine lv_if_eq (tgt := 28) hx hb dX5_addCorner_22 (by decide) (fun _ => ?_) (fun h9 => absurd (by decide) h9)
  refine lv_aload_n hx hb dX5_addCorner_28 rfl (lv_at hl 3 rfl) ?_
  refine va_get (D := D) (ci := 5) (v := .ref (h 1)) (C := RX5) (T := TX5) (N := 5) hx hb hts hiX5 hown hK.1 hP 0 rfl rfl 0 (by decide) kf10 (fun _ h9 => h9) rfl dX5_addCorner_29 ?_
  refine lv_iload hx hb dX5_addCorner_32 (lv_at hl 2 rfl) ?_
  refine lv_iconst (v := 0) hx hb dX5_addCorner_34 (by decide) ?_
  refine pu_calli (va_runV (As := [.int (nI r), .int 0]) (rest := []) ⟨hx, hb, hml, hown, hts⟩ (c_X4_memberAt hh hn r (by omega) 0 (by omega) (faf_p (Sz := Sz) (Mb := Mb) (x := 0) e0 (Or.inl rfl))) (cwV 2 hts gX5_addCorner_X4_memberAt rfl rfl rfl (by decide +kernel) ⟨Nat.le_of_ble_eq_true rfl, Nat.le_of_ble_eq_true rfl⟩) (wd_preV (ci := 4) (q0 := 1) hP hK rfl rfl) rfl rfl hl.1 rfl (lv_room (Nat.le_of_ble_eq_true rfl)) dX5_addCorner_35 ⟨Nat.zero_le _, Nat.zero_le _⟩) ?_
  refine tp_i (y := nI p1) (m0) ?_
  refine lv_istore (lv' := [(4, .int (nI p1)), (6, .int 0), (5, .int 0), (0, .ref (h 0)), (1, .int (nI r)), (2, .int (nI i)), (3, .int 2)]) hx hb dX5_addCorner_38 hl (by decide) rfl (fun ls hl => ?_)
  refine lv_iinc (v := 1) (lv' := [(5, .int 1), (4, .int (nI p1)), (6, .int 0), (0, .ref (h 0)), (1, .int (nI r)), (2, .int (nI i)), (3, .int 2)]) hx hb dX5_addCorner_40 hl (k := 2) rfl (by decide) (by decide) rfl (fun ls hl => ?_)
  refine lv_goto (tgt := 6) hx hb dX5_addCorner_43 (by decide) ?_
  refine lv_iload hx hb dX5_addCorner_6 (lv_at hl 0 rfl) ?_
  refine lv_iload_n hx hb dX5_addCorner_8 rfl (lv_at hl 6 rfl) ?_
  refine lv_icmp_ge (tgt := 46) hx hb dX5_addCorner_9 (by decide) (fun h9 => absurd h9 (by decide)) (fun _ => ?_)
  refine lv_aload_n hx hb dX5_addCorner_12 rfl (lv_at hl 3 rfl) ?_
  refine lv_iload hx hb dX5_addCorner_13 (lv_at hl 1 rfl) ?_
  refine pu_calli (va_runV (As := [.int (nI p1)]) (rest := []) ⟨hx, hb, hml, hown, hts⟩ (c_X5_findingAtFirst hh hn p1 (by omega)) (cwV 1 hts gX5_addCorner_X5_findingAtFirst rfl rfl rfl (by decide +kernel) ⟨Nat.le_of_ble_eq_true rfl, Nat.le_of_ble_eq_true rfl⟩) (wd_preV (ci := 5) (q0 := 0) hP hK rfl rfl) rfl rfl hl.1 rfl (lv_room (Nat.le_of_ble_eq_true rfl)) dX5_addCorner_15 ⟨Nat.zero_le _, Nat.zero_le _⟩) ?_
  refine tp_i (y := 0) (e1) ?_
  refine lv_istore (lv' := [(6, .int 0), (5, .int 1), (4, .int (nI p1)), (0, .ref (h 0)), (1, .int (nI r)), (2, .int (nI i)), (3, .int 2)]) hx hb dX5_addCorner_18 hl (by decide) rfl (fun ls hl => ?_)
  refine lv_iload hx hb dX5_addCorner_20 (lv_at hl 0 rfl) ?_
  refine lv_if_eq (tgt := 28) hx hb dX5_addCorner_22 (by decide) (fun _ => ?_) (fun h9 => absurd (by decide) h9)
  refine lv_aload_n hx hb dX5_addCorner_28 rfl (lv_at hl 3 rfl) ?_
  refine va_get (D := D) (ci := 5) (v := .ref (h 1)) (C := RX5) (T := TX5) (N := 5) hx hb hts hiX5 hown hK.1 hP 0 rfl rfl 0 (by decide) kf10 (fun _ h9 => h9) rfl dX5_addCorner_29 ?_
  refine lv_iload hx hb dX5_addCorner_32 (lv_at hl 2 rfl) ?_
  refine lv_iconst (v := 0) hx hb dX5_addCorner_34 (by decide) ?_
  refine pu_calli (va_runV (As := [.int (nI p1), .int 0]) (rest := []) ⟨hx, hb, hml, hown, hts⟩ (c_X4_memberAt hh hn p1 (by omega) 0 (by omega) (faf_p (Sz := Sz) (Mb := Mb) (x := 0) e1 (Or.inl rfl))) (cwV 2 hts gX5_addCorner_X4_memberAt rfl rfl rfl (by decide +kernel) ⟨Nat.le_of_ble_eq_true rfl, Nat.le_of_ble_eq_true rfl⟩) (wd_preV (ci := 4) (q0 := 1) hP hK rfl rfl) rfl rfl hl.1 rfl (lv_room (Nat.le_of_ble_eq_true rfl)) dX5_addCorner_35 ⟨Nat.zero_le _, Nat.zero_le _⟩) ?_
  refine tp_i (y := nI p2) (m1) ?_
  refine lv_istore (lv' := [(4, .int (nI p2)), (6, .int 0), (5, .int 1), (0, .ref (h 0)), (1, .int (nI r)), (2, .int (nI i)), (3, .int 2)]) hx hb dX5_addCorner_38 hl (by decide) rfl (fun ls hl => ?_)
  refine lv_iinc (v := 2) (lv' := [(5, .int 2), (4, .int (nI p2)), (6, .int 0), (0, .ref (h 0)), (1, .int (nI r)), (2, .int (nI i)), (3, .int 2)]) hx hb dX5_addCorner_40 hl (k := 2) rfl (by decide) (by decide) rfl (fun ls hl => ?_)
  refine lv_goto (tgt := 6) hx hb dX5_addCorner_43 (by decide) ?_
  refine lv_iload hx hb dX5_addCorner_6 (lv_at hl 0 rfl) ?_
  refine lv_iload_n hx hb dX5_addCorner_8 rfl (lv_at hl 6 rfl) ?_
  refine lv_icmp_ge (tgt := 46) hx hb dX5_addCorner_9 (by decide) (fun _ => ?_) (fun h9 => absurd (by decide) h9)
  refine lv_aload_n hx hb dX5_addCorner_46 rfl (lv_at hl 3 rfl) ?_
  refine lv_iload_n hx hb dX5_addCorner_47 rfl (lv_at hl 5 rfl) ?_
  refine lv_aload_n hx hb dX5_addCorner_48 rfl (lv_at hl 3 rfl) ?_
  refine va_get (D := D) (ci := 5) (v := .ref (h 1)) (C := RX5) (T := TX5) (N := 5) hx hb hts hiX5 hown hK.1 hP 0 rfl rfl 0 (by decide) kf10 (fun _ h9 => h9) rfl dX5_addCorner_49 ?_
  refine lv_iload hx hb dX5_addCorner_52 (lv_at hl 1 rfl) ?_
  refine pu_calli (va_runV (As := [.int (nI p2)]) (rest := [.int (nI i), .ref (h 0)]) ⟨hx, hb, hml, hown, hts⟩ (c_X4_weightOf hh hn p2 (by omega)) (cwV 1 hts gX5_addCorner_X4_weightOf rfl rfl rfl (by decide +kernel) ⟨Nat.le_of_ble_eq_true rfl, Nat.le_of_ble_eq_true rfl⟩) (wd_preV (ci := 4) (q0 := 1) hP hK rfl rfl) rfl rfl hl.1 rfl (lv_room (Nat.le_of_ble_eq_true rfl)) dX5_addCorner_54 ⟨Nat.zero_le _, Nat.zero_le _⟩) ?_
  refine lv_i2l (v := Int32.toInt64 (Wt p2)) hx hb dX5_addCorner_57 (rfl) ?_
  refine mu_calli (va_runV (As := [.int (nI i), .long (Int32.toInt64 (Wt p2))]) (rest := []) ⟨hx, hb, hml, hown, hts⟩ (c_X5_grow hh hk i (by omega) (Int32.toInt64 (Wt p2))) (cwV 2 hts gX5_addCorner_X5_grow rfl rfl rfl (by decide +kernel) ⟨Nat.le_of_ble_eq_true rfl, Nat.le_of_ble_eq_true rfl⟩) (wd_preV (ci := 5) (q0 := 0) hP hK rfl rfl) rfl rfl hl.1 rfl (lv_room (Nat.le_of_ble_eq_true rfl)) dX5_addCorner_58 ⟨Nat.zero_le _, Nat.zero_le _⟩) hS (fun H locs hP hS => ?_)
  have hP : va_P D kC (sl_W cI cJ h (nI n) F Wt Sz Nu Mb (nI k) G Wk (vp_updL To i (To i + (Int32.toInt64 (Wt p2)))) Sl Ri (nI f) (nI b) oT oS oF (nI an) (nI as) Fo wo pa fa) H := hP
  exact W.iret (v := 0) hx hb hr (fun t9 ht _ => ⟨congrArg (fun z => Outcome.returned (some (Value.int z))) (rfl), by rw [ht]; exact hP, hS.F ht⟩) hS.2.2 dX5_addCorner_61
set_option maxHeartbeats 4000000 in
set_option maxRecDepth 100000 in
theorem c_X5_corner3_f0 (hh : ad_ok h 20) (hn : n ≤ 100) (hk : k ≤ 8) (r : Nat) (hr9 : r < n) (i : Nat) (hi : i < k) (x : Nat) (hx9 : x = 2 ∨ x = 3) (ef : fafS Sz Mb r = nI x) : Met l yX5_addCorner wsX5_addCorner ({ frames := 5, cells := 0, slots := 0, locals := 160 }) (wd_P D cI cJ [.ref (h 0), .int (nI r), .int (nI i), .int 3] (sl_W cI cJ h (nI n) F Wt Sz Nu Mb (nI k) G Wk To Sl Ri (nI f) (nI b) oT oS oF (nI an) (nI as) Fo wo pa fa)) (pu_Q (some (.int (nI x)))) 0 0 (fun _ => False) := by
  refine Met.ofW (cc := cX5_addCorner) (maxL := 7) (ret := (some .int)) (by decide) rfl ?_
  intro p e s m args below meth c s₁ B hml hv
  obtain ⟨rfl, hP, hK⟩ := hv
  have hx := B.exec
  have hb := B.bytes
  have hr := B.returns
  have hts := atoms_spec (ws := wsX5_addCorner) B.pre
  have hown : s.vm.findClass RX5 = some m.cls := findClass_of_methodNamed B.named
  have hlocks := B.notSynchronized
  have hl := lv_entry ([.ref (h 0), .int (nI r), .int (nI i), .int 3]) (n := 7) (Nat.le_of_ble_eq_true rfl)
  rw [lg_entry_eq]
  generalize (lg_sl ([.ref (h 0), .int (nI r), .int (nI i), .int 3]) ++ List.replicate (7 - (lg_sl ([.ref (h 0), .int (nI r), .int (nI i), .int 3])).length) Slot.unset).toArray = ls at hl ⊢
  have hl : lv_has ls 7 [(0, .ref (h 0)), (1, .int (nI r)), (2, .int (nI i)), (3, .int 3)] := hl
  refine lv_iload_n hx hb dX5_addCorner_0 rfl (lv_at hl 1 rfl) ?_
  refine lv_istore (lv' := [(4, .int (nI r)), (0, .ref (h 0)), (1, .int (nI r)), (2, .int (nI i)), (3, .int 3)]) hx hb dX5_addCorner_1 hl (by decide) rfl (fun ls hl => ?_)
  refine lv_iconst (v := 0) hx hb dX5_addCorner_3 (by decide) ?_
  refine lv_istore (lv' := [(5, .int 0), (4, .int (nI r)), (0, .ref (h 0)), (1, .int (nI r)), (2, .int (nI i)), (3, .int 3)]) hx hb dX5_addCorner_4 hl (by decide) rfl (fun ls hl => ?_)
  refine lv_iload hx hb dX5_addCorner_6 (lv_at hl 0 rfl) ?_
  refine lv_iload_n hx hb dX5_addCorner_8 rfl (lv_at hl 5 rfl) ?_
  refine lv_icmp_ge (tgt := 46) hx hb dX5_addCorner_9 (by decide) (fun h9 => absurd h9 (by decide)) (fun _ => ?_)
  refine lv_aload_n hx hb dX5_addCorner_12 rfl (lv_at hl 2 rfl) ?_
  refine lv_iload hx hb dX5_addCorner_13 (lv_at hl 1 rfl) ?_
  refine pu_calli (va_runV (As := [.int (nI r)]) (rest := []) ⟨hx, hb, hml, hown, hts⟩ (c_X5_findingAtFirst hh hn r (by omega)) (cwV 1 hts gX5_addCorner_X5_findingAtFirst rfl rfl rfl (by decide +kernel) ⟨Nat.le_of_ble_eq_true rfl, Nat.le_of_ble_eq_true rfl⟩) (wd_preV (ci := 5) (q0 := 0) hP hK rfl rfl) rfl rfl hl.1 rfl (lv_room (Nat.le_of_ble_eq_true rfl)) dX5_addCorner_15 ⟨Nat.zero_le _, Nat.zero_le _⟩) ?_
  refine tp_i (y := nI x) (ef) ?_
  refine lv_istore (lv' := [(6, .int (nI x)), (5, .int 0), (4, .int (nI r)), (0, .ref (h 0)), (1, .int (nI r)), (2, .int (nI i)), (3, .int 3)]) hx hb dX5_addCorner_18 hl (by decide) rfl (fun ls hl => ?_)
  refine lv_iload hx hb dX5_addCorner_20 (lv_at hl 0 rfl) ?_
  refine lv_if_eq (tgt := 28) hx hb dX5_addCorner_22 (by decide) (fun h9 => absurd h9 (by rcases hx9 with rfl | rfl <;> decide)) (fun _ => ?_)
  refine lv_iload hx hb dX5_addCorner_25 (lv_at hl 0 rfl) ?_
  exact W.iret (v := nI x) hx hb hr (fun t9 ht _ => ⟨congrArg (fun z => Outcome.returned (some (Value.int z))) (rfl), ht⟩) (fun _ h9 => nomatch h9) dX5_addCorner_27
set_option maxHeartbeats 4000000 in
set_option maxRecDepth 100000 in
theorem c_X5_corner3_f1 (hh : ad_ok h 20) (hn : n ≤ 100) (hk : k ≤ 8) (r : Nat) (hr9 : r < n) (i : Nat) (hi : i < k) (p1 : Nat) (hp1 : p1 < n) (e0 : fafS Sz Mb r = 0) (m0 : Mb (8 * r + 0) = nI p1) (x : Nat) (hx9 : x = 2 ∨ x = 3) (ef : fafS Sz Mb p1 = nI x) : Met l yX5_addCorner wsX5_addCorner ({ frames := 5, cells := 0, slots := 0, locals := 160 }) (wd_P D cI cJ [.ref (h 0), .int (nI r), .int (nI i), .int 3] (sl_W cI cJ h (nI n) F Wt Sz Nu Mb (nI k) G Wk To Sl Ri (nI f) (nI b) oT oS oF (nI an) (nI as) Fo wo pa fa)) (pu_Q (some (.int (nI x)))) 0 0 (fun _ => False) := by
  refine Met.ofW (cc := cX5_addCorner) (maxL := 7) (ret := (some .int)) (by decide) rfl ?_
  intro p e s m args below meth c s₁ B hml hv
  obtain ⟨rfl, hP, hK⟩ := hv
  have hx := B.exec
  have hb := B.bytes
  have hr := B.returns
  have hts := atoms_spec (ws := wsX5_addCorner) B.pre
  have hown : s.vm.findClass RX5 = some m.cls := findClass_of_methodNamed B.named
  have hlocks := B.notSynchronized
  have hiX5 : ∀ w ∈ u_ws RX5 TX5 5, w ∈ wsX5_addCorner := by decide +kernel
  have kf10 := hts (.fieldLink RX5 10 "SortingLine" "things" "LSortingLine$Things;") (by decide +kernel)
  have hl := lv_entry ([.ref (h 0), .int (nI r), .int (nI i), .int 3]) (n := 7) (Nat.le_of_ble_eq_true rfl)
  rw [lg_entry_eq]
  generalize (lg_sl ([.ref (h 0), .int (nI r), .int (nI i), .int 3]) ++ List.replicate (7 - (lg_sl ([.ref (h 0), .int (nI r), .int (nI i), .int 3])).length) Slot.unset).toArray = ls at hl ⊢
  have hl : lv_has ls 7 [(0, .ref (h 0)), (1, .int (nI r)), (2, .int (nI i)), (3, .int 3)] := hl
  refine lv_iload_n hx hb dX5_addCorner_0 rfl (lv_at hl 1 rfl) ?_
  refine lv_istore (lv' := [(4, .int (nI r)), (0, .ref (h 0)), (1, .int (nI r)), (2, .int (nI i)), (3, .int 3)]) hx hb dX5_addCorner_1 hl (by decide) rfl (fun ls hl => ?_)
  refine lv_iconst (v := 0) hx hb dX5_addCorner_3 (by decide) ?_
  refine lv_istore (lv' := [(5, .int 0), (4, .int (nI r)), (0, .ref (h 0)), (1, .int (nI r)), (2, .int (nI i)), (3, .int 3)]) hx hb dX5_addCorner_4 hl (by decide) rfl (fun ls hl => ?_)
  refine lv_iload hx hb dX5_addCorner_6 (lv_at hl 0 rfl) ?_
  refine lv_iload_n hx hb dX5_addCorner_8 rfl (lv_at hl 5 rfl) ?_
  refine lv_icmp_ge (tgt := 46) hx hb dX5_addCorner_9 (by decide) (fun h9 => absurd h9 (by decide)) (fun _ => ?_)
  refine lv_aload_n hx hb dX5_addCorner_12 rfl (lv_at hl 2 rfl) ?_
  refine lv_iload hx hb dX5_addCorner_13 (lv_at hl 1 rfl) ?_
  refine pu_calli (va_runV (As := [.int (nI r)]) (rest := []) ⟨hx, hb, hml, hown, hts⟩ (c_X5_findingAtFirst hh hn r (by omega)) (cwV 1 hts gX5_addCorner_X5_findingAtFirst rfl rfl rfl (by decide +kernel) ⟨Nat.le_of_ble_eq_true rfl, Nat.le_of_ble_eq_true rfl⟩) (wd_preV (ci := 5) (q0 := 0) hP hK rfl rfl) rfl rfl hl.1 rfl (lv_room (Nat.le_of_ble_eq_true rfl)) dX5_addCorner_15 ⟨Nat.zero_le _, Nat.zero_le _⟩) ?_
  refine tp_i (y := 0) (e0) ?_
  refine lv_istore (lv' := [(6, .int 0), (5, .int 0), (4, .int (nI r)), (0, .ref (h 0)), (1, .int (nI r)), (2, .int (nI i)), (3, .int 3)]) hx hb dX5_addCorner_18 hl (by decide) rfl (fun ls hl => ?_)
  refine lv_iload hx hb dX5_addCorner_20 (lv_at hl 0 rfl) ?_
  refine lv_if_eq (tgt := 28) hx hb dX5_addCorner_22 (by decide) (fun _ => ?_) (fun h9 => absurd (by decide) h9)
  refine lv_aload_n hx hb dX5_addCorner_28 rfl (lv_at hl 3 rfl) ?_
  refine va_get (D := D) (ci := 5) (v := .ref (h 1)) (C := RX5) (T := TX5) (N := 5) hx hb hts hiX5 hown hK.1 hP 0 rfl rfl 0 (by decide) kf10 (fun _ h9 => h9) rfl dX5_addCorner_29 ?_
  refine lv_iload hx hb dX5_addCorner_32 (lv_at hl 2 rfl) ?_
  refine lv_iconst (v := 0) hx hb dX5_addCorner_34 (by decide) ?_
  refine pu_calli (va_runV (As := [.int (nI r), .int 0]) (rest := []) ⟨hx, hb, hml, hown, hts⟩ (c_X4_memberAt hh hn r (by omega) 0 (by omega) (faf_p (Sz := Sz) (Mb := Mb) (x := 0) e0 (Or.inl rfl))) (cwV 2 hts gX5_addCorner_X4_memberAt rfl rfl rfl (by decide +kernel) ⟨Nat.le_of_ble_eq_true rfl, Nat.le_of_ble_eq_true rfl⟩) (wd_preV (ci := 4) (q0 := 1) hP hK rfl rfl) rfl rfl hl.1 rfl (lv_room (Nat.le_of_ble_eq_true rfl)) dX5_addCorner_35 ⟨Nat.zero_le _, Nat.zero_le _⟩) ?_
  refine tp_i (y := nI p1) (m0) ?_
  refine lv_istore (lv' := [(4, .int (nI p1)), (6, .int 0), (5, .int 0), (0, .ref (h 0)), (1, .int (nI r)), (2, .int (nI i)), (3, .int 3)]) hx hb dX5_addCorner_38 hl (by decide) rfl (fun ls hl => ?_)
  refine lv_iinc (v := 1) (lv' := [(5, .int 1), (4, .int (nI p1)), (6, .int 0), (0, .ref (h 0)), (1, .int (nI r)), (2, .int (nI i)), (3, .int 3)]) hx hb dX5_addCorner_40 hl (k := 2) rfl (by decide) (by decide) rfl (fun ls hl => ?_)
  refine lv_goto (tgt := 6) hx hb dX5_addCorner_43 (by decide) ?_
  refine lv_iload hx hb dX5_addCorner_6 (lv_at hl 0 rfl) ?_
  refine lv_iload_n hx hb dX5_addCorner_8 rfl (lv_at hl 6 rfl) ?_
  refine lv_icmp_ge (tgt := 46) hx hb dX5_addCorner_9 (by decide) (fun h9 => absurd h9 (by decide)) (fun _ => ?_)
  refine lv_aload_n hx hb dX5_addCorner_12 rfl (lv_at hl 3 rfl) ?_
  refine lv_iload hx hb dX5_addCorner_13 (lv_at hl 1 rfl) ?_
  refine pu_calli (va_runV (As := [.int (nI p1)]) (rest := []) ⟨hx, hb, hml, hown, hts⟩ (c_X5_findingAtFirst hh hn p1 (by omega)) (cwV 1 hts gX5_addCorner_X5_findingAtFirst rfl rfl rfl (by decide +kernel) ⟨Nat.le_of_ble_eq_true rfl, Nat.le_of_ble_eq_true rfl⟩) (wd_preV (ci := 5) (q0 := 0) hP hK rfl rfl) rfl rfl hl.1 rfl (lv_room (Nat.le_of_ble_eq_true rfl)) dX5_addCorner_15 ⟨Nat.zero_le _, Nat.zero_le _⟩) ?_
  refine tp_i (y := nI x) (ef) ?_
  refine lv_istore (lv' := [(6, .int (nI x)), (5, .int 1), (4, .int (nI p1)), (0, .ref (h 0)), (1, .int (nI r)), (2, .int (nI i)), (3, .int 3)]) hx hb dX5_addCorner_18 hl (by decide) rfl (fun ls hl => ?_)
  refine lv_iload hx hb dX5_addCorner_20 (lv_at hl 0 rfl) ?_
  refine lv_if_eq (tgt := 28) hx hb dX5_addCorner_22 (by decide) (fun h9 => absurd h9 (by rcases hx9 with rfl | rfl <;> decide)) (fun _ => ?_)
  refine lv_iload hx hb dX5_addCorner_25 (lv_at hl 0 rfl) ?_
  exact W.iret (v := nI x) hx hb hr (fun t9 ht _ => ⟨congrArg (fun z => Outcome.returned (some (Value.int z))) (rfl), ht⟩) (fun _ h9 => nomatch h9) dX5_addCorner_27
set_option maxHeartbeats 4000000 in
set_option maxRecDepth 100000 in
theorem c_X5_corner3_f2 (hh : ad_ok h 20) (hn : n ≤ 100) (hk : k ≤ 8) (r : Nat) (hr9 : r < n) (i : Nat) (hi : i < k) (p1 : Nat) (hp1 : p1 < n) (p2 : Nat) (hp2 : p2 < n) (e0 : fafS Sz Mb r = 0) (m0 : Mb (8 * r + 0) = nI p1) (e1 : fafS Sz Mb p1 = 0) (m1 : Mb (8 * p1 + 0) = nI p2) (x : Nat) (hx9 : x = 2 ∨ x = 3) (ef : fafS Sz Mb p2 = nI x) : Met l yX5_addCorner wsX5_addCorner ({ frames := 5, cells := 0, slots := 0, locals := 160 }) (wd_P D cI cJ [.ref (h 0), .int (nI r), .int (nI i), .int 3] (sl_W cI cJ h (nI n) F Wt Sz Nu Mb (nI k) G Wk To Sl Ri (nI f) (nI b) oT oS oF (nI an) (nI as) Fo wo pa fa)) (pu_Q (some (.int (nI x)))) 0 0 (fun _ => False) := by
  refine Met.ofW (cc := cX5_addCorner) (maxL := 7) (ret := (some .int)) (by decide) rfl ?_
  intro p e s m args below meth c s₁ B hml hv
  obtain ⟨rfl, hP, hK⟩ := hv
  have hx := B.exec
  have hb := B.bytes
  have hr := B.returns
  have hts := atoms_spec (ws := wsX5_addCorner) B.pre
  have hown : s.vm.findClass RX5 = some m.cls := findClass_of_methodNamed B.named
  have hlocks := B.notSynchronized
  have hiX5 : ∀ w ∈ u_ws RX5 TX5 5, w ∈ wsX5_addCorner := by decide +kernel
  have kf10 := hts (.fieldLink RX5 10 "SortingLine" "things" "LSortingLine$Things;") (by decide +kernel)
  have hl := lv_entry ([.ref (h 0), .int (nI r), .int (nI i), .int 3]) (n := 7) (Nat.le_of_ble_eq_true rfl)
  rw [lg_entry_eq]
  generalize (lg_sl ([.ref (h 0), .int (nI r), .int (nI i), .int 3]) ++ List.replicate (7 - (lg_sl ([.ref (h 0), .int (nI r), .int (nI i), .int 3])).length) Slot.unset).toArray = ls at hl ⊢
  have hl : lv_has ls 7 [(0, .ref (h 0)), (1, .int (nI r)), (2, .int (nI i)), (3, .int 3)] := hl
  refine lv_iload_n hx hb dX5_addCorner_0 rfl (lv_at hl 1 rfl) ?_
  refine lv_istore (lv' := [(4, .int (nI r)), (0, .ref (h 0)), (1, .int (nI r)), (2, .int (nI i)), (3, .int 3)]) hx hb dX5_addCorner_1 hl (by decide) rfl (fun ls hl => ?_)
  refine lv_iconst (v := 0) hx hb dX5_addCorner_3 (by decide) ?_
  refine lv_istore (lv' := [(5, .int 0), (4, .int (nI r)), (0, .ref (h 0)), (1, .int (nI r)), (2, .int (nI i)), (3, .int 3)]) hx hb dX5_addCorner_4 hl (by decide) rfl (fun ls hl => ?_)
  refine lv_iload hx hb dX5_addCorner_6 (lv_at hl 0 rfl) ?_
  refine lv_iload_n hx hb dX5_addCorner_8 rfl (lv_at hl 5 rfl) ?_
  refine lv_icmp_ge (tgt := 46) hx hb dX5_addCorner_9 (by decide) (fun h9 => absurd h9 (by decide)) (fun _ => ?_)
  refine lv_aload_n hx hb dX5_addCorner_12 rfl (lv_at hl 2 rfl) ?_
  refine lv_iload hx hb dX5_addCorner_13 (lv_at hl 1 rfl) ?_
  refine pu_calli (va_runV (As := [.int (nI r)]) (rest := []) ⟨hx, hb, hml, hown, hts⟩ (c_X5_findingAtFirst hh hn r (by omega)) (cwV 1 hts gX5_addCorner_X5_findingAtFirst rfl rfl rfl (by decide +kernel) ⟨Nat.le_of_ble_eq_true rfl, Nat.le_of_ble_eq_true rfl⟩) (wd_preV (ci := 5) (q0 := 0) hP hK rfl rfl) rfl rfl hl.1 rfl (lv_room (Nat.le_of_ble_eq_true rfl)) dX5_addCorner_15 ⟨Nat.zero_le _, Nat.zero_le _⟩) ?_
  refine tp_i (y := 0) (e0) ?_
  refine lv_istore (lv' := [(6, .int 0), (5, .int 0), (4, .int (nI r)), (0, .ref (h 0)), (1, .int (nI r)), (2, .int (nI i)), (3, .int 3)]) hx hb dX5_addCorner_18 hl (by decide) rfl (fun ls hl => ?_)
  refine lv_iload hx hb dX5_addCorner_20 (lv_at hl 0 rfl) ?_
  refine lv_if_eq (tgt := 28) hx hb dX5_addCorner_22 (by decide) (fun _ => ?_) (fun h9 => absurd (by decide) h9)
  refine lv_aload_n hx hb dX5_addCorner_28 rfl (lv_at hl 3 rfl) ?_
  refine va_get (D := D) (ci := 5) (v := .ref (h 1)) (C := RX5) (T := TX5) (N := 5) hx hb hts hiX5 hown hK.1 hP 0 rfl rfl 0 (by decide) kf10 (fun _ h9 => h9) rfl dX5_addCorner_29 ?_
  refine lv_iload hx hb dX5_addCorner_32 (lv_at hl 2 rfl) ?_
  refine lv_iconst (v := 0) hx hb dX5_addCorner_34 (by decide) ?_
  refine pu_calli (va_runV (As := [.int (nI r), .int 0]) (rest := []) ⟨hx, hb, hml, hown, hts⟩ (c_X4_memberAt hh hn r (by omega) 0 (by omega) (faf_p (Sz := Sz) (Mb := Mb) (x := 0) e0 (Or.inl rfl))) (cwV 2 hts gX5_addCorner_X4_memberAt rfl rfl rfl (by decide +kernel) ⟨Nat.le_of_ble_eq_true rfl, Nat.le_of_ble_eq_true rfl⟩) (wd_preV (ci := 4) (q0 := 1) hP hK rfl rfl) rfl rfl hl.1 rfl (lv_room (Nat.le_of_ble_eq_true rfl)) dX5_addCorner_35 ⟨Nat.zero_le _, Nat.zero_le _⟩) ?_
  refine tp_i (y := nI p1) (m0) ?_
  refine lv_istore (lv' := [(4, .int (nI p1)), (6, .int 0), (5, .int 0), (0, .ref (h 0)), (1, .int (nI r)), (2, .int (nI i)), (3, .int 3)]) hx hb dX5_addCorner_38 hl (by decide) rfl (fun ls hl => ?_)
  refine lv_iinc (v := 1) (lv' := [(5, .int 1), (4, .int (nI p1)), (6, .int 0), (0, .ref (h 0)), (1, .int (nI r)), (2, .int (nI i)), (3, .int 3)]) hx hb dX5_addCorner_40 hl (k := 2) rfl (by decide) (by decide) rfl (fun ls hl => ?_)
  refine lv_goto (tgt := 6) hx hb dX5_addCorner_43 (by decide) ?_
  refine lv_iload hx hb dX5_addCorner_6 (lv_at hl 0 rfl) ?_
  refine lv_iload_n hx hb dX5_addCorner_8 rfl (lv_at hl 6 rfl) ?_
  refine lv_icmp_ge (tgt := 46) hx hb dX5_addCorner_9 (by decide) (fun h9 => absurd h9 (by decide)) (fun _ => ?_)
  refine lv_aload_n hx hb dX5_addCorner_12 rfl (lv_at hl 3 rfl) ?_
  refine lv_iload hx hb dX5_addCorner_13 (lv_at hl 1 rfl) ?_
  refine pu_calli (va_runV (As := [.int (nI p1)]) (rest := []) ⟨hx, hb, hml, hown, hts⟩ (c_X5_findingAtFirst hh hn p1 (by omega)) (cwV 1 hts gX5_addCorner_X5_findingAtFirst rfl rfl rfl (by decide +kernel) ⟨Nat.le_of_ble_eq_true rfl, Nat.le_of_ble_eq_true rfl⟩) (wd_preV (ci := 5) (q0 := 0) hP hK rfl rfl) rfl rfl hl.1 rfl (lv_room (Nat.le_of_ble_eq_true rfl)) dX5_addCorner_15 ⟨Nat.zero_le _, Nat.zero_le _⟩) ?_
  refine tp_i (y := 0) (e1) ?_
  refine lv_istore (lv' := [(6, .int 0), (5, .int 1), (4, .int (nI p1)), (0, .ref (h 0)), (1, .int (nI r)), (2, .int (nI i)), (3, .int 3)]) hx hb dX5_addCorner_18 hl (by decide) rfl (fun ls hl => ?_)
  refine lv_iload hx hb dX5_addCorner_20 (lv_at hl 0 rfl) ?_
  refine lv_if_eq (tgt := 28) hx hb dX5_addCorner_22 (by decide) (fun _ => ?_) (fun h9 => absurd (by decide) h9)
  refine lv_aload_n hx hb dX5_addCorner_28 rfl (lv_at hl 3 rfl) ?_
  refine va_get (D := D) (ci := 5) (v := .ref (h 1)) (C := RX5) (T := TX5) (N := 5) hx hb hts hiX5 hown hK.1 hP 0 rfl rfl 0 (by decide) kf10 (fun _ h9 => h9) rfl dX5_addCorner_29 ?_
  refine lv_iload hx hb dX5_addCorner_32 (lv_at hl 2 rfl) ?_
  refine lv_iconst (v := 0) hx hb dX5_addCorner_34 (by decide) ?_
  refine pu_calli (va_runV (As := [.int (nI p1), .int 0]) (rest := []) ⟨hx, hb, hml, hown, hts⟩ (c_X4_memberAt hh hn p1 (by omega) 0 (by omega) (faf_p (Sz := Sz) (Mb := Mb) (x := 0) e1 (Or.inl rfl))) (cwV 2 hts gX5_addCorner_X4_memberAt rfl rfl rfl (by decide +kernel) ⟨Nat.le_of_ble_eq_true rfl, Nat.le_of_ble_eq_true rfl⟩) (wd_preV (ci := 4) (q0 := 1) hP hK rfl rfl) rfl rfl hl.1 rfl (lv_room (Nat.le_of_ble_eq_true rfl)) dX5_addCorner_35 ⟨Nat.zero_le _, Nat.zero_le _⟩) ?_
  refine tp_i (y := nI p2) (m1) ?_
  refine lv_istore (lv' := [(4, .int (nI p2)), (6, .int 0), (5, .int 1), (0, .ref (h 0)), (1, .int (nI r)), (2, .int (nI i)), (3, .int 3)]) hx hb dX5_addCorner_38 hl (by decide) rfl (fun ls hl => ?_)
  refine lv_iinc (v := 2) (lv' := [(5, .int 2), (4, .int (nI p2)), (6, .int 0), (0, .ref (h 0)), (1, .int (nI r)), (2, .int (nI i)), (3, .int 3)]) hx hb dX5_addCorner_40 hl (k := 2) rfl (by decide) (by decide) rfl (fun ls hl => ?_)
  refine lv_goto (tgt := 6) hx hb dX5_addCorner_43 (by decide) ?_
  refine lv_iload hx hb dX5_addCorner_6 (lv_at hl 0 rfl) ?_
  refine lv_iload_n hx hb dX5_addCorner_8 rfl (lv_at hl 6 rfl) ?_
  refine lv_icmp_ge (tgt := 46) hx hb dX5_addCorner_9 (by decide) (fun h9 => absurd h9 (by decide)) (fun _ => ?_)
  refine lv_aload_n hx hb dX5_addCorner_12 rfl (lv_at hl 3 rfl) ?_
  refine lv_iload hx hb dX5_addCorner_13 (lv_at hl 1 rfl) ?_
  refine pu_calli (va_runV (As := [.int (nI p2)]) (rest := []) ⟨hx, hb, hml, hown, hts⟩ (c_X5_findingAtFirst hh hn p2 (by omega)) (cwV 1 hts gX5_addCorner_X5_findingAtFirst rfl rfl rfl (by decide +kernel) ⟨Nat.le_of_ble_eq_true rfl, Nat.le_of_ble_eq_true rfl⟩) (wd_preV (ci := 5) (q0 := 0) hP hK rfl rfl) rfl rfl hl.1 rfl (lv_room (Nat.le_of_ble_eq_true rfl)) dX5_addCorner_15 ⟨Nat.zero_le _, Nat.zero_le _⟩) ?_
  refine tp_i (y := nI x) (ef) ?_
  refine lv_istore (lv' := [(6, .int (nI x)), (5, .int 2), (4, .int (nI p2)), (0, .ref (h 0)), (1, .int (nI r)), (2, .int (nI i)), (3, .int 3)]) hx hb dX5_addCorner_18 hl (by decide) rfl (fun ls hl => ?_)
  refine lv_iload hx hb dX5_addCorner_20 (lv_at hl 0 rfl) ?_
  refine lv_if_eq (tgt := 28) hx hb dX5_addCorner_22 (by decide) (fun h9 => absurd h9 (by rcases hx9 with rfl | rfl <;> decide)) (fun _ => ?_)
  refine lv_iload hx hb dX5_addCorner_25 (lv_at hl 0 rfl) ?_
  exact W.iret (v := nI x) hx hb hr (fun t9 ht _ => ⟨congrArg (fun z => Outcome.returned (some (Value.int z))) (rfl), ht⟩) (fun _ h9 => nomatch h9) dX5_addCorner_27
set_option maxHeartbeats 4000000 in
set_option maxRecDepth 100000 in
theorem c_X5_corner3_o (hh : ad_ok h 20) (hn : n ≤ 100) (hk : k ≤ 8) (r : Nat) (hr9 : r < n) (i : Nat) (hi : i < k) (p1 : Nat) (hp1 : p1 < n) (p2 : Nat) (hp2 : p2 < n) (p3 : Nat) (hp3 : p3 < n) (e0 : fafS Sz Mb r = 0) (m0 : Mb (8 * r + 0) = nI p1) (e1 : fafS Sz Mb p1 = 0) (m1 : Mb (8 * p1 + 0) = nI p2) (e2 : fafS Sz Mb p2 = 0) (m2 : Mb (8 * p2 + 0) = nI p3) : Met l yX5_addCorner wsX5_addCorner ({ frames := 5, cells := 0, slots := 0, locals := 160 }) (wd_P D cI cJ [.ref (h 0), .int (nI r), .int (nI i), .int 3] (sl_W cI cJ h (nI n) F Wt Sz Nu Mb (nI k) G Wk To Sl Ri (nI f) (nI b) oT oS oF (nI an) (nI as) Fo wo pa fa)) (mu_Q D (ad_A h 20) (some (.int 0)) (sl_W cI cJ h (nI n) F Wt Sz Nu Mb (nI k) G Wk (vp_updL To i (To i + Int32.toInt64 (Wt p3))) Sl Ri (nI f) (nI b) oT oS oF (nI an) (nI as) Fo wo pa fa)) 0 0 (ad_A h 20) := by
  refine Met.ofW (cc := cX5_addCorner) (maxL := 7) (ret := (some .int)) (by decide) rfl ?_
  intro p e s m args below meth c s₁ B hml hv
  obtain ⟨rfl, hP, hK⟩ := hv
  have hx := B.exec
  have hb := B.bytes
  have hr := B.returns
  have hts := atoms_spec (ws := wsX5_addCorner) B.pre
  have hown : s.vm.findClass RX5 = some m.cls := findClass_of_methodNamed B.named
  have hlocks := B.notSynchronized
  have hiX5 : ∀ w ∈ u_ws RX5 TX5 5, w ∈ wsX5_addCorner := by decide +kernel
  have kf10 := hts (.fieldLink RX5 10 "SortingLine" "things" "LSortingLine$Things;") (by decide +kernel)
  have hS : va_S (ad_A h 20) s.heap s.heap [] := va_S.rf
  have hl := lv_entry ([.ref (h 0), .int (nI r), .int (nI i), .int 3]) (n := 7) (Nat.le_of_ble_eq_true rfl)
  rw [lg_entry_eq]
  generalize (lg_sl ([.ref (h 0), .int (nI r), .int (nI i), .int 3]) ++ List.replicate (7 - (lg_sl ([.ref (h 0), .int (nI r), .int (nI i), .int 3])).length) Slot.unset).toArray = ls at hl ⊢
  have hl : lv_has ls 7 [(0, .ref (h 0)), (1, .int (nI r)), (2, .int (nI i)), (3, .int 3)] := hl
  refine lv_iload_n hx hb dX5_addCorner_0 rfl (lv_at hl 1 rfl) ?_
  refine lv_istore (lv' := [(4, .int (nI r)), (0, .ref (h 0)), (1, .int (nI r)), (2, .int (nI i)), (3, .int 3)]) hx hb dX5_addCorner_1 hl (by decide) rfl (fun ls hl => ?_)
  refine lv_iconst (v := 0) hx hb dX5_addCorner_3 (by decide) ?_
  refine lv_istore (lv' := [(5, .int 0), (4, .int (nI r)), (0, .ref (h 0)), (1, .int (nI r)), (2, .int (nI i)), (3, .int 3)]) hx hb dX5_addCorner_4 hl (by decide) rfl (fun ls hl => ?_)
  refine lv_iload hx hb dX5_addCorner_6 (lv_at hl 0 rfl) ?_
  refine lv_iload_n hx hb dX5_addCorner_8 rfl (lv_at hl 5 rfl) ?_
  refine lv_icmp_ge (tgt := 46) hx hb dX5_addCorner_9 (by decide) (fun h9 => absurd h9 (by decide)) (fun _ => ?_)
  refine lv_aload_n hx hb dX5_addCorner_12 rfl (lv_at hl 2 rfl) ?_
  refine lv_iload hx hb dX5_addCorner_13 (lv_at hl 1 rfl) ?_
  refine pu_calli (va_runV (As := [.int (nI r)]) (rest := []) ⟨hx, hb, hml, hown, hts⟩ (c_X5_findingAtFirst hh hn r (by omega)) (cwV 1 hts gX5_addCorner_X5_findingAtFirst rfl rfl rfl (by decide +kernel) ⟨Nat.le_of_ble_eq_true rfl, Nat.le_of_ble_eq_true rfl⟩) (wd_preV (ci := 5) (q0 := 0) hP hK rfl rfl) rfl rfl hl.1 rfl (lv_room (Nat.le_of_ble_eq_true rfl)) dX5_addCorner_15 ⟨Nat.zero_le _, Nat.zero_le _⟩) ?_
  refine tp_i (y := 0) (e0) ?_
  refine lv_istore (lv' := [(6, .int 0), (5, .int 0), (4, .int (nI r)), (0, .ref (h 0)), (1, .int (nI r)), (2, .int (nI i)), (3, .int 3)]) hx hb dX5_addCorner_18 hl (by decide) rfl (fun ls hl => ?_)
  refine lv_iload hx hb dX5_addCorner_20 (lv_at hl 0 rfl) ?_
  refine lv_if_eq (tgt := 28) hx hb dX5_addCorner_22 (by decide) (fun _ => ?_) (fun h9 => absurd (by decide) h9)
  refine lv_aload_n hx hb dX5_addCorner_28 rfl (lv_at hl 3 rfl) ?_
  refine va_get (D := D) (ci := 5) (v := .ref (h 1)) (C := RX5) (T := TX5) (N := 5) hx hb hts hiX5 hown hK.1 hP 0 rfl rfl 0 (by decide) kf10 (fun _ h9 => h9) rfl dX5_addCorner_29 ?_
  refine lv_iload hx hb dX5_addCorner_32 (lv_at hl 2 rfl) ?_
  refine lv_iconst (v := 0) hx hb dX5_addCorner_34 (by decide) ?_
  refine pu_calli (va_runV (As := [.int (nI r), .int 0]) (rest := []) ⟨hx, hb, hml, hown, hts⟩ (c_X4_memberAt hh hn r (by omega) 0 (by omega) (faf_p (Sz := Sz) (Mb := Mb) (x := 0) e0 (Or.inl rfl))) (cwV 2 hts gX5_addCorner_X4_memberAt rfl rfl rfl (by decide +kernel) ⟨Nat.le_of_ble_eq_true rfl, Nat.le_of_ble_eq_true rfl⟩) (wd_preV (ci := 4) (q0 := 1) hP hK rfl rfl) rfl rfl hl.1 rfl (lv_room (Nat.le_of_ble_eq_true rfl)) dX5_addCorner_35 ⟨Nat.zero_le _, Nat.zero_le _⟩) ?_
  refine tp_i (y := nI p1) (m0) ?_
  refine lv_istore (lv' := [(4, .int (nI p1)), (6, .int 0), (5, .int 0), (0, .ref (h 0)), (1, .int (nI r)), (2, .int (nI i)), (3, .int 3)]) hx hb dX5_addCorner_38 hl (by decide) rfl (fun ls hl => ?_)
  refine lv_iinc (v := 1) (lv' := [(5, .int 1), (4, .int (nI p1)), (6, .int 0), (0, .ref (h 0)), (1, .int (nI r)), (2, .int (nI i)), (3, .int 3)]) hx hb dX5_addCorner_40 hl (k := 2) rfl (by decide) (by decide) rfl (fun ls hl => ?_)
  refine lv_goto (tgt := 6) hx hb dX5_addCorner_43 (by decide) ?_
  refine lv_iload hx hb dX5_addCorner_6 (lv_at hl 0 rfl) ?_
  refine lv_iload_n hx hb dX5_addCorner_8 rfl (lv_at hl 6 rfl) ?_
  refine lv_icmp_ge (tgt := 46) hx hb dX5_addCorner_9 (by decide) (fun h9 => absurd h9 (by decide)) (fun _ => ?_)
  refine lv_aload_n hx hb dX5_addCorner_12 rfl (lv_at hl 3 rfl) ?_
  refine lv_iload hx hb dX5_addCorner_13 (lv_at hl 1 rfl) ?_
  refine pu_calli (va_runV (As := [.int (nI p1)]) (rest := []) ⟨hx, hb, hml, hown, hts⟩ (c_X5_findingAtFirst hh hn p1 (by omega)) (cwV 1 hts gX5_addCorner_X5_findingAtFirst rfl rfl rfl (by decide +kernel) ⟨Nat.le_of_ble_eq_true rfl, Nat.le_of_ble_eq_true rfl⟩) (wd_preV (ci := 5) (q0 := 0) hP hK rfl rfl) rfl rfl hl.1 rfl (lv_room (Nat.le_of_ble_eq_true rfl)) dX5_addCorner_15 ⟨Nat.zero_le _, Nat.zero_le _⟩) ?_
  refine tp_i (y := 0) (e1) ?_
  refine lv_istore (lv' := [(6, .int 0), (5, .int 1), (4, .int (nI p1)), (0, .ref (h 0)), (1, .int (nI r)), (2, .int (nI i)), (3, .int 3)]) hx hb dX5_addCorner_18 hl (by decide) rfl (fun ls hl => ?_)
  refine lv_iload hx hb dX5_addCorner_20 (lv_at hl 0 rfl) ?_
  refine lv_if_eq (tgt := 28) hx hb dX5_addCorner_22 (by decide) (fun _ => ?_) (fun h9 => absurd (by decide) h9)
  refine lv_aload_n hx hb dX5_addCorner_28 rfl (lv_at hl 3 rfl) ?_
  refine va_get (D := D) (ci := 5) (v := .ref (h 1)) (C := RX5) (T := TX5) (N := 5) hx hb hts hiX5 hown hK.1 hP 0 rfl rfl 0 (by decide) kf10 (fun _ h9 => h9) rfl dX5_addCorner_29 ?_
  refine lv_iload hx hb dX5_addCorner_32 (lv_at hl 2 rfl) ?_
  refine lv_iconst (v := 0) hx hb dX5_addCorner_34 (by decide) ?_
  refine pu_calli (va_runV (As := [.int (nI p1), .int 0]) (rest := []) ⟨hx, hb, hml, hown, hts⟩ (c_X4_memberAt hh hn p1 (by omega) 0 (by omega) (faf_p (Sz := Sz) (Mb := Mb) (x := 0) e1 (Or.inl rfl))) (cwV 2 hts gX5_addCorner_X4_memberAt rfl rfl rfl (by decide +kernel) ⟨Nat.le_of_ble_eq_true rfl, Nat.le_of_ble_eq_true rfl⟩) (wd_preV (ci := 4) (q0 := 1) hP hK rfl rfl) rfl rfl hl.1 rfl (lv_room (Nat.le_of_ble_eq_true rfl)) dX5_addCorner_35 ⟨Nat.zero_le _, Nat.zero_le _⟩) ?_
  refine tp_i (y := nI p2) (m1) ?_
  refine lv_istore (lv' := [(4, .int (nI p2)), (6, .int 0), (5, .int 1), (0, .ref (h 0)), (1, .int (nI r)), (2, .int (nI i)), (3, .int 3)]) hx hb dX5_addCorner_38 hl (by decide) rfl (fun ls hl => ?_)
  refine lv_iinc (v := 2) (lv' := [(5, .int 2), (4, .int (nI p2)), (6, .int 0), (0, .ref (h 0)), (1, .int (nI r)), (2, .int (nI i)), (3, .int 3)]) hx hb dX5_addCorner_40 hl (k := 2) rfl (by decide) (by decide) rfl (fun ls hl => ?_)
  refine lv_goto (tgt := 6) hx hb dX5_addCorner_43 (by decide) ?_
  refine lv_iload hx hb dX5_addCorner_6 (lv_at hl 0 rfl) ?_
  refine lv_iload_n hx hb dX5_addCorner_8 rfl (lv_at hl 6 rfl) ?_
  refine lv_icmp_ge (tgt := 46) hx hb dX5_addCorner_9 (by decide) (fun h9 => absurd h9 (by decide)) (fun _ => ?_)
  refine lv_aload_n hx hb dX5_addCorner_12 rfl (lv_at hl 3 rfl) ?_
  refine lv_iload hx hb dX5_addCorner_13 (lv_at hl 1 rfl) ?_
  refine pu_calli (va_runV (As := [.int (nI p2)]) (rest := []) ⟨hx, hb, hml, hown, hts⟩ (c_X5_findingAtFirst hh hn p2 (by omega)) (cwV 1 hts gX5_addCorner_X5_findingAtFirst rfl rfl rfl (by decide +kernel) ⟨Nat.le_of_ble_eq_true rfl, Nat.le_of_ble_eq_true rfl⟩) (wd_preV (ci := 5) (q0 := 0) hP hK rfl rfl) rfl rfl hl.1 rfl (lv_room (Nat.le_of_ble_eq_true rfl)) dX5_addCorner_15 ⟨Nat.zero_le _, Nat.zero_le _⟩) ?_
  refine tp_i (y := 0) (e2) ?_
  refine lv_istore (lv' := [(6, .int 0), (5, .int 2), (4, .int (nI p2)), (0, .ref (h 0)), (1, .int (nI r)), (2, .int (nI i)), (3, .int 3)]) hx hb dX5_addCorner_18 hl (by decide) rfl (fun ls hl => ?_)
  refine lv_iload hx hb dX5_addCorner_20 (lv_at hl 0 rfl) ?_
  refine lv_if_eq (tgt := 28) hx hb dX5_addCorner_22 (by decide) (fun _ => ?_) (fun h9 => absurd (by decide) h9)
  refine lv_aload_n hx hb dX5_addCorner_28 rfl (lv_at hl 3 rfl) ?_
  refine va_get (D := D) (ci := 5) (v := .ref (h 1)) (C := RX5) (T := TX5) (N := 5) hx hb hts hiX5 hown hK.1 hP 0 rfl rfl 0 (by decide) kf10 (fun _ h9 => h9) rfl dX5_addCorner_29 ?_
  refine lv_iload hx hb dX5_addCorner_32 (lv_at hl 2 rfl) ?_
  refine lv_iconst (v := 0) hx hb dX5_addCorner_34 (by decide) ?_
  refine pu_calli (va_runV (As := [.int (nI p2), .int 0]) (rest := []) ⟨hx, hb, hml, hown, hts⟩ (c_X4_memberAt hh hn p2 (by omega) 0 (by omega) (faf_p (Sz := Sz) (Mb := Mb) (x := 0) e2 (Or.inl rfl))) (cwV 2 hts gX5_addCorner_X4_memberAt rfl rfl rfl (by decide +kernel) ⟨Nat.le_of_ble_eq_true rfl, Nat.le_of_ble_eq_true rfl⟩) (wd_preV (ci := 4) (q0 := 1) hP hK rfl rfl) rfl rfl hl.1 rfl (lv_room (Nat.le_of_ble_eq_true rfl)) dX5_addCorner_35 ⟨Nat.zero_le _, Nat.zero_le _⟩) ?_
  refine tp_i (y := nI p3) (m2) ?_
  refine lv_istore (lv' := [(4, .int (nI p3)), (6, .int 0), (5, .int 2), (0, .ref (h 0)), (1, .int (nI r)), (2, .int (nI i)), (3, .int 3)]) hx hb dX5_addCorner_38 hl (by decide) rfl (fun ls hl => ?_)
  refine lv_iinc (v := 3) (lv' := [(5, .int 3), (4, .int (nI p3)), (6, .int 0), (0, .ref (h 0)), (1, .int (nI r)), (2, .int (nI i)), (3, .int 3)]) hx hb dX5_addCorner_40 hl (k := 2) rfl (by decide) (by decide) rfl (fun ls hl => ?_)
  refine lv_goto (tgt := 6) hx hb dX5_addCorner_43 (by decide) ?_
  refine lv_iload hx hb dX5_addCorner_6 (lv_at hl 0 rfl) ?_
  refine lv_iload_n hx hb dX5_addCorner_8 rfl (lv_at hl 6 rfl) ?_
  refine lv_icmp_ge (tgt := 46) hx hb dX5_addCorner_9 (by decide) (fun _ => ?_) (fun h9 => absurd (by decide) h9)
  refine lv_aload_n hx hb dX5_addCorner_46 rfl (lv_at hl 3 rfl) ?_
  refine lv_iload_n hx hb dX5_addCorner_47 rfl (lv_at hl 5 rfl) ?_
  refine lv_aload_n hx hb dX5_addCorner_48 rfl (lv_at hl 3 rfl) ?_
  refine va_get (D := D) (ci := 5) (v := .ref (h 1)) (C := RX5) (T := TX5) (N := 5) hx hb hts hiX5 hown hK.1 hP 0 rfl rfl 0 (by decide) kf10 (fun _ h9 => h9) rfl dX5_addCorner_49 ?_
  refine lv_iload hx hb dX5_addCorner_52 (lv_at hl 1 rfl) ?_
  refine pu_calli (va_runV (As := [.int (nI p3)]) (rest := [.int (nI i), .ref (h 0)]) ⟨hx, hb, hml, hown, hts⟩ (c_X4_weightOf hh hn p3 (by omega)) (cwV 1 hts gX5_addCorner_X4_weightOf rfl rfl rfl (by decide +kernel) ⟨Nat.le_of_ble_eq_true rfl, Nat.le_of_ble_eq_true rfl⟩) (wd_preV (ci := 4) (q0 := 1) hP hK rfl rfl) rfl rfl hl.1 rfl (lv_room (Nat.le_of_ble_eq_true rfl)) dX5_addCorner_54 ⟨Nat.zero_le _, Nat.zero_le _⟩) ?_
  refine lv_i2l (v := Int32.toInt64 (Wt p3)) hx hb dX5_addCorner_57 (rfl) ?_
  refine mu_calli (va_runV (As := [.int (nI i), .long (Int32.toInt64 (Wt p3))]) (rest := []) ⟨hx, hb, hml, hown, hts⟩ (c_X5_grow hh hk i (by omega) (Int32.toInt64 (Wt p3))) (cwV 2 hts gX5_addCorner_X5_grow rfl rfl rfl (by decide +kernel) ⟨Nat.le_of_ble_eq_true rfl, Nat.le_of_ble_eq_true rfl⟩) (wd_preV (ci := 5) (q0 := 0) hP hK rfl rfl) rfl rfl hl.1 rfl (lv_room (Nat.le_of_ble_eq_true rfl)) dX5_addCorner_58 ⟨Nat.zero_le _, Nat.zero_le _⟩) hS (fun H locs hP hS => ?_)
  have hP : va_P D kC (sl_W cI cJ h (nI n) F Wt Sz Nu Mb (nI k) G Wk (vp_updL To i (To i + (Int32.toInt64 (Wt p3)))) Sl Ri (nI f) (nI b) oT oS oF (nI an) (nI as) Fo wo pa fa) H := hP
  exact W.iret (v := 0) hx hb hr (fun t9 ht _ => ⟨congrArg (fun z => Outcome.returned (some (Value.int z))) (rfl), by rw [ht]; exact hP, hS.F ht⟩) hS.2.2 dX5_addCorner_61
set_option maxHeartbeats 4000000 in
set_option maxRecDepth 100000 in
theorem c_X5_cell_f (hh : ad_ok h 20) (hn : n ≤ 100) (hk : k ≤ 8) (r : Nat) (hr9 : r < n) (i : Nat) (hi : i < k) (x : Nat) (hx9 : x = 2 ∨ x = 3) (ef : fafS Sz Mb r = nI x) : Met l yX5_addCell wsX5_addCell ({ frames := 5, cells := 0, slots := 0, locals := 160 }) (wd_P D cI cJ [.ref (h 0), .int (nI r), .int (nI i)] (sl_W cI cJ h (nI n) F Wt Sz Nu Mb (nI k) G Wk To Sl Ri (nI f) (nI b) oT oS oF (nI an) (nI as) Fo wo pa fa)) (pu_Q (some (.int (nI x)))) 0 0 (fun _ => False) := by
  refine Met.ofW (cc := cX5_addCell) (maxL := 5) (ret := (some .int)) (by decide) rfl ?_
  intro p e s m args below meth c s₁ B hml hv
  obtain ⟨rfl, hP, hK⟩ := hv
  have hx := B.exec
  have hb := B.bytes
  have hr := B.returns
  have hts := atoms_spec (ws := wsX5_addCell) B.pre
  have hown : s.vm.findClass RX5 = some m.cls := findClass_of_methodNamed B.named
  have hlocks := B.notSynchronized
  have hl := lv_entry ([.ref (h 0), .int (nI r), .int (nI i)]) (n := 5) (Nat.le_of_ble_eq_true rfl)
  rw [lg_entry_eq]
  generalize (lg_sl ([.ref (h 0), .int (nI r), .int (nI i)]) ++ List.replicate (5 - (lg_sl ([.ref (h 0), .int (nI r), .int (nI i)])).length) Slot.unset).toArray = ls at hl ⊢
  have hl : lv_has ls 5 [(0, .ref (h 0)), (1, .int (nI r)), (2, .int (nI i))] := hl
  refine lv_aload_n hx hb dX5_addCell_0 rfl (lv_at hl 0 rfl) ?_
  refine lv_iload_n hx hb dX5_addCell_1 rfl (lv_at hl 1 rfl) ?_
  refine pu_calli (va_runV (As := [.int (nI r)]) (rest := []) ⟨hx, hb, hml, hown, hts⟩ (c_X5_findingAtFirst hh hn r (by omega)) (cwV 1 hts gX5_addCell_X5_findingAtFirst rfl rfl rfl (by decide +kernel) ⟨Nat.le_of_ble_eq_true rfl, Nat.le_of_ble_eq_true rfl⟩) (wd_preV (ci := 5) (q0 := 0) hP hK rfl rfl) rfl rfl hl.1 rfl (lv_room (Nat.le_of_ble_eq_true rfl)) dX5_addCell_2 ⟨Nat.zero_le _, Nat.zero_le _⟩) ?_
  refine tp_i (y := nI x) (ef) ?_
  refine lv_istore_n (lv' := [(3, .int (nI x)), (0, .ref (h 0)), (1, .int (nI r)), (2, .int (nI i))]) hx hb dX5_addCell_5 rfl hl (by decide) rfl (fun ls hl => ?_)
  refine lv_iload_n hx hb dX5_addCell_6 rfl (lv_at hl 0 rfl) ?_
  refine lv_if_eq (tgt := 12) hx hb dX5_addCell_7 (by decide) (fun h9 => absurd h9 (by rcases hx9 with rfl | rfl <;> decide)) (fun _ => ?_)
  refine lv_iload_n hx hb dX5_addCell_10 rfl (lv_at hl 0 rfl) ?_
  exact W.iret (v := nI x) hx hb hr (fun t9 ht _ => ⟨congrArg (fun z => Outcome.returned (some (Value.int z))) (rfl), ht⟩) (fun _ h9 => nomatch h9) dX5_addCell_11
set_option maxHeartbeats 4000000 in
set_option maxRecDepth 100000 in
theorem c_X5_cell_b (hh : ad_ok h 20) (hn : n ≤ 100) (hk : k ≤ 8) (r : Nat) (hr9 : r < n) (i : Nat) (hi : i < k) (p1 : Nat) (hp1 : p1 < n) (e0 : fafS Sz Mb r = 0) (m0 : Mb (8 * r + 0) = nI p1) (h2 : p_in 0 (Sz p1) = false) : Met l yX5_addCell wsX5_addCell ({ frames := 5, cells := 0, slots := 0, locals := 160 }) (wd_P D cI cJ [.ref (h 0), .int (nI r), .int (nI i)] (sl_W cI cJ h (nI n) F Wt Sz Nu Mb (nI k) G Wk To Sl Ri (nI f) (nI b) oT oS oF (nI an) (nI as) Fo wo pa fa)) (pu_Q (some (.int 3))) 0 0 (fun _ => False) := by
  refine Met.ofW (cc := cX5_addCell) (maxL := 5) (ret := (some .int)) (by decide) rfl ?_
  intro p e s m args below meth c s₁ B hml hv
  obtain ⟨rfl, hP, hK⟩ := hv
  have hx := B.exec
  have hb := B.bytes
  have hr := B.returns
  have hts := atoms_spec (ws := wsX5_addCell) B.pre
  have hown : s.vm.findClass RX5 = some m.cls := findClass_of_methodNamed B.named
  have hlocks := B.notSynchronized
  have hiX5 : ∀ w ∈ u_ws RX5 TX5 5, w ∈ wsX5_addCell := by decide +kernel
  have kf10 := hts (.fieldLink RX5 10 "SortingLine" "things" "LSortingLine$Things;") (by decide +kernel)
  have hl := lv_entry ([.ref (h 0), .int (nI r), .int (nI i)]) (n := 5) (Nat.le_of_ble_eq_true rfl)
  rw [lg_entry_eq]
  generalize (lg_sl ([.ref (h 0), .int (nI r), .int (nI i)]) ++ List.replicate (5 - (lg_sl ([.ref (h 0), .int (nI r), .int (nI i)])).length) Slot.unset).toArray = ls at hl ⊢
  have hl : lv_has ls 5 [(0, .ref (h 0)), (1, .int (nI r)), (2, .int (nI i))] := hl
  refine lv_aload_n hx hb dX5_addCell_0 rfl (lv_at hl 0 rfl) ?_
  refine lv_iload_n hx hb dX5_addCell_1 rfl (lv_at hl 1 rfl) ?_
  refine pu_calli (va_runV (As := [.int (nI r)]) (rest := []) ⟨hx, hb, hml, hown, hts⟩ (c_X5_findingAtFirst hh hn r (by omega)) (cwV 1 hts gX5_addCell_X5_findingAtFirst rfl rfl rfl (by decide +kernel) ⟨Nat.le_of_ble_eq_true rfl, Nat.le_of_ble_eq_true rfl⟩) (wd_preV (ci := 5) (q0 := 0) hP hK rfl rfl) rfl rfl hl.1 rfl (lv_room (Nat.le_of_ble_eq_true rfl)) dX5_addCell_2 ⟨Nat.zero_le _, Nat.zero_le _⟩) ?_
  refine tp_i (y := 0) (e0) ?_
  refine lv_istore_n (lv' := [(3, .int 0), (0, .ref (h 0)), (1, .int (nI r)), (2, .int (nI i))]) hx hb dX5_addCell_5 rfl hl (by decide) rfl (fun ls hl => ?_)
  refine lv_iload_n hx hb dX5_addCell_6 rfl (lv_at hl 0 rfl) ?_
  refine lv_if_eq (tgt := 12) hx hb dX5_addCell_7 (by decide) (fun _ => ?_) (fun h9 => absurd (by decide) h9)
  refine lv_aload_n hx hb dX5_addCell_12 rfl (lv_at hl 1 rfl) ?_
  refine va_get (D := D) (ci := 5) (v := .ref (h 1)) (C := RX5) (T := TX5) (N := 5) hx hb hts hiX5 hown hK.1 hP 0 rfl rfl 0 (by decide) kf10 (fun _ h9 => h9) rfl dX5_addCell_13 ?_
  refine lv_iload_n hx hb dX5_addCell_16 rfl (lv_at hl 2 rfl) ?_
  refine lv_iconst (v := 0) hx hb dX5_addCell_17 (by decide) ?_
  refine pu_calli (va_runV (As := [.int (nI r), .int 0]) (rest := []) ⟨hx, hb, hml, hown, hts⟩ (c_X4_memberAt hh hn r (by omega) 0 (by omega) (faf_p (Sz := Sz) (Mb := Mb) (x := 0) e0 (Or.inl rfl))) (cwV 2 hts gX5_addCell_X4_memberAt rfl rfl rfl (by decide +kernel) ⟨Nat.le_of_ble_eq_true rfl, Nat.le_of_ble_eq_true rfl⟩) (wd_preV (ci := 4) (q0 := 1) hP hK rfl rfl) rfl rfl hl.1 rfl (lv_room (Nat.le_of_ble_eq_true rfl)) dX5_addCell_18 ⟨Nat.zero_le _, Nat.zero_le _⟩) ?_
  refine tp_i (y := nI p1) (m0) ?_
  refine lv_istore (lv' := [(4, .int (nI p1)), (3, .int 0), (0, .ref (h 0)), (1, .int (nI r)), (2, .int (nI i))]) hx hb dX5_addCell_21 hl (by decide) rfl (fun ls hl => ?_)
  refine lv_aload_n hx hb dX5_addCell_23 rfl (lv_at hl 2 rfl) ?_
  refine va_get (D := D) (ci := 5) (v := .ref (h 1)) (C := RX5) (T := TX5) (N := 5) hx hb hts hiX5 hown hK.1 hP 0 rfl rfl 0 (by decide) kf10 (fun _ h9 => h9) rfl dX5_addCell_24 ?_
  refine lv_iload hx hb dX5_addCell_27 (lv_at hl 0 rfl) ?_
  refine lv_iconst (v := 0) hx hb dX5_addCell_29 (by decide) ?_
  refine pu_callb (va_runV (As := [.int (nI p1), .int 0]) (rest := []) ⟨hx, hb, hml, hown, hts⟩ (c_X4_hasPlace hh hn p1 (by omega) 0) (cwV 2 hts gX5_addCell_X4_hasPlace rfl rfl rfl (by decide +kernel) ⟨Nat.le_of_ble_eq_true rfl, Nat.le_of_ble_eq_true rfl⟩) (wd_preV (ci := 4) (q0 := 1) hP hK rfl rfl) rfl rfl hl.1 rfl (lv_room (Nat.le_of_ble_eq_true rfl)) dX5_addCell_30 ⟨Nat.zero_le _, Nat.zero_le _⟩) (fun h9 => absurd (h2) (by rw [h9]; decide)) (fun _ => ?_)
  refine lv_if_eq (tgt := 54) hx hb dX5_addCell_33 (by decide) (fun _ => ?_) (fun h9 => absurd (by decide) h9)
  refine lv_iconst (v := 3) hx hb dX5_addCell_54 (by decide) ?_
  exact W.iret (v := 3) hx hb hr (fun t9 ht _ => ⟨congrArg (fun z => Outcome.returned (some (Value.int z))) (rfl), ht⟩) (fun _ h9 => nomatch h9) dX5_addCell_55
set_option maxHeartbeats 4000000 in
set_option maxRecDepth 100000 in
theorem c_X5_cell_o (hh : ad_ok h 20) (hn : n ≤ 100) (hk : k ≤ 8) (r : Nat) (hr9 : r < n) (i : Nat) (hi : i < k) (p1 : Nat) (hp1 : p1 < n) (e0 : fafS Sz Mb r = 0) (m0 : Mb (8 * r + 0) = nI p1) (h2 : p_in 0 (Sz p1) = true) : Met l yX5_addCell wsX5_addCell ({ frames := 5, cells := 0, slots := 0, locals := 160 }) (wd_P D cI cJ [.ref (h 0), .int (nI r), .int (nI i)] (sl_W cI cJ h (nI n) F Wt Sz Nu Mb (nI k) G Wk To Sl Ri (nI f) (nI b) oT oS oF (nI an) (nI as) Fo wo pa fa)) (mu_Q D (ad_A h 20) (some (.int 0)) (sl_W cI cJ h (nI n) F Wt Sz Nu Mb (nI k) G Wk (vp_updL To i (To i + Nu (8 * p1 + 0))) Sl Ri (nI f) (nI b) oT oS oF (nI an) (nI as) Fo wo pa fa)) 0 0 (ad_A h 20) := by
  refine Met.ofW (cc := cX5_addCell) (maxL := 5) (ret := (some .int)) (by decide) rfl ?_
  intro p e s m args below meth c s₁ B hml hv
  obtain ⟨rfl, hP, hK⟩ := hv
  have hx := B.exec
  have hb := B.bytes
  have hr := B.returns
  have hts := atoms_spec (ws := wsX5_addCell) B.pre
  have hown : s.vm.findClass RX5 = some m.cls := findClass_of_methodNamed B.named
  have hlocks := B.notSynchronized
  have hiX5 : ∀ w ∈ u_ws RX5 TX5 5, w ∈ wsX5_addCell := by decide +kernel
  have kf10 := hts (.fieldLink RX5 10 "SortingLine" "things" "LSortingLine$Things;") (by decide +kernel)
  have hS : va_S (ad_A h 20) s.heap s.heap [] := va_S.rf
  have hl := lv_entry ([.ref (h 0), .int (nI r), .int (nI i)]) (n := 5) (Nat.le_of_ble_eq_true rfl)
  rw [lg_entry_eq]
  generalize (lg_sl ([.ref (h 0), .int (nI r), .int (nI i)]) ++ List.replicate (5 - (lg_sl ([.ref (h 0), .int (nI r), .int (nI i)])).length) Slot.unset).toArray = ls at hl ⊢
  have hl : lv_has ls 5 [(0, .ref (h 0)), (1, .int (nI r)), (2, .int (nI i))] := hl
  refine lv_aload_n hx hb dX5_addCell_0 rfl (lv_at hl 0 rfl) ?_
  refine lv_iload_n hx hb dX5_addCell_1 rfl (lv_at hl 1 rfl) ?_
  refine pu_calli (va_runV (As := [.int (nI r)]) (rest := []) ⟨hx, hb, hml, hown, hts⟩ (c_X5_findingAtFirst hh hn r (by omega)) (cwV 1 hts gX5_addCell_X5_findingAtFirst rfl rfl rfl (by decide +kernel) ⟨Nat.le_of_ble_eq_true rfl, Nat.le_of_ble_eq_true rfl⟩) (wd_preV (ci := 5) (q0 := 0) hP hK rfl rfl) rfl rfl hl.1 rfl (lv_room (Nat.le_of_ble_eq_true rfl)) dX5_addCell_2 ⟨Nat.zero_le _, Nat.zero_le _⟩) ?_
  refine tp_i (y := 0) (e0) ?_
  refine lv_istore_n (lv' := [(3, .int 0), (0, .ref (h 0)), (1, .int (nI r)), (2, .int (nI i))]) hx hb dX5_addCell_5 rfl hl (by decide) rfl (fun ls hl => ?_)
  refine lv_iload_n hx hb dX5_addCell_6 rfl (lv_at hl 0 rfl) ?_
  refine lv_if_eq (tgt := 12) hx hb dX5_addCell_7 (by decide) (fun _ => ?_) (fun h9 => absurd (by decide) h9)
  refine lv_aload_n hx hb dX5_addCell_12 rfl (lv_at hl 1 rfl) ?_
  refine va_get (D := D) (ci := 5) (v := .ref (h 1)) (C := RX5) (T := TX5) (N := 5) hx hb hts hiX5 hown hK.1 hP 0 rfl rfl 0 (by decide) kf10 (fun _ h9 => h9) rfl dX5_addCell_13 ?_
  refine lv_iload_n hx hb dX5_addCell_16 rfl (lv_at hl 2 rfl) ?_
  refine lv_iconst (v := 0) hx hb dX5_addCell_17 (by decide) ?_
  refine pu_calli (va_runV (As := [.int (nI r), .int 0]) (rest := []) ⟨hx, hb, hml, hown, hts⟩ (c_X4_memberAt hh hn r (by omega) 0 (by omega) (faf_p (Sz := Sz) (Mb := Mb) (x := 0) e0 (Or.inl rfl))) (cwV 2 hts gX5_addCell_X4_memberAt rfl rfl rfl (by decide +kernel) ⟨Nat.le_of_ble_eq_true rfl, Nat.le_of_ble_eq_true rfl⟩) (wd_preV (ci := 4) (q0 := 1) hP hK rfl rfl) rfl rfl hl.1 rfl (lv_room (Nat.le_of_ble_eq_true rfl)) dX5_addCell_18 ⟨Nat.zero_le _, Nat.zero_le _⟩) ?_
  refine tp_i (y := nI p1) (m0) ?_
  refine lv_istore (lv' := [(4, .int (nI p1)), (3, .int 0), (0, .ref (h 0)), (1, .int (nI r)), (2, .int (nI i))]) hx hb dX5_addCell_21 hl (by decide) rfl (fun ls hl => ?_)
  refine lv_aload_n hx hb dX5_addCell_23 rfl (lv_at hl 2 rfl) ?_
  refine va_get (D := D) (ci := 5) (v := .ref (h 1)) (C := RX5) (T := TX5) (N := 5) hx hb hts hiX5 hown hK.1 hP 0 rfl rfl 0 (by decide) kf10 (fun _ h9 => h9) rfl dX5_addCell_24 ?_
  refine lv_iload hx hb dX5_addCell_27 (lv_at hl 0 rfl) ?_
  refine lv_iconst (v := 0) hx hb dX5_addCell_29 (by decide) ?_
  refine pu_callb (va_runV (As := [.int (nI p1), .int 0]) (rest := []) ⟨hx, hb, hml, hown, hts⟩ (c_X4_hasPlace hh hn p1 (by omega) 0) (cwV 2 hts gX5_addCell_X4_hasPlace rfl rfl rfl (by decide +kernel) ⟨Nat.le_of_ble_eq_true rfl, Nat.le_of_ble_eq_true rfl⟩) (wd_preV (ci := 4) (q0 := 1) hP hK rfl rfl) rfl rfl hl.1 rfl (lv_room (Nat.le_of_ble_eq_true rfl)) dX5_addCell_30 ⟨Nat.zero_le _, Nat.zero_le _⟩) (fun _ => ?_) (fun h9 => absurd (h2) (by rw [h9]; decide))
  refine lv_if_eq (tgt := 54) hx hb dX5_addCell_33 (by decide) (fun h9 => absurd h9 (by decide)) (fun _ => ?_)
  refine lv_aload_n hx hb dX5_addCell_36 rfl (lv_at hl 2 rfl) ?_
  refine lv_iload_n hx hb dX5_addCell_37 rfl (lv_at hl 4 rfl) ?_
  refine lv_aload_n hx hb dX5_addCell_38 rfl (lv_at hl 2 rfl) ?_
  refine va_get (D := D) (ci := 5) (v := .ref (h 1)) (C := RX5) (T := TX5) (N := 5) hx hb hts hiX5 hown hK.1 hP 0 rfl rfl 0 (by decide) kf10 (fun _ h9 => h9) rfl dX5_addCell_39 ?_
  refine lv_iload hx hb dX5_addCell_42 (lv_at hl 0 rfl) ?_
  refine lv_iconst (v := 0) hx hb dX5_addCell_44 (by decide) ?_
  refine pu_calll (va_runV (As := [.int (nI p1), .int 0]) (rest := [.int (nI i), .ref (h 0)]) ⟨hx, hb, hml, hown, hts⟩ (c_X4_numberAt hh hn p1 (by omega) 0 (by omega) (h2)) (cwV 2 hts gX5_addCell_X4_numberAt rfl rfl rfl (by decide +kernel) ⟨Nat.le_of_ble_eq_true rfl, Nat.le_of_ble_eq_true rfl⟩) (wd_preV (ci := 4) (q0 := 1) hP hK rfl rfl) rfl rfl hl.1 rfl (lv_room (Nat.le_of_ble_eq_true rfl)) dX5_addCell_45 ⟨Nat.zero_le _, Nat.zero_le _⟩) ?_
  refine mu_calli (va_runV (As := [.int (nI i), .long (Nu (8 * p1 + 0))]) (rest := []) ⟨hx, hb, hml, hown, hts⟩ (c_X5_grow hh hk i (by omega) (Nu (8 * p1 + 0))) (cwV 2 hts gX5_addCell_X5_grow rfl rfl rfl (by decide +kernel) ⟨Nat.le_of_ble_eq_true rfl, Nat.le_of_ble_eq_true rfl⟩) (wd_preV (ci := 5) (q0 := 0) hP hK rfl rfl) rfl rfl hl.1 rfl (lv_room (Nat.le_of_ble_eq_true rfl)) dX5_addCell_48 ⟨Nat.zero_le _, Nat.zero_le _⟩) hS (fun H locs hP hS => ?_)
  have hP : va_P D kC (sl_W cI cJ h (nI n) F Wt Sz Nu Mb (nI k) G Wk (vp_updL To i (To i + (Nu (8 * p1 + 0)))) Sl Ri (nI f) (nI b) oT oS oF (nI an) (nI as) Fo wo pa fa) H := hP
  refine lv_goto (tgt := 55) hx hb dX5_addCell_51 (by decide) ?_
  exact W.iret (v := 0) hx hb hr (fun t9 ht _ => ⟨congrArg (fun z => Outcome.returned (some (Value.int z))) (rfl), by rw [ht]; exact hP, hS.F ht⟩) hS.2.2 dX5_addCell_55
set_option maxHeartbeats 4000000 in
set_option maxRecDepth 100000 in
theorem lp_X5_spill {p : Program} {e : Env} {s : State} {m : MethodId} {args : Array Value} {below : List Frame} {meth : Method} {c : Code} {Q : State → Prop} {H0 : Heap} (hx : p.tables.exec = Jvm.exec) (hb : c.code = cX5_spill) (hml : c.maxLocals = 4) (hown : s.vm.findClass RX5 = some m.cls) (hts : ∀ w ∈ wsX5_spill, w.before args s = true) (hK : wd_K D cI cJ s) (hh : ad_ok h 20) (hn : n ≤ 100) (r : Nat) (hr9 : r < n) (hf : f < 40) (hb9 : b ≤ 40) (z : Nat) (hz : Sz r = nI z) (hz8 : z ≤ 8) (kk0 : ∀ (M R : Nat → Int32) (c9 : Nat), spS r f (Mb, Ri, b) z = (M, R, c9) → ∀ (H : Heap) (locs : List Loc), va_P D kC (sl_W cI cJ h (nI n) F Wt Sz Nu M (nI k) G Wk To Sl R (nI f) (nI c9) oT oS oF (nI an) (nI as) Fo wo pa fa) H → va_S (ad_A h 20) H0 H locs → ∀ (ls : Array Slot), lv_has ls 4 [(2, .int (nI z)), (0, .ref (h 0)), (1, .int (nI r))] → W p l e (headSpec wsX5_spill { frames := 5, cells := 0, slots := 0, locals := 160 }).room s m args below meth c H locs 0 0 Q (F0 m 2 ls [])) : ∀ (d : Nat) (y : Nat) , y + d = z → ∀ (M R : Nat → Int32) (c9 : Nat), spS r f (Mb, Ri, b) y = (M, R, c9) → ∀ (H : Heap) (locs : List Loc), va_P D kC (sl_W cI cJ h (nI n) F Wt Sz Nu M (nI k) G Wk To Sl R (nI f) (nI c9) oT oS oF (nI an) (nI as) Fo wo pa fa) H → va_S (ad_A h 20) H0 H locs → ∀ (ls : Array Slot), lv_has ls 4 [(2, .int (nI y)), (0, .ref (h 0)), (1, .int (nI r))] → W p l e (headSpec wsX5_spill { frames := 5, cells := 0, slots := 0, locals := 160 }).room s m args below meth c H locs 0 0 Q (F0 m 2 ls []) := by
  have hiX5 : ∀ w ∈ u_ws RX5 TX5 5, w ∈ wsX5_spill := by decide +kernel
  have kf10 := hts (.fieldLink RX5 10 "SortingLine" "things" "LSortingLine$Things;") (by decide +kernel)
  have kf26 := hts (.fieldLink RX5 26 "SortingLine" "onBelt" "LSortingLine$Belt;") (by decide +kernel)
  intro d
  induction d with
  | zero =>
    intro y hi M R c9 hs9 H locs hP hS ls hl
    have hc99 : c9 ≤ 40 := by have h9 := spS_le r f (Mb, Ri, b) hb9 y; rw [hs9] at h9; exact h9
    exact kk0 M R c9 (by rw [← show y = z by omega]; exact hs9) H locs hP hS ls (by rw [← show y = z by omega]; exact hl)
  | succ d ih =>
    intro y hi M R c9 hs9 H locs hP hS ls hl
    have hc99 : c9 ≤ 40 := by have h9 := spS_le r f (Mb, Ri, b) hb9 y; rw [hs9] at h9; exact h9
    refine lv_iload_n hx hb dX5_spill_2 rfl (lv_at hl 0 rfl) ?_
    refine lv_aload_n hx hb dX5_spill_3 rfl (lv_at hl 1 rfl) ?_
    refine va_get (D := D) (ci := 5) (v := .ref (h 1)) (C := RX5) (T := TX5) (N := 5) hx hb hts hiX5 hown hK.1 hP 0 rfl rfl 0 (by decide) kf10 (fun _ h9 => h9) rfl dX5_spill_4 ?_
    refine lv_iload_n hx hb dX5_spill_7 rfl (lv_at hl 2 rfl) ?_
    refine pu_calli (va_runV (As := [.int (nI r)]) (rest := [.int (nI y)]) ⟨hx, hb, hml, hown, hts⟩ (c_X4_sizeOf hh hn r (by omega)) (cwV 1 hts gX5_spill_X4_sizeOf rfl rfl rfl (by decide +kernel) ⟨Nat.le_of_ble_eq_true rfl, Nat.le_of_ble_eq_true rfl⟩) (wd_preV (ci := 4) (q0 := 1) hP hK rfl rfl) rfl rfl hl.1 rfl (lv_room (Nat.le_of_ble_eq_true rfl)) dX5_spill_8 ⟨Nat.zero_le _, Nat.zero_le _⟩) ?_
    refine tp_i (y := nI z) (hz) ?_
    refine lv_icmp_ge (tgt := 58) hx hb dX5_spill_11 (by decide) (fun h9 => absurd h9 (nI_ge (by omega) (by omega))) (fun _ => ?_)
    refine lv_aload_n hx hb dX5_spill_14 rfl (lv_at hl 1 rfl) ?_
    refine va_get (D := D) (ci := 5) (v := .ref (h 1)) (C := RX5) (T := TX5) (N := 5) hx hb hts hiX5 hown hK.1 hP 0 rfl rfl 0 (by decide) kf10 (fun _ h9 => h9) rfl dX5_spill_15 ?_
    refine lv_iload_n hx hb dX5_spill_18 rfl (lv_at hl 2 rfl) ?_
    refine lv_iload_n hx hb dX5_spill_19 rfl (lv_at hl 0 rfl) ?_
    refine pu_calli (va_runV (As := [.int (nI r), .int (nI y)]) (rest := []) ⟨hx, hb, hml, hown, hts⟩ (c_X4_memberAt hh hn r (by omega) y (by omega) (by rw [hz]; exact p_in_nI (by omega) (by omega))) (cwV 2 hts gX5_spill_X4_memberAt rfl rfl rfl (by decide +kernel) ⟨Nat.le_of_ble_eq_true rfl, Nat.le_of_ble_eq_true rfl⟩) (wd_preV (ci := 4) (q0 := 1) hP hK rfl rfl) rfl rfl hl.1 rfl (lv_room (Nat.le_of_ble_eq_true rfl)) dX5_spill_20 ⟨Nat.zero_le _, Nat.zero_le _⟩) ?_
    refine lv_istore_n (lv' := [(3, .int (M (8 * r + y))), (2, .int (nI y)), (0, .ref (h 0)), (1, .int (nI r))]) hx hb dX5_spill_23 rfl hl (by decide) rfl (fun ls hl => ?_)
    refine lv_iload_n hx hb dX5_spill_24 rfl (lv_at hl 0 rfl) ?_
    refine lv_bipush (v := (-5)) hx hb dX5_spill_25 (by decide) ?_
    refine lv_icmp_eq (tgt := 52) hx hb dX5_spill_27 (by decide) (fun c27 => ?_) (fun c27 => ?_)
    · skip
      have lem := spS_n hs9 c27
      refine lv_iinc (v := nI (y + 1)) (lv' := [(2, .int (nI (y + 1))), (3, .int (M (8 * r + y))), (0, .ref (h 0)), (1, .int (nI r))]) hx hb dX5_spill_52 hl (k := 1) rfl (nI_add y 1) (by decide) rfl (fun ls hl => ?_)
      refine lv_goto (tgt := 2) hx hb dX5_spill_55 (by decide) ?_
      exact ih (y + 1) (by omega) _ _ _ lem H locs hP hS ls (lv_sub hl [0, 2, 3] rfl)
    · skip
      refine lv_aload_n hx hb dX5_spill_30 rfl (lv_at hl 2 rfl) ?_
      refine va_get (D := D) (ci := 5) (v := .ref (h 3)) (C := RX5) (T := TX5) (N := 5) hx hb hts hiX5 hown hK.1 hP 0 rfl rfl 2 (by decide) kf26 (fun _ h9 => h9) rfl dX5_spill_31 ?_
      refine lv_iload_n hx hb dX5_spill_34 rfl (lv_at hl 0 rfl) ?_
      rcases Nat.lt_or_ge c9 40 with hc9 | hc9
      · skip
        have lem := spS_o hs9 c27 hc9
        refine mu_calli (va_runV (As := [.int (M (8 * r + y))]) (rest := []) ⟨hx, hb, hml, hown, hts⟩ (c_X0_append hh hf hc9 (M (8 * r + y))) (cwV 1 hts gX5_spill_X0_append rfl rfl rfl (by decide +kernel) ⟨Nat.le_of_ble_eq_true rfl, Nat.le_of_ble_eq_true rfl⟩) (wd_preV (ci := 0) (q0 := 3) hP hK rfl rfl) rfl rfl hl.1 rfl (lv_room (Nat.le_of_ble_eq_true rfl)) dX5_spill_35 ⟨Nat.zero_le _, Nat.zero_le _⟩) hS (fun H locs hP hS => ?_)
        have hP : va_P D kC (sl_W cI cJ h (nI n) F Wt Sz Nu M (nI k) G Wk To Sl (upd R ((f + c9) % 40) (M (8 * r + y))) (nI f) (nI (c9 + 1)) oT oS oF (nI an) (nI as) Fo wo pa fa) H := hP
        refine lv_if_eq (tgt := 52) hx hb dX5_spill_38 (by decide) (fun h9 => absurd h9 (by decide)) (fun _ => ?_)
        refine lv_aload_n hx hb dX5_spill_41 rfl (lv_at hl 2 rfl) ?_
        refine va_get (D := D) (ci := 5) (v := .ref (h 1)) (C := RX5) (T := TX5) (N := 5) hx hb hts hiX5 hown hK.1 hP 0 rfl rfl 0 (by decide) kf10 (fun _ h9 => h9) rfl dX5_spill_42 ?_
        refine lv_iload_n hx hb dX5_spill_45 rfl (lv_at hl 3 rfl) ?_
        refine lv_iload_n hx hb dX5_spill_46 rfl (lv_at hl 1 rfl) ?_
        refine lv_bipush (v := (-5)) hx hb dX5_spill_47 (by decide) ?_
        refine mu_callv (va_runV (As := [.int (nI r), .int (nI y), .int (-5)]) (rest := []) ⟨hx, hb, hml, hown, hts⟩ (c_X4_setMember hh hn r (by omega) y (by omega) (by rw [hz]; exact p_in_nI (by omega) (by omega)) (-5)) (cwV 3 hts gX5_spill_X4_setMember rfl rfl rfl (by decide +kernel) ⟨Nat.le_of_ble_eq_true rfl, Nat.le_of_ble_eq_true rfl⟩) (wd_preV (ci := 4) (q0 := 1) hP hK rfl rfl) rfl rfl hl.1 rfl (lv_room (Nat.le_of_ble_eq_true rfl)) dX5_spill_49 ⟨Nat.zero_le _, Nat.zero_le _⟩) hS (fun H locs hP hS => ?_)
        have hP : va_P D kC (sl_W cI cJ h (nI n) F Wt Sz Nu (upd M (8 * r + y) (-5)) (nI k) G Wk To Sl (upd R ((f + c9) % 40) (M (8 * r + y))) (nI f) (nI (c9 + 1)) oT oS oF (nI an) (nI as) Fo wo pa fa) H := hP
        refine lv_iinc (v := nI (y + 1)) (lv' := [(2, .int (nI (y + 1))), (3, .int (M (8 * r + y))), (0, .ref (h 0)), (1, .int (nI r))]) hx hb dX5_spill_52 hl (k := 1) rfl (nI_add y 1) (by decide) rfl (fun ls hl => ?_)
        refine lv_goto (tgt := 2) hx hb dX5_spill_55 (by decide) ?_
        exact ih (y + 1) (by omega) _ _ _ lem H locs hP hS ls (lv_sub hl [0, 2, 3] rfl)
      · skip
        have lem := spS_f hs9 c27 (Nat.not_lt.mpr hc9)
        have hc40 : c9 = 40 := Nat.le_antisymm hc99 hc9
        refine pu_calli (va_runV (As := [.int (M (8 * r + y))]) (rest := []) ⟨hx, hb, hml, hown, hts⟩ (c_X0_appendF hh hc40 (M (8 * r + y))) (cwV 1 hts gX5_spill_X0_append rfl rfl rfl (by decide +kernel) ⟨Nat.le_of_ble_eq_true rfl, Nat.le_of_ble_eq_true rfl⟩) (wd_preV (ci := 0) (q0 := 3) hP hK rfl rfl) rfl rfl hl.1 rfl (lv_room (Nat.le_of_ble_eq_true rfl)) dX5_spill_35 ⟨Nat.zero_le _, Nat.zero_le _⟩) ?_
        refine lv_if_eq (tgt := 52) hx hb dX5_spill_38 (by decide) (fun _ => ?_) (fun h9 => absurd (by decide) h9)
        refine lv_iinc (v := nI (y + 1)) (lv' := [(2, .int (nI (y + 1))), (3, .int (M (8 * r + y))), (0, .ref (h 0)), (1, .int (nI r))]) hx hb dX5_spill_52 hl (k := 1) rfl (nI_add y 1) (by decide) rfl (fun ls hl => ?_)
        refine lv_goto (tgt := 2) hx hb dX5_spill_55 (by decide) ?_
        exact ih (y + 1) (by omega) _ _ _ lem H locs hP hS ls (lv_sub hl [0, 2, 3] rfl)
set_option maxHeartbeats 4000000 in
set_option maxRecDepth 100000 in
theorem c_X5_spill (hh : ad_ok h 20) (hn : n ≤ 100) (r : Nat) (hr9 : r < n) (hf : f < 40) (hb9 : b ≤ 40) (z : Nat) (hz : Sz r = nI z) (hz8 : z ≤ 8) (M9 R9 : Nat → Int32) (b9 : Nat) (hs8 : spS r f (Mb, Ri, b) z = (M9, R9, b9)) : Met l yX5_spill wsX5_spill ({ frames := 5, cells := 0, slots := 0, locals := 160 }) (wd_P D cI cJ [.ref (h 0), .int (nI r)] (sl_W cI cJ h (nI n) F Wt Sz Nu Mb (nI k) G Wk To Sl Ri (nI f) (nI b) oT oS oF (nI an) (nI as) Fo wo pa fa)) (mu_Q D (ad_A h 20) (some (.int 0)) (sl_W cI cJ h (nI n) F Wt Sz Nu M9 (nI k) G Wk To Sl R9 (nI f) (nI b9) oT oS oF (nI an) (nI as) Fo wo pa fa)) 0 0 (ad_A h 20) := by
  refine Met.ofW (cc := cX5_spill) (maxL := 4) (ret := (some .int)) (by decide) rfl ?_
  intro p e s m args below meth c s₁ B hml hv
  obtain ⟨rfl, hP, hK⟩ := hv
  have hx := B.exec
  have hb := B.bytes
  have hr := B.returns
  have hts := atoms_spec (ws := wsX5_spill) B.pre
  have hown : s.vm.findClass RX5 = some m.cls := findClass_of_methodNamed B.named
  have hlocks := B.notSynchronized
  have hiX5 : ∀ w ∈ u_ws RX5 TX5 5, w ∈ wsX5_spill := by decide +kernel
  have kf10 := hts (.fieldLink RX5 10 "SortingLine" "things" "LSortingLine$Things;") (by decide +kernel)
  have hS : va_S (ad_A h 20) s.heap s.heap [] := va_S.rf
  have hl := lv_entry ([.ref (h 0), .int (nI r)]) (n := 4) (Nat.le_of_ble_eq_true rfl)
  rw [lg_entry_eq]
  generalize (lg_sl ([.ref (h 0), .int (nI r)]) ++ List.replicate (4 - (lg_sl ([.ref (h 0), .int (nI r)])).length) Slot.unset).toArray = ls at hl ⊢
  have hl : lv_has ls 4 [(0, .ref (h 0)), (1, .int (nI r))] := hl
  refine lv_iconst (v := 0) hx hb dX5_spill_0 (by decide) ?_
  refine lv_istore_n (lv' := [(2, .int 0), (0, .ref (h 0)), (1, .int (nI r))]) hx hb dX5_spill_1 rfl hl (by decide) rfl (fun ls hl => ?_)
  refine lp_X5_spill hx hb hml hown hts hK hh hn r hr9 hf hb9 z hz hz8 (fun M R c9 hs9 H locs hP hS ls hl => ?_) z 0 (by omega) _ _ _ rfl _ _ hP hS ls (lv_sub hl [0, 1, 2] rfl)
  refine lv_iload_n hx hb dX5_spill_2 rfl (lv_at hl 0 rfl) ?_
  refine lv_aload_n hx hb dX5_spill_3 rfl (lv_at hl 1 rfl) ?_
  refine va_get (D := D) (ci := 5) (v := .ref (h 1)) (C := RX5) (T := TX5) (N := 5) hx hb hts hiX5 hown hK.1 hP 0 rfl rfl 0 (by decide) kf10 (fun _ h9 => h9) rfl dX5_spill_4 ?_
  refine lv_iload_n hx hb dX5_spill_7 rfl (lv_at hl 2 rfl) ?_
  refine pu_calli (va_runV (As := [.int (nI r)]) (rest := [.int (nI z)]) ⟨hx, hb, hml, hown, hts⟩ (c_X4_sizeOf hh hn r (by omega)) (cwV 1 hts gX5_spill_X4_sizeOf rfl rfl rfl (by decide +kernel) ⟨Nat.le_of_ble_eq_true rfl, Nat.le_of_ble_eq_true rfl⟩) (wd_preV (ci := 4) (q0 := 1) hP hK rfl rfl) rfl rfl hl.1 rfl (lv_room (Nat.le_of_ble_eq_true rfl)) dX5_spill_8 ⟨Nat.zero_le _, Nat.zero_le _⟩) ?_
  refine tp_i (y := nI z) (hz) ?_
  refine lv_icmp_ge (tgt := 58) hx hb dX5_spill_11 (by decide) (fun _ => ?_) (fun h9 => absurd (nI_le (Nat.le_refl _) (by omega)) h9)
  refine lv_iconst (v := 0) hx hb dX5_spill_58 (by decide) ?_
  exact W.iret (v := 0) hx hb hr (fun t9 ht _ => ⟨congrArg (fun z => Outcome.returned (some (Value.int z))) (rfl), by rw [ht]; exact va_P_cast hP (by obtain ⟨rfl, rfl, rfl⟩ : M = M9 ∧ R = R9 ∧ c9 = b9 := (by have h9 := hs9.symm.trans hs8; simpa using h9); rfl), hS.F ht⟩) hS.2.2 dX5_spill_59
end SubD
