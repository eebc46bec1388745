/-! the reference's works, outcome by outcome (works' contracts all have one room) -/
def spR (r : Nat) (st : (Nat → Int32) × (Nat → Int32) × Nat) : Nat → (Nat → Int32) × (Nat → Int32) × Nat
  | 0 => st
  | i + 1 => if (spR r st i).1 (8 * r + i) < 0 then spR r st i else if (spR r st i).2.2 < 40 then (upd (spR r st i).1 (8 * r + i) (-1), upd (spR r st i).2.1 (spR r st i).2.2 ((spR r st i).1 (8 * r + i)), (spR r st i).2.2 + 1) else spR r st i
theorem spR_le (r : Nat) (st : (Nat → Int32) × (Nat → Int32) × Nat) (h : st.2.2 ≤ 40) : ∀ i, (spR r st i).2.2 ≤ 40 := by
  intro i
  induction i with
  | zero => exact h
  | succ i ih =>
    unfold spR
    split
    · exact ih
    · split
      · show _ + 1 ≤ 40; omega
      · exact ih
theorem spR_n {r i : Nat} {st : (Nat → Int32) × (Nat → Int32) × Nat} {M R : Nat → Int32} {c : Nat} (e : spR r st i = (M, R, c)) (h : M (8 * r + i) < 0) : spR r st (i + 1) = (M, R, c) := by
  rw [spR, e]; exact if_pos h
theorem spR_o {r i : Nat} {st : (Nat → Int32) × (Nat → Int32) × Nat} {M R : Nat → Int32} {c : Nat} (e : spR r st i = (M, R, c)) (h : ¬ M (8 * r + i) < 0) (h2 : c < 40) : spR r st (i + 1) = (upd M (8 * r + i) (-1), upd R c (M (8 * r + i)), c + 1) := by
  rw [spR, e]; dsimp only; rw [if_neg h, if_pos h2]
theorem spR_f {r i : Nat} {st : (Nat → Int32) × (Nat → Int32) × Nat} {M R : Nat → Int32} {c : Nat} (e : spR r st i = (M, R, c)) (h2 : ¬ c < 40) : spR r st (i + 1) = (M, R, c) := by
  rw [spR, e]; dsimp only
  by_cases h : M (8 * r + i) < 0
  · rw [if_pos h]
  · rw [if_neg h, if_neg h2]
theorem spR_full {r i : Nat} {st : (Nat → Int32) × (Nat → Int32) × Nat} {M R : Nat → Int32} {c : Nat} (e : spR r st i = (M, R, c)) (h2 : ¬ c < 40) : ∀ d, spR r st (i + d) = (M, R, c) := by
  intro d
  induction d with
  | zero => exact e
  | succ d ih => exact spR_f ih h2
theorem up_self {f : Nat → Int32} {i : Nat} : upd f i (f i) = f := by
  funext j
  unfold upd
  split
  · rename_i h; rw [h]
  · rfl
theorem upL_0 {f : Nat → Int64} {i : Nat} : vp_updL f i (f i + 0) = f := by
  funext j
  unfold vp_updL
  split
  · rename_i h; rw [h, Int64.add_zero]
  · rfl
theorem upL_2 {f : Nat → Int64} {i : Nat} {x y : Int64} : vp_updL (vp_updL f i x) i y = vp_updL f i y := by
  funext j
  unfold vp_updL
  split <;> rfl
theorem upL_at {f : Nat → Int64} {i : Nat} {x : Int64} : vp_updL f i x i = x := by simp [vp_updL]
section MoB
variable {l : Launch} {D : va_G} {cI cJ : ClassId} {g : Nat → Nat} {n k b as : Nat} {fx : Int32} {F Wt Sz : Nat → Int32} {Nu : Nat → Int64} {Pl Bf G Wk : Nat → Int32} {To : Nat → Int64} {Sl Sd Fo : Nat → Int32} {wo pa fa : Int32}
set_option maxHeartbeats 4000000 in
set_option maxRecDepth 100000 in
theorem lp_X6_heaph {p : Program} {e : Env} {s : State} {m : MethodId} {args : Array Value} {below : List Frame} {meth : Method} {c : Code} {Q : State → Prop} {H : Heap} {locs : List Loc} (hx : p.tables.exec = Jvm.exec) (hb : c.code = cX6_heaps) (hml : c.maxLocals = 8) (hown : s.vm.findClass RX6 = some m.cls) (hts : ∀ w ∈ wsX6_heaps, w.before args s = true) (hK : wd_K D cI cJ s) (hP : va_P D kC (mo_W cI cJ g fx (nI n) F Wt Sz Nu Pl Bf (nI b) (nI k) G Wk To Sl Sd (nI as) wo pa fa Fo) H) (hh : ad_ok g 16) (hn : n ≤ 100) (hk : k ≤ 8) (r : Nat) (hr9 : r < n) (i : Nat) (hi : i < k) (z q : Nat) (hz : Sz r = nI z) (hz8 : z ≤ 8) (hq : q ≤ z) (hv : ∀ j, j < q → ∃ p9, p9 < n ∧ Pl (8 * r + j) = nI p9) (kk0 : ∀ (_ : Nat), True → ∀ (ls : Array Slot), lv_has ls 8 [(6, .int (nI q)), (4, .long (msum Wt Pl (8 * r) q)), (0, .ref (g 0)), (1, .int (nI i)), (2, .int (nI r)), (3, .int 0)] → W p l e (headSpec wsX6_heaps { frames := 5, cells := 0, slots := 0, locals := 200 }).room s m args below meth c H locs 0 0 Q (F0 m 6 ls [])) : ∀ (d : Nat) (y : Nat), y + d = q → ∀ (ls : Array Slot), lv_has ls 8 [(6, .int (nI y)), (4, .long (msum Wt Pl (8 * r) y)), (0, .ref (g 0)), (1, .int (nI i)), (2, .int (nI r)), (3, .int 0)] → W p l e (headSpec wsX6_heaps { frames := 5, cells := 0, slots := 0, locals := 200 }).room s m args below meth c H locs 0 0 Q (F0 m 6 ls []) := by
  have hiX6 : ∀ w ∈ u_ws RX6 TX6 23, w ∈ wsX6_heaps := by decide +kernel
  have kf16 := hts (.fieldLink RX6 16 "SortingLineModel" "sizes" "[I") (by decide +kernel)
  have kf23 := hts (.fieldLink RX6 23 "SortingLineModel" "places" "[I") (by decide +kernel)
  have kf13 := hts (.fieldLink RX6 13 "SortingLineModel" "weights" "[I") (by decide +kernel)
  intro d
  induction d with
  | zero =>
    intro y hi ls hl
    obtain rfl : y = q := by omega
    exact kk0 0 trivial ls hl
  | succ d ih =>
    intro y hi ls hl
    obtain ⟨p9, hpn, hp9⟩ := hv y (by omega)
    refine lv_iload hx hb dX6_heaps_6 (lv_at hl 0 rfl) ?_
    refine lv_aload_n hx hb dX6_heaps_8 rfl (lv_at hl 2 rfl) ?_
    refine va_get (D := D) (ci := 6) (v := .ref (g 3)) (C := RX6) (T := TX6) (N := 23) hx hb hts hiX6 hown hK.1 hP 0 rfl rfl 4 (by decide) kf16 (fun _ h9 => h9) rfl dX6_heaps_9 ?_
    refine lv_iload_n hx hb dX6_heaps_12 rfl (lv_at hl 4 rfl) ?_
    refine ga_ild hx hb hK hP 3 rfl r (rfl) (by omega) (by decide) dX6_heaps_13 ?_
    refine tp_i (y := nI z) (hz) ?_
    refine lv_icmp_ge (tgt := 71) hx hb dX6_heaps_14 (by decide) (fun h9 => absurd h9 (nI_ge (by omega) (by omega))) (fun _ => ?_)
    refine lv_aload_n hx hb dX6_heaps_17 rfl (lv_at hl 2 rfl) ?_
    refine va_get (D := D) (ci := 6) (v := .ref (g 5)) (C := RX6) (T := TX6) (N := 23) hx hb hts hiX6 hown hK.1 hP 0 rfl rfl 6 (by decide) kf23 (fun _ h9 => h9) rfl dX6_heaps_18 ?_
    refine lv_bipush (v := 8) hx hb dX6_heaps_21 (by decide) ?_
    refine lv_iload_n hx hb dX6_heaps_23 rfl (lv_at hl 4 rfl) ?_
    refine lv_imul hx hb dX6_heaps_24 ?_
    refine tp_i (y := nI (8 * r)) (pk_mul 8 r) ?_
    refine lv_iload hx hb dX6_heaps_25 (lv_at hl 0 rfl) ?_
    refine lv_iadd hx hb dX6_heaps_27 ?_
    refine tp_i (y := nI ((8 * r) + y)) (nI_add (8 * r) y) ?_
    refine ga_ild hx hb hK hP 5 rfl ((8 * r) + y) (rfl) (by omega) (by decide) dX6_heaps_28 ?_
    refine tp_i (y := nI p9) (hp9) ?_
    refine lv_istore (lv' := [(7, .int (nI p9)), (6, .int (nI y)), (4, .long (msum Wt Pl (8 * r) y)), (0, .ref (g 0)), (1, .int (nI i)), (2, .int (nI r)), (3, .int 0)]) hx hb dX6_heaps_29 hl (by decide) rfl (fun ls hl => ?_)
    refine lv_iload hx hb dX6_heaps_31 (lv_at hl 0 rfl) ?_
    refine lv_if_ge (tgt := 38) hx hb dX6_heaps_33 (by decide) (fun _ => ?_) (fun h9 => absurd (nI_pos' (by omega)) h9)
    refine lv_lload hx hb dX6_heaps_38 (lv_at hl 2 rfl) ?_
    refine lv_iload_n hx hb dX6_heaps_40 rfl (lv_at hl 6 rfl) ?_
    refine lv_if_eq (tgt := 54) hx hb dX6_heaps_41 (by decide) (fun _ => ?_) (fun h9 => absurd (by decide) h9)
    refine lv_aload_n hx hb dX6_heaps_54 rfl (lv_at hl 3 rfl) ?_
    refine va_get (D := D) (ci := 6) (v := .ref (g 2)) (C := RX6) (T := TX6) (N := 23) hx hb hts hiX6 hown hK.1 hP 0 rfl rfl 3 (by decide) kf13 (fun _ h9 => h9) rfl dX6_heaps_55 ?_
    refine lv_iload hx hb dX6_heaps_58 (lv_at hl 0 rfl) ?_
    refine ga_ild hx hb hK hP 2 rfl p9 (rfl) (by omega) (by decide) dX6_heaps_60 ?_
    refine lv_i2l (v := Int32.toInt64 (Wt p9)) hx hb dX6_heaps_61 (rfl) ?_
    refine lv_ladd hx hb dX6_heaps_62 ?_
    refine lv_lstore (lv' := [(4, .long ((msum Wt Pl (8 * r) y) + (Int32.toInt64 (Wt p9)))), (7, .int (nI p9)), (6, .int (nI y)), (0, .ref (g 0)), (1, .int (nI i)), (2, .int (nI r)), (3, .int 0)]) hx hb dX6_heaps_63 hl (by decide) rfl (fun ls hl => ?_)
    refine lv_iinc (v := nI (y + 1)) (lv' := [(6, .int (nI (y + 1))), (4, .long ((msum Wt Pl (8 * r) y) + (Int32.toInt64 (Wt p9)))), (7, .int (nI p9)), (0, .ref (g 0)), (1, .int (nI i)), (2, .int (nI r)), (3, .int 0)]) hx hb dX6_heaps_65 hl (k := 2) rfl (nI_add y 1) (by decide) rfl (fun ls hl => ?_)
    refine lv_goto (tgt := 6) hx hb dX6_heaps_68 (by decide) ?_
    exact ih (y + 1) (by omega) ls (lv_sub hl [0, 1, 3, 4, 5, 6] (by rw [show msum Wt Pl (8 * r) (y + 1) = msum Wt Pl (8 * r) y + Int32.toInt64 (Wt p9) from by rw [msum, hp9, nI_clamp (by omega)]]; rfl))
set_option maxHeartbeats 4000000 in
set_option maxRecDepth 100000 in
theorem c_X6_heaph_o (hh : ad_ok g 16) (hn : n ≤ 100) (hk : k ≤ 8) (r : Nat) (hr9 : r < n) (i : Nat) (hi : i < k) (z q : Nat) (hz : Sz r = nI z) (hz8 : z ≤ 8) (hq : q ≤ z) (hv : ∀ j, j < q → ∃ p9, p9 < n ∧ Pl (8 * r + j) = nI p9) (hqz : q = z) : Met l yX6_heaps wsX6_heaps ({ frames := 5, cells := 0, slots := 0, locals := 200 }) (wd_P D cI cJ [.ref (g 0), .int (nI i), .int (nI r), .int 0] (mo_W cI cJ g fx (nI n) F Wt Sz Nu Pl Bf (nI b) (nI k) G Wk To Sl Sd (nI as) wo pa fa Fo)) (mu_Q D (ad_A g 16) (some (.int 0)) (mo_W cI cJ g fx (nI n) F Wt Sz Nu Pl Bf (nI b) (nI k) G Wk (vp_updL To i (To i + msum Wt Pl (8 * r) q)) Sl Sd (nI as) wo pa fa Fo)) 0 0 (ad_A g 16) := by
  refine Met.ofW (cc := cX6_heaps) (maxL := 8) (ret := (some .int)) (by decide) rfl ?_
  intro p e s m args below meth c s₁ B hml hv
  obtain ⟨rfl, hP, hK⟩ := hv
  have hx := B.exec
  have hb := B.bytes
  have hr := B.returns
  have hts := atoms_spec (ws := wsX6_heaps) B.pre
  have hown : s.vm.findClass RX6 = some m.cls := findClass_of_methodNamed B.named
  have hlocks := B.notSynchronized
  have hiX6 : ∀ w ∈ u_ws RX6 TX6 23, w ∈ wsX6_heaps := by decide +kernel
  have kf16 := hts (.fieldLink RX6 16 "SortingLineModel" "sizes" "[I") (by decide +kernel)
  have kf47 := hts (.fieldLink RX6 47 "SortingLineModel" "totals" "[J") (by decide +kernel)
  have hS : va_S (ad_A g 16) s.heap s.heap [] := va_S.rf
  have hl := lv_entry ([.ref (g 0), .int (nI i), .int (nI r), .int 0]) (n := 8) (Nat.le_of_ble_eq_true rfl)
  rw [lg_entry_eq]
  generalize (lg_sl ([.ref (g 0), .int (nI i), .int (nI r), .int 0]) ++ List.replicate (8 - (lg_sl ([.ref (g 0), .int (nI i), .int (nI r), .int 0])).length) Slot.unset).toArray = ls at hl ⊢
  have hl : lv_has ls 8 [(0, .ref (g 0)), (1, .int (nI i)), (2, .int (nI r)), (3, .int 0)] := hl
  refine lv_lconst (v := 0) hx hb dX6_heaps_0 (by decide) ?_
  refine lv_lstore (lv' := [(4, .long 0), (0, .ref (g 0)), (1, .int (nI i)), (2, .int (nI r)), (3, .int 0)]) hx hb dX6_heaps_1 hl (by decide) rfl (fun ls hl => ?_)
  refine lv_iconst (v := 0) hx hb dX6_heaps_3 (by decide) ?_
  refine lv_istore (lv' := [(6, .int 0), (4, .long 0), (0, .ref (g 0)), (1, .int (nI i)), (2, .int (nI r)), (3, .int 0)]) hx hb dX6_heaps_4 hl (by decide) rfl (fun ls hl => ?_)
  refine lp_X6_heaph hx hb hml hown hts hK hP hh hn hk r hr9 i hi z q hz hz8 hq hv (fun _ _ ls hl => ?_) q 0 (by omega) ls (lv_sub hl [0, 1, 2, 3, 4, 5] rfl)
  refine lv_iload hx hb dX6_heaps_6 (lv_at hl 0 rfl) ?_
  refine lv_aload_n hx hb dX6_heaps_8 rfl (lv_at hl 2 rfl) ?_
  refine va_get (D := D) (ci := 6) (v := .ref (g 3)) (C := RX6) (T := TX6) (N := 23) hx hb hts hiX6 hown hK.1 hP 0 rfl rfl 4 (by decide) kf16 (fun _ h9 => h9) rfl dX6_heaps_9 ?_
  refine lv_iload_n hx hb dX6_heaps_12 rfl (lv_at hl 4 rfl) ?_
  refine ga_ild hx hb hK hP 3 rfl r (rfl) (by omega) (by decide) dX6_heaps_13 ?_
  refine tp_i (y := nI z) (hz) ?_
  refine lv_icmp_ge (tgt := 71) hx hb dX6_heaps_14 (by decide) (fun _ => ?_) (fun h9 => absurd (nI_le (by omega) (by omega)) h9)
  refine lv_aload_n hx hb dX6_heaps_71 rfl (lv_at hl 2 rfl) ?_
  refine va_get (D := D) (ci := 6) (v := .ref (g 12)) (C := RX6) (T := TX6) (N := 23) hx hb hts hiX6 hown hK.1 hP 0 rfl rfl 15 (by decide) kf47 (fun _ h9 => h9) rfl dX6_heaps_72 ?_
  refine lv_iload_n hx hb dX6_heaps_75 rfl (lv_at hl 3 rfl) ?_
  refine lv_dup2_11 hx hb dX6_heaps_76 rfl rfl ?_
  refine ga_lld hx hb hK hP 12 rfl i (rfl) (by omega) (by decide) dX6_heaps_77 ?_
  refine lv_lload hx hb dX6_heaps_78 (lv_at hl 1 rfl) ?_
  refine lv_ladd hx hb dX6_heaps_80 ?_
  refine ga_lst hx hb hK hP (mo_D hh) hS 12 rfl i (rfl) (by omega) (by decide) dX6_heaps_81 (fun H locs hP hS => ?_)
  have hP : va_P D kC (mo_W cI cJ g fx (nI n) F Wt Sz Nu Pl Bf (nI b) (nI k) G Wk (vp_updL To i ((To i) + (msum Wt Pl (8 * r) q))) Sl Sd (nI as) wo pa fa Fo) H := hP
  refine lv_iconst (v := 0) hx hb dX6_heaps_82 (by decide) ?_
  exact W.iret (v := 0) hx hb hr (fun t9 ht _ => ⟨congrArg (fun z => Outcome.returned (some (Value.int z))) (rfl), by rw [ht]; exact hP, hS.F ht⟩) hS.2.2 dX6_heaps_83
set_option maxHeartbeats 4000000 in
set_option maxRecDepth 100000 in
theorem c_X6_heaph_n (hh : ad_ok g 16) (hn : n ≤ 100) (hk : k ≤ 8) (r : Nat) (hr9 : r < n) (i : Nat) (hi : i < k) (z q : Nat) (hz : Sz r = nI z) (hz8 : z ≤ 8) (hq : q ≤ z) (hv : ∀ j, j < q → ∃ p9, p9 < n ∧ Pl (8 * r + j) = nI p9) (hqz : q < z) (hnq : Pl (8 * r + q) = -1) : Met l yX6_heaps wsX6_heaps ({ frames := 5, cells := 0, slots := 0, locals := 200 }) (wd_P D cI cJ [.ref (g 0), .int (nI i), .int (nI r), .int 0] (mo_W cI cJ g fx (nI n) F Wt Sz Nu Pl Bf (nI b) (nI k) G Wk To Sl Sd (nI as) wo pa fa Fo)) (pu_Q (some (.int 2))) 0 0 (fun _ => False) := by
  refine Met.ofW (cc := cX6_heaps) (maxL := 8) (ret := (some .int)) (by decide) rfl ?_
  intro p e s m args below meth c s₁ B hml hv
  obtain ⟨rfl, hP, hK⟩ := hv
  have hx := B.exec
  have hb := B.bytes
  have hr := B.returns
  have hts := atoms_spec (ws := wsX6_heaps) B.pre
  have hown : s.vm.findClass RX6 = some m.cls := findClass_of_methodNamed B.named
  have hlocks := B.notSynchronized
  have hiX6 : ∀ w ∈ u_ws RX6 TX6 23, w ∈ wsX6_heaps := by decide +kernel
  have kf16 := hts (.fieldLink RX6 16 "SortingLineModel" "sizes" "[I") (by decide +kernel)
  have kf23 := hts (.fieldLink RX6 23 "SortingLineModel" "places" "[I") (by decide +kernel)
  have hl := lv_entry ([.ref (g 0), .int (nI i), .int (nI r), .int 0]) (n := 8) (Nat.le_of_ble_eq_true rfl)
  rw [lg_entry_eq]
  generalize (lg_sl ([.ref (g 0), .int (nI i), .int (nI r), .int 0]) ++ List.replicate (8 - (lg_sl ([.ref (g 0), .int (nI i), .int (nI r), .int 0])).length) Slot.unset).toArray = ls at hl ⊢
  have hl : lv_has ls 8 [(0, .ref (g 0)), (1, .int (nI i)), (2, .int (nI r)), (3, .int 0)] := hl
  refine lv_lconst (v := 0) hx hb dX6_heaps_0 (by decide) ?_
  refine lv_lstore (lv' := [(4, .long 0), (0, .ref (g 0)), (1, .int (nI i)), (2, .int (nI r)), (3, .int 0)]) hx hb dX6_heaps_1 hl (by decide) rfl (fun ls hl => ?_)
  refine lv_iconst (v := 0) hx hb dX6_heaps_3 (by decide) ?_
  refine lv_istore (lv' := [(6, .int 0), (4, .long 0), (0, .ref (g 0)), (1, .int (nI i)), (2, .int (nI r)), (3, .int 0)]) hx hb dX6_heaps_4 hl (by decide) rfl (fun ls hl => ?_)
  refine lp_X6_heaph hx hb hml hown hts hK hP hh hn hk r hr9 i hi z q hz hz8 hq hv (fun _ _ ls hl => ?_) q 0 (by omega) ls (lv_sub hl [0, 1, 2, 3, 4, 5] rfl)
  refine lv_iload hx hb dX6_heaps_6 (lv_at hl 0 rfl) ?_
  refine lv_aload_n hx hb dX6_heaps_8 rfl (lv_at hl 2 rfl) ?_
  refine va_get (D := D) (ci := 6) (v := .ref (g 3)) (C := RX6) (T := TX6) (N := 23) hx hb hts hiX6 hown hK.1 hP 0 rfl rfl 4 (by decide) kf16 (fun _ h9 => h9) rfl dX6_heaps_9 ?_
  refine lv_iload_n hx hb dX6_heaps_12 rfl (lv_at hl 4 rfl) ?_
  refine ga_ild hx hb hK hP 3 rfl r (rfl) (by omega) (by decide) dX6_heaps_13 ?_
  refine tp_i (y := nI z) (hz) ?_
  refine lv_icmp_ge (tgt := 71) hx hb dX6_heaps_14 (by decide) (fun h9 => absurd h9 (nI_ge (by omega) (by omega))) (fun _ => ?_)
  refine lv_aload_n hx hb dX6_heaps_17 rfl (lv_at hl 2 rfl) ?_
  refine va_get (D := D) (ci := 6) (v := .ref (g 5)) (C := RX6) (T := TX6) (N := 23) hx hb hts hiX6 hown hK.1 hP 0 rfl rfl 6 (by decide) kf23 (fun _ h9 => h9) rfl dX6_heaps_18 ?_
  refine lv_bipush (v := 8) hx hb dX6_heaps_21 (by decide) ?_
  refine lv_iload_n hx hb dX6_heaps_23 rfl (lv_at hl 4 rfl) ?_
  refine lv_imul hx hb dX6_heaps_24 ?_
  refine tp_i (y := nI (8 * r)) (pk_mul 8 r) ?_
  refine lv_iload hx hb dX6_heaps_25 (lv_at hl 0 rfl) ?_
  refine lv_iadd hx hb dX6_heaps_27 ?_
  refine tp_i (y := nI ((8 * r) + q)) (nI_add (8 * r) q) ?_
  refine ga_ild hx hb hK hP 5 rfl ((8 * r) + q) (rfl) (by omega) (by decide) dX6_heaps_28 ?_
  refine tp_i (y := -1) (hnq) ?_
  refine lv_istore (lv' := [(7, .int (-1)), (6, .int (nI q)), (4, .long (msum Wt Pl (8 * r) q)), (0, .ref (g 0)), (1, .int (nI i)), (2, .int (nI r)), (3, .int 0)]) hx hb dX6_heaps_29 hl (by decide) rfl (fun ls hl => ?_)
  refine lv_iload hx hb dX6_heaps_31 (lv_at hl 0 rfl) ?_
  refine lv_if_ge (tgt := 38) hx hb dX6_heaps_33 (by decide) (fun h9 => absurd h9 (by decide)) (fun _ => ?_)
  refine lv_iconst (v := 2) hx hb dX6_heaps_36 (by decide) ?_
  exact W.iret (v := 2) hx hb hr (fun t9 ht _ => ⟨congrArg (fun z => Outcome.returned (some (Value.int z))) (rfl), ht⟩) (fun _ h9 => nomatch h9) dX6_heaps_37
set_option maxHeartbeats 4000000 in
set_option maxRecDepth 100000 in
theorem lp_X6_heapk {p : Program} {e : Env} {s : State} {m : MethodId} {args : Array Value} {below : List Frame} {meth : Method} {c : Code} {Q : State → Prop} {H : Heap} {locs : List Loc} (hx : p.tables.exec = Jvm.exec) (hb : c.code = cX6_heaps) (hml : c.maxLocals = 8) (hown : s.vm.findClass RX6 = some m.cls) (hts : ∀ w ∈ wsX6_heaps, w.before args s = true) (hK : wd_K D cI cJ s) (hP : va_P D kC (mo_W cI cJ g fx (nI n) F Wt Sz Nu Pl Bf (nI b) (nI k) G Wk To Sl Sd (nI as) wo pa fa Fo) H) (hh : ad_ok g 16) (hn : n ≤ 100) (hk : k ≤ 8) (r : Nat) (hr9 : r < n) (i : Nat) (hi : i < k) (z q : Nat) (hz : Sz r = nI z) (hz8 : z ≤ 8) (hq : q ≤ z) (hv : ∀ j, j < q → ∃ p9, p9 < n ∧ Pl (8 * r + j) = nI p9) (kk0 : ∀ (_ : Nat), True → ∀ (ls : Array Slot), lv_has ls 8 [(6, .int (nI q)), (4, .long (msum (fun z => kyO (F z) (Wt z)) Pl (8 * r) q)), (0, .ref (g 0)), (1, .int (nI i)), (2, .int (nI r)), (3, .int 1)] → W p l e (headSpec wsX6_heaps { frames := 5, cells := 0, slots := 0, locals := 200 }).room s m args below meth c H locs 0 0 Q (F0 m 6 ls [])) : ∀ (d : Nat) (y : Nat), y + d = q → ∀ (ls : Array Slot), lv_has ls 8 [(6, .int (nI y)), (4, .long (msum (fun z => kyO (F z) (Wt z)) Pl (8 * r) y)), (0, .ref (g 0)), (1, .int (nI i)), (2, .int (nI r)), (3, .int 1)] → W p l e (headSpec wsX6_heaps { frames := 5, cells := 0, slots := 0, locals := 200 }).room s m args below meth c H locs 0 0 Q (F0 m 6 ls []) := by
  have hiX6 : ∀ w ∈ u_ws RX6 TX6 23, w ∈ wsX6_heaps := by decide +kernel
  have kf16 := hts (.fieldLink RX6 16 "SortingLineModel" "sizes" "[I") (by decide +kernel)
  have kf23 := hts (.fieldLink RX6 23 "SortingLineModel" "places" "[I") (by decide +kernel)
  intro d
  induction d with
  | zero =>
    intro y hi ls hl
    obtain rfl : y = q := by omega
    exact kk0 0 trivial ls hl
  | succ d ih =>
    intro y hi ls hl
    obtain ⟨p9, hpn, hp9⟩ := hv y (by omega)
    refine lv_iload hx hb dX6_heaps_6 (lv_at hl 0 rfl) ?_
    refine lv_aload_n hx hb dX6_heaps_8 rfl (lv_at hl 2 rfl) ?_
    refine va_get (D := D) (ci := 6) (v := .ref (g 3)) (C := RX6) (T := TX6) (N := 23) hx hb hts hiX6 hown hK.1 hP 0 rfl rfl 4 (by decide) kf16 (fun _ h9 => h9) rfl dX6_heaps_9 ?_
    refine lv_iload_n hx hb dX6_heaps_12 rfl (lv_at hl 4 rfl) ?_
    refine ga_ild hx hb hK hP 3 rfl r (rfl) (by omega) (by decide) dX6_heaps_13 ?_
    refine tp_i (y := nI z) (hz) ?_
    refine lv_icmp_ge (tgt := 71) hx hb dX6_heaps_14 (by decide) (fun h9 => absurd h9 (nI_ge (by omega) (by omega))) (fun _ => ?_)
    refine lv_aload_n hx hb dX6_heaps_17 rfl (lv_at hl 2 rfl) ?_
    refine va_get (D := D) (ci := 6) (v := .ref (g 5)) (C := RX6) (T := TX6) (N := 23) hx hb hts hiX6 hown hK.1 hP 0 rfl rfl 6 (by decide) kf23 (fun _ h9 => h9) rfl dX6_heaps_18 ?_
    refine lv_bipush (v := 8) hx hb dX6_heaps_21 (by decide) ?_
    refine lv_iload_n hx hb dX6_heaps_23 rfl (lv_at hl 4 rfl) ?_
    refine lv_imul hx hb dX6_heaps_24 ?_
    refine tp_i (y := nI (8 * r)) (pk_mul 8 r) ?_
    refine lv_iload hx hb dX6_heaps_25 (lv_at hl 0 rfl) ?_
    refine lv_iadd hx hb dX6_heaps_27 ?_
    refine tp_i (y := nI ((8 * r) + y)) (nI_add (8 * r) y) ?_
    refine ga_ild hx hb hK hP 5 rfl ((8 * r) + y) (rfl) (by omega) (by decide) dX6_heaps_28 ?_
    refine tp_i (y := nI p9) (hp9) ?_
    refine lv_istore (lv' := [(7, .int (nI p9)), (6, .int (nI y)), (4, .long (msum (fun z => kyO (F z) (Wt z)) Pl (8 * r) y)), (0, .ref (g 0)), (1, .int (nI i)), (2, .int (nI r)), (3, .int 1)]) hx hb dX6_heaps_29 hl (by decide) rfl (fun ls hl => ?_)
    refine lv_iload hx hb dX6_heaps_31 (lv_at hl 0 rfl) ?_
    refine lv_if_ge (tgt := 38) hx hb dX6_heaps_33 (by decide) (fun _ => ?_) (fun h9 => absurd (nI_pos' (by omega)) h9)
    refine lv_lload hx hb dX6_heaps_38 (lv_at hl 2 rfl) ?_
    refine lv_iload_n hx hb dX6_heaps_40 rfl (lv_at hl 6 rfl) ?_
    refine lv_if_eq (tgt := 54) hx hb dX6_heaps_41 (by decide) (fun h9 => absurd h9 (by decide)) (fun _ => ?_)
    refine lv_aload_n hx hb dX6_heaps_44 rfl (lv_at hl 3 rfl) ?_
    refine lv_iload hx hb dX6_heaps_45 (lv_at hl 0 rfl) ?_
    refine pu_calli (va_runV (As := [.int (nI p9)]) (rest := [.long (msum (fun z => kyO (F z) (Wt z)) Pl (8 * r) y)]) ⟨hx, hb, hml, hown, hts⟩ (c_X6_keyOf hh hn p9 (by omega)) (cwV 1 hts gX6_heaps_X6_keyOf rfl rfl rfl (by decide +kernel) ⟨Nat.le_of_ble_eq_true rfl, Nat.le_of_ble_eq_true rfl⟩) (wd_preV (ci := 6) (q0 := 0) hP hK rfl rfl) rfl rfl hl.1 rfl (lv_room (Nat.le_of_ble_eq_true rfl)) dX6_heaps_47 ⟨Nat.zero_le _, Nat.zero_le _⟩) ?_
    refine lv_i2l (v := Int32.toInt64 (kyO (F p9) (Wt p9))) hx hb dX6_heaps_50 (rfl) ?_
    refine lv_goto (tgt := 62) hx hb dX6_heaps_51 (by decide) ?_
    refine lv_ladd hx hb dX6_heaps_62 ?_
    refine lv_lstore (lv' := [(4, .long ((msum (fun z => kyO (F z) (Wt z)) Pl (8 * r) y) + (Int32.toInt64 (kyO (F p9) (Wt p9))))), (7, .int (nI p9)), (6, .int (nI y)), (0, .ref (g 0)), (1, .int (nI i)), (2, .int (nI r)), (3, .int 1)]) hx hb dX6_heaps_63 hl (by decide) rfl (fun ls hl => ?_)
    refine lv_iinc (v := nI (y + 1)) (lv' := [(6, .int (nI (y + 1))), (4, .long ((msum (fun z => kyO (F z) (Wt z)) Pl (8 * r) y) + (Int32.toInt64 (kyO (F p9) (Wt p9))))), (7, .int (nI p9)), (0, .ref (g 0)), (1, .int (nI i)), (2, .int (nI r)), (3, .int 1)]) hx hb dX6_heaps_65 hl (k := 2) rfl (nI_add y 1) (by decide) rfl (fun ls hl => ?_)
    refine lv_goto (tgt := 6) hx hb dX6_heaps_68 (by decide) ?_
    exact ih (y + 1) (by omega) ls (lv_sub hl [0, 1, 3, 4, 5, 6] (by rw [show msum (fun z => kyO (F z) (Wt z)) Pl (8 * r) (y + 1) = msum (fun z => kyO (F z) (Wt z)) Pl (8 * r) y + Int32.toInt64 ((fun z => kyO (F z) (Wt z)) p9) from by rw [msum, hp9, nI_clamp (by omega)]]; rfl))
set_option maxHeartbeats 4000000 in
set_option maxRecDepth 100000 in
theorem c_X6_heapk_o (hh : ad_ok g 16) (hn : n ≤ 100) (hk : k ≤ 8) (r : Nat) (hr9 : r < n) (i : Nat) (hi : i < k) (z q : Nat) (hz : Sz r = nI z) (hz8 : z ≤ 8) (hq : q ≤ z) (hv : ∀ j, j < q → ∃ p9, p9 < n ∧ Pl (8 * r + j) = nI p9) (hqz : q = z) : Met l yX6_heaps wsX6_heaps ({ frames := 5, cells := 0, slots := 0, locals := 200 }) (wd_P D cI cJ [.ref (g 0), .int (nI i), .int (nI r), .int 1] (mo_W cI cJ g fx (nI n) F Wt Sz Nu Pl Bf (nI b) (nI k) G Wk To Sl Sd (nI as) wo pa fa Fo)) (mu_Q D (ad_A g 16) (some (.int 0)) (mo_W cI cJ g fx (nI n) F Wt Sz Nu Pl Bf (nI b) (nI k) G Wk (vp_updL To i (To i + msum (fun z => kyO (F z) (Wt z)) Pl (8 * r) q)) Sl Sd (nI as) wo pa fa Fo)) 0 0 (ad_A g 16) := by
  refine Met.ofW (cc := cX6_heaps) (maxL := 8) (ret := (some .int)) (by decide) rfl ?_
  intro p e s m args below meth c s₁ B hml hv
  obtain ⟨rfl, hP, hK⟩ := hv
  have hx := B.exec
  have hb := B.bytes
  have hr := B.returns
  have hts := atoms_spec (ws := wsX6_heaps) B.pre
  have hown : s.vm.findClass RX6 = some m.cls := findClass_of_methodNamed B.named
  have hlocks := B.notSynchronized
  have hiX6 : ∀ w ∈ u_ws RX6 TX6 23, w ∈ wsX6_heaps := by decide +kernel
  have kf16 := hts (.fieldLink RX6 16 "SortingLineModel" "sizes" "[I") (by decide +kernel)
  have kf47 := hts (.fieldLink RX6 47 "SortingLineModel" "totals" "[J") (by decide +kernel)
  have hS : va_S (ad_A g 16) s.heap s.heap [] := va_S.rf
  have hl := lv_entry ([.ref (g 0), .int (nI i), .int (nI r), .int 1]) (n := 8) (Nat.le_of_ble_eq_true rfl)
  rw [lg_entry_eq]
  generalize (lg_sl ([.ref (g 0), .int (nI i), .int (nI r), .int 1]) ++ List.replicate (8 - (lg_sl ([.ref (g 0), .int (nI i), .int (nI r), .int 1])).length) Slot.unset).toArray = ls at hl ⊢
  have hl : lv_has ls 8 [(0, .ref (g 0)), (1, .int (nI i)), (2, .int (nI r)), (3, .int 1)] := hl
  refine lv_lconst (v := 0) hx hb dX6_heaps_0 (by decide) ?_
  refine lv_lstore (lv' := [(4, .long 0), (0, .ref (g 0)), (1, .int (nI i)), (2, .int (nI r)), (3, .int 1)]) hx hb dX6_heaps_1 hl (by decide) rfl (fun ls hl => ?_)
  refine lv_iconst (v := 0) hx hb dX6_heaps_3 (by decide) ?_
  refine lv_istore (lv' := [(6, .int 0), (4, .long 0), (0, .ref (g 0)), (1, .int (nI i)), (2, .int (nI r)), (3, .int 1)]) hx hb dX6_heaps_4 hl (by decide) rfl (fun ls hl => ?_)
  refine lp_X6_heapk hx hb hml hown hts hK hP hh hn hk r hr9 i hi z q hz hz8 hq hv (fun _ _ ls hl => ?_) q 0 (by omega) ls (lv_sub hl [0, 1, 2, 3, 4, 5] rfl)
  refine lv_iload hx hb dX6_heaps_6 (lv_at hl 0 rfl) ?_
  refine lv_aload_n hx hb dX6_heaps_8 rfl (lv_at hl 2 rfl) ?_
  refine va_get (D := D) (ci := 6) (v := .ref (g 3)) (C := RX6) (T := TX6) (N := 23) hx hb hts hiX6 hown hK.1 hP 0 rfl rfl 4 (by decide) kf16 (fun _ h9 => h9) rfl dX6_heaps_9 ?_
  refine lv_iload_n hx hb dX6_heaps_12 rfl (lv_at hl 4 rfl) ?_
  refine ga_ild hx hb hK hP 3 rfl r (rfl) (by omega) (by decide) dX6_heaps_13 ?_
  refine tp_i (y := nI z) (hz) ?_
  refine lv_icmp_ge (tgt := 71) hx hb dX6_heaps_14 (by decide) (fun _ => ?_) (fun h9 => absurd (nI_le (by omega) (by omega)) h9)
  refine lv_aload_n hx hb dX6_heaps_71 rfl (lv_at hl 2 rfl) ?_
  refine va_get (D := D) (ci := 6) (v := .ref (g 12)) (C := RX6) (T := TX6) (N := 23) hx hb hts hiX6 hown hK.1 hP 0 rfl rfl 15 (by decide) kf47 (fun _ h9 => h9) rfl dX6_heaps_72 ?_
  refine lv_iload_n hx hb dX6_heaps_75 rfl (lv_at hl 3 rfl) ?_
  refine lv_dup2_11 hx hb dX6_heaps_76 rfl rfl ?_
  refine ga_lld hx hb hK hP 12 rfl i (rfl) (by omega) (by decide) dX6_heaps_77 ?_
  refine lv_lload hx hb dX6_heaps_78 (lv_at hl 1 rfl) ?_
  refine lv_ladd hx hb dX6_heaps_80 ?_
  refine ga_lst hx hb hK hP (mo_D hh) hS 12 rfl i (rfl) (by omega) (by decide) dX6_heaps_81 (fun H locs hP hS => ?_)
  have hP : va_P D kC (mo_W cI cJ g fx (nI n) F Wt Sz Nu Pl Bf (nI b) (nI k) G Wk (vp_updL To i ((To i) + (msum (fun z => kyO (F z) (Wt z)) Pl (8 * r) q))) Sl Sd (nI as) wo pa fa Fo) H := hP
  refine lv_iconst (v := 0) hx hb dX6_heaps_82 (by decide) ?_
  exact W.iret (v := 0) hx hb hr (fun t9 ht _ => ⟨congrArg (fun z => Outcome.returned (some (Value.int z))) (rfl), by rw [ht]; exact hP, hS.F ht⟩) hS.2.2 dX6_heaps_83
set_option maxHeartbeats 4000000 in
set_option maxRecDepth 100000 in
theorem c_X6_heapk_n (hh : ad_ok g 16) (hn : n ≤ 100) (hk : k ≤ 8) (r : Nat) (hr9 : r < n) (i : Nat) (hi : i < k) (z q : Nat) (hz : Sz r = nI z) (hz8 : z ≤ 8) (hq : q ≤ z) (hv : ∀ j, j < q → ∃ p9, p9 < n ∧ Pl (8 * r + j) = nI p9) (hqz : q < z) (hnq : Pl (8 * r + q) = -1) : Met l yX6_heaps wsX6_heaps ({ frames := 5, cells := 0, slots := 0, locals := 200 }) (wd_P D cI cJ [.ref (g 0), .int (nI i), .int (nI r), .int 1] (mo_W cI cJ g fx (nI n) F Wt Sz Nu Pl Bf (nI b) (nI k) G Wk To Sl Sd (nI as) wo pa fa Fo)) (pu_Q (some (.int 2))) 0 0 (fun _ => False) := by
  refine Met.ofW (cc := cX6_heaps) (maxL := 8) (ret := (some .int)) (by decide) rfl ?_
  intro p e s m args below meth c s₁ B hml hv
  obtain ⟨rfl, hP, hK⟩ := hv
  have hx := B.exec
  have hb := B.bytes
  have hr := B.returns
  have hts := atoms_spec (ws := wsX6_heaps) B.pre
  have hown : s.vm.findClass RX6 = some m.cls := findClass_of_methodNamed B.named
  have hlocks := B.notSynchronized
  have hiX6 : ∀ w ∈ u_ws RX6 TX6 23, w ∈ wsX6_heaps := by decide +kernel
  have kf16 := hts (.fieldLink RX6 16 "SortingLineModel" "sizes" "[I") (by decide +kernel)
  have kf23 := hts (.fieldLink RX6 23 "SortingLineModel" "places" "[I") (by decide +kernel)
  have hl := lv_entry ([.ref (g 0), .int (nI i), .int (nI r), .int 1]) (n := 8) (Nat.le_of_ble_eq_true rfl)
  rw [lg_entry_eq]
  generalize (lg_sl ([.ref (g 0), .int (nI i), .int (nI r), .int 1]) ++ List.replicate (8 - (lg_sl ([.ref (g 0), .int (nI i), .int (nI r), .int 1])).length) Slot.unset).toArray = ls at hl ⊢
  have hl : lv_has ls 8 [(0, .ref (g 0)), (1, .int (nI i)), (2, .int (nI r)), (3, .int 1)] := hl
  refine lv_lconst (v := 0) hx hb dX6_heaps_0 (by decide) ?_
  refine lv_lstore (lv' := [(4, .long 0), (0, .ref (g 0)), (1, .int (nI i)), (2, .int (nI r)), (3, .int 1)]) hx hb dX6_heaps_1 hl (by decide) rfl (fun ls hl => ?_)
  refine lv_iconst (v := 0) hx hb dX6_heaps_3 (by decide) ?_
  refine lv_istore (lv' := [(6, .int 0), (4, .long 0), (0, .ref (g 0)), (1, .int (nI i)), (2, .int (nI r)), (3, .int 1)]) hx hb dX6_heaps_4 hl (by decide) rfl (fun ls hl => ?_)
  refine lp_X6_heapk hx hb hml hown hts hK hP hh hn hk r hr9 i hi z q hz hz8 hq hv (fun _ _ ls hl => ?_) q 0 (by omega) ls (lv_sub hl [0, 1, 2, 3, 4, 5] rfl)
  refine lv_iload hx hb dX6_heaps_6 (lv_at hl 0 rfl) ?_
  refine lv_aload_n hx hb dX6_heaps_8 rfl (lv_at hl 2 rfl) ?_
  refine va_get (D := D) (ci := 6) (v := .ref (g 3)) (C := RX6) (T := TX6) (N := 23) hx hb hts hiX6 hown hK.1 hP 0 rfl rfl 4 (by decide) kf16 (fun _ h9 => h9) rfl dX6_heaps_9 ?_
  refine lv_iload_n hx hb dX6_heaps_12 rfl (lv_at hl 4 rfl) ?_
  refine ga_ild hx hb hK hP 3 rfl r (rfl) (by omega) (by decide) dX6_heaps_13 ?_
  refine tp_i (y := nI z) (hz) ?_
  refine lv_icmp_ge (tgt := 71) hx hb dX6_heaps_14 (by decide) (fun h9 => absurd h9 (nI_ge (by omega) (by omega))) (fun _ => ?_)
  refine lv_aload_n hx hb dX6_heaps_17 rfl (lv_at hl 2 rfl) ?_
  refine va_get (D := D) (ci := 6) (v := .ref (g 5)) (C := RX6) (T := TX6) (N := 23) hx hb hts hiX6 hown hK.1 hP 0 rfl rfl 6 (by decide) kf23 (fun _ h9 => h9) rfl dX6_heaps_18 ?_
  refine lv_bipush (v := 8) hx hb dX6_heaps_21 (by decide) ?_
  refine lv_iload_n hx hb dX6_heaps_23 rfl (lv_at hl 4 rfl) ?_
  refine lv_imul hx hb dX6_heaps_24 ?_
  refine tp_i (y := nI (8 * r)) (pk_mul 8 r) ?_
  refine lv_iload hx hb dX6_heaps_25 (lv_at hl 0 rfl) ?_
  refine lv_iadd hx hb dX6_heaps_27 ?_
  refine tp_i (y := nI ((8 * r) + q)) (nI_add (8 * r) q) ?_
  refine ga_ild hx hb hK hP 5 rfl ((8 * r) + q) (rfl) (by omega) (by decide) dX6_heaps_28 ?_
  refine tp_i (y := -1) (hnq) ?_
  refine lv_istore (lv' := [(7, .int (-1)), (6, .int (nI q)), (4, .long (msum (fun z => kyO (F z) (Wt z)) Pl (8 * r) q)), (0, .ref (g 0)), (1, .int (nI i)), (2, .int (nI r)), (3, .int 1)]) hx hb dX6_heaps_29 hl (by decide) rfl (fun ls hl => ?_)
  refine lv_iload hx hb dX6_heaps_31 (lv_at hl 0 rfl) ?_
  refine lv_if_ge (tgt := 38) hx hb dX6_heaps_33 (by decide) (fun h9 => absurd h9 (by decide)) (fun _ => ?_)
  refine lv_iconst (v := 2) hx hb dX6_heaps_36 (by decide) ?_
  exact W.iret (v := 2) hx hb hr (fun t9 ht _ => ⟨congrArg (fun z => Outcome.returned (some (Value.int z))) (rfl), ht⟩) (fun _ h9 => nomatch h9) dX6_heaps_37
set_option maxHeartbeats 4000000 in
set_option maxRecDepth 100000 in
theorem c_X6_corner1_f0B (hh : ad_ok g 16) (hn : n ≤ 100) (r : Nat) (hr9 : r < n) (sf : Sz r = 0) : Met l yX6_corner wsX6_corner ({ frames := 1, cells := 0, slots := 0, locals := 60 }) (wd_P D cI cJ [.ref (g 0), .int (nI r), .int 1] (mo_W cI cJ g fx (nI n) F Wt Sz Nu Pl Bf (nI b) (nI k) G Wk To Sl Sd (nI as) wo pa fa Fo)) (pu_Q (some (.int (-7)))) 0 0 (fun _ => False) := by
  refine Met.ofW (cc := cX6_corner) (maxL := 5) (ret := (some .int)) (by decide) rfl ?_
  intro p e s m args below meth c s₁ B hml hv
  obtain ⟨rfl, hP, hK⟩ := hv
  have hx := B.exec
  have hb := B.bytes
  have hr := B.returns
  have hts := atoms_spec (ws := wsX6_corner) B.pre
  have hown : s.vm.findClass RX6 = some m.cls := findClass_of_methodNamed B.named
  have hlocks := B.notSynchronized
  have hiX6 : ∀ w ∈ u_ws RX6 TX6 23, w ∈ wsX6_corner := by decide +kernel
  have kf16 := hts (.fieldLink RX6 16 "SortingLineModel" "sizes" "[I") (by decide +kernel)
  have hl := lv_entry ([.ref (g 0), .int (nI r), .int 1]) (n := 5) (Nat.le_of_ble_eq_true rfl)
  rw [lg_entry_eq]
  generalize (lg_sl ([.ref (g 0), .int (nI r), .int 1]) ++ List.replicate (5 - (lg_sl ([.ref (g 0), .int (nI r), .int 1])).length) Slot.unset).toArray = ls at hl ⊢
  have hl : lv_has ls 5 [(0, .ref (g 0)), (1, .int (nI r)), (2, .int 1)] := hl
  refine lv_iload_n hx hb dX6_corner_0 rfl (lv_at hl 1 rfl) ?_
  refine lv_istore_n (lv' := [(3, .int (nI r)), (0, .ref (g 0)), (1, .int (nI r)), (2, .int 1)]) hx hb dX6_corner_1 rfl hl (by decide) rfl (fun ls hl => ?_)
  refine lv_iconst (v := 0) hx hb dX6_corner_2 (by decide) ?_
  refine lv_istore (lv' := [(4, .int 0), (3, .int (nI r)), (0, .ref (g 0)), (1, .int (nI r)), (2, .int 1)]) hx hb dX6_corner_3 hl (by decide) rfl (fun ls hl => ?_)
  refine lv_iload hx hb dX6_corner_5 (lv_at hl 0 rfl) ?_
  refine lv_iload_n hx hb dX6_corner_7 rfl (lv_at hl 4 rfl) ?_
  refine lv_icmp_ge (tgt := 46) hx hb dX6_corner_8 (by decide) (fun h9 => absurd h9 (by decide)) (fun _ => ?_)
  refine lv_iload_n hx hb dX6_corner_11 rfl (lv_at hl 1 rfl) ?_
  refine lv_if_ge (tgt := 18) hx hb dX6_corner_12 (by decide) (fun _ => ?_) (fun h9 => absurd (nI_pos' (by omega)) h9)
  refine lv_aload_n hx hb dX6_corner_18 rfl (lv_at hl 2 rfl) ?_
  refine va_get (D := D) (ci := 6) (v := .ref (g 3)) (C := RX6) (T := TX6) (N := 23) hx hb hts hiX6 hown hK.1 hP 0 rfl rfl 4 (by decide) kf16 (fun _ h9 => h9) rfl dX6_corner_19 ?_
  refine lv_iload_n hx hb dX6_corner_22 rfl (lv_at hl 1 rfl) ?_
  refine ga_ild hx hb hK hP 3 rfl r (rfl) (by omega) (by decide) dX6_corner_23 ?_
  refine lv_if_ne (tgt := 30) hx hb dX6_corner_24 (by decide) (fun h9 => absurd (sf) h9) (fun _ => ?_)
  refine lv_bipush (v := (-7)) hx hb dX6_corner_27 (by decide) ?_
  exact W.iret (v := (-7)) hx hb hr (fun t9 ht _ => ⟨congrArg (fun z => Outcome.returned (some (Value.int z))) (rfl), ht⟩) (fun _ h9 => nomatch h9) dX6_corner_29
set_option maxHeartbeats 4000000 in
set_option maxRecDepth 100000 in
theorem c_X6_corner1_f0N (hh : ad_ok g 16) (hn : n ≤ 100) (r : Nat) (hr9 : r < n) (sf : ¬ Sz r = 0) (mf : Pl (8 * r) = -1) : Met l yX6_corner wsX6_corner ({ frames := 1, cells := 0, slots := 0, locals := 60 }) (wd_P D cI cJ [.ref (g 0), .int (nI r), .int 1] (mo_W cI cJ g fx (nI n) F Wt Sz Nu Pl Bf (nI b) (nI k) G Wk To Sl Sd (nI as) wo pa fa Fo)) (pu_Q (some (.int (-8)))) 0 0 (fun _ => False) := by
  refine Met.ofW (cc := cX6_corner) (maxL := 5) (ret := (some .int)) (by decide) rfl ?_
  intro p e s m args below meth c s₁ B hml hv
  obtain ⟨rfl, hP, hK⟩ := hv
  have hx := B.exec
  have hb := B.bytes
  have hr := B.returns
  have hts := atoms_spec (ws := wsX6_corner) B.pre
  have hown : s.vm.findClass RX6 = some m.cls := findClass_of_methodNamed B.named
  have hlocks := B.notSynchronized
  have hiX6 : ∀ w ∈ u_ws RX6 TX6 23, w ∈ wsX6_corner := by decide +kernel
  have kf16 := hts (.fieldLink RX6 16 "SortingLineModel" "sizes" "[I") (by decide +kernel)
  have kf23 := hts (.fieldLink RX6 23 "SortingLineModel" "places" "[I") (by decide +kernel)
  have hl := lv_entry ([.ref (g 0), .int (nI r), .int 1]) (n := 5) (Nat.le_of_ble_eq_true rfl)
  rw [lg_entry_eq]
  generalize (lg_sl ([.ref (g 0), .int (nI r), .int 1]) ++ List.replicate (5 - (lg_sl ([.ref (g 0), .int (nI r), .int 1])).length) Slot.unset).toArray = ls at hl ⊢
  have hl : lv_has ls 5 [(0, .ref (g 0)), (1, .int (nI r)), (2, .int 1)] := hl
  refine lv_iload_n hx hb dX6_corner_0 rfl (lv_at hl 1 rfl) ?_
  refine lv_istore_n (lv' := [(3, .int (nI r)), (0, .ref (g 0)), (1, .int (nI r)), (2, .int 1)]) hx hb dX6_corner_1 rfl hl (by decide) rfl (fun ls hl => ?_)
  refine lv_iconst (v := 0) hx hb dX6_corner_2 (by decide) ?_
  refine lv_istore (lv' := [(4, .int 0), (3, .int (nI r)), (0, .ref (g 0)), (1, .int (nI r)), (2, .int 1)]) hx hb dX6_corner_3 hl (by decide) rfl (fun ls hl => ?_)
  refine lv_iload hx hb dX6_corner_5 (lv_at hl 0 rfl) ?_
  refine lv_iload_n hx hb dX6_corner_7 rfl (lv_at hl 4 rfl) ?_
  refine lv_icmp_ge (tgt := 46) hx hb dX6_corner_8 (by decide) (fun h9 => absurd h9 (by decide)) (fun _ => ?_)
  refine lv_iload_n hx hb dX6_corner_11 rfl (lv_at hl 1 rfl) ?_
  refine lv_if_ge (tgt := 18) hx hb dX6_corner_12 (by decide) (fun _ => ?_) (fun h9 => absurd (nI_pos' (by omega)) h9)
  refine lv_aload_n hx hb dX6_corner_18 rfl (lv_at hl 2 rfl) ?_
  refine va_get (D := D) (ci := 6) (v := .ref (g 3)) (C := RX6) (T := TX6) (N := 23) hx hb hts hiX6 hown hK.1 hP 0 rfl rfl 4 (by decide) kf16 (fun _ h9 => h9) rfl dX6_corner_19 ?_
  refine lv_iload_n hx hb dX6_corner_22 rfl (lv_at hl 1 rfl) ?_
  refine ga_ild hx hb hK hP 3 rfl r (rfl) (by omega) (by decide) dX6_corner_23 ?_
  refine lv_if_ne (tgt := 30) hx hb dX6_corner_24 (by decide) (fun _ => ?_) (fun h9 => absurd h9 (sf))
  refine lv_aload_n hx hb dX6_corner_30 rfl (lv_at hl 2 rfl) ?_
  refine va_get (D := D) (ci := 6) (v := .ref (g 5)) (C := RX6) (T := TX6) (N := 23) hx hb hts hiX6 hown hK.1 hP 0 rfl rfl 6 (by decide) kf23 (fun _ h9 => h9) rfl dX6_corner_31 ?_
  refine lv_bipush (v := 8) hx hb dX6_corner_34 (by decide) ?_
  refine lv_iload_n hx hb dX6_corner_36 rfl (lv_at hl 1 rfl) ?_
  refine lv_imul hx hb dX6_corner_37 ?_
  refine tp_i (y := nI (8 * r)) (pk_mul 8 r) ?_
  refine ga_ild hx hb hK hP 5 rfl (8 * r) (rfl) (by omega) (by decide) dX6_corner_38 ?_
  refine tp_i (y := -1) (mf) ?_
  refine lv_istore_n (lv' := [(3, .int (-1)), (4, .int 0), (0, .ref (g 0)), (1, .int (nI r)), (2, .int 1)]) hx hb dX6_corner_39 rfl hl (by decide) rfl (fun ls hl => ?_)
  refine lv_iinc (v := 1) (lv' := [(4, .int 1), (3, .int (-1)), (0, .ref (g 0)), (1, .int (nI r)), (2, .int 1)]) hx hb dX6_corner_40 hl (k := 1) rfl (by decide) (by decide) rfl (fun ls hl => ?_)
  refine lv_goto (tgt := 5) hx hb dX6_corner_43 (by decide) ?_
  refine lv_iload hx hb dX6_corner_5 (lv_at hl 0 rfl) ?_
  refine lv_iload_n hx hb dX6_corner_7 rfl (lv_at hl 4 rfl) ?_
  refine lv_icmp_ge (tgt := 46) hx hb dX6_corner_8 (by decide) (fun _ => ?_) (fun h9 => absurd (by decide) h9)
  refine lv_iload_n hx hb dX6_corner_46 rfl (lv_at hl 1 rfl) ?_
  refine lv_if_ge (tgt := 55) hx hb dX6_corner_47 (by decide) (fun h9 => absurd h9 (by decide)) (fun _ => ?_)
  refine lv_bipush (v := (-8)) hx hb dX6_corner_50 (by decide) ?_
  refine lv_goto (tgt := 56) hx hb dX6_corner_52 (by decide) ?_
  exact W.iret (v := (-8)) hx hb hr (fun t9 ht _ => ⟨congrArg (fun z => Outcome.returned (some (Value.int z))) (rfl), ht⟩) (fun _ h9 => nomatch h9) dX6_corner_56
set_option maxHeartbeats 4000000 in
set_option maxRecDepth 100000 in
theorem c_X6_corner1_o (hh : ad_ok g 16) (hn : n ≤ 100) (r : Nat) (hr9 : r < n) (p1 : Nat) (hp1 : p1 < n) (s0 : ¬ Sz r = 0) (m0 : Pl (8 * r) = nI p1) : Met l yX6_corner wsX6_corner ({ frames := 1, cells := 0, slots := 0, locals := 60 }) (wd_P D cI cJ [.ref (g 0), .int (nI r), .int 1] (mo_W cI cJ g fx (nI n) F Wt Sz Nu Pl Bf (nI b) (nI k) G Wk To Sl Sd (nI as) wo pa fa Fo)) (pu_Q (some (.int (nI p1)))) 0 0 (fun _ => False) := by
  refine Met.ofW (cc := cX6_corner) (maxL := 5) (ret := (some .int)) (by decide) rfl ?_
  intro p e s m args below meth c s₁ B hml hv
  obtain ⟨rfl, hP, hK⟩ := hv
  have hx := B.exec
  have hb := B.bytes
  have hr := B.returns
  have hts := atoms_spec (ws := wsX6_corner) B.pre
  have hown : s.vm.findClass RX6 = some m.cls := findClass_of_methodNamed B.named
  have hlocks := B.notSynchronized
  have hiX6 : ∀ w ∈ u_ws RX6 TX6 23, w ∈ wsX6_corner := by decide +kernel
  have kf16 := hts (.fieldLink RX6 16 "SortingLineModel" "sizes" "[I") (by decide +kernel)
  have kf23 := hts (.fieldLink RX6 23 "SortingLineModel" "places" "[I") (by decide +kernel)
  have hl := lv_entry ([.ref (g 0), .int (nI r), .int 1]) (n := 5) (Nat.le_of_ble_eq_true rfl)
  rw [lg_entry_eq]
  generalize (lg_sl ([.ref (g 0), .int (nI r), .int 1]) ++ List.replicate (5 - (lg_sl ([.ref (g 0), .int (nI r), .int 1])).length) Slot.unset).toArray = ls at hl ⊢
  have hl : lv_has ls 5 [(0, .ref (g 0)), (1, .int (nI r)), (2, .int 1)] := hl
  refine lv_iload_n hx hb dX6_corner_0 rfl (lv_at hl 1 rfl) ?_
  refine lv_istore_n (lv' := [(3, .int (nI r)), (0, .ref (g 0)), (1, .int (nI r)), (2, .int 1)]) hx hb dX6_corner_1 rfl hl (by decide) rfl (fun ls hl => ?_)
  refine lv_iconst (v := 0) hx hb dX6_corner_2 (by decide) ?_
  refine lv_istore (lv' := [(4, .int 0), (3, .int (nI r)), (0, .ref (g 0)), (1, .int (nI r)), (2, .int 1)]) hx hb dX6_corner_3 hl (by decide) rfl (fun ls hl => ?_)
  refine lv_iload hx hb dX6_corner_5 (lv_at hl 0 rfl) ?_
  refine lv_iload_n hx hb dX6_corner_7 rfl (lv_at hl 4 rfl) ?_
  refine lv_icmp_ge (tgt := 46) hx hb dX6_corner_8 (by decide) (fun h9 => absurd h9 (by decide)) (fun _ => ?_)
  refine lv_iload_n hx hb dX6_corner_11 rfl (lv_at hl 1 rfl) ?_
  refine lv_if_ge (tgt := 18) hx hb dX6_corner_12 (by decide) (fun _ => ?_) (fun h9 => absurd (nI_pos' (by omega)) h9)
  refine lv_aload_n hx hb dX6_corner_18 rfl (lv_at hl 2 rfl) ?_
  refine va_get (D := D) (ci := 6) (v := .ref (g 3)) (C := RX6) (T := TX6) (N := 23) hx hb hts hiX6 hown hK.1 hP 0 rfl rfl 4 (by decide) kf16 (fun _ h9 => h9) rfl dX6_corner_19 ?_
  refine lv_iload_n hx hb dX6_corner_22 rfl (lv_at hl 1 rfl) ?_
  refine ga_ild hx hb hK hP 3 rfl r (rfl) (by omega) (by decide) dX6_corner_23 ?_
  refine lv_if_ne (tgt := 30) hx hb dX6_corner_24 (by decide) (fun _ => ?_) (fun h9 => absurd h9 (s0))
  refine lv_aload_n hx hb dX6_corner_30 rfl (lv_at hl 2 rfl) ?_
  refine va_get (D := D) (ci := 6) (v := .ref (g 5)) (C := RX6) (T := TX6) (N := 23) hx hb hts hiX6 hown hK.1 hP 0 rfl rfl 6 (by decide) kf23 (fun _ h9 => h9) rfl dX6_corner_31 ?_
  refine lv_bipush (v := 8) hx hb dX6_corner_34 (by decide) ?_
  refine lv_iload_n hx hb dX6_corner_36 rfl (lv_at hl 1 rfl) ?_
  refine lv_imul hx hb dX6_corner_37 ?_
  refine tp_i (y := nI (8 * r)) (pk_mul 8 r) ?_
  refine ga_ild hx hb hK hP 5 rfl (8 * r) (rfl) (by omega) (by decide) dX6_corner_38 ?_
  refine tp_i (y := nI p1) (m0) ?_
  refine lv_istore_n (lv' := [(3, .int (nI p1)), (4, .int 0), (0, .ref (g 0)), (1, .int (nI r)), (2, .int 1)]) hx hb dX6_corner_39 rfl hl (by decide) rfl (fun ls hl => ?_)
  refine lv_iinc (v := 1) (lv' := [(4, .int 1), (3, .int (nI p1)), (0, .ref (g 0)), (1, .int (nI r)), (2, .int 1)]) hx hb dX6_corner_40 hl (k := 1) rfl (by decide) (by decide) rfl (fun ls hl => ?_)
  refine lv_goto (tgt := 5) hx hb dX6_corner_43 (by decide) ?_
  refine lv_iload hx hb dX6_corner_5 (lv_at hl 0 rfl) ?_
  refine lv_iload_n hx hb dX6_corner_7 rfl (lv_at hl 4 rfl) ?_
  refine lv_icmp_ge (tgt := 46) hx hb dX6_corner_8 (by decide) (fun _ => ?_) (fun h9 => absurd (by decide) h9)
  refine lv_iload_n hx hb dX6_corner_46 rfl (lv_at hl 1 rfl) ?_
  refine lv_if_ge (tgt := 55) hx hb dX6_corner_47 (by decide) (fun _ => ?_) (fun h9 => absurd (nI_pos' (by omega)) h9)
  refine lv_iload_n hx hb dX6_corner_55 rfl (lv_at hl 1 rfl) ?_
  exact W.iret (v := nI p1) hx hb hr (fun t9 ht _ => ⟨congrArg (fun z => Outcome.returned (some (Value.int z))) (rfl), ht⟩) (fun _ h9 => nomatch h9) dX6_corner_56
set_option maxHeartbeats 4000000 in
set_option maxRecDepth 100000 in
theorem c_X6_corner2_f0B (hh : ad_ok g 16) (hn : n ≤ 100) (r : Nat) (hr9 : r < n) (sf : Sz r = 0) : Met l yX6_corner wsX6_corner ({ frames := 1, cells := 0, slots := 0, locals := 60 }) (wd_P D cI cJ [.ref (g 0), .int (nI r), .int 2] (mo_W cI cJ g fx (nI n) F Wt Sz Nu Pl Bf (nI b) (nI k) G Wk To Sl Sd (nI as) wo pa fa Fo)) (pu_Q (some (.int (-7)))) 0 0 (fun _ => False) := by
  refine Met.ofW (cc := cX6_corner) (maxL := 5) (ret := (some .int)) (by decide) rfl ?_
  intro p e s m args below meth c s₁ B hml hv
  obtain ⟨rfl, hP, hK⟩ := hv
  have hx := B.exec
  have hb := B.bytes
  have hr := B.returns
  have hts := atoms_spec (ws := wsX6_corner) B.pre
  have hown : s.vm.findClass RX6 = some m.cls := findClass_of_methodNamed B.named
  have hlocks := B.notSynchronized
  have hiX6 : ∀ w ∈ u_ws RX6 TX6 23, w ∈ wsX6_corner := by decide +kernel
  have kf16 := hts (.fieldLink RX6 16 "SortingLineModel" "sizes" "[I") (by decide +kernel)
  have hl := lv_entry ([.ref (g 0), .int (nI r), .int 2]) (n := 5) (Nat.le_of_ble_eq_true rfl)
  rw [lg_entry_eq]
  generalize (lg_sl ([.ref (g 0), .int (nI r), .int 2]) ++ List.replicate (5 - (lg_sl ([.ref (g 0), .int (nI r), .int 2])).length) Slot.unset).toArray = ls at hl ⊢
  have hl : lv_has ls 5 [(0, .ref (g 0)), (1, .int (nI r)), (2, .int 2)] := hl
  refine lv_iload_n hx hb dX6_corner_0 rfl (lv_at hl 1 rfl) ?_
  refine lv_istore_n (lv' := [(3, .int (nI r)), (0, .ref (g 0)), (1, .int (nI r)), (2, .int 2)]) hx hb dX6_corner_1 rfl hl (by decide) rfl (fun ls hl => ?_)
  refine lv_iconst (v := 0) hx hb dX6_corner_2 (by decide) ?_
  refine lv_istore (lv' := [(4, .int 0), (3, .int (nI r)), (0, .ref (g 0)), (1, .int (nI r)), (2, .int 2)]) hx hb dX6_corner_3 hl (by decide) rfl (fun ls hl => ?_)
  refine lv_iload hx hb dX6_corner_5 (lv_at hl 0 rfl) ?_
  refine lv_iload_n hx hb dX6_corner_7 rfl (lv_at hl 4 rfl) ?_
  refine lv_icmp_ge (tgt := 46) hx hb dX6_corner_8 (by decide) (fun h9 => absurd h9 (by decide)) (fun _ => ?_)
  refine lv_iload_n hx hb dX6_corner_11 rfl (lv_at hl 1 rfl) ?_
  refine lv_if_ge (tgt := 18) hx hb dX6_corner_12 (by decide) (fun _ => ?_) (fun h9 => absurd (nI_pos' (by omega)) h9)
  refine lv_aload_n hx hb dX6_corner_18 rfl (lv_at hl 2 rfl) ?_
  refine va_get (D := D) (ci := 6) (v := .ref (g 3)) (C := RX6) (T := TX6) (N := 23) hx hb hts hiX6 hown hK.1 hP 0 rfl rfl 4 (by decide) kf16 (fun _ h9 => h9) rfl dX6_corner_19 ?_
  refine lv_iload_n hx hb dX6_corner_22 rfl (lv_at hl 1 rfl) ?_
  refine ga_ild hx hb hK hP 3 rfl r (rfl) (by omega) (by decide) dX6_corner_23 ?_
  refine lv_if_ne (tgt := 30) hx hb dX6_corner_24 (by decide) (fun h9 => absurd (sf) h9) (fun _ => ?_)
  refine lv_bipush (v := (-7)) hx hb dX6_corner_27 (by decide) ?_
  exact W.iret (v := (-7)) hx hb hr (fun t9 ht _ => ⟨congrArg (fun z => Outcome.returned (some (Value.int z))) (rfl), ht⟩) (fun _ h9 => nomatch h9) dX6_corner_29
set_option maxHeartbeats 4000000 in
set_option maxRecDepth 100000 in
theorem c_X6_corner2_f0N (hh : ad_ok g 16) (hn : n ≤ 100) (r : Nat) (hr9 : r < n) (sf : ¬ Sz r = 0) (mf : Pl (8 * r) = -1) : Met l yX6_corner wsX6_corner ({ frames := 1, cells := 0, slots := 0, locals := 60 }) (wd_P D cI cJ [.ref (g 0), .int (nI r), .int 2] (mo_W cI cJ g fx (nI n) F Wt Sz Nu Pl Bf (nI b) (nI k) G Wk To Sl Sd (nI as) wo pa fa Fo)) (pu_Q (some (.int (-8)))) 0 0 (fun _ => False) := by
  refine Met.ofW (cc := cX6_corner) (maxL := 5) (ret := (some .int)) (by decide) rfl ?_
  intro p e s m args below meth c s₁ B hml hv
  obtain ⟨rfl, hP, hK⟩ := hv
  have hx := B.exec
  have hb := B.bytes
  have hr := B.returns
  have hts := atoms_spec (ws := wsX6_corner) B.pre
  have hown : s.vm.findClass RX6 = some m.cls := findClass_of_methodNamed B.named
  have hlocks := B.notSynchronized
  have hiX6 : ∀ w ∈ u_ws RX6 TX6 23, w ∈ wsX6_corner := by decide +kernel
  have kf16 := hts (.fieldLink RX6 16 "SortingLineModel" "sizes" "[I") (by decide +kernel)
  have kf23 := hts (.fieldLink RX6 23 "SortingLineModel" "places" "[I") (by decide +kernel)
  have hl := lv_entry ([.ref (g 0), .int (nI r), .int 2]) (n := 5) (Nat.le_of_ble_eq_true rfl)
  rw [lg_entry_eq]
  generalize (lg_sl ([.ref (g 0), .int (nI r), .int 2]) ++ List.replicate (5 - (lg_sl ([.ref (g 0), .int (nI r), .int 2])).length) Slot.unset).toArray = ls at hl ⊢
  have hl : lv_has ls 5 [(0, .ref (g 0)), (1, .int (nI r)), (2, .int 2)] := hl
  refine lv_iload_n hx hb dX6_corner_0 rfl (lv_at hl 1 rfl) ?_
  refine lv_istore_n (lv' := [(3, .int (nI r)), (0, .ref (g 0)), (1, .int (nI r)), (2, .int 2)]) hx hb dX6_corner_1 rfl hl (by decide) rfl (fun ls hl => ?_)
  refine lv_iconst (v := 0) hx hb dX6_corner_2 (by decide) ?_
  refine lv_istore (lv' := [(4, .int 0), (3, .int (nI r)), (0, .ref (g 0)), (1, .int (nI r)), (2, .int 2)]) hx hb dX6_corner_3 hl (by decide) rfl (fun ls hl => ?_)
  refine lv_iload hx hb dX6_corner_5 (lv_at hl 0 rfl) ?_
  refine lv_iload_n hx hb dX6_corner_7 rfl (lv_at hl 4 rfl) ?_
  refine lv_icmp_ge (tgt := 46) hx hb dX6_corner_8 (by decide) (fun h9 => absurd h9 (by decide)) (fun _ => ?_)
  refine lv_iload_n hx hb dX6_corner_11 rfl (lv_at hl 1 rfl) ?_
  refine lv_if_ge (tgt := 18) hx hb dX6_corner_12 (by decide) (fun _ => ?_) (fun h9 => absurd (nI_pos' (by omega)) h9)
  refine lv_aload_n hx hb dX6_corner_18 rfl (lv_at hl 2 rfl) ?_
  refine va_get (D := D) (ci := 6) (v := .ref (g 3)) (C := RX6) (T := TX6) (N := 23) hx hb hts hiX6 hown hK.1 hP 0 rfl rfl 4 (by decide) kf16 (fun _ h9 => h9) rfl dX6_corner_19 ?_
  refine lv_iload_n hx hb dX6_corner_22 rfl (lv_at hl 1 rfl) ?_
  refine ga_ild hx hb hK hP 3 rfl r (rfl) (by omega) (by decide) dX6_corner_23 ?_
  refine lv_if_ne (tgt := 30) hx hb dX6_corner_24 (by decide) (fun _ => ?_) (fun h9 => absurd h9 (sf))
  refine lv_aload_n hx hb dX6_corner_30 rfl (lv_at hl 2 rfl) ?_
  refine va_get (D := D) (ci := 6) (v := .ref (g 5)) (C := RX6) (T := TX6) (N := 23) hx hb hts hiX6 hown hK.1 hP 0 rfl rfl 6 (by decide) kf23 (fun _ h9 => h9) rfl dX6_corner_31 ?_
  refine lv_bipush (v := 8) hx hb dX6_corner_34 (by decide) ?_
  refine lv_iload_n hx hb dX6_corner_36 rfl (lv_at hl 1 rfl) ?_
  refine lv_imul hx hb dX6_corner_37 ?_
  refine tp_i (y := nI (8 * r)) (pk_mul 8 r) ?_
  refine ga_ild hx hb hK hP 5 rfl (8 * r) (rfl) (by omega) (by decide) dX6_corner_38 ?_
  refine tp_i (y := -1) (mf) ?_
  refine lv_istore_n (lv' := [(3, .int (-1)), (4, .int 0), (0, .ref (g 0)), (1, .int (nI r)), (2, .int 2)]) hx hb dX6_corner_39 rfl hl (by decide) rfl (fun ls hl => ?_)
  refine lv_iinc (v := 1) (lv' := [(4, .int 1), (3, .int (-1)), (0, .ref (g 0)), (1, .int (nI r)), (2, .int 2)]) hx hb dX6_corner_40 hl (k := 1) rfl (by decide) (by decide) rfl (fun ls hl => ?_)
  refine lv_goto (tgt := 5) hx hb dX6_corner_43 (by decide) ?_
  refine lv_iload hx hb dX6_corner_5 (lv_at hl 0 rfl) ?_
  refine lv_iload_n hx hb dX6_corner_7 rfl (lv_at hl 4 rfl) ?_
  refine lv_icmp_ge (tgt := 46) hx hb dX6_corner_8 (by decide) (fun h9 => absurd h9 (by decide)) (fun _ => ?_)
  refine lv_iload_n hx hb dX6_corner_11 rfl (lv_at hl 1 rfl) ?_
  refine lv_if_ge (tgt := 18) hx hb dX6_corner_12 (by decide) (fun h9 => absurd h9 (by decide)) (fun _ => ?_)
  refine lv_bipush (v := (-8)) hx hb dX6_corner_15 (by decide) ?_
  exact W.iret (v := (-8)) hx hb hr (fun t9 ht _ => ⟨congrArg (fun z => Outcome.returned (some (Value.int z))) (rfl), ht⟩) (fun _ h9 => nomatch h9) dX6_corner_17
set_option maxHeartbeats 4000000 in
set_option maxRecDepth 100000 in
theorem c_X6_corner2_f1B (hh : ad_ok g 16) (hn : n ≤ 100) (r : Nat) (hr9 : r < n) (p1 : Nat) (hp1 : p1 < n) (s0 : ¬ Sz r = 0) (m0 : Pl (8 * r) = nI p1) (sf : Sz p1 = 0) : Met l yX6_corner wsX6_corner ({ frames := 1, cells := 0, slots := 0, locals := 60 }) (wd_P D cI cJ [.ref (g 0), .int (nI r), .int 2] (mo_W cI cJ g fx (nI n) F Wt Sz Nu Pl Bf (nI b) (nI k) G Wk To Sl Sd (nI as) wo pa fa Fo)) (pu_Q (some (.int (-7)))) 0 0 (fun _ => False) := by
  refine Met.ofW (cc := cX6_corner) (maxL := 5) (ret := (some .int)) (by decide) rfl ?_
  intro p e s m args below meth c s₁ B hml hv
  obtain ⟨rfl, hP, hK⟩ := hv
  have hx := B.exec
  have hb := B.bytes
  have hr := B.returns
  have hts := atoms_spec (ws := wsX6_corner) B.pre
  have hown : s.vm.findClass RX6 = some m.cls := findClass_of_methodNamed B.named
  have hlocks := B.notSynchronized
  have hiX6 : ∀ w ∈ u_ws RX6 TX6 23, w ∈ wsX6_corner := by decide +kernel
  have kf16 := hts (.fieldLink RX6 16 "SortingLineModel" "sizes" "[I") (by decide +kernel)
  have kf23 := hts (.fieldLink RX6 23 "SortingLineModel" "places" "[I") (by decide +kernel)
  have hl := lv_entry ([.ref (g 0), .int (nI r), .int 2]) (n := 5) (Nat.le_of_ble_eq_true rfl)
  rw [lg_entry_eq]
  generalize (lg_sl ([.ref (g 0), .int (nI r), .int 2]) ++ List.replicate (5 - (lg_sl ([.ref (g 0), .int (nI r), .int 2])).length) Slot.unset).toArray = ls at hl ⊢
  have hl : lv_has ls 5 [(0, .ref (g 0)), (1, .int (nI r)), (2, .int 2)] := hl
  refine lv_iload_n hx hb dX6_corner_0 rfl (lv_at hl 1 rfl) ?_
  refine lv_istore_n (lv' := [(3, .int (nI r)), (0, .ref (g 0)), (1, .int (nI r)), (2, .int 2)]) hx hb dX6_corner_1 rfl hl (by decide) rfl (fun ls hl => ?_)
  refine lv_iconst (v := 0) hx hb dX6_corner_2 (by decide) ?_
  refine lv_istore (lv' := [(4, .int 0), (3, .int (nI r)), (0, .ref (g 0)), (1, .int (nI r)), (2, .int 2)]) hx hb dX6_corner_3 hl (by decide) rfl (fun ls hl => ?_)
  refine lv_iload hx hb dX6_corner_5 (lv_at hl 0 rfl) ?_
  refine lv_iload_n hx hb dX6_corner_7 rfl (lv_at hl 4 rfl) ?_
  refine lv_icmp_ge (tgt := 46) hx hb dX6_corner_8 (by decide) (fun h9 => absurd h9 (by decide)) (fun _ => ?_)
  refine lv_iload_n hx hb dX6_corner_11 rfl (lv_at hl 1 rfl) ?_
  refine lv_if_ge (tgt := 18) hx hb dX6_corner_12 (by decide) (fun _ => ?_) (fun h9 => absurd (nI_pos' (by omega)) h9)
  refine lv_aload_n hx hb dX6_corner_18 rfl (lv_at hl 2 rfl) ?_
  refine va_get (D := D) (ci := 6) (v := .ref (g 3)) (C := RX6) (T := TX6) (N := 23) hx hb hts hiX6 hown hK.1 hP 0 rfl rfl 4 (by decide) kf16 (fun _ h9 => h9) rfl dX6_corner_19 ?_
  refine lv_iload_n hx hb dX6_corner_22 rfl (lv_at hl 1 rfl) ?_
  refine ga_ild hx hb hK hP 3 rfl r (rfl) (by omega) (by decide) dX6_corner_23 ?_
  refine lv_if_ne (tgt := 30) hx hb dX6_corner_24 (by decide) (fun _ => ?_) (fun h9 => absurd h9 (s0))
  refine lv_aload_n hx hb dX6_corner_30 rfl (lv_at hl 2 rfl) ?_
  refine va_get (D := D) (ci := 6) (v := .ref (g 5)) (C := RX6) (T := TX6) (N := 23) hx hb hts hiX6 hown hK.1 hP 0 rfl rfl 6 (by decide) kf23 (fun _ h9 => h9) rfl dX6_corner_31 ?_
  refine lv_bipush (v := 8) hx hb dX6_corner_34 (by decide) ?_
  refine lv_iload_n hx hb dX6_corner_36 rfl (lv_at hl 1 rfl) ?_
  refine lv_imul hx hb dX6_corner_37 ?_
  refine tp_i (y := nI (8 * r)) (pk_mul 8 r) ?_
  refine ga_ild hx hb hK hP 5 rfl (8 * r) (rfl) (by omega) (by decide) dX6_corner_38 ?_
  refine tp_i (y := nI p1) (m0) ?_
  refine lv_istore_n (lv' := [(3, .int (nI p1)), (4, .int 0), (0, .ref (g 0)), (1, .int (nI r)), (2, .int 2)]) hx hb dX6_corner_39 rfl hl (by decide) rfl (fun ls hl => ?_)
  refine lv_iinc (v := 1) (lv' := [(4, .int 1), (3, .int (nI p1)), (0, .ref (g 0)), (1, .int (nI r)), (2, .int 2)]) hx hb dX6_corner_40 hl (k := 1) rfl (by decide) (by decide) rfl (fun ls hl => ?_)
  refine lv_goto (tgt := 5) hx hb dX6_corner_43 (by decide) ?_
  refine lv_iload hx hb dX6_corner_5 (lv_at hl 0 rfl) ?_
  refine lv_iload_n hx hb dX6_corner_7 rfl (lv_at hl 4 rfl) ?_
  refine lv_icmp_ge (tgt := 46) hx hb dX6_corner_8 (by decide) (fun h9 => absurd h9 (by decide)) (fun _ => ?_)
  refine lv_iload_n hx hb dX6_corner_11 rfl (lv_at hl 1 rfl) ?_
  refine lv_if_ge (tgt := 18) hx hb dX6_corner_12 (by decide) (fun _ => ?_) (fun h9 => absurd (nI_pos' (by omega)) h9)
  refine lv_aload_n hx hb dX6_corner_18 rfl (lv_at hl 2 rfl) ?_
  refine va_get (D := D) (ci := 6) (v := .ref (g 3)) (C := RX6) (T := TX6) (N := 23) hx hb hts hiX6 hown hK.1 hP 0 rfl rfl 4 (by decide) kf16 (fun _ h9 => h9) rfl dX6_corner_19 ?_
  refine lv_iload_n hx hb dX6_corner_22 rfl (lv_at hl 1 rfl) ?_
  refine ga_ild hx hb hK hP 3 rfl p1 (rfl) (by omega) (by decide) dX6_corner_23 ?_
  refine lv_if_ne (tgt := 30) hx hb dX6_corner_24 (by decide) (fun h9 => absurd (sf) h9) (fun _ => ?_)
  refine lv_bipush (v := (-7)) hx hb dX6_corner_27 (by decide) ?_
  exact W.iret (v := (-7)) hx hb hr (fun t9 ht _ => ⟨congrArg (fun z => Outcome.returned (some (Value.int z))) (rfl), ht⟩) (fun _ h9 => nomatch h9) dX6_corner_29
set_option maxHeartbeats 4000000 in
set_option maxRecDepth 100000 in
theorem c_X6_corner2_f1N (hh : ad_ok g 16) (hn : n ≤ 100) (r : Nat) (hr9 : r < n) (p1 : Nat) (hp1 : p1 < n) (s0 : ¬ Sz r = 0) (m0 : Pl (8 * r) = nI p1) (sf : ¬ Sz p1 = 0) (mf : Pl (8 * p1) = -1) : Met l yX6_corner wsX6_corner ({ frames := 1, cells := 0, slots := 0, locals := 60 }) (wd_P D cI cJ [.ref (g 0), .int (nI r), .int 2] (mo_W cI cJ g fx (nI n) F Wt Sz Nu Pl Bf (nI b) (nI k) G Wk To Sl Sd (nI as) wo pa fa Fo)) (pu_Q (some (.int (-8)))) 0 0 (fun _ => False) := by
  refine Met.ofW (cc := cX6_corner) (maxL := 5) (ret := (some .int)) (by decide) rfl ?_
  intro p e s m args below meth c s₁ B hml hv
  obtain ⟨rfl, hP, hK⟩ := hv
  have hx := B.exec
  have hb := B.bytes
  have hr := B.returns
  have hts := atoms_spec (ws := wsX6_corner) B.pre
  have hown : s.vm.findClass RX6 = some m.cls := findClass_of_methodNamed B.named
  have hlocks := B.notSynchronized
  have hiX6 : ∀ w ∈ u_ws RX6 TX6 23, w ∈ wsX6_corner := by decide +kernel
  have kf16 := hts (.fieldLink RX6 16 "SortingLineModel" "sizes" "[I") (by decide +kernel)
  have kf23 := hts (.fieldLink RX6 23 "SortingLineModel" "places" "[I") (by decide +kernel)
  have hl := lv_entry ([.ref (g 0), .int (nI r), .int 2]) (n := 5) (Nat.le_of_ble_eq_true rfl)
  rw [lg_entry_eq]
  generalize (lg_sl ([.ref (g 0), .int (nI r), .int 2]) ++ List.replicate (5 - (lg_sl ([.ref (g 0), .int (nI r), .int 2])).length) Slot.unset).toArray = ls at hl ⊢
  have hl : lv_has ls 5 [(0, .ref (g 0)), (1, .int (nI r)), (2, .int 2)] := hl
  refine lv_iload_n hx hb dX6_corner_0 rfl (lv_at hl 1 rfl) ?_
  refine lv_istore_n (lv' := [(3, .int (nI r)), (0, .ref (g 0)), (1, .int (nI r)), (2, .int 2)]) hx hb dX6_corner_1 rfl hl (by decide) rfl (fun ls hl => ?_)
  refine lv_iconst (v := 0) hx hb dX6_corner_2 (by decide) ?_
  refine lv_istore (lv' := [(4, .int 0), (3, .int (nI r)), (0, .ref (g 0)), (1, .int (nI r)), (2, .int 2)]) hx hb dX6_corner_3 hl (by decide) rfl (fun ls hl => ?_)
  refine lv_iload hx hb dX6_corner_5 (lv_at hl 0 rfl) ?_
  refine lv_iload_n hx hb dX6_corner_7 rfl (lv_at hl 4 rfl) ?_
  refine lv_icmp_ge (tgt := 46) hx hb dX6_corner_8 (by decide) (fun h9 => absurd h9 (by decide)) (fun _ => ?_)
  refine lv_iload_n hx hb dX6_corner_11 rfl (lv_at hl 1 rfl) ?_
  refine lv_if_ge (tgt := 18) hx hb dX6_corner_12 (by decide) (fun _ => ?_) (fun h9 => absurd (nI_pos' (by omega)) h9)
  refine lv_aload_n hx hb dX6_corner_18 rfl (lv_at hl 2 rfl) ?_
  refine va_get (D := D) (ci := 6) (v := .ref (g 3)) (C := RX6) (T := TX6) (N := 23) hx hb hts hiX6 hown hK.1 hP 0 rfl rfl 4 (by decide) kf16 (fun _ h9 => h9) rfl dX6_corner_19 ?_
  refine lv_iload_n hx hb dX6_corner_22 rfl (lv_at hl 1 rfl) ?_
  refine ga_ild hx hb hK hP 3 rfl r (rfl) (by omega) (by decide) dX6_corner_23 ?_
  refine lv_if_ne (tgt := 30) hx hb dX6_corner_24 (by decide) (fun _ => ?_) (fun h9 => absurd h9 (s0))
  refine lv_aload_n hx hb dX6_corner_30 rfl (lv_at hl 2 rfl) ?_
  refine va_get (D := D) (ci := 6) (v := .ref (g 5)) (C := RX6) (T := TX6) (N := 23) hx hb hts hiX6 hown hK.1 hP 0 rfl rfl 6 (by decide) kf23 (fun _ h9 => h9) rfl dX6_corner_31 ?_
  refine lv_bipush (v := 8) hx hb dX6_corner_34 (by decide) ?_
  refine lv_iload_n hx hb dX6_corner_36 rfl (lv_at hl 1 rfl) ?_
  refine lv_imul hx hb dX6_corner_37 ?_
  refine tp_i (y := nI (8 * r)) (pk_mul 8 r) ?_
  refine ga_ild hx hb hK hP 5 rfl (8 * r) (rfl) (by omega) (by decide) dX6_corner_38 ?_
  refine tp_i (y := nI p1) (m0) ?_
  refine lv_istore_n (lv' := [(3, .int (nI p1)), (4, .int 0), (0, .ref (g 0)), (1, .int (nI r)), (2, .int 2)]) hx hb dX6_corner_39 rfl hl (by decide) rfl (fun ls hl => ?_)
  refine lv_iinc (v := 1) (lv' := [(4, .int 1), (3, .int (nI p1)), (0, .ref (g 0)), (1, .int (nI r)), (2, .int 2)]) hx hb dX6_corner_40 hl (k := 1) rfl (by decide) (by decide) rfl (fun ls hl => ?_)
  refine lv_goto (tgt := 5) hx hb dX6_corner_43 (by decide) ?_
  refine lv_iload hx hb dX6_corner_5 (lv_at hl 0 rfl) ?_
  refine lv_iload_n hx hb dX6_corner_7 rfl (lv_at hl 4 rfl) ?_
  refine lv_icmp_ge (tgt := 46) hx hb dX6_corner_8 (by decide) (fun h9 => absurd h9 (by decide)) (fun _ => ?_)
  refine lv_iload_n hx hb dX6_corner_11 rfl (lv_at hl 1 rfl) ?_
  refine lv_if_ge (tgt := 18) hx hb dX6_corner_12 (by decide) (fun _ => ?_) (fun h9 => absurd (nI_pos' (by omega)) h9)
  refine lv_aload_n hx hb dX6_corner_18 rfl (lv_at hl 2 rfl) ?_
  refine va_get (D := D) (ci := 6) (v := .ref (g 3)) (C := RX6) (T := TX6) (N := 23) hx hb hts hiX6 hown hK.1 hP 0 rfl rfl 4 (by decide) kf16 (fun _ h9 => h9) rfl dX6_corner_19 ?_
  refine lv_iload_n hx hb dX6_corner_22 rfl (lv_at hl 1 rfl) ?_
  refine ga_ild hx hb hK hP 3 rfl p1 (rfl) (by omega) (by decide) dX6_corner_23 ?_
  refine lv_if_ne (tgt := 30) hx hb dX6_corner_24 (by decide) (fun _ => ?_) (fun h9 => absurd h9 (sf))
  refine lv_aload_n hx hb dX6_corner_30 rfl (lv_at hl 2 rfl) ?_
  refine va_get (D := D) (ci := 6) (v := .ref (g 5)) (C := RX6) (T := TX6) (N := 23) hx hb hts hiX6 hown hK.1 hP 0 rfl rfl 6 (by decide) kf23 (fun _ h9 => h9) rfl dX6_corner_31 ?_
  refine lv_bipush (v := 8) hx hb dX6_corner_34 (by decide) ?_
  refine lv_iload_n hx hb dX6_corner_36 rfl (lv_at hl 1 rfl) ?_
  refine lv_imul hx hb dX6_corner_37 ?_
  refine tp_i (y := nI (8 * p1)) (pk_mul 8 p1) ?_
  refine ga_ild hx hb hK hP 5 rfl (8 * p1) (rfl) (by omega) (by decide) dX6_corner_38 ?_
  refine tp_i (y := -1) (mf) ?_
  refine lv_istore_n (lv' := [(3, .int (-1)), (4, .int 1), (0, .ref (g 0)), (1, .int (nI r)), (2, .int 2)]) hx hb dX6_corner_39 rfl hl (by decide) rfl (fun ls hl => ?_)
  refine lv_iinc (v := 2) (lv' := [(4, .int 2), (3, .int (-1)), (0, .ref (g 0)), (1, .int (nI r)), (2, .int 2)]) hx hb dX6_corner_40 hl (k := 1) rfl (by decide) (by decide) rfl (fun ls hl => ?_)
  refine lv_goto (tgt := 5) hx hb dX6_corner_43 (by decide) ?_
  refine lv_iload hx hb dX6_corner_5 (lv_at hl 0 rfl) ?_
  refine lv_iload_n hx hb dX6_corner_7 rfl (lv_at hl 4 rfl) ?_
  refine lv_icmp_ge (tgt := 46) hx hb dX6_corner_8 (by decide) (fun _ => ?_) (fun h9 => absurd (by decide) h9)
  refine lv_iload_n hx hb dX6_corner_46 rfl (lv_at hl 1 rfl) ?_
  refine lv_if_ge (tgt := 55) hx hb dX6_corner_47 (by decide) (fun h9 => absurd h9 (by decide)) (fun _ => ?_)
  refine lv_bipush (v := (-8)) hx hb dX6_corner_50 (by decide) ?_
  refine lv_goto (tgt := 56) hx hb dX6_corner_52 (by decide) ?_
  exact W.iret (v := (-8)) hx hb hr (fun t9 ht _ => ⟨congrArg (fun z => Outcome.returned (some (Value.int z))) (rfl), ht⟩) (fun _ h9 => nomatch h9) dX6_corner_56
set_option maxHeartbeats 4000000 in
set_option maxRecDepth 100000 in
theorem c_X6_corner2_o (hh : ad_ok g 16) (hn : n ≤ 100) (r : Nat) (hr9 : r < n) (p1 : Nat) (hp1 : p1 < n) (p2 : Nat) (hp2 : p2 < n) (s0 : ¬ Sz r = 0) (m0 : Pl (8 * r) = nI p1) (s1 : ¬ Sz p1 = 0) (m1 : Pl (8 * p1) = nI p2) : Met l yX6_corner wsX6_corner ({ frames := 1, cells := 0, slots := 0, locals := 60 }) (wd_P D cI cJ [.ref (g 0), .int (nI r), .int 2] (mo_W cI cJ g fx (nI n) F Wt Sz Nu Pl Bf (nI b) (nI k) G Wk To Sl Sd (nI as) wo pa fa Fo)) (pu_Q (some (.int (nI p2)))) 0 0 (fun _ => False) := by
  refine Met.ofW (cc := cX6_corner) (maxL := 5) (ret := (some .int)) (by decide) rfl ?_
  intro p e s m args below meth c s₁ B hml hv
  obtain ⟨rfl, hP, hK⟩ := hv
  have hx := B.exec
  have hb := B.bytes
  have hr := B.returns
  have hts := atoms_spec (ws := wsX6_corner) B.pre
  have hown : s.vm.findClass RX6 = some m.cls := findClass_of_methodNamed B.named
  have hlocks := B.notSynchronized
  have hiX6 : ∀ w ∈ u_ws RX6 TX6 23, w ∈ wsX6_corner := by decide +kernel
  have kf16 := hts (.fieldLink RX6 16 "SortingLineModel" "sizes" "[I") (by decide +kernel)
  have kf23 := hts (.fieldLink RX6 23 "SortingLineModel" "places" "[I") (by decide +kernel)
  have hl := lv_entry ([.ref (g 0), .int (nI r), .int 2]) (n := 5) (Nat.le_of_ble_eq_true rfl)
  rw [lg_entry_eq]
  generalize (lg_sl ([.ref (g 0), .int (nI r), .int 2]) ++ List.replicate (5 - (lg_sl ([.ref (g 0), .int (nI r), .int 2])).length) Slot.unset).toArray = ls at hl ⊢
  have hl : lv_has ls 5 [(0, .ref (g 0)), (1, .int (nI r)), (2, .int 2)] := hl
  refine lv_iload_n hx hb dX6_corner_0 rfl (lv_at hl 1 rfl) ?_
  refine lv_istore_n (lv' := [(3, .int (nI r)), (0, .ref (g 0)), (1, .int (nI r)), (2, .int 2)]) hx hb dX6_corner_1 rfl hl (by decide) rfl (fun ls hl => ?_)
  refine lv_iconst (v := 0) hx hb dX6_corner_2 (by decide) ?_
  refine lv_istore (lv' := [(4, .int 0), (3, .int (nI r)), (0, .ref (g 0)), (1, .int (nI r)), (2, .int 2)]) hx hb dX6_corner_3 hl (by decide) rfl (fun ls hl => ?_)
  refine lv_iload hx hb dX6_corner_5 (lv_at hl 0 rfl) ?_
  refine lv_iload_n hx hb dX6_corner_7 rfl (lv_at hl 4 rfl) ?_
  refine lv_icmp_ge (tgt := 46) hx hb dX6_corner_8 (by decide) (fun h9 => absurd h9 (by decide)) (fun _ => ?_)
  refine lv_iload_n hx hb dX6_corner_11 rfl (lv_at hl 1 rfl) ?_
  refine lv_if_ge (tgt := 18) hx hb dX6_corner_12 (by decide) (fun _ => ?_) (fun h9 => absurd (nI_pos' (by omega)) h9)
  refine lv_aload_n hx hb dX6_corner_18 rfl (lv_at hl 2 rfl) ?_
  refine va_get (D := D) (ci := 6) (v := .ref (g 3)) (C := RX6) (T := TX6) (N := 23) hx hb hts hiX6 hown hK.1 hP 0 rfl rfl 4 (by decide) kf16 (fun _ h9 => h9) rfl dX6_corner_19 ?_
  refine lv_iload_n hx hb dX6_corner_22 rfl (lv_at hl 1 rfl) ?_
  refine ga_ild hx hb hK hP 3 rfl r (rfl) (by omega) (by decide) dX6_corner_23 ?_
  refine lv_if_ne (tgt := 30) hx hb dX6_corner_24 (by decide) (fun _ => ?_) (fun h9 => absurd h9 (s0))
  refine lv_aload_n hx hb dX6_corner_30 rfl (lv_at hl 2 rfl) ?_
  refine va_get (D := D) (ci := 6) (v := .ref (g 5)) (C := RX6) (T := TX6) (N := 23) hx hb hts hiX6 hown hK.1 hP 0 rfl rfl 6 (by decide) kf23 (fun _ h9 => h9) rfl dX6_corner_31 ?_
  refine lv_bipush (v := 8) hx hb dX6_corner_34 (by decide) ?_
  refine lv_iload_n hx hb dX6_corner_36 rfl (lv_at hl 1 rfl) ?_
  refine lv_imul hx hb dX6_corner_37 ?_
  refine tp_i (y := nI (8 * r)) (pk_mul 8 r) ?_
  refine ga_ild hx hb hK hP 5 rfl (8 * r) (rfl) (by omega) (by decide) dX6_corner_38 ?_
  refine tp_i (y := nI p1) (m0) ?_
  refine lv_istore_n (lv' := [(3, .int (nI p1)), (4, .int 0), (0, .ref (g 0)), (1, .int (nI r)), (2, .int 2)]) hx hb dX6_corner_39 rfl hl (by decide) rfl (fun ls hl => ?_)
  refine lv_iinc (v := 1) (lv' := [(4, .int 1), (3, .int (nI p1)), (0, .ref (g 0)), (1, .int (nI r)), (2, .int 2)]) hx hb dX6_corner_40 hl (k := 1) rfl (by decide) (by decide) rfl (fun ls hl => ?_)
  refine lv_goto (tgt := 5) hx hb dX6_corner_43 (by decide) ?_
  refine lv_iload hx hb dX6_corner_5 (lv_at hl 0 rfl) ?_
  refine lv_iload_n hx hb dX6_corner_7 rfl (lv_at hl 4 rfl) ?_
  refine lv_icmp_ge (tgt := 46) hx hb dX6_corner_8 (by decide) (fun h9 => absurd h9 (by decide)) (fun _ => ?_)
  refine lv_iload_n hx hb dX6_corner_11 rfl (lv_at hl 1 rfl) ?_
  refine lv_if_ge (tgt := 18) hx hb dX6_corner_12 (by decide) (fun _ => ?_) (fun h9 => absurd (nI_pos' (by omega)) h9)
  refine lv_aload_n hx hb dX6_corner_18 rfl (lv_at hl 2 rfl) ?_
  refine va_get (D := D) (ci := 6) (v := .ref (g 3)) (C := RX6) (T := TX6) (N := 23) hx hb hts hiX6 hown hK.1 hP 0 rfl rfl 4 (by decide) kf16 (fun _ h9 => h9) rfl dX6_corner_19 ?_
  refine lv_iload_n hx hb dX6_corner_22 rfl (lv_at hl 1 rfl) ?_
  refine ga_ild hx hb hK hP 3 rfl p1 (rfl) (by omega) (by decide) dX6_corner_23 ?_
  refine lv_if_ne (tgt := 30) hx hb dX6_corner_24 (by decide) (fun _ => ?_) (fun h9 => absurd h9 (s1))
  refine lv_aload_n hx hb dX6_corner_30 rfl (lv_at hl 2 rfl) ?_
  refine va_get (D := D) (ci := 6) (v := .ref (g 5)) (C := RX6) (T := TX6) (N := 23) hx hb hts hiX6 hown hK.1 hP 0 rfl rfl 6 (by decide) kf23 (fun _ h9 => h9) rfl dX6_corner_31 ?_
  refine lv_bipush (v := 8) hx hb dX6_corner_34 (by decide) ?_
  refine lv_iload_n hx hb dX6_corner_36 rfl (lv_at hl 1 rfl) ?_
  refine lv_imul hx hb dX6_corner_37 ?_
  refine tp_i (y := nI (8 * p1)) (pk_mul 8 p1) ?_
  refine ga_ild hx hb hK hP 5 rfl (8 * p1) (rfl) (by omega) (by decide) dX6_corner_38 ?_
  refine tp_i (y := nI p2) (m1) ?_
  refine lv_istore_n (lv' := [(3, .int (nI p2)), (4, .int 1), (0, .ref (g 0)), (1, .int (nI r)), (2, .int 2)]) hx hb dX6_corner_39 rfl hl (by decide) rfl (fun ls hl => ?_)
  refine lv_iinc (v := 2) (lv' := [(4, .int 2), (3, .int (nI p2)), (0, .ref (g 0)), (1, .int (nI r)), (2, .int 2)]) hx hb dX6_corner_40 hl (k := 1) rfl (by decide) (by decide) rfl (fun ls hl => ?_)
  refine lv_goto (tgt := 5) hx hb dX6_corner_43 (by decide) ?_
  refine lv_iload hx hb dX6_corner_5 (lv_at hl 0 rfl) ?_
  refine lv_iload_n hx hb dX6_corner_7 rfl (lv_at hl 4 rfl) ?_
  refine lv_icmp_ge (tgt := 46) hx hb dX6_corner_8 (by decide) (fun _ => ?_) (fun h9 => absurd (by decide) h9)
  refine lv_iload_n hx hb dX6_corner_46 rfl (lv_at hl 1 rfl) ?_
  refine lv_if_ge (tgt := 55) hx hb dX6_corner_47 (by decide) (fun _ => ?_) (fun h9 => absurd (nI_pos' (by omega)) h9)
  refine lv_iload_n hx hb dX6_corner_55 rfl (lv_at hl 1 rfl) ?_
  exact W.iret (v := nI p2) hx hb hr (fun t9 ht _ => ⟨congrArg (fun z => Outcome.returned (some (Value.int z))) (rfl), ht⟩) (fun _ h9 => nomatch h9) dX6_corner_56
set_option maxHeartbeats 4000000 in
set_option maxRecDepth 100000 in
theorem c_X6_corner3_f0B (hh : ad_ok g 16) (hn : n ≤ 100) (r : Nat) (hr9 : r < n) (sf : Sz r = 0) : Met l yX6_corner wsX6_corner ({ frames := 1, cells := 0, slots := 0, locals := 60 }) (wd_P D cI cJ [.ref (g 0), .int (nI r), .int 3] (mo_W cI cJ g fx (nI n) F Wt Sz Nu Pl Bf (nI b) (nI k) G Wk To Sl Sd (nI as) wo pa fa Fo)) (pu_Q (some (.int (-7)))) 0 0 (fun _ => False) := by
  refine Met.ofW (cc := cX6_corner) (maxL := 5) (ret := (some .int)) (by decide) rfl ?_
  intro p e s m args below meth c s₁ B hml hv
  obtain ⟨rfl, hP, hK⟩ := hv
  have hx := B.exec
  have hb := B.bytes
  have hr := B.returns
  have hts := atoms_spec (ws := wsX6_corner) B.pre
  have hown : s.vm.findClass RX6 = some m.cls := findClass_of_methodNamed B.named
  have hlocks := B.notSynchronized
  have hiX6 : ∀ w ∈ u_ws RX6 TX6 23, w ∈ wsX6_corner := by decide +kernel
  have kf16 := hts (.fieldLink RX6 16 "SortingLineModel" "sizes" "[I") (by decide +kernel)
  have hl := lv_entry ([.ref (g 0), .int (nI r), .int 3]) (n := 5) (Nat.le_of_ble_eq_true rfl)
  rw [lg_entry_eq]
  generalize (lg_sl ([.ref (g 0), .int (nI r), .int 3]) ++ List.replicate (5 - (lg_sl ([.ref (g 0), .int (nI r), .int 3])).length) Slot.unset).toArray = ls at hl ⊢
  have hl : lv_has ls 5 [(0, .ref (g 0)), (1, .int (nI r)), (2, .int 3)] := hl
  refine lv_iload_n hx hb dX6_corner_0 rfl (lv_at hl 1 rfl) ?_
  refine lv_istore_n (lv' := [(3, .int (nI r)), (0, .ref (g 0)), (1, .int (nI r)), (2, .int 3)]) hx hb dX6_corner_1 rfl hl (by decide) rfl (fun ls hl => ?_)
  refine lv_iconst (v := 0) hx hb dX6_corner_2 (by decide) ?_
  refine lv_istore (lv' := [(4, .int 0), (3, .int (nI r)), (0, .ref (g 0)), (1, .int (nI r)), (2, .int 3)]) hx hb dX6_corner_3 hl (by decide) rfl (fun ls hl => ?_)
  refine lv_iload hx hb dX6_corner_5 (lv_at hl 0 rfl) ?_
  refine lv_iload_n hx hb dX6_corner_7 rfl (lv_at hl 4 rfl) ?_
  refine lv_icmp_ge (tgt := 46) hx hb dX6_corner_8 (by decide) (fun h9 => absurd h9 (by decide)) (fun _ => ?_)
  refine lv_iload_n hx hb dX6_corner_11 rfl (lv_at hl 1 rfl) ?_
  refine lv_if_ge (tgt := 18) hx hb dX6_corner_12 (by decide) (fun _ => ?_) (fun h9 => absurd (nI_pos' (by omega)) h9)
  refine lv_aload_n hx hb dX6_corner_18 rfl (lv_at hl 2 rfl) ?_
  refine va_get (D := D) (ci := 6) (v := .ref (g 3)) (C := RX6) (T := TX6) (N := 23) hx hb hts hiX6 hown hK.1 hP 0 rfl rfl 4 (by decide) kf16 (fun _ h9 => h9) rfl dX6_corner_19 ?_
  refine lv_iload_n hx hb dX6_corner_22 rfl (lv_at hl 1 rfl) ?_
  refine ga_ild hx hb hK hP 3 rfl r (rfl) (by omega) (by decide) dX6_corner_23 ?_
  refine lv_if_ne (tgt := 30) hx hb dX6_corner_24 (by decide) (fun h9 => absurd (sf) h9) (fun _ => ?_)
  refine lv_bipush (v := (-7)) hx hb dX6_corner_27 (by decide) ?_
  exact W.iret (v := (-7)) hx hb hr (fun t9 ht _ => ⟨congrArg (fun z => Outcome.returned (some (Value.int z))) (rfl), ht⟩) (fun _ h9 => nomatch h9) dX6_corner_29
set_option maxHeartbeats 4000000 in
set_option maxRecDepth 100000 in
theorem c_X6_corner3_f0N (hh : ad_ok g 16) (hn : n ≤ 100) (r : Nat) (hr9 : r < n) (sf : ¬ Sz r = 0) (mf : Pl (8 * r) = -1) : Met l yX6_corner wsX6_corner ({ frames := 1, cells := 0, slots := 0, locals := 60 }) (wd_P D cI cJ [.ref (g 0), .int (nI r), .int 3] (mo_W cI cJ g fx (nI n) F Wt Sz Nu Pl Bf (nI b) (nI k) G Wk To Sl Sd (nI as) wo pa fa Fo)) (pu_Q (some (.int (-8)))) 0 0 (fun _ => False) := by
  refine Met.ofW (cc := cX6_corner) (maxL := 5) (ret := (some .int)) (by decide) rfl ?_
  intro p e s m args below meth c s₁ B hml hv
  obtain ⟨rfl, hP, hK⟩ := hv
  have hx := B.exec
  have hb := B.bytes
  have hr := B.returns
  have hts := atoms_spec (ws := wsX6_corner) B.pre
  have hown : s.vm.findClass RX6 = some m.cls := findClass_of_methodNamed B.named
  have hlocks := B.notSynchronized
  have hiX6 : ∀ w ∈ u_ws RX6 TX6 23, w ∈ wsX6_corner := by decide +kernel
  have kf16 := hts (.fieldLink RX6 16 "SortingLineModel" "sizes" "[I") (by decide +kernel)
  have kf23 := hts (.fieldLink RX6 23 "SortingLineModel" "places" "[I") (by decide +kernel)
  have hl := lv_entry ([.ref (g 0), .int (nI r), .int 3]) (n := 5) (Nat.le_of_ble_eq_true rfl)
  rw [lg_entry_eq]
  generalize (lg_sl ([.ref (g 0), .int (nI r), .int 3]) ++ List.replicate (5 - (lg_sl ([.ref (g 0), .int (nI r), .int 3])).length) Slot.unset).toArray = ls at hl ⊢
  have hl : lv_has ls 5 [(0, .ref (g 0)), (1, .int (nI r)), (2, .int 3)] := hl
  refine lv_iload_n hx hb dX6_corner_0 rfl (lv_at hl 1 rfl) ?_
  refine lv_istore_n (lv' := [(3, .int (nI r)), (0, .ref (g 0)), (1, .int (nI r)), (2, .int 3)]) hx hb dX6_corner_1 rfl hl (by decide) rfl (fun ls hl => ?_)
  refine lv_iconst (v := 0) hx hb dX6_corner_2 (by decide) ?_
  refine lv_istore (lv' := [(4, .int 0), (3, .int (nI r)), (0, .ref (g 0)), (1, .int (nI r)), (2, .int 3)]) hx hb dX6_corner_3 hl (by decide) rfl (fun ls hl => ?_)
  refine lv_iload hx hb dX6_corner_5 (lv_at hl 0 rfl) ?_
  refine lv_iload_n hx hb dX6_corner_7 rfl (lv_at hl 4 rfl) ?_
  refine lv_icmp_ge (tgt := 46) hx hb dX6_corner_8 (by decide) (fun h9 => absurd h9 (by decide)) (fun _ => ?_)
  refine lv_iload_n hx hb dX6_corner_11 rfl (lv_at hl 1 rfl) ?_
  refine lv_if_ge (tgt := 18) hx hb dX6_corner_12 (by decide) (fun _ => ?_) (fun h9 => absurd (nI_pos' (by omega)) h9)
  refine lv_aload_n hx hb dX6_corner_18 rfl (lv_at hl 2 rfl) ?_
  refine va_get (D := D) (ci := 6) (v := .ref (g 3)) (C := RX6) (T := TX6) (N := 23) hx hb hts hiX6 hown hK.1 hP 0 rfl rfl 4 (by decide) kf16 (fun _ h9 => h9) rfl dX6_corner_19 ?_
  refine lv_iload_n hx hb dX6_corner_22 rfl (lv_at hl 1 rfl) ?_
  refine ga_ild hx hb hK hP 3 rfl r (rfl) (by omega) (by decide) dX6_corner_23 ?_
  refine lv_if_ne (tgt := 30) hx hb dX6_corner_24 (by decide) (fun _ => ?_) (fun h9 => absurd h9 (sf))
  refine lv_aload_n hx hb dX6_corner_30 rfl (lv_at hl 2 rfl) ?_
  refine va_get (D := D) (ci := 6) (v := .ref (g 5)) (C := RX6) (T := TX6) (N := 23) hx hb hts hiX6 hown hK.1 hP 0 rfl rfl 6 (by decide) kf23 (fun _ h9 => h9) rfl dX6_corner_31 ?_
  refine lv_bipush (v := 8) hx hb dX6_corner_34 (by decide) ?_
  refine lv_iload_n hx hb dX6_corner_36 rfl (lv_at hl 1 rfl) ?_
  refine lv_imul hx hb dX6_corner_37 ?_
  refine tp_i (y := nI (8 * r)) (pk_mul 8 r) ?_
  refine ga_ild hx hb hK hP 5 rfl (8 * r) (rfl) (by omega) (by decide) dX6_corner_38 ?_
  refine tp_i (y := -1) (mf) ?_
  refine lv_istore_n (lv' := [(3, .int (-1)), (4, .int 0), (0, .ref (g 0)), (1, .int (nI r)), (2, .int 3)]) hx hb dX6_corner_39 rfl hl (by decide) rfl (fun ls hl => ?_)
  refine lv_iinc (v := 1) (lv' := [(4, .int 1), (3, .int (-1)), (0, .ref (g 0)), (1, .int (nI r)), (2, .int 3)]) hx hb dX6_corner_40 hl (k := 1) rfl (by decide) (by decide) rfl (fun ls hl => ?_)
  refine lv_goto (tgt := 5) hx hb dX6_corner_43 (by decide) ?_
  refine lv_iload hx hb dX6_corner_5 (lv_at hl 0 rfl) ?_
  refine lv_iload_n hx hb dX6_corner_7 rfl (lv_at hl 4 rfl) ?_
  refine lv_icmp_ge (tgt := 46) hx hb dX6_corner_8 (by decide) (fun h9 => absurd h9 (by decide)) (fun _ => ?_)
  refine lv_iload_n hx hb dX6_corner_11 rfl (lv_at hl 1 rfl) ?_
  refine lv_if_ge (tgt := 18) hx hb dX6_corner_12 (by decide) (fun h9 => absurd h9 (by decide)) (fun _ => ?_)
  refine lv_bipush (v := (-8)) hx hb dX6_corner_15 (by decide) ?_
  exact W.iret (v := (-8)) hx hb hr (fun t9 ht _ => ⟨congrArg (fun z => Outcome.returned (some (Value.int z))) (rfl), ht⟩) (fun _ h9 => nomatch h9) dX6_corner_17
set_option maxHeartbeats 4000000 in
set_option maxRecDepth 100000 in
theorem c_X6_corner3_f1B (hh : ad_ok g 16) (hn : n ≤ 100) (r : Nat) (hr9 : r < n) (p1 : Nat) (hp1 : p1 < n) (s0 : ¬ Sz r = 0) (m0 : Pl (8 * r) = nI p1) (sf : Sz p1 = 0) : Met l yX6_corner wsX6_corner ({ frames := 1, cells := 0, slots := 0, locals := 60 }) (wd_P D cI cJ [.ref (g 0), .int (nI r), .int 3] (mo_W cI cJ g fx (nI n) F Wt Sz Nu Pl Bf (nI b) (nI k) G Wk To Sl Sd (nI as) wo pa fa Fo)) (pu_Q (some (.int (-7)))) 0 0 (fun _ => False) := by
  refine Met.ofW (cc := cX6_corner) (maxL := 5) (ret := (some .int)) (by decide) rfl ?_
  intro p e s m args below meth c s₁ B hml hv
  obtain ⟨rfl, hP, hK⟩ := hv
  have hx := B.exec
  have hb := B.bytes
  have hr := B.returns
  have hts := atoms_spec (ws := wsX6_corner) B.pre
  have hown : s.vm.findClass RX6 = some m.cls := findClass_of_methodNamed B.named
  have hlocks := B.notSynchronized
  have hiX6 : ∀ w ∈ u_ws RX6 TX6 23, w ∈ wsX6_corner := by decide +kernel
  have kf16 := hts (.fieldLink RX6 16 "SortingLineModel" "sizes" "[I") (by decide +kernel)
  have kf23 := hts (.fieldLink RX6 23 "SortingLineModel" "places" "[I") (by decide +kernel)
  have hl := lv_entry ([.ref (g 0), .int (nI r), .int 3]) (n := 5) (Nat.le_of_ble_eq_true rfl)
  rw [lg_entry_eq]
  generalize (lg_sl ([.ref (g 0), .int (nI r), .int 3]) ++ List.replicate (5 - (lg_sl ([.ref (g 0), .int (nI r), .int 3])).length) Slot.unset).toArray = ls at hl ⊢
  have hl : lv_has ls 5 [(0, .ref (g 0)), (1, .int (nI r)), (2, .int 3)] := hl
  refine lv_iload_n hx hb dX6_corner_0 rfl (lv_at hl 1 rfl) ?_
  refine lv_istore_n (lv' := [(3, .int (nI r)), (0, .ref (g 0)), (1, .int (nI r)), (2, .int 3)]) hx hb dX6_corner_1 rfl hl (by decide) rfl (fun ls hl => ?_)
  refine lv_iconst (v := 0) hx hb dX6_corner_2 (by decide) ?_
  refine lv_istore (lv' := [(4, .int 0), (3, .int (nI r)), (0, .ref (g 0)), (1, .int (nI r)), (2, .int 3)]) hx hb dX6_corner_3 hl (by decide) rfl (fun ls hl => ?_)
  refine lv_iload hx hb dX6_corner_5 (lv_at hl 0 rfl) ?_
  refine lv_iload_n hx hb dX6_corner_7 rfl (lv_at hl 4 rfl) ?_
  refine lv_icmp_ge (tgt := 46) hx hb dX6_corner_8 (by decide) (fun h9 => absurd h9 (by decide)) (fun _ => ?_)
  refine lv_iload_n hx hb dX6_corner_11 rfl (lv_at hl 1 rfl) ?_
  refine lv_if_ge (tgt := 18) hx hb dX6_corner_12 (by decide) (fun _ => ?_) (fun h9 => absurd (nI_pos' (by omega)) h9)
  refine lv_aload_n hx hb dX6_corner_18 rfl (lv_at hl 2 rfl) ?_
  refine va_get (D := D) (ci := 6) (v := .ref (g 3)) (C := RX6) (T := TX6) (N := 23) hx hb hts hiX6 hown hK.1 hP 0 rfl rfl 4 (by decide) kf16 (fun _ h9 => h9) rfl dX6_corner_19 ?_
  refine lv_iload_n hx hb dX6_corner_22 rfl (lv_at hl 1 rfl) ?_
  refine ga_ild hx hb hK hP 3 rfl r (rfl) (by omega) (by decide) dX6_corner_23 ?_
  refine lv_if_ne (tgt := 30) hx hb dX6_corner_24 (by decide) (fun _ => ?_) (fun h9 => absurd h9 (s0))
  refine lv_aload_n hx hb dX6_corner_30 rfl (lv_at hl 2 rfl) ?_
  refine va_get (D := D) (ci := 6) (v := .ref (g 5)) (C := RX6) (T := TX6) (N := 23) hx hb hts hiX6 hown hK.1 hP 0 rfl rfl 6 (by decide) kf23 (fun _ h9 => h9) rfl dX6_corner_31 ?_
  refine lv_bipush (v := 8) hx hb dX6_corner_34 (by decide) ?_
  refine lv_iload_n hx hb dX6_corner_36 rfl (lv_at hl 1 rfl) ?_
  refine lv_imul hx hb dX6_corner_37 ?_
  refine tp_i (y := nI (8 * r)) (pk_mul 8 r) ?_
  refine ga_ild hx hb hK hP 5 rfl (8 * r) (rfl) (by omega) (by decide) dX6_corner_38 ?_
  refine tp_i (y := nI p1) (m0) ?_
  refine lv_istore_n (lv' := [(3, .int (nI p1)), (4, .int 0), (0, .ref (g 0)), (1, .int (nI r)), (2, .int 3)]) hx hb dX6_corner_39 rfl hl (by decide) rfl (fun ls hl => ?_)
  refine lv_iinc (v := 1) (lv' := [(4, .int 1), (3, .int (nI p1)), (0, .ref (g 0)), (1, .int (nI r)), (2, .int 3)]) hx hb dX6_corner_40 hl (k := 1) rfl (by decide) (by decide) rfl (fun ls hl => ?_)
  refine lv_goto (tgt := 5) hx hb dX6_corner_43 (by decide) ?_
  refine lv_iload hx hb dX6_corner_5 (lv_at hl 0 rfl) ?_
  refine lv_iload_n hx hb dX6_corner_7 rfl (lv_at hl 4 rfl) ?_
  refine lv_icmp_ge (tgt := 46) hx hb dX6_corner_8 (by decide) (fun h9 => absurd h9 (by decide)) (fun _ => ?_)
  refine lv_iload_n hx hb dX6_corner_11 rfl (lv_at hl 1 rfl) ?_
  refine lv_if_ge (tgt := 18) hx hb dX6_corner_12 (by decide) (fun _ => ?_) (fun h9 => absurd (nI_pos' (by omega)) h9)
  refine lv_aload_n hx hb dX6_corner_18 rfl (lv_at hl 2 rfl) ?_
  refine va_get (D := D) (ci := 6) (v := .ref (g 3)) (C := RX6) (T := TX6) (N := 23) hx hb hts hiX6 hown hK.1 hP 0 rfl rfl 4 (by decide) kf16 (fun _ h9 => h9) rfl dX6_corner_19 ?_
  refine lv_iload_n hx hb dX6_corner_22 rfl (lv_at hl 1 rfl) ?_
  refine ga_ild hx hb hK hP 3 rfl p1 (rfl) (by omega) (by decide) dX6_corner_23 ?_
  refine lv_if_ne (tgt := 30) hx hb dX6_corner_24 (by decide) (fun h9 => absurd (sf) h9) (fun _ => ?_)
  refine lv_bipush (v := (-7)) hx hb dX6_corner_27 (by decide) ?_
  exact W.iret (v := (-7)) hx hb hr (fun t9 ht _ => ⟨congrArg (fun z => Outcome.returned (some (Value.int z))) (rfl), ht⟩) (fun _ h9 => nomatch h9) dX6_corner_29
set_option maxHeartbeats 4000000 in
set_option maxRecDepth 100000 in
theorem c_X6_corner3_f1N (hh : ad_ok g 16) (hn : n ≤ 100) (r : Nat) (hr9 : r < n) (p1 : Nat) (hp1 : p1 < n) (s0 : ¬ Sz r = 0) (m0 : Pl (8 * r) = nI p1) (sf : ¬ Sz p1 = 0) (mf : Pl (8 * p1) = -1) : Met l yX6_corner wsX6_corner ({ frames := 1, cells := 0, slots := 0, locals := 60 }) (wd_P D cI cJ [.ref (g 0), .int (nI r), .int 3] (mo_W cI cJ g fx (nI n) F Wt Sz Nu Pl Bf (nI b) (nI k) G Wk To Sl Sd (nI as) wo pa fa Fo)) (pu_Q (some (.int (-8)))) 0 0 (fun _ => False) := by
  refine Met.ofW (cc := cX6_corner) (maxL := 5) (ret := (some .int)) (by decide) rfl ?_
  intro p e s m args below meth c s₁ B hml hv
  obtain ⟨rfl, hP, hK⟩ := hv
  have hx := B.exec
  have hb := B.bytes
  have hr := B.returns
  have hts := atoms_spec (ws := wsX6_corner) B.pre
  have hown : s.vm.findClass RX6 = some m.cls := findClass_of_methodNamed B.named
  have hlocks := B.notSynchronized
  have hiX6 : ∀ w ∈ u_ws RX6 TX6 23, w ∈ wsX6_corner := by decide +kernel
  have kf16 := hts (.fieldLink RX6 16 "SortingLineModel" "sizes" "[I") (by decide +kernel)
  have kf23 := hts (.fieldLink RX6 23 "SortingLineModel" "places" "[I") (by decide +kernel)
  have hl := lv_entry ([.ref (g 0), .int (nI r), .int 3]) (n := 5) (Nat.le_of_ble_eq_true rfl)
  rw [lg_entry_eq]
  generalize (lg_sl ([.ref (g 0), .int (nI r), .int 3]) ++ List.replicate (5 - (lg_sl ([.ref (g 0), .int (nI r), .int 3])).length) Slot.unset).toArray = ls at hl ⊢
  have hl : lv_has ls 5 [(0, .ref (g 0)), (1, .int (nI r)), (2, .int 3)] := hl
  refine lv_iload_n hx hb dX6_corner_0 rfl (lv_at hl 1 rfl) ?_
  refine lv_istore_n (lv' := [(3, .int (nI r)), (0, .ref (g 0)), (1, .int (nI r)), (2, .int 3)]) hx hb dX6_corner_1 rfl hl (by decide) rfl (fun ls hl => ?_)
  refine lv_iconst (v := 0) hx hb dX6_corner_2 (by decide) ?_
  refine lv_istore (lv' := [(4, .int 0), (3, .int (nI r)), (0, .ref (g 0)), (1, .int (nI r)), (2, .int 3)]) hx hb dX6_corner_3 hl (by decide) rfl (fun ls hl => ?_)
  refine lv_iload hx hb dX6_corner_5 (lv_at hl 0 rfl) ?_
  refine lv_iload_n hx hb dX6_corner_7 rfl (lv_at hl 4 rfl) ?_
  refine lv_icmp_ge (tgt := 46) hx hb dX6_corner_8 (by decide) (fun h9 => absurd h9 (by decide)) (fun _ => ?_)
  refine lv_iload_n hx hb dX6_corner_11 rfl (lv_at hl 1 rfl) ?_
  refine lv_if_ge (tgt := 18) hx hb dX6_corner_12 (by decide) (fun _ => ?_) (fun h9 => absurd (nI_pos' (by omega)) h9)
  refine lv_aload_n hx hb dX6_corner_18 rfl (lv_at hl 2 rfl) ?_
  refine va_get (D := D) (ci := 6) (v := .ref (g 3)) (C := RX6) (T := TX6) (N := 23) hx hb hts hiX6 hown hK.1 hP 0 rfl rfl 4 (by decide) kf16 (fun _ h9 => h9) rfl dX6_corner_19 ?_
  refine lv_iload_n hx hb dX6_corner_22 rfl (lv_at hl 1 rfl) ?_
  refine ga_ild hx hb hK hP 3 rfl r (rfl) (by omega) (by decide) dX6_corner_23 ?_
  refine lv_if_ne (tgt := 30) hx hb dX6_corner_24 (by decide) (fun _ => ?_) (fun h9 => absurd h9 (s0))
  refine lv_aload_n hx hb dX6_corner_30 rfl (lv_at hl 2 rfl) ?_
  refine va_get (D := D) (ci := 6) (v := .ref (g 5)) (C := RX6) (T := TX6) (N := 23) hx hb hts hiX6 hown hK.1 hP 0 rfl rfl 6 (by decide) kf23 (fun _ h9 => h9) rfl dX6_corner_31 ?_
  refine lv_bipush (v := 8) hx hb dX6_corner_34 (by decide) ?_
  refine lv_iload_n hx hb dX6_corner_36 rfl (lv_at hl 1 rfl) ?_
  refine lv_imul hx hb dX6_corner_37 ?_
  refine tp_i (y := nI (8 * r)) (pk_mul 8 r) ?_
  refine ga_ild hx hb hK hP 5 rfl (8 * r) (rfl) (by omega) (by decide) dX6_corner_38 ?_
  refine tp_i (y := nI p1) (m0) ?_
  refine lv_istore_n (lv' := [(3, .int (nI p1)), (4, .int 0), (0, .ref (g 0)), (1, .int (nI r)), (2, .int 3)]) hx hb dX6_corner_39 rfl hl (by decide) rfl (fun ls hl => ?_)
  refine lv_iinc (v := 1) (lv' := [(4, .int 1), (3, .int (nI p1)), (0, .ref (g 0)), (1, .int (nI r)), (2, .int 3)]) hx hb dX6_corner_40 hl (k := 1) rfl (by decide) (by decide) rfl (fun ls hl => ?_)
  refine lv_goto (tgt := 5) hx hb dX6_corner_43 (by decide) ?_
  refine lv_iload hx hb dX6_corner_5 (lv_at hl 0 rfl) ?_
  refine lv_iload_n hx hb dX6_corner_7 rfl (lv_at hl 4 rfl) ?_
  refine lv_icmp_ge (tgt := 46) hx hb dX6_corner_8 (by decide) (fun h9 => absurd h9 (by decide)) (fun _ => ?_)
  refine lv_iload_n hx hb dX6_corner_11 rfl (lv_at hl 1 rfl) ?_
  refine lv_if_ge (tgt := 18) hx hb dX6_corner_12 (by decide) (fun _ => ?_) (fun h9 => absurd (nI_pos' (by omega)) h9)
  refine lv_aload_n hx hb dX6_corner_18 rfl (lv_at hl 2 rfl) ?_
  refine va_get (D := D) (ci := 6) (v := .ref (g 3)) (C := RX6) (T := TX6) (N := 23) hx hb hts hiX6 hown hK.1 hP 0 rfl rfl 4 (by decide) kf16 (fun _ h9 => h9) rfl dX6_corner_19 ?_
  refine lv_iload_n hx hb dX6_corner_22 rfl (lv_at hl 1 rfl) ?_
  refine ga_ild hx hb hK hP 3 rfl p1 (rfl) (by omega) (by decide) dX6_corner_23 ?_
  refine lv_if_ne (tgt := 30) hx hb dX6_corner_24 (by decide) (fun _ => ?_) (fun h9 => absurd h9 (sf))
  refine lv_aload_n hx hb dX6_corner_30 rfl (lv_at hl 2 rfl) ?_
  refine va_get (D := D) (ci := 6) (v := .ref (g 5)) (C := RX6) (T := TX6) (N := 23) hx hb hts hiX6 hown hK.1 hP 0 rfl rfl 6 (by decide) kf23 (fun _ h9 => h9) rfl dX6_corner_31 ?_
  refine lv_bipush (v := 8) hx hb dX6_corner_34 (by decide) ?_
  refine lv_iload_n hx hb dX6_corner_36 rfl (lv_at hl 1 rfl) ?_
  refine lv_imul hx hb dX6_corner_37 ?_
  refine tp_i (y := nI (8 * p1)) (pk_mul 8 p1) ?_
  refine ga_ild hx hb hK hP 5 rfl (8 * p1) (rfl) (by omega) (by decide) dX6_corner_38 ?_
  refine tp_i (y := -1) (mf) ?_
  refine lv_istore_n (lv' := [(3, .int (-1)), (4, .int 1), (0, .ref (g 0)), (1, .int (nI r)), (2, .int 3)]) hx hb dX6_corner_39 rfl hl (by decide) rfl (fun ls hl => ?_)
  refine lv_iinc (v := 2) (lv' := [(4, .int 2), (3, .int (-1)), (0, .ref (g 0)), (1, .int (nI r)), (2, .int 3)]) hx hb dX6_corner_40 hl (k := 1) rfl (by decide) (by decide) rfl (fun ls hl => ?_)
  refine lv_goto (tgt := 5) hx hb dX6_corner_43 (by decide) ?_
  refine lv_iload hx hb dX6_corner_5 (lv_at hl 0 rfl) ?_
  refine lv_iload_n hx hb dX6_corner_7 rfl (lv_at hl 4 rfl) ?_
  refine lv_icmp_ge (tgt := 46) hx hb dX6_corner_8 (by decide) (fun h9 => absurd h9 (by decide)) (fun _ => ?_)
  refine lv_iload_n hx hb dX6_corner_11 rfl (lv_at hl 1 rfl) ?_
  refine lv_if_ge (tgt := 18) hx hb dX6_corner_12 (by decide) (fun h9 => absurd h9 (by decide)) (fun _ => ?_)
  refine lv_bipush (v := (-8)) hx hb dX6_corner_15 (by decide) ?_
  exact W.iret (v := (-8)) hx hb hr (fun t9 ht _ => ⟨congrArg (fun z => Outcome.returned (some (Value.int z))) (rfl), ht⟩) (fun _ h9 => nomatch h9) dX6_corner_17
set_option maxHeartbeats 4000000 in
set_option maxRecDepth 100000 in
theorem c_X6_corner3_f2B (hh : ad_ok g 16) (hn : n ≤ 100) (r : Nat) (hr9 : r < n) (p1 : Nat) (hp1 : p1 < n) (p2 : Nat) (hp2 : p2 < n) (s0 : ¬ Sz r = 0) (m0 : Pl (8 * r) = nI p1) (s1 : ¬ Sz p1 = 0) (m1 : Pl (8 * p1) = nI p2) (sf : Sz p2 = 0) : Met l yX6_corner wsX6_corner ({ frames := 1, cells := 0, slots := 0, locals := 60 }) (wd_P D cI cJ [.ref (g 0), .int (nI r), .int 3] (mo_W cI cJ g fx (nI n) F Wt Sz Nu Pl Bf (nI b) (nI k) G Wk To Sl Sd (nI as) wo pa fa Fo)) (pu_Q (some (.int (-7)))) 0 0 (fun _ => False) := by
  refine Met.ofW (cc := cX6_corner) (maxL := 5) (ret := (some .int)) (by decide) rfl ?_
  intro p e s m args below meth c s₁ B hml hv
  obtain ⟨rfl, hP, hK⟩ := hv
  have hx := B.exec
  have hb := B.bytes
  have hr := B.returns
  have hts := atoms_spec (ws := wsX6_corner) B.pre
  have hown : s.vm.findClass RX6 = some m.cls := findClass_of_methodNamed B.named
  have hlocks := B.notSynchronized
  have hiX6 : ∀ w ∈ u_ws RX6 TX6 23, w ∈ wsX6_corner := by decide +kernel
  have kf16 := hts (.fieldLink RX6 16 "SortingLineModel" "sizes" "[I") (by decide +kernel)
  have kf23 := hts (.fieldLink RX6 23 "SortingLineModel" "places" "[I") (by decide +kernel)
  have hl := lv_entry ([.ref (g 0), .int (nI r), .int 3]) (n := 5) (Nat.le_of_ble_eq_true rfl)
  rw [lg_entry_eq]
  generalize (lg_sl ([.ref (g 0), .int (nI r), .int 3]) ++ List.replicate (5 - (lg_sl ([.ref (g 0), .int (nI r), .int 3])).length) Slot.unset).toArray = ls at hl ⊢
  have hl : lv_has ls 5 [(0, .ref (g 0)), (1, .int (nI r)), (2, .int 3)] := hl
  refine lv_iload_n hx hb dX6_corner_0 rfl (lv_at hl 1 rfl) ?_
  refine lv_istore_n (lv' := [(3, .int (nI r)), (0, .ref (g 0)), (1, .int (nI r)), (2, .int 3)]) hx hb dX6_corner_1 rfl hl (by decide) rfl (fun ls hl => ?_)
  refine lv_iconst (v := 0) hx hb dX6_corner_2 (by decide) ?_
  refine lv_istore (lv' := [(4, .int 0), (3, .int (nI r)), (0, .ref (g 0)), (1, .int (nI r)), (2, .int 3)]) hx hb dX6_corner_3 hl (by decide) rfl (fun ls hl => ?_)
  refine lv_iload hx hb dX6_corner_5 (lv_at hl 0 rfl) ?_
  refine lv_iload_n hx hb dX6_corner_7 rfl (lv_at hl 4 rfl) ?_
  refine lv_icmp_ge (tgt := 46) hx hb dX6_corner_8 (by decide) (fun h9 => absurd h9 (by decide)) (fun _ => ?_)
  refine lv_iload_n hx hb dX6_corner_11 rfl (lv_at hl 1 rfl) ?_
  refine lv_if_ge (tgt := 18) hx hb dX6_corner_12 (by decide) (fun _ => ?_) (fun h9 => absurd (nI_pos' (by omega)) h9)
  refine lv_aload_n hx hb dX6_corner_18 rfl (lv_at hl 2 rfl) ?_
  refine va_get (D := D) (ci := 6) (v := .ref (g 3)) (C := RX6) (T := TX6) (N := 23) hx hb hts hiX6 hown hK.1 hP 0 rfl rfl 4 (by decide) kf16 (fun _ h9 => h9) rfl dX6_corner_19 ?_
  refine lv_iload_n hx hb dX6_corner_22 rfl (lv_at hl 1 rfl) ?_
  refine ga_ild hx hb hK hP 3 rfl r (rfl) (by omega) (by decide) dX6_corner_23 ?_
  refine lv_if_ne (tgt := 30) hx hb dX6_corner_24 (by decide) (fun _ => ?_) (fun h9 => absurd h9 (s0))
  refine lv_aload_n hx hb dX6_corner_30 rfl (lv_at hl 2 rfl) ?_
  refine va_get (D := D) (ci := 6) (v := .ref (g 5)) (C := RX6) (T := TX6) (N := 23) hx hb hts hiX6 hown hK.1 hP 0 rfl rfl 6 (by decide) kf23 (fun _ h9 => h9) rfl dX6_corner_31 ?_
  refine lv_bipush (v := 8) hx hb dX6_corner_34 (by decide) ?_
  refine lv_iload_n hx hb dX6_corner_36 rfl (lv_at hl 1 rfl) ?_
  refine lv_imul hx hb dX6_corner_37 ?_
  refine tp_i (y := nI (8 * r)) (pk_mul 8 r) ?_
  refine ga_ild hx hb hK hP 5 rfl (8 * r) (rfl) (by omega) (by decide) dX6_corner_38 ?_
  refine tp_i (y := nI p1) (m0) ?_
  refine lv_istore_n (lv' := [(3, .int (nI p1)), (4, .int 0), (0, .ref (g 0)), (1, .int (nI r)), (2, .int 3)]) hx hb dX6_corner_39 rfl hl (by decide) rfl (fun ls hl => ?_)
  refine lv_iinc (v := 1) (lv' := [(4, .int 1), (3, .int (nI p1)), (0, .ref (g 0)), (1, .int (nI r)), (2, .int 3)]) hx hb dX6_corner_40 hl (k := 1) rfl (by decide) (by decide) rfl (fun ls hl => ?_)
  refine lv_goto (tgt := 5) hx hb dX6_corner_43 (by decide) ?_
  refine lv_iload hx hb dX6_corner_5 (lv_at hl 0 rfl) ?_
  refine lv_iload_n hx hb dX6_corner_7 rfl (lv_at hl 4 rfl) ?_
  refine lv_icmp_ge (tgt := 46) hx hb dX6_corner_8 (by decide) (fun h9 => absurd h9 (by decide)) (fun _ => ?_)
  refine lv_iload_n hx hb dX6_corner_11 rfl (lv_at hl 1 rfl) ?_
  refine lv_if_ge (tgt := 18) hx hb dX6_corner_12 (by decide) (fun _ => ?_) (fun h9 => absurd (nI_pos' (by omega)) h9)
  refine lv_aload_n hx hb dX6_corner_18 rfl (lv_at hl 2 rfl) ?_
  refine va_get (D := D) (ci := 6) (v := .ref (g 3)) (C := RX6) (T := TX6) (N := 23) hx hb hts hiX6 hown hK.1 hP 0 rfl rfl 4 (by decide) kf16 (fun _ h9 => h9) rfl dX6_corner_19 ?_
  refine lv_iload_n hx hb dX6_corner_22 rfl (lv_at hl 1 rfl) ?_
  refine ga_ild hx hb hK hP 3 rfl p1 (rfl) (by omega) (by decide) dX6_corner_23 ?_
  refine lv_if_ne (tgt := 30) hx hb dX6_corner_24 (by decide) (fun _ => ?_) (fun h9 => absurd h9 (s1))
  refine lv_aload_n hx hb dX6_corner_30 rfl (lv_at hl 2 rfl) ?_
  refine va_get (D := D) (ci := 6) (v := .ref (g 5)) (C := RX6) (T := TX6) (N := 23) hx hb hts hiX6 hown hK.1 hP 0 rfl rfl 6 (by decide) kf23 (fun _ h9 => h9) rfl dX6_corner_31 ?_
  refine lv_bipush (v := 8) hx hb dX6_corner_34 (by decide) ?_
  refine lv_iload_n hx hb dX6_corner_36 rfl (lv_at hl 1 rfl) ?_
  refine lv_imul hx hb dX6_corner_37 ?_
  refine tp_i (y := nI (8 * p1)) (pk_mul 8 p1) ?_
  refine ga_ild hx hb hK hP 5 rfl (8 * p1) (rfl) (by omega) (by decide) dX6_corner_38 ?_
  refine tp_i (y := nI p2) (m1) ?_
  refine lv_istore_n (lv' := [(3, .int (nI p2)), (4, .int 1), (0, .ref (g 0)), (1, .int (nI r)), (2, .int 3)]) hx hb dX6_corner_39 rfl hl (by decide) rfl (fun ls hl => ?_)
  refine lv_iinc (v := 2) (lv' := [(4, .int 2), (3, .int (nI p2)), (0, .ref (g 0)), (1, .int (nI r)), (2, .int 3)]) hx hb dX6_corner_40 hl (k := 1) rfl (by decide) (by decide) rfl (fun ls hl => ?_)
  refine lv_goto (tgt := 5) hx hb dX6_corner_43 (by decide) ?_
  refine lv_iload hx hb dX6_corner_5 (lv_at hl 0 rfl) ?_
  refine lv_iload_n hx hb dX6_corner_7 rfl (lv_at hl 4 rfl) ?_
  refine lv_icmp_ge (tgt := 46) hx hb dX6_corner_8 (by decide) (fun h9 => absurd h9 (by decide)) (fun _ => ?_)
  refine lv_iload_n hx hb dX6_corner_11 rfl (lv_at hl 1 rfl) ?_
  refine lv_if_ge (tgt := 18) hx hb dX6_corner_12 (by decide) (fun _ => ?_) (fun h9 => absurd (nI_pos' (by omega)) h9)
  refine lv_aload_n hx hb dX6_corner_18 rfl (lv_at hl 2 rfl) ?_
  refine va_get (D := D) (ci := 6) (v := .ref (g 3)) (C := RX6) (T := TX6) (N := 23) hx hb hts hiX6 hown hK.1 hP 0 rfl rfl 4 (by decide) kf16 (fun _ h9 => h9) rfl dX6_corner_19 ?_
  refine lv_iload_n hx hb dX6_corner_22 rfl (lv_at hl 1 rfl) ?_
  refine ga_ild hx hb hK hP 3 rfl p2 (rfl) (by omega) (by decide) dX6_corner_23 ?_
  refine lv_if_ne (tgt := 30) hx hb dX6_corner_24 (by decide) (fun h9 => absurd (sf) h9) (fun _ => ?_)
  refine lv_bipush (v := (-7)) hx hb dX6_corner_27 (by decide) ?_
  exact W.iret (v := (-7)) hx hb hr (fun t9 ht _ => ⟨congrArg (fun z => Outcome.returned (some (Value.int z))) (rfl), ht⟩) (fun _ h9 => nomatch h9) dX6_corner_29
set_option maxHeartbeats 4000000 in
set_option maxRecDepth 100000 in
theorem c_X6_corner3_f2N (hh : ad_ok g 16) (hn : n ≤ 100) (r : Nat) (hr9 : r < n) (p1 : Nat) (hp1 : p1 < n) (p2 : Nat) (hp2 : p2 < n) (s0 : ¬ Sz r = 0) (m0 : Pl (8 * r) = nI p1) (s1 : ¬ Sz p1 = 0) (m1 : Pl (8 * p1) = nI p2) (sf : ¬ Sz p2 = 0) (mf : Pl (8 * p2) = -1) : Met l yX6_corner wsX6_corner ({ frames := 1, cells := 0, slots := 0, locals := 60 }) (wd_P D cI cJ [.ref (g 0), .int (nI r), .int 3] (mo_W cI cJ g fx (nI n) F Wt Sz Nu Pl Bf (nI b) (nI k) G Wk To Sl Sd (nI as) wo pa fa Fo)) (pu_Q (some (.int (-8)))) 0 0 (fun _ => False) := by
  refine Met.ofW (cc := cX6_corner) (maxL := 5) (ret := (some .int)) (by decide) rfl ?_
  intro p e s m args below meth c s₁ B hml hv
  obtain ⟨rfl, hP, hK⟩ := hv
  have hx := B.exec
  have hb := B.bytes
  have hr := B.returns
  have hts := atoms_spec (ws := wsX6_corner) B.pre
  have hown : s.vm.findClass RX6 = some m.cls := findClass_of_methodNamed B.named
  have hlocks := B.notSynchronized
  have hiX6 : ∀ w ∈ u_ws RX6 TX6 23, w ∈ wsX6_corner := by decide +kernel
  have kf16 := hts (.fieldLink RX6 16 "SortingLineModel" "sizes" "[I") (by decide +kernel)
  have kf23 := hts (.fieldLink RX6 23 "SortingLineModel" "places" "[I") (by decide +kernel)
  have hl := lv_entry ([.ref (g 0), .int (nI r), .int 3]) (n := 5) (Nat.le_of_ble_eq_true rfl)
  rw [lg_entry_eq]
  generalize (lg_sl ([.ref (g 0), .int (nI r), .int 3]) ++ List.replicate (5 - (lg_sl ([.ref (g 0), .int (nI r), .int 3])).length) Slot.unset).toArray = ls at hl ⊢
  have hl : lv_has ls 5 [(0, .ref (g 0)), (1, .int (nI r)), (2, .int 3)] := hl
  refine lv_iload_n hx hb dX6_corner_0 rfl (lv_at hl 1 rfl) ?_
  refine lv_istore_n (lv' := [(3, .int (nI r)), (0, .ref (g 0)), (1, .int (nI r)), (2, .int 3)]) hx hb dX6_corner_1 rfl hl (by decide) rfl (fun ls hl => ?_)
  refine lv_iconst (v := 0) hx hb dX6_corner_2 (by decide) ?_
  refine lv_istore (lv' := [(4, .int 0), (3, .int (nI r)), (0, .ref (g 0)), (1, .int (nI r)), (2, .int 3)]) hx hb dX6_corner_3 hl (by decide) rfl (fun ls hl => ?_)
  refine lv_iload hx hb dX6_corner_5 (lv_at hl 0 rfl) ?_
  refine lv_iload_n hx hb dX6_corner_7 rfl (lv_at hl 4 rfl) ?_
  refine lv_icmp_ge (tgt := 46) hx hb dX6_corner_8 (by decide) (fun h9 => absurd h9 (by decide)) (fun _ => ?_)
  refine lv_iload_n hx hb dX6_corner_11 rfl (lv_at hl 1 rfl) ?_
  refine lv_if_ge (tgt := 18) hx hb dX6_corner_12 (by decide) (fun _ => ?_) (fun h9 => absurd (nI_pos' (by omega)) h9)
  refine lv_aload_n hx hb dX6_corner_18 rfl (lv_at hl 2 rfl) ?_
  refine va_get (D := D) (ci := 6) (v := .ref (g 3)) (C := RX6) (T := TX6) (N := 23) hx hb hts hiX6 hown hK.1 hP 0 rfl rfl 4 (by decide) kf16 (fun _ h9 => h9) rfl dX6_corner_19 ?_
  refine lv_iload_n hx hb dX6_corner_22 rfl (lv_at hl 1 rfl) ?_
  refine ga_ild hx hb hK hP 3 rfl r (rfl) (by omega) (by decide) dX6_corner_23 ?_
  refine lv_if_ne (tgt := 30) hx hb dX6_corner_24 (by decide) (fun _ => ?_) (fun h9 => absurd h9 (s0))
  refine lv_aload_n hx hb dX6_corner_30 rfl (lv_at hl 2 rfl) ?_
  refine va_get (D := D) (ci := 6) (v := .ref (g 5)) (C := RX6) (T := TX6) (N := 23) hx hb hts hiX6 hown hK.1 hP 0 rfl rfl 6 (by decide) kf23 (fun _ h9 => h9) rfl dX6_corner_31 ?_
  refine lv_bipush (v := 8) hx hb dX6_corner_34 (by decide) ?_
  refine lv_iload_n hx hb dX6_corner_36 rfl (lv_at hl 1 rfl) ?_
  refine lv_imul hx hb dX6_corner_37 ?_
  refine tp_i (y := nI (8 * r)) (pk_mul 8 r) ?_
  refine ga_ild hx hb hK hP 5 rfl (8 * r) (rfl) (by omega) (by decide) dX6_corner_38 ?_
  refine tp_i (y := nI p1) (m0) ?_
  refine lv_istore_n (lv' := [(3, .int (nI p1)), (4, .int 0), (0, .ref (g 0)), (1, .int (nI r)), (2, .int 3)]) hx hb dX6_corner_39 rfl hl (by decide) rfl (fun ls hl => ?_)
  refine lv_iinc (v := 1) (lv' := [(4, .int 1), (3, .int (nI p1)), (0, .ref (g 0)), (1, .int (nI r)), (2, .int 3)]) hx hb dX6_corner_40 hl (k := 1) rfl (by decide) (by decide) rfl (fun ls hl => ?_)
  refine lv_goto (tgt := 5) hx hb dX6_corner_43 (by decide) ?_
  refine lv_iload hx hb dX6_corner_5 (lv_at hl 0 rfl) ?_
  refine lv_iload_n hx hb dX6_corner_7 rfl (lv_at hl 4 rfl) ?_
  refine lv_icmp_ge (tgt := 46) hx hb dX6_corner_8 (by decide) (fun h9 => absurd h9 (by decide)) (fun _ => ?_)
  refine lv_iload_n hx hb dX6_corner_11 rfl (lv_at hl 1 rfl) ?_
  refine lv_if_ge (tgt := 18) hx hb dX6_corner_12 (by decide) (fun _ => ?_) (fun h9 => absurd (nI_pos' (by omega)) h9)
  refine lv_aload_n hx hb dX6_corner_18 rfl (lv_at hl 2 rfl) ?_
  refine va_get (D := D) (ci := 6) (v := .ref (g 3)) (C := RX6) (T := TX6) (N := 23) hx hb hts hiX6 hown hK.1 hP 0 rfl rfl 4 (by decide) kf16 (fun _ h9 => h9) rfl dX6_corner_19 ?_
  refine lv_iload_n hx hb dX6_corner_22 rfl (lv_at hl 1 rfl) ?_
  refine ga_ild hx hb hK hP 3 rfl p1 (rfl) (by omega) (by decide) dX6_corner_23 ?_
  refine lv_if_ne (tgt := 30) hx hb dX6_corner_24 (by decide) (fun _ => ?_) (fun h9 => absurd h9 (s1))
  refine lv_aload_n hx hb dX6_corner_30 rfl (lv_at hl 2 rfl) ?_
  refine va_get (D := D) (ci := 6) (v := .ref (g 5)) (C := RX6) (T := TX6) (N := 23) hx hb hts hiX6 hown hK.1 hP 0 rfl rfl 6 (by decide) kf23 (fun _ h9 => h9) rfl dX6_corner_31 ?_
  refine lv_bipush (v := 8) hx hb dX6_corner_34 (by decide) ?_
  refine lv_iload_n hx hb dX6_corner_36 rfl (lv_at hl 1 rfl) ?_
  refine lv_imul hx hb dX6_corner_37 ?_
  refine tp_i (y := nI (8 * p1)) (pk_mul 8 p1) ?_
  refine ga_ild hx hb hK hP 5 rfl (8 * p1) (rfl) (by omega) (by decide) dX6_corner_38 ?_
  refine tp_i (y := nI p2) (m1) ?_
  refine lv_istore_n (lv' := [(3, .int (nI p2)), (4, .int 1), (0, .ref (g 0)), (1, .int (nI r)), (2, .int 3)]) hx hb dX6_corner_39 rfl hl (by decide) rfl (fun ls hl => ?_)
  refine lv_iinc (v := 2) (lv' := [(4, .int 2), (3, .int (nI p2)), (0, .ref (g 0)), (1, .int (nI r)), (2, .int 3)]) hx hb dX6_corner_40 hl (k := 1) rfl (by decide) (by decide) rfl (fun ls hl => ?_)
  refine lv_goto (tgt := 5) hx hb dX6_corner_43 (by decide) ?_
  refine lv_iload hx hb dX6_corner_5 (lv_at hl 0 rfl) ?_
  refine lv_iload_n hx hb dX6_corner_7 rfl (lv_at hl 4 rfl) ?_
  refine lv_icmp_ge (tgt := 46) hx hb dX6_corner_8 (by decide) (fun h9 => absurd h9 (by decide)) (fun _ => ?_)
  refine lv_iload_n hx hb dX6_corner_11 rfl (lv_at hl 1 rfl) ?_
  refine lv_if_ge (tgt := 18) hx hb dX6_corner_12 (by decide) (fun _ => ?_) (fun h9 => absurd (nI_pos' (by omega)) h9)
  refine lv_aload_n hx hb dX6_corner_18 rfl (lv_at hl 2 rfl) ?_
  refine va_get (D := D) (ci := 6) (v := .ref (g 3)) (C := RX6) (T := TX6) (N := 23) hx hb hts hiX6 hown hK.1 hP 0 rfl rfl 4 (by decide) kf16 (fun _ h9 => h9) rfl dX6_corner_19 ?_
  refine lv_iload_n hx hb dX6_corner_22 rfl (lv_at hl 1 rfl) ?_
  refine ga_ild hx hb hK hP 3 rfl p2 (rfl) (by omega) (by decide) dX6_corner_23 ?_
  refine lv_if_ne (tgt := 30) hx hb dX6_corner_24 (by decide) (fun _ => ?_) (fun h9 => absurd h9 (sf))
  refine lv_aload_n hx hb dX6_corner_30 rfl (lv_at hl 2 rfl) ?_
  refine va_get (D := D) (ci := 6) (v := .ref (g 5)) (C := RX6) (T := TX6) (N := 23) hx hb hts hiX6 hown hK.1 hP 0 rfl rfl 6 (by decide) kf23 (fun _ h9 => h9) rfl dX6_corner_31 ?_
  refine lv_bipush (v := 8) hx hb dX6_corner_34 (by decide) ?_
  refine lv_iload_n hx hb dX6_corner_36 rfl (lv_at hl 1 rfl) ?_
  refine lv_imul hx hb dX6_corner_37 ?_
  refine tp_i (y := nI (8 * p2)) (pk_mul 8 p2) ?_
  refine ga_ild hx hb hK hP 5 rfl (8 * p2) (rfl) (by omega) (by decide) dX6_corner_38 ?_
  refine tp_i (y := -1) (mf) ?_
  refine lv_istore_n (lv' := [(3, .int (-1)), (4, .int 2), (0, .ref (g 0)), (1, .int (nI r)), (2, .int 3)]) hx hb dX6_corner_39 rfl hl (by decide) rfl (fun ls hl => ?_)
  refine lv_iinc (v := 3) (lv' := [(4, .int 3), (3, .int (-1)), (0, .ref (g 0)), (1, .int (nI r)), (2, .int 3)]) hx hb dX6_corner_40 hl (k := 1) rfl (by decide) (by decide) rfl (fun ls hl => ?_)
  refine lv_goto (tgt := 5) hx hb dX6_corner_43 (by decide) ?_
  refine lv_iload hx hb dX6_corner_5 (lv_at hl 0 rfl) ?_
  refine lv_iload_n hx hb dX6_corner_7 rfl (lv_at hl 4 rfl) ?_
  refine lv_icmp_ge (tgt := 46) hx hb dX6_corner_8 (by decide) (fun _ => ?_) (fun h9 => absurd (by decide) h9)
  refine lv_iload_n hx hb dX6_corner_46 rfl (lv_at hl 1 rfl) ?_
  refine lv_if_ge (tgt := 55) hx hb dX6_corner_47 (by decide) (fun h9 => absurd h9 (by decide)) (fun _ => ?_)
  refine lv_bipush (v := (-8)) hx hb dX6_corner_50 (by decide) ?_
  refine lv_goto (tgt := 56) hx hb dX6_corner_52 (by decide) ?_
  exact W.iret (v := (-8)) hx hb hr (fun t9 ht _ => ⟨congrArg (fun z => Outcome.returned (some (Value.int z))) (rfl), ht⟩) (fun _ h9 => nomatch h9) dX6_corner_56
set_option maxHeartbeats 4000000 in
set_option maxRecDepth 100000 in
theorem c_X6_corner3_o (hh : ad_ok g 16) (hn : n ≤ 100) (r : Nat) (hr9 : r < n) (p1 : Nat) (hp1 : p1 < n) (p2 : Nat) (hp2 : p2 < n) (p3 : Nat) (hp3 : p3 < n) (s0 : ¬ Sz r = 0) (m0 : Pl (8 * r) = nI p1) (s1 : ¬ Sz p1 = 0) (m1 : Pl (8 * p1) = nI p2) (s2 : ¬ Sz p2 = 0) (m2 : Pl (8 * p2) = nI p3) : Met l yX6_corner wsX6_corner ({ frames := 1, cells := 0, slots := 0, locals := 60 }) (wd_P D cI cJ [.ref (g 0), .int (nI r), .int 3] (mo_W cI cJ g fx (nI n) F Wt Sz Nu Pl Bf (nI b) (nI k) G Wk To Sl Sd (nI as) wo pa fa Fo)) (pu_Q (some (.int (nI p3)))) 0 0 (fun _ => False) := by
  refine Met.ofW (cc := cX6_corner) (maxL := 5) (ret := (some .int)) (by decide) rfl ?_
  intro p e s m args below meth c s₁ B hml hv
  obtain ⟨rfl, hP, hK⟩ := hv
  have hx := B.exec
  have hb := B.bytes
  have hr := B.returns
  have hts := atoms_spec (ws := wsX6_corner) B.pre
  have hown : s.vm.findClass RX6 = some m.cls := findClass_of_methodNamed B.named
  have hlocks := B.notSynchronized
  have hiX6 : ∀ w ∈ u_ws RX6 TX6 23, w ∈ wsX6_corner := by decide +kernel
  have kf16 := hts (.fieldLink RX6 16 "SortingLineModel" "sizes" "[I") (by decide +kernel)
  have kf23 := hts (.fieldLink RX6 23 "SortingLineModel" "places" "[I") (by decide +kernel)
  have hl := lv_entry ([.ref (g 0), .int (nI r), .int 3]) (n := 5) (Nat.le_of_ble_eq_true rfl)
  rw [lg_entry_eq]
  generalize (lg_sl ([.ref (g 0), .int (nI r), .int 3]) ++ List.replicate (5 - (lg_sl ([.ref (g 0), .int (nI r), .int 3])).length) Slot.unset).toArray = ls at hl ⊢
  have hl : lv_has ls 5 [(0, .ref (g 0)), (1, .int (nI r)), (2, .int 3)] := hl
  refine lv_iload_n hx hb dX6_corner_0 rfl (lv_at hl 1 rfl) ?_
  refine lv_istore_n (lv' := [(3, .int (nI r)), (0, .ref (g 0)), (1, .int (nI r)), (2, .int 3)]) hx hb dX6_corner_1 rfl hl (by decide) rfl (fun ls hl => ?_)
  refine lv_iconst (v := 0) hx hb dX6_corner_2 (by decide) ?_
  refine lv_istore (lv' := [(4, .int 0), (3, .int (nI r)), (0, .ref (g 0)), (1, .int (nI r)), (2, .int 3)]) hx hb dX6_corner_3 hl (by decide) rfl (fun ls hl => ?_)
  refine lv_iload hx hb dX6_corner_5 (lv_at hl 0 rfl) ?_
  refine lv_iload_n hx hb dX6_corner_7 rfl (lv_at hl 4 rfl) ?_
  refine lv_icmp_ge (tgt := 46) hx hb dX6_corner_8 (by decide) (fun h9 => absurd h9 (by decide)) (fun _ => ?_)
  refine lv_iload_n hx hb dX6_corner_11 rfl (lv_at hl 1 rfl) ?_
  refine lv_if_ge (tgt := 18) hx hb dX6_corner_12 (by decide) (fun _ => ?_) (fun h9 => absurd (nI_pos' (by omega)) h9)
  refine lv_aload_n hx hb dX6_corner_18 rfl (lv_at hl 2 rfl) ?_
  refine va_get (D := D) (ci := 6) (v := .ref (g 3)) (C := RX6) (T := TX6) (N := 23) hx hb hts hiX6 hown hK.1 hP 0 rfl rfl 4 (by decide) kf16 (fun _ h9 => h9) rfl dX6_corner_19 ?_
  refine lv_iload_n hx hb dX6_corner_22 rfl (lv_at hl 1 rfl) ?_
  refine ga_ild hx hb hK hP 3 rfl r (rfl) (by omega) (by decide) dX6_corner_23 ?_
  refine lv_if_ne (tgt := 30) hx hb dX6_corner_24 (by decide) (fun _ => ?_) (fun h9 => absurd h9 (s0))
  refine lv_aload_n hx hb dX6_corner_30 rfl (lv_at hl 2 rfl) ?_
  refine va_get (D := D) (ci := 6) (v := .ref (g 5)) (C := RX6) (T := TX6) (N := 23) hx hb hts hiX6 hown hK.1 hP 0 rfl rfl 6 (by decide) kf23 (fun _ h9 => h9) rfl dX6_corner_31 ?_
  refine lv_bipush (v := 8) hx hb dX6_corner_34 (by decide) ?_
  refine lv_iload_n hx hb dX6_corner_36 rfl (lv_at hl 1 rfl) ?_
  refine lv_imul hx hb dX6_corner_37 ?_
  refine tp_i (y := nI (8 * r)) (pk_mul 8 r) ?_
  refine ga_ild hx hb hK hP 5 rfl (8 * r) (rfl) (by omega) (by decide) dX6_corner_38 ?_
  refine tp_i (y := nI p1) (m0) ?_
  refine lv_istore_n (lv' := [(3, .int (nI p1)), (4, .int 0), (0, .ref (g 0)), (1, .int (nI r)), (2, .int 3)]) hx hb dX6_corner_39 rfl hl (by decide) rfl (fun ls hl => ?_)
  refine lv_iinc (v := 1) (lv' := [(4, .int 1), (3, .int (nI p1)), (0, .ref (g 0)), (1, .int (nI r)), (2, .int 3)]) hx hb dX6_corner_40 hl (k := 1) rfl (by decide) (by decide) rfl (fun ls hl => ?_)
  refine lv_goto (tgt := 5) hx hb dX6_corner_43 (by decide) ?_
  refine lv_iload hx hb dX6_corner_5 (lv_at hl 0 rfl) ?_
  refine lv_iload_n hx hb dX6_corner_7 rfl (lv_at hl 4 rfl) ?_
  refine lv_icmp_ge (tgt := 46) hx hb dX6_corner_8 (by decide) (fun h9 => absurd h9 (by decide)) (fun _ => ?_)
  refine lv_iload_n hx hb dX6_corner_11 rfl (lv_at hl 1 rfl) ?_
  refine lv_if_ge (tgt := 18) hx hb dX6_corner_12 (by decide) (fun _ => ?_) (fun h9 => absurd (nI_pos' (by omega)) h9)
  refine lv_aload_n hx hb dX6_corner_18 rfl (lv_at hl 2 rfl) ?_
  refine va_get (D := D) (ci := 6) (v := .ref (g 3)) (C := RX6) (T := TX6) (N := 23) hx hb hts hiX6 hown hK.1 hP 0 rfl rfl 4 (by decide) kf16 (fun _ h9 => h9) rfl dX6_corner_19 ?_
  refine lv_iload_n hx hb dX6_corner_22 rfl (lv_at hl 1 rfl) ?_
  refine ga_ild hx hb hK hP 3 rfl p1 (rfl) (by omega) (by decide) dX6_corner_23 ?_
  refine lv_if_ne (tgt := 30) hx hb dX6_corner_24 (by decide) (fun _ => ?_) (fun h9 => absurd h9 (s1))
  refine lv_aload_n hx hb dX6_corner_30 rfl (lv_at hl 2 rfl) ?_
  refine va_get (D := D) (ci := 6) (v := .ref (g 5)) (C := RX6) (T := TX6) (N := 23) hx hb hts hiX6 hown hK.1 hP 0 rfl rfl 6 (by decide) kf23 (fun _ h9 => h9) rfl dX6_corner_31 ?_
  refine lv_bipush (v := 8) hx hb dX6_corner_34 (by decide) ?_
  refine lv_iload_n hx hb dX6_corner_36 rfl (lv_at hl 1 rfl) ?_
  refine lv_imul hx hb dX6_corner_37 ?_
  refine tp_i (y := nI (8 * p1)) (pk_mul 8 p1) ?_
  refine ga_ild hx hb hK hP 5 rfl (8 * p1) (rfl) (by omega) (by decide) dX6_corner_38 ?_
  refine tp_i (y := nI p2) (m1) ?_
  refine lv_istore_n (lv' := [(3, .int (nI p2)), (4, .int 1), (0, .ref (g 0)), (1, .int (nI r)), (2, .int 3)]) hx hb dX6_corner_39 rfl hl (by decide) rfl (fun ls hl => ?_)
  refine lv_iinc (v := 2) (lv' := [(4, .int 2), (3, .int (nI p2)), (0, .ref (g 0)), (1, .int (nI r)), (2, .int 3)]) hx hb dX6_corner_40 hl (k := 1) rfl (by decide) (by decide) rfl (fun ls hl => ?_)
  refine lv_goto (tgt := 5) hx hb dX6_corner_43 (by decide) ?_
  refine lv_iload hx hb dX6_corner_5 (lv_at hl 0 rfl) ?_
  refine lv_iload_n hx hb dX6_corner_7 rfl (lv_at hl 4 rfl) ?_
  refine lv_icmp_ge (tgt := 46) hx hb dX6_corner_8 (by decide) (fun h9 => absurd h9 (by decide)) (fun _ => ?_)
  refine lv_iload_n hx hb dX6_corner_11 rfl (lv_at hl 1 rfl) ?_
  refine lv_if_ge (tgt := 18) hx hb dX6_corner_12 (by decide) (fun _ => ?_) (fun h9 => absurd (nI_pos' (by omega)) h9)
  refine lv_aload_n hx hb dX6_corner_18 rfl (lv_at hl 2 rfl) ?_
  refine va_get (D := D) (ci := 6) (v := .ref (g 3)) (C := RX6) (T := TX6) (N := 23) hx hb hts hiX6 hown hK.1 hP 0 rfl rfl 4 (by decide) kf16 (fun _ h9 => h9) rfl dX6_corner_19 ?_
  refine lv_iload_n hx hb dX6_corner_22 rfl (lv_at hl 1 rfl) ?_
  refine ga_ild hx hb hK hP 3 rfl p2 (rfl) (by omega) (by decide) dX6_corner_23 ?_
  refine lv_if_ne (tgt := 30) hx hb dX6_corner_24 (by decide) (fun _ => ?_) (fun h9 => absurd h9 (s2))
  refine lv_aload_n hx hb dX6_corner_30 rfl (lv_at hl 2 rfl) ?_
  refine va_get (D := D) (ci := 6) (v := .ref (g 5)) (C := RX6) (T := TX6) (N := 23) hx hb hts hiX6 hown hK.1 hP 0 rfl rfl 6 (by decide) kf23 (fun _ h9 => h9) rfl dX6_corner_31 ?_
  refine lv_bipush (v := 8) hx hb dX6_corner_34 (by decide) ?_
  refine lv_iload_n hx hb dX6_corner_36 rfl (lv_at hl 1 rfl) ?_
  refine lv_imul hx hb dX6_corner_37 ?_
  refine tp_i (y := nI (8 * p2)) (pk_mul 8 p2) ?_
  refine ga_ild hx hb hK hP 5 rfl (8 * p2) (rfl) (by omega) (by decide) dX6_corner_38 ?_
  refine tp_i (y := nI p3) (m2) ?_
  refine lv_istore_n (lv' := [(3, .int (nI p3)), (4, .int 2), (0, .ref (g 0)), (1, .int (nI r)), (2, .int 3)]) hx hb dX6_corner_39 rfl hl (by decide) rfl (fun ls hl => ?_)
  refine lv_iinc (v := 3) (lv' := [(4, .int 3), (3, .int (nI p3)), (0, .ref (g 0)), (1, .int (nI r)), (2, .int 3)]) hx hb dX6_corner_40 hl (k := 1) rfl (by decide) (by decide) rfl (fun ls hl => ?_)
  refine lv_goto (tgt := 5) hx hb dX6_corner_43 (by decide) ?_
  refine lv_iload hx hb dX6_corner_5 (lv_at hl 0 rfl) ?_
  refine lv_iload_n hx hb dX6_corner_7 rfl (lv_at hl 4 rfl) ?_
  refine lv_icmp_ge (tgt := 46) hx hb dX6_corner_8 (by decide) (fun _ => ?_) (fun h9 => absurd (by decide) h9)
  refine lv_iload_n hx hb dX6_corner_46 rfl (lv_at hl 1 rfl) ?_
  refine lv_if_ge (tgt := 55) hx hb dX6_corner_47 (by decide) (fun _ => ?_) (fun h9 => absurd (nI_pos' (by omega)) h9)
  refine lv_iload_n hx hb dX6_corner_55 rfl (lv_at hl 1 rfl) ?_
  exact W.iret (v := nI p3) hx hb hr (fun t9 ht _ => ⟨congrArg (fun z => Outcome.returned (some (Value.int z))) (rfl), ht⟩) (fun _ h9 => nomatch h9) dX6_corner_56
set_option maxHeartbeats 4000000 in
set_option maxRecDepth 100000 in
theorem c_X6_weighs2_f0B (hh : ad_ok g 16) (hn : n ≤ 100) (hk : k ≤ 8) (r : Nat) (hr9 : r < n) (i : Nat) (hi : i < k) (sf : Sz r = 0) : Met l yX6_weighs wsX6_weighs ({ frames := 5, cells := 0, slots := 0, locals := 200 }) (wd_P D cI cJ [.ref (g 0), .int (nI i), .int (nI r), .int 2] (mo_W cI cJ g fx (nI n) F Wt Sz Nu Pl Bf (nI b) (nI k) G Wk To Sl Sd (nI as) wo pa fa Fo)) (mu_Q D (ad_A g 16) (some (.int 3)) (mo_W cI cJ g fx (nI n) F Wt Sz Nu Pl Bf (nI b) (nI k) G Wk To Sl Sd (nI as) wo pa fa Fo)) 0 0 (ad_A g 16) := by
  refine Met.ofW (cc := cX6_weighs) (maxL := 5) (ret := (some .int)) (by decide) rfl ?_
  intro p e s m args below meth c s₁ B hml hv
  obtain ⟨rfl, hP, hK⟩ := hv
  have hx := B.exec
  have hb := B.bytes
  have hr := B.returns
  have hts := atoms_spec (ws := wsX6_weighs) B.pre
  have hown : s.vm.findClass RX6 = some m.cls := findClass_of_methodNamed B.named
  have hlocks := B.notSynchronized
  have hiX6 : ∀ w ∈ u_ws RX6 TX6 23, w ∈ wsX6_weighs := by decide +kernel
  have kf47 := hts (.fieldLink RX6 47 "SortingLineModel" "totals" "[J") (by decide +kernel)
  have hS : va_S (ad_A g 16) s.heap s.heap [] := va_S.rf
  have hl := lv_entry ([.ref (g 0), .int (nI i), .int (nI r), .int 2]) (n := 5) (Nat.le_of_ble_eq_true rfl)
  rw [lg_entry_eq]
  generalize (lg_sl ([.ref (g 0), .int (nI i), .int (nI r), .int 2]) ++ List.replicate (5 - (lg_sl ([.ref (g 0), .int (nI i), .int (nI r), .int 2])).length) Slot.unset).toArray = ls at hl ⊢
  have hl : lv_has ls 5 [(0, .ref (g 0)), (1, .int (nI i)), (2, .int (nI r)), (3, .int 2)] := hl
  refine lv_aload_n hx hb dX6_weighs_0 rfl (lv_at hl 0 rfl) ?_
  refine lv_iload_n hx hb dX6_weighs_1 rfl (lv_at hl 2 rfl) ?_
  refine lv_iload_n hx hb dX6_weighs_2 rfl (lv_at hl 3 rfl) ?_
  refine pu_calli (va_runV (As := [.int (nI r), .int 2]) (rest := []) ⟨hx, hb, hml, hown, hts⟩ (c_X6_corner2_f0B hh hn r (by omega) sf) (cwV 2 hts gX6_weighs_X6_corner rfl rfl rfl (by decide +kernel) ⟨Nat.le_of_ble_eq_true rfl, Nat.le_of_ble_eq_true rfl⟩) (wd_preV (ci := 6) (q0 := 0) hP hK rfl rfl) rfl rfl hl.1 rfl (lv_room (Nat.le_of_ble_eq_true rfl)) dX6_weighs_3 ⟨Nat.zero_le _, Nat.zero_le _⟩) ?_
  refine lv_istore (lv' := [(4, .int (-7)), (0, .ref (g 0)), (1, .int (nI i)), (2, .int (nI r)), (3, .int 2)]) hx hb dX6_weighs_6 hl (by decide) rfl (fun ls hl => ?_)
  refine lv_aload_n hx hb dX6_weighs_8 rfl (lv_at hl 1 rfl) ?_
  refine va_get (D := D) (ci := 6) (v := .ref (g 12)) (C := RX6) (T := TX6) (N := 23) hx hb hts hiX6 hown hK.1 hP 0 rfl rfl 15 (by decide) kf47 (fun _ h9 => h9) rfl dX6_weighs_9 ?_
  refine lv_iload_n hx hb dX6_weighs_12 rfl (lv_at hl 2 rfl) ?_
  refine lv_dup2_11 hx hb dX6_weighs_13 rfl rfl ?_
  refine ga_lld hx hb hK hP 12 rfl i (rfl) (by omega) (by decide) dX6_weighs_14 ?_
  refine lv_iload hx hb dX6_weighs_15 (lv_at hl 0 rfl) ?_
  refine lv_if_ge (tgt := 24) hx hb dX6_weighs_17 (by decide) (fun h9 => absurd h9 (by decide)) (fun _ => ?_)
  refine lv_lconst (v := 0) hx hb dX6_weighs_20 (by decide) ?_
  refine lv_goto (tgt := 32) hx hb dX6_weighs_21 (by decide) ?_
  refine lv_ladd hx hb dX6_weighs_32 ?_
  refine ga_lst hx hb hK hP (mo_D hh) hS 12 rfl i (rfl) (by omega) (by decide) dX6_weighs_33 (fun H locs hP hS => ?_)
  have hP : va_P D kC (mo_W cI cJ g fx (nI n) F Wt Sz Nu Pl Bf (nI b) (nI k) G Wk (vp_updL To i ((To i) + 0)) Sl Sd (nI as) wo pa fa Fo) H := hP
  refine lv_iload hx hb dX6_weighs_34 (lv_at hl 0 rfl) ?_
  refine lv_if_ge (tgt := 47) hx hb dX6_weighs_36 (by decide) (fun h9 => absurd h9 (by decide)) (fun _ => ?_)
  refine lv_iload hx hb dX6_weighs_39 (lv_at hl 0 rfl) ?_
  refine lv_bipush (v := 10) hx hb dX6_weighs_41 (by decide) ?_
  refine lv_iadd hx hb dX6_weighs_43 ?_
  refine tp_i (show ((-7) : Int32) + 10 = 3 by decide) ?_
  refine lv_goto (tgt := 48) hx hb dX6_weighs_44 (by decide) ?_
  exact W.iret (v := 3) hx hb hr (fun t9 ht _ => ⟨congrArg (fun z => Outcome.returned (some (Value.int z))) (rfl), by rw [ht]; exact va_P_cast hP (by rw [upL_0]), hS.F ht⟩) hS.2.2 dX6_weighs_48
set_option maxHeartbeats 4000000 in
set_option maxRecDepth 100000 in
theorem c_X6_weighs2_f0N (hh : ad_ok g 16) (hn : n ≤ 100) (hk : k ≤ 8) (r : Nat) (hr9 : r < n) (i : Nat) (hi : i < k) (sf : ¬ Sz r = 0) (mf : Pl (8 * r) = -1) : Met l yX6_weighs wsX6_weighs ({ frames := 5, cells := 0, slots := 0, locals := 200 }) (wd_P D cI cJ [.ref (g 0), .int (nI i), .int (nI r), .int 2] (mo_W cI cJ g fx (nI n) F Wt Sz Nu Pl Bf (nI b) (nI k) G Wk To Sl Sd (nI as) wo pa fa Fo)) (mu_Q D (ad_A g 16) (some (.int 2)) (mo_W cI cJ g fx (nI n) F Wt Sz Nu Pl Bf (nI b) (nI k) G Wk To Sl Sd (nI as) wo pa fa Fo)) 0 0 (ad_A g 16) := by
  refine Met.ofW (cc := cX6_weighs) (maxL := 5) (ret := (some .int)) (by decide) rfl ?_
  intro p e s m args below meth c s₁ B hml hv
  obtain ⟨rfl, hP, hK⟩ := hv
  have hx := B.exec
  have hb := B.bytes
  have hr := B.returns
  have hts := atoms_spec (ws := wsX6_weighs) B.pre
  have hown : s.vm.findClass RX6 = some m.cls := findClass_of_methodNamed B.named
  have hlocks := B.notSynchronized
  have hiX6 : ∀ w ∈ u_ws RX6 TX6 23, w ∈ wsX6_weighs := by decide +kernel
  have kf47 := hts (.fieldLink RX6 47 "SortingLineModel" "totals" "[J") (by decide +kernel)
  have hS : va_S (ad_A g 16) s.heap s.heap [] := va_S.rf
  have hl := lv_entry ([.ref (g 0), .int (nI i), .int (nI r), .int 2]) (n := 5) (Nat.le_of_ble_eq_true rfl)
  rw [lg_entry_eq]
  generalize (lg_sl ([.ref (g 0), .int (nI i), .int (nI r), .int 2]) ++ List.replicate (5 - (lg_sl ([.ref (g 0), .int (nI i), .int (nI r), .int 2])).length) Slot.unset).toArray = ls at hl ⊢
  have hl : lv_has ls 5 [(0, .ref (g 0)), (1, .int (nI i)), (2, .int (nI r)), (3, .int 2)] := hl
  refine lv_aload_n hx hb dX6_weighs_0 rfl (lv_at hl 0 rfl) ?_
  refine lv_iload_n hx hb dX6_weighs_1 rfl (lv_at hl 2 rfl) ?_
  refine lv_iload_n hx hb dX6_weighs_2 rfl (lv_at hl 3 rfl) ?_
  refine pu_calli (va_runV (As := [.int (nI r), .int 2]) (rest := []) ⟨hx, hb, hml, hown, hts⟩ (c_X6_corner2_f0N hh hn r (by omega) sf mf) (cwV 2 hts gX6_weighs_X6_corner rfl rfl rfl (by decide +kernel) ⟨Nat.le_of_ble_eq_true rfl, Nat.le_of_ble_eq_true rfl⟩) (wd_preV (ci := 6) (q0 := 0) hP hK rfl rfl) rfl rfl hl.1 rfl (lv_room (Nat.le_of_ble_eq_true rfl)) dX6_weighs_3 ⟨Nat.zero_le _, Nat.zero_le _⟩) ?_
  refine lv_istore (lv' := [(4, .int (-8)), (0, .ref (g 0)), (1, .int (nI i)), (2, .int (nI r)), (3, .int 2)]) hx hb dX6_weighs_6 hl (by decide) rfl (fun ls hl => ?_)
  refine lv_aload_n hx hb dX6_weighs_8 rfl (lv_at hl 1 rfl) ?_
  refine va_get (D := D) (ci := 6) (v := .ref (g 12)) (C := RX6) (T := TX6) (N := 23) hx hb hts hiX6 hown hK.1 hP 0 rfl rfl 15 (by decide) kf47 (fun _ h9 => h9) rfl dX6_weighs_9 ?_
  refine lv_iload_n hx hb dX6_weighs_12 rfl (lv_at hl 2 rfl) ?_
  refine lv_dup2_11 hx hb dX6_weighs_13 rfl rfl ?_
  refine ga_lld hx hb hK hP 12 rfl i (rfl) (by omega) (by decide) dX6_weighs_14 ?_
  refine lv_iload hx hb dX6_weighs_15 (lv_at hl 0 rfl) ?_
  refine lv_if_ge (tgt := 24) hx hb dX6_weighs_17 (by decide) (fun h9 => absurd h9 (by decide)) (fun _ => ?_)
  refine lv_lconst (v := 0) hx hb dX6_weighs_20 (by decide) ?_
  refine lv_goto (tgt := 32) hx hb dX6_weighs_21 (by decide) ?_
  refine lv_ladd hx hb dX6_weighs_32 ?_
  refine ga_lst hx hb hK hP (mo_D hh) hS 12 rfl i (rfl) (by omega) (by decide) dX6_weighs_33 (fun H locs hP hS => ?_)
  have hP : va_P D kC (mo_W cI cJ g fx (nI n) F Wt Sz Nu Pl Bf (nI b) (nI k) G Wk (vp_updL To i ((To i) + 0)) Sl Sd (nI as) wo pa fa Fo) H := hP
  refine lv_iload hx hb dX6_weighs_34 (lv_at hl 0 rfl) ?_
  refine lv_if_ge (tgt := 47) hx hb dX6_weighs_36 (by decide) (fun h9 => absurd h9 (by decide)) (fun _ => ?_)
  refine lv_iload hx hb dX6_weighs_39 (lv_at hl 0 rfl) ?_
  refine lv_bipush (v := 10) hx hb dX6_weighs_41 (by decide) ?_
  refine lv_iadd hx hb dX6_weighs_43 ?_
  refine tp_i (show ((-8) : Int32) + 10 = 2 by decide) ?_
  refine lv_goto (tgt := 48) hx hb dX6_weighs_44 (by decide) ?_
  exact W.iret (v := 2) hx hb hr (fun t9 ht _ => ⟨congrArg (fun z => Outcome.returned (some (Value.int z))) (rfl), by rw [ht]; exact va_P_cast hP (by rw [upL_0]), hS.F ht⟩) hS.2.2 dX6_weighs_48
set_option maxHeartbeats 4000000 in
set_option maxRecDepth 100000 in
theorem c_X6_weighs2_f1B (hh : ad_ok g 16) (hn : n ≤ 100) (hk : k ≤ 8) (r : Nat) (hr9 : r < n) (i : Nat) (hi : i < k) (p1 : Nat) (hp1 : p1 < n) (s0 : ¬ Sz r = 0) (m0 : Pl (8 * r) = nI p1) (sf : Sz p1 = 0) : Met l yX6_weighs wsX6_weighs ({ frames := 5, cells := 0, slots := 0, locals := 200 }) (wd_P D cI cJ [.ref (g 0), .int (nI i), .int (nI r), .int 2] (mo_W cI cJ g fx (nI n) F Wt Sz Nu Pl Bf (nI b) (nI k) G Wk To Sl Sd (nI as) wo pa fa Fo)) (mu_Q D (ad_A g 16) (some (.int 3)) (mo_W cI cJ g fx (nI n) F Wt Sz Nu Pl Bf (nI b) (nI k) G Wk To Sl Sd (nI as) wo pa fa Fo)) 0 0 (ad_A g 16) := by
  refine Met.ofW (cc := cX6_weighs) (maxL := 5) (ret := (some .int)) (by decide) rfl ?_
  intro p e s m args below meth c s₁ B hml hv
  obtain ⟨rfl, hP, hK⟩ := hv
  have hx := B.exec
  have hb := B.bytes
  have hr := B.returns
  have hts := atoms_spec (ws := wsX6_weighs) B.pre
  have hown : s.vm.findClass RX6 = some m.cls := findClass_of_methodNamed B.named
  have hlocks := B.notSynchronized
  have hiX6 : ∀ w ∈ u_ws RX6 TX6 23, w ∈ wsX6_weighs := by decide +kernel
  have kf47 := hts (.fieldLink RX6 47 "SortingLineModel" "totals" "[J") (by decide +kernel)
  have hS : va_S (ad_A g 16) s.heap s.heap [] := va_S.rf
  have hl := lv_entry ([.ref (g 0), .int (nI i), .int (nI r), .int 2]) (n := 5) (Nat.le_of_ble_eq_true rfl)
  rw [lg_entry_eq]
  generalize (lg_sl ([.ref (g 0), .int (nI i), .int (nI r), .int 2]) ++ List.replicate (5 - (lg_sl ([.ref (g 0), .int (nI i), .int (nI r), .int 2])).length) Slot.unset).toArray = ls at hl ⊢
  have hl : lv_has ls 5 [(0, .ref (g 0)), (1, .int (nI i)), (2, .int (nI r)), (3, .int 2)] := hl
  refine lv_aload_n hx hb dX6_weighs_0 rfl (lv_at hl 0 rfl) ?_
  refine lv_iload_n hx hb dX6_weighs_1 rfl (lv_at hl 2 rfl) ?_
  refine lv_iload_n hx hb dX6_weighs_2 rfl (lv_at hl 3 rfl) ?_
  refine pu_calli (va_runV (As := [.int (nI r), .int 2]) (rest := []) ⟨hx, hb, hml, hown, hts⟩ (c_X6_corner2_f1B hh hn r (by omega) p1 hp1 s0 m0 sf) (cwV 2 hts gX6_weighs_X6_corner rfl rfl rfl (by decide +kernel) ⟨Nat.le_of_ble_eq_true rfl, Nat.le_of_ble_eq_true rfl⟩) (wd_preV (ci := 6) (q0 := 0) hP hK rfl rfl) rfl rfl hl.1 rfl (lv_room (Nat.le_of_ble_eq_true rfl)) dX6_weighs_3 ⟨Nat.zero_le _, Nat.zero_le _⟩) ?_
  refine lv_istore (lv' := [(4, .int (-7)), (0, .ref (g 0)), (1, .int (nI i)), (2, .int (nI r)), (3, .int 2)]) hx hb dX6_weighs_6 hl (by decide) rfl (fun ls hl => ?_)
  refine lv_aload_n hx hb dX6_weighs_8 rfl (lv_at hl 1 rfl) ?_
  refine va_get (D := D) (ci := 6) (v := .ref (g 12)) (C := RX6) (T := TX6) (N := 23) hx hb hts hiX6 hown hK.1 hP 0 rfl rfl 15 (by decide) kf47 (fun _ h9 => h9) rfl dX6_weighs_9 ?_
  refine lv_iload_n hx hb dX6_weighs_12 rfl (lv_at hl 2 rfl) ?_
  refine lv_dup2_11 hx hb dX6_weighs_13 rfl rfl ?_
  refine ga_lld hx hb hK hP 12 rfl i (rfl) (by omega) (by decide) dX6_weighs_14 ?_
  refine lv_iload hx hb dX6_weighs_15 (lv_at hl 0 rfl) ?_
  refine lv_if_ge (tgt := 24) hx hb dX6_weighs_17 (by decide) (fun h9 => absurd h9 (by decide)) (fun _ => ?_)
  refine lv_lconst (v := 0) hx hb dX6_weighs_20 (by decide) ?_
  refine lv_goto (tgt := 32) hx hb dX6_weighs_21 (by decide) ?_
  refine lv_ladd hx hb dX6_weighs_32 ?_
  refine ga_lst hx hb hK hP (mo_D hh) hS 12 rfl i (rfl) (by omega) (by decide) dX6_weighs_33 (fun H locs hP hS => ?_)
  have hP : va_P D kC (mo_W cI cJ g fx (nI n) F Wt Sz Nu Pl Bf (nI b) (nI k) G Wk (vp_updL To i ((To i) + 0)) Sl Sd (nI as) wo pa fa Fo) H := hP
  refine lv_iload hx hb dX6_weighs_34 (lv_at hl 0 rfl) ?_
  refine lv_if_ge (tgt := 47) hx hb dX6_weighs_36 (by decide) (fun h9 => absurd h9 (by decide)) (fun _ => ?_)
  refine lv_iload hx hb dX6_weighs_39 (lv_at hl 0 rfl) ?_
  refine lv_bipush (v := 10) hx hb dX6_weighs_41 (by decide) ?_
  refine lv_iadd hx hb dX6_weighs_43 ?_
  refine tp_i (show ((-7) : Int32) + 10 = 3 by decide) ?_
  refine lv_goto (tgt := 48) hx hb dX6_weighs_44 (by decide) ?_
  exact W.iret (v := 3) hx hb hr (fun t9 ht _ => ⟨congrArg (fun z => Outcome.returned (some (Value.int z))) (rfl), by rw [ht]; exact va_P_cast hP (by rw [upL_0]), hS.F ht⟩) hS.2.2 dX6_weighs_48
set_option maxHeartbeats 4000000 in
set_option maxRecDepth 100000 in
theorem c_X6_weighs2_f1N (hh : ad_ok g 16) (hn : n ≤ 100) (hk : k ≤ 8) (r : Nat) (hr9 : r < n) (i : Nat) (hi : i < k) (p1 : Nat) (hp1 : p1 < n) (s0 : ¬ Sz r = 0) (m0 : Pl (8 * r) = nI p1) (sf : ¬ Sz p1 = 0) (mf : Pl (8 * p1) = -1) : Met l yX6_weighs wsX6_weighs ({ frames := 5, cells := 0, slots := 0, locals := 200 }) (wd_P D cI cJ [.ref (g 0), .int (nI i), .int (nI r), .int 2] (mo_W cI cJ g fx (nI n) F Wt Sz Nu Pl Bf (nI b) (nI k) G Wk To Sl Sd (nI as) wo pa fa Fo)) (mu_Q D (ad_A g 16) (some (.int 2)) (mo_W cI cJ g fx (nI n) F Wt Sz Nu Pl Bf (nI b) (nI k) G Wk To Sl Sd (nI as) wo pa fa Fo)) 0 0 (ad_A g 16) := by
  refine Met.ofW (cc := cX6_weighs) (maxL := 5) (ret := (some .int)) (by decide) rfl ?_
  intro p e s m args below meth c s₁ B hml hv
  obtain ⟨rfl, hP, hK⟩ := hv
  have hx := B.exec
  have hb := B.bytes
  have hr := B.returns
  have hts := atoms_spec (ws := wsX6_weighs) B.pre
  have hown : s.vm.findClass RX6 = some m.cls := findClass_of_methodNamed B.named
  have hlocks := B.notSynchronized
  have hiX6 : ∀ w ∈ u_ws RX6 TX6 23, w ∈ wsX6_weighs := by decide +kernel
  have kf47 := hts (.fieldLink RX6 47 "SortingLineModel" "totals" "[J") (by decide +kernel)
  have hS : va_S (ad_A g 16) s.heap s.heap [] := va_S.rf
  have hl := lv_entry ([.ref (g 0), .int (nI i), .int (nI r), .int 2]) (n := 5) (Nat.le_of_ble_eq_true rfl)
  rw [lg_entry_eq]
  generalize (lg_sl ([.ref (g 0), .int (nI i), .int (nI r), .int 2]) ++ List.replicate (5 - (lg_sl ([.ref (g 0), .int (nI i), .int (nI r), .int 2])).length) Slot.unset).toArray = ls at hl ⊢
  have hl : lv_has ls 5 [(0, .ref (g 0)), (1, .int (nI i)), (2, .int (nI r)), (3, .int 2)] := hl
  refine lv_aload_n hx hb dX6_weighs_0 rfl (lv_at hl 0 rfl) ?_
  refine lv_iload_n hx hb dX6_weighs_1 rfl (lv_at hl 2 rfl) ?_
  refine lv_iload_n hx hb dX6_weighs_2 rfl (lv_at hl 3 rfl) ?_
  refine pu_calli (va_runV (As := [.int (nI r), .int 2]) (rest := []) ⟨hx, hb, hml, hown, hts⟩ (c_X6_corner2_f1N hh hn r (by omega) p1 hp1 s0 m0 sf mf) (cwV 2 hts gX6_weighs_X6_corner rfl rfl rfl (by decide +kernel) ⟨Nat.le_of_ble_eq_true rfl, Nat.le_of_ble_eq_true rfl⟩) (wd_preV (ci := 6) (q0 := 0) hP hK rfl rfl) rfl rfl hl.1 rfl (lv_room (Nat.le_of_ble_eq_true rfl)) dX6_weighs_3 ⟨Nat.zero_le _, Nat.zero_le _⟩) ?_
  refine lv_istore (lv' := [(4, .int (-8)), (0, .ref (g 0)), (1, .int (nI i)), (2, .int (nI r)), (3, .int 2)]) hx hb dX6_weighs_6 hl (by decide) rfl (fun ls hl => ?_)
  refine lv_aload_n hx hb dX6_weighs_8 rfl (lv_at hl 1 rfl) ?_
  refine va_get (D := D) (ci := 6) (v := .ref (g 12)) (C := RX6) (T := TX6) (N := 23) hx hb hts hiX6 hown hK.1 hP 0 rfl rfl 15 (by decide) kf47 (fun _ h9 => h9) rfl dX6_weighs_9 ?_
  refine lv_iload_n hx hb dX6_weighs_12 rfl (lv_at hl 2 rfl) ?_
  refine lv_dup2_11 hx hb dX6_weighs_13 rfl rfl ?_
  refine ga_lld hx hb hK hP 12 rfl i (rfl) (by omega) (by decide) dX6_weighs_14 ?_
  refine lv_iload hx hb dX6_weighs_15 (lv_at hl 0 rfl) ?_
  refine lv_if_ge (tgt := 24) hx hb dX6_weighs_17 (by decide) (fun h9 => absurd h9 (by decide)) (fun _ => ?_)
  refine lv_lconst (v := 0) hx hb dX6_weighs_20 (by decide) ?_
  refine lv_goto (tgt := 32) hx hb dX6_weighs_21 (by decide) ?_
  refine lv_ladd hx hb dX6_weighs_32 ?_
  refine ga_lst hx hb hK hP (mo_D hh) hS 12 rfl i (rfl) (by omega) (by decide) dX6_weighs_33 (fun H locs hP hS => ?_)
  have hP : va_P D kC (mo_W cI cJ g fx (nI n) F Wt Sz Nu Pl Bf (nI b) (nI k) G Wk (vp_updL To i ((To i) + 0)) Sl Sd (nI as) wo pa fa Fo) H := hP
  refine lv_iload hx hb dX6_weighs_34 (lv_at hl 0 rfl) ?_
  refine lv_if_ge (tgt := 47) hx hb dX6_weighs_36 (by decide) (fun h9 => absurd h9 (by decide)) (fun _ => ?_)
  refine lv_iload hx hb dX6_weighs_39 (lv_at hl 0 rfl) ?_
  refine lv_bipush (v := 10) hx hb dX6_weighs_41 (by decide) ?_
  refine lv_iadd hx hb dX6_weighs_43 ?_
  refine tp_i (show ((-8) : Int32) + 10 = 2 by decide) ?_
  refine lv_goto (tgt := 48) hx hb dX6_weighs_44 (by decide) ?_
  exact W.iret (v := 2) hx hb hr (fun t9 ht _ => ⟨congrArg (fun z => Outcome.returned (some (Value.int z))) (rfl), by rw [ht]; exact va_P_cast hP (by rw [upL_0]), hS.F ht⟩) hS.2.2 dX6_weighs_48
set_option maxHeartbeats 4000000 in
set_option maxRecDepth 100000 in
theorem c_X6_weighs2_o (hh : ad_ok g 16) (hn : n ≤ 100) (hk : k ≤ 8) (r : Nat) (hr9 : r < n) (i : Nat) (hi : i < k) (p1 : Nat) (hp1 : p1 < n) (p2 : Nat) (hp2 : p2 < n) (s0 : ¬ Sz r = 0) (m0 : Pl (8 * r) = nI p1) (s1 : ¬ Sz p1 = 0) (m1 : Pl (8 * p1) = nI p2) : Met l yX6_weighs wsX6_weighs ({ frames := 5, cells := 0, slots := 0, locals := 200 }) (wd_P D cI cJ [.ref (g 0), .int (nI i), .int (nI r), .int 2] (mo_W cI cJ g fx (nI n) F Wt Sz Nu Pl Bf (nI b) (nI k) G Wk To Sl Sd (nI as) wo pa fa Fo)) (mu_Q D (ad_A g 16) (some (.int 0)) (mo_W cI cJ g fx (nI n) F Wt Sz Nu Pl Bf (nI b) (nI k) G Wk (vp_updL To i (To i + Int32.toInt64 (Wt p2))) Sl Sd (nI as) wo pa fa Fo)) 0 0 (ad_A g 16) := by
  refine Met.ofW (cc := cX6_weighs) (maxL := 5) (ret := (some .int)) (by decide) rfl ?_
  intro p e s m args below meth c s₁ B hml hv
  obtain ⟨rfl, hP, hK⟩ := hv
  have hx := B.exec
  have hb := B.bytes
  have hr := B.returns
  have hts := atoms_spec (ws := wsX6_weighs) B.pre
  have hown : s.vm.findClass RX6 = some m.cls := findClass_of_methodNamed B.named
  have hlocks := B.notSynchronized
  have hiX6 : ∀ w ∈ u_ws RX6 TX6 23, w ∈ wsX6_weighs := by decide +kernel
  have kf47 := hts (.fieldLink RX6 47 "SortingLineModel" "totals" "[J") (by decide +kernel)
  have kf13 := hts (.fieldLink RX6 13 "SortingLineModel" "weights" "[I") (by decide +kernel)
  have hS : va_S (ad_A g 16) s.heap s.heap [] := va_S.rf
  have hl := lv_entry ([.ref (g 0), .int (nI i), .int (nI r), .int 2]) (n := 5) (Nat.le_of_ble_eq_true rfl)
  rw [lg_entry_eq]
  generalize (lg_sl ([.ref (g 0), .int (nI i), .int (nI r), .int 2]) ++ List.replicate (5 - (lg_sl ([.ref (g 0), .int (nI i), .int (nI r), .int 2])).length) Slot.unset).toArray = ls at hl ⊢
  have hl : lv_has ls 5 [(0, .ref (g 0)), (1, .int (nI i)), (2, .int (nI r)), (3, .int 2)] := hl
  refine lv_aload_n hx hb dX6_weighs_0 rfl (lv_at hl 0 rfl) ?_
  refine lv_iload_n hx hb dX6_weighs_1 rfl (lv_at hl 2 rfl) ?_
  refine lv_iload_n hx hb dX6_weighs_2 rfl (lv_at hl 3 rfl) ?_
  refine pu_calli (va_runV (As := [.int (nI r), .int 2]) (rest := []) ⟨hx, hb, hml, hown, hts⟩ (c_X6_corner2_o hh hn r (by omega) p1 hp1 p2 hp2 s0 m0 s1 m1) (cwV 2 hts gX6_weighs_X6_corner rfl rfl rfl (by decide +kernel) ⟨Nat.le_of_ble_eq_true rfl, Nat.le_of_ble_eq_true rfl⟩) (wd_preV (ci := 6) (q0 := 0) hP hK rfl rfl) rfl rfl hl.1 rfl (lv_room (Nat.le_of_ble_eq_true rfl)) dX6_weighs_3 ⟨Nat.zero_le _, Nat.zero_le _⟩) ?_
  refine lv_istore (lv' := [(4, .int (nI p2)), (0, .ref (g 0)), (1, .int (nI i)), (2, .int (nI r)), (3, .int 2)]) hx hb dX6_weighs_6 hl (by decide) rfl (fun ls hl => ?_)
  refine lv_aload_n hx hb dX6_weighs_8 rfl (lv_at hl 1 rfl) ?_
  refine va_get (D := D) (ci := 6) (v := .ref (g 12)) (C := RX6) (T := TX6) (N := 23) hx hb hts hiX6 hown hK.1 hP 0 rfl rfl 15 (by decide) kf47 (fun _ h9 => h9) rfl dX6_weighs_9 ?_
  refine lv_iload_n hx hb dX6_weighs_12 rfl (lv_at hl 2 rfl) ?_
  refine lv_dup2_11 hx hb dX6_weighs_13 rfl rfl ?_
  refine ga_lld hx hb hK hP 12 rfl i (rfl) (by omega) (by decide) dX6_weighs_14 ?_
  refine lv_iload hx hb dX6_weighs_15 (lv_at hl 0 rfl) ?_
  refine lv_if_ge (tgt := 24) hx hb dX6_weighs_17 (by decide) (fun _ => ?_) (fun h9 => absurd (nI_pos' (by omega)) h9)
  refine lv_aload_n hx hb dX6_weighs_24 rfl (lv_at hl 1 rfl) ?_
  refine va_get (D := D) (ci := 6) (v := .ref (g 2)) (C := RX6) (T := TX6) (N := 23) hx hb hts hiX6 hown hK.1 hP 0 rfl rfl 3 (by decide) kf13 (fun _ h9 => h9) rfl dX6_weighs_25 ?_
  refine lv_iload hx hb dX6_weighs_28 (lv_at hl 0 rfl) ?_
  refine ga_ild hx hb hK hP 2 rfl p2 (rfl) (by omega) (by decide) dX6_weighs_30 ?_
  refine lv_i2l (v := Int32.toInt64 (Wt p2)) hx hb dX6_weighs_31 (rfl) ?_
  refine lv_ladd hx hb dX6_weighs_32 ?_
  refine ga_lst hx hb hK hP (mo_D hh) hS 12 rfl i (rfl) (by omega) (by decide) dX6_weighs_33 (fun H locs hP hS => ?_)
  have hP : va_P D kC (mo_W cI cJ g fx (nI n) F Wt Sz Nu Pl Bf (nI b) (nI k) G Wk (vp_updL To i ((To i) + (Int32.toInt64 (Wt p2)))) Sl Sd (nI as) wo pa fa Fo) H := hP
  refine lv_iload hx hb dX6_weighs_34 (lv_at hl 0 rfl) ?_
  refine lv_if_ge (tgt := 47) hx hb dX6_weighs_36 (by decide) (fun _ => ?_) (fun h9 => absurd (nI_pos' (by omega)) h9)
  refine lv_iconst (v := 0) hx hb dX6_weighs_47 (by decide) ?_
  exact W.iret (v := 0) hx hb hr (fun t9 ht _ => ⟨congrArg (fun z => Outcome.returned (some (Value.int z))) (rfl), by rw [ht]; exact hP, hS.F ht⟩) hS.2.2 dX6_weighs_48
set_option maxHeartbeats 4000000 in
set_option maxRecDepth 100000 in
theorem c_X6_weighs3_f0B (hh : ad_ok g 16) (hn : n ≤ 100) (hk : k ≤ 8) (r : Nat) (hr9 : r < n) (i : Nat) (hi : i < k) (sf : Sz r = 0) : Met l yX6_weighs wsX6_weighs ({ frames := 5, cells := 0, slots := 0, locals := 200 }) (wd_P D cI cJ [.ref (g 0), .int (nI i), .int (nI r), .int 3] (mo_W cI cJ g fx (nI n) F Wt Sz Nu Pl Bf (nI b) (nI k) G Wk To Sl Sd (nI as) wo pa fa Fo)) (mu_Q D (ad_A g 16) (some (.int 3)) (mo_W cI cJ g fx (nI n) F Wt Sz Nu Pl Bf (nI b) (nI k) G Wk To Sl Sd (nI as) wo pa fa Fo)) 0 0 (ad_A g 16) := by
  refine Met.ofW (cc := cX6_weighs) (maxL := 5) (ret := (some .int)) (by decide) rfl ?_
  intro p e s m args below meth c s₁ B hml hv
  obtain ⟨rfl, hP, hK⟩ := hv
  have hx := B.exec
  have hb := B.bytes
  have hr := B.returns
  have hts := atoms_spec (ws := wsX6_weighs) B.pre
  have hown : s.vm.findClass RX6 = some m.cls := findClass_of_methodNamed B.named
  have hlocks := B.notSynchronized
  have hiX6 : ∀ w ∈ u_ws RX6 TX6 23, w ∈ wsX6_weighs := by decide +kernel
  have kf47 := hts (.fieldLink RX6 47 "SortingLineModel" "totals" "[J") (by decide +kernel)
  have hS : va_S (ad_A g 16) s.heap s.heap [] := va_S.rf
  have hl := lv_entry ([.ref (g 0), .int (nI i), .int (nI r), .int 3]) (n := 5) (Nat.le_of_ble_eq_true rfl)
  rw [lg_entry_eq]
  generalize (lg_sl ([.ref (g 0), .int (nI i), .int (nI r), .int 3]) ++ List.replicate (5 - (lg_sl ([.ref (g 0), .int (nI i), .int (nI r), .int 3])).length) Slot.unset).toArray = ls at hl ⊢
  have hl : lv_has ls 5 [(0, .ref (g 0)), (1, .int (nI i)), (2, .int (nI r)), (3, .int 3)] := hl
  refine lv_aload_n hx hb dX6_weighs_0 rfl (lv_at hl 0 rfl) ?_
  refine lv_iload_n hx hb dX6_weighs_1 rfl (lv_at hl 2 rfl) ?_
  refine lv_iload_n hx hb dX6_weighs_2 rfl (lv_at hl 3 rfl) ?_
  refine pu_calli (va_runV (As := [.int (nI r), .int 3]) (rest := []) ⟨hx, hb, hml, hown, hts⟩ (c_X6_corner3_f0B hh hn r (by omega) sf) (cwV 2 hts gX6_weighs_X6_corner rfl rfl rfl (by decide +kernel) ⟨Nat.le_of_ble_eq_true rfl, Nat.le_of_ble_eq_true rfl⟩) (wd_preV (ci := 6) (q0 := 0) hP hK rfl rfl) rfl rfl hl.1 rfl (lv_room (Nat.le_of_ble_eq_true rfl)) dX6_weighs_3 ⟨Nat.zero_le _, Nat.zero_le _⟩) ?_
  refine lv_istore (lv' := [(4, .int (-7)), (0, .ref (g 0)), (1, .int (nI i)), (2, .int (nI r)), (3, .int 3)]) hx hb dX6_weighs_6 hl (by decide) rfl (fun ls hl => ?_)
  refine lv_aload_n hx hb dX6_weighs_8 rfl (lv_at hl 1 rfl) ?_
  refine va_get (D := D) (ci := 6) (v := .ref (g 12)) (C := RX6) (T := TX6) (N := 23) hx hb hts hiX6 hown hK.1 hP 0 rfl rfl 15 (by decide) kf47 (fun _ h9 => h9) rfl dX6_weighs_9 ?_
  refine lv_iload_n hx hb dX6_weighs_12 rfl (lv_at hl 2 rfl) ?_
  refine lv_dup2_11 hx hb dX6_weighs_13 rfl rfl ?_
  refine ga_lld hx hb hK hP 12 rfl i (rfl) (by omega) (by decide) dX6_weighs_14 ?_
  refine lv_iload hx hb dX6_weighs_15 (lv_at hl 0 rfl) ?_
  refine lv_if_ge (tgt := 24) hx hb dX6_weighs_17 (by decide) (fun h9 => absurd h9 (by decide)) (fun _ => ?_)
  refine lv_lconst (v := 0) hx hb dX6_weighs_20 (by decide) ?_
  refine lv_goto (tgt := 32) hx hb dX6_weighs_21 (by decide) ?_
  refine lv_ladd hx hb dX6_weighs_32 ?_
  refine ga_lst hx hb hK hP (mo_D hh) hS 12 rfl i (rfl) (by omega) (by decide) dX6_weighs_33 (fun H locs hP hS => ?_)
  have hP : va_P D kC (mo_W cI cJ g fx (nI n) F Wt Sz Nu Pl Bf (nI b) (nI k) G Wk (vp_updL To i ((To i) + 0)) Sl Sd (nI as) wo pa fa Fo) H := hP
  refine lv_iload hx hb dX6_weighs_34 (lv_at hl 0 rfl) ?_
  refine lv_if_ge (tgt := 47) hx hb dX6_weighs_36 (by decide) (fun h9 => absurd h9 (by decide)) (fun _ => ?_)
  refine lv_iload hx hb dX6_weighs_39 (lv_at hl 0 rfl) ?_
  refine lv_bipush (v := 10) hx hb dX6_weighs_41 (by decide) ?_
  refine lv_iadd hx hb dX6_weighs_43 ?_
  refine tp_i (show ((-7) : Int32) + 10 = 3 by decide) ?_
  refine lv_goto (tgt := 48) hx hb dX6_weighs_44 (by decide) ?_
  exact W.iret (v := 3) hx hb hr (fun t9 ht _ => ⟨congrArg (fun z => Outcome.returned (some (Value.int z))) (rfl), by rw [ht]; exact va_P_cast hP (by rw [upL_0]), hS.F ht⟩) hS.2.2 dX6_weighs_48
set_option maxHeartbeats 4000000 in
set_option maxRecDepth 100000 in
theorem c_X6_weighs3_f0N (hh : ad_ok g 16) (hn : n ≤ 100) (hk : k ≤ 8) (r : Nat) (hr9 : r < n) (i : Nat) (hi : i < k) (sf : ¬ Sz r = 0) (mf : Pl (8 * r) = -1) : Met l yX6_weighs wsX6_weighs ({ frames := 5, cells := 0, slots := 0, locals := 200 }) (wd_P D cI cJ [.ref (g 0), .int (nI i), .int (nI r), .int 3] (mo_W cI cJ g fx (nI n) F Wt Sz Nu Pl Bf (nI b) (nI k) G Wk To Sl Sd (nI as) wo pa fa Fo)) (mu_Q D (ad_A g 16) (some (.int 2)) (mo_W cI cJ g fx (nI n) F Wt Sz Nu Pl Bf (nI b) (nI k) G Wk To Sl Sd (nI as) wo pa fa Fo)) 0 0 (ad_A g 16) := by
  refine Met.ofW (cc := cX6_weighs) (maxL := 5) (ret := (some .int)) (by decide) rfl ?_
  intro p e s m args below meth c s₁ B hml hv
  obtain ⟨rfl, hP, hK⟩ := hv
  have hx := B.exec
  have hb := B.bytes
  have hr := B.returns
  have hts := atoms_spec (ws := wsX6_weighs) B.pre
  have hown : s.vm.findClass RX6 = some m.cls := findClass_of_methodNamed B.named
  have hlocks := B.notSynchronized
  have hiX6 : ∀ w ∈ u_ws RX6 TX6 23, w ∈ wsX6_weighs := by decide +kernel
  have kf47 := hts (.fieldLink RX6 47 "SortingLineModel" "totals" "[J") (by decide +kernel)
  have hS : va_S (ad_A g 16) s.heap s.heap [] := va_S.rf
  have hl := lv_entry ([.ref (g 0), .int (nI i), .int (nI r), .int 3]) (n := 5) (Nat.le_of_ble_eq_true rfl)
  rw [lg_entry_eq]
  generalize (lg_sl ([.ref (g 0), .int (nI i), .int (nI r), .int 3]) ++ List.replicate (5 - (lg_sl ([.ref (g 0), .int (nI i), .int (nI r), .int 3])).length) Slot.unset).toArray = ls at hl ⊢
  have hl : lv_has ls 5 [(0, .ref (g 0)), (1, .int (nI i)), (2, .int (nI r)), (3, .int 3)] := hl
  refine lv_aload_n hx hb dX6_weighs_0 rfl (lv_at hl 0 rfl) ?_
  refine lv_iload_n hx hb dX6_weighs_1 rfl (lv_at hl 2 rfl) ?_
  refine lv_iload_n hx hb dX6_weighs_2 rfl (lv_at hl 3 rfl) ?_
  refine pu_calli (va_runV (As := [.int (nI r), .int 3]) (rest := []) ⟨hx, hb, hml, hown, hts⟩ (c_X6_corner3_f0N hh hn r (by omega) sf mf) (cwV 2 hts gX6_weighs_X6_corner rfl rfl rfl (by decide +kernel) ⟨Nat.le_of_ble_eq_true rfl, Nat.le_of_ble_eq_true rfl⟩) (wd_preV (ci := 6) (q0 := 0) hP hK rfl rfl) rfl rfl hl.1 rfl (lv_room (Nat.le_of_ble_eq_true rfl)) dX6_weighs_3 ⟨Nat.zero_le _, Nat.zero_le _⟩) ?_
  refine lv_istore (lv' := [(4, .int (-8)), (0, .ref (g 0)), (1, .int (nI i)), (2, .int (nI r)), (3, .int 3)]) hx hb dX6_weighs_6 hl (by decide) rfl (fun ls hl => ?_)
  refine lv_aload_n hx hb dX6_weighs_8 rfl (lv_at hl 1 rfl) ?_
  refine va_get (D := D) (ci := 6) (v := .ref (g 12)) (C := RX6) (T := TX6) (N := 23) hx hb hts hiX6 hown hK.1 hP 0 rfl rfl 15 (by decide) kf47 (fun _ h9 => h9) rfl dX6_weighs_9 ?_
  refine lv_iload_n hx hb dX6_weighs_12 rfl (lv_at hl 2 rfl) ?_
  refine lv_dup2_11 hx hb dX6_weighs_13 rfl rfl ?_
  refine ga_lld hx hb hK hP 12 rfl i (rfl) (by omega) (by decide) dX6_weighs_14 ?_
  refine lv_iload hx hb dX6_weighs_15 (lv_at hl 0 rfl) ?_
  refine lv_if_ge (tgt := 24) hx hb dX6_weighs_17 (by decide) (fun h9 => absurd h9 (by decide)) (fun _ => ?_)
  refine lv_lconst (v := 0) hx hb dX6_weighs_20 (by decide) ?_
  refine lv_goto (tgt := 32) hx hb dX6_weighs_21 (by decide) ?_
  refine lv_ladd hx hb dX6_weighs_32 ?_
  refine ga_lst hx hb hK hP (mo_D hh) hS 12 rfl i (rfl) (by omega) (by decide) dX6_weighs_33 (fun H locs hP hS => ?_)
  have hP : va_P D kC (mo_W cI cJ g fx (nI n) F Wt Sz Nu Pl Bf (nI b) (nI k) G Wk (vp_updL To i ((To i) + 0)) Sl Sd (nI as) wo pa fa Fo) H := hP
  refine lv_iload hx hb dX6_weighs_34 (lv_at hl 0 rfl) ?_
  refine lv_if_ge (tgt := 47) hx hb dX6_weighs_36 (by decide) (fun h9 => absurd h9 (by decide)) (fun _ => ?_)
  refine lv_iload hx hb dX6_weighs_39 (lv_at hl 0 rfl) ?_
  refine lv_bipush (v := 10) hx hb dX6_weighs_41 (by decide) ?_
  refine lv_iadd hx hb dX6_weighs_43 ?_
  refine tp_i (show ((-8) : Int32) + 10 = 2 by decide) ?_
  refine lv_goto (tgt := 48) hx hb dX6_weighs_44 (by decide) ?_
  exact W.iret (v := 2) hx hb hr (fun t9 ht _ => ⟨congrArg (fun z => Outcome.returned (some (Value.int z))) (rfl), by rw [ht]; exact va_P_cast hP (by rw [upL_0]), hS.F ht⟩) hS.2.2 dX6_weighs_48
set_option maxHeartbeats 4000000 in
set_option maxRecDepth 100000 in
theorem c_X6_weighs3_f1B (hh : ad_ok g 16) (hn : n ≤ 100) (hk : k ≤ 8) (r : Nat) (hr9 : r < n) (i : Nat) (hi : i < k) (p1 : Nat) (hp1 : p1 < n) (s0 : ¬ Sz r = 0) (m0 : Pl (8 * r) = nI p1) (sf : Sz p1 = 0) : Met l yX6_weighs wsX6_weighs ({ frames := 5, cells := 0, slots := 0, locals := 200 }) (wd_P D cI cJ [.ref (g 0), .int (nI i), .int (nI r), .int 3] (mo_W cI cJ g fx (nI n) F Wt Sz Nu Pl Bf (nI b) (nI k) G Wk To Sl Sd (nI as) wo pa fa Fo)) (mu_Q D (ad_A g 16) (some (.int 3)) (mo_W cI cJ g fx (nI n) F Wt Sz Nu Pl Bf (nI b) (nI k) G Wk To Sl Sd (nI as) wo pa fa Fo)) 0 0 (ad_A g 16) := by
  refine Met.ofW (cc := cX6_weighs) (maxL := 5) (ret := (some .int)) (by decide) rfl ?_
  intro p e s m args below meth c s₁ B hml hv
  obtain ⟨rfl, hP, hK⟩ := hv
  have hx := B.exec
  have hb := B.bytes
  have hr := B.returns
  have hts := atoms_spec (ws := wsX6_weighs) B.pre
  have hown : s.vm.findClass RX6 = some m.cls := findClass_of_methodNamed B.named
  have hlocks := B.notSynchronized
  have hiX6 : ∀ w ∈ u_ws RX6 TX6 23, w ∈ wsX6_weighs := by decide +kernel
  have kf47 := hts (.fieldLink RX6 47 "SortingLineModel" "totals" "[J") (by decide +kernel)
  have hS : va_S (ad_A g 16) s.heap s.heap [] := va_S.rf
  have hl := lv_entry ([.ref (g 0), .int (nI i), .int (nI r), .int 3]) (n := 5) (Nat.le_of_ble_eq_true rfl)
  rw [lg_entry_eq]
  generalize (lg_sl ([.ref (g 0), .int (nI i), .int (nI r), .int 3]) ++ List.replicate (5 - (lg_sl ([.ref (g 0), .int (nI i), .int (nI r), .int 3])).length) Slot.unset).toArray = ls at hl ⊢
  have hl : lv_has ls 5 [(0, .ref (g 0)), (1, .int (nI i)), (2, .int (nI r)), (3, .int 3)] := hl
  refine lv_aload_n hx hb dX6_weighs_0 rfl (lv_at hl 0 rfl) ?_
  refine lv_iload_n hx hb dX6_weighs_1 rfl (lv_at hl 2 rfl) ?_
  refine lv_iload_n hx hb dX6_weighs_2 rfl (lv_at hl 3 rfl) ?_
  refine pu_calli (va_runV (As := [.int (nI r), .int 3]) (rest := []) ⟨hx, hb, hml, hown, hts⟩ (c_X6_corner3_f1B hh hn r (by omega) p1 hp1 s0 m0 sf) (cwV 2 hts gX6_weighs_X6_corner rfl rfl rfl (by decide +kernel) ⟨Nat.le_of_ble_eq_true rfl, Nat.le_of_ble_eq_true rfl⟩) (wd_preV (ci := 6) (q0 := 0) hP hK rfl rfl) rfl rfl hl.1 rfl (lv_room (Nat.le_of_ble_eq_true rfl)) dX6_weighs_3 ⟨Nat.zero_le _, Nat.zero_le _⟩) ?_
  refine lv_istore (lv' := [(4, .int (-7)), (0, .ref (g 0)), (1, .int (nI i)), (2, .int (nI r)), (3, .int 3)]) hx hb dX6_weighs_6 hl (by decide) rfl (fun ls hl => ?_)
  refine lv_aload_n hx hb dX6_weighs_8 rfl (lv_at hl 1 rfl) ?_
  refine va_get (D := D) (ci := 6) (v := .ref (g 12)) (C := RX6) (T := TX6) (N := 23) hx hb hts hiX6 hown hK.1 hP 0 rfl rfl 15 (by decide) kf47 (fun _ h9 => h9) rfl dX6_weighs_9 ?_
  refine lv_iload_n hx hb dX6_weighs_12 rfl (lv_at hl 2 rfl) ?_
  refine lv_dup2_11 hx hb dX6_weighs_13 rfl rfl ?_
  refine ga_lld hx hb hK hP 12 rfl i (rfl) (by omega) (by decide) dX6_weighs_14 ?_
  refine lv_iload hx hb dX6_weighs_15 (lv_at hl 0 rfl) ?_
  refine lv_if_ge (tgt := 24) hx hb dX6_weighs_17 (by decide) (fun h9 => absurd h9 (by decide)) (fun _ => ?_)
  refine lv_lconst (v := 0) hx hb dX6_weighs_20 (by decide) ?_
  refine lv_goto (tgt := 32) hx hb dX6_weighs_21 (by decide) ?_
  refine lv_ladd hx hb dX6_weighs_32 ?_
  refine ga_lst hx hb hK hP (mo_D hh) hS 12 rfl i (rfl) (by omega) (by decide) dX6_weighs_33 (fun H locs hP hS => ?_)
  have hP : va_P D kC (mo_W cI cJ g fx (nI n) F Wt Sz Nu Pl Bf (nI b) (nI k) G Wk (vp_updL To i ((To i) + 0)) Sl Sd (nI as) wo pa fa Fo) H := hP
  refine lv_iload hx hb dX6_weighs_34 (lv_at hl 0 rfl) ?_
  refine lv_if_ge (tgt := 47) hx hb dX6_weighs_36 (by decide) (fun h9 => absurd h9 (by decide)) (fun _ => ?_)
  refine lv_iload hx hb dX6_weighs_39 (lv_at hl 0 rfl) ?_
  refine lv_bipush (v := 10) hx hb dX6_weighs_41 (by decide) ?_
  refine lv_iadd hx hb dX6_weighs_43 ?_
  refine tp_i (show ((-7) : Int32) + 10 = 3 by decide) ?_
  refine lv_goto (tgt := 48) hx hb dX6_weighs_44 (by decide) ?_
  exact W.iret (v := 3) hx hb hr (fun t9 ht _ => ⟨congrArg (fun z => Outcome.returned (some (Value.int z))) (rfl), by rw [ht]; exact va_P_cast hP (by rw [upL_0]), hS.F ht⟩) hS.2.2 dX6_weighs_48
set_option maxHeartbeats 4000000 in
set_option maxRecDepth 100000 in
theorem c_X6_weighs3_f1N (hh : ad_ok g 16) (hn : n ≤ 100) (hk : k ≤ 8) (r : Nat) (hr9 : r < n) (i : Nat) (hi : i < k) (p1 : Nat) (hp1 : p1 < n) (s0 : ¬ Sz r = 0) (m0 : Pl (8 * r) = nI p1) (sf : ¬ Sz p1 = 0) (mf : Pl (8 * p1) = -1) : Met l yX6_weighs wsX6_weighs ({ frames := 5, cells := 0, slots := 0, locals := 200 }) (wd_P D cI cJ [.ref (g 0), .int (nI i), .int (nI r), .int 3] (mo_W cI cJ g fx (nI n) F Wt Sz Nu Pl Bf (nI b) (nI k) G Wk To Sl Sd (nI as) wo pa fa Fo)) (mu_Q D (ad_A g 16) (some (.int 2)) (mo_W cI cJ g fx (nI n) F Wt Sz Nu Pl Bf (nI b) (nI k) G Wk To Sl Sd (nI as) wo pa fa Fo)) 0 0 (ad_A g 16) := by
  refine Met.ofW (cc := cX6_weighs) (maxL := 5) (ret := (some .int)) (by decide) rfl ?_
  intro p e s m args below meth c s₁ B hml hv
  obtain ⟨rfl, hP, hK⟩ := hv
  have hx := B.exec
  have hb := B.bytes
  have hr := B.returns
  have hts := atoms_spec (ws := wsX6_weighs) B.pre
  have hown : s.vm.findClass RX6 = some m.cls := findClass_of_methodNamed B.named
  have hlocks := B.notSynchronized
  have hiX6 : ∀ w ∈ u_ws RX6 TX6 23, w ∈ wsX6_weighs := by decide +kernel
  have kf47 := hts (.fieldLink RX6 47 "SortingLineModel" "totals" "[J") (by decide +kernel)
  have hS : va_S (ad_A g 16) s.heap s.heap [] := va_S.rf
  have hl := lv_entry ([.ref (g 0), .int (nI i), .int (nI r), .int 3]) (n := 5) (Nat.le_of_ble_eq_true rfl)
  rw [lg_entry_eq]
  generalize (lg_sl ([.ref (g 0), .int (nI i), .int (nI r), .int 3]) ++ List.replicate (5 - (lg_sl ([.ref (g 0), .int (nI i), .int (nI r), .int 3])).length) Slot.unset).toArray = ls at hl ⊢
  have hl : lv_has ls 5 [(0, .ref (g 0)), (1, .int (nI i)), (2, .int (nI r)), (3, .int 3)] := hl
  refine lv_aload_n hx hb dX6_weighs_0 rfl (lv_at hl 0 rfl) ?_
  refine lv_iload_n hx hb dX6_weighs_1 rfl (lv_at hl 2 rfl) ?_
  refine lv_iload_n hx hb dX6_weighs_2 rfl (lv_at hl 3 rfl) ?_
  refine pu_calli (va_runV (As := [.int (nI r), .int 3]) (rest := []) ⟨hx, hb, hml, hown, hts⟩ (c_X6_corner3_f1N hh hn r (by omega) p1 hp1 s0 m0 sf mf) (cwV 2 hts gX6_weighs_X6_corner rfl rfl rfl (by decide +kernel) ⟨Nat.le_of_ble_eq_true rfl, Nat.le_of_ble_eq_true rfl⟩) (wd_preV (ci := 6) (q0 := 0) hP hK rfl rfl) rfl rfl hl.1 rfl (lv_room (Nat.le_of_ble_eq_true rfl)) dX6_weighs_3 ⟨Nat.zero_le _, Nat.zero_le _⟩) ?_
  refine lv_istore (lv' := [(4, .int (-8)), (0, .ref (g 0)), (1, .int (nI i)), (2, .int (nI r)), (3, .int 3)]) hx hb dX6_weighs_6 hl (by decide) rfl (fun ls hl => ?_)
  refine lv_aload_n hx hb dX6_weighs_8 rfl (lv_at hl 1 rfl) ?_
  refine va_get (D := D) (ci := 6) (v := .ref (g 12)) (C := RX6) (T := TX6) (N := 23) hx hb hts hiX6 hown hK.1 hP 0 rfl rfl 15 (by decide) kf47 (fun _ h9 => h9) rfl dX6_weighs_9 ?_
  refine lv_iload_n hx hb dX6_weighs_12 rfl (lv_at hl 2 rfl) ?_
  refine lv_dup2_11 hx hb dX6_weighs_13 rfl rfl ?_
  refine ga_lld hx hb hK hP 12 rfl i (rfl) (by omega) (by decide) dX6_weighs_14 ?_
  refine lv_iload hx hb dX6_weighs_15 (lv_at hl 0 rfl) ?_
  refine lv_if_ge (tgt := 24) hx hb dX6_weighs_17 (by decide) (fun h9 => absurd h9 (by decide)) (fun _ => ?_)
  refine lv_lconst (v := 0) hx hb dX6_weighs_20 (by decide) ?_
  refine lv_goto (tgt := 32) hx hb dX6_weighs_21 (by decide) ?_
  refine lv_ladd hx hb dX6_weighs_32 ?_
  refine ga_lst hx hb hK hP (mo_D hh) hS 12 rfl i (rfl) (by omega) (by decide) dX6_weighs_33 (fun H locs hP hS => ?_)
  have hP : va_P D kC (mo_W cI cJ g fx (nI n) F Wt Sz Nu Pl Bf (nI b) (nI k) G Wk (vp_updL To i ((To i) + 0)) Sl Sd (nI as) wo pa fa Fo) H := hP
  refine lv_iload hx hb dX6_weighs_34 (lv_at hl 0 rfl) ?_
  refine lv_if_ge (tgt := 47) hx hb dX6_weighs_36 (by decide) (fun h9 => absurd h9 (by decide)) (fun _ => ?_)
  refine lv_iload hx hb dX6_weighs_39 (lv_at hl 0 rfl) ?_
  refine lv_bipush (v := 10) hx hb dX6_weighs_41 (by decide) ?_
  refine lv_iadd hx hb dX6_weighs_43 ?_
  refine tp_i (show ((-8) : Int32) + 10 = 2 by decide) ?_
  refine lv_goto (tgt := 48) hx hb dX6_weighs_44 (by decide) ?_
  exact W.iret (v := 2) hx hb hr (fun t9 ht _ => ⟨congrArg (fun z => Outcome.returned (some (Value.int z))) (rfl), by rw [ht]; exact va_P_cast hP (by rw [upL_0]), hS.F ht⟩) hS.2.2 dX6_weighs_48
set_option maxHeartbeats 4000000 in
set_option maxRecDepth 100000 in
theorem c_X6_weighs3_f2B (hh : ad_ok g 16) (hn : n ≤ 100) (hk : k ≤ 8) (r : Nat) (hr9 : r < n) (i : Nat) (hi : i < k) (p1 : Nat) (hp1 : p1 < n) (p2 : Nat) (hp2 : p2 < n) (s0 : ¬ Sz r = 0) (m0 : Pl (8 * r) = nI p1) (s1 : ¬ Sz p1 = 0) (m1 : Pl (8 * p1) = nI p2) (sf : Sz p2 = 0) : Met l yX6_weighs wsX6_weighs ({ frames := 5, cells := 0, slots := 0, locals := 200 }) (wd_P D cI cJ [.ref (g 0), .int (nI i), .int (nI r), .int 3] (mo_W cI cJ g fx (nI n) F Wt Sz Nu Pl Bf (nI b) (nI k) G Wk To Sl Sd (nI as) wo pa fa Fo)) (mu_Q D (ad_A g 16) (some (.int 3)) (mo_W cI cJ g fx (nI n) F Wt Sz Nu Pl Bf (nI b) (nI k) G Wk To Sl Sd (nI as) wo pa fa Fo)) 0 0 (ad_A g 16) := by
  refine Met.ofW (cc := cX6_weighs) (maxL := 5) (ret := (some .int)) (by decide) rfl ?_
  intro p e s m args below meth c s₁ B hml hv
  obtain ⟨rfl, hP, hK⟩ := hv
  have hx := B.exec
  have hb := B.bytes
  have hr := B.returns
  have hts := atoms_spec (ws := wsX6_weighs) B.pre
  have hown : s.vm.findClass RX6 = some m.cls := findClass_of_methodNamed B.named
  have hlocks := B.notSynchronized
  have hiX6 : ∀ w ∈ u_ws RX6 TX6 23, w ∈ wsX6_weighs := by decide +kernel
  have kf47 := hts (.fieldLink RX6 47 "SortingLineModel" "totals" "[J") (by decide +kernel)
  have hS : va_S (ad_A g 16) s.heap s.heap [] := va_S.rf
  have hl := lv_entry ([.ref (g 0), .int (nI i), .int (nI r), .int 3]) (n := 5) (Nat.le_of_ble_eq_true rfl)
  rw [lg_entry_eq]
  generalize (lg_sl ([.ref (g 0), .int (nI i), .int (nI r), .int 3]) ++ List.replicate (5 - (lg_sl ([.ref (g 0), .int (nI i), .int (nI r), .int 3])).length) Slot.unset).toArray = ls at hl ⊢
  have hl : lv_has ls 5 [(0, .ref (g 0)), (1, .int (nI i)), (2, .int (nI r)), (3, .int 3)] := hl
  refine lv_aload_n hx hb dX6_weighs_0 rfl (lv_at hl 0 rfl) ?_
  refine lv_iload_n hx hb dX6_weighs_1 rfl (lv_at hl 2 rfl) ?_
  refine lv_iload_n hx hb dX6_weighs_2 rfl (lv_at hl 3 rfl) ?_
  refine pu_calli (va_runV (As := [.int (nI r), .int 3]) (rest := []) ⟨hx, hb, hml, hown, hts⟩ (c_X6_corner3_f2B hh hn r (by omega) p1 hp1 p2 hp2 s0 m0 s1 m1 sf) (cwV 2 hts gX6_weighs_X6_corner rfl rfl rfl (by decide +kernel) ⟨Nat.le_of_ble_eq_true rfl, Nat.le_of_ble_eq_true rfl⟩) (wd_preV (ci := 6) (q0 := 0) hP hK rfl rfl) rfl rfl hl.1 rfl (lv_room (Nat.le_of_ble_eq_true rfl)) dX6_weighs_3 ⟨Nat.zero_le _, Nat.zero_le _⟩) ?_
  refine lv_istore (lv' := [(4, .int (-7)), (0, .ref (g 0)), (1, .int (nI i)), (2, .int (nI r)), (3, .int 3)]) hx hb dX6_weighs_6 hl (by decide) rfl (fun ls hl => ?_)
  refine lv_aload_n hx hb dX6_weighs_8 rfl (lv_at hl 1 rfl) ?_
  refine va_get (D := D) (ci := 6) (v := .ref (g 12)) (C := RX6) (T := TX6) (N := 23) hx hb hts hiX6 hown hK.1 hP 0 rfl rfl 15 (by decide) kf47 (fun _ h9 => h9) rfl dX6_weighs_9 ?_
  refine lv_iload_n hx hb dX6_weighs_12 rfl (lv_at hl 2 rfl) ?_
  refine lv_dup2_11 hx hb dX6_weighs_13 rfl rfl ?_
  refine ga_lld hx hb hK hP 12 rfl i (rfl) (by omega) (by decide) dX6_weighs_14 ?_
  refine lv_iload hx hb dX6_weighs_15 (lv_at hl 0 rfl) ?_
  refine lv_if_ge (tgt := 24) hx hb dX6_weighs_17 (by decide) (fun h9 => absurd h9 (by decide)) (fun _ => ?_)
  refine lv_lconst (v := 0) hx hb dX6_weighs_20 (by decide) ?_
  refine lv_goto (tgt := 32) hx hb dX6_weighs_21 (by decide) ?_
  refine lv_ladd hx hb dX6_weighs_32 ?_
  refine ga_lst hx hb hK hP (mo_D hh) hS 12 rfl i (rfl) (by omega) (by decide) dX6_weighs_33 (fun H locs hP hS => ?_)
  have hP : va_P D kC (mo_W cI cJ g fx (nI n) F Wt Sz Nu Pl Bf (nI b) (nI k) G Wk (vp_updL To i ((To i) + 0)) Sl Sd (nI as) wo pa fa Fo) H := hP
  refine lv_iload hx hb dX6_weighs_34 (lv_at hl 0 rfl) ?_
  refine lv_if_ge (tgt := 47) hx hb dX6_weighs_36 (by decide) (fun h9 => absurd h9 (by decide)) (fun _ => ?_)
  refine lv_iload hx hb dX6_weighs_39 (lv_at hl 0 rfl) ?_
  refine lv_bipush (v := 10) hx hb dX6_weighs_41 (by decide) ?_
  refine lv_iadd hx hb dX6_weighs_43 ?_
  refine tp_i (show ((-7) : Int32) + 10 = 3 by decide) ?_
  refine lv_goto (tgt := 48) hx hb dX6_weighs_44 (by decide) ?_
  exact W.iret (v := 3) hx hb hr (fun t9 ht _ => ⟨congrArg (fun z => Outcome.returned (some (Value.int z))) (rfl), by rw [ht]; exact va_P_cast hP (by rw [upL_0]), hS.F ht⟩) hS.2.2 dX6_weighs_48
set_option maxHeartbeats 4000000 in
set_option maxRecDepth 100000 in
theorem c_X6_weighs3_f2N (hh : ad_ok g 16) (hn : n ≤ 100) (hk : k ≤ 8) (r : Nat) (hr9 : r < n) (i : Nat) (hi : i < k) (p1 : Nat) (hp1 : p1 < n) (p2 : Nat) (hp2 : p2 < n) (s0 : ¬ Sz r = 0) (m0 : Pl (8 * r) = nI p1) (s1 : ¬ Sz p1 = 0) (m1 : Pl (8 * p1) = nI p2) (sf : ¬ Sz p2 = 0) (mf : Pl (8 * p2) = -1) : Met l yX6_weighs wsX6_weighs ({ frames := 5, cells := 0, slots := 0, locals := 200 }) (wd_P D cI cJ [.ref (g 0), .int (nI i), .int (nI r), .int 3] (mo_W cI cJ g fx (nI n) F Wt Sz Nu Pl Bf (nI b) (nI k) G Wk To Sl Sd (nI as) wo pa fa Fo)) (mu_Q D (ad_A g 16) (some (.int 2)) (mo_W cI cJ g fx (nI n) F Wt Sz Nu Pl Bf (nI b) (nI k) G Wk To Sl Sd (nI as) wo pa fa Fo)) 0 0 (ad_A g 16) := by
  refine Met.ofW (cc := cX6_weighs) (maxL := 5) (ret := (some .int)) (by decide) rfl ?_
  intro p e s m args below meth c s₁ B hml hv
  obtain ⟨rfl, hP, hK⟩ := hv
  have hx := B.exec
  have hb := B.bytes
  have hr := B.returns
  have hts := atoms_spec (ws := wsX6_weighs) B.pre
  have hown : s.vm.findClass RX6 = some m.cls := findClass_of_methodNamed B.named
  have hlocks := B.notSynchronized
  have hiX6 : ∀ w ∈ u_ws RX6 TX6 23, w ∈ wsX6_weighs := by decide +kernel
  have kf47 := hts (.fieldLink RX6 47 "SortingLineModel" "totals" "[J") (by decide +kernel)
  have hS : va_S (ad_A g 16) s.heap s.heap [] := va_S.rf
  have hl := lv_entry ([.ref (g 0), .int (nI i), .int (nI r), .int 3]) (n := 5) (Nat.le_of_ble_eq_true rfl)
  rw [lg_entry_eq]
  generalize (lg_sl ([.ref (g 0), .int (nI i), .int (nI r), .int 3]) ++ List.replicate (5 - (lg_sl ([.ref (g 0), .int (nI i), .int (nI r), .int 3])).length) Slot.unset).toArray = ls at hl ⊢
  have hl : lv_has ls 5 [(0, .ref (g 0)), (1, .int (nI i)), (2, .int (nI r)), (3, .int 3)] := hl
  refine lv_aload_n hx hb dX6_weighs_0 rfl (lv_at hl 0 rfl) ?_
  refine lv_iload_n hx hb dX6_weighs_1 rfl (lv_at hl 2 rfl) ?_
  refine lv_iload_n hx hb dX6_weighs_2 rfl (lv_at hl 3 rfl) ?_
  refine pu_calli (va_runV (As := [.int (nI r), .int 3]) (rest := []) ⟨hx, hb, hml, hown, hts⟩ (c_X6_corner3_f2N hh hn r (by omega) p1 hp1 p2 hp2 s0 m0 s1 m1 sf mf) (cwV 2 hts gX6_weighs_X6_corner rfl rfl rfl (by decide +kernel) ⟨Nat.le_of_ble_eq_true rfl, Nat.le_of_ble_eq_true rfl⟩) (wd_preV (ci := 6) (q0 := 0) hP hK rfl rfl) rfl rfl hl.1 rfl (lv_room (Nat.le_of_ble_eq_true rfl)) dX6_weighs_3 ⟨Nat.zero_le _, Nat.zero_le _⟩) ?_
  refine lv_istore (lv' := [(4, .int (-8)), (0, .ref (g 0)), (1, .int (nI i)), (2, .int (nI r)), (3, .int 3)]) hx hb dX6_weighs_6 hl (by decide) rfl (fun ls hl => ?_)
  refine lv_aload_n hx hb dX6_weighs_8 rfl (lv_at hl 1 rfl) ?_
  refine va_get (D := D) (ci := 6) (v := .ref (g 12)) (C := RX6) (T := TX6) (N := 23) hx hb hts hiX6 hown hK.1 hP 0 rfl rfl 15 (by decide) kf47 (fun _ h9 => h9) rfl dX6_weighs_9 ?_
  refine lv_iload_n hx hb dX6_weighs_12 rfl (lv_at hl 2 rfl) ?_
  refine lv_dup2_11 hx hb dX6_weighs_13 rfl rfl ?_
  refine ga_lld hx hb hK hP 12 rfl i (rfl) (by omega) (by decide) dX6_weighs_14 ?_
  refine lv_iload hx hb dX6_weighs_15 (lv_at hl 0 rfl) ?_
  refine lv_if_ge (tgt := 24) hx hb dX6_weighs_17 (by decide) (fun h9 => absurd h9 (by decide)) (fun _ => ?_)
  refine lv_lconst (v := 0) hx hb dX6_weighs_20 (by decide) ?_
  refine lv_goto (tgt := 32) hx hb dX6_weighs_21 (by decide) ?_
  refine lv_ladd hx hb dX6_weighs_32 ?_
  refine ga_lst hx hb hK hP (mo_D hh) hS 12 rfl i (rfl) (by omega) (by decide) dX6_weighs_33 (fun H locs hP hS => ?_)
  have hP : va_P D kC (mo_W cI cJ g fx (nI n) F Wt Sz Nu Pl Bf (nI b) (nI k) G Wk (vp_updL To i ((To i) + 0)) Sl Sd (nI as) wo pa fa Fo) H := hP
  refine lv_iload hx hb dX6_weighs_34 (lv_at hl 0 rfl) ?_
  refine lv_if_ge (tgt := 47) hx hb dX6_weighs_36 (by decide) (fun h9 => absurd h9 (by decide)) (fun _ => ?_)
  refine lv_iload hx hb dX6_weighs_39 (lv_at hl 0 rfl) ?_
  refine lv_bipush (v := 10) hx hb dX6_weighs_41 (by decide) ?_
  refine lv_iadd hx hb dX6_weighs_43 ?_
  refine tp_i (show ((-8) : Int32) + 10 = 2 by decide) ?_
  refine lv_goto (tgt := 48) hx hb dX6_weighs_44 (by decide) ?_
  exact W.iret (v := 2) hx hb hr (fun t9 ht _ => ⟨congrArg (fun z => Outcome.returned (some (Value.int z))) (rfl), by rw [ht]; exact va_P_cast hP (by rw [upL_0]), hS.F ht⟩) hS.2.2 dX6_weighs_48
set_option maxHeartbeats 4000000 in
set_option maxRecDepth 100000 in
theorem c_X6_weighs3_o (hh : ad_ok g 16) (hn : n ≤ 100) (hk : k ≤ 8) (r : Nat) (hr9 : r < n) (i : Nat) (hi : i < k) (p1 : Nat) (hp1 : p1 < n) (p2 : Nat) (hp2 : p2 < n) (p3 : Nat) (hp3 : p3 < n) (s0 : ¬ Sz r = 0) (m0 : Pl (8 * r) = nI p1) (s1 : ¬ Sz p1 = 0) (m1 : Pl (8 * p1) = nI p2) (s2 : ¬ Sz p2 = 0) (m2 : Pl (8 * p2) = nI p3) : Met l yX6_weighs wsX6_weighs ({ frames := 5, cells := 0, slots := 0, locals := 200 }) (wd_P D cI cJ [.ref (g 0), .int (nI i), .int (nI r), .int 3] (mo_W cI cJ g fx (nI n) F Wt Sz Nu Pl Bf (nI b) (nI k) G Wk To Sl Sd (nI as) wo pa fa Fo)) (mu_Q D (ad_A g 16) (some (.int 0)) (mo_W cI cJ g fx (nI n) F Wt Sz Nu Pl Bf (nI b) (nI k) G Wk (vp_updL To i (To i + Int32.toInt64 (Wt p3))) Sl Sd (nI as) wo pa fa Fo)) 0 0 (ad_A g 16) := by
  refine Met.ofW (cc := cX6_weighs) (maxL := 5) (ret := (some .int)) (by decide) rfl ?_
  intro p e s m args below meth c s₁ B hml hv
  obtain ⟨rfl, hP, hK⟩ := hv
  have hx := B.exec
  have hb := B.bytes
  have hr := B.returns
  have hts := atoms_spec (ws := wsX6_weighs) B.pre
  have hown : s.vm.findClass RX6 = some m.cls := findClass_of_methodNamed B.named
  have hlocks := B.notSynchronized
  have hiX6 : ∀ w ∈ u_ws RX6 TX6 23, w ∈ wsX6_weighs := by decide +kernel
  have kf47 := hts (.fieldLink RX6 47 "SortingLineModel" "totals" "[J") (by decide +kernel)
  have kf13 := hts (.fieldLink RX6 13 "SortingLineModel" "weights" "[I") (by decide +kernel)
  have hS : va_S (ad_A g 16) s.heap s.heap [] := va_S.rf
  have hl := lv_entry ([.ref (g 0), .int (nI i), .int (nI r), .int 3]) (n := 5) (Nat.le_of_ble_eq_true rfl)
  rw [lg_entry_eq]
  generalize (lg_sl ([.ref (g 0), .int (nI i), .int (nI r), .int 3]) ++ List.replicate (5 - (lg_sl ([.ref (g 0), .int (nI i), .int (nI r), .int 3])).length) Slot.unset).toArray = ls at hl ⊢
  have hl : lv_has ls 5 [(0, .ref (g 0)), (1, .int (nI i)), (2, .int (nI r)), (3, .int 3)] := hl
  refine lv_aload_n hx hb dX6_weighs_0 rfl (lv_at hl 0 rfl) ?_
  refine lv_iload_n hx hb dX6_weighs_1 rfl (lv_at hl 2 rfl) ?_
  refine lv_iload_n hx hb dX6_weighs_2 rfl (lv_at hl 3 rfl) ?_
  refine pu_calli (va_runV (As := [.int (nI r), .int 3]) (rest := []) ⟨hx, hb, hml, hown, hts⟩ (c_X6_corner3_o hh hn r (by omega) p1 hp1 p2 hp2 p3 hp3 s0 m0 s1 m1 s2 m2) (cwV 2 hts gX6_weighs_X6_corner rfl rfl rfl (by decide +kernel) ⟨Nat.le_of_ble_eq_true rfl, Nat.le_of_ble_eq_true rfl⟩) (wd_preV (ci := 6) (q0 := 0) hP hK rfl rfl) rfl rfl hl.1 rfl (lv_room (Nat.le_of_ble_eq_true rfl)) dX6_weighs_3 ⟨Nat.zero_le _, Nat.zero_le _⟩) ?_
  refine lv_istore (lv' := [(4, .int (nI p3)), (0, .ref (g 0)), (1, .int (nI i)), (2, .int (nI r)), (3, .int 3)]) hx hb dX6_weighs_6 hl (by decide) rfl (fun ls hl => ?_)
  refine lv_aload_n hx hb dX6_weighs_8 rfl (lv_at hl 1 rfl) ?_
  refine va_get (D := D) (ci := 6) (v := .ref (g 12)) (C := RX6) (T := TX6) (N := 23) hx hb hts hiX6 hown hK.1 hP 0 rfl rfl 15 (by decide) kf47 (fun _ h9 => h9) rfl dX6_weighs_9 ?_
  refine lv_iload_n hx hb dX6_weighs_12 rfl (lv_at hl 2 rfl) ?_
  refine lv_dup2_11 hx hb dX6_weighs_13 rfl rfl ?_
  refine ga_lld hx hb hK hP 12 rfl i (rfl) (by omega) (by decide) dX6_weighs_14 ?_
  refine lv_iload hx hb dX6_weighs_15 (lv_at hl 0 rfl) ?_
  refine lv_if_ge (tgt := 24) hx hb dX6_weighs_17 (by decide) (fun _ => ?_) (fun h9 => absurd (nI_pos' (by omega)) h9)
  refine lv_aload_n hx hb dX6_weighs_24 rfl (lv_at hl 1 rfl) ?_
  refine va_get (D := D) (ci := 6) (v := .ref (g 2)) (C := RX6) (T := TX6) (N := 23) hx hb hts hiX6 hown hK.1 hP 0 rfl rfl 3 (by decide) kf13 (fun _ h9 => h9) rfl dX6_weighs_25 ?_
  refine lv_iload hx hb dX6_weighs_28 (lv_at hl 0 rfl) ?_
  refine ga_ild hx hb hK hP 2 rfl p3 (rfl) (by omega) (by decide) dX6_weighs_30 ?_
  refine lv_i2l (v := Int32.toInt64 (Wt p3)) hx hb dX6_weighs_31 (rfl) ?_
  refine lv_ladd hx hb dX6_weighs_32 ?_
  refine ga_lst hx hb hK hP (mo_D hh) hS 12 rfl i (rfl) (by omega) (by decide) dX6_weighs_33 (fun H locs hP hS => ?_)
  have hP : va_P D kC (mo_W cI cJ g fx (nI n) F Wt Sz Nu Pl Bf (nI b) (nI k) G Wk (vp_updL To i ((To i) + (Int32.toInt64 (Wt p3)))) Sl Sd (nI as) wo pa fa Fo) H := hP
  refine lv_iload hx hb dX6_weighs_34 (lv_at hl 0 rfl) ?_
  refine lv_if_ge (tgt := 47) hx hb dX6_weighs_36 (by decide) (fun _ => ?_) (fun h9 => absurd (nI_pos' (by omega)) h9)
  refine lv_iconst (v := 0) hx hb dX6_weighs_47 (by decide) ?_
  exact W.iret (v := 0) hx hb hr (fun t9 ht _ => ⟨congrArg (fun z => Outcome.returned (some (Value.int z))) (rfl), by rw [ht]; exact hP, hS.F ht⟩) hS.2.2 dX6_weighs_48
set_option maxHeartbeats 4000000 in
set_option maxRecDepth 100000 in
theorem c_X6_cell_fB (hh : ad_ok g 16) (hn : n ≤ 100) (hk : k ≤ 8) (r : Nat) (hr9 : r < n) (i : Nat) (hi : i < k) (sf : Sz r = 0) : Met l yX6_cell wsX6_cell ({ frames := 5, cells := 0, slots := 0, locals := 200 }) (wd_P D cI cJ [.ref (g 0), .int (nI i), .int (nI r)] (mo_W cI cJ g fx (nI n) F Wt Sz Nu Pl Bf (nI b) (nI k) G Wk To Sl Sd (nI as) wo pa fa Fo)) (pu_Q (some (.int 3))) 0 0 (fun _ => False) := by
  refine Met.ofW (cc := cX6_cell) (maxL := 4) (ret := (some .int)) (by decide) rfl ?_
  intro p e s m args below meth c s₁ B hml hv
  obtain ⟨rfl, hP, hK⟩ := hv
  have hx := B.exec
  have hb := B.bytes
  have hr := B.returns
  have hts := atoms_spec (ws := wsX6_cell) B.pre
  have hown : s.vm.findClass RX6 = some m.cls := findClass_of_methodNamed B.named
  have hlocks := B.notSynchronized
  have hl := lv_entry ([.ref (g 0), .int (nI i), .int (nI r)]) (n := 4) (Nat.le_of_ble_eq_true rfl)
  rw [lg_entry_eq]
  generalize (lg_sl ([.ref (g 0), .int (nI i), .int (nI r)]) ++ List.replicate (4 - (lg_sl ([.ref (g 0), .int (nI i), .int (nI r)])).length) Slot.unset).toArray = ls at hl ⊢
  have hl : lv_has ls 4 [(0, .ref (g 0)), (1, .int (nI i)), (2, .int (nI r))] := hl
  refine lv_aload_n hx hb dX6_cell_0 rfl (lv_at hl 0 rfl) ?_
  refine lv_iload_n hx hb dX6_cell_1 rfl (lv_at hl 2 rfl) ?_
  refine lv_iconst (v := 1) hx hb dX6_cell_2 (by decide) ?_
  refine pu_calli (va_runV (As := [.int (nI r), .int 1]) (rest := []) ⟨hx, hb, hml, hown, hts⟩ (c_X6_corner1_f0B hh hn r (by omega) sf) (cwV 2 hts gX6_cell_X6_corner rfl rfl rfl (by decide +kernel) ⟨Nat.le_of_ble_eq_true rfl, Nat.le_of_ble_eq_true rfl⟩) (wd_preV (ci := 6) (q0 := 0) hP hK rfl rfl) rfl rfl hl.1 rfl (lv_room (Nat.le_of_ble_eq_true rfl)) dX6_cell_3 ⟨Nat.zero_le _, Nat.zero_le _⟩) ?_
  refine lv_istore_n (lv' := [(3, .int (-7)), (0, .ref (g 0)), (1, .int (nI i)), (2, .int (nI r))]) hx hb dX6_cell_6 rfl hl (by decide) rfl (fun ls hl => ?_)
  refine lv_iload_n hx hb dX6_cell_7 rfl (lv_at hl 0 rfl) ?_
  refine lv_if_ge (tgt := 16) hx hb dX6_cell_8 (by decide) (fun h9 => absurd h9 (by decide)) (fun _ => ?_)
  refine lv_iload_n hx hb dX6_cell_11 rfl (lv_at hl 0 rfl) ?_
  refine lv_bipush (v := 10) hx hb dX6_cell_12 (by decide) ?_
  refine lv_iadd hx hb dX6_cell_14 ?_
  refine tp_i (show ((-7) : Int32) + 10 = 3 by decide) ?_
  exact W.iret (v := 3) hx hb hr (fun t9 ht _ => ⟨congrArg (fun z => Outcome.returned (some (Value.int z))) (rfl), ht⟩) (fun _ h9 => nomatch h9) dX6_cell_15
set_option maxHeartbeats 4000000 in
set_option maxRecDepth 100000 in
theorem c_X6_cell_fN (hh : ad_ok g 16) (hn : n ≤ 100) (hk : k ≤ 8) (r : Nat) (hr9 : r < n) (i : Nat) (hi : i < k) (sf : ¬ Sz r = 0) (mf : Pl (8 * r) = -1) : Met l yX6_cell wsX6_cell ({ frames := 5, cells := 0, slots := 0, locals := 200 }) (wd_P D cI cJ [.ref (g 0), .int (nI i), .int (nI r)] (mo_W cI cJ g fx (nI n) F Wt Sz Nu Pl Bf (nI b) (nI k) G Wk To Sl Sd (nI as) wo pa fa Fo)) (pu_Q (some (.int 2))) 0 0 (fun _ => False) := by
  refine Met.ofW (cc := cX6_cell) (maxL := 4) (ret := (some .int)) (by decide) rfl ?_
  intro p e s m args below meth c s₁ B hml hv
  obtain ⟨rfl, hP, hK⟩ := hv
  have hx := B.exec
  have hb := B.bytes
  have hr := B.returns
  have hts := atoms_spec (ws := wsX6_cell) B.pre
  have hown : s.vm.findClass RX6 = some m.cls := findClass_of_methodNamed B.named
  have hlocks := B.notSynchronized
  have hl := lv_entry ([.ref (g 0), .int (nI i), .int (nI r)]) (n := 4) (Nat.le_of_ble_eq_true rfl)
  rw [lg_entry_eq]
  generalize (lg_sl ([.ref (g 0), .int (nI i), .int (nI r)]) ++ List.replicate (4 - (lg_sl ([.ref (g 0), .int (nI i), .int (nI r)])).length) Slot.unset).toArray = ls at hl ⊢
  have hl : lv_has ls 4 [(0, .ref (g 0)), (1, .int (nI i)), (2, .int (nI r))] := hl
  refine lv_aload_n hx hb dX6_cell_0 rfl (lv_at hl 0 rfl) ?_
  refine lv_iload_n hx hb dX6_cell_1 rfl (lv_at hl 2 rfl) ?_
  refine lv_iconst (v := 1) hx hb dX6_cell_2 (by decide) ?_
  refine pu_calli (va_runV (As := [.int (nI r), .int 1]) (rest := []) ⟨hx, hb, hml, hown, hts⟩ (c_X6_corner1_f0N hh hn r (by omega) sf mf) (cwV 2 hts gX6_cell_X6_corner rfl rfl rfl (by decide +kernel) ⟨Nat.le_of_ble_eq_true rfl, Nat.le_of_ble_eq_true rfl⟩) (wd_preV (ci := 6) (q0 := 0) hP hK rfl rfl) rfl rfl hl.1 rfl (lv_room (Nat.le_of_ble_eq_true rfl)) dX6_cell_3 ⟨Nat.zero_le _, Nat.zero_le _⟩) ?_
  refine lv_istore_n (lv' := [(3, .int (-8)), (0, .ref (g 0)), (1, .int (nI i)), (2, .int (nI r))]) hx hb dX6_cell_6 rfl hl (by decide) rfl (fun ls hl => ?_)
  refine lv_iload_n hx hb dX6_cell_7 rfl (lv_at hl 0 rfl) ?_
  refine lv_if_ge (tgt := 16) hx hb dX6_cell_8 (by decide) (fun h9 => absurd h9 (by decide)) (fun _ => ?_)
  refine lv_iload_n hx hb dX6_cell_11 rfl (lv_at hl 0 rfl) ?_
  refine lv_bipush (v := 10) hx hb dX6_cell_12 (by decide) ?_
  refine lv_iadd hx hb dX6_cell_14 ?_
  refine tp_i (show ((-8) : Int32) + 10 = 2 by decide) ?_
  exact W.iret (v := 2) hx hb hr (fun t9 ht _ => ⟨congrArg (fun z => Outcome.returned (some (Value.int z))) (rfl), ht⟩) (fun _ h9 => nomatch h9) dX6_cell_15
set_option maxHeartbeats 4000000 in
set_option maxRecDepth 100000 in
theorem c_X6_cell_b (hh : ad_ok g 16) (hn : n ≤ 100) (hk : k ≤ 8) (r : Nat) (hr9 : r < n) (i : Nat) (hi : i < k) (p1 : Nat) (hp1 : p1 < n) (s0 : ¬ Sz r = 0) (m0 : Pl (8 * r) = nI p1) (sb : Sz p1 = 0) : Met l yX6_cell wsX6_cell ({ frames := 5, cells := 0, slots := 0, locals := 200 }) (wd_P D cI cJ [.ref (g 0), .int (nI i), .int (nI r)] (mo_W cI cJ g fx (nI n) F Wt Sz Nu Pl Bf (nI b) (nI k) G Wk To Sl Sd (nI as) wo pa fa Fo)) (pu_Q (some (.int 3))) 0 0 (fun _ => False) := by
  refine Met.ofW (cc := cX6_cell) (maxL := 4) (ret := (some .int)) (by decide) rfl ?_
  intro p e s m args below meth c s₁ B hml hv
  obtain ⟨rfl, hP, hK⟩ := hv
  have hx := B.exec
  have hb := B.bytes
  have hr := B.returns
  have hts := atoms_spec (ws := wsX6_cell) B.pre
  have hown : s.vm.findClass RX6 = some m.cls := findClass_of_methodNamed B.named
  have hlocks := B.notSynchronized
  have hiX6 : ∀ w ∈ u_ws RX6 TX6 23, w ∈ wsX6_cell := by decide +kernel
  have kf16 := hts (.fieldLink RX6 16 "SortingLineModel" "sizes" "[I") (by decide +kernel)
  have hl := lv_entry ([.ref (g 0), .int (nI i), .int (nI r)]) (n := 4) (Nat.le_of_ble_eq_true rfl)
  rw [lg_entry_eq]
  generalize (lg_sl ([.ref (g 0), .int (nI i), .int (nI r)]) ++ List.replicate (4 - (lg_sl ([.ref (g 0), .int (nI i), .int (nI r)])).length) Slot.unset).toArray = ls at hl ⊢
  have hl : lv_has ls 4 [(0, .ref (g 0)), (1, .int (nI i)), (2, .int (nI r))] := hl
  refine lv_aload_n hx hb dX6_cell_0 rfl (lv_at hl 0 rfl) ?_
  refine lv_iload_n hx hb dX6_cell_1 rfl (lv_at hl 2 rfl) ?_
  refine lv_iconst (v := 1) hx hb dX6_cell_2 (by decide) ?_
  refine pu_calli (va_runV (As := [.int (nI r), .int 1]) (rest := []) ⟨hx, hb, hml, hown, hts⟩ (c_X6_corner1_o hh hn r (by omega) p1 hp1 s0 m0) (cwV 2 hts gX6_cell_X6_corner rfl rfl rfl (by decide +kernel) ⟨Nat.le_of_ble_eq_true rfl, Nat.le_of_ble_eq_true rfl⟩) (wd_preV (ci := 6) (q0 := 0) hP hK rfl rfl) rfl rfl hl.1 rfl (lv_room (Nat.le_of_ble_eq_true rfl)) dX6_cell_3 ⟨Nat.zero_le _, Nat.zero_le _⟩) ?_
  refine lv_istore_n (lv' := [(3, .int (nI p1)), (0, .ref (g 0)), (1, .int (nI i)), (2, .int (nI r))]) hx hb dX6_cell_6 rfl hl (by decide) rfl (fun ls hl => ?_)
  refine lv_iload_n hx hb dX6_cell_7 rfl (lv_at hl 0 rfl) ?_
  refine lv_if_ge (tgt := 16) hx hb dX6_cell_8 (by decide) (fun _ => ?_) (fun h9 => absurd (nI_pos' (by omega)) h9)
  refine lv_aload_n hx hb dX6_cell_16 rfl (lv_at hl 1 rfl) ?_
  refine va_get (D := D) (ci := 6) (v := .ref (g 3)) (C := RX6) (T := TX6) (N := 23) hx hb hts hiX6 hown hK.1 hP 0 rfl rfl 4 (by decide) kf16 (fun _ h9 => h9) rfl dX6_cell_17 ?_
  refine lv_iload_n hx hb dX6_cell_20 rfl (lv_at hl 0 rfl) ?_
  refine ga_ild hx hb hK hP 3 rfl p1 (rfl) (by omega) (by decide) dX6_cell_21 ?_
  refine lv_if_ne (tgt := 27) hx hb dX6_cell_22 (by decide) (fun h9 => absurd (sb) h9) (fun _ => ?_)
  refine lv_iconst (v := 3) hx hb dX6_cell_25 (by decide) ?_
  exact W.iret (v := 3) hx hb hr (fun t9 ht _ => ⟨congrArg (fun z => Outcome.returned (some (Value.int z))) (rfl), ht⟩) (fun _ h9 => nomatch h9) dX6_cell_26
set_option maxHeartbeats 4000000 in
set_option maxRecDepth 100000 in
theorem c_X6_cell_o (hh : ad_ok g 16) (hn : n ≤ 100) (hk : k ≤ 8) (r : Nat) (hr9 : r < n) (i : Nat) (hi : i < k) (p1 : Nat) (hp1 : p1 < n) (s0 : ¬ Sz r = 0) (m0 : Pl (8 * r) = nI p1) (sb : ¬ Sz p1 = 0) : Met l yX6_cell wsX6_cell ({ frames := 5, cells := 0, slots := 0, locals := 200 }) (wd_P D cI cJ [.ref (g 0), .int (nI i), .int (nI r)] (mo_W cI cJ g fx (nI n) F Wt Sz Nu Pl Bf (nI b) (nI k) G Wk To Sl Sd (nI as) wo pa fa Fo)) (mu_Q D (ad_A g 16) (some (.int 0)) (mo_W cI cJ g fx (nI n) F Wt Sz Nu Pl Bf (nI b) (nI k) G Wk (vp_updL To i (To i + Nu (8 * p1))) Sl Sd (nI as) wo pa fa Fo)) 0 0 (ad_A g 16) := by
  refine Met.ofW (cc := cX6_cell) (maxL := 4) (ret := (some .int)) (by decide) rfl ?_
  intro p e s m args below meth c s₁ B hml hv
  obtain ⟨rfl, hP, hK⟩ := hv
  have hx := B.exec
  have hb := B.bytes
  have hr := B.returns
  have hts := atoms_spec (ws := wsX6_cell) B.pre
  have hown : s.vm.findClass RX6 = some m.cls := findClass_of_methodNamed B.named
  have hlocks := B.notSynchronized
  have hiX6 : ∀ w ∈ u_ws RX6 TX6 23, w ∈ wsX6_cell := by decide +kernel
  have kf16 := hts (.fieldLink RX6 16 "SortingLineModel" "sizes" "[I") (by decide +kernel)
  have kf47 := hts (.fieldLink RX6 47 "SortingLineModel" "totals" "[J") (by decide +kernel)
  have kf19 := hts (.fieldLink RX6 19 "SortingLineModel" "numbers" "[J") (by decide +kernel)
  have hS : va_S (ad_A g 16) s.heap s.heap [] := va_S.rf
  have hl := lv_entry ([.ref (g 0), .int (nI i), .int (nI r)]) (n := 4) (Nat.le_of_ble_eq_true rfl)
  rw [lg_entry_eq]
  generalize (lg_sl ([.ref (g 0), .int (nI i), .int (nI r)]) ++ List.replicate (4 - (lg_sl ([.ref (g 0), .int (nI i), .int (nI r)])).length) Slot.unset).toArray = ls at hl ⊢
  have hl : lv_has ls 4 [(0, .ref (g 0)), (1, .int (nI i)), (2, .int (nI r))] := hl
  refine lv_aload_n hx hb dX6_cell_0 rfl (lv_at hl 0 rfl) ?_
  refine lv_iload_n hx hb dX6_cell_1 rfl (lv_at hl 2 rfl) ?_
  refine lv_iconst (v := 1) hx hb dX6_cell_2 (by decide) ?_
  refine pu_calli (va_runV (As := [.int (nI r), .int 1]) (rest := []) ⟨hx, hb, hml, hown, hts⟩ (c_X6_corner1_o hh hn r (by omega) p1 hp1 s0 m0) (cwV 2 hts gX6_cell_X6_corner rfl rfl rfl (by decide +kernel) ⟨Nat.le_of_ble_eq_true rfl, Nat.le_of_ble_eq_true rfl⟩) (wd_preV (ci := 6) (q0 := 0) hP hK rfl rfl) rfl rfl hl.1 rfl (lv_room (Nat.le_of_ble_eq_true rfl)) dX6_cell_3 ⟨Nat.zero_le _, Nat.zero_le _⟩) ?_
  refine lv_istore_n (lv' := [(3, .int (nI p1)), (0, .ref (g 0)), (1, .int (nI i)), (2, .int (nI r))]) hx hb dX6_cell_6 rfl hl (by decide) rfl (fun ls hl => ?_)
  refine lv_iload_n hx hb dX6_cell_7 rfl (lv_at hl 0 rfl) ?_
  refine lv_if_ge (tgt := 16) hx hb dX6_cell_8 (by decide) (fun _ => ?_) (fun h9 => absurd (nI_pos' (by omega)) h9)
  refine lv_aload_n hx hb dX6_cell_16 rfl (lv_at hl 1 rfl) ?_
  refine va_get (D := D) (ci := 6) (v := .ref (g 3)) (C := RX6) (T := TX6) (N := 23) hx hb hts hiX6 hown hK.1 hP 0 rfl rfl 4 (by decide) kf16 (fun _ h9 => h9) rfl dX6_cell_17 ?_
  refine lv_iload_n hx hb dX6_cell_20 rfl (lv_at hl 0 rfl) ?_
  refine ga_ild hx hb hK hP 3 rfl p1 (rfl) (by omega) (by decide) dX6_cell_21 ?_
  refine lv_if_ne (tgt := 27) hx hb dX6_cell_22 (by decide) (fun _ => ?_) (fun h9 => absurd h9 (sb))
  refine lv_aload_n hx hb dX6_cell_27 rfl (lv_at hl 1 rfl) ?_
  refine va_get (D := D) (ci := 6) (v := .ref (g 12)) (C := RX6) (T := TX6) (N := 23) hx hb hts hiX6 hown hK.1 hP 0 rfl rfl 15 (by decide) kf47 (fun _ h9 => h9) rfl dX6_cell_28 ?_
  refine lv_iload_n hx hb dX6_cell_31 rfl (lv_at hl 2 rfl) ?_
  refine lv_dup2_11 hx hb dX6_cell_32 rfl rfl ?_
  refine ga_lld hx hb hK hP 12 rfl i (rfl) (by omega) (by decide) dX6_cell_33 ?_
  refine lv_aload_n hx hb dX6_cell_34 rfl (lv_at hl 1 rfl) ?_
  refine va_get (D := D) (ci := 6) (v := .ref (g 4)) (C := RX6) (T := TX6) (N := 23) hx hb hts hiX6 hown hK.1 hP 0 rfl rfl 5 (by decide) kf19 (fun _ h9 => h9) rfl dX6_cell_35 ?_
  refine lv_bipush (v := 8) hx hb dX6_cell_38 (by decide) ?_
  refine lv_iload_n hx hb dX6_cell_40 rfl (lv_at hl 0 rfl) ?_
  refine lv_imul hx hb dX6_cell_41 ?_
  refine tp_i (y := nI (8 * p1)) (pk_mul 8 p1) ?_
  refine ga_lld hx hb hK hP 4 rfl (8 * p1) (rfl) (by omega) (by decide) dX6_cell_42 ?_
  refine lv_ladd hx hb dX6_cell_43 ?_
  refine ga_lst hx hb hK hP (mo_D hh) hS 12 rfl i (rfl) (by omega) (by decide) dX6_cell_44 (fun H locs hP hS => ?_)
  have hP : va_P D kC (mo_W cI cJ g fx (nI n) F Wt Sz Nu Pl Bf (nI b) (nI k) G Wk (vp_updL To i ((To i) + (Nu (8 * p1)))) Sl Sd (nI as) wo pa fa Fo) H := hP
  refine lv_iconst (v := 0) hx hb dX6_cell_45 (by decide) ?_
  exact W.iret (v := 0) hx hb hr (fun t9 ht _ => ⟨congrArg (fun z => Outcome.returned (some (Value.int z))) (rfl), by rw [ht]; exact hP, hS.F ht⟩) hS.2.2 dX6_cell_46
set_option maxHeartbeats 4000000 in
set_option maxRecDepth 100000 in
theorem c_X6_packs_nB (hh : ad_ok g 16) (hn : n ≤ 100) (hk : k ≤ 8) (r : Nat) (hr9 : r < n) (i : Nat) (hi : i < k) (a : Nat) (ha : a < 16) (hFa : F r = nI a) (h1 : ko (F r) (nI 8) = true) (hs : Sl i = -1) (z : Nat) (hz : Sz r = nI z) (hz8 : z ≤ 8) (h2 : p_in 0 (Sz r) = false)  : Met l yX6_packs wsX6_packs ({ frames := 5, cells := 0, slots := 0, locals := 200 }) (wd_P D cI cJ [.ref (g 0), .int (nI i), .int (nI r)] (mo_W cI cJ g fx (nI n) F Wt Sz Nu Pl Bf (nI b) (nI k) G Wk To Sl Sd (nI as) wo pa fa Fo)) (mu_Q D (ad_A g 16) (some (.int 3)) (mo_W cI cJ g fx (nI n) F Wt Sz Nu Pl Bf (nI b) (nI k) G Wk To Sl Sd (nI as) wo pa fa Fo)) 0 0 (ad_A g 16) := by
  refine Met.ofW (cc := cX6_packs) (maxL := 4) (ret := (some .int)) (by decide) rfl ?_
  intro p e s m args below meth c s₁ B hml hv
  obtain ⟨rfl, hP, hK⟩ := hv
  have hx := B.exec
  have hb := B.bytes
  have hr := B.returns
  have hts := atoms_spec (ws := wsX6_packs) B.pre
  have hown : s.vm.findClass RX6 = some m.cls := findClass_of_methodNamed B.named
  have hlocks := B.notSynchronized
  have hiX6 : ∀ w ∈ u_ws RX6 TX6 23, w ∈ wsX6_packs := by decide +kernel
  have kf50 := hts (.fieldLink RX6 50 "SortingLineModel" "slots" "[I") (by decide +kernel)
  have hS : va_S (ad_A g 16) s.heap s.heap [] := va_S.rf
  have hl := lv_entry ([.ref (g 0), .int (nI i), .int (nI r)]) (n := 4) (Nat.le_of_ble_eq_true rfl)
  rw [lg_entry_eq]
  generalize (lg_sl ([.ref (g 0), .int (nI i), .int (nI r)]) ++ List.replicate (4 - (lg_sl ([.ref (g 0), .int (nI i), .int (nI r)])).length) Slot.unset).toArray = ls at hl ⊢
  have hl : lv_has ls 4 [(0, .ref (g 0)), (1, .int (nI i)), (2, .int (nI r))] := hl
  refine lv_aload_n hx hb dX6_packs_0 rfl (lv_at hl 0 rfl) ?_
  refine lv_iload_n hx hb dX6_packs_1 rfl (lv_at hl 2 rfl) ?_
  refine lv_bipush (v := 8) hx hb dX6_packs_2 (by decide) ?_
  refine lv_iconst (v := 0) hx hb dX6_packs_4 (by decide) ?_
  refine lv_aload_n hx hb dX6_packs_5 rfl (lv_at hl 0 rfl) ?_
  refine va_get (D := D) (ci := 6) (v := .ref (g 13)) (C := RX6) (T := TX6) (N := 23) hx hb hts hiX6 hown hK.1 hP 0 rfl rfl 16 (by decide) kf50 (fun _ h9 => h9) rfl dX6_packs_6 ?_
  refine lv_iload_n hx hb dX6_packs_9 rfl (lv_at hl 1 rfl) ?_
  refine ga_ild hx hb hK hP 13 rfl i (rfl) (by omega) (by decide) dX6_packs_10 ?_
  refine tp_i (y := -1) (hs) ?_
  refine pu_calli (va_runV (As := [.int (nI r), .int 8, .int 0, .int (-1)]) (rest := []) ⟨hx, hb, hml, hown, hts⟩ (c_X6_lays_nB hh hn r (by omega) a ha hFa 8 (by omega) (by omega) z hz hz8 0 h1 h2) (cwV 4 hts gX6_packs_X6_lays rfl rfl rfl (by decide +kernel) ⟨Nat.le_of_ble_eq_true rfl, Nat.le_of_ble_eq_true rfl⟩) (wd_preV (ci := 6) (q0 := 0) hP hK rfl rfl) rfl rfl hl.1 rfl (lv_room (Nat.le_of_ble_eq_true rfl)) dX6_packs_11 ⟨Nat.zero_le _, Nat.zero_le _⟩) ?_
  refine lv_istore_n (lv' := [(3, .int 3), (0, .ref (g 0)), (1, .int (nI i)), (2, .int (nI r))]) hx hb dX6_packs_14 rfl hl (by decide) rfl (fun ls hl => ?_)
  refine lv_aload_n hx hb dX6_packs_15 rfl (lv_at hl 1 rfl) ?_
  refine va_get (D := D) (ci := 6) (v := .ref (g 13)) (C := RX6) (T := TX6) (N := 23) hx hb hts hiX6 hown hK.1 hP 0 rfl rfl 16 (by decide) kf50 (fun _ h9 => h9) rfl dX6_packs_16 ?_
  refine lv_iload_n hx hb dX6_packs_19 rfl (lv_at hl 2 rfl) ?_
  refine lv_iload_n hx hb dX6_packs_20 rfl (lv_at hl 0 rfl) ?_
  refine lv_if_ne (tgt := 28) hx hb dX6_packs_21 (by decide) (fun _ => ?_) (fun h9 => absurd h9 (by decide))
  refine lv_aload_n hx hb dX6_packs_28 rfl (lv_at hl 1 rfl) ?_
  refine va_get (D := D) (ci := 6) (v := .ref (g 13)) (C := RX6) (T := TX6) (N := 23) hx hb hts hiX6 hown hK.1 hP 0 rfl rfl 16 (by decide) kf50 (fun _ h9 => h9) rfl dX6_packs_29 ?_
  refine lv_iload_n hx hb dX6_packs_32 rfl (lv_at hl 2 rfl) ?_
  refine ga_ild hx hb hK hP 13 rfl i (rfl) (by omega) (by decide) dX6_packs_33 ?_
  refine tp_i (y := -1) (hs) ?_
  refine ga_ist hx hb hK hP (mo_D hh) hS 13 rfl i (rfl) (by omega) (by decide) dX6_packs_34 (fun H locs hP hS => ?_)
  have hP : va_P D kC (mo_W cI cJ g fx (nI n) F Wt Sz Nu Pl Bf (nI b) (nI k) G Wk To (upd Sl i (-1)) Sd (nI as) wo pa fa Fo) H := hP
  refine lv_iload_n hx hb dX6_packs_35 rfl (lv_at hl 0 rfl) ?_
  exact W.iret (v := 3) hx hb hr (fun t9 ht _ => ⟨congrArg (fun z => Outcome.returned (some (Value.int z))) (rfl), by rw [ht]; exact va_P_cast hP (by rw [show upd Sl i (-1) = Sl by rw [← hs, up_self]]), hS.F ht⟩) hS.2.2 dX6_packs_36
set_option maxHeartbeats 4000000 in
set_option maxRecDepth 100000 in
theorem c_X6_packs_nO (hh : ad_ok g 16) (hn : n ≤ 100) (hk : k ≤ 8) (r : Nat) (hr9 : r < n) (i : Nat) (hi : i < k) (a : Nat) (ha : a < 16) (hFa : F r = nI a) (h1 : ko (F r) (nI 8) = true) (hs : Sl i = -1) (z : Nat) (hz : Sz r = nI z) (hz8 : z ≤ 8) (h2 : p_in 0 (Sz r) = true)  : Met l yX6_packs wsX6_packs ({ frames := 5, cells := 0, slots := 0, locals := 200 }) (wd_P D cI cJ [.ref (g 0), .int (nI i), .int (nI r)] (mo_W cI cJ g fx (nI n) F Wt Sz Nu Pl Bf (nI b) (nI k) G Wk To Sl Sd (nI as) wo pa fa Fo)) (mu_Q D (ad_A g 16) (some (.int 0)) (mo_W cI cJ g fx (nI n) F Wt Sz Nu (upd Pl (8 * r + 0) (-1)) Bf (nI b) (nI k) G Wk To (upd Sl i (-1)) Sd (nI as) wo pa fa Fo)) 0 0 (ad_A g 16) := by
  refine Met.ofW (cc := cX6_packs) (maxL := 4) (ret := (some .int)) (by decide) rfl ?_
  intro p e s m args below meth c s₁ B hml hv
  obtain ⟨rfl, hP, hK⟩ := hv
  have hx := B.exec
  have hb := B.bytes
  have hr := B.returns
  have hts := atoms_spec (ws := wsX6_packs) B.pre
  have hown : s.vm.findClass RX6 = some m.cls := findClass_of_methodNamed B.named
  have hlocks := B.notSynchronized
  have hiX6 : ∀ w ∈ u_ws RX6 TX6 23, w ∈ wsX6_packs := by decide +kernel
  have kf50 := hts (.fieldLink RX6 50 "SortingLineModel" "slots" "[I") (by decide +kernel)
  have hS : va_S (ad_A g 16) s.heap s.heap [] := va_S.rf
  have hl := lv_entry ([.ref (g 0), .int (nI i), .int (nI r)]) (n := 4) (Nat.le_of_ble_eq_true rfl)
  rw [lg_entry_eq]
  generalize (lg_sl ([.ref (g 0), .int (nI i), .int (nI r)]) ++ List.replicate (4 - (lg_sl ([.ref (g 0), .int (nI i), .int (nI r)])).length) Slot.unset).toArray = ls at hl ⊢
  have hl : lv_has ls 4 [(0, .ref (g 0)), (1, .int (nI i)), (2, .int (nI r))] := hl
  refine lv_aload_n hx hb dX6_packs_0 rfl (lv_at hl 0 rfl) ?_
  refine lv_iload_n hx hb dX6_packs_1 rfl (lv_at hl 2 rfl) ?_
  refine lv_bipush (v := 8) hx hb dX6_packs_2 (by decide) ?_
  refine lv_iconst (v := 0) hx hb dX6_packs_4 (by decide) ?_
  refine lv_aload_n hx hb dX6_packs_5 rfl (lv_at hl 0 rfl) ?_
  refine va_get (D := D) (ci := 6) (v := .ref (g 13)) (C := RX6) (T := TX6) (N := 23) hx hb hts hiX6 hown hK.1 hP 0 rfl rfl 16 (by decide) kf50 (fun _ h9 => h9) rfl dX6_packs_6 ?_
  refine lv_iload_n hx hb dX6_packs_9 rfl (lv_at hl 1 rfl) ?_
  refine ga_ild hx hb hK hP 13 rfl i (rfl) (by omega) (by decide) dX6_packs_10 ?_
  refine tp_i (y := -1) (hs) ?_
  refine mu_calli (va_runV (As := [.int (nI r), .int 8, .int 0, .int (-1)]) (rest := []) ⟨hx, hb, hml, hown, hts⟩ (c_X6_lays_nO hh hn r (by omega) a ha hFa 8 (by omega) (by omega) z hz hz8 0 (by decide) h1 h2) (cwV 4 hts gX6_packs_X6_lays rfl rfl rfl (by decide +kernel) ⟨Nat.le_of_ble_eq_true rfl, Nat.le_of_ble_eq_true rfl⟩) (wd_preV (ci := 6) (q0 := 0) hP hK rfl rfl) rfl rfl hl.1 rfl (lv_room (Nat.le_of_ble_eq_true rfl)) dX6_packs_11 ⟨Nat.zero_le _, Nat.zero_le _⟩) hS (fun H locs hP hS => ?_)
  have hP : va_P D kC (mo_W cI cJ g fx (nI n) F Wt Sz Nu (upd Pl (8 * r + 0) (-1)) Bf (nI b) (nI k) G Wk To Sl Sd (nI as) wo pa fa Fo) H := hP
  refine lv_istore_n (lv' := [(3, .int 0), (0, .ref (g 0)), (1, .int (nI i)), (2, .int (nI r))]) hx hb dX6_packs_14 rfl hl (by decide) rfl (fun ls hl => ?_)
  refine lv_aload_n hx hb dX6_packs_15 rfl (lv_at hl 1 rfl) ?_
  refine va_get (D := D) (ci := 6) (v := .ref (g 13)) (C := RX6) (T := TX6) (N := 23) hx hb hts hiX6 hown hK.1 hP 0 rfl rfl 16 (by decide) kf50 (fun _ h9 => h9) rfl dX6_packs_16 ?_
  refine lv_iload_n hx hb dX6_packs_19 rfl (lv_at hl 2 rfl) ?_
  refine lv_iload_n hx hb dX6_packs_20 rfl (lv_at hl 0 rfl) ?_
  refine lv_if_ne (tgt := 28) hx hb dX6_packs_21 (by decide) (fun h9 => absurd (by decide) h9) (fun _ => ?_)
  refine lv_iconst (v := (-1)) hx hb dX6_packs_24 (by decide) ?_
  refine lv_goto (tgt := 34) hx hb dX6_packs_25 (by decide) ?_
  refine ga_ist hx hb hK hP (mo_D hh) hS 13 rfl i (rfl) (by omega) (by decide) dX6_packs_34 (fun H locs hP hS => ?_)
  have hP : va_P D kC (mo_W cI cJ g fx (nI n) F Wt Sz Nu (upd Pl (8 * r + 0) (-1)) Bf (nI b) (nI k) G Wk To (upd Sl i (-1)) Sd (nI as) wo pa fa Fo) H := hP
  refine lv_iload_n hx hb dX6_packs_35 rfl (lv_at hl 0 rfl) ?_
  exact W.iret (v := 0) hx hb hr (fun t9 ht _ => ⟨congrArg (fun z => Outcome.returned (some (Value.int z))) (rfl), by rw [ht]; exact hP, hS.F ht⟩) hS.2.2 dX6_packs_36
set_option maxHeartbeats 4000000 in
set_option maxRecDepth 100000 in
theorem c_X6_packs_pC (hh : ad_ok g 16) (hn : n ≤ 100) (hk : k ≤ 8) (r : Nat) (hr9 : r < n) (i : Nat) (hi : i < k) (a : Nat) (ha : a < 16) (hFa : F r = nI a) (h1 : ko (F r) (nI 8) = true) (p9 : Nat) (hp9 : p9 < n) (a2 : Nat) (ha2 : a2 < 16) (hFa2 : F p9 = nI a2) (hs : Sl i = nI p9) (h4 : ko (F p9) (nI 0) = false)  : Met l yX6_packs wsX6_packs ({ frames := 5, cells := 0, slots := 0, locals := 200 }) (wd_P D cI cJ [.ref (g 0), .int (nI i), .int (nI r)] (mo_W cI cJ g fx (nI n) F Wt Sz Nu Pl Bf (nI b) (nI k) G Wk To Sl Sd (nI as) wo pa fa Fo)) (mu_Q D (ad_A g 16) (some (.int 1)) (mo_W cI cJ g fx (nI n) F Wt Sz Nu Pl Bf (nI b) (nI k) G Wk To Sl Sd (nI as) wo pa fa Fo)) 0 0 (ad_A g 16) := by
  refine Met.ofW (cc := cX6_packs) (maxL := 4) (ret := (some .int)) (by decide) rfl ?_
  intro p e s m args below meth c s₁ B hml hv
  obtain ⟨rfl, hP, hK⟩ := hv
  have hx := B.exec
  have hb := B.bytes
  have hr := B.returns
  have hts := atoms_spec (ws := wsX6_packs) B.pre
  have hown : s.vm.findClass RX6 = some m.cls := findClass_of_methodNamed B.named
  have hlocks := B.notSynchronized
  have hiX6 : ∀ w ∈ u_ws RX6 TX6 23, w ∈ wsX6_packs := by decide +kernel
  have kf50 := hts (.fieldLink RX6 50 "SortingLineModel" "slots" "[I") (by decide +kernel)
  have hS : va_S (ad_A g 16) s.heap s.heap [] := va_S.rf
  have hl := lv_entry ([.ref (g 0), .int (nI i), .int (nI r)]) (n := 4) (Nat.le_of_ble_eq_true rfl)
  rw [lg_entry_eq]
  generalize (lg_sl ([.ref (g 0), .int (nI i), .int (nI r)]) ++ List.replicate (4 - (lg_sl ([.ref (g 0), .int (nI i), .int (nI r)])).length) Slot.unset).toArray = ls at hl ⊢
  have hl : lv_has ls 4 [(0, .ref (g 0)), (1, .int (nI i)), (2, .int (nI r))] := hl
  refine lv_aload_n hx hb dX6_packs_0 rfl (lv_at hl 0 rfl) ?_
  refine lv_iload_n hx hb dX6_packs_1 rfl (lv_at hl 2 rfl) ?_
  refine lv_bipush (v := 8) hx hb dX6_packs_2 (by decide) ?_
  refine lv_iconst (v := 0) hx hb dX6_packs_4 (by decide) ?_
  refine lv_aload_n hx hb dX6_packs_5 rfl (lv_at hl 0 rfl) ?_
  refine va_get (D := D) (ci := 6) (v := .ref (g 13)) (C := RX6) (T := TX6) (N := 23) hx hb hts hiX6 hown hK.1 hP 0 rfl rfl 16 (by decide) kf50 (fun _ h9 => h9) rfl dX6_packs_6 ?_
  refine lv_iload_n hx hb dX6_packs_9 rfl (lv_at hl 1 rfl) ?_
  refine ga_ild hx hb hK hP 13 rfl i (rfl) (by omega) (by decide) dX6_packs_10 ?_
  refine tp_i (y := nI p9) (hs) ?_
  refine pu_calli (va_runV (As := [.int (nI r), .int 8, .int 0, .int (nI p9)]) (rest := []) ⟨hx, hb, hml, hown, hts⟩ (c_X6_lays_pC hh hn r (by omega) a ha hFa 8 (by omega) (by omega) 0 (by decide) rfl p9 hp9 a2 ha2 hFa2 0 h1 h4) (cwV 4 hts gX6_packs_X6_lays rfl rfl rfl (by decide +kernel) ⟨Nat.le_of_ble_eq_true rfl, Nat.le_of_ble_eq_true rfl⟩) (wd_preV (ci := 6) (q0 := 0) hP hK rfl rfl) rfl rfl hl.1 rfl (lv_room (Nat.le_of_ble_eq_true rfl)) dX6_packs_11 ⟨Nat.zero_le _, Nat.zero_le _⟩) ?_
  refine lv_istore_n (lv' := [(3, .int 1), (0, .ref (g 0)), (1, .int (nI i)), (2, .int (nI r))]) hx hb dX6_packs_14 rfl hl (by decide) rfl (fun ls hl => ?_)
  refine lv_aload_n hx hb dX6_packs_15 rfl (lv_at hl 1 rfl) ?_
  refine va_get (D := D) (ci := 6) (v := .ref (g 13)) (C := RX6) (T := TX6) (N := 23) hx hb hts hiX6 hown hK.1 hP 0 rfl rfl 16 (by decide) kf50 (fun _ h9 => h9) rfl dX6_packs_16 ?_
  refine lv_iload_n hx hb dX6_packs_19 rfl (lv_at hl 2 rfl) ?_
  refine lv_iload_n hx hb dX6_packs_20 rfl (lv_at hl 0 rfl) ?_
  refine lv_if_ne (tgt := 28) hx hb dX6_packs_21 (by decide) (fun _ => ?_) (fun h9 => absurd h9 (by decide))
  refine lv_aload_n hx hb dX6_packs_28 rfl (lv_at hl 1 rfl) ?_
  refine va_get (D := D) (ci := 6) (v := .ref (g 13)) (C := RX6) (T := TX6) (N := 23) hx hb hts hiX6 hown hK.1 hP 0 rfl rfl 16 (by decide) kf50 (fun _ h9 => h9) rfl dX6_packs_29 ?_
  refine lv_iload_n hx hb dX6_packs_32 rfl (lv_at hl 2 rfl) ?_
  refine ga_ild hx hb hK hP 13 rfl i (rfl) (by omega) (by decide) dX6_packs_33 ?_
  refine tp_i (y := nI p9) (hs) ?_
  refine ga_ist hx hb hK hP (mo_D hh) hS 13 rfl i (rfl) (by omega) (by decide) dX6_packs_34 (fun H locs hP hS => ?_)
  have hP : va_P D kC (mo_W cI cJ g fx (nI n) F Wt Sz Nu Pl Bf (nI b) (nI k) G Wk To (upd Sl i (nI p9)) Sd (nI as) wo pa fa Fo) H := hP
  refine lv_iload_n hx hb dX6_packs_35 rfl (lv_at hl 0 rfl) ?_
  exact W.iret (v := 1) hx hb hr (fun t9 ht _ => ⟨congrArg (fun z => Outcome.returned (some (Value.int z))) (rfl), by rw [ht]; exact va_P_cast hP (by rw [show upd Sl i (nI p9) = Sl by rw [← hs, up_self]]), hS.F ht⟩) hS.2.2 dX6_packs_36
set_option maxHeartbeats 4000000 in
set_option maxRecDepth 100000 in
theorem c_X6_packs_pB (hh : ad_ok g 16) (hn : n ≤ 100) (hk : k ≤ 8) (r : Nat) (hr9 : r < n) (i : Nat) (hi : i < k) (a : Nat) (ha : a < 16) (hFa : F r = nI a) (h1 : ko (F r) (nI 8) = true) (p9 : Nat) (hp9 : p9 < n) (a2 : Nat) (ha2 : a2 < 16) (hFa2 : F p9 = nI a2) (hs : Sl i = nI p9) (z : Nat) (hz : Sz r = nI z) (hz8 : z ≤ 8) (h4 : ko (F p9) (nI 0) = true) (h2 : p_in 0 (Sz r) = false)  : Met l yX6_packs wsX6_packs ({ frames := 5, cells := 0, slots := 0, locals := 200 }) (wd_P D cI cJ [.ref (g 0), .int (nI i), .int (nI r)] (mo_W cI cJ g fx (nI n) F Wt Sz Nu Pl Bf (nI b) (nI k) G Wk To Sl Sd (nI as) wo pa fa Fo)) (mu_Q D (ad_A g 16) (some (.int 3)) (mo_W cI cJ g fx (nI n) F Wt Sz Nu Pl Bf (nI b) (nI k) G Wk To Sl Sd (nI as) wo pa fa Fo)) 0 0 (ad_A g 16) := by
  refine Met.ofW (cc := cX6_packs) (maxL := 4) (ret := (some .int)) (by decide) rfl ?_
  intro p e s m args below meth c s₁ B hml hv
  obtain ⟨rfl, hP, hK⟩ := hv
  have hx := B.exec
  have hb := B.bytes
  have hr := B.returns
  have hts := atoms_spec (ws := wsX6_packs) B.pre
  have hown : s.vm.findClass RX6 = some m.cls := findClass_of_methodNamed B.named
  have hlocks := B.notSynchronized
  have hiX6 : ∀ w ∈ u_ws RX6 TX6 23, w ∈ wsX6_packs := by decide +kernel
  have kf50 := hts (.fieldLink RX6 50 "SortingLineModel" "slots" "[I") (by decide +kernel)
  have hS : va_S (ad_A g 16) s.heap s.heap [] := va_S.rf
  have hl := lv_entry ([.ref (g 0), .int (nI i), .int (nI r)]) (n := 4) (Nat.le_of_ble_eq_true rfl)
  rw [lg_entry_eq]
  generalize (lg_sl ([.ref (g 0), .int (nI i), .int (nI r)]) ++ List.replicate (4 - (lg_sl ([.ref (g 0), .int (nI i), .int (nI r)])).length) Slot.unset).toArray = ls at hl ⊢
  have hl : lv_has ls 4 [(0, .ref (g 0)), (1, .int (nI i)), (2, .int (nI r))] := hl
  refine lv_aload_n hx hb dX6_packs_0 rfl (lv_at hl 0 rfl) ?_
  refine lv_iload_n hx hb dX6_packs_1 rfl (lv_at hl 2 rfl) ?_
  refine lv_bipush (v := 8) hx hb dX6_packs_2 (by decide) ?_
  refine lv_iconst (v := 0) hx hb dX6_packs_4 (by decide) ?_
  refine lv_aload_n hx hb dX6_packs_5 rfl (lv_at hl 0 rfl) ?_
  refine va_get (D := D) (ci := 6) (v := .ref (g 13)) (C := RX6) (T := TX6) (N := 23) hx hb hts hiX6 hown hK.1 hP 0 rfl rfl 16 (by decide) kf50 (fun _ h9 => h9) rfl dX6_packs_6 ?_
  refine lv_iload_n hx hb dX6_packs_9 rfl (lv_at hl 1 rfl) ?_
  refine ga_ild hx hb hK hP 13 rfl i (rfl) (by omega) (by decide) dX6_packs_10 ?_
  refine tp_i (y := nI p9) (hs) ?_
  refine pu_calli (va_runV (As := [.int (nI r), .int 8, .int 0, .int (nI p9)]) (rest := []) ⟨hx, hb, hml, hown, hts⟩ (c_X6_lays_pB hh hn r (by omega) a ha hFa 8 (by omega) (by omega) 0 (by decide) rfl p9 hp9 a2 ha2 hFa2 z hz hz8 0 h1 h4 h2) (cwV 4 hts gX6_packs_X6_lays rfl rfl rfl (by decide +kernel) ⟨Nat.le_of_ble_eq_true rfl, Nat.le_of_ble_eq_true rfl⟩) (wd_preV (ci := 6) (q0 := 0) hP hK rfl rfl) rfl rfl hl.1 rfl (lv_room (Nat.le_of_ble_eq_true rfl)) dX6_packs_11 ⟨Nat.zero_le _, Nat.zero_le _⟩) ?_
  refine lv_istore_n (lv' := [(3, .int 3), (0, .ref (g 0)), (1, .int (nI i)), (2, .int (nI r))]) hx hb dX6_packs_14 rfl hl (by decide) rfl (fun ls hl => ?_)
  refine lv_aload_n hx hb dX6_packs_15 rfl (lv_at hl 1 rfl) ?_
  refine va_get (D := D) (ci := 6) (v := .ref (g 13)) (C := RX6) (T := TX6) (N := 23) hx hb hts hiX6 hown hK.1 hP 0 rfl rfl 16 (by decide) kf50 (fun _ h9 => h9) rfl dX6_packs_16 ?_
  refine lv_iload_n hx hb dX6_packs_19 rfl (lv_at hl 2 rfl) ?_
  refine lv_iload_n hx hb dX6_packs_20 rfl (lv_at hl 0 rfl) ?_
  refine lv_if_ne (tgt := 28) hx hb dX6_packs_21 (by decide) (fun _ => ?_) (fun h9 => absurd h9 (by decide))
  refine lv_aload_n hx hb dX6_packs_28 rfl (lv_at hl 1 rfl) ?_
  refine va_get (D := D) (ci := 6) (v := .ref (g 13)) (C := RX6) (T := TX6) (N := 23) hx hb hts hiX6 hown hK.1 hP 0 rfl rfl 16 (by decide) kf50 (fun _ h9 => h9) rfl dX6_packs_29 ?_
  refine lv_iload_n hx hb dX6_packs_32 rfl (lv_at hl 2 rfl) ?_
  refine ga_ild hx hb hK hP 13 rfl i (rfl) (by omega) (by decide) dX6_packs_33 ?_
  refine tp_i (y := nI p9) (hs) ?_
  refine ga_ist hx hb hK hP (mo_D hh) hS 13 rfl i (rfl) (by omega) (by decide) dX6_packs_34 (fun H locs hP hS => ?_)
  have hP : va_P D kC (mo_W cI cJ g fx (nI n) F Wt Sz Nu Pl Bf (nI b) (nI k) G Wk To (upd Sl i (nI p9)) Sd (nI as) wo pa fa Fo) H := hP
  refine lv_iload_n hx hb dX6_packs_35 rfl (lv_at hl 0 rfl) ?_
  exact W.iret (v := 3) hx hb hr (fun t9 ht _ => ⟨congrArg (fun z => Outcome.returned (some (Value.int z))) (rfl), by rw [ht]; exact va_P_cast hP (by rw [show upd Sl i (nI p9) = Sl by rw [← hs, up_self]]), hS.F ht⟩) hS.2.2 dX6_packs_36
set_option maxHeartbeats 4000000 in
set_option maxRecDepth 100000 in
theorem c_X6_packs_pS (hh : ad_ok g 16) (hn : n ≤ 100) (hk : k ≤ 8) (r : Nat) (hr9 : r < n) (i : Nat) (hi : i < k) (a : Nat) (ha : a < 16) (hFa : F r = nI a) (h1 : ko (F r) (nI 8) = true) (p9 : Nat) (hp9 : p9 < n) (a2 : Nat) (ha2 : a2 < 16) (hFa2 : F p9 = nI a2) (hs : Sl i = nI p9) (e9 : Nat) (he : e9 < 18) (he9 : pt_of a = nI e9) (z : Nat) (hz : Sz r = nI z) (hz8 : z ≤ 8) (h4 : ko (F p9) (nI 0) = true) (h2 : p_in 0 (Sz r) = true) (h3 : ko (F p9) (nI e9) = false)  : Met l yX6_packs wsX6_packs ({ frames := 5, cells := 0, slots := 0, locals := 200 }) (wd_P D cI cJ [.ref (g 0), .int (nI i), .int (nI r)] (mo_W cI cJ g fx (nI n) F Wt Sz Nu Pl Bf (nI b) (nI k) G Wk To Sl Sd (nI as) wo pa fa Fo)) (mu_Q D (ad_A g 16) (some (.int 4)) (mo_W cI cJ g fx (nI n) F Wt Sz Nu Pl Bf (nI b) (nI k) G Wk To Sl Sd (nI as) wo pa fa Fo)) 0 0 (ad_A g 16) := by
  refine Met.ofW (cc := cX6_packs) (maxL := 4) (ret := (some .int)) (by decide) rfl ?_
  intro p e s m args below meth c s₁ B hml hv
  obtain ⟨rfl, hP, hK⟩ := hv
  have hx := B.exec
  have hb := B.bytes
  have hr := B.returns
  have hts := atoms_spec (ws := wsX6_packs) B.pre
  have hown : s.vm.findClass RX6 = some m.cls := findClass_of_methodNamed B.named
  have hlocks := B.notSynchronized
  have hiX6 : ∀ w ∈ u_ws RX6 TX6 23, w ∈ wsX6_packs := by decide +kernel
  have kf50 := hts (.fieldLink RX6 50 "SortingLineModel" "slots" "[I") (by decide +kernel)
  have hS : va_S (ad_A g 16) s.heap s.heap [] := va_S.rf
  have hl := lv_entry ([.ref (g 0), .int (nI i), .int (nI r)]) (n := 4) (Nat.le_of_ble_eq_true rfl)
  rw [lg_entry_eq]
  generalize (lg_sl ([.ref (g 0), .int (nI i), .int (nI r)]) ++ List.replicate (4 - (lg_sl ([.ref (g 0), .int (nI i), .int (nI r)])).length) Slot.unset).toArray = ls at hl ⊢
  have hl : lv_has ls 4 [(0, .ref (g 0)), (1, .int (nI i)), (2, .int (nI r))] := hl
  refine lv_aload_n hx hb dX6_packs_0 rfl (lv_at hl 0 rfl) ?_
  refine lv_iload_n hx hb dX6_packs_1 rfl (lv_at hl 2 rfl) ?_
  refine lv_bipush (v := 8) hx hb dX6_packs_2 (by decide) ?_
  refine lv_iconst (v := 0) hx hb dX6_packs_4 (by decide) ?_
  refine lv_aload_n hx hb dX6_packs_5 rfl (lv_at hl 0 rfl) ?_
  refine va_get (D := D) (ci := 6) (v := .ref (g 13)) (C := RX6) (T := TX6) (N := 23) hx hb hts hiX6 hown hK.1 hP 0 rfl rfl 16 (by decide) kf50 (fun _ h9 => h9) rfl dX6_packs_6 ?_
  refine lv_iload_n hx hb dX6_packs_9 rfl (lv_at hl 1 rfl) ?_
  refine ga_ild hx hb hK hP 13 rfl i (rfl) (by omega) (by decide) dX6_packs_10 ?_
  refine tp_i (y := nI p9) (hs) ?_
  refine pu_calli (va_runV (As := [.int (nI r), .int 8, .int 0, .int (nI p9)]) (rest := []) ⟨hx, hb, hml, hown, hts⟩ (c_X6_lays_pS hh hn r (by omega) a ha hFa 8 (by omega) (by omega) 0 (by decide) rfl e9 he he9 p9 hp9 a2 ha2 hFa2 z hz hz8 0 h1 h4 h2 h3) (cwV 4 hts gX6_packs_X6_lays rfl rfl rfl (by decide +kernel) ⟨Nat.le_of_ble_eq_true rfl, Nat.le_of_ble_eq_true rfl⟩) (wd_preV (ci := 6) (q0 := 0) hP hK rfl rfl) rfl rfl hl.1 rfl (lv_room (Nat.le_of_ble_eq_true rfl)) dX6_packs_11 ⟨Nat.zero_le _, Nat.zero_le _⟩) ?_
  refine lv_istore_n (lv' := [(3, .int 4), (0, .ref (g 0)), (1, .int (nI i)), (2, .int (nI r))]) hx hb dX6_packs_14 rfl hl (by decide) rfl (fun ls hl => ?_)
  refine lv_aload_n hx hb dX6_packs_15 rfl (lv_at hl 1 rfl) ?_
  refine va_get (D := D) (ci := 6) (v := .ref (g 13)) (C := RX6) (T := TX6) (N := 23) hx hb hts hiX6 hown hK.1 hP 0 rfl rfl 16 (by decide) kf50 (fun _ h9 => h9) rfl dX6_packs_16 ?_
  refine lv_iload_n hx hb dX6_packs_19 rfl (lv_at hl 2 rfl) ?_
  refine lv_iload_n hx hb dX6_packs_20 rfl (lv_at hl 0 rfl) ?_
  refine lv_if_ne (tgt := 28) hx hb dX6_packs_21 (by decide) (fun _ => ?_) (fun h9 => absurd h9 (by decide))
  refine lv_aload_n hx hb dX6_packs_28 rfl (lv_at hl 1 rfl) ?_
  refine va_get (D := D) (ci := 6) (v := .ref (g 13)) (C := RX6) (T := TX6) (N := 23) hx hb hts hiX6 hown hK.1 hP 0 rfl rfl 16 (by decide) kf50 (fun _ h9 => h9) rfl dX6_packs_29 ?_
  refine lv_iload_n hx hb dX6_packs_32 rfl (lv_at hl 2 rfl) ?_
  refine ga_ild hx hb hK hP 13 rfl i (rfl) (by omega) (by decide) dX6_packs_33 ?_
  refine tp_i (y := nI p9) (hs) ?_
  refine ga_ist hx hb hK hP (mo_D hh) hS 13 rfl i (rfl) (by omega) (by decide) dX6_packs_34 (fun H locs hP hS => ?_)
  have hP : va_P D kC (mo_W cI cJ g fx (nI n) F Wt Sz Nu Pl Bf (nI b) (nI k) G Wk To (upd Sl i (nI p9)) Sd (nI as) wo pa fa Fo) H := hP
  refine lv_iload_n hx hb dX6_packs_35 rfl (lv_at hl 0 rfl) ?_
  exact W.iret (v := 4) hx hb hr (fun t9 ht _ => ⟨congrArg (fun z => Outcome.returned (some (Value.int z))) (rfl), by rw [ht]; exact va_P_cast hP (by rw [show upd Sl i (nI p9) = Sl by rw [← hs, up_self]]), hS.F ht⟩) hS.2.2 dX6_packs_36
set_option maxHeartbeats 4000000 in
set_option maxRecDepth 100000 in
theorem c_X6_packs_pO (hh : ad_ok g 16) (hn : n ≤ 100) (hk : k ≤ 8) (r : Nat) (hr9 : r < n) (i : Nat) (hi : i < k) (a : Nat) (ha : a < 16) (hFa : F r = nI a) (h1 : ko (F r) (nI 8) = true) (p9 : Nat) (hp9 : p9 < n) (a2 : Nat) (ha2 : a2 < 16) (hFa2 : F p9 = nI a2) (hs : Sl i = nI p9) (e9 : Nat) (he : e9 < 18) (he9 : pt_of a = nI e9) (z : Nat) (hz : Sz r = nI z) (hz8 : z ≤ 8) (h4 : ko (F p9) (nI 0) = true) (h2 : p_in 0 (Sz r) = true) (h3 : ko (F p9) (nI e9) = true)  : Met l yX6_packs wsX6_packs ({ frames := 5, cells := 0, slots := 0, locals := 200 }) (wd_P D cI cJ [.ref (g 0), .int (nI i), .int (nI r)] (mo_W cI cJ g fx (nI n) F Wt Sz Nu Pl Bf (nI b) (nI k) G Wk To Sl Sd (nI as) wo pa fa Fo)) (mu_Q D (ad_A g 16) (some (.int 0)) (mo_W cI cJ g fx (nI n) F Wt Sz Nu (upd Pl (8 * r + 0) (nI p9)) Bf (nI b) (nI k) G Wk To (upd Sl i (-1)) Sd (nI as) wo pa fa Fo)) 0 0 (ad_A g 16) := by
  refine Met.ofW (cc := cX6_packs) (maxL := 4) (ret := (some .int)) (by decide) rfl ?_
  intro p e s m args below meth c s₁ B hml hv
  obtain ⟨rfl, hP, hK⟩ := hv
  have hx := B.exec
  have hb := B.bytes
  have hr := B.returns
  have hts := atoms_spec (ws := wsX6_packs) B.pre
  have hown : s.vm.findClass RX6 = some m.cls := findClass_of_methodNamed B.named
  have hlocks := B.notSynchronized
  have hiX6 : ∀ w ∈ u_ws RX6 TX6 23, w ∈ wsX6_packs := by decide +kernel
  have kf50 := hts (.fieldLink RX6 50 "SortingLineModel" "slots" "[I") (by decide +kernel)
  have hS : va_S (ad_A g 16) s.heap s.heap [] := va_S.rf
  have hl := lv_entry ([.ref (g 0), .int (nI i), .int (nI r)]) (n := 4) (Nat.le_of_ble_eq_true rfl)
  rw [lg_entry_eq]
  generalize (lg_sl ([.ref (g 0), .int (nI i), .int (nI r)]) ++ List.replicate (4 - (lg_sl ([.ref (g 0), .int (nI i), .int (nI r)])).length) Slot.unset).toArray = ls at hl ⊢
  have hl : lv_has ls 4 [(0, .ref (g 0)), (1, .int (nI i)), (2, .int (nI r))] := hl
  refine lv_aload_n hx hb dX6_packs_0 rfl (lv_at hl 0 rfl) ?_
  refine lv_iload_n hx hb dX6_packs_1 rfl (lv_at hl 2 rfl) ?_
  refine lv_bipush (v := 8) hx hb dX6_packs_2 (by decide) ?_
  refine lv_iconst (v := 0) hx hb dX6_packs_4 (by decide) ?_
  refine lv_aload_n hx hb dX6_packs_5 rfl (lv_at hl 0 rfl) ?_
  refine va_get (D := D) (ci := 6) (v := .ref (g 13)) (C := RX6) (T := TX6) (N := 23) hx hb hts hiX6 hown hK.1 hP 0 rfl rfl 16 (by decide) kf50 (fun _ h9 => h9) rfl dX6_packs_6 ?_
  refine lv_iload_n hx hb dX6_packs_9 rfl (lv_at hl 1 rfl) ?_
  refine ga_ild hx hb hK hP 13 rfl i (rfl) (by omega) (by decide) dX6_packs_10 ?_
  refine tp_i (y := nI p9) (hs) ?_
  refine mu_calli (va_runV (As := [.int (nI r), .int 8, .int 0, .int (nI p9)]) (rest := []) ⟨hx, hb, hml, hown, hts⟩ (c_X6_lays_pO hh hn r (by omega) a ha hFa 8 (by omega) (by omega) 0 (by decide) rfl e9 he he9 p9 hp9 a2 ha2 hFa2 z hz hz8 0 (by decide) h1 h4 h2 h3) (cwV 4 hts gX6_packs_X6_lays rfl rfl rfl (by decide +kernel) ⟨Nat.le_of_ble_eq_true rfl, Nat.le_of_ble_eq_true rfl⟩) (wd_preV (ci := 6) (q0 := 0) hP hK rfl rfl) rfl rfl hl.1 rfl (lv_room (Nat.le_of_ble_eq_true rfl)) dX6_packs_11 ⟨Nat.zero_le _, Nat.zero_le _⟩) hS (fun H locs hP hS => ?_)
  have hP : va_P D kC (mo_W cI cJ g fx (nI n) F Wt Sz Nu (upd Pl (8 * r + 0) (nI p9)) Bf (nI b) (nI k) G Wk To Sl Sd (nI as) wo pa fa Fo) H := hP
  refine lv_istore_n (lv' := [(3, .int 0), (0, .ref (g 0)), (1, .int (nI i)), (2, .int (nI r))]) hx hb dX6_packs_14 rfl hl (by decide) rfl (fun ls hl => ?_)
  refine lv_aload_n hx hb dX6_packs_15 rfl (lv_at hl 1 rfl) ?_
  refine va_get (D := D) (ci := 6) (v := .ref (g 13)) (C := RX6) (T := TX6) (N := 23) hx hb hts hiX6 hown hK.1 hP 0 rfl rfl 16 (by decide) kf50 (fun _ h9 => h9) rfl dX6_packs_16 ?_
  refine lv_iload_n hx hb dX6_packs_19 rfl (lv_at hl 2 rfl) ?_
  refine lv_iload_n hx hb dX6_packs_20 rfl (lv_at hl 0 rfl) ?_
  refine lv_if_ne (tgt := 28) hx hb dX6_packs_21 (by decide) (fun h9 => absurd (by decide) h9) (fun _ => ?_)
  refine lv_iconst (v := (-1)) hx hb dX6_packs_24 (by decide) ?_
  refine lv_goto (tgt := 34) hx hb dX6_packs_25 (by decide) ?_
  refine ga_ist hx hb hK hP (mo_D hh) hS 13 rfl i (rfl) (by omega) (by decide) dX6_packs_34 (fun H locs hP hS => ?_)
  have hP : va_P D kC (mo_W cI cJ g fx (nI n) F Wt Sz Nu (upd Pl (8 * r + 0) (nI p9)) Bf (nI b) (nI k) G Wk To (upd Sl i (-1)) Sd (nI as) wo pa fa Fo) H := hP
  refine lv_iload_n hx hb dX6_packs_35 rfl (lv_at hl 0 rfl) ?_
  exact W.iret (v := 0) hx hb hr (fun t9 ht _ => ⟨congrArg (fun z => Outcome.returned (some (Value.int z))) (rfl), by rw [ht]; exact hP, hS.F ht⟩) hS.2.2 dX6_packs_36
set_option maxHeartbeats 4000000 in
set_option maxRecDepth 100000 in
theorem lp_X6_spill {p : Program} {e : Env} {s : State} {m : MethodId} {args : Array Value} {below : List Frame} {meth : Method} {c : Code} {Q : State → Prop} {H0 : Heap} (hx : p.tables.exec = Jvm.exec) (hb : c.code = cX6_spills) (hml : c.maxLocals = 4) (hown : s.vm.findClass RX6 = some m.cls) (hts : ∀ w ∈ wsX6_spills, w.before args s = true) (hK : wd_K D cI cJ s) (hh : ad_ok g 16) (hn : n ≤ 100) (r : Nat) (hr9 : r < n) (hb9 : b ≤ 40) (z : Nat) (hz : Sz r = nI z) (hz8 : z ≤ 8) (kk0 : ∀ (M R : Nat → Int32) (c9 : Nat), spR r (Pl, Bf, b) z = (M, R, c9) → ∀ (H : Heap) (locs : List Loc), va_P D kC (mo_W cI cJ g fx (nI n) F Wt Sz Nu M R (nI c9) (nI k) G Wk To Sl Sd (nI as) wo pa fa Fo) H → va_S (ad_A g 16) H0 H locs → ∀ (ls : Array Slot), lv_has ls 4 [(0, .ref (g 0)), (1, .int (nI r))] → W p l e (headSpec wsX6_spills { frames := 5, cells := 0, slots := 0, locals := 200 }).room s m args below meth c H locs 0 0 Q (F0 m 60 ls [])) : ∀ (d : Nat) (y : Nat), y + d = z → ∀ (M R : Nat → Int32) (c9 : Nat), spR r (Pl, Bf, b) y = (M, R, c9) → ∀ (H : Heap) (locs : List Loc), va_P D kC (mo_W cI cJ g fx (nI n) F Wt Sz Nu M R (nI c9) (nI k) G Wk To Sl Sd (nI as) wo pa fa Fo) H → va_S (ad_A g 16) H0 H locs → ∀ (ls : Array Slot), lv_has ls 4 [(2, .int (nI y)), (0, .ref (g 0)), (1, .int (nI r))] → W p l e (headSpec wsX6_spills { frames := 5, cells := 0, slots := 0, locals := 200 }).room s m args below meth c H locs 0 0 Q (F0 m 2 ls []) := by
  have hiX6 : ∀ w ∈ u_ws RX6 TX6 23, w ∈ wsX6_spills := by decide +kernel
  have kf16 := hts (.fieldLink RX6 16 "SortingLineModel" "sizes" "[I") (by decide +kernel)
  have kf109 := hts (.fieldLink RX6 109 "SortingLineModel" "onBelt" "I") (by decide +kernel)
  have kf23 := hts (.fieldLink RX6 23 "SortingLineModel" "places" "[I") (by decide +kernel)
  intro d
  induction d with
  | zero =>
    intro y hi M R c9 hs9 H locs hP hS ls hl
    have hc99 : c9 ≤ 40 := by have h9 := spR_le r (Pl, Bf, b) hb9 y; rw [hs9] at h9; exact h9
    refine lv_iload_n hx hb dX6_spills_2 rfl (lv_at hl 0 rfl) ?_
    refine lv_aload_n hx hb dX6_spills_3 rfl (lv_at hl 1 rfl) ?_
    refine va_get (D := D) (ci := 6) (v := .ref (g 3)) (C := RX6) (T := TX6) (N := 23) hx hb hts hiX6 hown hK.1 hP 0 rfl rfl 4 (by decide) kf16 (fun _ h9 => h9) rfl dX6_spills_4 ?_
    refine lv_iload_n hx hb dX6_spills_7 rfl (lv_at hl 2 rfl) ?_
    refine ga_ild hx hb hK hP 3 rfl r (rfl) (by omega) (by decide) dX6_spills_8 ?_
    refine tp_i (y := nI z) (hz) ?_
    refine lv_icmp_ge (tgt := 60) hx hb dX6_spills_9 (by decide) (fun _ => ?_) (fun h9 => absurd (nI_le (by omega) (by omega)) h9)
    exact kk0 M R c9 (show spR r (Pl, Bf, b) z = (M, R, c9) from (show y = z by omega) ▸ hs9) H locs hP hS ls (lv_sub hl [1, 2] rfl)
  | succ d ih =>
    intro y hi M R c9 hs9 H locs hP hS ls hl
    have hc99 : c9 ≤ 40 := by have h9 := spR_le r (Pl, Bf, b) hb9 y; rw [hs9] at h9; exact h9
    refine lv_iload_n hx hb dX6_spills_2 rfl (lv_at hl 0 rfl) ?_
    refine lv_aload_n hx hb dX6_spills_3 rfl (lv_at hl 1 rfl) ?_
    refine va_get (D := D) (ci := 6) (v := .ref (g 3)) (C := RX6) (T := TX6) (N := 23) hx hb hts hiX6 hown hK.1 hP 0 rfl rfl 4 (by decide) kf16 (fun _ h9 => h9) rfl dX6_spills_4 ?_
    refine lv_iload_n hx hb dX6_spills_7 rfl (lv_at hl 2 rfl) ?_
    refine ga_ild hx hb hK hP 3 rfl r (rfl) (by omega) (by decide) dX6_spills_8 ?_
    refine tp_i (y := nI z) (hz) ?_
    refine lv_icmp_ge (tgt := 60) hx hb dX6_spills_9 (by decide) (fun h9 => absurd h9 (nI_ge (by omega) (by omega))) (fun _ => ?_)
    refine lv_aload_n hx hb dX6_spills_12 rfl (lv_at hl 1 rfl) ?_
    refine va_get (D := D) (ci := 6) (v := .int (nI c9)) (C := RX6) (T := TX6) (N := 23) hx hb hts hiX6 hown hK.1 hP 0 rfl rfl 11 (by decide) kf109 (fun _ h9 => h9) rfl dX6_spills_13 ?_
    refine lv_bipush (v := 40) hx hb dX6_spills_16 (by decide) ?_
    refine lv_icmp_ge (tgt := 60) hx hb dX6_spills_18 (by decide) (fun c18 => ?_) (fun c18 => ?_)
    · skip
      have c18 : 40 ≤ c9 := (nI_leI (a := 40) (b := c9) (by omega) (by omega)).mp c18
      exact kk0 M R c9 (show spR r (Pl, Bf, b) z = (M, R, c9) from (show y + (z - y) = z by omega) ▸ spR_full hs9 (by omega) (z - y)) H locs hP hS ls (lv_sub hl [1, 2] rfl)
    · skip
      have c18 : ¬ (40 ≤ c9) := fun h9 => c18 ((nI_leI (a := 40) (b := c9) (by omega) (by omega)).mpr h9)
      refine lv_aload_n hx hb dX6_spills_21 rfl (lv_at hl 1 rfl) ?_
      refine va_get (D := D) (ci := 6) (v := .ref (g 5)) (C := RX6) (T := TX6) (N := 23) hx hb hts hiX6 hown hK.1 hP 0 rfl rfl 6 (by decide) kf23 (fun _ h9 => h9) rfl dX6_spills_22 ?_
      refine lv_bipush (v := 8) hx hb dX6_spills_25 (by decide) ?_
      refine lv_iload_n hx hb dX6_spills_27 rfl (lv_at hl 2 rfl) ?_
      refine lv_imul hx hb dX6_spills_28 ?_
      refine tp_i (y := nI (8 * r)) (pk_mul 8 r) ?_
      refine lv_iload_n hx hb dX6_spills_29 rfl (lv_at hl 0 rfl) ?_
      refine lv_iadd hx hb dX6_spills_30 ?_
      refine tp_i (y := nI ((8 * r) + y)) (nI_add (8 * r) y) ?_
      refine ga_ild hx hb hK hP 5 rfl ((8 * r) + y) (rfl) (by omega) (by decide) dX6_spills_31 ?_
      refine lv_istore_n (lv' := [(3, .int (M ((8 * r) + y))), (2, .int (nI y)), (0, .ref (g 0)), (1, .int (nI r))]) hx hb dX6_spills_32 rfl hl (by decide) rfl (fun ls hl => ?_)
      refine lv_iload_n hx hb dX6_spills_33 rfl (lv_at hl 0 rfl) ?_
      refine lv_if_lt (tgt := 54) hx hb dX6_spills_34 (by decide) (fun c34 => ?_) (fun c34 => ?_)
      · skip
        have lem := spR_n hs9 c34
        refine lv_iinc (v := nI (y + 1)) (lv' := [(2, .int (nI (y + 1))), (3, .int (M ((8 * r) + y))), (0, .ref (g 0)), (1, .int (nI r))]) hx hb dX6_spills_54 hl (k := 1) rfl (nI_add y 1) (by decide) rfl (fun ls hl => ?_)
        refine lv_goto (tgt := 2) hx hb dX6_spills_57 (by decide) ?_
        exact ih (y + 1) (by omega) _ _ _ lem H locs hP hS ls (lv_sub hl [0, 2, 3] rfl)
      · skip
        have lem := spR_o hs9 c34 (by omega)
        refine lv_aload_n hx hb dX6_spills_37 rfl (lv_at hl 2 rfl) ?_
        refine lv_iload_n hx hb dX6_spills_38 rfl (lv_at hl 0 rfl) ?_
        refine mu_callv (va_runV (As := [.int (M ((8 * r) + y))]) (rest := []) ⟨hx, hb, hml, hown, hts⟩ (c_X6_comes hh (by omega) (M ((8 * r) + y))) (cwV 1 hts gX6_spills_X6_comes rfl rfl rfl (by decide +kernel) ⟨Nat.le_of_ble_eq_true rfl, Nat.le_of_ble_eq_true rfl⟩) (wd_preV (ci := 6) (q0 := 0) hP hK rfl rfl) rfl rfl hl.1 rfl (lv_room (Nat.le_of_ble_eq_true rfl)) dX6_spills_39 ⟨Nat.zero_le _, Nat.zero_le _⟩) hS (fun H locs hP hS => ?_)
        have hP : va_P D kC (mo_W cI cJ g fx (nI n) F Wt Sz Nu M (upd R c9 (M ((8 * r) + y))) (nI (c9 + 1)) (nI k) G Wk To Sl Sd (nI as) wo pa fa Fo) H := hP
        refine lv_aload_n hx hb dX6_spills_42 rfl (lv_at hl 2 rfl) ?_
        refine va_get (D := D) (ci := 6) (v := .ref (g 5)) (C := RX6) (T := TX6) (N := 23) hx hb hts hiX6 hown hK.1 hP 0 rfl rfl 6 (by decide) kf23 (fun _ h9 => h9) rfl dX6_spills_43 ?_
        refine lv_bipush (v := 8) hx hb dX6_spills_46 (by decide) ?_
        refine lv_iload_n hx hb dX6_spills_48 rfl (lv_at hl 3 rfl) ?_
        refine lv_imul hx hb dX6_spills_49 ?_
        refine tp_i (y := nI (8 * r)) (pk_mul 8 r) ?_
        refine lv_iload_n hx hb dX6_spills_50 rfl (lv_at hl 1 rfl) ?_
        refine lv_iadd hx hb dX6_spills_51 ?_
        refine tp_i (y := nI ((8 * r) + y)) (nI_add (8 * r) y) ?_
        refine lv_iconst (v := (-1)) hx hb dX6_spills_52 (by decide) ?_
        refine ga_ist hx hb hK hP (mo_D hh) hS 5 rfl ((8 * r) + y) (rfl) (by omega) (by decide) dX6_spills_53 (fun H locs hP hS => ?_)
        have hP : va_P D kC (mo_W cI cJ g fx (nI n) F Wt Sz Nu (upd M ((8 * r) + y) (-1)) (upd R c9 (M ((8 * r) + y))) (nI (c9 + 1)) (nI k) G Wk To Sl Sd (nI as) wo pa fa Fo) H := hP
        refine lv_iinc (v := nI (y + 1)) (lv' := [(2, .int (nI (y + 1))), (3, .int (M ((8 * r) + y))), (0, .ref (g 0)), (1, .int (nI r))]) hx hb dX6_spills_54 hl (k := 1) rfl (nI_add y 1) (by decide) rfl (fun ls hl => ?_)
        refine lv_goto (tgt := 2) hx hb dX6_spills_57 (by decide) ?_
        exact ih (y + 1) (by omega) _ _ _ lem H locs hP hS ls (lv_sub hl [0, 2, 3] rfl)
set_option maxHeartbeats 4000000 in
set_option maxRecDepth 100000 in
theorem c_X6_spills (hh : ad_ok g 16) (hn : n ≤ 100) (r : Nat) (hr9 : r < n) (hb9 : b ≤ 40) (z : Nat) (hz : Sz r = nI z) (hz8 : z ≤ 8) (M9 R9 : Nat → Int32) (b9 : Nat) (hs8 : spR r (Pl, Bf, b) z = (M9, R9, b9)) : Met l yX6_spills wsX6_spills ({ frames := 5, cells := 0, slots := 0, locals := 200 }) (wd_P D cI cJ [.ref (g 0), .int (nI r)] (mo_W cI cJ g fx (nI n) F Wt Sz Nu Pl Bf (nI b) (nI k) G Wk To Sl Sd (nI as) wo pa fa Fo)) (mu_Q D (ad_A g 16) (some (.int 0)) (mo_W cI cJ g fx (nI n) F Wt Sz Nu M9 R9 (nI b9) (nI k) G Wk To Sl Sd (nI as) wo pa fa Fo)) 0 0 (ad_A g 16) := by
  refine Met.ofW (cc := cX6_spills) (maxL := 4) (ret := (some .int)) (by decide) rfl ?_
  intro p e s m args below meth c s₁ B hml hv
  obtain ⟨rfl, hP, hK⟩ := hv
  have hx := B.exec
  have hb := B.bytes
  have hr := B.returns
  have hts := atoms_spec (ws := wsX6_spills) B.pre
  have hown : s.vm.findClass RX6 = some m.cls := findClass_of_methodNamed B.named
  have hlocks := B.notSynchronized
  have hS : va_S (ad_A g 16) s.heap s.heap [] := va_S.rf
  have hl := lv_entry ([.ref (g 0), .int (nI r)]) (n := 4) (Nat.le_of_ble_eq_true rfl)
  rw [lg_entry_eq]
  generalize (lg_sl ([.ref (g 0), .int (nI r)]) ++ List.replicate (4 - (lg_sl ([.ref (g 0), .int (nI r)])).length) Slot.unset).toArray = ls at hl ⊢
  have hl : lv_has ls 4 [(0, .ref (g 0)), (1, .int (nI r))] := hl
  refine lv_iconst (v := 0) hx hb dX6_spills_0 (by decide) ?_
  refine lv_istore_n (lv' := [(2, .int 0), (0, .ref (g 0)), (1, .int (nI r))]) hx hb dX6_spills_1 rfl hl (by decide) rfl (fun ls hl => ?_)
  refine lp_X6_spill hx hb hml hown hts hK hh hn r hr9 hb9 z hz hz8 (fun M R c9 hs9 H locs hP hS ls hl => ?_) z 0 (by omega) _ _ _ rfl _ _ hP hS ls (lv_sub hl [0, 1, 2] rfl)
  refine lv_iconst (v := 0) hx hb dX6_spills_60 (by decide) ?_
  exact W.iret (v := 0) hx hb hr (fun t9 ht _ => ⟨congrArg (fun z => Outcome.returned (some (Value.int z))) (rfl), by rw [ht]; exact va_P_cast hP (by obtain ⟨rfl, rfl, rfl⟩ : M = M9 ∧ R = R9 ∧ c9 = b9 := (by have h9 := hs9.symm.trans hs8; simpa using h9); rfl), hS.F ht⟩) hS.2.2 dX6_spills_61
end MoB
