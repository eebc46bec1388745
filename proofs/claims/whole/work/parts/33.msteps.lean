theorem i_lt2 {a b : Int32} (h : ¬ a ≤ b) : b < a := by rw [Int32.lt_iff_toInt_lt]; rw [Int32.le_iff_toInt_le] at h; omega
theorem i_nlt2 {a b : Int32} (h : a ≤ b) : ¬ b < a := by rw [Int32.lt_iff_toInt_lt]; rw [Int32.le_iff_toInt_le] at h; omega
/-! the reference's steps, step, run -/
def isM (cI cJ : ClassId) (g : Nat → Nat) (b : Nat) (w : va_W) : Prop := ∃ (fx : Int32) (n k as : Nat) (F Wt Sz : Nat → Int32) (Nu : Nat → Int64) (Pl Bf G Wk : Nat → Int32) (To : Nat → Int64) (Sl Sd Fo : Nat → Int32) (wo pa fa : Int32), w = mo_W cI cJ g fx (nI n) F Wt Sz Nu Pl Bf (nI b) (nI k) G Wk To Sl Sd (nI as) wo pa fa Fo
def runM (l : Launch) (D : va_G) (cI cJ : ClassId) (g : Nat → Nat) : Nat → va_W → Int32 → va_W → Prop
  | 0, w, a, w' => a = 0 ∧ w' = w ∧ ∃ b, b ≤ 40 ∧ isM cI cJ g b w
  | d + 1, w, a, w' => (isM cI cJ g 0 w ∧ a = 0 ∧ w' = w) ∨ ∃ (b : Nat) (r : Int32) (w1 : va_W) (v a1 : Int32), b < 40 ∧ isM cI cJ g (b + 1) w ∧ Met l yX6_steps wsX6_steps ({ frames := 8, cells := 0, slots := 0, locals := 350 }) (wd_P D cI cJ [.ref (g 0)] w) (mu_Q D (ad_A g 16) (some (.int r)) w1) 0 0 (ad_A g 16) ∧ ((r ≤ -20 ∧ v = 1000) ∨ (¬ r ≤ -20 ∧ v = 1)) ∧ runM l D cI cJ g d w1 a1 w' ∧ a = v + a1
section MoD
variable {l : Launch} {D : va_G} {cI cJ : ClassId} {g : Nat → Nat} {n k b as : Nat} {fx : Int32} {F Wt Sz : Nat → Int32} {Nu : Nat → Int64} {Pl Bf G Wk : Nat → Int32} {To : Nat → Int64} {Sl Sd Fo : Nat → Int32} {wo pa fa : Int32}
set_option maxHeartbeats 4000000 in
set_option maxRecDepth 100000 in
theorem lp_X6_shift {p : Program} {e : Env} {s : State} {m : MethodId} {args : Array Value} {below : List Frame} {meth : Method} {c : Code} {Q : State → Prop} {H0 : Heap} (hx : p.tables.exec = Jvm.exec) (hb : c.code = cX6_steps) (hml : c.maxLocals = 4) (hown : s.vm.findClass RX6 = some m.cls) (hts : ∀ w ∈ wsX6_steps, w.before args s = true) (hK : wd_K D cI cJ s) (hh : ad_ok g 16) (hb9 : b < 40) (r : Nat) (kk0 : ∀ (_ : Nat), True → ∀ (H : Heap) (locs : List Loc), va_P D kC (mo_W cI cJ g fx (nI n) F Wt Sz Nu Pl (shB Bf b) (nI b) (nI k) G Wk To Sl Sd (nI as) wo pa fa Fo) H → va_S (ad_A g 16) H0 H locs → ∀ (ls : Array Slot), lv_has ls 4 [(2, .int (nI b)), (1, .int (nI r)), (0, .ref (g 0))] → W p l e (headSpec wsX6_steps { frames := 8, cells := 0, slots := 0, locals := 350 }).room s m args below meth c H locs 0 0 Q (F0 m 19 ls [])) : ∀ (d : Nat) (y : Nat), y + d = b → ∀ (H : Heap) (locs : List Loc), va_P D kC (mo_W cI cJ g fx (nI n) F Wt Sz Nu Pl (shB Bf y) (nI b) (nI k) G Wk To Sl Sd (nI as) wo pa fa Fo) H → va_S (ad_A g 16) H0 H locs → ∀ (ls : Array Slot), lv_has ls 4 [(2, .int (nI y)), (1, .int (nI r)), (0, .ref (g 0))] → W p l e (headSpec wsX6_steps { frames := 8, cells := 0, slots := 0, locals := 350 }).room s m args below meth c H locs 0 0 Q (F0 m 19 ls []) := by
  have hiX6 : ∀ w ∈ u_ws RX6 TX6 23, w ∈ wsX6_steps := by decide +kernel
  have kf109 := hts (.fieldLink RX6 109 "SortingLineModel" "onBelt" "I") (by decide +kernel)
  have kf38 := hts (.fieldLink RX6 38 "SortingLineModel" "belt" "[I") (by decide +kernel)
  intro d
  induction d with
  | zero =>
    intro y hi H locs hP hS ls hl
    obtain rfl : y = b := by omega
    exact kk0 0 trivial H locs hP hS ls hl
  | succ d ih =>
    intro y hi H locs hP hS ls hl
    refine lv_iload_n hx hb dX6_steps_19 rfl (lv_at hl 0 rfl) ?_
    refine lv_aload_n hx hb dX6_steps_20 rfl (lv_at hl 2 rfl) ?_
    refine va_get (D := D) (ci := 6) (v := .int (nI b)) (C := RX6) (T := TX6) (N := 23) hx hb hts hiX6 hown hK.1 hP 0 rfl rfl 11 (by decide) kf109 (fun _ h9 => h9) rfl dX6_steps_21 ?_
    refine lv_icmp_ge (tgt := 47) hx hb dX6_steps_24 (by decide) (fun h9 => absurd h9 (nI_ge (by omega) (by omega))) (fun _ => ?_)
    refine lv_aload_n hx hb dX6_steps_27 rfl (lv_at hl 2 rfl) ?_
    refine va_get (D := D) (ci := 6) (v := .ref (g 9)) (C := RX6) (T := TX6) (N := 23) hx hb hts hiX6 hown hK.1 hP 0 rfl rfl 10 (by decide) kf38 (fun _ h9 => h9) rfl dX6_steps_28 ?_
    refine lv_iload_n hx hb dX6_steps_31 rfl (lv_at hl 0 rfl) ?_
    refine lv_aload_n hx hb dX6_steps_32 rfl (lv_at hl 2 rfl) ?_
    refine va_get (D := D) (ci := 6) (v := .ref (g 9)) (C := RX6) (T := TX6) (N := 23) hx hb hts hiX6 hown hK.1 hP 0 rfl rfl 10 (by decide) kf38 (fun _ h9 => h9) rfl dX6_steps_33 ?_
    refine lv_iload_n hx hb dX6_steps_36 rfl (lv_at hl 0 rfl) ?_
    refine lv_iconst (v := 1) hx hb dX6_steps_37 (by decide) ?_
    refine lv_iadd hx hb dX6_steps_38 ?_
    refine tp_i (y := nI (y + 1)) (nI_add y 1) ?_
    refine ga_ild hx hb hK hP 9 rfl (y + 1) (rfl) (by omega) (by decide) dX6_steps_39 ?_
    refine ga_ist hx hb hK hP (mo_D hh) hS 9 rfl y (rfl) (by omega) (by decide) dX6_steps_40 (fun H locs hP hS => ?_)
    have hP : va_P D kC (mo_W cI cJ g fx (nI n) F Wt Sz Nu Pl (upd (shB Bf y) y ((shB Bf y) (y + 1))) (nI b) (nI k) G Wk To Sl Sd (nI as) wo pa fa Fo) H := hP
    rw [shB_s] at hP
    refine lv_iinc (v := nI (y + 1)) (lv' := [(2, .int (nI (y + 1))), (1, .int (nI r)), (0, .ref (g 0))]) hx hb dX6_steps_41 hl (k := 0) rfl (nI_add y 1) (by decide) rfl (fun ls hl => ?_)
    refine lv_goto (tgt := 19) hx hb dX6_steps_44 (by decide) ?_
    exact ih (y + 1) (by omega) H locs hP hS ls (lv_sub hl [0, 1, 2] rfl)
set_option maxHeartbeats 4000000 in
set_option maxRecDepth 100000 in
theorem lp_X6_seek {p : Program} {e : Env} {s : State} {m : MethodId} {args : Array Value} {below : List Frame} {meth : Method} {c : Code} {Q : State → Prop} {H : Heap} {locs : List Loc} (hx : p.tables.exec = Jvm.exec) (hb : c.code = cX6_steps) (hml : c.maxLocals = 4) (hown : s.vm.findClass RX6 = some m.cls) (hts : ∀ w ∈ wsX6_steps, w.before args s = true) (hK : wd_K D cI cJ s) (hP : va_P D kC (mo_W cI cJ g fx (nI n) F Wt Sz Nu Pl (shB Bf b) (nI b) (nI k) G Wk To Sl Sd (nI as) wo pa fa Fo) H) (hh : ad_ok g 16) (hn : n ≤ 100) (hk : k ≤ 8) (r : Nat) (hr9 : r < n) (a : Nat) (ha : a < 16) (hFa : F r = nI a) (hG : ∀ j, j < k → ∃ c9, c9 < 18 ∧ G j = nI c9) (q : Nat) (hq : q ≤ k) (hv : ∀ j, j < q → ko (F r) (G j) = false) (kk0 : ∀ (_ : Nat), True → ∀ (ls : Array Slot), lv_has ls 4 [(2, .int (nI q)), (1, .int (nI r)), (0, .ref (g 0))] → W p l e (headSpec wsX6_steps { frames := 8, cells := 0, slots := 0, locals := 350 }).room s m args below meth c H locs 0 0 Q (F0 m 49 ls [])) : ∀ (d : Nat) (y : Nat), y + d = q → ∀ (ls : Array Slot), lv_has ls 4 [(2, .int (nI y)), (1, .int (nI r)), (0, .ref (g 0))] → W p l e (headSpec wsX6_steps { frames := 8, cells := 0, slots := 0, locals := 350 }).room s m args below meth c H locs 0 0 Q (F0 m 49 ls []) := by
  have hiX6 : ∀ w ∈ u_ws RX6 TX6 23, w ∈ wsX6_steps := by decide +kernel
  have kf106 := hts (.fieldLink RX6 106 "SortingLineModel" "stations" "I") (by decide +kernel)
  have kf41 := hts (.fieldLink RX6 41 "SortingLineModel" "gates" "[I") (by decide +kernel)
  intro d
  induction d with
  | zero =>
    intro y hi ls hl
    obtain rfl : y = q := by omega
    exact kk0 0 trivial ls hl
  | succ d ih =>
    intro y hi ls hl
    obtain ⟨c9, hc, hG9⟩ := hG y (by omega)
    refine lv_iload_n hx hb dX6_steps_49 rfl (lv_at hl 0 rfl) ?_
    refine lv_aload_n hx hb dX6_steps_50 rfl (lv_at hl 2 rfl) ?_
    refine va_get (D := D) (ci := 6) (v := .int (nI k)) (C := RX6) (T := TX6) (N := 23) hx hb hts hiX6 hown hK.1 hP 0 rfl rfl 12 (by decide) kf106 (fun _ h9 => h9) rfl dX6_steps_51 ?_
    refine lv_icmp_ge (tgt := 77) hx hb dX6_steps_54 (by decide) (fun h9 => absurd h9 (nI_ge (by omega) (by omega))) (fun _ => ?_)
    refine lv_aload_n hx hb dX6_steps_57 rfl (lv_at hl 2 rfl) ?_
    refine lv_iload_n hx hb dX6_steps_58 rfl (lv_at hl 1 rfl) ?_
    refine lv_aload_n hx hb dX6_steps_59 rfl (lv_at hl 2 rfl) ?_
    refine va_get (D := D) (ci := 6) (v := .ref (g 10)) (C := RX6) (T := TX6) (N := 23) hx hb hts hiX6 hown hK.1 hP 0 rfl rfl 13 (by decide) kf41 (fun _ h9 => h9) rfl dX6_steps_60 ?_
    refine lv_iload_n hx hb dX6_steps_63 rfl (lv_at hl 0 rfl) ?_
    refine ga_ild hx hb hK hP 10 rfl y (rfl) (by omega) (by decide) dX6_steps_64 ?_
    refine tp_i (y := nI c9) (hG9) ?_
    refine pu_callb (va_runV (As := [.int (nI r), .int (nI c9)]) (rest := []) ⟨hx, hb, hml, hown, hts⟩ (c_X6_isOf hh hn r (by omega) a ha hFa c9 (by omega)) (cwV 2 hts gX6_steps_X6_isOf rfl rfl rfl (by decide +kernel) ⟨Nat.le_of_ble_eq_true rfl, Nat.le_of_ble_eq_true rfl⟩) (wd_preV (ci := 6) (q0 := 0) hP hK rfl rfl) rfl rfl hl.1 rfl (lv_room (Nat.le_of_ble_eq_true rfl)) dX6_steps_65 ⟨Nat.zero_le _, Nat.zero_le _⟩) (fun h9 => absurd (hG9 ▸ hv y (by omega)) (by rw [h9]; decide)) (fun _ => ?_)
    refine lv_if_ne (tgt := 77) hx hb dX6_steps_68 (by decide) (fun h9 => absurd (by decide) h9) (fun _ => ?_)
    refine lv_iinc (v := nI (y + 1)) (lv' := [(2, .int (nI (y + 1))), (1, .int (nI r)), (0, .ref (g 0))]) hx hb dX6_steps_71 hl (k := 0) rfl (nI_add y 1) (by decide) rfl (fun ls hl => ?_)
    refine lv_goto (tgt := 49) hx hb dX6_steps_74 (by decide) ?_
    exact ih (y + 1) (by omega) ls (lv_sub hl [0, 1, 2] rfl)
set_option maxHeartbeats 4000000 in
set_option maxRecDepth 100000 in
theorem c_X6_steps_p (hh : ad_ok g 16) (hb9 : b < 40) (hn : n ≤ 100) (hk : k ≤ 8) (r : Nat) (hr9 : r < n) (a : Nat) (ha : a < 16) (hFa : F r = nI a) (hG : ∀ j, j < k → ∃ c9, c9 < 18 ∧ G j = nI c9) (q : Nat) (hq : q ≤ k) (hv : ∀ j, j < q → ko (F r) (G j) = false) (hrf : Bf 0 = nI r) (hqk : q = k) : Met l yX6_steps wsX6_steps ({ frames := 8, cells := 0, slots := 0, locals := 350 }) (wd_P D cI cJ [.ref (g 0)] (mo_W cI cJ g fx (nI n) F Wt Sz Nu Pl Bf (nI (b + 1)) (nI k) G Wk To Sl Sd (nI as) wo pa fa Fo)) (mu_Q D (ad_A g 16) (some (.int (-6))) (mo_W cI cJ g fx (nI n) F Wt Sz Nu Pl (shB Bf b) (nI b) (nI k) G Wk To Sl Sd (nI as) wo (pa + 1) fa Fo)) 0 0 (ad_A g 16) := by
  refine Met.ofW (cc := cX6_steps) (maxL := 4) (ret := (some .int)) (by decide) rfl ?_
  intro p e s m args below meth c s₁ B hml hv
  obtain ⟨rfl, hP, hK⟩ := hv
  have hx := B.exec
  have hb := B.bytes
  have hr := B.returns
  have hts := atoms_spec (ws := wsX6_steps) B.pre
  have hown : s.vm.findClass RX6 = some m.cls := findClass_of_methodNamed B.named
  have hlocks := B.notSynchronized
  have hiX6 : ∀ w ∈ u_ws RX6 TX6 23, w ∈ wsX6_steps := by decide +kernel
  have kf38 := hts (.fieldLink RX6 38 "SortingLineModel" "belt" "[I") (by decide +kernel)
  have kf109 := hts (.fieldLink RX6 109 "SortingLineModel" "onBelt" "I") (by decide +kernel)
  have kf106 := hts (.fieldLink RX6 106 "SortingLineModel" "stations" "I") (by decide +kernel)
  have kf142 := hts (.fieldLink RX6 142 "SortingLineModel" "passed" "I") (by decide +kernel)
  have hS : va_S (ad_A g 16) s.heap s.heap [] := va_S.rf
  have hl := lv_entry ([.ref (g 0)]) (n := 4) (Nat.le_of_ble_eq_true rfl)
  rw [lg_entry_eq]
  generalize (lg_sl ([.ref (g 0)]) ++ List.replicate (4 - (lg_sl ([.ref (g 0)])).length) Slot.unset).toArray = ls at hl ⊢
  have hl : lv_has ls 4 [(0, .ref (g 0))] := hl
  refine lv_aload_n hx hb dX6_steps_0 rfl (lv_at hl 0 rfl) ?_
  refine va_get (D := D) (ci := 6) (v := .ref (g 9)) (C := RX6) (T := TX6) (N := 23) hx hb hts hiX6 hown hK.1 hP 0 rfl rfl 10 (by decide) kf38 (fun _ h9 => h9) rfl dX6_steps_1 ?_
  refine lv_iconst (v := 0) hx hb dX6_steps_4 (by decide) ?_
  refine ga_ild hx hb hK hP 9 rfl 0 (by decide) (by omega) (by decide) dX6_steps_5 ?_
  refine tp_i (y := nI r) (hrf) ?_
  refine lv_istore_n (lv' := [(1, .int (nI r)), (0, .ref (g 0))]) hx hb dX6_steps_6 rfl hl (by decide) rfl (fun ls hl => ?_)
  refine lv_aload_n hx hb dX6_steps_7 rfl (lv_at hl 1 rfl) ?_
  refine lv_dup hx hb dX6_steps_8 rfl ?_
  refine va_get (D := D) (ci := 6) (v := .int (nI (b + 1))) (C := RX6) (T := TX6) (N := 23) hx hb hts hiX6 hown hK.1 hP 0 rfl rfl 11 (by decide) kf109 (fun _ h9 => h9) rfl dX6_steps_9 ?_
  refine lv_iconst (v := 1) hx hb dX6_steps_12 (by decide) ?_
  refine lv_isub hx hb dX6_steps_13 ?_
  refine tp_i (y := nI b) (nI_pred b) ?_
  refine va_put (D := D) (ci := 6) (v := .int (nI b)) (ty := .int) (C := RX6) (T := TX6) (N := 23) hx hb hts hiX6 tyX6 tyX6_ok nmX6 hown hK.1 hP (mo_D hh) hS 0 rfl rfl 11 (by decide) kf109 (fun _ h9 => h9) rfl (by decide +kernel) rfl rfl (Nat.le_of_ble_eq_true rfl) dX6_steps_14 (fun H locs hP _ hS => ?_)
  have hP : va_P D kC (mo_W cI cJ g fx (nI n) F Wt Sz Nu Pl Bf (nI b) (nI k) G Wk To Sl Sd (nI as) wo pa fa Fo) H := hP
  refine lv_iconst (v := 0) hx hb dX6_steps_17 (by decide) ?_
  refine lv_istore_n (lv' := [(2, .int 0), (1, .int (nI r)), (0, .ref (g 0))]) hx hb dX6_steps_18 rfl hl (by decide) rfl (fun ls hl => ?_)
  have hP : va_P D kC (mo_W cI cJ g fx (nI n) F Wt Sz Nu Pl (shB Bf 0) (nI b) (nI k) G Wk To Sl Sd (nI as) wo pa fa Fo) _ := va_P_cast hP (by rw [shB_0])
  refine lp_X6_shift hx hb hml hown hts hK hh hb9 r (fun _ _ H locs hP hS ls hl => ?_) b 0 (by omega) _ _ hP hS ls (lv_sub hl [0, 1, 2] rfl)
  refine lv_iload_n hx hb dX6_steps_19 rfl (lv_at hl 0 rfl) ?_
  refine lv_aload_n hx hb dX6_steps_20 rfl (lv_at hl 2 rfl) ?_
  refine va_get (D := D) (ci := 6) (v := .int (nI b)) (C := RX6) (T := TX6) (N := 23) hx hb hts hiX6 hown hK.1 hP 0 rfl rfl 11 (by decide) kf109 (fun _ h9 => h9) rfl dX6_steps_21 ?_
  refine lv_icmp_ge (tgt := 47) hx hb dX6_steps_24 (by decide) (fun _ => ?_) (fun h9 => absurd (nI_le (Nat.le_refl _) (by omega)) h9)
  refine lv_iconst (v := 0) hx hb dX6_steps_47 (by decide) ?_
  refine lv_istore_n (lv' := [(2, .int 0), (1, .int (nI r)), (0, .ref (g 0))]) hx hb dX6_steps_48 rfl hl (by decide) rfl (fun ls hl => ?_)
  refine lp_X6_seek hx hb hml hown hts hK hP hh hn hk r hr9 a ha hFa hG q hq hv (fun _ _ ls hl => ?_) q 0 (by omega) ls (lv_sub hl [0, 1, 2] rfl)
  refine lv_iload_n hx hb dX6_steps_49 rfl (lv_at hl 0 rfl) ?_
  refine lv_aload_n hx hb dX6_steps_50 rfl (lv_at hl 2 rfl) ?_
  refine va_get (D := D) (ci := 6) (v := .int (nI k)) (C := RX6) (T := TX6) (N := 23) hx hb hts hiX6 hown hK.1 hP 0 rfl rfl 12 (by decide) kf106 (fun _ h9 => h9) rfl dX6_steps_51 ?_
  refine lv_icmp_ge (tgt := 77) hx hb dX6_steps_54 (by decide) (fun _ => ?_) (fun h9 => absurd (nI_le (by omega) (by omega)) h9)
  refine lv_iload_n hx hb dX6_steps_77 rfl (lv_at hl 0 rfl) ?_
  refine lv_aload_n hx hb dX6_steps_78 rfl (lv_at hl 2 rfl) ?_
  refine va_get (D := D) (ci := 6) (v := .int (nI k)) (C := RX6) (T := TX6) (N := 23) hx hb hts hiX6 hown hK.1 hP 0 rfl rfl 12 (by decide) kf106 (fun _ h9 => h9) rfl dX6_steps_79 ?_
  refine lv_icmp_ne (tgt := 98) hx hb dX6_steps_82 (by decide) (fun h9 => absurd (by rw [hqk]) h9) (fun _ => ?_)
  refine lv_aload_n hx hb dX6_steps_85 rfl (lv_at hl 2 rfl) ?_
  refine lv_dup hx hb dX6_steps_86 rfl ?_
  refine va_get (D := D) (ci := 6) (v := .int pa) (C := RX6) (T := TX6) (N := 23) hx hb hts hiX6 hown hK.1 hP 0 rfl rfl 20 (by decide) kf142 (fun _ h9 => h9) rfl dX6_steps_87 ?_
  refine lv_iconst (v := 1) hx hb dX6_steps_90 (by decide) ?_
  refine lv_iadd hx hb dX6_steps_91 ?_
  refine va_put (D := D) (ci := 6) (v := .int (pa + 1)) (ty := .int) (C := RX6) (T := TX6) (N := 23) hx hb hts hiX6 tyX6 tyX6_ok nmX6 hown hK.1 hP (mo_D hh) hS 0 rfl rfl 20 (by decide) kf142 (fun _ h9 => h9) rfl (by decide +kernel) rfl rfl (Nat.le_of_ble_eq_true rfl) dX6_steps_92 (fun H locs hP _ hS => ?_)
  have hP : va_P D kC (mo_W cI cJ g fx (nI n) F Wt Sz Nu Pl (shB Bf b) (nI b) (nI k) G Wk To Sl Sd (nI as) wo (pa + 1) fa Fo) H := hP
  refine lv_bipush (v := (-6)) hx hb dX6_steps_95 (by decide) ?_
  exact W.iret (v := (-6)) hx hb hr (fun t9 ht _ => ⟨congrArg (fun z => Outcome.returned (some (Value.int z))) (rfl), by rw [ht]; exact hP, hS.F ht⟩) hS.2.2 dX6_steps_97
set_option maxHeartbeats 4000000 in
set_option maxRecDepth 100000 in
theorem c_X6_steps_w (hh : ad_ok g 16) (hb9 : b < 40) (hn : n ≤ 100) (hk : k ≤ 8) (r : Nat) (hr9 : r < n) (a : Nat) (ha : a < 16) (hFa : F r = nI a) (hG : ∀ j, j < k → ∃ c9, c9 < 18 ∧ G j = nI c9) (q : Nat) (hq : q ≤ k) (hv : ∀ j, j < q → ko (F r) (G j) = false) (hrf : Bf 0 = nI r) (hqk : q < k) (c8 : Nat) (hc8 : c8 < 18) (hG8 : G q = nI c8) (hko : ko (F r) (G q) = true) (x : Nat) (hx0 : x = 0) (T2 : Nat → Int64) (S2 P2 B2 : Nat → Int32) (b2 : Nat) (hWO : Met l yX6_works wsX6_works ({ frames := 7, cells := 0, slots := 0, locals := 300 }) (wd_P D cI cJ [.ref (g 0), .int (nI q), .int (nI r)] (mo_W cI cJ g fx (nI n) F Wt Sz Nu Pl (shB Bf b) (nI b) (nI k) G Wk To Sl Sd (nI as) wo pa fa Fo)) (mu_Q D (ad_A g 16) (some (.int (nI x))) (mo_W cI cJ g fx (nI n) F Wt Sz Nu P2 B2 (nI b2) (nI k) G Wk T2 S2 Sd (nI as) wo pa fa Fo)) 0 0 (ad_A g 16)) : Met l yX6_steps wsX6_steps ({ frames := 8, cells := 0, slots := 0, locals := 350 }) (wd_P D cI cJ [.ref (g 0)] (mo_W cI cJ g fx (nI n) F Wt Sz Nu Pl Bf (nI (b + 1)) (nI k) G Wk To Sl Sd (nI as) wo pa fa Fo)) (mu_Q D (ad_A g 16) (some (.int (nI q))) (mo_W cI cJ g fx (nI n) F Wt Sz Nu P2 B2 (nI b2) (nI k) G Wk T2 S2 Sd (nI as) (wo + 1) pa fa Fo)) 0 0 (ad_A g 16) := by
  refine Met.ofW (cc := cX6_steps) (maxL := 4) (ret := (some .int)) (by decide) rfl ?_
  intro p e s m args below meth c s₁ B hml hv
  obtain ⟨rfl, hP, hK⟩ := hv
  have hx := B.exec
  have hb := B.bytes
  have hr := B.returns
  have hts := atoms_spec (ws := wsX6_steps) B.pre
  have hown : s.vm.findClass RX6 = some m.cls := findClass_of_methodNamed B.named
  have hlocks := B.notSynchronized
  have hiX6 : ∀ w ∈ u_ws RX6 TX6 23, w ∈ wsX6_steps := by decide +kernel
  have kf38 := hts (.fieldLink RX6 38 "SortingLineModel" "belt" "[I") (by decide +kernel)
  have kf109 := hts (.fieldLink RX6 109 "SortingLineModel" "onBelt" "I") (by decide +kernel)
  have kf106 := hts (.fieldLink RX6 106 "SortingLineModel" "stations" "I") (by decide +kernel)
  have kf41 := hts (.fieldLink RX6 41 "SortingLineModel" "gates" "[I") (by decide +kernel)
  have kf147 := hts (.fieldLink RX6 147 "SortingLineModel" "worked" "I") (by decide +kernel)
  have hS : va_S (ad_A g 16) s.heap s.heap [] := va_S.rf
  have hl := lv_entry ([.ref (g 0)]) (n := 4) (Nat.le_of_ble_eq_true rfl)
  rw [lg_entry_eq]
  generalize (lg_sl ([.ref (g 0)]) ++ List.replicate (4 - (lg_sl ([.ref (g 0)])).length) Slot.unset).toArray = ls at hl ⊢
  have hl : lv_has ls 4 [(0, .ref (g 0))] := hl
  refine lv_aload_n hx hb dX6_steps_0 rfl (lv_at hl 0 rfl) ?_
  refine va_get (D := D) (ci := 6) (v := .ref (g 9)) (C := RX6) (T := TX6) (N := 23) hx hb hts hiX6 hown hK.1 hP 0 rfl rfl 10 (by decide) kf38 (fun _ h9 => h9) rfl dX6_steps_1 ?_
  refine lv_iconst (v := 0) hx hb dX6_steps_4 (by decide) ?_
  refine ga_ild hx hb hK hP 9 rfl 0 (by decide) (by omega) (by decide) dX6_steps_5 ?_
  refine tp_i (y := nI r) (hrf) ?_
  refine lv_istore_n (lv' := [(1, .int (nI r)), (0, .ref (g 0))]) hx hb dX6_steps_6 rfl hl (by decide) rfl (fun ls hl => ?_)
  refine lv_aload_n hx hb dX6_steps_7 rfl (lv_at hl 1 rfl) ?_
  refine lv_dup hx hb dX6_steps_8 rfl ?_
  refine va_get (D := D) (ci := 6) (v := .int (nI (b + 1))) (C := RX6) (T := TX6) (N := 23) hx hb hts hiX6 hown hK.1 hP 0 rfl rfl 11 (by decide) kf109 (fun _ h9 => h9) rfl dX6_steps_9 ?_
  refine lv_iconst (v := 1) hx hb dX6_steps_12 (by decide) ?_
  refine lv_isub hx hb dX6_steps_13 ?_
  refine tp_i (y := nI b) (nI_pred b) ?_
  refine va_put (D := D) (ci := 6) (v := .int (nI b)) (ty := .int) (C := RX6) (T := TX6) (N := 23) hx hb hts hiX6 tyX6 tyX6_ok nmX6 hown hK.1 hP (mo_D hh) hS 0 rfl rfl 11 (by decide) kf109 (fun _ h9 => h9) rfl (by decide +kernel) rfl rfl (Nat.le_of_ble_eq_true rfl) dX6_steps_14 (fun H locs hP _ hS => ?_)
  have hP : va_P D kC (mo_W cI cJ g fx (nI n) F Wt Sz Nu Pl Bf (nI b) (nI k) G Wk To Sl Sd (nI as) wo pa fa Fo) H := hP
  refine lv_iconst (v := 0) hx hb dX6_steps_17 (by decide) ?_
  refine lv_istore_n (lv' := [(2, .int 0), (1, .int (nI r)), (0, .ref (g 0))]) hx hb dX6_steps_18 rfl hl (by decide) rfl (fun ls hl => ?_)
  have hP : va_P D kC (mo_W cI cJ g fx (nI n) F Wt Sz Nu Pl (shB Bf 0) (nI b) (nI k) G Wk To Sl Sd (nI as) wo pa fa Fo) _ := va_P_cast hP (by rw [shB_0])
  refine lp_X6_shift hx hb hml hown hts hK hh hb9 r (fun _ _ H locs hP hS ls hl => ?_) b 0 (by omega) _ _ hP hS ls (lv_sub hl [0, 1, 2] rfl)
  refine lv_iload_n hx hb dX6_steps_19 rfl (lv_at hl 0 rfl) ?_
  refine lv_aload_n hx hb dX6_steps_20 rfl (lv_at hl 2 rfl) ?_
  refine va_get (D := D) (ci := 6) (v := .int (nI b)) (C := RX6) (T := TX6) (N := 23) hx hb hts hiX6 hown hK.1 hP 0 rfl rfl 11 (by decide) kf109 (fun _ h9 => h9) rfl dX6_steps_21 ?_
  refine lv_icmp_ge (tgt := 47) hx hb dX6_steps_24 (by decide) (fun _ => ?_) (fun h9 => absurd (nI_le (Nat.le_refl _) (by omega)) h9)
  refine lv_iconst (v := 0) hx hb dX6_steps_47 (by decide) ?_
  refine lv_istore_n (lv' := [(2, .int 0), (1, .int (nI r)), (0, .ref (g 0))]) hx hb dX6_steps_48 rfl hl (by decide) rfl (fun ls hl => ?_)
  refine lp_X6_seek hx hb hml hown hts hK hP hh hn hk r hr9 a ha hFa hG q hq hv (fun _ _ ls hl => ?_) q 0 (by omega) ls (lv_sub hl [0, 1, 2] rfl)
  refine lv_iload_n hx hb dX6_steps_49 rfl (lv_at hl 0 rfl) ?_
  refine lv_aload_n hx hb dX6_steps_50 rfl (lv_at hl 2 rfl) ?_
  refine va_get (D := D) (ci := 6) (v := .int (nI k)) (C := RX6) (T := TX6) (N := 23) hx hb hts hiX6 hown hK.1 hP 0 rfl rfl 12 (by decide) kf106 (fun _ h9 => h9) rfl dX6_steps_51 ?_
  refine lv_icmp_ge (tgt := 77) hx hb dX6_steps_54 (by decide) (fun h9 => absurd h9 (nI_ge (by omega) (by omega))) (fun _ => ?_)
  refine lv_aload_n hx hb dX6_steps_57 rfl (lv_at hl 2 rfl) ?_
  refine lv_iload_n hx hb dX6_steps_58 rfl (lv_at hl 1 rfl) ?_
  refine lv_aload_n hx hb dX6_steps_59 rfl (lv_at hl 2 rfl) ?_
  refine va_get (D := D) (ci := 6) (v := .ref (g 10)) (C := RX6) (T := TX6) (N := 23) hx hb hts hiX6 hown hK.1 hP 0 rfl rfl 13 (by decide) kf41 (fun _ h9 => h9) rfl dX6_steps_60 ?_
  refine lv_iload_n hx hb dX6_steps_63 rfl (lv_at hl 0 rfl) ?_
  refine ga_ild hx hb hK hP 10 rfl q (rfl) (by omega) (by decide) dX6_steps_64 ?_
  refine tp_i (y := nI c8) (hG8) ?_
  refine pu_callb (va_runV (As := [.int (nI r), .int (nI c8)]) (rest := []) ⟨hx, hb, hml, hown, hts⟩ (c_X6_isOf hh hn r (by omega) a ha hFa c8 (by omega)) (cwV 2 hts gX6_steps_X6_isOf rfl rfl rfl (by decide +kernel) ⟨Nat.le_of_ble_eq_true rfl, Nat.le_of_ble_eq_true rfl⟩) (wd_preV (ci := 6) (q0 := 0) hP hK rfl rfl) rfl rfl hl.1 rfl (lv_room (Nat.le_of_ble_eq_true rfl)) dX6_steps_65 ⟨Nat.zero_le _, Nat.zero_le _⟩) (fun _ => ?_) (fun h9 => absurd (hG8 ▸ hko) (by rw [h9]; decide))
  refine lv_if_ne (tgt := 77) hx hb dX6_steps_68 (by decide) (fun _ => ?_) (fun h9 => absurd h9 (by decide))
  refine lv_iload_n hx hb dX6_steps_77 rfl (lv_at hl 0 rfl) ?_
  refine lv_aload_n hx hb dX6_steps_78 rfl (lv_at hl 2 rfl) ?_
  refine va_get (D := D) (ci := 6) (v := .int (nI k)) (C := RX6) (T := TX6) (N := 23) hx hb hts hiX6 hown hK.1 hP 0 rfl rfl 12 (by decide) kf106 (fun _ h9 => h9) rfl dX6_steps_79 ?_
  refine lv_icmp_ne (tgt := 98) hx hb dX6_steps_82 (by decide) (fun _ => ?_) (fun h9 => absurd h9 (fun h9 => absurd ((nI_eq (by omega) (by omega)).mp h9) (by omega)))
  refine lv_aload_n hx hb dX6_steps_98 rfl (lv_at hl 2 rfl) ?_
  refine lv_iload_n hx hb dX6_steps_99 rfl (lv_at hl 0 rfl) ?_
  refine lv_iload_n hx hb dX6_steps_100 rfl (lv_at hl 1 rfl) ?_
  refine mu_calli (va_runV (As := [.int (nI q), .int (nI r)]) (rest := []) ⟨hx, hb, hml, hown, hts⟩ (hWO) (cwV 2 hts gX6_steps_X6_works rfl rfl rfl (by decide +kernel) ⟨Nat.le_of_ble_eq_true rfl, Nat.le_of_ble_eq_true rfl⟩) (wd_preV (ci := 6) (q0 := 0) hP hK rfl rfl) rfl rfl hl.1 rfl (lv_room (Nat.le_of_ble_eq_true rfl)) dX6_steps_101 ⟨Nat.zero_le _, Nat.zero_le _⟩) hS (fun H locs hP hS => ?_)
  have hP : va_P D kC (mo_W cI cJ g fx (nI n) F Wt Sz Nu P2 B2 (nI b2) (nI k) G Wk T2 S2 Sd (nI as) wo pa fa Fo) H := hP
  refine lv_istore_n (lv' := [(3, .int (nI x)), (2, .int (nI q)), (1, .int (nI r)), (0, .ref (g 0))]) hx hb dX6_steps_104 rfl hl (by decide) rfl (fun ls hl => ?_)
  refine lv_iload_n hx hb dX6_steps_105 rfl (lv_at hl 0 rfl) ?_
  refine lv_if_ne (tgt := 121) hx hb dX6_steps_106 (by decide) (fun h9 => absurd (show nI x = 0 by rw [hx0]; rfl) h9) (fun _ => ?_)
  refine lv_aload_n hx hb dX6_steps_109 rfl (lv_at hl 3 rfl) ?_
  refine lv_dup hx hb dX6_steps_110 rfl ?_
  refine va_get (D := D) (ci := 6) (v := .int wo) (C := RX6) (T := TX6) (N := 23) hx hb hts hiX6 hown hK.1 hP 0 rfl rfl 19 (by decide) kf147 (fun _ h9 => h9) rfl dX6_steps_111 ?_
  refine lv_iconst (v := 1) hx hb dX6_steps_114 (by decide) ?_
  refine lv_iadd hx hb dX6_steps_115 ?_
  refine va_put (D := D) (ci := 6) (v := .int (wo + 1)) (ty := .int) (C := RX6) (T := TX6) (N := 23) hx hb hts hiX6 tyX6 tyX6_ok nmX6 hown hK.1 hP (mo_D hh) hS 0 rfl rfl 19 (by decide) kf147 (fun _ h9 => h9) rfl (by decide +kernel) rfl rfl (Nat.le_of_ble_eq_true rfl) dX6_steps_116 (fun H locs hP _ hS => ?_)
  have hP : va_P D kC (mo_W cI cJ g fx (nI n) F Wt Sz Nu P2 B2 (nI b2) (nI k) G Wk T2 S2 Sd (nI as) (wo + 1) pa fa Fo) H := hP
  refine lv_iload_n hx hb dX6_steps_119 rfl (lv_at hl 1 rfl) ?_
  exact W.iret (v := nI q) hx hb hr (fun t9 ht _ => ⟨congrArg (fun z => Outcome.returned (some (Value.int z))) (rfl), by rw [ht]; exact hP, hS.F ht⟩) hS.2.2 dX6_steps_120
set_option maxHeartbeats 4000000 in
set_option maxRecDepth 100000 in
theorem c_X6_steps_f (hh : ad_ok g 16) (hb9 : b < 40) (hn : n ≤ 100) (hk : k ≤ 8) (r : Nat) (hr9 : r < n) (a : Nat) (ha : a < 16) (hFa : F r = nI a) (hG : ∀ j, j < k → ∃ c9, c9 < 18 ∧ G j = nI c9) (q : Nat) (hq : q ≤ k) (hv : ∀ j, j < q → ko (F r) (G j) = false) (hrf : Bf 0 = nI r) (hqk : q < k) (c8 : Nat) (hc8 : c8 < 18) (hG8 : G q = nI c8) (hko : ko (F r) (G q) = true) (hs : as ≤ 20) (x : Nat) (hx1 : 1 ≤ x) (hx5 : x ≤ 5) (T2 : Nat → Int64) (S2 P2 B2 : Nat → Int32) (b2 : Nat) (hWO : Met l yX6_works wsX6_works ({ frames := 7, cells := 0, slots := 0, locals := 300 }) (wd_P D cI cJ [.ref (g 0), .int (nI q), .int (nI r)] (mo_W cI cJ g fx (nI n) F Wt Sz Nu Pl (shB Bf b) (nI b) (nI k) G Wk To Sl Sd (nI as) wo pa fa Fo)) (mu_Q D (ad_A g 16) (some (.int (nI x))) (mo_W cI cJ g fx (nI n) F Wt Sz Nu P2 B2 (nI b2) (nI k) G Wk T2 S2 Sd (nI as) wo pa fa Fo)) 0 0 (ad_A g 16)) : Met l yX6_steps wsX6_steps ({ frames := 8, cells := 0, slots := 0, locals := 350 }) (wd_P D cI cJ [.ref (g 0)] (mo_W cI cJ g fx (nI n) F Wt Sz Nu Pl Bf (nI (b + 1)) (nI k) G Wk To Sl Sd (nI as) wo pa fa Fo)) (mu_Q D (ad_A g 16) (some (.int (-20 - nI x))) (mo_W cI cJ g fx (nI n) F Wt Sz Nu P2 B2 (nI b2) (nI k) G Wk T2 S2 (asD Sd (nI r) (nI q) (nI x)) (nI (min (as + 1) 20)) wo pa (fa + 1) (upd Fo x (Fo x + 1)))) 0 0 (ad_A g 16) := by
  refine Met.ofW (cc := cX6_steps) (maxL := 4) (ret := (some .int)) (by decide) rfl ?_
  intro p e s m args below meth c s₁ B hml hv
  obtain ⟨rfl, hP, hK⟩ := hv
  have hx := B.exec
  have hb := B.bytes
  have hr := B.returns
  have hts := atoms_spec (ws := wsX6_steps) B.pre
  have hown : s.vm.findClass RX6 = some m.cls := findClass_of_methodNamed B.named
  have hlocks := B.notSynchronized
  have hiX6 : ∀ w ∈ u_ws RX6 TX6 23, w ∈ wsX6_steps := by decide +kernel
  have kf38 := hts (.fieldLink RX6 38 "SortingLineModel" "belt" "[I") (by decide +kernel)
  have kf109 := hts (.fieldLink RX6 109 "SortingLineModel" "onBelt" "I") (by decide +kernel)
  have kf106 := hts (.fieldLink RX6 106 "SortingLineModel" "stations" "I") (by decide +kernel)
  have kf41 := hts (.fieldLink RX6 41 "SortingLineModel" "gates" "[I") (by decide +kernel)
  have kf150 := hts (.fieldLink RX6 150 "SortingLineModel" "failed" "I") (by decide +kernel)
  have hS : va_S (ad_A g 16) s.heap s.heap [] := va_S.rf
  have hl := lv_entry ([.ref (g 0)]) (n := 4) (Nat.le_of_ble_eq_true rfl)
  rw [lg_entry_eq]
  generalize (lg_sl ([.ref (g 0)]) ++ List.replicate (4 - (lg_sl ([.ref (g 0)])).length) Slot.unset).toArray = ls at hl ⊢
  have hl : lv_has ls 4 [(0, .ref (g 0))] := hl
  refine lv_aload_n hx hb dX6_steps_0 rfl (lv_at hl 0 rfl) ?_
  refine va_get (D := D) (ci := 6) (v := .ref (g 9)) (C := RX6) (T := TX6) (N := 23) hx hb hts hiX6 hown hK.1 hP 0 rfl rfl 10 (by decide) kf38 (fun _ h9 => h9) rfl dX6_steps_1 ?_
  refine lv_iconst (v := 0) hx hb dX6_steps_4 (by decide) ?_
  refine ga_ild hx hb hK hP 9 rfl 0 (by decide) (by omega) (by decide) dX6_steps_5 ?_
  refine tp_i (y := nI r) (hrf) ?_
  refine lv_istore_n (lv' := [(1, .int (nI r)), (0, .ref (g 0))]) hx hb dX6_steps_6 rfl hl (by decide) rfl (fun ls hl => ?_)
  refine lv_aload_n hx hb dX6_steps_7 rfl (lv_at hl 1 rfl) ?_
  refine lv_dup hx hb dX6_steps_8 rfl ?_
  refine va_get (D := D) (ci := 6) (v := .int (nI (b + 1))) (C := RX6) (T := TX6) (N := 23) hx hb hts hiX6 hown hK.1 hP 0 rfl rfl 11 (by decide) kf109 (fun _ h9 => h9) rfl dX6_steps_9 ?_
  refine lv_iconst (v := 1) hx hb dX6_steps_12 (by decide) ?_
  refine lv_isub hx hb dX6_steps_13 ?_
  refine tp_i (y := nI b) (nI_pred b) ?_
  refine va_put (D := D) (ci := 6) (v := .int (nI b)) (ty := .int) (C := RX6) (T := TX6) (N := 23) hx hb hts hiX6 tyX6 tyX6_ok nmX6 hown hK.1 hP (mo_D hh) hS 0 rfl rfl 11 (by decide) kf109 (fun _ h9 => h9) rfl (by decide +kernel) rfl rfl (Nat.le_of_ble_eq_true rfl) dX6_steps_14 (fun H locs hP _ hS => ?_)
  have hP : va_P D kC (mo_W cI cJ g fx (nI n) F Wt Sz Nu Pl Bf (nI b) (nI k) G Wk To Sl Sd (nI as) wo pa fa Fo) H := hP
  refine lv_iconst (v := 0) hx hb dX6_steps_17 (by decide) ?_
  refine lv_istore_n (lv' := [(2, .int 0), (1, .int (nI r)), (0, .ref (g 0))]) hx hb dX6_steps_18 rfl hl (by decide) rfl (fun ls hl => ?_)
  have hP : va_P D kC (mo_W cI cJ g fx (nI n) F Wt Sz Nu Pl (shB Bf 0) (nI b) (nI k) G Wk To Sl Sd (nI as) wo pa fa Fo) _ := va_P_cast hP (by rw [shB_0])
  refine lp_X6_shift hx hb hml hown hts hK hh hb9 r (fun _ _ H locs hP hS ls hl => ?_) b 0 (by omega) _ _ hP hS ls (lv_sub hl [0, 1, 2] rfl)
  refine lv_iload_n hx hb dX6_steps_19 rfl (lv_at hl 0 rfl) ?_
  refine lv_aload_n hx hb dX6_steps_20 rfl (lv_at hl 2 rfl) ?_
  refine va_get (D := D) (ci := 6) (v := .int (nI b)) (C := RX6) (T := TX6) (N := 23) hx hb hts hiX6 hown hK.1 hP 0 rfl rfl 11 (by decide) kf109 (fun _ h9 => h9) rfl dX6_steps_21 ?_
  refine lv_icmp_ge (tgt := 47) hx hb dX6_steps_24 (by decide) (fun _ => ?_) (fun h9 => absurd (nI_le (Nat.le_refl _) (by omega)) h9)
  refine lv_iconst (v := 0) hx hb dX6_steps_47 (by decide) ?_
  refine lv_istore_n (lv' := [(2, .int 0), (1, .int (nI r)), (0, .ref (g 0))]) hx hb dX6_steps_48 rfl hl (by decide) rfl (fun ls hl => ?_)
  refine lp_X6_seek hx hb hml hown hts hK hP hh hn hk r hr9 a ha hFa hG q hq hv (fun _ _ ls hl => ?_) q 0 (by omega) ls (lv_sub hl [0, 1, 2] rfl)
  refine lv_iload_n hx hb dX6_steps_49 rfl (lv_at hl 0 rfl) ?_
  refine lv_aload_n hx hb dX6_steps_50 rfl (lv_at hl 2 rfl) ?_
  refine va_get (D := D) (ci := 6) (v := .int (nI k)) (C := RX6) (T := TX6) (N := 23) hx hb hts hiX6 hown hK.1 hP 0 rfl rfl 12 (by decide) kf106 (fun _ h9 => h9) rfl dX6_steps_51 ?_
  refine lv_icmp_ge (tgt := 77) hx hb dX6_steps_54 (by decide) (fun h9 => absurd h9 (nI_ge (by omega) (by omega))) (fun _ => ?_)
  refine lv_aload_n hx hb dX6_steps_57 rfl (lv_at hl 2 rfl) ?_
  refine lv_iload_n hx hb dX6_steps_58 rfl (lv_at hl 1 rfl) ?_
  refine lv_aload_n hx hb dX6_steps_59 rfl (lv_at hl 2 rfl) ?_
  refine va_get (D := D) (ci := 6) (v := .ref (g 10)) (C := RX6) (T := TX6) (N := 23) hx hb hts hiX6 hown hK.1 hP 0 rfl rfl 13 (by decide) kf41 (fun _ h9 => h9) rfl dX6_steps_60 ?_
  refine lv_iload_n hx hb dX6_steps_63 rfl (lv_at hl 0 rfl) ?_
  refine ga_ild hx hb hK hP 10 rfl q (rfl) (by omega) (by decide) dX6_steps_64 ?_
  refine tp_i (y := nI c8) (hG8) ?_
  refine pu_callb (va_runV (As := [.int (nI r), .int (nI c8)]) (rest := []) ⟨hx, hb, hml, hown, hts⟩ (c_X6_isOf hh hn r (by omega) a ha hFa c8 (by omega)) (cwV 2 hts gX6_steps_X6_isOf rfl rfl rfl (by decide +kernel) ⟨Nat.le_of_ble_eq_true rfl, Nat.le_of_ble_eq_true rfl⟩) (wd_preV (ci := 6) (q0 := 0) hP hK rfl rfl) rfl rfl hl.1 rfl (lv_room (Nat.le_of_ble_eq_true rfl)) dX6_steps_65 ⟨Nat.zero_le _, Nat.zero_le _⟩) (fun _ => ?_) (fun h9 => absurd (hG8 ▸ hko) (by rw [h9]; decide))
  refine lv_if_ne (tgt := 77) hx hb dX6_steps_68 (by decide) (fun _ => ?_) (fun h9 => absurd h9 (by decide))
  refine lv_iload_n hx hb dX6_steps_77 rfl (lv_at hl 0 rfl) ?_
  refine lv_aload_n hx hb dX6_steps_78 rfl (lv_at hl 2 rfl) ?_
  refine va_get (D := D) (ci := 6) (v := .int (nI k)) (C := RX6) (T := TX6) (N := 23) hx hb hts hiX6 hown hK.1 hP 0 rfl rfl 12 (by decide) kf106 (fun _ h9 => h9) rfl dX6_steps_79 ?_
  refine lv_icmp_ne (tgt := 98) hx hb dX6_steps_82 (by decide) (fun _ => ?_) (fun h9 => absurd h9 (fun h9 => absurd ((nI_eq (by omega) (by omega)).mp h9) (by omega)))
  refine lv_aload_n hx hb dX6_steps_98 rfl (lv_at hl 2 rfl) ?_
  refine lv_iload_n hx hb dX6_steps_99 rfl (lv_at hl 0 rfl) ?_
  refine lv_iload_n hx hb dX6_steps_100 rfl (lv_at hl 1 rfl) ?_
  refine mu_calli (va_runV (As := [.int (nI q), .int (nI r)]) (rest := []) ⟨hx, hb, hml, hown, hts⟩ (hWO) (cwV 2 hts gX6_steps_X6_works rfl rfl rfl (by decide +kernel) ⟨Nat.le_of_ble_eq_true rfl, Nat.le_of_ble_eq_true rfl⟩) (wd_preV (ci := 6) (q0 := 0) hP hK rfl rfl) rfl rfl hl.1 rfl (lv_room (Nat.le_of_ble_eq_true rfl)) dX6_steps_101 ⟨Nat.zero_le _, Nat.zero_le _⟩) hS (fun H locs hP hS => ?_)
  have hP : va_P D kC (mo_W cI cJ g fx (nI n) F Wt Sz Nu P2 B2 (nI b2) (nI k) G Wk T2 S2 Sd (nI as) wo pa fa Fo) H := hP
  refine lv_istore_n (lv' := [(3, .int (nI x)), (2, .int (nI q)), (1, .int (nI r)), (0, .ref (g 0))]) hx hb dX6_steps_104 rfl hl (by decide) rfl (fun ls hl => ?_)
  refine lv_iload_n hx hb dX6_steps_105 rfl (lv_at hl 0 rfl) ?_
  refine lv_if_ne (tgt := 121) hx hb dX6_steps_106 (by decide) (fun _ => ?_) (fun h9 => absurd h9 (nI_ne0 (by omega) (by omega)))
  refine lv_aload_n hx hb dX6_steps_121 rfl (lv_at hl 3 rfl) ?_
  refine lv_dup hx hb dX6_steps_122 rfl ?_
  refine va_get (D := D) (ci := 6) (v := .int fa) (C := RX6) (T := TX6) (N := 23) hx hb hts hiX6 hown hK.1 hP 0 rfl rfl 21 (by decide) kf150 (fun _ h9 => h9) rfl dX6_steps_123 ?_
  refine lv_iconst (v := 1) hx hb dX6_steps_126 (by decide) ?_
  refine lv_iadd hx hb dX6_steps_127 ?_
  refine va_put (D := D) (ci := 6) (v := .int (fa + 1)) (ty := .int) (C := RX6) (T := TX6) (N := 23) hx hb hts hiX6 tyX6 tyX6_ok nmX6 hown hK.1 hP (mo_D hh) hS 0 rfl rfl 21 (by decide) kf150 (fun _ h9 => h9) rfl (by decide +kernel) rfl rfl (Nat.le_of_ble_eq_true rfl) dX6_steps_128 (fun H locs hP _ hS => ?_)
  have hP : va_P D kC (mo_W cI cJ g fx (nI n) F Wt Sz Nu P2 B2 (nI b2) (nI k) G Wk T2 S2 Sd (nI as) wo pa (fa + 1) Fo) H := hP
  refine lv_aload_n hx hb dX6_steps_131 rfl (lv_at hl 3 rfl) ?_
  refine lv_iload_n hx hb dX6_steps_132 rfl (lv_at hl 2 rfl) ?_
  refine lv_iload_n hx hb dX6_steps_133 rfl (lv_at hl 1 rfl) ?_
  refine lv_iload_n hx hb dX6_steps_134 rfl (lv_at hl 0 rfl) ?_
  refine mu_callv (va_runV (As := [.int (nI r), .int (nI q), .int (nI x)]) (rest := []) ⟨hx, hb, hml, hown, hts⟩ (c_X6_goesAside hh hs (nI r) (nI q) (nI x)) (cwV 3 hts gX6_steps_X6_goesAside rfl rfl rfl (by decide +kernel) ⟨Nat.le_of_ble_eq_true rfl, Nat.le_of_ble_eq_true rfl⟩) (wd_preV (ci := 6) (q0 := 0) hP hK rfl rfl) rfl rfl hl.1 rfl (lv_room (Nat.le_of_ble_eq_true rfl)) dX6_steps_135 ⟨Nat.zero_le _, Nat.zero_le _⟩) hS (fun H locs hP hS => ?_)
  have hP : va_P D kC (mo_W cI cJ g fx (nI n) F Wt Sz Nu P2 B2 (nI b2) (nI k) G Wk T2 S2 (asD Sd (nI r) (nI q) (nI x)) (nI (min (as + 1) 20)) wo pa (fa + 1) Fo) H := hP
  refine lv_aload_n hx hb dX6_steps_138 rfl (lv_at hl 3 rfl) ?_
  refine lv_iload_n hx hb dX6_steps_139 rfl (lv_at hl 0 rfl) ?_
  refine mu_calli (va_runV (As := [.int (nI x)]) (rest := []) ⟨hx, hb, hml, hown, hts⟩ (c_X6_found hh x (by omega) (by omega)) (cwV 1 hts gX6_steps_X6_found rfl rfl rfl (by decide +kernel) ⟨Nat.le_of_ble_eq_true rfl, Nat.le_of_ble_eq_true rfl⟩) (wd_preV (ci := 6) (q0 := 0) hP hK rfl rfl) rfl rfl hl.1 rfl (lv_room (Nat.le_of_ble_eq_true rfl)) dX6_steps_140 ⟨Nat.zero_le _, Nat.zero_le _⟩) hS (fun H locs hP hS => ?_)
  have hP : va_P D kC (mo_W cI cJ g fx (nI n) F Wt Sz Nu P2 B2 (nI b2) (nI k) G Wk T2 S2 (asD Sd (nI r) (nI q) (nI x)) (nI (min (as + 1) 20)) wo pa (fa + 1) (upd Fo x (Fo x + 1))) H := hP
  exact W.iret (v := -20 - nI x) hx hb hr (fun t9 ht _ => ⟨congrArg (fun z => Outcome.returned (some (Value.int z))) (rfl), by rw [ht]; exact hP, hS.F ht⟩) hS.2.2 dX6_steps_143
set_option maxHeartbeats 4000000 in
set_option maxRecDepth 100000 in
theorem c_X6_step_n (hh : ad_ok g 16) (hb0 : b = 0) : Met l yX6_step wsX6_step ({ frames := 10, cells := 0, slots := 0, locals := 450 }) (wd_P D cI cJ [.ref (g 0)] (mo_W cI cJ g fx (nI n) F Wt Sz Nu Pl Bf (nI b) (nI k) G Wk To Sl Sd (nI as) wo pa fa Fo)) (mu_Q D (ad_A g 16) (some (.int (-5))) (mo_W cI cJ g 0 (nI n) F Wt Sz Nu Pl Bf (nI b) (nI k) G Wk To Sl Sd (nI as) wo pa fa Fo)) 0 0 (ad_A g 16) := by
  refine Met.ofW (cc := cX6_step) (maxL := 1) (ret := (some .int)) (by decide) rfl ?_
  intro p e s m args below meth c s₁ B hml hv
  obtain ⟨rfl, hP, hK⟩ := hv
  have hx := B.exec
  have hb := B.bytes
  have hr := B.returns
  have hts := atoms_spec (ws := wsX6_step) B.pre
  have hown : s.vm.findClass RX6 = some m.cls := findClass_of_methodNamed B.named
  have hlocks := B.notSynchronized
  have hiX6 : ∀ w ∈ u_ws RX6 TX6 23, w ∈ wsX6_step := by decide +kernel
  have kf59 := hts (.fieldLink RX6 59 "SortingLineModel" "fault" "I") (by decide +kernel)
  have kf109 := hts (.fieldLink RX6 109 "SortingLineModel" "onBelt" "I") (by decide +kernel)
  have hS : va_S (ad_A g 16) s.heap s.heap [] := va_S.rf
  have hl := lv_entry ([.ref (g 0)]) (n := 1) (Nat.le_of_ble_eq_true rfl)
  rw [lg_entry_eq]
  generalize (lg_sl ([.ref (g 0)]) ++ List.replicate (1 - (lg_sl ([.ref (g 0)])).length) Slot.unset).toArray = ls at hl ⊢
  have hl : lv_has ls 1 [(0, .ref (g 0))] := hl
  refine lv_aload_n hx hb dX6_step_0 rfl (lv_at hl 0 rfl) ?_
  refine lv_iconst (v := 0) hx hb dX6_step_1 (by decide) ?_
  refine va_put (D := D) (ci := 6) (v := .int 0) (ty := .int) (C := RX6) (T := TX6) (N := 23) hx hb hts hiX6 tyX6 tyX6_ok nmX6 hown hK.1 hP (mo_D hh) hS 0 rfl rfl 0 (by decide) kf59 (fun _ h9 => h9) rfl (by decide +kernel) rfl rfl (Nat.le_of_ble_eq_true rfl) dX6_step_2 (fun H locs hP _ hS => ?_)
  have hP : va_P D kC (mo_W cI cJ g 0 (nI n) F Wt Sz Nu Pl Bf (nI b) (nI k) G Wk To Sl Sd (nI as) wo pa fa Fo) H := hP
  refine lv_aload_n hx hb dX6_step_5 rfl (lv_at hl 0 rfl) ?_
  refine va_get (D := D) (ci := 6) (v := .int (nI b)) (C := RX6) (T := TX6) (N := 23) hx hb hts hiX6 hown hK.1 hP 0 rfl rfl 11 (by decide) kf109 (fun _ h9 => h9) rfl dX6_step_6 ?_
  refine lv_if_ne (tgt := 17) hx hb dX6_step_9 (by decide) (fun h9 => absurd (show nI b = 0 by rw [hb0]; rfl) h9) (fun _ => ?_)
  refine lv_bipush (v := (-5)) hx hb dX6_step_12 (by decide) ?_
  refine lv_goto (tgt := 21) hx hb dX6_step_14 (by decide) ?_
  exact W.iret (v := (-5)) hx hb hr (fun t9 ht _ => ⟨congrArg (fun z => Outcome.returned (some (Value.int z))) (rfl), by rw [ht]; exact hP, hS.F ht⟩) hS.2.2 dX6_step_21
set_option maxHeartbeats 4000000 in
set_option maxRecDepth 100000 in
theorem c_X6_step_s (hh : ad_ok g 16) (hb9 : b < 40) (r : Int32) (w1 : va_W) (hM : Met l yX6_steps wsX6_steps ({ frames := 8, cells := 0, slots := 0, locals := 350 }) (wd_P D cI cJ [.ref (g 0)] (mo_W cI cJ g 0 (nI n) F Wt Sz Nu Pl Bf (nI (b + 1)) (nI k) G Wk To Sl Sd (nI as) wo pa fa Fo)) (mu_Q D (ad_A g 16) (some (.int r)) w1) 0 0 (ad_A g 16)) : Met l yX6_step wsX6_step ({ frames := 10, cells := 0, slots := 0, locals := 450 }) (wd_P D cI cJ [.ref (g 0)] (mo_W cI cJ g fx (nI n) F Wt Sz Nu Pl Bf (nI (b + 1)) (nI k) G Wk To Sl Sd (nI as) wo pa fa Fo)) (mu_Q D (ad_A g 16) (some (.int r)) (w1)) 0 0 (ad_A g 16) := by
  refine Met.ofW (cc := cX6_step) (maxL := 1) (ret := (some .int)) (by decide) rfl ?_
  intro p e s m args below meth c s₁ B hml hv
  obtain ⟨rfl, hP, hK⟩ := hv
  have hx := B.exec
  have hb := B.bytes
  have hr := B.returns
  have hts := atoms_spec (ws := wsX6_step) B.pre
  have hown : s.vm.findClass RX6 = some m.cls := findClass_of_methodNamed B.named
  have hlocks := B.notSynchronized
  have hiX6 : ∀ w ∈ u_ws RX6 TX6 23, w ∈ wsX6_step := by decide +kernel
  have kf59 := hts (.fieldLink RX6 59 "SortingLineModel" "fault" "I") (by decide +kernel)
  have kf109 := hts (.fieldLink RX6 109 "SortingLineModel" "onBelt" "I") (by decide +kernel)
  have hS : va_S (ad_A g 16) s.heap s.heap [] := va_S.rf
  have hl := lv_entry ([.ref (g 0)]) (n := 1) (Nat.le_of_ble_eq_true rfl)
  rw [lg_entry_eq]
  generalize (lg_sl ([.ref (g 0)]) ++ List.replicate (1 - (lg_sl ([.ref (g 0)])).length) Slot.unset).toArray = ls at hl ⊢
  have hl : lv_has ls 1 [(0, .ref (g 0))] := hl
  refine lv_aload_n hx hb dX6_step_0 rfl (lv_at hl 0 rfl) ?_
  refine lv_iconst (v := 0) hx hb dX6_step_1 (by decide) ?_
  refine va_put (D := D) (ci := 6) (v := .int 0) (ty := .int) (C := RX6) (T := TX6) (N := 23) hx hb hts hiX6 tyX6 tyX6_ok nmX6 hown hK.1 hP (mo_D hh) hS 0 rfl rfl 0 (by decide) kf59 (fun _ h9 => h9) rfl (by decide +kernel) rfl rfl (Nat.le_of_ble_eq_true rfl) dX6_step_2 (fun H locs hP _ hS => ?_)
  have hP : va_P D kC (mo_W cI cJ g 0 (nI n) F Wt Sz Nu Pl Bf (nI (b + 1)) (nI k) G Wk To Sl Sd (nI as) wo pa fa Fo) H := hP
  refine lv_aload_n hx hb dX6_step_5 rfl (lv_at hl 0 rfl) ?_
  refine va_get (D := D) (ci := 6) (v := .int (nI (b + 1))) (C := RX6) (T := TX6) (N := 23) hx hb hts hiX6 hown hK.1 hP 0 rfl rfl 11 (by decide) kf109 (fun _ h9 => h9) rfl dX6_step_6 ?_
  refine lv_if_ne (tgt := 17) hx hb dX6_step_9 (by decide) (fun _ => ?_) (fun h9 => absurd h9 (nI_ne0 (Nat.succ_pos b) (by omega)))
  refine lv_aload_n hx hb dX6_step_17 rfl (lv_at hl 0 rfl) ?_
  refine mu_calli (va_runV (As := []) (rest := []) ⟨hx, hb, hml, hown, hts⟩ (hM) (cwV 0 hts gX6_step_X6_steps rfl rfl rfl (by decide +kernel) ⟨Nat.le_of_ble_eq_true rfl, Nat.le_of_ble_eq_true rfl⟩) (wd_preV (ci := 6) (q0 := 0) hP hK rfl rfl) rfl rfl hl.1 rfl (lv_room (Nat.le_of_ble_eq_true rfl)) dX6_step_18 ⟨Nat.zero_le _, Nat.zero_le _⟩) hS (fun H locs hP hS => ?_)
  have hP : va_P D kC (w1) H := hP
  exact W.iret (v := r) hx hb hr (fun t9 ht _ => ⟨congrArg (fun z => Outcome.returned (some (Value.int z))) (rfl), by rw [ht]; exact hP, hS.F ht⟩) hS.2.2 dX6_step_21
set_option maxHeartbeats 4000000 in
set_option maxRecDepth 100000 in
theorem c_X6_run_o (hh : ad_ok g 16) (m9 : Int32) (h1 : q_in m9 0 100 = false) : Met l yX6_run wsX6_run ({ frames := 10, cells := 0, slots := 0, locals := 450 }) (wd_P D cI cJ [.ref (g 0), .int m9] (mo_W cI cJ g fx (nI n) F Wt Sz Nu Pl Bf (nI b) (nI k) G Wk To Sl Sd (nI as) wo pa fa Fo)) (mu_Q D (ad_A g 16) (some (.int (-2))) (mo_W cI cJ g 0 (nI n) F Wt Sz Nu Pl Bf (nI b) (nI k) G Wk To Sl Sd (nI as) wo pa fa Fo)) 0 0 (ad_A g 16) := by
  refine Met.ofW (cc := cX6_run) (maxL := 4) (ret := (some .int)) (by decide) rfl ?_
  intro p e s m args below meth c s₁ B hml hv
  obtain ⟨rfl, hP, hK⟩ := hv
  have hx := B.exec
  have hb := B.bytes
  have hr := B.returns
  have hts := atoms_spec (ws := wsX6_run) B.pre
  have hown : s.vm.findClass RX6 = some m.cls := findClass_of_methodNamed B.named
  have hlocks := B.notSynchronized
  have hiX6 : ∀ w ∈ u_ws RX6 TX6 23, w ∈ wsX6_run := by decide +kernel
  have kf59 := hts (.fieldLink RX6 59 "SortingLineModel" "fault" "I") (by decide +kernel)
  have hS : va_S (ad_A g 16) s.heap s.heap [] := va_S.rf
  have hl := lv_entry ([.ref (g 0), .int m9]) (n := 4) (Nat.le_of_ble_eq_true rfl)
  rw [lg_entry_eq]
  generalize (lg_sl ([.ref (g 0), .int m9]) ++ List.replicate (4 - (lg_sl ([.ref (g 0), .int m9])).length) Slot.unset).toArray = ls at hl ⊢
  have hl : lv_has ls 4 [(0, .ref (g 0)), (1, .int m9)] := hl
  refine lv_aload_n hx hb dX6_run_0 rfl (lv_at hl 0 rfl) ?_
  refine lv_iconst (v := 0) hx hb dX6_run_1 (by decide) ?_
  refine va_put (D := D) (ci := 6) (v := .int 0) (ty := .int) (C := RX6) (T := TX6) (N := 23) hx hb hts hiX6 tyX6 tyX6_ok nmX6 hown hK.1 hP (mo_D hh) hS 0 rfl rfl 0 (by decide) kf59 (fun _ h9 => h9) rfl (by decide +kernel) rfl rfl (Nat.le_of_ble_eq_true rfl) dX6_run_2 (fun H locs hP _ hS => ?_)
  have hP : va_P D kC (mo_W cI cJ g 0 (nI n) F Wt Sz Nu Pl Bf (nI b) (nI k) G Wk To Sl Sd (nI as) wo pa fa Fo) H := hP
  refine lv_iload_n hx hb dX6_run_5 rfl (lv_at hl 1 rfl) ?_
  refine lv_iconst (v := 0) hx hb dX6_run_6 (by decide) ?_
  refine lv_bipush (v := 100) hx hb dX6_run_7 (by decide) ?_
  refine pu_callb (va_runS (As := [.int m9, .int 0, .int 100]) (rest := []) ⟨hx, hb, hml, hown, hts⟩ (c_X6_in m9 0 100) (cwS 3 hts gX6_run_X6_in rfl rfl rfl (by decide +kernel) ⟨Nat.le_of_ble_eq_true rfl, Nat.le_of_ble_eq_true rfl⟩) (wd_preS hP hK) rfl rfl hl.1 rfl (lv_room (Nat.le_of_ble_eq_true rfl)) dX6_run_9 ⟨Nat.zero_le _, Nat.zero_le _⟩) (fun h9 => absurd (h1) (by rw [h9]; decide)) (fun _ => ?_)
  refine lv_if_ne (tgt := 18) hx hb dX6_run_12 (by decide) (fun h9 => absurd (by decide) h9) (fun _ => ?_)
  refine lv_bipush (v := (-2)) hx hb dX6_run_15 (by decide) ?_
  exact W.iret (v := (-2)) hx hb hr (fun t9 ht _ => ⟨congrArg (fun z => Outcome.returned (some (Value.int z))) (rfl), by rw [ht]; exact hP, hS.F ht⟩) hS.2.2 dX6_run_17
set_option maxHeartbeats 4000000 in
set_option maxRecDepth 100000 in
theorem lp_X6_run {p : Program} {e : Env} {s : State} {m : MethodId} {args : Array Value} {below : List Frame} {meth : Method} {c : Code} {Q : State → Prop} {H0 : Heap} (hx : p.tables.exec = Jvm.exec) (hb : c.code = cX6_run) (hml : c.maxLocals = 4) (hown : s.vm.findClass RX6 = some m.cls) (hts : ∀ w ∈ wsX6_run, w.before args s = true) (hK : wd_K D cI cJ s) (hh : ad_ok g 16) (N9 : Nat) (hN : N9 ≤ 100) (w9 : va_W) (A9 : Int32) (kk0 : ∀ (_ : Nat), True → ∀ (H : Heap) (locs : List Loc), va_P D kC (w9) H → va_S (ad_A g 16) H0 H locs → ∀ (ls : Array Slot), lv_has ls 4 [(2, .int A9), (0, .ref (g 0)), (1, .int (nI N9))] → W p l e (headSpec wsX6_run { frames := 10, cells := 0, slots := 0, locals := 450 }).room s m args below meth c H locs 0 0 Q (F0 m 59 ls [])) : ∀ (d : Nat) (i : Nat) (acc : Int32) (w : va_W) (a : Int32), i + d = N9 → runM l D cI cJ g d w a w9 → acc + a = A9 → ∀ (H : Heap) (locs : List Loc), va_P D kC (w) H → va_S (ad_A g 16) H0 H locs → ∀ (ls : Array Slot), lv_has ls 4 [(3, .int (nI i)), (2, .int acc), (0, .ref (g 0)), (1, .int (nI N9))] → W p l e (headSpec wsX6_run { frames := 10, cells := 0, slots := 0, locals := 450 }).room s m args below meth c H locs 0 0 Q (F0 m 22 ls []) := by
  have hiX6 : ∀ w ∈ u_ws RX6 TX6 23, w ∈ wsX6_run := by decide +kernel
  have kf109 := hts (.fieldLink RX6 109 "SortingLineModel" "onBelt" "I") (by decide +kernel)
  intro d
  induction d with
  | zero =>
    intro i acc w a hi hr9 hA H locs hP hS ls hl
    obtain ⟨rfl, rfl, -⟩ := hr9
    rw [Int32.add_zero] at hA
    subst hA
    refine lv_iload_n hx hb dX6_run_22 rfl (lv_at hl 0 rfl) ?_
    refine lv_iload_n hx hb dX6_run_23 rfl (lv_at hl 3 rfl) ?_
    refine lv_icmp_ge (tgt := 59) hx hb dX6_run_24 (by decide) (fun _ => ?_) (fun h9 => absurd (nI_le (by omega) (by omega)) h9)
    exact kk0 0 trivial H locs hP hS ls (lv_sub hl [1, 2, 3] rfl)
  | succ d ih =>
    intro i acc w a hi hr9 hA H locs hP hS ls hl
    rcases hr9 with ⟨⟨fx, n, k, as, F, Wt, Sz, Nu, Pl, Bf, G, Wk, To, Sl, Sd, Fo, wo, pa, fa, rfl⟩, rfl, rfl⟩ | ⟨b, r, w1, v, a1, hb40, ⟨fx, n, k, as, F, Wt, Sz, Nu, Pl, Bf, G, Wk, To, Sl, Sd, Fo, wo, pa, fa, rfl⟩, hM, hv, hr1, rfl⟩
    · skip
      rw [Int32.add_zero] at hA
      subst hA
      refine lv_iload_n hx hb dX6_run_22 rfl (lv_at hl 0 rfl) ?_
      refine lv_iload_n hx hb dX6_run_23 rfl (lv_at hl 3 rfl) ?_
      refine lv_icmp_ge (tgt := 59) hx hb dX6_run_24 (by decide) (fun h9 => absurd h9 (nI_ge (by omega) (by omega))) (fun _ => ?_)
      refine lv_aload_n hx hb dX6_run_27 rfl (lv_at hl 2 rfl) ?_
      refine va_get (D := D) (ci := 6) (v := .int (nI 0)) (C := RX6) (T := TX6) (N := 23) hx hb hts hiX6 hown hK.1 hP 0 rfl rfl 11 (by decide) kf109 (fun _ h9 => h9) rfl dX6_run_28 ?_
      refine lv_if_le (tgt := 59) hx hb dX6_run_31 (by decide) (fun _ => ?_) (fun h9 => absurd (by decide) h9)
      exact kk0 0 trivial H locs hP hS ls (lv_sub hl [1, 2, 3] rfl)
    · skip
      refine lv_iload_n hx hb dX6_run_22 rfl (lv_at hl 0 rfl) ?_
      refine lv_iload_n hx hb dX6_run_23 rfl (lv_at hl 3 rfl) ?_
      refine lv_icmp_ge (tgt := 59) hx hb dX6_run_24 (by decide) (fun h9 => absurd h9 (nI_ge (by omega) (by omega))) (fun _ => ?_)
      refine lv_aload_n hx hb dX6_run_27 rfl (lv_at hl 2 rfl) ?_
      refine va_get (D := D) (ci := 6) (v := .int (nI (b + 1))) (C := RX6) (T := TX6) (N := 23) hx hb hts hiX6 hown hK.1 hP 0 rfl rfl 11 (by decide) kf109 (fun _ h9 => h9) rfl dX6_run_28 ?_
      refine lv_if_le (tgt := 59) hx hb dX6_run_31 (by decide) (fun h9 => absurd h9 (nI_nle (Nat.succ_pos b) (by omega))) (fun _ => ?_)
      refine lv_iload_n hx hb dX6_run_34 rfl (lv_at hl 1 rfl) ?_
      refine lv_aload_n hx hb dX6_run_35 rfl (lv_at hl 2 rfl) ?_
      rcases hv with ⟨hlt, rfl⟩ | ⟨hlt, rfl⟩
      · skip
        refine mu_calli (va_runV (As := []) (rest := [.int acc]) ⟨hx, hb, hml, hown, hts⟩ (hM) (cwV 0 hts gX6_run_X6_steps rfl rfl rfl (by decide +kernel) ⟨Nat.le_of_ble_eq_true rfl, Nat.le_of_ble_eq_true rfl⟩) (wd_preV (ci := 6) (q0 := 0) hP hK rfl rfl) rfl rfl hl.1 rfl (lv_room (Nat.le_of_ble_eq_true rfl)) dX6_run_36 ⟨Nat.zero_le _, Nat.zero_le _⟩) hS (fun H locs hP hS => ?_)
        have hP : va_P D kC (w1) H := hP
        refine lv_bipush (v := (-20)) hx hb dX6_run_39 (by decide) ?_
        refine lv_icmp_gt (tgt := 50) hx hb dX6_run_41 (by decide) (fun h9 => absurd h9 (i_nlt2 hlt)) (fun _ => ?_)
        refine lv_sipush (v := 1000) hx hb dX6_run_44 (by decide) ?_
        refine lv_goto (tgt := 51) hx hb dX6_run_47 (by decide) ?_
        refine lv_iadd hx hb dX6_run_51 ?_
        refine lv_istore_n (lv' := [(2, .int (acc + 1000)), (3, .int (nI i)), (0, .ref (g 0)), (1, .int (nI N9))]) hx hb dX6_run_52 rfl hl (by decide) rfl (fun ls hl => ?_)
        refine lv_iinc (v := nI (i + 1)) (lv' := [(3, .int (nI (i + 1))), (2, .int (acc + 1000)), (0, .ref (g 0)), (1, .int (nI N9))]) hx hb dX6_run_53 hl (k := 1) rfl (nI_add i 1) (by decide) rfl (fun ls hl => ?_)
        refine lv_goto (tgt := 22) hx hb dX6_run_56 (by decide) ?_
        exact ih (i + 1) _ w1 a1 (by omega) hr1 (by rw [← hA]; exact Int32.add_assoc _ _ _) H locs hP hS ls (lv_sub hl [0, 1, 2, 3] rfl)
      · skip
        refine mu_calli (va_runV (As := []) (rest := [.int acc]) ⟨hx, hb, hml, hown, hts⟩ (hM) (cwV 0 hts gX6_run_X6_steps rfl rfl rfl (by decide +kernel) ⟨Nat.le_of_ble_eq_true rfl, Nat.le_of_ble_eq_true rfl⟩) (wd_preV (ci := 6) (q0 := 0) hP hK rfl rfl) rfl rfl hl.1 rfl (lv_room (Nat.le_of_ble_eq_true rfl)) dX6_run_36 ⟨Nat.zero_le _, Nat.zero_le _⟩) hS (fun H locs hP hS => ?_)
        have hP : va_P D kC (w1) H := hP
        refine lv_bipush (v := (-20)) hx hb dX6_run_39 (by decide) ?_
        refine lv_icmp_gt (tgt := 50) hx hb dX6_run_41 (by decide) (fun _ => ?_) (fun h9 => absurd (i_lt2 hlt) h9)
        refine lv_iconst (v := 1) hx hb dX6_run_50 (by decide) ?_
        refine lv_iadd hx hb dX6_run_51 ?_
        refine lv_istore_n (lv' := [(2, .int (acc + 1)), (3, .int (nI i)), (0, .ref (g 0)), (1, .int (nI N9))]) hx hb dX6_run_52 rfl hl (by decide) rfl (fun ls hl => ?_)
        refine lv_iinc (v := nI (i + 1)) (lv' := [(3, .int (nI (i + 1))), (2, .int (acc + 1)), (0, .ref (g 0)), (1, .int (nI N9))]) hx hb dX6_run_53 hl (k := 1) rfl (nI_add i 1) (by decide) rfl (fun ls hl => ?_)
        refine lv_goto (tgt := 22) hx hb dX6_run_56 (by decide) ?_
        exact ih (i + 1) _ w1 a1 (by omega) hr1 (by rw [← hA]; exact Int32.add_assoc _ _ _) H locs hP hS ls (lv_sub hl [0, 1, 2, 3] rfl)
set_option maxHeartbeats 4000000 in
set_option maxRecDepth 100000 in
theorem c_X6_run_a (hh : ad_ok g 16) (N9 : Nat) (hN : N9 ≤ 100) (w9 : va_W) (A9 : Int32) (hR : runM l D cI cJ g N9 (mo_W cI cJ g 0 (nI n) F Wt Sz Nu Pl Bf (nI b) (nI k) G Wk To Sl Sd (nI as) wo pa fa Fo) A9 w9) : Met l yX6_run wsX6_run ({ frames := 10, cells := 0, slots := 0, locals := 450 }) (wd_P D cI cJ [.ref (g 0), .int (nI N9)] (mo_W cI cJ g fx (nI n) F Wt Sz Nu Pl Bf (nI b) (nI k) G Wk To Sl Sd (nI as) wo pa fa Fo)) (mu_Q D (ad_A g 16) (some (.int A9)) (w9)) 0 0 (ad_A g 16) := by
  refine Met.ofW (cc := cX6_run) (maxL := 4) (ret := (some .int)) (by decide) rfl ?_
  intro p e s m args below meth c s₁ B hml hv
  obtain ⟨rfl, hP, hK⟩ := hv
  have hx := B.exec
  have hb := B.bytes
  have hr := B.returns
  have hts := atoms_spec (ws := wsX6_run) B.pre
  have hown : s.vm.findClass RX6 = some m.cls := findClass_of_methodNamed B.named
  have hlocks := B.notSynchronized
  have hiX6 : ∀ w ∈ u_ws RX6 TX6 23, w ∈ wsX6_run := by decide +kernel
  have kf59 := hts (.fieldLink RX6 59 "SortingLineModel" "fault" "I") (by decide +kernel)
  have hS : va_S (ad_A g 16) s.heap s.heap [] := va_S.rf
  have hl := lv_entry ([.ref (g 0), .int (nI N9)]) (n := 4) (Nat.le_of_ble_eq_true rfl)
  rw [lg_entry_eq]
  generalize (lg_sl ([.ref (g 0), .int (nI N9)]) ++ List.replicate (4 - (lg_sl ([.ref (g 0), .int (nI N9)])).length) Slot.unset).toArray = ls at hl ⊢
  have hl : lv_has ls 4 [(0, .ref (g 0)), (1, .int (nI N9))] := hl
  refine lv_aload_n hx hb dX6_run_0 rfl (lv_at hl 0 rfl) ?_
  refine lv_iconst (v := 0) hx hb dX6_run_1 (by decide) ?_
  refine va_put (D := D) (ci := 6) (v := .int 0) (ty := .int) (C := RX6) (T := TX6) (N := 23) hx hb hts hiX6 tyX6 tyX6_ok nmX6 hown hK.1 hP (mo_D hh) hS 0 rfl rfl 0 (by decide) kf59 (fun _ h9 => h9) rfl (by decide +kernel) rfl rfl (Nat.le_of_ble_eq_true rfl) dX6_run_2 (fun H locs hP _ hS => ?_)
  have hP : va_P D kC (mo_W cI cJ g 0 (nI n) F Wt Sz Nu Pl Bf (nI b) (nI k) G Wk To Sl Sd (nI as) wo pa fa Fo) H := hP
  refine lv_iload_n hx hb dX6_run_5 rfl (lv_at hl 1 rfl) ?_
  refine lv_iconst (v := 0) hx hb dX6_run_6 (by decide) ?_
  refine lv_bipush (v := 100) hx hb dX6_run_7 (by decide) ?_
  refine pu_callb (va_runS (As := [.int (nI N9), .int 0, .int 100]) (rest := []) ⟨hx, hb, hml, hown, hts⟩ (c_X6_in (nI N9) 0 100) (cwS 3 hts gX6_run_X6_in rfl rfl rfl (by decide +kernel) ⟨Nat.le_of_ble_eq_true rfl, Nat.le_of_ble_eq_true rfl⟩) (wd_preS hP hK) rfl rfl hl.1 rfl (lv_room (Nat.le_of_ble_eq_true rfl)) dX6_run_9 ⟨Nat.zero_le _, Nat.zero_le _⟩) (fun _ => ?_) (fun h9 => absurd (show q_in (nI N9) 0 100 = true from q_ok (nI_pos (by omega)) (nI_le (b := 100) hN (by omega))) (by rw [h9]; decide))
  refine lv_if_ne (tgt := 18) hx hb dX6_run_12 (by decide) (fun _ => ?_) (fun h9 => absurd h9 (by decide))
  refine lv_iconst (v := 0) hx hb dX6_run_18 (by decide) ?_
  refine lv_istore_n (lv' := [(2, .int 0), (0, .ref (g 0)), (1, .int (nI N9))]) hx hb dX6_run_19 rfl hl (by decide) rfl (fun ls hl => ?_)
  refine lv_iconst (v := 0) hx hb dX6_run_20 (by decide) ?_
  refine lv_istore_n (lv' := [(3, .int 0), (2, .int 0), (0, .ref (g 0)), (1, .int (nI N9))]) hx hb dX6_run_21 rfl hl (by decide) rfl (fun ls hl => ?_)
  refine lp_X6_run hx hb hml hown hts hK hh N9 hN w9 A9 (fun _ _ H locs hP hS ls hl => ?_) N9 0 0 _ A9 (by omega) hR (Int32.zero_add _) _ _ hP hS ls (lv_sub hl [0, 1, 2, 3] rfl)
  refine lv_iload_n hx hb dX6_run_59 rfl (lv_at hl 0 rfl) ?_
  exact W.iret (v := A9) hx hb hr (fun t9 ht _ => ⟨congrArg (fun z => Outcome.returned (some (Value.int z))) (rfl), by rw [ht]; exact hP, hS.F ht⟩) hS.2.2 dX6_run_60
end MoD
