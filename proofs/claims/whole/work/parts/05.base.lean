/-! the classes whose objects the worlds hold; the words of nest mates; contracts of two kinds: pu (nothing is written) and mu (cells of A are written, none is made) -/
abbrev kC : List vw_C := [(RX0, TX0, 3), (RX1, TX1, 5), (RX2, TX2, 5), (RX3, TX3, 4), (RX4, TX4, 6), (RX5, TX5, 5), (RX6, TX6, 23)]
abbrev tyC (cI cJ : ClassId) : List (ClassId × FieldType) := [(cI, .int), (cJ, .long)]
def nx (U : State) : Prop :=
  va_Nw (.methodLinkNest RX5 9 yX4_init RX5) U ∧ va_Nw (.methodLinkNest RX5 18 yX2_init RX5) U ∧ va_Nw (.methodLinkNest RX5 25 yX0_init RX5) U ∧ va_Nw (.methodLinkNest RX5 32 yX1_init RX5) U ∧ va_Nw (.methodLinkNest RX5 39 yX3_init RX5) U ∧
  va_Nw (.fieldLinkNest RX5 162 "SortingLine$Tally" "worked" "I" RX5) U ∧ va_Nw (.fieldLinkNest RX5 166 "SortingLine$Tally" "passed" "I" RX5) U ∧ va_Nw (.fieldLinkNest RX5 169 "SortingLine$Tally" "failed" "I" RX5) U ∧ va_Nw (.methodLinkNest RX4 40 yX5_alsoIs RX5) U
theorem nx.warm {s U : State} (hW : s.WarmedH U.vm) (h : nx s) : nx U := by
  obtain ⟨h1, h2, h3, h4, h5, h6, h7, h8, h9⟩ := h
  exact ⟨h1.warmM hW, h2.warmM hW, h3.warmM hW, h4.warmM hW, h5.warmM hW, h6.warmF hW, h7.warmF hW, h8.warmF hW, h9.warmM hW⟩
theorem nx.same {s U : State} (hv : s.vm = U.vm) (h : nx s) : nx U := by
  obtain ⟨h1, h2, h3, h4, h5, h6, h7, h8, h9⟩ := h
  exact ⟨h1.same rfl hv, h2.same rfl hv, h3.same rfl hv, h4.same rfl hv, h5.same rfl hv, h6.same rfl hv, h7.same rfl hv, h8.same rfl hv, h9.same rfl hv⟩
def wd_K (D : va_G) (cI cJ : ClassId) (U : State) : Prop := va_K D kC (tyC cI cJ) U ∧ nx U
theorem wd_K.warm {D : va_G} {cI cJ : ClassId} {s U : State} (hW : s.WarmedH U.vm) (h : wd_K D cI cJ s) : wd_K D cI cJ U := ⟨va_K.moved hW.alike h.1, h.2.warm hW⟩
def wd_P (D : va_G) (cI cJ : ClassId) (vs : List Value) (ws : va_W) : Array Value → State → Prop := va_Pc vs (fun U => va_P D kC ws U.heap ∧ wd_K D cI cJ U)
theorem wd_blind (D : va_G) (cI cJ : ClassId) (vs : List Value) (ws : va_W) : FrameBlind (wd_P D cI cJ vs ws) := fun a U g mk q => by
  obtain ⟨q0, qP, qK, qn⟩ := q
  exact ⟨q0, qP, va_K.moved (u := U) (U := U.calling g mk a) (Vm.Alike.refl U.vm) qK, nx.same (s := U) (U := U.calling g mk a) rfl qn⟩
theorem wd_preV {D : va_G} {cI cJ : ClassId} {ws : va_W} {s : State} {H : Heap} {q0 : Nat} {ci b : Nat} {q : vw_C} {fs : List Value} {As : List Value} (hP : va_P D kC ws H) (hK : wd_K D cI cJ s) (hc : kC[ci]? = some q) (he : ws[q0]? = some (b, .inr (ci, fs))) : PreV s H q.1 b (wd_P D cI cJ (.ref b :: As) ws) As :=
  ⟨wd_blind D cI cJ _ ws, va_recv hK.1 hP hc he, fun U hU hW => ⟨rfl, by rw [hU]; exact hP, hK.warm hW⟩⟩
theorem wd_preS {D : va_G} {cI cJ : ClassId} {ws : va_W} {s : State} {H : Heap} {As : List Value} (hP : va_P D kC ws H) (hK : wd_K D cI cJ s) : PreS s H (wd_P D cI cJ As ws) As :=
  ⟨wd_blind D cI cJ _ ws, fun U hU hW => ⟨rfl, by rw [hU]; exact hP, hK.warm hW⟩⟩
def bI (b : Bool) : Int32 := if b then 1 else 0
def pu_Q (v : Option Value) : Array Value → State → Outcome → State → Prop := fun _ st oc t => oc = .returned v ∧ t.heap = st.heap
def mu_Q (D : va_G) (A : Nat → Prop) (v : Option Value) (ws : va_W) : Array Value → State → Outcome → State → Prop := fun _ st oc t => oc = .returned v ∧ va_P D kC ws t.heap ∧ va_F A st t
def ex_Q (D : va_G) (A : Nat → Prop) (P : Option Value → va_W → Prop) : Array Value → State → Outcome → State → Prop := fun _ st oc t => ∃ (v : Option Value) (ws : va_W), oc = .returned v ∧ P v ws ∧ va_P D kC ws t.heap ∧ va_F A st t
section BaseA
variable {p : Program} {l : Launch} {e : Env} {R : Room} {s : State} {m : MethodId} {args : Array Value} {below : List Frame} {meth : Method} {c : Code} {H : Heap} {locs : List Loc} {cells slots : Nat} {Q : State → Prop}
variable {pc : Nat} {ls : Array Slot} {rest st0 : List Value} {a : Array Value} {A0 A1 : Nat → Prop} {H0 : Heap} {D : va_G}
theorem tp_i {x y : Int32} (h : x = y) (k : W p l e R s m args below meth c H locs cells slots Q (F0 m pc ls (.int y :: rest))) : W p l e R s m args below meth c H locs cells slots Q (F0 m pc ls (.int x :: rest)) := h ▸ k
theorem tp_l {x y : Int64} (h : x = y) (k : W p l e R s m args below meth c H locs cells slots Q (F0 m pc ls (.long y :: rest))) : W p l e R s m args below meth c H locs cells slots Q (F0 m pc ls (.long x :: rest)) := h ▸ k
theorem pu_call {v : Option Value} (hr : va_Run p l e R s m args below meth c H locs cells slots 0 0 (F0 m pc ls st0) rest (pu_Q v a) (fun _ => False)) (kk : W p l e R s m args below meth c H locs cells slots Q (F0 m (pc + 3) ls (v.toList ++ rest))) : W p l e R s m args below meth c H locs cells slots Q (F0 m pc ls st0) := by
  intro T hT X
  obtain ⟨v', st₀, t, T', L, h0, X', hL, e1, e2, ⟨hv, hh⟩, st⟩ := hr T hT X
  cases hv
  have hL0 : L = [] := List.eq_nil_iff_forall_not_mem.mpr (fun q hq => hL q hq)
  subst hL0
  rw [List.append_nil] at X'
  obtain ⟨t2, a1, b1⟩ := kk T' (by rw [e1, hh, h0]) X'
  exact ⟨t2, st t2 a1, b1⟩
theorem pu_calli {r : Int32} (hr : va_Run p l e R s m args below meth c H locs cells slots 0 0 (F0 m pc ls st0) rest (pu_Q (some (.int r)) a) (fun _ => False)) (kk : W p l e R s m args below meth c H locs cells slots Q (F0 m (pc + 3) ls (.int r :: rest))) : W p l e R s m args below meth c H locs cells slots Q (F0 m pc ls st0) := pu_call hr kk
theorem pu_calll {r : Int64} (hr : va_Run p l e R s m args below meth c H locs cells slots 0 0 (F0 m pc ls st0) rest (pu_Q (some (.long r)) a) (fun _ => False)) (kk : W p l e R s m args below meth c H locs cells slots Q (F0 m (pc + 3) ls (.long r :: rest))) : W p l e R s m args below meth c H locs cells slots Q (F0 m pc ls st0) := pu_call hr kk
theorem pu_callb {b : Bool} (hr : va_Run p l e R s m args below meth c H locs cells slots 0 0 (F0 m pc ls st0) rest (pu_Q (some (.int (bI b))) a) (fun _ => False)) (kt : b = true → W p l e R s m args below meth c H locs cells slots Q (F0 m (pc + 3) ls (.int 1 :: rest))) (kf : b = false → W p l e R s m args below meth c H locs cells slots Q (F0 m (pc + 3) ls (.int 0 :: rest))) : W p l e R s m args below meth c H locs cells slots Q (F0 m pc ls st0) := by
  cases b with
  | true => exact pu_call hr (kt rfl)
  | false => exact pu_call hr (kf rfl)
theorem ex_call {P : Option Value → va_W → Prop} (hr : va_Run p l e R s m args below meth c H locs cells slots 0 0 (F0 m pc ls st0) rest (ex_Q D A1 P a) A1) (hS : va_S A0 H0 H locs) (hA : ∀ q, A1 q → A0 q)
    (kk : ∀ (v : Option Value) (ws : va_W) (H1 : Heap) (locs1 : List Loc), P v ws → va_P D kC ws H1 → va_S A0 H0 H1 locs1 → (∀ q : Nat, q < H.size → ¬ A1 q → H1[q]? = H[q]?) → W p l e R s m args below meth c H1 locs1 cells slots Q (F0 m (pc + 3) ls (v.toList ++ rest))) : W p l e R s m args below meth c H locs cells slots Q (F0 m pc ls st0) := by
  intro T hT X
  obtain ⟨v', st₀, t, T', L, h0, X', hL, e1, e2, ⟨v, ws, hv, hp, hP, hz, hk⟩, st⟩ := hr T hT X
  cases hv
  rw [h0] at hz hk
  obtain ⟨t2, a1, b1⟩ := kk v' ws T'.heap (locs ++ L) hp (by rw [e1]; exact hP) ⟨Nat.le_trans hS.1 (by rw [e1]; exact hz), fun q h1 h2 => by rw [e1, hk q (Nat.lt_of_lt_of_le h1 hS.1) (fun z => h2 (hA q z))]; exact hS.2.1 q h1 h2, fun q hq => by
      rcases List.mem_append.mp hq with h | h
      · exact hS.2.2 q h
      · exact hA _ (hL q h)⟩ (fun q h1 h2 => by rw [e1]; exact hk q h1 h2) T' rfl X'
  exact ⟨t2, st t2 a1, b1⟩
theorem mu_call {v : Option Value} {ws : va_W} (hr : va_Run p l e R s m args below meth c H locs cells slots 0 0 (F0 m pc ls st0) rest (mu_Q D A0 v ws a) A0) (hS : va_S A0 H0 H locs)
    (kk : ∀ (H1 : Heap) (locs1 : List Loc), va_P D kC ws H1 → va_S A0 H0 H1 locs1 → W p l e R s m args below meth c H1 locs1 cells slots Q (F0 m (pc + 3) ls (v.toList ++ rest))) : W p l e R s m args below meth c H locs cells slots Q (F0 m pc ls st0) := by
  refine ex_call (A1 := A0) (P := fun v' ws' => v' = v ∧ ws' = ws) (D := D) (a := a) (fun T hT X => ?_) hS (fun _ h => h) (fun v' ws' H1 locs1 hp hP hS _ => by
    obtain ⟨rfl, rfl⟩ := hp
    exact kk H1 locs1 hP hS)
  obtain ⟨v', st₀, t, T', L, h0, X', hL, e1, e2, ⟨hv, hP, hF⟩, st⟩ := hr T hT X
  exact ⟨v', st₀, t, T', L, h0, X', hL, e1, e2, ⟨v, ws, hv, ⟨rfl, rfl⟩, hP, hF⟩, st⟩
theorem mu_calli {r : Int32} {ws : va_W} (hr : va_Run p l e R s m args below meth c H locs cells slots 0 0 (F0 m pc ls st0) rest (mu_Q D A0 (some (.int r)) ws a) A0) (hS : va_S A0 H0 H locs)
    (kk : ∀ (H1 : Heap) (locs1 : List Loc), va_P D kC ws H1 → va_S A0 H0 H1 locs1 → W p l e R s m args below meth c H1 locs1 cells slots Q (F0 m (pc + 3) ls (.int r :: rest))) : W p l e R s m args below meth c H locs cells slots Q (F0 m pc ls st0) := mu_call hr hS kk
theorem mu_calll {r : Int64} {ws : va_W} (hr : va_Run p l e R s m args below meth c H locs cells slots 0 0 (F0 m pc ls st0) rest (mu_Q D A0 (some (.long r)) ws a) A0) (hS : va_S A0 H0 H locs)
    (kk : ∀ (H1 : Heap) (locs1 : List Loc), va_P D kC ws H1 → va_S A0 H0 H1 locs1 → W p l e R s m args below meth c H1 locs1 cells slots Q (F0 m (pc + 3) ls (.long r :: rest))) : W p l e R s m args below meth c H locs cells slots Q (F0 m pc ls st0) := mu_call hr hS kk
theorem mu_callv {ws : va_W} (hr : va_Run p l e R s m args below meth c H locs cells slots 0 0 (F0 m pc ls st0) rest (mu_Q D A0 none ws a) A0) (hS : va_S A0 H0 H locs)
    (kk : ∀ (H1 : Heap) (locs1 : List Loc), va_P D kC ws H1 → va_S A0 H0 H1 locs1 → W p l e R s m args below meth c H1 locs1 cells slots Q (F0 m (pc + 3) ls rest)) : W p l e R s m args below meth c H locs cells slots Q (F0 m pc ls st0) := mu_call hr hS kk
end BaseA
section BaseB
variable {p : Program} {l : Launch} {e : Env} {R : Room} {s : State} {m : MethodId} {args : Array Value} {below : List Frame} {meth : Method} {c : Code} {H : Heap} {locs : List Loc} {cells slots : Nat} {Q : State → Prop}
variable {cc : ByteArray} {pc : Nat} {ls : Array Slot} {rest : List Value} {D : va_G} {A : Nat → Prop} {a : Nat} {ws : va_W} {H0 : Heap} {cI cJ : ClassId}
theorem ga_ild (hx : p.tables.exec = Jvm.exec) (hb : c.code = cc) (hK : wd_K D cI cJ s) (hP : va_P D kC ws H) (q0 : Nat) {N : Nat} {f : Nat → Int32} (ha : ws[q0]? = some (a, .inl (cI, N, .inl f))) {i : Int32} (k : Nat) (hi : i = nI k) (hk : k < N) (hN : N < 2 ^ 31) (hdg : decode cc pc = .ok (.iaload, 1))
    (kk : W p l e R s m args below meth c H locs cells slots Q (F0 m (pc + 1) ls (.int (f k) :: rest))) : W p l e R s m args below meth c H locs cells slots Q (F0 m pc ls (.int i :: .ref a :: rest)) := by
  subst hi
  refine va_iald hx hb hK.1 hP q0 0 ha rfl (vp_in_nI hk hN) hdg ?_
  rw [nI_clamp (Nat.lt_trans hk hN)]
  exact kk
theorem ga_lld (hx : p.tables.exec = Jvm.exec) (hb : c.code = cc) (hK : wd_K D cI cJ s) (hP : va_P D kC ws H) (q0 : Nat) {N : Nat} {f : Nat → Int64} (ha : ws[q0]? = some (a, .inl (cJ, N, .inr (.inl f)))) {i : Int32} (k : Nat) (hi : i = nI k) (hk : k < N) (hN : N < 2 ^ 31) (hdg : decode cc pc = .ok (.laload, 1))
    (kk : W p l e R s m args below meth c H locs cells slots Q (F0 m (pc + 1) ls (.long (f k) :: rest))) : W p l e R s m args below meth c H locs cells slots Q (F0 m pc ls (.int i :: .ref a :: rest)) := by
  subst hi
  refine va_lald hx hb hK.1 hP q0 1 ha rfl (vp_in_nI hk hN) hdg ?_
  rw [nI_clamp (Nat.lt_trans hk hN)]
  exact kk
theorem ga_ist (hx : p.tables.exec = Jvm.exec) (hb : c.code = cc) (hK : wd_K D cI cJ s) (hP : va_P D kC ws H) (hD : va_D A ws) (hS : va_S A H0 H locs) (q0 : Nat) {N : Nat} {f : Nat → Int32} (ha : ws[q0]? = some (a, .inl (cI, N, .inl f))) {i x : Int32} (k : Nat) (hi : i = nI k) (hk : k < N) (hN : N < 2 ^ 31) (hdg : decode cc pc = .ok (.iastore, 1))
    (kk : ∀ (H1 : Heap) (locs1 : List Loc), va_P D kC (ws.set q0 (a, .inl (cI, N, .inl (upd f k x)))) H1 → va_S A H0 H1 locs1 → W p l e R s m args below meth c H1 locs1 cells slots Q (F0 m (pc + 1) ls rest)) : W p l e R s m args below meth c H locs cells slots Q (F0 m pc ls (.int x :: .int i :: .ref a :: rest)) := by
  subst hi
  refine va_iast hx hb hK.1 hP hD hS q0 0 ha rfl (vp_in_nI hk hN) hdg (fun H1 locs1 hP hD hS => ?_)
  rw [nI_clamp (Nat.lt_trans hk hN)] at hP
  exact kk H1 locs1 hP hS
theorem ga_lst (hx : p.tables.exec = Jvm.exec) (hb : c.code = cc) (hK : wd_K D cI cJ s) (hP : va_P D kC ws H) (hD : va_D A ws) (hS : va_S A H0 H locs) (q0 : Nat) {N : Nat} {f : Nat → Int64} (ha : ws[q0]? = some (a, .inl (cJ, N, .inr (.inl f)))) {i : Int32} {x : Int64} (k : Nat) (hi : i = nI k) (hk : k < N) (hN : N < 2 ^ 31) (hdg : decode cc pc = .ok (.lastore, 1))
    (kk : ∀ (H1 : Heap) (locs1 : List Loc), va_P D kC (ws.set q0 (a, .inl (cJ, N, .inr (.inl (vp_updL f k x))))) H1 → va_S A H0 H1 locs1 → W p l e R s m args below meth c H1 locs1 cells slots Q (F0 m (pc + 1) ls rest)) : W p l e R s m args below meth c H locs cells slots Q (F0 m pc ls (.long x :: .int i :: .ref a :: rest)) := by
  subst hi
  refine va_last hx hb hK.1 hP hD hS q0 1 ha rfl (vp_in_nI hk hN) hdg (fun H1 locs1 hP hD hS => ?_)
  rw [nI_clamp (Nat.lt_trans hk hN)] at hP
  exact kk H1 locs1 hP hS
theorem ga_newI (hx : p.tables.exec = Jvm.exec) (hb : c.code = cc) (harr : (Cond.arrayClass .int).before args s = true) (hK : wd_K D cI cJ s) (hP : va_P D kC ws H) (hD : va_D A ws) (hS : va_S A H0 H locs) (hA : ∀ q, H0.size ≤ q → A q)
    {n : Int32} {N : Nat} (hn : ¬ n < 0) (hN : n.toNatClampNeg = N) (hby : N * componentBytes .int ≤ 536870912) (hcells : cells + 1 ≤ R.cells) (hslots : slots + N ≤ R.slots) (hdg : decode cc pc = .ok (.newarray .int, 2))
    (kk : ∀ (q : Nat) (H1 : Heap), va_P D kC (ws ++ [(q, .inl (cI, N, .inl (fun _ => 0)))]) H1 → va_D A (ws ++ [(q, .inl (cI, N, .inl (fun _ => 0)))]) → va_S A H0 H1 locs →
      W p l e R s m args below meth c H1 locs (cells + 1) (slots + N) Q (F0 m (pc + 2) ls (.ref q :: rest))) : W p l e R s m args below meth c H locs cells slots Q (F0 m pc ls (.int n :: rest)) := by
  refine va_newa hx hb (atype := .int) harr rfl hK.1 hP hD hS hA (a0 := (N, .inl (fun _ => 0))) (fun cA => rfl) hn hN hby hcells hslots hdg (fun q cA H1 hK1 hP1 hD1 hS1 => ?_)
  have h1 := (hK1.2 2 (cA, .int) rfl).2
  have h2 := (hK1.2 0 (cI, .int) rfl).2
  have h3 : cA = cI := Option.some.inj (Eq.trans (Eq.symm h1) h2)
  subst h3
  exact kk q H1 hP1 hD1 hS1
theorem ga_newJ (hx : p.tables.exec = Jvm.exec) (hb : c.code = cc) (harr : (Cond.arrayClass .long).before args s = true) (hK : wd_K D cI cJ s) (hP : va_P D kC ws H) (hD : va_D A ws) (hS : va_S A H0 H locs) (hA : ∀ q, H0.size ≤ q → A q)
    {n : Int32} {N : Nat} (hn : ¬ n < 0) (hN : n.toNatClampNeg = N) (hby : N * componentBytes .long ≤ 536870912) (hcells : cells + 1 ≤ R.cells) (hslots : slots + N ≤ R.slots) (hdg : decode cc pc = .ok (.newarray .long, 2))
    (kk : ∀ (q : Nat) (H1 : Heap), va_P D kC (ws ++ [(q, .inl (cJ, N, .inr (.inl (fun _ => 0))))]) H1 → va_D A (ws ++ [(q, .inl (cJ, N, .inr (.inl (fun _ => 0))))]) → va_S A H0 H1 locs →
      W p l e R s m args below meth c H1 locs (cells + 1) (slots + N) Q (F0 m (pc + 2) ls (.ref q :: rest))) : W p l e R s m args below meth c H locs cells slots Q (F0 m pc ls (.int n :: rest)) := by
  refine va_newa hx hb (atype := .long) harr rfl hK.1 hP hD hS hA (a0 := (N, .inr (.inl (fun _ => 0)))) (fun cA => rfl) hn hN hby hcells hslots hdg (fun q cA H1 hK1 hP1 hD1 hS1 => ?_)
  have h1 := (hK1.2 2 (cA, .long) rfl).2
  have h2 := (hK1.2 1 (cJ, .long) rfl).2
  have h3 : cA = cJ := Option.some.inj (Eq.trans (Eq.symm h1) h2)
  subst h3
  exact kk q H1 hP1 hD1 hS1
end BaseB
/-! numbers -/
def p_in (t z : Int32) : Bool := decide (¬ t < 0) && decide (t < z)
theorem p_in_t {t : Int32} {n : Nat} (h : p_in t (nI n) = true) (hn : n < 2 ^ 31) : ∃ j : Nat, j < n ∧ t = nI j := by
  simp only [p_in, Bool.and_eq_true, decide_eq_true_eq] at h
  obtain ⟨j, hj, rfl⟩ := nI_of h.1
  exact ⟨j, (nI_ltI hj hn).mp h.2, rfl⟩
theorem p_in_nI {j n : Nat} (hj : j < n) (hn : n < 2 ^ 31) : p_in (nI j) (nI n) = true := by
  simp only [p_in, Bool.and_eq_true, decide_eq_true_eq]
  exact ⟨nI_pos (Nat.lt_trans hj hn), nI_lt hj hn⟩
theorem p_in_lt {t z : Int32} (h : t < 0) : p_in t z = false := by simp [p_in, h]
theorem p_in_ge {t z : Int32} (h : z ≤ t) : p_in t z = false := by
  have : ¬ t < z := by rw [Int32.lt_iff_toInt_lt]; rw [Int32.le_iff_toInt_le] at h; omega
  simp [p_in, this]
theorem p_in_ok {t z : Int32} (h : ¬ t < 0) (h2 : ¬ z ≤ t) : p_in t z = true := by
  have : t < z := by rw [Int32.lt_iff_toInt_lt]; rw [Int32.le_iff_toInt_le] at h2; omega
  simp [p_in, h, this]
theorem p_in_inv {t z : Int32} (h : p_in t z = true) : ¬ t < 0 ∧ ¬ z ≤ t := by
  simp only [p_in, Bool.and_eq_true, decide_eq_true_eq] at h
  refine ⟨h.1, ?_⟩
  have h2 := h.2
  rw [Int32.le_iff_toInt_le]; rw [Int32.lt_iff_toInt_lt] at h2; omega
/-! the cells of the class: 20, at h 0 .. h 19 -/
abbrev sl_W (cI cJ : ClassId) (h : Nat → Nat) (mT : Int32) (F Wt Sz : Nat → Int32) (Nu : Nat → Int64) (Mb : Nat → Int32) (mS : Int32) (G Wk : Nat → Int32) (To : Nat → Int64) (Sl : Nat → Int32) (Ri : Nat → Int32) (bf bs : Int32) (oT oS oF : Nat → Int32) (an as : Int32) (Fo : Nat → Int32) (wo pa fa : Int32) : va_W :=
  [(h 0, .inr (5, [.ref (h 1), .ref (h 2), .ref (h 3), .ref (h 4), .ref (h 5)])),
   (h 1, .inr (4, [.ref (h 6), .ref (h 7), .ref (h 8), .ref (h 9), .ref (h 10), .int mT])),
   (h 2, .inr (2, [.ref (h 11), .ref (h 12), .ref (h 13), .ref (h 14), .int mS])),
   (h 3, .inr (0, [.ref (h 15), .int bf, .int bs])),
   (h 4, .inr (1, [.ref (h 16), .ref (h 17), .ref (h 18), .int an, .int as])),
   (h 5, .inr (3, [.ref (h 19), .int wo, .int pa, .int fa])),
   (h 6, .inl (cI, 100, .inl F)), (h 7, .inl (cI, 100, .inl Wt)), (h 8, .inl (cI, 100, .inl Sz)), (h 9, .inl (cJ, 800, .inr (.inl Nu))), (h 10, .inl (cI, 800, .inl Mb)),
   (h 11, .inl (cI, 8, .inl G)), (h 12, .inl (cI, 8, .inl Wk)), (h 13, .inl (cJ, 8, .inr (.inl To))), (h 14, .inl (cI, 8, .inl Sl)),
   (h 15, .inl (cI, 40, .inl Ri)), (h 16, .inl (cI, 20, .inl oT)), (h 17, .inl (cI, 20, .inl oS)), (h 18, .inl (cI, 20, .inl oF)), (h 19, .inl (cI, 6, .inl Fo))]
def ad_ok (h : Nat → Nat) (N : Nat) : Prop := ∀ i j : Nat, i < N → j < N → h i = h j → i = j
def ad_A (h : Nat → Nat) (N : Nat) : Nat → Prop := fun q => ∃ k : Nat, k < N ∧ q = h k
theorem ad_D {h : Nat → Nat} {N : Nat} {ws : va_W} (hh : ad_ok h N) (e : ws.map (fun q => q.1) = (List.range N).map h) : va_D (ad_A h N) ws := by
  have at' : ∀ (k : Nat) (q : Nat × va_E), ws[k]? = some q → k < N ∧ q.1 = h k := by
    intro k q hq
    have h1 : (ws.map (fun q => q.1))[k]? = some q.1 := by rw [List.getElem?_map, hq]; rfl
    rw [e, List.getElem?_map] at h1
    have hkN : k < N := by
      rcases Nat.lt_or_ge k N with hlt | hge
      · exact hlt
      · rw [List.getElem?_eq_none (by rw [List.length_range]; exact hge)] at h1; cases h1
    rw [List.getElem?_range hkN] at h1
    exact ⟨hkN, (Option.some.inj h1).symm⟩
  refine ⟨fun i j p q hi hj hpq => ?_, fun k q hq => ?_⟩
  · obtain ⟨a1, a2⟩ := at' i p hi
    obtain ⟨b1, b2⟩ := at' j q hj
    exact hh i j a1 b1 (by rw [← a2, ← b2]; exact hpq)
  · obtain ⟨a1, a2⟩ := at' k q hq
    exact ⟨k, a1, a2⟩
theorem sl_D {cI cJ : ClassId} {h : Nat → Nat} (hh : ad_ok h 20) {mT : Int32} {F Wt Sz : Nat → Int32} {Nu : Nat → Int64} {Mb : Nat → Int32} {mS : Int32} {G Wk : Nat → Int32} {To : Nat → Int64} {Sl : Nat → Int32} {Ri : Nat → Int32} {bf bs : Int32} {oT oS oF : Nat → Int32} {an as : Int32} {Fo : Nat → Int32} {wo pa fa : Int32} : va_D (ad_A h 20) (sl_W cI cJ h mT F Wt Sz Nu Mb mS G Wk To Sl Ri bf bs oT oS oF an as Fo wo pa fa) := ad_D hh rfl
theorem va_P_cast {D : va_G} {ws ws' : va_W} {H : Heap} (hP : va_P D kC ws H) (e : ws = ws') : va_P D kC ws' H := e ▸ hP
