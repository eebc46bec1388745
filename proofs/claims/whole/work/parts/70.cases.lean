/-! the law's cases -/
def lc (h g : Nat → Nat) (oA S0 : Nat) : Prop := ad_ok h 20 ∧ ad_ok g 16 ∧ (∀ i j : Nat, i < 20 → j < 16 → h i ≠ g j) ∧ (∀ i : Nat, i < 20 → h i ≠ oA) ∧ (∀ j : Nat, j < 16 → g j ≠ oA) ∧ (∀ i : Nat, i < 20 → S0 ≤ h i) ∧ (∀ j : Nat, j < 16 → S0 ≤ g j) ∧ S0 ≤ oA
def lH (D : va_G) (cJ : ClassId) (oA : Nat) (w m : va_W) (fo : Nat → Int64) (H : Heap) : Prop := va_P D kC w H ∧ va_P D kC m H ∧ va_P D kC [(oA, .inl (cJ, 1, .inr (.inl fo)))] H
theorem ad_at {h : Nat → Nat} {N : Nat} {ws : va_W} (e : ws.map (fun q => q.1) = (List.range N).map h) (k : Nat) (q : Nat × va_E) (hq : ws[k]? = some q) : ∃ j : Nat, j < N ∧ q.1 = h j := by
  have h1 : (ws.map (fun q => q.1))[k]? = some q.1 := by rw [List.getElem?_map, hq]; rfl
  rw [e, List.getElem?_map] at h1
  have hkN : k < N := by
    rcases Nat.lt_or_ge k N with hlt | hge
    · exact hlt
    · rw [List.getElem?_eq_none (by rw [List.length_range]; exact hge)] at h1; cases h1
  rw [List.getElem?_range hkN] at h1
  exact ⟨k, hkN, (Option.some.inj h1).symm⟩
theorem sim_c {cI cJ : ClassId} {h g : Nat → Nat} {w m : va_W} (H : SIM cI cJ h g w m) : (∃ fs, w[0]? = some (h 0, .inr (5, fs))) ∧ (∃ fs, m[0]? = some (g 0, .inr (6, fs))) ∧ (∀ (k : Nat) (q : Nat × va_E), w[k]? = some q → ∃ j : Nat, j < 20 ∧ q.1 = h j) ∧ ∀ (k : Nat) (q : Nat × va_E), m[k]? = some q → ∃ j : Nat, j < 16 ∧ q.1 = g j := by
  obtain ⟨n, k, b, as, f, an, fx, F, Wt, Sz, Nu, Pl, G, Wk, To, Sl, Ri, oT, oS, oF, Bf, Sd, Fo, wo, pa, fa, rfl, rfl, -, -, -, -⟩ := H
  refine ⟨⟨_, rfl⟩, ⟨_, rfl⟩, fun k q hq => ?_, fun k q hq => ?_⟩
  · obtain ⟨j, hj, e⟩ := ad_at (N := 20) (h := h) rfl k q hq
    exact ⟨j, hj, e⟩
  · obtain ⟨j, hj, e⟩ := ad_at (N := 16) (h := g) rfl k q hq
    exact ⟨j, hj, e⟩
theorem lH.c {D : va_G} {cI cJ : ClassId} {h g : Nat → Nat} {oA S0 : Nat} {w m w' : va_W} {fo : Nat → Int64} {H H1 : Heap} (hc : lc h g oA S0) (hs : SIM cI cJ h g w m) (hH : lH D cJ oA w m fo H) (hk : ∀ q : Nat, q < H.size → ¬ ad_A h 20 q → H1[q]? = H[q]?) (hP : va_P D kC w' H1) : lH D cJ oA w' m fo H1 := by
  refine ⟨hP, hH.2.1.kept (fun k q hq => hk q.1 ((hH.2.1 k q hq).lt) ?_), hH.2.2.kept (fun k q hq => hk q.1 ((hH.2.2 k q hq).lt) ?_)⟩
  · obtain ⟨j, hj, e⟩ := (sim_c hs).2.2.2 k q hq
    rintro ⟨i, hi, e2⟩
    exact hc.2.2.1 i j hi hj (e2.symm.trans e)
  · rintro ⟨i, hi, e2⟩
    have h1 : k < 1 := (List.getElem?_eq_some_iff.mp hq).1
    obtain rfl : k = 0 := by omega
    cases hq
    exact hc.2.2.2.1 i hi e2.symm
theorem lH.m {D : va_G} {cI cJ : ClassId} {h g : Nat → Nat} {oA S0 : Nat} {w m w0 m' m0 : va_W} {fo : Nat → Int64} {H H1 : Heap} (hc : lc h g oA S0) (hs : SIM cI cJ h g w0 m0) (hw : w = w0) (hH : lH D cJ oA w m fo H) (hk : ∀ q : Nat, q < H.size → ¬ ad_A g 16 q → H1[q]? = H[q]?) (hP : va_P D kC m' H1) : lH D cJ oA w m' fo H1 := by
  subst hw
  refine ⟨hH.1.kept (fun k q hq => hk q.1 ((hH.1 k q hq).lt) ?_), hP, hH.2.2.kept (fun k q hq => hk q.1 ((hH.2.2 k q hq).lt) ?_)⟩
  · obtain ⟨j, hj, e⟩ := (sim_c hs).2.2.1 k q hq
    rintro ⟨i, hi, e2⟩
    exact hc.2.2.1 j i hj hi (e.symm.trans e2)
  · rintro ⟨i, hi, e2⟩
    have h1 : k < 1 := (List.getElem?_eq_some_iff.mp hq).1
    obtain rfl : k = 0 := by omega
    cases hq
    exact hc.2.2.2.2.1 i hi e2.symm
theorem lH.o {D : va_G} {cI cJ : ClassId} {h g : Nat → Nat} {oA S0 : Nat} {w m : va_W} {fo u : Nat → Int64} {H H1 : Heap} (hc : lc h g oA S0) (hs : SIM cI cJ h g w m) (hH : lH D cJ oA w m fo H) (hk : ∀ q : Nat, q < H.size → ¬ q = oA → H1[q]? = H[q]?) (hP : va_P D kC [(oA, .inl (cJ, 1, .inr (.inl u)))] H1) : lH D cJ oA w m u H1 := by
  refine ⟨hH.1.kept (fun k q hq => hk q.1 ((hH.1 k q hq).lt) ?_), hH.2.1.kept (fun k q hq => hk q.1 ((hH.2.1 k q hq).lt) ?_), hP⟩
  · obtain ⟨j, hj, e⟩ := (sim_c hs).2.2.1 k q hq
    rw [e]; exact hc.2.2.2.1 j hj
  · obtain ⟨j, hj, e⟩ := (sim_c hs).2.2.2 k q hq
    rw [e]; exact hc.2.2.2.2.1 j hj
section LawR
variable {p : Program} {l : Launch} {e : Env} {R : Room} {s : State} {m : MethodId} {args : Array Value} {below : List Frame} {meth : Method} {c : Code} {H : Heap} {locs : List Loc} {cells slots : Nat} {Q : State → Prop}
variable {pc : Nat} {ls : Array Slot} {rest st0 : List Value} {a : Array Value} {A0 A1 : Nat → Prop} {H0 : Heap} {D : va_G} {cc : ByteArray}
theorem mu_callL {v : Option Value} {ws : va_W} (hr : va_Run p l e R s m args below meth c H locs cells slots 0 0 (F0 m pc ls st0) rest (mu_Q D A1 v ws a) A1) (hS : va_S A0 H0 H locs) (hA : ∀ q, A1 q → A0 q)
    (kk : ∀ (H1 : Heap) (locs1 : List Loc), va_P D kC ws H1 → va_S A0 H0 H1 locs1 → (∀ q : Nat, q < H.size → ¬ A1 q → H1[q]? = H[q]?) → W p l e R s m args below meth c H1 locs1 cells slots Q (F0 m (pc + 3) ls (v.toList ++ rest))) : W p l e R s m args below meth c H locs cells slots Q (F0 m pc ls st0) := by
  refine ex_call (A1 := A1) (P := fun v' ws' => v' = v ∧ ws' = ws) (D := D) (a := a) (fun T hT X => ?_) hS hA (fun v' ws' H1 locs1 hp hP hS hk => by
    obtain ⟨rfl, rfl⟩ := hp
    exact kk H1 locs1 hP hS hk)
  obtain ⟨v', st₀, t, T', L, h0, X', hL, e1, e2, ⟨hv, hP, hF⟩, st⟩ := hr T hT X
  exact ⟨v', st₀, t, T', L, h0, X', hL, e1, e2, ⟨v, ws, hv, ⟨rfl, rfl⟩, hP, hF⟩, st⟩
theorem mu_callLi {r : Int32} {ws : va_W} (hr : va_Run p l e R s m args below meth c H locs cells slots 0 0 (F0 m pc ls st0) rest (mu_Q D A1 (some (.int r)) ws a) A1) (hS : va_S A0 H0 H locs) (hA : ∀ q, A1 q → A0 q)
    (kk : ∀ (H1 : Heap) (locs1 : List Loc), va_P D kC ws H1 → va_S A0 H0 H1 locs1 → (∀ q : Nat, q < H.size → ¬ A1 q → H1[q]? = H[q]?) → W p l e R s m args below meth c H1 locs1 cells slots Q (F0 m (pc + 3) ls (.int r :: rest))) : W p l e R s m args below meth c H locs cells slots Q (F0 m pc ls st0) := mu_callL hr hS hA kk
theorem mu_callLl {r : Int64} {ws : va_W} (hr : va_Run p l e R s m args below meth c H locs cells slots 0 0 (F0 m pc ls st0) rest (mu_Q D A1 (some (.long r)) ws a) A1) (hS : va_S A0 H0 H locs) (hA : ∀ q, A1 q → A0 q)
    (kk : ∀ (H1 : Heap) (locs1 : List Loc), va_P D kC ws H1 → va_S A0 H0 H1 locs1 → (∀ q : Nat, q < H.size → ¬ A1 q → H1[q]? = H[q]?) → W p l e R s m args below meth c H1 locs1 cells slots Q (F0 m (pc + 3) ls (.long r :: rest))) : W p l e R s m args below meth c H locs cells slots Q (F0 m pc ls st0) := mu_callL hr hS hA kk
theorem ga_sld (hx : p.tables.exec = Jvm.exec) (hb : c.code = cc) {b L : Nat} {xs : Nat → Int32} (hX : va_X b L xs s H0) (hbl : b < H0.size) (hbA : ¬ A0 b) (hS : va_S A0 H0 H locs) {i : Int32} (k : Nat) (hi : i = nI k) (hk : k < L) (hL : L ≤ 3072) (hdg : decode cc pc = .ok (.iaload, 1))
    (kk : W p l e R s m args below meth c H locs cells slots Q (F0 m (pc + 1) ls (.int (xs k) :: rest))) : W p l e R s m args below meth c H locs cells slots Q (F0 m pc ls (.int i :: .ref b :: rest)) := by
  subst hi
  refine va_sld hx hb hX hbl hbA hS (vp_in_nI hk (by omega)) hdg ?_
  rw [nI_clamp (by omega)]
  exact kk
end LawR
theorem lg_0 (x : Int64) : lg_cmp x x = 0 := by
  unfold lg_cmp
  rw [if_neg (by simp), if_pos rfl]
set_option maxHeartbeats 4000000 in
set_option maxRecDepth 100000 in
theorem lcase_0 {p : Program} {l : Launch} {e : Env} {s : State} {m : MethodId} {below : List Frame} {meth : Method} {c : Code} {D : va_G} {cI cJ : ClassId} {h g : Nat → Nat} {oA b L : Nat} {xs : Nat → Int32} {Q : State → Prop} (hL : L ≤ 3072) (hx : p.tables.exec = Jvm.exec) (hb : c.code = code) (hml : c.maxLocals = 8) (hown : s.vm.findClass RL = some m.cls) (hts : ∀ w ∈ wsL_law, w.before #[Value.ref b] s = true) (hX : va_X b L xs s s.heap) (hbl : b < s.heap.size) (hc9 : lc h g oA s.heap.size) (hK : wd_K D cI cJ s) {i : Nat} (hi : i + 6 ≤ L) (kk : ∀ (w9 m9 : va_W) (fo9 : Nat → Int64) (H : Heap) (locs : List Loc) (ls : Array Slot), SIM cI cJ h g w9 m9 → lH D cJ oA w9 m9 fo9 H → va_S (fun q : Nat => s.heap.size ≤ q) s.heap H locs → lv_has ls 8 [(4, .int (nI i)), (0, .ref b), (1, .ref (h 0)), (2, .ref (g 0)), (3, .ref oA)] → W p l e room_1 s m #[Value.ref b] below meth c H locs (41 + i) (5006 + 6 * i) Q (F0 m 879 ls [])) {w9 m9 : va_W} {fo9 : Nat → Int64} {H : Heap} {locs : List Loc} {ls : Array Slot} (hsim : SIM cI cJ h g w9 m9) (hH : lH D cJ oA w9 m9 fo9 H) (hS : va_S (fun q : Nat => s.heap.size ≤ q) s.heap H locs) (hl : lv_has ls 8 [(4, .int (nI i)), (0, .ref b), (1, .ref (h 0)), (2, .ref (g 0)), (3, .ref oA)]) : W p l e room_1 s m #[Value.ref b] below meth c H locs (40 + i) (5000 + 6 * i) Q (F0 m 136 ls []) := by
  obtain ⟨r, w', m', hM1, hM2, hsi⟩ := sim_thing (l := l) (D := D) hc9.1 hc9.2.1 hsim (xs (i + 1)) (xs (i + 2))
  obtain ⟨⟨f1, hf1⟩, ⟨f2, hf2⟩, -, -⟩ := sim_c hsim
  have hbA : ¬ (fun q : Nat => s.heap.size ≤ q) b := Nat.not_le.mpr hbl
  refine lv_aload_n hx hb dL_law_136 rfl (lv_at hl 2 rfl) ?_
  refine lv_aload_n hx hb dL_law_137 rfl (lv_at hl 1 rfl) ?_
  refine lv_iload hx hb dL_law_138 (lv_at hl 0 rfl) ?_
  refine lv_iconst (v := 1) hx hb dL_law_140 (by decide) ?_
  refine lv_iadd hx hb dL_law_141 ?_
  refine tp_i (y := nI (i + 1)) (nI_add i 1) ?_
  refine ga_sld hx hb hX hbl hbA hS (i + 1) rfl (by omega) hL dL_law_142 ?_
  refine lv_aload_n hx hb dL_law_143 rfl (lv_at hl 1 rfl) ?_
  refine lv_iload hx hb dL_law_144 (lv_at hl 0 rfl) ?_
  refine lv_iconst (v := 2) hx hb dL_law_146 (by decide) ?_
  refine lv_iadd hx hb dL_law_147 ?_
  refine tp_i (y := nI (i + 2)) (nI_add i 2) ?_
  refine ga_sld hx hb hX hbl hbA hS (i + 2) rfl (by omega) hL dL_law_148 ?_
  refine mu_callLi (va_runV (As := [.int (xs (i + 1)), .int (xs (i + 2))]) (rest := []) ⟨hx, hb, hml, hown, hts⟩ hM1 (cwV 2 hts gL_law_X5_thing rfl rfl rfl (by decide +kernel) ⟨Nat.le_of_ble_eq_true rfl, Nat.le_of_ble_eq_true rfl⟩) (wd_preV (ci := 5) (q0 := 0) hH.1 hK rfl hf1) rfl rfl hl.1 rfl (lv_room (Nat.le_of_ble_eq_true rfl)) dL_law_149 ⟨show 40 + i + 0 ≤ 603072 by omega, show 5000 + 6 * i + 0 ≤ 7262314 by omega⟩) hS (fun q hq => by obtain ⟨z, hz, rfl⟩ := hq; exact hc9.2.2.2.2.2.1 z hz) (fun H locs hP hS hk => ?_)
  have hH := hH.c hc9 hsim hk hP
  refine lv_aload_n hx hb dL_law_152 rfl (lv_at hl 3 rfl) ?_
  refine lv_aload_n hx hb dL_law_153 rfl (lv_at hl 1 rfl) ?_
  refine lv_iload hx hb dL_law_154 (lv_at hl 0 rfl) ?_
  refine lv_iconst (v := 1) hx hb dL_law_156 (by decide) ?_
  refine lv_iadd hx hb dL_law_157 ?_
  refine tp_i (y := nI (i + 1)) (nI_add i 1) ?_
  refine ga_sld hx hb hX hbl hbA hS (i + 1) rfl (by omega) hL dL_law_158 ?_
  refine lv_aload_n hx hb dL_law_159 rfl (lv_at hl 1 rfl) ?_
  refine lv_iload hx hb dL_law_160 (lv_at hl 0 rfl) ?_
  refine lv_iconst (v := 2) hx hb dL_law_162 (by decide) ?_
  refine lv_iadd hx hb dL_law_163 ?_
  refine tp_i (y := nI (i + 2)) (nI_add i 2) ?_
  refine ga_sld hx hb hX hbl hbA hS (i + 2) rfl (by omega) hL dL_law_164 ?_
  refine mu_callLi (va_runV (As := [.int (xs (i + 1)), .int (xs (i + 2))]) (rest := [.int r]) ⟨hx, hb, hml, hown, hts⟩ hM2 (cwV 2 hts gL_law_X6_thing rfl rfl rfl (by decide +kernel) ⟨Nat.le_of_ble_eq_true rfl, Nat.le_of_ble_eq_true rfl⟩) (wd_preV (ci := 6) (q0 := 0) hH.2.1 hK rfl hf2) rfl rfl hl.1 rfl (lv_room (Nat.le_of_ble_eq_true rfl)) dL_law_165 ⟨show 40 + i + 0 ≤ 603072 by omega, show 5000 + 6 * i + 0 ≤ 7262314 by omega⟩) hS (fun q hq => by obtain ⟨z, hz, rfl⟩ := hq; exact hc9.2.2.2.2.2.2.1 z hz) (fun H locs hP hS hk => ?_)
  have hH := hH.m hc9 hsi rfl hk hP
  refine lv_icmp_eq (tgt := 879) hx hb dL_law_168 (by decide) (fun _ => ?_) (fun h9 => absurd rfl h9)
  refine W.widen (k := 41 + i) (n := 5006 + 6 * i) (by omega) (by omega) ?_
  exact kk _ _ _ H locs ls hsi hH hS hl
set_option maxHeartbeats 4000000 in
set_option maxRecDepth 100000 in
theorem lcase_1 {p : Program} {l : Launch} {e : Env} {s : State} {m : MethodId} {below : List Frame} {meth : Method} {c : Code} {D : va_G} {cI cJ : ClassId} {h g : Nat → Nat} {oA b L : Nat} {xs : Nat → Int32} {Q : State → Prop} (hL : L ≤ 3072) (hx : p.tables.exec = Jvm.exec) (hb : c.code = code) (hml : c.maxLocals = 8) (hown : s.vm.findClass RL = some m.cls) (hts : ∀ w ∈ wsL_law, w.before #[Value.ref b] s = true) (hX : va_X b L xs s s.heap) (hbl : b < s.heap.size) (hc9 : lc h g oA s.heap.size) (hK : wd_K D cI cJ s) {i : Nat} (hi : i + 6 ≤ L) (kk : ∀ (w9 m9 : va_W) (fo9 : Nat → Int64) (H : Heap) (locs : List Loc) (ls : Array Slot), SIM cI cJ h g w9 m9 → lH D cJ oA w9 m9 fo9 H → va_S (fun q : Nat => s.heap.size ≤ q) s.heap H locs → lv_has ls 8 [(4, .int (nI i)), (0, .ref b), (1, .ref (h 0)), (2, .ref (g 0)), (3, .ref oA)] → W p l e room_1 s m #[Value.ref b] below meth c H locs (41 + i) (5006 + 6 * i) Q (F0 m 879 ls [])) {w9 m9 : va_W} {fo9 : Nat → Int64} {H : Heap} {locs : List Loc} {ls : Array Slot} (hsim : SIM cI cJ h g w9 m9) (hH : lH D cJ oA w9 m9 fo9 H) (hS : va_S (fun q : Nat => s.heap.size ≤ q) s.heap H locs) (hl : lv_has ls 8 [(4, .int (nI i)), (0, .ref b), (1, .ref (h 0)), (2, .ref (g 0)), (3, .ref oA)]) : W p l e room_1 s m #[Value.ref b] below meth c H locs (40 + i) (5000 + 6 * i) Q (F0 m 173 ls []) := by
  obtain ⟨r, w', m', hM1, hM2, hsi⟩ := sim_row (l := l) (D := D) hc9.1 hc9.2.1 hsim (xs (i + 1)) (xs (i + 2))
  obtain ⟨⟨f1, hf1⟩, ⟨f2, hf2⟩, -, -⟩ := sim_c hsim
  have hbA : ¬ (fun q : Nat => s.heap.size ≤ q) b := Nat.not_le.mpr hbl
  refine lv_aload_n hx hb dL_law_173 rfl (lv_at hl 2 rfl) ?_
  refine lv_aload_n hx hb dL_law_174 rfl (lv_at hl 1 rfl) ?_
  refine lv_iload hx hb dL_law_175 (lv_at hl 0 rfl) ?_
  refine lv_iconst (v := 1) hx hb dL_law_177 (by decide) ?_
  refine lv_iadd hx hb dL_law_178 ?_
  refine tp_i (y := nI (i + 1)) (nI_add i 1) ?_
  refine ga_sld hx hb hX hbl hbA hS (i + 1) rfl (by omega) hL dL_law_179 ?_
  refine lv_aload_n hx hb dL_law_180 rfl (lv_at hl 1 rfl) ?_
  refine lv_iload hx hb dL_law_181 (lv_at hl 0 rfl) ?_
  refine lv_iconst (v := 2) hx hb dL_law_183 (by decide) ?_
  refine lv_iadd hx hb dL_law_184 ?_
  refine tp_i (y := nI (i + 2)) (nI_add i 2) ?_
  refine ga_sld hx hb hX hbl hbA hS (i + 2) rfl (by omega) hL dL_law_185 ?_
  refine mu_callLi (va_runV (As := [.int (xs (i + 1)), .int (xs (i + 2))]) (rest := []) ⟨hx, hb, hml, hown, hts⟩ hM1 (cwV 2 hts gL_law_X5_row rfl rfl rfl (by decide +kernel) ⟨Nat.le_of_ble_eq_true rfl, Nat.le_of_ble_eq_true rfl⟩) (wd_preV (ci := 5) (q0 := 0) hH.1 hK rfl hf1) rfl rfl hl.1 rfl (lv_room (Nat.le_of_ble_eq_true rfl)) dL_law_186 ⟨show 40 + i + 0 ≤ 603072 by omega, show 5000 + 6 * i + 0 ≤ 7262314 by omega⟩) hS (fun q hq => by obtain ⟨z, hz, rfl⟩ := hq; exact hc9.2.2.2.2.2.1 z hz) (fun H locs hP hS hk => ?_)
  have hH := hH.c hc9 hsim hk hP
  refine lv_aload_n hx hb dL_law_189 rfl (lv_at hl 3 rfl) ?_
  refine lv_aload_n hx hb dL_law_190 rfl (lv_at hl 1 rfl) ?_
  refine lv_iload hx hb dL_law_191 (lv_at hl 0 rfl) ?_
  refine lv_iconst (v := 1) hx hb dL_law_193 (by decide) ?_
  refine lv_iadd hx hb dL_law_194 ?_
  refine tp_i (y := nI (i + 1)) (nI_add i 1) ?_
  refine ga_sld hx hb hX hbl hbA hS (i + 1) rfl (by omega) hL dL_law_195 ?_
  refine lv_aload_n hx hb dL_law_196 rfl (lv_at hl 1 rfl) ?_
  refine lv_iload hx hb dL_law_197 (lv_at hl 0 rfl) ?_
  refine lv_iconst (v := 2) hx hb dL_law_199 (by decide) ?_
  refine lv_iadd hx hb dL_law_200 ?_
  refine tp_i (y := nI (i + 2)) (nI_add i 2) ?_
  refine ga_sld hx hb hX hbl hbA hS (i + 2) rfl (by omega) hL dL_law_201 ?_
  refine mu_callLi (va_runV (As := [.int (xs (i + 1)), .int (xs (i + 2))]) (rest := [.int r]) ⟨hx, hb, hml, hown, hts⟩ hM2 (cwV 2 hts gL_law_X6_row rfl rfl rfl (by decide +kernel) ⟨Nat.le_of_ble_eq_true rfl, Nat.le_of_ble_eq_true rfl⟩) (wd_preV (ci := 6) (q0 := 0) hH.2.1 hK rfl hf2) rfl rfl hl.1 rfl (lv_room (Nat.le_of_ble_eq_true rfl)) dL_law_202 ⟨show 40 + i + 0 ≤ 603072 by omega, show 5000 + 6 * i + 0 ≤ 7262314 by omega⟩) hS (fun q hq => by obtain ⟨z, hz, rfl⟩ := hq; exact hc9.2.2.2.2.2.2.1 z hz) (fun H locs hP hS hk => ?_)
  have hH := hH.m hc9 hsi rfl hk hP
  refine lv_icmp_eq (tgt := 879) hx hb dL_law_205 (by decide) (fun _ => ?_) (fun h9 => absurd rfl h9)
  refine W.widen (k := 41 + i) (n := 5006 + 6 * i) (by omega) (by omega) ?_
  exact kk _ _ _ H locs ls hsi hH hS hl
set_option maxHeartbeats 4000000 in
set_option maxRecDepth 100000 in
theorem lcase_2 {p : Program} {l : Launch} {e : Env} {s : State} {m : MethodId} {below : List Frame} {meth : Method} {c : Code} {D : va_G} {cI cJ : ClassId} {h g : Nat → Nat} {oA b L : Nat} {xs : Nat → Int32} {Q : State → Prop} (hL : L ≤ 3072) (hx : p.tables.exec = Jvm.exec) (hb : c.code = code) (hml : c.maxLocals = 8) (hown : s.vm.findClass RL = some m.cls) (hts : ∀ w ∈ wsL_law, w.before #[Value.ref b] s = true) (hX : va_X b L xs s s.heap) (hbl : b < s.heap.size) (hc9 : lc h g oA s.heap.size) (hK : wd_K D cI cJ s) {i : Nat} (hi : i + 6 ≤ L) (kk : ∀ (w9 m9 : va_W) (fo9 : Nat → Int64) (H : Heap) (locs : List Loc) (ls : Array Slot), SIM cI cJ h g w9 m9 → lH D cJ oA w9 m9 fo9 H → va_S (fun q : Nat => s.heap.size ≤ q) s.heap H locs → lv_has ls 8 [(4, .int (nI i)), (0, .ref b), (1, .ref (h 0)), (2, .ref (g 0)), (3, .ref oA)] → W p l e room_1 s m #[Value.ref b] below meth c H locs (41 + i) (5006 + 6 * i) Q (F0 m 879 ls [])) {w9 m9 : va_W} {fo9 : Nat → Int64} {H : Heap} {locs : List Loc} {ls : Array Slot} (hsim : SIM cI cJ h g w9 m9) (hH : lH D cJ oA w9 m9 fo9 H) (hS : va_S (fun q : Nat => s.heap.size ≤ q) s.heap H locs) (hl : lv_has ls 8 [(4, .int (nI i)), (0, .ref b), (1, .ref (h 0)), (2, .ref (g 0)), (3, .ref oA)]) : W p l e room_1 s m #[Value.ref b] below meth c H locs (40 + i) (5000 + 6 * i) Q (F0 m 210 ls []) := by
  obtain ⟨r, w', m', hM1, hM2, hsi⟩ := sim_is (l := l) (D := D) hc9.1 hc9.2.1 hsim (xs (i + 1)) (xs (i + 2))
  obtain ⟨⟨f1, hf1⟩, ⟨f2, hf2⟩, -, -⟩ := sim_c hsim
  have hbA : ¬ (fun q : Nat => s.heap.size ≤ q) b := Nat.not_le.mpr hbl
  refine lv_aload_n hx hb dL_law_210 rfl (lv_at hl 2 rfl) ?_
  refine lv_aload_n hx hb dL_law_211 rfl (lv_at hl 1 rfl) ?_
  refine lv_iload hx hb dL_law_212 (lv_at hl 0 rfl) ?_
  refine lv_iconst (v := 1) hx hb dL_law_214 (by decide) ?_
  refine lv_iadd hx hb dL_law_215 ?_
  refine tp_i (y := nI (i + 1)) (nI_add i 1) ?_
  refine ga_sld hx hb hX hbl hbA hS (i + 1) rfl (by omega) hL dL_law_216 ?_
  refine lv_aload_n hx hb dL_law_217 rfl (lv_at hl 1 rfl) ?_
  refine lv_iload hx hb dL_law_218 (lv_at hl 0 rfl) ?_
  refine lv_iconst (v := 2) hx hb dL_law_220 (by decide) ?_
  refine lv_iadd hx hb dL_law_221 ?_
  refine tp_i (y := nI (i + 2)) (nI_add i 2) ?_
  refine ga_sld hx hb hX hbl hbA hS (i + 2) rfl (by omega) hL dL_law_222 ?_
  refine mu_callLi (va_runV (As := [.int (xs (i + 1)), .int (xs (i + 2))]) (rest := []) ⟨hx, hb, hml, hown, hts⟩ hM1 (cwV 2 hts gL_law_X5_is rfl rfl rfl (by decide +kernel) ⟨Nat.le_of_ble_eq_true rfl, Nat.le_of_ble_eq_true rfl⟩) (wd_preV (ci := 5) (q0 := 0) hH.1 hK rfl hf1) rfl rfl hl.1 rfl (lv_room (Nat.le_of_ble_eq_true rfl)) dL_law_223 ⟨show 40 + i + 0 ≤ 603072 by omega, show 5000 + 6 * i + 0 ≤ 7262314 by omega⟩) hS (fun q hq => by obtain ⟨z, hz, rfl⟩ := hq; exact hc9.2.2.2.2.2.1 z hz) (fun H locs hP hS hk => ?_)
  have hH := hH.c hc9 hsim hk hP
  refine lv_aload_n hx hb dL_law_226 rfl (lv_at hl 3 rfl) ?_
  refine lv_aload_n hx hb dL_law_227 rfl (lv_at hl 1 rfl) ?_
  refine lv_iload hx hb dL_law_228 (lv_at hl 0 rfl) ?_
  refine lv_iconst (v := 1) hx hb dL_law_230 (by decide) ?_
  refine lv_iadd hx hb dL_law_231 ?_
  refine tp_i (y := nI (i + 1)) (nI_add i 1) ?_
  refine ga_sld hx hb hX hbl hbA hS (i + 1) rfl (by omega) hL dL_law_232 ?_
  refine lv_aload_n hx hb dL_law_233 rfl (lv_at hl 1 rfl) ?_
  refine lv_iload hx hb dL_law_234 (lv_at hl 0 rfl) ?_
  refine lv_iconst (v := 2) hx hb dL_law_236 (by decide) ?_
  refine lv_iadd hx hb dL_law_237 ?_
  refine tp_i (y := nI (i + 2)) (nI_add i 2) ?_
  refine ga_sld hx hb hX hbl hbA hS (i + 2) rfl (by omega) hL dL_law_238 ?_
  refine mu_callLi (va_runV (As := [.int (xs (i + 1)), .int (xs (i + 2))]) (rest := [.int r]) ⟨hx, hb, hml, hown, hts⟩ hM2 (cwV 2 hts gL_law_X6_is rfl rfl rfl (by decide +kernel) ⟨Nat.le_of_ble_eq_true rfl, Nat.le_of_ble_eq_true rfl⟩) (wd_preV (ci := 6) (q0 := 0) hH.2.1 hK rfl hf2) rfl rfl hl.1 rfl (lv_room (Nat.le_of_ble_eq_true rfl)) dL_law_239 ⟨show 40 + i + 0 ≤ 603072 by omega, show 5000 + 6 * i + 0 ≤ 7262314 by omega⟩) hS (fun q hq => by obtain ⟨z, hz, rfl⟩ := hq; exact hc9.2.2.2.2.2.2.1 z hz) (fun H locs hP hS hk => ?_)
  have hH := hH.m hc9 hsi rfl hk hP
  refine lv_icmp_eq (tgt := 879) hx hb dL_law_242 (by decide) (fun _ => ?_) (fun h9 => absurd rfl h9)
  refine W.widen (k := 41 + i) (n := 5006 + 6 * i) (by omega) (by omega) ?_
  exact kk _ _ _ H locs ls hsi hH hS hl
set_option maxHeartbeats 4000000 in
set_option maxRecDepth 100000 in
theorem lcase_3 {p : Program} {l : Launch} {e : Env} {s : State} {m : MethodId} {below : List Frame} {meth : Method} {c : Code} {D : va_G} {cI cJ : ClassId} {h g : Nat → Nat} {oA b L : Nat} {xs : Nat → Int32} {Q : State → Prop} (hL : L ≤ 3072) (hx : p.tables.exec = Jvm.exec) (hb : c.code = code) (hml : c.maxLocals = 8) (hown : s.vm.findClass RL = some m.cls) (hts : ∀ w ∈ wsL_law, w.before #[Value.ref b] s = true) (hX : va_X b L xs s s.heap) (hbl : b < s.heap.size) (hc9 : lc h g oA s.heap.size) (hK : wd_K D cI cJ s) {i : Nat} (hi : i + 6 ≤ L) (kk : ∀ (w9 m9 : va_W) (fo9 : Nat → Int64) (H : Heap) (locs : List Loc) (ls : Array Slot), SIM cI cJ h g w9 m9 → lH D cJ oA w9 m9 fo9 H → va_S (fun q : Nat => s.heap.size ≤ q) s.heap H locs → lv_has ls 8 [(4, .int (nI i)), (0, .ref b), (1, .ref (h 0)), (2, .ref (g 0)), (3, .ref oA)] → W p l e room_1 s m #[Value.ref b] below meth c H locs (41 + i) (5006 + 6 * i) Q (F0 m 879 ls [])) {w9 m9 : va_W} {fo9 : Nat → Int64} {H : Heap} {locs : List Loc} {ls : Array Slot} (hsim : SIM cI cJ h g w9 m9) (hH : lH D cJ oA w9 m9 fo9 H) (hS : va_S (fun q : Nat => s.heap.size ≤ q) s.heap H locs) (hl : lv_has ls 8 [(4, .int (nI i)), (0, .ref b), (1, .ref (h 0)), (2, .ref (g 0)), (3, .ref oA)]) : W p l e room_1 s m #[Value.ref b] below meth c H locs (40 + i) (5000 + 6 * i) Q (F0 m 247 ls []) := by
  obtain ⟨r, w', m', hM1, hM2, hsi⟩ := sim_more (l := l) (D := D) hc9.1 hc9.2.1 hsim (xs (i + 1))
  obtain ⟨⟨f1, hf1⟩, ⟨f2, hf2⟩, -, -⟩ := sim_c hsim
  have hbA : ¬ (fun q : Nat => s.heap.size ≤ q) b := Nat.not_le.mpr hbl
  refine lv_aload_n hx hb dL_law_247 rfl (lv_at hl 2 rfl) ?_
  refine lv_aload_n hx hb dL_law_248 rfl (lv_at hl 1 rfl) ?_
  refine lv_iload hx hb dL_law_249 (lv_at hl 0 rfl) ?_
  refine lv_iconst (v := 1) hx hb dL_law_251 (by decide) ?_
  refine lv_iadd hx hb dL_law_252 ?_
  refine tp_i (y := nI (i + 1)) (nI_add i 1) ?_
  refine ga_sld hx hb hX hbl hbA hS (i + 1) rfl (by omega) hL dL_law_253 ?_
  refine mu_callLi (va_runV (As := [.int (xs (i + 1))]) (rest := []) ⟨hx, hb, hml, hown, hts⟩ hM1 (cwV 1 hts gL_law_X5_more rfl rfl rfl (by decide +kernel) ⟨Nat.le_of_ble_eq_true rfl, Nat.le_of_ble_eq_true rfl⟩) (wd_preV (ci := 5) (q0 := 0) hH.1 hK rfl hf1) rfl rfl hl.1 rfl (lv_room (Nat.le_of_ble_eq_true rfl)) dL_law_254 ⟨show 40 + i + 0 ≤ 603072 by omega, show 5000 + 6 * i + 0 ≤ 7262314 by omega⟩) hS (fun q hq => by obtain ⟨z, hz, rfl⟩ := hq; exact hc9.2.2.2.2.2.1 z hz) (fun H locs hP hS hk => ?_)
  have hH := hH.c hc9 hsim hk hP
  refine lv_aload_n hx hb dL_law_257 rfl (lv_at hl 3 rfl) ?_
  refine lv_aload_n hx hb dL_law_258 rfl (lv_at hl 1 rfl) ?_
  refine lv_iload hx hb dL_law_259 (lv_at hl 0 rfl) ?_
  refine lv_iconst (v := 1) hx hb dL_law_261 (by decide) ?_
  refine lv_iadd hx hb dL_law_262 ?_
  refine tp_i (y := nI (i + 1)) (nI_add i 1) ?_
  refine ga_sld hx hb hX hbl hbA hS (i + 1) rfl (by omega) hL dL_law_263 ?_
  refine mu_callLi (va_runV (As := [.int (xs (i + 1))]) (rest := [.int r]) ⟨hx, hb, hml, hown, hts⟩ hM2 (cwV 1 hts gL_law_X6_more rfl rfl rfl (by decide +kernel) ⟨Nat.le_of_ble_eq_true rfl, Nat.le_of_ble_eq_true rfl⟩) (wd_preV (ci := 6) (q0 := 0) hH.2.1 hK rfl hf2) rfl rfl hl.1 rfl (lv_room (Nat.le_of_ble_eq_true rfl)) dL_law_264 ⟨show 40 + i + 0 ≤ 603072 by omega, show 5000 + 6 * i + 0 ≤ 7262314 by omega⟩) hS (fun q hq => by obtain ⟨z, hz, rfl⟩ := hq; exact hc9.2.2.2.2.2.2.1 z hz) (fun H locs hP hS hk => ?_)
  have hH := hH.m hc9 hsi rfl hk hP
  refine lv_icmp_eq (tgt := 879) hx hb dL_law_267 (by decide) (fun _ => ?_) (fun h9 => absurd rfl h9)
  refine W.widen (k := 41 + i) (n := 5006 + 6 * i) (by omega) (by omega) ?_
  exact kk _ _ _ H locs ls hsi hH hS hl
set_option maxHeartbeats 4000000 in
set_option maxRecDepth 100000 in
theorem lcase_4 {p : Program} {l : Launch} {e : Env} {s : State} {m : MethodId} {below : List Frame} {meth : Method} {c : Code} {D : va_G} {cI cJ : ClassId} {h g : Nat → Nat} {oA b L : Nat} {xs : Nat → Int32} {Q : State → Prop} (hL : L ≤ 3072) (hx : p.tables.exec = Jvm.exec) (hb : c.code = code) (hml : c.maxLocals = 8) (hown : s.vm.findClass RL = some m.cls) (hts : ∀ w ∈ wsL_law, w.before #[Value.ref b] s = true) (hX : va_X b L xs s s.heap) (hbl : b < s.heap.size) (hc9 : lc h g oA s.heap.size) (hK : wd_K D cI cJ s) {i : Nat} (hi : i + 6 ≤ L) (kk : ∀ (w9 m9 : va_W) (fo9 : Nat → Int64) (H : Heap) (locs : List Loc) (ls : Array Slot), SIM cI cJ h g w9 m9 → lH D cJ oA w9 m9 fo9 H → va_S (fun q : Nat => s.heap.size ≤ q) s.heap H locs → lv_has ls 8 [(4, .int (nI i)), (0, .ref b), (1, .ref (h 0)), (2, .ref (g 0)), (3, .ref oA)] → W p l e room_1 s m #[Value.ref b] below meth c H locs (41 + i) (5006 + 6 * i) Q (F0 m 879 ls [])) {w9 m9 : va_W} {fo9 : Nat → Int64} {H : Heap} {locs : List Loc} {ls : Array Slot} (hsim : SIM cI cJ h g w9 m9) (hH : lH D cJ oA w9 m9 fo9 H) (hS : va_S (fun q : Nat => s.heap.size ≤ q) s.heap H locs) (hl : lv_has ls 8 [(4, .int (nI i)), (0, .ref b), (1, .ref (h 0)), (2, .ref (g 0)), (3, .ref oA)]) : W p l e room_1 s m #[Value.ref b] below meth c H locs (40 + i) (5000 + 6 * i) Q (F0 m 272 ls []) := by
  obtain ⟨r, w', m', hM1, hM2, hsi⟩ := sim_weight (l := l) (D := D) hc9.1 hc9.2.1 hsim (xs (i + 1)) (xs (i + 2))
  obtain ⟨⟨f1, hf1⟩, ⟨f2, hf2⟩, -, -⟩ := sim_c hsim
  have hbA : ¬ (fun q : Nat => s.heap.size ≤ q) b := Nat.not_le.mpr hbl
  refine lv_aload_n hx hb dL_law_272 rfl (lv_at hl 2 rfl) ?_
  refine lv_aload_n hx hb dL_law_273 rfl (lv_at hl 1 rfl) ?_
  refine lv_iload hx hb dL_law_274 (lv_at hl 0 rfl) ?_
  refine lv_iconst (v := 1) hx hb dL_law_276 (by decide) ?_
  refine lv_iadd hx hb dL_law_277 ?_
  refine tp_i (y := nI (i + 1)) (nI_add i 1) ?_
  refine ga_sld hx hb hX hbl hbA hS (i + 1) rfl (by omega) hL dL_law_278 ?_
  refine lv_aload_n hx hb dL_law_279 rfl (lv_at hl 1 rfl) ?_
  refine lv_iload hx hb dL_law_280 (lv_at hl 0 rfl) ?_
  refine lv_iconst (v := 2) hx hb dL_law_282 (by decide) ?_
  refine lv_iadd hx hb dL_law_283 ?_
  refine tp_i (y := nI (i + 2)) (nI_add i 2) ?_
  refine ga_sld hx hb hX hbl hbA hS (i + 2) rfl (by omega) hL dL_law_284 ?_
  refine mu_callLi (va_runV (As := [.int (xs (i + 1)), .int (xs (i + 2))]) (rest := []) ⟨hx, hb, hml, hown, hts⟩ hM1 (cwV 2 hts gL_law_X5_weight rfl rfl rfl (by decide +kernel) ⟨Nat.le_of_ble_eq_true rfl, Nat.le_of_ble_eq_true rfl⟩) (wd_preV (ci := 5) (q0 := 0) hH.1 hK rfl hf1) rfl rfl hl.1 rfl (lv_room (Nat.le_of_ble_eq_true rfl)) dL_law_285 ⟨show 40 + i + 0 ≤ 603072 by omega, show 5000 + 6 * i + 0 ≤ 7262314 by omega⟩) hS (fun q hq => by obtain ⟨z, hz, rfl⟩ := hq; exact hc9.2.2.2.2.2.1 z hz) (fun H locs hP hS hk => ?_)
  have hH := hH.c hc9 hsim hk hP
  refine lv_aload_n hx hb dL_law_288 rfl (lv_at hl 3 rfl) ?_
  refine lv_aload_n hx hb dL_law_289 rfl (lv_at hl 1 rfl) ?_
  refine lv_iload hx hb dL_law_290 (lv_at hl 0 rfl) ?_
  refine lv_iconst (v := 1) hx hb dL_law_292 (by decide) ?_
  refine lv_iadd hx hb dL_law_293 ?_
  refine tp_i (y := nI (i + 1)) (nI_add i 1) ?_
  refine ga_sld hx hb hX hbl hbA hS (i + 1) rfl (by omega) hL dL_law_294 ?_
  refine lv_aload_n hx hb dL_law_295 rfl (lv_at hl 1 rfl) ?_
  refine lv_iload hx hb dL_law_296 (lv_at hl 0 rfl) ?_
  refine lv_iconst (v := 2) hx hb dL_law_298 (by decide) ?_
  refine lv_iadd hx hb dL_law_299 ?_
  refine tp_i (y := nI (i + 2)) (nI_add i 2) ?_
  refine ga_sld hx hb hX hbl hbA hS (i + 2) rfl (by omega) hL dL_law_300 ?_
  refine mu_callLi (va_runV (As := [.int (xs (i + 1)), .int (xs (i + 2))]) (rest := [.int r]) ⟨hx, hb, hml, hown, hts⟩ hM2 (cwV 2 hts gL_law_X6_weight rfl rfl rfl (by decide +kernel) ⟨Nat.le_of_ble_eq_true rfl, Nat.le_of_ble_eq_true rfl⟩) (wd_preV (ci := 6) (q0 := 0) hH.2.1 hK rfl hf2) rfl rfl hl.1 rfl (lv_room (Nat.le_of_ble_eq_true rfl)) dL_law_301 ⟨show 40 + i + 0 ≤ 603072 by omega, show 5000 + 6 * i + 0 ≤ 7262314 by omega⟩) hS (fun q hq => by obtain ⟨z, hz, rfl⟩ := hq; exact hc9.2.2.2.2.2.2.1 z hz) (fun H locs hP hS hk => ?_)
  have hH := hH.m hc9 hsi rfl hk hP
  refine lv_icmp_eq (tgt := 879) hx hb dL_law_304 (by decide) (fun _ => ?_) (fun h9 => absurd rfl h9)
  refine W.widen (k := 41 + i) (n := 5006 + 6 * i) (by omega) (by omega) ?_
  exact kk _ _ _ H locs ls hsi hH hS hl
set_option maxHeartbeats 4000000 in
set_option maxRecDepth 100000 in
theorem lcase_5 {p : Program} {l : Launch} {e : Env} {s : State} {m : MethodId} {below : List Frame} {meth : Method} {c : Code} {D : va_G} {cI cJ : ClassId} {h g : Nat → Nat} {oA b L : Nat} {xs : Nat → Int32} {Q : State → Prop} (hL : L ≤ 3072) (hx : p.tables.exec = Jvm.exec) (hb : c.code = code) (hml : c.maxLocals = 8) (hown : s.vm.findClass RL = some m.cls) (hts : ∀ w ∈ wsL_law, w.before #[Value.ref b] s = true) (hX : va_X b L xs s s.heap) (hbl : b < s.heap.size) (hc9 : lc h g oA s.heap.size) (hK : wd_K D cI cJ s) {i : Nat} (hi : i + 6 ≤ L) (kk : ∀ (w9 m9 : va_W) (fo9 : Nat → Int64) (H : Heap) (locs : List Loc) (ls : Array Slot), SIM cI cJ h g w9 m9 → lH D cJ oA w9 m9 fo9 H → va_S (fun q : Nat => s.heap.size ≤ q) s.heap H locs → lv_has ls 8 [(4, .int (nI i)), (0, .ref b), (1, .ref (h 0)), (2, .ref (g 0)), (3, .ref oA)] → W p l e room_1 s m #[Value.ref b] below meth c H locs (41 + i) (5006 + 6 * i) Q (F0 m 879 ls [])) {w9 m9 : va_W} {fo9 : Nat → Int64} {H : Heap} {locs : List Loc} {ls : Array Slot} (hsim : SIM cI cJ h g w9 m9) (hH : lH D cJ oA w9 m9 fo9 H) (hS : va_S (fun q : Nat => s.heap.size ≤ q) s.heap H locs) (hl : lv_has ls 8 [(4, .int (nI i)), (0, .ref b), (1, .ref (h 0)), (2, .ref (g 0)), (3, .ref oA)]) : W p l e room_1 s m #[Value.ref b] below meth c H locs (40 + i) (5000 + 6 * i) Q (F0 m 309 ls []) := by
  obtain ⟨r, w', m', hM1, hM2, hsi⟩ := sim_length (l := l) (D := D) hc9.1 hc9.2.1 hsim (xs (i + 1)) (xs (i + 2))
  obtain ⟨⟨f1, hf1⟩, ⟨f2, hf2⟩, -, -⟩ := sim_c hsim
  have hbA : ¬ (fun q : Nat => s.heap.size ≤ q) b := Nat.not_le.mpr hbl
  refine lv_aload_n hx hb dL_law_309 rfl (lv_at hl 2 rfl) ?_
  refine lv_aload_n hx hb dL_law_310 rfl (lv_at hl 1 rfl) ?_
  refine lv_iload hx hb dL_law_311 (lv_at hl 0 rfl) ?_
  refine lv_iconst (v := 1) hx hb dL_law_313 (by decide) ?_
  refine lv_iadd hx hb dL_law_314 ?_
  refine tp_i (y := nI (i + 1)) (nI_add i 1) ?_
  refine ga_sld hx hb hX hbl hbA hS (i + 1) rfl (by omega) hL dL_law_315 ?_
  refine lv_aload_n hx hb dL_law_316 rfl (lv_at hl 1 rfl) ?_
  refine lv_iload hx hb dL_law_317 (lv_at hl 0 rfl) ?_
  refine lv_iconst (v := 2) hx hb dL_law_319 (by decide) ?_
  refine lv_iadd hx hb dL_law_320 ?_
  refine tp_i (y := nI (i + 2)) (nI_add i 2) ?_
  refine ga_sld hx hb hX hbl hbA hS (i + 2) rfl (by omega) hL dL_law_321 ?_
  refine mu_callLi (va_runV (As := [.int (xs (i + 1)), .int (xs (i + 2))]) (rest := []) ⟨hx, hb, hml, hown, hts⟩ hM1 (cwV 2 hts gL_law_X5_length rfl rfl rfl (by decide +kernel) ⟨Nat.le_of_ble_eq_true rfl, Nat.le_of_ble_eq_true rfl⟩) (wd_preV (ci := 5) (q0 := 0) hH.1 hK rfl hf1) rfl rfl hl.1 rfl (lv_room (Nat.le_of_ble_eq_true rfl)) dL_law_322 ⟨show 40 + i + 0 ≤ 603072 by omega, show 5000 + 6 * i + 0 ≤ 7262314 by omega⟩) hS (fun q hq => by obtain ⟨z, hz, rfl⟩ := hq; exact hc9.2.2.2.2.2.1 z hz) (fun H locs hP hS hk => ?_)
  have hH := hH.c hc9 hsim hk hP
  refine lv_aload_n hx hb dL_law_325 rfl (lv_at hl 3 rfl) ?_
  refine lv_aload_n hx hb dL_law_326 rfl (lv_at hl 1 rfl) ?_
  refine lv_iload hx hb dL_law_327 (lv_at hl 0 rfl) ?_
  refine lv_iconst (v := 1) hx hb dL_law_329 (by decide) ?_
  refine lv_iadd hx hb dL_law_330 ?_
  refine tp_i (y := nI (i + 1)) (nI_add i 1) ?_
  refine ga_sld hx hb hX hbl hbA hS (i + 1) rfl (by omega) hL dL_law_331 ?_
  refine lv_aload_n hx hb dL_law_332 rfl (lv_at hl 1 rfl) ?_
  refine lv_iload hx hb dL_law_333 (lv_at hl 0 rfl) ?_
  refine lv_iconst (v := 2) hx hb dL_law_335 (by decide) ?_
  refine lv_iadd hx hb dL_law_336 ?_
  refine tp_i (y := nI (i + 2)) (nI_add i 2) ?_
  refine ga_sld hx hb hX hbl hbA hS (i + 2) rfl (by omega) hL dL_law_337 ?_
  refine mu_callLi (va_runV (As := [.int (xs (i + 1)), .int (xs (i + 2))]) (rest := [.int r]) ⟨hx, hb, hml, hown, hts⟩ hM2 (cwV 2 hts gL_law_X6_length rfl rfl rfl (by decide +kernel) ⟨Nat.le_of_ble_eq_true rfl, Nat.le_of_ble_eq_true rfl⟩) (wd_preV (ci := 6) (q0 := 0) hH.2.1 hK rfl hf2) rfl rfl hl.1 rfl (lv_room (Nat.le_of_ble_eq_true rfl)) dL_law_338 ⟨show 40 + i + 0 ≤ 603072 by omega, show 5000 + 6 * i + 0 ≤ 7262314 by omega⟩) hS (fun q hq => by obtain ⟨z, hz, rfl⟩ := hq; exact hc9.2.2.2.2.2.2.1 z hz) (fun H locs hP hS hk => ?_)
  have hH := hH.m hc9 hsi rfl hk hP
  refine lv_icmp_eq (tgt := 879) hx hb dL_law_341 (by decide) (fun _ => ?_) (fun h9 => absurd rfl h9)
  refine W.widen (k := 41 + i) (n := 5006 + 6 * i) (by omega) (by omega) ?_
  exact kk _ _ _ H locs ls hsi hH hS hl
set_option maxHeartbeats 4000000 in
set_option maxRecDepth 100000 in
theorem lcase_6 {p : Program} {l : Launch} {e : Env} {s : State} {m : MethodId} {below : List Frame} {meth : Method} {c : Code} {D : va_G} {cI cJ : ClassId} {h g : Nat → Nat} {oA b L : Nat} {xs : Nat → Int32} {Q : State → Prop} (hL : L ≤ 3072) (hx : p.tables.exec = Jvm.exec) (hb : c.code = code) (hml : c.maxLocals = 8) (hown : s.vm.findClass RL = some m.cls) (hts : ∀ w ∈ wsL_law, w.before #[Value.ref b] s = true) (hX : va_X b L xs s s.heap) (hbl : b < s.heap.size) (hc9 : lc h g oA s.heap.size) (hK : wd_K D cI cJ s) {i : Nat} (hi : i + 6 ≤ L) (kk : ∀ (w9 m9 : va_W) (fo9 : Nat → Int64) (H : Heap) (locs : List Loc) (ls : Array Slot), SIM cI cJ h g w9 m9 → lH D cJ oA w9 m9 fo9 H → va_S (fun q : Nat => s.heap.size ≤ q) s.heap H locs → lv_has ls 8 [(4, .int (nI i)), (0, .ref b), (1, .ref (h 0)), (2, .ref (g 0)), (3, .ref oA)] → W p l e room_1 s m #[Value.ref b] below meth c H locs (41 + i) (5006 + 6 * i) Q (F0 m 879 ls [])) {w9 m9 : va_W} {fo9 : Nat → Int64} {H : Heap} {locs : List Loc} {ls : Array Slot} (hsim : SIM cI cJ h g w9 m9) (hH : lH D cJ oA w9 m9 fo9 H) (hS : va_S (fun q : Nat => s.heap.size ≤ q) s.heap H locs) (hl : lv_has ls 8 [(4, .int (nI i)), (0, .ref b), (1, .ref (h 0)), (2, .ref (g 0)), (3, .ref oA)]) : W p l e room_1 s m #[Value.ref b] below meth c H locs (40 + i) (5000 + 6 * i) Q (F0 m 346 ls []) := by
  obtain ⟨r, w', m', hM1, hM2, hsi⟩ := sim_put (l := l) (D := D) hc9.1 hc9.2.1 hsim (xs (i + 1)) (xs (i + 2)) (xs (i + 3)) ((Int32.toInt64 (xs (i + 4)) <<< (Int32.toInt64 32 &&& 63)) ||| (Int32.toInt64 (xs (i + 5)) &&& 4294967295))
  obtain ⟨⟨f1, hf1⟩, ⟨f2, hf2⟩, -, -⟩ := sim_c hsim
  have hbA : ¬ (fun q : Nat => s.heap.size ≤ q) b := Nat.not_le.mpr hbl
  have kcl : Cond.constantLong RL 47 (4294967295) ∈ wsL_law := List.mem_append_left _ (List.mem_append_left _ (List.mem_append_left _ (List.mem_append_left _ (List.mem_append_left _ (List.mem_append_left _ (List.mem_append_left _ (List.mem_append_left _ (List.mem_append_left _ (List.mem_append_left _ (List.mem_append_left _ (List.mem_append_left _ (by decide +kernel))))))))))))
  refine lv_aload_n hx hb dL_law_346 rfl (lv_at hl 2 rfl) ?_
  refine lv_aload_n hx hb dL_law_347 rfl (lv_at hl 1 rfl) ?_
  refine lv_iload hx hb dL_law_348 (lv_at hl 0 rfl) ?_
  refine lv_iconst (v := 1) hx hb dL_law_350 (by decide) ?_
  refine lv_iadd hx hb dL_law_351 ?_
  refine tp_i (y := nI (i + 1)) (nI_add i 1) ?_
  refine ga_sld hx hb hX hbl hbA hS (i + 1) rfl (by omega) hL dL_law_352 ?_
  refine lv_aload_n hx hb dL_law_353 rfl (lv_at hl 1 rfl) ?_
  refine lv_iload hx hb dL_law_354 (lv_at hl 0 rfl) ?_
  refine lv_iconst (v := 2) hx hb dL_law_356 (by decide) ?_
  refine lv_iadd hx hb dL_law_357 ?_
  refine tp_i (y := nI (i + 2)) (nI_add i 2) ?_
  refine ga_sld hx hb hX hbl hbA hS (i + 2) rfl (by omega) hL dL_law_358 ?_
  refine lv_aload_n hx hb dL_law_359 rfl (lv_at hl 1 rfl) ?_
  refine lv_iload hx hb dL_law_360 (lv_at hl 0 rfl) ?_
  refine lv_iconst (v := 3) hx hb dL_law_362 (by decide) ?_
  refine lv_iadd hx hb dL_law_363 ?_
  refine tp_i (y := nI (i + 3)) (nI_add i 3) ?_
  refine ga_sld hx hb hX hbl hbA hS (i + 3) rfl (by omega) hL dL_law_364 ?_
  refine lv_aload_n hx hb dL_law_365 rfl (lv_at hl 1 rfl) ?_
  refine lv_iload hx hb dL_law_366 (lv_at hl 0 rfl) ?_
  refine lv_iconst (v := 4) hx hb dL_law_368 (by decide) ?_
  refine lv_iadd hx hb dL_law_369 ?_
  refine tp_i (y := nI (i + 4)) (nI_add i 4) ?_
  refine ga_sld hx hb hX hbl hbA hS (i + 4) rfl (by omega) hL dL_law_370 ?_
  refine lv_i2l (v := Int32.toInt64 (xs (i + 4))) hx hb dL_law_371 rfl ?_
  refine lv_bipush (v := 32) hx hb dL_law_372 (by decide) ?_
  refine lv_lshl (v := Int32.toInt64 (xs (i + 4)) <<< (Int32.toInt64 32 &&& 63)) hx hb dL_law_374 rfl ?_
  refine lv_aload_n hx hb dL_law_375 rfl (lv_at hl 1 rfl) ?_
  refine lv_iload hx hb dL_law_376 (lv_at hl 0 rfl) ?_
  refine lv_iconst (v := 5) hx hb dL_law_378 (by decide) ?_
  refine lv_iadd hx hb dL_law_379 ?_
  refine tp_i (y := nI (i + 5)) (nI_add i 5) ?_
  refine ga_sld hx hb hX hbl hbA hS (i + 5) rfl (by omega) hL dL_law_380 ?_
  refine lv_i2l (v := Int32.toInt64 (xs (i + 5))) hx hb dL_law_381 rfl ?_
  refine lv_ldc2 (v := 4294967295) hx hb hown (hts (.constantLong RL 47 (4294967295)) kcl) dL_law_382 ?_
  refine lv_land hx hb dL_law_385 ?_
  refine lv_lor hx hb dL_law_386 ?_
  refine mu_callLi (va_runV (As := [.int (xs (i + 1)), .int (xs (i + 2)), .int (xs (i + 3)), .long ((Int32.toInt64 (xs (i + 4)) <<< (Int32.toInt64 32 &&& 63)) ||| (Int32.toInt64 (xs (i + 5)) &&& 4294967295))]) (rest := []) ⟨hx, hb, hml, hown, hts⟩ hM1 (cwV 4 hts gL_law_X5_put rfl rfl rfl (by decide +kernel) ⟨Nat.le_of_ble_eq_true rfl, Nat.le_of_ble_eq_true rfl⟩) (wd_preV (ci := 5) (q0 := 0) hH.1 hK rfl hf1) rfl rfl hl.1 rfl (lv_room (Nat.le_of_ble_eq_true rfl)) dL_law_387 ⟨show 40 + i + 0 ≤ 603072 by omega, show 5000 + 6 * i + 0 ≤ 7262314 by omega⟩) hS (fun q hq => by obtain ⟨z, hz, rfl⟩ := hq; exact hc9.2.2.2.2.2.1 z hz) (fun H locs hP hS hk => ?_)
  have hH := hH.c hc9 hsim hk hP
  refine lv_aload_n hx hb dL_law_390 rfl (lv_at hl 3 rfl) ?_
  refine lv_aload_n hx hb dL_law_391 rfl (lv_at hl 1 rfl) ?_
  refine lv_iload hx hb dL_law_392 (lv_at hl 0 rfl) ?_
  refine lv_iconst (v := 1) hx hb dL_law_394 (by decide) ?_
  refine lv_iadd hx hb dL_law_395 ?_
  refine tp_i (y := nI (i + 1)) (nI_add i 1) ?_
  refine ga_sld hx hb hX hbl hbA hS (i + 1) rfl (by omega) hL dL_law_396 ?_
  refine lv_aload_n hx hb dL_law_397 rfl (lv_at hl 1 rfl) ?_
  refine lv_iload hx hb dL_law_398 (lv_at hl 0 rfl) ?_
  refine lv_iconst (v := 2) hx hb dL_law_400 (by decide) ?_
  refine lv_iadd hx hb dL_law_401 ?_
  refine tp_i (y := nI (i + 2)) (nI_add i 2) ?_
  refine ga_sld hx hb hX hbl hbA hS (i + 2) rfl (by omega) hL dL_law_402 ?_
  refine lv_aload_n hx hb dL_law_403 rfl (lv_at hl 1 rfl) ?_
  refine lv_iload hx hb dL_law_404 (lv_at hl 0 rfl) ?_
  refine lv_iconst (v := 3) hx hb dL_law_406 (by decide) ?_
  refine lv_iadd hx hb dL_law_407 ?_
  refine tp_i (y := nI (i + 3)) (nI_add i 3) ?_
  refine ga_sld hx hb hX hbl hbA hS (i + 3) rfl (by omega) hL dL_law_408 ?_
  refine lv_aload_n hx hb dL_law_409 rfl (lv_at hl 1 rfl) ?_
  refine lv_iload hx hb dL_law_410 (lv_at hl 0 rfl) ?_
  refine lv_iconst (v := 4) hx hb dL_law_412 (by decide) ?_
  refine lv_iadd hx hb dL_law_413 ?_
  refine tp_i (y := nI (i + 4)) (nI_add i 4) ?_
  refine ga_sld hx hb hX hbl hbA hS (i + 4) rfl (by omega) hL dL_law_414 ?_
  refine lv_i2l (v := Int32.toInt64 (xs (i + 4))) hx hb dL_law_415 rfl ?_
  refine lv_bipush (v := 32) hx hb dL_law_416 (by decide) ?_
  refine lv_lshl (v := Int32.toInt64 (xs (i + 4)) <<< (Int32.toInt64 32 &&& 63)) hx hb dL_law_418 rfl ?_
  refine lv_aload_n hx hb dL_law_419 rfl (lv_at hl 1 rfl) ?_
  refine lv_iload hx hb dL_law_420 (lv_at hl 0 rfl) ?_
  refine lv_iconst (v := 5) hx hb dL_law_422 (by decide) ?_
  refine lv_iadd hx hb dL_law_423 ?_
  refine tp_i (y := nI (i + 5)) (nI_add i 5) ?_
  refine ga_sld hx hb hX hbl hbA hS (i + 5) rfl (by omega) hL dL_law_424 ?_
  refine lv_i2l (v := Int32.toInt64 (xs (i + 5))) hx hb dL_law_425 rfl ?_
  refine lv_ldc2 (v := 4294967295) hx hb hown (hts (.constantLong RL 47 (4294967295)) kcl) dL_law_426 ?_
  refine lv_land hx hb dL_law_429 ?_
  refine lv_lor hx hb dL_law_430 ?_
  refine mu_callLi (va_runV (As := [.int (xs (i + 1)), .int (xs (i + 2)), .int (xs (i + 3)), .long ((Int32.toInt64 (xs (i + 4)) <<< (Int32.toInt64 32 &&& 63)) ||| (Int32.toInt64 (xs (i + 5)) &&& 4294967295))]) (rest := [.int r]) ⟨hx, hb, hml, hown, hts⟩ hM2 (cwV 4 hts gL_law_X6_put rfl rfl rfl (by decide +kernel) ⟨Nat.le_of_ble_eq_true rfl, Nat.le_of_ble_eq_true rfl⟩) (wd_preV (ci := 6) (q0 := 0) hH.2.1 hK rfl hf2) rfl rfl hl.1 rfl (lv_room (Nat.le_of_ble_eq_true rfl)) dL_law_431 ⟨show 40 + i + 0 ≤ 603072 by omega, show 5000 + 6 * i + 0 ≤ 7262314 by omega⟩) hS (fun q hq => by obtain ⟨z, hz, rfl⟩ := hq; exact hc9.2.2.2.2.2.2.1 z hz) (fun H locs hP hS hk => ?_)
  have hH := hH.m hc9 hsi rfl hk hP
  refine lv_icmp_eq (tgt := 879) hx hb dL_law_434 (by decide) (fun _ => ?_) (fun h9 => absurd rfl h9)
  refine W.widen (k := 41 + i) (n := 5006 + 6 * i) (by omega) (by omega) ?_
  exact kk _ _ _ H locs ls hsi hH hS hl
set_option maxHeartbeats 4000000 in
set_option maxRecDepth 100000 in
theorem lcase_8 {p : Program} {l : Launch} {e : Env} {s : State} {m : MethodId} {below : List Frame} {meth : Method} {c : Code} {D : va_G} {cI cJ : ClassId} {h g : Nat → Nat} {oA b L : Nat} {xs : Nat → Int32} {Q : State → Prop} (hL : L ≤ 3072) (hx : p.tables.exec = Jvm.exec) (hb : c.code = code) (hml : c.maxLocals = 8) (hown : s.vm.findClass RL = some m.cls) (hts : ∀ w ∈ wsL_law, w.before #[Value.ref b] s = true) (hX : va_X b L xs s s.heap) (hbl : b < s.heap.size) (hc9 : lc h g oA s.heap.size) (hK : wd_K D cI cJ s) {i : Nat} (hi : i + 6 ≤ L) (kk : ∀ (w9 m9 : va_W) (fo9 : Nat → Int64) (H : Heap) (locs : List Loc) (ls : Array Slot), SIM cI cJ h g w9 m9 → lH D cJ oA w9 m9 fo9 H → va_S (fun q : Nat => s.heap.size ≤ q) s.heap H locs → lv_has ls 8 [(4, .int (nI i)), (0, .ref b), (1, .ref (h 0)), (2, .ref (g 0)), (3, .ref oA)] → W p l e room_1 s m #[Value.ref b] below meth c H locs (41 + i) (5006 + 6 * i) Q (F0 m 879 ls [])) {w9 m9 : va_W} {fo9 : Nat → Int64} {H : Heap} {locs : List Loc} {ls : Array Slot} (hsim : SIM cI cJ h g w9 m9) (hH : lH D cJ oA w9 m9 fo9 H) (hS : va_S (fun q : Nat => s.heap.size ≤ q) s.heap H locs) (hl : lv_has ls 8 [(4, .int (nI i)), (0, .ref b), (1, .ref (h 0)), (2, .ref (g 0)), (3, .ref oA)]) : W p l e room_1 s m #[Value.ref b] below meth c H locs (40 + i) (5000 + 6 * i) Q (F0 m 518 ls []) := by
  obtain ⟨r, w', m', hM1, hM2, hsi⟩ := sim_lay (l := l) (D := D) hc9.1 hc9.2.1 hsim (xs (i + 1)) (xs (i + 2)) (xs (i + 3)) (xs (i + 4))
  obtain ⟨⟨f1, hf1⟩, ⟨f2, hf2⟩, -, -⟩ := sim_c hsim
  have hbA : ¬ (fun q : Nat => s.heap.size ≤ q) b := Nat.not_le.mpr hbl
  refine lv_aload_n hx hb dL_law_518 rfl (lv_at hl 2 rfl) ?_
  refine lv_aload_n hx hb dL_law_519 rfl (lv_at hl 1 rfl) ?_
  refine lv_iload hx hb dL_law_520 (lv_at hl 0 rfl) ?_
  refine lv_iconst (v := 1) hx hb dL_law_522 (by decide) ?_
  refine lv_iadd hx hb dL_law_523 ?_
  refine tp_i (y := nI (i + 1)) (nI_add i 1) ?_
  refine ga_sld hx hb hX hbl hbA hS (i + 1) rfl (by omega) hL dL_law_524 ?_
  refine lv_aload_n hx hb dL_law_525 rfl (lv_at hl 1 rfl) ?_
  refine lv_iload hx hb dL_law_526 (lv_at hl 0 rfl) ?_
  refine lv_iconst (v := 2) hx hb dL_law_528 (by decide) ?_
  refine lv_iadd hx hb dL_law_529 ?_
  refine tp_i (y := nI (i + 2)) (nI_add i 2) ?_
  refine ga_sld hx hb hX hbl hbA hS (i + 2) rfl (by omega) hL dL_law_530 ?_
  refine lv_aload_n hx hb dL_law_531 rfl (lv_at hl 1 rfl) ?_
  refine lv_iload hx hb dL_law_532 (lv_at hl 0 rfl) ?_
  refine lv_iconst (v := 3) hx hb dL_law_534 (by decide) ?_
  refine lv_iadd hx hb dL_law_535 ?_
  refine tp_i (y := nI (i + 3)) (nI_add i 3) ?_
  refine ga_sld hx hb hX hbl hbA hS (i + 3) rfl (by omega) hL dL_law_536 ?_
  refine lv_aload_n hx hb dL_law_537 rfl (lv_at hl 1 rfl) ?_
  refine lv_iload hx hb dL_law_538 (lv_at hl 0 rfl) ?_
  refine lv_iconst (v := 4) hx hb dL_law_540 (by decide) ?_
  refine lv_iadd hx hb dL_law_541 ?_
  refine tp_i (y := nI (i + 4)) (nI_add i 4) ?_
  refine ga_sld hx hb hX hbl hbA hS (i + 4) rfl (by omega) hL dL_law_542 ?_
  refine mu_callLi (va_runV (As := [.int (xs (i + 1)), .int (xs (i + 2)), .int (xs (i + 3)), .int (xs (i + 4))]) (rest := []) ⟨hx, hb, hml, hown, hts⟩ hM1 (cwV 4 hts gL_law_X5_lay rfl rfl rfl (by decide +kernel) ⟨Nat.le_of_ble_eq_true rfl, Nat.le_of_ble_eq_true rfl⟩) (wd_preV (ci := 5) (q0 := 0) hH.1 hK rfl hf1) rfl rfl hl.1 rfl (lv_room (Nat.le_of_ble_eq_true rfl)) dL_law_543 ⟨show 40 + i + 0 ≤ 603072 by omega, show 5000 + 6 * i + 0 ≤ 7262314 by omega⟩) hS (fun q hq => by obtain ⟨z, hz, rfl⟩ := hq; exact hc9.2.2.2.2.2.1 z hz) (fun H locs hP hS hk => ?_)
  have hH := hH.c hc9 hsim hk hP
  refine lv_aload_n hx hb dL_law_546 rfl (lv_at hl 3 rfl) ?_
  refine lv_aload_n hx hb dL_law_547 rfl (lv_at hl 1 rfl) ?_
  refine lv_iload hx hb dL_law_548 (lv_at hl 0 rfl) ?_
  refine lv_iconst (v := 1) hx hb dL_law_550 (by decide) ?_
  refine lv_iadd hx hb dL_law_551 ?_
  refine tp_i (y := nI (i + 1)) (nI_add i 1) ?_
  refine ga_sld hx hb hX hbl hbA hS (i + 1) rfl (by omega) hL dL_law_552 ?_
  refine lv_aload_n hx hb dL_law_553 rfl (lv_at hl 1 rfl) ?_
  refine lv_iload hx hb dL_law_554 (lv_at hl 0 rfl) ?_
  refine lv_iconst (v := 2) hx hb dL_law_556 (by decide) ?_
  refine lv_iadd hx hb dL_law_557 ?_
  refine tp_i (y := nI (i + 2)) (nI_add i 2) ?_
  refine ga_sld hx hb hX hbl hbA hS (i + 2) rfl (by omega) hL dL_law_558 ?_
  refine lv_aload_n hx hb dL_law_559 rfl (lv_at hl 1 rfl) ?_
  refine lv_iload hx hb dL_law_560 (lv_at hl 0 rfl) ?_
  refine lv_iconst (v := 3) hx hb dL_law_562 (by decide) ?_
  refine lv_iadd hx hb dL_law_563 ?_
  refine tp_i (y := nI (i + 3)) (nI_add i 3) ?_
  refine ga_sld hx hb hX hbl hbA hS (i + 3) rfl (by omega) hL dL_law_564 ?_
  refine lv_aload_n hx hb dL_law_565 rfl (lv_at hl 1 rfl) ?_
  refine lv_iload hx hb dL_law_566 (lv_at hl 0 rfl) ?_
  refine lv_iconst (v := 4) hx hb dL_law_568 (by decide) ?_
  refine lv_iadd hx hb dL_law_569 ?_
  refine tp_i (y := nI (i + 4)) (nI_add i 4) ?_
  refine ga_sld hx hb hX hbl hbA hS (i + 4) rfl (by omega) hL dL_law_570 ?_
  refine mu_callLi (va_runV (As := [.int (xs (i + 1)), .int (xs (i + 2)), .int (xs (i + 3)), .int (xs (i + 4))]) (rest := [.int r]) ⟨hx, hb, hml, hown, hts⟩ hM2 (cwV 4 hts gL_law_X6_lay rfl rfl rfl (by decide +kernel) ⟨Nat.le_of_ble_eq_true rfl, Nat.le_of_ble_eq_true rfl⟩) (wd_preV (ci := 6) (q0 := 0) hH.2.1 hK rfl hf2) rfl rfl hl.1 rfl (lv_room (Nat.le_of_ble_eq_true rfl)) dL_law_571 ⟨show 40 + i + 0 ≤ 603072 by omega, show 5000 + 6 * i + 0 ≤ 7262314 by omega⟩) hS (fun q hq => by obtain ⟨z, hz, rfl⟩ := hq; exact hc9.2.2.2.2.2.2.1 z hz) (fun H locs hP hS hk => ?_)
  have hH := hH.m hc9 hsi rfl hk hP
  refine lv_icmp_eq (tgt := 879) hx hb dL_law_574 (by decide) (fun _ => ?_) (fun h9 => absurd rfl h9)
  refine W.widen (k := 41 + i) (n := 5006 + 6 * i) (by omega) (by omega) ?_
  exact kk _ _ _ H locs ls hsi hH hS hl
set_option maxHeartbeats 4000000 in
set_option maxRecDepth 100000 in
theorem lcase_9 {p : Program} {l : Launch} {e : Env} {s : State} {m : MethodId} {below : List Frame} {meth : Method} {c : Code} {D : va_G} {cI cJ : ClassId} {h g : Nat → Nat} {oA b L : Nat} {xs : Nat → Int32} {Q : State → Prop} (hL : L ≤ 3072) (hx : p.tables.exec = Jvm.exec) (hb : c.code = code) (hml : c.maxLocals = 8) (hown : s.vm.findClass RL = some m.cls) (hts : ∀ w ∈ wsL_law, w.before #[Value.ref b] s = true) (hX : va_X b L xs s s.heap) (hbl : b < s.heap.size) (hc9 : lc h g oA s.heap.size) (hK : wd_K D cI cJ s) {i : Nat} (hi : i + 6 ≤ L) (kk : ∀ (w9 m9 : va_W) (fo9 : Nat → Int64) (H : Heap) (locs : List Loc) (ls : Array Slot), SIM cI cJ h g w9 m9 → lH D cJ oA w9 m9 fo9 H → va_S (fun q : Nat => s.heap.size ≤ q) s.heap H locs → lv_has ls 8 [(4, .int (nI i)), (0, .ref b), (1, .ref (h 0)), (2, .ref (g 0)), (3, .ref oA)] → W p l e room_1 s m #[Value.ref b] below meth c H locs (41 + i) (5006 + 6 * i) Q (F0 m 879 ls [])) {w9 m9 : va_W} {fo9 : Nat → Int64} {H : Heap} {locs : List Loc} {ls : Array Slot} (hsim : SIM cI cJ h g w9 m9) (hH : lH D cJ oA w9 m9 fo9 H) (hS : va_S (fun q : Nat => s.heap.size ≤ q) s.heap H locs) (hl : lv_has ls 8 [(4, .int (nI i)), (0, .ref b), (1, .ref (h 0)), (2, .ref (g 0)), (3, .ref oA)]) : W p l e room_1 s m #[Value.ref b] below meth c H locs (40 + i) (5000 + 6 * i) Q (F0 m 579 ls []) := by
  obtain ⟨r, w', m', hM1, hM2, hsi⟩ := sim_place (l := l) (D := D) hc9.1 hc9.2.1 hsim (xs (i + 1)) (xs (i + 2)) (xs (i + 3))
  obtain ⟨⟨f1, hf1⟩, ⟨f2, hf2⟩, -, -⟩ := sim_c hsim
  have hbA : ¬ (fun q : Nat => s.heap.size ≤ q) b := Nat.not_le.mpr hbl
  refine lv_aload_n hx hb dL_law_579 rfl (lv_at hl 2 rfl) ?_
  refine lv_aload_n hx hb dL_law_580 rfl (lv_at hl 1 rfl) ?_
  refine lv_iload hx hb dL_law_581 (lv_at hl 0 rfl) ?_
  refine lv_iconst (v := 1) hx hb dL_law_583 (by decide) ?_
  refine lv_iadd hx hb dL_law_584 ?_
  refine tp_i (y := nI (i + 1)) (nI_add i 1) ?_
  refine ga_sld hx hb hX hbl hbA hS (i + 1) rfl (by omega) hL dL_law_585 ?_
  refine lv_aload_n hx hb dL_law_586 rfl (lv_at hl 1 rfl) ?_
  refine lv_iload hx hb dL_law_587 (lv_at hl 0 rfl) ?_
  refine lv_iconst (v := 2) hx hb dL_law_589 (by decide) ?_
  refine lv_iadd hx hb dL_law_590 ?_
  refine tp_i (y := nI (i + 2)) (nI_add i 2) ?_
  refine ga_sld hx hb hX hbl hbA hS (i + 2) rfl (by omega) hL dL_law_591 ?_
  refine lv_aload_n hx hb dL_law_592 rfl (lv_at hl 1 rfl) ?_
  refine lv_iload hx hb dL_law_593 (lv_at hl 0 rfl) ?_
  refine lv_iconst (v := 3) hx hb dL_law_595 (by decide) ?_
  refine lv_iadd hx hb dL_law_596 ?_
  refine tp_i (y := nI (i + 3)) (nI_add i 3) ?_
  refine ga_sld hx hb hX hbl hbA hS (i + 3) rfl (by omega) hL dL_law_597 ?_
  refine mu_callLi (va_runV (As := [.int (xs (i + 1)), .int (xs (i + 2)), .int (xs (i + 3))]) (rest := []) ⟨hx, hb, hml, hown, hts⟩ hM1 (cwV 3 hts gL_law_X5_place rfl rfl rfl (by decide +kernel) ⟨Nat.le_of_ble_eq_true rfl, Nat.le_of_ble_eq_true rfl⟩) (wd_preV (ci := 5) (q0 := 0) hH.1 hK rfl hf1) rfl rfl hl.1 rfl (lv_room (Nat.le_of_ble_eq_true rfl)) dL_law_598 ⟨show 40 + i + 0 ≤ 603072 by omega, show 5000 + 6 * i + 0 ≤ 7262314 by omega⟩) hS (fun q hq => by obtain ⟨z, hz, rfl⟩ := hq; exact hc9.2.2.2.2.2.1 z hz) (fun H locs hP hS hk => ?_)
  have hH := hH.c hc9 hsim hk hP
  refine lv_aload_n hx hb dL_law_601 rfl (lv_at hl 3 rfl) ?_
  refine lv_aload_n hx hb dL_law_602 rfl (lv_at hl 1 rfl) ?_
  refine lv_iload hx hb dL_law_603 (lv_at hl 0 rfl) ?_
  refine lv_iconst (v := 1) hx hb dL_law_605 (by decide) ?_
  refine lv_iadd hx hb dL_law_606 ?_
  refine tp_i (y := nI (i + 1)) (nI_add i 1) ?_
  refine ga_sld hx hb hX hbl hbA hS (i + 1) rfl (by omega) hL dL_law_607 ?_
  refine lv_aload_n hx hb dL_law_608 rfl (lv_at hl 1 rfl) ?_
  refine lv_iload hx hb dL_law_609 (lv_at hl 0 rfl) ?_
  refine lv_iconst (v := 2) hx hb dL_law_611 (by decide) ?_
  refine lv_iadd hx hb dL_law_612 ?_
  refine tp_i (y := nI (i + 2)) (nI_add i 2) ?_
  refine ga_sld hx hb hX hbl hbA hS (i + 2) rfl (by omega) hL dL_law_613 ?_
  refine lv_aload_n hx hb dL_law_614 rfl (lv_at hl 1 rfl) ?_
  refine lv_iload hx hb dL_law_615 (lv_at hl 0 rfl) ?_
  refine lv_iconst (v := 3) hx hb dL_law_617 (by decide) ?_
  refine lv_iadd hx hb dL_law_618 ?_
  refine tp_i (y := nI (i + 3)) (nI_add i 3) ?_
  refine ga_sld hx hb hX hbl hbA hS (i + 3) rfl (by omega) hL dL_law_619 ?_
  refine mu_callLi (va_runV (As := [.int (xs (i + 1)), .int (xs (i + 2)), .int (xs (i + 3))]) (rest := [.int r]) ⟨hx, hb, hml, hown, hts⟩ hM2 (cwV 3 hts gL_law_X6_place rfl rfl rfl (by decide +kernel) ⟨Nat.le_of_ble_eq_true rfl, Nat.le_of_ble_eq_true rfl⟩) (wd_preV (ci := 6) (q0 := 0) hH.2.1 hK rfl hf2) rfl rfl hl.1 rfl (lv_room (Nat.le_of_ble_eq_true rfl)) dL_law_620 ⟨show 40 + i + 0 ≤ 603072 by omega, show 5000 + 6 * i + 0 ≤ 7262314 by omega⟩) hS (fun q hq => by obtain ⟨z, hz, rfl⟩ := hq; exact hc9.2.2.2.2.2.2.1 z hz) (fun H locs hP hS hk => ?_)
  have hH := hH.m hc9 hsi rfl hk hP
  refine lv_icmp_eq (tgt := 879) hx hb dL_law_623 (by decide) (fun _ => ?_) (fun h9 => absurd rfl h9)
  refine W.widen (k := 41 + i) (n := 5006 + 6 * i) (by omega) (by omega) ?_
  exact kk _ _ _ H locs ls hsi hH hS hl
set_option maxHeartbeats 4000000 in
set_option maxRecDepth 100000 in
theorem lcase_10 {p : Program} {l : Launch} {e : Env} {s : State} {m : MethodId} {below : List Frame} {meth : Method} {c : Code} {D : va_G} {cI cJ : ClassId} {h g : Nat → Nat} {oA b L : Nat} {xs : Nat → Int32} {Q : State → Prop} (hL : L ≤ 3072) (hx : p.tables.exec = Jvm.exec) (hb : c.code = code) (hml : c.maxLocals = 8) (hown : s.vm.findClass RL = some m.cls) (hts : ∀ w ∈ wsL_law, w.before #[Value.ref b] s = true) (hX : va_X b L xs s s.heap) (hbl : b < s.heap.size) (hc9 : lc h g oA s.heap.size) (hK : wd_K D cI cJ s) {i : Nat} (hi : i + 6 ≤ L) (kk : ∀ (w9 m9 : va_W) (fo9 : Nat → Int64) (H : Heap) (locs : List Loc) (ls : Array Slot), SIM cI cJ h g w9 m9 → lH D cJ oA w9 m9 fo9 H → va_S (fun q : Nat => s.heap.size ≤ q) s.heap H locs → lv_has ls 8 [(4, .int (nI i)), (0, .ref b), (1, .ref (h 0)), (2, .ref (g 0)), (3, .ref oA)] → W p l e room_1 s m #[Value.ref b] below meth c H locs (41 + i) (5006 + 6 * i) Q (F0 m 879 ls [])) {w9 m9 : va_W} {fo9 : Nat → Int64} {H : Heap} {locs : List Loc} {ls : Array Slot} (hsim : SIM cI cJ h g w9 m9) (hH : lH D cJ oA w9 m9 fo9 H) (hS : va_S (fun q : Nat => s.heap.size ≤ q) s.heap H locs) (hl : lv_has ls 8 [(4, .int (nI i)), (0, .ref b), (1, .ref (h 0)), (2, .ref (g 0)), (3, .ref oA)]) : W p l e room_1 s m #[Value.ref b] below meth c H locs (40 + i) (5000 + 6 * i) Q (F0 m 628 ls []) := by
  obtain ⟨r, w', m', hM1, hM2, hsi⟩ := sim_station (l := l) (D := D) hc9.1 hc9.2.1 hsim (xs (i + 1)) (xs (i + 2))
  obtain ⟨⟨f1, hf1⟩, ⟨f2, hf2⟩, -, -⟩ := sim_c hsim
  have hbA : ¬ (fun q : Nat => s.heap.size ≤ q) b := Nat.not_le.mpr hbl
  refine lv_aload_n hx hb dL_law_628 rfl (lv_at hl 2 rfl) ?_
  refine lv_aload_n hx hb dL_law_629 rfl (lv_at hl 1 rfl) ?_
  refine lv_iload hx hb dL_law_630 (lv_at hl 0 rfl) ?_
  refine lv_iconst (v := 1) hx hb dL_law_632 (by decide) ?_
  refine lv_iadd hx hb dL_law_633 ?_
  refine tp_i (y := nI (i + 1)) (nI_add i 1) ?_
  refine ga_sld hx hb hX hbl hbA hS (i + 1) rfl (by omega) hL dL_law_634 ?_
  refine lv_aload_n hx hb dL_law_635 rfl (lv_at hl 1 rfl) ?_
  refine lv_iload hx hb dL_law_636 (lv_at hl 0 rfl) ?_
  refine lv_iconst (v := 2) hx hb dL_law_638 (by decide) ?_
  refine lv_iadd hx hb dL_law_639 ?_
  refine tp_i (y := nI (i + 2)) (nI_add i 2) ?_
  refine ga_sld hx hb hX hbl hbA hS (i + 2) rfl (by omega) hL dL_law_640 ?_
  refine mu_callLi (va_runV (As := [.int (xs (i + 1)), .int (xs (i + 2))]) (rest := []) ⟨hx, hb, hml, hown, hts⟩ hM1 (cwV 2 hts gL_law_X5_station rfl rfl rfl (by decide +kernel) ⟨Nat.le_of_ble_eq_true rfl, Nat.le_of_ble_eq_true rfl⟩) (wd_preV (ci := 5) (q0 := 0) hH.1 hK rfl hf1) rfl rfl hl.1 rfl (lv_room (Nat.le_of_ble_eq_true rfl)) dL_law_641 ⟨show 40 + i + 0 ≤ 603072 by omega, show 5000 + 6 * i + 0 ≤ 7262314 by omega⟩) hS (fun q hq => by obtain ⟨z, hz, rfl⟩ := hq; exact hc9.2.2.2.2.2.1 z hz) (fun H locs hP hS hk => ?_)
  have hH := hH.c hc9 hsim hk hP
  refine lv_aload_n hx hb dL_law_644 rfl (lv_at hl 3 rfl) ?_
  refine lv_aload_n hx hb dL_law_645 rfl (lv_at hl 1 rfl) ?_
  refine lv_iload hx hb dL_law_646 (lv_at hl 0 rfl) ?_
  refine lv_iconst (v := 1) hx hb dL_law_648 (by decide) ?_
  refine lv_iadd hx hb dL_law_649 ?_
  refine tp_i (y := nI (i + 1)) (nI_add i 1) ?_
  refine ga_sld hx hb hX hbl hbA hS (i + 1) rfl (by omega) hL dL_law_650 ?_
  refine lv_aload_n hx hb dL_law_651 rfl (lv_at hl 1 rfl) ?_
  refine lv_iload hx hb dL_law_652 (lv_at hl 0 rfl) ?_
  refine lv_iconst (v := 2) hx hb dL_law_654 (by decide) ?_
  refine lv_iadd hx hb dL_law_655 ?_
  refine tp_i (y := nI (i + 2)) (nI_add i 2) ?_
  refine ga_sld hx hb hX hbl hbA hS (i + 2) rfl (by omega) hL dL_law_656 ?_
  refine mu_callLi (va_runV (As := [.int (xs (i + 1)), .int (xs (i + 2))]) (rest := [.int r]) ⟨hx, hb, hml, hown, hts⟩ hM2 (cwV 2 hts gL_law_X6_station rfl rfl rfl (by decide +kernel) ⟨Nat.le_of_ble_eq_true rfl, Nat.le_of_ble_eq_true rfl⟩) (wd_preV (ci := 6) (q0 := 0) hH.2.1 hK rfl hf2) rfl rfl hl.1 rfl (lv_room (Nat.le_of_ble_eq_true rfl)) dL_law_657 ⟨show 40 + i + 0 ≤ 603072 by omega, show 5000 + 6 * i + 0 ≤ 7262314 by omega⟩) hS (fun q hq => by obtain ⟨z, hz, rfl⟩ := hq; exact hc9.2.2.2.2.2.2.1 z hz) (fun H locs hP hS hk => ?_)
  have hH := hH.m hc9 hsi rfl hk hP
  refine lv_icmp_eq (tgt := 879) hx hb dL_law_660 (by decide) (fun _ => ?_) (fun h9 => absurd rfl h9)
  refine W.widen (k := 41 + i) (n := 5006 + 6 * i) (by omega) (by omega) ?_
  exact kk _ _ _ H locs ls hsi hH hS hl
set_option maxHeartbeats 4000000 in
set_option maxRecDepth 100000 in
theorem lcase_11 {p : Program} {l : Launch} {e : Env} {s : State} {m : MethodId} {below : List Frame} {meth : Method} {c : Code} {D : va_G} {cI cJ : ClassId} {h g : Nat → Nat} {oA b L : Nat} {xs : Nat → Int32} {Q : State → Prop} (hL : L ≤ 3072) (hx : p.tables.exec = Jvm.exec) (hb : c.code = code) (hml : c.maxLocals = 8) (hown : s.vm.findClass RL = some m.cls) (hts : ∀ w ∈ wsL_law, w.before #[Value.ref b] s = true) (hX : va_X b L xs s s.heap) (hbl : b < s.heap.size) (hc9 : lc h g oA s.heap.size) (hK : wd_K D cI cJ s) {i : Nat} (hi : i + 6 ≤ L) (kk : ∀ (w9 m9 : va_W) (fo9 : Nat → Int64) (H : Heap) (locs : List Loc) (ls : Array Slot), SIM cI cJ h g w9 m9 → lH D cJ oA w9 m9 fo9 H → va_S (fun q : Nat => s.heap.size ≤ q) s.heap H locs → lv_has ls 8 [(4, .int (nI i)), (0, .ref b), (1, .ref (h 0)), (2, .ref (g 0)), (3, .ref oA)] → W p l e room_1 s m #[Value.ref b] below meth c H locs (41 + i) (5006 + 6 * i) Q (F0 m 879 ls [])) {w9 m9 : va_W} {fo9 : Nat → Int64} {H : Heap} {locs : List Loc} {ls : Array Slot} (hsim : SIM cI cJ h g w9 m9) (hH : lH D cJ oA w9 m9 fo9 H) (hS : va_S (fun q : Nat => s.heap.size ≤ q) s.heap H locs) (hl : lv_has ls 8 [(4, .int (nI i)), (0, .ref b), (1, .ref (h 0)), (2, .ref (g 0)), (3, .ref oA)]) : W p l e room_1 s m #[Value.ref b] below meth c H locs (40 + i) (5000 + 6 * i) Q (F0 m 665 ls []) := by
  obtain ⟨r, w', m', hM1, hM2, hsi⟩ := sim_send (l := l) (D := D) hc9.1 hc9.2.1 hsim (xs (i + 1))
  obtain ⟨⟨f1, hf1⟩, ⟨f2, hf2⟩, -, -⟩ := sim_c hsim
  have hbA : ¬ (fun q : Nat => s.heap.size ≤ q) b := Nat.not_le.mpr hbl
  refine lv_aload_n hx hb dL_law_665 rfl (lv_at hl 2 rfl) ?_
  refine lv_aload_n hx hb dL_law_666 rfl (lv_at hl 1 rfl) ?_
  refine lv_iload hx hb dL_law_667 (lv_at hl 0 rfl) ?_
  refine lv_iconst (v := 1) hx hb dL_law_669 (by decide) ?_
  refine lv_iadd hx hb dL_law_670 ?_
  refine tp_i (y := nI (i + 1)) (nI_add i 1) ?_
  refine ga_sld hx hb hX hbl hbA hS (i + 1) rfl (by omega) hL dL_law_671 ?_
  refine mu_callLi (va_runV (As := [.int (xs (i + 1))]) (rest := []) ⟨hx, hb, hml, hown, hts⟩ hM1 (cwV 1 hts gL_law_X5_send rfl rfl rfl (by decide +kernel) ⟨Nat.le_of_ble_eq_true rfl, Nat.le_of_ble_eq_true rfl⟩) (wd_preV (ci := 5) (q0 := 0) hH.1 hK rfl hf1) rfl rfl hl.1 rfl (lv_room (Nat.le_of_ble_eq_true rfl)) dL_law_672 ⟨show 40 + i + 0 ≤ 603072 by omega, show 5000 + 6 * i + 0 ≤ 7262314 by omega⟩) hS (fun q hq => by obtain ⟨z, hz, rfl⟩ := hq; exact hc9.2.2.2.2.2.1 z hz) (fun H locs hP hS hk => ?_)
  have hH := hH.c hc9 hsim hk hP
  refine lv_aload_n hx hb dL_law_675 rfl (lv_at hl 3 rfl) ?_
  refine lv_aload_n hx hb dL_law_676 rfl (lv_at hl 1 rfl) ?_
  refine lv_iload hx hb dL_law_677 (lv_at hl 0 rfl) ?_
  refine lv_iconst (v := 1) hx hb dL_law_679 (by decide) ?_
  refine lv_iadd hx hb dL_law_680 ?_
  refine tp_i (y := nI (i + 1)) (nI_add i 1) ?_
  refine ga_sld hx hb hX hbl hbA hS (i + 1) rfl (by omega) hL dL_law_681 ?_
  refine mu_callLi (va_runV (As := [.int (xs (i + 1))]) (rest := [.int r]) ⟨hx, hb, hml, hown, hts⟩ hM2 (cwV 1 hts gL_law_X6_send rfl rfl rfl (by decide +kernel) ⟨Nat.le_of_ble_eq_true rfl, Nat.le_of_ble_eq_true rfl⟩) (wd_preV (ci := 6) (q0 := 0) hH.2.1 hK rfl hf2) rfl rfl hl.1 rfl (lv_room (Nat.le_of_ble_eq_true rfl)) dL_law_682 ⟨show 40 + i + 0 ≤ 603072 by omega, show 5000 + 6 * i + 0 ≤ 7262314 by omega⟩) hS (fun q hq => by obtain ⟨z, hz, rfl⟩ := hq; exact hc9.2.2.2.2.2.2.1 z hz) (fun H locs hP hS hk => ?_)
  have hH := hH.m hc9 hsi rfl hk hP
  refine lv_icmp_eq (tgt := 879) hx hb dL_law_685 (by decide) (fun _ => ?_) (fun h9 => absurd rfl h9)
  refine W.widen (k := 41 + i) (n := 5006 + 6 * i) (by omega) (by omega) ?_
  exact kk _ _ _ H locs ls hsi hH hS hl
set_option maxHeartbeats 4000000 in
set_option maxRecDepth 100000 in
theorem lcase_12 {p : Program} {l : Launch} {e : Env} {s : State} {m : MethodId} {below : List Frame} {meth : Method} {c : Code} {D : va_G} {cI cJ : ClassId} {h g : Nat → Nat} {oA b L : Nat} {xs : Nat → Int32} {Q : State → Prop} (hL : L ≤ 3072) (hx : p.tables.exec = Jvm.exec) (hb : c.code = code) (hml : c.maxLocals = 8) (hown : s.vm.findClass RL = some m.cls) (hts : ∀ w ∈ wsL_law, w.before #[Value.ref b] s = true) (hX : va_X b L xs s s.heap) (hbl : b < s.heap.size) (hc9 : lc h g oA s.heap.size) (hK : wd_K D cI cJ s) {i : Nat} (hi : i + 6 ≤ L) (kk : ∀ (w9 m9 : va_W) (fo9 : Nat → Int64) (H : Heap) (locs : List Loc) (ls : Array Slot), SIM cI cJ h g w9 m9 → lH D cJ oA w9 m9 fo9 H → va_S (fun q : Nat => s.heap.size ≤ q) s.heap H locs → lv_has ls 8 [(4, .int (nI i)), (0, .ref b), (1, .ref (h 0)), (2, .ref (g 0)), (3, .ref oA)] → W p l e room_1 s m #[Value.ref b] below meth c H locs (41 + i) (5006 + 6 * i) Q (F0 m 879 ls [])) {w9 m9 : va_W} {fo9 : Nat → Int64} {H : Heap} {locs : List Loc} {ls : Array Slot} (hsim : SIM cI cJ h g w9 m9) (hH : lH D cJ oA w9 m9 fo9 H) (hS : va_S (fun q : Nat => s.heap.size ≤ q) s.heap H locs) (hl : lv_has ls 8 [(4, .int (nI i)), (0, .ref b), (1, .ref (h 0)), (2, .ref (g 0)), (3, .ref oA)]) : W p l e room_1 s m #[Value.ref b] below meth c H locs (40 + i) (5000 + 6 * i) Q (F0 m 690 ls []) := by
  obtain ⟨r, w', m', hM1, hM2, hsi⟩ := sim_step (l := l) (D := D) hc9.1 hc9.2.1 hsim 
  obtain ⟨⟨f1, hf1⟩, ⟨f2, hf2⟩, -, -⟩ := sim_c hsim
  have hbA : ¬ (fun q : Nat => s.heap.size ≤ q) b := Nat.not_le.mpr hbl
  refine lv_aload_n hx hb dL_law_690 rfl (lv_at hl 2 rfl) ?_
  refine mu_callLi (va_runV (As := []) (rest := []) ⟨hx, hb, hml, hown, hts⟩ hM1 (cwV 0 hts gL_law_X5_step rfl rfl rfl (by decide +kernel) ⟨Nat.le_of_ble_eq_true rfl, Nat.le_of_ble_eq_true rfl⟩) (wd_preV (ci := 5) (q0 := 0) hH.1 hK rfl hf1) rfl rfl hl.1 rfl (lv_room (Nat.le_of_ble_eq_true rfl)) dL_law_691 ⟨show 40 + i + 0 ≤ 603072 by omega, show 5000 + 6 * i + 0 ≤ 7262314 by omega⟩) hS (fun q hq => by obtain ⟨z, hz, rfl⟩ := hq; exact hc9.2.2.2.2.2.1 z hz) (fun H locs hP hS hk => ?_)
  have hH := hH.c hc9 hsim hk hP
  refine lv_aload_n hx hb dL_law_694 rfl (lv_at hl 3 rfl) ?_
  refine mu_callLi (va_runV (As := []) (rest := [.int r]) ⟨hx, hb, hml, hown, hts⟩ hM2 (cwV 0 hts gL_law_X6_step rfl rfl rfl (by decide +kernel) ⟨Nat.le_of_ble_eq_true rfl, Nat.le_of_ble_eq_true rfl⟩) (wd_preV (ci := 6) (q0 := 0) hH.2.1 hK rfl hf2) rfl rfl hl.1 rfl (lv_room (Nat.le_of_ble_eq_true rfl)) dL_law_695 ⟨show 40 + i + 0 ≤ 603072 by omega, show 5000 + 6 * i + 0 ≤ 7262314 by omega⟩) hS (fun q hq => by obtain ⟨z, hz, rfl⟩ := hq; exact hc9.2.2.2.2.2.2.1 z hz) (fun H locs hP hS hk => ?_)
  have hH := hH.m hc9 hsi rfl hk hP
  refine lv_icmp_eq (tgt := 879) hx hb dL_law_698 (by decide) (fun _ => ?_) (fun h9 => absurd rfl h9)
  refine W.widen (k := 41 + i) (n := 5006 + 6 * i) (by omega) (by omega) ?_
  exact kk _ _ _ H locs ls hsi hH hS hl
set_option maxHeartbeats 4000000 in
set_option maxRecDepth 100000 in
theorem lcase_13 {p : Program} {l : Launch} {e : Env} {s : State} {m : MethodId} {below : List Frame} {meth : Method} {c : Code} {D : va_G} {cI cJ : ClassId} {h g : Nat → Nat} {oA b L : Nat} {xs : Nat → Int32} {Q : State → Prop} (hL : L ≤ 3072) (hx : p.tables.exec = Jvm.exec) (hb : c.code = code) (hml : c.maxLocals = 8) (hown : s.vm.findClass RL = some m.cls) (hts : ∀ w ∈ wsL_law, w.before #[Value.ref b] s = true) (hX : va_X b L xs s s.heap) (hbl : b < s.heap.size) (hc9 : lc h g oA s.heap.size) (hK : wd_K D cI cJ s) {i : Nat} (hi : i + 6 ≤ L) (kk : ∀ (w9 m9 : va_W) (fo9 : Nat → Int64) (H : Heap) (locs : List Loc) (ls : Array Slot), SIM cI cJ h g w9 m9 → lH D cJ oA w9 m9 fo9 H → va_S (fun q : Nat => s.heap.size ≤ q) s.heap H locs → lv_has ls 8 [(4, .int (nI i)), (0, .ref b), (1, .ref (h 0)), (2, .ref (g 0)), (3, .ref oA)] → W p l e room_1 s m #[Value.ref b] below meth c H locs (41 + i) (5006 + 6 * i) Q (F0 m 879 ls [])) {w9 m9 : va_W} {fo9 : Nat → Int64} {H : Heap} {locs : List Loc} {ls : Array Slot} (hsim : SIM cI cJ h g w9 m9) (hH : lH D cJ oA w9 m9 fo9 H) (hS : va_S (fun q : Nat => s.heap.size ≤ q) s.heap H locs) (hl : lv_has ls 8 [(4, .int (nI i)), (0, .ref b), (1, .ref (h 0)), (2, .ref (g 0)), (3, .ref oA)]) : W p l e room_1 s m #[Value.ref b] below meth c H locs (40 + i) (5000 + 6 * i) Q (F0 m 703 ls []) := by
  obtain ⟨r, w', m', hM1, hM2, hsi⟩ := sim_run (l := l) (D := D) hc9.1 hc9.2.1 hsim (xs (i + 1))
  obtain ⟨⟨f1, hf1⟩, ⟨f2, hf2⟩, -, -⟩ := sim_c hsim
  have hbA : ¬ (fun q : Nat => s.heap.size ≤ q) b := Nat.not_le.mpr hbl
  refine lv_aload_n hx hb dL_law_703 rfl (lv_at hl 2 rfl) ?_
  refine lv_aload_n hx hb dL_law_704 rfl (lv_at hl 1 rfl) ?_
  refine lv_iload hx hb dL_law_705 (lv_at hl 0 rfl) ?_
  refine lv_iconst (v := 1) hx hb dL_law_707 (by decide) ?_
  refine lv_iadd hx hb dL_law_708 ?_
  refine tp_i (y := nI (i + 1)) (nI_add i 1) ?_
  refine ga_sld hx hb hX hbl hbA hS (i + 1) rfl (by omega) hL dL_law_709 ?_
  refine mu_callLi (va_runV (As := [.int (xs (i + 1))]) (rest := []) ⟨hx, hb, hml, hown, hts⟩ hM1 (cwV 1 hts gL_law_X5_run rfl rfl rfl (by decide +kernel) ⟨Nat.le_of_ble_eq_true rfl, Nat.le_of_ble_eq_true rfl⟩) (wd_preV (ci := 5) (q0 := 0) hH.1 hK rfl hf1) rfl rfl hl.1 rfl (lv_room (Nat.le_of_ble_eq_true rfl)) dL_law_710 ⟨show 40 + i + 0 ≤ 603072 by omega, show 5000 + 6 * i + 0 ≤ 7262314 by omega⟩) hS (fun q hq => by obtain ⟨z, hz, rfl⟩ := hq; exact hc9.2.2.2.2.2.1 z hz) (fun H locs hP hS hk => ?_)
  have hH := hH.c hc9 hsim hk hP
  refine lv_aload_n hx hb dL_law_713 rfl (lv_at hl 3 rfl) ?_
  refine lv_aload_n hx hb dL_law_714 rfl (lv_at hl 1 rfl) ?_
  refine lv_iload hx hb dL_law_715 (lv_at hl 0 rfl) ?_
  refine lv_iconst (v := 1) hx hb dL_law_717 (by decide) ?_
  refine lv_iadd hx hb dL_law_718 ?_
  refine tp_i (y := nI (i + 1)) (nI_add i 1) ?_
  refine ga_sld hx hb hX hbl hbA hS (i + 1) rfl (by omega) hL dL_law_719 ?_
  refine mu_callLi (va_runV (As := [.int (xs (i + 1))]) (rest := [.int r]) ⟨hx, hb, hml, hown, hts⟩ hM2 (cwV 1 hts gL_law_X6_run rfl rfl rfl (by decide +kernel) ⟨Nat.le_of_ble_eq_true rfl, Nat.le_of_ble_eq_true rfl⟩) (wd_preV (ci := 6) (q0 := 0) hH.2.1 hK rfl hf2) rfl rfl hl.1 rfl (lv_room (Nat.le_of_ble_eq_true rfl)) dL_law_720 ⟨show 40 + i + 0 ≤ 603072 by omega, show 5000 + 6 * i + 0 ≤ 7262314 by omega⟩) hS (fun q hq => by obtain ⟨z, hz, rfl⟩ := hq; exact hc9.2.2.2.2.2.2.1 z hz) (fun H locs hP hS hk => ?_)
  have hH := hH.m hc9 hsi rfl hk hP
  refine lv_icmp_eq (tgt := 879) hx hb dL_law_723 (by decide) (fun _ => ?_) (fun h9 => absurd rfl h9)
  refine W.widen (k := 41 + i) (n := 5006 + 6 * i) (by omega) (by omega) ?_
  exact kk _ _ _ H locs ls hsi hH hS hl
set_option maxHeartbeats 4000000 in
set_option maxRecDepth 100000 in
theorem lcase_14 {p : Program} {l : Launch} {e : Env} {s : State} {m : MethodId} {below : List Frame} {meth : Method} {c : Code} {D : va_G} {cI cJ : ClassId} {h g : Nat → Nat} {oA b L : Nat} {xs : Nat → Int32} {Q : State → Prop} (hL : L ≤ 3072) (hx : p.tables.exec = Jvm.exec) (hb : c.code = code) (hml : c.maxLocals = 8) (hown : s.vm.findClass RL = some m.cls) (hts : ∀ w ∈ wsL_law, w.before #[Value.ref b] s = true) (hX : va_X b L xs s s.heap) (hbl : b < s.heap.size) (hc9 : lc h g oA s.heap.size) (hK : wd_K D cI cJ s) {i : Nat} (hi : i + 6 ≤ L) (kk : ∀ (w9 m9 : va_W) (fo9 : Nat → Int64) (H : Heap) (locs : List Loc) (ls : Array Slot), SIM cI cJ h g w9 m9 → lH D cJ oA w9 m9 fo9 H → va_S (fun q : Nat => s.heap.size ≤ q) s.heap H locs → lv_has ls 8 [(4, .int (nI i)), (0, .ref b), (1, .ref (h 0)), (2, .ref (g 0)), (3, .ref oA)] → W p l e room_1 s m #[Value.ref b] below meth c H locs (41 + i) (5006 + 6 * i) Q (F0 m 879 ls [])) {w9 m9 : va_W} {fo9 : Nat → Int64} {H : Heap} {locs : List Loc} {ls : Array Slot} (hsim : SIM cI cJ h g w9 m9) (hH : lH D cJ oA w9 m9 fo9 H) (hS : va_S (fun q : Nat => s.heap.size ≤ q) s.heap H locs) (hl : lv_has ls 8 [(4, .int (nI i)), (0, .ref b), (1, .ref (h 0)), (2, .ref (g 0)), (3, .ref oA)]) : W p l e room_1 s m #[Value.ref b] below meth c H locs (40 + i) (5000 + 6 * i) Q (F0 m 728 ls []) := by
  obtain ⟨r, w', m', hM1, hM2, hsi⟩ := sim_total (l := l) (D := D) hc9.1 hc9.2.1 hsim (xs (i + 1))
  obtain ⟨⟨f1, hf1⟩, ⟨f2, hf2⟩, -, -⟩ := sim_c hsim
  have hbA : ¬ (fun q : Nat => s.heap.size ≤ q) b := Nat.not_le.mpr hbl
  refine lv_aload_n hx hb dL_law_728 rfl (lv_at hl 2 rfl) ?_
  refine lv_aload_n hx hb dL_law_729 rfl (lv_at hl 1 rfl) ?_
  refine lv_iload hx hb dL_law_730 (lv_at hl 0 rfl) ?_
  refine lv_iconst (v := 1) hx hb dL_law_732 (by decide) ?_
  refine lv_iadd hx hb dL_law_733 ?_
  refine tp_i (y := nI (i + 1)) (nI_add i 1) ?_
  refine ga_sld hx hb hX hbl hbA hS (i + 1) rfl (by omega) hL dL_law_734 ?_
  refine mu_callLl (va_runV (As := [.int (xs (i + 1))]) (rest := []) ⟨hx, hb, hml, hown, hts⟩ hM1 (cwV 1 hts gL_law_X5_total rfl rfl rfl (by decide +kernel) ⟨Nat.le_of_ble_eq_true rfl, Nat.le_of_ble_eq_true rfl⟩) (wd_preV (ci := 5) (q0 := 0) hH.1 hK rfl hf1) rfl rfl hl.1 rfl (lv_room (Nat.le_of_ble_eq_true rfl)) dL_law_735 ⟨show 40 + i + 0 ≤ 603072 by omega, show 5000 + 6 * i + 0 ≤ 7262314 by omega⟩) hS (fun q hq => by obtain ⟨z, hz, rfl⟩ := hq; exact hc9.2.2.2.2.2.1 z hz) (fun H locs hP hS hk => ?_)
  have hH := hH.c hc9 hsim hk hP
  refine lv_aload_n hx hb dL_law_738 rfl (lv_at hl 3 rfl) ?_
  refine lv_aload_n hx hb dL_law_739 rfl (lv_at hl 1 rfl) ?_
  refine lv_iload hx hb dL_law_740 (lv_at hl 0 rfl) ?_
  refine lv_iconst (v := 1) hx hb dL_law_742 (by decide) ?_
  refine lv_iadd hx hb dL_law_743 ?_
  refine tp_i (y := nI (i + 1)) (nI_add i 1) ?_
  refine ga_sld hx hb hX hbl hbA hS (i + 1) rfl (by omega) hL dL_law_744 ?_
  refine mu_callLl (va_runV (As := [.int (xs (i + 1))]) (rest := [.long r]) ⟨hx, hb, hml, hown, hts⟩ hM2 (cwV 1 hts gL_law_X6_total rfl rfl rfl (by decide +kernel) ⟨Nat.le_of_ble_eq_true rfl, Nat.le_of_ble_eq_true rfl⟩) (wd_preV (ci := 6) (q0 := 0) hH.2.1 hK rfl hf2) rfl rfl hl.1 rfl (lv_room (Nat.le_of_ble_eq_true rfl)) dL_law_745 ⟨show 40 + i + 0 ≤ 603072 by omega, show 5000 + 6 * i + 0 ≤ 7262314 by omega⟩) hS (fun q hq => by obtain ⟨z, hz, rfl⟩ := hq; exact hc9.2.2.2.2.2.2.1 z hz) (fun H locs hP hS hk => ?_)
  have hH := hH.m hc9 hsi rfl hk hP
  refine W.lcmp hx hb dL_law_748 ?_
  refine tp_i (y := 0) (lg_0 r) ?_
  refine lv_if_eq (tgt := 879) hx hb dL_law_749 (by decide) (fun _ => ?_) (fun h9 => absurd rfl h9)
  refine W.widen (k := 41 + i) (n := 5006 + 6 * i) (by omega) (by omega) ?_
  exact kk _ _ _ H locs ls hsi hH hS hl
set_option maxHeartbeats 4000000 in
set_option maxRecDepth 100000 in
theorem lcase_15 {p : Program} {l : Launch} {e : Env} {s : State} {m : MethodId} {below : List Frame} {meth : Method} {c : Code} {D : va_G} {cI cJ : ClassId} {h g : Nat → Nat} {oA b L : Nat} {xs : Nat → Int32} {Q : State → Prop} (hL : L ≤ 3072) (hx : p.tables.exec = Jvm.exec) (hb : c.code = code) (hml : c.maxLocals = 8) (hown : s.vm.findClass RL = some m.cls) (hts : ∀ w ∈ wsL_law, w.before #[Value.ref b] s = true) (hX : va_X b L xs s s.heap) (hbl : b < s.heap.size) (hc9 : lc h g oA s.heap.size) (hK : wd_K D cI cJ s) {i : Nat} (hi : i + 6 ≤ L) (kk : ∀ (w9 m9 : va_W) (fo9 : Nat → Int64) (H : Heap) (locs : List Loc) (ls : Array Slot), SIM cI cJ h g w9 m9 → lH D cJ oA w9 m9 fo9 H → va_S (fun q : Nat => s.heap.size ≤ q) s.heap H locs → lv_has ls 8 [(4, .int (nI i)), (0, .ref b), (1, .ref (h 0)), (2, .ref (g 0)), (3, .ref oA)] → W p l e room_1 s m #[Value.ref b] below meth c H locs (41 + i) (5006 + 6 * i) Q (F0 m 879 ls [])) {w9 m9 : va_W} {fo9 : Nat → Int64} {H : Heap} {locs : List Loc} {ls : Array Slot} (hsim : SIM cI cJ h g w9 m9) (hH : lH D cJ oA w9 m9 fo9 H) (hS : va_S (fun q : Nat => s.heap.size ≤ q) s.heap H locs) (hl : lv_has ls 8 [(4, .int (nI i)), (0, .ref b), (1, .ref (h 0)), (2, .ref (g 0)), (3, .ref oA)]) : W p l e room_1 s m #[Value.ref b] below meth c H locs (40 + i) (5000 + 6 * i) Q (F0 m 754 ls []) := by
  obtain ⟨r, w', m', hM1, hM2, hsi⟩ := sim_slot (l := l) (D := D) hc9.1 hc9.2.1 hsim (xs (i + 1))
  obtain ⟨⟨f1, hf1⟩, ⟨f2, hf2⟩, -, -⟩ := sim_c hsim
  have hbA : ¬ (fun q : Nat => s.heap.size ≤ q) b := Nat.not_le.mpr hbl
  refine lv_aload_n hx hb dL_law_754 rfl (lv_at hl 2 rfl) ?_
  refine lv_aload_n hx hb dL_law_755 rfl (lv_at hl 1 rfl) ?_
  refine lv_iload hx hb dL_law_756 (lv_at hl 0 rfl) ?_
  refine lv_iconst (v := 1) hx hb dL_law_758 (by decide) ?_
  refine lv_iadd hx hb dL_law_759 ?_
  refine tp_i (y := nI (i + 1)) (nI_add i 1) ?_
  refine ga_sld hx hb hX hbl hbA hS (i + 1) rfl (by omega) hL dL_law_760 ?_
  refine mu_callLi (va_runV (As := [.int (xs (i + 1))]) (rest := []) ⟨hx, hb, hml, hown, hts⟩ hM1 (cwV 1 hts gL_law_X5_slot rfl rfl rfl (by decide +kernel) ⟨Nat.le_of_ble_eq_true rfl, Nat.le_of_ble_eq_true rfl⟩) (wd_preV (ci := 5) (q0 := 0) hH.1 hK rfl hf1) rfl rfl hl.1 rfl (lv_room (Nat.le_of_ble_eq_true rfl)) dL_law_761 ⟨show 40 + i + 0 ≤ 603072 by omega, show 5000 + 6 * i + 0 ≤ 7262314 by omega⟩) hS (fun q hq => by obtain ⟨z, hz, rfl⟩ := hq; exact hc9.2.2.2.2.2.1 z hz) (fun H locs hP hS hk => ?_)
  have hH := hH.c hc9 hsim hk hP
  refine lv_aload_n hx hb dL_law_764 rfl (lv_at hl 3 rfl) ?_
  refine lv_aload_n hx hb dL_law_765 rfl (lv_at hl 1 rfl) ?_
  refine lv_iload hx hb dL_law_766 (lv_at hl 0 rfl) ?_
  refine lv_iconst (v := 1) hx hb dL_law_768 (by decide) ?_
  refine lv_iadd hx hb dL_law_769 ?_
  refine tp_i (y := nI (i + 1)) (nI_add i 1) ?_
  refine ga_sld hx hb hX hbl hbA hS (i + 1) rfl (by omega) hL dL_law_770 ?_
  refine mu_callLi (va_runV (As := [.int (xs (i + 1))]) (rest := [.int r]) ⟨hx, hb, hml, hown, hts⟩ hM2 (cwV 1 hts gL_law_X6_slot rfl rfl rfl (by decide +kernel) ⟨Nat.le_of_ble_eq_true rfl, Nat.le_of_ble_eq_true rfl⟩) (wd_preV (ci := 6) (q0 := 0) hH.2.1 hK rfl hf2) rfl rfl hl.1 rfl (lv_room (Nat.le_of_ble_eq_true rfl)) dL_law_771 ⟨show 40 + i + 0 ≤ 603072 by omega, show 5000 + 6 * i + 0 ≤ 7262314 by omega⟩) hS (fun q hq => by obtain ⟨z, hz, rfl⟩ := hq; exact hc9.2.2.2.2.2.2.1 z hz) (fun H locs hP hS hk => ?_)
  have hH := hH.m hc9 hsi rfl hk hP
  refine lv_icmp_eq (tgt := 879) hx hb dL_law_774 (by decide) (fun _ => ?_) (fun h9 => absurd rfl h9)
  refine W.widen (k := 41 + i) (n := 5006 + 6 * i) (by omega) (by omega) ?_
  exact kk _ _ _ H locs ls hsi hH hS hl
set_option maxHeartbeats 4000000 in
set_option maxRecDepth 100000 in
theorem lcase_16 {p : Program} {l : Launch} {e : Env} {s : State} {m : MethodId} {below : List Frame} {meth : Method} {c : Code} {D : va_G} {cI cJ : ClassId} {h g : Nat → Nat} {oA b L : Nat} {xs : Nat → Int32} {Q : State → Prop} (hL : L ≤ 3072) (hx : p.tables.exec = Jvm.exec) (hb : c.code = code) (hml : c.maxLocals = 8) (hown : s.vm.findClass RL = some m.cls) (hts : ∀ w ∈ wsL_law, w.before #[Value.ref b] s = true) (hX : va_X b L xs s s.heap) (hbl : b < s.heap.size) (hc9 : lc h g oA s.heap.size) (hK : wd_K D cI cJ s) {i : Nat} (hi : i + 6 ≤ L) (kk : ∀ (w9 m9 : va_W) (fo9 : Nat → Int64) (H : Heap) (locs : List Loc) (ls : Array Slot), SIM cI cJ h g w9 m9 → lH D cJ oA w9 m9 fo9 H → va_S (fun q : Nat => s.heap.size ≤ q) s.heap H locs → lv_has ls 8 [(4, .int (nI i)), (0, .ref b), (1, .ref (h 0)), (2, .ref (g 0)), (3, .ref oA)] → W p l e room_1 s m #[Value.ref b] below meth c H locs (41 + i) (5006 + 6 * i) Q (F0 m 879 ls [])) {w9 m9 : va_W} {fo9 : Nat → Int64} {H : Heap} {locs : List Loc} {ls : Array Slot} (hsim : SIM cI cJ h g w9 m9) (hH : lH D cJ oA w9 m9 fo9 H) (hS : va_S (fun q : Nat => s.heap.size ≤ q) s.heap H locs) (hl : lv_has ls 8 [(4, .int (nI i)), (0, .ref b), (1, .ref (h 0)), (2, .ref (g 0)), (3, .ref oA)]) : W p l e room_1 s m #[Value.ref b] below meth c H locs (40 + i) (5000 + 6 * i) Q (F0 m 779 ls []) := by
  obtain ⟨r, w', m', hM1, hM2, hsi⟩ := sim_belt (l := l) (D := D) hc9.1 hc9.2.1 hsim (xs (i + 1))
  obtain ⟨⟨f1, hf1⟩, ⟨f2, hf2⟩, -, -⟩ := sim_c hsim
  have hbA : ¬ (fun q : Nat => s.heap.size ≤ q) b := Nat.not_le.mpr hbl
  refine lv_aload_n hx hb dL_law_779 rfl (lv_at hl 2 rfl) ?_
  refine lv_aload_n hx hb dL_law_780 rfl (lv_at hl 1 rfl) ?_
  refine lv_iload hx hb dL_law_781 (lv_at hl 0 rfl) ?_
  refine lv_iconst (v := 1) hx hb dL_law_783 (by decide) ?_
  refine lv_iadd hx hb dL_law_784 ?_
  refine tp_i (y := nI (i + 1)) (nI_add i 1) ?_
  refine ga_sld hx hb hX hbl hbA hS (i + 1) rfl (by omega) hL dL_law_785 ?_
  refine mu_callLi (va_runV (As := [.int (xs (i + 1))]) (rest := []) ⟨hx, hb, hml, hown, hts⟩ hM1 (cwV 1 hts gL_law_X5_belt rfl rfl rfl (by decide +kernel) ⟨Nat.le_of_ble_eq_true rfl, Nat.le_of_ble_eq_true rfl⟩) (wd_preV (ci := 5) (q0 := 0) hH.1 hK rfl hf1) rfl rfl hl.1 rfl (lv_room (Nat.le_of_ble_eq_true rfl)) dL_law_786 ⟨show 40 + i + 0 ≤ 603072 by omega, show 5000 + 6 * i + 0 ≤ 7262314 by omega⟩) hS (fun q hq => by obtain ⟨z, hz, rfl⟩ := hq; exact hc9.2.2.2.2.2.1 z hz) (fun H locs hP hS hk => ?_)
  have hH := hH.c hc9 hsim hk hP
  refine lv_aload_n hx hb dL_law_789 rfl (lv_at hl 3 rfl) ?_
  refine lv_aload_n hx hb dL_law_790 rfl (lv_at hl 1 rfl) ?_
  refine lv_iload hx hb dL_law_791 (lv_at hl 0 rfl) ?_
  refine lv_iconst (v := 1) hx hb dL_law_793 (by decide) ?_
  refine lv_iadd hx hb dL_law_794 ?_
  refine tp_i (y := nI (i + 1)) (nI_add i 1) ?_
  refine ga_sld hx hb hX hbl hbA hS (i + 1) rfl (by omega) hL dL_law_795 ?_
  refine mu_callLi (va_runV (As := [.int (xs (i + 1))]) (rest := [.int r]) ⟨hx, hb, hml, hown, hts⟩ hM2 (cwV 1 hts gL_law_X6_belt rfl rfl rfl (by decide +kernel) ⟨Nat.le_of_ble_eq_true rfl, Nat.le_of_ble_eq_true rfl⟩) (wd_preV (ci := 6) (q0 := 0) hH.2.1 hK rfl hf2) rfl rfl hl.1 rfl (lv_room (Nat.le_of_ble_eq_true rfl)) dL_law_796 ⟨show 40 + i + 0 ≤ 603072 by omega, show 5000 + 6 * i + 0 ≤ 7262314 by omega⟩) hS (fun q hq => by obtain ⟨z, hz, rfl⟩ := hq; exact hc9.2.2.2.2.2.2.1 z hz) (fun H locs hP hS hk => ?_)
  have hH := hH.m hc9 hsi rfl hk hP
  refine lv_icmp_eq (tgt := 879) hx hb dL_law_799 (by decide) (fun _ => ?_) (fun h9 => absurd rfl h9)
  refine W.widen (k := 41 + i) (n := 5006 + 6 * i) (by omega) (by omega) ?_
  exact kk _ _ _ H locs ls hsi hH hS hl
set_option maxHeartbeats 4000000 in
set_option maxRecDepth 100000 in
theorem lcase_17 {p : Program} {l : Launch} {e : Env} {s : State} {m : MethodId} {below : List Frame} {meth : Method} {c : Code} {D : va_G} {cI cJ : ClassId} {h g : Nat → Nat} {oA b L : Nat} {xs : Nat → Int32} {Q : State → Prop} (hL : L ≤ 3072) (hx : p.tables.exec = Jvm.exec) (hb : c.code = code) (hml : c.maxLocals = 8) (hown : s.vm.findClass RL = some m.cls) (hts : ∀ w ∈ wsL_law, w.before #[Value.ref b] s = true) (hX : va_X b L xs s s.heap) (hbl : b < s.heap.size) (hc9 : lc h g oA s.heap.size) (hK : wd_K D cI cJ s) {i : Nat} (hi : i + 6 ≤ L) (kk : ∀ (w9 m9 : va_W) (fo9 : Nat → Int64) (H : Heap) (locs : List Loc) (ls : Array Slot), SIM cI cJ h g w9 m9 → lH D cJ oA w9 m9 fo9 H → va_S (fun q : Nat => s.heap.size ≤ q) s.heap H locs → lv_has ls 8 [(4, .int (nI i)), (0, .ref b), (1, .ref (h 0)), (2, .ref (g 0)), (3, .ref oA)] → W p l e room_1 s m #[Value.ref b] below meth c H locs (41 + i) (5006 + 6 * i) Q (F0 m 879 ls [])) {w9 m9 : va_W} {fo9 : Nat → Int64} {H : Heap} {locs : List Loc} {ls : Array Slot} (hsim : SIM cI cJ h g w9 m9) (hH : lH D cJ oA w9 m9 fo9 H) (hS : va_S (fun q : Nat => s.heap.size ≤ q) s.heap H locs) (hl : lv_has ls 8 [(4, .int (nI i)), (0, .ref b), (1, .ref (h 0)), (2, .ref (g 0)), (3, .ref oA)]) : W p l e room_1 s m #[Value.ref b] below meth c H locs (40 + i) (5000 + 6 * i) Q (F0 m 804 ls []) := by
  obtain ⟨r, w', m', hM1, hM2, hsi⟩ := sim_side (l := l) (D := D) hc9.1 hc9.2.1 hsim (xs (i + 1)) (xs (i + 2))
  obtain ⟨⟨f1, hf1⟩, ⟨f2, hf2⟩, -, -⟩ := sim_c hsim
  have hbA : ¬ (fun q : Nat => s.heap.size ≤ q) b := Nat.not_le.mpr hbl
  refine lv_aload_n hx hb dL_law_804 rfl (lv_at hl 2 rfl) ?_
  refine lv_aload_n hx hb dL_law_805 rfl (lv_at hl 1 rfl) ?_
  refine lv_iload hx hb dL_law_806 (lv_at hl 0 rfl) ?_
  refine lv_iconst (v := 1) hx hb dL_law_808 (by decide) ?_
  refine lv_iadd hx hb dL_law_809 ?_
  refine tp_i (y := nI (i + 1)) (nI_add i 1) ?_
  refine ga_sld hx hb hX hbl hbA hS (i + 1) rfl (by omega) hL dL_law_810 ?_
  refine lv_aload_n hx hb dL_law_811 rfl (lv_at hl 1 rfl) ?_
  refine lv_iload hx hb dL_law_812 (lv_at hl 0 rfl) ?_
  refine lv_iconst (v := 2) hx hb dL_law_814 (by decide) ?_
  refine lv_iadd hx hb dL_law_815 ?_
  refine tp_i (y := nI (i + 2)) (nI_add i 2) ?_
  refine ga_sld hx hb hX hbl hbA hS (i + 2) rfl (by omega) hL dL_law_816 ?_
  refine mu_callLi (va_runV (As := [.int (xs (i + 1)), .int (xs (i + 2))]) (rest := []) ⟨hx, hb, hml, hown, hts⟩ hM1 (cwV 2 hts gL_law_X5_side rfl rfl rfl (by decide +kernel) ⟨Nat.le_of_ble_eq_true rfl, Nat.le_of_ble_eq_true rfl⟩) (wd_preV (ci := 5) (q0 := 0) hH.1 hK rfl hf1) rfl rfl hl.1 rfl (lv_room (Nat.le_of_ble_eq_true rfl)) dL_law_817 ⟨show 40 + i + 0 ≤ 603072 by omega, show 5000 + 6 * i + 0 ≤ 7262314 by omega⟩) hS (fun q hq => by obtain ⟨z, hz, rfl⟩ := hq; exact hc9.2.2.2.2.2.1 z hz) (fun H locs hP hS hk => ?_)
  have hH := hH.c hc9 hsim hk hP
  refine lv_aload_n hx hb dL_law_820 rfl (lv_at hl 3 rfl) ?_
  refine lv_aload_n hx hb dL_law_821 rfl (lv_at hl 1 rfl) ?_
  refine lv_iload hx hb dL_law_822 (lv_at hl 0 rfl) ?_
  refine lv_iconst (v := 1) hx hb dL_law_824 (by decide) ?_
  refine lv_iadd hx hb dL_law_825 ?_
  refine tp_i (y := nI (i + 1)) (nI_add i 1) ?_
  refine ga_sld hx hb hX hbl hbA hS (i + 1) rfl (by omega) hL dL_law_826 ?_
  refine lv_aload_n hx hb dL_law_827 rfl (lv_at hl 1 rfl) ?_
  refine lv_iload hx hb dL_law_828 (lv_at hl 0 rfl) ?_
  refine lv_iconst (v := 2) hx hb dL_law_830 (by decide) ?_
  refine lv_iadd hx hb dL_law_831 ?_
  refine tp_i (y := nI (i + 2)) (nI_add i 2) ?_
  refine ga_sld hx hb hX hbl hbA hS (i + 2) rfl (by omega) hL dL_law_832 ?_
  refine mu_callLi (va_runV (As := [.int (xs (i + 1)), .int (xs (i + 2))]) (rest := [.int r]) ⟨hx, hb, hml, hown, hts⟩ hM2 (cwV 2 hts gL_law_X6_side rfl rfl rfl (by decide +kernel) ⟨Nat.le_of_ble_eq_true rfl, Nat.le_of_ble_eq_true rfl⟩) (wd_preV (ci := 6) (q0 := 0) hH.2.1 hK rfl hf2) rfl rfl hl.1 rfl (lv_room (Nat.le_of_ble_eq_true rfl)) dL_law_833 ⟨show 40 + i + 0 ≤ 603072 by omega, show 5000 + 6 * i + 0 ≤ 7262314 by omega⟩) hS (fun q hq => by obtain ⟨z, hz, rfl⟩ := hq; exact hc9.2.2.2.2.2.2.1 z hz) (fun H locs hP hS hk => ?_)
  have hH := hH.m hc9 hsi rfl hk hP
  refine lv_icmp_eq (tgt := 879) hx hb dL_law_836 (by decide) (fun _ => ?_) (fun h9 => absurd rfl h9)
  refine W.widen (k := 41 + i) (n := 5006 + 6 * i) (by omega) (by omega) ?_
  exact kk _ _ _ H locs ls hsi hH hS hl
set_option maxHeartbeats 4000000 in
set_option maxRecDepth 100000 in
theorem lcase_18 {p : Program} {l : Launch} {e : Env} {s : State} {m : MethodId} {below : List Frame} {meth : Method} {c : Code} {D : va_G} {cI cJ : ClassId} {h g : Nat → Nat} {oA b L : Nat} {xs : Nat → Int32} {Q : State → Prop} (hL : L ≤ 3072) (hx : p.tables.exec = Jvm.exec) (hb : c.code = code) (hml : c.maxLocals = 8) (hown : s.vm.findClass RL = some m.cls) (hts : ∀ w ∈ wsL_law, w.before #[Value.ref b] s = true) (hX : va_X b L xs s s.heap) (hbl : b < s.heap.size) (hc9 : lc h g oA s.heap.size) (hK : wd_K D cI cJ s) {i : Nat} (hi : i + 6 ≤ L) (kk : ∀ (w9 m9 : va_W) (fo9 : Nat → Int64) (H : Heap) (locs : List Loc) (ls : Array Slot), SIM cI cJ h g w9 m9 → lH D cJ oA w9 m9 fo9 H → va_S (fun q : Nat => s.heap.size ≤ q) s.heap H locs → lv_has ls 8 [(4, .int (nI i)), (0, .ref b), (1, .ref (h 0)), (2, .ref (g 0)), (3, .ref oA)] → W p l e room_1 s m #[Value.ref b] below meth c H locs (41 + i) (5006 + 6 * i) Q (F0 m 879 ls [])) {w9 m9 : va_W} {fo9 : Nat → Int64} {H : Heap} {locs : List Loc} {ls : Array Slot} (hsim : SIM cI cJ h g w9 m9) (hH : lH D cJ oA w9 m9 fo9 H) (hS : va_S (fun q : Nat => s.heap.size ≤ q) s.heap H locs) (hl : lv_has ls 8 [(4, .int (nI i)), (0, .ref b), (1, .ref (h 0)), (2, .ref (g 0)), (3, .ref oA)]) : W p l e room_1 s m #[Value.ref b] below meth c H locs (40 + i) (5000 + 6 * i) Q (F0 m 841 ls []) := by
  obtain ⟨r, w', m', hM1, hM2, hsi⟩ := sim_count (l := l) (D := D) hc9.1 hc9.2.1 hsim (xs (i + 1))
  obtain ⟨⟨f1, hf1⟩, ⟨f2, hf2⟩, -, -⟩ := sim_c hsim
  have hbA : ¬ (fun q : Nat => s.heap.size ≤ q) b := Nat.not_le.mpr hbl
  refine lv_aload_n hx hb dL_law_841 rfl (lv_at hl 2 rfl) ?_
  refine lv_aload_n hx hb dL_law_842 rfl (lv_at hl 1 rfl) ?_
  refine lv_iload hx hb dL_law_843 (lv_at hl 0 rfl) ?_
  refine lv_iconst (v := 1) hx hb dL_law_845 (by decide) ?_
  refine lv_iadd hx hb dL_law_846 ?_
  refine tp_i (y := nI (i + 1)) (nI_add i 1) ?_
  refine ga_sld hx hb hX hbl hbA hS (i + 1) rfl (by omega) hL dL_law_847 ?_
  refine mu_callLi (va_runV (As := [.int (xs (i + 1))]) (rest := []) ⟨hx, hb, hml, hown, hts⟩ hM1 (cwV 1 hts gL_law_X5_count rfl rfl rfl (by decide +kernel) ⟨Nat.le_of_ble_eq_true rfl, Nat.le_of_ble_eq_true rfl⟩) (wd_preV (ci := 5) (q0 := 0) hH.1 hK rfl hf1) rfl rfl hl.1 rfl (lv_room (Nat.le_of_ble_eq_true rfl)) dL_law_848 ⟨show 40 + i + 0 ≤ 603072 by omega, show 5000 + 6 * i + 0 ≤ 7262314 by omega⟩) hS (fun q hq => by obtain ⟨z, hz, rfl⟩ := hq; exact hc9.2.2.2.2.2.1 z hz) (fun H locs hP hS hk => ?_)
  have hH := hH.c hc9 hsim hk hP
  refine lv_aload_n hx hb dL_law_851 rfl (lv_at hl 3 rfl) ?_
  refine lv_aload_n hx hb dL_law_852 rfl (lv_at hl 1 rfl) ?_
  refine lv_iload hx hb dL_law_853 (lv_at hl 0 rfl) ?_
  refine lv_iconst (v := 1) hx hb dL_law_855 (by decide) ?_
  refine lv_iadd hx hb dL_law_856 ?_
  refine tp_i (y := nI (i + 1)) (nI_add i 1) ?_
  refine ga_sld hx hb hX hbl hbA hS (i + 1) rfl (by omega) hL dL_law_857 ?_
  refine mu_callLi (va_runV (As := [.int (xs (i + 1))]) (rest := [.int r]) ⟨hx, hb, hml, hown, hts⟩ hM2 (cwV 1 hts gL_law_X6_count rfl rfl rfl (by decide +kernel) ⟨Nat.le_of_ble_eq_true rfl, Nat.le_of_ble_eq_true rfl⟩) (wd_preV (ci := 6) (q0 := 0) hH.2.1 hK rfl hf2) rfl rfl hl.1 rfl (lv_room (Nat.le_of_ble_eq_true rfl)) dL_law_858 ⟨show 40 + i + 0 ≤ 603072 by omega, show 5000 + 6 * i + 0 ≤ 7262314 by omega⟩) hS (fun q hq => by obtain ⟨z, hz, rfl⟩ := hq; exact hc9.2.2.2.2.2.2.1 z hz) (fun H locs hP hS hk => ?_)
  have hH := hH.m hc9 hsi rfl hk hP
  refine lv_icmp_eq (tgt := 879) hx hb dL_law_861 (by decide) (fun _ => ?_) (fun h9 => absurd rfl h9)
  refine W.widen (k := 41 + i) (n := 5006 + 6 * i) (by omega) (by omega) ?_
  exact kk _ _ _ H locs ls hsi hH hS hl
set_option maxHeartbeats 4000000 in
set_option maxRecDepth 100000 in
theorem lcase_19 {p : Program} {l : Launch} {e : Env} {s : State} {m : MethodId} {below : List Frame} {meth : Method} {c : Code} {D : va_G} {cI cJ : ClassId} {h g : Nat → Nat} {oA b L : Nat} {xs : Nat → Int32} {Q : State → Prop} (hL : L ≤ 3072) (hx : p.tables.exec = Jvm.exec) (hb : c.code = code) (hml : c.maxLocals = 8) (hown : s.vm.findClass RL = some m.cls) (hts : ∀ w ∈ wsL_law, w.before #[Value.ref b] s = true) (hX : va_X b L xs s s.heap) (hbl : b < s.heap.size) (hc9 : lc h g oA s.heap.size) (hK : wd_K D cI cJ s) {i : Nat} (hi : i + 6 ≤ L) (kk : ∀ (w9 m9 : va_W) (fo9 : Nat → Int64) (H : Heap) (locs : List Loc) (ls : Array Slot), SIM cI cJ h g w9 m9 → lH D cJ oA w9 m9 fo9 H → va_S (fun q : Nat => s.heap.size ≤ q) s.heap H locs → lv_has ls 8 [(4, .int (nI i)), (0, .ref b), (1, .ref (h 0)), (2, .ref (g 0)), (3, .ref oA)] → W p l e room_1 s m #[Value.ref b] below meth c H locs (41 + i) (5006 + 6 * i) Q (F0 m 879 ls [])) {w9 m9 : va_W} {fo9 : Nat → Int64} {H : Heap} {locs : List Loc} {ls : Array Slot} (hsim : SIM cI cJ h g w9 m9) (hH : lH D cJ oA w9 m9 fo9 H) (hS : va_S (fun q : Nat => s.heap.size ≤ q) s.heap H locs) (hl : lv_has ls 8 [(4, .int (nI i)), (0, .ref b), (1, .ref (h 0)), (2, .ref (g 0)), (3, .ref oA)]) : W p l e room_1 s m #[Value.ref b] below meth c H locs (40 + i) (5000 + 6 * i) Q (F0 m 866 ls []) := by
  obtain ⟨r, w', m', hM1, hM2, hsi⟩ := sim_clear (l := l) (D := D) hc9.1 hc9.2.1 hsim 
  obtain ⟨⟨f1, hf1⟩, ⟨f2, hf2⟩, -, -⟩ := sim_c hsim
  have hbA : ¬ (fun q : Nat => s.heap.size ≤ q) b := Nat.not_le.mpr hbl
  refine lv_aload_n hx hb dL_law_866 rfl (lv_at hl 2 rfl) ?_
  refine mu_callLi (va_runV (As := []) (rest := []) ⟨hx, hb, hml, hown, hts⟩ hM1 (cwV 0 hts gL_law_X5_clear rfl rfl rfl (by decide +kernel) ⟨Nat.le_of_ble_eq_true rfl, Nat.le_of_ble_eq_true rfl⟩) (wd_preV (ci := 5) (q0 := 0) hH.1 hK rfl hf1) rfl rfl hl.1 rfl (lv_room (Nat.le_of_ble_eq_true rfl)) dL_law_867 ⟨show 40 + i + 0 ≤ 603072 by omega, show 5000 + 6 * i + 0 ≤ 7262314 by omega⟩) hS (fun q hq => by obtain ⟨z, hz, rfl⟩ := hq; exact hc9.2.2.2.2.2.1 z hz) (fun H locs hP hS hk => ?_)
  have hH := hH.c hc9 hsim hk hP
  refine lv_aload_n hx hb dL_law_870 rfl (lv_at hl 3 rfl) ?_
  refine mu_callLi (va_runV (As := []) (rest := [.int r]) ⟨hx, hb, hml, hown, hts⟩ hM2 (cwV 0 hts gL_law_X6_clear rfl rfl rfl (by decide +kernel) ⟨Nat.le_of_ble_eq_true rfl, Nat.le_of_ble_eq_true rfl⟩) (wd_preV (ci := 6) (q0 := 0) hH.2.1 hK rfl hf2) rfl rfl hl.1 rfl (lv_room (Nat.le_of_ble_eq_true rfl)) dL_law_871 ⟨show 40 + i + 0 ≤ 603072 by omega, show 5000 + 6 * i + 0 ≤ 7262314 by omega⟩) hS (fun q hq => by obtain ⟨z, hz, rfl⟩ := hq; exact hc9.2.2.2.2.2.2.1 z hz) (fun H locs hP hS hk => ?_)
  have hH := hH.m hc9 hsi rfl hk hP
  refine lv_icmp_eq (tgt := 879) hx hb dL_law_874 (by decide) (fun _ => ?_) (fun h9 => absurd rfl h9)
  refine W.widen (k := 41 + i) (n := 5006 + 6 * i) (by omega) (by omega) ?_
  exact kk _ _ _ H locs ls hsi hH hS hl
theorem tp_l2 {p : Program} {l : Launch} {e : Env} {R : Room} {s : State} {m : MethodId} {args : Array Value} {below : List Frame} {meth : Method} {c : Code} {H : Heap} {locs : List Loc} {cells slots : Nat} {Q : State → Prop} {pc : Nat} {ls : Array Slot} {rest : List Value} {v : Value} {x y : Int64} (h : x = y) (k : W p l e R s m args below meth c H locs cells slots Q (F0 m pc ls (v :: .long y :: rest))) : W p l e R s m args below meth c H locs cells slots Q (F0 m pc ls (v :: .long x :: rest)) := h ▸ k
set_option maxHeartbeats 4000000 in
set_option maxRecDepth 100000 in
theorem lcase_7 {p : Program} {l : Launch} {e : Env} {s : State} {m : MethodId} {below : List Frame} {meth : Method} {c : Code} {D : va_G} {cI cJ : ClassId} {h g : Nat → Nat} {oA b L : Nat} {xs : Nat → Int32} {Q : State → Prop} (hL : L ≤ 3072) (hx : p.tables.exec = Jvm.exec) (hb : c.code = code) (hml : c.maxLocals = 8) (hown : s.vm.findClass RL = some m.cls) (hts : ∀ w ∈ wsL_law, w.before #[Value.ref b] s = true) (hX : va_X b L xs s s.heap) (hbl : b < s.heap.size) (hc9 : lc h g oA s.heap.size) (hK : wd_K D cI cJ s) {i : Nat} (hi : i + 6 ≤ L) (hlt : l.stackTraces = false) {sa sb : Nat} (htx : tx s.heap.size sa sb s) (htL : ∀ w ∈ lw_tbl, w.before #[Value.ref b] s = true) (gLN : GoodIn lw_tbl (va_wsS RL 54 yL_number wsLN)) (kk : ∀ (w9 m9 : va_W) (fo9 : Nat → Int64) (H : Heap) (locs : List Loc) (ls : Array Slot), SIM cI cJ h g w9 m9 → lH D cJ oA w9 m9 fo9 H → va_S (fun q : Nat => s.heap.size ≤ q) s.heap H locs → lv_has ls 8 [(4, .int (nI i)), (0, .ref b), (1, .ref (h 0)), (2, .ref (g 0)), (3, .ref oA)] → W p l e room_1 s m #[Value.ref b] below meth c H locs (41 + i) (5006 + 6 * i) Q (F0 m 879 ls [])) {w9 m9 : va_W} {fo9 : Nat → Int64} {H : Heap} {locs : List Loc} {ls : Array Slot} (hsim : SIM cI cJ h g w9 m9) (hH : lH D cJ oA w9 m9 fo9 H) (hS : va_S (fun q : Nat => s.heap.size ≤ q) s.heap H locs) (hl : lv_has ls 8 [(4, .int (nI i)), (0, .ref b), (1, .ref (h 0)), (2, .ref (g 0)), (3, .ref oA)]) : W p l e room_1 s m #[Value.ref b] below meth c H locs (40 + i) (5000 + 6 * i) Q (F0 m 439 ls []) := by
  obtain ⟨kx, bv, m', pu, hM1, hM2, hM3, hsi, hor⟩ := sim_number (l := l) (D := D) (sa := sa) (sb := sb) hlt hc9.2.2.2.2.2.2.2 hc9.1 hc9.2.1 hsim (xs (i + 1)) (xs (i + 2)) (xs (i + 3))
  obtain ⟨⟨f1, hf1⟩, ⟨f2, hf2⟩, -, -⟩ := sim_c hsim
  obtain ⟨-, ⟨f3, hf3⟩, -, -⟩ := sim_c hsi
  have hbA : ¬ (fun q : Nat => s.heap.size ≤ q) b := Nat.not_le.mpr hbl
  refine lv_aload_n hx hb dL_law_439 rfl (lv_at hl 2 rfl) ?_
  refine lv_aload_n hx hb dL_law_440 rfl (lv_at hl 1 rfl) ?_
  refine lv_iload hx hb dL_law_441 (lv_at hl 0 rfl) ?_
  refine lv_iconst (v := 1) hx hb dL_law_443 (by decide) ?_
  refine lv_iadd hx hb dL_law_444 ?_
  refine tp_i (y := nI (i + 1)) (nI_add i 1) ?_
  refine ga_sld hx hb hX hbl hbA hS (i + 1) rfl (by omega) hL dL_law_445 ?_
  refine lv_aload_n hx hb dL_law_446 rfl (lv_at hl 1 rfl) ?_
  refine lv_iload hx hb dL_law_447 (lv_at hl 0 rfl) ?_
  refine lv_iconst (v := 2) hx hb dL_law_449 (by decide) ?_
  refine lv_iadd hx hb dL_law_450 ?_
  refine tp_i (y := nI (i + 2)) (nI_add i 2) ?_
  refine ga_sld hx hb hX hbl hbA hS (i + 2) rfl (by omega) hL dL_law_451 ?_
  refine lv_aload_n hx hb dL_law_452 rfl (lv_at hl 1 rfl) ?_
  refine lv_iload hx hb dL_law_453 (lv_at hl 0 rfl) ?_
  refine lv_iconst (v := 3) hx hb dL_law_455 (by decide) ?_
  refine lv_iadd hx hb dL_law_456 ?_
  refine tp_i (y := nI (i + 3)) (nI_add i 3) ?_
  refine ga_sld hx hb hX hbl hbA hS (i + 3) rfl (by omega) hL dL_law_457 ?_
  refine lv_aload_n hx hb dL_law_458 rfl (lv_at hl 4 rfl) ?_
  refine va_calli (vx_runSW (hh := tbN) (As := [.ref (h 0), .int (xs (i + 1)), .int (xs (i + 2)), .int (xs (i + 3)), .ref oA]) (rest := []) ⟨hx, hb, hml, hown, htL⟩ (hM1 fo9) (vx_cwSW 5 htL gLN rfl rfl rfl (by decide +kernel) ⟨Nat.le_of_ble_eq_true rfl, Nat.le_of_ble_eq_true rfl⟩) ⟨ln_blind, fun U hU hW => ⟨rfl, by rw [hU]; exact hH.1, hK.warm hW, htx.warm hW hU hS (fun _ hq => hq), by rw [hU]; exact hH.2.2⟩⟩ rfl rfl hl.1 rfl (lv_room (Nat.le_of_ble_eq_true rfl)) dL_law_459 ⟨show 40 + i + 1 ≤ 603072 by omega, show 5000 + 6 * i + 6 ≤ 7262314 by omega⟩) hS (fun q _ hq => by rw [hq]; exact hc9.2.2.2.2.2.2.2) (fun q hq => by rw [hq]; exact hc9.2.2.2.2.2.2.2) (fun kr u t H1 locs ht hvm hw hB hz1 hk1 hS => ?_)
  obtain ⟨rfl, hpu⟩ := hw
  rw [ht] at hB
  have hH := hH.o hc9 hsim hk1 hB
  generalize H1 = H at hH hS ⊢
  refine lv_istore (lv' := [(5, .int kr), (4, .int (nI i)), (0, .ref b), (1, .ref (h 0)), (2, .ref (g 0)), (3, .ref oA)]) hx hb dL_law_462 hl (by decide) rfl (fun ls hl => ?_)
  refine W.widen (k := 41 + i) (n := 5006 + 6 * i) (by omega) (by omega) ?_
  refine lv_aload_n hx hb dL_law_464 rfl (lv_at hl 4 rfl) ?_
  refine lv_aload_n hx hb dL_law_465 rfl (lv_at hl 2 rfl) ?_
  refine lv_iload hx hb dL_law_466 (lv_at hl 1 rfl) ?_
  refine lv_iconst (v := 1) hx hb dL_law_468 (by decide) ?_
  refine lv_iadd hx hb dL_law_469 ?_
  refine tp_i (y := nI (i + 1)) (nI_add i 1) ?_
  refine ga_sld hx hb hX hbl hbA hS (i + 1) rfl (by omega) hL dL_law_470 ?_
  refine lv_aload_n hx hb dL_law_471 rfl (lv_at hl 2 rfl) ?_
  refine lv_iload hx hb dL_law_472 (lv_at hl 1 rfl) ?_
  refine lv_iconst (v := 2) hx hb dL_law_474 (by decide) ?_
  refine lv_iadd hx hb dL_law_475 ?_
  refine tp_i (y := nI (i + 2)) (nI_add i 2) ?_
  refine ga_sld hx hb hX hbl hbA hS (i + 2) rfl (by omega) hL dL_law_476 ?_
  refine lv_aload_n hx hb dL_law_477 rfl (lv_at hl 2 rfl) ?_
  refine lv_iload hx hb dL_law_478 (lv_at hl 1 rfl) ?_
  refine lv_iconst (v := 3) hx hb dL_law_480 (by decide) ?_
  refine lv_iadd hx hb dL_law_481 ?_
  refine tp_i (y := nI (i + 3)) (nI_add i 3) ?_
  refine ga_sld hx hb hX hbl hbA hS (i + 3) rfl (by omega) hL dL_law_482 ?_
  refine mu_callLl (va_runV (As := [.int (xs (i + 1)), .int (xs (i + 2)), .int (xs (i + 3))]) (rest := []) ⟨hx, hb, hml, hown, hts⟩ hM2 (cwV 3 hts gL_law_X6_number rfl rfl rfl (by decide +kernel) ⟨Nat.le_of_ble_eq_true rfl, Nat.le_of_ble_eq_true rfl⟩) (wd_preV (ci := 6) (q0 := 0) hH.2.1 hK rfl hf2) rfl rfl hl.1 rfl (lv_room (Nat.le_of_ble_eq_true rfl)) dL_law_483 ⟨show 41 + i + 0 ≤ 603072 by omega, show 5006 + 6 * i + 0 ≤ 7262314 by omega⟩) hS (fun q hq => by obtain ⟨z, hz, rfl⟩ := hq; exact hc9.2.2.2.2.2.2.1 z hz) (fun H locs hP hS hk => ?_)
  have hH := hH.m hc9 hsi rfl hk hP
  refine lv_lstore (lv' := [(6, .long bv), (5, .int kr), (4, .int (nI i)), (0, .ref b), (1, .ref (h 0)), (2, .ref (g 0)), (3, .ref oA)]) hx hb dL_law_486 hl (by decide) rfl (fun ls hl => ?_)
  refine lv_aload_n hx hb dL_law_488 rfl (lv_at hl 5 rfl) ?_
  refine pu_calli (va_runV (As := []) (rest := []) ⟨hx, hb, hml, hown, hts⟩ hM3 (cwV 0 hts gL_law_X6_thrown rfl rfl rfl (by decide +kernel) ⟨Nat.le_of_ble_eq_true rfl, Nat.le_of_ble_eq_true rfl⟩) (wd_preV (ci := 6) (q0 := 0) hH.2.1 hK rfl hf3) rfl rfl hl.1 rfl (lv_room (Nat.le_of_ble_eq_true rfl)) dL_law_489 ⟨show 41 + i + 0 ≤ 603072 by omega, show 5006 + 6 * i + 0 ≤ 7262314 by omega⟩) ?_
  refine lv_iload hx hb dL_law_492 (lv_at hl 1 rfl) ?_
  refine lv_icmp_eq (tgt := 499) hx hb dL_law_494 (by decide) (fun _ => ?_) (fun h9 => absurd rfl h9)
  refine lv_iload hx hb dL_law_499 (lv_at hl 1 rfl) ?_
  refine lv_if_ne (tgt := 515) hx hb dL_law_501 (by decide) (fun hne => ?_) (fun heq => ?_)
  · refine lv_goto (tgt := 879) hx hb dL_law_515 (by decide) ?_
    exact kk _ _ _ H locs ls hsi hH hS (lv_sub hl [2, 3, 4, 5, 6] rfl)
  · refine lv_aload_n hx hb dL_law_504 rfl (lv_at hl 6 rfl) ?_
    refine lv_iconst (v := 0) hx hb dL_law_505 (by decide) ?_
    refine ga_lld hx hb hK hH.2.2 0 rfl 0 (by decide) (by decide) (by decide) dL_law_506 ?_
    refine lv_lload hx hb dL_law_507 (lv_at hl 0 rfl) ?_
    refine tp_l2 (y := bv) (hor.elim (fun h9 => h9.2 u hpu) (fun h9 => absurd heq h9)) ?_
    refine W.lcmp hx hb dL_law_509 ?_
    refine tp_i (y := 0) (lg_0 bv) ?_
    refine lv_if_eq (tgt := 515) hx hb dL_law_510 (by decide) (fun _ => ?_) (fun h9 => absurd rfl h9)
    refine lv_goto (tgt := 879) hx hb dL_law_515 (by decide) ?_
    exact kk _ _ _ H locs ls hsi hH hS (lv_sub hl [2, 3, 4, 5, 6] rfl)
