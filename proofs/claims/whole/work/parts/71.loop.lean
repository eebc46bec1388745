/-! the law's loop -/
set_option maxHeartbeats 4000000 in
set_option maxRecDepth 100000 in
theorem law_loop {p : Program} {l : Launch} {e : Env} {s : State} {m : MethodId} {below : List Frame} {meth : Method} {c : Code} {D : va_G} {cI cJ : ClassId} {h g : Nat → Nat} {oA b L : Nat} {xs : Nat → Int32} (hL : L ≤ 3072) (hlt : l.stackTraces = false) (C0 : lw_At p s m meth c b L xs) (hc9 : lc h g oA s.heap.size) (hK : wd_K D cI cJ s) {sa sb : Nat} (htx : tx s.heap.size sa sb s) (gLN : GoodIn lw_tbl (va_wsS RL 54 yL_number wsLN)) :
    ∀ (d i : Nat), i ≤ L → L < i + 6 * d → ∀ (w9 m9 : va_W) (fo9 : Nat → Int64) (H : Heap) (locs : List Loc) (ls : Array Slot), SIM cI cJ h g w9 m9 → lH D cJ oA w9 m9 fo9 H → va_S (fun q : Nat => s.heap.size ≤ q) s.heap H locs → lv_has ls 8 [(4, .int (nI i)), (0, .ref b), (1, .ref (h 0)), (2, .ref (g 0)), (3, .ref oA)] → W p l e room_1 s m #[Value.ref b] below meth c H locs (40 + i) (5000 + 6 * i) (lw_Z below #[Value.ref b] s) (F0 m 23 ls []) := by
  obtain ⟨hx, hb, hr, hml, hown, htL, hX, hbl, hlocks, hgv⟩ := C0
  have hts : ∀ w ∈ wsL_law, w.before #[Value.ref b] s = true := fun w h => htL w (wsL_law_in w h)
  have hown : s.vm.findClass RL = some m.cls := hown
  have hbA : ¬ (fun q : Nat => s.heap.size ≤ q) b := Nat.not_le.mpr hbl
  intro d
  induction d with
  | zero => intro i h1 h2; exact absurd h2 (by omega)
  | succ d ih =>
    intro i hiL hid w9 m9 fo9 H locs ls hsim hH hS hl
    refine lv_iload hx hb dL_law_23 (lv_at hl 0 rfl) ?_
    refine lv_aload_n hx hb dL_law_25 rfl (lv_at hl 1 rfl) ?_
    refine va_slen hx hb hX hbl hbA hS dL_law_26 ?_
    refine lv_bipush (v := 6) hx hb dL_law_27 (by decide) ?_
    refine lv_isub hx hb dL_law_29 ?_
    by_cases h6 : i + 6 ≤ L
    · refine lv_icmp_gt (tgt := 885) hx hb dL_law_30 (by decide) (fun h9 => absurd h9 (show ¬ (nI L - nI 6 < nI i) by rw [pk_sub (by omega)]; exact nI_nlt (by omega) (by omega))) (fun _ => ?_)
      refine lv_aload_n hx hb dL_law_33 rfl (lv_at hl 1 rfl) ?_
      refine lv_iload hx hb dL_law_34 (lv_at hl 0 rfl) ?_
      refine ga_sld hx hb hX hbl hbA hS i rfl (by omega) hL dL_law_36 ?_
      refine lv_bipush (v := 31) hx hb dL_law_37 (by decide) ?_
      refine lv_iand hx hb dL_law_39 ?_
      obtain ⟨j, hj, ej⟩ := pk_andE (xs i) (m := 31) 5 (by decide)
      refine tp_i ej ?_
      have kk : ∀ (w9 m9 : va_W) (fo9 : Nat → Int64) (H : Heap) (locs : List Loc) (ls : Array Slot), SIM cI cJ h g w9 m9 → lH D cJ oA w9 m9 fo9 H → va_S (fun q : Nat => s.heap.size ≤ q) s.heap H locs → lv_has ls 8 [(4, .int (nI i)), (0, .ref b), (1, .ref (h 0)), (2, .ref (g 0)), (3, .ref oA)] → W p l e room_1 s m #[Value.ref b] below meth c H locs (41 + i) (5006 + 6 * i) (lw_Z below #[Value.ref b] s) (F0 m 879 ls []) := by
        intro w9 m9 fo9 H locs ls hsim hH hS hl
        refine lv_iinc (v := nI (i + 6)) (lv' := [(4, .int (nI (i + 6))), (0, .ref b), (1, .ref (h 0)), (2, .ref (g 0)), (3, .ref oA)]) hx hb dL_law_879 hl (k := 0) rfl (nI_add i 6) (by decide) rfl (fun ls hl => ?_)
        refine lv_goto (tgt := 23) hx hb dL_law_882 (by decide) ?_
        refine W.widen (k := 40 + (i + 6)) (n := 5000 + 6 * (i + 6)) (by omega) (by omega) ?_
        exact ih (i + 6) h6 (by omega) w9 m9 fo9 H locs ls hsim hH hS hl
      rcases Nat.lt_or_ge j 20 with hj20 | hj20
      · rcases (show j = 0 ∨ j = 1 ∨ j = 2 ∨ j = 3 ∨ j = 4 ∨ j = 5 ∨ j = 6 ∨ j = 7 ∨ j = 8 ∨ j = 9 ∨ j = 10 ∨ j = 11 ∨ j = 12 ∨ j = 13 ∨ j = 14 ∨ j = 15 ∨ j = 16 ∨ j = 17 ∨ j = 18 ∨ j = 19 by omega) with rfl | rfl | rfl | rfl | rfl | rfl | rfl | rfl | rfl | rfl | rfl | rfl | rfl | rfl | rfl | rfl | rfl | rfl | rfl | rfl
        · refine lv_tableIn (off := 96) (tgt := 136) hx hb dL_law_40 (by decide) (by decide) (by decide) (by decide) ?_
          exact lcase_0 hL hx hb hml hown hts hX hbl hc9 hK h6 kk hsim hH hS hl
        · refine lv_tableIn (off := 133) (tgt := 173) hx hb dL_law_40 (by decide) (by decide) (by decide) (by decide) ?_
          exact lcase_1 hL hx hb hml hown hts hX hbl hc9 hK h6 kk hsim hH hS hl
        · refine lv_tableIn (off := 170) (tgt := 210) hx hb dL_law_40 (by decide) (by decide) (by decide) (by decide) ?_
          exact lcase_2 hL hx hb hml hown hts hX hbl hc9 hK h6 kk hsim hH hS hl
        · refine lv_tableIn (off := 207) (tgt := 247) hx hb dL_law_40 (by decide) (by decide) (by decide) (by decide) ?_
          exact lcase_3 hL hx hb hml hown hts hX hbl hc9 hK h6 kk hsim hH hS hl
        · refine lv_tableIn (off := 232) (tgt := 272) hx hb dL_law_40 (by decide) (by decide) (by decide) (by decide) ?_
          exact lcase_4 hL hx hb hml hown hts hX hbl hc9 hK h6 kk hsim hH hS hl
        · refine lv_tableIn (off := 269) (tgt := 309) hx hb dL_law_40 (by decide) (by decide) (by decide) (by decide) ?_
          exact lcase_5 hL hx hb hml hown hts hX hbl hc9 hK h6 kk hsim hH hS hl
        · refine lv_tableIn (off := 306) (tgt := 346) hx hb dL_law_40 (by decide) (by decide) (by decide) (by decide) ?_
          exact lcase_6 hL hx hb hml hown hts hX hbl hc9 hK h6 kk hsim hH hS hl
        · refine lv_tableIn (off := 399) (tgt := 439) hx hb dL_law_40 (by decide) (by decide) (by decide) (by decide) ?_
          exact lcase_7 hL hx hb hml hown hts hX hbl hc9 hK h6 hlt htx htL gLN kk hsim hH hS hl
        · refine lv_tableIn (off := 478) (tgt := 518) hx hb dL_law_40 (by decide) (by decide) (by decide) (by decide) ?_
          exact lcase_8 hL hx hb hml hown hts hX hbl hc9 hK h6 kk hsim hH hS hl
        · refine lv_tableIn (off := 539) (tgt := 579) hx hb dL_law_40 (by decide) (by decide) (by decide) (by decide) ?_
          exact lcase_9 hL hx hb hml hown hts hX hbl hc9 hK h6 kk hsim hH hS hl
        · refine lv_tableIn (off := 588) (tgt := 628) hx hb dL_law_40 (by decide) (by decide) (by decide) (by decide) ?_
          exact lcase_10 hL hx hb hml hown hts hX hbl hc9 hK h6 kk hsim hH hS hl
        · refine lv_tableIn (off := 625) (tgt := 665) hx hb dL_law_40 (by decide) (by decide) (by decide) (by decide) ?_
          exact lcase_11 hL hx hb hml hown hts hX hbl hc9 hK h6 kk hsim hH hS hl
        · refine lv_tableIn (off := 650) (tgt := 690) hx hb dL_law_40 (by decide) (by decide) (by decide) (by decide) ?_
          exact lcase_12 hL hx hb hml hown hts hX hbl hc9 hK h6 kk hsim hH hS hl
        · refine lv_tableIn (off := 663) (tgt := 703) hx hb dL_law_40 (by decide) (by decide) (by decide) (by decide) ?_
          exact lcase_13 hL hx hb hml hown hts hX hbl hc9 hK h6 kk hsim hH hS hl
        · refine lv_tableIn (off := 688) (tgt := 728) hx hb dL_law_40 (by decide) (by decide) (by decide) (by decide) ?_
          exact lcase_14 hL hx hb hml hown hts hX hbl hc9 hK h6 kk hsim hH hS hl
        · refine lv_tableIn (off := 714) (tgt := 754) hx hb dL_law_40 (by decide) (by decide) (by decide) (by decide) ?_
          exact lcase_15 hL hx hb hml hown hts hX hbl hc9 hK h6 kk hsim hH hS hl
        · refine lv_tableIn (off := 739) (tgt := 779) hx hb dL_law_40 (by decide) (by decide) (by decide) (by decide) ?_
          exact lcase_16 hL hx hb hml hown hts hX hbl hc9 hK h6 kk hsim hH hS hl
        · refine lv_tableIn (off := 764) (tgt := 804) hx hb dL_law_40 (by decide) (by decide) (by decide) (by decide) ?_
          exact lcase_17 hL hx hb hml hown hts hX hbl hc9 hK h6 kk hsim hH hS hl
        · refine lv_tableIn (off := 801) (tgt := 841) hx hb dL_law_40 (by decide) (by decide) (by decide) (by decide) ?_
          exact lcase_18 hL hx hb hml hown hts hX hbl hc9 hK h6 kk hsim hH hS hl
        · refine lv_tableIn (off := 826) (tgt := 866) hx hb dL_law_40 (by decide) (by decide) (by decide) (by decide) ?_
          exact lcase_19 hL hx hb hml hown hts hX hbl hc9 hK h6 kk hsim hH hS hl
      · refine lv_tableOut (tgt := 879) hx hb dL_law_40 (Or.inr (by rw [nI_toInt (by omega)]; omega)) (by decide) ?_
        refine W.widen (k := 41 + i) (n := 5006 + 6 * i) (by omega) (by omega) ?_
        exact kk _ _ _ H locs ls hsim hH hS hl
    · refine lv_icmp_gt (tgt := 885) hx hb dL_law_30 (by decide) (fun _ => ?_) (fun h9 => absurd (show nI L - nI 6 < nI i by rw [Int32.lt_iff_toInt_lt, pk_sub_toInt (by omega) (by decide), nI_toInt (by omega)]; omega) h9)
      refine lv_iconst (v := 1) hx hb dL_law_885 (by decide) ?_
      refine va_forget (fun q hq => hS.2.2 q hq) ?_
      refine W.widen (k := 603072) (n := 7262314) (by omega) (by omega) ?_
      exact lw_ret hx hb hr hlocks dL_law_886
theorem lc_of {u v : Nat → Nat} {oA S0 : Nat} {ws : va_W} (hD : va_D (fun q => S0 ≤ q) ws) (e : ws.map (fun q => q.1) = (List.range 20).map u ++ ((List.range 16).map v ++ [oA])) : lc u v oA S0 := by
  have at' : ∀ (t a : Nat), ((List.range 20).map u ++ ((List.range 16).map v ++ [oA]))[t]? = some a → ∃ p : Nat × va_E, ws[t]? = some p ∧ p.1 = a := by
    intro t a ha
    rw [← e, List.getElem?_map] at ha
    cases hp : ws[t]? with
    | none => rw [hp] at ha; cases ha
    | some p => rw [hp] at ha; exact ⟨p, rfl, Option.some.inj ha⟩
  have h1 : ∀ i, i < 20 → ∃ p : Nat × va_E, ws[i]? = some p ∧ p.1 = u i := fun i hi => at' i (u i) (by
    rw [List.getElem?_append_left (by simp; omega), List.getElem?_map, List.getElem?_range hi]; rfl)
  have h2 : ∀ j, j < 16 → ∃ p : Nat × va_E, ws[20 + j]? = some p ∧ p.1 = v j := fun j hj => at' (20 + j) (v j) (by
    rw [List.getElem?_append_right (by simp), List.getElem?_append_left (by simp; omega), List.getElem?_map]
    simp only [List.length_map, List.length_range, Nat.add_sub_cancel_left]
    rw [List.getElem?_range hj]; rfl)
  have h3 : ∃ p : Nat × va_E, ws[36]? = some p ∧ p.1 = oA := at' 36 oA (by
    rw [List.getElem?_append_right (by simp), List.getElem?_append_right (by simp)]; simp)
  refine ⟨fun i j hi hj eq => ?_, fun i j hi hj eq => ?_, fun i j hi hj eq => ?_, fun i hi eq => ?_, fun j hj eq => ?_, fun i hi => ?_, fun j hj => ?_, ?_⟩
  · obtain ⟨p, hp, e1⟩ := h1 i hi
    obtain ⟨q, hq, e2⟩ := h1 j hj
    exact hD.1 i j p q hp hq (by rw [e1, e2, eq])
  · obtain ⟨p, hp, e1⟩ := h2 i hi
    obtain ⟨q, hq, e2⟩ := h2 j hj
    have := hD.1 _ _ p q hp hq (by rw [e1, e2, eq])
    omega
  · obtain ⟨p, hp, e1⟩ := h1 i hi
    obtain ⟨q, hq, e2⟩ := h2 j hj
    have := hD.1 _ _ p q hp hq (by rw [e1, e2, eq])
    omega
  · obtain ⟨p, hp, e1⟩ := h1 i hi
    obtain ⟨q, hq, e2⟩ := h3
    have := hD.1 _ _ p q hp hq (by rw [e1, e2, eq])
    omega
  · obtain ⟨p, hp, e1⟩ := h2 j hj
    obtain ⟨q, hq, e2⟩ := h3
    have := hD.1 _ _ p q hp hq (by rw [e1, e2, eq])
    omega
  · obtain ⟨p, hp, e1⟩ := h1 i hi
    rw [← e1]; exact hD.2 i p hp
  · obtain ⟨p, hp, e1⟩ := h2 j hj
    rw [← e1]; exact hD.2 _ p hp
  · obtain ⟨p, hp, e1⟩ := h3
    rw [← e1]; exact hD.2 _ p hp
