/-! what ties the two: the class's cells and the reference's hold the same things -/
theorem tl_m1 : tl (-1) = -5 := by decide
theorem tl_nI {p : Nat} (h : p < 2 ^ 31) : tl (nI p) = nI p := by unfold tl; rw [if_neg (nI_pos h)]
theorem up_tl {P : Nat → Int32} {q : Nat} {x y : Int32} (h : tl y = x) : upd (fun j => tl (P j)) q x = fun j => tl (upd P q y j) := by
  funext j
  unfold upd
  by_cases e : j = q
  · rw [if_pos e, if_pos e, h]
  · rw [if_neg e, if_neg e]
theorem z8_tl {P : Nat → Int32} {o : Nat} : z8I (fun j => tl (P j)) o (-5) = fun j => tl (z8I P o (-1) j) := by
  show upd (upd (upd (upd (upd (upd (upd (upd (fun j => tl (P j)) (o + 0) (-5)) (o + 1) (-5)) (o + 2) (-5)) (o + 3) (-5)) (o + 4) (-5)) (o + 5) (-5)) (o + 6) (-5)) (o + 7) (-5) = _
  rw [up_tl tl_m1, up_tl tl_m1, up_tl tl_m1, up_tl tl_m1, up_tl tl_m1, up_tl tl_m1, up_tl tl_m1, up_tl tl_m1]
theorem z8_in {P : Nat → Int32} {o i : Nat} {x : Int32} (h : i < 8) : z8I P o x (o + i) = x := by
  rcases (show i = 0 ∨ i = 1 ∨ i = 2 ∨ i = 3 ∨ i = 4 ∨ i = 5 ∨ i = 6 ∨ i = 7 by omega) with rfl | rfl | rfl | rfl | rfl | rfl | rfl | rfl <;> simp [z8I, upd]
theorem z8_out {P : Nat → Int32} {o t : Nat} {x : Int32} (h : t < o ∨ o + 8 ≤ t) : z8I P o x t = P t := by
  show upd (upd (upd (upd (upd (upd (upd (upd P (o + 0) x) (o + 1) x) (o + 2) x) (o + 3) x) (o + 4) x) (o + 5) x) (o + 6) x) (o + 7) x t = P t
  unfold upd
  rw [if_neg (by omega), if_neg (by omega), if_neg (by omega), if_neg (by omega), if_neg (by omega), if_neg (by omega), if_neg (by omega), if_neg (by omega)]
theorem up_eq {P : Nat → Int32} {q : Nat} {x : Int32} : upd P q x q = x := if_pos rfl
theorem up_ne {P : Nat → Int32} {q t : Nat} {x : Int32} (h : t ≠ q) : upd P q x t = P t := if_neg h
theorem q_nat {x : Int32} (a c : Nat) (h : q_in x (nI a) (nI c) = true) (hc : c < 2 ^ 31) (hac : a ≤ c) : ∃ j : Nat, a ≤ j ∧ j ≤ c ∧ x = nI j := by
  simp only [q_in, Bool.and_eq_true, decide_eq_true_eq] at h
  obtain ⟨h1, h2⟩ := h
  rw [Int32.lt_iff_toInt_lt, nI_toInt (Nat.lt_of_le_of_lt hac hc)] at h1
  rw [Int32.le_iff_toInt_le, nI_toInt hc] at h2
  have h3 : ¬ x < 0 := by rw [Int32.lt_iff_toInt_lt]; show ¬ x.toInt < 0; omega
  obtain ⟨j, hj, rfl⟩ := nI_of h3
  rw [nI_toInt hj] at h1 h2
  exact ⟨j, by omega, by omega, rfl⟩
def m1p (n : Nat) (x : Int32) : Prop := x = -1 ∨ ∃ p : Nat, p < n ∧ x = nI p
theorem m1p.mono {n n' : Nat} {x : Int32} (h : m1p n x) (hn : n ≤ n') : m1p n' x := h.imp id (fun ⟨p, hp, e⟩ => ⟨p, Nat.lt_of_lt_of_le hp hn, e⟩)
theorem m1p_tl {n : Nat} {x : Int32} (h : m1p n x) (hn : n ≤ 100) : (x = -1 ∧ tl x = -5) ∨ ∃ p : Nat, p < n ∧ x = nI p ∧ tl x = nI p := by
  rcases h with rfl | ⟨p, hp, rfl⟩
  · exact Or.inl ⟨rfl, tl_m1⟩
  · exact Or.inr ⟨p, hp, rfl, tl_nI (by omega)⟩
def IT (n : Nat) (F Sz Pl : Nat → Int32) : Prop := n ≤ 100 ∧ ∀ j, j < n → (∃ a : Nat, a < 16 ∧ F j = nI a) ∧ (∃ z : Nat, z ≤ 8 ∧ Sz j = nI z) ∧ ∀ i, i < 8 → m1p n (Pl (8 * j + i))
def IS (n k : Nat) (G Wk Sl : Nat → Int32) : Prop := k ≤ 8 ∧ ∀ s, s < k → (∃ c : Nat, c < 18 ∧ G s = nI c) ∧ (∃ w : Nat, w < 13 ∧ Wk s = nI w) ∧ m1p n (Sl s)
def IB (n b f : Nat) (Ri Bf : Nat → Int32) : Prop := f < 40 ∧ b ≤ 40 ∧ ∀ i, i < b → Ri ((f + i) % 40) = Bf i ∧ ∃ p : Nat, p < n ∧ Bf i = nI p
def IA (as an : Nat) (oT oS oF Sd : Nat → Int32) : Prop := an < 20 ∧ as ≤ 20 ∧ ∀ i, i < as → oT ((an + 19 - i) % 20) = Sd (3 * i + 0) ∧ oS ((an + 19 - i) % 20) = Sd (3 * i + 1) ∧ oF ((an + 19 - i) % 20) = Sd (3 * i + 2)
theorem IT.add {n : Nat} {F Sz Pl : Nat → Int32} {fo sz : Int32} (h : IT n F Sz Pl) (hn : n < 100) (hf : ∃ a : Nat, a < 16 ∧ fo = nI a) (hs : ∃ z : Nat, z ≤ 8 ∧ sz = nI z) : IT (n + 1) (upd F n fo) (upd Sz n sz) (z8I Pl (8 * n) (-1)) := by
  refine ⟨by omega, fun j hj => ?_⟩
  by_cases e : j = n
  · subst e
    rw [up_eq, up_eq]
    exact ⟨hf, hs, fun i hi => Or.inl (z8_in hi)⟩
  · rw [up_ne e, up_ne e]
    obtain ⟨h1, h2, h3⟩ := h.2 j (by omega)
    exact ⟨h1, h2, fun i hi => by rw [z8_out (by omega)]; exact (h3 i hi).mono (by omega)⟩
theorem IT.lay {n r j : Nat} {F Sz Pl : Nat → Int32} {x : Int32} (h : IT n F Sz Pl) (hx : m1p n x) : IT n F Sz (upd Pl (8 * r + j) x) := by
  refine ⟨h.1, fun t ht => ?_⟩
  obtain ⟨h1, h2, h3⟩ := h.2 t ht
  refine ⟨h1, h2, fun i hi => ?_⟩
  by_cases e : 8 * t + i = 8 * r + j
  · rw [e, up_eq]; exact hx
  · rw [up_ne e]; exact h3 i hi
theorem IS.mono {n n' k : Nat} {G Wk Sl : Nat → Int32} (h : IS n k G Wk Sl) (hn : n ≤ n') : IS n' k G Wk Sl := ⟨h.1, fun s hs => ⟨(h.2 s hs).1, (h.2 s hs).2.1, (h.2 s hs).2.2.mono hn⟩⟩
theorem IS.slot {n k i : Nat} {G Wk Sl : Nat → Int32} {x : Int32} (h : IS n k G Wk Sl) (hx : m1p n x) : IS n k G Wk (upd Sl i x) := by
  refine ⟨h.1, fun s hs => ⟨(h.2 s hs).1, (h.2 s hs).2.1, ?_⟩⟩
  by_cases e : s = i
  · rw [e, up_eq]; exact hx
  · rw [up_ne e]; exact (h.2 s hs).2.2
theorem IS.add {n k : Nat} {G Wk Sl : Nat → Int32} {ga wk : Int32} (h : IS n k G Wk Sl) (hk : k < 8) (hg : ∃ c : Nat, c < 18 ∧ ga = nI c) (hw : ∃ w : Nat, w < 13 ∧ wk = nI w) : IS n (k + 1) (upd G k ga) (upd Wk k wk) (upd Sl k (-1)) := by
  refine ⟨by omega, fun s hs => ?_⟩
  by_cases e : s = k
  · subst e
    rw [up_eq, up_eq, up_eq]
    exact ⟨hg, hw, Or.inl rfl⟩
  · rw [up_ne e, up_ne e, up_ne e]
    exact h.2 s (by omega)
theorem IB.mono {n n' b f : Nat} {Ri Bf : Nat → Int32} (h : IB n b f Ri Bf) (hn : n ≤ n') : IB n' b f Ri Bf := ⟨h.1, h.2.1, fun i hi => ⟨(h.2.2 i hi).1, (h.2.2 i hi).2.imp (fun _ hp => ⟨Nat.lt_of_lt_of_le hp.1 hn, hp.2⟩)⟩⟩
theorem md_ne {f i b : Nat} (hi : i < b) (hb : b < 40) : (f + i) % 40 ≠ (f + b) % 40 := by omega
theorem IB.push {n b f : Nat} {Ri Bf : Nat → Int32} {x : Int32} (h : IB n b f Ri Bf) (hb : b < 40) (hx : ∃ p : Nat, p < n ∧ x = nI p) : IB n (b + 1) f (upd Ri ((f + b) % 40) x) (upd Bf b x) := by
  refine ⟨h.1, by omega, fun i hi => ?_⟩
  by_cases e : i = b
  · subst e
    rw [up_eq, up_eq]
    exact ⟨rfl, hx⟩
  · rw [up_ne (md_ne (by omega) hb), up_ne e]
    exact h.2.2 i (by omega)
theorem IB.pop {n b f : Nat} {Ri Bf : Nat → Int32} (h : IB n (b + 1) f Ri Bf) : IB n b ((f + 1) % 40) Ri (shB Bf b) := by
  have hf := h.1
  have hb := h.2.1
  refine ⟨Nat.mod_lt _ (by decide), by omega, fun i hi => ?_⟩
  obtain ⟨h1, h2⟩ := h.2.2 (i + 1) (by omega)
  have e : shB Bf b i = Bf (i + 1) := if_pos hi
  rw [e, show ((f + 1) % 40 + i) % 40 = (f + (i + 1)) % 40 by omega]
  exact ⟨h1, h2⟩
theorem asD_0 {Sd : Nat → Int32} {t u v : Int32} : asD Sd t u v (3 * 0 + 0) = t ∧ asD Sd t u v (3 * 0 + 1) = u ∧ asD Sd t u v (3 * 0 + 2) = v := by
  refine ⟨?_, ?_, ?_⟩ <;> simp [asD, upd]
theorem asD_s {Sd : Nat → Int32} {t u v : Int32} {i q : Nat} (hi : i < 19) (hq : q < 3) : asD Sd t u v (3 * (i + 1) + q) = Sd (3 * i + q) := by
  show upd (upd (upd (shA Sd 2) 0 t) 1 u) 2 v (3 * (i + 1) + q) = _
  rw [up_ne (by omega), up_ne (by omega), up_ne (by omega)]
  unfold shA
  rw [if_pos (by omega), show 3 * (i + 1) + q - 3 = 3 * i + q by omega]
theorem IA.add {as an : Nat} {oT oS oF Sd : Nat → Int32} {t u v : Int32} (h : IA as an oT oS oF Sd) : IA (min (as + 1) 20) ((an + 1) % 20) (upd oT an t) (upd oS an u) (upd oF an v) (asD Sd t u v) := by
  have ha := h.1
  refine ⟨Nat.mod_lt _ (by decide), Nat.min_le_right _ _, fun i hi => ?_⟩
  cases i with
  | zero =>
    rw [show ((an + 1) % 20 + 19 - 0) % 20 = an by omega, up_eq, up_eq, up_eq]
    obtain ⟨e1, e2, e3⟩ := asD_0 (Sd := Sd) (t := t) (u := u) (v := v)
    exact ⟨e1.symm, e2.symm, e3.symm⟩
  | succ i =>
    have hi2 : i < as := by omega
    have hi3 : i < 19 := by omega
    obtain ⟨h1, h2, h3⟩ := h.2.2 i hi2
    rw [show ((an + 1) % 20 + 19 - (i + 1)) % 20 = (an + 19 - i) % 20 by omega]
    have hne : (an + 19 - i) % 20 ≠ an := by omega
    rw [up_ne hne, up_ne hne, up_ne hne, asD_s hi3 (by decide), asD_s hi3 (by decide), asD_s hi3 (by decide)]
    exact ⟨h1, h2, h3⟩
theorem ko_num {a c : Nat} (ha : a < 16) (h4 : 4 ≤ c) (h6 : c ≤ 6) (h : ko (nI a) (nI c) = true) : a = c := by
  have hx : ∀ a, a < 16 → ∀ c, c < 7 → 4 ≤ c → ko (nI a) (nI c) = true → a = c := by decide +kernel
  exact hx a ha c (by omega) h4 h
