/-! the works of the two, tied -/
theorem msum_tl {gg Pl : Nat → Int32} {oo : Nat} : ∀ (z : Nat), (∀ j, j < z → tl (Pl (oo + j)) = Pl (oo + j)) → msum gg (fun j => tl (Pl j)) oo z = msum gg Pl oo z := by
  intro z
  induction z with
  | zero => intro _; rfl
  | succ z ih =>
    intro hv
    rw [msum, msum, ih (fun j hj => hv j (by omega))]
    show _ + (gg (tl (Pl (oo + z))).toNatClampNeg).toInt64 = _
    rw [hv z (by omega)]
theorem pin0 {z : Nat} {s : Int32} (hz : s = nI z) (h8 : z ≤ 8) : (s = 0 ∧ p_in 0 s = false) ∨ (¬ s = 0 ∧ p_in 0 s = true) := by
  subst hz
  cases z with
  | zero => exact Or.inl ⟨rfl, by decide⟩
  | succ z => exact Or.inr ⟨nI_ne0 (Nat.succ_pos z) (by omega), p_in_nI (j := 0) (Nat.succ_pos z) (by omega)⟩
theorem faf3 {n r : Nat} {F Sz Pl : Nat → Int32} (iT : IT n F Sz Pl) (hr : r < n) : (Sz r = 0 ∧ fafS Sz (fun j => tl (Pl j)) r = nI 3) ∨ (¬ Sz r = 0 ∧ Pl (8 * r) = -1 ∧ fafS Sz (fun j => tl (Pl j)) r = nI 2) ∨ ∃ p : Nat, p < n ∧ ¬ Sz r = 0 ∧ Pl (8 * r) = nI p ∧ fafS Sz (fun j => tl (Pl j)) r = 0 ∧ (fun j => tl (Pl j)) (8 * r + 0) = nI p := by
  obtain ⟨-, ⟨z, hz8, hz⟩, hP⟩ := iT.2 r hr
  have hn := iT.1
  rcases pin0 hz hz8 with ⟨h0, hp⟩ | ⟨h0, hp⟩
  · refine Or.inl ⟨h0, ?_⟩
    unfold fafS; rw [hp]; rfl
  · rcases m1p_tl (hP 0 (by decide)) hn with ⟨e1, e2⟩ | ⟨p, hp9, e1, e2⟩
    · refine Or.inr (Or.inl ⟨h0, e1, ?_⟩)
      unfold fafS
      rw [hp, if_pos rfl]
      exact if_pos e2
    · refine Or.inr (Or.inr ⟨p, hp9, h0, e1, ?_, e2⟩)
      unfold fafS
      rw [hp, if_pos rfl]
      refine if_neg (fun h9 => ?_)
      rw [show (fun j => tl (Pl j)) (8 * r + 0) = tl (Pl (8 * r + 0)) from rfl, e2] at h9
      exact absurd (h9 ▸ nI_pos (n := p) (by omega)) (by decide)
theorem spill_rel {n r b f : Nat} {F Sz Pl Ri Bf : Nat → Int32} (hr : r < n) (iT : IT n F Sz Pl) (iB : IB n b f Ri Bf) : ∀ i, i ≤ 8 → ∃ (P2 R2 B2 : Nat → Int32) (c : Nat), spS r f ((fun j => tl (Pl j)), Ri, b) i = ((fun j => tl (P2 j)), R2, c) ∧ spR r (Pl, Bf, b) i = (P2, B2, c) ∧ IT n F Sz P2 ∧ IB n c f R2 B2 := by
  intro i
  induction i with
  | zero => intro _; exact ⟨Pl, Ri, Bf, b, rfl, rfl, iT, iB⟩
  | succ i ih =>
    intro hi
    obtain ⟨P2, R2, B2, c, e1, e2, jT, jB⟩ := ih (by omega)
    have hn := jT.1
    rcases m1p_tl ((jT.2 r hr).2.2 i (by omega)) hn with ⟨m1, m2⟩ | ⟨p, hp9, m1, m2⟩
    · exact ⟨P2, R2, B2, c, spS_n e1 m2, spR_n e2 (by rw [m1]; decide), jT, jB⟩
    · have hne : ¬ (fun j => tl (P2 j)) (8 * r + i) = -5 := fun h9 => by
        rw [show (fun j => tl (P2 j)) (8 * r + i) = tl (P2 (8 * r + i)) from rfl, m2] at h9
        exact absurd (h9 ▸ nI_pos (n := p) (by omega)) (by decide)
      have hnl : ¬ P2 (8 * r + i) < 0 := by rw [m1]; exact nI_pos (by omega)
      rcases Nat.lt_or_ge c 40 with hc | hc
      · refine ⟨upd P2 (8 * r + i) (-1), upd R2 ((f + c) % 40) (nI p), upd B2 c (nI p), c + 1, ?_, ?_, jT.lay (Or.inl rfl), jB.push hc ⟨p, hp9, rfl⟩⟩
        · rw [spS_o e1 hne hc, up_tl tl_m1]
          show (_, upd R2 ((f + c) % 40) (tl (P2 (8 * r + i))), c + 1) = _
          rw [m2]
        · rw [spR_o e2 hnl hc, m1]
      · exact ⟨P2, R2, B2, c, spS_f e1 hne (by omega), spR_f e2 (by omega), jT, jB⟩
def WOK (l : Launch) (D : va_G) (cI cJ : ClassId) (h g : Nat → Nat) (n k b as f an : Nat) (fx : Int32) (F Wt Sz : Nat → Int32) (Nu : Nat → Int64) (Pl G Wk : Nat → Int32) (To : Nat → Int64) (Sl Ri oT oS oF Bf Sd Fo : Nat → Int32) (wo pa fa : Int32) (r i : Nat) : Prop := ∃ (x : Nat) (Tc T2 : Nat → Int64) (Sc S2 Mc P2 R2 B2 : Nat → Int32) (b2 : Nat), x ≤ 5 ∧ Tc = T2 ∧ Sc = (fun j => tl (S2 j)) ∧ Mc = (fun j => tl (P2 j)) ∧
  Met l yX5_workOn wsX5_workOn ({ frames := 6, cells := 0, slots := 0, locals := 200 } : Room) (wd_P D cI cJ [.ref (h 0), .int (nI r), .int (nI i)] (sl_W cI cJ h (nI n) F Wt Sz Nu (fun j => tl (Pl j)) (nI k) G Wk To (fun j => tl (Sl j)) Ri (nI f) (nI b) oT oS oF (nI an) (nI as) Fo wo pa fa)) (mu_Q D (ad_A h 20) (some (.int (nI x))) (sl_W cI cJ h (nI n) F Wt Sz Nu Mc (nI k) G Wk Tc Sc R2 (nI f) (nI b2) oT oS oF (nI an) (nI as) Fo wo pa fa)) 0 0 (ad_A h 20) ∧
  Met l yX6_works wsX6_works ({ frames := 7, cells := 0, slots := 0, locals := 300 } : Room) (wd_P D cI cJ [.ref (g 0), .int (nI i), .int (nI r)] (mo_W cI cJ g fx (nI n) F Wt Sz Nu Pl Bf (nI b) (nI k) G Wk To Sl Sd (nI as) wo pa fa Fo)) (mu_Q D (ad_A g 16) (some (.int (nI x))) (mo_W cI cJ g fx (nI n) F Wt Sz Nu P2 B2 (nI b2) (nI k) G Wk T2 S2 Sd (nI as) wo pa fa Fo)) 0 0 (ad_A g 16) ∧
  IT n F Sz P2 ∧ IS n k G Wk S2 ∧ IB n b2 f R2 B2
section SimB
variable {l : Launch} {D : va_G} {cI cJ : ClassId} {h g : Nat → Nat} {n k b as f an : Nat} {fx : Int32} {F Wt Sz : Nat → Int32} {Nu : Nat → Int64} {Pl G Wk : Nat → Int32} {To : Nat → Int64} {Sl Ri oT oS oF Bf Sd Fo : Nat → Int32} {wo pa fa : Int32}
set_option maxHeartbeats 4000000 in
theorem wsim_0 (hh : ad_ok h 20) (hg : ad_ok g 16) (iT : IT n F Sz Pl) (iS : IS n k G Wk Sl) (iB : IB n b f Ri Bf) (r : Nat) (hr9 : r < n) (i : Nat) (hi : i < k) (hw : Wk i = nI 0) (hko : ko (F r) (nI 0) = true) : WOK l D cI cJ h g n k b as f an fx F Wt Sz Nu Pl G Wk To Sl Ri oT oS oF Bf Sd Fo wo pa fa r i := by
  have hn := iT.1
  have hk := iS.1
  have hf := iB.1
  have hb9 := iB.2.1
  obtain ⟨⟨a, ha16, hFa⟩, ⟨z, hz8, hz⟩, hP9⟩ := iT.2 r hr9
  have hkc : ko (F r) (kfS 0) = true := hko
  exact ⟨0, _, _, _, _, _, _, _, _, _, by decide, rfl, up_tl (tl_nI (by omega)), rfl, c_X5_work_0 hh hn hk r hr9 i hi hw hkc , c_X6_work_0 hg hn hk r hr9 i hi a ha16 hFa hw hko , iT, iS.slot (Or.inr ⟨r, hr9, rfl⟩), iB⟩
set_option maxHeartbeats 4000000 in
theorem wsim_1 (hh : ad_ok h 20) (hg : ad_ok g 16) (iT : IT n F Sz Pl) (iS : IS n k G Wk Sl) (iB : IB n b f Ri Bf) (r : Nat) (hr9 : r < n) (i : Nat) (hi : i < k) (hw : Wk i = nI 1) (hko : ko (F r) (nI 16) = true) : WOK l D cI cJ h g n k b as f an fx F Wt Sz Nu Pl G Wk To Sl Ri oT oS oF Bf Sd Fo wo pa fa r i := by
  have hn := iT.1
  have hk := iS.1
  have hf := iB.1
  have hb9 := iB.2.1
  obtain ⟨⟨a, ha16, hFa⟩, ⟨z, hz8, hz⟩, hP9⟩ := iT.2 r hr9
  have hkc : ko (F r) (kfS 1) = true := hko
  exact ⟨0, _, _, _, _, _, _, _, _, _, by decide, rfl, rfl, rfl, c_X5_work_1 hh hn hk r hr9 i hi hw hkc , c_X6_work_1 hg hn hk r hr9 i hi a ha16 hFa hw hko , iT, iS, iB⟩
set_option maxHeartbeats 4000000 in
theorem wsim_2 (hh : ad_ok h 20) (hg : ad_ok g 16) (iT : IT n F Sz Pl) (iS : IS n k G Wk Sl) (iB : IB n b f Ri Bf) (r : Nat) (hr9 : r < n) (i : Nat) (hi : i < k) (hw : Wk i = nI 2) (hko : ko (F r) (nI 5) = true) : WOK l D cI cJ h g n k b as f an fx F Wt Sz Nu Pl G Wk To Sl Ri oT oS oF Bf Sd Fo wo pa fa r i := by
  have hn := iT.1
  have hk := iS.1
  have hf := iB.1
  have hb9 := iB.2.1
  obtain ⟨⟨a, ha16, hFa⟩, ⟨z, hz8, hz⟩, hP9⟩ := iT.2 r hr9
  have hkc : ko (F r) (kfS 2) = true := hko
  exact ⟨0, _, _, _, _, _, _, _, _, _, by decide, rfl, rfl, rfl, c_X5_work_2 hh hn hk r hr9 i hi hw hkc z hz hz8, c_X6_work_2 hg hn hk r hr9 i hi a ha16 hFa hw hko z hz hz8, iT, iS, iB⟩
set_option maxHeartbeats 4000000 in
theorem wsim_3 (hh : ad_ok h 20) (hg : ad_ok g 16) (iT : IT n F Sz Pl) (iS : IS n k G Wk Sl) (iB : IB n b f Ri Bf) (r : Nat) (hr9 : r < n) (i : Nat) (hi : i < k) (hw : Wk i = nI 3) (hko : ko (F r) (nI 6) = true) : WOK l D cI cJ h g n k b as f an fx F Wt Sz Nu Pl G Wk To Sl Ri oT oS oF Bf Sd Fo wo pa fa r i := by
  have hn := iT.1
  have hk := iS.1
  have hf := iB.1
  have hb9 := iB.2.1
  obtain ⟨⟨a, ha16, hFa⟩, ⟨z, hz8, hz⟩, hP9⟩ := iT.2 r hr9
  have hkc : ko (F r) (kfS 3) = true := hko
  exact ⟨0, _, _, _, _, _, _, _, _, _, by decide, rfl, rfl, rfl, c_X5_work_3 hh hn hk r hr9 i hi hw hkc z hz hz8, c_X6_work_3 hg hn hk r hr9 i hi a ha16 hFa hw hko z hz hz8, iT, iS, iB⟩
set_option maxHeartbeats 4000000 in
theorem wsim_4 (hh : ad_ok h 20) (hg : ad_ok g 16) (iT : IT n F Sz Pl) (iS : IS n k G Wk Sl) (iB : IB n b f Ri Bf) (r : Nat) (hr9 : r < n) (i : Nat) (hi : i < k) (hw : Wk i = nI 4) (hko : ko (F r) (nI 4) = true) : WOK l D cI cJ h g n k b as f an fx F Wt Sz Nu Pl G Wk To Sl Ri oT oS oF Bf Sd Fo wo pa fa r i := by
  have hn := iT.1
  have hk := iS.1
  have hf := iB.1
  have hb9 := iB.2.1
  obtain ⟨⟨a, ha16, hFa⟩, ⟨z, hz8, hz⟩, hP9⟩ := iT.2 r hr9
  have hkc : ko (F r) (kfS 4) = true := hko
  exact ⟨0, _, _, _, _, _, _, _, _, _, by decide, rfl, rfl, rfl, c_X5_work_4 hh hn hk r hr9 i hi hw hkc z hz hz8, c_X6_work_4 hg hn hk r hr9 i hi a ha16 hFa hw hko z hz hz8, iT, iS, iB⟩
set_option maxHeartbeats 4000000 in
theorem wsim_5 (hh : ad_ok h 20) (hg : ad_ok g 16) (iT : IT n F Sz Pl) (iS : IS n k G Wk Sl) (iB : IB n b f Ri Bf) (r : Nat) (hr9 : r < n) (i : Nat) (hi : i < k) (hw : Wk i = nI 5) (hko : ko (F r) (nI 8) = true) : WOK l D cI cJ h g n k b as f an fx F Wt Sz Nu Pl G Wk To Sl Ri oT oS oF Bf Sd Fo wo pa fa r i := by
  have hn := iT.1
  have hk := iS.1
  have hf := iB.1
  have hb9 := iB.2.1
  obtain ⟨⟨a, ha16, hFa⟩, ⟨z, hz8, hz⟩, hP9⟩ := iT.2 r hr9
  have hkc : ko (F r) (kfS 5) = true := hko
  by_cases hq : ∃ q, q < z ∧ Pl (8 * r + q) = -1
  · obtain ⟨q, ⟨hqz, hm⟩, hlt⟩ := pk_least (fun q => q < z ∧ Pl (8 * r + q) = -1) hq
    have hv : ∀ j, j < q → ∃ p9, p9 < n ∧ Pl (8 * r + j) = nI p9 := fun j hj => (hP9 j (by omega)).resolve_left (fun e => hlt j hj ⟨by omega, e⟩)
    have hv2 : ∀ j, j < q → ∃ p9, p9 < n ∧ (fun j => tl (Pl j)) (8 * r + j) = nI p9 := fun j hj => by
      obtain ⟨p9, hp, e⟩ := hv j hj
      exact ⟨p9, hp, show tl (Pl (8 * r + j)) = nI p9 by rw [e, tl_nI (by omega)]⟩
    exact ⟨2, _, _, _, _, _, _, _, _, _, by decide, rfl, rfl, rfl, pu_mu (c_X5_work_5n hh hn hk r hr9 i hi hw hkc z q hz hz8 hv2 hqz (show tl (Pl (8 * r + q)) = -5 by rw [hm]; exact tl_m1)), pu_mu (c_X6_work_5n hg hn hk r hr9 i hi a ha16 hFa hw hko z q hz hz8 hv hqz hm), iT, iS, iB⟩
  · have hv : ∀ j, j < z → ∃ p9, p9 < n ∧ Pl (8 * r + j) = nI p9 := fun j hj => (hP9 j (by omega)).resolve_left (fun e => hq ⟨j, hj, e⟩)
    have hv3 : ∀ j, j < z → tl (Pl (8 * r + j)) = Pl (8 * r + j) := fun j hj => by
      obtain ⟨p9, hp, e⟩ := hv j hj
      rw [e, tl_nI (by omega)]
    have hv2 : ∀ j, j < z → ∃ p9, p9 < n ∧ (fun j => tl (Pl j)) (8 * r + j) = nI p9 := fun j hj => by
      obtain ⟨p9, hp, e⟩ := hv j hj
      exact ⟨p9, hp, (hv3 j hj).trans e⟩
    exact ⟨0, _, _, _, _, _, _, _, _, _, by decide, by rw [msum_tl z hv3], rfl, rfl, c_X5_work_5o hh hn hk r hr9 i hi hw hkc z hz hz8 hv2, c_X6_work_5o hg hn hk r hr9 i hi a ha16 hFa hw hko z hz hz8 hv, iT, iS, iB⟩
set_option maxHeartbeats 4000000 in
theorem wsim_10 (hh : ad_ok h 20) (hg : ad_ok g 16) (iT : IT n F Sz Pl) (iS : IS n k G Wk Sl) (iB : IB n b f Ri Bf) (r : Nat) (hr9 : r < n) (i : Nat) (hi : i < k) (hw : Wk i = nI 10) (hko : ko (F r) (nI 11) = true) : WOK l D cI cJ h g n k b as f an fx F Wt Sz Nu Pl G Wk To Sl Ri oT oS oF Bf Sd Fo wo pa fa r i := by
  have hn := iT.1
  have hk := iS.1
  have hf := iB.1
  have hb9 := iB.2.1
  obtain ⟨⟨a, ha16, hFa⟩, ⟨z, hz8, hz⟩, hP9⟩ := iT.2 r hr9
  have hkc : ko (F r) (kfS 10) = true := hko
  by_cases hq : ∃ q, q < z ∧ Pl (8 * r + q) = -1
  · obtain ⟨q, ⟨hqz, hm⟩, hlt⟩ := pk_least (fun q => q < z ∧ Pl (8 * r + q) = -1) hq
    have hv : ∀ j, j < q → ∃ p9, p9 < n ∧ Pl (8 * r + j) = nI p9 := fun j hj => (hP9 j (by omega)).resolve_left (fun e => hlt j hj ⟨by omega, e⟩)
    have hv2 : ∀ j, j < q → ∃ p9, p9 < n ∧ (fun j => tl (Pl j)) (8 * r + j) = nI p9 := fun j hj => by
      obtain ⟨p9, hp, e⟩ := hv j hj
      exact ⟨p9, hp, show tl (Pl (8 * r + j)) = nI p9 by rw [e, tl_nI (by omega)]⟩
    exact ⟨2, _, _, _, _, _, _, _, _, _, by decide, rfl, rfl, rfl, pu_mu (c_X5_work_10n hh hn hk r hr9 i hi hw hkc z q hz hz8 hv2 hqz (show tl (Pl (8 * r + q)) = -5 by rw [hm]; exact tl_m1)), pu_mu (c_X6_work_10n hg hn hk r hr9 i hi a ha16 hFa hw hko z q hz hz8 hv hqz hm), iT, iS, iB⟩
  · have hv : ∀ j, j < z → ∃ p9, p9 < n ∧ Pl (8 * r + j) = nI p9 := fun j hj => (hP9 j (by omega)).resolve_left (fun e => hq ⟨j, hj, e⟩)
    have hv3 : ∀ j, j < z → tl (Pl (8 * r + j)) = Pl (8 * r + j) := fun j hj => by
      obtain ⟨p9, hp, e⟩ := hv j hj
      rw [e, tl_nI (by omega)]
    have hv2 : ∀ j, j < z → ∃ p9, p9 < n ∧ (fun j => tl (Pl j)) (8 * r + j) = nI p9 := fun j hj => by
      obtain ⟨p9, hp, e⟩ := hv j hj
      exact ⟨p9, hp, (hv3 j hj).trans e⟩
    exact ⟨0, _, _, _, _, _, _, _, _, _, by decide, by rw [msum_tl z hv3], rfl, rfl, c_X5_work_10o hh hn hk r hr9 i hi hw hkc z hz hz8 hv2, c_X6_work_10o hg hn hk r hr9 i hi a ha16 hFa hw hko z hz hz8 hv, iT, iS, iB⟩
set_option maxHeartbeats 4000000 in
theorem wsim_6 (hh : ad_ok h 20) (hg : ad_ok g 16) (iT : IT n F Sz Pl) (iS : IS n k G Wk Sl) (iB : IB n b f Ri Bf) (r : Nat) (hr9 : r < n) (i : Nat) (hi : i < k) (hw : Wk i = nI 6) (hko : ko (F r) (nI 8) = true) : WOK l D cI cJ h g n k b as f an fx F Wt Sz Nu Pl G Wk To Sl Ri oT oS oF Bf Sd Fo wo pa fa r i := by
  have hn := iT.1
  have hk := iS.1
  have hf := iB.1
  have hb9 := iB.2.1
  obtain ⟨⟨a, ha16, hFa⟩, ⟨z, hz8, hz⟩, hP9⟩ := iT.2 r hr9
  have hkc : ko (F r) (kfS 6) = true := hko
  obtain ⟨-, -, hsl⟩ := iS.2 i hi
  have ha7 := ko_row ha16 (c := 8) (by decide) (by decide) (hFa ▸ hko)
  obtain ⟨e9, he, he9, hme⟩ := mk_pt ha7.1 ha7.2
  rcases m1p_tl hsl hn with ⟨s1, s2⟩ | ⟨p9, hp9, s1, s2⟩
  · rcases pin0 hz hz8 with ⟨-, h2⟩ | ⟨-, h2⟩
    · exact ⟨3, _, _, _, _, _, _, _, _, _, by decide, rfl, rfl, rfl, pu_mu (c_X5_work_6nB hh hn hk r hr9 i hi hw hkc s2 h2), c_X6_work_6nB hg hn hk r hr9 i hi a ha16 hFa hw hko s1 z hz hz8 h2, iT, iS, iB⟩
    · exact ⟨0, _, _, _, _, _, _, _, _, _, by decide, rfl, up_tl tl_m1, up_tl tl_m1, c_X5_work_6nO hh hn hk r hr9 i hi hw hkc s2 h2, c_X6_work_6nO hg hn hk r hr9 i hi a ha16 hFa hw hko s1 z hz hz8 h2, iT.lay (Or.inl rfl), iS.slot (Or.inl rfl), iB⟩
  · obtain ⟨⟨a2, ha2, hFa2⟩, -, -⟩ := iT.2 p9 hp9
    by_cases h4 : ko (F p9) (nI 0) = true
    · rcases pin0 hz hz8 with ⟨-, h2⟩ | ⟨-, h2⟩
      · exact ⟨3, _, _, _, _, _, _, _, _, _, by decide, rfl, rfl, rfl, pu_mu (c_X5_work_6pB hh hn hk r hr9 i hi hw hkc p9 hp9 s2 h4 h2), c_X6_work_6pB hg hn hk r hr9 i hi a ha16 hFa hw hko p9 hp9 a2 ha2 hFa2 s1 z hz hz8 h4 h2, iT, iS, iB⟩
      · by_cases h7 : ko (F p9) (nI e9) = true
        · exact ⟨0, _, _, _, _, _, _, _, _, _, by decide, rfl, up_tl tl_m1, up_tl (tl_nI (by omega)), c_X5_work_6pO hh hn hk r hr9 i hi hw hkc p9 hp9 s2 h4 h2 (by rw [hFa, hme]; exact h7), c_X6_work_6pO hg hn hk r hr9 i hi a ha16 hFa hw hko p9 hp9 a2 ha2 hFa2 s1 e9 he he9 z hz hz8 h4 h2 h7, iT.lay (Or.inr ⟨p9, hp9, rfl⟩), iS.slot (Or.inl rfl), iB⟩
        · have h7 := bf_t h7
          exact ⟨4, _, _, _, _, _, _, _, _, _, by decide, rfl, rfl, rfl, pu_mu (c_X5_work_6pS hh hn hk r hr9 i hi hw hkc p9 hp9 s2 h4 h2 (by rw [hFa, hme]; exact h7)), c_X6_work_6pS hg hn hk r hr9 i hi a ha16 hFa hw hko p9 hp9 a2 ha2 hFa2 s1 e9 he he9 z hz hz8 h4 h2 h7, iT, iS, iB⟩
    · have h4 := bf_t h4
      exact ⟨1, _, _, _, _, _, _, _, _, _, by decide, rfl, rfl, rfl, pu_mu (c_X5_work_6pC hh hn hk r hr9 i hi hw hkc p9 hp9 s2 h4), c_X6_work_6pC hg hn hk r hr9 i hi a ha16 hFa hw hko p9 hp9 a2 ha2 hFa2 s1 h4, iT, iS, iB⟩
set_option maxHeartbeats 4000000 in
theorem wsim_7 (hh : ad_ok h 20) (hg : ad_ok g 16) (iT : IT n F Sz Pl) (iS : IS n k G Wk Sl) (iB : IB n b f Ri Bf) (r : Nat) (hr9 : r < n) (i : Nat) (hi : i < k) (hw : Wk i = nI 7) (hko : ko (F r) (nI 12) = true) : WOK l D cI cJ h g n k b as f an fx F Wt Sz Nu Pl G Wk To Sl Ri oT oS oF Bf Sd Fo wo pa fa r i := by
  have hn := iT.1
  have hk := iS.1
  have hf := iB.1
  have hb9 := iB.2.1
  obtain ⟨⟨a, ha16, hFa⟩, ⟨z, hz8, hz⟩, hP9⟩ := iT.2 r hr9
  have hkc : ko (F r) (kfS 7) = true := hko
  rcases faf3 iT hr9 with ⟨s0, e0⟩ | ⟨s0, m0, e0⟩ | ⟨p1, hp1, s0, m0, e0, n0⟩
  · exact ⟨3, _, _, _, _, _, _, _, _, _, by decide, rfl, rfl, rfl, pu_mu (c_X5_work_7f0 hh hn hk r hr9 i hi hw hkc   3 (Or.inr rfl) e0), c_X6_work_7f0B hg hn hk r hr9 i hi a ha16 hFa hw hko   s0, iT, iS, iB⟩
  · exact ⟨2, _, _, _, _, _, _, _, _, _, by decide, rfl, rfl, rfl, pu_mu (c_X5_work_7f0 hh hn hk r hr9 i hi hw hkc   2 (Or.inl rfl) e0), c_X6_work_7f0N hg hn hk r hr9 i hi a ha16 hFa hw hko   s0 m0, iT, iS, iB⟩
  · skip
    rcases faf3 iT hp1 with ⟨s1, e1⟩ | ⟨s1, m1, e1⟩ | ⟨p2, hp2, s1, m1, e1, n1⟩
    · exact ⟨3, _, _, _, _, _, _, _, _, _, by decide, rfl, rfl, rfl, pu_mu (c_X5_work_7f1 hh hn hk r hr9 i hi hw hkc p1 hp1 e0 n0 3 (Or.inr rfl) e1), c_X6_work_7f1B hg hn hk r hr9 i hi a ha16 hFa hw hko p1 hp1 s0 m0 s1, iT, iS, iB⟩
    · exact ⟨2, _, _, _, _, _, _, _, _, _, by decide, rfl, rfl, rfl, pu_mu (c_X5_work_7f1 hh hn hk r hr9 i hi hw hkc p1 hp1 e0 n0 2 (Or.inl rfl) e1), c_X6_work_7f1N hg hn hk r hr9 i hi a ha16 hFa hw hko p1 hp1 s0 m0 s1 m1, iT, iS, iB⟩
    · skip
      exact ⟨0, _, _, _, _, _, _, _, _, _, by decide, rfl, rfl, rfl, c_X5_work_7o hh hn hk r hr9 i hi hw hkc p1 hp1 p2 hp2 e0 n0 e1 n1, c_X6_work_7o hg hn hk r hr9 i hi a ha16 hFa hw hko p1 hp1 p2 hp2 s0 m0 s1 m1, iT, iS, iB⟩
set_option maxHeartbeats 4000000 in
theorem wsim_9 (hh : ad_ok h 20) (hg : ad_ok g 16) (iT : IT n F Sz Pl) (iS : IS n k G Wk Sl) (iB : IB n b f Ri Bf) (r : Nat) (hr9 : r < n) (i : Nat) (hi : i < k) (hw : Wk i = nI 9) (hko : ko (F r) (nI 15) = true) : WOK l D cI cJ h g n k b as f an fx F Wt Sz Nu Pl G Wk To Sl Ri oT oS oF Bf Sd Fo wo pa fa r i := by
  have hn := iT.1
  have hk := iS.1
  have hf := iB.1
  have hb9 := iB.2.1
  obtain ⟨⟨a, ha16, hFa⟩, ⟨z, hz8, hz⟩, hP9⟩ := iT.2 r hr9
  have hkc : ko (F r) (kfS 9) = true := hko
  rcases faf3 iT hr9 with ⟨s0, e0⟩ | ⟨s0, m0, e0⟩ | ⟨p1, hp1, s0, m0, e0, n0⟩
  · exact ⟨3, _, _, _, _, _, _, _, _, _, by decide, rfl, rfl, rfl, pu_mu (c_X5_work_9f0 hh hn hk r hr9 i hi hw hkc   3 (Or.inr rfl) e0), c_X6_work_9f0B hg hn hk r hr9 i hi a ha16 hFa hw hko   s0, iT, iS, iB⟩
  · exact ⟨2, _, _, _, _, _, _, _, _, _, by decide, rfl, rfl, rfl, pu_mu (c_X5_work_9f0 hh hn hk r hr9 i hi hw hkc   2 (Or.inl rfl) e0), c_X6_work_9f0N hg hn hk r hr9 i hi a ha16 hFa hw hko   s0 m0, iT, iS, iB⟩
  · skip
    rcases faf3 iT hp1 with ⟨s1, e1⟩ | ⟨s1, m1, e1⟩ | ⟨p2, hp2, s1, m1, e1, n1⟩
    · exact ⟨3, _, _, _, _, _, _, _, _, _, by decide, rfl, rfl, rfl, pu_mu (c_X5_work_9f1 hh hn hk r hr9 i hi hw hkc p1 hp1 e0 n0 3 (Or.inr rfl) e1), c_X6_work_9f1B hg hn hk r hr9 i hi a ha16 hFa hw hko p1 hp1 s0 m0 s1, iT, iS, iB⟩
    · exact ⟨2, _, _, _, _, _, _, _, _, _, by decide, rfl, rfl, rfl, pu_mu (c_X5_work_9f1 hh hn hk r hr9 i hi hw hkc p1 hp1 e0 n0 2 (Or.inl rfl) e1), c_X6_work_9f1N hg hn hk r hr9 i hi a ha16 hFa hw hko p1 hp1 s0 m0 s1 m1, iT, iS, iB⟩
    · skip
      rcases faf3 iT hp2 with ⟨s2, e2⟩ | ⟨s2, m2, e2⟩ | ⟨p3, hp3, s2, m2, e2, n2⟩
      · exact ⟨3, _, _, _, _, _, _, _, _, _, by decide, rfl, rfl, rfl, pu_mu (c_X5_work_9f2 hh hn hk r hr9 i hi hw hkc p1 hp1 p2 hp2 e0 n0 e1 n1 3 (Or.inr rfl) e2), c_X6_work_9f2B hg hn hk r hr9 i hi a ha16 hFa hw hko p1 hp1 p2 hp2 s0 m0 s1 m1 s2, iT, iS, iB⟩
      · exact ⟨2, _, _, _, _, _, _, _, _, _, by decide, rfl, rfl, rfl, pu_mu (c_X5_work_9f2 hh hn hk r hr9 i hi hw hkc p1 hp1 p2 hp2 e0 n0 e1 n1 2 (Or.inl rfl) e2), c_X6_work_9f2N hg hn hk r hr9 i hi a ha16 hFa hw hko p1 hp1 p2 hp2 s0 m0 s1 m1 s2 m2, iT, iS, iB⟩
      · skip
        exact ⟨0, _, _, _, _, _, _, _, _, _, by decide, rfl, rfl, rfl, c_X5_work_9o hh hn hk r hr9 i hi hw hkc p1 hp1 p2 hp2 p3 hp3 e0 n0 e1 n1 e2 n2, c_X6_work_9o hg hn hk r hr9 i hi a ha16 hFa hw hko p1 hp1 p2 hp2 p3 hp3 s0 m0 s1 m1 s2 m2, iT, iS, iB⟩
set_option maxHeartbeats 4000000 in
theorem wsim_8 (hh : ad_ok h 20) (hg : ad_ok g 16) (iT : IT n F Sz Pl) (iS : IS n k G Wk Sl) (iB : IB n b f Ri Bf) (r : Nat) (hr9 : r < n) (i : Nat) (hi : i < k) (hw : Wk i = nI 8) (hko : ko (F r) (nI 7) = true) : WOK l D cI cJ h g n k b as f an fx F Wt Sz Nu Pl G Wk To Sl Ri oT oS oF Bf Sd Fo wo pa fa r i := by
  have hn := iT.1
  have hk := iS.1
  have hf := iB.1
  have hb9 := iB.2.1
  obtain ⟨⟨a, ha16, hFa⟩, ⟨z, hz8, hz⟩, hP9⟩ := iT.2 r hr9
  have hkc : ko (F r) (kfS 8) = true := hko
  rcases faf3 iT hr9 with ⟨s0, e0⟩ | ⟨s0, m0, e0⟩ | ⟨p1, hp1, s0, m0, e0, n0⟩
  · exact ⟨3, _, _, _, _, _, _, _, _, _, by decide, rfl, rfl, rfl, pu_mu (c_X5_work_8f hh hn hk r hr9 i hi hw hkc 3 (Or.inr rfl) e0), pu_mu (c_X6_work_8fB hg hn hk r hr9 i hi a ha16 hFa hw hko s0), iT, iS, iB⟩
  · exact ⟨2, _, _, _, _, _, _, _, _, _, by decide, rfl, rfl, rfl, pu_mu (c_X5_work_8f hh hn hk r hr9 i hi hw hkc 2 (Or.inl rfl) e0), pu_mu (c_X6_work_8fN hg hn hk r hr9 i hi a ha16 hFa hw hko s0 m0), iT, iS, iB⟩
  · obtain ⟨-, ⟨z1, hz81, hz1⟩, -⟩ := iT.2 p1 hp1
    rcases pin0 hz1 hz81 with ⟨h0, h2⟩ | ⟨h0, h2⟩
    · exact ⟨3, _, _, _, _, _, _, _, _, _, by decide, rfl, rfl, rfl, pu_mu (c_X5_work_8b hh hn hk r hr9 i hi hw hkc p1 hp1 e0 n0 h2), pu_mu (c_X6_work_8b hg hn hk r hr9 i hi a ha16 hFa hw hko p1 hp1 s0 m0 h0), iT, iS, iB⟩
    · exact ⟨0, _, _, _, _, _, _, _, _, _, by decide, rfl, rfl, rfl, c_X5_work_8o hh hn hk r hr9 i hi hw hkc p1 hp1 e0 n0 h2, c_X6_work_8o hg hn hk r hr9 i hi a ha16 hFa hw hko p1 hp1 s0 m0 h0, iT, iS, iB⟩
set_option maxHeartbeats 4000000 in
theorem wsim_11 (hh : ad_ok h 20) (hg : ad_ok g 16) (iT : IT n F Sz Pl) (iS : IS n k G Wk Sl) (iB : IB n b f Ri Bf) (r : Nat) (hr9 : r < n) (i : Nat) (hi : i < k) (hw : Wk i = nI 11) (hko : ko (F r) (nI 8) = true) : WOK l D cI cJ h g n k b as f an fx F Wt Sz Nu Pl G Wk To Sl Ri oT oS oF Bf Sd Fo wo pa fa r i := by
  have hn := iT.1
  have hk := iS.1
  have hf := iB.1
  have hb9 := iB.2.1
  obtain ⟨⟨a, ha16, hFa⟩, ⟨z, hz8, hz⟩, hP9⟩ := iT.2 r hr9
  have hkc : ko (F r) (kfS 11) = true := hko
  obtain ⟨P2, R2, B2, c, e1, e2, jT, jB⟩ := spill_rel hr9 iT iB z hz8
  exact ⟨0, _, _, _, _, _, _, _, _, _, by decide, rfl, rfl, rfl, c_X5_work_11 hh hn hk r hr9 i hi hw hkc hf hb9 z hz hz8 _ _ _ e1, c_X6_work_11 hg hn hk r hr9 i hi a ha16 hFa hw hko hb9 z hz hz8 _ _ _ e2, jT, iS, jB⟩
set_option maxHeartbeats 4000000 in
theorem wsim_12 (hh : ad_ok h 20) (hg : ad_ok g 16) (iT : IT n F Sz Pl) (iS : IS n k G Wk Sl) (iB : IB n b f Ri Bf) (r : Nat) (hr9 : r < n) (i : Nat) (hi : i < k) (hw : Wk i = nI 12) (hko : ko (F r) (nI 17) = true) : WOK l D cI cJ h g n k b as f an fx F Wt Sz Nu Pl G Wk To Sl Ri oT oS oF Bf Sd Fo wo pa fa r i := by
  have hn := iT.1
  have hk := iS.1
  have hf := iB.1
  have hb9 := iB.2.1
  obtain ⟨⟨a, ha16, hFa⟩, ⟨z, hz8, hz⟩, hP9⟩ := iT.2 r hr9
  have hkc : ko (F r) (kfS 12) = true := hko
  exact ⟨0, _, _, _, _, _, _, _, _, _, by decide, rfl, up_tl (tl_nI (by omega)), rfl, c_X5_work_12 hh hn hk r hr9 i hi hw hkc , c_X6_work_12 hg hn hk r hr9 i hi a ha16 hFa hw hko , iT, iS.slot (Or.inr ⟨r, hr9, rfl⟩), iB⟩
set_option maxHeartbeats 4000000 in
theorem work_sim (hh : ad_ok h 20) (hg : ad_ok g 16) (iT : IT n F Sz Pl) (iS : IS n k G Wk Sl) (iB : IB n b f Ri Bf) (r : Nat) (hr9 : r < n) (i : Nat) (hi : i < k) : WOK l D cI cJ h g n k b as f an fx F Wt Sz Nu Pl G Wk To Sl Ri oT oS oF Bf Sd Fo wo pa fa r i := by
  have hn := iT.1
  have hk := iS.1
  obtain ⟨⟨a, ha16, hFa⟩, -, -⟩ := iT.2 r hr9
  obtain ⟨-, ⟨w, hw13, hw⟩, -⟩ := iS.2 i hi
  obtain ⟨c9, hc, hwn, hkf⟩ := wn_kf hw13
  by_cases hko : ko (F r) (nI c9) = true
  · have hko2 : ko (F r) (kfS (nI w)) = true := by rw [hkf]; exact hko
    clear hko hkf hwn hc
    rcases (show w = 0 ∨ w = 1 ∨ w = 2 ∨ w = 3 ∨ w = 4 ∨ w = 5 ∨ w = 6 ∨ w = 7 ∨ w = 8 ∨ w = 9 ∨ w = 10 ∨ w = 11 ∨ w = 12 by omega) with rfl | rfl | rfl | rfl | rfl | rfl | rfl | rfl | rfl | rfl | rfl | rfl | rfl
    · exact wsim_0 hh hg iT iS iB r hr9 i hi hw hko2
    · exact wsim_1 hh hg iT iS iB r hr9 i hi hw hko2
    · exact wsim_2 hh hg iT iS iB r hr9 i hi hw hko2
    · exact wsim_3 hh hg iT iS iB r hr9 i hi hw hko2
    · exact wsim_4 hh hg iT iS iB r hr9 i hi hw hko2
    · exact wsim_5 hh hg iT iS iB r hr9 i hi hw hko2
    · exact wsim_6 hh hg iT iS iB r hr9 i hi hw hko2
    · exact wsim_7 hh hg iT iS iB r hr9 i hi hw hko2
    · exact wsim_8 hh hg iT iS iB r hr9 i hi hw hko2
    · exact wsim_9 hh hg iT iS iB r hr9 i hi hw hko2
    · exact wsim_10 hh hg iT iS iB r hr9 i hi hw hko2
    · exact wsim_11 hh hg iT iS iB r hr9 i hi hw hko2
    · exact wsim_12 hh hg iT iS iB r hr9 i hi hw hko2
  · have hko := bf_t hko
    exact ⟨1, _, _, _, _, _, _, _, _, _, by decide, rfl, rfl, rfl, pu_mu (c_X5_work_c hh hn hk r hr9 i hi (by rw [hw, hkf]; exact hko)), pu_mu (c_X6_work_c hg hn hk r hr9 i hi a ha16 hFa w hw13 hw c9 hc hwn hko), iT, iS, iB⟩
end SimB
