/-! the two worlds tied together; each call answers alike and leaves them tied -/
def SIM (cI cJ : ClassId) (h g : Nat → Nat) (w m : va_W) : Prop := ∃ (n k b as f an : Nat) (fx : Int32) (F Wt Sz : Nat → Int32) (Nu : Nat → Int64) (Pl G Wk : Nat → Int32) (To : Nat → Int64) (Sl Ri oT oS oF Bf Sd Fo : Nat → Int32) (wo pa fa : Int32), w = sl_W cI cJ h (nI n) F Wt Sz Nu (fun j => tl (Pl j)) (nI k) G Wk To (fun j => tl (Sl j)) Ri (nI f) (nI b) oT oS oF (nI an) (nI as) Fo wo pa fa ∧ m = mo_W cI cJ g fx (nI n) F Wt Sz Nu Pl Bf (nI b) (nI k) G Wk To Sl Sd (nI as) wo pa fa Fo ∧ IT n F Sz Pl ∧ IS n k G Wk Sl ∧ IB n b f Ri Bf ∧ IA as an oT oS oF Sd
theorem sim_mk {cI cJ : ClassId} {h g : Nat → Nat} {n k b as f an : Nat} {fx : Int32} {F Wt Sz : Nat → Int32} {Nu : Nat → Int64} {Pl G Wk : Nat → Int32} {To : Nat → Int64} {Sl Ri oT oS oF Bf Sd Fo : Nat → Int32} {wo pa fa : Int32} (iT : IT n F Sz Pl) (iS : IS n k G Wk Sl) (iB : IB n b f Ri Bf) (iA : IA as an oT oS oF Sd) : SIM cI cJ h g (sl_W cI cJ h (nI n) F Wt Sz Nu (fun j => tl (Pl j)) (nI k) G Wk To (fun j => tl (Sl j)) Ri (nI f) (nI b) oT oS oF (nI an) (nI as) Fo wo pa fa) (mo_W cI cJ g fx (nI n) F Wt Sz Nu Pl Bf (nI b) (nI k) G Wk To Sl Sd (nI as) wo pa fa Fo) := ⟨n, k, b, as, f, an, fx, F, Wt, Sz, Nu, Pl, G, Wk, To, Sl, Ri, oT, oS, oF, Bf, Sd, Fo, wo, pa, fa, rfl, rfl, iT, iS, iB, iA⟩
def sOKi (l : Launch) (D : va_G) (cI cJ : ClassId) (h g : Nat → Nat) (yc : MethodName) (wsc : List Cond) (rc : Room) (ym : MethodName) (wsm : List Cond) (rm : Room) (vs : List Value) (w m : va_W) : Prop := ∃ (r : Int32) (w' m' : va_W), Met l yc wsc rc (wd_P D cI cJ (.ref (h 0) :: vs) w) (mu_Q D (ad_A h 20) (some (.int r)) w') 0 0 (ad_A h 20) ∧ Met l ym wsm rm (wd_P D cI cJ (.ref (g 0) :: vs) m) (mu_Q D (ad_A g 16) (some (.int r)) m') 0 0 (ad_A g 16) ∧ SIM cI cJ h g w' m'
def sOKl (l : Launch) (D : va_G) (cI cJ : ClassId) (h g : Nat → Nat) (yc : MethodName) (wsc : List Cond) (rc : Room) (ym : MethodName) (wsm : List Cond) (rm : Room) (vs : List Value) (w m : va_W) : Prop := ∃ (r : Int64) (w' m' : va_W), Met l yc wsc rc (wd_P D cI cJ (.ref (h 0) :: vs) w) (mu_Q D (ad_A h 20) (some (.long r)) w') 0 0 (ad_A h 20) ∧ Met l ym wsm rm (wd_P D cI cJ (.ref (g 0) :: vs) m) (mu_Q D (ad_A g 16) (some (.long r)) m') 0 0 (ad_A g 16) ∧ SIM cI cJ h g w' m'
theorem bf_t {a : Bool} (h : ¬ a = true) : a = false := by cases a <;> simp_all
section SimA
variable {l : Launch} {D : va_G} {cI cJ : ClassId} {h g : Nat → Nat} {w m : va_W}
set_option maxHeartbeats 4000000 in
theorem sim_thing (hh : ad_ok h 20) (hg : ad_ok g 16) (H : SIM cI cJ h g w m) (fo we : Int32) : sOKi l D cI cJ h g yX5_thing wsX5_thing ({ frames := 9, cells := 0, slots := 0, locals := 400 } : Room) yX6_thing wsX6_thing ({ frames := 10, cells := 0, slots := 0, locals := 450 } : Room) [.int fo, .int we] w m := by
  obtain ⟨n, k, b, as, f, an, fx, F, Wt, Sz, Nu, Pl, G, Wk, To, Sl, Ri, oT, oS, oF, Bf, Sd, Fo, wo, pa, fa, rfl, rfl, iT, iS, iB, iA⟩ := H
  have hn := iT.1
  have hk := iS.1
  have hf := iB.1
  have hb9 := iB.2.1
  have ha := iA.1
  have hs := iA.2.1
  by_cases h1 : (q_in fo 0 3 && q_in we (-1000) 1000) = true
  · rw [Bool.and_eq_true] at h1
    obtain ⟨h1, h2⟩ := h1
    rcases Nat.lt_or_ge n 100 with hn1 | hn1
    · obtain ⟨a, -, ha3, rfl⟩ := q_nat 0 3 h1 (by decide) (by decide)
      refine ⟨_, _, _, c_X5_thing_a hh _ we h1 h2 hn1, c_X6_thing_a hg _ we h1 h2 hn1, ?_⟩
      rw [z8_tl]
      exact sim_mk (iT.add hn1 ⟨a, by omega, rfl⟩ ⟨0, by omega, rfl⟩) (iS.mono (by omega)) (iB.mono (by omega)) iA
    · exact ⟨_, _, _, pu_mu (c_X5_thing_f hh fo we h1 h2 (by omega)), c_X6_thing_f hg fo we h1 h2 (by omega), sim_mk iT iS iB iA⟩
  · have h1 := bf_t h1
    exact ⟨_, _, _, pu_mu (c_X5_thing_o hh fo we h1), c_X6_thing_o hg fo we h1, sim_mk iT iS iB iA⟩
set_option maxHeartbeats 4000000 in
theorem sim_row (hh : ad_ok h 20) (hg : ad_ok g 16) (H : SIM cI cJ h g w m) (fo nn : Int32) : sOKi l D cI cJ h g yX5_row wsX5_row ({ frames := 9, cells := 0, slots := 0, locals := 400 } : Room) yX6_row wsX6_row ({ frames := 10, cells := 0, slots := 0, locals := 450 } : Room) [.int fo, .int nn] w m := by
  obtain ⟨n, k, b, as, f, an, fx, F, Wt, Sz, Nu, Pl, G, Wk, To, Sl, Ri, oT, oS, oF, Bf, Sd, Fo, wo, pa, fa, rfl, rfl, iT, iS, iB, iA⟩ := H
  have hn := iT.1
  have hk := iS.1
  have hf := iB.1
  have hb9 := iB.2.1
  have ha := iA.1
  have hs := iA.2.1
  by_cases h1 : (q_in fo 4 15 && decide (nn ≤ 8)) = true
  · rw [Bool.and_eq_true, decide_eq_true_eq] at h1
    obtain ⟨h1, h2⟩ := h1
    rcases Nat.lt_or_ge n 100 with hn1 | hn1
    · by_cases h3 : nn < 0
      · exact ⟨_, _, _, c_X5_row_s hh fo nn h1 h2 hn1 h3, c_X6_row_s hg fo nn h1 h2 hn1 h3, sim_mk iT iS iB iA⟩
      · obtain ⟨a, ha4, ha15, rfl⟩ := q_nat 4 15 h1 (by decide) (by decide)
        obtain ⟨z, hz, rfl⟩ := nI_of h3
        have hz8 : z ≤ 8 := (nI_leI (a := z) (b := 8) hz (by decide)).mp h2
        refine ⟨_, _, _, c_X5_row_a hh _ _ h1 h2 hn1 h3, c_X6_row_a hg _ _ h1 h2 hn1 h3, ?_⟩
        rw [z8_tl]
        exact sim_mk (iT.add hn1 ⟨a, by omega, rfl⟩ ⟨z, hz8, rfl⟩) (iS.mono (by omega)) (iB.mono (by omega)) iA
    · exact ⟨_, _, _, pu_mu (c_X5_row_f hh fo nn h1 h2 (by omega)), c_X6_row_f hg fo nn h1 h2 (by omega), sim_mk iT iS iB iA⟩
  · have h1 := bf_t h1
    exact ⟨_, _, _, pu_mu (c_X5_row_o hh fo nn h1), c_X6_row_o hg fo nn h1, sim_mk iT iS iB iA⟩
set_option maxHeartbeats 4000000 in
theorem sim_is (hh : ad_ok h 20) (hg : ad_ok g 16) (H : SIM cI cJ h g w m) (t kd : Int32) : sOKi l D cI cJ h g yX5_is wsX5_is ({ frames := 9, cells := 0, slots := 0, locals := 400 } : Room) yX6_is wsX6_is ({ frames := 10, cells := 0, slots := 0, locals := 450 } : Room) [.int t, .int kd] w m := by
  obtain ⟨n, k, b, as, f, an, fx, F, Wt, Sz, Nu, Pl, G, Wk, To, Sl, Ri, oT, oS, oF, Bf, Sd, Fo, wo, pa, fa, rfl, rfl, iT, iS, iB, iA⟩ := H
  have hn := iT.1
  have hk := iS.1
  have hf := iB.1
  have hb9 := iB.2.1
  have ha := iA.1
  have hs := iA.2.1
  by_cases h1 : p_in t (nI n) = true
  · by_cases h2 : q_in kd 0 17 = true
    · obtain ⟨r, hr9, rfl⟩ := p_in_t h1 (by omega)
      obtain ⟨c9, hcl, hch, rfl⟩ := q_nat 0 17 h2 (by decide) (by decide)
      obtain ⟨⟨a, ha16, hFa⟩, ⟨z, hz8, hz⟩, hP9⟩ := iT.2 r hr9
      exact ⟨_, _, _, pu_mu (c_X5_is_a hh hn r hr9 (nI c9) h2), c_X6_is_a hg hn r hr9 a ha16 hFa c9 (by omega) h2 , sim_mk iT iS iB iA⟩
    · have h2 := bf_t h2
      exact ⟨_, _, _, pu_mu (c_X5_is_o hh t kd h1 h2), c_X6_is_o hg hn t kd h1 h2, sim_mk iT iS iB iA⟩
  · have h1 := bf_t h1
    exact ⟨_, _, _, pu_mu (c_X5_is_u hh t kd h1), c_X6_is_u hg hn t kd h1, sim_mk iT iS iB iA⟩
set_option maxHeartbeats 4000000 in
theorem sim_weight (hh : ad_ok h 20) (hg : ad_ok g 16) (H : SIM cI cJ h g w m) (t kd : Int32) : sOKi l D cI cJ h g yX5_weight wsX5_weight ({ frames := 9, cells := 0, slots := 0, locals := 400 } : Room) yX6_weight wsX6_weight ({ frames := 10, cells := 0, slots := 0, locals := 450 } : Room) [.int t, .int kd] w m := by
  obtain ⟨n, k, b, as, f, an, fx, F, Wt, Sz, Nu, Pl, G, Wk, To, Sl, Ri, oT, oS, oF, Bf, Sd, Fo, wo, pa, fa, rfl, rfl, iT, iS, iB, iA⟩ := H
  have hn := iT.1
  have hk := iS.1
  have hf := iB.1
  have hb9 := iB.2.1
  have ha := iA.1
  have hs := iA.2.1
  by_cases h1 : p_in t (nI n) = true
  · by_cases h2 : q_in kd 0 2 = true
    · obtain ⟨r, hr9, rfl⟩ := p_in_t h1 (by omega)
      obtain ⟨c9, hcl, hch, rfl⟩ := q_nat 0 2 h2 (by decide) (by decide)
      obtain ⟨⟨a, ha16, hFa⟩, ⟨z, hz8, hz⟩, hP9⟩ := iT.2 r hr9
      by_cases h3 : ko (F r) (nI c9) = true
      · exact ⟨_, _, _, pu_mu (c_X5_weight_a hh hn r hr9 (nI c9) h2 h3), c_X6_weight_a hg hn r hr9 a ha16 hFa c9 (by omega) h2 h3, sim_mk iT iS iB iA⟩
      · have h3 := bf_t h3
        exact ⟨_, _, _, c_X5_weight_c hh hn r hr9 (nI c9) h2 h3, c_X6_weight_c hg hn r hr9 a ha16 hFa c9 (by omega) h2 h3, sim_mk iT iS iB iA⟩
    · have h2 := bf_t h2
      exact ⟨_, _, _, pu_mu (c_X5_weight_o hh t kd h1 h2), c_X6_weight_o hg hn t kd h1 h2, sim_mk iT iS iB iA⟩
  · have h1 := bf_t h1
    exact ⟨_, _, _, pu_mu (c_X5_weight_u hh t kd h1), c_X6_weight_u hg hn t kd h1, sim_mk iT iS iB iA⟩
set_option maxHeartbeats 4000000 in
theorem sim_length (hh : ad_ok h 20) (hg : ad_ok g 16) (H : SIM cI cJ h g w m) (t kd : Int32) : sOKi l D cI cJ h g yX5_length wsX5_length ({ frames := 9, cells := 0, slots := 0, locals := 400 } : Room) yX6_length wsX6_length ({ frames := 10, cells := 0, slots := 0, locals := 450 } : Room) [.int t, .int kd] w m := by
  obtain ⟨n, k, b, as, f, an, fx, F, Wt, Sz, Nu, Pl, G, Wk, To, Sl, Ri, oT, oS, oF, Bf, Sd, Fo, wo, pa, fa, rfl, rfl, iT, iS, iB, iA⟩ := H
  have hn := iT.1
  have hk := iS.1
  have hf := iB.1
  have hb9 := iB.2.1
  have ha := iA.1
  have hs := iA.2.1
  by_cases h1 : p_in t (nI n) = true
  · by_cases h2 : q_in kd 4 15 = true
    · obtain ⟨r, hr9, rfl⟩ := p_in_t h1 (by omega)
      obtain ⟨c9, hcl, hch, rfl⟩ := q_nat 4 15 h2 (by decide) (by decide)
      obtain ⟨⟨a, ha16, hFa⟩, ⟨z, hz8, hz⟩, hP9⟩ := iT.2 r hr9
      by_cases h3 : ko (F r) (nI c9) = true
      · exact ⟨_, _, _, pu_mu (c_X5_length_a hh hn r hr9 (nI c9) h2 h3), c_X6_length_a hg hn r hr9 a ha16 hFa c9 (by omega) h2 h3, sim_mk iT iS iB iA⟩
      · have h3 := bf_t h3
        exact ⟨_, _, _, c_X5_length_c hh hn r hr9 (nI c9) h2 h3, c_X6_length_c hg hn r hr9 a ha16 hFa c9 (by omega) h2 h3, sim_mk iT iS iB iA⟩
    · have h2 := bf_t h2
      exact ⟨_, _, _, pu_mu (c_X5_length_o hh t kd h1 h2), c_X6_length_o hg hn t kd h1 h2, sim_mk iT iS iB iA⟩
  · have h1 := bf_t h1
    exact ⟨_, _, _, pu_mu (c_X5_length_u hh t kd h1), c_X6_length_u hg hn t kd h1, sim_mk iT iS iB iA⟩
set_option maxHeartbeats 4000000 in
theorem sim_put (hh : ad_ok h 20) (hg : ad_ok g 16) (H : SIM cI cJ h g w m) (t kd : Int32) (i : Int32) (v : Int64) : sOKi l D cI cJ h g yX5_put wsX5_put ({ frames := 9, cells := 0, slots := 0, locals := 400 } : Room) yX6_put wsX6_put ({ frames := 10, cells := 0, slots := 0, locals := 450 } : Room) [.int t, .int kd, .int i, .long v] w m := by
  obtain ⟨n, k, b, as, f, an, fx, F, Wt, Sz, Nu, Pl, G, Wk, To, Sl, Ri, oT, oS, oF, Bf, Sd, Fo, wo, pa, fa, rfl, rfl, iT, iS, iB, iA⟩ := H
  have hn := iT.1
  have hk := iS.1
  have hf := iB.1
  have hb9 := iB.2.1
  have ha := iA.1
  have hs := iA.2.1
  by_cases h1 : p_in t (nI n) = true
  · by_cases h2 : q_in kd 4 6 = true
    · obtain ⟨r, hr9, rfl⟩ := p_in_t h1 (by omega)
      obtain ⟨c9, hcl, hch, rfl⟩ := q_nat 4 6 h2 (by decide) (by decide)
      obtain ⟨⟨a, ha16, hFa⟩, ⟨z, hz8, hz⟩, hP9⟩ := iT.2 r hr9
      by_cases h3 : ko (F r) (nI c9) = true
      · by_cases h4 : p_in i (Sz r) = true
        · obtain ⟨j, hj, rfl⟩ := p_in_t (hz ▸ h4) (by omega)
          refine ⟨_, _, _, c_X5_put_a hh hn r hr9 (nI c9) v h2 j (by omega) h3 h4, c_X6_put_a hg hn r hr9 a ha16 hFa c9 (by omega) h2 v z hz hz8 j (by omega) h3 h4, ?_⟩
          rw [nrw_low (v := v) hFa (ko_num ha16 hcl hch (hFa ▸ h3))]
          exact sim_mk iT iS iB iA
        · have h4 := bf_t h4
          exact ⟨_, _, _, c_X5_put_b hh hn r hr9 (nI c9) i v h2 h3 h4, c_X6_put_b hg hn r hr9 a ha16 hFa c9 (by omega) h2 v z hz hz8 i h3 h4, sim_mk iT iS iB iA⟩
      · have h3 := bf_t h3
        exact ⟨_, _, _, c_X5_put_c hh hn r hr9 (nI c9) i v h2 h3, c_X6_put_c hg hn r hr9 a ha16 hFa c9 (by omega) h2 i v h3, sim_mk iT iS iB iA⟩
    · have h2 := bf_t h2
      exact ⟨_, _, _, pu_mu (c_X5_put_o hh t kd i v h1 h2), c_X6_put_o hg hn t kd i v h1 h2, sim_mk iT iS iB iA⟩
  · have h1 := bf_t h1
    exact ⟨_, _, _, pu_mu (c_X5_put_u hh t kd i v h1), c_X6_put_u hg hn t kd i v h1, sim_mk iT iS iB iA⟩
set_option maxHeartbeats 4000000 in
theorem sim_place (hh : ad_ok h 20) (hg : ad_ok g 16) (H : SIM cI cJ h g w m) (t kd : Int32) (i : Int32) : sOKi l D cI cJ h g yX5_place wsX5_place ({ frames := 9, cells := 0, slots := 0, locals := 400 } : Room) yX6_place wsX6_place ({ frames := 10, cells := 0, slots := 0, locals := 450 } : Room) [.int t, .int kd, .int i] w m := by
  obtain ⟨n, k, b, as, f, an, fx, F, Wt, Sz, Nu, Pl, G, Wk, To, Sl, Ri, oT, oS, oF, Bf, Sd, Fo, wo, pa, fa, rfl, rfl, iT, iS, iB, iA⟩ := H
  have hn := iT.1
  have hk := iS.1
  have hf := iB.1
  have hb9 := iB.2.1
  have ha := iA.1
  have hs := iA.2.1
  by_cases h1 : p_in t (nI n) = true
  · by_cases h2 : q_in kd 7 15 = true
    · obtain ⟨r, hr9, rfl⟩ := p_in_t h1 (by omega)
      obtain ⟨c9, hcl, hch, rfl⟩ := q_nat 7 15 h2 (by decide) (by decide)
      obtain ⟨⟨a, ha16, hFa⟩, ⟨z, hz8, hz⟩, hP9⟩ := iT.2 r hr9
      by_cases h3 : ko (F r) (nI c9) = true
      · by_cases h4 : p_in i (Sz r) = true
        · obtain ⟨j, hj, rfl⟩ := p_in_t (hz ▸ h4) (by omega)
          exact ⟨_, _, _, pu_mu (c_X5_place_a hh hn r hr9 (nI c9) h2 j (by omega) h3 h4), c_X6_place_a hg hn r hr9 a ha16 hFa c9 (by omega) h2 z hz hz8 j (by omega) h3 h4, sim_mk iT iS iB iA⟩
        · have h4 := bf_t h4
          exact ⟨_, _, _, c_X5_place_b hh hn r hr9 (nI c9) i h2 h3 h4, c_X6_place_b hg hn r hr9 a ha16 hFa c9 (by omega) h2 z hz hz8 i h3 h4, sim_mk iT iS iB iA⟩
      · have h3 := bf_t h3
        exact ⟨_, _, _, c_X5_place_c hh hn r hr9 (nI c9) i h2 h3, c_X6_place_c hg hn r hr9 a ha16 hFa c9 (by omega) h2 i h3, sim_mk iT iS iB iA⟩
    · have h2 := bf_t h2
      exact ⟨_, _, _, pu_mu (c_X5_place_o hh t kd i h1 h2), c_X6_place_o hg hn t kd i h1 h2, sim_mk iT iS iB iA⟩
  · have h1 := bf_t h1
    exact ⟨_, _, _, pu_mu (c_X5_place_u hh t kd i h1), c_X6_place_u hg hn t kd i h1, sim_mk iT iS iB iA⟩
set_option maxHeartbeats 4000000 in
theorem sim_more (hh : ad_ok h 20) (hg : ad_ok g 16) (H : SIM cI cJ h g w m) (t : Int32) : sOKi l D cI cJ h g yX5_more wsX5_more ({ frames := 9, cells := 0, slots := 0, locals := 400 } : Room) yX6_more wsX6_more ({ frames := 10, cells := 0, slots := 0, locals := 450 } : Room) [.int t] w m := by
  obtain ⟨n, k, b, as, f, an, fx, F, Wt, Sz, Nu, Pl, G, Wk, To, Sl, Ri, oT, oS, oF, Bf, Sd, Fo, wo, pa, fa, rfl, rfl, iT, iS, iB, iA⟩ := H
  have hn := iT.1
  have hk := iS.1
  have hf := iB.1
  have hb9 := iB.2.1
  have ha := iA.1
  have hs := iA.2.1
  by_cases h1 : p_in t (nI n) = true
  · obtain ⟨r, hr9, rfl⟩ := p_in_t h1 (by omega)
    obtain ⟨⟨a, ha16, hFa⟩, -, -⟩ := iT.2 r hr9
    by_cases hq : ∃ q, q < 17 ∧ mrS (F r) q = true
    · obtain ⟨q, ⟨hq7, hm⟩, hlt⟩ := pk_least (fun q => q < 17 ∧ mrS (F r) q = true) hq
      have hv : ∀ j, j < q → mrS (F r) j = false := fun j hj => bf_t (fun h9 => hlt j hj ⟨by omega, h9⟩)
      exact ⟨_, _, _, pu_mu (c_X5_more_a hh hn r hr9 q (by omega) hv hq7 hm), c_X6_more_a hg hn r hr9 a ha16 hFa q (by omega) hv hq7 hm, sim_mk iT iS iB iA⟩
    · have hv : ∀ j, j < 17 → mrS (F r) j = false := fun j hj => bf_t (fun h9 => hq ⟨j, hj, h9⟩)
      exact ⟨_, _, _, pu_mu (c_X5_more_n hh hn r hr9 17 (by omega) hv rfl), c_X6_more_n hg hn r hr9 a ha16 hFa 17 (by omega) hv rfl, sim_mk iT iS iB iA⟩
  · have h1 := bf_t h1
    exact ⟨_, _, _, pu_mu (c_X5_more_u hh t h1), c_X6_more_u hg hn t h1, sim_mk iT iS iB iA⟩
set_option maxHeartbeats 4000000 in
theorem sim_station (hh : ad_ok h 20) (hg : ad_ok g 16) (H : SIM cI cJ h g w m) (ga wk : Int32) : sOKi l D cI cJ h g yX5_station wsX5_station ({ frames := 9, cells := 0, slots := 0, locals := 400 } : Room) yX6_station wsX6_station ({ frames := 10, cells := 0, slots := 0, locals := 450 } : Room) [.int ga, .int wk] w m := by
  obtain ⟨n, k, b, as, f, an, fx, F, Wt, Sz, Nu, Pl, G, Wk, To, Sl, Ri, oT, oS, oF, Bf, Sd, Fo, wo, pa, fa, rfl, rfl, iT, iS, iB, iA⟩ := H
  have hn := iT.1
  have hk := iS.1
  have hf := iB.1
  have hb9 := iB.2.1
  have ha := iA.1
  have hs := iA.2.1
  by_cases h1 : (q_in ga 0 17 && q_in wk 0 12) = true
  · rw [Bool.and_eq_true] at h1
    obtain ⟨h1, h2⟩ := h1
    rcases Nat.lt_or_ge k 8 with hk1 | hk1
    · obtain ⟨c, -, hc, rfl⟩ := q_nat 0 17 h1 (by decide) (by decide)
      obtain ⟨v, -, hv, rfl⟩ := q_nat 0 12 h2 (by decide) (by decide)
      refine ⟨_, _, _, c_X5_station_a hh _ _ h1 h2 hk1, c_X6_station_a hg _ _ h1 h2 hk1, ?_⟩
      rw [up_tl tl_m1]
      exact sim_mk iT (iS.add hk1 ⟨c, by omega, rfl⟩ ⟨v, by omega, rfl⟩) iB iA
    · exact ⟨_, _, _, pu_mu (c_X5_station_f hh ga wk h1 h2 (by omega)), c_X6_station_f hg ga wk h1 h2 (by omega), sim_mk iT iS iB iA⟩
  · have h1 := bf_t h1
    exact ⟨_, _, _, pu_mu (c_X5_station_o hh ga wk h1), c_X6_station_o hg ga wk h1, sim_mk iT iS iB iA⟩
set_option maxHeartbeats 4000000 in
theorem sim_send (hh : ad_ok h 20) (hg : ad_ok g 16) (H : SIM cI cJ h g w m) (t : Int32) : sOKi l D cI cJ h g yX5_send wsX5_send ({ frames := 9, cells := 0, slots := 0, locals := 400 } : Room) yX6_send wsX6_send ({ frames := 10, cells := 0, slots := 0, locals := 450 } : Room) [.int t] w m := by
  obtain ⟨n, k, b, as, f, an, fx, F, Wt, Sz, Nu, Pl, G, Wk, To, Sl, Ri, oT, oS, oF, Bf, Sd, Fo, wo, pa, fa, rfl, rfl, iT, iS, iB, iA⟩ := H
  have hn := iT.1
  have hk := iS.1
  have hf := iB.1
  have hb9 := iB.2.1
  have ha := iA.1
  have hs := iA.2.1
  by_cases h1 : p_in t (nI n) = true
  · rcases Nat.lt_or_ge b 40 with hb1 | hb1
    · obtain ⟨r, hr9, rfl⟩ := p_in_t h1 (by omega)
      exact ⟨_, _, _, c_X5_send_a hh _ h1 hf hb1, c_X6_send_a hg hn _ h1 hb1, sim_mk iT iS (iB.push hb1 ⟨r, hr9, rfl⟩) iA⟩
    · exact ⟨_, _, _, pu_mu (c_X5_send_f hh t h1 (by omega)), c_X6_send_f hg hn t h1 (by omega), sim_mk iT iS iB iA⟩
  · have h1 := bf_t h1
    exact ⟨_, _, _, pu_mu (c_X5_send_u hh t h1), c_X6_send_u hg hn t h1, sim_mk iT iS iB iA⟩
set_option maxHeartbeats 4000000 in
theorem sim_total (hh : ad_ok h 20) (hg : ad_ok g 16) (H : SIM cI cJ h g w m) (t : Int32) : sOKl l D cI cJ h g yX5_total wsX5_total ({ frames := 9, cells := 0, slots := 0, locals := 400 } : Room) yX6_total wsX6_total ({ frames := 10, cells := 0, slots := 0, locals := 450 } : Room) [.int t] w m := by
  obtain ⟨n, k, b, as, f, an, fx, F, Wt, Sz, Nu, Pl, G, Wk, To, Sl, Ri, oT, oS, oF, Bf, Sd, Fo, wo, pa, fa, rfl, rfl, iT, iS, iB, iA⟩ := H
  have hn := iT.1
  have hk := iS.1
  have hf := iB.1
  have hb9 := iB.2.1
  have ha := iA.1
  have hs := iA.2.1
  by_cases h1 : p_in t (nI k) = true
  · obtain ⟨i, hi, rfl⟩ := p_in_t h1 (by omega)
    exact ⟨_, _, _, pu_mu (c_X5_total_a hh hk i hi), c_X6_total_a hg hk i hi, sim_mk iT iS iB iA⟩
  · have h1 := bf_t h1
    exact ⟨_, _, _, pu_mu (c_X5_total_u hh t h1), c_X6_total_u hg hk t h1, sim_mk iT iS iB iA⟩
set_option maxHeartbeats 4000000 in
theorem sim_slot (hh : ad_ok h 20) (hg : ad_ok g 16) (H : SIM cI cJ h g w m) (t : Int32) : sOKi l D cI cJ h g yX5_slot wsX5_slot ({ frames := 9, cells := 0, slots := 0, locals := 400 } : Room) yX6_slot wsX6_slot ({ frames := 10, cells := 0, slots := 0, locals := 450 } : Room) [.int t] w m := by
  obtain ⟨n, k, b, as, f, an, fx, F, Wt, Sz, Nu, Pl, G, Wk, To, Sl, Ri, oT, oS, oF, Bf, Sd, Fo, wo, pa, fa, rfl, rfl, iT, iS, iB, iA⟩ := H
  have hn := iT.1
  have hk := iS.1
  have hf := iB.1
  have hb9 := iB.2.1
  have ha := iA.1
  have hs := iA.2.1
  by_cases h1 : p_in t (nI k) = true
  · obtain ⟨i, hi, rfl⟩ := p_in_t h1 (by omega)
    exact ⟨_, _, _, pu_mu (c_X5_slot_a hh hk i hi), c_X6_slot_a hg hk i hi, sim_mk iT iS iB iA⟩
  · have h1 := bf_t h1
    exact ⟨_, _, _, pu_mu (c_X5_slot_u hh t h1), c_X6_slot_u hg hk t h1, sim_mk iT iS iB iA⟩
set_option maxHeartbeats 4000000 in
theorem sim_belt (hh : ad_ok h 20) (hg : ad_ok g 16) (H : SIM cI cJ h g w m) (t : Int32) : sOKi l D cI cJ h g yX5_belt wsX5_belt ({ frames := 9, cells := 0, slots := 0, locals := 400 } : Room) yX6_belt wsX6_belt ({ frames := 10, cells := 0, slots := 0, locals := 450 } : Room) [.int t] w m := by
  obtain ⟨n, k, b, as, f, an, fx, F, Wt, Sz, Nu, Pl, G, Wk, To, Sl, Ri, oT, oS, oF, Bf, Sd, Fo, wo, pa, fa, rfl, rfl, iT, iS, iB, iA⟩ := H
  have hn := iT.1
  have hk := iS.1
  have hf := iB.1
  have hb9 := iB.2.1
  have ha := iA.1
  have hs := iA.2.1
  by_cases h1 : p_in t (nI b) = true
  · obtain ⟨i, hi, rfl⟩ := p_in_t h1 (by omega)
    have hc := c_X5_belt_a (l := l) (D := D) (cI := cI) (cJ := cJ) (h := h) (n := n) (k := k) (f := f) (b := b) (an := an) (as := as) (F := F) (Wt := Wt) (Sz := Sz) (Nu := Nu) (Mb := fun j => tl (Pl j)) (G := G) (Wk := Wk) (To := To) (Sl := fun j => tl (Sl j)) (Ri := Ri) (oT := oT) (oS := oS) (oF := oF) (Fo := Fo) (wo := wo) (pa := pa) (fa := fa) hh hf hb9 i hi
    rw [(iB.2.2 i hi).1] at hc
    exact ⟨_, _, _, pu_mu (hc), c_X6_belt_a hg hb9 i hi, sim_mk iT iS iB iA⟩
  · have h1 := bf_t h1
    exact ⟨_, _, _, pu_mu (c_X5_belt_n hh hf hb9 t h1), c_X6_belt_n hg hb9 t h1, sim_mk iT iS iB iA⟩
set_option maxHeartbeats 4000000 in
theorem sim_side (hh : ad_ok h 20) (hg : ad_ok g 16) (H : SIM cI cJ h g w m) (t wh : Int32) : sOKi l D cI cJ h g yX5_side wsX5_side ({ frames := 9, cells := 0, slots := 0, locals := 400 } : Room) yX6_side wsX6_side ({ frames := 10, cells := 0, slots := 0, locals := 450 } : Room) [.int t, .int wh] w m := by
  obtain ⟨n, k, b, as, f, an, fx, F, Wt, Sz, Nu, Pl, G, Wk, To, Sl, Ri, oT, oS, oF, Bf, Sd, Fo, wo, pa, fa, rfl, rfl, iT, iS, iB, iA⟩ := H
  have hn := iT.1
  have hk := iS.1
  have hf := iB.1
  have hb9 := iB.2.1
  have ha := iA.1
  have hs := iA.2.1
  by_cases h1 : q_in wh 0 2 = true
  · by_cases h2 : p_in t (nI as) = true
    · obtain ⟨i, hi, rfl⟩ := p_in_t h2 (by omega)
      obtain ⟨w9, -, hw9, rfl⟩ := q_nat 0 2 h1 (by decide) (by decide)
      have hc := c_X5_side_a (l := l) (D := D) (cI := cI) (cJ := cJ) (h := h) (n := n) (k := k) (f := f) (b := b) (an := an) (as := as) (F := F) (Wt := Wt) (Sz := Sz) (Nu := Nu) (Mb := fun j => tl (Pl j)) (G := G) (Wk := Wk) (To := To) (Sl := fun j => tl (Sl j)) (Ri := Ri) (oT := oT) (oS := oS) (oF := oF) (Fo := Fo) (wo := wo) (pa := pa) (fa := fa) hh ha hs i hi (nI w9) h1
      obtain ⟨e0, e1, e2⟩ := iA.2.2 i hi
      have e : (if nI w9 = 0 then oT else if nI w9 = 1 then oS else oF) ((an + 19 - i) % 20) = Sd (3 * i + w9) := by
        rcases (show w9 = 0 ∨ w9 = 1 ∨ w9 = 2 by omega) with rfl | rfl | rfl
        · exact e0
        · exact e1
        · exact e2
      rw [e] at hc
      exact ⟨_, _, _, pu_mu (hc), c_X6_side_a hg hs i hi w9 hw9, sim_mk iT iS iB iA⟩
    · have h2 := bf_t h2
      exact ⟨_, _, _, pu_mu (c_X5_side_n hh t wh h1 h2), c_X6_side_n hg hs t wh h1 h2, sim_mk iT iS iB iA⟩
  · have h1 := bf_t h1
    exact ⟨_, _, _, pu_mu (c_X5_side_o hh t wh h1), c_X6_side_o hg t wh h1, sim_mk iT iS iB iA⟩
set_option maxHeartbeats 4000000 in
theorem sim_count (hh : ad_ok h 20) (hg : ad_ok g 16) (H : SIM cI cJ h g w m) (t : Int32) : sOKi l D cI cJ h g yX5_count wsX5_count ({ frames := 9, cells := 0, slots := 0, locals := 400 } : Room) yX6_count wsX6_count ({ frames := 10, cells := 0, slots := 0, locals := 450 } : Room) [.int t] w m := by
  obtain ⟨n, k, b, as, f, an, fx, F, Wt, Sz, Nu, Pl, G, Wk, To, Sl, Ri, oT, oS, oF, Bf, Sd, Fo, wo, pa, fa, rfl, rfl, iT, iS, iB, iA⟩ := H
  have hn := iT.1
  have hk := iS.1
  have hf := iB.1
  have hb9 := iB.2.1
  have ha := iA.1
  have hs := iA.2.1
  rcases sw_X5_count_1 t with ho | rfl | rfl | rfl | rfl | rfl | rfl | rfl | rfl | rfl | rfl | rfl
  · exact ⟨_, _, _, pu_mu (c_X5_count_o hh t ho.1), c_X6_count_o hg t ho.1, sim_mk iT iS iB iA⟩
  · exact ⟨_, _, _, pu_mu (c_X5_count_0 hh), c_X6_count_0 hg, sim_mk iT iS iB iA⟩
  · exact ⟨_, _, _, pu_mu (c_X5_count_1 hh), c_X6_count_1 hg, sim_mk iT iS iB iA⟩
  · exact ⟨_, _, _, pu_mu (c_X5_count_2 hh), c_X6_count_2 hg, sim_mk iT iS iB iA⟩
  · exact ⟨_, _, _, pu_mu (c_X5_count_3 hh), c_X6_count_3 hg, sim_mk iT iS iB iA⟩
  · exact ⟨_, _, _, pu_mu (c_X5_count_4 hh), c_X6_count_4 hg, sim_mk iT iS iB iA⟩
  · exact ⟨_, _, _, pu_mu (c_X5_count_5 hh), c_X6_count_5 hg, sim_mk iT iS iB iA⟩
  · exact ⟨_, _, _, pu_mu (c_X5_count_6 hh), c_X6_count_6 hg, sim_mk iT iS iB iA⟩
  · exact ⟨_, _, _, pu_mu (c_X5_count_7 hh), c_X6_count_7 hg, sim_mk iT iS iB iA⟩
  · exact ⟨_, _, _, pu_mu (c_X5_count_8 hh), c_X6_count_8 hg, sim_mk iT iS iB iA⟩
  · exact ⟨_, _, _, pu_mu (c_X5_count_9 hh), c_X6_count_9 hg, sim_mk iT iS iB iA⟩
  · exact ⟨_, _, _, pu_mu (c_X5_count_10 hh), c_X6_count_10 hg, sim_mk iT iS iB iA⟩
set_option maxHeartbeats 4000000 in
theorem sim_clear (hh : ad_ok h 20) (hg : ad_ok g 16) (H : SIM cI cJ h g w m)  : sOKi l D cI cJ h g yX5_clear wsX5_clear ({ frames := 9, cells := 0, slots := 0, locals := 400 } : Room) yX6_clear wsX6_clear ({ frames := 10, cells := 0, slots := 0, locals := 450 } : Room) [] w m := by
  obtain ⟨n, k, b, as, f, an, fx, F, Wt, Sz, Nu, Pl, G, Wk, To, Sl, Ri, oT, oS, oF, Bf, Sd, Fo, wo, pa, fa, rfl, rfl, iT, iS, iB, iA⟩ := H
  have hn := iT.1
  have hk := iS.1
  have hf := iB.1
  have hb9 := iB.2.1
  have ha := iA.1
  have hs := iA.2.1
  refine ⟨_, _, _, c_X5_clear_a hh, c_X6_clear_a hg, ?_⟩
  exact sim_mk (n := 0) (k := 0) (b := 0) (as := 0) (f := 0) (an := 0) ⟨by decide, fun j hj => absurd hj (by omega)⟩ ⟨by decide, fun j hj => absurd hj (by omega)⟩ ⟨by decide, by decide, fun j hj => absurd hj (by omega)⟩ ⟨by decide, by decide, fun j hj => absurd hj (by omega)⟩
set_option maxHeartbeats 4000000 in
theorem sim_lay (hh : ad_ok h 20) (hg : ad_ok g 16) (H : SIM cI cJ h g w m) (t kd i ot : Int32) : sOKi l D cI cJ h g yX5_lay wsX5_lay ({ frames := 9, cells := 0, slots := 0, locals := 400 } : Room) yX6_lay wsX6_lay ({ frames := 10, cells := 0, slots := 0, locals := 450 } : Room) [.int t, .int kd, .int i, .int ot] w m := by
  obtain ⟨n, k, b, as, f, an, fx, F, Wt, Sz, Nu, Pl, G, Wk, To, Sl, Ri, oT, oS, oF, Bf, Sd, Fo, wo, pa, fa, rfl, rfl, iT, iS, iB, iA⟩ := H
  have hn := iT.1
  have hk := iS.1
  have hf := iB.1
  have hb9 := iB.2.1
  have ha := iA.1
  have hs := iA.2.1
  by_cases h0 : ot = -5
  · subst h0
    by_cases h1 : p_in t (nI n) = true
    · by_cases h2 : q_in kd 7 15 = true
      · obtain ⟨r, hr9, rfl⟩ := p_in_t h1 (by omega)
        obtain ⟨c9, hcl, hch, rfl⟩ := q_nat 7 15 h2 (by decide) (by decide)
        obtain ⟨⟨a, ha16, hFa⟩, ⟨z, hz8, hz⟩, -⟩ := iT.2 r hr9
        by_cases h3 : ko (F r) (nI c9) = true
        · by_cases h4 : p_in i (Sz r) = true
          · obtain ⟨j, hj, rfl⟩ := p_in_t (hz ▸ h4) (by omega)
            refine ⟨_, _, _, c_X5_lay_nO hh hn r hr9 (nI c9) h2 j (by omega) h3 h4, c_X6_lay_nO hg hn r hr9 a ha16 hFa c9 (by omega) (by omega) h2 z hz hz8 j (by omega) h3 h4, ?_⟩
            rw [up_tl tl_m1]
            exact sim_mk (iT.lay (Or.inl rfl)) iS iB iA
          · have h4 := bf_t h4
            exact ⟨_, _, _, c_X5_lay_nB hh hn r hr9 (nI c9) h2 i h3 h4, c_X6_lay_nB hg hn r hr9 a ha16 hFa c9 (by omega) (by omega) h2 z hz hz8 i h3 h4, sim_mk iT iS iB iA⟩
        · have h3 := bf_t h3
          exact ⟨_, _, _, c_X5_lay_nc hh hn r hr9 (nI c9) h2 i h3, c_X6_lay_nc hg hn r hr9 a ha16 hFa c9 (by omega) (by omega) h2 i h3, sim_mk iT iS iB iA⟩
      · have h2 := bf_t h2
        exact ⟨_, _, _, pu_mu (c_X5_lay_no hh t kd i h1 h2), c_X6_lay_no hg hn t kd i h1 h2, sim_mk iT iS iB iA⟩
    · have h1 := bf_t h1
      exact ⟨_, _, _, pu_mu (c_X5_lay_nu hh t kd i h1), c_X6_lay_u hg hn t kd i (-5) h1, sim_mk iT iS iB iA⟩
  · by_cases h5 : p_in ot (nI n) = true
    · obtain ⟨p9, hp9, rfl⟩ := p_in_t h5 (by omega)
      obtain ⟨⟨a2, ha2, hFa2⟩, -, -⟩ := iT.2 p9 hp9
      by_cases h1 : p_in t (nI n) = true
      · by_cases h2 : q_in kd 7 15 = true
        · obtain ⟨r, hr9, rfl⟩ := p_in_t h1 (by omega)
          obtain ⟨c9, hcl, hch, rfl⟩ := q_nat 7 15 h2 (by decide) (by decide)
          obtain ⟨⟨a, ha16, hFa⟩, ⟨z, hz8, hz⟩, -⟩ := iT.2 r hr9
          obtain ⟨d9, hd, hd9, hmk⟩ := mk_pt hcl hch
          by_cases h3 : ko (F r) (nI c9) = true
          · obtain ⟨ha7, ha15⟩ := ko_row ha16 hcl hch (hFa ▸ h3)
            obtain ⟨e9, he, he9, hme⟩ := mk_pt ha7 ha15
            by_cases h6 : ko (F p9) (nI d9) = true
            · by_cases h4 : p_in i (Sz r) = true
              · by_cases h7 : ko (F p9) (nI e9) = true
                · obtain ⟨j, hj, rfl⟩ := p_in_t (hz ▸ h4) (by omega)
                  refine ⟨_, _, _, c_X5_lay_pO hh hn p9 hp9 r hr9 (nI c9) h2 j (by omega) h3 (hmk ▸ h6) h4 (by rw [hFa, hme]; exact h7), c_X6_lay_pO hg hn r hr9 a ha16 hFa c9 (by omega) (by omega) h2 p9 hp9 a2 ha2 hFa2 d9 hd hd9 e9 he he9 z hz hz8 j (by omega) h3 h6 h4 h7, ?_⟩
                  rw [up_tl (tl_nI (by omega))]
                  exact sim_mk (iT.lay (Or.inr ⟨p9, hp9, rfl⟩)) iS iB iA
                · have h7 := bf_t h7
                  exact ⟨_, _, _, c_X5_lay_pS hh hn p9 hp9 r hr9 (nI c9) h2 i h3 (hmk ▸ h6) h4 (by rw [hFa, hme]; exact h7), c_X6_lay_pS hg hn r hr9 a ha16 hFa c9 (by omega) (by omega) h2 p9 hp9 a2 ha2 hFa2 d9 hd hd9 e9 he he9 z hz hz8 i h3 h6 h4 h7, sim_mk iT iS iB iA⟩
              · have h4 := bf_t h4
                exact ⟨_, _, _, c_X5_lay_pB hh hn p9 hp9 r hr9 (nI c9) h2 i h3 (hmk ▸ h6) h4, c_X6_lay_pB hg hn r hr9 a ha16 hFa c9 (by omega) (by omega) h2 p9 hp9 a2 ha2 hFa2 d9 hd hd9 z hz hz8 i h3 h6 h4, sim_mk iT iS iB iA⟩
            · have h6 := bf_t h6
              exact ⟨_, _, _, c_X5_lay_pC hh hn p9 hp9 r hr9 (nI c9) h2 i h3 (hmk ▸ h6), c_X6_lay_pC hg hn r hr9 a ha16 hFa c9 (by omega) (by omega) h2 p9 hp9 a2 ha2 hFa2 d9 hd hd9 i h3 h6, sim_mk iT iS iB iA⟩
          · have h3 := bf_t h3
            exact ⟨_, _, _, c_X5_lay_pc hh hn p9 hp9 r hr9 (nI c9) h2 i h3, c_X6_lay_pc hg hn r hr9 a ha16 hFa c9 (by omega) (by omega) h2 p9 hp9 a2 ha2 hFa2 i h3, sim_mk iT iS iB iA⟩
        · have h2 := bf_t h2
          exact ⟨_, _, _, pu_mu (c_X5_lay_po hh hn p9 hp9 t kd i h1 h2), c_X6_lay_po hg hn p9 hp9 t kd i h1 h2, sim_mk iT iS iB iA⟩
      · have h1 := bf_t h1
        exact ⟨_, _, _, pu_mu (c_X5_lay_pu hh hn p9 hp9 t kd i h1), c_X6_lay_u hg hn t kd i (nI p9) h1, sim_mk iT iS iB iA⟩
    · have h5 := bf_t h5
      by_cases h1 : p_in t (nI n) = true
      · exact ⟨_, _, _, pu_mu (c_X5_lay_x hh t kd i ot h0 h5), c_X6_lay_x hg hn t kd i ot h1 h0 h5, sim_mk iT iS iB iA⟩
      · have h1 := bf_t h1
        exact ⟨_, _, _, pu_mu (c_X5_lay_x hh t kd i ot h0 h5), c_X6_lay_u hg hn t kd i ot h1, sim_mk iT iS iB iA⟩
end SimA
