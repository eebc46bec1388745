/-! a step, a run: tied -/
def wgt (r v : Int32) : Prop := ((r < -20 ∧ v = 1000) ∨ (¬ r < -20 ∧ v = 1)) ∧ ((r ≤ -20 ∧ v = 1000) ∨ (¬ r ≤ -20 ∧ v = 1))
theorem wgt_n {q : Nat} (h : q < 2 ^ 31) : wgt (nI q) 1 := by
  have h1 : (nI q).toInt = (q : Int) := nI_toInt h
  have h2 : (-20 : Int32).toInt = -20 := by decide
  exact ⟨Or.inr ⟨by rw [Int32.lt_iff_toInt_lt, h1, h2]; omega, rfl⟩, Or.inr ⟨by rw [Int32.le_iff_toInt_le, h1, h2]; omega, rfl⟩⟩
theorem wgt_f {x : Nat} (h1 : 1 ≤ x) (h5 : x ≤ 5) : wgt (-20 - nI x) 1000 := by
  rcases (show x = 1 ∨ x = 2 ∨ x = 3 ∨ x = 4 ∨ x = 5 by omega) with rfl | rfl | rfl | rfl | rfl <;> exact ⟨Or.inl ⟨by decide, rfl⟩, Or.inl ⟨by decide, rfl⟩⟩
section SimC
variable {l : Launch} {D : va_G} {cI cJ : ClassId} {h g : Nat → Nat} {n k b as f an : Nat} {fx : Int32} {F Wt Sz : Nat → Int32} {Nu : Nat → Int64} {Pl G Wk : Nat → Int32} {To : Nat → Int64} {Sl Ri oT oS oF Bf Sd Fo : Nat → Int32} {wo pa fa : Int32}
set_option maxHeartbeats 4000000 in
theorem step_sim (hh : ad_ok h 20) (hg : ad_ok g 16) (iT : IT n F Sz Pl) (iS : IS n k G Wk Sl) (iB : IB n (b + 1) f Ri Bf) (iA : IA as an oT oS oF Sd) : ∃ (r v : Int32) (w' m' : va_W), Met l yX5_step wsX5_step ({ frames := 8, cells := 0, slots := 0, locals := 300 } : Room) (wd_P D cI cJ [.ref (h 0)] (sl_W cI cJ h (nI n) F Wt Sz Nu (fun j => tl (Pl j)) (nI k) G Wk To (fun j => tl (Sl j)) Ri (nI f) (nI (b + 1)) oT oS oF (nI an) (nI as) Fo wo pa fa)) (mu_Q D (ad_A h 20) (some (.int r)) w') 0 0 (ad_A h 20) ∧ Met l yX6_steps wsX6_steps ({ frames := 8, cells := 0, slots := 0, locals := 350 } : Room) (wd_P D cI cJ [.ref (g 0)] (mo_W cI cJ g fx (nI n) F Wt Sz Nu Pl Bf (nI (b + 1)) (nI k) G Wk To Sl Sd (nI as) wo pa fa Fo)) (mu_Q D (ad_A g 16) (some (.int r)) m') 0 0 (ad_A g 16) ∧ SIM cI cJ h g w' m' ∧ wgt r v := by
  have hn := iT.1
  have hk := iS.1
  have hf := iB.1
  have hb9 : b < 40 := iB.2.1
  have ha := iA.1
  have hs := iA.2.1
  obtain ⟨hr0, r, hr9, hrB⟩ := iB.2.2 0 (Nat.succ_pos b)
  have hrf : Ri f = nI r := by rw [← hrB, ← hr0, Nat.add_zero, Nat.mod_eq_of_lt hf]
  obtain ⟨⟨a, ha16, hFa⟩, -, -⟩ := iT.2 r hr9
  have hG : ∀ j, j < k → ∃ c9 : Nat, c9 < 18 ∧ G j = nI c9 := fun j hj => (iS.2 j hj).1
  have jB := iB.pop
  by_cases hq : ∃ q, q < k ∧ ko (F r) (G q) = true
  · obtain ⟨q, ⟨hqk, hko⟩, hlt⟩ := pk_least (fun q => q < k ∧ ko (F r) (G q) = true) hq
    have hv : ∀ j, j < q → ko (F r) (G j) = false := fun j hj => bf_t (fun h9 => hlt j hj ⟨by omega, h9⟩)
    obtain ⟨c8, hc8, hG8⟩ := hG q hqk
    obtain ⟨x, Tc, T2, Sc, S2, Mc, P2, R2, B2, b2, hx5, rfl, rfl, rfl, hC, hM, jT, jS, jB2⟩ := work_sim (l := l) (D := D) (cI := cI) (cJ := cJ) (as := as) (an := an) (fx := fx) (Wt := Wt) (Nu := Nu) (To := To) (oT := oT) (oS := oS) (oF := oF) (Sd := Sd) (Fo := Fo) (wo := wo) (pa := pa) (fa := fa) hh hg iT iS jB r hr9 q hqk
    rcases Nat.eq_zero_or_pos x with hx0 | hx1
    · exact ⟨_, _, _, _, c_X5_step_w hh hn hk hf hb9 r hr9 hrf q (by omega) hv hqk hko x hx0 _ _ _ _ _ hC, c_X6_steps_w hg hb9 hn hk r hr9 a ha16 hFa hG q (by omega) hv hrB hqk c8 hc8 hG8 hko x hx0 _ _ _ _ _ hM, sim_mk jT jS jB2 iA, wgt_n (by omega)⟩
    · exact ⟨_, _, _, _, c_X5_step_f hh hn hk hf hb9 r hr9 hrf q (by omega) hv ha hs hqk hko x hx1 hx5 _ _ _ _ _ hC, c_X6_steps_f hg hb9 hn hk r hr9 a ha16 hFa hG q (by omega) hv hrB hqk c8 hc8 hG8 hko hs x hx1 hx5 _ _ _ _ _ hM, sim_mk jT jS jB2 iA.add, wgt_f hx1 hx5⟩
  · have hv : ∀ j, j < k → ko (F r) (G j) = false := fun j hj => bf_t (fun h9 => hq ⟨j, hj, h9⟩)
    exact ⟨_, 1, _, _, c_X5_step_p hh hn hk hf hb9 r hr9 hrf k (Nat.le_refl k) hv rfl, c_X6_steps_p hg hb9 hn hk r hr9 a ha16 hFa hG k (Nat.le_refl k) hv hrB rfl, sim_mk iT iS jB iA, ⟨Or.inr ⟨by decide, rfl⟩, Or.inr ⟨by decide, rfl⟩⟩⟩
end SimC
section SimD
variable {l : Launch} {D : va_G} {cI cJ : ClassId} {h g : Nat → Nat} {w m : va_W}
set_option maxHeartbeats 4000000 in
theorem sim_step (hh : ad_ok h 20) (hg : ad_ok g 16) (H : SIM cI cJ h g w m) : sOKi l D cI cJ h g yX5_step wsX5_step ({ frames := 8, cells := 0, slots := 0, locals := 300 } : Room) yX6_step wsX6_step ({ frames := 10, cells := 0, slots := 0, locals := 450 } : Room) [] w m := by
  obtain ⟨n, k, b, as, f, an, fx, F, Wt, Sz, Nu, Pl, G, Wk, To, Sl, Ri, oT, oS, oF, Bf, Sd, Fo, wo, pa, fa, rfl, rfl, iT, iS, iB, iA⟩ := H
  cases b with
  | zero => exact ⟨_, _, _, pu_mu (c_X5_step_n hh rfl), c_X6_step_n hg rfl, sim_mk iT iS iB iA⟩
  | succ b =>
    obtain ⟨r, v, w', m', hC, hM, hS, -⟩ := step_sim (l := l) (D := D) (cI := cI) (cJ := cJ) (fx := 0) (Wt := Wt) (Nu := Nu) (To := To) (Fo := Fo) (wo := wo) (pa := pa) (fa := fa) hh hg iT iS iB iA
    exact ⟨r, w', m', hC, c_X6_step_s hg iB.2.1 r m' hM, hS⟩
set_option maxHeartbeats 4000000 in
theorem run_sim (hh : ad_ok h 20) (hg : ad_ok g 16) : ∀ (d : Nat) (w m : va_W), SIM cI cJ h g w m → ∃ (a : Int32) (w' m' : va_W), runC l D cI cJ h d w a w' ∧ runM l D cI cJ g d m a m' ∧ SIM cI cJ h g w' m' := by
  intro d
  induction d with
  | zero =>
    intro w m H
    have H0 := H
    obtain ⟨n, k, b, as, f, an, fx, F, Wt, Sz, Nu, Pl, G, Wk, To, Sl, Ri, oT, oS, oF, Bf, Sd, Fo, wo, pa, fa, rfl, rfl, iT, iS, iB, iA⟩ := H
    exact ⟨0, _, _, ⟨rfl, rfl⟩, ⟨rfl, rfl, b, iB.2.1, fx, n, k, as, F, Wt, Sz, Nu, Pl, Bf, G, Wk, To, Sl, Sd, Fo, wo, pa, fa, rfl⟩, H0⟩
  | succ d ih =>
    intro w m H
    have H0 := H
    obtain ⟨n, k, b, as, f, an, fx, F, Wt, Sz, Nu, Pl, G, Wk, To, Sl, Ri, oT, oS, oF, Bf, Sd, Fo, wo, pa, fa, rfl, rfl, iT, iS, iB, iA⟩ := H
    cases b with
    | zero => exact ⟨0, _, _, Or.inl ⟨⟨n, k, f, an, as, F, Wt, Sz, Nu, _, G, Wk, To, _, Ri, oT, oS, oF, Fo, wo, pa, fa, rfl⟩, rfl, rfl⟩, Or.inl ⟨⟨fx, n, k, as, F, Wt, Sz, Nu, Pl, Bf, G, Wk, To, Sl, Sd, Fo, wo, pa, fa, rfl⟩, rfl, rfl⟩, H0⟩
    | succ b =>
      obtain ⟨r, v, w1, m1, hC, hM, hS, hv1, hv2⟩ := step_sim (l := l) (D := D) (cI := cI) (cJ := cJ) (fx := fx) (Wt := Wt) (Nu := Nu) (To := To) (Fo := Fo) (wo := wo) (pa := pa) (fa := fa) hh hg iT iS iB iA
      obtain ⟨a1, w', m', hr1, hr2, hS2⟩ := ih w1 m1 hS
      have hb9 : b < 40 := iB.2.1
      exact ⟨v + a1, w', m', Or.inr ⟨b, r, w1, v, a1, hb9, ⟨n, k, f, an, as, F, Wt, Sz, Nu, _, G, Wk, To, _, Ri, oT, oS, oF, Fo, wo, pa, fa, rfl⟩, hC, hv1, hr1, rfl⟩, Or.inr ⟨b, r, m1, v, a1, hb9, ⟨fx, n, k, as, F, Wt, Sz, Nu, Pl, Bf, G, Wk, To, Sl, Sd, Fo, wo, pa, fa, rfl⟩, hM, hv2, hr2, rfl⟩, hS2⟩
set_option maxHeartbeats 4000000 in
theorem sim_run (hh : ad_ok h 20) (hg : ad_ok g 16) (H : SIM cI cJ h g w m) (t : Int32) : sOKi l D cI cJ h g yX5_run wsX5_run ({ frames := 9, cells := 0, slots := 0, locals := 400 } : Room) yX6_run wsX6_run ({ frames := 10, cells := 0, slots := 0, locals := 450 } : Room) [.int t] w m := by
  obtain ⟨n, k, b, as, f, an, fx, F, Wt, Sz, Nu, Pl, G, Wk, To, Sl, Ri, oT, oS, oF, Bf, Sd, Fo, wo, pa, fa, rfl, rfl, iT, iS, iB, iA⟩ := H
  by_cases h1 : q_in t 0 100 = true
  · obtain ⟨N9, -, hN, rfl⟩ := q_nat 0 100 h1 (by decide) (by decide)
    obtain ⟨a, w', m', hr1, hr2, hS⟩ := run_sim (l := l) (D := D) (cI := cI) (cJ := cJ) hh hg N9 _ _ (sim_mk (h := h) (g := g) (fx := 0) (Wt := Wt) (Nu := Nu) (To := To) (Fo := Fo) (wo := wo) (pa := pa) (fa := fa) iT iS iB iA)
    exact ⟨a, w', m', c_X5_run_a hh N9 hN _ w' a hr1, c_X6_run_a hg N9 hN m' a hr2, hS⟩
  · have h1 := bf_t h1
    exact ⟨_, _, _, pu_mu (c_X5_run_o hh t h1), c_X6_run_o hg t h1, sim_mk iT iS iB iA⟩
end SimD
