/-! number: tied -/
def sOKn (l : Launch) (D : va_G) (cI cJ : ClassId) (h g : Nat → Nat) (S0 sa sb oA : Nat) (t kd i : Int32) (w m : va_W) : Prop := ∃ (kx : Int32) (bv : Int64) (m' : va_W) (pu : (Nat → Int64) → Prop),
  (∀ fo : Nat → Int64, Met l yL_number wsLN ({ frames := 10, cells := 1, slots := 6, locals := 500 } : Room) (ln_P D cI cJ S0 sa sb oA fo [.ref (h 0), .int t, .int kd, .int i, .ref oA] w) (ln_Q D cJ oA kx pu) 1 6 (fun q => q = oA)) ∧
  Met l yX6_number wsX6_number ({ frames := 10, cells := 0, slots := 0, locals := 450 } : Room) (wd_P D cI cJ [.ref (g 0), .int t, .int kd, .int i] m) (mu_Q D (ad_A g 16) (some (.long bv)) m') 0 0 (ad_A g 16) ∧
  Met l yX6_thrown wsX6_thrown ({ frames := 0, cells := 0, slots := 0, locals := 0 } : Room) (wd_P D cI cJ [.ref (g 0)] m') (pu_Q (some (.int kx))) 0 0 (fun _ => False) ∧ SIM cI cJ h g w m' ∧ ((kx = 0 ∧ ∀ u, pu u → u 0 = bv) ∨ ¬ kx = 0)
set_option maxHeartbeats 4000000 in
theorem sim_number {l : Launch} {D : va_G} {cI cJ : ClassId} {h g : Nat → Nat} {S0 sa sb oA : Nat} {w m : va_W} (hlt : l.stackTraces = false) (hoA : S0 ≤ oA) (hh : ad_ok h 20) (hg : ad_ok g 16) (H : SIM cI cJ h g w m) (t kd i : Int32) : sOKn l D cI cJ h g S0 sa sb oA t kd i w m := by
  obtain ⟨n, k, b, as, f, an, fx, F, Wt, Sz, Nu, Pl, G, Wk, To, Sl, Ri, oT, oS, oF, Bf, Sd, Fo, wo, pa, fa, rfl, rfl, iT, iS, iB, iA⟩ := H
  have hn := iT.1
  by_cases h1 : p_in t (nI n) = true
  · by_cases h2 : q_in kd 4 6 = true
    · obtain ⟨r, hr9, rfl⟩ := p_in_t h1 (by omega)
      obtain ⟨c9, hcl, hch, rfl⟩ := q_nat 4 6 h2 (by decide) (by decide)
      obtain ⟨⟨a, ha16, hFa⟩, ⟨z, hz8, hz⟩, -⟩ := iT.2 r hr9
      by_cases h3 : ko (F r) (nI c9) = true
      · by_cases h4 : p_in i (Sz r) = true
        · obtain ⟨j, hj, rfl⟩ := p_in_t (hz ▸ h4) (by omega)
          exact ⟨0, _, _, _, fun fo => c_L_number_r oA fo _ _ _ _ (c_X5_number_a hh hn r hr9 (nI c9) h2 j (by omega) h3 h4), c_X6_number_a hg hn r hr9 a ha16 hFa c9 (by omega) h2 z hz hz8 j (by omega) h3 h4, c_X6_thrown hg, sim_mk iT iS iB iA, Or.inl ⟨rfl, fun u hu => hu⟩⟩
        · have h4 := bf_t h4
          exact ⟨2, _, _, _, fun fo => c_L_number_b oA hoA fo _ _ _ (x_X5_number_b hlt hh hn r hr9 (nI c9) h2 i h3 h4), c_X6_number_b hg hn r hr9 a ha16 hFa c9 (by omega) h2 z hz hz8 i h3 h4, c_X6_thrown hg, sim_mk iT iS iB iA, Or.inr (by decide)⟩
      · have h3 := bf_t h3
        exact ⟨1, _, _, _, fun fo => c_L_number_c oA hoA fo _ _ _ (x_X5_number_c hlt hh hn r hr9 (nI c9) h2 i h3), c_X6_number_c hg hn r hr9 a ha16 hFa c9 (by omega) h2 i h3, c_X6_thrown hg, sim_mk iT iS iB iA, Or.inr (by decide)⟩
    · have h2 := bf_t h2
      exact ⟨0, _, _, _, fun fo => c_L_number_r oA fo _ _ _ _ (c_X5_number_o hh t kd i h1 h2), c_X6_number_o hg hn t kd i h1 h2, c_X6_thrown hg, sim_mk iT iS iB iA, Or.inl ⟨rfl, fun u hu => hu⟩⟩
  · have h1 := bf_t h1
    exact ⟨0, _, _, _, fun fo => c_L_number_r oA fo _ _ _ _ (c_X5_number_u hh t kd i h1), c_X6_number_u hg hn t kd i h1, c_X6_thrown hg, sim_mk iT iS iB iA, Or.inl ⟨rfl, fun u hu => hu⟩⟩
