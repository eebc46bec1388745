theorem low_8 (v : Int64) : v.toInt32.toInt8.toInt32.toInt64 = (v <<< (Int32.toInt64 56 &&& 63)) >>> (Int32.toInt64 56 &&& 63) := by
  apply Int64.toBitVec_inj.mp
  rw [show (Int32.toInt64 56 &&& 63) = (56 : Int64) by decide]
  rw [Int64.toBitVec_shiftRight, Int64.toBitVec_shiftLeft]
  apply BitVec.eq_of_getLsbD_eq
  intro i hi
  simp [BitVec.getLsbD_sshiftRight, BitVec.getLsbD_shiftLeft, BitVec.getLsbD_signExtend]
  have h64 : ¬ 64 ≤ i := by omega
  by_cases h : i < 8
  · have h2 : 56 + i < 64 := by omega
    have h3 : ¬ 56 + i < 56 := by omega
    simp [h, hi, h64, h2, h3]
  · have h2 : ¬ 56 + i < 64 := by omega
    simp [h, hi, h64, h2, BitVec.msb_eq_getLsbD_last, BitVec.getMsbD_eq_getLsbD, BitVec.getLsbD_signExtend, BitVec.getElem_signExtend]
theorem low_32 (v : Int64) : v.toInt32.toInt64 = (v <<< (Int32.toInt64 32 &&& 63)) >>> (Int32.toInt64 32 &&& 63) := by
  apply Int64.toBitVec_inj.mp
  rw [show (Int32.toInt64 32 &&& 63) = (32 : Int64) by decide]
  rw [Int64.toBitVec_shiftRight, Int64.toBitVec_shiftLeft]
  apply BitVec.eq_of_getLsbD_eq
  intro i hi
  simp [BitVec.getLsbD_sshiftRight, BitVec.getLsbD_shiftLeft, BitVec.getLsbD_signExtend]
  have h64 : ¬ 64 ≤ i := by omega
  by_cases h : i < 32
  · have h2 : 32 + i < 64 := by omega
    have h3 : ¬ 32 + i < 32 := by omega
    simp [h, hi, h64, h2, h3]
  · have h2 : ¬ 32 + i < 64 := by omega
    simp [h, hi, h64, h2, BitVec.msb_eq_getLsbD_last, BitVec.getMsbD_eq_getLsbD, BitVec.getLsbD_signExtend, BitVec.getElem_signExtend]
theorem nrw_low {a c : Nat} {f : Int32} {v : Int64} (hf : f = nI a) (e : a = c) : nrw f v = lowS (nI c) v := by
  subst hf; subst e
  unfold nrw lowS
  by_cases h4 : nI a = 4
  · rw [if_pos h4, if_pos h4, low_8]
  · rw [if_neg h4, if_neg h4]
    by_cases h5 : nI a = 5
    · rw [if_pos h5, if_pos h5, low_32]
    · rw [if_neg h5, if_neg h5]
theorem mk_pt {c : Nat} (h7 : 7 ≤ c) (h : c ≤ 15) : ∃ d : Nat, d < 18 ∧ pt_of c = nI d ∧ mkS (nI c) = nI d := by
  have hx : ∀ c, c < 16 → 7 ≤ c → pt_of c = mkS (nI c) ∧ (mkS (nI c) = nI (mkS (nI c)).toNatClampNeg) ∧ (mkS (nI c)).toNatClampNeg < 18 := by decide +kernel
  obtain ⟨h1, h2, h3⟩ := hx c (by omega) h7
  exact ⟨_, h3, h1.trans h2, h2⟩
theorem ko_row {a c : Nat} (ha : a < 16) (h7 : 7 ≤ c) (h15 : c ≤ 15) (h : ko (nI a) (nI c) = true) : 7 ≤ a ∧ a ≤ 15 := by
  have hx : ∀ a, a < 16 → ∀ c, c < 16 → 7 ≤ c → ko (nI a) (nI c) = true → 7 ≤ a ∧ a ≤ 15 := by decide +kernel
  exact hx a ha c (by omega) h7 h
theorem wn_kf {w : Nat} (h : w < 13) : ∃ c : Nat, c < 18 ∧ wn_ts w = nI c ∧ kfS (nI w) = nI c := by
  have hx : ∀ w, w < 13 → wn_ts w = kfS (nI w) ∧ (kfS (nI w) = nI (kfS (nI w)).toNatClampNeg) ∧ (kfS (nI w)).toNatClampNeg < 18 := by decide +kernel
  obtain ⟨h1, h2, h3⟩ := hx w h
  exact ⟨_, h3, h1.trans h2, h2⟩
