/-! doubles by their magnitudes: a positive finite double and the whole number of least numbers that it is -/
theorem n64 {x : UInt64} : vf_n64 x ↔ FP.Core.val64 x ≠ .nan := by
  rw [FP.Core.ne_nan, ← FP.Core.mask_toNat]
  exact UInt64.le_iff_toNat_le
theorem n32 {x : UInt32} : vf_n32 x ↔ FP.Core.val32 x ≠ .nan := by
  rw [FP.Core.ne_nan32, ← FP.Core.mask_toNat32]
  exact UInt32.le_iff_toNat_le
def Pz (x : UInt64) (N : Nat) : Prop := x.toNat < 9218868437227405312 ∧ FP.Core.unitsOf FP.Core.b64 x.toNat = N
theorem Pz.one {x y : UInt64} {N : Nat} (hx : Pz x N) (hy : Pz y N) : x = y := by
  have h : FP.Core.unitsOf FP.Core.b64 x.toNat = FP.Core.unitsOf FP.Core.b64 y.toNat := hx.2.trans hy.2.symm
  have h1 : ¬ x.toNat < y.toNat := fun q => by have := FP.Core.unitsOf_lt (f := FP.Core.b64) q; omega
  have h2 : ¬ y.toNat < x.toNat := fun q => by have := FP.Core.unitsOf_lt (f := FP.Core.b64) q; omega
  exact UInt64.toNat.inj (by omega)
theorem Pz.val {x : UInt64} {N : Nat} (h : Pz x N) : ∃ c q, FP.Core.val64 x = .fin false c q ∧ FP.Core.inUnits c q FP.Core.b64.qmin = N := by
  have hm : x.toNat % 2 ^ 63 = x.toNat := Nat.mod_eq_of_lt (by have := h.1; omega)
  obtain ⟨s, c, q, hv⟩ := (FP.Core.fin_bits x).mpr (by rw [hm]; exact h.1)
  have hn : FP.Core.val64 x ≠ .nan := by rw [hv]; exact FP.Core.Datum.noConfusion
  have hs := FP.Core.sgn_bits hn
  have hz := FP.Core.zmag_bits hn
  rw [hv] at hs hz
  simp only [FP.Core.sgn, FP.Core.zmag] at hs hz
  rw [hm] at hz
  have hs2 : s = false := by rw [hs]; exact decide_eq_false (by have := h.1; omega)
  subst hs2
  exact ⟨c, q, hv, by rw [hz]; exact h.2⟩
theorem Pz.ne {x : UInt64} {N : Nat} (h : Pz x N) : FP.Core.val64 x ≠ .nan := by
  obtain ⟨c, q, hv, -⟩ := h.val
  rw [hv]; exact FP.Core.Datum.noConfusion
theorem Pz.fin {x : UInt64} {N : Nat} (h : Pz x N) : FP.Core.DFin x := by
  obtain ⟨c, q, hv, -⟩ := h.val
  exact ⟨_, _, _, hv⟩
/-- what a double's bits are, from its datum -/
theorem Pz.of_val {x : UInt64} {c N : Nat} {q : Int} (hv : FP.Core.val64 x = .fin false c q) (hN : FP.Core.inUnits c q FP.Core.b64.qmin = N) : Pz x N := by
  have hn : FP.Core.val64 x ≠ .nan := by rw [hv]; exact FP.Core.Datum.noConfusion
  have hf : x.toNat % 2 ^ 63 < 9218868437227405312 := (FP.Core.fin_bits x).mp ⟨_, _, _, hv⟩
  have hs := FP.Core.sgn_bits hn
  have hz := FP.Core.zmag_bits hn
  rw [hv] at hs hz
  simp only [FP.Core.sgn, FP.Core.zmag] at hs hz
  have hlt : x.toNat < 2 ^ 63 := by
    have := of_decide_eq_false hs.symm
    omega
  rw [Nat.mod_eq_of_lt hlt] at hz hf
  exact ⟨hf, by rw [← hz]; exact hN⟩
theorem qn (q : Int) : FP.Core.b64.qmin ≤ q → ∃ a : Nat, q = (a : Int) - 1074 := fun h => ⟨(q + 1074).toNat, by rw [FP.Core.qmin_b64] at h; omega⟩
theorem fits_q {s : Bool} {c : Nat} {q : Int} (h : FP.Core.fits FP.Core.b64 (.fin s c q)) : ∃ a : Nat, q = (a : Int) - 1074 := qn q h.2.1
theorem units_a (c a : Nat) : FP.Core.inUnits c ((a : Int) - 1074) FP.Core.b64.qmin = c * 2 ^ a := by
  unfold FP.Core.inUnits
  rw [FP.Core.qmin_b64, show ((a : Int) - 1074 - -1074).toNat = a by omega]
theorem sh1 {c d k A B G P : Nat} (h : c * A * (d * B) = k * G * P) : c * d * (A * B) = k * (G * P) := by
  have e : c * d * (A * B) = c * A * (d * B) := by ac_rfl
  rw [e, h, Nat.mul_assoc]
theorem sh2 {c d k A B G P : Nat} (h : c * A * P = k * G * (d * B)) : c * (A * P) = k * d * (G * B) := by
  have e : k * d * (G * B) = k * G * (d * B) := by ac_rfl
  rw [e, ← h, Nat.mul_assoc]
/-- an exact product -/
theorem Pz.mul {x y z : UInt64} {M N K : Nat} (hx : Pz x M) (hy : Pz y N) (hz : Pz z K) (h : M * N = K * 2 ^ 1074) : FP.dmul x y = z := by
  obtain ⟨c, q, hvx, hM⟩ := hx.val
  obtain ⟨d, r, hvy, hN⟩ := hy.val
  obtain ⟨k, t, hvz, hK⟩ := hz.val
  obtain ⟨a, rfl⟩ := fits_q (hvx ▸ FP.Core.val64_fits x)
  obtain ⟨b, rfl⟩ := fits_q (hvy ▸ FP.Core.val64_fits y)
  have hfz := hvz ▸ FP.Core.val64_fits z
  obtain ⟨g, rfl⟩ := fits_q hfz
  rw [units_a] at hM hN hK
  refine FP.Core.val64_inj (b := z) ?_ ?_ 
  · rw [FP.Core.val64_dmul, hvx, hvy]
    exact FP.Core.roundRatio_ne_nan _ _ _ _ _
  · rw [FP.Core.val64_dmul, hvx, hvy, hvz]
    refine FP.Core.roundRatio_exact FP.Core.good_b64 (by decide) hfz ?_
    have e1 : c * d * 2 ^ (a + b) = k * 2 ^ (g + 1074) := by
      rw [← hM, ← hN, ← hK] at h
      rw [Nat.pow_add, Nat.pow_add]
      exact sh1 h
    rw [Nat.mul_one]
    by_cases hle : g + 1074 ≤ a + b
    · rw [show ((a : Int) - 1074 + ((b : Int) - 1074) - ((g : Int) - 1074)).toNat = a + b - (g + 1074) by omega, show ((g : Int) - 1074 - ((a : Int) - 1074 + ((b : Int) - 1074))).toNat = 0 by omega, Nat.pow_zero, Nat.mul_one]
      refine Nat.eq_of_mul_eq_mul_right (Nat.two_pow_pos (g + 1074)) ?_
      rw [← e1, Nat.mul_assoc, ← Nat.pow_add, show a + b - (g + 1074) + (g + 1074) = a + b by omega]
    · rw [show ((a : Int) - 1074 + ((b : Int) - 1074) - ((g : Int) - 1074)).toNat = 0 by omega, show ((g : Int) - 1074 - ((a : Int) - 1074 + ((b : Int) - 1074))).toNat = g + 1074 - (a + b) by omega, Nat.pow_zero, Nat.mul_one]
      refine Nat.eq_of_mul_eq_mul_right (Nat.two_pow_pos (a + b)) ?_
      rw [e1, Nat.mul_assoc, ← Nat.pow_add, show g + 1074 - (a + b) + (a + b) = g + 1074 by omega]
/-- an exact quotient -/
theorem Pz.div {x y z : UInt64} {M N K : Nat} (hx : Pz x M) (hy : Pz y N) (hz : Pz z K) (hN0 : N ≠ 0) (h : M * 2 ^ 1074 = K * N) : FP.ddiv x y = z := by
  obtain ⟨c, q, hvx, hM⟩ := hx.val
  obtain ⟨d, r, hvy, hN⟩ := hy.val
  obtain ⟨k, t, hvz, hK⟩ := hz.val
  obtain ⟨a, rfl⟩ := fits_q (hvx ▸ FP.Core.val64_fits x)
  obtain ⟨b, rfl⟩ := fits_q (hvy ▸ FP.Core.val64_fits y)
  have hfz := hvz ▸ FP.Core.val64_fits z
  obtain ⟨g, rfl⟩ := fits_q hfz
  rw [units_a] at hM hN hK
  have hd : d ≠ 0 := fun q => hN0 (by rw [← hN, q, Nat.zero_mul])
  have hq : FP.Core.val64 (FP.ddiv x y) = FP.Core.val64 z := by
    rw [FP.Core.val64_ddiv, hvx, hvy, hvz]
    simp only [FP.Core.quotient, if_neg hd]
    refine FP.Core.roundRatio_exact FP.Core.good_b64 (by omega) hfz ?_
    have e1 : c * 2 ^ (a + 1074) = k * d * 2 ^ (g + b) := by
      rw [← hM, ← hN, ← hK] at h
      rw [Nat.pow_add, Nat.pow_add]
      exact sh2 h
    by_cases hle : g + b ≤ a + 1074
    · rw [show ((a : Int) - 1074 - ((b : Int) - 1074) - ((g : Int) - 1074)).toNat = a + 1074 - (g + b) by omega, show ((g : Int) - 1074 - ((a : Int) - 1074 - ((b : Int) - 1074))).toNat = 0 by omega, Nat.pow_zero, Nat.mul_one]
      refine Nat.eq_of_mul_eq_mul_right (Nat.two_pow_pos (g + b)) ?_
      rw [← e1, Nat.mul_assoc, ← Nat.pow_add, show a + 1074 - (g + b) + (g + b) = a + 1074 by omega]
    · rw [show ((a : Int) - 1074 - ((b : Int) - 1074) - ((g : Int) - 1074)).toNat = 0 by omega, show ((g : Int) - 1074 - ((a : Int) - 1074 - ((b : Int) - 1074))).toNat = g + b - (a + 1074) by omega, Nat.pow_zero, Nat.mul_one]
      refine Nat.eq_of_mul_eq_mul_right (Nat.two_pow_pos (a + 1074)) ?_
      rw [e1, Nat.mul_assoc (k * d), ← Nat.pow_add, show g + b - (a + 1074) + (a + 1074) = g + b by omega]
  exact FP.Core.val64_inj (by rw [hq]; exact hz.ne) hq
theorem Pz.cmp {x y : UInt64} {M N : Nat} (hx : Pz x M) (hy : Pz y N) : FP.dcmp x y = some (compare (M : Int) (N : Int)) := by
  have h1 := FP.Core.dcmp_zval hx.ne hy.ne
  obtain ⟨c, q, hvx, hM⟩ := hx.val
  obtain ⟨d, r, hvy, hN⟩ := hy.val
  rw [hvx, hvy] at h1
  simp only [FP.Core.zval, FP.Core.sgn, FP.Core.zmag, hM, hN, FP.Core.signed] at h1
  exact h1
/-- the numbers that are doubles: c * 2^g -/
theorem Pz.mk (c g : Nat) (hc : c < 2 ^ 53) (hg : g ≤ 2045) : ∃ x : UInt64, Pz x (c * 2 ^ g) := by
  obtain ⟨c', q', h1, h2⟩ := FP.Core.round_exact FP.Core.good_b64 false (c := c) (q := (g : Int) - 1074) hc (by rw [FP.Core.qmin_b64]; omega) (by rw [show FP.Core.b64.qmax = 971 by decide]; omega)
  refine ⟨FP.Core.of64 (.fin false c' q'), ?_⟩
  have hf : FP.Core.fits FP.Core.b64 (.fin false c' q') := h1 ▸ FP.Core.round_fits FP.Core.good_b64 _
  refine Pz.of_val (FP.Core.val64_of64 hf) ?_
  rw [h2, units_a]
theorem Pz.two (j : Nat) (hj : j ≤ 2097) : ∃ x : UInt64, Pz x (2 ^ j) := by
  by_cases h : j ≤ 2045
  · obtain ⟨x, hx⟩ := Pz.mk 1 j (by decide) h
    exact ⟨x, by rw [Nat.one_mul] at hx; exact hx⟩
  · obtain ⟨x, hx⟩ := Pz.mk (2 ^ (j - 2045)) 2045 (by
      exact Nat.pow_lt_pow_right (by decide) (by omega)) (by decide)
    exact ⟨x, by rw [← Nat.pow_add, show j - 2045 + 2045 = j by omega] at hx; exact hx⟩
/-- a whole number below 2^53 -/
theorem Pz.l2d {v : Int64} {n : Nat} (hv : v.toInt = (n : Int)) (hn : n < 2 ^ 53) : Pz (FP.l2d v) (n * 2 ^ 1074) := by
  have hw := FP.Core.l2d_int (a := v) (by rw [hv]; simp; omega)
  have hz := FP.Core.DInt_zval hw
  obtain ⟨c, q, hs⟩ := FP.Core.l2d_shape v
  have h0 : decide (v.toInt < 0) = false := decide_eq_false (by rw [hv]; omega)
  rw [h0] at hs
  refine Pz.of_val hs ?_
  rw [hs, hv] at hz
  simp only [FP.Core.zval, FP.Core.sgn, FP.Core.zmag, FP.Core.signed] at hz
  have : (FP.Core.inUnits c q FP.Core.b64.qmin : Int) = ((n * 2 ^ 1074 : Nat) : Int) := by
    rw [Int.natCast_mul]
    exact hz
  exact Int.ofNat.inj this
theorem Pz.d2l {x : UInt64} {M : Nat} (hx : Pz x M) (h : M / 2 ^ 1074 < 2 ^ 63) : (FP.d2l x).toInt = ((M / 2 ^ 1074 : Nat) : Int) := by
  have h1 := FP.Core.d2l_val hx.ne
  obtain ⟨c, q, hvx, hM⟩ := hx.val
  rw [h1, hvx]
  simp only [FP.Core.sgn, FP.Core.zmag, hM, FP.Core.signed]
  have e1 : FP.Core.one64 = 2 ^ 1074 := rfl
  rw [e1]
  generalize M / 2 ^ 1074 = t at h
  simp
  omega
