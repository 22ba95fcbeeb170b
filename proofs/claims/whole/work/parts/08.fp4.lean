/-! from float to double, by magnitude -/
theorem fits_q32 {s : Bool} {c : Nat} {q : Int} (h : FP.Core.fits FP.Core.b32 (.fin s c q)) : ∃ a : Nat, q = (a : Int) - 149 := ⟨(q + 149).toNat, by have := h.2.1; rw [FP.Core.qmin_b32] at this; omega⟩
theorem units_a32 (c a : Nat) : FP.Core.inUnits c ((a : Int) - 149) FP.Core.b32.qmin = c * 2 ^ a := by
  unfold FP.Core.inUnits
  rw [FP.Core.qmin_b32, show ((a : Int) - 149 - -149).toNat = a by omega]
theorem f2d_val {a : UInt32} (h : FP.Core.val32 a ≠ .nan) : FP.Core.val64 (FP.f2d a) = FP.Core.round FP.Core.b64 (FP.Core.val32 a) := by
  rw [(f2d_ok h).1, FP.Core.val64_f2d]
theorem f2d_fin {a : UInt32} {s : Bool} {c : Nat} {q : Int} (hv : FP.Core.val32 a = .fin s c q) : ∃ c' q', FP.Core.val64 (FP.f2d a) = .fin s c' q' ∧ FP.Core.inUnits c' q' FP.Core.b64.qmin = FP.Core.inUnits c q FP.Core.b32.qmin * 2 ^ 925 := by
  have hn : FP.Core.val32 a ≠ .nan := by rw [hv]; exact FP.Core.Datum.noConfusion
  have hfit : FP.Core.fits FP.Core.b32 (.fin s c q) := hv ▸ FP.Core.val32_fits a
  obtain ⟨c', q', hf, -, he⟩ := FP.Core.within_fit FP.Core.good_b64 FP.Core.within_32_64 hfit
  have h1 : FP.Core.round FP.Core.b64 (.fin s c q) = .fin s c' q' := FP.Core.roundRatio_exact FP.Core.good_b64 (by decide) hf he
  refine ⟨c', q', by rw [f2d_val hn, hv, h1], ?_⟩
  obtain ⟨t, rfl⟩ := fits_q32 hfit
  obtain ⟨u, rfl⟩ := fits_q hf
  rw [units_a, units_a32]
  rw [Nat.mul_one] at he
  by_cases hle : u ≤ t + 925
  · rw [show ((t : Int) - 149 - ((u : Int) - 1074)).toNat = t + 925 - u by omega, show ((u : Int) - 1074 - ((t : Int) - 149)).toNat = 0 by omega, Nat.pow_zero, Nat.mul_one] at he
    rw [← he, Nat.mul_assoc, ← Nat.pow_add, Nat.mul_assoc, ← Nat.pow_add, show t + 925 - u + u = t + 925 by omega]
  · rw [show ((t : Int) - 149 - ((u : Int) - 1074)).toNat = 0 by omega, show ((u : Int) - 1074 - ((t : Int) - 149)).toNat = u - (t + 925) by omega, Nat.pow_zero, Nat.mul_one] at he
    rw [he, Nat.mul_assoc, Nat.mul_assoc, ← Nat.pow_add, ← Nat.pow_add, show u - (t + 925) + (t + 925) = u by omega]
theorem f2d_nat {k : Nat} (h : k < 2139095040) : Pz (FP.f2d (UInt32.ofNat k)) (stp 23 k * 2 ^ pwr 23 k * 2 ^ 925) := by
  have e : (UInt32.ofNat k).toNat = k := by rw [UInt32.toNat_ofNat']; exact Nat.mod_eq_of_lt (by omega)
  obtain ⟨s, c, q, hv⟩ := (FP.Core.fin_bits32 (UInt32.ofNat k)).mpr (by rw [e, Nat.mod_eq_of_lt (by omega)]; exact h)
  have hn : FP.Core.val32 (UInt32.ofNat k) ≠ .nan := by rw [hv]; exact FP.Core.Datum.noConfusion
  have hs := FP.Core.sgn_bits32 hn
  have hz := FP.Core.zmag_bits32 hn
  rw [hv, e] at hs hz
  simp only [FP.Core.sgn, FP.Core.zmag] at hs hz
  rw [Nat.mod_eq_of_lt (by omega), units0] at hz
  have hs2 : s = false := by rw [hs]; exact decide_eq_false (by omega)
  subst hs2
  obtain ⟨c', q', h1, h2⟩ := f2d_fin hv
  exact Pz.of_val h1 (by rw [h2, hz])
theorem f2d_inf : FP.f2d 2139095040 = 9218868437227405312 := by decide +kernel
theorem f2d_zero : FP.f2d 0 = 0 := by decide +kernel
theorem xor31 {k : Nat} (h : k < 2 ^ 31) : k ^^^ 2 ^ 31 = k + 2 ^ 31 := by
  have h1 : k ^^^ 2 ^ 31 = 2 ^ 31 ^^^ k := Nat.xor_comm _ _
  rw [h1]
  have := Nat.two_pow_add_eq_or_of_lt h 1
  rw [Nat.mul_one] at this
  have h3 : 2 ^ 31 ^^^ k = 2 ^ 31 + k := by
    apply Nat.eq_of_testBit_eq
    intro i
    rw [this, Nat.testBit_xor, Nat.testBit_or]
    by_cases hi : i = 31
    · subst hi
      rw [Nat.testBit_lt_two_pow h]
      simp
    · rw [Nat.testBit_two_pow_of_ne (Ne.symm hi)]
      simp
  omega
theorem xor31b {k : Nat} (h : k < 2 ^ 31) : (k + 2 ^ 31) ^^^ 2 ^ 31 = k := by
  rw [← xor31 h, Nat.xor_assoc, Nat.xor_self, Nat.xor_zero]
theorem fneg_tn (x : UInt32) : (FP.fneg x).toNat = x.toNat ^^^ 2 ^ 31 := by
  unfold FP.fneg
  rw [UInt32.toNat_xor]
  rfl
theorem fneg_core (x : UInt32) : FP.Core.val32 (FP.fneg x) = FP.Core.negate (FP.Core.val32 x) := by
  have hlt := UInt32.toNat_lt x
  refine FP.Core.val32_neg_bits (a := x) (b := FP.fneg x) ?_
  rw [fneg_tn]
  by_cases h : x.toNat < 2 ^ 31
  · right
    rw [xor31 h]
  · left
    have h2 : x.toNat - 2 ^ 31 < 2 ^ 31 := by omega
    have := xor31b h2
    rw [show x.toNat - 2 ^ 31 + 2 ^ 31 = x.toNat by omega] at this
    rw [this]
    omega
theorem negate_round_fin (d : FP.Core.Datum) : FP.Core.round FP.Core.b64 (FP.Core.negate d) = FP.Core.negate (FP.Core.round FP.Core.b64 d) := (FP.Core.negate_round FP.Core.b64 d).symm
theorem f2d_neg {a : UInt32} (h : FP.Core.val32 a ≠ .nan) : FP.f2d (FP.fneg a) = FP.dneg (FP.f2d a) := by
  have hn : FP.Core.val32 (FP.fneg a) ≠ .nan := by rw [fneg_core]; exact FP.Core.negate_ne_nan h
  refine FP.Core.val64_inj (f2d_ok hn).2 ?_
  rw [f2d_val hn, fneg_core, negate_round_fin, dneg_core _ (f2d_ok h).2, f2d_val h]
theorem fneg_nat {k : Nat} (h : k < 2 ^ 31) : FP.fneg (UInt32.ofNat k) = UInt32.ofNat (k + 2 ^ 31) := by
  apply UInt32.toNat.inj
  have e0 : (UInt32.ofNat k).toNat = k := by rw [UInt32.toNat_ofNat']; exact Nat.mod_eq_of_lt (by omega)
  have e1 : (UInt32.ofNat (k + 2 ^ 31)).toNat = k + 2 ^ 31 := by rw [UInt32.toNat_ofNat']; exact Nat.mod_eq_of_lt (by omega)
  rw [fneg_tn, e0, e1, xor31 h]
/-- bits to numbers: what numberOf makes -/
theorem num1_mul {k : Nat} (h : k < 9218868437227405312) {p : UInt64} (hp : Pz p (2 ^ ((pwr 52 k : Int) - 1074 + 1074).toNat)) : FP.dmul (FP.l2d (lN (stp 52 k))) p = UInt64.ofNat k := by
  have hs : stp 52 k < 2 ^ 53 := stp_lt
  have hl := Pz.l2d (v := lN (stp 52 k)) (n := stp 52 k) (pk_lT (by omega)) hs
  refine Pz.mul hl hp (Pz.nat h) ?_
  rw [show ((pwr 52 k : Int) - 1074 + 1074).toNat = pwr 52 k by omega, Nat.mul_assoc, Nat.mul_comm (2 ^ 1074), ← Nat.mul_assoc]
theorem num0_mul {k : Nat} (h : k < 2139095040) {p : UInt64} (hp : Pz p (2 ^ ((pwr 23 k : Int) - 149 + 1074).toNat)) : FP.dmul (FP.l2d (lN (stp 23 k))) p = FP.f2d (UInt32.ofNat k) := by
  have hs : stp 23 k < 2 ^ 24 := stp_lt
  have hl := Pz.l2d (v := lN (stp 23 k)) (n := stp 23 k) (pk_lT (by omega)) (by omega)
  refine Pz.mul hl hp (f2d_nat h) ?_
  rw [show ((pwr 23 k : Int) - 149 + 1074).toNat = pwr 23 k + 925 by omega, Nat.pow_add, Nat.mul_assoc, Nat.mul_comm (2 ^ 1074), ← Nat.mul_assoc, ← Nat.mul_assoc]
theorem pwr1_le {k : Nat} (h : k < 9218868437227405312) : pwr 52 k ≤ 2045 := by unfold pwr; omega
theorem pwr0_le {k : Nat} (h : k < 2139095040) : pwr 23 k ≤ 253 := by unfold pwr; omega
theorem sg1 {n : Nat} (hn : n < 2 ^ 64) : ((lN n).toUInt64 >>> ((63 : Int32).toInt64.toUInt64 &&& Int64.toUInt64 63)).toInt64 &&& 1 = lN (n / 2 ^ 63 % 2) := wb_bit (k := 63) hn (by decide)
theorem sg0 {n : Nat} (hn : n < 2 ^ 64) : ((lN n).toUInt64 >>> ((31 : Int32).toInt64.toUInt64 &&& Int64.toUInt64 63)).toInt64 &&& 1 = lN (n / 2 ^ 31 % 2) := wb_bit (k := 31) hn (by decide)
theorem lz {m : Nat} (h : m < 2) : (lg_cmp (lN m) 0 = 0) ↔ m = 0 := by
  rw [lg_cmp_eq]
  exact pk_lEQ (b := 0) (by omega) (by decide)
theorem sgA1 {n k : Nat} (hn : n < 2 ^ 64) (hk : n % 2 ^ 63 = k) (h : n / 2 ^ 63 % 2 = 0) : UInt64.ofNat k = UInt64.ofNat n := by
  congr 1
  omega
theorem sgB1 {n k : Nat} (hn : n < 2 ^ 64) (hk : n % 2 ^ 63 = k) (h : ¬ n / 2 ^ 63 % 2 = 0) : FP.dneg (UInt64.ofNat k) = UInt64.ofNat n := by
  rw [dneg_nat (by omega)]
  congr 1
  omega
theorem nn0 {k : Nat} (h : k ≤ 2139095040) : FP.Core.val32 (UInt32.ofNat k) ≠ .nan := by
  have e : (UInt32.ofNat k).toNat = k := by rw [UInt32.toNat_ofNat']; exact Nat.mod_eq_of_lt (by omega)
  rw [FP.Core.ne_nan32, e, Nat.mod_eq_of_lt (by omega)]
  exact h
theorem sgA0 {n k : Nat} (hk : n % 2 ^ 31 = k) (h : n / 2 ^ 31 % 2 = 0) : FP.f2d (UInt32.ofNat k) = FP.f2d (UInt32.ofNat (n % 2 ^ 32)) := by
  congr 2
  omega
theorem sgB0 {n k : Nat} (hk : n % 2 ^ 31 = k) (hb : k ≤ 2139095040) (h : ¬ n / 2 ^ 31 % 2 = 0) : FP.dneg (FP.f2d (UInt32.ofNat k)) = FP.f2d (UInt32.ofNat (n % 2 ^ 32)) := by
  rw [← f2d_neg (nn0 hb), fneg_nat (by omega)]
  congr 2
  omega
