/-! the forms' functions on whole numbers -/
theorem u_lN (x : UInt64) : x.toInt64 = lN x.toNat := by
  apply wb_inj
  rw [wb_tb]
  apply BitVec.eq_of_toNat_eq
  simp
theorem lN_u (n : Nat) : (lN n).toUInt64 = UInt64.ofNat n := rfl
theorem b_ex (b : Int64) : b = lN b.toUInt64.toNat := by
  have := u_lN b.toUInt64
  rw [← this]
  simp
theorem sizeIn1 {n : Nat} (h : n < 2 ^ 64) : q_sizeIn_1 (lN n) = lN (n % 2 ^ 63) := by
  unfold q_sizeIn_1
  rw [show ((1 : Int64) <<< ((63 : Int32).toInt64 &&& 63)) - 1 = lN (2 ^ 63 - 1) by decide]
  exact wb_mask h (by decide)
theorem sizeIn0 {n : Nat} (h : n < 2 ^ 64) : q_sizeIn_0 (lN n) = lN (n % 2 ^ 31) := by
  unfold q_sizeIn_0
  rw [show ((1 : Int64) <<< ((31 : Int32).toInt64 &&& 63)) - 1 = lN (2 ^ 31 - 1) by decide]
  exact wb_mask h (by decide)
theorem ends1 : q_endlessSize_1 = lN 9218868437227405312 := by decide
theorem ends0 : q_endlessSize_0 = lN 2139095040 := by decide
theorem isNum1 {n : Nat} (h : n < 2 ^ 64) : q_isNumber_1 (lN n) = if n % 2 ^ 63 ≤ 9218868437227405312 then 1 else 0 := by
  unfold q_isNumber_1
  rw [sizeIn1 h, ends1]
  have hlt : n % 2 ^ 63 < 2 ^ 63 := Nat.mod_lt _ (by decide)
  by_cases hc : n % 2 ^ 63 ≤ 9218868437227405312
  · rw [if_pos hc, if_neg]
    rw [lg_cmp_gt, pk_lLT (by decide) hlt]
    omega
  · rw [if_neg hc, if_pos]
    rw [lg_cmp_gt, pk_lLT (by decide) hlt]
    omega
theorem isNum0 {n : Nat} (h : n < 2 ^ 64) : q_isNumber_0 (lN n) = if n % 2 ^ 31 ≤ 2139095040 then 1 else 0 := by
  unfold q_isNumber_0
  rw [sizeIn0 h, ends0]
  have hlt : n % 2 ^ 31 < 2 ^ 31 := Nat.mod_lt _ (by decide)
  by_cases hc : n % 2 ^ 31 ≤ 2139095040
  · rw [if_pos hc, if_neg]
    rw [lg_cmp_gt, pk_lLT (by decide) (by omega)]
    omega
  · rw [if_neg hc, if_pos]
    rw [lg_cmp_gt, pk_lLT (by decide) (by omega)]
    omega
def stp (w k : Nat) : Nat := if k < 2 ^ w then k else 2 ^ w + k % 2 ^ w
theorem steps1 {k : Nat} (h : k < 2 ^ 63) : q_stepsOf_1 (lN k) = lN (stp 52 k) := by
  unfold q_stepsOf_1 stp
  rw [show (1 : Int64) <<< ((52 : Int32).toInt64 &&& 63) = lN (2 ^ 52) by decide, show lN (2 ^ 52) - 1 = lN (2 ^ 52 - 1) by decide, wb_mask (by omega) (by decide)]
  by_cases hc : k < 2 ^ 52
  · rw [if_pos hc, if_neg, Nat.mod_eq_of_lt hc]
    rw [lg_cmp_ge, pk_lLE (by decide) h]
    omega
  · rw [if_neg hc, if_pos, lN_add]
    rw [lg_cmp_ge, pk_lLE (by decide) h]
    omega
theorem steps0 {k : Nat} (h : k < 2 ^ 63) : q_stepsOf_0 (lN k) = lN (stp 23 k) := by
  unfold q_stepsOf_0 stp
  rw [show (1 : Int64) <<< ((23 : Int32).toInt64 &&& 63) = lN (2 ^ 23) by decide, show lN (2 ^ 23) - 1 = lN (2 ^ 23 - 1) by decide, wb_mask (by omega) (by decide)]
  by_cases hc : k < 2 ^ 23
  · rw [if_pos hc, if_neg, Nat.mod_eq_of_lt hc]
    rw [lg_cmp_ge, pk_lLE (by decide) h]
    omega
  · rw [if_neg hc, if_pos, lN_add]
    rw [lg_cmp_ge, pk_lLE (by decide) h]
    omega
theorem stp_lt {w k : Nat} : stp w k < 2 ^ (w + 1) := by
  unfold stp
  have := Nat.mod_lt k (Nat.two_pow_pos w)
  rw [Nat.pow_succ]
  split <;> omega
def pwr (w k : Nat) : Nat := k / 2 ^ w - 1
theorem pow1 {k : Nat} (h : k < 2 ^ 63) : (q_powerOf_1 (lN k)).toInt = (pwr 52 k : Int) - 1074 := by
  unfold q_powerOf_1 pwr
  have hs : ((lN k).toUInt64 >>> ((52 : Int32).toInt64.toUInt64 &&& Int64.toUInt64 63)).toInt64 = lN (k / 2 ^ 52) := wb_shr (k := 52) (by omega) (by decide)
  rw [hs, lN_i]
  have he : k / 2 ^ 52 < 2048 := by omega
  generalize k / 2 ^ 52 = e at he ⊢
  have hI : (nI e).toInt = (e : Int) := nI_toInt (by omega)
  have h1 : (1 : Int32).toInt = 1 := by decide
  have h2 : (-1022 : Int32).toInt = -1022 := by decide
  have h3 : (52 : Int32).toInt = 52 := by decide
  by_cases hc : nI e < 1
  · rw [if_pos hc]
    rw [fa_lt, hI, h1] at hc
    have h0 : e = 0 := by omega
    subst h0
    decide
  · rw [if_neg hc]
    rw [fa_lt, hI, h1] at hc
    rw [fb_subI (by rw [fb_addI, fb_subI, hI, h1, h2, h3] <;> (try rw [fb_subI, hI, h1]) <;> omega) (by rw [fb_addI, fb_subI, hI, h1, h2, h3] <;> (try rw [fb_subI, hI, h1]) <;> omega), fb_addI (by rw [fb_subI, hI, h1] <;> omega) (by rw [fb_subI, hI, h1] <;> omega), fb_subI (by omega) (by omega), hI, h1, h2, h3]
    omega
theorem pow0 {k : Nat} (h : k < 2 ^ 31) : (q_powerOf_0 (lN k)).toInt = (pwr 23 k : Int) - 149 := by
  unfold q_powerOf_0 pwr
  have hs : ((lN k).toUInt64 >>> ((23 : Int32).toInt64.toUInt64 &&& Int64.toUInt64 63)).toInt64 = lN (k / 2 ^ 23) := wb_shr (k := 23) (by omega) (by decide)
  rw [hs, lN_i]
  have he : k / 2 ^ 23 < 256 := by omega
  generalize k / 2 ^ 23 = e at he ⊢
  have hI : (nI e).toInt = (e : Int) := nI_toInt (by omega)
  have h1 : (1 : Int32).toInt = 1 := by decide
  have h2 : (-126 : Int32).toInt = -126 := by decide
  have h3 : (23 : Int32).toInt = 23 := by decide
  by_cases hc : nI e < 1
  · rw [if_pos hc]
    rw [fa_lt, hI, h1] at hc
    have h0 : e = 0 := by omega
    subst h0
    decide
  · rw [if_neg hc]
    rw [fa_lt, hI, h1] at hc
    rw [fb_subI (by rw [fb_addI, fb_subI, hI, h1, h2, h3] <;> (try rw [fb_subI, hI, h1]) <;> omega) (by rw [fb_addI, fb_subI, hI, h1, h2, h3] <;> (try rw [fb_subI, hI, h1]) <;> omega), fb_addI (by rw [fb_subI, hI, h1] <;> omega) (by rw [fb_subI, hI, h1] <;> omega), fb_subI (by omega) (by omega), hI, h1, h2, h3]
    omega
theorem units1 (k : Nat) : FP.Core.unitsOf FP.Core.b64 k = stp 52 k * 2 ^ pwr 52 k := by
  unfold FP.Core.unitsOf stp pwr
  rw [FP.Core.tails_b64]
  split
  · rename_i h
    rw [Nat.div_eq_of_lt h]
    simp
  · rfl
theorem units0 (k : Nat) : FP.Core.unitsOf FP.Core.b32 k = stp 23 k * 2 ^ pwr 23 k := by
  unfold FP.Core.unitsOf stp pwr
  rw [FP.Core.tails_b32]
  split
  · rename_i h
    rw [Nat.div_eq_of_lt h]
    simp
  · rfl
/-- a double is its sign and its magnitude -/
theorem dz_inj {a b : UInt64} (ha : FP.Core.val64 a ≠ .nan) (hb : FP.Core.val64 b ≠ .nan) (hs : FP.Core.sgn (FP.Core.val64 a) = FP.Core.sgn (FP.Core.val64 b)) (hz : FP.Core.zmag FP.Core.b64 (FP.Core.val64 a) = FP.Core.zmag FP.Core.b64 (FP.Core.val64 b)) : a = b := by
  rw [FP.Core.sgn_bits ha, FP.Core.sgn_bits hb] at hs
  rw [FP.Core.zmag_bits ha, FP.Core.zmag_bits hb] at hz
  have h1 : ¬ a.toNat % 2 ^ 63 < b.toNat % 2 ^ 63 := fun q => by have := FP.Core.unitsOf_lt (f := FP.Core.b64) q; omega
  have h2 : ¬ b.toNat % 2 ^ 63 < a.toNat % 2 ^ 63 := fun q => by have := FP.Core.unitsOf_lt (f := FP.Core.b64) q; omega
  have la := UInt64.toNat_lt a
  have lb := UInt64.toNat_lt b
  apply UInt64.toNat.inj
  by_cases c : 2 ^ 63 ≤ a.toNat
  · have c2 : 2 ^ 63 ≤ b.toNat := by
      rw [decide_eq_true c] at hs
      exact of_decide_eq_true hs.symm
    omega
  · have c2 : ¬ 2 ^ 63 ≤ b.toNat := by
      rw [decide_eq_false c] at hs
      exact of_decide_eq_false hs.symm
    omega
theorem Pz.sz {x : UInt64} {N : Nat} (h : Pz x N) : FP.Core.sgn (FP.Core.val64 x) = false ∧ FP.Core.zmag FP.Core.b64 (FP.Core.val64 x) = N := by
  obtain ⟨c, q, hv, hN⟩ := h.val
  rw [hv]
  exact ⟨rfl, hN⟩
theorem Pz.nat {k : Nat} (h : k < 9218868437227405312) : Pz (UInt64.ofNat k) (stp 52 k * 2 ^ pwr 52 k) := by
  have e : (UInt64.ofNat k).toNat = k := u_tn (by omega)
  exact ⟨by rw [e]; exact h, by rw [e]; exact units1 k⟩
theorem dneg_core (x : UInt64) (hx : FP.Core.val64 x ≠ .nan) : FP.Core.val64 (FP.dneg x) = FP.Core.negate (FP.Core.val64 x) := by
  have hlt := UInt64.toNat_lt x
  refine FP.Core.val64_neg_bits (a := x) (b := FP.dneg x) ?_
  have e : (FP.dneg x).toNat = x.toNat ^^^ 2 ^ 63 := by
    unfold FP.dneg
    rw [UInt64.toNat_xor]
    rfl
  rw [e, nat_xor (by omega)]
  omega
theorem dneg_ne {x : UInt64} (hx : FP.Core.val64 x ≠ .nan) : FP.Core.val64 (FP.dneg x) ≠ .nan := by
  rw [dneg_core x hx]
  exact FP.Core.negate_ne_nan hx
theorem dneg_sz {x : UInt64} (hx : FP.Core.val64 x ≠ .nan) : FP.Core.sgn (FP.Core.val64 (FP.dneg x)) = !(FP.Core.sgn (FP.Core.val64 x)) ∧ FP.Core.zmag FP.Core.b64 (FP.Core.val64 (FP.dneg x)) = FP.Core.zmag FP.Core.b64 (FP.Core.val64 x) := by
  rw [dneg_core x hx]
  cases hv : FP.Core.val64 x with
  | nan => exact absurd hv hx
  | inf s => exact ⟨rfl, rfl⟩
  | fin s c q => exact ⟨rfl, rfl⟩
theorem dneg_nat {k : Nat} (h : k < 2 ^ 63) : FP.dneg (UInt64.ofNat k) = UInt64.ofNat (k + 2 ^ 63) := by
  apply UInt64.toNat.inj
  have e : (FP.dneg (UInt64.ofNat k)).toNat = k ^^^ 2 ^ 63 := by
    unfold FP.dneg
    rw [UInt64.toNat_xor, u_tn (by omega)]
    rfl
  rw [e, nat_xor (by omega), u_tn (by omega)]
  omega
