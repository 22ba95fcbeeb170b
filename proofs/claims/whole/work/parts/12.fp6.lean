/-! signs -/
theorem v0n : FP.Core.val64 FP.dconst0 ≠ .nan := by decide +kernel
theorem k0 : FP.Core.dkey FP.dconst0 = 0 := by decide +kernel
theorem cmp0 {x : UInt64} (hn : FP.Core.val64 x ≠ .nan) : FP.dcmp x FP.dconst0 = some (compare (FP.Core.dkey x) 0) := by rw [dcmpk hn v0n, k0]
theorem dk_neg {x : UInt64} : FP.Core.dkey x < 0 → 2 ^ 63 ≤ x.toNat := by
  unfold FP.Core.dkey
  split <;> omega
theorem dk_pos {x : UInt64} (h : ¬ FP.Core.dkey x < 0) (h0 : ¬ FP.Core.dkey x = 0) : ¬ 2 ^ 63 ≤ x.toNat := by
  unfold FP.Core.dkey at h h0
  split at h <;> omega
theorem dk_zero {x : UInt64} (h : FP.Core.dkey x = 0) : x = 0 ∨ x = 9223372036854775808 := by
  unfold FP.Core.dkey at h
  split at h
  · right
    apply UInt64.toNat.inj
    show x.toNat = 9223372036854775808
    omega
  · left
    apply UInt64.toNat.inj
    show x.toNat = 0
    omega
theorem one_over {x : UInt64} (h : x = 0 ∨ x = 9223372036854775808) : FP.Core.val64 (FP.ddiv FP.dconst1 x) ≠ .nan ∧ (0 ≤ Op.cmpValue (FP.dcmp (FP.ddiv FP.dconst1 x) FP.dconst0) CmpOp.g ↔ ¬ 2 ^ 63 ≤ x.toNat) := by
  rcases h with rfl | rfl
  · exact ⟨by decide +kernel, by decide +kernel⟩
  · exact ⟨by decide +kernel, by decide +kernel⟩
theorem dneg_big {x : UInt64} (h : 2 ^ 63 ≤ x.toNat) : (FP.dneg x).toNat = x.toNat - 2 ^ 63 := by
  have hlt := UInt64.toNat_lt x
  have e : (FP.dneg x).toNat = x.toNat ^^^ 2 ^ 63 := by
    unfold FP.dneg
    rw [UInt64.toNat_xor]
    rfl
  rw [e, nat_xor (by omega)]
  omega
theorem or63 {k : Nat} (h : k < 2 ^ 63) : lN k ||| ((-1 : Int64) <<< ((63 : Int32).toInt64 &&& 63)) = lN (k + 2 ^ 63) := by
  rw [show (-1 : Int64) <<< ((63 : Int32).toInt64 &&& 63) = lN (1 * 2 ^ 63) by decide]
  have := g_or' (k := 63) (p := 2 ^ 63) (a := k) (b := 1) rfl h (by omega)
  rw [this, Nat.one_mul]
theorem or31 {k : Nat} (h : k < 2 ^ 31) : lN k ||| ((-1 : Int64) <<< ((31 : Int32).toInt64 &&& 63)) = (nI (k + 2 ^ 31)).toInt64 := by
  rw [show (-1 : Int64) <<< ((31 : Int32).toInt64 &&& 63) = lN (8589934591 * 2 ^ 31) by decide]
  have := g_or' (k := 31) (p := 2 ^ 31) (a := k) (b := 8589934591) rfl h (by omega)
  rw [this]
  rw [fa_eq64, Int32.toInt_toInt64]
  have e1 : (lN (k + 8589934591 * 2 ^ 31)).toInt = (k : Int) - 2 ^ 31 := by
    rw [lN_ti (by omega), if_neg (by omega)]
    omega
  rw [e1]
  have e2 : (nI (k + 2 ^ 31)).toInt = ((k + 2 ^ 31 : Nat) : Int).bmod (2 ^ 32) := by
    show (Int32.ofNat (k + 2 ^ 31)).toInt = _
    exact Int32.toInt_ofNat'
  rw [e2, Int.bmod_def]
  split <;> omega
theorem pos31 {k : Nat} (h : k < 2 ^ 31) : lN k = (nI k).toInt64 := (nI_l h).symm
theorem f2d_neg_n {n : Nat} (hn : n < 2 ^ 32) (h1 : n % 2 ^ 31 ≤ 2139095040) (h : 2 ^ 31 ≤ n) : FP.dneg (FP.f2d (UInt32.ofNat n)) = FP.f2d (UInt32.ofNat (n - 2 ^ 31)) ∧ 2 ^ 63 ≤ (FP.f2d (UInt32.ofNat n)).toNat := by
  have h2 : n - 2 ^ 31 = n % 2 ^ 31 := by omega
  have hk : n - 2 ^ 31 < 2 ^ 31 := by omega
  have e := f2d_neg (nn0 (k := n - 2 ^ 31) (by omega))
  rw [fneg_nat hk, show n - 2 ^ 31 + 2 ^ 31 = n by omega] at e
  have hp : (FP.f2d (UInt32.ofNat (n - 2 ^ 31))).toNat < 2 ^ 63 := by
    rcases Nat.lt_or_ge (n - 2 ^ 31) 2139095040 with q | q
    · have := (f2d_nat q).1; omega
    · rw [show n - 2 ^ 31 = 2139095040 by omega, show UInt32.ofNat 2139095040 = 2139095040 from rfl, f2d_inf]; decide
  have e3 : (FP.f2d (UInt32.ofNat n)).toNat = (FP.f2d (UInt32.ofNat (n - 2 ^ 31))).toNat + 2 ^ 63 := by
    rw [e]
    have e4 : (FP.dneg (FP.f2d (UInt32.ofNat (n - 2 ^ 31)))).toNat = (FP.f2d (UInt32.ofNat (n - 2 ^ 31))).toNat ^^^ 2 ^ 63 := by
      unfold FP.dneg
      rw [UInt64.toNat_xor]
      rfl
    rw [e4, nat_xor (by omega)]
    omega
  have hb : 2 ^ 63 ≤ (FP.f2d (UInt32.ofNat n)).toNat := by rw [e3]; exact Nat.le_add_left _ _
  refine ⟨?_, hb⟩
  apply UInt64.toNat.inj
  rw [dneg_big hb, e3, Nat.add_sub_cancel]
theorem f2d_pos_n {n : Nat} (h1 : n ≤ 2139095040) : ¬ 2 ^ 63 ≤ (FP.f2d (UInt32.ofNat n)).toNat := by
  rcases Nat.lt_or_ge n 2139095040 with q | q
  · have := (f2d_nat q).1; omega
  · rw [show n = 2139095040 by omega, show UInt32.ofNat 2139095040 = 2139095040 from rfl, f2d_inf]; decide
theorem nn32 {n : Nat} (hn : n < 2 ^ 32) (h1 : n % 2 ^ 31 ≤ 2139095040) : FP.Core.val32 (UInt32.ofNat n) ≠ .nan := by
  have e : (UInt32.ofNat n).toNat = n := by rw [UInt32.toNat_ofNat']; exact Nat.mod_eq_of_lt hn
  rw [FP.Core.ne_nan32, e]
  exact h1
theorem f2d_sgn {n : Nat} (hn : n < 2 ^ 32) (h1 : n % 2 ^ 31 ≤ 2139095040) : 2 ^ 63 ≤ (FP.f2d (UInt32.ofNat n)).toNat ↔ 2 ^ 31 ≤ n := by
  constructor
  · intro h
    rcases Nat.lt_or_ge n (2 ^ 31) with q | q
    · exact absurd h (f2d_pos_n (by omega))
    · exact q
  · intro h
    exact (f2d_neg_n hn h1 h).2
