/-! powers of two by squaring -/
def ex (sg : Bool) (a : Nat) : Nat := if sg then 1074 - a else 1074 + a
theorem ex_add {sg : Bool} {a b : Nat} (h : a + b ≤ 1074) : 2 ^ ex sg a * 2 ^ ex sg b = 2 ^ ex sg (a + b) * 2 ^ 1074 := by
  rw [← Nat.pow_add, ← Nat.pow_add]
  congr 1
  unfold ex
  cases sg <;> simp <;> omega
theorem ex_le {sg : Bool} {a : Nat} (h : a ≤ 1023) : ex sg a ≤ 2097 := by unfold ex; cases sg <;> simp <;> omega
theorem ex_le' {a : Nat} : ex true a ≤ 2097 := by unfold ex; simp; omega
/-- at the loop's head: i steps done, k the power asked for -/
def iv_pow (sg : Bool) (k : Nat) (x : Nat × UInt64 × UInt64 × Int32) : Prop := x.2.2.2 = nI (k / 2 ^ x.1) ∧ Pz x.2.1 (2 ^ ex sg (k % 2 ^ x.1)) ∧ (k / 2 ^ x.1 ≠ 0 → Pz x.2.2.1 (2 ^ ex sg (2 ^ x.1)))
theorem pw_abs {n : Int32} {z : Int} (hz : n.toInt = z) (h1 : -1074 ≤ z) (h2 : z ≤ 1023) : (if 0 ≤ n then n else 0 - n) = nI z.natAbs := by
  have hk : (nI z.natAbs).toInt = (z.natAbs : Int) := nI_toInt (by omega)
  rw [fa_eq, hk]
  split
  · rename_i h
    rw [fa_le] at h
    have : (0 : Int32).toInt = 0 := by decide
    omega
  · rename_i h
    rw [fa_le] at h
    have h0 : (0 : Int32).toInt = 0 := by decide
    rw [fb_subI (by omega) (by omega)]
    omega
theorem pw_one : Pz FP.dconst1 (2 ^ 1074) := ⟨by decide, by decide +kernel⟩
theorem pw_half : Pz 4602678819172646912 (2 ^ ex true 1) := ⟨by decide, by decide +kernel⟩
theorem pw_two : Pz 4611686018427387904 (2 ^ ex false 1) := ⟨by decide, by decide +kernel⟩
theorem pw_init {n : Int32} {z : Int} {S : UInt64} (hS : Pz S (2 ^ ex (decide (z < 0)) 1)) : iv_pow (decide (z < 0)) z.natAbs (0, FP.dconst1, S, nI z.natAbs) := by
  refine ⟨by simp, ?_, fun _ => by simpa using hS⟩
  show Pz FP.dconst1 (2 ^ ex _ (z.natAbs % 2 ^ 0))
  rw [Nat.pow_zero, Nat.mod_one]
  have : ex (decide (z < 0)) 0 = 1074 := by unfold ex; cases decide (z < 0) <;> rfl
  rw [this]
  exact pw_one
/-- the numbers that occur: k fits its sign -/
def pwK (sg : Bool) (k : Nat) : Prop := k ≤ 1074 ∧ (sg = false → k ≤ 1023)
theorem pwK_ex {sg : Bool} {k a : Nat} (h : pwK sg k) (ha : a ≤ k) : ex sg a ≤ 2097 := by
  cases sg with
  | false => exact ex_le (by have := h.2 rfl; omega)
  | true => exact ex_le'
theorem pw_and {k i : Nat} (h : k ≤ 1074) : nI (k / 2 ^ i) &&& 1 = nI (k / 2 ^ i % 2) := by
  have : k / 2 ^ i ≤ k := Nat.div_le_self _ _
  have := pk_andN (n := k / 2 ^ i) (by omega) (m := 1) 1 (by decide)
  simpa using this
theorem pw_shr {k i : Nat} (h : k ≤ 1074) : nI (k / 2 ^ i) >>> ((1 : Int32) &&& 31) = nI (k / 2 ^ (i + 1)) := by
  have h1 : k / 2 ^ i ≤ k := Nat.div_le_self _ _
  rw [pk_shrN (by omega) _ 1 (by decide), Nat.div_div_eq_div_mul, ← Nat.pow_add]
theorem pw_zero {k i : Nat} (h : k ≤ 1074) (hc : nI (k / 2 ^ i) ≤ 0) : k / 2 ^ i = 0 := by
  have h1 : k / 2 ^ i ≤ k := Nat.div_le_self _ _
  rw [fa_le, nI_toInt (by omega)] at hc
  have h0 : (0 : Int32).toInt = 0 := by decide
  generalize k / 2 ^ i = t at hc h1 ⊢
  omega
theorem pw_pos {k i : Nat} (h : k ≤ 1074) (hc : ¬ nI (k / 2 ^ i) ≤ 0) : k / 2 ^ i ≠ 0 := fun q => hc (by rw [q]; decide)
theorem pw_bit {m : Nat} (h : ¬ nI (m % 2) = 0) : m % 2 = 1 := by
  have : m % 2 ≠ 0 := fun q => h (by rw [q]; rfl)
  omega
theorem pw_bit0 {m : Nat} (h : nI (m % 2) = 0) : m % 2 = 0 := by
  rcases Nat.mod_two_eq_zero_or_one m with q | q
  · exact q
  · rw [q] at h; exact absurd h (by decide)
theorem mod_two_pow_succ' (k i : Nat) : k % 2 ^ (i + 1) = k % 2 ^ i + 2 ^ i * (k / 2 ^ i % 2) := by
  rw [Nat.pow_succ, Nat.mod_mul]
/-- one step: the product is exact, and the square is no NaN -/
theorem pw_mulP {sg : Bool} {k i : Nat} {P S : UInt64} {f : Int32} (hk : pwK sg k) (h : iv_pow sg k (i, P, S, f)) (h0 : k / 2 ^ i ≠ 0) (hb : k / 2 ^ i % 2 = 1) : Pz (FP.dmul P S) (2 ^ ex sg (k % 2 ^ (i + 1))) := by
  obtain ⟨-, hP, hS⟩ := h
  have hS := hS h0
  have hm := mod_two_pow_succ' k i
  rw [hb, Nat.mul_one] at hm
  have hle : k % 2 ^ (i + 1) ≤ k := Nat.mod_le _ _
  obtain ⟨z, hz⟩ := Pz.two (ex sg (k % 2 ^ (i + 1))) (pwK_ex hk hle)
  have e := ex_add (sg := sg) (a := k % 2 ^ i) (b := 2 ^ i) (by rw [← hm]; have := hk.1; omega)
  rw [← hm] at e
  rw [Pz.mul hP hS hz e]
  exact hz
theorem pw_sq {sg : Bool} {k i : Nat} {P S : UInt64} {f : Int32} (hk : pwK sg k) (h : iv_pow sg k (i, P, S, f)) (h0 : k / 2 ^ i ≠ 0) : (k / 2 ^ (i + 1) ≠ 0 → Pz (FP.dmul S S) (2 ^ ex sg (2 ^ (i + 1)))) ∧ FP.Core.val64 (FP.dmul S S) ≠ .nan := by
  obtain ⟨-, hP, hS⟩ := h
  have hS : Pz S (2 ^ ex sg (2 ^ i)) := hS h0
  refine ⟨fun h1 => ?_, ?_⟩
  · have h2 : 2 ^ (i + 1) ≤ k := by
      rcases Nat.lt_or_ge k (2 ^ (i + 1)) with q | q
      · exact absurd (Nat.div_eq_of_lt q) h1
      · exact q
    obtain ⟨z, hz⟩ := Pz.two (ex sg (2 ^ (i + 1))) (pwK_ex hk h2)
    have e := ex_add (sg := sg) (a := 2 ^ i) (b := 2 ^ i) (by have := hk.1; rw [Nat.pow_succ] at h2; omega)
    rw [show 2 ^ i + 2 ^ i = 2 ^ (i + 1) by rw [Nat.pow_succ]; omega] at e
    rw [Pz.mul hS hS hz e]
    exact hz
  · exact (FP.Core.notNaN_iff _).mp (FP.Core.dmul_out hS.fin hS.fin)
theorem pw_next {sg : Bool} {k i : Nat} {P P' S : UInt64} {f : Int32} (hk : pwK sg k) (h : iv_pow sg k (i, P, S, f)) (h0 : k / 2 ^ i ≠ 0) (hP : Pz P' (2 ^ ex sg (k % 2 ^ (i + 1)))) : iv_pow sg k (i + 1, P', FP.dmul S S, nI (k / 2 ^ (i + 1))) :=
  ⟨rfl, hP, (pw_sq hk h h0).1⟩
theorem pw_keep {sg : Bool} {k i : Nat} {P S : UInt64} {f : Int32} (h : iv_pow sg k (i, P, S, f)) (hb : k / 2 ^ i % 2 = 0) : Pz P (2 ^ ex sg (k % 2 ^ (i + 1))) := by
  have hm := mod_two_pow_succ' k i
  rw [hb, Nat.mul_zero, Nat.add_zero] at hm
  rw [hm]
  exact h.2.1
theorem pw_less {k i : Nat} (h0 : k / 2 ^ i ≠ 0) : k / 2 ^ (i + 1) < k / 2 ^ i := by
  rw [Nat.pow_succ, ← Nat.div_div_eq_div_mul]
  generalize k / 2 ^ i = t at h0 ⊢
  omega
theorem pw_end {z : Int} {i : Nat} {P S : UInt64} {f : Int32} (h1 : -1074 ≤ z) (h : iv_pow (decide (z < 0)) z.natAbs (i, P, S, f)) (h0 : z.natAbs / 2 ^ i = 0) : Pz P (2 ^ (z + 1074).toNat) := by
  have hm : z.natAbs % 2 ^ i = z.natAbs := by
    have := Nat.div_add_mod z.natAbs (2 ^ i)
    rw [h0, Nat.mul_zero, Nat.zero_add] at this
    exact this
  have hP := h.2.1
  have hm2 : z.natAbs % 2 ^ ((i, P, S, f) : Nat × UInt64 × UInt64 × Int32).1 = z.natAbs := hm
  rw [hm2] at hP
  have : ex (decide (z < 0)) z.natAbs = (z + 1074).toNat := by
    unfold ex
    by_cases hz : z < 0
    · simp only [decide_eq_true hz, if_true]; omega
    · simp only [decide_eq_false hz]; simp; omega
  rw [← this]
  exact hP
