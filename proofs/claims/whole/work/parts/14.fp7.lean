/-! what is left of one double by another -/
theorem zm {x : UInt64} (h : FP.Core.val64 x ≠ .nan) : FP.Core.zmag FP.Core.b64 (FP.Core.val64 x) = stp 52 (x.toNat % 2 ^ 63) * 2 ^ pwr 52 (x.toNat % 2 ^ 63) := by
  rw [FP.Core.zmag_bits h, units1]
theorem drem_low {x y : UInt64} (hx : FP.Core.DFin x) (hy : FP.Core.val64 y ≠ .nan) (hz : ¬ FP.Core.DZero y) (h : FP.Core.zmag FP.Core.b64 (FP.Core.val64 x) < FP.Core.zmag FP.Core.b64 (FP.Core.val64 y)) : x = FP.drem x y := by
  obtain ⟨h1, h2, h3⟩ := FP.Core.drem_zval hx hy hz
  rw [Nat.mod_eq_of_lt h] at h3
  exact (dz_inj h1 hx.ne_nan h2 h3).symm
theorem zpos {y : UInt64} (hy : FP.Core.val64 y ≠ .nan) (hz : ¬ FP.Core.DZero y) : 0 < FP.Core.zmag FP.Core.b64 (FP.Core.val64 y) := by
  rw [FP.Core.zmag_bits hy]
  rw [FP.Core.zero_bits2] at hz
  have := FP.Core.unitsOf_lt (f := FP.Core.b64) (m := 0) (k := y.toNat % 2 ^ 63) (by omega)
  rw [FP.Core.unitsOf_zero] at this
  exact this
theorem drem_zero {x y : UInt64} (hx : FP.Core.DFin x) (hy : FP.Core.val64 y ≠ .nan) (hz : ¬ FP.Core.DZero y) (h : x.toNat % 2 ^ 63 = 0) : x = FP.drem x y := by
  refine drem_low hx hy hz ?_
  rw [FP.Core.zmag_bits hx.ne_nan, h, FP.Core.unitsOf_zero]
  exact zpos hy hz
theorem drem_inf {x y : UInt64} (hx : FP.Core.DFin x) (hy : FP.Core.val64 y ≠ .nan) (hz : ¬ FP.Core.DZero y) (h : y.toNat % 2 ^ 63 = 9218868437227405312) : x = FP.drem x y := by
  refine drem_low hx hy hz ?_
  rw [FP.Core.zmag_bits hx.ne_nan, FP.Core.zmag_bits hy, h]
  exact FP.Core.unitsOf_lt ((FP.Core.fin_bits x).mp hx)
theorem drem_less {x y : UInt64} (hx : FP.Core.DFin x) (hy : FP.Core.val64 y ≠ .nan) (hz : ¬ FP.Core.DZero y) (h : pwr 52 (x.toNat % 2 ^ 63) < pwr 52 (y.toNat % 2 ^ 63)) : x = FP.drem x y := by
  refine drem_low hx hy hz ?_
  rw [zm hx.ne_nan, zm hy]
  generalize x.toNat % 2 ^ 63 = a at h ⊢
  generalize y.toNat % 2 ^ 63 = b at h ⊢
  have h1 : stp 52 a < 2 ^ 53 := stp_lt
  have h2 : 2 ^ 52 ≤ stp 52 b := by
    have : ¬ b < 2 ^ 52 := fun q => by unfold pwr at h; omega
    rw [show stp 52 b = 2 ^ 52 + b % 2 ^ 52 from if_neg this]
    omega
  calc stp 52 a * 2 ^ pwr 52 a < 2 ^ 53 * 2 ^ pwr 52 a := Nat.mul_lt_mul_of_pos_right h1 (Nat.two_pow_pos _)
    _ = 2 ^ 52 * 2 ^ (pwr 52 a + 1) := by rw [← Nat.pow_add, ← Nat.pow_add]; congr 1; omega
    _ ≤ 2 ^ 52 * 2 ^ pwr 52 b := Nat.mul_le_mul_left _ (Nat.pow_le_pow_right (by decide) (by omega))
    _ ≤ stp 52 b * 2 ^ pwr 52 b := Nat.mul_le_mul_right _ h2
/-- the loop: l times 2^(what is left of the shift), by d, is T -/
def iv_left (d T : Nat) (x : Nat × Int32) : Prop := x.1 < d ∧ x.1 * 2 ^ x.2.toInt.toNat % d = T ∧ -10 ≤ x.2.toInt ∧ x.2.toInt ≤ 2100
def mm (sh : Int32) : Nat := if 10 < sh.toInt then 10 else sh.toInt.toNat
theorem mm_v {sh : Int32} (h0 : 0 < sh.toInt) : (if (10 : Int32) < sh then 10 else sh) = nI (mm sh) ∧ mm sh ≤ 10 ∧ mm sh ≤ sh.toInt.toNat := by
  unfold mm
  have h10 : (10 : Int32).toInt = 10 := by decide
  by_cases h : (10 : Int32) < sh
  · rw [if_pos h]
    rw [fa_lt, h10] at h
    rw [if_pos h]
    exact ⟨rfl, by decide, by omega⟩
  · rw [if_neg h]
    rw [fa_lt, h10] at h
    rw [if_neg h]
    refine ⟨?_, by omega, Nat.le_refl _⟩
    rw [fa_eq, nI_toInt (by omega)]
    omega
theorem lf_shl {l : Nat} {sh v : Int32} (h0 : 0 < sh.toInt) (hv : v = if (10 : Int32) < sh then 10 else sh) : lN l <<< (v.toInt64 &&& 63) = lN (l * 2 ^ mm sh) := by
  obtain ⟨e, h1, -⟩ := mm_v h0
  rw [hv, e]
  exact wb_shl l (by omega)
theorem lf_lt {l d : Nat} {sh : Int32} (h0 : 0 < sh.toInt) (hl : l < d) (hd : d < 2 ^ 53) : l * 2 ^ mm sh < 2 ^ 63 := by
  obtain ⟨-, h1, -⟩ := mm_v h0
  have h2 : 2 ^ mm sh ≤ 2 ^ 10 := Nat.pow_le_pow_right (by decide) h1
  calc l * 2 ^ mm sh ≤ l * 2 ^ 10 := Nat.mul_le_mul_left _ h2
    _ < 2 ^ 63 := by omega
theorem lf_next {l d T : Nat} {sh sh' : Int32} (hd : 0 < d) (h : iv_left d T (l, sh)) (h0 : 0 < sh.toInt) (hs : sh' = sh + (-10)) : iv_left d T (l * 2 ^ mm sh % d, sh') := by
  obtain ⟨h1, h2, h3, h4⟩ := h
  dsimp only at h1 h2 h3 h4
  obtain ⟨-, m1, m2⟩ := mm_v h0
  have hm : (-10 : Int32).toInt = -10 := by decide
  have hs2 : sh'.toInt = sh.toInt - 10 := by
    rw [hs, fb_addI (by rw [hm]; omega) (by rw [hm]; omega), hm]
    omega
  refine ⟨Nat.mod_lt _ hd, ?_, by show -10 ≤ sh'.toInt; omega, by show sh'.toInt ≤ 2100; omega⟩
  show l * 2 ^ mm sh % d * 2 ^ sh'.toInt.toNat % d = T
  rw [← h2, Nat.mod_mul_mod, Nat.mul_assoc, ← Nat.pow_add]
  congr 3
  rw [hs2]
  unfold mm
  split <;> omega
theorem lf_less {sh sh' : Int32} (h0 : 0 < sh.toInt) (h3 : -10 ≤ sh.toInt) (h4 : sh.toInt ≤ 2100) (hs : sh' = sh + (-10)) : sh'.toInt.toNat < sh.toInt.toNat := by
  have hm : (-10 : Int32).toInt = -10 := by decide
  rw [hs, fb_addI (by rw [hm]; omega) (by rw [hm]; omega), hm]
  omega
theorem lf_end1 {l d T : Nat} {sh : Int32} (h : iv_left d T (l, sh)) (h0 : sh.toInt ≤ 0) : l = T := by
  obtain ⟨h1, h2, -, -⟩ := h
  dsimp only at h1 h2
  rw [show sh.toInt.toNat = 0 by omega, Nat.pow_zero, Nat.mul_one, Nat.mod_eq_of_lt h1] at h2
  exact h2
theorem lf_end2 {l d T : Nat} {sh : Int32} (h : iv_left d T (l, sh)) (h0 : l = 0) : l = T := by
  obtain ⟨h1, h2, -, -⟩ := h
  dsimp only at h1 h2
  rw [h0, Nat.zero_mul, Nat.zero_mod] at h2
  omega
/-- the end: the product, and its sign -/
theorem lf_size {a b l : Nat} {p : UInt64} (hb : b < 9218868437227405312) (hl : l < stp 52 b) (hp : Pz p (2 ^ ((pwr 52 b : Int) - 1074 + 1074).toNat)) : Pz (FP.dmul (FP.l2d (lN l)) p) (l * 2 ^ pwr 52 b) := by
  have hs : stp 52 b < 2 ^ 53 := stp_lt
  have h1 := Pz.l2d (v := lN l) (n := l) (pk_lT (by omega)) (by omega)
  obtain ⟨z, hz⟩ := Pz.mk l (pwr 52 b) (by omega) (pwr1_le hb)
  rw [Pz.mul h1 hp hz (by rw [show ((pwr 52 b : Int) - 1074 + 1074).toNat = pwr 52 b by omega, Nat.mul_assoc, Nat.mul_comm (2 ^ 1074), ← Nat.mul_assoc])]
  exact hz
theorem lf_zm {x y : UInt64} (hx : FP.Core.val64 x ≠ .nan) (hy : FP.Core.val64 y ≠ .nan) (hp : pwr 52 (y.toNat % 2 ^ 63) ≤ pwr 52 (x.toNat % 2 ^ 63)) : FP.Core.zmag FP.Core.b64 (FP.Core.val64 x) % FP.Core.zmag FP.Core.b64 (FP.Core.val64 y) = stp 52 (x.toNat % 2 ^ 63) * 2 ^ (pwr 52 (x.toNat % 2 ^ 63) - pwr 52 (y.toNat % 2 ^ 63)) % stp 52 (y.toNat % 2 ^ 63) * 2 ^ pwr 52 (y.toNat % 2 ^ 63) := by
  rw [zm hx, zm hy, ← Nat.mul_mod_mul_right, Nat.mul_assoc, ← Nat.pow_add]
  congr 3
  congr 1
  omega
theorem lf_pos {x y s : UInt64} {T : Nat} (hx : FP.Core.DFin x) (hy : FP.Core.val64 y ≠ .nan) (hz : ¬ FP.Core.DZero y) (hT : FP.Core.zmag FP.Core.b64 (FP.Core.val64 x) % FP.Core.zmag FP.Core.b64 (FP.Core.val64 y) = T) (hs : Pz s T) (hx0 : ¬ 2 ^ 63 ≤ x.toNat) : s = FP.drem x y := by
  obtain ⟨h1, h2, h3⟩ := FP.Core.drem_zval hx hy hz
  obtain ⟨s1, s2⟩ := hs.sz
  refine dz_inj hs.ne h1 ?_ ?_
  · rw [s1, h2, FP.Core.sgn_bits hx.ne_nan]
    exact (decide_eq_false hx0).symm
  · rw [s2, h3, hT]
theorem lf_neg {x y s : UInt64} {T : Nat} (hx : FP.Core.DFin x) (hy : FP.Core.val64 y ≠ .nan) (hz : ¬ FP.Core.DZero y) (hT : FP.Core.zmag FP.Core.b64 (FP.Core.val64 x) % FP.Core.zmag FP.Core.b64 (FP.Core.val64 y) = T) (hs : Pz s T) (hx0 : 2 ^ 63 ≤ x.toNat) : FP.dneg s = FP.drem x y := by
  obtain ⟨h1, h2, h3⟩ := FP.Core.drem_zval hx hy hz
  obtain ⟨s1, s2⟩ := hs.sz
  obtain ⟨n1, n2⟩ := dneg_sz hs.ne
  refine dz_inj (dneg_ne hs.ne) h1 ?_ ?_
  · rw [n1, s1, h2, FP.Core.sgn_bits hx.ne_nan]
    exact (decide_eq_true hx0).symm
  · rw [n2, s2, h3, hT]
/-- the size without its sign -/
theorem ab_pos {x : UInt64} (hn : FP.Core.val64 x ≠ .nan) (hc : 0 ≤ Op.cmpValue (FP.dcmp x FP.dconst0) CmpOp.g) (h0 : ¬ x.toNat % 2 ^ 63 = 0) : ¬ 2 ^ 63 ≤ x.toNat := by
  have hlt := UInt64.toNat_lt x
  rw [cmp0 hn, cv_ge] at hc
  unfold FP.Core.dkey at hc
  intro q
  rw [if_pos q] at hc
  omega
theorem ab_neg {x : UInt64} (hn : FP.Core.val64 x ≠ .nan) (hc : ¬ 0 ≤ Op.cmpValue (FP.dcmp x FP.dconst0) CmpOp.g) : 2 ^ 63 ≤ x.toNat := by
  rw [cmp0 hn, cv_ge] at hc
  exact dk_neg (by omega)
theorem z_iff {x : UInt64} (hn : FP.Core.val64 x ≠ .nan) {op : CmpOp} : Op.cmpValue (FP.dcmp x FP.dconst0) op = 0 ↔ x.toNat % 2 ^ 63 = 0 := by
  have hlt := UInt64.toNat_lt x
  rw [cmp0 hn, cv_eq]
  unfold FP.Core.dkey
  split <;> omega
