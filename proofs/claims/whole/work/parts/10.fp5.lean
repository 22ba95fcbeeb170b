/-! comparisons, and the search for the exponent -/
theorem cv_gt (a b : Int) (op : CmpOp) : 0 < Op.cmpValue (some (compare a b)) op ↔ b < a := by
  rw [FP.Core.compare_ite]
  split
  · rename_i h
    constructor
    · intro q; cases op <;> exact absurd q (by decide)
    · intro q; omega
  · split
    · rename_i h1 h2
      constructor
      · intro q; cases op <;> exact absurd q (by decide)
      · intro q; omega
    · constructor
      · intro q; omega
      · intro q; cases op <;> decide
theorem cv_lt (a b : Int) (op : CmpOp) : Op.cmpValue (some (compare a b)) op < 0 ↔ a < b := by
  rw [FP.Core.compare_ite]
  split
  · rename_i h
    constructor
    · intro q; exact h
    · intro q; cases op <;> decide
  · split
    · rename_i h1 h2
      constructor
      · intro q; cases op <;> exact absurd q (by decide)
      · intro q; omega
    · constructor
      · intro q; cases op <;> exact absurd q (by decide)
      · intro q; omega
theorem cv_eq (a b : Int) (op : CmpOp) : Op.cmpValue (some (compare a b)) op = 0 ↔ a = b := by
  rw [FP.Core.compare_ite]
  split
  · rename_i h
    constructor
    · intro q; cases op <;> exact absurd q (by decide)
    · intro q; omega
  · split
    · rename_i h1 h2
      constructor
      · intro q; exact h2
      · intro q; cases op <;> decide
    · constructor
      · intro q; cases op <;> exact absurd q (by decide)
      · intro q; omega
theorem cv_ge (a b : Int) (op : CmpOp) : 0 ≤ Op.cmpValue (some (compare a b)) op ↔ b ≤ a := by
  have h := cv_lt a b op
  generalize Op.cmpValue (some (compare a b)) op = v at h ⊢
  rw [fa_lt] at h
  rw [fa_le]
  have h0 : (0 : Int32).toInt = 0 := by decide
  omega
theorem cv_le (a b : Int) (op : CmpOp) : Op.cmpValue (some (compare a b)) op ≤ 0 ↔ a ≤ b := by
  have h := cv_gt a b op
  generalize Op.cmpValue (some (compare a b)) op = v at h ⊢
  rw [fa_lt] at h
  rw [fa_le]
  have h0 : (0 : Int32).toInt = 0 := by decide
  omega
theorem dcmpk {a b : UInt64} (ha : FP.Core.val64 a ≠ .nan) (hb : FP.Core.val64 b ≠ .nan) : FP.dcmp a b = some (compare (FP.Core.dkey a) (FP.Core.dkey b)) := FP.Core.dcmp_key ha hb
/-- endless: by the bits -/
theorem endl {x : UInt64} (hn : FP.Core.val64 x ≠ .nan) : q_isEndless x = if x.toNat % 2 ^ 63 = 9218868437227405312 then 1 else 0 := by
  have hlt := UInt64.toNat_lt x
  have hb := (FP.Core.ne_nan x).mp hn
  have hm : FP.Core.val64 9218868437227405311 ≠ .nan := by decide +kernel
  have hm2 : FP.Core.val64 (FP.dneg 9218868437227405311) ≠ .nan := by decide +kernel
  unfold q_isEndless
  rw [dcmpk hn hm, dcmpk hn hm2]
  have k1 : FP.Core.dkey 9218868437227405311 = 9218868437227405311 := by decide +kernel
  have k2 : FP.Core.dkey (FP.dneg 9218868437227405311) = -9218868437227405311 := by decide +kernel
  rw [k1, k2]
  simp only [cv_gt, cv_ge]
  unfold FP.Core.dkey
  by_cases h1 : 2 ^ 63 ≤ x.toNat
  · rw [if_pos h1]
    by_cases h2 : x.toNat % 2 ^ 63 = 9218868437227405312
    · rw [if_pos h2, if_neg (by omega), if_neg (by omega)]
    · rw [if_neg h2, if_neg (by omega), if_pos (by omega)]
  · rw [if_neg h1]
    by_cases h2 : x.toNat % 2 ^ 63 = 9218868437227405312
    · rw [if_pos h2, if_pos (by omega)]
    · rw [if_neg h2, if_neg (by omega), if_pos (by omega)]
/-- times a power of two -/
theorem mulP {x p : UInt64} {c g j : Nat} (hx : Pz x (c * 2 ^ g)) (hc : c < 2 ^ 53) (hp : Pz p (2 ^ (j + 1074))) (hj : g + j ≤ 2045) : Pz (FP.dmul x p) (c * 2 ^ (g + j)) := by
  obtain ⟨z, hz⟩ := Pz.mk c (g + j) hc hj
  rw [Pz.mul hx hp hz (by rw [Nat.pow_add, Nat.pow_add, Nat.mul_assoc, Nat.mul_assoc, Nat.mul_assoc])]
  exact hz
theorem divP {x p : UInt64} {c g j : Nat} (hx : Pz x (c * 2 ^ g)) (hc : c < 2 ^ 53) (hp : Pz p (2 ^ (j + 1074))) (hj : j ≤ g) (hg : g ≤ 2045) : Pz (FP.ddiv x p) (c * 2 ^ (g - j)) := by
  obtain ⟨z, hz⟩ := Pz.mk c (g - j) hc (by omega)
  rw [Pz.div hx hp hz (Nat.ne_of_gt (Nat.two_pow_pos _)) (by rw [Nat.mul_assoc, Nat.mul_assoc, ← Nat.pow_add, ← Nat.pow_add, show g - j + (j + 1074) = g + 1074 by omega])]
  exact hz
/-- c, of 53 digits, times 2^g against 2^t -/
theorem c_ge {c g t : Nat} (h1 : 2 ^ 52 ≤ c) (h2 : c < 2 ^ 53) : 2 ^ t ≤ c * 2 ^ g ↔ t ≤ g + 52 := by
  constructor
  · intro h
    have : 2 ^ t < 2 ^ (53 + g) := by
      rw [Nat.pow_add]
      exact Nat.lt_of_le_of_lt h (Nat.mul_lt_mul_of_pos_right h2 (Nat.two_pow_pos g))
    have := (Nat.pow_lt_pow_iff_right (by decide : 1 < 2)).mp this
    omega
  · intro h
    calc 2 ^ t ≤ 2 ^ (52 + g) := Nat.pow_le_pow_right (by decide) (by omega)
      _ = 2 ^ 52 * 2 ^ g := Nat.pow_add _ _ _
      _ ≤ c * 2 ^ g := Nat.mul_le_mul_right _ h1
def iv_sz (c g0 : Nat) (x : Nat × Nat × UInt64 × Int32 × Int32) : Prop := Pz x.2.2.1 (c * 2 ^ x.1) ∧ x.2.2.2.1.toInt = (g0 : Int) - (x.1 : Int) ∧ x.2.2.2.2 = nI (2 ^ x.2.1 / 2) ∧ x.2.1 ≤ 10 ∧ 1023 ≤ x.1 + 2 ^ x.2.1 ∧ x.1 < 1022 + 2 ^ x.2.1 ∧ x.1 ≤ 2045
theorem sz_init {c g0 : Nat} {x : UInt64} (hx : Pz x (c * 2 ^ g0)) (hg : g0 ≤ 2045) : iv_sz c g0 (g0, 10, x, 0, 512) := by
  refine ⟨hx, ?_, (by show (512 : Int32) = nI (2 ^ 10 / 2); decide), Nat.le_refl _, ?_, ?_, hg⟩
  · show (0 : Int32).toInt = _
    have : (0 : Int32).toInt = 0 := by decide
    omega
  · show 1023 ≤ g0 + 2 ^ 10
    omega
  · show g0 < 1022 + 2 ^ 10
    omega
theorem p2s {u : Nat} (h : u ≠ 0) : 2 ^ u / 2 = 2 ^ (u - 1) ∧ 2 ^ u = 2 * 2 ^ (u - 1) := by
  obtain ⟨v, rfl⟩ : ∃ v, u = v + 1 := ⟨u - 1, by omega⟩
  rw [Nat.add_sub_cancel, Nat.pow_succ]
  omega
theorem p2b {u : Nat} (h : u ≤ 10) : 2 ^ u ≤ 1024 := Nat.pow_le_pow_right (by decide) h
theorem sz_u0 {u : Nat} (h : u ≤ 10) (hc : nI (2 ^ u / 2) ≤ 0) : u = 0 := by
  have hb := p2b h
  rcases Nat.eq_zero_or_pos u with q | q
  · exact q
  · have := p2s (u := u) (by omega)
    have hp := Nat.two_pow_pos (u - 1)
    rw [fa_le, nI_toInt (by omega)] at hc
    have h0 : (0 : Int32).toInt = 0 := by decide
    omega
theorem sz_u1 {u : Nat} (hc : ¬ nI (2 ^ u / 2) ≤ 0) : u ≠ 0 := fun q => hc (by subst q; decide)
theorem sz_t {u : Nat} (h : u ≤ 10) (h0 : u ≠ 0) : (nI (2 ^ u / 2)).toInt = ((2 ^ (u - 1) : Nat) : Int) ∧ 2 ^ (u - 1) ≤ 512 := by
  have hb := p2b h
  have hs := p2s h0
  rw [hs.1]
  exact ⟨nI_toInt (by omega), by omega⟩
theorem sz_shr {u : Nat} (h : u ≤ 10) (h0 : u ≠ 0) : nI (2 ^ u / 2) >>> ((1 : Int32) &&& 31) = nI (2 ^ (u - 1) / 2) := by
  have hb := p2b h
  rw [(p2s h0).1, pk_shrN (by have := (p2s h0).2; omega) _ 1 (by decide)]
theorem sz_pw {s : Nat} {p : UInt64} (hp : Pz p (2 ^ (((s : Nat) : Int) + 1074).toNat)) : Pz p (2 ^ (s + 1074)) := by
  rw [show (((s : Nat) : Int) + 1074).toNat = s + 1074 by omega] at hp
  exact hp
theorem sz_div {c g0 g u : Nat} {S p : UInt64} {w t w' : Int32} (hc1 : 2 ^ 52 ≤ c) (hc2 : c < 2 ^ 53) (h : iv_sz c g0 (g, u, S, w, t)) (h0 : u ≠ 0) (hp : Pz p (2 ^ (2 ^ (u - 1) + 1074))) (hge : 2 ^ (u - 1) + 1074 ≤ g + 52) (hg0 : g0 ≤ 2045) (hw : w' = w + t) : iv_sz c g0 (g - 2 ^ (u - 1), u - 1, FP.ddiv S p, w', nI (2 ^ (u - 1) / 2)) := by
  obtain ⟨hS, hW, hT, hu, hl, hr, hg⟩ := h
  dsimp only at hS hW hT hu hl hr hg
  obtain ⟨ht, hb⟩ := sz_t hu h0
  have hs := p2s h0
  refine ⟨divP hS hc2 hp (by omega) hg, ?_, rfl, by show u - 1 ≤ 10; omega, by show 1023 ≤ g - 2 ^ (u - 1) + 2 ^ (u - 1); omega, by show g - 2 ^ (u - 1) < 1022 + 2 ^ (u - 1); omega, by show g - 2 ^ (u - 1) ≤ 2045; omega⟩
  show w'.toInt = (g0 : Int) - ((g - 2 ^ (u - 1) : Nat) : Int)
  rw [hw, hT, fb_addI (by rw [hW, ht]; omega) (by rw [hW, ht]; omega), hW, ht]
  omega
theorem sz_mul {c g0 g u : Nat} {S p : UInt64} {w t w' : Int32} (hc1 : 2 ^ 52 ≤ c) (hc2 : c < 2 ^ 53) (h : iv_sz c g0 (g, u, S, w, t)) (h0 : u ≠ 0) (hp : Pz p (2 ^ (2 ^ (u - 1) + 1074))) (hlt : g + 2 ^ (u - 1) + 52 < 1075) (hg0 : g0 ≤ 2045) (hw : w' = w - t) : iv_sz c g0 (g + 2 ^ (u - 1), u - 1, FP.dmul S p, w', nI (2 ^ (u - 1) / 2)) := by
  obtain ⟨hS, hW, hT, hu, hl, hr, hg⟩ := h
  dsimp only at hS hW hT hu hl hr hg
  obtain ⟨ht, hb⟩ := sz_t hu h0
  have hs := p2s h0
  refine ⟨mulP hS hc2 hp (by omega), ?_, rfl, by show u - 1 ≤ 10; omega, by show 1023 ≤ g + 2 ^ (u - 1) + 2 ^ (u - 1); omega, by show g + 2 ^ (u - 1) < 1022 + 2 ^ (u - 1); have := Nat.two_pow_pos (u - 1); omega, by show g + 2 ^ (u - 1) ≤ 2045; omega⟩
  show w'.toInt = (g0 : Int) - ((g + 2 ^ (u - 1) : Nat) : Int)
  rw [hw, hT, fb_subI (by rw [hW, ht]; omega) (by rw [hW, ht]; omega), hW, ht]
  omega
theorem sz_no {c g0 g u : Nat} {S : UInt64} {w t : Int32} (h : iv_sz c g0 (g, u, S, w, t)) (h0 : u ≠ 0) (h1 : ¬ 2 ^ (u - 1) + 1074 ≤ g + 52) (h2 : 1075 ≤ g + 2 ^ (u - 1) + 52) : iv_sz c g0 (g, u - 1, S, w, nI (2 ^ (u - 1) / 2)) := by
  obtain ⟨hS, hW, hT, hu, hl, hr, hg⟩ := h
  dsimp only at hS hW hT hu hl hr hg
  exact ⟨hS, hW, rfl, by show u - 1 ≤ 10; omega, by show 1023 ≤ g + 2 ^ (u - 1); omega, by show g < 1022 + 2 ^ (u - 1); omega, hg⟩
theorem sz_prod {c g0 g u : Nat} {S p : UInt64} {w t : Int32} (hc2 : c < 2 ^ 53) (h : iv_sz c g0 (g, u, S, w, t)) (h0 : u ≠ 0) (hp : Pz p (2 ^ (2 ^ (u - 1) + 1074))) (h1 : ¬ 2 ^ (u - 1) + 1074 ≤ g + 52) : Pz (FP.dmul S p) (c * 2 ^ (g + 2 ^ (u - 1))) := by
  obtain ⟨hS, hW, hT, hu, hl, hr, hg⟩ := h
  dsimp only at hS hW hT hu hl hr hg
  obtain ⟨ht, hb⟩ := sz_t hu h0
  exact mulP hS hc2 hp (by omega)
theorem sz_cmp {c g j : Nat} {S p : UInt64} {op : CmpOp} (hc1 : 2 ^ 52 ≤ c) (hc2 : c < 2 ^ 53) (hS : Pz S (c * 2 ^ g)) (hp : Pz p (2 ^ j)) : (Op.cmpValue (FP.dcmp S p) op < 0 ↔ ¬ j ≤ g + 52) ∧ (0 ≤ Op.cmpValue (FP.dcmp S p) op ↔ j ≤ g + 52) := by
  rw [hS.cmp hp, cv_lt, cv_ge, ← c_ge hc1 hc2 (t := j) (g := g)]
  omega

/-- small numbers: two products, and the whole number -/
theorem sub_mul {k a b : Nat} {x p q : UInt64} (hk : k < 2 ^ 53) (hab : a + b ≤ 1074) (hx : Pz x (k * 2 ^ (1074 - (a + b)))) (hp : Pz p (2 ^ (a + 1074))) (hq : Pz q (2 ^ (b + 1074))) : FP.Core.val64 (FP.dmul x p) ≠ .nan ∧ FP.Core.val64 (FP.dmul (FP.dmul x p) q) ≠ .nan ∧ FP.d2l (FP.dmul (FP.dmul x p) q) = lN k := by
  have h1 := mulP hx hk hp (by omega)
  have h2 := mulP h1 hk hq (by omega)
  rw [show 1074 - (a + b) + a + b = 1074 by omega] at h2
  refine ⟨h1.ne, h2.ne, ?_⟩
  have hd : k * 2 ^ 1074 / 2 ^ 1074 = k := Nat.mul_div_cancel _ (Nat.two_pow_pos _)
  have h3 := h2.d2l (by rw [hd]; omega)
  rw [hd] at h3
  rw [fa_eq64, h3, pk_lT (by omega)]
theorem sub1 {k : Nat} {x p q : UInt64} (hk : k < 2 ^ 52) (hx : Pz x (stp 52 k * 2 ^ pwr 52 k)) (hp : Pz p (2 ^ ((537 : Int) + 1074).toNat)) (hq : Pz q (2 ^ ((537 : Int) + 1074).toNat)) : FP.Core.val64 (FP.dmul x p) ≠ .nan ∧ FP.Core.val64 (FP.dmul (FP.dmul x p) q) ≠ .nan ∧ FP.d2l (FP.dmul (FP.dmul x p) q) = lN k := by
  refine sub_mul (a := 537) (b := 537) (by omega) (by decide) ?_ hp hq
  have h1 : stp 52 k = k := if_pos hk
  have h2 : pwr 52 k = 0 := by unfold pwr; omega
  rw [h1, h2] at hx
  exact hx
theorem sub0 {k : Nat} {x p q : UInt64} (hk : k < 2 ^ 23) (hx : Pz x (stp 23 k * 2 ^ pwr 23 k * 2 ^ 925)) (hp : Pz p (2 ^ ((74 : Int) + 1074).toNat)) (hq : Pz q (2 ^ ((75 : Int) + 1074).toNat)) : FP.Core.val64 (FP.dmul x p) ≠ .nan ∧ FP.Core.val64 (FP.dmul (FP.dmul x p) q) ≠ .nan ∧ FP.d2l (FP.dmul (FP.dmul x p) q) = lN k := by
  refine sub_mul (a := 74) (b := 75) (by omega) (by decide) ?_ hp hq
  have h1 : stp 23 k = k := if_pos hk
  have h2 : pwr 23 k = 0 := by unfold pwr; omega
  rw [h1, h2, Nat.pow_zero, Nat.mul_one] at hx
  exact hx
theorem low1 {k : Nat} {x p : UInt64} {op : CmpOp} (hx : Pz x (stp 52 k * 2 ^ pwr 52 k)) (hp : Pz p (2 ^ ((-1022 : Int) + 1074).toNat)) : 0 ≤ Op.cmpValue (FP.dcmp x p) op ↔ 2 ^ 52 ≤ k := by
  have h := FP.Core.unitsOf_le_iff (f := FP.Core.b64) (m := 2 ^ 52) (k := k)
  have e : FP.Core.unitsOf FP.Core.b64 (2 ^ 52) = 2 ^ 52 := by decide +kernel
  rw [units1 k, e] at h
  rw [hx.cmp hp, cv_ge, ← h]
  rw [show ((-1022 : Int) + 1074).toNat = 52 by decide]
  exact Int.ofNat_le
theorem low0 {k : Nat} {x p : UInt64} {op : CmpOp} (hx : Pz x (stp 23 k * 2 ^ pwr 23 k * 2 ^ 925)) (hp : Pz p (2 ^ ((-126 : Int) + 1074).toNat)) : 0 ≤ Op.cmpValue (FP.dcmp x p) op ↔ 2 ^ 23 ≤ k := by
  have h := FP.Core.unitsOf_le_iff (f := FP.Core.b32) (m := 2 ^ 23) (k := k)
  have e : FP.Core.unitsOf FP.Core.b32 (2 ^ 23) = 2 ^ 23 := by decide +kernel
  rw [units0 k, e] at h
  rw [hx.cmp hp, cv_ge, ← h]
  rw [show ((-126 : Int) + 1074).toNat = 23 + 925 by decide, Nat.pow_add, Int.ofNat_le]
  exact Nat.mul_le_mul_right_iff (Nat.two_pow_pos 925)
theorem nor1 {k : Nat} (h : ¬ k < 2 ^ 52) (hk : k < 9218868437227405312) : 2 ^ 52 ≤ stp 52 k ∧ stp 52 k < 2 ^ 53 ∧ pwr 52 k ≤ 2045 ∧ k = pwr 52 k * 2 ^ 52 + stp 52 k := by
  have h1 : stp 52 k = 2 ^ 52 + k % 2 ^ 52 := if_neg h
  rw [h1]
  unfold pwr
  omega
theorem nor0 {k : Nat} (h : ¬ k < 2 ^ 23) (hk : k < 2139095040) : 2 ^ 52 ≤ stp 23 k * 2 ^ 29 ∧ stp 23 k * 2 ^ 29 < 2 ^ 53 ∧ pwr 23 k ≤ 253 ∧ k = pwr 23 k * 2 ^ 23 + stp 23 k := by
  have h1 : stp 23 k = 2 ^ 23 + k % 2 ^ 23 := if_neg h
  rw [h1]
  unfold pwr
  omega
theorem nor0x {k : Nat} {x : UInt64} (hx : Pz x (stp 23 k * 2 ^ pwr 23 k * 2 ^ 925)) : Pz x (stp 23 k * 2 ^ 29 * 2 ^ (pwr 23 k + 896)) := by
  rw [Nat.mul_assoc, ← Nat.pow_add] at hx
  rw [Nat.mul_assoc, ← Nat.pow_add, show 29 + (pwr 23 k + 896) = pwr 23 k + 925 by omega]
  exact hx
theorem sz_last {c g0 g u : Nat} {S : UInt64} {w t : Int32} (h : iv_sz c g0 (g, u, S, w, t)) (h0 : u = 0) : Pz S (c * 2 ^ 1022) ∧ w.toInt = (g0 : Int) - 1022 := by
  obtain ⟨hS, hW, hT, hu, hl, hr, hg⟩ := h
  dsimp only at hS hW hT hu hl hr hg
  subst h0
  rw [Nat.pow_zero] at hl hr
  have : g = 1022 := by omega
  subst this
  exact ⟨hS, hW⟩
theorem end1 {k : Nat} {S p : UInt64} {w : Int32} (hk : k < 9218868437227405312) (hno : ¬ k < 2 ^ 52) (hS : Pz S (stp 52 k * 2 ^ 1022)) (hw : w.toInt = (pwr 52 k : Int) - 1022) (hp : Pz p (2 ^ ((52 : Int) + 1074).toNat)) : FP.Core.val64 (FP.dmul S p) ≠ .nan ∧ ((w - (-1022)).toInt64 <<< ((52 : Int32).toInt64 &&& 63)) + FP.d2l (FP.dmul S p) = lN k := by
  obtain ⟨h1, h2, h3, h4⟩ := nor1 hno hk
  have hm := mulP (j := 52) hS h2 hp (by decide)
  refine ⟨hm.ne, ?_⟩
  have hd : stp 52 k * 2 ^ 1074 / 2 ^ 1074 = stp 52 k := Nat.mul_div_cancel _ (Nat.two_pow_pos _)
  have hl := hm.d2l (by rw [hd]; omega)
  rw [hd] at hl
  have e1 : FP.d2l (FP.dmul S p) = lN (stp 52 k) := by rw [fa_eq64, hl, pk_lT (by omega)]
  have hi : (-1022 : Int32).toInt = -1022 := by decide
  have e2 : w - (-1022) = nI (pwr 52 k) := by rw [fa_eq, fb_subI (by rw [hw, hi]; omega) (by rw [hw, hi]; omega), hw, hi, nI_toInt (by omega)]; omega
  rw [e1, e2, nI_l (by omega)]
  rw [show lN (pwr 52 k) <<< ((52 : Int32).toInt64 &&& 63) = lN (pwr 52 k * 2 ^ 52) from wb_shl (k := 52) _ (by decide), lN_add, ← h4]
theorem end0 {k : Nat} {S p : UInt64} {w : Int32} (hk : k < 2139095040) (hno : ¬ k < 2 ^ 23) (hS : Pz S (stp 23 k * 2 ^ 29 * 2 ^ 1022)) (hw : w.toInt = ((pwr 23 k + 896 : Nat) : Int) - 1022) (hp : Pz p (2 ^ ((23 : Int) + 1074).toNat)) : FP.Core.val64 (FP.dmul S p) ≠ .nan ∧ ((w - (-126)).toInt64 <<< ((23 : Int32).toInt64 &&& 63)) + FP.d2l (FP.dmul S p) = lN k := by
  obtain ⟨h1, h2, h3, h4⟩ := nor0 hno hk
  have hm := mulP (j := 23) hS h2 hp (by decide)
  refine ⟨hm.ne, ?_⟩
  rw [Nat.mul_assoc, ← Nat.pow_add, show 29 + (1022 + 23) = 1074 by decide] at hm
  have hd : stp 23 k * 2 ^ 1074 / 2 ^ 1074 = stp 23 k := Nat.mul_div_cancel _ (Nat.two_pow_pos _)
  have hl := hm.d2l (by rw [hd]; omega)
  rw [hd] at hl
  have e1 : FP.d2l (FP.dmul S p) = lN (stp 23 k) := by rw [fa_eq64, hl, pk_lT (by omega)]
  have hi : (-126 : Int32).toInt = -126 := by decide
  have e2 : w - (-126) = nI (pwr 23 k) := by rw [fa_eq, fb_subI (by rw [hw, hi]; omega) (by rw [hw, hi]; omega), hw, hi, nI_toInt (by omega)]; omega
  rw [e1, e2, nI_l (by omega)]
  rw [show lN (pwr 23 k) <<< ((23 : Int32).toInt64 &&& 63) = lN (pwr 23 k * 2 ^ 23) from wb_shl (k := 23) _ (by decide), lN_add, ← h4]
/-- the floats that are held: their doubles by the bits -/
theorem f2d_bits {k : Nat} (h : k ≤ 2139095040) : (FP.f2d (UInt32.ofNat k)).toNat % 2 ^ 63 = 9218868437227405312 ↔ k = 2139095040 := by
  constructor
  · intro q
    rcases Nat.lt_or_ge k 2139095040 with hl | hl
    · have := (f2d_nat hl).1
      omega
    · omega
  · intro q
    subst q
    rw [show UInt32.ofNat 2139095040 = 2139095040 from rfl, f2d_inf]
    decide
