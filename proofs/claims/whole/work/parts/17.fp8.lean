/-! where no number would be made: by the bits -/
theorem inf_val {a : UInt64} (s : Bool) : FP.Core.val64 a = .inf s ↔ a.toNat % 2 ^ 63 = 9218868437227405312 ∧ (s = true ↔ 2 ^ 63 ≤ a.toNat) := by
  constructor
  · intro h
    have hs := FP.Core.sign_bits (a := a) (s := s) (Or.inr h)
    have hn : FP.Core.val64 a ≠ .nan := by rw [h]; exact FP.Core.Datum.noConfusion
    have h1 := (FP.Core.ne_nan a).mp hn
    have h2 : ¬ a.toNat % 2 ^ 63 < 9218868437227405312 := fun q => by
      obtain ⟨s1, c, q1, hv⟩ := (FP.Core.fin_bits a).mpr q
      rw [h] at hv
      cases hv
    refine ⟨by omega, ?_⟩
    have hb := FP.Core.sgn_bits hn
    rw [h] at hb
    simp only [FP.Core.sgn] at hb
    rw [hb]
    exact decide_eq_true_iff
  · intro ⟨h1, h2⟩
    have hm : FP.Core.mag FP.Core.b64 a.toNat = FP.Core.infBits FP.Core.b64 := by rw [FP.Core.mag_toNat64, FP.Core.infBits_b64]; exact h1
    have hd : FP.Core.val64 a = .inf (FP.Core.fieldS FP.Core.b64 a.toNat) := FP.Core.decode_inf hm
    have hn : FP.Core.val64 a ≠ .nan := by rw [hd]; exact FP.Core.Datum.noConfusion
    have hb := FP.Core.sgn_bits hn
    rw [hd] at hb ⊢
    simp only [FP.Core.sgn] at hb
    rw [hb]
    congr 1
    cases s with
    | true => exact decide_eq_true (h2.mp rfl)
    | false => exact decide_eq_false (fun q => Bool.noConfusion (h2.mpr q))
theorem inf_val32 {a : UInt32} (s : Bool) : FP.Core.val32 a = .inf s ↔ a.toNat % 2 ^ 31 = 2139095040 ∧ (s = true ↔ 2 ^ 31 ≤ a.toNat) := by
  constructor
  · intro h
    have hn : FP.Core.val32 a ≠ .nan := by rw [h]; exact FP.Core.Datum.noConfusion
    have h1 := (FP.Core.ne_nan32 a).mp hn
    have h2 : ¬ a.toNat % 2 ^ 31 < 2139095040 := fun q => by
      obtain ⟨s1, c, q1, hv⟩ := (FP.Core.fin_bits32 a).mpr q
      rw [h] at hv
      cases hv
    refine ⟨by omega, ?_⟩
    have hb := FP.Core.sgn_bits32 hn
    rw [h] at hb
    simp only [FP.Core.sgn] at hb
    rw [hb]
    exact decide_eq_true_iff
  · intro ⟨h1, h2⟩
    have hm : FP.Core.mag FP.Core.b32 a.toNat = FP.Core.infBits FP.Core.b32 := by rw [FP.Core.mag_toNat32, FP.Core.infBits_b32]; exact h1
    have hd : FP.Core.val32 a = .inf (FP.Core.fieldS FP.Core.b32 a.toNat) := FP.Core.decode_inf hm
    have hn : FP.Core.val32 a ≠ .nan := by rw [hd]; exact FP.Core.Datum.noConfusion
    have hb := FP.Core.sgn_bits32 hn
    rw [hd] at hb ⊢
    simp only [FP.Core.sgn] at hb
    rw [hb]
    congr 1
    cases s with
    | true => exact decide_eq_true (h2.mp rfl)
    | false => exact decide_eq_false (fun q => Bool.noConfusion (h2.mpr q))
theorem nan_add {a b : UInt64} (ha : FP.Core.val64 a ≠ .nan) (hb : FP.Core.val64 b ≠ .nan) : FP.Core.dIsNaN (FP.dadd a b) = true ↔ a.toNat % 2 ^ 63 = 9218868437227405312 ∧ b.toNat % 2 ^ 63 = 9218868437227405312 ∧ ¬ (2 ^ 63 ≤ a.toNat ↔ 2 ^ 63 ≤ b.toNat) := by
  rw [FP.Core.dadd_nan_iff]
  simp only [ha, hb, false_or, inf_val]
  constructor
  · rintro ⟨s, ⟨h1, h2⟩, h3, h4⟩
    refine ⟨h1, h3, fun q => ?_⟩
    cases s <;> simp_all <;> omega
  · rintro ⟨h1, h2, h3⟩
    by_cases q : 2 ^ 63 ≤ a.toNat
    · exact ⟨true, ⟨h1, by simp [q]⟩, h2, by have : ¬ 2 ^ 63 ≤ b.toNat := fun z => h3 ⟨fun _ => z, fun _ => q⟩; simp [this]⟩
    · exact ⟨false, ⟨h1, by simp [q]⟩, h2, by have : 2 ^ 63 ≤ b.toNat := Decidable.byContradiction (fun z => h3 ⟨fun y => absurd y q, fun y => absurd y z⟩); simp [this]⟩
theorem nan_sub {a b : UInt64} (ha : FP.Core.val64 a ≠ .nan) (hb : FP.Core.val64 b ≠ .nan) : FP.Core.dIsNaN (FP.dsub a b) = true ↔ a.toNat % 2 ^ 63 = 9218868437227405312 ∧ b.toNat % 2 ^ 63 = 9218868437227405312 ∧ (2 ^ 63 ≤ a.toNat ↔ 2 ^ 63 ≤ b.toNat) := by
  rw [FP.Core.dsub_nan_iff]
  simp only [ha, hb, false_or, inf_val]
  constructor
  · rintro ⟨s, ⟨h1, h2⟩, h3, h4⟩
    exact ⟨h1, h3, h2.symm.trans h4⟩
  · rintro ⟨h1, h2, h3⟩
    exact ⟨decide (2 ^ 63 ≤ a.toNat), ⟨h1, decide_eq_true_iff⟩, h2, decide_eq_true_iff.trans h3⟩
theorem inf_ex {a : UInt64} : (∃ s, FP.Core.val64 a = .inf s) ↔ a.toNat % 2 ^ 63 = 9218868437227405312 := by
  constructor
  · rintro ⟨s, h⟩
    exact ((inf_val s).mp h).1
  · intro h
    exact ⟨decide (2 ^ 63 ≤ a.toNat), (inf_val _).mpr ⟨h, decide_eq_true_iff⟩⟩
theorem inf_ex32 {a : UInt32} : (∃ s, FP.Core.val32 a = .inf s) ↔ a.toNat % 2 ^ 31 = 2139095040 := by
  constructor
  · rintro ⟨s, h⟩
    exact ((inf_val32 s).mp h).1
  · intro h
    exact ⟨decide (2 ^ 31 ≤ a.toNat), (inf_val32 _).mpr ⟨h, decide_eq_true_iff⟩⟩
theorem nan_mul {a b : UInt64} (ha : FP.Core.val64 a ≠ .nan) (hb : FP.Core.val64 b ≠ .nan) : FP.Core.dIsNaN (FP.dmul a b) = true ↔ (a.toNat % 2 ^ 63 = 9218868437227405312 ∧ b.toNat % 2 ^ 63 = 0) ∨ (a.toNat % 2 ^ 63 = 0 ∧ b.toNat % 2 ^ 63 = 9218868437227405312) := by
  rw [FP.Core.dmul_nan_iff]
  simp only [ha, hb, false_or, exists_and_right, exists_and_left, inf_ex, FP.Core.zero_bits2]
theorem nan_div {a b : UInt64} (ha : FP.Core.val64 a ≠ .nan) (hb : FP.Core.val64 b ≠ .nan) : FP.Core.dIsNaN (FP.ddiv a b) = true ↔ (a.toNat % 2 ^ 63 = 9218868437227405312 ∧ b.toNat % 2 ^ 63 = 9218868437227405312) ∨ (a.toNat % 2 ^ 63 = 0 ∧ b.toNat % 2 ^ 63 = 0) := by
  rw [FP.Core.ddiv_nan_iff]
  simp only [ha, hb, false_or, exists_and_right, exists_and_left, inf_ex, FP.Core.zero_bits2]
theorem nan_rem {a b : UInt64} (ha : FP.Core.val64 a ≠ .nan) (hb : FP.Core.val64 b ≠ .nan) : FP.Core.dIsNaN (FP.drem a b) = true ↔ a.toNat % 2 ^ 63 = 9218868437227405312 ∨ b.toNat % 2 ^ 63 = 0 := by
  rw [FP.Core.drem_nan_iff]
  simp only [ha, hb, false_or, inf_ex, FP.Core.zero_bits2]
theorem nan_add32 {a b : UInt32} (ha : FP.Core.val32 a ≠ .nan) (hb : FP.Core.val32 b ≠ .nan) : FP.Core.fIsNaN (FP.fadd a b) = true ↔ a.toNat % 2 ^ 31 = 2139095040 ∧ b.toNat % 2 ^ 31 = 2139095040 ∧ ¬ (2 ^ 31 ≤ a.toNat ↔ 2 ^ 31 ≤ b.toNat) := by
  rw [FP.Core.fadd_nan_iff]
  simp only [ha, hb, false_or, inf_val32]
  constructor
  · rintro ⟨s, ⟨h1, h2⟩, h3, h4⟩
    refine ⟨h1, h3, fun q => ?_⟩
    cases s <;> simp_all <;> omega
  · rintro ⟨h1, h2, h3⟩
    by_cases q : 2 ^ 31 ≤ a.toNat
    · exact ⟨true, ⟨h1, by simp [q]⟩, h2, by have : ¬ 2 ^ 31 ≤ b.toNat := fun z => h3 ⟨fun _ => z, fun _ => q⟩; simp [this]⟩
    · exact ⟨false, ⟨h1, by simp [q]⟩, h2, by have : 2 ^ 31 ≤ b.toNat := Decidable.byContradiction (fun z => h3 ⟨fun y => absurd y q, fun y => absurd y z⟩); simp [this]⟩
theorem nan_sub32 {a b : UInt32} (ha : FP.Core.val32 a ≠ .nan) (hb : FP.Core.val32 b ≠ .nan) : FP.Core.fIsNaN (FP.fsub a b) = true ↔ a.toNat % 2 ^ 31 = 2139095040 ∧ b.toNat % 2 ^ 31 = 2139095040 ∧ (2 ^ 31 ≤ a.toNat ↔ 2 ^ 31 ≤ b.toNat) := by
  rw [FP.Core.fsub_nan_iff]
  simp only [ha, hb, false_or, inf_val32]
  constructor
  · rintro ⟨s, ⟨h1, h2⟩, h3, h4⟩
    exact ⟨h1, h3, h2.symm.trans h4⟩
  · rintro ⟨h1, h2, h3⟩
    exact ⟨decide (2 ^ 31 ≤ a.toNat), ⟨h1, decide_eq_true_iff⟩, h2, decide_eq_true_iff.trans h3⟩
theorem nan_mul32 {a b : UInt32} (ha : FP.Core.val32 a ≠ .nan) (hb : FP.Core.val32 b ≠ .nan) : FP.Core.fIsNaN (FP.fmul a b) = true ↔ (a.toNat % 2 ^ 31 = 2139095040 ∧ b.toNat % 2 ^ 31 = 0) ∨ (a.toNat % 2 ^ 31 = 0 ∧ b.toNat % 2 ^ 31 = 2139095040) := by
  rw [FP.Core.fmul_nan_iff]
  simp only [ha, hb, false_or, exists_and_right, exists_and_left, inf_ex32, FP.Core.zero_bits232]
theorem nan_div32 {a b : UInt32} (ha : FP.Core.val32 a ≠ .nan) (hb : FP.Core.val32 b ≠ .nan) : FP.Core.fIsNaN (FP.fdiv a b) = true ↔ (a.toNat % 2 ^ 31 = 2139095040 ∧ b.toNat % 2 ^ 31 = 2139095040) ∨ (a.toNat % 2 ^ 31 = 0 ∧ b.toNat % 2 ^ 31 = 0) := by
  rw [FP.Core.fdiv_nan_iff]
  simp only [ha, hb, false_or, exists_and_right, exists_and_left, inf_ex32, FP.Core.zero_bits232]
theorem nan_rem32 {a b : UInt32} (ha : FP.Core.val32 a ≠ .nan) (hb : FP.Core.val32 b ≠ .nan) : FP.Core.fIsNaN (FP.frem a b) = true ↔ a.toNat % 2 ^ 31 = 2139095040 ∨ b.toNat % 2 ^ 31 = 0 := by
  rw [FP.Core.frem_nan_iff]
  simp only [ha, hb, false_or, inf_ex32, FP.Core.zero_bits232]
/-- two doubles alike: by the bits -/
theorem eq_iff {a b : UInt64} (ha : FP.Core.val64 a ≠ .nan) (hb : FP.Core.val64 b ≠ .nan) {op : CmpOp} : Op.cmpValue (FP.dcmp a b) op = 0 ↔ FP.Core.dkey a = FP.Core.dkey b := by
  rw [dcmpk ha hb, cv_eq]
theorem keyE {a b : UInt64} (h1 : a.toNat % 2 ^ 63 = 9218868437227405312) (h2 : b.toNat % 2 ^ 63 = 9218868437227405312) : FP.Core.dkey a = FP.Core.dkey b ↔ (2 ^ 63 ≤ a.toNat ↔ 2 ^ 63 ≤ b.toNat) := by
  have la := UInt64.toNat_lt a
  have lb := UInt64.toNat_lt b
  unfold FP.Core.dkey
  by_cases c1 : 2 ^ 63 ≤ a.toNat
  · rw [if_pos c1]
    by_cases c2 : 2 ^ 63 ≤ b.toNat
    · rw [if_pos c2]
      exact ⟨fun _ => ⟨fun _ => c2, fun _ => c1⟩, fun _ => by omega⟩
    · rw [if_neg c2]
      exact ⟨fun h => by omega, fun h => absurd (h.mp c1) c2⟩
  · rw [if_neg c1]
    by_cases c2 : 2 ^ 63 ≤ b.toNat
    · rw [if_pos c2]
      exact ⟨fun h => by omega, fun h => absurd (h.mpr c2) c1⟩
    · rw [if_neg c2]
      exact ⟨fun _ => ⟨fun h => absurd h c1, fun h => absurd h c2⟩, fun _ => by omega⟩
theorem void0 {a b : UInt64} (ha : FP.Core.val64 a ≠ .nan) (hb : FP.Core.val64 b ≠ .nan) : q_isVoid_0 a b = if FP.Core.dIsNaN (FP.dadd a b) = true then 1 else 0 := by
  unfold q_isVoid_0
  simp only [nan_add ha hb, endl ha, endl hb, eq_iff ha hb]
  by_cases h1 : a.toNat % 2 ^ 63 = 9218868437227405312
  · by_cases h2 : b.toNat % 2 ^ 63 = 9218868437227405312
    · have hk := keyE h1 h2
      rw [if_pos h1, if_pos h2, if_neg (by decide), if_neg (by decide)]
      by_cases h3 : (2 ^ 63 ≤ a.toNat ↔ 2 ^ 63 ≤ b.toNat)
      · rw [if_pos (hk.mpr h3), if_neg (fun q => q.2.2 h3)]
      · rw [if_neg (fun q => h3 (hk.mp q)), if_pos ⟨h1, h2, h3⟩]
    · simp [h1, h2]
  · simp [h1]
theorem void1 {a b : UInt64} (ha : FP.Core.val64 a ≠ .nan) (hb : FP.Core.val64 b ≠ .nan) : q_isVoid_1 a b = if FP.Core.dIsNaN (FP.dsub a b) = true then 1 else 0 := by
  unfold q_isVoid_1
  simp only [nan_sub ha hb, endl ha, endl hb, eq_iff ha hb]
  by_cases h1 : a.toNat % 2 ^ 63 = 9218868437227405312
  · by_cases h2 : b.toNat % 2 ^ 63 = 9218868437227405312
    · have hk := keyE h1 h2
      rw [if_pos h1, if_pos h2, if_neg (by decide), if_neg (by decide)]
      by_cases h3 : (2 ^ 63 ≤ a.toNat ↔ 2 ^ 63 ≤ b.toNat)
      · rw [if_pos (hk.mpr h3), if_pos ⟨h1, h2, h3⟩]
      · rw [if_neg (fun q => h3 (hk.mp q)), if_neg (fun q => h3 q.2.2)]
    · simp [h1, h2]
  · simp [h1]
theorem void2 {a b : UInt64} (ha : FP.Core.val64 a ≠ .nan) (hb : FP.Core.val64 b ≠ .nan) : q_isVoid_2 a b = if FP.Core.dIsNaN (FP.dmul a b) = true then 1 else 0 := by
  unfold q_isVoid_2
  simp only [nan_mul ha hb, endl ha, endl hb, z_iff ha, z_iff hb]
  by_cases h1 : a.toNat % 2 ^ 63 = 9218868437227405312 <;> by_cases h2 : b.toNat % 2 ^ 63 = 9218868437227405312 <;> by_cases h3 : a.toNat % 2 ^ 63 = 0 <;> by_cases h4 : b.toNat % 2 ^ 63 = 0 <;> simp [h1, h2, h3, h4] <;> omega
theorem void3 {a b : UInt64} (ha : FP.Core.val64 a ≠ .nan) (hb : FP.Core.val64 b ≠ .nan) : q_isVoid_3 a b = if FP.Core.dIsNaN (FP.ddiv a b) = true then 1 else 0 := by
  unfold q_isVoid_3
  simp only [nan_div ha hb, endl ha, endl hb, z_iff ha, z_iff hb]
  by_cases h1 : a.toNat % 2 ^ 63 = 9218868437227405312 <;> by_cases h2 : b.toNat % 2 ^ 63 = 9218868437227405312 <;> by_cases h3 : a.toNat % 2 ^ 63 = 0 <;> by_cases h4 : b.toNat % 2 ^ 63 = 0 <;> simp [h1, h2, h3, h4] <;> omega
theorem void4 {a b : UInt64} (ha : FP.Core.val64 a ≠ .nan) (hb : FP.Core.val64 b ≠ .nan) : q_isVoid_4 a b = if FP.Core.dIsNaN (FP.drem a b) = true then 1 else 0 := by
  unfold q_isVoid_4
  simp only [nan_rem ha hb, endl ha, z_iff hb]
  by_cases h1 : a.toNat % 2 ^ 63 = 9218868437227405312 <;> by_cases h4 : b.toNat % 2 ^ 63 = 0 <;> simp [h1, h4]
/-- a float's double: endless, zero, and its sign, as the float -/
theorem f2d_pat {a : UInt32} (ha : FP.Core.val32 a ≠ .nan) : ((FP.f2d a).toNat % 2 ^ 63 = 9218868437227405312 ↔ a.toNat % 2 ^ 31 = 2139095040) ∧ ((FP.f2d a).toNat % 2 ^ 63 = 0 ↔ a.toNat % 2 ^ 31 = 0) ∧ (2 ^ 63 ≤ (FP.f2d a).toNat ↔ 2 ^ 31 ≤ a.toNat) := by
  have hn := (f2d_ok ha).2
  have hv := f2d_val ha
  refine ⟨?_, ?_, ?_⟩
  · rw [← inf_ex, ← inf_ex32, hv]
    cases hd : FP.Core.val32 a with
    | nan => exact absurd hd ha
    | inf s => exact Iff.rfl
    | fin s c q =>
      have : ∀ t, FP.Core.round FP.Core.b64 (.fin s c q) ≠ .inf t := fun t q2 => by
        obtain ⟨c', q', h1, -⟩ := f2d_fin hd
        rw [hv, hd, q2] at h1
        cases h1
      constructor
      · rintro ⟨t, h⟩; exact absurd h (this t)
      · rintro ⟨t, h⟩; cases h
  · rw [← FP.Core.zero_bits2, ← FP.Core.zero_bits232]
    unfold FP.Core.DZero FP.Core.FZero
    cases hd : FP.Core.val32 a with
    | nan => exact absurd hd ha
    | inf s =>
      rw [hv, hd]
      constructor
      · rintro ⟨t, q, h⟩; cases h
      · rintro ⟨t, q, h⟩; cases h
    | fin s c q =>
      obtain ⟨c', q', h1, h2⟩ := f2d_fin hd
      rw [h1]
      unfold FP.Core.inUnits at h2
      constructor
      · rintro ⟨t, r, h⟩
        cases h
        rw [Nat.zero_mul] at h2
        have h3 := Nat.mul_eq_zero.mp h2.symm
        rcases h3 with h3 | h3
        · rcases Nat.mul_eq_zero.mp h3 with h4 | h4
          · exact ⟨s, q, by rw [h4]⟩
          · exact absurd h4 (Nat.ne_of_gt (Nat.two_pow_pos _))
        · exact absurd h3 (Nat.ne_of_gt (Nat.two_pow_pos _))
      · rintro ⟨t, r, h⟩
        cases h
        rw [Nat.zero_mul, Nat.zero_mul] at h2
        rcases Nat.mul_eq_zero.mp h2 with h4 | h4
        · exact ⟨s, q', by rw [h4]⟩
        · exact absurd h4 (Nat.ne_of_gt (Nat.two_pow_pos _))
  · have e1 := FP.Core.sgn_bits hn
    have e2 := FP.Core.sgn_bits32 ha
    have e3 : FP.Core.sgn (FP.Core.val64 (FP.f2d a)) = FP.Core.sgn (FP.Core.val32 a) := by
      cases hd : FP.Core.val32 a with
      | nan => exact absurd hd ha
      | inf s => rw [hv, hd]; rfl
      | fin s c q =>
        obtain ⟨c', q', h1, -⟩ := f2d_fin hd
        rw [h1]
        rfl
    rw [e1, e2] at e3
    constructor
    · intro h; rw [decide_eq_true h] at e3; exact of_decide_eq_true e3.symm
    · intro h; rw [decide_eq_true h] at e3; exact of_decide_eq_true e3
theorem vf0 {a b : UInt32} (ha : FP.Core.val32 a ≠ .nan) (hb : FP.Core.val32 b ≠ .nan) : q_isVoid_0 (FP.f2d a) (FP.f2d b) = if FP.Core.fIsNaN (FP.fadd a b) = true then 1 else 0 := by
  rw [void0 (f2d_ok ha).2 (f2d_ok hb).2]
  simp only [nan_add (f2d_ok ha).2 (f2d_ok hb).2, nan_add32 ha hb, (f2d_pat ha).1, (f2d_pat hb).1, (f2d_pat ha).2.2, (f2d_pat hb).2.2]
theorem vf1 {a b : UInt32} (ha : FP.Core.val32 a ≠ .nan) (hb : FP.Core.val32 b ≠ .nan) : q_isVoid_1 (FP.f2d a) (FP.f2d b) = if FP.Core.fIsNaN (FP.fsub a b) = true then 1 else 0 := by
  rw [void1 (f2d_ok ha).2 (f2d_ok hb).2]
  simp only [nan_sub (f2d_ok ha).2 (f2d_ok hb).2, nan_sub32 ha hb, (f2d_pat ha).1, (f2d_pat hb).1, (f2d_pat ha).2.2, (f2d_pat hb).2.2]
theorem vf2 {a b : UInt32} (ha : FP.Core.val32 a ≠ .nan) (hb : FP.Core.val32 b ≠ .nan) : q_isVoid_2 (FP.f2d a) (FP.f2d b) = if FP.Core.fIsNaN (FP.fmul a b) = true then 1 else 0 := by
  rw [void2 (f2d_ok ha).2 (f2d_ok hb).2]
  simp only [nan_mul (f2d_ok ha).2 (f2d_ok hb).2, nan_mul32 ha hb, (f2d_pat ha).1, (f2d_pat hb).1, (f2d_pat ha).2.1, (f2d_pat hb).2.1]
theorem vf3 {a b : UInt32} (ha : FP.Core.val32 a ≠ .nan) (hb : FP.Core.val32 b ≠ .nan) : q_isVoid_3 (FP.f2d a) (FP.f2d b) = if FP.Core.fIsNaN (FP.fdiv a b) = true then 1 else 0 := by
  rw [void3 (f2d_ok ha).2 (f2d_ok hb).2]
  simp only [nan_div (f2d_ok ha).2 (f2d_ok hb).2, nan_div32 ha hb, (f2d_pat ha).1, (f2d_pat hb).1, (f2d_pat ha).2.1, (f2d_pat hb).2.1]
theorem vf4 {a b : UInt32} (ha : FP.Core.val32 a ≠ .nan) (hb : FP.Core.val32 b ≠ .nan) : q_isVoid_4 (FP.f2d a) (FP.f2d b) = if FP.Core.fIsNaN (FP.frem a b) = true then 1 else 0 := by
  rw [void4 (f2d_ok ha).2 (f2d_ok hb).2]
  simp only [nan_rem (f2d_ok ha).2 (f2d_ok hb).2, nan_rem32 ha hb, (f2d_pat ha).1, (f2d_pat hb).2.1]
/-- the remainder of two floats is that of their doubles -/
theorem frem_f2d {a b : UInt32} (ha : FP.Core.FFin a) (hb : FP.Core.val32 b ≠ .nan) (hz : ¬ FP.Core.FZero b) : FP.f2d (FP.frem a b) = FP.drem (FP.f2d a) (FP.f2d b) := by
  have hx : FP.Core.DFin (FP.f2d a) := by
    rw [FP.Core.fin_bits]
    have h1 := (f2d_pat ha.ne_nan).1
    have h2 := (FP.Core.fin_bits32 a).mp ha
    have h3 := (FP.Core.ne_nan _).mp (f2d_ok ha.ne_nan).2
    omega
  have hy := (f2d_ok hb).2
  have hzz : ¬ FP.Core.DZero (FP.f2d b) := by
    rw [FP.Core.zero_bits2, (f2d_pat hb).2.1, ← FP.Core.zero_bits232]
    exact hz
  obtain ⟨d1, d2, d3⟩ := FP.Core.drem_zval hx hy hzz
  obtain ⟨r1, r2, r3⟩ := FP.Core.frem_zval ha hb hz
  have sz : ∀ {c : UInt32}, FP.Core.FFin c → FP.Core.sgn (FP.Core.val64 (FP.f2d c)) = FP.Core.sgn (FP.Core.val32 c) ∧ FP.Core.zmag FP.Core.b64 (FP.Core.val64 (FP.f2d c)) = FP.Core.zmag FP.Core.b32 (FP.Core.val32 c) * 2 ^ 925 := by
    intro c hc
    obtain ⟨s, m, q, hv⟩ := hc
    obtain ⟨c', q', h1, h2⟩ := f2d_fin hv
    rw [h1, hv]
    exact ⟨rfl, h2⟩
  have hrf : FP.Core.FFin (FP.frem a b) := by
    rw [FP.Core.fin_bits32]
    have h1 := (FP.Core.ne_nan32 _).mp r1
    have h2 := FP.Core.zmag_bits32 r1
    have h3 := FP.Core.zmag_bits32 ha.ne_nan
    have h4 := (FP.Core.fin_bits32 a).mp ha
    rcases Nat.lt_or_ge ((FP.frem a b).toNat % 2 ^ 31) 2139095040 with q | q
    · exact q
    · have h5 := FP.Core.unitsOf_lt (f := FP.Core.b32) (Nat.lt_of_lt_of_le h4 q)
      rw [← h2, ← h3, r3] at h5
      exact absurd (Nat.mod_le _ _) (Nat.not_le.mpr h5)
  refine dz_inj (f2d_ok r1).2 d1 ?_ ?_
  · rw [(sz hrf).1, r2, d2, (sz ha).1]
  · rw [(sz hrf).2, r3, d3, (sz ha).2]
    rcases Nat.lt_or_ge (b.toNat % 2 ^ 31) 2139095040 with q | q
    · have hbf : FP.Core.FFin b := (FP.Core.fin_bits32 b).mpr q
      rw [(sz hbf).2, Nat.mul_mod_mul_right]
    · have hbi : b.toNat % 2 ^ 31 = 2139095040 := by have := (FP.Core.ne_nan32 b).mp hb; omega
      have hdi := (f2d_pat hb).1.mpr hbi
      have e1 : FP.Core.zmag FP.Core.b32 (FP.Core.val32 a) < FP.Core.zmag FP.Core.b32 (FP.Core.val32 b) := by
        rw [FP.Core.zmag_bits32 ha.ne_nan, FP.Core.zmag_bits32 hb, hbi]
        exact FP.Core.unitsOf_lt ((FP.Core.fin_bits32 a).mp ha)
      have e2 : FP.Core.zmag FP.Core.b64 (FP.Core.val64 (FP.f2d a)) < FP.Core.zmag FP.Core.b64 (FP.Core.val64 (FP.f2d b)) := by
        rw [FP.Core.zmag_bits hx.ne_nan, FP.Core.zmag_bits hy, hdi]
        exact FP.Core.unitsOf_lt ((FP.Core.fin_bits _).mp hx)
      rw [(sz ha).2] at e2
      rw [Nat.mod_eq_of_lt e1, Nat.mod_eq_of_lt e2]
