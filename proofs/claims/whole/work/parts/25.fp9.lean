/-! drums: sums that stay finite, and what is left stays small -/
theorem Emax : FP.Core.unitsOf FP.Core.b64 9218868437227405311 = (2 ^ 53 - 1) * 2 ^ 2045 := by decide +kernel
theorem E1e6 : FP.Core.unitsOf FP.Core.b64 4696837146684686336 = 1000000 * 2 ^ 1074 := by decide +kernel
theorem sumfin {a b : UInt64} (ha : FP.Core.DFin a) (hb : FP.Core.DFin b) (h : a.toNat % 2 ^ 63 ≤ 4696837146684686336) : FP.Core.DFin (FP.dadd a b) := by
  have hna := ha.ne_nan
  have hnb := hb.ne_nan
  have za := FP.Core.zmag_bits hna
  have zb := FP.Core.zmag_bits hnb
  have fb := (FP.Core.fin_bits b).mp hb
  have la : FP.Core.zmag FP.Core.b64 (FP.Core.val64 a) ≤ 1000000 * 2 ^ 1074 := by
    rw [za, ← E1e6]
    exact FP.Core.unitsOf_le_iff.mpr h
  have lb : FP.Core.zmag FP.Core.b64 (FP.Core.val64 b) ≤ (2 ^ 53 - 1) * 2 ^ 2045 := by
    rw [zb, ← Emax]
    exact FP.Core.unitsOf_le_iff.mpr (by omega)
  have fa2 := FP.Core.val64_fits a
  have fb2 := FP.Core.val64_fits b
  obtain ⟨s, c, q, va⟩ := ha
  obtain ⟨t, d, r, vb⟩ := hb
  rw [va] at fa2 la
  rw [vb] at fb2 lb
  obtain ⟨sg, n, e, p1, p2, p3⟩ := FP.Core.sum_units fa2 fb2
  have hv : FP.Core.val64 (FP.dadd a b) = FP.Core.roundRatio FP.Core.b64 sg n 1 e := by
    rw [FP.Core.val64_dadd, va, vb, p1]
    rfl
  have h1 : FP.Core.inUnits n e FP.Core.b64.qmin ≤ 1000000 * 2 ^ 1074 + (2 ^ 53 - 1) * 2 ^ 2045 := by
    have h2 := congrArg Int.natAbs p3
    rw [FP.Core.natAbs_signed] at h2
    rw [h2]
    refine Nat.le_trans (Int.natAbs_add_le _ _) ?_
    unfold FP.Core.zval
    rw [FP.Core.natAbs_signed, FP.Core.natAbs_signed]
    exact Nat.add_le_add la lb
  have hno : ¬ FP.Core.roundRatio FP.Core.b64 sg n 1 e = .inf sg := by
    rw [FP.Core.roundRatio_inf (e0 := -1075) FP.Core.good_b64 (by decide) (by rw [FP.Core.qmin_b64]; decide) (by rw [FP.Core.qmin_b64] at p2; omega)]
    rw [FP.Core.inUnits_move n (q := e) (e := -1075) (r := FP.Core.b64.qmin) (by rw [FP.Core.qmin_b64]; decide) p2]
    have e1 : (FP.Core.b64.qmin - -1075).toNat = 1 := by rw [FP.Core.qmin_b64]; decide
    rw [e1, Nat.pow_one, Nat.mul_one]
    have e2 : (2 ^ (FP.Core.b64.p + 1) - 1) * 2 ^ (FP.Core.b64.qmax - 1 - -1075).toNat = (2 ^ 54 - 1) * 2 ^ 2045 := by decide +kernel
    rw [e2]
    have e3 : (1000000 * 2 ^ 1074 + (2 ^ 53 - 1) * 2 ^ 2045) * 2 < (2 ^ 54 - 1) * 2 ^ 2045 := by decide +kernel
    generalize FP.Core.inUnits n e FP.Core.b64.qmin = z at h1 ⊢
    intro h4
    exact absurd (Nat.lt_of_le_of_lt (Nat.le_trans h4 (Nat.mul_le_mul_right 2 h1)) e3) (Nat.lt_irrefl _)
  cases hd : FP.Core.val64 (FP.dadd a b) with
  | nan => rw [hv] at hd; exact absurd hd (FP.Core.roundRatio_ne_nan _ _ _ _ _)
  | inf s2 =>
    rw [hv] at hd
    have hs := FP.Core.sgn_roundRatio FP.Core.b64 sg n 1 e
    rw [hd] at hs
    simp only [FP.Core.sgn] at hs
    rw [hs] at hd
    exact absurd hd hno
  | fin s2 c2 q2 => exact ⟨s2, c2, q2, hd⟩
theorem remsmall {s y : UInt64} (hs : FP.Core.DFin s) (hy : FP.Core.DFin y) (hz : ¬ FP.Core.DZero y) (h : y.toNat % 2 ^ 63 ≤ 4696837146684686336) : FP.Core.DFin (FP.drem s y) ∧ (FP.drem s y).toNat % 2 ^ 63 ≤ 4696837146684686336 := by
  obtain ⟨h1, -, h3⟩ := FP.Core.drem_zval hs hy.ne_nan hz
  have hp := zpos hy.ne_nan hz
  have hlt : FP.Core.zmag FP.Core.b64 (FP.Core.val64 (FP.drem s y)) < FP.Core.zmag FP.Core.b64 (FP.Core.val64 y) := by
    rw [h3]
    exact Nat.mod_lt _ hp
  rw [FP.Core.zmag_bits h1, FP.Core.zmag_bits hy.ne_nan] at hlt
  have := FP.Core.unitsOf_lt_iff.mp hlt
  have ee : FP.drem s y = FP.Core.drem s y := rfl
  rw [ee]
  refine ⟨(FP.Core.fin_bits _).mpr ?_, ?_⟩ <;> omega
def sp_told (D : SD) (d w : Int32) : Int64 := match ix 6 d with
  | none => -1001
  | some j => if w = 0 then (D.1 j).toInt64 else if w = 1 then (D.2.1 j).toInt64 else if w = 2 then (D.2.2.1 j).toInt64 else if w = 3 then D.2.2.2 j else -1002
def okAr (x : Nat) : Bool := decide (4593671619917905920 ≤ x) && decide (x ≤ 4696837146684686336)
def setD (D : SD) (j : Nat) (ar at_ ro : UInt64) (tu : Int64) : SD := (vf_upd D.1 j ar, vf_upd D.2.1 j at_, vf_upd D.2.2.1 j ro, vp_updL D.2.2.2 j tu)
def sp_drum (D : SD) (d : Int32) (b : Int64) : Int32 × SD := match ix 6 d with
  | none => (-1001, D)
  | some j => if okAr (db b).toNat = true then (1, setD D j (db b) 0 0 0) else (-1002, D)
def wnd (D : SD) (i : Nat) (v : UInt64) : SD := setD D i (D.1 i) (FP.drem (FP.dadd (D.2.1 i) v) (D.1 i)) (FP.dadd (D.2.2.1 i) v) (D.2.2.2 i + FP.d2l (FP.ddiv (FP.dadd (D.2.1 i) v) (D.1 i)))
def sp_wind (M : SM) (D : SD) (X : SX) (d me : Int32) : Int32 × SD × SX := match ix 6 d, ix 10 me with
  | some i, some j => if (db (tn (M.1 j) (M.2 j) 3)).toNat % 2 ^ 63 = 9218868437227405312 then (-15, D, failX X 5) else (1, wnd D i (db (tn (M.1 j) (M.2 j) 3)), goodX X)
  | none, _ => (-1001, D, X)
  | some _, none => (-1001, D, X)
theorem Rep.drum {cy : Nat → ClassId} {L : List Nat} {o : Nat} {qa : Nat → Nat → Nat} {M : SM} {D : SD} {S : SL} {P : SP} {K : SR} {B : SB} {X : SX} {F : Nat → va_E} (h : Rep cy L o qa M D S P K B X F) {j : Nat} (hj : j < 6) {ar at_ ro : UInt64} {tu : Int64} (ok : okD ar at_ ro) : Rep cy L o qa M (setD D j ar at_ ro tu) S P K B X (va_up F (qa 1 j) (.inr (1, [.double ar, .double at_, .double ro, .long tu]))) := by
  obtain ⟨h1, h2, h3, h4, h5, h6, h7, h8, h9⟩ := h
  obtain ⟨m1, m2, m3⟩ := h4 j hj
  have hk : ∀ n, n ≠ 1 → pk (F (qa 1 j)) ≠ n := fun n hn => by rw [m2]; exact Ne.symm hn
  refine ⟨h1.keep (hk _ (by decide)) (hk _ (by decide)) (hk _ (by decide)), h2.keep (hk _ (by decide)) (hk _ (by decide)) (hk _ (by decide)) (hk _ (by decide)) (hk _ (by decide)), h3.keep (hk _ (by decide)), fun i hi => ?_, h5.keep (hk _ (by decide)) (hk _ (by decide)), h6.keep (hk _ (by decide)), h7.keep (hk _ (by decide)) (hk _ (by decide)), h8.keep (hk _ (by decide)), h9⟩
  obtain ⟨q1, q2, q3⟩ := h4 i hi
  refine ⟨q1, ?_⟩
  by_cases hij : i = j
  · subst hij
    simp only [setD, vf_upd, vp_updL, if_true]
    exact ⟨va_up_self _ _ _, ok⟩
  · have hne : qa 1 i ≠ qa 1 j := fun q => hij (h9.2.1 i j hi hj q)
    simp only [setD, vf_upd, vp_updL, if_neg hij]
    exact ⟨by rw [va_up_ne _ _ hne]; exact q2, q3⟩
theorem ar_cmp {x : UInt64} (hn : FP.Core.val64 x ≠ .nan) : (Op.cmpValue (FP.dcmp x 4593671619917905920) CmpOp.g < 0 ↔ ¬ (x.toNat < 2 ^ 63 ∧ 4593671619917905920 ≤ x.toNat)) ∧ (Op.cmpValue (FP.dcmp x 4696837146684686336) CmpOp.l ≤ 0 ↔ (x.toNat < 2 ^ 63 → x.toNat ≤ 4696837146684686336)) := by
  have k1 : FP.Core.dkey 4593671619917905920 = 4593671619917905920 := by decide +kernel
  have k2 : FP.Core.dkey 4696837146684686336 = 4696837146684686336 := by decide +kernel
  have n1 : FP.Core.val64 4593671619917905920 ≠ .nan := by decide +kernel
  have n2 : FP.Core.val64 4696837146684686336 ≠ .nan := by decide +kernel
  have hlt := UInt64.toNat_lt x
  rw [dcmpk hn n1, dcmpk hn n2, cv_lt, cv_le, k1, k2]
  unfold FP.Core.dkey
  split <;> omega
theorem okAr_D {x : UInt64} (h : okAr x.toNat = true) : okD x 0 0 := by
  unfold okAr at h
  simp only [Bool.and_eq_true, decide_eq_true_eq] at h
  have e0 : (0 : UInt64).toNat = 0 := rfl
  refine ⟨⟨(FP.Core.fin_bits x).mpr (by omega), fun q => by have := (FP.Core.zero_bits2 x).mp q; omega, by omega⟩, ⟨(FP.Core.fin_bits 0).mpr (by decide), by decide⟩, by decide +kernel⟩
