/-! what each call answers and changes, said once for both sides -/
def tn (fr : Int32) (b : Int64) (to : Int32) : Int64 := if fr = to then b else if fr < 2 then (if to = 0 then b.toInt32.toInt64 else if to = 1 then b else if to = 2 then (FP.l2f b).toInt32.toInt64 else (FP.l2d b).toInt64) else if fr = 2 then (if to = 0 then (FP.f2i (fl b)).toInt64 else if to = 1 then FP.f2l (fl b) else (FP.f2d (fl b)).toInt64) else (if to = 0 then (FP.d2i (db b)).toInt64 else if to = 1 then FP.d2l (db b) else (FP.d2f (db b)).toInt32.toInt64)
def setM (M : SM) (j : Nat) (ln : Int32) (b : Int64) : SM := (upd M.1 j ln, vp_updL M.2 j b)
def failX (X : SX) (k : Nat) : SX := (nI k, upd X.2 k (X.2 k + 1))
def goodX (X : SX) : SX := (0, X.2)
def mx (a b : Int32) : Int32 := if b < a then a else b
def laneB (x : Int32) : Bool := decide (0 ≤ x.toInt) && decide (x.toInt ≤ 3)
def numB (ln : Int32) (b : Int64) : Bool := (!(decide (ln = 2)) || decide (b.toUInt64.toNat % 2 ^ 31 ≤ 2139095040)) && (!(decide (ln = 3)) || decide (b.toUInt64.toNat % 2 ^ 63 ≤ 9218868437227405312))
def sp_set (M : SM) (me ln : Int32) (b : Int64) : Int32 × SM := match ix 10 me with
  | none => (-1001, M)
  | some j => if laneB ln = true then (if numB ln b = true then (1, setM M j ln (if ln = 0 ∨ ln = 2 then b.toInt32.toInt64 else b)) else (-1002, M)) else (-1002, M)
def sp_bits (M : SM) (me : Int32) : Int64 := match ix 10 me with
  | none => -1001
  | some j => M.2 j
def sp_lane (M : SM) (me : Int32) : Int32 := match ix 10 me with
  | none => -1001
  | some j => M.1 j
def sp_turn (M : SM) (me ln : Int32) : Int32 × SM := match ix 10 me with
  | none => (-1001, M)
  | some j => if laneB ln = true then (1, setM M j ln (tn (M.1 j) (M.2 j) ln)) else (-1002, M)
def cmpL (a b : Int64) : Int32 := if a < b then -1 else if b < a then 1 else 0
def cmpD (a b : UInt64) : Int32 := if FP.Core.dkey a < FP.Core.dkey b then -1 else if FP.Core.dkey b < FP.Core.dkey a then 1 else 0
def cmpM (l1 : Int32) (b1 : Int64) (l2 : Int32) (b2 : Int64) : Int32 := if mx l1 l2 < 2 then cmpL (tn l1 b1 (mx l1 l2)) (tn l2 b2 (mx l1 l2)) else cmpD (db (tn (mx l1 l2) (tn l1 b1 (mx l1 l2)) 3)) (db (tn (mx l1 l2) (tn l2 b2 (mx l1 l2)) 3))
def sp_cmp (M : SM) (x y : Int32) : Int32 := match ix 10 x, ix 10 y with
  | some i, some j => cmpM (M.1 i) (M.2 i) (M.1 j) (M.2 j)
  | none, _ => -1001
  | some _, none => -1001
def rkL (k : Nat) (a b : Int64) : Int64 := if k = 0 then a + b else if k = 1 then a - b else if k = 2 then a * b else if k = 3 then a / b else a - a / b * b
def rkF (k : Nat) (a b : UInt32) : UInt32 := if k = 0 then FP.fadd a b else if k = 1 then FP.fsub a b else if k = 2 then FP.fmul a b else if k = 3 then FP.fdiv a b else FP.frem a b
def rkD (k : Nat) (a b : UInt64) : UInt64 := if k = 0 then FP.dadd a b else if k = 1 then FP.dsub a b else if k = 2 then FP.dmul a b else if k = 3 then FP.ddiv a b else FP.drem a b
def rk (M : SM) (X : SX) (k i j t : Nat) : Int32 × SM × SX :=
  if mx (M.1 i) (M.1 j) < 2 then
    (if 3 ≤ k ∧ tn (M.1 j) (M.2 j) (mx (M.1 i) (M.1 j)) = 0 then (-14, M, failX X 4)
     else (mx (M.1 i) (M.1 j), setM M t (mx (M.1 i) (M.1 j)) (if mx (M.1 i) (M.1 j) = 0 then (rkL k (tn (M.1 i) (M.2 i) (mx (M.1 i) (M.1 j))) (tn (M.1 j) (M.2 j) (mx (M.1 i) (M.1 j)))).toInt32.toInt64 else rkL k (tn (M.1 i) (M.2 i) (mx (M.1 i) (M.1 j))) (tn (M.1 j) (M.2 j) (mx (M.1 i) (M.1 j)))), goodX X))
  else if mx (M.1 i) (M.1 j) = 2 then
    (if FP.Core.fIsNaN (rkF k (fl (tn (M.1 i) (M.2 i) 2)) (fl (tn (M.1 j) (M.2 j) 2))) = true then (-15, M, failX X 5)
     else (2, setM M t 2 (rkF k (fl (tn (M.1 i) (M.2 i) 2)) (fl (tn (M.1 j) (M.2 j) 2))).toInt32.toInt64, goodX X))
  else
    (if FP.Core.dIsNaN (rkD k (db (tn (M.1 i) (M.2 i) 3)) (db (tn (M.1 j) (M.2 j) 3))) = true then (-15, M, failX X 5)
     else (3, setM M t 3 (rkD k (db (tn (M.1 i) (M.2 i) 3)) (db (tn (M.1 j) (M.2 j) 3))).toInt64, goodX X))
def sp_reckon (M : SM) (X : SX) (act x y into : Int32) : Int32 × SM × SX := match ix 10 x, ix 10 y, ix 10 into, ix 5 act with
  | some i, some j, some t, some k => rk M X k i j t
  | some _, some _, some _, none => (-1002, M, X)
  | none, _, _, _ => (-1001, M, X)
  | some _, none, _, _ => (-1001, M, X)
  | some _, some _, none, _ => (-1001, M, X)
/-! numbers turned: the class's, and the reference's -/
theorem fl_sx {u : UInt32} : sx u.toInt32.toInt64 ∧ fl u.toInt32.toInt64 = u := by
  unfold sx fl
  simp
theorem db_u {u : UInt64} : db u.toInt64 = u := by
  unfold db
  simp
theorem sx_i (x : Int32) : sx x.toInt64 := by
  unfold sx
  simp
theorem okM.ne {ln : Int32} {b nm : Int64} {rl : UInt64} (h : okM ln b nm rl) : FP.Core.val64 rl ≠ .nan := h.1
theorem okM.okV {ln : Int32} {b nm : Int64} {rl : UInt64} (h : okM ln b nm rl) : okV ln b := by
  obtain ⟨-, ⟨h1, h2, -⟩ | ⟨h1, -⟩ | ⟨h1, h2, h3, -⟩ | ⟨h1, h2, -⟩⟩ := h
  · exact Or.inl ⟨h1, h2⟩
  · exact Or.inr (Or.inl h1)
  · exact Or.inr (Or.inr (Or.inl ⟨h1, h2, h3⟩))
  · exact Or.inr (Or.inr (Or.inr ⟨h1, h2⟩))
theorem trunc_eq {a : UInt32} (h : FP.Core.val32 a ≠ .nan) : FP.Core.sgn (FP.Core.val64 (FP.f2d a)) = FP.Core.sgn (FP.Core.val32 a) ∧ ((FP.Core.zmag FP.Core.b64 (FP.Core.val64 (FP.f2d a)) / FP.Core.one64 = FP.Core.zmag FP.Core.b32 (FP.Core.val32 a) / FP.Core.one32) ∨ (2 ^ 64 ≤ FP.Core.zmag FP.Core.b64 (FP.Core.val64 (FP.f2d a)) / FP.Core.one64 ∧ 2 ^ 64 ≤ FP.Core.zmag FP.Core.b32 (FP.Core.val32 a) / FP.Core.one32)) := by
  cases hd : FP.Core.val32 a with
  | nan => exact absurd hd h
  | inf s =>
    rw [f2d_val h, hd]
    refine ⟨rfl, Or.inr ?_⟩
    show 2 ^ 64 ≤ FP.Core.b64.tails * 2 ^ (FP.Core.b64.exps - 2) / FP.Core.one64 ∧ 2 ^ 64 ≤ FP.Core.b32.tails * 2 ^ (FP.Core.b32.exps - 2) / FP.Core.one32
    decide +kernel
  | fin s c q =>
    obtain ⟨c', q', h1, h2⟩ := f2d_fin hd
    rw [h1]
    refine ⟨rfl, Or.inl ?_⟩
    show FP.Core.inUnits c' q' FP.Core.b64.qmin / 2 ^ 1074 = FP.Core.inUnits c q FP.Core.b32.qmin / 2 ^ 149
    rw [h2, show (1074 : Nat) = 149 + 925 from rfl, Nat.pow_add]
    exact Nat.mul_div_mul_right _ _ (Nat.two_pow_pos 925)
theorem clampE {s : Bool} {m m' : Nat} {lo hi : Int} (h1 : -(2 ^ 64) ≤ lo) (h2 : hi < 2 ^ 64) (h3 : lo ≤ hi) (h : m = m' ∨ (2 ^ 64 ≤ m ∧ 2 ^ 64 ≤ m')) : max lo (min hi (FP.Core.signed s m)) = max lo (min hi (FP.Core.signed s m')) := by
  rcases h with rfl | ⟨a, b⟩
  · rfl
  · cases s <;> simp only [FP.Core.signed] <;> simp <;> omega
theorem f2i_f2d {a : UInt32} (h : FP.Core.val32 a ≠ .nan) : FP.d2i (FP.f2d a) = FP.f2i a := by
  rw [fa_eq]
  show (FP.Core.d2i _).toInt = (FP.Core.f2i _).toInt
  rw [FP.Core.d2i_val (f2d_ok h).2, FP.Core.f2i_val h, (trunc_eq h).1]
  exact clampE (by decide) (by decide) (by decide) (trunc_eq h).2
theorem f2l_f2d {a : UInt32} (h : FP.Core.val32 a ≠ .nan) : FP.d2l (FP.f2d a) = FP.f2l a := by
  rw [fa_eq64]
  show (FP.Core.d2l _).toInt = (FP.Core.f2l _).toInt
  rw [FP.Core.d2l_val (f2d_ok h).2, FP.Core.f2l_val h, (trunc_eq h).1]
  exact clampE (by decide) (by decide) (by decide) (trunc_eq h).2
theorem w01 : q_isWhole 0 = fun _ _ => 1 := by funext a b; rfl
theorem w1 : q_isWhole 1 = fun _ _ => 1 := by funext a b; rfl
theorem w2 : q_isWhole 2 = fun _ _ => 0 := by funext a b; rfl
theorem w3 : q_isWhole 3 = fun _ _ => 0 := by funext a b; rfl
theorem turn_ok {ln : Int32} {b nm : Int64} {rl : UInt64} {to : Int32} (h : okM ln b nm rl) (ht : laneB to = true) : okM to (tn ln b to) (q_turnN ln nm rl to) (q_turnR ln nm rl to) := by
  have ht2 : to = 0 ∨ to = 1 ∨ to = 2 ∨ to = 3 := by
    unfold laneB at ht
    simp only [Bool.and_eq_true, decide_eq_true_eq] at ht
    simp only [fa_eq]
    have h0 : (0 : Int32).toInt = 0 := by decide
    have h1 : (1 : Int32).toInt = 1 := by decide
    have h2 : (2 : Int32).toInt = 2 := by decide
    have h3 : (3 : Int32).toInt = 3 := by decide
    omega
  obtain ⟨hn, h⟩ := h
  rcases h with ⟨rfl, hs, rfl⟩ | ⟨rfl, rfl⟩ | ⟨rfl, hs, hv, rfl⟩ | ⟨rfl, hv, rfl⟩
  · rcases ht2 with rfl | rfl | rfl | rfl
    · exact ⟨by simpa [q_turnR] using hn, Or.inl ⟨rfl, by simpa [tn] using hs, by simp [q_turnN, q_holdW, q_asInt, q_isWhole, tn]; exact hs⟩⟩
    · exact ⟨by simpa [q_turnR] using hn, Or.inr (Or.inl ⟨rfl, by simp [q_turnN, q_holdW, q_asLong, q_isWhole, tn]⟩)⟩
    · have e1 : q_turnR 0 nm rl 2 = FP.f2d (FP.l2f nm) := by simp [q_turnR, q_asReal, q_asFloat, q_isWhole]
      have e2 : tn 0 nm 2 = (FP.l2f nm).toInt32.toInt64 := by simp [tn]
      rw [e1, e2]
      exact ⟨(f2d_ok (l2f_ok _)).2, Or.inr (Or.inr (Or.inl ⟨rfl, fl_sx.1, by rw [fl_sx.2]; exact l2f_ok _, by rw [fl_sx.2]⟩))⟩
    · have e1 : q_turnR 0 nm rl 3 = FP.l2d nm := by simp [q_turnR, q_asReal, q_asDouble, q_isWhole]
      have e2 : tn 0 nm 3 = (FP.l2d nm).toInt64 := by simp [tn]
      rw [e1, e2]
      exact ⟨l2d_ok _, Or.inr (Or.inr (Or.inr ⟨rfl, by rw [db_u]; exact l2d_ok _, by rw [db_u]⟩))⟩
  · rcases ht2 with rfl | rfl | rfl | rfl
    · exact ⟨by simpa [q_turnR] using hn, Or.inl ⟨rfl, by simp [tn]; exact sx_i _, by simp [q_turnN, q_holdW, q_asInt, q_isWhole, tn]⟩⟩
    · exact ⟨by simpa [q_turnR] using hn, Or.inr (Or.inl ⟨rfl, by simp [q_turnN, q_holdW, q_asLong, q_isWhole, tn]⟩)⟩
    · have e1 : q_turnR 1 nm rl 2 = FP.f2d (FP.l2f nm) := by simp [q_turnR, q_asReal, q_asFloat, q_isWhole]
      have e2 : tn 1 nm 2 = (FP.l2f nm).toInt32.toInt64 := by simp [tn]
      rw [e1, e2]
      exact ⟨(f2d_ok (l2f_ok _)).2, Or.inr (Or.inr (Or.inl ⟨rfl, fl_sx.1, by rw [fl_sx.2]; exact l2f_ok _, by rw [fl_sx.2]⟩))⟩
    · have e1 : q_turnR 1 nm rl 3 = FP.l2d nm := by simp [q_turnR, q_asReal, q_asDouble, q_isWhole]
      have e2 : tn 1 nm 3 = (FP.l2d nm).toInt64 := by simp [tn]
      rw [e1, e2]
      exact ⟨l2d_ok _, Or.inr (Or.inr (Or.inr ⟨rfl, by rw [db_u]; exact l2d_ok _, by rw [db_u]⟩))⟩
  · rcases ht2 with rfl | rfl | rfl | rfl
    · exact ⟨by simpa [q_turnR] using hn, Or.inl ⟨rfl, by simp [tn]; exact sx_i _, by simp [q_turnN, q_holdW, q_asInt, q_isWhole, tn, f2i_f2d hv]⟩⟩
    · exact ⟨by simpa [q_turnR] using hn, Or.inr (Or.inl ⟨rfl, by simp [q_turnN, q_holdW, q_asLong, q_isWhole, tn, f2l_f2d hv]⟩)⟩
    · have e1 : q_turnR 2 nm (FP.f2d (fl b)) 2 = FP.f2d (fl b) := by simp [q_turnR, q_asReal, q_asFloat, q_isWhole, d2f_f2d' hv]
      have e2 : tn 2 b 2 = b := by simp [tn]
      rw [e1, e2]
      exact ⟨hn, Or.inr (Or.inr (Or.inl ⟨rfl, hs, hv, rfl⟩))⟩
    · have e1 : q_turnR 2 nm (FP.f2d (fl b)) 3 = FP.f2d (fl b) := by simp [q_turnR, q_asReal, q_asDouble, q_isWhole]
      have e2 : tn 2 b 3 = (FP.f2d (fl b)).toInt64 := by simp [tn]
      rw [e1, e2]
      exact ⟨hn, Or.inr (Or.inr (Or.inr ⟨rfl, by rw [db_u]; exact hn, by rw [db_u]⟩))⟩
  · rcases ht2 with rfl | rfl | rfl | rfl
    · exact ⟨by simpa [q_turnR] using hn, Or.inl ⟨rfl, by simp [tn]; exact sx_i _, by simp [q_turnN, q_holdW, q_asInt, q_isWhole, tn]⟩⟩
    · exact ⟨by simpa [q_turnR] using hn, Or.inr (Or.inl ⟨rfl, by simp [q_turnN, q_holdW, q_asLong, q_isWhole, tn]⟩)⟩
    · have e1 : q_turnR 3 nm (db b) 2 = FP.f2d (FP.d2f (db b)) := by simp [q_turnR, q_asReal, q_asFloat, q_isWhole]
      have e2 : tn 3 b 2 = (FP.d2f (db b)).toInt32.toInt64 := by simp [tn]
      rw [e1, e2]
      exact ⟨(f2d_ok (d2f_ok hv).2).2, Or.inr (Or.inr (Or.inl ⟨rfl, fl_sx.1, by rw [fl_sx.2]; exact (d2f_ok hv).2, by rw [fl_sx.2]⟩))⟩
    · have e1 : q_turnR 3 nm (db b) 3 = db b := by simp [q_turnR, q_asReal, q_asDouble, q_isWhole]
      have e2 : tn 3 b 3 = b := by simp [tn]
      rw [e1, e2]
      exact ⟨hn, Or.inr (Or.inr (Or.inr ⟨rfl, hv, rfl⟩))⟩
