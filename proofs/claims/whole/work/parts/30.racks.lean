/-! racks, spools, brakes: what their calls answer and change -/
def zI (f : Nat → Int32) (b k : Nat) : Nat → Int32 := fun x => if b ≤ x ∧ x < b + k then -1 else f x
def flX (X : SX) (k : Nat) : Int32 × SX := (-10 - nI k, failX X k)
def sp_rack (K : SR) (g al n : Int32) : Int32 × SR := match ix 5 g with
  | none => (-1001, K)
  | some j => if -1 ≤ n.toInt ∧ n.toInt ≤ 12 then (1, upd K.1 j n, upd K.2.1 j al, zI K.2.2 (12 * j) n.toInt.toNat) else (-1002, K)
def sp_put (P : SP) (K : SR) (X : SX) (g i x : Int32) : Int32 × SR × SX := match ix 5 g with
  | none => (-1001, K, X)
  | some j => if x = -1 ∨ (0 ≤ x.toInt ∧ x.toInt < P.1.toInt) then (if pl0 (K.1 j) i = 0 then (if ¬ x = -1 ∧ P.2.2 x.toInt.toNat = 0 ∧ ¬ K.2.1 j = 0 then flS K X 3 else (1, (K.1, K.2.1, upd K.2.2 (12 * j + i.toInt.toNat) x), goodX X)) else flS K X (pl0 (K.1 j) i)) else (-1001, K, X)
def sp_at (K : SR) (X : SX) (g i : Int32) : Int32 × SX := match ix 5 g with
  | none => (-1001, X)
  | some j => if pl0 (K.1 j) i = 0 then (K.2.2 (12 * j + i.toInt.toNat), goodX X) else flX X (pl0 (K.1 j) i)
def wtX (P : SP) (X : SX) (x re : Int32) : Int32 × SX := if x = -1 then flX X 1 else if ¬ re = 0 ∧ P.2.2 x.toInt.toNat = 0 then flX X 3 else (if re = 0 then P.2.1 x.toInt.toNat else 2 * P.2.1 x.toInt.toNat + 1, goodX X)
def sp_weight (P : SP) (K : SR) (X : SX) (g i re : Int32) : Int32 × SX := match ix 5 g with
  | none => (-1001, X)
  | some j => if pl0 (K.1 j) i = 0 then wtX P X (K.2.2 (12 * j + i.toInt.toNat)) re else flX X (pl0 (K.1 j) i)
def sp_spool (P : SP) (w re : Int32) : Int32 × SP := if 0 ≤ w.toInt ∧ w.toInt ≤ 100000 then (if P.1 = 30 then (-1003, P) else (P.1, P.1 + 1, upd P.2.1 P.1.toInt.toNat w, upd P.2.2 P.1.toInt.toNat re)) else (-1002, P)
def sp_brake (B : SB) (g so : Int32) (b : Int64) : Int32 × SB := match ix 4 g with
  | none => (-1001, B)
  | some j => if 0 ≤ so.toInt ∧ so.toInt ≤ 2 then (if so = 2 then (1, upd B.1 j 2, vf_upd B.2 j 0) else if numB 3 b = true then (1, upd B.1 j so, vf_upd B.2 j (db b)) else (-1002, B)) else (-1002, B)
def slw (M : SM) (X : SX) (so : Int32) (v g : UInt64) (j : Nat) : Int32 × SM × SX := if so = 2 then (-11, M, failX X 1) else if so = 0 then (if FP.Core.dIsNaN (FP.drem v g) = true then (-15, M, failX X 5) else (1, setM M j 3 (FP.drem v g).toInt64, goodX X)) else (if FP.Core.dIsNaN (FP.ddiv v g) = true then (-15, M, failX X 5) else (1, setM M j 3 (FP.f2d (FP.d2f (FP.ddiv v g))).toInt64, goodX X))
def sp_slow (M : SM) (B : SB) (X : SX) (g me : Int32) : Int32 × SM × SX := match ix 4 g, ix 10 me with
  | some i, some j => slw M X (B.1 i) (db (tn (M.1 j) (M.2 j) 3)) (B.2 i) j
  | none, _ => (-1001, M, X)
  | some _, none => (-1001, M, X)
def sp_count (P : SP) (X : SX) (w : Int32) : Int32 := if w = 0 then P.1 else if 1 ≤ w.toInt ∧ w.toInt ≤ 5 then X.2 w.toInt.toNat else -1002
theorem spc (P x : Int32) : x = -1 ∨ (∃ k : Nat, (k : Int) < P.toInt ∧ x = nI k) ∨ (¬ x = -1 ∧ ¬ (0 ≤ x.toInt ∧ x.toInt < P.toInt)) := by
  by_cases h : x = -1
  · exact Or.inl h
  · right
    by_cases q : 0 ≤ x.toInt ∧ x.toInt < P.toInt
    · left
      have := fb_rng x
      exact ⟨x.toInt.toNat, by omega, by rw [fa_eq, nI_toInt (by omega)]; omega⟩
    · exact Or.inr ⟨h, q⟩
theorem nI_neg {k : Nat} (h : k < 2 ^ 31) : ¬ nI k = -1 := by
  rw [fa_eq, nI_toInt h]
  have : (-1 : Int32).toInt = -1 := by decide
  omega
section RK2
variable {cy : Nat → ClassId} {L : List Nat} {o : Nat} {qa : Nat → Nat → Nat} {M : SM} {D : SD} {S : SL} {P : SP} {K : SR} {B : SB} {X : SX} {F : Nat → va_E}
/-- another row of a rack -/
theorem Rep.rowK (h : Rep cy L o qa M D S P K B X F) {j : Nat} (hj : j < 5) {f : Nat → Option Nat} {g : Nat → Int32} (hg : ∀ x, (x < 12 * j ∨ 12 * j + 12 ≤ x) → g x = K.2.2 x) (hok : ∀ i : Nat, (i : Int) < (K.1 j).toInt → okS qa P (g (12 * j + i)) (f i)) : Rep cy L o qa M D S P (K.1, K.2.1, g) B X (va_up F (qa 5 j) (cQ (cy 9) 12 f)) := by
  obtain ⟨h1, h2, h3, h4, h5, h6, h7, h8, h9⟩ := h
  obtain ⟨m1, m2, m3, m4, m5, f0, m6, m7⟩ := h7 j hj
  have hk : ∀ n, n ≠ 1064 → pk (F (qa 5 j)) ≠ n := fun n hn => by rw [m6]; exact Ne.symm hn
  refine ⟨h1.keep (hk _ (by decide)) (hk _ (by decide)) (hk _ (by decide)), h2.keep (hk _ (by decide)) (hk _ (by decide)) (hk _ (by decide)) (hk _ (by decide)) (hk _ (by decide)), h3.keep (hk _ (by decide)), h4.keep (hk _ (by decide)), h5.keep (hk _ (by decide)) (hk _ (by decide)), h6.keep (hk _ (by decide)), fun i hi => ?_, h8.keep (hk _ (by decide)), h9⟩
  obtain ⟨q1, q2, q3, q4, q5, f1, q6, q7⟩ := h7 i hi
  refine ⟨q1, q2, up_k q3 rfl (hk 5 (by decide)), q4, q5, ?_⟩
  by_cases hij : i = j
  · subst hij
    exact ⟨f, va_up_self _ _ _, hok⟩
  · have hne : qa 5 i ≠ qa 5 j := fun q => hij (h9.2.2.2.2.2.1 i j hi hj q)
    refine ⟨f1, by rw [va_up_ne _ _ hne]; exact q6, fun (k : Nat) (hk1 : (k : Int) < (K.1 i).toInt) => ?_⟩
    rw [show (K.1, K.2.1, g).2.2 (12 * i + k) = K.2.2 (12 * i + k) from hg _ (by unfold szOK at q5; omega)]
    exact q7 k hk1
theorem Rep.rackz (h : Rep cy L o qa M D S P K B X F) {j : Nat} (hj : j < 5) {n al : Int32} (hn : szOK 12 n) (hal : al = 0 ∨ al = 1) {g : Nat → Int32} {f : Nat → Option Nat} (hg : ∀ x, (x < 12 * j ∨ 12 * j + 12 ≤ x) → g x = K.2.2 x) (hok : ∀ i : Nat, (i : Int) < n.toInt → okS qa P (g (12 * j + i)) (f i)) : Rep cy L o qa M D S P (upd K.1 j n, upd K.2.1 j al, g) B X (va_up (va_up F (qa 5 j) (cQ (cy 9) 12 f)) (qa 4 j) (.inr (5, [.int n, .ref (qa 5 j), .int al]))) := by
  obtain ⟨h1, h2, h3, h4, h5, h6, h7, h8, h9⟩ := h
  obtain ⟨m1, m2, m3, m4, m5, f0, m6, m7⟩ := h7 j hj
  have hk : ∀ n, n ≠ 1064 → pk (F (qa 5 j)) ≠ n := fun n hn => by rw [m6]; exact Ne.symm hn
  have hF1 : va_up F (qa 5 j) (cQ (cy 9) 12 f) (qa 4 j) = F (qa 4 j) := va_up_ne _ _ (k_ne m3 rfl (hk 5 (by decide)))
  have hk2 : ∀ n, n ≠ 5 → pk (va_up F (qa 5 j) (cQ (cy 9) 12 f) (qa 4 j)) ≠ n := fun n hn => by rw [hF1, m3]; exact Ne.symm hn
  refine ⟨(h1.keep (hk _ (by decide)) (hk _ (by decide)) (hk _ (by decide))).keep (hk2 _ (by decide)) (hk2 _ (by decide)) (hk2 _ (by decide)), (h2.keep (hk _ (by decide)) (hk _ (by decide)) (hk _ (by decide)) (hk _ (by decide)) (hk _ (by decide))).keep (hk2 _ (by decide)) (hk2 _ (by decide)) (hk2 _ (by decide)) (hk2 _ (by decide)) (hk2 _ (by decide)), (h3.keep (hk _ (by decide))).keep (hk2 _ (by decide)), (h4.keep (hk _ (by decide))).keep (hk2 _ (by decide)), (h5.keep (hk _ (by decide)) (hk _ (by decide))).keep (hk2 _ (by decide)) (hk2 _ (by decide)), (h6.keep (hk _ (by decide))).keep (hk2 _ (by decide)), fun i hi => ?_, (h8.keep (hk _ (by decide))).keep (hk2 _ (by decide)), h9⟩
  obtain ⟨q1, q2, q3, q4, q5, f1, q6, q7⟩ := h7 i hi
  by_cases hij : i = j
  · subst hij
    rw [show (upd K.1 i n, upd K.2.1 i al, g).1 i = n from pk_us, show (upd K.1 i n, upd K.2.1 i al, g).2.1 i = al from pk_us]
    exact ⟨q1, q2, va_up_self _ _ _, hal, hn, f, up_k (va_up_self _ _ _) rfl (hk2 1064 (by decide)), hok⟩
  · have hne : qa 5 i ≠ qa 5 j := fun q => hij (h9.2.2.2.2.2.1 i j hi hj q)
    have hne2 : qa 4 i ≠ qa 4 j := fun q => hij (h9.2.2.2.2.1 i j hi hj q)
    rw [show (upd K.1 j n, upd K.2.1 j al, g).1 i = K.1 i from pk_un hij, show (upd K.1 j n, upd K.2.1 j al, g).2.1 i = K.2.1 i from pk_un hij]
    refine ⟨q1, q2, by rw [va_up_ne _ _ hne2]; exact up_k q3 rfl (hk 5 (by decide)), q4, q5, f1, up_k (by rw [va_up_ne _ _ hne]; exact q6) rfl (hk2 1064 (by decide)), fun k hk1 => ?_⟩
    rw [show (upd K.1 j n, upd K.2.1 j al, g).2.2 (12 * i + k) = K.2.2 (12 * i + k) from hg _ (by unfold szOK at q5; omega)]
    exact q7 k hk1
theorem Rep.cellK (h : Rep cy L o qa M D S P K B X F) {j q : Nat} (hj : j < 5) (hq : q < 12) {f : Nat → Option Nat} (hok : ∀ i : Nat, (i : Int) < (K.1 j).toInt → okS qa P (K.2.2 (12 * j + i)) (f i)) {x : Int32} {r : Option Nat} (ok : okS qa P x r) : Rep cy L o qa M D S P (K.1, K.2.1, upd K.2.2 (12 * j + q) x) B X (va_up F (qa 5 j) (cQ (cy 9) 12 (va_up f (nI q).toNatClampNeg r))) := by
  refine h.rowK hj (fun y hy => ?_) (fun i hi => ?_)
  · exact pk_un (by omega)
  · rw [nI_clamp (by omega)]
    by_cases e : i = q
    · subst e
      rw [show upd K.2.2 (12 * j + i) x (12 * j + i) = x from pk_us, va_up_self]
      exact ok
    · rw [show upd K.2.2 (12 * j + q) x (12 * j + i) = K.2.2 (12 * j + i) from pk_un (by omega), va_up_ne _ _ e]
      exact hok i hi
theorem Rep.brake (h : Rep cy L o qa M D S P K B X F) {j : Nat} (hj : j < 4) {so : Int32} {g g' : UInt64} (ok : okB so g g') : Rep cy L o qa M D S P K (upd B.1 j so, vf_upd B.2 j g') X (va_up F (qa 6 j) (.inr (0, [.int so, .double g]))) := by
  obtain ⟨h1, h2, h3, h4, h5, h6, h7, h8, h9⟩ := h
  obtain ⟨m1, g0, m2, m3⟩ := h8 j hj
  have hk : ∀ n, n ≠ 0 → pk (F (qa 6 j)) ≠ n := fun n hn => by rw [m2]; exact Ne.symm hn
  refine ⟨h1.keep (hk _ (by decide)) (hk _ (by decide)) (hk _ (by decide)), h2.keep (hk _ (by decide)) (hk _ (by decide)) (hk _ (by decide)) (hk _ (by decide)) (hk _ (by decide)), h3.keep (hk _ (by decide)), h4.keep (hk _ (by decide)), h5.keep (hk _ (by decide)) (hk _ (by decide)), h6.keep (hk _ (by decide)), h7.keep (hk _ (by decide)) (hk _ (by decide)), fun i hi => ?_, h9⟩
  obtain ⟨q1, g1, q2, q3⟩ := h8 i hi
  refine ⟨q1, ?_⟩
  by_cases hij : i = j
  · subst hij
    rw [show (upd B.1 i so, vf_upd B.2 i g').1 i = so from pk_us, show (upd B.1 i so, vf_upd B.2 i g').2 i = g' from if_pos rfl]
    exact ⟨g, va_up_self _ _ _, ok⟩
  · have hne : qa 6 i ≠ qa 6 j := fun q => hij (h9.2.2.2.2.2.2 i j hi hj q)
    rw [show (upd B.1 j so, vf_upd B.2 j g').1 i = B.1 i from pk_un hij, show (upd B.1 j so, vf_upd B.2 j g').2 i = B.2 i from if_neg hij]
    exact ⟨g1, by rw [va_up_ne _ _ hne]; exact q2, q3⟩
end RK2
