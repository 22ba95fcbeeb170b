/-! what the class's cells hold, said by the reference's numbers -/
theorem Met.weak {l : Launch} {y : MethodName} {ws : List Cond} {rm : Room} {Pc Pc' : Array Value → State → Prop} {Qc Qc' : Array Value → State → Outcome → State → Prop} {mc ms : Nat} {free free' : Addr → Prop} (h : Met l y ws rm Pc Qc mc ms free) (hP : ∀ a s, Pc' a s → Pc a s) (hQ : ∀ a s o t, Pc' a s → Qc a s o t → Qc' a s o t) (hf : ∀ q, free q → free' q) : Met l y ws rm Pc' Qc' mc ms free' := by
  intro p e h1 h2 h3 s m args below hf' happ hp hk
  obtain ⟨n, o, a1, a2, a3, hq, L, hL, hfr⟩ := h p e h1 h2 h3 s m args below hf' happ (hP _ _ hp) hk
  exact ⟨n, o, a1, a2, a3, hQ _ _ _ _ hp hq, L, hL, fun q hq => hf _ (hfr q hq)⟩
/-- an index of n places -/
def ix (n : Nat) (x : Int32) : Option Nat := if 0 ≤ x.toInt ∧ x.toInt < (n : Int) then some x.toInt.toNat else none
theorem ixc (n : Nat) (x : Int32) : ix n x = none ∨ ∃ j, j < n ∧ ix n x = some j ∧ x = nI j := by
  unfold ix
  by_cases h : 0 ≤ x.toInt ∧ x.toInt < (n : Int)
  · right
    refine ⟨x.toInt.toNat, by omega, if_pos h, ?_⟩
    have hx := fb_rng x
    rw [fa_eq, nI_toInt (by omega)]
    omega
  · left
    exact if_neg h
theorem ixj {n j : Nat} (h : j < n) (hn : n < 2 ^ 31) : ix n (nI j) = some j := by
  unfold ix
  have := nI_toInt (n := j) (by omega)
  rw [if_pos (by omega), this]
  rfl
theorem ixn {n : Nat} {x : Int32} (h : ix n x = none) : x.toInt < 0 ∨ (n : Int) ≤ x.toInt := by
  unfold ix at h
  by_cases q : 0 ≤ x.toInt ∧ x.toInt < (n : Int)
  · rw [if_pos q] at h; cases h
  · omega
def pR (n : Nat) (f : Nat → Nat) : Nat → Option Nat := fun i => if i < n then some (f i) else none
theorem pR_at {n j : Nat} {f : Nat → Nat} (h : j < n) (hn : n < 2 ^ 31) : pR n f (nI j).toNatClampNeg = some (f j) := by
  rw [nI_clamp (by omega)]
  exact if_pos h
theorem pR_up {n : Nat} {f : Nat → Nat} {q : Nat} : va_up (pR n f) n (some q) = pR (n + 1) (va_up f n q) := by
  funext i
  unfold pR va_up
  by_cases h1 : i = n
  · subst h1; simp
  · by_cases h2 : i < n
    · simp [h1, h2, show i < n + 1 by omega]
    · simp [h1, h2, show ¬ i < n + 1 by omega]
/-- a float's bits, a double's bits, as the reference holds them -/
def fl (b : Int64) : UInt32 := b.toInt32.toUInt32
def db (b : Int64) : UInt64 := b.toUInt64
def sx (b : Int64) : Prop := b.toInt32.toInt64 = b
def okV (ln : Int32) (b : Int64) : Prop := (ln = 0 ∧ sx b) ∨ ln = 1 ∨ (ln = 2 ∧ sx b ∧ FP.Core.val32 (fl b) ≠ .nan) ∨ (ln = 3 ∧ FP.Core.val64 (db b) ≠ .nan)
/-- a float or a double that is held as v -/
def okR (ln : Int32) (b : Int64) (v : UInt64) : Prop := (ln = 2 ∧ sx b ∧ FP.Core.val32 (fl b) ≠ .nan ∧ v = FP.f2d (fl b)) ∨ (ln = 3 ∧ FP.Core.val64 (db b) ≠ .nan ∧ v = db b)
def okM (ln : Int32) (b nm : Int64) (rl : UInt64) : Prop := FP.Core.val64 rl ≠ .nan ∧ ((ln = 0 ∧ sx b ∧ nm = b) ∨ (ln = 1 ∧ nm = b) ∨ okR ln b rl)
abbrev SM : Type := (Nat → Int32) × (Nat → Int64)
abbrev SD : Type := (Nat → UInt64) × (Nat → UInt64) × (Nat → UInt64) × (Nat → Int64)
abbrev SL : Type := (Nat → Int32) × (Nat → Int64)
abbrev SP : Type := Int32 × (Nat → Int32) × (Nat → Int32)
abbrev SR : Type := (Nat → Int32) × (Nat → Int32) × (Nat → Int32)
abbrev SB : Type := (Nat → Int32) × (Nat → UInt64)
abbrev SX : Type := Int32 × (Nat → Int32)
def lw (j : Nat) : Int32 := if j < 4 then 2 else 3
def RO (cy : Nat → ClassId) (L : List Nat) (o : Nat) (qa : Nat → Nat → Nat) (P : SP) (X : SX) (F : Nat → va_E) : Prop := (o ∈ L ∧ F o = .inr (7, [.ref (qa 8 0), .ref (qa 8 1), .ref (qa 8 2), .ref (qa 8 3), .ref (qa 8 4), .ref (qa 8 5), .ref (qa 8 6), .int P.1, .int X.1])) ∧ (qa 8 6 ∈ L ∧ F (qa 8 6) = cI (cy 1) 6 X.2) ∧ (qa 8 3 ∈ L ∧ F (qa 8 3) = cQ (cy 9) 30 (pR P.1.toInt.toNat (qa 7)))
def RA (cy : Nat → ClassId) (L : List Nat) (qa : Nat → Nat → Nat) (F : Nat → va_E) : Prop := (qa 8 0 ∈ L ∧ F (qa 8 0) = cQ (cy 7) 10 (pR 10 (qa 0))) ∧ (qa 8 1 ∈ L ∧ F (qa 8 1) = cQ (cy 5) 6 (pR 6 (qa 1))) ∧ (qa 8 2 ∈ L ∧ F (qa 8 2) = cQ (cy 6) 8 (pR 8 (qa 2))) ∧ (qa 8 4 ∈ L ∧ F (qa 8 4) = cQ (cy 8) 5 (pR 5 (qa 4))) ∧ (qa 8 5 ∈ L ∧ F (qa 8 5) = cQ (cy 4) 4 (pR 4 (qa 6)))
def RM (L : List Nat) (qa : Nat → Nat → Nat) (M : SM) (F : Nat → va_E) : Prop := ∀ j, j < 10 → qa 0 j ∈ L ∧ ∃ nm rl, F (qa 0 j) = .inr (4, [.int (M.1 j), .long nm, .double rl]) ∧ okM (M.1 j) (M.2 j) nm rl
def okD (ar at_ ro : UInt64) : Prop := (FP.Core.DFin ar ∧ ¬ FP.Core.DZero ar ∧ ar.toNat % 2 ^ 63 ≤ 4696837146684686336) ∧ (FP.Core.DFin at_ ∧ at_.toNat % 2 ^ 63 ≤ 4696837146684686336) ∧ FP.Core.val64 ro ≠ .nan
def RD (L : List Nat) (qa : Nat → Nat → Nat) (D : SD) (F : Nat → va_E) : Prop := ∀ j, j < 6 → qa 1 j ∈ L ∧ F (qa 1 j) = .inr (1, [.double (D.1 j), .double (D.2.1 j), .double (D.2.2.1 j), .long (D.2.2.2 j)]) ∧ okD (D.1 j) (D.2.1 j) (D.2.2.1 j)
def szOK (n : Nat) (x : Int32) : Prop := -1 ≤ x.toInt ∧ x.toInt ≤ (n : Int)
def RG (cy : Nat → ClassId) (L : List Nat) (qa : Nat → Nat → Nat) (S : SL) (F : Nat → va_E) : Prop := ∀ j, j < 8 → qa 2 j ∈ L ∧ qa 3 j ∈ L ∧ F (qa 2 j) = .inr (3, [.int (S.1 j), .int (lw j), .ref (qa 3 j)]) ∧ szOK 16 (S.1 j) ∧ ∃ f, F (qa 3 j) = cD (cy 0) 16 f ∧ ∀ i : Nat, (i : Int) < (S.1 j).toInt → okR (lw j) (S.2 (16 * j + i)) (f i)
def RP (L : List Nat) (qa : Nat → Nat → Nat) (P : SP) (F : Nat → va_E) : Prop := (0 ≤ P.1.toInt ∧ P.1.toInt ≤ 30) ∧ ∀ k : Nat, (k : Int) < P.1.toInt → qa 7 k ∈ L ∧ F (qa 7 k) = .inr (6, [.int (nI k), .int (P.2.1 k), .int (P.2.2 k)]) ∧ (P.2.2 k = 0 ∨ P.2.2 k = 1) ∧ 0 ≤ (P.2.1 k).toInt ∧ (P.2.1 k).toInt ≤ 100000
def okS (qa : Nat → Nat → Nat) (P : SP) (x : Int32) (r : Option Nat) : Prop := (x = -1 ∧ r = none) ∨ ∃ k : Nat, (k : Int) < P.1.toInt ∧ x = nI k ∧ r = some (qa 7 k)
def RR (cy : Nat → ClassId) (L : List Nat) (qa : Nat → Nat → Nat) (P : SP) (K : SR) (F : Nat → va_E) : Prop := ∀ j, j < 5 → qa 4 j ∈ L ∧ qa 5 j ∈ L ∧ F (qa 4 j) = .inr (5, [.int (K.1 j), .ref (qa 5 j), .int (K.2.1 j)]) ∧ (K.2.1 j = 0 ∨ K.2.1 j = 1) ∧ szOK 12 (K.1 j) ∧ ∃ f, F (qa 5 j) = cQ (cy 9) 12 f ∧ ∀ i : Nat, (i : Int) < (K.1 j).toInt → okS qa P (K.2.2 (12 * j + i)) (f i)
def okB (s : Int32) (g g' : UInt64) : Prop := s = 2 ∨ ((s = 0 ∨ s = 1) ∧ g = g' ∧ FP.Core.val64 g' ≠ .nan)
def RB (L : List Nat) (qa : Nat → Nat → Nat) (B : SB) (F : Nat → va_E) : Prop := ∀ j, j < 4 → qa 6 j ∈ L ∧ ∃ g, F (qa 6 j) = .inr (0, [.int (B.1 j), .double g]) ∧ okB (B.1 j) g (B.2 j)
/-- the addresses of a kind are apart -/
def RI (qa : Nat → Nat → Nat) (P : SP) : Prop := (∀ i j, i < 10 → j < 10 → qa 0 i = qa 0 j → i = j) ∧ (∀ i j, i < 6 → j < 6 → qa 1 i = qa 1 j → i = j) ∧ (∀ i j, i < 8 → j < 8 → qa 2 i = qa 2 j → i = j) ∧ (∀ i j, i < 8 → j < 8 → qa 3 i = qa 3 j → i = j) ∧ (∀ i j, i < 5 → j < 5 → qa 4 i = qa 4 j → i = j) ∧ (∀ i j, i < 5 → j < 5 → qa 5 i = qa 5 j → i = j) ∧ (∀ i j, i < 4 → j < 4 → qa 6 i = qa 6 j → i = j)
def Rep (cy : Nat → ClassId) (L : List Nat) (o : Nat) (qa : Nat → Nat → Nat) (M : SM) (D : SD) (S : SL) (P : SP) (K : SR) (B : SB) (X : SX) (F : Nat → va_E) : Prop := RO cy L o qa P X F ∧ RA cy L qa F ∧ RM L qa M F ∧ RD L qa D F ∧ RG cy L qa S F ∧ RP L qa P F ∧ RR cy L qa P K F ∧ RB L qa B F ∧ RI qa P
section RK
variable {cy : Nat → ClassId} {L : List Nat} {o : Nat} {qa : Nat → Nat → Nat} {M : SM} {D : SD} {S : SL} {P : SP} {K : SR} {B : SB} {X : SX} {F : Nat → va_E} {a : Nat} {e : va_E}
theorem k_ne {F : Nat → va_E} {a b : Nat} {x : va_E} {n : Nat} (hb : F b = x) (hx : pk x = n) (ha : pk (F a) ≠ n) : b ≠ a := by
  intro q
  subst q
  rw [hb] at ha
  exact ha hx
theorem up_k {x : va_E} {n b : Nat} (hb : F b = x) (hx : pk x = n) (ha : pk (F a) ≠ n) : va_up F a e b = x := by
  rw [va_up_ne _ _ (k_ne hb hx ha)]
  exact hb
theorem RO.keep (h : RO cy L o qa P X F) (h1 : pk (F a) ≠ 7) (h2 : pk (F a) ≠ 1030) (h3 : pk (F a) ≠ 1154) : RO cy L o qa P X (va_up F a e) := ⟨⟨h.1.1, up_k h.1.2 rfl h1⟩, ⟨h.2.1.1, up_k h.2.1.2 rfl h2⟩, h.2.2.1, up_k h.2.2.2 rfl h3⟩
theorem RA.keep (h : RA cy L qa F) (h1 : pk (F a) ≠ 1054) (h2 : pk (F a) ≠ 1034) (h3 : pk (F a) ≠ 1044) (h4 : pk (F a) ≠ 1029) (h5 : pk (F a) ≠ 1024) : RA cy L qa (va_up F a e) := ⟨⟨h.1.1, up_k h.1.2 rfl h1⟩, ⟨h.2.1.1, up_k h.2.1.2 rfl h2⟩, ⟨h.2.2.1.1, up_k h.2.2.1.2 rfl h3⟩, ⟨h.2.2.2.1.1, up_k h.2.2.2.1.2 rfl h4⟩, h.2.2.2.2.1, up_k h.2.2.2.2.2 rfl h5⟩
theorem RM.keep (h : RM L qa M F) (h1 : pk (F a) ≠ 4) : RM L qa M (va_up F a e) := fun j hj => by
  obtain ⟨q1, nm, rl, q2, q3⟩ := h j hj
  exact ⟨q1, nm, rl, up_k q2 rfl h1, q3⟩
theorem RD.keep (h : RD L qa D F) (h1 : pk (F a) ≠ 1) : RD L qa D (va_up F a e) := fun j hj => by
  obtain ⟨q1, q2, q3⟩ := h j hj
  exact ⟨q1, up_k q2 rfl h1, q3⟩
theorem RG.keep (h : RG cy L qa S F) (h1 : pk (F a) ≠ 3) (h2 : pk (F a) ≠ 1083) : RG cy L qa S (va_up F a e) := fun j hj => by
  obtain ⟨q1, q2, q3, q4, f, q5, q6⟩ := h j hj
  exact ⟨q1, q2, up_k q3 rfl h1, q4, f, up_k q5 rfl h2, q6⟩
theorem RP.keep (h : RP L qa P F) (h1 : pk (F a) ≠ 6) : RP L qa P (va_up F a e) := ⟨h.1, fun k hk => by
  obtain ⟨q1, q2, q3⟩ := h.2 k hk
  exact ⟨q1, up_k q2 rfl h1, q3⟩⟩
theorem RR.keep (h : RR cy L qa P K F) (h1 : pk (F a) ≠ 5) (h2 : pk (F a) ≠ 1064) : RR cy L qa P K (va_up F a e) := fun j hj => by
  obtain ⟨q1, q2, q3, q4, q5, f, q6, q7⟩ := h j hj
  exact ⟨q1, q2, up_k q3 rfl h1, q4, q5, f, up_k q6 rfl h2, q7⟩
theorem RB.keep (h : RB L qa B F) (h1 : pk (F a) ≠ 0) : RB L qa B (va_up F a e) := fun j hj => by
  obtain ⟨q1, g, q2, q3⟩ := h j hj
  exact ⟨q1, g, up_k q2 rfl h1, q3⟩
/-- another number in a meter -/
theorem Rep.meter (h : Rep cy L o qa M D S P K B X F) {j : Nat} (hj : j < 10) {ln : Int32} {b nm : Int64} {rl : UInt64} (ok : okM ln b nm rl) : Rep cy L o qa (upd M.1 j ln, vp_updL M.2 j b) D S P K B X (va_up F (qa 0 j) (.inr (4, [.int ln, .long nm, .double rl]))) := by
  obtain ⟨h1, h2, h3, h4, h5, h6, h7, h8, h9⟩ := h
  obtain ⟨m1, nm0, rl0, m2, m3⟩ := h3 j hj
  have hk : ∀ n, n ≠ 4 → pk (F (qa 0 j)) ≠ n := fun n hn => by rw [m2]; exact Ne.symm hn
  refine ⟨h1.keep (hk _ (by decide)) (hk _ (by decide)) (hk _ (by decide)), h2.keep (hk _ (by decide)) (hk _ (by decide)) (hk _ (by decide)) (hk _ (by decide)) (hk _ (by decide)), fun i hi => ?_, h4.keep (hk _ (by decide)), h5.keep (hk _ (by decide)) (hk _ (by decide)), h6.keep (hk _ (by decide)), h7.keep (hk _ (by decide)) (hk _ (by decide)), h8.keep (hk _ (by decide)), h9⟩
  obtain ⟨q1, nm1, rl1, q2, q3⟩ := h3 i hi
  refine ⟨q1, ?_⟩
  by_cases hij : i = j
  · subst hij
    exact ⟨nm, rl, by rw [va_up_self, show (upd M.1 i ln, vp_updL M.2 i b).1 i = ln from pk_us], by rw [show (upd M.1 i ln, vp_updL M.2 i b).1 i = ln from pk_us, show (upd M.1 i ln, vp_updL M.2 i b).2 i = b from pk_uLs]; exact ok⟩
  · have hne : qa 0 i ≠ qa 0 j := fun q => hij (h9.1 i j hi hj q)
    exact ⟨nm1, rl1, by rw [va_up_ne _ _ hne, show (upd M.1 j ln, vp_updL M.2 j b).1 i = M.1 i from pk_un hij]; exact q2, by rw [show (upd M.1 j ln, vp_updL M.2 j b).1 i = M.1 i from pk_un hij, show (upd M.1 j ln, vp_updL M.2 j b).2 i = M.2 i from pk_uLn hij]; exact q3⟩
/-- what the latest call that may fail did -/
theorem Rep.fails (h : Rep cy L o qa M D S P K B X F) {x : Int32} {f : Nat → Int32} : Rep cy L o qa M D S P K B (x, f) (va_up (va_up F (qa 8 6) (cI (cy 1) 6 f)) o (.inr (7, [.ref (qa 8 0), .ref (qa 8 1), .ref (qa 8 2), .ref (qa 8 3), .ref (qa 8 4), .ref (qa 8 5), .ref (qa 8 6), .int P.1, .int x]))) := by
  obtain ⟨h1, h2, h3, h4, h5, h6, h7, h8, h9⟩ := h
  have hk : ∀ n, n ≠ 1030 → pk (F (qa 8 6)) ≠ n := fun n hn => by rw [h1.2.1.2]; exact Ne.symm hn
  have hF1 : va_up F (qa 8 6) (cI (cy 1) 6 f) o = F o := va_up_ne _ _ (k_ne h1.1.2 rfl (hk 7 (by decide)))
  have hk2 : ∀ n, n ≠ 7 → pk (va_up F (qa 8 6) (cI (cy 1) 6 f) o) ≠ n := fun n hn => by rw [hF1, h1.1.2]; exact Ne.symm hn
  refine ⟨⟨⟨h1.1.1, va_up_self _ _ _⟩, ⟨h1.2.1.1, ?_⟩, h1.2.2.1, up_k (n := 1154) (up_k (n := 1154) h1.2.2.2 rfl (hk _ (by decide))) rfl (hk2 _ (by decide))⟩, ?_, ?_, ?_, ?_, ?_, ?_, ?_, h9⟩
  · exact up_k (n := 1030) (va_up_self _ _ _) rfl (hk2 _ (by decide))
  · exact (h2.keep (hk _ (by decide)) (hk _ (by decide)) (hk _ (by decide)) (hk _ (by decide)) (hk _ (by decide))).keep (hk2 _ (by decide)) (hk2 _ (by decide)) (hk2 _ (by decide)) (hk2 _ (by decide)) (hk2 _ (by decide))
  · exact (h3.keep (hk _ (by decide))).keep (hk2 _ (by decide))
  · exact (h4.keep (hk _ (by decide))).keep (hk2 _ (by decide))
  · exact (h5.keep (hk _ (by decide)) (hk _ (by decide))).keep (hk2 _ (by decide)) (hk2 _ (by decide))
  · exact (h6.keep (hk _ (by decide))).keep (hk2 _ (by decide))
  · exact (h7.keep (hk _ (by decide)) (hk _ (by decide))).keep (hk2 _ (by decide)) (hk2 _ (by decide))
  · exact (h8.keep (hk _ (by decide))).keep (hk2 _ (by decide))
theorem Rep.good (h : Rep cy L o qa M D S P K B X F) {x : Int32} : Rep cy L o qa M D S P K B (x, X.2) (va_up F o (.inr (7, [.ref (qa 8 0), .ref (qa 8 1), .ref (qa 8 2), .ref (qa 8 3), .ref (qa 8 4), .ref (qa 8 5), .ref (qa 8 6), .int P.1, .int x]))) := by
  obtain ⟨h1, h2, h3, h4, h5, h6, h7, h8, h9⟩ := h
  have hk2 : ∀ n, n ≠ 7 → pk (F o) ≠ n := fun n hn => by rw [h1.1.2]; exact Ne.symm hn
  exact ⟨⟨⟨h1.1.1, va_up_self _ _ _⟩, ⟨h1.2.1.1, up_k (n := 1030) h1.2.1.2 rfl (hk2 _ (by decide))⟩, h1.2.2.1, up_k (n := 1154) h1.2.2.2 rfl (hk2 _ (by decide))⟩, h2.keep (hk2 _ (by decide)) (hk2 _ (by decide)) (hk2 _ (by decide)) (hk2 _ (by decide)) (hk2 _ (by decide)), h3.keep (hk2 _ (by decide)), h4.keep (hk2 _ (by decide)), h5.keep (hk2 _ (by decide)) (hk2 _ (by decide)), h6.keep (hk2 _ (by decide)), h7.keep (hk2 _ (by decide)) (hk2 _ (by decide)), h8.keep (hk2 _ (by decide)), h9⟩
end RK
