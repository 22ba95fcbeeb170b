/-! logs: what a place lacks; what a log's calls answer and change -/
def pl0 (z i : Int32) : Nat := if z = -1 then 1 else if 0 ≤ i.toInt ∧ i.toInt < z.toInt then 0 else 2
theorem lackc {N : Nat} {z i : Int32} (hN : N < 2 ^ 31) (h : szOK N z) : (pl0 z i = 1 ∧ q_lack z i = 1) ∨ (pl0 z i = 2 ∧ q_lack z i = 2) ∨ ∃ q : Nat, q < N ∧ (q : Int) < z.toInt ∧ pl0 z i = 0 ∧ q_lack z i = 0 ∧ i = nI q := by
  unfold szOK at h
  by_cases h1 : z = -1
  · left
    exact ⟨if_pos h1, if_pos h1⟩
  · right
    have h0 : (0 : Int32).toInt = 0 := by decide
    by_cases h2 : 0 ≤ i.toInt ∧ i.toInt < z.toInt
    · right
      refine ⟨i.toInt.toNat, by omega, by omega, ?_, ?_, ?_⟩
      · unfold pl0
        rw [if_neg h1, if_pos h2]
      · unfold q_lack
        rw [if_neg h1, if_neg (by rw [fa_lt]; omega), if_pos (by rw [fa_lt]; omega)]
      · rw [fa_eq, nI_toInt (by omega)]
        omega
    · left
      refine ⟨?_, ?_⟩
      · unfold pl0
        rw [if_neg h1, if_neg h2]
      · unfold q_lack
        rw [if_neg h1]
        by_cases h3 : i < 0
        · exact if_pos h3
        · rw [if_neg h3]
          exact if_neg (by rw [fa_lt] at h3 ⊢; omega)
def zr (f : Nat → Int64) (b k : Nat) : Nat → Int64 := fun x => if b ≤ x ∧ x < b + k then 0 else f x
def flS {α : Type} (S : α) (X : SX) (k : Nat) : Int32 × α × SX := (-10 - nI k, S, failX X k)
def sp_log (S : SL) (g n : Int32) : Int32 × SL := match ix 8 g with
  | none => (-1001, S)
  | some j => if -1 ≤ n.toInt ∧ n.toInt ≤ 16 then (1, upd S.1 j n, zr S.2 (16 * j) n.toInt.toNat) else (-1002, S)
def sp_write (M : SM) (S : SL) (X : SX) (g i me : Int32) : Int32 × SL × SX := match ix 8 g, ix 10 me with
  | some j, some k => if pl0 (S.1 j) i = 0 then (1, (S.1, vp_updL S.2 (16 * j + i.toInt.toNat) (tn (M.1 k) (M.2 k) (lw j))), goodX X) else flS S X (pl0 (S.1 j) i)
  | none, _ => (-1001, S, X)
  | some _, none => (-1001, S, X)
def sp_read (M : SM) (S : SL) (X : SX) (g i me : Int32) : Int32 × SM × SX := match ix 8 g, ix 10 me with
  | some j, some k => if pl0 (S.1 j) i = 0 then (lw j, setM M k (lw j) (S.2 (16 * j + i.toInt.toNat)), goodX X) else flS M X (pl0 (S.1 j) i)
  | none, _ => (-1001, M, X)
  | some _, none => (-1001, M, X)
def rsF (S : SL) (X : SX) (j a b : Nat) : Int32 × SL × SX := if FP.Core.fIsNaN (FP.frem (fl (S.2 (16 * j + a))) (fl (S.2 (16 * j + b)))) = true then (-15, S, failX X 5) else (1, (S.1, vp_updL S.2 (16 * j + a) (FP.frem (fl (S.2 (16 * j + a))) (fl (S.2 (16 * j + b)))).toInt32.toInt64), goodX X)
def rsD (S : SL) (X : SX) (j a b : Nat) : Int32 × SL × SX := if FP.Core.dIsNaN (FP.drem (db (S.2 (16 * j + a))) (db (S.2 (16 * j + b)))) = true then (-15, S, failX X 5) else (1, (S.1, vp_updL S.2 (16 * j + a) (FP.drem (db (S.2 (16 * j + a))) (db (S.2 (16 * j + b)))).toInt64), goodX X)
def sp_rest (S : SL) (X : SX) (g i k : Int32) : Int32 × SL × SX := match ix 8 g with
  | none => (-1001, S, X)
  | some j => if pl0 (S.1 j) i = 0 then (if pl0 (S.1 j) k = 0 then (if lw j = 2 then rsF S X j i.toInt.toNat k.toInt.toNat else rsD S X j i.toInt.toNat k.toInt.toNat) else flS S X (pl0 (S.1 j) k)) else flS S X (pl0 (S.1 j) i)
def sp_whole (S : SL) (X : SX) (g i : Int32) : Int64 × SX := match ix 8 g with
  | none => (0, X)
  | some j => if pl0 (S.1 j) i = 0 then (tn (lw j) (S.2 (16 * j + i.toInt.toNat)) 1, goodX X) else (0, failX X (pl0 (S.1 j) i))
def mn (a b : Int32) : Int32 := if b < a then b else a
def cpy (S : SL) (i j k : Nat) : Nat → Int64 := fun x => if 16 * j ≤ x ∧ x < 16 * j + k then tn (lw i) (S.2 (16 * i + (x - 16 * j))) (lw j) else S.2 x
def cp (S : SL) (X : SX) (i j : Nat) : Int32 × SL × SX := if S.1 i = -1 then (-11, S, failX X 1) else if S.1 i = 0 then (0, S, goodX X) else if S.1 j = -1 then (-11, S, failX X 1) else (mn (S.1 i) (S.1 j), (S.1, cpy S i j (mn (S.1 i) (S.1 j)).toInt.toNat), if mn (S.1 i) (S.1 j) < S.1 i then failX X 2 else goodX X)
def sp_copy (S : SL) (X : SX) (d f bk : Int32) : Int32 × SL × SX := match ix 8 d, ix 8 f with
  | some i, some j => if 4 ≤ i ∧ j < 4 then (if bk = 0 then cp S X i j else cp S X j i) else (-1001, S, X)
  | none, _ => (-1001, S, X)
  | some _, none => (-1001, S, X)
theorem lwc (j : Nat) : lw j = 2 ∨ lw j = 3 := by
  unfold lw
  split
  · exact Or.inl rfl
  · exact Or.inr rfl
theorem lw2 (j : Nat) : lw j = 2 ↔ j < 4 := by
  unfold lw
  by_cases h : j < 4
  · simp [h]
  · rw [if_neg h]
    exact ⟨fun q => absurd q (by decide), fun q => absurd q h⟩
theorem lw3 (j : Nat) : lw j = 3 ↔ 4 ≤ j := by
  unfold lw
  by_cases h : j < 4
  · rw [if_pos h]
    exact ⟨fun q => absurd q (by decide), fun q => by omega⟩
  · rw [if_neg h]
    exact ⟨fun _ => by omega, fun _ => rfl⟩
theorem okR.ne {ln : Int32} {b : Int64} {v : UInt64} (h : okR ln b v) : FP.Core.val64 v ≠ .nan := by
  rcases h with ⟨-, -, h, rfl⟩ | ⟨-, h, rfl⟩
  · exact (f2d_ok h).2
  · exact h
theorem okR.okM {ln : Int32} {b nm : Int64} {v : UInt64} (h : okR ln b v) : okM ln b nm v := ⟨h.ne, Or.inr (Or.inr h)⟩
theorem okR_zero (ln : Int32) (h : ln = 2 ∨ ln = 3) : okR ln 0 0 := by
  rcases h with rfl | rfl
  · exact Or.inl ⟨rfl, by unfold sx; decide, by decide +kernel, by decide +kernel⟩
  · exact Or.inr ⟨rfl, by decide +kernel, by decide +kernel⟩
theorem okR_turn {ln : Int32} {b nm : Int64} {rl : UInt64} {to : Int32} (h : okM ln b nm rl) (hm : to = 2 ∨ to = 3) : okR to (tn ln b to) (q_asReal ln nm rl to) := by
  rcases hm with rfl | rfl
  · obtain ⟨-, ⟨q, -⟩ | ⟨q, -⟩ | q⟩ := turn_ok (to := 2) h (by decide)
    · exact absurd q (by decide)
    · exact absurd q (by decide)
    · simpa [q_turnR] using q
  · obtain ⟨-, ⟨q, -⟩ | ⟨q, -⟩ | q⟩ := turn_ok (to := 3) h (by decide)
    · exact absurd q (by decide)
    · exact absurd q (by decide)
    · simpa [q_turnR] using q
theorem okR_copy {ln : Int32} {b : Int64} {v : UInt64} {to : Int32} (h : okR ln b v) (hm : to = 2 ∨ to = 3) : okR to (tn ln b to) (if to = 2 then FP.f2d (FP.d2f v) else v) := by
  have h1 := okR_turn (h.okM (nm := 0)) hm
  have hl : ln = 2 ∨ ln = 3 := by
    rcases h with ⟨h, -⟩ | ⟨h, -⟩
    · exact Or.inl h
    · exact Or.inr h
  have e : q_asReal ln 0 v to = if to = 2 then FP.f2d (FP.d2f v) else v := by
    rcases hl with rfl | rfl <;> rcases hm with rfl | rfl <;> simp [q_asReal, q_asFloat, q_asDouble, q_isWhole]
  rw [← e]
  exact h1
theorem okR_whole {ln : Int32} {b : Int64} {v : UInt64} (h : okR ln b v) : FP.d2l v = tn ln b 1 := by
  rcases h with ⟨rfl, -, h, rfl⟩ | ⟨rfl, h, rfl⟩
  · rw [f2l_f2d h]
    rfl
  · rfl
theorem upid {α : Type} {F : Nat → α} {a : Nat} {x : α} (h : F a = x) : va_up F a x = F := by
  funext i
  unfold va_up
  by_cases q : i = a
  · subst q
    rw [if_pos rfl]
    exact h.symm
  · rw [if_neg q]
section RL
variable {cy : Nat → ClassId} {L : List Nat} {o : Nat} {qa : Nat → Nat → Nat} {M : SM} {D : SD} {S : SL} {P : SP} {K : SR} {B : SB} {X : SX} {F : Nat → va_E}
/-- another row of a log -/
theorem Rep.row (h : Rep cy L o qa M D S P K B X F) {j : Nat} (hj : j < 8) {f : Nat → UInt64} {g : Nat → Int64} (hg : ∀ x, (x < 16 * j ∨ 16 * j + 16 ≤ x) → g x = S.2 x) (hok : ∀ i : Nat, (i : Int) < (S.1 j).toInt → okR (lw j) (g (16 * j + i)) (f i)) : Rep cy L o qa M D (S.1, g) P K B X (va_up F (qa 3 j) (cD (cy 0) 16 f)) := by
  obtain ⟨h1, h2, h3, h4, h5, h6, h7, h8, h9⟩ := h
  obtain ⟨m1, m2, m3, m4, f0, m5, m6⟩ := h5 j hj
  have hk : ∀ n, n ≠ 1083 → pk (F (qa 3 j)) ≠ n := fun n hn => by rw [m5]; exact Ne.symm hn
  refine ⟨h1.keep (hk _ (by decide)) (hk _ (by decide)) (hk _ (by decide)), h2.keep (hk _ (by decide)) (hk _ (by decide)) (hk _ (by decide)) (hk _ (by decide)) (hk _ (by decide)), h3.keep (hk _ (by decide)), h4.keep (hk _ (by decide)), fun i hi => ?_, h6.keep (hk _ (by decide)), h7.keep (hk _ (by decide)) (hk _ (by decide)), h8.keep (hk _ (by decide)), h9⟩
  obtain ⟨q1, q2, q3, q4, f1, q5, q6⟩ := h5 i hi
  refine ⟨q1, q2, up_k q3 rfl (hk 3 (by decide)), q4, ?_⟩
  by_cases hij : i = j
  · subst hij
    exact ⟨f, va_up_self _ _ _, hok⟩
  · have hne : qa 3 i ≠ qa 3 j := fun q => hij (h9.2.2.2.1 i j hi hj q)
    refine ⟨f1, by rw [va_up_ne _ _ hne]; exact q5, fun (k : Nat) (hk1 : (k : Int) < (S.1 i).toInt) => ?_⟩
    rw [show (S.1, g).2 (16 * i + k) = S.2 (16 * i + k) from hg _ (by unfold szOK at q4; omega)]
    exact q6 k hk1
/-- another size of a log, with a row that fits -/
theorem Rep.logz (h : Rep cy L o qa M D S P K B X F) {j : Nat} (hj : j < 8) {n : Int32} (hn : szOK 16 n) {g : Nat → Int64} {f : Nat → UInt64} (hg : ∀ x, (x < 16 * j ∨ 16 * j + 16 ≤ x) → g x = S.2 x) (hok : ∀ i : Nat, (i : Int) < n.toInt → okR (lw j) (g (16 * j + i)) (f i)) : Rep cy L o qa M D (upd S.1 j n, g) P K B X (va_up (va_up F (qa 3 j) (cD (cy 0) 16 f)) (qa 2 j) (.inr (3, [.int n, .int (lw j), .ref (qa 3 j)]))) := by
  obtain ⟨h1, h2, h3, h4, h5, h6, h7, h8, h9⟩ := h
  obtain ⟨m1, m2, m3, m4, f0, m5, m6⟩ := h5 j hj
  have hk : ∀ n, n ≠ 1083 → pk (F (qa 3 j)) ≠ n := fun n hn => by rw [m5]; exact Ne.symm hn
  have hF1 : va_up F (qa 3 j) (cD (cy 0) 16 f) (qa 2 j) = F (qa 2 j) := va_up_ne _ _ (k_ne m3 rfl (hk 3 (by decide)))
  have hk2 : ∀ n, n ≠ 3 → pk (va_up F (qa 3 j) (cD (cy 0) 16 f) (qa 2 j)) ≠ n := fun n hn => by rw [hF1, m3]; exact Ne.symm hn
  refine ⟨(h1.keep (hk _ (by decide)) (hk _ (by decide)) (hk _ (by decide))).keep (hk2 _ (by decide)) (hk2 _ (by decide)) (hk2 _ (by decide)), (h2.keep (hk _ (by decide)) (hk _ (by decide)) (hk _ (by decide)) (hk _ (by decide)) (hk _ (by decide))).keep (hk2 _ (by decide)) (hk2 _ (by decide)) (hk2 _ (by decide)) (hk2 _ (by decide)) (hk2 _ (by decide)), (h3.keep (hk _ (by decide))).keep (hk2 _ (by decide)), (h4.keep (hk _ (by decide))).keep (hk2 _ (by decide)), fun i hi => ?_, (h6.keep (hk _ (by decide))).keep (hk2 _ (by decide)), (h7.keep (hk _ (by decide)) (hk _ (by decide))).keep (hk2 _ (by decide)) (hk2 _ (by decide)), (h8.keep (hk _ (by decide))).keep (hk2 _ (by decide)), h9⟩
  obtain ⟨q1, q2, q3, q4, f1, q5, q6⟩ := h5 i hi
  by_cases hij : i = j
  · subst hij
    rw [show (upd S.1 i n, g).1 i = n from pk_us]
    exact ⟨q1, q2, va_up_self _ _ _, hn, f, up_k (va_up_self _ _ _) rfl (hk2 1083 (by decide)), hok⟩
  · have hne : qa 3 i ≠ qa 3 j := fun q => hij (h9.2.2.2.1 i j hi hj q)
    have hne2 : qa 2 i ≠ qa 2 j := fun q => hij (h9.2.2.1 i j hi hj q)
    rw [show (upd S.1 j n, g).1 i = S.1 i from pk_un hij]
    refine ⟨q1, q2, by rw [va_up_ne _ _ hne2]; exact up_k q3 rfl (hk 3 (by decide)), q4, f1, up_k (by rw [va_up_ne _ _ hne]; exact q5) rfl (hk2 1083 (by decide)), fun k hk1 => ?_⟩
    rw [show (upd S.1 j n, g).2 (16 * i + k) = S.2 (16 * i + k) from hg _ (by unfold szOK at q4; omega)]
    exact q6 k hk1
/-- one place of a log's row -/
theorem Rep.cellR (h : Rep cy L o qa M D S P K B X F) {j q : Nat} (hj : j < 8) (hq : q < 16) {f : Nat → UInt64} (hF : F (qa 3 j) = cD (cy 0) 16 f) (hok : ∀ i : Nat, (i : Int) < (S.1 j).toInt → okR (lw j) (S.2 (16 * j + i)) (f i)) {b : Int64} {v : UInt64} (ok : okR (lw j) b v) : Rep cy L o qa M D (S.1, vp_updL S.2 (16 * j + q) b) P K B X (va_up F (qa 3 j) (cD (cy 0) 16 (vf_upd f (nI q).toNatClampNeg v))) := by
  refine h.row hj (fun x hx => ?_) (fun i hi => ?_)
  · exact pk_uLn (by omega)
  · rw [nI_clamp (by omega)]
    unfold vp_updL vf_upd
    by_cases e : i = q
    · subst e
      rw [if_pos rfl, if_pos rfl]
      exact ok
    · rw [if_neg (by omega), if_neg e]
      exact hok i hi
end RL
section PG2
variable {p : Program} {l : Launch} {e : Env} {R : Room} {s : State} {m : MethodId} {args : Array Value} {below : List Frame} {meth : Method} {c : Code} {H : Heap} {locs : List Loc} {cells slots : Nat} {Q : State → Prop}
variable {cc : ByteArray} {pc : Nat} {ls : Array Slot} {rest : List Value} {D : va_G} {cl : List vw_C} {A : Nat → Prop} {a : Nat} {tys : List (ClassId × FieldType)} {L : List Nat} {F : Nat → va_E} {H0 : Heap}
theorem pg_alen (hexec : p.tables.exec = Jvm.exec) (hb : c.code = cc) (hK : va_K D cl tys s) (hP : va_P D cl (va_pl L F) H) (t0 : Nat) (hm : a ∈ L) {cA : ClassId} {x : vp_A} (he : F a = .inl (cA, x)) {ty : FieldType} (ht : tys[t0]? = some (cA, ty)) {v : Int32} (hv : Int32.ofNat x.1 = v) (hdg : decode cc pc = .ok (.arraylength, 1))
    (kk : W p l e R s m args below meth c H locs cells slots Q (F0 m (pc + 1) ls (.int v :: rest))) : W p l e R s m args below meth c H locs cells slots Q (F0 m pc ls (.ref a :: rest)) := by
  obtain ⟨q0, h0⟩ := pl_ix hm he
  exact va_alen hexec hb hK hP q0 t0 h0 ht hv hdg kk
end PG2
theorem nI_tn {q : Nat} (h : q < 2 ^ 31) : (nI q).toInt.toNat = q := by rw [nI_toInt h]; rfl
