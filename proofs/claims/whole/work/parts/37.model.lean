/-! the reference's side: its cells hold the numbers themselves -/
section PG4
variable {p : Program} {l : Launch} {e : Env} {R : Room} {s : State} {m : MethodId} {args : Array Value} {below : List Frame} {meth : Method} {c : Code} {H : Heap} {locs : List Loc} {cells slots : Nat} {Q : State → Prop}
variable {cc : ByteArray} {pc : Nat} {ls : Array Slot} {rest : List Value} {D : va_G} {cl : List vw_C} {A : Nat → Prop} {a : Nat} {tys : List (ClassId × FieldType)} {L : List Nat} {F : Nat → va_E} {H0 : Heap}
theorem pg_lald (hexec : p.tables.exec = Jvm.exec) (hb : c.code = cc) (hK : va_K D cl tys s) (hP : va_P D cl (va_pl L F) H) (t0 : Nat) (hm : a ∈ L) {cA : ClassId} {n : Nat} {f : Nat → Int64} (he : F a = cJ cA n f) (ht : tys[t0]? = some (cA, .long)) {i : Int32} (hin : vp_in i n) (hdg : decode cc pc = .ok (.laload, 1))
    (kk : W p l e R s m args below meth c H locs cells slots Q (F0 m (pc + 1) ls (.long (f i.toNatClampNeg) :: rest))) : W p l e R s m args below meth c H locs cells slots Q (F0 m pc ls (.int i :: .ref a :: rest)) := by
  obtain ⟨q0, h0⟩ := pl_ix hm he
  exact va_lald hexec hb hK hP q0 t0 h0 ht hin hdg kk
theorem pg_zald (hexec : p.tables.exec = Jvm.exec) (hb : c.code = cc) (hK : va_K D cl tys s) (hP : va_P D cl (va_pl L F) H) (t0 : Nat) (hm : a ∈ L) {cA : ClassId} {n : Nat} {f : Nat → Int32} (he : F a = cI cA n f) (ht : tys[t0]? = some (cA, .boolean)) {i : Int32} (hin : vp_in i n) (hdg : decode cc pc = .ok (.baload, 1))
    (kk : W p l e R s m args below meth c H locs cells slots Q (F0 m (pc + 1) ls (.int (f i.toNatClampNeg) :: rest))) : W p l e R s m args below meth c H locs cells slots Q (F0 m pc ls (.int i :: .ref a :: rest)) := by
  obtain ⟨q0, h0⟩ := pl_ix hm he
  exact va_zald hexec hb hK hP q0 t0 h0 ht hin hdg kk
theorem pg_last (hexec : p.tables.exec = Jvm.exec) (hb : c.code = cc) (hK : va_K D cl tys s) (hP : va_P D cl (va_pl L F) H) (hD : pD A L) (hS : va_S A H0 H locs) (t0 : Nat) (hm : a ∈ L) {cA : ClassId} {n : Nat} {f : Nat → Int64} (he : F a = cJ cA n f) (ht : tys[t0]? = some (cA, .long)) {i : Int32} {x : Int64} (hin : vp_in i n) (hdg : decode cc pc = .ok (.lastore, 1))
    (kk : ∀ (H1 : Heap) (locs1 : List Loc) (F1 : Nat → va_E), F1 = va_up F a (cJ cA n (vp_updL f i.toNatClampNeg x)) → va_P D cl (va_pl L F1) H1 → va_S A H0 H1 locs1 → W p l e R s m args below meth c H1 locs1 cells slots Q (F0 m (pc + 1) ls rest)) : W p l e R s m args below meth c H locs cells slots Q (F0 m pc ls (.long x :: .int i :: .ref a :: rest)) := by
  obtain ⟨q0, h0⟩ := pl_ix hm he
  exact va_last hexec hb hK hP (hD.of F) hS q0 t0 h0 ht hin hdg (fun H1 locs1 hP1 _ hS1 => kk H1 locs1 _ rfl (pl_setA hD hm he h0 hP1) hS1)
theorem pg_zast (hexec : p.tables.exec = Jvm.exec) (hb : c.code = cc) (hK : va_K D cl tys s) (hP : va_P D cl (va_pl L F) H) (hD : pD A L) (hS : va_S A H0 H locs) (t0 : Nat) (hm : a ∈ L) {cA : ClassId} {n : Nat} {f : Nat → Int32} (he : F a = cI cA n f) (ht : tys[t0]? = some (cA, .boolean)) {i x : Int32} (hx01 : x = 0 ∨ x = 1) (hin : vp_in i n) (hdg : decode cc pc = .ok (.bastore, 1))
    (kk : ∀ (H1 : Heap) (locs1 : List Loc) (F1 : Nat → va_E), F1 = va_up F a (cI cA n (upd f i.toNatClampNeg x)) → va_P D cl (va_pl L F1) H1 → va_S A H0 H1 locs1 → W p l e R s m args below meth c H1 locs1 cells slots Q (F0 m (pc + 1) ls rest)) : W p l e R s m args below meth c H locs cells slots Q (F0 m pc ls (.int x :: .int i :: .ref a :: rest)) := by
  obtain ⟨q0, h0⟩ := pl_ix hm he
  have hx : vp_nar .boolean x = x := by
    rcases hx01 with rfl | rfl <;> rfl
  exact va_zast hexec hb hK hP (hD.of F) hS q0 t0 h0 ht hin hdg (fun H1 locs1 hP1 _ hS1 => kk H1 locs1 _ rfl (by rw [hx] at hP1; exact pl_setA hD hm he h0 hP1) hS1)
end PG4
abbrev fo9 (qm : Nat → Nat) (th sp fa : Int32) (oc : Int64) : List Value := [.int th, .ref (qm 0), .ref (qm 1), .ref (qm 2), .ref (qm 3), .ref (qm 4), .ref (qm 5), .ref (qm 6), .ref (qm 7), .int sp, .ref (qm 8), .ref (qm 9), .ref (qm 10), .ref (qm 11), .ref (qm 12), .ref (qm 13), .ref (qm 14), .int fa, .ref (qm 15), .long oc]
def ne9 (qm : Nat → Nat) : Prop := qm 2 ≠ qm 3 ∧ qm 2 ≠ qm 4 ∧ qm 3 ≠ qm 4 ∧ qm 8 ≠ qm 9 ∧ qm 10 ≠ qm 11
def RepM (cy : Nat → ClassId) (L : List Nat) (o : Nat) (qm : Nat → Nat) (M : SM) (D : SD) (S : SL) (P : SP) (K : SR) (B : SB) (X : SX) (F : Nat → va_E) : Prop := (∃ (th : Int32) (oc : Int64), Has L F o (.inr (8, fo9 qm th P.1 X.1 oc))) ∧ Has L F (qm 0) (cI (cy 1) 10 M.1) ∧ Has L F (qm 1) (cJ (cy 2) 10 M.2) ∧ Has L F (qm 2) (cD (cy 0) 6 D.1) ∧ Has L F (qm 3) (cD (cy 0) 6 D.2.1) ∧ Has L F (qm 4) (cD (cy 0) 6 D.2.2.1) ∧ Has L F (qm 5) (cJ (cy 2) 6 D.2.2.2) ∧ Has L F (qm 6) (cI (cy 1) 8 S.1) ∧ Has L F (qm 7) (cJ (cy 2) 128 S.2) ∧ Has L F (qm 8) (cI (cy 1) 30 P.2.1) ∧ Has L F (qm 9) (cI (cy 3) 30 P.2.2) ∧ Has L F (qm 10) (cI (cy 1) 5 K.1) ∧ Has L F (qm 11) (cI (cy 3) 5 K.2.1) ∧ Has L F (qm 12) (cI (cy 1) 60 K.2.2) ∧ Has L F (qm 13) (cI (cy 1) 4 B.1) ∧ Has L F (qm 14) (cD (cy 0) 4 B.2) ∧ Has L F (qm 15) (cI (cy 1) 6 X.2) ∧ ne9 qm
def VM (M : SM) : Prop := ∀ j, j < 10 → okV (M.1 j) (M.2 j)
def VD (D : SD) : Prop := ∀ j, j < 6 → okD (D.1 j) (D.2.1 j) (D.2.2.1 j)
def VS (S : SL) : Prop := ∀ j, j < 8 → szOK 16 (S.1 j) ∧ ∀ i : Nat, (i : Int) < (S.1 j).toInt → okV (lw j) (S.2 (16 * j + i))
def VP (P : SP) : Prop := (0 ≤ P.1.toInt ∧ P.1.toInt ≤ 30) ∧ ∀ k : Nat, (k : Int) < P.1.toInt → (P.2.2 k = 0 ∨ P.2.2 k = 1)
def VK (P : SP) (K : SR) : Prop := ∀ j, j < 5 → (K.2.1 j = 0 ∨ K.2.1 j = 1) ∧ szOK 12 (K.1 j) ∧ ∀ i : Nat, (i : Int) < (K.1 j).toInt → K.2.2 (12 * j + i) = -1 ∨ ∃ k : Nat, (k : Int) < P.1.toInt ∧ K.2.2 (12 * j + i) = nI k
def VB (B : SB) : Prop := ∀ j, j < 4 → B.1 j = 2 ∨ ((B.1 j = 0 ∨ B.1 j = 1) ∧ FP.Core.val64 (B.2 j) ≠ .nan)
def Val (M : SM) (D : SD) (S : SL) (P : SP) (K : SR) (B : SB) : Prop := VM M ∧ VD D ∧ VS S ∧ VP P ∧ VK P K ∧ VB B
theorem okR.okV {ln : Int32} {b : Int64} {v : UInt64} (h : okR ln b v) : okV ln b := by
  rcases h with ⟨h1, h2, h3, -⟩ | ⟨h1, h2, -⟩
  · exact Or.inr (Or.inr (Or.inl ⟨h1, h2, h3⟩))
  · exact Or.inr (Or.inr (Or.inr ⟨h1, h2⟩))
theorem Rep.val {cy : Nat → ClassId} {L : List Nat} {o : Nat} {qa : Nat → Nat → Nat} {M : SM} {D : SD} {S : SL} {P : SP} {K : SR} {B : SB} {X : SX} {F : Nat → va_E} (h : Rep cy L o qa M D S P K B X F) : Val M D S P K B := by
  obtain ⟨h1, h2, h3, h4, h5, h6, h7, h8, h9⟩ := h
  refine ⟨fun j hj => ?_, fun j hj => (h4 j hj).2.2, fun j hj => ?_, ⟨h6.1, fun k hk => (h6.2 k hk).2.2.1⟩, fun j hj => ?_, fun j hj => ?_⟩
  · obtain ⟨-, nm, rl, -, q⟩ := h3 j hj
    exact q.okV
  · obtain ⟨-, -, -, q4, f, -, q6⟩ := h5 j hj
    exact ⟨q4, fun i hi => (q6 i hi).okV⟩
  · obtain ⟨-, -, -, q4, q5, f, -, q7⟩ := h7 j hj
    refine ⟨q4, q5, fun i hi => ?_⟩
    rcases q7 i hi with ⟨z, -⟩ | ⟨k, k1, k2, -⟩
    · exact Or.inl z
    · exact Or.inr ⟨k, k1, k2⟩
  · obtain ⟨-, g, -, q | ⟨q1, q2, q3⟩⟩ := h8 j hj
    · exact Or.inl q
    · exact Or.inr ⟨q1, q3⟩
theorem nI16 (j q : Nat) : (16 : Int32) * nI j + nI q = nI (16 * j + q) := by
  show Int32.ofNat 16 * Int32.ofNat j + Int32.ofNat q = Int32.ofNat (16 * j + q)
  rw [Int32.ofNat_add, Int32.ofNat_mul]
theorem nI12 (j q : Nat) : (12 : Int32) * nI j + nI q = nI (12 * j + q) := by
  show Int32.ofNat 12 * Int32.ofNat j + Int32.ofNat q = Int32.ofNat (12 * j + q)
  rw [Int32.ofNat_add, Int32.ofNat_mul]
def inq (x a b : Int64) : Int32 := if a.toInt ≤ x.toInt ∧ x.toInt ≤ b.toInt then 1 else 0
theorem inq_i {x : Int32} {a b : Int64} {y z : Int} (ha : a.toInt = y) (hb : b.toInt = z) : inq x.toInt64 a b = if y ≤ x.toInt ∧ x.toInt ≤ z then 1 else 0 := by
  unfold inq
  rw [Int32.toInt_toInt64, ha, hb]
def isx (n : Nat) (x : Int32) : Int32 := match ix n x with
  | none => 0
  | some _ => 1
theorem inx {n : Nat} {x : Int32} {a b : Int64} (ha : a.toInt = 0) (hb : b.toInt = (n : Int) - 1) : inq x.toInt64 a b = isx n x := by
  rw [inq_i ha hb]
  unfold isx ix
  by_cases h : 0 ≤ x.toInt ∧ x.toInt < (n : Int)
  · rw [if_pos h, if_pos (by omega)]
  · rw [if_neg h, if_neg (by omega)]
theorem sn64 {b : Int64} (h : FP.Core.val64 (db b) ≠ .nan) : vn_snl2d b = false := by
  have h1 := (FP.Core.ne_nan _).mp h
  rw [← FP.Core.mask_toNat] at h1
  unfold vn_snl2d
  rw [Bool.and_eq_false_iff]
  left
  rw [decide_eq_false_iff_not]
  intro q
  have q2 := UInt64.lt_iff_toNat_lt.mp q
  have : (9218868437227405312 : UInt64).toNat = 9218868437227405312 := rfl
  unfold db at h1
  omega
theorem sn32 {b : Int64} (h : FP.Core.val32 (fl b) ≠ .nan) : vn_sni2f b.toInt32 = false := by
  have h1 := (FP.Core.ne_nan32 _).mp h
  rw [← FP.Core.mask_toNat32] at h1
  unfold vn_sni2f
  rw [Bool.and_eq_false_iff]
  left
  rw [decide_eq_false_iff_not]
  intro q
  have q2 := UInt32.lt_iff_toNat_lt.mp q
  have : (2139095040 : UInt32).toNat = 2139095040 := rfl
  unfold fl at h1
  omega
theorem fcmpk {a b : UInt32} (ha : FP.Core.val32 a ≠ .nan) (hb : FP.Core.val32 b ≠ .nan) : FP.fcmp a b = some (compare (FP.Core.fkey a) (FP.Core.fkey b)) := FP.Core.fcmp_key ha hb
theorem eq_iff32 {a b : UInt32} (ha : FP.Core.val32 a ≠ .nan) (hb : FP.Core.val32 b ≠ .nan) {op : CmpOp} : Op.cmpValue (FP.fcmp a b) op = 0 ↔ FP.Core.fkey a = FP.Core.fkey b := by
  rw [fcmpk ha hb, cv_eq]
theorem z_iff32 {x : UInt32} (hn : FP.Core.val32 x ≠ .nan) {op : CmpOp} : Op.cmpValue (FP.fcmp x FP.fconst0) op = 0 ↔ x.toNat % 2 ^ 31 = 0 := by
  have hlt := UInt32.toNat_lt x
  have h0 : FP.Core.val32 FP.fconst0 ≠ .nan := by decide +kernel
  have k0 : FP.Core.fkey FP.fconst0 = 0 := by decide +kernel
  rw [fcmpk hn h0, cv_eq, k0]
  unfold FP.Core.fkey
  split <;> omega
theorem keyE32 {a b : UInt32} (h1 : a.toNat % 2 ^ 31 = 2139095040) (h2 : b.toNat % 2 ^ 31 = 2139095040) : FP.Core.fkey a = FP.Core.fkey b ↔ (2 ^ 31 ≤ a.toNat ↔ 2 ^ 31 ≤ b.toNat) := by
  have la := UInt32.toNat_lt a
  have lb := UInt32.toNat_lt b
  unfold FP.Core.fkey
  by_cases c1 : 2 ^ 31 ≤ a.toNat
  · rw [if_pos c1]
    by_cases c2 : 2 ^ 31 ≤ b.toNat
    · rw [if_pos c2]
      exact ⟨fun _ => ⟨fun _ => c2, fun _ => c1⟩, fun _ => by omega⟩
    · rw [if_neg c2]
      exact ⟨fun h => by omega, fun h => absurd (h.mp c1) c2⟩
  · rw [if_neg c1]
    by_cases c2 : 2 ^ 31 ≤ b.toNat
    · rw [if_pos c2]
      exact ⟨fun h => by omega, fun h => absurd (h.mpr c2) c1⟩
    · rw [if_neg c2]
      exact ⟨fun _ => ⟨fun h => absurd h c1, fun h => absurd h c2⟩, fun _ => by omega⟩
