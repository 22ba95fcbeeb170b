/-! pools, kinds of cells, joins, loops: own rows over the kit's -/
abbrev cI (c : ClassId) (n : Nat) (f : Nat → Int32) : va_E := .inl (c, n, .inl f)
abbrev cJ (c : ClassId) (n : Nat) (f : Nat → Int64) : va_E := .inl (c, n, .inr (.inl f))
abbrev cD (c : ClassId) (n : Nat) (f : Nat → UInt64) : va_E := .inl (c, n, .inr (.inr (.inr (.inl f))))
abbrev cQ (c : ClassId) (n : Nat) (f : Nat → Option Nat) : va_E := .inl (c, n, .inr (.inr (.inr (.inr f))))
def pk (e : va_E) : Nat := match e with
  | .inl (_, n, .inl _) => 1000 + 5 * n
  | .inl (_, n, .inr (.inl _)) => 1001 + 5 * n
  | .inl (_, n, .inr (.inr (.inl _))) => 1002 + 5 * n
  | .inl (_, n, .inr (.inr (.inr (.inl _)))) => 1003 + 5 * n
  | .inl (_, n, .inr (.inr (.inr (.inr _)))) => 1004 + 5 * n
  | .inr (c, _) => c
theorem pl_ne {F : Nat → va_E} {a b : Nat} {x y : va_E} (hb : F b = y) (ha : F a = x) (h : Nat.beq (pk y) (pk x) = false) : b ≠ a := by
  intro e
  subst e
  rw [ha] at hb
  subst hb
  have : Nat.beq (pk x) (pk x) = true := Nat.beq_refl _
  rw [this] at h
  cases h
theorem pl_ix {L : List Nat} {F : Nat → va_E} {a : Nat} {x : va_E} (hm : a ∈ L) (hF : F a = x) : ∃ k : Nat, (va_pl L F)[k]? = some (a, x) := by
  obtain ⟨k, hk⟩ := va_pl_get (X := []) (f := F) hm
  exact ⟨k, by rw [← hF]; exact hk⟩
/-- the pool's addresses are apart, and of a kind -/
def pD (A : Nat → Prop) (L : List Nat) : Prop := (∀ (i j a : Nat), L[i]? = some a → L[j]? = some a → i = j) ∧ ∀ a ∈ L, A a
theorem pD.of {A : Nat → Prop} {L : List Nat} (h : pD A L) (F : Nat → va_E) : va_D A (va_pl L F) := by
  have key : ∀ (k : Nat) (q : Nat × va_E), (va_pl L F)[k]? = some q → L[k]? = some q.1 := by
    intro k q hk
    simp only [va_pl, List.getElem?_map] at hk
    cases hb : L[k]? with
    | none => rw [hb] at hk; cases hk
    | some b =>
      rw [hb] at hk
      have := Option.some.inj hk
      rw [← this]
  refine ⟨fun i j x y hx hy hxy => h.1 i j x.1 (key i x hx) (by rw [hxy]; exact key j y hy), fun k q hk => h.2 _ (List.mem_of_getElem? (key k q hk))⟩
theorem pD.to {A : Nat → Prop} {L : List Nat} {F : Nat → va_E} (h : va_D A (va_pl L F)) : pD A L := by
  have key : ∀ (k a : Nat), L[k]? = some a → (va_pl L F)[k]? = some (a, F a) := by
    intro k a hk
    simp only [va_pl, List.getElem?_map, hk]
    rfl
  refine ⟨fun i j a hi hj => h.1 i j _ _ (key i a hi) (key j a hj) rfl, fun a ha => ?_⟩
  obtain ⟨k, hk⟩ := List.getElem?_of_mem ha
  exact h.2 k _ (key k a hk)
theorem pA_mem {L : List Nat} {F : Nat → va_E} {sz a : Nat} (h : a ∈ L) : va_A (va_pl L F) sz a := by
  obtain ⟨k, hk⟩ := pl_ix (F := F) h rfl
  exact Or.inl ⟨k, _, hk⟩
theorem pD.self {A : Nat → Prop} {L : List Nat} (h : pD A L) (F : Nat → va_E) (sz : Nat) : pD (va_A (va_pl L F) sz) L := ⟨h.1, fun _ ha => pA_mem ha⟩
theorem pD.top {A : Nat → Prop} {L : List Nat} (h : pD A L) : pD (fun _ => True) L := ⟨h.1, fun _ _ => trivial⟩
theorem pl_free {A : Nat → Prop} {L : List Nat} {F : Nat → va_E} {H0 H : Heap} {locs : List Loc} (hD : pD A L) (hS : va_S A H0 H locs) (hA : ∀ q, H0.size ≤ q → A q) : ∀ q, va_A (va_pl L F) H.size q → A q := by
  intro q h
  rcases h with ⟨k, e, h⟩ | h
  · exact (hD.of F).2 k (q, e) h
  · exact hA q (Nat.le_trans hS.1 h)
theorem upup {α : Type} (f : Nat → α) (a : Nat) (x y : α) : va_up (va_up f a x) a y = va_up f a y := by
  funext j
  by_cases h : j = a <;> simp [va_up, h]
abbrev pTys (cy : Nat → ClassId) : List (ClassId × FieldType) := [(cy 0, .double), (cy 1, .int), (cy 2, .long), (cy 3, .boolean), (cy 4, .object "RopeDrums$Brake"), (cy 5, .object "RopeDrums$Drum"), (cy 6, .object "RopeDrums$Log"), (cy 7, .object "RopeDrums$Meter"), (cy 8, .object "RopeDrums$Rack"), (cy 9, .object "RopeDrums$Spool")]
/-- what a method is given of a state: said of its tables and a heap -/
def pOK (B : State → Heap → Prop) : Prop := (∀ (U V : State) (H : Heap), U.vm = V.vm → B U H → B V H) ∧ ∀ (U V : State) (H : Heap), U.WarmedH V.vm → B U H → B V H
theorem preS_of {B : State → Heap → Prop} {s : State} {H : Heap} {As : List Value} (ok : pOK B) (h : B s H) : PreS s H (va_Pc As (fun U => B U U.heap)) As :=
  ⟨fun _ U g mk q => ⟨q.1, ok.1 U (U.calling g mk _) U.heap rfl q.2⟩, fun U hU hW => ⟨rfl, by show B U U.heap; rw [hU]; exact ok.2 s U H hW h⟩⟩
theorem preV_of {B : State → Heap → Prop} {s : State} {H : Heap} {C : String} {b : Addr} {As : List Value} (ok : pOK B) (h : B s H) (hr : ∃ cellB : Cell, H[b]? = some cellB ∧ cellB.vm.isStatics = false ∧ s.vm.findClass C = some cellB.cls) : PreV s H C b (va_Pc (.ref b :: As) (fun U => B U U.heap)) As :=
  ⟨fun _ U g mk q => ⟨q.1, ok.1 U (U.calling g mk _) U.heap rfl q.2⟩, hr, fun U hU hW => ⟨rfl, by show B U U.heap; rw [hU]; exact ok.2 s U H hW h⟩⟩
theorem alike_eq {U V : State} (h : U.vm = V.vm) : U.vm.Alike V.vm := by rw [h]; exact Vm.Alike.refl _
abbrev bT : State → Heap → Prop := fun _ _ => True
abbrev eF : List (String × String × String × List Int32) := [("RopeDrums$Form", "fraction", "I", [23, 52]), ("RopeDrums$Form", "lowest", "I", [-126, -1022]), ("RopeDrums$Form", "endless", "I", [255, 2047]), ("RopeDrums$Form", "sign", "I", [31, 63])]
/-- the two forms, apart from the cells A, and the links among nest mates -/
def pN (U : State) : Prop := va_Nw (.methodLinkNest RX2 65 yX8_powerOfTwo "RopeDrums") U ∧ va_Nw (.methodLinkNest RX2 77 yX8_isEndless "RopeDrums") U
theorem pN.same {U V : State} (h : U.vm = V.vm) (q : pN U) : pN V := ⟨va_Nw.same rfl h q.1, va_Nw.same rfl h q.2⟩
theorem pN.warm {U V : State} (h : U.WarmedH V.vm) (q : pN U) : pN V := ⟨va_Nw.warmM h q.1, va_Nw.warmM h q.2⟩
abbrev pE (ad : Nat → Nat) (A : Nat → Prop) (U : State) (H : Heap) : Prop := va_En "RopeDrums$Form" "LRopeDrums$Form;" ["FLOAT", "DOUBLE"] eF ad A U H ∧ pN U
abbrev bE (ad : Nat → Nat) : State → Heap → Prop := fun U H => pE ad (fun _ => False) U H
abbrev bP (G : va_G) (cy : Nat → ClassId) (L : List Nat) (F : Nat → va_E) : State → Heap → Prop := fun U H => va_P G vwCl (va_pl L F) H ∧ va_K G vwCl (pTys cy) U ∧ pD (fun _ => True) L
abbrev bQ (G : va_G) (cy : Nat → ClassId) (L : List Nat) (F : Nat → va_E) (sz : Nat) : State → Heap → Prop := fun U H => H.size = sz ∧ va_P G vwCl (va_pl L F) H ∧ va_K G vwCl (pTys cy) U ∧ pD (fun _ => True) L
abbrev bPE (G : va_G) (cy : Nat → ClassId) (L : List Nat) (F : Nat → va_E) (ad : Nat → Nat) : State → Heap → Prop := fun U H => bP G cy L F U H ∧ bE ad U H
abbrev bQE (G : va_G) (cy : Nat → ClassId) (L : List Nat) (F : Nat → va_E) (ad : Nat → Nat) (sz : Nat) : State → Heap → Prop := fun U H => bQ G cy L F sz U H ∧ pE ad (va_A (va_pl L F) sz) U H
theorem okT : pOK bT := ⟨fun _ _ _ _ _ => trivial, fun _ _ _ _ _ => trivial⟩
theorem okE {ad : Nat → Nat} : pOK (bE ad) := ⟨fun _ _ _ h q => ⟨va_En.moved (alike_eq h) q.1, q.2.same h⟩, fun _ _ _ h q => ⟨va_En.moved h.alike q.1, q.2.warm h⟩⟩
theorem okP {G : va_G} {cy : Nat → ClassId} {L : List Nat} {F : Nat → va_E} : pOK (bP G cy L F) := ⟨fun _ _ _ h q => ⟨q.1, va_K.moved (alike_eq h) q.2.1, q.2.2⟩, fun _ _ _ h q => ⟨q.1, va_K.moved h.alike q.2.1, q.2.2⟩⟩
theorem okQ {G : va_G} {cy : Nat → ClassId} {L : List Nat} {F : Nat → va_E} {sz : Nat} : pOK (bQ G cy L F sz) := ⟨fun _ _ _ h q => ⟨q.1, q.2.1, va_K.moved (alike_eq h) q.2.2.1, q.2.2.2⟩, fun _ _ _ h q => ⟨q.1, q.2.1, va_K.moved h.alike q.2.2.1, q.2.2.2⟩⟩
theorem okPE {G : va_G} {cy : Nat → ClassId} {L : List Nat} {F : Nat → va_E} {ad : Nat → Nat} : pOK (bPE G cy L F ad) := ⟨fun U V H h q => ⟨okP.1 U V H h q.1, okE.1 U V H h q.2⟩, fun U V H h q => ⟨okP.2 U V H h q.1, okE.2 U V H h q.2⟩⟩
theorem okQE {G : va_G} {cy : Nat → ClassId} {L : List Nat} {F : Nat → va_E} {ad : Nat → Nat} {sz : Nat} : pOK (bQE G cy L F ad sz) := ⟨fun U V H h q => ⟨okQ.1 U V H h q.1, va_En.moved (alike_eq h) q.2.1, q.2.2.same h⟩, fun U V H h q => ⟨okQ.2 U V H h q.1, va_En.moved h.alike q.2.1, q.2.2.warm h⟩⟩
theorem pE.low {ad : Nat → Nat} {A : Nat → Prop} {U : State} {H0 H : Heap} {locs : List Loc} (hE : va_En "RopeDrums$Form" "LRopeDrums$Form;" ["FLOAT", "DOUBLE"] eF ad A U H0) (hN : pN U) (hS : va_S A H0 H locs) : bE ad U H := ⟨(hE.kept hS.2.1).narrow (fun _ h => h.elim), hN⟩
section PG
variable {p : Program} {l : Launch} {e : Env} {R : Room} {s : State} {m : MethodId} {args : Array Value} {below : List Frame} {meth : Method} {c : Code} {H : Heap} {locs : List Loc} {cells slots : Nat} {Q : State → Prop}
variable {cc : ByteArray} {pc : Nat} {ls : Array Slot} {rest : List Value} {D : va_G} {cl : List vw_C} {A : Nat → Prop} {a : Nat} {tys : List (ClassId × FieldType)} {L : List Nat} {F : Nat → va_E} {H0 : Heap}
theorem pl_recv {ci : Nat} {q : vw_C} {fs : List Value} (hK : va_K D cl tys s) (hP : va_P D cl (va_pl L F) H) (hc : cl[ci]? = some q) (hm : a ∈ L) (he : F a = .inr (ci, fs)) : ∃ cell : Cell, H[a]? = some cell ∧ cell.vm.isStatics = false ∧ s.vm.findClass q.1 = some cell.cls := by
  obtain ⟨q0, h0⟩ := pl_ix hm he
  exact va_recv hK hP hc h0
theorem pg_get (hexec : p.tables.exec = Jvm.exec) (hb : c.code = cc) {own ref C : String} {T : u_T} {N ci index : Nat} {Ts : List Cond} (hts : ∀ w ∈ Ts, w.before args s = true) (hin : ∀ w ∈ u_ws C T N, w ∈ Ts) (hown : s.vm.findClass own = some m.cls) (hK : va_K D cl tys s) (hP : va_P D cl (va_pl L F) H) (hm : a ∈ L) {fs : List Value} (he : F a = .inr (ci, fs)) (hc : cl[ci]? = some (C, T, N)) (k : Nat) (hk : k < N) (hlink : (Cond.fieldLink own index ref (T k).2.1 (T k).2.2.1).before args s = true) (hsame : ∀ x, s.fieldFound? (T k).1 (T k).2.1 (T k).2.2.1 = some x → s.fieldFound? ref (T k).2.1 (T k).2.2.1 = some x) {v : Value} (hv : fs[k]? = some v) (hdg : decode cc pc = .ok (.getfield index, 3))
    (kk : W p l e R s m args below meth c H locs cells slots Q (F0 m (pc + 3) ls (v :: rest))) : W p l e R s m args below meth c H locs cells slots Q (F0 m pc ls (.ref a :: rest)) := by
  obtain ⟨q0, h0⟩ := pl_ix hm he
  exact va_get hexec hb hts hin hown hK hP q0 h0 hc k hk hlink hsame hv hdg kk
theorem pg_put (hexec : p.tables.exec = Jvm.exec) (hb : c.code = cc) {own ref C : String} {T : u_T} {N ci index : Nat} {Ts : List Cond} (hts : ∀ w ∈ Ts, w.before args s = true) (hin : ∀ w ∈ u_ws C T N, w ∈ Ts) (ty0 : Nat → FieldType) (hty : ∀ k, k < N → parseFieldDescriptor (T k).2.2.1 = some (ty0 k)) (hnm : ∀ a, a < N → ∀ b, b < N → a ≠ b → (T a).2.1 ≠ (T b).2.1) (hown : s.vm.findClass own = some m.cls) (hK : va_K D cl tys s) (hP : va_P D cl (va_pl L F) H) (hD : pD A L) (hS0 : va_S A H0 H locs) (hm : a ∈ L) {fs : List Value} (he : F a = .inr (ci, fs)) (hc : cl[ci]? = some (C, T, N)) (k : Nat) (hk : k < N) (hlink : (Cond.fieldLink own index ref (T k).2.1 (T k).2.2.1).before args s = true) (hsame : ∀ x, s.fieldFound? (T k).1 (T k).2.1 (T k).2.2.1 = some x → s.fieldFound? ref (T k).2.1 (T k).2.2.1 = some x) (hfin : (T k).2.2.2 = false) {ty : FieldType} {v : Value} (hd : parseFieldDescriptor (T k).2.2.1 = some ty) (hn : narrow ty v = v) (hfit : fits ty v = true) (hl : k < fs.length)
    (hdg : decode cc pc = .ok (.putfield index, 3)) (kk : ∀ (H1 : Heap) (locs1 : List Loc) (F1 : Nat → va_E), F1 = va_up F a (.inr (ci, fs.set k v)) → va_P D cl (va_pl L F1) H1 → va_S A H0 H1 locs1 → W p l e R s m args below meth c H1 locs1 cells slots Q (F0 m (pc + 3) ls rest)) : W p l e R s m args below meth c H locs cells slots Q (F0 m pc ls (v :: .ref a :: rest)) := by
  obtain ⟨q0, h0⟩ := pl_ix hm he
  refine va_put hexec hb hts hin ty0 hty hnm hown hK hP (hD.of F) hS0 q0 h0 hc k hk hlink hsame hfin hd hn hfit hl hdg (fun H1 locs1 hP1 _ hS1 => kk H1 locs1 _ rfl ?_ hS1)
  have := va_pl_set (X := []) (e := .inr (ci, fs.set k v)) (hD.of F) hm (by rw [he]; exact h0)
  rw [show (va_pl L F).set q0 (a, .inr (ci, fs.set k v)) = va_pl L (va_up F a (.inr (ci, fs.set k v))) from this] at hP1
  exact hP1
theorem pl_setA {e0 e1 : va_E} {q0 : Nat} {H1 : Heap} (hD : pD A L) (hm : a ∈ L) (he : F a = e0) (h0 : (va_pl L F)[q0]? = some (a, e0)) (hP1 : va_P D cl ((va_pl L F).set q0 (a, e1)) H1) : va_P D cl (va_pl L (va_up F a e1)) H1 := by
  have := va_pl_set (X := []) (e := e1) (hD.of F) hm (by rw [he]; exact h0)
  rw [show (va_pl L F).set q0 (a, e1) = va_pl L (va_up F a e1) from this] at hP1
  exact hP1
theorem pg_iald (hexec : p.tables.exec = Jvm.exec) (hb : c.code = cc) (hK : va_K D cl tys s) (hP : va_P D cl (va_pl L F) H) (t0 : Nat) (hm : a ∈ L) {cA : ClassId} {n : Nat} {f : Nat → Int32} (he : F a = cI cA n f) (ht : tys[t0]? = some (cA, .int)) {i : Int32} (hin : vp_in i n) (hdg : decode cc pc = .ok (.iaload, 1))
    (kk : W p l e R s m args below meth c H locs cells slots Q (F0 m (pc + 1) ls (.int (f i.toNatClampNeg) :: rest))) : W p l e R s m args below meth c H locs cells slots Q (F0 m pc ls (.int i :: .ref a :: rest)) := by
  obtain ⟨q0, h0⟩ := pl_ix hm he
  exact va_iald hexec hb hK hP q0 t0 h0 ht hin hdg kk
theorem pg_dald (hexec : p.tables.exec = Jvm.exec) (hb : c.code = cc) (hK : va_K D cl tys s) (hP : va_P D cl (va_pl L F) H) (t0 : Nat) (hm : a ∈ L) {cA : ClassId} {n : Nat} {f : Nat → UInt64} (he : F a = cD cA n f) (ht : tys[t0]? = some (cA, .double)) {i : Int32} (hin : vp_in i n) (hdg : decode cc pc = .ok (.daload, 1))
    (kk : W p l e R s m args below meth c H locs cells slots Q (F0 m (pc + 1) ls (.double (f i.toNatClampNeg) :: rest))) : W p l e R s m args below meth c H locs cells slots Q (F0 m pc ls (.int i :: .ref a :: rest)) := by
  obtain ⟨q0, h0⟩ := pl_ix hm he
  exact va_dald hexec hb hK hP q0 t0 h0 ht hin hdg kk
theorem pg_aldq (hexec : p.tables.exec = Jvm.exec) (hb : c.code = cc) (hK : va_K D cl tys s) (hP : va_P D cl (va_pl L F) H) (t0 : Nat) (hm : a ∈ L) {cA : ClassId} {C : String} {n : Nat} {f : Nat → Option Nat} (he : F a = cQ cA n f) (ht : tys[t0]? = some (cA, .object C)) {i : Int32} (hin : vp_in i n) (hdg : decode cc pc = .ok (.aaload, 1))
    (kk : W p l e R s m args below meth c H locs cells slots Q (F0 m (pc + 1) ls (va_rf (f i.toNatClampNeg) :: rest))) : W p l e R s m args below meth c H locs cells slots Q (F0 m pc ls (.int i :: .ref a :: rest)) := by
  obtain ⟨q0, h0⟩ := pl_ix hm he
  exact va_aldq hexec hb hK hP q0 t0 h0 ht hin hdg kk
theorem pg_iast (hexec : p.tables.exec = Jvm.exec) (hb : c.code = cc) (hK : va_K D cl tys s) (hP : va_P D cl (va_pl L F) H) (hD : pD A L) (hS : va_S A H0 H locs) (t0 : Nat) (hm : a ∈ L) {cA : ClassId} {n : Nat} {f : Nat → Int32} (he : F a = cI cA n f) (ht : tys[t0]? = some (cA, .int)) {i x : Int32} (hin : vp_in i n) (hdg : decode cc pc = .ok (.iastore, 1))
    (kk : ∀ (H1 : Heap) (locs1 : List Loc) (F1 : Nat → va_E), F1 = va_up F a (cI cA n (upd f i.toNatClampNeg x)) → va_P D cl (va_pl L F1) H1 → va_S A H0 H1 locs1 → W p l e R s m args below meth c H1 locs1 cells slots Q (F0 m (pc + 1) ls rest)) : W p l e R s m args below meth c H locs cells slots Q (F0 m pc ls (.int x :: .int i :: .ref a :: rest)) := by
  obtain ⟨q0, h0⟩ := pl_ix hm he
  exact va_iast hexec hb hK hP (hD.of F) hS q0 t0 h0 ht hin hdg (fun H1 locs1 hP1 _ hS1 => kk H1 locs1 _ rfl (pl_setA hD hm he h0 hP1) hS1)
theorem pg_dast (hexec : p.tables.exec = Jvm.exec) (hb : c.code = cc) (hK : va_K D cl tys s) (hP : va_P D cl (va_pl L F) H) (hD : pD A L) (hS : va_S A H0 H locs) (t0 : Nat) (hm : a ∈ L) {cA : ClassId} {n : Nat} {f : Nat → UInt64} (he : F a = cD cA n f) (ht : tys[t0]? = some (cA, .double)) {i : Int32} {x : UInt64} (hin : vp_in i n) (hdg : decode cc pc = .ok (.dastore, 1))
    (kk : ∀ (H1 : Heap) (locs1 : List Loc) (F1 : Nat → va_E), F1 = va_up F a (cD cA n (vf_upd f i.toNatClampNeg x)) → va_P D cl (va_pl L F1) H1 → va_S A H0 H1 locs1 → W p l e R s m args below meth c H1 locs1 cells slots Q (F0 m (pc + 1) ls rest)) : W p l e R s m args below meth c H locs cells slots Q (F0 m pc ls (.double x :: .int i :: .ref a :: rest)) := by
  obtain ⟨q0, h0⟩ := pl_ix hm he
  exact va_dast hexec hb hK hP (hD.of F) hS q0 t0 h0 ht hin hdg (fun H1 locs1 hP1 _ hS1 => kk H1 locs1 _ rfl (pl_setA hD hm he h0 hP1) hS1)
theorem pg_astq (hexec : p.tables.exec = Jvm.exec) (hb : c.code = cc) (hK : va_K D cl tys s) (hP : va_P D cl (va_pl L F) H) (hD : pD A L) (hS : va_S A H0 H locs) (t0 ci : Nat) (hm : a ∈ L) {cA : ClassId} {r : vw_C} {n v : Nat} {vs : List Value} {f : Nat → Option Nat} (he : F a = cQ cA n f) (ht : tys[t0]? = some (cA, .object r.1)) (hmv : v ∈ L) (hv : F v = .inr (ci, vs)) (hc : cl[ci]? = some r) {i : Int32} (hin : vp_in i n) (hdg : decode cc pc = .ok (.aastore, 1))
    (kk : ∀ (H1 : Heap) (locs1 : List Loc) (F1 : Nat → va_E), F1 = va_up F a (cQ cA n (va_up f i.toNatClampNeg (some v))) → va_P D cl (va_pl L F1) H1 → va_S A H0 H1 locs1 → W p l e R s m args below meth c H1 locs1 cells slots Q (F0 m (pc + 1) ls rest)) : W p l e R s m args below meth c H locs cells slots Q (F0 m pc ls (.ref v :: .int i :: .ref a :: rest)) := by
  obtain ⟨q0, h0⟩ := pl_ix hm he
  obtain ⟨q1, h1⟩ := pl_ix hmv hv
  exact va_astq hexec hb hK hP (hD.of F) hS q0 t0 q1 ci h0 ht h1 hc hin hdg (fun H1 locs1 hP1 _ hS1 => kk H1 locs1 _ rfl (pl_setA hD hm he h0 hP1) hS1)
theorem pg_astqN (hexec : p.tables.exec = Jvm.exec) (hb : c.code = cc) (hK : va_K D cl tys s) (hP : va_P D cl (va_pl L F) H) (hD : pD A L) (hS : va_S A H0 H locs) (t0 : Nat) (hm : a ∈ L) {cA : ClassId} {C : String} {n : Nat} {f : Nat → Option Nat} (he : F a = cQ cA n f) (ht : tys[t0]? = some (cA, .object C)) {i : Int32} (hin : vp_in i n) (hdg : decode cc pc = .ok (.aastore, 1))
    (kk : ∀ (H1 : Heap) (locs1 : List Loc) (F1 : Nat → va_E), F1 = va_up F a (cQ cA n (va_up f i.toNatClampNeg none)) → va_P D cl (va_pl L F1) H1 → va_S A H0 H1 locs1 → W p l e R s m args below meth c H1 locs1 cells slots Q (F0 m (pc + 1) ls rest)) : W p l e R s m args below meth c H locs cells slots Q (F0 m pc ls (.null :: .int i :: .ref a :: rest)) := by
  obtain ⟨q0, h0⟩ := pl_ix hm he
  exact va_astqN hexec hb hK hP (hD.of F) hS q0 t0 h0 ht hin hdg (fun H1 locs1 hP1 _ hS1 => kk H1 locs1 _ rfl (pl_setA hD hm he h0 hP1) hS1)
theorem cr_of {mc ms : Nat} {g : JFrame} {Qa : State → Outcome → State → Prop} {free : Addr → Prop} (h : va_Run p l e R s m args below meth c H locs cells slots mc ms g rest Qa free) : CallRun p l e R s m args below meth c H locs cells slots mc ms g rest Qa free := fun T hT X => by
  obtain ⟨v, st₀, t, T', L, h0, X', hL, e1, e2, hq, st⟩ := h T hT X
  exact ⟨v, st₀, t, T', L, h0, X', hL, e1, hq, st⟩
/-- where two roads meet, with a value on top -/
theorem jn_i {g : JFrame} {pc : Nat} {ls : Array Slot} {rest : List Value} (P : Int32 → Prop) (K : ∀ v, P v → W p l e R s m args below meth c H locs cells slots Q (F0 m pc ls (.int v :: rest))) (J : (∀ v, P v → W p l e R s m args below meth c H locs cells slots Q (F0 m pc ls (.int v :: rest))) → W p l e R s m args below meth c H locs cells slots Q g) : W p l e R s m args below meth c H locs cells slots Q g := J K
theorem jn_l {g : JFrame} {pc : Nat} {ls : Array Slot} {rest : List Value} (P : Int64 → Prop) (K : ∀ v, P v → W p l e R s m args below meth c H locs cells slots Q (F0 m pc ls (.long v :: rest))) (J : (∀ v, P v → W p l e R s m args below meth c H locs cells slots Q (F0 m pc ls (.long v :: rest))) → W p l e R s m args below meth c H locs cells slots Q g) : W p l e R s m args below meth c H locs cells slots Q g := J K
theorem jn_d {g : JFrame} {pc : Nat} {ls : Array Slot} {rest : List Value} (P : UInt64 → Prop) (K : ∀ v, P v → W p l e R s m args below meth c H locs cells slots Q (F0 m pc ls (.double v :: rest))) (J : (∀ v, P v → W p l e R s m args below meth c H locs cells slots Q (F0 m pc ls (.double v :: rest))) → W p l e R s m args below meth c H locs cells slots Q g) : W p l e R s m args below meth c H locs cells slots Q g := J K
theorem jn_f {g : JFrame} {pc : Nat} {ls : Array Slot} {rest : List Value} (P : UInt32 → Prop) (K : ∀ v, P v → W p l e R s m args below meth c H locs cells slots Q (F0 m pc ls (.float v :: rest))) (J : (∀ v, P v → W p l e R s m args below meth c H locs cells slots Q (F0 m pc ls (.float v :: rest))) → W p l e R s m args below meth c H locs cells slots Q g) : W p l e R s m args below meth c H locs cells slots Q g := J K
theorem jn_0 {g : JFrame} {pc : Nat} {ls : Array Slot} {rest : List Value} (P : Prop) (K : P → W p l e R s m args below meth c H locs cells slots Q (F0 m pc ls rest)) (J : (P → W p l e R s m args below meth c H locs cells slots Q (F0 m pc ls rest)) → W p l e R s m args below meth c H locs cells slots Q g) : W p l e R s m args below meth c H locs cells slots Q g := J K
/-- a loop that leaves the heap: its head at pc, its state x, its locals lv x, a measure that falls -/
theorem lp_r {α : Type} {pc nL : Nat} (I : α → Prop) (lv : α → List (Nat × Value)) (μ : α → Nat)
    (step : ∀ (x : α) (ls : Array Slot), I x → lv_has ls nL (lv x) → (∀ (y : α) (ls' : Array Slot), I y → μ y < μ x → lv_has ls' nL (lv y) → W p l e R s m args below meth c H locs cells slots Q (F0 m pc ls' [])) → W p l e R s m args below meth c H locs cells slots Q (F0 m pc ls []))
    (x : α) (ls : Array Slot) (h : I x) (hl : lv_has ls nL (lv x)) : W p l e R s m args below meth c H locs cells slots Q (F0 m pc ls []) := by
  suffices K : ∀ (n : Nat) (x : α) (ls : Array Slot), μ x < n → I x → lv_has ls nL (lv x) → W p l e R s m args below meth c H locs cells slots Q (F0 m pc ls []) from K (μ x + 1) x ls (Nat.lt_succ_self _) h hl
  intro n
  induction n with
  | zero => intro x ls h; exact absurd h (Nat.not_lt_zero _)
  | succ n ih =>
    intro x ls hn hI hl
    exact step x ls hI hl (fun y ls' hy hlt hl' => ih y ls' (by omega) hy hl')
/-- the same, the world changes with the state -/
theorem lp_w {α : Type} {pc nL : Nat} (I : α → Prop) (lv : α → List (Nat × Value)) (wd : α → va_W) (μ : α → Nat)
    (step : ∀ (x : α) (ls : Array Slot) (H : Heap) (locs : List Loc), I x → va_P D cl (wd x) H → va_S A H0 H locs → lv_has ls nL (lv x) → (∀ (y : α) (ls' : Array Slot) (H1 : Heap) (locs1 : List Loc), I y → μ y < μ x → va_P D cl (wd y) H1 → va_S A H0 H1 locs1 → lv_has ls' nL (lv y) → W p l e R s m args below meth c H1 locs1 cells slots Q (F0 m pc ls' [])) → W p l e R s m args below meth c H locs cells slots Q (F0 m pc ls []))
    (x : α) (ls : Array Slot) (h : I x) (hP : va_P D cl (wd x) H) (hS : va_S A H0 H locs) (hl : lv_has ls nL (lv x)) : W p l e R s m args below meth c H locs cells slots Q (F0 m pc ls []) := by
  suffices K : ∀ (n : Nat) (x : α) (ls : Array Slot) (H : Heap) (locs : List Loc), μ x < n → I x → va_P D cl (wd x) H → va_S A H0 H locs → lv_has ls nL (lv x) → W p l e R s m args below meth c H locs cells slots Q (F0 m pc ls []) from K (μ x + 1) x ls H locs (Nat.lt_succ_self _) h hP hS hl
  intro n
  induction n with
  | zero => intro x ls H locs h; exact absurd h (Nat.not_lt_zero _)
  | succ n ih =>
    intro x ls H locs hn hI hP hS hl
    exact step x ls H locs hI hP hS hl (fun y ls' H1 locs1 hy hlt hP1 hS1 hl' => ih y ls' H1 locs1 (by omega) hy hP1 hS1 hl')
end PG
