/-! cells that are made: the pool grows -/
theorem pl_app {L : List Nat} {F : Nat → va_E} {q : Nat} {x : va_E} (hq : q ∉ L) : va_pl L F ++ [(q, x)] = va_pl (L ++ [q]) (va_up F q x) := by
  unfold va_pl
  rw [List.map_append]
  congr 1
  · apply List.map_congr_left
    intro a ha
    rw [va_up_ne _ _ (fun z => hq (by rw [← z]; exact ha))]
  · simp [va_up]
theorem pl_out {A : Nat → Prop} {L : List Nat} {F : Nat → va_E} {q : Nat} {x : va_E} (h : va_D A (va_pl L F ++ [(q, x)])) : q ∉ L := by
  intro hq
  obtain ⟨k, hk⟩ := pl_ix (F := F) hq rfl
  have hl := (List.getElem?_eq_some_iff.mp hk).1
  have h1 : (va_pl L F ++ [(q, x)])[k]? = some (q, F q) := by
    rw [List.getElem?_append_left hl]
    exact hk
  have h2 : (va_pl L F ++ [(q, x)])[(va_pl L F).length]? = some (q, x) := by
    rw [List.getElem?_append_right (Nat.le_refl _), Nat.sub_self]
    rfl
  have := h.1 _ _ _ _ h1 h2 rfl
  omega
theorem va_RA_inj {U : State} {a b : ClassId} {ty : FieldType} (h1 : va_RA U a ty) (h2 : va_RA U b ty) : a = b := by
  cases ty with
  | object C =>
    obtain ⟨_, _, -, -, -, k1⟩ := h1
    obtain ⟨_, _, -, -, -, k2⟩ := h2
    exact Option.some.inj (k1.symm.trans k2)
  | _ => exact Option.some.inj (h1.symm.trans h2)
theorem va_K_inj {D : va_G} {cl : List vw_C} {tys : List (ClassId × FieldType)} {U : State} {cA c0 : ClassId} {ty : FieldType} {t0 : Nat} (hK : va_K D cl tys U) (hK1 : va_K D cl (tys ++ [(cA, ty)]) U) (ht : tys[t0]? = some (c0, ty)) : cA = c0 := by
  have h1 := (hK1.2 tys.length (cA, ty) (by rw [List.getElem?_append_right (Nat.le_refl _), Nat.sub_self]; rfl)).2
  exact va_RA_inj h1 (hK.2 t0 _ ht).2
section PG3
variable {p : Program} {l : Launch} {e : Env} {R : Room} {s : State} {m : MethodId} {args : Array Value} {below : List Frame} {meth : Method} {c : Code} {H : Heap} {locs : List Loc} {cells slots : Nat} {Q : State → Prop}
variable {cc : ByteArray} {pc : Nat} {ls : Array Slot} {rest : List Value} {D : va_G} {cl : List vw_C} {A : Nat → Prop} {a : Nat} {tys : List (ClassId × FieldType)} {L : List Nat} {F : Nat → va_E} {H0 : Heap}
theorem pg_newo (hexec : p.tables.exec = Jvm.exec) (hb : c.code = cc) {own C : String} {T : u_T} {N ci index : Nat} {Ts : List Cond} (hts : ∀ w ∈ Ts, w.before args s = true) (hin : ∀ w ∈ u_ws C T N, w ∈ Ts) (ty : Nat → FieldType) (hty : ∀ k, k < N → parseFieldDescriptor (T k).2.2.1 = some (ty k)) (hown : s.vm.findClass own = some m.cls) (hcl : (Cond.classLink own index C).before args s = true) (hinst : (Cond.instantiable C N).before args s = true) (hini : (Cond.initialized C).before args s = true)
    (hK : va_K D cl tys s) (hP : va_P D cl (va_pl L F) H) (hD : pD A L) (hS : va_S A H0 H locs) (hA : ∀ q, H0.size ≤ q → A q) (hc : cl[ci]? = some (C, T, N)) (fs : List Value) (hfs : ∀ j, j < N → defaultValue (ty j) = vp_V fs j) (hcells : cells + 1 ≤ R.cells) (hslots : slots + N ≤ R.slots) (hdg : decode cc pc = .ok (.new index, 3))
    (kk : ∀ (q : Nat) (H1 : Heap) (F1 : Nat → va_E) (L1 : List Nat), q ∉ L → F1 = va_up F q (.inr (ci, fs)) → L1 = L ++ [q] → va_P D cl (va_pl L1 F1) H1 → pD A L1 → va_S A H0 H1 locs →
      W p l e R s m args below meth c H1 locs (cells + 1) (slots + N) Q (F0 m (pc + 3) ls (.ref q :: rest))) : W p l e R s m args below meth c H locs cells slots Q (F0 m pc ls rest) := by
  refine va_new hexec hb hts hin ty hty hown hcl hinst hini hK hP (hD.of F) hS hA hc hfs hcells hslots hdg (fun q H1 hP1 hD1 hS1 => ?_)
  have hq := pl_out hD1
  rw [pl_app hq] at hP1 hD1
  exact kk q H1 _ _ hq rfl rfl hP1 (pD.to hD1) hS1
theorem pg_newa (hexec : p.tables.exec = Jvm.exec) (hb : c.code = cc) {atype : ArrayType} (harr : (Cond.arrayClass (newarray.typeOf atype)).before args s = true) {ty : FieldType} (hty : newarray.typeOf atype = ty) (hK : va_K D cl tys s) (t0 : Nat) {c0 : ClassId} (ht : tys[t0]? = some (c0, ty)) (hP : va_P D cl (va_pl L F) H) (hD : pD A L) (hS : va_S A H0 H locs) (hA : ∀ q, H0.size ≤ q → A q)
    {n : Int32} {N' : Nat} (a0 : vp_A) (ha : ∀ cA : ClassId, vp_cell cA a0 = arrV cA N' (fun _ => defaultValue ty)) (hn : ¬ n < 0) (hN : n.toNatClampNeg = N') (hbytes : N' * componentBytes ty ≤ 536870912) (hcells : cells + 1 ≤ R.cells) (hslots : slots + N' ≤ R.slots) (hdg : decode cc pc = .ok (.newarray atype, 2))
    (kk : ∀ (q : Nat) (H1 : Heap) (F1 : Nat → va_E) (L1 : List Nat), q ∉ L → F1 = va_up F q (.inl (c0, a0)) → L1 = L ++ [q] → va_P D cl (va_pl L1 F1) H1 → pD A L1 → va_S A H0 H1 locs →
      W p l e R s m args below meth c H1 locs (cells + 1) (slots + N') Q (F0 m (pc + 2) ls (.ref q :: rest))) : W p l e R s m args below meth c H locs cells slots Q (F0 m pc ls (.int n :: rest)) := by
  refine va_newa hexec hb harr hty hK hP (hD.of F) hS hA ha hn hN hbytes hcells hslots hdg (fun q cA H1 hK1 hP1 hD1 hS1 => ?_)
  have hc := va_K_inj hK hK1 ht
  subst hc
  have hq := pl_out hD1
  rw [pl_app hq] at hP1 hD1
  exact kk q H1 _ _ hq rfl rfl hP1 (pD.to hD1) hS1
theorem pg_newq (hexec : p.tables.exec = Jvm.exec) (hb : c.code = cc) {own C : String} {index : Nat} (hown : s.vm.findClass own = some m.cls) (hclink : (Cond.classLink own index C).before args s = true) (hover : va_AO C s) (hK : va_K D cl tys s) (t0 : Nat) {c0 : ClassId} (ht : tys[t0]? = some (c0, .object C)) (hP : va_P D cl (va_pl L F) H) (hD : pD A L) (hS : va_S A H0 H locs) (hA : ∀ q, H0.size ≤ q → A q)
    {n : Int32} {N' : Nat} (hn : ¬ n < 0) (hN : n.toNatClampNeg = N') (hbytes : N' * 4 ≤ 536870912) (hcells : cells + 1 ≤ R.cells) (hslots : slots + N' ≤ R.slots) (hdg : decode cc pc = .ok (.anewarray index, 3))
    (kk : ∀ (q : Nat) (H1 : Heap) (F1 : Nat → va_E) (L1 : List Nat), q ∉ L → F1 = va_up F q (cQ c0 N' (fun _ => none)) → L1 = L ++ [q] → va_P D cl (va_pl L1 F1) H1 → pD A L1 → va_S A H0 H1 locs →
      W p l e R s m args below meth c H1 locs (cells + 1) (slots + N') Q (F0 m (pc + 3) ls (.ref q :: rest))) : W p l e R s m args below meth c H locs cells slots Q (F0 m pc ls (.int n :: rest)) := by
  refine va_newq hexec hb hown hclink hover hK hP (hD.of F) hS hA hn hN hbytes hcells hslots hdg (fun q cA H1 hK1 hP1 hD1 hS1 => ?_)
  have hc := va_K_inj hK hK1 ht
  subst hc
  have hq := pl_out hD1
  rw [pl_app hq] at hP1 hD1
  exact kk q H1 _ _ hq rfl rfl hP1 (pD.to hD1) hS1
theorem pg_putF (hexec : p.tables.exec = Jvm.exec) (hb : c.code = cc) {own ref C : String} {T : u_T} {N ci index : Nat} {Ts : List Cond} (hts : ∀ w ∈ Ts, w.before args s = true) (hin : ∀ w ∈ u_ws C T N, w ∈ Ts) (ty0 : Nat → FieldType) (hty : ∀ k, k < N → parseFieldDescriptor (T k).2.2.1 = some (ty0 k)) (hnm : ∀ a, a < N → ∀ b, b < N → a ≠ b → (T a).2.1 ≠ (T b).2.1) (hown : s.vm.findClass own = some m.cls) (hK : va_K D cl tys s) (hP : va_P D cl (va_pl L F) H) (hD : pD A L) (hS0 : va_S A H0 H locs) (hm : a ∈ L) {fs : List Value} (he : F a = .inr (ci, fs)) (hc : cl[ci]? = some (C, T, N)) (k : Nat) (hk : k < N) (hlink : (Cond.fieldLink own index ref (T k).2.1 (T k).2.2.1).before args s = true) (hsame : ∀ x, s.fieldFound? (T k).1 (T k).2.1 (T k).2.2.1 = some x → s.fieldFound? ref (T k).2.1 (T k).2.2.1 = some x) (hfin : (T k).2.2.2 = true) (hin2 : meth.name = "<init>") (hdecl : (T k).1 = own) {ty : FieldType} {v : Value} (hd : parseFieldDescriptor (T k).2.2.1 = some ty) (hn : narrow ty v = v) (hfit : fits ty v = true) (hl : k < fs.length)
    (hdg : decode cc pc = .ok (.putfield index, 3)) (kk : ∀ (H1 : Heap) (locs1 : List Loc) (F1 : Nat → va_E), F1 = va_up F a (.inr (ci, fs.set k v)) → va_P D cl (va_pl L F1) H1 → va_S A H0 H1 locs1 → W p l e R s m args below meth c H1 locs1 cells slots Q (F0 m (pc + 3) ls rest)) : W p l e R s m args below meth c H locs cells slots Q (F0 m pc ls (v :: .ref a :: rest)) := by
  obtain ⟨q0, h0⟩ := pl_ix hm he
  exact va_putF hexec hb hts hin ty0 hty hnm hown hK hP (hD.of F) hS0 q0 h0 hc k hk hlink hsame hfin hin2 hdecl hd hn hfit hl hdg (fun H1 locs1 hP1 _ hS1 => kk H1 locs1 _ rfl (pl_setA hD hm he h0 hP1) hS1)
/-- a loop that makes cells: the world and the room go with the state -/
theorem lp_g {α : Type} {pc nL : Nat} (I : α → Prop) (lv : α → List (Nat × Value)) (wd : α → va_W) (ce so : α → Nat) (μ : α → Nat)
    (step : ∀ (x : α) (ls : Array Slot) (H : Heap) (locs : List Loc), I x → va_P D cl (wd x) H → va_S A H0 H locs → lv_has ls nL (lv x) → (∀ (y : α) (ls' : Array Slot) (H1 : Heap) (locs1 : List Loc), I y → μ y < μ x → va_P D cl (wd y) H1 → va_S A H0 H1 locs1 → lv_has ls' nL (lv y) → W p l e R s m args below meth c H1 locs1 (ce y) (so y) Q (F0 m pc ls' [])) → W p l e R s m args below meth c H locs (ce x) (so x) Q (F0 m pc ls []))
    (x : α) (ls : Array Slot) (h : I x) (hP : va_P D cl (wd x) H) (hS : va_S A H0 H locs) (hl : lv_has ls nL (lv x)) : W p l e R s m args below meth c H locs (ce x) (so x) Q (F0 m pc ls []) := by
  suffices K : ∀ (n : Nat) (x : α) (ls : Array Slot) (H : Heap) (locs : List Loc), μ x < n → I x → va_P D cl (wd x) H → va_S A H0 H locs → lv_has ls nL (lv x) → W p l e R s m args below meth c H locs (ce x) (so x) Q (F0 m pc ls []) from K (μ x + 1) x ls H locs (Nat.lt_succ_self _) h hP hS hl
  intro n
  induction n with
  | zero => intro x ls H locs h; exact absurd h (Nat.not_lt_zero _)
  | succ n ih =>
    intro x ls H locs hn hI hP hS hl
    exact step x ls H locs hI hP hS hl (fun y ls' H1 locs1 hy hlt hP1 hS1 hl' => ih y ls' H1 locs1 (by omega) hy hP1 hS1 hl')
end PG3
/-- a cell of the pool -/
def Has (L : List Nat) (F : Nat → va_E) (a : Nat) (x : va_E) : Prop := a ∈ L ∧ F a = x
/-- a pool after a step: what was there is there yet, but at the addresses in xs -/
def Kept (L : List Nat) (F : Nat → va_E) (L1 : List Nat) (F1 : Nat → va_E) (xs : List Nat) : Prop := (∀ b ∈ L, b ∈ L1) ∧ ∀ b ∈ L, b ∉ xs → F1 b = F b
theorem Has.keep {L L1 : List Nat} {F F1 : Nat → va_E} {xs : List Nat} {b : Nat} {x : va_E} (h : Has L F b x) (hk : Kept L F L1 F1 xs) (hn : ∀ y ∈ xs, pk x ≠ pk (F y)) : Has L1 F1 b x := by
  refine ⟨hk.1 b h.1, ?_⟩
  rw [hk.2 b h.1 (fun q => hn b q (by rw [h.2]))]
  exact h.2
/-- another spool -/
theorem Rep.spool {cy : Nat → ClassId} {L : List Nat} {o : Nat} {qa : Nat → Nat → Nat} {M : SM} {D : SD} {S : SL} {P : SP} {K : SR} {B : SB} {X : SX} {F : Nat → va_E} (h : Rep cy L o qa M D S P K B X F) {L1 : List Nat} {F1 : Nat → va_E} {q : Nat} {w re : Int32} (hlt : ¬ P.1 = 30) (hw : 0 ≤ w.toInt ∧ w.toInt ≤ 100000) (hre : re = 0 ∨ re = 1) (hk : Kept L F L1 F1 [qa 8 3, o]) (hq : Has L1 F1 q (.inr (6, [.int P.1, .int w, .int re]))) (ha : Has L1 F1 (qa 8 3) (cQ (cy 9) 30 (va_up (pR P.1.toInt.toNat (qa 7)) P.1.toNatClampNeg (some q)))) (ho : Has L1 F1 o (.inr (7, [.ref (qa 8 0), .ref (qa 8 1), .ref (qa 8 2), .ref (qa 8 3), .ref (qa 8 4), .ref (qa 8 5), .ref (qa 8 6), .int (P.1 + 1), .int X.1]))) : Rep cy L1 o (va_up qa 7 (va_up (qa 7) P.1.toInt.toNat q)) M D S (P.1 + 1, upd P.2.1 P.1.toInt.toNat w, upd P.2.2 P.1.toInt.toNat re) K B X F1 := by
  obtain ⟨h1, h2, h3, h4, h5, h6, h7, h8, h9⟩ := h
  have hp := h6.1
  have h30 : (30 : Int32).toInt = 30 := by decide
  rw [fa_eq] at hlt
  have hP1 : (P.1 + 1).toInt = P.1.toInt + 1 := by
    have e : P.1 = nI P.1.toInt.toNat := by rw [fa_eq, nI_toInt (by omega)]; omega
    rw [e, ← nI_succ, nI_toInt (by omega), nI_toInt (by omega)]
    omega
  have hPn : (P.1 + 1).toInt.toNat = P.1.toInt.toNat + 1 := by rw [hP1]; omega
  have hqk : ∀ k, k ≠ 7 → va_up qa 7 (va_up (qa 7) P.1.toInt.toNat q) k = qa k := fun k hk => va_up_ne _ _ hk
  have hq7 : va_up qa 7 (va_up (qa 7) P.1.toInt.toNat q) 7 = va_up (qa 7) P.1.toInt.toNat q := va_up_self _ _ _
  have hn : ∀ n, n ≠ 1154 → n ≠ 7 → ∀ y ∈ [qa 8 3, o], n ≠ pk (F y) := by
    intro n n1 n2 y hy
    rcases List.mem_cons.mp hy with rfl | hy
    · rw [h1.2.2.2]; exact n1
    · rcases List.mem_cons.mp hy with rfl | hy
      · rw [h1.1.2]; exact n2
      · cases hy
  have kp : ∀ {b : Nat} {x : va_E}, b ∈ L → F b = x → pk x ≠ 1154 → pk x ≠ 7 → b ∈ L1 ∧ F1 b = x := fun hb hx n1 n2 => Has.keep ⟨hb, hx⟩ hk (hn _ n1 n2)
  unfold Rep RO RA RM RD RG RP RR RB RI
  rw [hqk 8 (by decide), hqk 0 (by decide), hqk 1 (by decide), hqk 2 (by decide), hqk 3 (by decide), hqk 4 (by decide), hqk 5 (by decide), hqk 6 (by decide), hq7]
  refine ⟨⟨ho, kp h1.2.1.1 h1.2.1.2 (by simp [pk]) (by simp [pk]), ?_⟩, ⟨kp h2.1.1 h2.1.2 (by simp [pk]) (by simp [pk]), kp h2.2.1.1 h2.2.1.2 (by simp [pk]) (by simp [pk]), kp h2.2.2.1.1 h2.2.2.1.2 (by simp [pk]) (by simp [pk]), kp h2.2.2.2.1.1 h2.2.2.2.1.2 (by simp [pk]) (by simp [pk]), kp h2.2.2.2.2.1 h2.2.2.2.2.2 (by simp [pk]) (by simp [pk])⟩, fun j hj => ?_, fun j hj => ?_, fun j hj => ?_, ⟨?_, fun k hk1 => ?_⟩, fun j hj => ?_, fun j hj => ?_, h9⟩
  · refine ⟨ha.1, ?_⟩
    rw [ha.2]
    show cQ (cy 9) 30 _ = cQ (cy 9) 30 (pR (P.1 + 1).toInt.toNat _)
    rw [hPn, ← pR_up]
    rfl
  · obtain ⟨q1, nm, rl, q2, q3⟩ := h3 j hj
    obtain ⟨a1, a2⟩ := kp q1 q2 (by simp [pk]) (by simp [pk])
    exact ⟨a1, nm, rl, a2, q3⟩
  · obtain ⟨q1, q2, q3⟩ := h4 j hj
    obtain ⟨a1, a2⟩ := kp q1 q2 (by simp [pk]) (by simp [pk])
    exact ⟨a1, a2, q3⟩
  · obtain ⟨q1, q2, q3, q4, f, q5, q6⟩ := h5 j hj
    obtain ⟨a1, a2⟩ := kp q1 q3 (by simp [pk]) (by simp [pk])
    obtain ⟨b1, b2⟩ := kp q2 q5 (by simp [pk]) (by simp [pk])
    exact ⟨a1, b1, a2, q4, f, b2, q6⟩
  · show 0 ≤ (P.1 + 1).toInt ∧ (P.1 + 1).toInt ≤ 30
    rw [hP1]
    omega
  · have hk2 : (k : Int) < P.1.toInt + 1 := by rw [← hP1]; exact hk1
    by_cases e : k = P.1.toInt.toNat
    · subst e
      rw [show va_up (qa 7) P.1.toInt.toNat q P.1.toInt.toNat = q from va_up_self _ _ _, show (P.1 + 1, upd P.2.1 P.1.toInt.toNat w, upd P.2.2 P.1.toInt.toNat re).2.1 P.1.toInt.toNat = w from pk_us, show (P.1 + 1, upd P.2.1 P.1.toInt.toNat w, upd P.2.2 P.1.toInt.toNat re).2.2 P.1.toInt.toNat = re from pk_us, show nI P.1.toInt.toNat = P.1 by rw [fa_eq, nI_toInt (by omega)]; omega]
      exact ⟨hq.1, hq.2, hre, hw⟩
    · rw [show va_up (qa 7) P.1.toInt.toNat q k = qa 7 k from va_up_ne _ _ e, show (P.1 + 1, upd P.2.1 P.1.toInt.toNat w, upd P.2.2 P.1.toInt.toNat re).2.1 k = P.2.1 k from pk_un e, show (P.1 + 1, upd P.2.1 P.1.toInt.toNat w, upd P.2.2 P.1.toInt.toNat re).2.2 k = P.2.2 k from pk_un e]
      obtain ⟨q1, q2, q3⟩ := h6.2 k (by omega)
      obtain ⟨a1, a2⟩ := kp q1 q2 (by simp [pk]) (by simp [pk])
      exact ⟨a1, a2, q3⟩
  · obtain ⟨q1, q2, q3, q4, q5, f, q6, q7⟩ := h7 j hj
    obtain ⟨a1, a2⟩ := kp q1 q3 (by simp [pk]) (by simp [pk])
    obtain ⟨b1, b2⟩ := kp q2 q6 (by simp [pk]) (by simp [pk])
    refine ⟨a1, b1, a2, q4, q5, f, b2, fun i hi => ?_⟩
    rcases q7 i hi with z | ⟨k, k1, k2, k3⟩
    · exact Or.inl z
    · refine Or.inr ⟨k, by show (k : Int) < (P.1 + 1).toInt; rw [hP1]; omega, k2, ?_⟩
      rw [hq7, va_up_ne _ _ (by omega)]
      exact k3
  · obtain ⟨q1, g, q2, q3⟩ := h8 j hj
    obtain ⟨a1, a2⟩ := kp q1 q2 (by simp [pk]) (by simp [pk])
    exact ⟨a1, g, a2, q3⟩
