theorem Met.ofWF {l : Launch} {y : MethodName} {ws ws' : List Cond} {rm : Room} {Pc : Array Value → State → Prop} {Qc : Array Value → State → Outcome → State → Prop} {mc ms : Nat} {free : Addr → Prop} {cc : ByteArray} {maxL : Nat} {ret : Option FieldType}
    (hy : plainFor y = true) (hw : ws = Cond.code y cc maxL ret :: ws')
    (body : ∀ p e s m args below meth c s₁, BodyLoose p l y (headSpec ws rm) cc maxL ret e s m args below meth c s₁ → c.maxLocals = maxL → Pc args s →
      W p l e (headSpec ws rm).room s m args below meth c s.heap [] 0 0 (MQ below Qc args s mc ms free) (entryFrame m args maxL)) : Met l y ws rm Pc Qc mc ms free := by
  refine MetFree.of_bodySF (code := cc) (maxLocals := maxL) (ret := ret) hy ?_ ?_
  · intro args s m h hn
    obtain ⟨meth, c, h1, h2, h3, h4, h5, h6, -, -⟩ := Cond.code_spec hn (atoms_spec (ws := ws) h _ (by rw [hw]; exact List.mem_cons_self))
    exact ⟨meth, c, h1, h2, h3, h4, h5, h6⟩
  · intro p e s m args below meth c s₁ B hml hP _
    have hh0 : s₁.heap = s.heap := by rw [B.state]; rfl
    obtain ⟨t, a1, o, b1, b2, b3⟩ := body p e s m args below meth c s₁ B hml hP s₁ hh0 (Stand.of_body B)
    exact ⟨t, o, a1, b1, b2, ⟨b3.1, b3.2⟩⟩

set_option maxHeartbeats 8000000 in
set_option maxRecDepth 100000 in
theorem c9_in (l : Launch) (x a b : Int64)  : Met l yX9_in wsX9_in ({ frames := 0, cells := 0, slots := 0, locals := 0 }) (va_Pc [.long x, .long a, .long b] (fun U => bT U U.heap)) (vp_Si (fun r : Int32 => r = inq x a b)) 0 0 (fun _ => False) := by
  refine Met.ofW (cc := cX9_in) (maxL := 6) (ret := (some .boolean)) (by decide) rfl ?_
  intro p e s m args below meth c s₁ B hml hv
  obtain ⟨rfl, -⟩ := hv
  have hx := B.exec
  have hb := B.bytes
  have hr := B.returns
  have hts := atoms_spec (ws := wsX9_in) B.pre
  have hown : s.vm.findClass RX9 = some m.cls := findClass_of_methodNamed B.named
  have hlocks := B.notSynchronized
  have hS : va_S (fun _ => False) s.heap s.heap [] := va_S.rf
  have hl := lv_entry ([.long x, .long a, .long b]) (n := 6) (Nat.le_of_ble_eq_true rfl)
  rw [lg_entry_eq]
  generalize (lg_sl ([.long x, .long a, .long b]) ++ List.replicate (6 - (lg_sl ([.long x, .long a, .long b])).length) Slot.unset).toArray = ls at hl ⊢
  have hl : lv_has ls 6 [(0, .long x), (2, .long a), (4, .long b)] := hl
  refine lv_lload_n hx hb dX9_in_0 rfl (lv_at hl 0 rfl) ?_
  refine lv_lload_n hx hb dX9_in_1 rfl (lv_at hl 1 rfl) ?_
  refine W.lcmp hx hb dX9_in_2 ?_
  refine lv_if_lt (tgt := 17) hx hb dX9_in_3 (by decide) (fun c1 => ?_) (fun c1 => ?_)
  · refine lv_iconst (v := 0) hx hb dX9_in_17 (by decide) ?_
    exact W.zret (v := 0) hx hb hr (rfl) (fun t ht hW => ⟨0, rfl, (by unfold inq; have hc0 := c1; rw [lg_cmp_lt, Int64.lt_iff_toInt_lt] at hc0; exact (if_neg (by omega)).symm), ht⟩) (fun q hq => absurd hq List.not_mem_nil) dX9_in_18
  · refine lv_lload_n hx hb dX9_in_6 rfl (lv_at hl 0 rfl) ?_
    refine lv_lload hx hb dX9_in_7 (lv_at hl 2 rfl) ?_
    refine W.lcmp hx hb dX9_in_9 ?_
    refine lv_if_gt (tgt := 17) hx hb dX9_in_10 (by decide) (fun c2 => ?_) (fun c2 => ?_)
    · refine lv_iconst (v := 0) hx hb dX9_in_17 (by decide) ?_
      exact W.zret (v := 0) hx hb hr (rfl) (fun t ht hW => ⟨0, rfl, (by unfold inq; have hc0 := c1; rw [lg_cmp_lt, Int64.lt_iff_toInt_lt] at hc0; have hc1 := c2; rw [lg_cmp_gt, Int64.lt_iff_toInt_lt] at hc1; exact (if_neg (by omega)).symm), ht⟩) (fun q hq => absurd hq List.not_mem_nil) dX9_in_18
    · refine lv_iconst (v := 1) hx hb dX9_in_13 (by decide) ?_
      refine lv_goto (tgt := 18) hx hb dX9_in_14 (by decide) ?_
      exact W.zret (v := 1) hx hb hr (rfl) (fun t ht hW => ⟨1, rfl, (by unfold inq; have hc0 := c1; rw [lg_cmp_lt, Int64.lt_iff_toInt_lt] at hc0; have hc1 := c2; rw [lg_cmp_gt, Int64.lt_iff_toInt_lt] at hc1; exact (if_pos (by omega)).symm), ht⟩) (fun q hq => absurd hq List.not_mem_nil) dX9_in_18

set_option maxHeartbeats 8000000 in
set_option maxRecDepth 100000 in
theorem c9_isMeter (l : Launch) (x : Int32)  : Met l yX9_isMeter wsX9_isMeter ({ frames := 1, cells := 0, slots := 0, locals := 25 }) (va_Pc [.int x] (fun U => bT U U.heap)) (vp_Si (fun r : Int32 => r = isx 10 x)) 0 0 (fun _ => False) := by
  refine Met.ofW (cc := cX9_isMeter) (maxL := 1) (ret := (some .boolean)) (by decide) rfl ?_
  intro p e s m args below meth c s₁ B hml hv
  obtain ⟨rfl, -⟩ := hv
  have hx := B.exec
  have hb := B.bytes
  have hr := B.returns
  have hts := atoms_spec (ws := wsX9_isMeter) B.pre
  have hown : s.vm.findClass RX9 = some m.cls := findClass_of_methodNamed B.named
  have hlocks := B.notSynchronized
  have hS : va_S (fun _ => False) s.heap s.heap [] := va_S.rf
  have hl := lv_entry ([.int x]) (n := 1) (Nat.le_of_ble_eq_true rfl)
  rw [lg_entry_eq]
  generalize (lg_sl ([.int x]) ++ List.replicate (1 - (lg_sl ([.int x])).length) Slot.unset).toArray = ls at hl ⊢
  have hl : lv_has ls 1 [(0, .int x)] := hl
  refine lv_iload_n hx hb dX9_isMeter_0 rfl (lv_at hl 0 rfl) ?_
  refine lv_i2l hx hb dX9_isMeter_1 rfl ?_
  refine lv_topl (fun v1 ev1 => ?_)
  refine lv_lconst (v := 0) hx hb dX9_isMeter_2 (by decide) ?_
  refine lv_ldc2 hx hb hown (hts (.constantLong RX9 113 (9)) (by decide +kernel)) dX9_isMeter_3 ?_
  refine vp_callSi (W.runS (As := [.long v1, .long 0, .long 9]) (rest := []) ⟨hx, hb, hml, hown, hts⟩ (c9_in l v1 0 9) (va_cwS 3 hts gX9_isMeter_X9_in rfl rfl rfl (by decide +kernel) ⟨Nat.le_of_ble_eq_true rfl, Nat.le_of_ble_eq_true rfl⟩) (preS_of okT (trivial)) rfl rfl hl.1 rfl (lv_room (Nat.le_of_ble_eq_true rfl)) dX9_isMeter_6 ⟨Nat.le_of_ble_eq_true rfl, Nat.le_of_ble_eq_true rfl⟩) (fun r2 hr2 => ?_)
  exact W.zret (v := r2) hx hb hr ((by rw [hr2]; unfold inq; split <;> rfl)) (fun t ht hW => ⟨r2, rfl, (by rw [hr2, ev1]; exact inx (by decide) (by decide)), ht⟩) (fun q hq => absurd hq List.not_mem_nil) dX9_isMeter_9

set_option maxHeartbeats 8000000 in
set_option maxRecDepth 100000 in
theorem c9_isDrum (l : Launch) (x : Int32)  : Met l yX9_isDrum wsX9_isDrum ({ frames := 1, cells := 0, slots := 0, locals := 25 }) (va_Pc [.int x] (fun U => bT U U.heap)) (vp_Si (fun r : Int32 => r = isx 6 x)) 0 0 (fun _ => False) := by
  refine Met.ofW (cc := cX9_isDrum) (maxL := 1) (ret := (some .boolean)) (by decide) rfl ?_
  intro p e s m args below meth c s₁ B hml hv
  obtain ⟨rfl, -⟩ := hv
  have hx := B.exec
  have hb := B.bytes
  have hr := B.returns
  have hts := atoms_spec (ws := wsX9_isDrum) B.pre
  have hown : s.vm.findClass RX9 = some m.cls := findClass_of_methodNamed B.named
  have hlocks := B.notSynchronized
  have hS : va_S (fun _ => False) s.heap s.heap [] := va_S.rf
  have hl := lv_entry ([.int x]) (n := 1) (Nat.le_of_ble_eq_true rfl)
  rw [lg_entry_eq]
  generalize (lg_sl ([.int x]) ++ List.replicate (1 - (lg_sl ([.int x])).length) Slot.unset).toArray = ls at hl ⊢
  have hl : lv_has ls 1 [(0, .int x)] := hl
  refine lv_iload_n hx hb dX9_isDrum_0 rfl (lv_at hl 0 rfl) ?_
  refine lv_i2l hx hb dX9_isDrum_1 rfl ?_
  refine lv_topl (fun v1 ev1 => ?_)
  refine lv_lconst (v := 0) hx hb dX9_isDrum_2 (by decide) ?_
  refine lv_ldc2 hx hb hown (hts (.constantLong RX9 161 (5)) (by decide +kernel)) dX9_isDrum_3 ?_
  refine vp_callSi (W.runS (As := [.long v1, .long 0, .long 5]) (rest := []) ⟨hx, hb, hml, hown, hts⟩ (c9_in l v1 0 5) (va_cwS 3 hts gX9_isDrum_X9_in rfl rfl rfl (by decide +kernel) ⟨Nat.le_of_ble_eq_true rfl, Nat.le_of_ble_eq_true rfl⟩) (preS_of okT (trivial)) rfl rfl hl.1 rfl (lv_room (Nat.le_of_ble_eq_true rfl)) dX9_isDrum_6 ⟨Nat.le_of_ble_eq_true rfl, Nat.le_of_ble_eq_true rfl⟩) (fun r2 hr2 => ?_)
  exact W.zret (v := r2) hx hb hr ((by rw [hr2]; unfold inq; split <;> rfl)) (fun t ht hW => ⟨r2, rfl, (by rw [hr2, ev1]; exact inx (by decide) (by decide)), ht⟩) (fun q hq => absurd hq List.not_mem_nil) dX9_isDrum_9

set_option maxHeartbeats 8000000 in
set_option maxRecDepth 100000 in
theorem c9_isLog (l : Launch) (x : Int32)  : Met l yX9_isLog wsX9_isLog ({ frames := 1, cells := 0, slots := 0, locals := 25 }) (va_Pc [.int x] (fun U => bT U U.heap)) (vp_Si (fun r : Int32 => r = isx 8 x)) 0 0 (fun _ => False) := by
  refine Met.ofW (cc := cX9_isLog) (maxL := 1) (ret := (some .boolean)) (by decide) rfl ?_
  intro p e s m args below meth c s₁ B hml hv
  obtain ⟨rfl, -⟩ := hv
  have hx := B.exec
  have hb := B.bytes
  have hr := B.returns
  have hts := atoms_spec (ws := wsX9_isLog) B.pre
  have hown : s.vm.findClass RX9 = some m.cls := findClass_of_methodNamed B.named
  have hlocks := B.notSynchronized
  have hS : va_S (fun _ => False) s.heap s.heap [] := va_S.rf
  have hl := lv_entry ([.int x]) (n := 1) (Nat.le_of_ble_eq_true rfl)
  rw [lg_entry_eq]
  generalize (lg_sl ([.int x]) ++ List.replicate (1 - (lg_sl ([.int x])).length) Slot.unset).toArray = ls at hl ⊢
  have hl : lv_has ls 1 [(0, .int x)] := hl
  refine lv_iload_n hx hb dX9_isLog_0 rfl (lv_at hl 0 rfl) ?_
  refine lv_i2l hx hb dX9_isLog_1 rfl ?_
  refine lv_topl (fun v1 ev1 => ?_)
  refine lv_lconst (v := 0) hx hb dX9_isLog_2 (by decide) ?_
  refine lv_ldc2 hx hb hown (hts (.constantLong RX9 176 (7)) (by decide +kernel)) dX9_isLog_3 ?_
  refine vp_callSi (W.runS (As := [.long v1, .long 0, .long 7]) (rest := []) ⟨hx, hb, hml, hown, hts⟩ (c9_in l v1 0 7) (va_cwS 3 hts gX9_isLog_X9_in rfl rfl rfl (by decide +kernel) ⟨Nat.le_of_ble_eq_true rfl, Nat.le_of_ble_eq_true rfl⟩) (preS_of okT (trivial)) rfl rfl hl.1 rfl (lv_room (Nat.le_of_ble_eq_true rfl)) dX9_isLog_6 ⟨Nat.le_of_ble_eq_true rfl, Nat.le_of_ble_eq_true rfl⟩) (fun r2 hr2 => ?_)
  exact W.zret (v := r2) hx hb hr ((by rw [hr2]; unfold inq; split <;> rfl)) (fun t ht hW => ⟨r2, rfl, (by rw [hr2, ev1]; exact inx (by decide) (by decide)), ht⟩) (fun q hq => absurd hq List.not_mem_nil) dX9_isLog_9

set_option maxHeartbeats 8000000 in
set_option maxRecDepth 100000 in
theorem c9_isRack (l : Launch) (x : Int32)  : Met l yX9_isRack wsX9_isRack ({ frames := 1, cells := 0, slots := 0, locals := 25 }) (va_Pc [.int x] (fun U => bT U U.heap)) (vp_Si (fun r : Int32 => r = isx 5 x)) 0 0 (fun _ => False) := by
  refine Met.ofW (cc := cX9_isRack) (maxL := 1) (ret := (some .boolean)) (by decide) rfl ?_
  intro p e s m args below meth c s₁ B hml hv
  obtain ⟨rfl, -⟩ := hv
  have hx := B.exec
  have hb := B.bytes
  have hr := B.returns
  have hts := atoms_spec (ws := wsX9_isRack) B.pre
  have hown : s.vm.findClass RX9 = some m.cls := findClass_of_methodNamed B.named
  have hlocks := B.notSynchronized
  have hS : va_S (fun _ => False) s.heap s.heap [] := va_S.rf
  have hl := lv_entry ([.int x]) (n := 1) (Nat.le_of_ble_eq_true rfl)
  rw [lg_entry_eq]
  generalize (lg_sl ([.int x]) ++ List.replicate (1 - (lg_sl ([.int x])).length) Slot.unset).toArray = ls at hl ⊢
  have hl : lv_has ls 1 [(0, .int x)] := hl
  refine lv_iload_n hx hb dX9_isRack_0 rfl (lv_at hl 0 rfl) ?_
  refine lv_i2l hx hb dX9_isRack_1 rfl ?_
  refine lv_topl (fun v1 ev1 => ?_)
  refine lv_lconst (v := 0) hx hb dX9_isRack_2 (by decide) ?_
  refine lv_ldc2 hx hb hown (hts (.constantLong RX9 143 (4)) (by decide +kernel)) dX9_isRack_3 ?_
  refine vp_callSi (W.runS (As := [.long v1, .long 0, .long 4]) (rest := []) ⟨hx, hb, hml, hown, hts⟩ (c9_in l v1 0 4) (va_cwS 3 hts gX9_isRack_X9_in rfl rfl rfl (by decide +kernel) ⟨Nat.le_of_ble_eq_true rfl, Nat.le_of_ble_eq_true rfl⟩) (preS_of okT (trivial)) rfl rfl hl.1 rfl (lv_room (Nat.le_of_ble_eq_true rfl)) dX9_isRack_6 ⟨Nat.le_of_ble_eq_true rfl, Nat.le_of_ble_eq_true rfl⟩) (fun r2 hr2 => ?_)
  exact W.zret (v := r2) hx hb hr ((by rw [hr2]; unfold inq; split <;> rfl)) (fun t ht hW => ⟨r2, rfl, (by rw [hr2, ev1]; exact inx (by decide) (by decide)), ht⟩) (fun q hq => absurd hq List.not_mem_nil) dX9_isRack_9

set_option maxHeartbeats 8000000 in
set_option maxRecDepth 100000 in
theorem c9_laneOfLog (l : Launch) (j : Nat) (hj : j < 8)  : Met l yX9_laneOfLog wsX9_laneOfLog ({ frames := 0, cells := 0, slots := 0, locals := 0 }) (va_Pc [.int (nI j)] (fun U => bT U U.heap)) (vp_Si (fun r : Int32 => r = lw j)) 0 0 (fun _ => False) := by
  refine Met.ofW (cc := cX9_laneOfLog) (maxL := 1) (ret := (some .int)) (by decide) rfl ?_
  intro p e s m args below meth c s₁ B hml hv
  obtain ⟨rfl, -⟩ := hv
  have hx := B.exec
  have hb := B.bytes
  have hr := B.returns
  have hts := atoms_spec (ws := wsX9_laneOfLog) B.pre
  have hown : s.vm.findClass RX9 = some m.cls := findClass_of_methodNamed B.named
  have hlocks := B.notSynchronized
  have hS : va_S (fun _ => False) s.heap s.heap [] := va_S.rf
  have hl := lv_entry ([.int (nI j)]) (n := 1) (Nat.le_of_ble_eq_true rfl)
  rw [lg_entry_eq]
  generalize (lg_sl ([.int (nI j)]) ++ List.replicate (1 - (lg_sl ([.int (nI j)])).length) Slot.unset).toArray = ls at hl ⊢
  have hl : lv_has ls 1 [(0, .int (nI j))] := hl
  refine lv_iload_n hx hb dX9_laneOfLog_0 rfl (lv_at hl 0 rfl) ?_
  refine lv_iconst (v := 4) hx hb dX9_laneOfLog_1 (by decide) ?_
  refine lv_icmp_ge (tgt := 9) hx hb dX9_laneOfLog_2 (by decide) (fun c1 => ?_) (fun c1 => ?_)
  · refine lv_iconst (v := 3) hx hb dX9_laneOfLog_9 (by decide) ?_
    exact W.iret (v := 3) hx hb hr (fun t ht hW => ⟨3, rfl, (by have hc := c1; rw [fa_le, nI_toInt (by omega)] at hc; have h4 : (4 : Int32).toInt = 4 := (by decide); exact ((lw3 _).mpr (by omega)).symm), ht⟩) (fun q hq => absurd hq List.not_mem_nil) dX9_laneOfLog_10
  · refine lv_iconst (v := 2) hx hb dX9_laneOfLog_5 (by decide) ?_
    refine lv_goto (tgt := 10) hx hb dX9_laneOfLog_6 (by decide) ?_
    exact W.iret (v := 2) hx hb hr (fun t ht hW => ⟨2, rfl, (by have hc := c1; rw [fa_le, nI_toInt (by omega)] at hc; have h4 : (4 : Int32).toInt = 4 := (by decide); exact ((lw2 _).mpr (by omega)).symm), ht⟩) (fun q hq => absurd hq List.not_mem_nil) dX9_laneOfLog_10

theorem lN_and (n k : Nat) : lN n &&& lN (2 ^ k - 1) = lN (n % 2 ^ k) := by
  show Int64.ofNat n &&& Int64.ofNat (2 ^ k - 1) = Int64.ofNat (n % 2 ^ k)
  apply Int64.toBitVec_inj.mp
  show BitVec.ofNat 64 n &&& BitVec.ofNat 64 (2 ^ k - 1) = BitVec.ofNat 64 (n % 2 ^ k)
  apply BitVec.eq_of_toNat_eq
  simp only [BitVec.toNat_and, BitVec.toNat_ofNat]
  rw [← Nat.and_two_pow_sub_one_eq_mod n k, Nat.and_mod_two_pow]
theorem lN_le63 {a b : Nat} (ha : a < 2 ^ 63) (hb : b < 2 ^ 63) : lN a ≤ lN b ↔ a ≤ b := by
  rw [Int64.le_iff_toInt_le]
  have h1 : (lN a).toInt = a := Int64.toInt_ofNat_of_lt ha
  have h2 : (lN b).toInt = b := Int64.toInt_ofNat_of_lt hb
  omega
theorem numq (ln : Int32) (n : Nat) (hn : n < 2 ^ 64) : numB ln (lN n) = ((!(decide (ln = 2)) || decide (n % 2 ^ 31 ≤ 2139095040)) && (!(decide (ln = 3)) || decide (n % 2 ^ 63 ≤ 9218868437227405312))) := by
  unfold numB
  rw [lNu hn]

set_option maxHeartbeats 8000000 in
set_option maxRecDepth 100000 in
theorem c9_isNumber (l : Launch) (ln : Int32) (n : Nat) (hn : n < 2 ^ 64)  : Met l yX9_isNumber wsX9_isNumber ({ frames := 0, cells := 0, slots := 0, locals := 0 }) (va_Pc [.int ln, .long (lN n)] (fun U => bT U U.heap)) (vp_Si (fun r : Int32 => r = if numB ln (lN n) = true then 1 else 0)) 0 0 (fun _ => False) := by
  refine Met.ofW (cc := cX9_isNumber) (maxL := 3) (ret := (some .boolean)) (by decide) rfl ?_
  intro p e s m args below meth c s₁ B hml hv
  obtain ⟨rfl, -⟩ := hv
  have hx := B.exec
  have hb := B.bytes
  have hr := B.returns
  have hts := atoms_spec (ws := wsX9_isNumber) B.pre
  have hown : s.vm.findClass RX9 = some m.cls := findClass_of_methodNamed B.named
  have hlocks := B.notSynchronized
  have hS : va_S (fun _ => False) s.heap s.heap [] := va_S.rf
  have hl := lv_entry ([.int ln, .long (lN n)]) (n := 3) (Nat.le_of_ble_eq_true rfl)
  rw [lg_entry_eq]
  generalize (lg_sl ([.int ln, .long (lN n)]) ++ List.replicate (3 - (lg_sl ([.int ln, .long (lN n)])).length) Slot.unset).toArray = ls at hl ⊢
  have hl : lv_has ls 3 [(0, .int ln), (1, .long (lN n))] := hl
  refine lv_iload_n hx hb dX9_isNumber_0 rfl (lv_at hl 0 rfl) ?_
  refine lv_iconst (v := 2) hx hb dX9_isNumber_1 (by decide) ?_
  refine lv_icmp_ne (tgt := 23) hx hb dX9_isNumber_2 (by decide) (fun c1 => ?_) (fun c1 => ?_)
  · refine lv_iload_n hx hb dX9_isNumber_23 rfl (lv_at hl 0 rfl) ?_
    refine lv_iconst (v := 3) hx hb dX9_isNumber_24 (by decide) ?_
    refine lv_icmp_ne (tgt := 40) hx hb dX9_isNumber_25 (by decide) (fun c2 => ?_) (fun c2 => ?_)
    · refine lv_iconst (v := 1) hx hb dX9_isNumber_40 (by decide) ?_
      refine lv_goto (tgt := 45) hx hb dX9_isNumber_41 (by decide) ?_
      exact W.zret (v := 1) hx hb hr (rfl) (fun t ht hW => ⟨1, rfl, (by rw [numq ln n hn, show decide (ln = 2) = false from decide_eq_false c1, show decide (ln = 3) = false from decide_eq_false c2]; rfl), ht⟩) (fun q hq => absurd hq List.not_mem_nil) dX9_isNumber_45
    · refine lv_lload_n hx hb dX9_isNumber_28 rfl (lv_at hl 1 rfl) ?_
      refine lv_ldc2 hx hb hown (hts (.constantLong RX9 72 (9223372036854775807)) (by decide +kernel)) dX9_isNumber_29 ?_
      refine lv_land hx hb dX9_isNumber_32 ?_
      refine lv_topl (fun v3 ev3 => ?_)
      refine lv_ldc2 hx hb hown (hts (.constantLong RX9 74 (9218868437227405312)) (by decide +kernel)) dX9_isNumber_33 ?_
      refine W.lcmp hx hb dX9_isNumber_36 ?_
      refine lv_if_gt (tgt := 44) hx hb dX9_isNumber_37 (by decide) (fun c4 => ?_) (fun c4 => ?_)
      · refine lv_iconst (v := 0) hx hb dX9_isNumber_44 (by decide) ?_
        exact W.zret (v := 0) hx hb hr (rfl) (fun t ht hW => ⟨0, rfl, (by have hc := c4; rw [lg_cmp_gt, ev3, show (9223372036854775807 : Int64) = lN (2 ^ 63 - 1) from rfl, lN_and, show (9218868437227405312 : Int64) = lN 9218868437227405312 from rfl, ← Int64.not_le, lN_le63 (by omega) (by decide)] at hc; have h3 := c2; subst h3; rw [numq 3 n hn]; rw [show (decide (n % 2 ^ 63 ≤ 9218868437227405312)) = false from decide_eq_false (by omega)]; rfl), ht⟩) (fun q hq => absurd hq List.not_mem_nil) dX9_isNumber_45
      · refine lv_iconst (v := 1) hx hb dX9_isNumber_40 (by decide) ?_
        refine lv_goto (tgt := 45) hx hb dX9_isNumber_41 (by decide) ?_
        exact W.zret (v := 1) hx hb hr (rfl) (fun t ht hW => ⟨1, rfl, (by have hc := c4; rw [lg_cmp_gt, ev3, show (9223372036854775807 : Int64) = lN (2 ^ 63 - 1) from rfl, lN_and, show (9218868437227405312 : Int64) = lN 9218868437227405312 from rfl, ← Int64.not_le, lN_le63 (by omega) (by decide)] at hc; have h3 := c2; subst h3; rw [numq 3 n hn]; rw [show (decide (n % 2 ^ 63 ≤ 9218868437227405312)) = true from decide_eq_true (by omega)]; rfl), ht⟩) (fun q hq => absurd hq List.not_mem_nil) dX9_isNumber_45
  · refine lv_lload_n hx hb dX9_isNumber_5 rfl (lv_at hl 1 rfl) ?_
    refine lv_ldc2 hx hb hown (hts (.constantLong RX9 68 (2147483647)) (by decide +kernel)) dX9_isNumber_6 ?_
    refine lv_land hx hb dX9_isNumber_9 ?_
    refine lv_topl (fun v5 ev5 => ?_)
    refine lv_ldc2 hx hb hown (hts (.constantLong RX9 70 (2139095040)) (by decide +kernel)) dX9_isNumber_10 ?_
    refine W.lcmp hx hb dX9_isNumber_13 ?_
    refine lv_if_gt (tgt := 21) hx hb dX9_isNumber_14 (by decide) (fun c6 => ?_) (fun c6 => ?_)
    · refine lv_iconst (v := 0) hx hb dX9_isNumber_21 (by decide) ?_
      exact W.zret (v := 0) hx hb hr (rfl) (fun t ht hW => ⟨0, rfl, (by have hc := c6; rw [lg_cmp_gt, ev5, show (2147483647 : Int64) = lN (2 ^ 31 - 1) from rfl, lN_and, show (2139095040 : Int64) = lN 2139095040 from rfl, ← Int64.not_le, lN_le63 (by omega) (by decide)] at hc; have h2 := c1; subst h2; rw [numq 2 n hn]; rw [show (decide (n % 2 ^ 31 ≤ 2139095040)) = false from decide_eq_false (by omega)]; rfl), ht⟩) (fun q hq => absurd hq List.not_mem_nil) dX9_isNumber_22
    · refine lv_iconst (v := 1) hx hb dX9_isNumber_17 (by decide) ?_
      refine lv_goto (tgt := 22) hx hb dX9_isNumber_18 (by decide) ?_
      exact W.zret (v := 1) hx hb hr (rfl) (fun t ht hW => ⟨1, rfl, (by have hc := c6; rw [lg_cmp_gt, ev5, show (2147483647 : Int64) = lN (2 ^ 31 - 1) from rfl, lN_and, show (2139095040 : Int64) = lN 2139095040 from rfl, ← Int64.not_le, lN_le63 (by omega) (by decide)] at hc; have h2 := c1; subst h2; rw [numq 2 n hn]; rw [show (decide (n % 2 ^ 31 ≤ 2139095040)) = true from decide_eq_true (by omega)]; rfl), ht⟩) (fun q hq => absurd hq List.not_mem_nil) dX9_isNumber_22

theorem endx63_y {x : UInt64} (hn : FP.Core.val64 x ≠ .nan) (h : 9218868437227405311 < FP.Core.dkey x ∨ ¬ -9218868437227405311 ≤ FP.Core.dkey x) : x.toNat % 2 ^ 63 = 9218868437227405312 := by
  have hlt := UInt64.toNat_lt x
  have hb := (FP.Core.ne_nan x).mp hn
  unfold FP.Core.dkey at h
  split at h <;> omega
theorem endx63_n {x : UInt64} (hn : FP.Core.val64 x ≠ .nan) (h : ¬ 9218868437227405311 < FP.Core.dkey x ∧ -9218868437227405311 ≤ FP.Core.dkey x) : ¬ x.toNat % 2 ^ 63 = 9218868437227405312 := by
  have hlt := UInt64.toNat_lt x
  unfold FP.Core.dkey at h
  split at h <;> omega
theorem endx31_y {x : UInt32} (hn : FP.Core.val32 x ≠ .nan) (h : 2139095039 < FP.Core.fkey x ∨ ¬ -2139095039 ≤ FP.Core.fkey x) : x.toNat % 2 ^ 31 = 2139095040 := by
  have hlt := UInt32.toNat_lt x
  have hb := (FP.Core.ne_nan32 x).mp hn
  unfold FP.Core.fkey at h
  split at h <;> omega
theorem endx31_n {x : UInt32} (hn : FP.Core.val32 x ≠ .nan) (h : ¬ 2139095039 < FP.Core.fkey x ∧ -2139095039 ≤ FP.Core.fkey x) : ¬ x.toNat % 2 ^ 31 = 2139095040 := by
  have hlt := UInt32.toNat_lt x
  unfold FP.Core.fkey at h
  split at h <;> omega

set_option maxHeartbeats 8000000 in
set_option maxRecDepth 100000 in
theorem c9_isEndless (l : Launch) (x : UInt64) (hN : FP.Core.val64 x ≠ .nan)  : Met l yX9_isEndless wsX9_isEndless ({ frames := 0, cells := 0, slots := 0, locals := 0 }) (va_Pc [.double x] (fun U => bT U U.heap)) (vp_Si (fun r : Int32 => r = if x.toNat % 2 ^ 63 = 9218868437227405312 then 1 else 0)) 0 0 (fun _ => False) := by
  refine Met.ofW (cc := cX9_isEndless) (maxL := 2) (ret := (some .boolean)) (by decide) rfl ?_
  intro p e s m args below meth c s₁ B hml hv
  obtain ⟨rfl, -⟩ := hv
  have hx := B.exec
  have hb := B.bytes
  have hr := B.returns
  have hts := atoms_spec (ws := wsX9_isEndless) B.pre
  have hown : s.vm.findClass RX9 = some m.cls := findClass_of_methodNamed B.named
  have hlocks := B.notSynchronized
  have hS : va_S (fun _ => False) s.heap s.heap [] := va_S.rf
  have hm1 : FP.Core.val64 9218868437227405311 ≠ .nan := by decide +kernel
  have hm2 : FP.Core.val64 18442240474082181119 ≠ .nan := by decide +kernel
  have k1 : FP.Core.dkey 9218868437227405311 = 9218868437227405311 := by decide +kernel
  have k2 : FP.Core.dkey 18442240474082181119 = -9218868437227405311 := by decide +kernel
  have hl := lv_entry ([.double x]) (n := 2) (Nat.le_of_ble_eq_true rfl)
  rw [lg_entry_eq]
  generalize (lg_sl ([.double x]) ++ List.replicate (2 - (lg_sl ([.double x])).length) Slot.unset).toArray = ls at hl ⊢
  have hl : lv_has ls 2 [(0, .double x)] := hl
  refine lv_dload_n hx hb dX9_isEndless_0 rfl (lv_at hl 0 rfl) ?_
  refine lv_ldc2d hx hb hown (hts (.constantDouble RX9 76 (9218868437227405311)) (by decide +kernel)) dX9_isEndless_1 ?_
  refine lv_dcmp hx hb dX9_isEndless_4 ?_
  refine lv_if_gt (tgt := 16) hx hb dX9_isEndless_5 (by decide) (fun c1 => ?_) (fun c1 => ?_)
  · refine lv_iconst (v := 1) hx hb dX9_isEndless_16 (by decide) ?_
    refine lv_goto (tgt := 21) hx hb dX9_isEndless_17 (by decide) ?_
    exact W.zret (v := 1) hx hb hr (rfl) (fun t ht hW => ⟨1, rfl, (by have hc0 := c1; rw [dcmpk hN hm1, cv_gt, k1] at hc0; exact (if_pos (endx63_y hN (by omega))).symm), ht⟩) (fun q hq => absurd hq List.not_mem_nil) dX9_isEndless_21
  · refine lv_dload_n hx hb dX9_isEndless_8 rfl (lv_at hl 0 rfl) ?_
    refine lv_ldc2d hx hb hown (hts (.constantDouble RX9 78 (18442240474082181119)) (by decide +kernel)) dX9_isEndless_9 ?_
    refine lv_dcmp hx hb dX9_isEndless_12 ?_
    refine lv_if_ge (tgt := 20) hx hb dX9_isEndless_13 (by decide) (fun c2 => ?_) (fun c2 => ?_)
    · refine lv_iconst (v := 0) hx hb dX9_isEndless_20 (by decide) ?_
      exact W.zret (v := 0) hx hb hr (rfl) (fun t ht hW => ⟨0, rfl, (by have hc0 := c1; rw [dcmpk hN hm1, cv_gt, k1] at hc0; have hc1 := c2; rw [dcmpk hN hm2, cv_ge, k2] at hc1; exact (if_neg (endx63_n hN (by omega))).symm), ht⟩) (fun q hq => absurd hq List.not_mem_nil) dX9_isEndless_21
    · refine lv_iconst (v := 1) hx hb dX9_isEndless_16 (by decide) ?_
      refine lv_goto (tgt := 21) hx hb dX9_isEndless_17 (by decide) ?_
      exact W.zret (v := 1) hx hb hr (rfl) (fun t ht hW => ⟨1, rfl, (by have hc0 := c1; rw [dcmpk hN hm1, cv_gt, k1] at hc0; have hc1 := c2; rw [dcmpk hN hm2, cv_ge, k2] at hc1; exact (if_pos (endx63_y hN (by omega))).symm), ht⟩) (fun q hq => absurd hq List.not_mem_nil) dX9_isEndless_21

set_option maxHeartbeats 8000000 in
set_option maxRecDepth 100000 in
theorem c9_isEndlessFloat (l : Launch) (x : UInt32) (hN : FP.Core.val32 x ≠ .nan)  : Met l yX9_isEndlessFloat wsX9_isEndlessFloat ({ frames := 0, cells := 0, slots := 0, locals := 0 }) (va_Pc [.float x] (fun U => bT U U.heap)) (vp_Si (fun r : Int32 => r = if x.toNat % 2 ^ 31 = 2139095040 then 1 else 0)) 0 0 (fun _ => False) := by
  refine Met.ofW (cc := cX9_isEndlessFloat) (maxL := 1) (ret := (some .boolean)) (by decide) rfl ?_
  intro p e s m args below meth c s₁ B hml hv
  obtain ⟨rfl, -⟩ := hv
  have hx := B.exec
  have hb := B.bytes
  have hr := B.returns
  have hts := atoms_spec (ws := wsX9_isEndlessFloat) B.pre
  have hown : s.vm.findClass RX9 = some m.cls := findClass_of_methodNamed B.named
  have hlocks := B.notSynchronized
  have hS : va_S (fun _ => False) s.heap s.heap [] := va_S.rf
  have hm1 : FP.Core.val32 2139095039 ≠ .nan := by decide +kernel
  have hm2 : FP.Core.val32 4286578687 ≠ .nan := by decide +kernel
  have k1 : FP.Core.fkey 2139095039 = 2139095039 := by decide +kernel
  have k2 : FP.Core.fkey 4286578687 = -2139095039 := by decide +kernel
  have hl := lv_entry ([.float x]) (n := 1) (Nat.le_of_ble_eq_true rfl)
  rw [lg_entry_eq]
  generalize (lg_sl ([.float x]) ++ List.replicate (1 - (lg_sl ([.float x])).length) Slot.unset).toArray = ls at hl ⊢
  have hl : lv_has ls 1 [(0, .float x)] := hl
  refine lv_fload_n hx hb dX9_isEndlessFloat_0 rfl (lv_at hl 0 rfl) ?_
  refine lv_ldcf hx hb hown (hts (.constantFloat RX9 80 (2139095039)) (by decide +kernel)) dX9_isEndlessFloat_1 ?_
  refine lv_fcmp hx hb dX9_isEndlessFloat_3 ?_
  refine lv_if_gt (tgt := 14) hx hb dX9_isEndlessFloat_4 (by decide) (fun c1 => ?_) (fun c1 => ?_)
  · refine lv_iconst (v := 1) hx hb dX9_isEndlessFloat_14 (by decide) ?_
    refine lv_goto (tgt := 19) hx hb dX9_isEndlessFloat_15 (by decide) ?_
    exact W.zret (v := 1) hx hb hr (rfl) (fun t ht hW => ⟨1, rfl, (by have hc0 := c1; rw [fcmpk hN hm1, cv_gt, k1] at hc0; exact (if_pos (endx31_y hN (by omega))).symm), ht⟩) (fun q hq => absurd hq List.not_mem_nil) dX9_isEndlessFloat_19
  · refine lv_fload_n hx hb dX9_isEndlessFloat_7 rfl (lv_at hl 0 rfl) ?_
    refine lv_ldcf hx hb hown (hts (.constantFloat RX9 81 (4286578687)) (by decide +kernel)) dX9_isEndlessFloat_8 ?_
    refine lv_fcmp hx hb dX9_isEndlessFloat_10 ?_
    refine lv_if_ge (tgt := 18) hx hb dX9_isEndlessFloat_11 (by decide) (fun c2 => ?_) (fun c2 => ?_)
    · refine lv_iconst (v := 0) hx hb dX9_isEndlessFloat_18 (by decide) ?_
      exact W.zret (v := 0) hx hb hr (rfl) (fun t ht hW => ⟨0, rfl, (by have hc0 := c1; rw [fcmpk hN hm1, cv_gt, k1] at hc0; have hc1 := c2; rw [fcmpk hN hm2, cv_ge, k2] at hc1; exact (if_neg (endx31_n hN (by omega))).symm), ht⟩) (fun q hq => absurd hq List.not_mem_nil) dX9_isEndlessFloat_19
    · refine lv_iconst (v := 1) hx hb dX9_isEndlessFloat_14 (by decide) ?_
      refine lv_goto (tgt := 19) hx hb dX9_isEndlessFloat_15 (by decide) ?_
      exact W.zret (v := 1) hx hb hr (rfl) (fun t ht hW => ⟨1, rfl, (by have hc0 := c1; rw [fcmpk hN hm1, cv_gt, k1] at hc0; have hc1 := c2; rw [fcmpk hN hm2, cv_ge, k2] at hc1; exact (if_pos (endx31_y hN (by omega))).symm), ht⟩) (fun q hq => absurd hq List.not_mem_nil) dX9_isEndlessFloat_19

set_option maxHeartbeats 8000000 in
set_option maxRecDepth 100000 in
theorem c9_floatOf (l : Launch) (b : Int64) (hN : FP.Core.val32 (fl b) ≠ .nan)  : Met l yX9_floatOf wsX9_floatOf ({ frames := 1, cells := 0, slots := 0, locals := 24 }) (va_Pc [.long b] (fun U => bT U U.heap)) (vp_Sf (fun r : UInt32 => r = fl b)) 0 0 (fun _ => False) := by
  refine Met.ofW (cc := cX9_floatOf) (maxL := 2) (ret := (some .float)) (by decide) rfl ?_
  intro p e s m args below meth c s₁ B hml hv
  obtain ⟨rfl, -⟩ := hv
  have hx := B.exec
  have hb := B.bytes
  have hr := B.returns
  have hts := atoms_spec (ws := wsX9_floatOf) B.pre
  have hown : s.vm.findClass RX9 = some m.cls := findClass_of_methodNamed B.named
  have hlocks := B.notSynchronized
  have hS : va_S (fun _ => False) s.heap s.heap [] := va_S.rf
  have hl := lv_entry ([.long b]) (n := 2) (Nat.le_of_ble_eq_true rfl)
  rw [lg_entry_eq]
  generalize (lg_sl ([.long b]) ++ List.replicate (2 - (lg_sl ([.long b])).length) Slot.unset).toArray = ls at hl ⊢
  have hl : lv_has ls 2 [(0, .long b)] := hl
  refine lv_lload_n hx hb dX9_floatOf_0 rfl (lv_at hl 0 rfl) ?_
  refine lv_l2i hx hb dX9_floatOf_1 rfl ?_
  refine lv_topi (fun v1 ev1 => ?_)
  refine vn_i2f hx hb (by rw [hml]; exact hl.1.symm) hown (hts (.methodLink RX9 82 ⟨"java/lang/Float", "intBitsToFloat", "(I)F"⟩) (by decide +kernel)) (hts (.native ⟨"java/lang/Float", "intBitsToFloat", "(I)F"⟩) (by decide +kernel)) (hts (.static ⟨"java/lang/Float", "intBitsToFloat", "(I)F"⟩) (by decide +kernel)) (hts (.initialized "java/lang/Float") (by decide +kernel)) ((by rw [ev1]; exact sn32 hN)) (Nat.le_of_ble_eq_true rfl) (Nat.le_of_ble_eq_true rfl) dX9_floatOf_2 ?_
  refine lv_topf (fun v2 ev2 => ?_)
  exact W.fret (v := v2) hx hb hr (fun t ht hW => ⟨v2, rfl, (by rw [ev2, ev1]; rfl), ht⟩) (fun q hq => absurd hq List.not_mem_nil) dX9_floatOf_5

set_option maxHeartbeats 8000000 in
set_option maxRecDepth 100000 in
theorem c9_doubleOf (l : Launch) (b : Int64) (hN : FP.Core.val64 (db b) ≠ .nan)  : Met l yX9_doubleOf wsX9_doubleOf ({ frames := 1, cells := 0, slots := 0, locals := 24 }) (va_Pc [.long b] (fun U => bT U U.heap)) (vp_Sd (fun r : UInt64 => r = db b)) 0 0 (fun _ => False) := by
  refine Met.ofW (cc := cX9_doubleOf) (maxL := 2) (ret := (some .double)) (by decide) rfl ?_
  intro p e s m args below meth c s₁ B hml hv
  obtain ⟨rfl, -⟩ := hv
  have hx := B.exec
  have hb := B.bytes
  have hr := B.returns
  have hts := atoms_spec (ws := wsX9_doubleOf) B.pre
  have hown : s.vm.findClass RX9 = some m.cls := findClass_of_methodNamed B.named
  have hlocks := B.notSynchronized
  have hS : va_S (fun _ => False) s.heap s.heap [] := va_S.rf
  have hl := lv_entry ([.long b]) (n := 2) (Nat.le_of_ble_eq_true rfl)
  rw [lg_entry_eq]
  generalize (lg_sl ([.long b]) ++ List.replicate (2 - (lg_sl ([.long b])).length) Slot.unset).toArray = ls at hl ⊢
  have hl : lv_has ls 2 [(0, .long b)] := hl
  refine lv_lload_n hx hb dX9_doubleOf_0 rfl (lv_at hl 0 rfl) ?_
  refine vn_l2d hx hb (by rw [hml]; exact hl.1.symm) hown (hts (.methodLink RX9 88 ⟨"java/lang/Double", "longBitsToDouble", "(J)D"⟩) (by decide +kernel)) (hts (.native ⟨"java/lang/Double", "longBitsToDouble", "(J)D"⟩) (by decide +kernel)) (hts (.static ⟨"java/lang/Double", "longBitsToDouble", "(J)D"⟩) (by decide +kernel)) (hts (.initialized "java/lang/Double") (by decide +kernel)) (sn64 hN) (Nat.le_of_ble_eq_true rfl) (Nat.le_of_ble_eq_true rfl) dX9_doubleOf_1 ?_
  refine lv_topd (fun v1 ev1 => ?_)
  exact W.dret (v := v1) hx hb hr (fun t ht hW => ⟨v1, rfl, (by rw [ev1]; rfl), ht⟩) (fun q hq => absurd hq List.not_mem_nil) dX9_doubleOf_4

set_option maxHeartbeats 8000000 in
set_option maxRecDepth 100000 in
theorem c9_isNaNd (l : Launch) (x : UInt64) (hN : FP.Core.val64 x ≠ .nan)  : Met l yJxe99ae_isNaN_b9ae7 wsJxe99ae_isNaN_b9ae7 ({ frames := 0, cells := 0, slots := 0, locals := 0 }) (va_Pc [.double x] (fun U => bT U U.heap)) (vp_Si (fun r : Int32 => r = 0)) 0 0 (fun _ => False) := by
  refine Met.ofW (cc := cJxe99ae_isNaN_b9ae7) (maxL := 2) (ret := (some .boolean)) (by decide) rfl ?_
  intro p e s m args below meth c s₁ B hml hv
  obtain ⟨rfl, -⟩ := hv
  have hx := B.exec
  have hb := B.bytes
  have hr := B.returns
  have hts := atoms_spec (ws := wsJxe99ae_isNaN_b9ae7) B.pre
  have hown : s.vm.findClass RJxe99ae = some m.cls := findClass_of_methodNamed B.named
  have hlocks := B.notSynchronized
  have hS : va_S (fun _ => False) s.heap s.heap [] := va_S.rf
  have hl := lv_entry ([.double x]) (n := 2) (Nat.le_of_ble_eq_true rfl)
  rw [lg_entry_eq]
  generalize (lg_sl ([.double x]) ++ List.replicate (2 - (lg_sl ([.double x])).length) Slot.unset).toArray = ls at hl ⊢
  have hl : lv_has ls 2 [(0, .double x)] := hl
  refine lv_dload_n hx hb dJxe99ae_isNaN_b9ae7_0 rfl (lv_at hl 0 rfl) ?_
  refine lv_dload_n hx hb dJxe99ae_isNaN_b9ae7_1 rfl (lv_at hl 0 rfl) ?_
  refine lv_dcmp hx hb dJxe99ae_isNaN_b9ae7_2 ?_
  refine lv_if_eq (tgt := 10) hx hb dJxe99ae_isNaN_b9ae7_3 (by decide) (fun c1 => ?_) (fun c1 => absurd ((eq_iff hN hN).mpr rfl) c1)
  refine lv_iconst (v := 0) hx hb dJxe99ae_isNaN_b9ae7_10 (by decide) ?_
  exact W.zret (v := 0) hx hb hr (rfl) (fun t ht hW => ⟨0, rfl, rfl, ht⟩) (fun q hq => absurd hq List.not_mem_nil) dJxe99ae_isNaN_b9ae7_11

set_option maxHeartbeats 8000000 in
set_option maxRecDepth 100000 in
theorem c9_isNaNf (l : Launch) (x : UInt32) (hN : FP.Core.val32 x ≠ .nan)  : Met l yJxf58ca_isNaN_12338 wsJxf58ca_isNaN_12338 ({ frames := 0, cells := 0, slots := 0, locals := 0 }) (va_Pc [.float x] (fun U => bT U U.heap)) (vp_Si (fun r : Int32 => r = 0)) 0 0 (fun _ => False) := by
  refine Met.ofWF (cc := cJxf58ca_isNaN_12338) (maxL := 1) (ret := (some .boolean)) (by decide +kernel) rfl ?_
  intro p e s m args below meth c s₁ B hml hv
  obtain ⟨rfl, -⟩ := hv
  have hx := B.exec
  have hb := B.bytes
  have hr := B.returns
  have hts := atoms_spec (ws := wsJxf58ca_isNaN_12338) B.pre
  have hown : s.vm.findClass RJxf58ca = some m.cls := findClass_of_methodNamed B.named
  have hlocks := B.notSynchronized
  have hS : va_S (fun _ => False) s.heap s.heap [] := va_S.rf
  have hl := lv_entry ([.float x]) (n := 1) (Nat.le_of_ble_eq_true rfl)
  rw [lg_entry_eq]
  generalize (lg_sl ([.float x]) ++ List.replicate (1 - (lg_sl ([.float x])).length) Slot.unset).toArray = ls at hl ⊢
  have hl : lv_has ls 1 [(0, .float x)] := hl
  refine lv_fload_n hx hb dJxf58ca_isNaN_12338_0 rfl (lv_at hl 0 rfl) ?_
  refine lv_fload_n hx hb dJxf58ca_isNaN_12338_1 rfl (lv_at hl 0 rfl) ?_
  refine lv_fcmp hx hb dJxf58ca_isNaN_12338_2 ?_
  refine lv_if_eq (tgt := 10) hx hb dJxf58ca_isNaN_12338_3 (by decide) (fun c1 => ?_) (fun c1 => absurd ((eq_iff32 hN hN).mpr rfl) c1)
  refine lv_iconst (v := 0) hx hb dJxf58ca_isNaN_12338_10 (by decide) ?_
  exact W.zret (v := 0) hx hb hr (rfl) (fun t ht hW => ⟨0, rfl, rfl, ht⟩) (fun q hq => absurd hq List.not_mem_nil) dJxf58ca_isNaN_12338_11

set_option maxHeartbeats 8000000 in
set_option maxRecDepth 100000 in
theorem c9_d2lb (l : Launch) (x : UInt64) (hN : FP.Core.val64 x ≠ .nan)  : Met l yJxe99ae_doubleToLongBits_ccdee wsJxe99ae_doubleToLongBits_ccdee ({ frames := 1, cells := 0, slots := 0, locals := 24 }) (va_Pc [.double x] (fun U => bT U U.heap)) (vp_Sl (fun r : Int64 => r = x.toInt64)) 0 0 (fun _ => False) := by
  refine Met.ofW (cc := cJxe99ae_doubleToLongBits_ccdee) (maxL := 2) (ret := (some .long)) (by decide) rfl ?_
  intro p e s m args below meth c s₁ B hml hv
  obtain ⟨rfl, -⟩ := hv
  have hx := B.exec
  have hb := B.bytes
  have hr := B.returns
  have hts := atoms_spec (ws := wsJxe99ae_doubleToLongBits_ccdee) B.pre
  have hown : s.vm.findClass RJxe99ae = some m.cls := findClass_of_methodNamed B.named
  have hlocks := B.notSynchronized
  have hS : va_S (fun _ => False) s.heap s.heap [] := va_S.rf
  have hl := lv_entry ([.double x]) (n := 2) (Nat.le_of_ble_eq_true rfl)
  rw [lg_entry_eq]
  generalize (lg_sl ([.double x]) ++ List.replicate (2 - (lg_sl ([.double x])).length) Slot.unset).toArray = ls at hl ⊢
  have hl : lv_has ls 2 [(0, .double x)] := hl
  refine lv_dload_n hx hb dJxe99ae_doubleToLongBits_ccdee_0 rfl (lv_at hl 0 rfl) ?_
  refine vp_callSi (W.runS (As := [.double x]) (rest := []) ⟨hx, hb, hml, hown, hts⟩ (c9_isNaNd l x hN) (va_cwS 1 hts gJxe99ae_doubleToLongBits_ccdee_Jxe99ae_isNaN_b9ae7 rfl rfl rfl (by decide +kernel) ⟨Nat.le_of_ble_eq_true rfl, Nat.le_of_ble_eq_true rfl⟩) (preS_of okT (trivial)) rfl rfl hl.1 rfl (lv_room (Nat.le_of_ble_eq_true rfl)) dJxe99ae_doubleToLongBits_ccdee_1 ⟨Nat.le_of_ble_eq_true rfl, Nat.le_of_ble_eq_true rfl⟩) (fun r1 hr1 => ?_)
  subst hr1
  refine lv_if_ne (tgt := 12) hx hb dJxe99ae_doubleToLongBits_ccdee_4 (by decide) (fun c2 => absurd (by decide) c2) (fun c2 => ?_)
  refine lv_dload_n hx hb dJxe99ae_doubleToLongBits_ccdee_7 rfl (lv_at hl 0 rfl) ?_
  refine vn_d2l hx hb (by rw [hml]; exact hl.1.symm) hown (hts (.methodLink RJxe99ae 134 ⟨"java/lang/Double", "doubleToRawLongBits", "(D)J"⟩) (by decide +kernel)) (hts (.native ⟨"java/lang/Double", "doubleToRawLongBits", "(D)J"⟩) (by decide +kernel)) (hts (.static ⟨"java/lang/Double", "doubleToRawLongBits", "(D)J"⟩) (by decide +kernel)) (hts (.initialized "java/lang/Double") (by decide +kernel)) (Nat.le_of_ble_eq_true rfl) (Nat.le_of_ble_eq_true rfl) dJxe99ae_doubleToLongBits_ccdee_8 ?_
  refine lv_topl (fun v3 ev3 => ?_)
  exact W.lret (v := v3) hx hb hr (fun t ht hW => ⟨v3, rfl, ev3, ht⟩) (fun q hq => absurd hq List.not_mem_nil) dJxe99ae_doubleToLongBits_ccdee_11

set_option maxHeartbeats 8000000 in
set_option maxRecDepth 100000 in
theorem c9_f2ib (l : Launch) (x : UInt32) (hN : FP.Core.val32 x ≠ .nan)  : Met l yJxf58ca_floatToIntBits_5c35a wsJxf58ca_floatToIntBits_5c35a ({ frames := 1, cells := 0, slots := 0, locals := 24 }) (va_Pc [.float x] (fun U => bT U U.heap)) (vp_Si (fun r : Int32 => r = x.toInt32)) 0 0 (fun _ => False) := by
  refine Met.ofWF (cc := cJxf58ca_floatToIntBits_5c35a) (maxL := 1) (ret := (some .int)) (by decide +kernel) rfl ?_
  intro p e s m args below meth c s₁ B hml hv
  obtain ⟨rfl, -⟩ := hv
  have hx := B.exec
  have hb := B.bytes
  have hr := B.returns
  have hts := atoms_spec (ws := wsJxf58ca_floatToIntBits_5c35a) B.pre
  have hown : s.vm.findClass RJxf58ca = some m.cls := findClass_of_methodNamed B.named
  have hlocks := B.notSynchronized
  have hS : va_S (fun _ => False) s.heap s.heap [] := va_S.rf
  have hl := lv_entry ([.float x]) (n := 1) (Nat.le_of_ble_eq_true rfl)
  rw [lg_entry_eq]
  generalize (lg_sl ([.float x]) ++ List.replicate (1 - (lg_sl ([.float x])).length) Slot.unset).toArray = ls at hl ⊢
  have hl : lv_has ls 1 [(0, .float x)] := hl
  refine lv_fload_n hx hb dJxf58ca_floatToIntBits_5c35a_0 rfl (lv_at hl 0 rfl) ?_
  refine vp_callSi (W.runS (As := [.float x]) (rest := []) ⟨hx, hb, hml, hown, hts⟩ (c9_isNaNf l x hN) (va_cwS 1 hts gJxf58ca_floatToIntBits_5c35a_Jxf58ca_isNaN_12338 rfl rfl rfl (by decide +kernel) ⟨Nat.le_of_ble_eq_true rfl, Nat.le_of_ble_eq_true rfl⟩) (preS_of okT (trivial)) rfl rfl hl.1 rfl (lv_room (Nat.le_of_ble_eq_true rfl)) dJxf58ca_floatToIntBits_5c35a_1 ⟨Nat.le_of_ble_eq_true rfl, Nat.le_of_ble_eq_true rfl⟩) (fun r1 hr1 => ?_)
  subst hr1
  refine lv_if_ne (tgt := 12) hx hb dJxf58ca_floatToIntBits_5c35a_4 (by decide) (fun c2 => absurd (by decide) c2) (fun c2 => ?_)
  refine lv_fload_n hx hb dJxf58ca_floatToIntBits_5c35a_7 rfl (lv_at hl 0 rfl) ?_
  refine vn_f2i hx hb (by rw [hml]; exact hl.1.symm) hown (hts (.methodLink RJxf58ca 74 ⟨"java/lang/Float", "floatToRawIntBits", "(F)I"⟩) (by decide +kernel)) (hts (.native ⟨"java/lang/Float", "floatToRawIntBits", "(F)I"⟩) (by decide +kernel)) (hts (.static ⟨"java/lang/Float", "floatToRawIntBits", "(F)I"⟩) (by decide +kernel)) (hts (.initialized "java/lang/Float") (by decide +kernel)) (Nat.le_of_ble_eq_true rfl) (Nat.le_of_ble_eq_true rfl) dJxf58ca_floatToIntBits_5c35a_8 ?_
  refine lv_topi (fun v3 ev3 => ?_)
  exact W.iret (v := v3) hx hb hr (fun t ht hW => ⟨v3, rfl, ev3, ht⟩) (fun q hq => absurd hq List.not_mem_nil) dJxf58ca_floatToIntBits_5c35a_11

theorem okV2 {b : Int64} {fr : Int32} (h : okV fr b) (h2 : fr = 2) : FP.Core.val32 (fl b) ≠ .nan := by
  subst h2
  rcases h with ⟨h, -⟩ | h | ⟨-, -, h⟩ | ⟨h, -⟩
  · exact absurd h (by decide)
  · exact absurd h (by decide)
  · exact h
  · exact absurd h (by decide)
theorem okV3 {b : Int64} {fr : Int32} (h : okV fr b) (h0 : 2 ≤ fr) (h2 : ¬ fr = 2) : FP.Core.val64 (db b) ≠ .nan := by
  rcases h with ⟨rfl, -⟩ | rfl | ⟨h, -⟩ | ⟨-, h⟩
  · exact absurd h0 (by decide)
  · exact absurd h0 (by decide)
  · exact absurd h h2
  · exact h

set_option maxHeartbeats 8000000 in
set_option maxRecDepth 100000 in
theorem c9_turned (l : Launch) (fr to : Int32) (b : Int64) (hok : okV fr b)  : Met l yX9_turned wsX9_turned ({ frames := 2, cells := 0, slots := 0, locals := 45 }) (va_Pc [.int fr, .long b, .int to] (fun U => bT U U.heap)) (vp_Sl (fun r : Int64 => r = tn fr b to)) 0 0 (fun _ => False) := by
  refine Met.ofW (cc := cX9_turned) (maxL := 6) (ret := (some .long)) (by decide) rfl ?_
  intro p e s m args below meth c s₁ B hml hv
  obtain ⟨rfl, -⟩ := hv
  have hx := B.exec
  have hb := B.bytes
  have hr := B.returns
  have hts := atoms_spec (ws := wsX9_turned) B.pre
  have hown : s.vm.findClass RX9 = some m.cls := findClass_of_methodNamed B.named
  have hlocks := B.notSynchronized
  have hS : va_S (fun _ => False) s.heap s.heap [] := va_S.rf
  have hl := lv_entry ([.int fr, .long b, .int to]) (n := 6) (Nat.le_of_ble_eq_true rfl)
  rw [lg_entry_eq]
  generalize (lg_sl ([.int fr, .long b, .int to]) ++ List.replicate (6 - (lg_sl ([.int fr, .long b, .int to])).length) Slot.unset).toArray = ls at hl ⊢
  have hl : lv_has ls 6 [(0, .int fr), (1, .long b), (3, .int to)] := hl
  refine lv_iload_n hx hb dX9_turned_0 rfl (lv_at hl 0 rfl) ?_
  refine lv_iload_n hx hb dX9_turned_1 rfl (lv_at hl 2 rfl) ?_
  refine lv_icmp_ne (tgt := 7) hx hb dX9_turned_2 (by decide) (fun c1 => ?_) (fun c1 => ?_)
  · refine lv_iload_n hx hb dX9_turned_7 rfl (lv_at hl 0 rfl) ?_
    refine lv_iconst (v := 2) hx hb dX9_turned_8 (by decide) ?_
    refine lv_icmp_ge (tgt := 51) hx hb dX9_turned_9 (by decide) (fun c2 => ?_) (fun c2 => ?_)
    · refine lv_iload_n hx hb dX9_turned_51 rfl (lv_at hl 0 rfl) ?_
      refine lv_iconst (v := 2) hx hb dX9_turned_52 (by decide) ?_
      refine lv_icmp_ne (tgt := 91) hx hb dX9_turned_53 (by decide) (fun c3 => ?_) (fun c3 => ?_)
      · refine lv_lload_n hx hb dX9_turned_91 rfl (lv_at hl 1 rfl) ?_
        refine vp_callSd (W.runS (As := [.long b]) (rest := []) ⟨hx, hb, hml, hown, hts⟩ (c9_doubleOf l b (okV3 hok c2 c3)) (va_cwS 1 hts gX9_turned_X9_doubleOf rfl rfl rfl (by decide +kernel) ⟨Nat.le_of_ble_eq_true rfl, Nat.le_of_ble_eq_true rfl⟩) (preS_of okT (trivial)) rfl rfl hl.1 rfl (lv_room (Nat.le_of_ble_eq_true rfl)) dX9_turned_92 ⟨Nat.le_of_ble_eq_true rfl, Nat.le_of_ble_eq_true rfl⟩) (fun r4 hr4 => ?_)
        refine lv_dstore (lv' := [(4, .double r4), (0, .int fr), (1, .long b), (3, .int to)]) hx hb dX9_turned_95 hl (by decide) rfl (fun ls hl => ?_)
        refine lv_iload_n hx hb dX9_turned_97 rfl (lv_at hl 3 rfl) ?_
        refine lv_if_ne (tgt := 108) hx hb dX9_turned_98 (by decide) (fun c5 => ?_) (fun c5 => ?_)
        · refine lv_iload_n hx hb dX9_turned_108 rfl (lv_at hl 3 rfl) ?_
          refine lv_iconst (v := 1) hx hb dX9_turned_109 (by decide) ?_
          refine lv_icmp_ne (tgt := 119) hx hb dX9_turned_110 (by decide) (fun c6 => ?_) (fun c6 => ?_)
          · refine lv_dload hx hb dX9_turned_119 (lv_at hl 0 rfl) ?_
            refine lv_d2f hx hb dX9_turned_121 (n32.mpr (by rw [hr4]; exact (d2f_ok (okV3 hok c2 c3)).2)) ?_
            refine lv_topf (fun v7 ev7 => ?_)
            refine vp_callSi (W.runS (As := [.float v7]) (rest := []) ⟨hx, hb, hml, hown, hts⟩ (c9_f2ib l v7 (by rw [ev7, hr4]; exact (d2f_ok (okV3 hok c2 c3)).2)) (va_cwS 1 hts gX9_turned_Jxf58ca_floatToIntBits_5c35a rfl rfl rfl (by decide +kernel) ⟨Nat.le_of_ble_eq_true rfl, Nat.le_of_ble_eq_true rfl⟩) (preS_of okT (trivial)) rfl rfl hl.1 rfl (lv_room (Nat.le_of_ble_eq_true rfl)) dX9_turned_122 ⟨Nat.le_of_ble_eq_true rfl, Nat.le_of_ble_eq_true rfl⟩) (fun r8 hr8 => ?_)
            refine lv_i2l hx hb dX9_turned_125 rfl ?_
            refine lv_topl (fun v9 ev9 => ?_)
            exact W.lret (v := v9) hx hb hr (fun t ht hW => ⟨v9, rfl, (by unfold tn; rw [if_neg c1, if_neg (Int32.not_lt.mpr c2), if_neg c3, if_neg c5, if_neg c6, ev9, hr8, ev7, hr4]), ht⟩) (fun q hq => absurd hq List.not_mem_nil) dX9_turned_126
          · refine lv_dload hx hb dX9_turned_113 (lv_at hl 0 rfl) ?_
            refine lv_d2l hx hb dX9_turned_115 ?_
            refine lv_topl (fun v10 ev10 => ?_)
            refine lv_goto (tgt := 126) hx hb dX9_turned_116 (by decide) ?_
            exact W.lret (v := v10) hx hb hr (fun t ht hW => ⟨v10, rfl, (by unfold tn; rw [if_neg c1, if_neg (Int32.not_lt.mpr c2), if_neg c3, if_neg c5, if_pos c6, ev10, hr4]), ht⟩) (fun q hq => absurd hq List.not_mem_nil) dX9_turned_126
        · refine lv_dload hx hb dX9_turned_101 (lv_at hl 0 rfl) ?_
          refine lv_d2i hx hb dX9_turned_103 ?_
          refine lv_topi (fun v11 ev11 => ?_)
          refine lv_i2l hx hb dX9_turned_104 rfl ?_
          refine lv_topl (fun v12 ev12 => ?_)
          refine lv_goto (tgt := 126) hx hb dX9_turned_105 (by decide) ?_
          exact W.lret (v := v12) hx hb hr (fun t ht hW => ⟨v12, rfl, (by unfold tn; rw [if_neg c1, if_neg (Int32.not_lt.mpr c2), if_neg c3, if_pos c5, ev12, ev11, hr4]), ht⟩) (fun q hq => absurd hq List.not_mem_nil) dX9_turned_126
      · refine lv_lload_n hx hb dX9_turned_56 rfl (lv_at hl 1 rfl) ?_
        refine vp_callSf (W.runS (As := [.long b]) (rest := []) ⟨hx, hb, hml, hown, hts⟩ (c9_floatOf l b (okV2 hok c3)) (va_cwS 1 hts gX9_turned_X9_floatOf rfl rfl rfl (by decide +kernel) ⟨Nat.le_of_ble_eq_true rfl, Nat.le_of_ble_eq_true rfl⟩) (preS_of okT (trivial)) rfl rfl hl.1 rfl (lv_room (Nat.le_of_ble_eq_true rfl)) dX9_turned_57 ⟨Nat.le_of_ble_eq_true rfl, Nat.le_of_ble_eq_true rfl⟩) (fun r13 hr13 => ?_)
        refine lv_fstore (lv' := [(4, .float r13), (0, .int fr), (1, .long b), (3, .int to)]) hx hb dX9_turned_60 hl (by decide) rfl (fun ls hl => ?_)
        refine lv_iload_n hx hb dX9_turned_62 rfl (lv_at hl 3 rfl) ?_
        refine lv_if_ne (tgt := 73) hx hb dX9_turned_63 (by decide) (fun c14 => ?_) (fun c14 => ?_)
        · refine lv_iload_n hx hb dX9_turned_73 rfl (lv_at hl 3 rfl) ?_
          refine lv_iconst (v := 1) hx hb dX9_turned_74 (by decide) ?_
          refine lv_icmp_ne (tgt := 84) hx hb dX9_turned_75 (by decide) (fun c15 => ?_) (fun c15 => ?_)
          · refine lv_fload hx hb dX9_turned_84 (lv_at hl 0 rfl) ?_
            refine lv_f2d hx hb dX9_turned_86 (n64.mpr (by rw [hr13]; exact (f2d_ok (okV2 hok c3)).2)) ?_
            refine lv_topd (fun v16 ev16 => ?_)
            refine vp_callSl (W.runS (As := [.double v16]) (rest := []) ⟨hx, hb, hml, hown, hts⟩ (c9_d2lb l v16 (by rw [ev16, hr13]; exact (f2d_ok (okV2 hok c3)).2)) (va_cwS 1 hts gX9_turned_Jxe99ae_doubleToLongBits_ccdee rfl rfl rfl (by decide +kernel) ⟨Nat.le_of_ble_eq_true rfl, Nat.le_of_ble_eq_true rfl⟩) (preS_of okT (trivial)) rfl rfl hl.1 rfl (lv_room (Nat.le_of_ble_eq_true rfl)) dX9_turned_87 ⟨Nat.le_of_ble_eq_true rfl, Nat.le_of_ble_eq_true rfl⟩) (fun r17 hr17 => ?_)
            exact W.lret (v := r17) hx hb hr (fun t ht hW => ⟨r17, rfl, (by unfold tn; rw [if_neg c1, if_neg (Int32.not_lt.mpr c2), if_pos c3, if_neg c14, if_neg c15, hr17, ev16, hr13]), ht⟩) (fun q hq => absurd hq List.not_mem_nil) dX9_turned_90
          · refine lv_fload hx hb dX9_turned_78 (lv_at hl 0 rfl) ?_
            refine lv_f2l hx hb dX9_turned_80 ?_
            refine lv_topl (fun v18 ev18 => ?_)
            refine lv_goto (tgt := 90) hx hb dX9_turned_81 (by decide) ?_
            exact W.lret (v := v18) hx hb hr (fun t ht hW => ⟨v18, rfl, (by unfold tn; rw [if_neg c1, if_neg (Int32.not_lt.mpr c2), if_pos c3, if_neg c14, if_pos c15, ev18, hr13]), ht⟩) (fun q hq => absurd hq List.not_mem_nil) dX9_turned_90
        · refine lv_fload hx hb dX9_turned_66 (lv_at hl 0 rfl) ?_
          refine lv_f2i hx hb dX9_turned_68 ?_
          refine lv_topi (fun v19 ev19 => ?_)
          refine lv_i2l hx hb dX9_turned_69 rfl ?_
          refine lv_topl (fun v20 ev20 => ?_)
          refine lv_goto (tgt := 90) hx hb dX9_turned_70 (by decide) ?_
          exact W.lret (v := v20) hx hb hr (fun t ht hW => ⟨v20, rfl, (by unfold tn; rw [if_neg c1, if_neg (Int32.not_lt.mpr c2), if_pos c3, if_pos c14, ev20, ev19, hr13]), ht⟩) (fun q hq => absurd hq List.not_mem_nil) dX9_turned_90
    · refine lv_iload_n hx hb dX9_turned_12 rfl (lv_at hl 2 rfl) ?_
      refine lv_if_ne (tgt := 22) hx hb dX9_turned_13 (by decide) (fun c21 => ?_) (fun c21 => ?_)
      · refine lv_iload_n hx hb dX9_turned_22 rfl (lv_at hl 2 rfl) ?_
        refine lv_iconst (v := 1) hx hb dX9_turned_23 (by decide) ?_
        refine lv_icmp_ne (tgt := 31) hx hb dX9_turned_24 (by decide) (fun c22 => ?_) (fun c22 => ?_)
        · refine lv_iload_n hx hb dX9_turned_31 rfl (lv_at hl 2 rfl) ?_
          refine lv_iconst (v := 2) hx hb dX9_turned_32 (by decide) ?_
          refine lv_icmp_ne (tgt := 45) hx hb dX9_turned_33 (by decide) (fun c23 => ?_) (fun c23 => ?_)
          · refine lv_lload_n hx hb dX9_turned_45 rfl (lv_at hl 1 rfl) ?_
            refine lv_l2d hx hb dX9_turned_46 ?_
            refine lv_topd (fun v24 ev24 => ?_)
            refine vp_callSl (W.runS (As := [.double v24]) (rest := []) ⟨hx, hb, hml, hown, hts⟩ (c9_d2lb l v24 (by rw [ev24]; exact l2d_ok _)) (va_cwS 1 hts gX9_turned_Jxe99ae_doubleToLongBits_ccdee rfl rfl rfl (by decide +kernel) ⟨Nat.le_of_ble_eq_true rfl, Nat.le_of_ble_eq_true rfl⟩) (preS_of okT (trivial)) rfl rfl hl.1 rfl (lv_room (Nat.le_of_ble_eq_true rfl)) dX9_turned_47 ⟨Nat.le_of_ble_eq_true rfl, Nat.le_of_ble_eq_true rfl⟩) (fun r25 hr25 => ?_)
            exact W.lret (v := r25) hx hb hr (fun t ht hW => ⟨r25, rfl, (by unfold tn; rw [if_neg c1, if_pos (Int32.not_le.mp c2), if_neg c21, if_neg c22, if_neg c23, hr25, ev24]), ht⟩) (fun q hq => absurd hq List.not_mem_nil) dX9_turned_50
          · refine lv_lload_n hx hb dX9_turned_36 rfl (lv_at hl 1 rfl) ?_
            refine lv_l2f hx hb dX9_turned_37 ?_
            refine lv_topf (fun v26 ev26 => ?_)
            refine vp_callSi (W.runS (As := [.float v26]) (rest := []) ⟨hx, hb, hml, hown, hts⟩ (c9_f2ib l v26 (by rw [ev26]; exact l2f_ok _)) (va_cwS 1 hts gX9_turned_Jxf58ca_floatToIntBits_5c35a rfl rfl rfl (by decide +kernel) ⟨Nat.le_of_ble_eq_true rfl, Nat.le_of_ble_eq_true rfl⟩) (preS_of okT (trivial)) rfl rfl hl.1 rfl (lv_room (Nat.le_of_ble_eq_true rfl)) dX9_turned_38 ⟨Nat.le_of_ble_eq_true rfl, Nat.le_of_ble_eq_true rfl⟩) (fun r27 hr27 => ?_)
            refine lv_i2l hx hb dX9_turned_41 rfl ?_
            refine lv_topl (fun v28 ev28 => ?_)
            refine lv_goto (tgt := 50) hx hb dX9_turned_42 (by decide) ?_
            exact W.lret (v := v28) hx hb hr (fun t ht hW => ⟨v28, rfl, (by unfold tn; rw [if_neg c1, if_pos (Int32.not_le.mp c2), if_neg c21, if_neg c22, if_pos c23, ev28, hr27, ev26]), ht⟩) (fun q hq => absurd hq List.not_mem_nil) dX9_turned_50
        · refine lv_lload_n hx hb dX9_turned_27 rfl (lv_at hl 1 rfl) ?_
          refine lv_goto (tgt := 50) hx hb dX9_turned_28 (by decide) ?_
          exact W.lret (v := b) hx hb hr (fun t ht hW => ⟨b, rfl, (by unfold tn; rw [if_neg c1, if_pos (Int32.not_le.mp c2), if_neg c21, if_pos c22]), ht⟩) (fun q hq => absurd hq List.not_mem_nil) dX9_turned_50
      · refine lv_lload_n hx hb dX9_turned_16 rfl (lv_at hl 1 rfl) ?_
        refine lv_l2i hx hb dX9_turned_17 rfl ?_
        refine lv_topi (fun v29 ev29 => ?_)
        refine lv_i2l hx hb dX9_turned_18 rfl ?_
        refine lv_topl (fun v30 ev30 => ?_)
        refine lv_goto (tgt := 50) hx hb dX9_turned_19 (by decide) ?_
        exact W.lret (v := v30) hx hb hr (fun t ht hW => ⟨v30, rfl, (by unfold tn; rw [if_neg c1, if_pos (Int32.not_le.mp c2), if_pos c21, ev30, ev29]), ht⟩) (fun q hq => absurd hq List.not_mem_nil) dX9_turned_50
  · refine lv_lload_n hx hb dX9_turned_5 rfl (lv_at hl 1 rfl) ?_
    exact W.lret (v := b) hx hb hr (fun t ht hW => ⟨b, rfl, (by unfold tn; rw [if_pos c1]), ht⟩) (fun q hq => absurd hq List.not_mem_nil) dX9_turned_6
