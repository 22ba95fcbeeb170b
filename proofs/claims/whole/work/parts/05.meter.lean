def q_isWhole (ln : Int32) (nm : Int64) (rl : UInt64) : Int32 := (if (1 : Int32) < ln then 0 else 1)
set_option maxHeartbeats 8000000 in
set_option maxRecDepth 100000 in
theorem c_isWhole (l : Launch) (G : va_G) (cy : Nat → ClassId) (L : List Nat) (F : Nat → va_E) (h0 : Nat) (ln : Int32) (nm : Int64) (rl : UInt64) (hm : h0 ∈ L) (hF : F h0 = .inr (4, [.int ln, .long nm, .double rl]))  : Met l yX4_isWhole wsX4_isWhole ({ frames := 0, cells := 0, slots := 0, locals := 0 }) (va_Pc [.ref h0] (fun U => bP G cy L F U U.heap)) (vp_Si (fun r : Int32 => r = q_isWhole ln nm rl)) 0 0 (fun _ => False) := by
  refine Met.ofW (cc := cX4_isWhole) (maxL := 1) (ret := (some .boolean)) (by decide) rfl ?_
  intro p e s m args below meth c s₁ B hml hv
  obtain ⟨rfl, hP, hK, hD⟩ := hv
  have hx := B.exec
  have hb := B.bytes
  have hr := B.returns
  have hts := atoms_spec (ws := wsX4_isWhole) B.pre
  have hown : s.vm.findClass RX4 = some m.cls := findClass_of_methodNamed B.named
  have hlocks := B.notSynchronized
  have hinX4 : ∀ w ∈ wsX40, w ∈ wsX4_isWhole := by decide +kernel
  have hS : va_S (fun _ => False) s.heap s.heap [] := va_S.rf
  have hl := lv_entry ([.ref h0]) (n := 1) (Nat.le_of_ble_eq_true rfl)
  rw [lg_entry_eq]
  generalize (lg_sl ([.ref h0]) ++ List.replicate (1 - (lg_sl ([.ref h0])).length) Slot.unset).toArray = ls at hl ⊢
  have hl : lv_has ls 1 [(0, .ref h0)] := hl
  refine lv_aload_n hx hb dX4_isWhole_0 rfl (lv_at hl 0 rfl) ?_
  refine pg_get (ci := 4) (C := RX4) (T := TX4) (N := 3) hx hb hts hinX4 hown hK hP hm hF rfl 0 (by decide) (hts (.fieldLink RX4 9 "RopeDrums$Meter" "lane" "I") (by decide +kernel)) (fun _ h9 => h9) rfl dX4_isWhole_1 ?_
  refine lv_iconst (v := 1) hx hb dX4_isWhole_4 (by decide) ?_
  refine lv_icmp_gt (tgt := 12) hx hb dX4_isWhole_5 (by decide) (fun c1 => ?_) (fun c1 => ?_)
  · refine lv_iconst (v := 0) hx hb dX4_isWhole_12 (by decide) ?_
    exact W.zret (v := 0) hx hb hr (rfl) (fun t ht hW => ⟨0, rfl, (by unfold q_isWhole; rw [if_pos c1]), ht⟩) (fun q hq => absurd hq List.not_mem_nil) dX4_isWhole_13
  · refine lv_iconst (v := 1) hx hb dX4_isWhole_8 (by decide) ?_
    refine lv_goto (tgt := 13) hx hb dX4_isWhole_9 (by decide) ?_
    exact W.zret (v := 1) hx hb hr (rfl) (fun t ht hW => ⟨1, rfl, (by unfold q_isWhole; rw [if_neg c1]), ht⟩) (fun q hq => absurd hq List.not_mem_nil) dX4_isWhole_13

def q_asInt (ln : Int32) (nm : Int64) (rl : UInt64) : Int32 := (if (q_isWhole ln nm rl ) = (0 : Int32) then (FP.d2i rl) else ((nm : Int64).toInt32))
set_option maxHeartbeats 8000000 in
set_option maxRecDepth 100000 in
theorem c_asInt (l : Launch) (G : va_G) (cy : Nat → ClassId) (L : List Nat) (F : Nat → va_E) (h0 : Nat) (ln : Int32) (nm : Int64) (rl : UInt64) (hm : h0 ∈ L) (hF : F h0 = .inr (4, [.int ln, .long nm, .double rl]))  : Met l yX4_asInt wsX4_asInt ({ frames := 1, cells := 0, slots := 0, locals := 20 }) (va_Pc [.ref h0] (fun U => bP G cy L F U U.heap)) (vp_Si (fun r : Int32 => r = q_asInt ln nm rl)) 0 0 (fun _ => False) := by
  refine Met.ofW (cc := cX4_asInt) (maxL := 1) (ret := (some .int)) (by decide) rfl ?_
  intro p e s m args below meth c s₁ B hml hv
  obtain ⟨rfl, hP, hK, hD⟩ := hv
  have hx := B.exec
  have hb := B.bytes
  have hr := B.returns
  have hts := atoms_spec (ws := wsX4_asInt) B.pre
  have hown : s.vm.findClass RX4 = some m.cls := findClass_of_methodNamed B.named
  have hlocks := B.notSynchronized
  have hinX4 : ∀ w ∈ wsX40, w ∈ wsX4_asInt := by decide +kernel
  have hS : va_S (fun _ => False) s.heap s.heap [] := va_S.rf
  have hl := lv_entry ([.ref h0]) (n := 1) (Nat.le_of_ble_eq_true rfl)
  rw [lg_entry_eq]
  generalize (lg_sl ([.ref h0]) ++ List.replicate (1 - (lg_sl ([.ref h0])).length) Slot.unset).toArray = ls at hl ⊢
  have hl : lv_has ls 1 [(0, .ref h0)] := hl
  refine lv_aload_n hx hb dX4_asInt_0 rfl (lv_at hl 0 rfl) ?_
  refine vp_callSi (W.runV (As := []) (rest := []) ⟨hx, hb, hml, hown, hts⟩ (c_isWhole l G cy L F h0 ln nm rl hm hF  ) (cwV 0 hts gX4_asInt_X4_isWhole rfl rfl rfl (by decide +kernel) ⟨Nat.le_of_ble_eq_true rfl, Nat.le_of_ble_eq_true rfl⟩) (preV_of okP (⟨hP, hK, hD.top⟩) (pl_recv hK hP (ci := 4) rfl hm hF)) rfl rfl hl.1 rfl (lv_room (Nat.le_of_ble_eq_true rfl)) dX4_asInt_1 ⟨Nat.le_of_ble_eq_true rfl, Nat.le_of_ble_eq_true rfl⟩) (fun r1 hr1 => ?_)
  refine lv_if_eq (tgt := 15) hx hb dX4_asInt_4 (by decide) (fun c2 => ?_) (fun c2 => ?_)
  · refine lv_aload_n hx hb dX4_asInt_15 rfl (lv_at hl 0 rfl) ?_
    refine pg_get (ci := 4) (C := RX4) (T := TX4) (N := 3) hx hb hts hinX4 hown hK hP hm hF rfl 2 (by decide) (hts (.fieldLink RX4 19 "RopeDrums$Meter" "real" "D") (by decide +kernel)) (fun _ h9 => h9) rfl dX4_asInt_16 ?_
    refine lv_d2i hx hb dX4_asInt_19 ?_
    refine lv_topi (fun v3 ev3 => ?_)
    exact W.iret (v := v3) hx hb hr (fun t ht hW => ⟨v3, rfl, (by subst ev3 hr1; unfold q_asInt; rw [if_pos c2]), ht⟩) (fun q hq => absurd hq List.not_mem_nil) dX4_asInt_20
  · refine lv_aload_n hx hb dX4_asInt_7 rfl (lv_at hl 0 rfl) ?_
    refine pg_get (ci := 4) (C := RX4) (T := TX4) (N := 3) hx hb hts hinX4 hown hK hP hm hF rfl 1 (by decide) (hts (.fieldLink RX4 15 "RopeDrums$Meter" "number" "J") (by decide +kernel)) (fun _ h9 => h9) rfl dX4_asInt_8 ?_
    refine lv_l2i hx hb dX4_asInt_11 rfl ?_
    refine lv_topi (fun v4 ev4 => ?_)
    refine lv_goto (tgt := 20) hx hb dX4_asInt_12 (by decide) ?_
    exact W.iret (v := v4) hx hb hr (fun t ht hW => ⟨v4, rfl, (by subst ev4 hr1; unfold q_asInt; rw [if_neg c2]), ht⟩) (fun q hq => absurd hq List.not_mem_nil) dX4_asInt_20

def q_asLong (ln : Int32) (nm : Int64) (rl : UInt64) : Int64 := (if (q_isWhole ln nm rl ) = (0 : Int32) then (FP.d2l rl) else nm)
set_option maxHeartbeats 8000000 in
set_option maxRecDepth 100000 in
theorem c_asLong (l : Launch) (G : va_G) (cy : Nat → ClassId) (L : List Nat) (F : Nat → va_E) (h0 : Nat) (ln : Int32) (nm : Int64) (rl : UInt64) (hm : h0 ∈ L) (hF : F h0 = .inr (4, [.int ln, .long nm, .double rl]))  : Met l yX4_asLong wsX4_asLong ({ frames := 1, cells := 0, slots := 0, locals := 20 }) (va_Pc [.ref h0] (fun U => bP G cy L F U U.heap)) (vp_Sl (fun r : Int64 => r = q_asLong ln nm rl)) 0 0 (fun _ => False) := by
  refine Met.ofW (cc := cX4_asLong) (maxL := 1) (ret := (some .long)) (by decide) rfl ?_
  intro p e s m args below meth c s₁ B hml hv
  obtain ⟨rfl, hP, hK, hD⟩ := hv
  have hx := B.exec
  have hb := B.bytes
  have hr := B.returns
  have hts := atoms_spec (ws := wsX4_asLong) B.pre
  have hown : s.vm.findClass RX4 = some m.cls := findClass_of_methodNamed B.named
  have hlocks := B.notSynchronized
  have hinX4 : ∀ w ∈ wsX40, w ∈ wsX4_asLong := by decide +kernel
  have hS : va_S (fun _ => False) s.heap s.heap [] := va_S.rf
  have hl := lv_entry ([.ref h0]) (n := 1) (Nat.le_of_ble_eq_true rfl)
  rw [lg_entry_eq]
  generalize (lg_sl ([.ref h0]) ++ List.replicate (1 - (lg_sl ([.ref h0])).length) Slot.unset).toArray = ls at hl ⊢
  have hl : lv_has ls 1 [(0, .ref h0)] := hl
  refine lv_aload_n hx hb dX4_asLong_0 rfl (lv_at hl 0 rfl) ?_
  refine vp_callSi (W.runV (As := []) (rest := []) ⟨hx, hb, hml, hown, hts⟩ (c_isWhole l G cy L F h0 ln nm rl hm hF  ) (cwV 0 hts gX4_asLong_X4_isWhole rfl rfl rfl (by decide +kernel) ⟨Nat.le_of_ble_eq_true rfl, Nat.le_of_ble_eq_true rfl⟩) (preV_of okP (⟨hP, hK, hD.top⟩) (pl_recv hK hP (ci := 4) rfl hm hF)) rfl rfl hl.1 rfl (lv_room (Nat.le_of_ble_eq_true rfl)) dX4_asLong_1 ⟨Nat.le_of_ble_eq_true rfl, Nat.le_of_ble_eq_true rfl⟩) (fun r1 hr1 => ?_)
  refine lv_if_eq (tgt := 14) hx hb dX4_asLong_4 (by decide) (fun c2 => ?_) (fun c2 => ?_)
  · refine lv_aload_n hx hb dX4_asLong_14 rfl (lv_at hl 0 rfl) ?_
    refine pg_get (ci := 4) (C := RX4) (T := TX4) (N := 3) hx hb hts hinX4 hown hK hP hm hF rfl 2 (by decide) (hts (.fieldLink RX4 19 "RopeDrums$Meter" "real" "D") (by decide +kernel)) (fun _ h9 => h9) rfl dX4_asLong_15 ?_
    refine lv_d2l hx hb dX4_asLong_18 ?_
    refine lv_topl (fun v3 ev3 => ?_)
    exact W.lret (v := v3) hx hb hr (fun t ht hW => ⟨v3, rfl, (by subst ev3 hr1; unfold q_asLong; rw [if_pos c2]), ht⟩) (fun q hq => absurd hq List.not_mem_nil) dX4_asLong_19
  · refine lv_aload_n hx hb dX4_asLong_7 rfl (lv_at hl 0 rfl) ?_
    refine pg_get (ci := 4) (C := RX4) (T := TX4) (N := 3) hx hb hts hinX4 hown hK hP hm hF rfl 1 (by decide) (hts (.fieldLink RX4 15 "RopeDrums$Meter" "number" "J") (by decide +kernel)) (fun _ h9 => h9) rfl dX4_asLong_8 ?_
    refine lv_goto (tgt := 19) hx hb dX4_asLong_11 (by decide) ?_
    exact W.lret (v := nm) hx hb hr (fun t ht hW => ⟨nm, rfl, (by subst hr1; unfold q_asLong; rw [if_neg c2]), ht⟩) (fun q hq => absurd hq List.not_mem_nil) dX4_asLong_19

theorem d2f_ok {x : UInt64} (h : FP.Core.val64 x ≠ .nan) : FP.d2f x = FP.Core.d2f x ∧ FP.Core.val32 (FP.d2f x) ≠ .nan := by
  have h1 : FP.d2f x = FP.Core.d2f x := by
    unfold FP.d2f
    rw [if_neg (fun q => h ((FP.Core.dIsNaN_iff x).mp q))]
  refine ⟨h1, ?_⟩
  rw [h1, FP.Core.val32_d2f]
  exact fun q => h (FP.Core.round_nan.mp q)
theorem f2d_ok {x : UInt32} (h : FP.Core.val32 x ≠ .nan) : FP.f2d x = FP.Core.f2d x ∧ FP.Core.val64 (FP.f2d x) ≠ .nan := by
  have h1 : FP.f2d x = FP.Core.f2d x := by
    unfold FP.f2d
    rw [if_neg (fun q => h ((FP.Core.fIsNaN_iff x).mp q))]
  refine ⟨h1, ?_⟩
  rw [h1, FP.Core.val64_f2d]
  exact fun q => h (FP.Core.round_nan.mp q)
theorem l2f_ok (v : Int64) : FP.Core.val32 (FP.l2f v) ≠ .nan := (FP.Core.l2f_fin v).ne_nan
theorem l2d_ok (v : Int64) : FP.Core.val64 (FP.l2d v) ≠ .nan := (FP.Core.l2d_fin v).ne_nan

def q_asFloat (ln : Int32) (nm : Int64) (rl : UInt64) : UInt32 := (if (q_isWhole ln nm rl ) = (0 : Int32) then (FP.d2f rl) else (FP.l2f nm))
set_option maxHeartbeats 8000000 in
set_option maxRecDepth 100000 in
theorem c_asFloat (l : Launch) (G : va_G) (cy : Nat → ClassId) (L : List Nat) (F : Nat → va_E) (h0 : Nat) (ln : Int32) (nm : Int64) (rl : UInt64) (hm : h0 ∈ L) (hF : F h0 = .inr (4, [.int ln, .long nm, .double rl])) (hN : FP.Core.val64 rl ≠ .nan)  : Met l yX4_asFloat wsX4_asFloat ({ frames := 1, cells := 0, slots := 0, locals := 20 }) (va_Pc [.ref h0] (fun U => bP G cy L F U U.heap)) (vp_Sf (fun r : UInt32 => r = q_asFloat ln nm rl)) 0 0 (fun _ => False) := by
  refine Met.ofW (cc := cX4_asFloat) (maxL := 1) (ret := (some .float)) (by decide) rfl ?_
  intro p e s m args below meth c s₁ B hml hv
  obtain ⟨rfl, hP, hK, hD⟩ := hv
  have hx := B.exec
  have hb := B.bytes
  have hr := B.returns
  have hts := atoms_spec (ws := wsX4_asFloat) B.pre
  have hown : s.vm.findClass RX4 = some m.cls := findClass_of_methodNamed B.named
  have hlocks := B.notSynchronized
  have hinX4 : ∀ w ∈ wsX40, w ∈ wsX4_asFloat := by decide +kernel
  have hS : va_S (fun _ => False) s.heap s.heap [] := va_S.rf
  have hl := lv_entry ([.ref h0]) (n := 1) (Nat.le_of_ble_eq_true rfl)
  rw [lg_entry_eq]
  generalize (lg_sl ([.ref h0]) ++ List.replicate (1 - (lg_sl ([.ref h0])).length) Slot.unset).toArray = ls at hl ⊢
  have hl : lv_has ls 1 [(0, .ref h0)] := hl
  refine lv_aload_n hx hb dX4_asFloat_0 rfl (lv_at hl 0 rfl) ?_
  refine vp_callSi (W.runV (As := []) (rest := []) ⟨hx, hb, hml, hown, hts⟩ (c_isWhole l G cy L F h0 ln nm rl hm hF  ) (cwV 0 hts gX4_asFloat_X4_isWhole rfl rfl rfl (by decide +kernel) ⟨Nat.le_of_ble_eq_true rfl, Nat.le_of_ble_eq_true rfl⟩) (preV_of okP (⟨hP, hK, hD.top⟩) (pl_recv hK hP (ci := 4) rfl hm hF)) rfl rfl hl.1 rfl (lv_room (Nat.le_of_ble_eq_true rfl)) dX4_asFloat_1 ⟨Nat.le_of_ble_eq_true rfl, Nat.le_of_ble_eq_true rfl⟩) (fun r1 hr1 => ?_)
  refine lv_if_eq (tgt := 15) hx hb dX4_asFloat_4 (by decide) (fun c2 => ?_) (fun c2 => ?_)
  · refine lv_aload_n hx hb dX4_asFloat_15 rfl (lv_at hl 0 rfl) ?_
    refine pg_get (ci := 4) (C := RX4) (T := TX4) (N := 3) hx hb hts hinX4 hown hK hP hm hF rfl 2 (by decide) (hts (.fieldLink RX4 19 "RopeDrums$Meter" "real" "D") (by decide +kernel)) (fun _ h9 => h9) rfl dX4_asFloat_16 ?_
    refine lv_d2f hx hb dX4_asFloat_19 (n32.mpr (d2f_ok hN).2) ?_
    refine lv_topf (fun v3 ev3 => ?_)
    exact W.fret (v := v3) hx hb hr (fun t ht hW => ⟨v3, rfl, (by subst ev3 hr1; unfold q_asFloat; rw [if_pos c2]), ht⟩) (fun q hq => absurd hq List.not_mem_nil) dX4_asFloat_20
  · refine lv_aload_n hx hb dX4_asFloat_7 rfl (lv_at hl 0 rfl) ?_
    refine pg_get (ci := 4) (C := RX4) (T := TX4) (N := 3) hx hb hts hinX4 hown hK hP hm hF rfl 1 (by decide) (hts (.fieldLink RX4 15 "RopeDrums$Meter" "number" "J") (by decide +kernel)) (fun _ h9 => h9) rfl dX4_asFloat_8 ?_
    refine lv_l2f hx hb dX4_asFloat_11 ?_
    refine lv_topf (fun v4 ev4 => ?_)
    refine lv_goto (tgt := 20) hx hb dX4_asFloat_12 (by decide) ?_
    exact W.fret (v := v4) hx hb hr (fun t ht hW => ⟨v4, rfl, (by subst ev4 hr1; unfold q_asFloat; rw [if_neg c2]), ht⟩) (fun q hq => absurd hq List.not_mem_nil) dX4_asFloat_20

def q_asDouble (ln : Int32) (nm : Int64) (rl : UInt64) : UInt64 := (if (q_isWhole ln nm rl ) = (0 : Int32) then rl else (FP.l2d nm))
set_option maxHeartbeats 8000000 in
set_option maxRecDepth 100000 in
theorem c_asDouble (l : Launch) (G : va_G) (cy : Nat → ClassId) (L : List Nat) (F : Nat → va_E) (h0 : Nat) (ln : Int32) (nm : Int64) (rl : UInt64) (hm : h0 ∈ L) (hF : F h0 = .inr (4, [.int ln, .long nm, .double rl]))  : Met l yX4_asDouble wsX4_asDouble ({ frames := 1, cells := 0, slots := 0, locals := 20 }) (va_Pc [.ref h0] (fun U => bP G cy L F U U.heap)) (vp_Sd (fun r : UInt64 => r = q_asDouble ln nm rl)) 0 0 (fun _ => False) := by
  refine Met.ofW (cc := cX4_asDouble) (maxL := 1) (ret := (some .double)) (by decide) rfl ?_
  intro p e s m args below meth c s₁ B hml hv
  obtain ⟨rfl, hP, hK, hD⟩ := hv
  have hx := B.exec
  have hb := B.bytes
  have hr := B.returns
  have hts := atoms_spec (ws := wsX4_asDouble) B.pre
  have hown : s.vm.findClass RX4 = some m.cls := findClass_of_methodNamed B.named
  have hlocks := B.notSynchronized
  have hinX4 : ∀ w ∈ wsX40, w ∈ wsX4_asDouble := by decide +kernel
  have hS : va_S (fun _ => False) s.heap s.heap [] := va_S.rf
  have hl := lv_entry ([.ref h0]) (n := 1) (Nat.le_of_ble_eq_true rfl)
  rw [lg_entry_eq]
  generalize (lg_sl ([.ref h0]) ++ List.replicate (1 - (lg_sl ([.ref h0])).length) Slot.unset).toArray = ls at hl ⊢
  have hl : lv_has ls 1 [(0, .ref h0)] := hl
  refine lv_aload_n hx hb dX4_asDouble_0 rfl (lv_at hl 0 rfl) ?_
  refine vp_callSi (W.runV (As := []) (rest := []) ⟨hx, hb, hml, hown, hts⟩ (c_isWhole l G cy L F h0 ln nm rl hm hF  ) (cwV 0 hts gX4_asDouble_X4_isWhole rfl rfl rfl (by decide +kernel) ⟨Nat.le_of_ble_eq_true rfl, Nat.le_of_ble_eq_true rfl⟩) (preV_of okP (⟨hP, hK, hD.top⟩) (pl_recv hK hP (ci := 4) rfl hm hF)) rfl rfl hl.1 rfl (lv_room (Nat.le_of_ble_eq_true rfl)) dX4_asDouble_1 ⟨Nat.le_of_ble_eq_true rfl, Nat.le_of_ble_eq_true rfl⟩) (fun r1 hr1 => ?_)
  refine lv_if_eq (tgt := 15) hx hb dX4_asDouble_4 (by decide) (fun c2 => ?_) (fun c2 => ?_)
  · refine lv_aload_n hx hb dX4_asDouble_15 rfl (lv_at hl 0 rfl) ?_
    refine pg_get (ci := 4) (C := RX4) (T := TX4) (N := 3) hx hb hts hinX4 hown hK hP hm hF rfl 2 (by decide) (hts (.fieldLink RX4 19 "RopeDrums$Meter" "real" "D") (by decide +kernel)) (fun _ h9 => h9) rfl dX4_asDouble_16 ?_
    exact W.dret (v := rl) hx hb hr (fun t ht hW => ⟨rl, rfl, (by subst hr1; unfold q_asDouble; rw [if_pos c2]), ht⟩) (fun q hq => absurd hq List.not_mem_nil) dX4_asDouble_19
  · refine lv_aload_n hx hb dX4_asDouble_7 rfl (lv_at hl 0 rfl) ?_
    refine pg_get (ci := 4) (C := RX4) (T := TX4) (N := 3) hx hb hts hinX4 hown hK hP hm hF rfl 1 (by decide) (hts (.fieldLink RX4 15 "RopeDrums$Meter" "number" "J") (by decide +kernel)) (fun _ h9 => h9) rfl dX4_asDouble_8 ?_
    refine lv_l2d hx hb dX4_asDouble_11 ?_
    refine lv_topd (fun v3 ev3 => ?_)
    refine lv_goto (tgt := 19) hx hb dX4_asDouble_12 (by decide) ?_
    exact W.dret (v := v3) hx hb hr (fun t ht hW => ⟨v3, rfl, (by subst ev3 hr1; unfold q_asDouble; rw [if_neg c2]), ht⟩) (fun q hq => absurd hq List.not_mem_nil) dX4_asDouble_19

theorem asFloat_ok {ln : Int32} {nm : Int64} {rl : UInt64} (h : FP.Core.val64 rl ≠ .nan) : FP.Core.val32 (q_asFloat ln nm rl) ≠ .nan := by
  unfold q_asFloat
  split
  · exact (d2f_ok h).2
  · exact l2f_ok _
theorem asDouble_ok {ln : Int32} {nm : Int64} {rl : UInt64} (h : FP.Core.val64 rl ≠ .nan) : FP.Core.val64 (q_asDouble ln nm rl) ≠ .nan := by
  unfold q_asDouble
  split
  · exact h
  · exact l2d_ok _

def q_asReal (ln : Int32) (nm : Int64) (rl : UInt64) (to : Int32) : UInt64 := (if to = (2 : Int32) then (FP.f2d (q_asFloat ln nm rl )) else (q_asDouble ln nm rl ))
set_option maxHeartbeats 8000000 in
set_option maxRecDepth 100000 in
theorem c_asReal (l : Launch) (G : va_G) (cy : Nat → ClassId) (L : List Nat) (F : Nat → va_E) (h0 : Nat) (ln : Int32) (nm : Int64) (rl : UInt64) (hm : h0 ∈ L) (hF : F h0 = .inr (4, [.int ln, .long nm, .double rl])) (to : Int32) (hN : FP.Core.val64 rl ≠ .nan)  : Met l yX4_asReal wsX4_asReal ({ frames := 2, cells := 0, slots := 0, locals := 40 }) (va_Pc [.ref h0, .int to] (fun U => bP G cy L F U U.heap)) (vp_Sd (fun r : UInt64 => r = q_asReal ln nm rl to)) 0 0 (fun _ => False) := by
  refine Met.ofW (cc := cX4_asReal) (maxL := 2) (ret := (some .double)) (by decide) rfl ?_
  intro p e s m args below meth c s₁ B hml hv
  obtain ⟨rfl, hP, hK, hD⟩ := hv
  have hx := B.exec
  have hb := B.bytes
  have hr := B.returns
  have hts := atoms_spec (ws := wsX4_asReal) B.pre
  have hown : s.vm.findClass RX4 = some m.cls := findClass_of_methodNamed B.named
  have hlocks := B.notSynchronized
  have hinX4 : ∀ w ∈ wsX40, w ∈ wsX4_asReal := by decide +kernel
  have hS : va_S (fun _ => False) s.heap s.heap [] := va_S.rf
  have hl := lv_entry ([.ref h0, .int to]) (n := 2) (Nat.le_of_ble_eq_true rfl)
  rw [lg_entry_eq]
  generalize (lg_sl ([.ref h0, .int to]) ++ List.replicate (2 - (lg_sl ([.ref h0, .int to])).length) Slot.unset).toArray = ls at hl ⊢
  have hl : lv_has ls 2 [(0, .ref h0), (1, .int to)] := hl
  refine lv_iload_n hx hb dX4_asReal_0 rfl (lv_at hl 1 rfl) ?_
  refine lv_iconst (v := 2) hx hb dX4_asReal_1 (by decide) ?_
  refine lv_icmp_ne (tgt := 13) hx hb dX4_asReal_2 (by decide) (fun c1 => ?_) (fun c1 => ?_)
  · refine lv_aload_n hx hb dX4_asReal_13 rfl (lv_at hl 0 rfl) ?_
    refine vp_callSd (W.runV (As := []) (rest := []) ⟨hx, hb, hml, hown, hts⟩ (c_asDouble l G cy L F h0 ln nm rl hm hF  ) (cwV 0 hts gX4_asReal_X4_asDouble rfl rfl rfl (by decide +kernel) ⟨Nat.le_of_ble_eq_true rfl, Nat.le_of_ble_eq_true rfl⟩) (preV_of okP (⟨hP, hK, hD.top⟩) (pl_recv hK hP (ci := 4) rfl hm hF)) rfl rfl hl.1 rfl (lv_room (Nat.le_of_ble_eq_true rfl)) dX4_asReal_14 ⟨Nat.le_of_ble_eq_true rfl, Nat.le_of_ble_eq_true rfl⟩) (fun r2 hr2 => ?_)
    exact W.dret (v := r2) hx hb hr (fun t ht hW => ⟨r2, rfl, (by subst hr2; unfold q_asReal; rw [if_neg c1]), ht⟩) (fun q hq => absurd hq List.not_mem_nil) dX4_asReal_17
  · refine lv_aload_n hx hb dX4_asReal_5 rfl (lv_at hl 0 rfl) ?_
    refine vp_callSf (W.runV (As := []) (rest := []) ⟨hx, hb, hml, hown, hts⟩ (c_asFloat l G cy L F h0 ln nm rl hm hF  hN) (cwV 0 hts gX4_asReal_X4_asFloat rfl rfl rfl (by decide +kernel) ⟨Nat.le_of_ble_eq_true rfl, Nat.le_of_ble_eq_true rfl⟩) (preV_of okP (⟨hP, hK, hD.top⟩) (pl_recv hK hP (ci := 4) rfl hm hF)) rfl rfl hl.1 rfl (lv_room (Nat.le_of_ble_eq_true rfl)) dX4_asReal_6 ⟨Nat.le_of_ble_eq_true rfl, Nat.le_of_ble_eq_true rfl⟩) (fun r3 hr3 => ?_)
    refine lv_f2d hx hb dX4_asReal_9 (n64.mpr (f2d_ok (by subst hr3; exact asFloat_ok hN)).2) ?_
    refine lv_topd (fun v4 ev4 => ?_)
    refine lv_goto (tgt := 17) hx hb dX4_asReal_10 (by decide) ?_
    exact W.dret (v := v4) hx hb hr (fun t ht hW => ⟨v4, rfl, (by subst ev4 hr3; unfold q_asReal; rw [if_pos c1]), ht⟩) (fun q hq => absurd hq List.not_mem_nil) dX4_asReal_17

theorem asReal_ok {ln : Int32} {nm : Int64} {rl : UInt64} {to : Int32} (h : FP.Core.val64 rl ≠ .nan) : FP.Core.val64 (q_asReal ln nm rl to) ≠ .nan := by
  unfold q_asReal
  split
  · exact (f2d_ok (asFloat_ok h)).2
  · exact asDouble_ok h

def q_holdW (k : Int32) (x : Int64) : Int64 := if k = 0 then (x.toInt32).toInt64 else x

set_option maxHeartbeats 8000000 in
set_option maxRecDepth 100000 in
theorem c_holdWhole (l : Launch) (G : va_G) (cy : Nat → ClassId) (L : List Nat) (F : Nat → va_E) (sz : Nat) (h0 : Nat) (ln : Int32) (nm : Int64) (rl : UInt64) (hm : h0 ∈ L) (hF : F h0 = .inr (4, [.int ln, .long nm, .double rl])) (k : Int32) (x : Int64)  : Met l yX4_holdWhole wsX4_holdWhole ({ frames := 0, cells := 0, slots := 0, locals := 0 }) (va_Pc [.ref h0, .int k, .long x] (fun U => bQ G cy L F sz U U.heap)) (va_Qv (fun F' : Nat → va_E => F' = va_up F h0 (.inr (4, [.int k, .long (q_holdW k x), .double rl]))) (fun F' t => va_P G vwCl (va_pl L F') t.heap) (va_A (va_pl L F) sz)) 0 0 (va_A (va_pl L F) sz) := by
  refine Met.ofW (cc := cX4_holdWhole) (maxL := 4) (ret := none) (by decide) rfl ?_
  intro p e s m args below meth c s₁ B hml hv
  obtain ⟨rfl, hsz, hP, hK, hD0⟩ := hv
  have hx := B.exec
  have hb := B.bytes
  have hr := B.returns
  have hts := atoms_spec (ws := wsX4_holdWhole) B.pre
  have hown : s.vm.findClass RX4 = some m.cls := findClass_of_methodNamed B.named
  have hlocks := B.notSynchronized
  have hinX4 : ∀ w ∈ wsX40, w ∈ wsX4_holdWhole := by decide +kernel
  subst hsz
  have hD := hD0.self F s.heap.size
  generalize hAe : va_A (va_pl L F) s.heap.size = A at hD ⊢
  have hA : ∀ q : Nat, s.heap.size ≤ q → A q := fun q h => by rw [← hAe]; exact Or.inr h
  have hS : va_S A s.heap s.heap [] := va_S.rf
  have hl := lv_entry ([.ref h0, .int k, .long x]) (n := 4) (Nat.le_of_ble_eq_true rfl)
  rw [lg_entry_eq]
  generalize (lg_sl ([.ref h0, .int k, .long x]) ++ List.replicate (4 - (lg_sl ([.ref h0, .int k, .long x])).length) Slot.unset).toArray = ls at hl ⊢
  have hl : lv_has ls 4 [(0, .ref h0), (1, .int k), (2, .long x)] := hl
  refine lv_aload_n hx hb dX4_holdWhole_0 rfl (lv_at hl 0 rfl) ?_
  refine lv_iload_n hx hb dX4_holdWhole_1 rfl (lv_at hl 1 rfl) ?_
  refine pg_put (ci := 4) (v := .int k) (ty := .int) (C := RX4) (T := TX4) (N := 3) hx hb hts hinX4 tyX4 tyX4_ok nmX4 hown hK hP hD hS hm hF rfl 0 (by decide) (hts (.fieldLink RX4 9 "RopeDrums$Meter" "lane" "I") (by decide +kernel)) (fun _ h9 => h9) rfl (by decide +kernel) (rfl) (rfl) (Nat.le_of_ble_eq_true rfl) dX4_holdWhole_2 (fun H locs F1 eF1 hP hS => ?_)
  have eF1 : F1 = va_up F h0 (.inr (4, [.int k, .long nm, .double rl])) := eF1
  have hFh0_1 : F1 h0 = .inr (4, [.int k, .long nm, .double rl]) := by rw [eF1]; exact va_up_self _ _ _
  refine lv_aload_n hx hb dX4_holdWhole_5 rfl (lv_at hl 0 rfl) ?_
  refine lv_iload_n hx hb dX4_holdWhole_6 rfl (lv_at hl 1 rfl) ?_
  refine lv_if_ne (tgt := 16) hx hb dX4_holdWhole_7 (by decide) (fun c2 => ?_) (fun c2 => ?_)
  · refine lv_lload_n hx hb dX4_holdWhole_16 rfl (lv_at hl 2 rfl) ?_
    refine pg_put (ci := 4) (v := .long x) (ty := .long) (C := RX4) (T := TX4) (N := 3) hx hb hts hinX4 tyX4 tyX4_ok nmX4 hown hK hP hD hS hm hFh0_1 rfl 1 (by decide) (hts (.fieldLink RX4 15 "RopeDrums$Meter" "number" "J") (by decide +kernel)) (fun _ h9 => h9) rfl (by decide +kernel) (rfl) (rfl) (Nat.le_of_ble_eq_true rfl) dX4_holdWhole_17 (fun H locs F3 eF3 hP hS => ?_)
    have eF3 : F3 = va_up F1 h0 (.inr (4, [.int k, .long x, .double rl])) := eF3
    have hFh0_3 : F3 h0 = .inr (4, [.int k, .long x, .double rl]) := by rw [eF3]; exact va_up_self _ _ _
    exact W.vret hx hb hr (fun t ht hW => ⟨⟨F3, rfl, (by rw [eF3, eF1, upup]; unfold q_holdW; rw [if_neg c2]), (by show va_P _ _ _ t.heap; rw [ht]; exact hP)⟩, hS.F ht⟩) hS.2.2 dX4_holdWhole_20
  · refine lv_lload_n hx hb dX4_holdWhole_10 rfl (lv_at hl 2 rfl) ?_
    refine lv_l2i hx hb dX4_holdWhole_11 rfl ?_
    refine lv_topi (fun v4 ev4 => ?_)
    refine lv_i2l hx hb dX4_holdWhole_12 rfl ?_
    refine lv_topl (fun v5 ev5 => ?_)
    refine lv_goto (tgt := 17) hx hb dX4_holdWhole_13 (by decide) ?_
    refine pg_put (ci := 4) (v := .long v5) (ty := .long) (C := RX4) (T := TX4) (N := 3) hx hb hts hinX4 tyX4 tyX4_ok nmX4 hown hK hP hD hS hm hFh0_1 rfl 1 (by decide) (hts (.fieldLink RX4 15 "RopeDrums$Meter" "number" "J") (by decide +kernel)) (fun _ h9 => h9) rfl (by decide +kernel) (rfl) (rfl) (Nat.le_of_ble_eq_true rfl) dX4_holdWhole_17 (fun H locs F6 eF6 hP hS => ?_)
    have eF6 : F6 = va_up F1 h0 (.inr (4, [.int k, .long v5, .double rl])) := eF6
    have hFh0_6 : F6 h0 = .inr (4, [.int k, .long v5, .double rl]) := by rw [eF6]; exact va_up_self _ _ _
    exact W.vret hx hb hr (fun t ht hW => ⟨⟨F6, rfl, (by subst ev5 ev4; rw [eF6, eF1, upup]; unfold q_holdW; rw [if_pos c2]), (by show va_P _ _ _ t.heap; rw [ht]; exact hP)⟩, hS.F ht⟩) hS.2.2 dX4_holdWhole_20

set_option maxHeartbeats 8000000 in
set_option maxRecDepth 100000 in
theorem c_holdReal (l : Launch) (G : va_G) (cy : Nat → ClassId) (L : List Nat) (F : Nat → va_E) (sz : Nat) (h0 : Nat) (ln : Int32) (nm : Int64) (rl : UInt64) (hm : h0 ∈ L) (hF : F h0 = .inr (4, [.int ln, .long nm, .double rl])) (k : Int32) (x : UInt64)  : Met l yX4_holdReal wsX4_holdReal ({ frames := 0, cells := 0, slots := 0, locals := 0 }) (va_Pc [.ref h0, .int k, .double x] (fun U => bQ G cy L F sz U U.heap)) (va_Qv (fun F' : Nat → va_E => F' = va_up F h0 (.inr (4, [.int k, .long nm, .double x]))) (fun F' t => va_P G vwCl (va_pl L F') t.heap) (va_A (va_pl L F) sz)) 0 0 (va_A (va_pl L F) sz) := by
  refine Met.ofW (cc := cX4_holdReal) (maxL := 4) (ret := none) (by decide) rfl ?_
  intro p e s m args below meth c s₁ B hml hv
  obtain ⟨rfl, hsz, hP, hK, hD0⟩ := hv
  have hx := B.exec
  have hb := B.bytes
  have hr := B.returns
  have hts := atoms_spec (ws := wsX4_holdReal) B.pre
  have hown : s.vm.findClass RX4 = some m.cls := findClass_of_methodNamed B.named
  have hlocks := B.notSynchronized
  have hinX4 : ∀ w ∈ wsX40, w ∈ wsX4_holdReal := by decide +kernel
  subst hsz
  have hD := hD0.self F s.heap.size
  generalize hAe : va_A (va_pl L F) s.heap.size = A at hD ⊢
  have hA : ∀ q : Nat, s.heap.size ≤ q → A q := fun q h => by rw [← hAe]; exact Or.inr h
  have hS : va_S A s.heap s.heap [] := va_S.rf
  have hl := lv_entry ([.ref h0, .int k, .double x]) (n := 4) (Nat.le_of_ble_eq_true rfl)
  rw [lg_entry_eq]
  generalize (lg_sl ([.ref h0, .int k, .double x]) ++ List.replicate (4 - (lg_sl ([.ref h0, .int k, .double x])).length) Slot.unset).toArray = ls at hl ⊢
  have hl : lv_has ls 4 [(0, .ref h0), (1, .int k), (2, .double x)] := hl
  refine lv_aload_n hx hb dX4_holdReal_0 rfl (lv_at hl 0 rfl) ?_
  refine lv_iload_n hx hb dX4_holdReal_1 rfl (lv_at hl 1 rfl) ?_
  refine pg_put (ci := 4) (v := .int k) (ty := .int) (C := RX4) (T := TX4) (N := 3) hx hb hts hinX4 tyX4 tyX4_ok nmX4 hown hK hP hD hS hm hF rfl 0 (by decide) (hts (.fieldLink RX4 9 "RopeDrums$Meter" "lane" "I") (by decide +kernel)) (fun _ h9 => h9) rfl (by decide +kernel) (rfl) (rfl) (Nat.le_of_ble_eq_true rfl) dX4_holdReal_2 (fun H locs F1 eF1 hP hS => ?_)
  have eF1 : F1 = va_up F h0 (.inr (4, [.int k, .long nm, .double rl])) := eF1
  have hFh0_1 : F1 h0 = .inr (4, [.int k, .long nm, .double rl]) := by rw [eF1]; exact va_up_self _ _ _
  refine lv_aload_n hx hb dX4_holdReal_5 rfl (lv_at hl 0 rfl) ?_
  refine lv_dload_n hx hb dX4_holdReal_6 rfl (lv_at hl 2 rfl) ?_
  refine pg_put (ci := 4) (v := .double x) (ty := .double) (C := RX4) (T := TX4) (N := 3) hx hb hts hinX4 tyX4 tyX4_ok nmX4 hown hK hP hD hS hm hFh0_1 rfl 2 (by decide) (hts (.fieldLink RX4 19 "RopeDrums$Meter" "real" "D") (by decide +kernel)) (fun _ h9 => h9) rfl (by decide +kernel) (rfl) (rfl) (Nat.le_of_ble_eq_true rfl) dX4_holdReal_7 (fun H locs F2 eF2 hP hS => ?_)
  have eF2 : F2 = va_up F1 h0 (.inr (4, [.int k, .long nm, .double x])) := eF2
  have hFh0_2 : F2 h0 = .inr (4, [.int k, .long nm, .double x]) := by rw [eF2]; exact va_up_self _ _ _
  exact W.vret hx hb hr (fun t ht hW => ⟨⟨F2, rfl, (by rw [eF2, eF1, upup]), (by show va_P _ _ _ t.heap; rw [ht]; exact hP)⟩, hS.F ht⟩) hS.2.2 dX4_holdReal_10

def q_turnN (ln : Int32) (nm : Int64) (rl : UInt64) (to : Int32) : Int64 := if to = 0 then q_holdW 0 ((q_asInt ln nm rl).toInt64) else if to = 1 then q_holdW 1 (q_asLong ln nm rl) else nm
def q_turnR (ln : Int32) (nm : Int64) (rl : UInt64) (to : Int32) : UInt64 := if to = 0 then rl else if to = 1 then rl else q_asReal ln nm rl to

set_option maxHeartbeats 8000000 in
set_option maxRecDepth 100000 in
theorem c_turnInto (l : Launch) (G : va_G) (cy : Nat → ClassId) (L : List Nat) (F : Nat → va_E) (sz : Nat) (h0 : Nat) (ln : Int32) (nm : Int64) (rl : UInt64) (hm : h0 ∈ L) (hF : F h0 = .inr (4, [.int ln, .long nm, .double rl])) (to : Int32) (hN : FP.Core.val64 rl ≠ .nan)  : Met l yX4_turnInto wsX4_turnInto ({ frames := 3, cells := 0, slots := 0, locals := 61 }) (va_Pc [.ref h0, .int to] (fun U => bQ G cy L F sz U U.heap)) (va_Qv (fun F' : Nat → va_E => F' = va_up F h0 (.inr (4, [.int to, .long (q_turnN ln nm rl to), .double (q_turnR ln nm rl to)]))) (fun F' t => va_P G vwCl (va_pl L F') t.heap) (va_A (va_pl L F) sz)) 0 0 (va_A (va_pl L F) sz) := by
  refine Met.ofW (cc := cX4_turnInto) (maxL := 2) (ret := none) (by decide) rfl ?_
  intro p e s m args below meth c s₁ B hml hv
  obtain ⟨rfl, hsz, hP, hK, hD0⟩ := hv
  have hx := B.exec
  have hb := B.bytes
  have hr := B.returns
  have hts := atoms_spec (ws := wsX4_turnInto) B.pre
  have hown : s.vm.findClass RX4 = some m.cls := findClass_of_methodNamed B.named
  have hlocks := B.notSynchronized
  have hinX4 : ∀ w ∈ wsX40, w ∈ wsX4_turnInto := by decide +kernel
  subst hsz
  have hD := hD0.self F s.heap.size
  generalize hAe : va_A (va_pl L F) s.heap.size = A at hD ⊢
  have hA : ∀ q : Nat, s.heap.size ≤ q → A q := fun q h => by rw [← hAe]; exact Or.inr h
  have hS : va_S A s.heap s.heap [] := va_S.rf
  have hl := lv_entry ([.ref h0, .int to]) (n := 2) (Nat.le_of_ble_eq_true rfl)
  rw [lg_entry_eq]
  generalize (lg_sl ([.ref h0, .int to]) ++ List.replicate (2 - (lg_sl ([.ref h0, .int to])).length) Slot.unset).toArray = ls at hl ⊢
  have hl : lv_has ls 2 [(0, .ref h0), (1, .int to)] := hl
  refine lv_iload_n hx hb dX4_turnInto_0 rfl (lv_at hl 1 rfl) ?_
  refine lv_if_ne (tgt := 17) hx hb dX4_turnInto_1 (by decide) (fun c1 => ?_) (fun c1 => ?_)
  · refine lv_iload_n hx hb dX4_turnInto_17 rfl (lv_at hl 1 rfl) ?_
    refine lv_iconst (v := 1) hx hb dX4_turnInto_18 (by decide) ?_
    refine lv_icmp_ne (tgt := 34) hx hb dX4_turnInto_19 (by decide) (fun c2 => ?_) (fun c2 => ?_)
    · refine lv_aload_n hx hb dX4_turnInto_34 rfl (lv_at hl 0 rfl) ?_
      refine lv_iload_n hx hb dX4_turnInto_35 rfl (lv_at hl 1 rfl) ?_
      refine lv_aload_n hx hb dX4_turnInto_36 rfl (lv_at hl 0 rfl) ?_
      refine lv_iload_n hx hb dX4_turnInto_37 rfl (lv_at hl 1 rfl) ?_
      refine vp_callSd (W.runV (As := [.int to]) (rest := [.int to, .ref h0]) ⟨hx, hb, hml, hown, hts⟩ (c_asReal l G cy L F h0 ln nm rl hm hF to hN) (cwV 1 hts gX4_turnInto_X4_asReal rfl rfl rfl (by decide +kernel) ⟨Nat.le_of_ble_eq_true rfl, Nat.le_of_ble_eq_true rfl⟩) (preV_of okP (⟨hP, hK, hD.top⟩) (pl_recv hK hP (ci := 4) rfl hm hF)) rfl rfl hl.1 rfl (lv_room (Nat.le_of_ble_eq_true rfl)) dX4_turnInto_38 ⟨Nat.le_of_ble_eq_true rfl, Nat.le_of_ble_eq_true rfl⟩) (fun r3 hr3 => ?_)
      refine va_callv (va_runV (As := [.int to, .double r3]) (rest := []) ⟨hx, hb, hml, hown, hts⟩ (c_holdReal l G cy L F s.heap.size h0 ln nm rl hm hF to r3) (cwV 2 hts gX4_turnInto_X4_holdReal rfl rfl rfl (by decide +kernel) ⟨Nat.le_of_ble_eq_true rfl, Nat.le_of_ble_eq_true rfl⟩) (preV_of okQ (⟨rfl, hP, hK, hD.top⟩) (pl_recv hK hP (ci := 4) rfl hm hF)) rfl rfl hl.1 rfl (lv_room (Nat.le_of_ble_eq_true rfl)) dX4_turnInto_41 ⟨Nat.le_of_ble_eq_true rfl, Nat.le_of_ble_eq_true rfl⟩) hS (fun q _ h => pl_free hD hS hA q h) (pl_free hD hS hA) (fun F4 t H1 locs ht hvm hw hP1 hz1 hk1 hS => ?_)
      have hP1 : va_P G vwCl (va_pl L F4) t.heap := hP1
      rw [ht] at hP1
      have hP := hP1
      generalize H1 = H at hP hS ⊢
      have eF4 : F4 = va_up F h0 (.inr (4, [.int to, .long nm, .double r3])) := hw
      have hFh0_4 : F4 h0 = .inr (4, [.int to, .long nm, .double r3]) := by rw [eF4]; exact va_up_self _ _ _
      exact W.vret hx hb hr (fun t ht hW => ⟨⟨F4, rfl, (by subst hr3; rw [eF4]; unfold q_turnN q_turnR; simp [c1, c2]), (by show va_P _ _ _ t.heap; rw [ht]; exact hP)⟩, hS.F ht⟩) hS.2.2 dX4_turnInto_44
    · refine lv_aload_n hx hb dX4_turnInto_22 rfl (lv_at hl 0 rfl) ?_
      refine lv_iconst (v := 1) hx hb dX4_turnInto_23 (by decide) ?_
      refine lv_aload_n hx hb dX4_turnInto_24 rfl (lv_at hl 0 rfl) ?_
      refine vp_callSl (W.runV (As := []) (rest := [.int 1, .ref h0]) ⟨hx, hb, hml, hown, hts⟩ (c_asLong l G cy L F h0 ln nm rl hm hF  ) (cwV 0 hts gX4_turnInto_X4_asLong rfl rfl rfl (by decide +kernel) ⟨Nat.le_of_ble_eq_true rfl, Nat.le_of_ble_eq_true rfl⟩) (preV_of okP (⟨hP, hK, hD.top⟩) (pl_recv hK hP (ci := 4) rfl hm hF)) rfl rfl hl.1 rfl (lv_room (Nat.le_of_ble_eq_true rfl)) dX4_turnInto_25 ⟨Nat.le_of_ble_eq_true rfl, Nat.le_of_ble_eq_true rfl⟩) (fun r5 hr5 => ?_)
      refine va_callv (va_runV (As := [.int 1, .long r5]) (rest := []) ⟨hx, hb, hml, hown, hts⟩ (c_holdWhole l G cy L F s.heap.size h0 ln nm rl hm hF 1 r5) (cwV 2 hts gX4_turnInto_X4_holdWhole rfl rfl rfl (by decide +kernel) ⟨Nat.le_of_ble_eq_true rfl, Nat.le_of_ble_eq_true rfl⟩) (preV_of okQ (⟨rfl, hP, hK, hD.top⟩) (pl_recv hK hP (ci := 4) rfl hm hF)) rfl rfl hl.1 rfl (lv_room (Nat.le_of_ble_eq_true rfl)) dX4_turnInto_28 ⟨Nat.le_of_ble_eq_true rfl, Nat.le_of_ble_eq_true rfl⟩) hS (fun q _ h => pl_free hD hS hA q h) (pl_free hD hS hA) (fun F6 t H1 locs ht hvm hw hP1 hz1 hk1 hS => ?_)
      have hP1 : va_P G vwCl (va_pl L F6) t.heap := hP1
      rw [ht] at hP1
      have hP := hP1
      generalize H1 = H at hP hS ⊢
      have eF6 : F6 = va_up F h0 (.inr (4, [.int 1, .long (q_holdW 1 r5), .double rl])) := hw
      have hFh0_6 : F6 h0 = .inr (4, [.int 1, .long (q_holdW 1 r5), .double rl]) := by rw [eF6]; exact va_up_self _ _ _
      refine lv_goto (tgt := 44) hx hb dX4_turnInto_31 (by decide) ?_
      exact W.vret hx hb hr (fun t ht hW => ⟨⟨F6, rfl, (by subst hr5; rw [eF6]; unfold q_turnN q_turnR; simp [c1, c2]), (by show va_P _ _ _ t.heap; rw [ht]; exact hP)⟩, hS.F ht⟩) hS.2.2 dX4_turnInto_44
  · refine lv_aload_n hx hb dX4_turnInto_4 rfl (lv_at hl 0 rfl) ?_
    refine lv_iconst (v := 0) hx hb dX4_turnInto_5 (by decide) ?_
    refine lv_aload_n hx hb dX4_turnInto_6 rfl (lv_at hl 0 rfl) ?_
    refine vp_callSi (W.runV (As := []) (rest := [.int 0, .ref h0]) ⟨hx, hb, hml, hown, hts⟩ (c_asInt l G cy L F h0 ln nm rl hm hF  ) (cwV 0 hts gX4_turnInto_X4_asInt rfl rfl rfl (by decide +kernel) ⟨Nat.le_of_ble_eq_true rfl, Nat.le_of_ble_eq_true rfl⟩) (preV_of okP (⟨hP, hK, hD.top⟩) (pl_recv hK hP (ci := 4) rfl hm hF)) rfl rfl hl.1 rfl (lv_room (Nat.le_of_ble_eq_true rfl)) dX4_turnInto_7 ⟨Nat.le_of_ble_eq_true rfl, Nat.le_of_ble_eq_true rfl⟩) (fun r7 hr7 => ?_)
    refine lv_i2l hx hb dX4_turnInto_10 rfl ?_
    refine lv_topl (fun v8 ev8 => ?_)
    refine va_callv (va_runV (As := [.int 0, .long v8]) (rest := []) ⟨hx, hb, hml, hown, hts⟩ (c_holdWhole l G cy L F s.heap.size h0 ln nm rl hm hF 0 v8) (cwV 2 hts gX4_turnInto_X4_holdWhole rfl rfl rfl (by decide +kernel) ⟨Nat.le_of_ble_eq_true rfl, Nat.le_of_ble_eq_true rfl⟩) (preV_of okQ (⟨rfl, hP, hK, hD.top⟩) (pl_recv hK hP (ci := 4) rfl hm hF)) rfl rfl hl.1 rfl (lv_room (Nat.le_of_ble_eq_true rfl)) dX4_turnInto_11 ⟨Nat.le_of_ble_eq_true rfl, Nat.le_of_ble_eq_true rfl⟩) hS (fun q _ h => pl_free hD hS hA q h) (pl_free hD hS hA) (fun F9 t H1 locs ht hvm hw hP1 hz1 hk1 hS => ?_)
    have hP1 : va_P G vwCl (va_pl L F9) t.heap := hP1
    rw [ht] at hP1
    have hP := hP1
    generalize H1 = H at hP hS ⊢
    have eF9 : F9 = va_up F h0 (.inr (4, [.int 0, .long (q_holdW 0 v8), .double rl])) := hw
    have hFh0_9 : F9 h0 = .inr (4, [.int 0, .long (q_holdW 0 v8), .double rl]) := by rw [eF9]; exact va_up_self _ _ _
    refine lv_goto (tgt := 44) hx hb dX4_turnInto_14 (by decide) ?_
    exact W.vret hx hb hr (fun t ht hW => ⟨⟨F9, rfl, (by subst ev8 hr7; rw [eF9]; unfold q_turnN q_turnR; simp [c1]), (by show va_P _ _ _ t.heap; rw [ht]; exact hP)⟩, hS.F ht⟩) hS.2.2 dX4_turnInto_44
