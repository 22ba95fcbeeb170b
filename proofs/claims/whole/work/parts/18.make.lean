theorem rem_fin {a b : UInt64} (ha : FP.Core.val64 a ≠ .nan) (hb : FP.Core.val64 b ≠ .nan) (h : FP.Core.dIsNaN (FP.drem a b) = false) : FP.Core.DFin a ∧ ¬ FP.Core.DZero b := by
  have h1 : ¬ FP.Core.dIsNaN (FP.drem a b) = true := by rw [h]; decide
  rw [nan_rem ha hb] at h1
  have h2 := (FP.Core.ne_nan a).mp ha
  refine ⟨(FP.Core.fin_bits a).mpr (by omega), fun q => h1 (Or.inr ((FP.Core.zero_bits2 b).mp q))⟩
theorem rem_fin32 {a b : UInt32} (ha : FP.Core.val32 a ≠ .nan) (hb : FP.Core.val32 b ≠ .nan) (h : FP.Core.fIsNaN (FP.frem a b) = false) : FP.Core.FFin a ∧ ¬ FP.Core.FZero b := by
  have h1 : ¬ FP.Core.fIsNaN (FP.frem a b) = true := by rw [h]; decide
  rw [nan_rem32 ha hb] at h1
  have h2 := (FP.Core.ne_nan32 a).mp ha
  refine ⟨(FP.Core.fin_bits32 a).mpr (by omega), fun q => h1 (Or.inr ((FP.Core.zero_bits232 b).mp q))⟩
theorem f2d_DFin {a : UInt32} (ha : FP.Core.FFin a) : FP.Core.DFin (FP.f2d a) := by
  rw [FP.Core.fin_bits]
  have h1 := (f2d_pat ha.ne_nan).1
  have h2 := (FP.Core.fin_bits32 a).mp ha
  have h3 := (FP.Core.ne_nan _).mp (f2d_ok ha.ne_nan).2
  omega
theorem f2d_nz {b : UInt32} (hb : FP.Core.val32 b ≠ .nan) (hz : ¬ FP.Core.FZero b) : ¬ FP.Core.DZero (FP.f2d b) := by
  rw [FP.Core.zero_bits2, (f2d_pat hb).2.1, ← FP.Core.zero_bits232]
  exact hz
theorem d2f_f2d' {a : UInt32} (h : FP.Core.val32 a ≠ .nan) : FP.d2f (FP.f2d a) = a := by
  rw [(d2f_ok (f2d_ok h).2).1, (f2d_ok h).1]
  exact FP.Core.d2f_f2d h

set_option maxHeartbeats 8000000 in
set_option maxRecDepth 100000 in
theorem c_makeDouble_0 (l : Launch) (ad : Nat → Nat) (a b : UInt64) (ha : FP.Core.val64 a ≠ .nan) (hb0 : FP.Core.val64 b ≠ .nan) (hv0 : FP.Core.dIsNaN (FP.dadd a b) = false)  : Met l yX8_makeDouble wsX8_makeDouble ({ frames := 4, cells := 0, slots := 0, locals := 109 }) (va_Pc [.int 0, .double a, .double b] (fun U => bE ad U U.heap)) (vp_Sd (fun r : UInt64 => r = FP.dadd a b)) 0 0 (fun _ => False) := by
  refine Met.ofW (cc := cX8_makeDouble) (maxL := 5) (ret := (some .double)) (by decide) rfl ?_
  intro p e s m args below meth c s₁ B hml hv
  obtain ⟨rfl, hE, hN⟩ := hv
  have hx := B.exec
  have hb := B.bytes
  have hr := B.returns
  have hts := atoms_spec (ws := wsX8_makeDouble) B.pre
  have hown : s.vm.findClass RX8 = some m.cls := findClass_of_methodNamed B.named
  have hlocks := B.notSynchronized
  have hS : va_S (fun _ => False) s.heap s.heap [] := va_S.rf
  have hl := lv_entry ([.int 0, .double a, .double b]) (n := 5) (Nat.le_of_ble_eq_true rfl)
  rw [lg_entry_eq]
  generalize (lg_sl ([.int 0, .double a, .double b]) ++ List.replicate (5 - (lg_sl ([.int 0, .double a, .double b])).length) Slot.unset).toArray = ls at hl ⊢
  have hl : lv_has ls 5 [(0, .int 0), (1, .double a), (3, .double b)] := hl
  refine lv_iload_n hx hb dX8_makeDouble_0 rfl (lv_at hl 0 rfl) ?_
  refine lv_tableIn (off := 31) (tgt := 32) hx hb dX8_makeDouble_1 (by decide) (by decide) (by decide) (by decide) ?_
  refine lv_dload_n hx hb dX8_makeDouble_32 rfl (lv_at hl 1 rfl) ?_
  refine lv_dload_n hx hb dX8_makeDouble_33 rfl (lv_at hl 2 rfl) ?_
  refine lv_dadd hx hb dX8_makeDouble_34 (n64.mpr ((FP.Core.notNaN_iff _).mp hv0)) ?_
  refine lv_topd (fun v1 ev1 => ?_)
  exact W.dret (v := v1) hx hb hr (fun t ht hW => ⟨v1, rfl, ev1, ht⟩) (fun q hq => absurd hq List.not_mem_nil) dX8_makeDouble_35

set_option maxHeartbeats 8000000 in
set_option maxRecDepth 100000 in
theorem c_makeFloat_0 (l : Launch) (ad : Nat → Nat) (a b : UInt32) (ha : FP.Core.val32 a ≠ .nan) (hb0 : FP.Core.val32 b ≠ .nan) (hv0 : FP.Core.fIsNaN (FP.fadd a b) = false)  : Met l yX8_makeFloat wsX8_makeFloat ({ frames := 4, cells := 0, slots := 0, locals := 109 }) (va_Pc [.int 0, .float a, .float b] (fun U => bE ad U U.heap)) (vp_Sf (fun r : UInt32 => r = FP.fadd a b)) 0 0 (fun _ => False) := by
  refine Met.ofW (cc := cX8_makeFloat) (maxL := 3) (ret := (some .float)) (by decide) rfl ?_
  intro p e s m args below meth c s₁ B hml hv
  obtain ⟨rfl, hE, hN⟩ := hv
  have hx := B.exec
  have hb := B.bytes
  have hr := B.returns
  have hts := atoms_spec (ws := wsX8_makeFloat) B.pre
  have hown : s.vm.findClass RX8 = some m.cls := findClass_of_methodNamed B.named
  have hlocks := B.notSynchronized
  have hS : va_S (fun _ => False) s.heap s.heap [] := va_S.rf
  have hl := lv_entry ([.int 0, .float a, .float b]) (n := 3) (Nat.le_of_ble_eq_true rfl)
  rw [lg_entry_eq]
  generalize (lg_sl ([.int 0, .float a, .float b]) ++ List.replicate (3 - (lg_sl ([.int 0, .float a, .float b])).length) Slot.unset).toArray = ls at hl ⊢
  have hl : lv_has ls 3 [(0, .int 0), (1, .float a), (2, .float b)] := hl
  refine lv_iload_n hx hb dX8_makeFloat_0 rfl (lv_at hl 0 rfl) ?_
  refine lv_tableIn (off := 31) (tgt := 32) hx hb dX8_makeFloat_1 (by decide) (by decide) (by decide) (by decide) ?_
  refine lv_fload_n hx hb dX8_makeFloat_32 rfl (lv_at hl 1 rfl) ?_
  refine lv_fload_n hx hb dX8_makeFloat_33 rfl (lv_at hl 2 rfl) ?_
  refine lv_fadd hx hb dX8_makeFloat_34 (n32.mpr ((FP.Core.notNaN_iff32 _).mp hv0)) ?_
  refine lv_topf (fun v1 ev1 => ?_)
  exact W.fret (v := v1) hx hb hr (fun t ht hW => ⟨v1, rfl, ev1, ht⟩) (fun q hq => absurd hq List.not_mem_nil) dX8_makeFloat_35

set_option maxHeartbeats 8000000 in
set_option maxRecDepth 100000 in
theorem c_makeDouble_1 (l : Launch) (ad : Nat → Nat) (a b : UInt64) (ha : FP.Core.val64 a ≠ .nan) (hb0 : FP.Core.val64 b ≠ .nan) (hv0 : FP.Core.dIsNaN (FP.dsub a b) = false)  : Met l yX8_makeDouble wsX8_makeDouble ({ frames := 4, cells := 0, slots := 0, locals := 109 }) (va_Pc [.int 1, .double a, .double b] (fun U => bE ad U U.heap)) (vp_Sd (fun r : UInt64 => r = FP.dsub a b)) 0 0 (fun _ => False) := by
  refine Met.ofW (cc := cX8_makeDouble) (maxL := 5) (ret := (some .double)) (by decide) rfl ?_
  intro p e s m args below meth c s₁ B hml hv
  obtain ⟨rfl, hE, hN⟩ := hv
  have hx := B.exec
  have hb := B.bytes
  have hr := B.returns
  have hts := atoms_spec (ws := wsX8_makeDouble) B.pre
  have hown : s.vm.findClass RX8 = some m.cls := findClass_of_methodNamed B.named
  have hlocks := B.notSynchronized
  have hS : va_S (fun _ => False) s.heap s.heap [] := va_S.rf
  have hl := lv_entry ([.int 1, .double a, .double b]) (n := 5) (Nat.le_of_ble_eq_true rfl)
  rw [lg_entry_eq]
  generalize (lg_sl ([.int 1, .double a, .double b]) ++ List.replicate (5 - (lg_sl ([.int 1, .double a, .double b])).length) Slot.unset).toArray = ls at hl ⊢
  have hl : lv_has ls 5 [(0, .int 1), (1, .double a), (3, .double b)] := hl
  refine lv_iload_n hx hb dX8_makeDouble_0 rfl (lv_at hl 0 rfl) ?_
  refine lv_tableIn (off := 35) (tgt := 36) hx hb dX8_makeDouble_1 (by decide) (by decide) (by decide) (by decide) ?_
  refine lv_dload_n hx hb dX8_makeDouble_36 rfl (lv_at hl 1 rfl) ?_
  refine lv_dload_n hx hb dX8_makeDouble_37 rfl (lv_at hl 2 rfl) ?_
  refine lv_dsub hx hb dX8_makeDouble_38 (n64.mpr ((FP.Core.notNaN_iff _).mp hv0)) ?_
  refine lv_topd (fun v1 ev1 => ?_)
  exact W.dret (v := v1) hx hb hr (fun t ht hW => ⟨v1, rfl, ev1, ht⟩) (fun q hq => absurd hq List.not_mem_nil) dX8_makeDouble_39

set_option maxHeartbeats 8000000 in
set_option maxRecDepth 100000 in
theorem c_makeFloat_1 (l : Launch) (ad : Nat → Nat) (a b : UInt32) (ha : FP.Core.val32 a ≠ .nan) (hb0 : FP.Core.val32 b ≠ .nan) (hv0 : FP.Core.fIsNaN (FP.fsub a b) = false)  : Met l yX8_makeFloat wsX8_makeFloat ({ frames := 4, cells := 0, slots := 0, locals := 109 }) (va_Pc [.int 1, .float a, .float b] (fun U => bE ad U U.heap)) (vp_Sf (fun r : UInt32 => r = FP.fsub a b)) 0 0 (fun _ => False) := by
  refine Met.ofW (cc := cX8_makeFloat) (maxL := 3) (ret := (some .float)) (by decide) rfl ?_
  intro p e s m args below meth c s₁ B hml hv
  obtain ⟨rfl, hE, hN⟩ := hv
  have hx := B.exec
  have hb := B.bytes
  have hr := B.returns
  have hts := atoms_spec (ws := wsX8_makeFloat) B.pre
  have hown : s.vm.findClass RX8 = some m.cls := findClass_of_methodNamed B.named
  have hlocks := B.notSynchronized
  have hS : va_S (fun _ => False) s.heap s.heap [] := va_S.rf
  have hl := lv_entry ([.int 1, .float a, .float b]) (n := 3) (Nat.le_of_ble_eq_true rfl)
  rw [lg_entry_eq]
  generalize (lg_sl ([.int 1, .float a, .float b]) ++ List.replicate (3 - (lg_sl ([.int 1, .float a, .float b])).length) Slot.unset).toArray = ls at hl ⊢
  have hl : lv_has ls 3 [(0, .int 1), (1, .float a), (2, .float b)] := hl
  refine lv_iload_n hx hb dX8_makeFloat_0 rfl (lv_at hl 0 rfl) ?_
  refine lv_tableIn (off := 35) (tgt := 36) hx hb dX8_makeFloat_1 (by decide) (by decide) (by decide) (by decide) ?_
  refine lv_fload_n hx hb dX8_makeFloat_36 rfl (lv_at hl 1 rfl) ?_
  refine lv_fload_n hx hb dX8_makeFloat_37 rfl (lv_at hl 2 rfl) ?_
  refine lv_fsub hx hb dX8_makeFloat_38 (n32.mpr ((FP.Core.notNaN_iff32 _).mp hv0)) ?_
  refine lv_topf (fun v1 ev1 => ?_)
  exact W.fret (v := v1) hx hb hr (fun t ht hW => ⟨v1, rfl, ev1, ht⟩) (fun q hq => absurd hq List.not_mem_nil) dX8_makeFloat_39

set_option maxHeartbeats 8000000 in
set_option maxRecDepth 100000 in
theorem c_makeDouble_2 (l : Launch) (ad : Nat → Nat) (a b : UInt64) (ha : FP.Core.val64 a ≠ .nan) (hb0 : FP.Core.val64 b ≠ .nan) (hv0 : FP.Core.dIsNaN (FP.dmul a b) = false)  : Met l yX8_makeDouble wsX8_makeDouble ({ frames := 4, cells := 0, slots := 0, locals := 109 }) (va_Pc [.int 2, .double a, .double b] (fun U => bE ad U U.heap)) (vp_Sd (fun r : UInt64 => r = FP.dmul a b)) 0 0 (fun _ => False) := by
  refine Met.ofW (cc := cX8_makeDouble) (maxL := 5) (ret := (some .double)) (by decide) rfl ?_
  intro p e s m args below meth c s₁ B hml hv
  obtain ⟨rfl, hE, hN⟩ := hv
  have hx := B.exec
  have hb := B.bytes
  have hr := B.returns
  have hts := atoms_spec (ws := wsX8_makeDouble) B.pre
  have hown : s.vm.findClass RX8 = some m.cls := findClass_of_methodNamed B.named
  have hlocks := B.notSynchronized
  have hS : va_S (fun _ => False) s.heap s.heap [] := va_S.rf
  have hl := lv_entry ([.int 2, .double a, .double b]) (n := 5) (Nat.le_of_ble_eq_true rfl)
  rw [lg_entry_eq]
  generalize (lg_sl ([.int 2, .double a, .double b]) ++ List.replicate (5 - (lg_sl ([.int 2, .double a, .double b])).length) Slot.unset).toArray = ls at hl ⊢
  have hl : lv_has ls 5 [(0, .int 2), (1, .double a), (3, .double b)] := hl
  refine lv_iload_n hx hb dX8_makeDouble_0 rfl (lv_at hl 0 rfl) ?_
  refine lv_tableIn (off := 39) (tgt := 40) hx hb dX8_makeDouble_1 (by decide) (by decide) (by decide) (by decide) ?_
  refine lv_dload_n hx hb dX8_makeDouble_40 rfl (lv_at hl 1 rfl) ?_
  refine lv_dload_n hx hb dX8_makeDouble_41 rfl (lv_at hl 2 rfl) ?_
  refine lv_dmul hx hb dX8_makeDouble_42 (n64.mpr ((FP.Core.notNaN_iff _).mp hv0)) ?_
  refine lv_topd (fun v1 ev1 => ?_)
  exact W.dret (v := v1) hx hb hr (fun t ht hW => ⟨v1, rfl, ev1, ht⟩) (fun q hq => absurd hq List.not_mem_nil) dX8_makeDouble_43

set_option maxHeartbeats 8000000 in
set_option maxRecDepth 100000 in
theorem c_makeFloat_2 (l : Launch) (ad : Nat → Nat) (a b : UInt32) (ha : FP.Core.val32 a ≠ .nan) (hb0 : FP.Core.val32 b ≠ .nan) (hv0 : FP.Core.fIsNaN (FP.fmul a b) = false)  : Met l yX8_makeFloat wsX8_makeFloat ({ frames := 4, cells := 0, slots := 0, locals := 109 }) (va_Pc [.int 2, .float a, .float b] (fun U => bE ad U U.heap)) (vp_Sf (fun r : UInt32 => r = FP.fmul a b)) 0 0 (fun _ => False) := by
  refine Met.ofW (cc := cX8_makeFloat) (maxL := 3) (ret := (some .float)) (by decide) rfl ?_
  intro p e s m args below meth c s₁ B hml hv
  obtain ⟨rfl, hE, hN⟩ := hv
  have hx := B.exec
  have hb := B.bytes
  have hr := B.returns
  have hts := atoms_spec (ws := wsX8_makeFloat) B.pre
  have hown : s.vm.findClass RX8 = some m.cls := findClass_of_methodNamed B.named
  have hlocks := B.notSynchronized
  have hS : va_S (fun _ => False) s.heap s.heap [] := va_S.rf
  have hl := lv_entry ([.int 2, .float a, .float b]) (n := 3) (Nat.le_of_ble_eq_true rfl)
  rw [lg_entry_eq]
  generalize (lg_sl ([.int 2, .float a, .float b]) ++ List.replicate (3 - (lg_sl ([.int 2, .float a, .float b])).length) Slot.unset).toArray = ls at hl ⊢
  have hl : lv_has ls 3 [(0, .int 2), (1, .float a), (2, .float b)] := hl
  refine lv_iload_n hx hb dX8_makeFloat_0 rfl (lv_at hl 0 rfl) ?_
  refine lv_tableIn (off := 39) (tgt := 40) hx hb dX8_makeFloat_1 (by decide) (by decide) (by decide) (by decide) ?_
  refine lv_fload_n hx hb dX8_makeFloat_40 rfl (lv_at hl 1 rfl) ?_
  refine lv_fload_n hx hb dX8_makeFloat_41 rfl (lv_at hl 2 rfl) ?_
  refine lv_fmul hx hb dX8_makeFloat_42 (n32.mpr ((FP.Core.notNaN_iff32 _).mp hv0)) ?_
  refine lv_topf (fun v1 ev1 => ?_)
  exact W.fret (v := v1) hx hb hr (fun t ht hW => ⟨v1, rfl, ev1, ht⟩) (fun q hq => absurd hq List.not_mem_nil) dX8_makeFloat_43

set_option maxHeartbeats 8000000 in
set_option maxRecDepth 100000 in
theorem c_makeDouble_3 (l : Launch) (ad : Nat → Nat) (a b : UInt64) (ha : FP.Core.val64 a ≠ .nan) (hb0 : FP.Core.val64 b ≠ .nan) (hv0 : FP.Core.dIsNaN (FP.ddiv a b) = false)  : Met l yX8_makeDouble wsX8_makeDouble ({ frames := 4, cells := 0, slots := 0, locals := 109 }) (va_Pc [.int 3, .double a, .double b] (fun U => bE ad U U.heap)) (vp_Sd (fun r : UInt64 => r = FP.ddiv a b)) 0 0 (fun _ => False) := by
  refine Met.ofW (cc := cX8_makeDouble) (maxL := 5) (ret := (some .double)) (by decide) rfl ?_
  intro p e s m args below meth c s₁ B hml hv
  obtain ⟨rfl, hE, hN⟩ := hv
  have hx := B.exec
  have hb := B.bytes
  have hr := B.returns
  have hts := atoms_spec (ws := wsX8_makeDouble) B.pre
  have hown : s.vm.findClass RX8 = some m.cls := findClass_of_methodNamed B.named
  have hlocks := B.notSynchronized
  have hS : va_S (fun _ => False) s.heap s.heap [] := va_S.rf
  have hl := lv_entry ([.int 3, .double a, .double b]) (n := 5) (Nat.le_of_ble_eq_true rfl)
  rw [lg_entry_eq]
  generalize (lg_sl ([.int 3, .double a, .double b]) ++ List.replicate (5 - (lg_sl ([.int 3, .double a, .double b])).length) Slot.unset).toArray = ls at hl ⊢
  have hl : lv_has ls 5 [(0, .int 3), (1, .double a), (3, .double b)] := hl
  refine lv_iload_n hx hb dX8_makeDouble_0 rfl (lv_at hl 0 rfl) ?_
  refine lv_tableIn (off := 43) (tgt := 44) hx hb dX8_makeDouble_1 (by decide) (by decide) (by decide) (by decide) ?_
  refine lv_dload_n hx hb dX8_makeDouble_44 rfl (lv_at hl 1 rfl) ?_
  refine lv_dload_n hx hb dX8_makeDouble_45 rfl (lv_at hl 2 rfl) ?_
  refine lv_ddiv hx hb dX8_makeDouble_46 (n64.mpr ((FP.Core.notNaN_iff _).mp hv0)) ?_
  refine lv_topd (fun v1 ev1 => ?_)
  exact W.dret (v := v1) hx hb hr (fun t ht hW => ⟨v1, rfl, ev1, ht⟩) (fun q hq => absurd hq List.not_mem_nil) dX8_makeDouble_47

set_option maxHeartbeats 8000000 in
set_option maxRecDepth 100000 in
theorem c_makeFloat_3 (l : Launch) (ad : Nat → Nat) (a b : UInt32) (ha : FP.Core.val32 a ≠ .nan) (hb0 : FP.Core.val32 b ≠ .nan) (hv0 : FP.Core.fIsNaN (FP.fdiv a b) = false)  : Met l yX8_makeFloat wsX8_makeFloat ({ frames := 4, cells := 0, slots := 0, locals := 109 }) (va_Pc [.int 3, .float a, .float b] (fun U => bE ad U U.heap)) (vp_Sf (fun r : UInt32 => r = FP.fdiv a b)) 0 0 (fun _ => False) := by
  refine Met.ofW (cc := cX8_makeFloat) (maxL := 3) (ret := (some .float)) (by decide) rfl ?_
  intro p e s m args below meth c s₁ B hml hv
  obtain ⟨rfl, hE, hN⟩ := hv
  have hx := B.exec
  have hb := B.bytes
  have hr := B.returns
  have hts := atoms_spec (ws := wsX8_makeFloat) B.pre
  have hown : s.vm.findClass RX8 = some m.cls := findClass_of_methodNamed B.named
  have hlocks := B.notSynchronized
  have hS : va_S (fun _ => False) s.heap s.heap [] := va_S.rf
  have hl := lv_entry ([.int 3, .float a, .float b]) (n := 3) (Nat.le_of_ble_eq_true rfl)
  rw [lg_entry_eq]
  generalize (lg_sl ([.int 3, .float a, .float b]) ++ List.replicate (3 - (lg_sl ([.int 3, .float a, .float b])).length) Slot.unset).toArray = ls at hl ⊢
  have hl : lv_has ls 3 [(0, .int 3), (1, .float a), (2, .float b)] := hl
  refine lv_iload_n hx hb dX8_makeFloat_0 rfl (lv_at hl 0 rfl) ?_
  refine lv_tableIn (off := 43) (tgt := 44) hx hb dX8_makeFloat_1 (by decide) (by decide) (by decide) (by decide) ?_
  refine lv_fload_n hx hb dX8_makeFloat_44 rfl (lv_at hl 1 rfl) ?_
  refine lv_fload_n hx hb dX8_makeFloat_45 rfl (lv_at hl 2 rfl) ?_
  refine lv_fdiv hx hb dX8_makeFloat_46 (n32.mpr ((FP.Core.notNaN_iff32 _).mp hv0)) ?_
  refine lv_topf (fun v1 ev1 => ?_)
  exact W.fret (v := v1) hx hb hr (fun t ht hW => ⟨v1, rfl, ev1, ht⟩) (fun q hq => absurd hq List.not_mem_nil) dX8_makeFloat_47

set_option maxHeartbeats 8000000 in
set_option maxRecDepth 100000 in
theorem c_makeDouble_4 (l : Launch) (ad : Nat → Nat) (a b : UInt64) (ha : FP.Core.val64 a ≠ .nan) (hb0 : FP.Core.val64 b ≠ .nan) (hv0 : FP.Core.dIsNaN (FP.drem a b) = false)  : Met l yX8_makeDouble wsX8_makeDouble ({ frames := 4, cells := 0, slots := 0, locals := 109 }) (va_Pc [.int 4, .double a, .double b] (fun U => bE ad U U.heap)) (vp_Sd (fun r : UInt64 => r = FP.drem a b)) 0 0 (fun _ => False) := by
  refine Met.ofW (cc := cX8_makeDouble) (maxL := 5) (ret := (some .double)) (by decide) rfl ?_
  intro p e s m args below meth c s₁ B hml hv
  obtain ⟨rfl, hE, hN⟩ := hv
  have hx := B.exec
  have hb := B.bytes
  have hr := B.returns
  have hts := atoms_spec (ws := wsX8_makeDouble) B.pre
  have hown : s.vm.findClass RX8 = some m.cls := findClass_of_methodNamed B.named
  have hlocks := B.notSynchronized
  have hS : va_S (fun _ => False) s.heap s.heap [] := va_S.rf
  obtain ⟨hF1, hF3⟩ := rem_fin ha hb0 hv0
  have hF2 := hb0
  have hl := lv_entry ([.int 4, .double a, .double b]) (n := 5) (Nat.le_of_ble_eq_true rfl)
  rw [lg_entry_eq]
  generalize (lg_sl ([.int 4, .double a, .double b]) ++ List.replicate (5 - (lg_sl ([.int 4, .double a, .double b])).length) Slot.unset).toArray = ls at hl ⊢
  have hl : lv_has ls 5 [(0, .int 4), (1, .double a), (3, .double b)] := hl
  refine lv_iload_n hx hb dX8_makeDouble_0 rfl (lv_at hl 0 rfl) ?_
  refine lv_tableOut (tgt := 48) hx hb dX8_makeDouble_1 (by decide) (by decide) ?_
  refine lv_dload_n hx hb dX8_makeDouble_48 rfl (lv_at hl 1 rfl) ?_
  refine lv_dload_n hx hb dX8_makeDouble_49 rfl (lv_at hl 2 rfl) ?_
  refine vp_callSd (W.runS (As := [.double a, .double b]) (rest := []) ⟨hx, hb, hml, hown, hts⟩ (c_leftOf l ad a b hF1 hF2 hF3) (va_cwS 2 hts gX8_makeDouble_X8_leftOf rfl rfl rfl (by decide +kernel) ⟨Nat.le_of_ble_eq_true rfl, Nat.le_of_ble_eq_true rfl⟩) (preS_of okE (⟨hE, hN⟩)) rfl rfl hl.1 rfl (lv_room (Nat.le_of_ble_eq_true rfl)) dX8_makeDouble_50 ⟨Nat.le_of_ble_eq_true rfl, Nat.le_of_ble_eq_true rfl⟩) (fun r1 hr1 => ?_)
  exact W.dret (v := r1) hx hb hr (fun t ht hW => ⟨r1, rfl, hr1, ht⟩) (fun q hq => absurd hq List.not_mem_nil) dX8_makeDouble_53

set_option maxHeartbeats 8000000 in
set_option maxRecDepth 100000 in
theorem c_makeFloat_4 (l : Launch) (ad : Nat → Nat) (a b : UInt32) (ha : FP.Core.val32 a ≠ .nan) (hb0 : FP.Core.val32 b ≠ .nan) (hv0 : FP.Core.fIsNaN (FP.frem a b) = false)  : Met l yX8_makeFloat wsX8_makeFloat ({ frames := 4, cells := 0, slots := 0, locals := 109 }) (va_Pc [.int 4, .float a, .float b] (fun U => bE ad U U.heap)) (vp_Sf (fun r : UInt32 => r = FP.frem a b)) 0 0 (fun _ => False) := by
  refine Met.ofW (cc := cX8_makeFloat) (maxL := 3) (ret := (some .float)) (by decide) rfl ?_
  intro p e s m args below meth c s₁ B hml hv
  obtain ⟨rfl, hE, hN⟩ := hv
  have hx := B.exec
  have hb := B.bytes
  have hr := B.returns
  have hts := atoms_spec (ws := wsX8_makeFloat) B.pre
  have hown : s.vm.findClass RX8 = some m.cls := findClass_of_methodNamed B.named
  have hlocks := B.notSynchronized
  have hS : va_S (fun _ => False) s.heap s.heap [] := va_S.rf
  obtain ⟨g1, g2⟩ := rem_fin32 ha hb0 hv0
  have hF1 := f2d_DFin g1
  have hF2 := (f2d_ok hb0).2
  have hF3 := f2d_nz hb0 g2
  have hl := lv_entry ([.int 4, .float a, .float b]) (n := 3) (Nat.le_of_ble_eq_true rfl)
  rw [lg_entry_eq]
  generalize (lg_sl ([.int 4, .float a, .float b]) ++ List.replicate (3 - (lg_sl ([.int 4, .float a, .float b])).length) Slot.unset).toArray = ls at hl ⊢
  have hl : lv_has ls 3 [(0, .int 4), (1, .float a), (2, .float b)] := hl
  refine lv_iload_n hx hb dX8_makeFloat_0 rfl (lv_at hl 0 rfl) ?_
  refine lv_tableOut (tgt := 48) hx hb dX8_makeFloat_1 (by decide) (by decide) ?_
  refine lv_fload_n hx hb dX8_makeFloat_48 rfl (lv_at hl 1 rfl) ?_
  refine lv_f2d hx hb dX8_makeFloat_49 (n64.mpr (f2d_ok ha).2) ?_
  refine lv_topd (fun v1 ev1 => ?_)
  refine lv_fload_n hx hb dX8_makeFloat_50 rfl (lv_at hl 2 rfl) ?_
  refine lv_f2d hx hb dX8_makeFloat_51 (n64.mpr (f2d_ok hb0).2) ?_
  refine lv_topd (fun v2 ev2 => ?_)
  refine vp_callSd (W.runS (As := [.double v1, .double v2]) (rest := []) ⟨hx, hb, hml, hown, hts⟩ (c_leftOf l ad v1 v2 (by rw [ev1]; exact hF1) (by rw [ev2]; exact hF2) (by rw [ev2]; exact hF3)) (va_cwS 2 hts gX8_makeFloat_X8_leftOf rfl rfl rfl (by decide +kernel) ⟨Nat.le_of_ble_eq_true rfl, Nat.le_of_ble_eq_true rfl⟩) (preS_of okE (⟨hE, hN⟩)) rfl rfl hl.1 rfl (lv_room (Nat.le_of_ble_eq_true rfl)) dX8_makeFloat_52 ⟨Nat.le_of_ble_eq_true rfl, Nat.le_of_ble_eq_true rfl⟩) (fun r3 hr3 => ?_)
  have hrd : FP.drem v1 v2 = FP.f2d (FP.frem a b) := by rw [ev1, ev2]; exact (frem_f2d g1 hb0 g2).symm
  refine lv_d2f hx hb dX8_makeFloat_55 (n32.mpr (by rw [hr3, hrd]; exact (d2f_ok (f2d_ok ((FP.Core.notNaN_iff32 _).mp hv0)).2).2)) ?_
  refine lv_topf (fun v4 ev4 => ?_)
  exact W.fret (v := v4) hx hb hr (fun t ht hW => ⟨v4, rfl, (by rw [ev4, hr3, hrd]; exact d2f_f2d' ((FP.Core.notNaN_iff32 _).mp hv0)), ht⟩) (fun q hq => absurd hq List.not_mem_nil) dX8_makeFloat_56

set_option maxHeartbeats 8000000 in
set_option maxRecDepth 100000 in
theorem c_formOf_2 (l : Launch) (ad : Nat → Nat) (x : Int32) (hx2 : x = 2)  : Met l yX8_formOf wsX8_formOf ({ frames := 0, cells := 0, slots := 0, locals := 0 }) (va_Pc [.int x] (fun U => bE ad U U.heap)) (va_Sq (fun r => r = some (ad 0))) 0 0 (fun _ => False) := by
  refine Met.ofW (cc := cX8_formOf) (maxL := 1) (ret := (some (.object "RopeDrums$Form"))) (by decide) rfl ?_
  intro p e s m args below meth c s₁ B hml hv
  obtain ⟨rfl, hE, hN⟩ := hv
  have hx := B.exec
  have hb := B.bytes
  have hr := B.returns
  have hts := atoms_spec (ws := wsX8_formOf) B.pre
  have hown : s.vm.findClass RX8 = some m.cls := findClass_of_methodNamed B.named
  have hlocks := B.notSynchronized
  have hS : va_S (fun _ => False) s.heap s.heap [] := va_S.rf
  have hl := lv_entry ([.int x]) (n := 1) (Nat.le_of_ble_eq_true rfl)
  rw [lg_entry_eq]
  generalize (lg_sl ([.int x]) ++ List.replicate (1 - (lg_sl ([.int x])).length) Slot.unset).toArray = ls at hl ⊢
  have hl : lv_has ls 1 [(0, .int x)] := hl
  refine lv_iload_n hx hb dX8_formOf_0 rfl (lv_at hl 0 rfl) ?_
  refine lv_iconst (v := 2) hx hb dX8_formOf_1 (by decide) ?_
  refine lv_icmp_ne (tgt := 11) hx hb dX8_formOf_2 (by decide) (fun c1 => absurd (hx2) c1) (fun c1 => ?_)
  refine va_gets (C := "RopeDrums$Form") (n := "FLOAT") (d := "LRopeDrums$Form;") (v := .ref (ad 0)) hx hb (hE.1 0 (by decide)).1 hS hown (hts (.fieldLink RX8 265 "RopeDrums$Form" "FLOAT" "LRopeDrums$Form;") (by decide +kernel)) (fun _ h9 => h9) dX8_formOf_5 ?_
  refine lv_goto (tgt := 14) hx hb dX8_formOf_8 (by decide) ?_
  exact W.aret hx hb hr (Or.inl ⟨_, rfl⟩) (Or.inr ⟨_, rfl⟩) (fun t ht hW => ⟨some (ad 0), rfl, rfl, ht⟩) (fun q hq => absurd hq List.not_mem_nil) dX8_formOf_14

set_option maxHeartbeats 8000000 in
set_option maxRecDepth 100000 in
theorem c_formOf_3 (l : Launch) (ad : Nat → Nat) (x : Int32) (hx2 : x = 3)  : Met l yX8_formOf wsX8_formOf ({ frames := 0, cells := 0, slots := 0, locals := 0 }) (va_Pc [.int x] (fun U => bE ad U U.heap)) (va_Sq (fun r => r = some (ad 1))) 0 0 (fun _ => False) := by
  refine Met.ofW (cc := cX8_formOf) (maxL := 1) (ret := (some (.object "RopeDrums$Form"))) (by decide) rfl ?_
  intro p e s m args below meth c s₁ B hml hv
  obtain ⟨rfl, hE, hN⟩ := hv
  have hx := B.exec
  have hb := B.bytes
  have hr := B.returns
  have hts := atoms_spec (ws := wsX8_formOf) B.pre
  have hown : s.vm.findClass RX8 = some m.cls := findClass_of_methodNamed B.named
  have hlocks := B.notSynchronized
  have hS : va_S (fun _ => False) s.heap s.heap [] := va_S.rf
  have hl := lv_entry ([.int x]) (n := 1) (Nat.le_of_ble_eq_true rfl)
  rw [lg_entry_eq]
  generalize (lg_sl ([.int x]) ++ List.replicate (1 - (lg_sl ([.int x])).length) Slot.unset).toArray = ls at hl ⊢
  have hl : lv_has ls 1 [(0, .int x)] := hl
  refine lv_iload_n hx hb dX8_formOf_0 rfl (lv_at hl 0 rfl) ?_
  refine lv_iconst (v := 2) hx hb dX8_formOf_1 (by decide) ?_
  refine lv_icmp_ne (tgt := 11) hx hb dX8_formOf_2 (by decide) (fun c1 => ?_) (fun c1 => absurd c1 (by rw [hx2]; decide))
  refine va_gets (C := "RopeDrums$Form") (n := "DOUBLE") (d := "LRopeDrums$Form;") (v := .ref (ad 1)) hx hb (hE.1 1 (by decide)).1 hS hown (hts (.fieldLink RX8 166 "RopeDrums$Form" "DOUBLE" "LRopeDrums$Form;") (by decide +kernel)) (fun _ h9 => h9) dX8_formOf_11 ?_
  exact W.aret hx hb hr (Or.inl ⟨_, rfl⟩) (Or.inr ⟨_, rfl⟩) (fun t ht hW => ⟨some (ad 1), rfl, rfl, ht⟩) (fun q hq => absurd hq List.not_mem_nil) dX8_formOf_14

def q_lack (sz i : Int32) : Int32 := (if sz = (-1 : Int32) then 1 else (if i < (0 : Int32) then 2 else (if i < sz then 0 else 2)))

set_option maxHeartbeats 8000000 in
set_option maxRecDepth 100000 in
theorem c_lackAt_log (l : Launch) (G : va_G) (cy : Nat → ClassId) (L : List Nat) (F : Nat → va_E) (h0 : Nat) (sz : Int32) (lw : Int32) (ro : Nat) (hm : h0 ∈ L) (hF : F h0 = .inr (3, [.int sz, .int lw, .ref ro])) (i : Int32)  : Met l yX5_lackAt wsX5_lackAt ({ frames := 0, cells := 0, slots := 0, locals := 0 }) (va_Pc [.ref h0, .int i] (fun U => bP G cy L F U U.heap)) (vp_Si (fun r : Int32 => r = q_lack sz i)) 0 0 (fun _ => False) := by
  refine Met.ofW (cc := cX5_lackAt) (maxL := 2) (ret := (some .int)) (by decide) rfl ?_
  intro p e s m args below meth c s₁ B hml hv
  obtain ⟨rfl, hP, hK, hD⟩ := hv
  have hx := B.exec
  have hb := B.bytes
  have hr := B.returns
  have hts := atoms_spec (ws := wsX5_lackAt) B.pre
  have hown : s.vm.findClass RX5 = some m.cls := findClass_of_methodNamed B.named
  have hlocks := B.notSynchronized
  have hinX3 : ∀ w ∈ wsX30, w ∈ wsX5_lackAt := by decide +kernel
  have hinX6 : ∀ w ∈ wsX60, w ∈ wsX5_lackAt := by decide +kernel
  have hS : va_S (fun _ => False) s.heap s.heap [] := va_S.rf
  have hl := lv_entry ([.ref h0, .int i]) (n := 2) (Nat.le_of_ble_eq_true rfl)
  rw [lg_entry_eq]
  generalize (lg_sl ([.ref h0, .int i]) ++ List.replicate (2 - (lg_sl ([.ref h0, .int i])).length) Slot.unset).toArray = ls at hl ⊢
  have hl : lv_has ls 2 [(0, .ref h0), (1, .int i)] := hl
  refine lv_aload_n hx hb dX5_lackAt_0 rfl (lv_at hl 0 rfl) ?_
  refine pg_get (ci := 3) (C := RX3) (T := TX3) (N := 3) hx hb hts hinX3 hown hK hP hm hF rfl 0 (by decide) (hts (.fieldLink RX5 9 "RopeDrums$Places" "size" "I") (by decide +kernel)) (fun _ h9 => h9) rfl dX5_lackAt_1 ?_
  refine lv_iconst (v := -1) hx hb dX5_lackAt_4 (by decide) ?_
  refine lv_icmp_ne (tgt := 10) hx hb dX5_lackAt_5 (by decide) (fun c1 => ?_) (fun c1 => ?_)
  · refine lv_iload_n hx hb dX5_lackAt_10 rfl (lv_at hl 1 rfl) ?_
    refine lv_if_lt (tgt := 22) hx hb dX5_lackAt_11 (by decide) (fun c2 => ?_) (fun c2 => ?_)
    · refine lv_iconst (v := 2) hx hb dX5_lackAt_22 (by decide) ?_
      refine lv_goto (tgt := 27) hx hb dX5_lackAt_23 (by decide) ?_
      exact W.iret (v := 2) hx hb hr (fun t ht hW => ⟨2, rfl, (by unfold q_lack; rw [if_neg c1, if_pos c2]), ht⟩) (fun q hq => absurd hq List.not_mem_nil) dX5_lackAt_27
    · refine lv_iload_n hx hb dX5_lackAt_14 rfl (lv_at hl 1 rfl) ?_
      refine lv_aload_n hx hb dX5_lackAt_15 rfl (lv_at hl 0 rfl) ?_
      refine pg_get (ci := 3) (C := RX3) (T := TX3) (N := 3) hx hb hts hinX3 hown hK hP hm hF rfl 0 (by decide) (hts (.fieldLink RX5 9 "RopeDrums$Places" "size" "I") (by decide +kernel)) (fun _ h9 => h9) rfl dX5_lackAt_16 ?_
      refine lv_icmp_lt (tgt := 26) hx hb dX5_lackAt_19 (by decide) (fun c3 => ?_) (fun c3 => ?_)
      · refine lv_iconst (v := 0) hx hb dX5_lackAt_26 (by decide) ?_
        exact W.iret (v := 0) hx hb hr (fun t ht hW => ⟨0, rfl, (by unfold q_lack; rw [if_neg c1, if_neg c2, if_pos c3]), ht⟩) (fun q hq => absurd hq List.not_mem_nil) dX5_lackAt_27
      · refine lv_iconst (v := 2) hx hb dX5_lackAt_22 (by decide) ?_
        refine lv_goto (tgt := 27) hx hb dX5_lackAt_23 (by decide) ?_
        exact W.iret (v := 2) hx hb hr (fun t ht hW => ⟨2, rfl, (by unfold q_lack; rw [if_neg c1, if_neg c2, if_neg c3]), ht⟩) (fun q hq => absurd hq List.not_mem_nil) dX5_lackAt_27
  · refine lv_iconst (v := 1) hx hb dX5_lackAt_8 (by decide) ?_
    exact W.iret (v := 1) hx hb hr (fun t ht hW => ⟨1, rfl, (by unfold q_lack; rw [if_pos c1]), ht⟩) (fun q hq => absurd hq List.not_mem_nil) dX5_lackAt_9

set_option maxHeartbeats 8000000 in
set_option maxRecDepth 100000 in
theorem c_lackAt_rack (l : Launch) (G : va_G) (cy : Nat → ClassId) (L : List Nat) (F : Nat → va_E) (h0 : Nat) (sz : Int32) (ro : Nat) (al : Int32) (hm : h0 ∈ L) (hF : F h0 = .inr (5, [.int sz, .ref ro, .int al])) (i : Int32)  : Met l yX5_lackAt wsX5_lackAt ({ frames := 0, cells := 0, slots := 0, locals := 0 }) (va_Pc [.ref h0, .int i] (fun U => bP G cy L F U U.heap)) (vp_Si (fun r : Int32 => r = q_lack sz i)) 0 0 (fun _ => False) := by
  refine Met.ofW (cc := cX5_lackAt) (maxL := 2) (ret := (some .int)) (by decide) rfl ?_
  intro p e s m args below meth c s₁ B hml hv
  obtain ⟨rfl, hP, hK, hD⟩ := hv
  have hx := B.exec
  have hb := B.bytes
  have hr := B.returns
  have hts := atoms_spec (ws := wsX5_lackAt) B.pre
  have hown : s.vm.findClass RX5 = some m.cls := findClass_of_methodNamed B.named
  have hlocks := B.notSynchronized
  have hinX3 : ∀ w ∈ wsX30, w ∈ wsX5_lackAt := by decide +kernel
  have hinX6 : ∀ w ∈ wsX60, w ∈ wsX5_lackAt := by decide +kernel
  have hS : va_S (fun _ => False) s.heap s.heap [] := va_S.rf
  have hl := lv_entry ([.ref h0, .int i]) (n := 2) (Nat.le_of_ble_eq_true rfl)
  rw [lg_entry_eq]
  generalize (lg_sl ([.ref h0, .int i]) ++ List.replicate (2 - (lg_sl ([.ref h0, .int i])).length) Slot.unset).toArray = ls at hl ⊢
  have hl : lv_has ls 2 [(0, .ref h0), (1, .int i)] := hl
  refine lv_aload_n hx hb dX5_lackAt_0 rfl (lv_at hl 0 rfl) ?_
  refine pg_get (ci := 5) (C := RX6) (T := TX6) (N := 3) hx hb hts hinX6 hown hK hP hm hF rfl 0 (by decide) (hts (.fieldLink RX5 9 "RopeDrums$Places" "size" "I") (by decide +kernel)) (fun _ h9 => h9) rfl dX5_lackAt_1 ?_
  refine lv_iconst (v := -1) hx hb dX5_lackAt_4 (by decide) ?_
  refine lv_icmp_ne (tgt := 10) hx hb dX5_lackAt_5 (by decide) (fun c1 => ?_) (fun c1 => ?_)
  · refine lv_iload_n hx hb dX5_lackAt_10 rfl (lv_at hl 1 rfl) ?_
    refine lv_if_lt (tgt := 22) hx hb dX5_lackAt_11 (by decide) (fun c2 => ?_) (fun c2 => ?_)
    · refine lv_iconst (v := 2) hx hb dX5_lackAt_22 (by decide) ?_
      refine lv_goto (tgt := 27) hx hb dX5_lackAt_23 (by decide) ?_
      exact W.iret (v := 2) hx hb hr (fun t ht hW => ⟨2, rfl, (by unfold q_lack; rw [if_neg c1, if_pos c2]), ht⟩) (fun q hq => absurd hq List.not_mem_nil) dX5_lackAt_27
    · refine lv_iload_n hx hb dX5_lackAt_14 rfl (lv_at hl 1 rfl) ?_
      refine lv_aload_n hx hb dX5_lackAt_15 rfl (lv_at hl 0 rfl) ?_
      refine pg_get (ci := 5) (C := RX6) (T := TX6) (N := 3) hx hb hts hinX6 hown hK hP hm hF rfl 0 (by decide) (hts (.fieldLink RX5 9 "RopeDrums$Places" "size" "I") (by decide +kernel)) (fun _ h9 => h9) rfl dX5_lackAt_16 ?_
      refine lv_icmp_lt (tgt := 26) hx hb dX5_lackAt_19 (by decide) (fun c3 => ?_) (fun c3 => ?_)
      · refine lv_iconst (v := 0) hx hb dX5_lackAt_26 (by decide) ?_
        exact W.iret (v := 0) hx hb hr (fun t ht hW => ⟨0, rfl, (by unfold q_lack; rw [if_neg c1, if_neg c2, if_pos c3]), ht⟩) (fun q hq => absurd hq List.not_mem_nil) dX5_lackAt_27
      · refine lv_iconst (v := 2) hx hb dX5_lackAt_22 (by decide) ?_
        refine lv_goto (tgt := 27) hx hb dX5_lackAt_23 (by decide) ?_
        exact W.iret (v := 2) hx hb hr (fun t ht hW => ⟨2, rfl, (by unfold q_lack; rw [if_neg c1, if_neg c2, if_neg c3]), ht⟩) (fun q hq => absurd hq List.not_mem_nil) dX5_lackAt_27
  · refine lv_iconst (v := 1) hx hb dX5_lackAt_8 (by decide) ?_
    exact W.iret (v := 1) hx hb hr (fun t ht hW => ⟨1, rfl, (by unfold q_lack; rw [if_pos c1]), ht⟩) (fun q hq => absurd hq List.not_mem_nil) dX5_lackAt_9
