def q_isVoid_0 (a b : UInt64) : Int32 := (if (q_isEndless a) = (0 : Int32) then 0 else (if (q_isEndless b) = (0 : Int32) then 0 else (if (Op.cmpValue (FP.dcmp a b) CmpOp.l) = (0 : Int32) then 0 else 1)))
set_option maxHeartbeats 8000000 in
set_option maxRecDepth 100000 in
theorem c_isVoid_0 (l : Launch) (a b : UInt64)  : Met l yX8_isVoid wsX8_isVoid ({ frames := 1, cells := 0, slots := 0, locals := 23 }) (va_Pc [.int 0, .double a, .double b] (fun U => bT U U.heap)) (vp_Si (fun r : Int32 => r = q_isVoid_0 a b)) 0 0 (fun _ => False) := by
  refine Met.ofW (cc := cX8_isVoid) (maxL := 5) (ret := (some .boolean)) (by decide) rfl ?_
  intro p e s m args below meth c s₁ B hml hv
  obtain ⟨rfl, -⟩ := hv
  have hx := B.exec
  have hb := B.bytes
  have hr := B.returns
  have hts := atoms_spec (ws := wsX8_isVoid) B.pre
  have hown : s.vm.findClass RX8 = some m.cls := findClass_of_methodNamed B.named
  have hlocks := B.notSynchronized
  have hS : va_S (fun _ => False) s.heap s.heap [] := va_S.rf
  have hl := lv_entry ([.int 0, .double a, .double b]) (n := 5) (Nat.le_of_ble_eq_true rfl)
  rw [lg_entry_eq]
  generalize (lg_sl ([.int 0, .double a, .double b]) ++ List.replicate (5 - (lg_sl ([.int 0, .double a, .double b])).length) Slot.unset).toArray = ls at hl ⊢
  have hl : lv_has ls 5 [(0, .int 0), (1, .double a), (3, .double b)] := hl
  refine lv_iload_n hx hb dX8_isVoid_0 rfl (lv_at hl 0 rfl) ?_
  refine lv_tableIn (off := 31) (tgt := 32) hx hb dX8_isVoid_1 (by decide) (by decide) (by decide) (by decide) ?_
  refine lv_dload_n hx hb dX8_isVoid_32 rfl (lv_at hl 1 rfl) ?_
  refine vp_callSi (W.runS (As := [.double a]) (rest := []) ⟨hx, hb, hml, hown, hts⟩ (c_isEndless l a) (va_cwS 1 hts gX8_isVoid_X8_isEndless rfl rfl rfl (by decide +kernel) ⟨Nat.le_of_ble_eq_true rfl, Nat.le_of_ble_eq_true rfl⟩) (preS_of okT (trivial)) rfl rfl hl.1 rfl (lv_room (Nat.le_of_ble_eq_true rfl)) dX8_isVoid_33 ⟨Nat.le_of_ble_eq_true rfl, Nat.le_of_ble_eq_true rfl⟩) (fun r1 hr1 => ?_)
  refine lv_if_eq (tgt := 56) hx hb dX8_isVoid_36 (by decide) (fun c2 => ?_) (fun c2 => ?_)
  · refine lv_iconst (v := 0) hx hb dX8_isVoid_56 (by decide) ?_
    exact W.zret (v := 0) hx hb hr (rfl) (fun t ht hW => ⟨0, rfl, (by subst hr1; unfold q_isVoid_0; rw [if_pos c2]), ht⟩) (fun q hq => absurd hq List.not_mem_nil) dX8_isVoid_57
  · refine lv_dload_n hx hb dX8_isVoid_39 rfl (lv_at hl 2 rfl) ?_
    refine vp_callSi (W.runS (As := [.double b]) (rest := []) ⟨hx, hb, hml, hown, hts⟩ (c_isEndless l b) (va_cwS 1 hts gX8_isVoid_X8_isEndless rfl rfl rfl (by decide +kernel) ⟨Nat.le_of_ble_eq_true rfl, Nat.le_of_ble_eq_true rfl⟩) (preS_of okT (trivial)) rfl rfl hl.1 rfl (lv_room (Nat.le_of_ble_eq_true rfl)) dX8_isVoid_40 ⟨Nat.le_of_ble_eq_true rfl, Nat.le_of_ble_eq_true rfl⟩) (fun r3 hr3 => ?_)
    refine lv_if_eq (tgt := 56) hx hb dX8_isVoid_43 (by decide) (fun c4 => ?_) (fun c4 => ?_)
    · refine lv_iconst (v := 0) hx hb dX8_isVoid_56 (by decide) ?_
      exact W.zret (v := 0) hx hb hr (rfl) (fun t ht hW => ⟨0, rfl, (by subst hr3 hr1; unfold q_isVoid_0; rw [if_neg c2, if_pos c4]), ht⟩) (fun q hq => absurd hq List.not_mem_nil) dX8_isVoid_57
    · refine lv_dload_n hx hb dX8_isVoid_46 rfl (lv_at hl 1 rfl) ?_
      refine lv_dload_n hx hb dX8_isVoid_47 rfl (lv_at hl 2 rfl) ?_
      refine lv_dcmp hx hb dX8_isVoid_48 ?_
      refine lv_if_eq (tgt := 56) hx hb dX8_isVoid_49 (by decide) (fun c5 => ?_) (fun c5 => ?_)
      · refine lv_iconst (v := 0) hx hb dX8_isVoid_56 (by decide) ?_
        exact W.zret (v := 0) hx hb hr (rfl) (fun t ht hW => ⟨0, rfl, (by subst hr3 hr1; unfold q_isVoid_0; rw [if_neg c2, if_neg c4, if_pos c5]), ht⟩) (fun q hq => absurd hq List.not_mem_nil) dX8_isVoid_57
      · refine lv_iconst (v := 1) hx hb dX8_isVoid_52 (by decide) ?_
        refine lv_goto (tgt := 57) hx hb dX8_isVoid_53 (by decide) ?_
        exact W.zret (v := 1) hx hb hr (rfl) (fun t ht hW => ⟨1, rfl, (by subst hr3 hr1; unfold q_isVoid_0; rw [if_neg c2, if_neg c4, if_neg c5]), ht⟩) (fun q hq => absurd hq List.not_mem_nil) dX8_isVoid_57

def q_isVoid_1 (a b : UInt64) : Int32 := (if (q_isEndless a) = (0 : Int32) then 0 else (if (q_isEndless b) = (0 : Int32) then 0 else (if (Op.cmpValue (FP.dcmp a b) CmpOp.l) = (0 : Int32) then 1 else 0)))
set_option maxHeartbeats 8000000 in
set_option maxRecDepth 100000 in
theorem c_isVoid_1 (l : Launch) (a b : UInt64)  : Met l yX8_isVoid wsX8_isVoid ({ frames := 1, cells := 0, slots := 0, locals := 23 }) (va_Pc [.int 1, .double a, .double b] (fun U => bT U U.heap)) (vp_Si (fun r : Int32 => r = q_isVoid_1 a b)) 0 0 (fun _ => False) := by
  refine Met.ofW (cc := cX8_isVoid) (maxL := 5) (ret := (some .boolean)) (by decide) rfl ?_
  intro p e s m args below meth c s₁ B hml hv
  obtain ⟨rfl, -⟩ := hv
  have hx := B.exec
  have hb := B.bytes
  have hr := B.returns
  have hts := atoms_spec (ws := wsX8_isVoid) B.pre
  have hown : s.vm.findClass RX8 = some m.cls := findClass_of_methodNamed B.named
  have hlocks := B.notSynchronized
  have hS : va_S (fun _ => False) s.heap s.heap [] := va_S.rf
  have hl := lv_entry ([.int 1, .double a, .double b]) (n := 5) (Nat.le_of_ble_eq_true rfl)
  rw [lg_entry_eq]
  generalize (lg_sl ([.int 1, .double a, .double b]) ++ List.replicate (5 - (lg_sl ([.int 1, .double a, .double b])).length) Slot.unset).toArray = ls at hl ⊢
  have hl : lv_has ls 5 [(0, .int 1), (1, .double a), (3, .double b)] := hl
  refine lv_iload_n hx hb dX8_isVoid_0 rfl (lv_at hl 0 rfl) ?_
  refine lv_tableIn (off := 57) (tgt := 58) hx hb dX8_isVoid_1 (by decide) (by decide) (by decide) (by decide) ?_
  refine lv_dload_n hx hb dX8_isVoid_58 rfl (lv_at hl 1 rfl) ?_
  refine vp_callSi (W.runS (As := [.double a]) (rest := []) ⟨hx, hb, hml, hown, hts⟩ (c_isEndless l a) (va_cwS 1 hts gX8_isVoid_X8_isEndless rfl rfl rfl (by decide +kernel) ⟨Nat.le_of_ble_eq_true rfl, Nat.le_of_ble_eq_true rfl⟩) (preS_of okT (trivial)) rfl rfl hl.1 rfl (lv_room (Nat.le_of_ble_eq_true rfl)) dX8_isVoid_59 ⟨Nat.le_of_ble_eq_true rfl, Nat.le_of_ble_eq_true rfl⟩) (fun r1 hr1 => ?_)
  refine lv_if_eq (tgt := 82) hx hb dX8_isVoid_62 (by decide) (fun c2 => ?_) (fun c2 => ?_)
  · refine lv_iconst (v := 0) hx hb dX8_isVoid_82 (by decide) ?_
    exact W.zret (v := 0) hx hb hr (rfl) (fun t ht hW => ⟨0, rfl, (by subst hr1; unfold q_isVoid_1; rw [if_pos c2]), ht⟩) (fun q hq => absurd hq List.not_mem_nil) dX8_isVoid_83
  · refine lv_dload_n hx hb dX8_isVoid_65 rfl (lv_at hl 2 rfl) ?_
    refine vp_callSi (W.runS (As := [.double b]) (rest := []) ⟨hx, hb, hml, hown, hts⟩ (c_isEndless l b) (va_cwS 1 hts gX8_isVoid_X8_isEndless rfl rfl rfl (by decide +kernel) ⟨Nat.le_of_ble_eq_true rfl, Nat.le_of_ble_eq_true rfl⟩) (preS_of okT (trivial)) rfl rfl hl.1 rfl (lv_room (Nat.le_of_ble_eq_true rfl)) dX8_isVoid_66 ⟨Nat.le_of_ble_eq_true rfl, Nat.le_of_ble_eq_true rfl⟩) (fun r3 hr3 => ?_)
    refine lv_if_eq (tgt := 82) hx hb dX8_isVoid_69 (by decide) (fun c4 => ?_) (fun c4 => ?_)
    · refine lv_iconst (v := 0) hx hb dX8_isVoid_82 (by decide) ?_
      exact W.zret (v := 0) hx hb hr (rfl) (fun t ht hW => ⟨0, rfl, (by subst hr3 hr1; unfold q_isVoid_1; rw [if_neg c2, if_pos c4]), ht⟩) (fun q hq => absurd hq List.not_mem_nil) dX8_isVoid_83
    · refine lv_dload_n hx hb dX8_isVoid_72 rfl (lv_at hl 1 rfl) ?_
      refine lv_dload_n hx hb dX8_isVoid_73 rfl (lv_at hl 2 rfl) ?_
      refine lv_dcmp hx hb dX8_isVoid_74 ?_
      refine lv_if_ne (tgt := 82) hx hb dX8_isVoid_75 (by decide) (fun c5 => ?_) (fun c5 => ?_)
      · refine lv_iconst (v := 0) hx hb dX8_isVoid_82 (by decide) ?_
        exact W.zret (v := 0) hx hb hr (rfl) (fun t ht hW => ⟨0, rfl, (by subst hr3 hr1; unfold q_isVoid_1; rw [if_neg c2, if_neg c4, if_neg c5]), ht⟩) (fun q hq => absurd hq List.not_mem_nil) dX8_isVoid_83
      · refine lv_iconst (v := 1) hx hb dX8_isVoid_78 (by decide) ?_
        refine lv_goto (tgt := 83) hx hb dX8_isVoid_79 (by decide) ?_
        exact W.zret (v := 1) hx hb hr (rfl) (fun t ht hW => ⟨1, rfl, (by subst hr3 hr1; unfold q_isVoid_1; rw [if_neg c2, if_neg c4, if_pos c5]), ht⟩) (fun q hq => absurd hq List.not_mem_nil) dX8_isVoid_83

def q_isVoid_2 (a b : UInt64) : Int32 := (if (q_isEndless a) = (0 : Int32) then (if (Op.cmpValue (FP.dcmp a FP.dconst0) CmpOp.l) = (0 : Int32) then (if (q_isEndless b) = (0 : Int32) then 0 else 1) else 0) else (if (Op.cmpValue (FP.dcmp b FP.dconst0) CmpOp.l) = (0 : Int32) then 1 else (if (Op.cmpValue (FP.dcmp a FP.dconst0) CmpOp.l) = (0 : Int32) then (if (q_isEndless b) = (0 : Int32) then 0 else 1) else 0)))
set_option maxHeartbeats 8000000 in
set_option maxRecDepth 100000 in
theorem c_isVoid_2 (l : Launch) (a b : UInt64)  : Met l yX8_isVoid wsX8_isVoid ({ frames := 1, cells := 0, slots := 0, locals := 23 }) (va_Pc [.int 2, .double a, .double b] (fun U => bT U U.heap)) (vp_Si (fun r : Int32 => r = q_isVoid_2 a b)) 0 0 (fun _ => False) := by
  refine Met.ofW (cc := cX8_isVoid) (maxL := 5) (ret := (some .boolean)) (by decide) rfl ?_
  intro p e s m args below meth c s₁ B hml hv
  obtain ⟨rfl, -⟩ := hv
  have hx := B.exec
  have hb := B.bytes
  have hr := B.returns
  have hts := atoms_spec (ws := wsX8_isVoid) B.pre
  have hown : s.vm.findClass RX8 = some m.cls := findClass_of_methodNamed B.named
  have hlocks := B.notSynchronized
  have hS : va_S (fun _ => False) s.heap s.heap [] := va_S.rf
  have hl := lv_entry ([.int 2, .double a, .double b]) (n := 5) (Nat.le_of_ble_eq_true rfl)
  rw [lg_entry_eq]
  generalize (lg_sl ([.int 2, .double a, .double b]) ++ List.replicate (5 - (lg_sl ([.int 2, .double a, .double b])).length) Slot.unset).toArray = ls at hl ⊢
  have hl : lv_has ls 5 [(0, .int 2), (1, .double a), (3, .double b)] := hl
  refine lv_iload_n hx hb dX8_isVoid_0 rfl (lv_at hl 0 rfl) ?_
  refine lv_tableIn (off := 83) (tgt := 84) hx hb dX8_isVoid_1 (by decide) (by decide) (by decide) (by decide) ?_
  refine lv_dload_n hx hb dX8_isVoid_84 rfl (lv_at hl 1 rfl) ?_
  refine vp_callSi (W.runS (As := [.double a]) (rest := []) ⟨hx, hb, hml, hown, hts⟩ (c_isEndless l a) (va_cwS 1 hts gX8_isVoid_X8_isEndless rfl rfl rfl (by decide +kernel) ⟨Nat.le_of_ble_eq_true rfl, Nat.le_of_ble_eq_true rfl⟩) (preS_of okT (trivial)) rfl rfl hl.1 rfl (lv_room (Nat.le_of_ble_eq_true rfl)) dX8_isVoid_85 ⟨Nat.le_of_ble_eq_true rfl, Nat.le_of_ble_eq_true rfl⟩) (fun r1 hr1 => ?_)
  refine lv_if_eq (tgt := 97) hx hb dX8_isVoid_88 (by decide) (fun c2 => ?_) (fun c2 => ?_)
  · refine lv_dload_n hx hb dX8_isVoid_97 rfl (lv_at hl 1 rfl) ?_
    refine lv_dconst0 hx hb dX8_isVoid_98 ?_
    refine lv_dcmp hx hb dX8_isVoid_99 ?_
    refine lv_if_ne (tgt := 114) hx hb dX8_isVoid_100 (by decide) (fun c3 => ?_) (fun c3 => ?_)
    · refine lv_iconst (v := 0) hx hb dX8_isVoid_114 (by decide) ?_
      exact W.zret (v := 0) hx hb hr (rfl) (fun t ht hW => ⟨0, rfl, (by subst hr1; unfold q_isVoid_2; rw [if_pos c2, if_neg c3]), ht⟩) (fun q hq => absurd hq List.not_mem_nil) dX8_isVoid_115
    · refine lv_dload_n hx hb dX8_isVoid_103 rfl (lv_at hl 2 rfl) ?_
      refine vp_callSi (W.runS (As := [.double b]) (rest := []) ⟨hx, hb, hml, hown, hts⟩ (c_isEndless l b) (va_cwS 1 hts gX8_isVoid_X8_isEndless rfl rfl rfl (by decide +kernel) ⟨Nat.le_of_ble_eq_true rfl, Nat.le_of_ble_eq_true rfl⟩) (preS_of okT (trivial)) rfl rfl hl.1 rfl (lv_room (Nat.le_of_ble_eq_true rfl)) dX8_isVoid_104 ⟨Nat.le_of_ble_eq_true rfl, Nat.le_of_ble_eq_true rfl⟩) (fun r4 hr4 => ?_)
      refine lv_if_eq (tgt := 114) hx hb dX8_isVoid_107 (by decide) (fun c5 => ?_) (fun c5 => ?_)
      · refine lv_iconst (v := 0) hx hb dX8_isVoid_114 (by decide) ?_
        exact W.zret (v := 0) hx hb hr (rfl) (fun t ht hW => ⟨0, rfl, (by subst hr4 hr1; unfold q_isVoid_2; rw [if_pos c2, if_pos c3, if_pos c5]), ht⟩) (fun q hq => absurd hq List.not_mem_nil) dX8_isVoid_115
      · refine lv_iconst (v := 1) hx hb dX8_isVoid_110 (by decide) ?_
        refine lv_goto (tgt := 115) hx hb dX8_isVoid_111 (by decide) ?_
        exact W.zret (v := 1) hx hb hr (rfl) (fun t ht hW => ⟨1, rfl, (by subst hr4 hr1; unfold q_isVoid_2; rw [if_pos c2, if_pos c3, if_neg c5]), ht⟩) (fun q hq => absurd hq List.not_mem_nil) dX8_isVoid_115
  · refine lv_dload_n hx hb dX8_isVoid_91 rfl (lv_at hl 2 rfl) ?_
    refine lv_dconst0 hx hb dX8_isVoid_92 ?_
    refine lv_dcmp hx hb dX8_isVoid_93 ?_
    refine lv_if_eq (tgt := 110) hx hb dX8_isVoid_94 (by decide) (fun c6 => ?_) (fun c6 => ?_)
    · refine lv_iconst (v := 1) hx hb dX8_isVoid_110 (by decide) ?_
      refine lv_goto (tgt := 115) hx hb dX8_isVoid_111 (by decide) ?_
      exact W.zret (v := 1) hx hb hr (rfl) (fun t ht hW => ⟨1, rfl, (by subst hr1; unfold q_isVoid_2; rw [if_neg c2, if_pos c6]), ht⟩) (fun q hq => absurd hq List.not_mem_nil) dX8_isVoid_115
    · refine lv_dload_n hx hb dX8_isVoid_97 rfl (lv_at hl 1 rfl) ?_
      refine lv_dconst0 hx hb dX8_isVoid_98 ?_
      refine lv_dcmp hx hb dX8_isVoid_99 ?_
      refine lv_if_ne (tgt := 114) hx hb dX8_isVoid_100 (by decide) (fun c7 => ?_) (fun c7 => ?_)
      · refine lv_iconst (v := 0) hx hb dX8_isVoid_114 (by decide) ?_
        exact W.zret (v := 0) hx hb hr (rfl) (fun t ht hW => ⟨0, rfl, (by subst hr1; unfold q_isVoid_2; rw [if_neg c2, if_neg c6, if_neg c7]), ht⟩) (fun q hq => absurd hq List.not_mem_nil) dX8_isVoid_115
      · refine lv_dload_n hx hb dX8_isVoid_103 rfl (lv_at hl 2 rfl) ?_
        refine vp_callSi (W.runS (As := [.double b]) (rest := []) ⟨hx, hb, hml, hown, hts⟩ (c_isEndless l b) (va_cwS 1 hts gX8_isVoid_X8_isEndless rfl rfl rfl (by decide +kernel) ⟨Nat.le_of_ble_eq_true rfl, Nat.le_of_ble_eq_true rfl⟩) (preS_of okT (trivial)) rfl rfl hl.1 rfl (lv_room (Nat.le_of_ble_eq_true rfl)) dX8_isVoid_104 ⟨Nat.le_of_ble_eq_true rfl, Nat.le_of_ble_eq_true rfl⟩) (fun r8 hr8 => ?_)
        refine lv_if_eq (tgt := 114) hx hb dX8_isVoid_107 (by decide) (fun c9 => ?_) (fun c9 => ?_)
        · refine lv_iconst (v := 0) hx hb dX8_isVoid_114 (by decide) ?_
          exact W.zret (v := 0) hx hb hr (rfl) (fun t ht hW => ⟨0, rfl, (by subst hr8 hr1; unfold q_isVoid_2; rw [if_neg c2, if_neg c6, if_pos c7, if_pos c9]), ht⟩) (fun q hq => absurd hq List.not_mem_nil) dX8_isVoid_115
        · refine lv_iconst (v := 1) hx hb dX8_isVoid_110 (by decide) ?_
          refine lv_goto (tgt := 115) hx hb dX8_isVoid_111 (by decide) ?_
          exact W.zret (v := 1) hx hb hr (rfl) (fun t ht hW => ⟨1, rfl, (by subst hr8 hr1; unfold q_isVoid_2; rw [if_neg c2, if_neg c6, if_pos c7, if_neg c9]), ht⟩) (fun q hq => absurd hq List.not_mem_nil) dX8_isVoid_115

def q_isVoid_3 (a b : UInt64) : Int32 := (if (q_isEndless a) = (0 : Int32) then (if (Op.cmpValue (FP.dcmp a FP.dconst0) CmpOp.l) = (0 : Int32) then (if (Op.cmpValue (FP.dcmp b FP.dconst0) CmpOp.l) = (0 : Int32) then 1 else 0) else 0) else (if (q_isEndless b) = (0 : Int32) then (if (Op.cmpValue (FP.dcmp a FP.dconst0) CmpOp.l) = (0 : Int32) then (if (Op.cmpValue (FP.dcmp b FP.dconst0) CmpOp.l) = (0 : Int32) then 1 else 0) else 0) else 1))
set_option maxHeartbeats 8000000 in
set_option maxRecDepth 100000 in
theorem c_isVoid_3 (l : Launch) (a b : UInt64)  : Met l yX8_isVoid wsX8_isVoid ({ frames := 1, cells := 0, slots := 0, locals := 23 }) (va_Pc [.int 3, .double a, .double b] (fun U => bT U U.heap)) (vp_Si (fun r : Int32 => r = q_isVoid_3 a b)) 0 0 (fun _ => False) := by
  refine Met.ofW (cc := cX8_isVoid) (maxL := 5) (ret := (some .boolean)) (by decide) rfl ?_
  intro p e s m args below meth c s₁ B hml hv
  obtain ⟨rfl, -⟩ := hv
  have hx := B.exec
  have hb := B.bytes
  have hr := B.returns
  have hts := atoms_spec (ws := wsX8_isVoid) B.pre
  have hown : s.vm.findClass RX8 = some m.cls := findClass_of_methodNamed B.named
  have hlocks := B.notSynchronized
  have hS : va_S (fun _ => False) s.heap s.heap [] := va_S.rf
  have hl := lv_entry ([.int 3, .double a, .double b]) (n := 5) (Nat.le_of_ble_eq_true rfl)
  rw [lg_entry_eq]
  generalize (lg_sl ([.int 3, .double a, .double b]) ++ List.replicate (5 - (lg_sl ([.int 3, .double a, .double b])).length) Slot.unset).toArray = ls at hl ⊢
  have hl : lv_has ls 5 [(0, .int 3), (1, .double a), (3, .double b)] := hl
  refine lv_iload_n hx hb dX8_isVoid_0 rfl (lv_at hl 0 rfl) ?_
  refine lv_tableIn (off := 115) (tgt := 116) hx hb dX8_isVoid_1 (by decide) (by decide) (by decide) (by decide) ?_
  refine lv_dload_n hx hb dX8_isVoid_116 rfl (lv_at hl 1 rfl) ?_
  refine vp_callSi (W.runS (As := [.double a]) (rest := []) ⟨hx, hb, hml, hown, hts⟩ (c_isEndless l a) (va_cwS 1 hts gX8_isVoid_X8_isEndless rfl rfl rfl (by decide +kernel) ⟨Nat.le_of_ble_eq_true rfl, Nat.le_of_ble_eq_true rfl⟩) (preS_of okT (trivial)) rfl rfl hl.1 rfl (lv_room (Nat.le_of_ble_eq_true rfl)) dX8_isVoid_117 ⟨Nat.le_of_ble_eq_true rfl, Nat.le_of_ble_eq_true rfl⟩) (fun r1 hr1 => ?_)
  refine lv_if_eq (tgt := 130) hx hb dX8_isVoid_120 (by decide) (fun c2 => ?_) (fun c2 => ?_)
  · refine lv_dload_n hx hb dX8_isVoid_130 rfl (lv_at hl 1 rfl) ?_
    refine lv_dconst0 hx hb dX8_isVoid_131 ?_
    refine lv_dcmp hx hb dX8_isVoid_132 ?_
    refine lv_if_ne (tgt := 146) hx hb dX8_isVoid_133 (by decide) (fun c3 => ?_) (fun c3 => ?_)
    · refine lv_iconst (v := 0) hx hb dX8_isVoid_146 (by decide) ?_
      exact W.zret (v := 0) hx hb hr (rfl) (fun t ht hW => ⟨0, rfl, (by subst hr1; unfold q_isVoid_3; rw [if_pos c2, if_neg c3]), ht⟩) (fun q hq => absurd hq List.not_mem_nil) dX8_isVoid_147
    · refine lv_dload_n hx hb dX8_isVoid_136 rfl (lv_at hl 2 rfl) ?_
      refine lv_dconst0 hx hb dX8_isVoid_137 ?_
      refine lv_dcmp hx hb dX8_isVoid_138 ?_
      refine lv_if_ne (tgt := 146) hx hb dX8_isVoid_139 (by decide) (fun c4 => ?_) (fun c4 => ?_)
      · refine lv_iconst (v := 0) hx hb dX8_isVoid_146 (by decide) ?_
        exact W.zret (v := 0) hx hb hr (rfl) (fun t ht hW => ⟨0, rfl, (by subst hr1; unfold q_isVoid_3; rw [if_pos c2, if_pos c3, if_neg c4]), ht⟩) (fun q hq => absurd hq List.not_mem_nil) dX8_isVoid_147
      · refine lv_iconst (v := 1) hx hb dX8_isVoid_142 (by decide) ?_
        refine lv_goto (tgt := 147) hx hb dX8_isVoid_143 (by decide) ?_
        exact W.zret (v := 1) hx hb hr (rfl) (fun t ht hW => ⟨1, rfl, (by subst hr1; unfold q_isVoid_3; rw [if_pos c2, if_pos c3, if_pos c4]), ht⟩) (fun q hq => absurd hq List.not_mem_nil) dX8_isVoid_147
  · refine lv_dload_n hx hb dX8_isVoid_123 rfl (lv_at hl 2 rfl) ?_
    refine vp_callSi (W.runS (As := [.double b]) (rest := []) ⟨hx, hb, hml, hown, hts⟩ (c_isEndless l b) (va_cwS 1 hts gX8_isVoid_X8_isEndless rfl rfl rfl (by decide +kernel) ⟨Nat.le_of_ble_eq_true rfl, Nat.le_of_ble_eq_true rfl⟩) (preS_of okT (trivial)) rfl rfl hl.1 rfl (lv_room (Nat.le_of_ble_eq_true rfl)) dX8_isVoid_124 ⟨Nat.le_of_ble_eq_true rfl, Nat.le_of_ble_eq_true rfl⟩) (fun r5 hr5 => ?_)
    refine lv_if_ne (tgt := 142) hx hb dX8_isVoid_127 (by decide) (fun c6 => ?_) (fun c6 => ?_)
    · refine lv_iconst (v := 1) hx hb dX8_isVoid_142 (by decide) ?_
      refine lv_goto (tgt := 147) hx hb dX8_isVoid_143 (by decide) ?_
      exact W.zret (v := 1) hx hb hr (rfl) (fun t ht hW => ⟨1, rfl, (by subst hr5 hr1; unfold q_isVoid_3; rw [if_neg c2, if_neg c6]), ht⟩) (fun q hq => absurd hq List.not_mem_nil) dX8_isVoid_147
    · refine lv_dload_n hx hb dX8_isVoid_130 rfl (lv_at hl 1 rfl) ?_
      refine lv_dconst0 hx hb dX8_isVoid_131 ?_
      refine lv_dcmp hx hb dX8_isVoid_132 ?_
      refine lv_if_ne (tgt := 146) hx hb dX8_isVoid_133 (by decide) (fun c7 => ?_) (fun c7 => ?_)
      · refine lv_iconst (v := 0) hx hb dX8_isVoid_146 (by decide) ?_
        exact W.zret (v := 0) hx hb hr (rfl) (fun t ht hW => ⟨0, rfl, (by subst hr5 hr1; unfold q_isVoid_3; rw [if_neg c2, if_pos c6, if_neg c7]), ht⟩) (fun q hq => absurd hq List.not_mem_nil) dX8_isVoid_147
      · refine lv_dload_n hx hb dX8_isVoid_136 rfl (lv_at hl 2 rfl) ?_
        refine lv_dconst0 hx hb dX8_isVoid_137 ?_
        refine lv_dcmp hx hb dX8_isVoid_138 ?_
        refine lv_if_ne (tgt := 146) hx hb dX8_isVoid_139 (by decide) (fun c8 => ?_) (fun c8 => ?_)
        · refine lv_iconst (v := 0) hx hb dX8_isVoid_146 (by decide) ?_
          exact W.zret (v := 0) hx hb hr (rfl) (fun t ht hW => ⟨0, rfl, (by subst hr5 hr1; unfold q_isVoid_3; rw [if_neg c2, if_pos c6, if_pos c7, if_neg c8]), ht⟩) (fun q hq => absurd hq List.not_mem_nil) dX8_isVoid_147
        · refine lv_iconst (v := 1) hx hb dX8_isVoid_142 (by decide) ?_
          refine lv_goto (tgt := 147) hx hb dX8_isVoid_143 (by decide) ?_
          exact W.zret (v := 1) hx hb hr (rfl) (fun t ht hW => ⟨1, rfl, (by subst hr5 hr1; unfold q_isVoid_3; rw [if_neg c2, if_pos c6, if_pos c7, if_pos c8]), ht⟩) (fun q hq => absurd hq List.not_mem_nil) dX8_isVoid_147

def q_isVoid_4 (a b : UInt64) : Int32 := (if (q_isEndless a) = (0 : Int32) then (if (Op.cmpValue (FP.dcmp b FP.dconst0) CmpOp.l) = (0 : Int32) then 1 else 0) else 1)
set_option maxHeartbeats 8000000 in
set_option maxRecDepth 100000 in
theorem c_isVoid_4 (l : Launch) (a b : UInt64)  : Met l yX8_isVoid wsX8_isVoid ({ frames := 1, cells := 0, slots := 0, locals := 23 }) (va_Pc [.int 4, .double a, .double b] (fun U => bT U U.heap)) (vp_Si (fun r : Int32 => r = q_isVoid_4 a b)) 0 0 (fun _ => False) := by
  refine Met.ofW (cc := cX8_isVoid) (maxL := 5) (ret := (some .boolean)) (by decide) rfl ?_
  intro p e s m args below meth c s₁ B hml hv
  obtain ⟨rfl, -⟩ := hv
  have hx := B.exec
  have hb := B.bytes
  have hr := B.returns
  have hts := atoms_spec (ws := wsX8_isVoid) B.pre
  have hown : s.vm.findClass RX8 = some m.cls := findClass_of_methodNamed B.named
  have hlocks := B.notSynchronized
  have hS : va_S (fun _ => False) s.heap s.heap [] := va_S.rf
  have hl := lv_entry ([.int 4, .double a, .double b]) (n := 5) (Nat.le_of_ble_eq_true rfl)
  rw [lg_entry_eq]
  generalize (lg_sl ([.int 4, .double a, .double b]) ++ List.replicate (5 - (lg_sl ([.int 4, .double a, .double b])).length) Slot.unset).toArray = ls at hl ⊢
  have hl : lv_has ls 5 [(0, .int 4), (1, .double a), (3, .double b)] := hl
  refine lv_iload_n hx hb dX8_isVoid_0 rfl (lv_at hl 0 rfl) ?_
  refine lv_tableOut (tgt := 148) hx hb dX8_isVoid_1 (by decide) (by decide) ?_
  refine lv_dload_n hx hb dX8_isVoid_148 rfl (lv_at hl 1 rfl) ?_
  refine vp_callSi (W.runS (As := [.double a]) (rest := []) ⟨hx, hb, hml, hown, hts⟩ (c_isEndless l a) (va_cwS 1 hts gX8_isVoid_X8_isEndless rfl rfl rfl (by decide +kernel) ⟨Nat.le_of_ble_eq_true rfl, Nat.le_of_ble_eq_true rfl⟩) (preS_of okT (trivial)) rfl rfl hl.1 rfl (lv_room (Nat.le_of_ble_eq_true rfl)) dX8_isVoid_149 ⟨Nat.le_of_ble_eq_true rfl, Nat.le_of_ble_eq_true rfl⟩) (fun r1 hr1 => ?_)
  refine lv_if_ne (tgt := 161) hx hb dX8_isVoid_152 (by decide) (fun c2 => ?_) (fun c2 => ?_)
  · refine lv_iconst (v := 1) hx hb dX8_isVoid_161 (by decide) ?_
    refine lv_goto (tgt := 166) hx hb dX8_isVoid_162 (by decide) ?_
    exact W.zret (v := 1) hx hb hr (rfl) (fun t ht hW => ⟨1, rfl, (by subst hr1; unfold q_isVoid_4; rw [if_neg c2]), ht⟩) (fun q hq => absurd hq List.not_mem_nil) dX8_isVoid_166
  · refine lv_dload_n hx hb dX8_isVoid_155 rfl (lv_at hl 2 rfl) ?_
    refine lv_dconst0 hx hb dX8_isVoid_156 ?_
    refine lv_dcmp hx hb dX8_isVoid_157 ?_
    refine lv_if_ne (tgt := 165) hx hb dX8_isVoid_158 (by decide) (fun c3 => ?_) (fun c3 => ?_)
    · refine lv_iconst (v := 0) hx hb dX8_isVoid_165 (by decide) ?_
      exact W.zret (v := 0) hx hb hr (rfl) (fun t ht hW => ⟨0, rfl, (by subst hr1; unfold q_isVoid_4; rw [if_pos c2, if_neg c3]), ht⟩) (fun q hq => absurd hq List.not_mem_nil) dX8_isVoid_166
    · refine lv_iconst (v := 1) hx hb dX8_isVoid_161 (by decide) ?_
      refine lv_goto (tgt := 166) hx hb dX8_isVoid_162 (by decide) ?_
      exact W.zret (v := 1) hx hb hr (rfl) (fun t ht hW => ⟨1, rfl, (by subst hr1; unfold q_isVoid_4; rw [if_pos c2, if_pos c3]), ht⟩) (fun q hq => absurd hq List.not_mem_nil) dX8_isVoid_166
