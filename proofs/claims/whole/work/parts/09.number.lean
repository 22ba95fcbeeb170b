set_option maxHeartbeats 8000000 in
set_option maxRecDepth 100000 in
theorem c_numberOf_1 (l : Launch) (ad : Nat → Nat) (n : Nat) (hn : n < 2 ^ 64) (hnum : n % 2 ^ 63 ≤ 9218868437227405312)  : Met l yX2_numberOf wsX2_numberOf ({ frames := 2, cells := 0, slots := 0, locals := 46 }) (va_Pc [.ref (ad 1), .long (lN n)] (fun U => bE ad U U.heap)) (vp_Sd (fun r : UInt64 => r = UInt64.ofNat n)) 0 0 (fun _ => False) := by
  refine Met.ofW (cc := cX2_numberOf) (maxL := 7) (ret := (some .double)) (by decide) rfl ?_
  intro p e s m args below meth c s₁ B hml hv
  obtain ⟨rfl, hE, hN⟩ := hv
  have hx := B.exec
  have hb := B.bytes
  have hr := B.returns
  have hts := atoms_spec (ws := wsX2_numberOf) B.pre
  have hown : s.vm.findClass RX2 = some m.cls := findClass_of_methodNamed B.named
  have hlocks := B.notSynchronized
  have hS : va_S (fun _ => False) s.heap s.heap [] := va_S.rf
  have hk : n % 2 ^ 63 < 2 ^ 63 := Nat.mod_lt _ (by decide)
  have hl := lv_entry ([.ref (ad 1), .long (lN n)]) (n := 7) (Nat.le_of_ble_eq_true rfl)
  rw [lg_entry_eq]
  generalize (lg_sl ([.ref (ad 1), .long (lN n)]) ++ List.replicate (7 - (lg_sl ([.ref (ad 1), .long (lN n)])).length) Slot.unset).toArray = ls at hl ⊢
  have hl : lv_has ls 7 [(0, .ref (ad 1)), (1, .long (lN n))] := hl
  refine lv_aload_n hx hb dX2_numberOf_0 rfl (lv_at hl 0 rfl) ?_
  refine lv_lload_n hx hb dX2_numberOf_1 rfl (lv_at hl 1 rfl) ?_
  refine vp_callSl (W.runV (As := [.long (lN n)]) (rest := []) ⟨hx, hb, hml, hown, hts⟩ (c_sizeIn_1 l ad (lN n)) (cwV 1 hts gX2_numberOf_X2_sizeIn rfl rfl rfl (by decide +kernel) ⟨Nat.le_of_ble_eq_true rfl, Nat.le_of_ble_eq_true rfl⟩) (preV_of okE (⟨hE, hN⟩) (va_recvE hE (by decide) hS)) rfl rfl hl.1 rfl (lv_room (Nat.le_of_ble_eq_true rfl)) dX2_numberOf_2 ⟨Nat.le_of_ble_eq_true rfl, Nat.le_of_ble_eq_true rfl⟩) (fun r1 hr1 => ?_)
  rw [sizeIn1 hn] at hr1
  subst hr1
  refine lv_lstore_n (lv' := [(3, .long (lN (n % 2 ^ 63))), (0, .ref (ad 1)), (1, .long (lN n))]) hx hb dX2_numberOf_5 rfl hl (by decide) rfl (fun ls hl => ?_)
  refine lv_lload_n hx hb dX2_numberOf_6 rfl (lv_at hl 0 rfl) ?_
  refine lv_aload_n hx hb dX2_numberOf_7 rfl (lv_at hl 1 rfl) ?_
  refine vp_callSl (W.runV (As := []) (rest := [.long (lN (n % 2 ^ 63))]) ⟨hx, hb, hml, hown, hts⟩ (c_endlessSize_1 l ad ) (cwV 0 hts gX2_numberOf_X2_endlessSize rfl rfl rfl (by decide +kernel) ⟨Nat.le_of_ble_eq_true rfl, Nat.le_of_ble_eq_true rfl⟩) (preV_of okE (⟨hE, hN⟩) (va_recvE hE (by decide) hS)) rfl rfl hl.1 rfl (lv_room (Nat.le_of_ble_eq_true rfl)) dX2_numberOf_8 ⟨Nat.le_of_ble_eq_true rfl, Nat.le_of_ble_eq_true rfl⟩) (fun r2 hr2 => ?_)
  rw [ends1] at hr2
  subst hr2
  refine W.lcmp hx hb dX2_numberOf_11 ?_
  refine lv_if_ne (tgt := 21) hx hb dX2_numberOf_12 (by decide) (fun c3 => ?_) (fun c3 => ?_)
  · have hfin : n % 2 ^ 63 < 9218868437227405312 := by have hc := c3; rw [lg_cmp_eq, pk_lEQ (by omega) (by decide)] at hc; omega
    refine lv_aload_n hx hb dX2_numberOf_21 rfl (lv_at hl 1 rfl) ?_
    refine lv_lload_n hx hb dX2_numberOf_22 rfl (lv_at hl 0 rfl) ?_
    refine vp_callSl (W.runV (As := [.long (lN (n % 2 ^ 63))]) (rest := []) ⟨hx, hb, hml, hown, hts⟩ (c_stepsOf_1 l ad (lN (n % 2 ^ 63))) (cwV 1 hts gX2_numberOf_X2_stepsOf rfl rfl rfl (by decide +kernel) ⟨Nat.le_of_ble_eq_true rfl, Nat.le_of_ble_eq_true rfl⟩) (preV_of okE (⟨hE, hN⟩) (va_recvE hE (by decide) hS)) rfl rfl hl.1 rfl (lv_room (Nat.le_of_ble_eq_true rfl)) dX2_numberOf_23 ⟨Nat.le_of_ble_eq_true rfl, Nat.le_of_ble_eq_true rfl⟩) (fun r4 hr4 => ?_)
    rw [steps1 (by omega)] at hr4
    subst hr4
    refine lv_l2d hx hb dX2_numberOf_26 ?_
    refine lv_topd (fun v5 ev5 => ?_)
    refine lv_aload_n hx hb dX2_numberOf_27 rfl (lv_at hl 1 rfl) ?_
    refine lv_lload_n hx hb dX2_numberOf_28 rfl (lv_at hl 0 rfl) ?_
    refine vp_callSi (W.runV (As := [.long (lN (n % 2 ^ 63))]) (rest := [.double v5]) ⟨hx, hb, hml, hown, hts⟩ (c_powerOf_1 l ad (lN (n % 2 ^ 63))) (cwV 1 hts gX2_numberOf_X2_powerOf rfl rfl rfl (by decide +kernel) ⟨Nat.le_of_ble_eq_true rfl, Nat.le_of_ble_eq_true rfl⟩) (preV_of okE (⟨hE, hN⟩) (va_recvE hE (by decide) hS)) rfl rfl hl.1 rfl (lv_room (Nat.le_of_ble_eq_true rfl)) dX2_numberOf_29 ⟨Nat.le_of_ble_eq_true rfl, Nat.le_of_ble_eq_true rfl⟩) (fun r6 hr6 => ?_)
    refine vp_callSd (cr_of (va_runSN (As := [.int r6]) (rest := [.double v5]) ⟨hx, hb, hml, hown, hts⟩ (c_powerOfTwo l r6 ((pwr 52 (n % 2 ^ 63) : Int) - 1074) (by rw [hr6]; exact pow1 (by omega)) (by omega) (by have := pwr1_le hfin; omega)) (⟨va_cnB 1 hts gX2_numberOf_X8_powerOfTwo_n65 rfl rfl rfl hN.1 (hts (.initialized RX8) (by decide +kernel)) (by decide +kernel) ⟨Nat.le_of_ble_eq_true rfl, Nat.le_of_ble_eq_true rfl⟩, hts (.static yX8_powerOfTwo) (by decide +kernel), trivial⟩) (preS_of okT (trivial)) rfl rfl hl.1 rfl (lv_room (Nat.le_of_ble_eq_true rfl)) dX2_numberOf_32 ⟨Nat.le_of_ble_eq_true rfl, Nat.le_of_ble_eq_true rfl⟩)) (fun r7 hr7 => ?_)
    have hp := hr7
    refine lv_dmul hx hb dX2_numberOf_35 (n64.mpr (by rw [ev5, num1_mul hfin hp]; exact (Pz.nat hfin).ne)) ?_
    refine lv_topd (fun v8 ev8 => ?_)
    refine lv_dstore (lv' := [(5, .double v8), (3, .long (lN (n % 2 ^ 63))), (0, .ref (ad 1)), (1, .long (lN n))]) hx hb dX2_numberOf_36 hl (by decide) rfl (fun ls hl => ?_)
    refine lv_lload_n hx hb dX2_numberOf_38 rfl (lv_at hl 3 rfl) ?_
    refine lv_aload_n hx hb dX2_numberOf_39 rfl (lv_at hl 2 rfl) ?_
    refine va_getE (i := 1) (q := eF[3]) hx hb hE (by decide) hS hown (List.getElem_mem _) (hts (.fieldLink RX2 39 "RopeDrums$Form" "sign" "I") (by decide +kernel)) (fun _ h9 => h9) dX2_numberOf_40 ?_
    refine W.eq (g2 := F0 m 43 ls [.int 63, .long (lN n)]) rfl ?_
    refine lv_lushr hx hb dX2_numberOf_43 rfl ?_
    refine lv_topl (fun v9 ev9 => ?_)
    refine lv_lconst (v := 1) hx hb dX2_numberOf_44 (by decide) ?_
    refine lv_land hx hb dX2_numberOf_45 ?_
    refine lv_topl (fun v10 ev10 => ?_)
    refine lv_lconst (v := 0) hx hb dX2_numberOf_46 (by decide) ?_
    refine W.lcmp hx hb dX2_numberOf_47 ?_
    refine lv_if_eq (tgt := 57) hx hb dX2_numberOf_48 (by decide) (fun c11 => ?_) (fun c11 => ?_)
    · refine lv_dload hx hb dX2_numberOf_57 (lv_at hl 0 rfl) ?_
      exact W.dret (v := v8) hx hb hr (fun t ht hW => ⟨v8, rfl, (by have hb := c11; rw [ev10, ev9, sg1 hn, lz (Nat.mod_lt _ (by decide))] at hb; rw [ev8, ev5, num1_mul hfin hp]; exact sgA1 hn rfl hb), ht⟩) (fun q hq => absurd hq List.not_mem_nil) dX2_numberOf_59
    · refine lv_dload hx hb dX2_numberOf_51 (lv_at hl 0 rfl) ?_
      refine lv_dneg hx hb dX2_numberOf_53 ?_
      refine lv_topd (fun v12 ev12 => ?_)
      refine lv_goto (tgt := 59) hx hb dX2_numberOf_54 (by decide) ?_
      exact W.dret (v := v12) hx hb hr (fun t ht hW => ⟨v12, rfl, (by have hb := c11; rw [ev10, ev9, sg1 hn, lz (Nat.mod_lt _ (by decide))] at hb; rw [ev12]; rw [ev8, ev5, num1_mul hfin hp]; exact sgB1 hn rfl hb), ht⟩) (fun q hq => absurd hq List.not_mem_nil) dX2_numberOf_59
  · refine lv_ldc2d hx hb hown (hts (.constantDouble RX2 56 (9218868437227405312)) (by decide +kernel)) dX2_numberOf_15 ?_
    refine lv_goto (tgt := 36) hx hb dX2_numberOf_18 (by decide) ?_
    refine lv_dstore (lv' := [(5, .double 9218868437227405312), (3, .long (lN (n % 2 ^ 63))), (0, .ref (ad 1)), (1, .long (lN n))]) hx hb dX2_numberOf_36 hl (by decide) rfl (fun ls hl => ?_)
    refine lv_lload_n hx hb dX2_numberOf_38 rfl (lv_at hl 3 rfl) ?_
    refine lv_aload_n hx hb dX2_numberOf_39 rfl (lv_at hl 2 rfl) ?_
    refine va_getE (i := 1) (q := eF[3]) hx hb hE (by decide) hS hown (List.getElem_mem _) (hts (.fieldLink RX2 39 "RopeDrums$Form" "sign" "I") (by decide +kernel)) (fun _ h9 => h9) dX2_numberOf_40 ?_
    refine W.eq (g2 := F0 m 43 ls [.int 63, .long (lN n)]) rfl ?_
    refine lv_lushr hx hb dX2_numberOf_43 rfl ?_
    refine lv_topl (fun v13 ev13 => ?_)
    refine lv_lconst (v := 1) hx hb dX2_numberOf_44 (by decide) ?_
    refine lv_land hx hb dX2_numberOf_45 ?_
    refine lv_topl (fun v14 ev14 => ?_)
    refine lv_lconst (v := 0) hx hb dX2_numberOf_46 (by decide) ?_
    refine W.lcmp hx hb dX2_numberOf_47 ?_
    refine lv_if_eq (tgt := 57) hx hb dX2_numberOf_48 (by decide) (fun c15 => ?_) (fun c15 => ?_)
    · refine lv_dload hx hb dX2_numberOf_57 (lv_at hl 0 rfl) ?_
      exact W.dret (v := 9218868437227405312) hx hb hr (fun t ht hW => ⟨9218868437227405312, rfl, (by have hb := c15; rw [ev14, ev13, sg1 hn, lz (Nat.mod_lt _ (by decide))] at hb; have hc := c3; rw [lg_cmp_eq, pk_lEQ (by omega) (by decide)] at hc; exact sgA1 hn hc hb), ht⟩) (fun q hq => absurd hq List.not_mem_nil) dX2_numberOf_59
    · refine lv_dload hx hb dX2_numberOf_51 (lv_at hl 0 rfl) ?_
      refine lv_dneg hx hb dX2_numberOf_53 ?_
      refine lv_topd (fun v16 ev16 => ?_)
      refine lv_goto (tgt := 59) hx hb dX2_numberOf_54 (by decide) ?_
      exact W.dret (v := v16) hx hb hr (fun t ht hW => ⟨v16, rfl, (by have hb := c15; rw [ev14, ev13, sg1 hn, lz (Nat.mod_lt _ (by decide))] at hb; rw [ev16]; have hc := c3; rw [lg_cmp_eq, pk_lEQ (by omega) (by decide)] at hc; exact sgB1 hn hc hb), ht⟩) (fun q hq => absurd hq List.not_mem_nil) dX2_numberOf_59

set_option maxHeartbeats 8000000 in
set_option maxRecDepth 100000 in
theorem c_numberOf_0 (l : Launch) (ad : Nat → Nat) (n : Nat) (hn : n < 2 ^ 64) (hnum : n % 2 ^ 31 ≤ 2139095040)  : Met l yX2_numberOf wsX2_numberOf ({ frames := 2, cells := 0, slots := 0, locals := 46 }) (va_Pc [.ref (ad 0), .long (lN n)] (fun U => bE ad U U.heap)) (vp_Sd (fun r : UInt64 => r = FP.f2d (UInt32.ofNat (n % 2 ^ 32)))) 0 0 (fun _ => False) := by
  refine Met.ofW (cc := cX2_numberOf) (maxL := 7) (ret := (some .double)) (by decide) rfl ?_
  intro p e s m args below meth c s₁ B hml hv
  obtain ⟨rfl, hE, hN⟩ := hv
  have hx := B.exec
  have hb := B.bytes
  have hr := B.returns
  have hts := atoms_spec (ws := wsX2_numberOf) B.pre
  have hown : s.vm.findClass RX2 = some m.cls := findClass_of_methodNamed B.named
  have hlocks := B.notSynchronized
  have hS : va_S (fun _ => False) s.heap s.heap [] := va_S.rf
  have hk : n % 2 ^ 31 < 2 ^ 31 := Nat.mod_lt _ (by decide)
  have hl := lv_entry ([.ref (ad 0), .long (lN n)]) (n := 7) (Nat.le_of_ble_eq_true rfl)
  rw [lg_entry_eq]
  generalize (lg_sl ([.ref (ad 0), .long (lN n)]) ++ List.replicate (7 - (lg_sl ([.ref (ad 0), .long (lN n)])).length) Slot.unset).toArray = ls at hl ⊢
  have hl : lv_has ls 7 [(0, .ref (ad 0)), (1, .long (lN n))] := hl
  refine lv_aload_n hx hb dX2_numberOf_0 rfl (lv_at hl 0 rfl) ?_
  refine lv_lload_n hx hb dX2_numberOf_1 rfl (lv_at hl 1 rfl) ?_
  refine vp_callSl (W.runV (As := [.long (lN n)]) (rest := []) ⟨hx, hb, hml, hown, hts⟩ (c_sizeIn_0 l ad (lN n)) (cwV 1 hts gX2_numberOf_X2_sizeIn rfl rfl rfl (by decide +kernel) ⟨Nat.le_of_ble_eq_true rfl, Nat.le_of_ble_eq_true rfl⟩) (preV_of okE (⟨hE, hN⟩) (va_recvE hE (by decide) hS)) rfl rfl hl.1 rfl (lv_room (Nat.le_of_ble_eq_true rfl)) dX2_numberOf_2 ⟨Nat.le_of_ble_eq_true rfl, Nat.le_of_ble_eq_true rfl⟩) (fun r1 hr1 => ?_)
  rw [sizeIn0 hn] at hr1
  subst hr1
  refine lv_lstore_n (lv' := [(3, .long (lN (n % 2 ^ 31))), (0, .ref (ad 0)), (1, .long (lN n))]) hx hb dX2_numberOf_5 rfl hl (by decide) rfl (fun ls hl => ?_)
  refine lv_lload_n hx hb dX2_numberOf_6 rfl (lv_at hl 0 rfl) ?_
  refine lv_aload_n hx hb dX2_numberOf_7 rfl (lv_at hl 1 rfl) ?_
  refine vp_callSl (W.runV (As := []) (rest := [.long (lN (n % 2 ^ 31))]) ⟨hx, hb, hml, hown, hts⟩ (c_endlessSize_0 l ad ) (cwV 0 hts gX2_numberOf_X2_endlessSize rfl rfl rfl (by decide +kernel) ⟨Nat.le_of_ble_eq_true rfl, Nat.le_of_ble_eq_true rfl⟩) (preV_of okE (⟨hE, hN⟩) (va_recvE hE (by decide) hS)) rfl rfl hl.1 rfl (lv_room (Nat.le_of_ble_eq_true rfl)) dX2_numberOf_8 ⟨Nat.le_of_ble_eq_true rfl, Nat.le_of_ble_eq_true rfl⟩) (fun r2 hr2 => ?_)
  rw [ends0] at hr2
  subst hr2
  refine W.lcmp hx hb dX2_numberOf_11 ?_
  refine lv_if_ne (tgt := 21) hx hb dX2_numberOf_12 (by decide) (fun c3 => ?_) (fun c3 => ?_)
  · have hfin : n % 2 ^ 31 < 2139095040 := by have hc := c3; rw [lg_cmp_eq, pk_lEQ (by omega) (by decide)] at hc; omega
    refine lv_aload_n hx hb dX2_numberOf_21 rfl (lv_at hl 1 rfl) ?_
    refine lv_lload_n hx hb dX2_numberOf_22 rfl (lv_at hl 0 rfl) ?_
    refine vp_callSl (W.runV (As := [.long (lN (n % 2 ^ 31))]) (rest := []) ⟨hx, hb, hml, hown, hts⟩ (c_stepsOf_0 l ad (lN (n % 2 ^ 31))) (cwV 1 hts gX2_numberOf_X2_stepsOf rfl rfl rfl (by decide +kernel) ⟨Nat.le_of_ble_eq_true rfl, Nat.le_of_ble_eq_true rfl⟩) (preV_of okE (⟨hE, hN⟩) (va_recvE hE (by decide) hS)) rfl rfl hl.1 rfl (lv_room (Nat.le_of_ble_eq_true rfl)) dX2_numberOf_23 ⟨Nat.le_of_ble_eq_true rfl, Nat.le_of_ble_eq_true rfl⟩) (fun r4 hr4 => ?_)
    rw [steps0 (by omega)] at hr4
    subst hr4
    refine lv_l2d hx hb dX2_numberOf_26 ?_
    refine lv_topd (fun v5 ev5 => ?_)
    refine lv_aload_n hx hb dX2_numberOf_27 rfl (lv_at hl 1 rfl) ?_
    refine lv_lload_n hx hb dX2_numberOf_28 rfl (lv_at hl 0 rfl) ?_
    refine vp_callSi (W.runV (As := [.long (lN (n % 2 ^ 31))]) (rest := [.double v5]) ⟨hx, hb, hml, hown, hts⟩ (c_powerOf_0 l ad (lN (n % 2 ^ 31))) (cwV 1 hts gX2_numberOf_X2_powerOf rfl rfl rfl (by decide +kernel) ⟨Nat.le_of_ble_eq_true rfl, Nat.le_of_ble_eq_true rfl⟩) (preV_of okE (⟨hE, hN⟩) (va_recvE hE (by decide) hS)) rfl rfl hl.1 rfl (lv_room (Nat.le_of_ble_eq_true rfl)) dX2_numberOf_29 ⟨Nat.le_of_ble_eq_true rfl, Nat.le_of_ble_eq_true rfl⟩) (fun r6 hr6 => ?_)
    refine vp_callSd (cr_of (va_runSN (As := [.int r6]) (rest := [.double v5]) ⟨hx, hb, hml, hown, hts⟩ (c_powerOfTwo l r6 ((pwr 23 (n % 2 ^ 31) : Int) - 149) (by rw [hr6]; exact pow0 (by omega)) (by omega) (by have := pwr0_le hfin; omega)) (⟨va_cnB 1 hts gX2_numberOf_X8_powerOfTwo_n65 rfl rfl rfl hN.1 (hts (.initialized RX8) (by decide +kernel)) (by decide +kernel) ⟨Nat.le_of_ble_eq_true rfl, Nat.le_of_ble_eq_true rfl⟩, hts (.static yX8_powerOfTwo) (by decide +kernel), trivial⟩) (preS_of okT (trivial)) rfl rfl hl.1 rfl (lv_room (Nat.le_of_ble_eq_true rfl)) dX2_numberOf_32 ⟨Nat.le_of_ble_eq_true rfl, Nat.le_of_ble_eq_true rfl⟩)) (fun r7 hr7 => ?_)
    have hp := hr7
    refine lv_dmul hx hb dX2_numberOf_35 (n64.mpr (by rw [ev5, num0_mul hfin hp]; exact (f2d_ok (nn0 hnum)).2)) ?_
    refine lv_topd (fun v8 ev8 => ?_)
    refine lv_dstore (lv' := [(5, .double v8), (3, .long (lN (n % 2 ^ 31))), (0, .ref (ad 0)), (1, .long (lN n))]) hx hb dX2_numberOf_36 hl (by decide) rfl (fun ls hl => ?_)
    refine lv_lload_n hx hb dX2_numberOf_38 rfl (lv_at hl 3 rfl) ?_
    refine lv_aload_n hx hb dX2_numberOf_39 rfl (lv_at hl 2 rfl) ?_
    refine va_getE (i := 0) (q := eF[3]) hx hb hE (by decide) hS hown (List.getElem_mem _) (hts (.fieldLink RX2 39 "RopeDrums$Form" "sign" "I") (by decide +kernel)) (fun _ h9 => h9) dX2_numberOf_40 ?_
    refine W.eq (g2 := F0 m 43 ls [.int 31, .long (lN n)]) rfl ?_
    refine lv_lushr hx hb dX2_numberOf_43 rfl ?_
    refine lv_topl (fun v9 ev9 => ?_)
    refine lv_lconst (v := 1) hx hb dX2_numberOf_44 (by decide) ?_
    refine lv_land hx hb dX2_numberOf_45 ?_
    refine lv_topl (fun v10 ev10 => ?_)
    refine lv_lconst (v := 0) hx hb dX2_numberOf_46 (by decide) ?_
    refine W.lcmp hx hb dX2_numberOf_47 ?_
    refine lv_if_eq (tgt := 57) hx hb dX2_numberOf_48 (by decide) (fun c11 => ?_) (fun c11 => ?_)
    · refine lv_dload hx hb dX2_numberOf_57 (lv_at hl 0 rfl) ?_
      exact W.dret (v := v8) hx hb hr (fun t ht hW => ⟨v8, rfl, (by have hb := c11; rw [ev10, ev9, sg0 hn, lz (Nat.mod_lt _ (by decide))] at hb; rw [ev8, ev5, num0_mul hfin hp]; exact sgA0 rfl hb), ht⟩) (fun q hq => absurd hq List.not_mem_nil) dX2_numberOf_59
    · refine lv_dload hx hb dX2_numberOf_51 (lv_at hl 0 rfl) ?_
      refine lv_dneg hx hb dX2_numberOf_53 ?_
      refine lv_topd (fun v12 ev12 => ?_)
      refine lv_goto (tgt := 59) hx hb dX2_numberOf_54 (by decide) ?_
      exact W.dret (v := v12) hx hb hr (fun t ht hW => ⟨v12, rfl, (by have hb := c11; rw [ev10, ev9, sg0 hn, lz (Nat.mod_lt _ (by decide))] at hb; rw [ev12]; rw [ev8, ev5, num0_mul hfin hp]; exact sgB0 rfl hnum hb), ht⟩) (fun q hq => absurd hq List.not_mem_nil) dX2_numberOf_59
  · refine lv_ldc2d hx hb hown (hts (.constantDouble RX2 56 (9218868437227405312)) (by decide +kernel)) dX2_numberOf_15 ?_
    refine lv_goto (tgt := 36) hx hb dX2_numberOf_18 (by decide) ?_
    refine lv_dstore (lv' := [(5, .double 9218868437227405312), (3, .long (lN (n % 2 ^ 31))), (0, .ref (ad 0)), (1, .long (lN n))]) hx hb dX2_numberOf_36 hl (by decide) rfl (fun ls hl => ?_)
    refine lv_lload_n hx hb dX2_numberOf_38 rfl (lv_at hl 3 rfl) ?_
    refine lv_aload_n hx hb dX2_numberOf_39 rfl (lv_at hl 2 rfl) ?_
    refine va_getE (i := 0) (q := eF[3]) hx hb hE (by decide) hS hown (List.getElem_mem _) (hts (.fieldLink RX2 39 "RopeDrums$Form" "sign" "I") (by decide +kernel)) (fun _ h9 => h9) dX2_numberOf_40 ?_
    refine W.eq (g2 := F0 m 43 ls [.int 31, .long (lN n)]) rfl ?_
    refine lv_lushr hx hb dX2_numberOf_43 rfl ?_
    refine lv_topl (fun v13 ev13 => ?_)
    refine lv_lconst (v := 1) hx hb dX2_numberOf_44 (by decide) ?_
    refine lv_land hx hb dX2_numberOf_45 ?_
    refine lv_topl (fun v14 ev14 => ?_)
    refine lv_lconst (v := 0) hx hb dX2_numberOf_46 (by decide) ?_
    refine W.lcmp hx hb dX2_numberOf_47 ?_
    refine lv_if_eq (tgt := 57) hx hb dX2_numberOf_48 (by decide) (fun c15 => ?_) (fun c15 => ?_)
    · refine lv_dload hx hb dX2_numberOf_57 (lv_at hl 0 rfl) ?_
      exact W.dret (v := 9218868437227405312) hx hb hr (fun t ht hW => ⟨9218868437227405312, rfl, (by have hb := c15; rw [ev14, ev13, sg0 hn, lz (Nat.mod_lt _ (by decide))] at hb; have hc := c3; rw [lg_cmp_eq, pk_lEQ (by omega) (by decide)] at hc; rw [← f2d_inf]; exact sgA0 hc hb), ht⟩) (fun q hq => absurd hq List.not_mem_nil) dX2_numberOf_59
    · refine lv_dload hx hb dX2_numberOf_51 (lv_at hl 0 rfl) ?_
      refine lv_dneg hx hb dX2_numberOf_53 ?_
      refine lv_topd (fun v16 ev16 => ?_)
      refine lv_goto (tgt := 59) hx hb dX2_numberOf_54 (by decide) ?_
      exact W.dret (v := v16) hx hb hr (fun t ht hW => ⟨v16, rfl, (by have hb := c15; rw [ev14, ev13, sg0 hn, lz (Nat.mod_lt _ (by decide))] at hb; rw [ev16]; have hc := c3; rw [lg_cmp_eq, pk_lEQ (by omega) (by decide)] at hc; rw [← f2d_inf]; exact sgB0 hc (by decide) hb), ht⟩) (fun q hq => absurd hq List.not_mem_nil) dX2_numberOf_59
