set_option maxHeartbeats 8000000 in
set_option maxRecDepth 100000 in
theorem c_leftOf (l : Launch) (ad : Nat → Nat) (x y : UInt64) (hx0 : FP.Core.DFin x) (hy : FP.Core.val64 y ≠ .nan) (hz : ¬ FP.Core.DZero y)  : Met l yX8_leftOf wsX8_leftOf ({ frames := 3, cells := 0, slots := 0, locals := 74 }) (va_Pc [.double x, .double y] (fun U => bE ad U U.heap)) (vp_Sd (fun r : UInt64 => r = FP.drem x y)) 0 0 (fun _ => False) := by
  refine Met.ofW (cc := cX8_leftOf) (maxL := 16) (ret := (some .double)) (by decide) rfl ?_
  intro p e s m args below meth c s₁ B hml hv
  obtain ⟨rfl, hE, hN⟩ := hv
  have hx := B.exec
  have hb := B.bytes
  have hr := B.returns
  have hts := atoms_spec (ws := wsX8_leftOf) B.pre
  have hown : s.vm.findClass RX8 = some m.cls := findClass_of_methodNamed B.named
  have hlocks := B.notSynchronized
  have hS : va_S (fun _ => False) s.heap s.heap [] := va_S.rf
  have hxn := hx0.ne_nan
  have hkx := (FP.Core.fin_bits x).mp hx0
  have hky := (FP.Core.ne_nan y).mp hy
  have hy0 : ¬ y.toNat % 2 ^ 63 = 0 := fun q => hz ((FP.Core.zero_bits2 y).mpr q)
  have hl := lv_entry ([.double x, .double y]) (n := 16) (Nat.le_of_ble_eq_true rfl)
  rw [lg_entry_eq]
  generalize (lg_sl ([.double x, .double y]) ++ List.replicate (16 - (lg_sl ([.double x, .double y])).length) Slot.unset).toArray = ls at hl ⊢
  have hl : lv_has ls 16 [(0, .double x), (2, .double y)] := hl
  refine lv_dload_n hx hb dX8_leftOf_0 rfl (lv_at hl 0 rfl) ?_
  refine lv_dconst0 hx hb dX8_leftOf_1 ?_
  refine lv_dcmp hx hb dX8_leftOf_2 ?_
  refine lv_if_eq (tgt := 13) hx hb dX8_leftOf_3 (by decide) (fun c1 => ?_) (fun c1 => ?_)
  · refine lv_dload_n hx hb dX8_leftOf_13 rfl (lv_at hl 0 rfl) ?_
    exact W.dret (v := x) hx hb hr (fun t ht hW => ⟨x, rfl, (drem_zero hx0 hy hz ((z_iff hxn).mp c1)), ht⟩) (fun q hq => absurd hq List.not_mem_nil) dX8_leftOf_14
  · have hx1 : ¬ x.toNat % 2 ^ 63 = 0 := fun q => c1 ((z_iff hxn).mpr q)
    refine lv_dload_n hx hb dX8_leftOf_6 rfl (lv_at hl 1 rfl) ?_
    refine vp_callSi (W.runS (As := [.double y]) (rest := []) ⟨hx, hb, hml, hown, hts⟩ (c_isEndless l y) (va_cwS 1 hts gX8_leftOf_X8_isEndless rfl rfl rfl (by decide +kernel) ⟨Nat.le_of_ble_eq_true rfl, Nat.le_of_ble_eq_true rfl⟩) (preS_of okT (trivial)) rfl rfl hl.1 rfl (lv_room (Nat.le_of_ble_eq_true rfl)) dX8_leftOf_7 ⟨Nat.le_of_ble_eq_true rfl, Nat.le_of_ble_eq_true rfl⟩) (fun r2 hr2 => ?_)
    refine lv_if_eq (tgt := 15) hx hb dX8_leftOf_10 (by decide) (fun c3 => ?_) (fun c3 => ?_)
    · have hyE : y.toNat % 2 ^ 63 < 9218868437227405312 := by have hc := c3; rw [hr2, endl hy] at hc; rcases Nat.lt_or_ge (y.toNat % 2 ^ 63) 9218868437227405312 with q | q; exact q; rw [if_pos (by omega)] at hc; exact absurd hc (by decide)
      refine va_gets (C := "RopeDrums$Form") (n := "DOUBLE") (d := "LRopeDrums$Form;") (v := .ref (ad 1)) hx hb (hE.1 1 (by decide)).1 hS hown (hts (.fieldLink RX8 166 "RopeDrums$Form" "DOUBLE" "LRopeDrums$Form;") (by decide +kernel)) (fun _ h9 => h9) dX8_leftOf_15 ?_
      refine jn_d (pc := 30) (ls := ls) (rest := [.ref (ad 1)]) (fun v => v.toNat = x.toNat % 2 ^ 63) (fun j4 hj4 => ?_) (fun K => ?_)
      · have habx := hj4
        refine vp_callSl (W.runV (As := [.double j4]) (rest := []) ⟨hx, hb, hml, hown, hts⟩ (c_sizeOf_1 l ad j4 (by rw [hj4]; exact Nat.mod_lt _ (by decide)) (by rw [FP.Core.ne_nan, hj4]; omega)) (cwV 1 hts gX8_leftOf_X2_sizeOf rfl rfl rfl (by decide +kernel) ⟨Nat.le_of_ble_eq_true rfl, Nat.le_of_ble_eq_true rfl⟩) (preV_of okE (⟨hE, hN⟩) (va_recvE hE (by decide) hS)) rfl rfl hl.1 rfl (lv_room (Nat.le_of_ble_eq_true rfl)) dX8_leftOf_30 ⟨Nat.le_of_ble_eq_true rfl, Nat.le_of_ble_eq_true rfl⟩) (fun r5 hr5 => ?_)
        rw [habx] at hr5
        subst hr5
        refine lv_lstore (lv' := [(4, .long (lN (x.toNat % 2 ^ 63))), (0, .double x), (2, .double y)]) hx hb dX8_leftOf_33 hl (by decide) rfl (fun ls hl => ?_)
        refine va_gets (C := "RopeDrums$Form") (n := "DOUBLE") (d := "LRopeDrums$Form;") (v := .ref (ad 1)) hx hb (hE.1 1 (by decide)).1 hS hown (hts (.fieldLink RX8 166 "RopeDrums$Form" "DOUBLE" "LRopeDrums$Form;") (by decide +kernel)) (fun _ h9 => h9) dX8_leftOf_35 ?_
        refine jn_d (pc := 50) (ls := ls) (rest := [.ref (ad 1)]) (fun v => v.toNat = y.toNat % 2 ^ 63) (fun j6 hj6 => ?_) (fun K => ?_)
        · have haby := hj6
          refine vp_callSl (W.runV (As := [.double j6]) (rest := []) ⟨hx, hb, hml, hown, hts⟩ (c_sizeOf_1 l ad j6 (by rw [hj6]; exact Nat.mod_lt _ (by decide)) (by rw [FP.Core.ne_nan, hj6]; omega)) (cwV 1 hts gX8_leftOf_X2_sizeOf rfl rfl rfl (by decide +kernel) ⟨Nat.le_of_ble_eq_true rfl, Nat.le_of_ble_eq_true rfl⟩) (preV_of okE (⟨hE, hN⟩) (va_recvE hE (by decide) hS)) rfl rfl hl.1 rfl (lv_room (Nat.le_of_ble_eq_true rfl)) dX8_leftOf_50 ⟨Nat.le_of_ble_eq_true rfl, Nat.le_of_ble_eq_true rfl⟩) (fun r7 hr7 => ?_)
          rw [haby] at hr7
          subst hr7
          refine lv_lstore (lv' := [(6, .long (lN (y.toNat % 2 ^ 63))), (4, .long (lN (x.toNat % 2 ^ 63))), (0, .double x), (2, .double y)]) hx hb dX8_leftOf_53 hl (by decide) rfl (fun ls hl => ?_)
          refine va_gets (C := "RopeDrums$Form") (n := "DOUBLE") (d := "LRopeDrums$Form;") (v := .ref (ad 1)) hx hb (hE.1 1 (by decide)).1 hS hown (hts (.fieldLink RX8 166 "RopeDrums$Form" "DOUBLE" "LRopeDrums$Form;") (by decide +kernel)) (fun _ h9 => h9) dX8_leftOf_55 ?_
          refine lv_lload hx hb dX8_leftOf_58 (lv_at hl 0 rfl) ?_
          refine vp_callSl (W.runV (As := [.long (lN (y.toNat % 2 ^ 63))]) (rest := []) ⟨hx, hb, hml, hown, hts⟩ (c_stepsOf_1 l ad (lN (y.toNat % 2 ^ 63))) (cwV 1 hts gX8_leftOf_X2_stepsOf rfl rfl rfl (by decide +kernel) ⟨Nat.le_of_ble_eq_true rfl, Nat.le_of_ble_eq_true rfl⟩) (preV_of okE (⟨hE, hN⟩) (va_recvE hE (by decide) hS)) rfl rfl hl.1 rfl (lv_room (Nat.le_of_ble_eq_true rfl)) dX8_leftOf_60 ⟨Nat.le_of_ble_eq_true rfl, Nat.le_of_ble_eq_true rfl⟩) (fun r8 hr8 => ?_)
          rw [steps1 (by omega)] at hr8
          subst hr8
          refine lv_lstore (lv' := [(8, .long (lN (stp 52 (y.toNat % 2 ^ 63)))), (6, .long (lN (y.toNat % 2 ^ 63))), (4, .long (lN (x.toNat % 2 ^ 63))), (0, .double x), (2, .double y)]) hx hb dX8_leftOf_63 hl (by decide) rfl (fun ls hl => ?_)
          refine va_gets (C := "RopeDrums$Form") (n := "DOUBLE") (d := "LRopeDrums$Form;") (v := .ref (ad 1)) hx hb (hE.1 1 (by decide)).1 hS hown (hts (.fieldLink RX8 166 "RopeDrums$Form" "DOUBLE" "LRopeDrums$Form;") (by decide +kernel)) (fun _ h9 => h9) dX8_leftOf_65 ?_
          refine lv_lload hx hb dX8_leftOf_68 (lv_at hl 1 rfl) ?_
          refine vp_callSi (W.runV (As := [.long (lN (y.toNat % 2 ^ 63))]) (rest := []) ⟨hx, hb, hml, hown, hts⟩ (c_powerOf_1 l ad (lN (y.toNat % 2 ^ 63))) (cwV 1 hts gX8_leftOf_X2_powerOf rfl rfl rfl (by decide +kernel) ⟨Nat.le_of_ble_eq_true rfl, Nat.le_of_ble_eq_true rfl⟩) (preV_of okE (⟨hE, hN⟩) (va_recvE hE (by decide) hS)) rfl rfl hl.1 rfl (lv_room (Nat.le_of_ble_eq_true rfl)) dX8_leftOf_70 ⟨Nat.le_of_ble_eq_true rfl, Nat.le_of_ble_eq_true rfl⟩) (fun r9 hr9 => ?_)
          have hpy : r9.toInt = (pwr 52 (y.toNat % 2 ^ 63) : Int) - 1074 := by rw [hr9]; exact pow1 (by omega)
          refine lv_istore (lv' := [(10, .int r9), (8, .long (lN (stp 52 (y.toNat % 2 ^ 63)))), (6, .long (lN (y.toNat % 2 ^ 63))), (4, .long (lN (x.toNat % 2 ^ 63))), (0, .double x), (2, .double y)]) hx hb dX8_leftOf_73 hl (by decide) rfl (fun ls hl => ?_)
          refine va_gets (C := "RopeDrums$Form") (n := "DOUBLE") (d := "LRopeDrums$Form;") (v := .ref (ad 1)) hx hb (hE.1 1 (by decide)).1 hS hown (hts (.fieldLink RX8 166 "RopeDrums$Form" "DOUBLE" "LRopeDrums$Form;") (by decide +kernel)) (fun _ h9 => h9) dX8_leftOf_75 ?_
          refine lv_lload hx hb dX8_leftOf_78 (lv_at hl 3 rfl) ?_
          refine vp_callSi (W.runV (As := [.long (lN (x.toNat % 2 ^ 63))]) (rest := []) ⟨hx, hb, hml, hown, hts⟩ (c_powerOf_1 l ad (lN (x.toNat % 2 ^ 63))) (cwV 1 hts gX8_leftOf_X2_powerOf rfl rfl rfl (by decide +kernel) ⟨Nat.le_of_ble_eq_true rfl, Nat.le_of_ble_eq_true rfl⟩) (preV_of okE (⟨hE, hN⟩) (va_recvE hE (by decide) hS)) rfl rfl hl.1 rfl (lv_room (Nat.le_of_ble_eq_true rfl)) dX8_leftOf_80 ⟨Nat.le_of_ble_eq_true rfl, Nat.le_of_ble_eq_true rfl⟩) (fun r10 hr10 => ?_)
          have hpx : r10.toInt = (pwr 52 (x.toNat % 2 ^ 63) : Int) - 1074 := by rw [hr10]; exact pow1 (by omega)
          refine lv_iload hx hb dX8_leftOf_83 (lv_at hl 0 rfl) ?_
          refine lv_isub hx hb dX8_leftOf_85 ?_
          refine lv_topi (fun v11 ev11 => ?_)
          have hb1 := pwr1_le hkx
          have hb2 := pwr1_le hyE
          have hsh : v11.toInt = (pwr 52 (x.toNat % 2 ^ 63) : Int) - (pwr 52 (y.toNat % 2 ^ 63) : Int) := by rw [ev11, fb_subI (by rw [hpx, hpy]; omega) (by rw [hpx, hpy]; omega), hpx, hpy]; omega
          refine lv_istore (lv' := [(11, .int v11), (10, .int r9), (8, .long (lN (stp 52 (y.toNat % 2 ^ 63)))), (6, .long (lN (y.toNat % 2 ^ 63))), (4, .long (lN (x.toNat % 2 ^ 63))), (0, .double x), (2, .double y)]) hx hb dX8_leftOf_86 hl (by decide) rfl (fun ls hl => ?_)
          refine lv_iload hx hb dX8_leftOf_88 (lv_at hl 0 rfl) ?_
          refine lv_if_lt (tgt := 100) hx hb dX8_leftOf_90 (by decide) (fun c12 => ?_) (fun c12 => ?_)
          · refine lv_dload_n hx hb dX8_leftOf_100 rfl (lv_at hl 5 rfl) ?_
            exact W.dret (v := x) hx hb hr (fun t ht hW => ⟨x, rfl, (drem_less hx0 hy hz (by have hc := c12; rw [fa_lt, hsh] at hc; have h8 : (0 : Int32).toInt = 0 := (by decide); omega)), ht⟩) (fun q hq => absurd hq List.not_mem_nil) dX8_leftOf_101
          · have hge : pwr 52 (y.toNat % 2 ^ 63) ≤ pwr 52 (x.toNat % 2 ^ 63) := by have hc := c12; rw [fa_lt, hsh] at hc; have h8 : (0 : Int32).toInt = 0 := (by decide); omega
            have hd0 : 0 < stp 52 (y.toNat % 2 ^ 63) := by unfold stp; split; omega; exact Nat.add_pos_left (Nat.two_pow_pos _) _
            have hd1 : stp 52 (y.toNat % 2 ^ 63) < 2 ^ 53 := stp_lt
            have hc1 : stp 52 (x.toNat % 2 ^ 63) < 2 ^ 53 := stp_lt
            refine lv_lload hx hb dX8_leftOf_93 (lv_at hl 2 rfl) ?_
            refine lv_lconst (v := 0) hx hb dX8_leftOf_95 (by decide) ?_
            refine W.lcmp hx hb dX8_leftOf_96 ?_
            refine lv_if_ne (tgt := 102) hx hb dX8_leftOf_97 (by decide) (fun c13 => ?_) (fun c13 => ?_)
            · refine va_gets (C := "RopeDrums$Form") (n := "DOUBLE") (d := "LRopeDrums$Form;") (v := .ref (ad 1)) hx hb (hE.1 1 (by decide)).1 hS hown (hts (.fieldLink RX8 166 "RopeDrums$Form" "DOUBLE" "LRopeDrums$Form;") (by decide +kernel)) (fun _ h9 => h9) dX8_leftOf_102 ?_
              refine lv_lload hx hb dX8_leftOf_105 (lv_at hl 4 rfl) ?_
              refine vp_callSl (W.runV (As := [.long (lN (x.toNat % 2 ^ 63))]) (rest := []) ⟨hx, hb, hml, hown, hts⟩ (c_stepsOf_1 l ad (lN (x.toNat % 2 ^ 63))) (cwV 1 hts gX8_leftOf_X2_stepsOf rfl rfl rfl (by decide +kernel) ⟨Nat.le_of_ble_eq_true rfl, Nat.le_of_ble_eq_true rfl⟩) (preV_of okE (⟨hE, hN⟩) (va_recvE hE (by decide) hS)) rfl rfl hl.1 rfl (lv_room (Nat.le_of_ble_eq_true rfl)) dX8_leftOf_107 ⟨Nat.le_of_ble_eq_true rfl, Nat.le_of_ble_eq_true rfl⟩) (fun r14 hr14 => ?_)
              rw [steps1 (by omega)] at hr14
              subst hr14
              refine lv_lload hx hb dX8_leftOf_110 (lv_at hl 2 rfl) ?_
              refine lv_lrem hx hb dX8_leftOf_112 (fun q => by have q2 := (pk_lEQ (a := stp 52 (y.toNat % 2 ^ 63)) (b := 0) (by omega) (by decide)).mp q; omega) ?_
              refine lv_topl (fun v15 ev15 => ?_)
              rw [pk_lRem (by omega) hd0 (by omega)] at ev15
              subst ev15
              refine lv_lstore (lv' := [(12, .long (lN (stp 52 (x.toNat % 2 ^ 63) % stp 52 (y.toNat % 2 ^ 63)))), (11, .int v11), (10, .int r9), (8, .long (lN (stp 52 (y.toNat % 2 ^ 63)))), (6, .long (lN (y.toNat % 2 ^ 63))), (4, .long (lN (x.toNat % 2 ^ 63))), (0, .double x), (2, .double y)]) hx hb dX8_leftOf_113 hl (by decide) rfl (fun ls hl => ?_)
              refine lp_r (pc := 115) (nL := 16) (α := Nat × Int32) (iv_left (stp 52 (y.toNat % 2 ^ 63)) (stp 52 (x.toNat % 2 ^ 63) * 2 ^ (pwr 52 (x.toNat % 2 ^ 63) - pwr 52 (y.toNat % 2 ^ 63)) % stp 52 (y.toNat % 2 ^ 63))) (fun xx => [(0, .double x), (8, .long (lN (stp 52 (y.toNat % 2 ^ 63)))), (10, .int r9), (11, .int xx.2), (12, .long (lN xx.1))]) (fun xx => xx.2.toInt.toNat) (fun xx ls hI hl K => ?_) (stp 52 (x.toNat % 2 ^ 63) % stp 52 (y.toNat % 2 ^ 63), v11) ls (⟨Nat.mod_lt _ hd0, by show stp 52 (x.toNat % 2 ^ 63) % stp 52 (y.toNat % 2 ^ 63) * 2 ^ _ % _ = _; rw [Nat.mod_mul_mod, hsh]; congr 3; omega, by show -10 ≤ _; rw [hsh]; omega, by show _ ≤ 2100; rw [hsh]; omega⟩) (lv_sub hl [6, 3, 2, 1, 0] rfl)
              obtain ⟨l0, sh⟩ := xx
              have hl : lv_has ls 16 [(0, .double x), (8, .long (lN (stp 52 (y.toNat % 2 ^ 63)))), (10, .int r9), (11, .int sh), (12, .long (lN l0))] := hl
              refine lv_iload hx hb dX8_leftOf_115 (lv_at hl 3 rfl) ?_
              refine lv_if_le (tgt := 148) hx hb dX8_leftOf_117 (by decide) (fun c16 => ?_) (fun c16 => ?_)
              · have hlT := lf_end1 hI (by have hc := c16; rw [fa_le] at hc; have h8 : (0 : Int32).toInt = 0 := (by decide); omega)
                have hzm := lf_zm hxn hy hge
                rw [← hlT] at hzm
                refine lv_lload hx hb dX8_leftOf_148 (lv_at hl 4 rfl) ?_
                refine lv_l2d hx hb dX8_leftOf_150 ?_
                refine lv_topd (fun v17 ev17 => ?_)
                refine lv_iload hx hb dX8_leftOf_151 (lv_at hl 2 rfl) ?_
                refine vp_callSd (W.runS (As := [.int r9]) (rest := [.double v17]) ⟨hx, hb, hml, hown, hts⟩ (c_powerOfTwo l r9 ((pwr 52 (y.toNat % 2 ^ 63) : Int) - 1074) hpy (by omega) (by omega)) (va_cwS 1 hts gX8_leftOf_X8_powerOfTwo rfl rfl rfl (by decide +kernel) ⟨Nat.le_of_ble_eq_true rfl, Nat.le_of_ble_eq_true rfl⟩) (preS_of okT (trivial)) rfl rfl hl.1 rfl (lv_room (Nat.le_of_ble_eq_true rfl)) dX8_leftOf_153 ⟨Nat.le_of_ble_eq_true rfl, Nat.le_of_ble_eq_true rfl⟩) (fun r18 hr18 => ?_)
                have hsz := lf_size (a := 0) hyE hI.1 hr18
                rw [← ev17] at hsz
                refine lv_dmul hx hb dX8_leftOf_156 (n64.mpr hsz.ne) ?_
                refine lv_topd (fun v19 ev19 => ?_)
                refine lv_dstore (lv' := [(14, .double v19), (0, .double x), (8, .long (lN (stp 52 (y.toNat % 2 ^ 63)))), (10, .int r9), (11, .int sh), (12, .long (lN l0))]) hx hb dX8_leftOf_157 hl (by decide) rfl (fun ls hl => ?_)
                refine lv_dload_n hx hb dX8_leftOf_159 rfl (lv_at hl 1 rfl) ?_
                refine lv_dconst0 hx hb dX8_leftOf_160 ?_
                refine lv_dcmp hx hb dX8_leftOf_161 ?_
                refine lv_if_ge (tgt := 171) hx hb dX8_leftOf_162 (by decide) (fun c20 => ?_) (fun c20 => ?_)
                · refine lv_dload hx hb dX8_leftOf_171 (lv_at hl 0 rfl) ?_
                  exact W.dret (v := v19) hx hb hr (fun t ht hW => ⟨v19, rfl, (by rw [ev19]; exact lf_pos hx0 hy hz hzm hsz (ab_pos hxn c20 hx1)), ht⟩) (fun q hq => absurd hq List.not_mem_nil) dX8_leftOf_173
                · refine lv_dload hx hb dX8_leftOf_165 (lv_at hl 0 rfl) ?_
                  refine lv_dneg hx hb dX8_leftOf_167 ?_
                  refine lv_topd (fun v21 ev21 => ?_)
                  refine lv_goto (tgt := 173) hx hb dX8_leftOf_168 (by decide) ?_
                  exact W.dret (v := v21) hx hb hr (fun t ht hW => ⟨v21, rfl, (by rw [ev21, ev19]; exact lf_neg hx0 hy hz hzm hsz (ab_neg hxn c20)), ht⟩) (fun q hq => absurd hq List.not_mem_nil) dX8_leftOf_173
              · have hpos : 0 < sh.toInt := by have hc := c16; rw [fa_le] at hc; have h8 : (0 : Int32).toInt = 0 := (by decide); omega
                refine lv_lload hx hb dX8_leftOf_120 (lv_at hl 4 rfl) ?_
                refine lv_lconst (v := 0) hx hb dX8_leftOf_122 (by decide) ?_
                refine W.lcmp hx hb dX8_leftOf_123 ?_
                refine lv_if_eq (tgt := 148) hx hb dX8_leftOf_124 (by decide) (fun c22 => ?_) (fun c22 => ?_)
                · have hlT := lf_end2 hI (by have hc := c22; rw [lg_cmp_eq] at hc; exact (pk_lEQ (b := 0) (by have := hI.1; omega) (by decide)).mp hc)
                  have hzm := lf_zm hxn hy hge
                  rw [← hlT] at hzm
                  refine lv_lload hx hb dX8_leftOf_148 (lv_at hl 4 rfl) ?_
                  refine lv_l2d hx hb dX8_leftOf_150 ?_
                  refine lv_topd (fun v23 ev23 => ?_)
                  refine lv_iload hx hb dX8_leftOf_151 (lv_at hl 2 rfl) ?_
                  refine vp_callSd (W.runS (As := [.int r9]) (rest := [.double v23]) ⟨hx, hb, hml, hown, hts⟩ (c_powerOfTwo l r9 ((pwr 52 (y.toNat % 2 ^ 63) : Int) - 1074) hpy (by omega) (by omega)) (va_cwS 1 hts gX8_leftOf_X8_powerOfTwo rfl rfl rfl (by decide +kernel) ⟨Nat.le_of_ble_eq_true rfl, Nat.le_of_ble_eq_true rfl⟩) (preS_of okT (trivial)) rfl rfl hl.1 rfl (lv_room (Nat.le_of_ble_eq_true rfl)) dX8_leftOf_153 ⟨Nat.le_of_ble_eq_true rfl, Nat.le_of_ble_eq_true rfl⟩) (fun r24 hr24 => ?_)
                  have hsz := lf_size (a := 0) hyE hI.1 hr24
                  rw [← ev23] at hsz
                  refine lv_dmul hx hb dX8_leftOf_156 (n64.mpr hsz.ne) ?_
                  refine lv_topd (fun v25 ev25 => ?_)
                  refine lv_dstore (lv' := [(14, .double v25), (0, .double x), (8, .long (lN (stp 52 (y.toNat % 2 ^ 63)))), (10, .int r9), (11, .int sh), (12, .long (lN l0))]) hx hb dX8_leftOf_157 hl (by decide) rfl (fun ls hl => ?_)
                  refine lv_dload_n hx hb dX8_leftOf_159 rfl (lv_at hl 1 rfl) ?_
                  refine lv_dconst0 hx hb dX8_leftOf_160 ?_
                  refine lv_dcmp hx hb dX8_leftOf_161 ?_
                  refine lv_if_ge (tgt := 171) hx hb dX8_leftOf_162 (by decide) (fun c26 => ?_) (fun c26 => ?_)
                  · refine lv_dload hx hb dX8_leftOf_171 (lv_at hl 0 rfl) ?_
                    exact W.dret (v := v25) hx hb hr (fun t ht hW => ⟨v25, rfl, (by rw [ev25]; exact lf_pos hx0 hy hz hzm hsz (ab_pos hxn c26 hx1)), ht⟩) (fun q hq => absurd hq List.not_mem_nil) dX8_leftOf_173
                  · refine lv_dload hx hb dX8_leftOf_165 (lv_at hl 0 rfl) ?_
                    refine lv_dneg hx hb dX8_leftOf_167 ?_
                    refine lv_topd (fun v27 ev27 => ?_)
                    refine lv_goto (tgt := 173) hx hb dX8_leftOf_168 (by decide) ?_
                    exact W.dret (v := v27) hx hb hr (fun t ht hW => ⟨v27, rfl, (by rw [ev27, ev25]; exact lf_neg hx0 hy hz hzm hsz (ab_neg hxn c26)), ht⟩) (fun q hq => absurd hq List.not_mem_nil) dX8_leftOf_173
                · refine lv_lload hx hb dX8_leftOf_127 (lv_at hl 4 rfl) ?_
                  refine lv_iload hx hb dX8_leftOf_129 (lv_at hl 3 rfl) ?_
                  refine lv_bipush (v := 10) hx hb dX8_leftOf_131 (by decide) ?_
                  refine va_mmin hx hb (by rw [hml]; exact hl.1.symm) hown (hts (.methodLink RX8 221 Lib.Math.min.name) (by decide +kernel)) (hts (.static Lib.Math.min.name) (by decide +kernel)) (hts (.initialized "java/lang/Math") (by decide +kernel)) (hts (.code Lib.Math.min.name Lib.Math.min.code 2 (some .int)) (by decide +kernel)) (Nat.le_of_ble_eq_true rfl) (Nat.le_of_ble_eq_true rfl) (Nat.zero_le _) (Nat.zero_le _) dX8_leftOf_133 ?_
                  refine lv_topi (fun v28 ev28 => ?_)
                  refine lv_lshl hx hb dX8_leftOf_136 rfl ?_
                  refine lv_topl (fun v29 ev29 => ?_)
                  rw [lf_shl hpos ev28] at ev29
                  subst ev29
                  refine lv_lload hx hb dX8_leftOf_137 (lv_at hl 1 rfl) ?_
                  refine lv_lrem hx hb dX8_leftOf_139 (fun q => by have q2 := (pk_lEQ (a := stp 52 (y.toNat % 2 ^ 63)) (b := 0) (by omega) (by decide)).mp q; omega) ?_
                  refine lv_topl (fun v30 ev30 => ?_)
                  rw [pk_lRem (lf_lt hpos hI.1 hd1) hd0 (by omega)] at ev30
                  subst ev30
                  refine lv_lstore (lv' := [(12, .long (lN (l0 * 2 ^ mm sh % stp 52 (y.toNat % 2 ^ 63)))), (0, .double x), (8, .long (lN (stp 52 (y.toNat % 2 ^ 63)))), (10, .int r9), (11, .int sh)]) hx hb dX8_leftOf_140 hl (by decide) rfl (fun ls hl => ?_)
                  obtain ⟨v31, ev31⟩ : ∃ y : Int32, y = sh + (-10) := ⟨_, rfl⟩
                  refine lv_iinc (v := v31) (lv' := [(11, .int v31), (12, .long (lN (l0 * 2 ^ mm sh % stp 52 (y.toNat % 2 ^ 63)))), (0, .double x), (8, .long (lN (stp 52 (y.toNat % 2 ^ 63)))), (10, .int r9)]) hx hb dX8_leftOf_142 hl (k := 4) rfl (by rw [ev31]; rfl) (by decide) rfl (fun ls hl => ?_)
                  refine lv_goto (tgt := 115) hx hb dX8_leftOf_145 (by decide) ?_
                  exact K (l0 * 2 ^ mm sh % stp 52 (y.toNat % 2 ^ 63), v31) ls (lf_next hd0 hI hpos ev31) (lf_less hpos hI.2.2.1 hI.2.2.2 ev31) (lv_sub hl [2, 3, 4, 0, 1] rfl)
            · refine lv_dload_n hx hb dX8_leftOf_100 rfl (lv_at hl 5 rfl) ?_
              exact W.dret (v := x) hx hb hr (fun t ht hW => ⟨x, rfl, (by have hc := c13; rw [lg_cmp_eq] at hc; exact absurd ((pk_lEQ (b := 0) (by omega) (by decide)).mp hc) (by omega)), ht⟩) (fun q hq => absurd hq List.not_mem_nil) dX8_leftOf_101
        · refine lv_dload_n hx hb dX8_leftOf_38 rfl (lv_at hl 2 rfl) ?_
          refine lv_dconst0 hx hb dX8_leftOf_39 ?_
          refine lv_dcmp hx hb dX8_leftOf_40 ?_
          refine lv_if_ge (tgt := 49) hx hb dX8_leftOf_41 (by decide) (fun c32 => ?_) (fun c32 => ?_)
          · refine lv_dload_n hx hb dX8_leftOf_49 rfl (lv_at hl 2 rfl) ?_
            exact K _ (by have q := ab_pos hy c32 hy0; omega)
          · refine lv_dload_n hx hb dX8_leftOf_44 rfl (lv_at hl 2 rfl) ?_
            refine lv_dneg hx hb dX8_leftOf_45 ?_
            refine lv_topd (fun v33 ev33 => ?_)
            refine lv_goto (tgt := 50) hx hb dX8_leftOf_46 (by decide) ?_
            exact K _ (by rw [ev33, dneg_big (ab_neg hy c32)]; have q := ab_neg hy c32; have q2 := UInt64.toNat_lt y; omega)
      · refine lv_dload_n hx hb dX8_leftOf_18 rfl (lv_at hl 0 rfl) ?_
        refine lv_dconst0 hx hb dX8_leftOf_19 ?_
        refine lv_dcmp hx hb dX8_leftOf_20 ?_
        refine lv_if_ge (tgt := 29) hx hb dX8_leftOf_21 (by decide) (fun c34 => ?_) (fun c34 => ?_)
        · refine lv_dload_n hx hb dX8_leftOf_29 rfl (lv_at hl 0 rfl) ?_
          exact K _ (by have q := ab_pos hxn c34 hx1; omega)
        · refine lv_dload_n hx hb dX8_leftOf_24 rfl (lv_at hl 0 rfl) ?_
          refine lv_dneg hx hb dX8_leftOf_25 ?_
          refine lv_topd (fun v35 ev35 => ?_)
          refine lv_goto (tgt := 30) hx hb dX8_leftOf_26 (by decide) ?_
          exact K _ (by rw [ev35, dneg_big (ab_neg hxn c34)]; have q := ab_neg hxn c34; have q2 := UInt64.toNat_lt x; omega)
    · refine lv_dload_n hx hb dX8_leftOf_13 rfl (lv_at hl 0 rfl) ?_
      exact W.dret (v := x) hx hb hr (fun t ht hW => ⟨x, rfl, (drem_inf hx0 hy hz (by have hc := c3; rw [hr2, endl hy] at hc; by_cases q : y.toNat % 2 ^ 63 = 9218868437227405312; exact q; exact absurd (if_neg q) hc)), ht⟩) (fun q hq => absurd hq List.not_mem_nil) dX8_leftOf_14
