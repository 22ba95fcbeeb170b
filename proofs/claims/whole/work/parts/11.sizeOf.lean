set_option maxHeartbeats 8000000 in
set_option maxRecDepth 100000 in
theorem c_sizeOf_1 (l : Launch) (ad : Nat → Nat) (x : UInt64) (hx63 : x.toNat < 2 ^ 63) (hn : FP.Core.val64 x ≠ .nan)  : Met l yX2_sizeOf wsX2_sizeOf ({ frames := 2, cells := 0, slots := 0, locals := 46 }) (va_Pc [.ref (ad 1), .double x] (fun U => bE ad U U.heap)) (vp_Sl (fun r : Int64 => r = lN x.toNat)) 0 0 (fun _ => False) := by
  refine Met.ofW (cc := cX2_sizeOf) (maxL := 9) (ret := (some .long)) (by decide) rfl ?_
  intro p e s m args below meth c s₁ B hml hv
  obtain ⟨rfl, hE, hN⟩ := hv
  have hx := B.exec
  have hb := B.bytes
  have hr := B.returns
  have hts := atoms_spec (ws := wsX2_sizeOf) B.pre
  have hown : s.vm.findClass RX2 = some m.cls := findClass_of_methodNamed B.named
  have hlocks := B.notSynchronized
  have hS : va_S (fun _ => False) s.heap s.heap [] := va_S.rf
  have hkE : x.toNat ≤ 9218868437227405312 := by have := (FP.Core.ne_nan x).mp hn; omega
  have hend : q_isEndless x = if x.toNat = 9218868437227405312 then 1 else 0 := by rw [endl hn, Nat.mod_eq_of_lt hx63]
  have hl := lv_entry ([.ref (ad 1), .double x]) (n := 9) (Nat.le_of_ble_eq_true rfl)
  rw [lg_entry_eq]
  generalize (lg_sl ([.ref (ad 1), .double x]) ++ List.replicate (9 - (lg_sl ([.ref (ad 1), .double x])).length) Slot.unset).toArray = ls at hl ⊢
  have hl : lv_has ls 9 [(0, .ref (ad 1)), (1, .double x)] := hl
  refine lv_dload_n hx hb dX2_sizeOf_0 rfl (lv_at hl 1 rfl) ?_
  refine vp_callSi (cr_of (va_runSN (As := [.double x]) (rest := []) ⟨hx, hb, hml, hown, hts⟩ (c_isEndless l x) (⟨va_cnB 1 hts gX2_sizeOf_X8_isEndless_n77 rfl rfl rfl hN.2 (hts (.initialized RX8) (by decide +kernel)) (by decide +kernel) ⟨Nat.le_of_ble_eq_true rfl, Nat.le_of_ble_eq_true rfl⟩, hts (.static yX8_isEndless) (by decide +kernel), trivial⟩) (preS_of okT (trivial)) rfl rfl hl.1 rfl (lv_room (Nat.le_of_ble_eq_true rfl)) dX2_sizeOf_1 ⟨Nat.le_of_ble_eq_true rfl, Nat.le_of_ble_eq_true rfl⟩)) (fun r1 hr1 => ?_)
  refine lv_if_eq (tgt := 12) hx hb dX2_sizeOf_4 (by decide) (fun c2 => ?_) (fun c2 => ?_)
  · have hfin : x.toNat < 9218868437227405312 := by have hc := c2; rw [hr1, hend] at hc; rcases Nat.lt_or_ge x.toNat 9218868437227405312 with q | q; exact q; rw [if_pos (by omega)] at hc; exact absurd hc (by decide)
    have hPx : Pz x (stp 52 x.toNat * 2 ^ pwr 52 x.toNat) := by have q := Pz.nat hfin; rw [UInt64.ofNat_toNat] at q; exact q
    refine lv_dload_n hx hb dX2_sizeOf_12 rfl (lv_at hl 1 rfl) ?_
    refine lv_aload_n hx hb dX2_sizeOf_13 rfl (lv_at hl 0 rfl) ?_
    refine va_getE (i := 1) (q := eF[1]) hx hb hE (by decide) hS hown (List.getElem_mem _) (hts (.fieldLink RX2 33 "RopeDrums$Form" "lowest" "I") (by decide +kernel)) (fun _ h9 => h9) dX2_sizeOf_14 ?_
    refine W.eq (g2 := F0 m 17 ls [.int (-1022), .double x]) rfl ?_
    refine vp_callSd (cr_of (va_runSN (As := [.int (-1022)]) (rest := [.double x]) ⟨hx, hb, hml, hown, hts⟩ (c_powerOfTwo l (-1022) (-1022) (by decide) (by decide) (by decide)) (⟨va_cnB 1 hts gX2_sizeOf_X8_powerOfTwo_n65 rfl rfl rfl hN.1 (hts (.initialized RX8) (by decide +kernel)) (by decide +kernel) ⟨Nat.le_of_ble_eq_true rfl, Nat.le_of_ble_eq_true rfl⟩, hts (.static yX8_powerOfTwo) (by decide +kernel), trivial⟩) (preS_of okT (trivial)) rfl rfl hl.1 rfl (lv_room (Nat.le_of_ble_eq_true rfl)) dX2_sizeOf_17 ⟨Nat.le_of_ble_eq_true rfl, Nat.le_of_ble_eq_true rfl⟩)) (fun r3 hr3 => ?_)
    have hp0 := hr3
    refine lv_dcmp hx hb dX2_sizeOf_20 ?_
    refine lv_if_ge (tgt := 59) hx hb dX2_sizeOf_21 (by decide) (fun c4 => ?_) (fun c4 => ?_)
    · have hno : ¬ x.toNat < 2 ^ 52 := by have hc := c4; rw [low1 hPx hp0] at hc; omega
      obtain ⟨hc1, hc2, hg0, -⟩ := nor1 hno hfin
      refine lv_dload_n hx hb dX2_sizeOf_59 rfl (lv_at hl 1 rfl) ?_
      refine lv_dstore_n (lv' := [(3, .double x), (0, .ref (ad 1)), (1, .double x)]) hx hb dX2_sizeOf_60 rfl hl (by decide) rfl (fun ls hl => ?_)
      refine lv_iconst (v := 0) hx hb dX2_sizeOf_61 (by decide) ?_
      refine lv_istore (lv' := [(5, .int 0), (3, .double x), (0, .ref (ad 1)), (1, .double x)]) hx hb dX2_sizeOf_62 hl (by decide) rfl (fun ls hl => ?_)
      refine lv_sipush (v := 512) hx hb dX2_sizeOf_64 (by decide) ?_
      refine lv_istore (lv' := [(6, .int 512), (5, .int 0), (3, .double x), (0, .ref (ad 1)), (1, .double x)]) hx hb dX2_sizeOf_67 hl (by decide) rfl (fun ls hl => ?_)
      refine lp_r (pc := 69) (nL := 9) (α := Nat × Nat × UInt64 × Int32 × Int32) (iv_sz (stp 52 x.toNat) (pwr 52 x.toNat)) (fun xx => [(0, .ref (ad 1)), (1, .double x), (3, .double xx.2.2.1), (5, .int xx.2.2.2.1), (6, .int xx.2.2.2.2)]) (fun xx => xx.2.1) (fun xx ls hI hl K => ?_) (pwr 52 x.toNat, 10, x, 0, 512) ls (sz_init hPx hg0) (lv_sub hl [3, 4, 2, 1, 0] rfl)
      obtain ⟨g, u, S, w, t⟩ := xx
      have hl : lv_has ls 9 [(0, .ref (ad 1)), (1, .double x), (3, .double S), (5, .int w), (6, .int t)] := hl
      have hT : t = nI (2 ^ u / 2) := hI.2.2.1
      have hu : u ≤ 10 := hI.2.2.2.1
      have hSc : Pz S (stp 52 x.toNat * 2 ^ g) := hI.1
      refine lv_iload hx hb dX2_sizeOf_69 (lv_at hl 4 rfl) ?_
      refine lv_if_le (tgt := 135) hx hb dX2_sizeOf_71 (by decide) (fun c5 => ?_) (fun c5 => ?_)
      · obtain ⟨hSl, hwl⟩ := sz_last hI (sz_u0 hu (by rw [← hT]; exact c5))
        refine lv_iload hx hb dX2_sizeOf_135 (lv_at hl 3 rfl) ?_
        refine lv_aload_n hx hb dX2_sizeOf_137 rfl (lv_at hl 0 rfl) ?_
        refine va_getE (i := 1) (q := eF[1]) hx hb hE (by decide) hS hown (List.getElem_mem _) (hts (.fieldLink RX2 33 "RopeDrums$Form" "lowest" "I") (by decide +kernel)) (fun _ h9 => h9) dX2_sizeOf_138 ?_
        refine W.eq (g2 := F0 m 141 ls [.int (-1022), .int w]) rfl ?_
        refine lv_isub hx hb dX2_sizeOf_141 ?_
        refine lv_topi (fun v6 ev6 => ?_)
        refine lv_i2l hx hb dX2_sizeOf_142 rfl ?_
        refine lv_topl (fun v7 ev7 => ?_)
        refine lv_aload_n hx hb dX2_sizeOf_143 rfl (lv_at hl 0 rfl) ?_
        refine va_getE (i := 1) (q := eF[0]) hx hb hE (by decide) hS hown (List.getElem_mem _) (hts (.fieldLink RX2 29 "RopeDrums$Form" "fraction" "I") (by decide +kernel)) (fun _ h9 => h9) dX2_sizeOf_144 ?_
        refine W.eq (g2 := F0 m 147 ls [.int 52, .long v7]) rfl ?_
        refine lv_lshl hx hb dX2_sizeOf_147 rfl ?_
        refine lv_topl (fun v8 ev8 => ?_)
        refine lv_dload_n hx hb dX2_sizeOf_148 rfl (lv_at hl 2 rfl) ?_
        refine lv_aload_n hx hb dX2_sizeOf_149 rfl (lv_at hl 0 rfl) ?_
        refine va_getE (i := 1) (q := eF[0]) hx hb hE (by decide) hS hown (List.getElem_mem _) (hts (.fieldLink RX2 29 "RopeDrums$Form" "fraction" "I") (by decide +kernel)) (fun _ h9 => h9) dX2_sizeOf_150 ?_
        refine W.eq (g2 := F0 m 153 ls [.int 52, .double S, .long v8]) rfl ?_
        refine vp_callSd (cr_of (va_runSN (As := [.int 52]) (rest := [.double S, .long v8]) ⟨hx, hb, hml, hown, hts⟩ (c_powerOfTwo l (52) (52) (by decide) (by decide) (by decide)) (⟨va_cnB 1 hts gX2_sizeOf_X8_powerOfTwo_n65 rfl rfl rfl hN.1 (hts (.initialized RX8) (by decide +kernel)) (by decide +kernel) ⟨Nat.le_of_ble_eq_true rfl, Nat.le_of_ble_eq_true rfl⟩, hts (.static yX8_powerOfTwo) (by decide +kernel), trivial⟩) (preS_of okT (trivial)) rfl rfl hl.1 rfl (lv_room (Nat.le_of_ble_eq_true rfl)) dX2_sizeOf_153 ⟨Nat.le_of_ble_eq_true rfl, Nat.le_of_ble_eq_true rfl⟩)) (fun r9 hr9 => ?_)
        have hp9 := hr9
        refine lv_dmul hx hb dX2_sizeOf_156 (n64.mpr (end1 hfin hno hSl hwl hp9).1) ?_
        refine lv_topd (fun v10 ev10 => ?_)
        refine lv_d2l hx hb dX2_sizeOf_157 ?_
        refine lv_topl (fun v11 ev11 => ?_)
        refine lv_ladd hx hb dX2_sizeOf_158 ?_
        refine lv_topl (fun v12 ev12 => ?_)
        exact W.lret (v := v12) hx hb hr (fun t ht hW => ⟨v12, rfl, (by subst ev12 ev11 ev10 ev8 ev7 ev6; exact (end1 hfin hno hSl hwl hp9).2), ht⟩) (fun q hq => absurd hq List.not_mem_nil) dX2_sizeOf_159
      · have h0 : u ≠ 0 := sz_u1 (by rw [← hT]; exact c5)
        refine lv_iload hx hb dX2_sizeOf_74 (lv_at hl 4 rfl) ?_
        refine vp_callSd (cr_of (va_runSN (As := [.int t]) (rest := []) ⟨hx, hb, hml, hown, hts⟩ (c_powerOfTwo l t ((2 ^ (u - 1) : Nat) : Int) (by rw [hT]; exact (sz_t hu h0).1) (by have := Nat.two_pow_pos (u - 1); omega) (by have := (sz_t hu h0).2; omega)) (⟨va_cnB 1 hts gX2_sizeOf_X8_powerOfTwo_n65 rfl rfl rfl hN.1 (hts (.initialized RX8) (by decide +kernel)) (by decide +kernel) ⟨Nat.le_of_ble_eq_true rfl, Nat.le_of_ble_eq_true rfl⟩, hts (.static yX8_powerOfTwo) (by decide +kernel), trivial⟩) (preS_of okT (trivial)) rfl rfl hl.1 rfl (lv_room (Nat.le_of_ble_eq_true rfl)) dX2_sizeOf_76 ⟨Nat.le_of_ble_eq_true rfl, Nat.le_of_ble_eq_true rfl⟩)) (fun r13 hr13 => ?_)
        have hq := sz_pw hr13
        refine lv_dstore (lv' := [(7, .double r13), (0, .ref (ad 1)), (1, .double x), (3, .double S), (5, .int w), (6, .int t)]) hx hb dX2_sizeOf_79 hl (by decide) rfl (fun ls hl => ?_)
        refine lv_dload_n hx hb dX2_sizeOf_81 rfl (lv_at hl 3 rfl) ?_
        refine lv_dload hx hb dX2_sizeOf_82 (lv_at hl 0 rfl) ?_
        refine lv_dcmp hx hb dX2_sizeOf_84 ?_
        refine lv_if_lt (tgt := 103) hx hb dX2_sizeOf_85 (by decide) (fun c14 => ?_) (fun c14 => ?_)
        · refine lv_dload_n hx hb dX2_sizeOf_103 rfl (lv_at hl 3 rfl) ?_
          refine lv_dload hx hb dX2_sizeOf_104 (lv_at hl 0 rfl) ?_
          refine lv_dmul hx hb dX2_sizeOf_106 (n64.mpr (sz_prod hc2 hI h0 hq (by have hc := c14; rw [(sz_cmp hc1 hc2 hSc hq).1] at hc; exact hc)).ne) ?_
          refine lv_topd (fun v15 ev15 => ?_)
          refine lv_ldc2d hx hb hown (hts (.constantDouble RX2 81 (4611686018427387904)) (by decide +kernel)) dX2_sizeOf_107 ?_
          refine lv_dcmp hx hb dX2_sizeOf_110 ?_
          refine lv_if_ge (tgt := 126) hx hb dX2_sizeOf_111 (by decide) (fun c16 => ?_) (fun c16 => ?_)
          · refine lv_iload hx hb dX2_sizeOf_126 (lv_at hl 5 rfl) ?_
            refine lv_iconst (v := 1) hx hb dX2_sizeOf_128 (by decide) ?_
            refine lv_ishr hx hb dX2_sizeOf_129 ?_
            refine lv_topi (fun v17 ev17 => ?_)
            refine lv_istore (lv' := [(6, .int v17), (7, .double r13), (0, .ref (ad 1)), (1, .double x), (3, .double S), (5, .int w)]) hx hb dX2_sizeOf_130 hl (by decide) rfl (fun ls hl => ?_)
            refine lv_goto (tgt := 69) hx hb dX2_sizeOf_132 (by decide) ?_
            exact K (g, u - 1, S, w, v17) ls (by rw [ev17, hT, sz_shr hu h0]; exact sz_no hI h0 (by have hc := c14; rw [(sz_cmp hc1 hc2 hSc hq).1] at hc; exact hc) (by have hc := c16; rw [ev15, (sz_cmp hc1 hc2 (sz_prod hc2 hI h0 hq (by have hc := c14; rw [(sz_cmp hc1 hc2 hSc hq).1] at hc; exact hc)) pw_two).2] at hc; exact hc)) (by show u - 1 < u; omega) (lv_sub hl [2, 3, 4, 5, 0] rfl)
          · refine lv_dload_n hx hb dX2_sizeOf_114 rfl (lv_at hl 3 rfl) ?_
            refine lv_dload hx hb dX2_sizeOf_115 (lv_at hl 0 rfl) ?_
            refine lv_dmul hx hb dX2_sizeOf_117 (n64.mpr (sz_prod hc2 hI h0 hq (by have hc := c14; rw [(sz_cmp hc1 hc2 hSc hq).1] at hc; exact hc)).ne) ?_
            refine lv_topd (fun v18 ev18 => ?_)
            refine lv_dstore_n (lv' := [(3, .double v18), (7, .double r13), (0, .ref (ad 1)), (1, .double x), (5, .int w), (6, .int t)]) hx hb dX2_sizeOf_118 rfl hl (by decide) rfl (fun ls hl => ?_)
            refine lv_iload hx hb dX2_sizeOf_119 (lv_at hl 4 rfl) ?_
            refine lv_iload hx hb dX2_sizeOf_121 (lv_at hl 5 rfl) ?_
            refine lv_isub hx hb dX2_sizeOf_123 ?_
            refine lv_topi (fun v19 ev19 => ?_)
            refine lv_istore (lv' := [(5, .int v19), (3, .double v18), (7, .double r13), (0, .ref (ad 1)), (1, .double x), (6, .int t)]) hx hb dX2_sizeOf_124 hl (by decide) rfl (fun ls hl => ?_)
            refine lv_iload hx hb dX2_sizeOf_126 (lv_at hl 5 rfl) ?_
            refine lv_iconst (v := 1) hx hb dX2_sizeOf_128 (by decide) ?_
            refine lv_ishr hx hb dX2_sizeOf_129 ?_
            refine lv_topi (fun v20 ev20 => ?_)
            refine lv_istore (lv' := [(6, .int v20), (5, .int v19), (3, .double v18), (7, .double r13), (0, .ref (ad 1)), (1, .double x)]) hx hb dX2_sizeOf_130 hl (by decide) rfl (fun ls hl => ?_)
            refine lv_goto (tgt := 69) hx hb dX2_sizeOf_132 (by decide) ?_
            exact K (g + 2 ^ (u - 1), u - 1, v18, v19, v20) ls (by rw [ev20, hT, sz_shr hu h0, ev18]; exact sz_mul hc1 hc2 hI h0 hq (by have hc := c16; rw [ev15, (sz_cmp hc1 hc2 (sz_prod hc2 hI h0 hq (by have hc := c14; rw [(sz_cmp hc1 hc2 hSc hq).1] at hc; exact hc)) pw_two).2] at hc; exact Nat.lt_of_not_le hc) hg0 ev19) (by show u - 1 < u; omega) (lv_sub hl [4, 5, 2, 1, 0] rfl)
        · refine lv_dload_n hx hb dX2_sizeOf_88 rfl (lv_at hl 3 rfl) ?_
          refine lv_dload hx hb dX2_sizeOf_89 (lv_at hl 0 rfl) ?_
          refine lv_ddiv hx hb dX2_sizeOf_91 (n64.mpr (divP hSc hc2 hq (by have hc := c14; rw [(sz_cmp hc1 hc2 hSc hq).1] at hc; have := (sz_t hu h0).2; omega) hI.2.2.2.2.2.2).ne) ?_
          refine lv_topd (fun v21 ev21 => ?_)
          refine lv_dstore_n (lv' := [(3, .double v21), (7, .double r13), (0, .ref (ad 1)), (1, .double x), (5, .int w), (6, .int t)]) hx hb dX2_sizeOf_92 rfl hl (by decide) rfl (fun ls hl => ?_)
          refine lv_iload hx hb dX2_sizeOf_93 (lv_at hl 4 rfl) ?_
          refine lv_iload hx hb dX2_sizeOf_95 (lv_at hl 5 rfl) ?_
          refine lv_iadd hx hb dX2_sizeOf_97 ?_
          refine lv_topi (fun v22 ev22 => ?_)
          refine lv_istore (lv' := [(5, .int v22), (3, .double v21), (7, .double r13), (0, .ref (ad 1)), (1, .double x), (6, .int t)]) hx hb dX2_sizeOf_98 hl (by decide) rfl (fun ls hl => ?_)
          refine lv_goto (tgt := 126) hx hb dX2_sizeOf_100 (by decide) ?_
          refine lv_iload hx hb dX2_sizeOf_126 (lv_at hl 5 rfl) ?_
          refine lv_iconst (v := 1) hx hb dX2_sizeOf_128 (by decide) ?_
          refine lv_ishr hx hb dX2_sizeOf_129 ?_
          refine lv_topi (fun v23 ev23 => ?_)
          refine lv_istore (lv' := [(6, .int v23), (5, .int v22), (3, .double v21), (7, .double r13), (0, .ref (ad 1)), (1, .double x)]) hx hb dX2_sizeOf_130 hl (by decide) rfl (fun ls hl => ?_)
          refine lv_goto (tgt := 69) hx hb dX2_sizeOf_132 (by decide) ?_
          exact K (g - 2 ^ (u - 1), u - 1, v21, v22, v23) ls (by rw [ev23, hT, sz_shr hu h0, ev21]; exact sz_div hc1 hc2 hI h0 hq (by have hc := c14; rw [(sz_cmp hc1 hc2 hSc hq).1] at hc; omega) hg0 ev22) (by show u - 1 < u; omega) (lv_sub hl [4, 5, 2, 1, 0] rfl)
    · have hsub : x.toNat < 2 ^ 52 := by have hc := c4; rw [low1 hPx hp0] at hc; omega
      refine lv_aload_n hx hb dX2_sizeOf_24 rfl (lv_at hl 0 rfl) ?_
      refine va_getE (i := 1) (q := eF[0]) hx hb hE (by decide) hS hown (List.getElem_mem _) (hts (.fieldLink RX2 29 "RopeDrums$Form" "fraction" "I") (by decide +kernel)) (fun _ h9 => h9) dX2_sizeOf_25 ?_
      refine W.eq (g2 := F0 m 28 ls [.int 52]) rfl ?_
      refine lv_aload_n hx hb dX2_sizeOf_28 rfl (lv_at hl 0 rfl) ?_
      refine va_getE (i := 1) (q := eF[1]) hx hb hE (by decide) hS hown (List.getElem_mem _) (hts (.fieldLink RX2 33 "RopeDrums$Form" "lowest" "I") (by decide +kernel)) (fun _ h9 => h9) dX2_sizeOf_29 ?_
      refine W.eq (g2 := F0 m 32 ls [.int (-1022), .int 52]) rfl ?_
      refine lv_isub hx hb dX2_sizeOf_32 ?_
      refine lv_topi (fun v24 ev24 => ?_)
      refine lv_iconst (v := 2) hx hb dX2_sizeOf_33 (by decide) ?_
      refine lv_idiv hx hb dX2_sizeOf_34 (by decide) ?_
      refine lv_topi (fun v25 ev25 => ?_)
      refine lv_istore_n (lv' := [(3, .int v25), (0, .ref (ad 1)), (1, .double x)]) hx hb dX2_sizeOf_35 rfl hl (by decide) rfl (fun ls hl => ?_)
      refine lv_dload_n hx hb dX2_sizeOf_36 rfl (lv_at hl 2 rfl) ?_
      refine lv_iload_n hx hb dX2_sizeOf_37 rfl (lv_at hl 0 rfl) ?_
      refine vp_callSd (cr_of (va_runSN (As := [.int v25]) (rest := [.double x]) ⟨hx, hb, hml, hown, hts⟩ (c_powerOfTwo l v25 537 (by rw [ev25, ev24]; decide) (by decide) (by decide)) (⟨va_cnB 1 hts gX2_sizeOf_X8_powerOfTwo_n65 rfl rfl rfl hN.1 (hts (.initialized RX8) (by decide +kernel)) (by decide +kernel) ⟨Nat.le_of_ble_eq_true rfl, Nat.le_of_ble_eq_true rfl⟩, hts (.static yX8_powerOfTwo) (by decide +kernel), trivial⟩) (preS_of okT (trivial)) rfl rfl hl.1 rfl (lv_room (Nat.le_of_ble_eq_true rfl)) dX2_sizeOf_38 ⟨Nat.le_of_ble_eq_true rfl, Nat.le_of_ble_eq_true rfl⟩)) (fun r26 hr26 => ?_)
      have hp1 := hr26
      refine lv_dmul hx hb dX2_sizeOf_41 (n64.mpr (sub1 hsub hPx hp1 (hp1)).1) ?_
      refine lv_topd (fun v27 ev27 => ?_)
      refine lv_aload_n hx hb dX2_sizeOf_42 rfl (lv_at hl 1 rfl) ?_
      refine va_getE (i := 1) (q := eF[0]) hx hb hE (by decide) hS hown (List.getElem_mem _) (hts (.fieldLink RX2 29 "RopeDrums$Form" "fraction" "I") (by decide +kernel)) (fun _ h9 => h9) dX2_sizeOf_43 ?_
      refine W.eq (g2 := F0 m 46 ls [.int 52, .double v27]) rfl ?_
      refine lv_aload_n hx hb dX2_sizeOf_46 rfl (lv_at hl 1 rfl) ?_
      refine va_getE (i := 1) (q := eF[1]) hx hb hE (by decide) hS hown (List.getElem_mem _) (hts (.fieldLink RX2 33 "RopeDrums$Form" "lowest" "I") (by decide +kernel)) (fun _ h9 => h9) dX2_sizeOf_47 ?_
      refine W.eq (g2 := F0 m 50 ls [.int (-1022), .int 52, .double v27]) rfl ?_
      refine lv_isub hx hb dX2_sizeOf_50 ?_
      refine lv_topi (fun v28 ev28 => ?_)
      refine lv_iload_n hx hb dX2_sizeOf_51 rfl (lv_at hl 0 rfl) ?_
      refine lv_isub hx hb dX2_sizeOf_52 ?_
      refine lv_topi (fun v29 ev29 => ?_)
      refine vp_callSd (cr_of (va_runSN (As := [.int v29]) (rest := [.double v27]) ⟨hx, hb, hml, hown, hts⟩ (c_powerOfTwo l v29 537 (by rw [ev29, ev28, ev25, ev24]; decide) (by decide) (by decide)) (⟨va_cnB 1 hts gX2_sizeOf_X8_powerOfTwo_n65 rfl rfl rfl hN.1 (hts (.initialized RX8) (by decide +kernel)) (by decide +kernel) ⟨Nat.le_of_ble_eq_true rfl, Nat.le_of_ble_eq_true rfl⟩, hts (.static yX8_powerOfTwo) (by decide +kernel), trivial⟩) (preS_of okT (trivial)) rfl rfl hl.1 rfl (lv_room (Nat.le_of_ble_eq_true rfl)) dX2_sizeOf_53 ⟨Nat.le_of_ble_eq_true rfl, Nat.le_of_ble_eq_true rfl⟩)) (fun r30 hr30 => ?_)
      have hp2 := hr30
      refine lv_dmul hx hb dX2_sizeOf_56 (n64.mpr (by rw [ev27]; exact (sub1 hsub hPx hp1 hp2).2.1)) ?_
      refine lv_topd (fun v31 ev31 => ?_)
      refine lv_d2l hx hb dX2_sizeOf_57 ?_
      refine lv_topl (fun v32 ev32 => ?_)
      exact W.lret (v := v32) hx hb hr (fun t ht hW => ⟨v32, rfl, (by rw [ev32, ev31, ev27]; exact (sub1 hsub hPx hp1 hp2).2.2), ht⟩) (fun q hq => absurd hq List.not_mem_nil) dX2_sizeOf_58
  · have hkE2 : x.toNat = 9218868437227405312 := by have hc := c2; rw [hr1, hend] at hc; by_cases q : x.toNat = 9218868437227405312; exact q; exact absurd (if_neg q) hc
    refine lv_aload_n hx hb dX2_sizeOf_7 rfl (lv_at hl 0 rfl) ?_
    refine vp_callSl (W.runV (As := []) (rest := []) ⟨hx, hb, hml, hown, hts⟩ (c_endlessSize_1 l ad ) (cwV 0 hts gX2_sizeOf_X2_endlessSize rfl rfl rfl (by decide +kernel) ⟨Nat.le_of_ble_eq_true rfl, Nat.le_of_ble_eq_true rfl⟩) (preV_of okE (⟨hE, hN⟩) (va_recvE hE (by decide) hS)) rfl rfl hl.1 rfl (lv_room (Nat.le_of_ble_eq_true rfl)) dX2_sizeOf_8 ⟨Nat.le_of_ble_eq_true rfl, Nat.le_of_ble_eq_true rfl⟩) (fun r33 hr33 => ?_)
    exact W.lret (v := r33) hx hb hr (fun t ht hW => ⟨r33, rfl, (by rw [hr33, ends1, hkE2]), ht⟩) (fun q hq => absurd hq List.not_mem_nil) dX2_sizeOf_11

set_option maxHeartbeats 8000000 in
set_option maxRecDepth 100000 in
theorem c_sizeOf_0 (l : Launch) (ad : Nat → Nat) (x : UInt64) (k : Nat) (hk0 : k ≤ 2139095040) (hxk : x = FP.f2d (UInt32.ofNat k))  : Met l yX2_sizeOf wsX2_sizeOf ({ frames := 2, cells := 0, slots := 0, locals := 46 }) (va_Pc [.ref (ad 0), .double x] (fun U => bE ad U U.heap)) (vp_Sl (fun r : Int64 => r = lN k)) 0 0 (fun _ => False) := by
  refine Met.ofW (cc := cX2_sizeOf) (maxL := 9) (ret := (some .long)) (by decide) rfl ?_
  intro p e s m args below meth c s₁ B hml hv
  obtain ⟨rfl, hE, hN⟩ := hv
  have hx := B.exec
  have hb := B.bytes
  have hr := B.returns
  have hts := atoms_spec (ws := wsX2_sizeOf) B.pre
  have hown : s.vm.findClass RX2 = some m.cls := findClass_of_methodNamed B.named
  have hlocks := B.notSynchronized
  have hS : va_S (fun _ => False) s.heap s.heap [] := va_S.rf
  have hkE := hk0
  have hn : FP.Core.val64 x ≠ .nan := by rw [hxk]; exact (f2d_ok (nn0 hk0)).2
  have hend : q_isEndless x = if k = 2139095040 then 1 else 0 := by rw [endl hn, hxk]; simp only [f2d_bits hk0]
  have hl := lv_entry ([.ref (ad 0), .double x]) (n := 9) (Nat.le_of_ble_eq_true rfl)
  rw [lg_entry_eq]
  generalize (lg_sl ([.ref (ad 0), .double x]) ++ List.replicate (9 - (lg_sl ([.ref (ad 0), .double x])).length) Slot.unset).toArray = ls at hl ⊢
  have hl : lv_has ls 9 [(0, .ref (ad 0)), (1, .double x)] := hl
  refine lv_dload_n hx hb dX2_sizeOf_0 rfl (lv_at hl 1 rfl) ?_
  refine vp_callSi (cr_of (va_runSN (As := [.double x]) (rest := []) ⟨hx, hb, hml, hown, hts⟩ (c_isEndless l x) (⟨va_cnB 1 hts gX2_sizeOf_X8_isEndless_n77 rfl rfl rfl hN.2 (hts (.initialized RX8) (by decide +kernel)) (by decide +kernel) ⟨Nat.le_of_ble_eq_true rfl, Nat.le_of_ble_eq_true rfl⟩, hts (.static yX8_isEndless) (by decide +kernel), trivial⟩) (preS_of okT (trivial)) rfl rfl hl.1 rfl (lv_room (Nat.le_of_ble_eq_true rfl)) dX2_sizeOf_1 ⟨Nat.le_of_ble_eq_true rfl, Nat.le_of_ble_eq_true rfl⟩)) (fun r1 hr1 => ?_)
  refine lv_if_eq (tgt := 12) hx hb dX2_sizeOf_4 (by decide) (fun c2 => ?_) (fun c2 => ?_)
  · have hfin : k < 2139095040 := by have hc := c2; rw [hr1, hend] at hc; rcases Nat.lt_or_ge k 2139095040 with q | q; exact q; rw [if_pos (by omega)] at hc; exact absurd hc (by decide)
    have hPx : Pz x (stp 23 k * 2 ^ pwr 23 k * 2 ^ 925) := by rw [hxk]; exact f2d_nat hfin
    refine lv_dload_n hx hb dX2_sizeOf_12 rfl (lv_at hl 1 rfl) ?_
    refine lv_aload_n hx hb dX2_sizeOf_13 rfl (lv_at hl 0 rfl) ?_
    refine va_getE (i := 0) (q := eF[1]) hx hb hE (by decide) hS hown (List.getElem_mem _) (hts (.fieldLink RX2 33 "RopeDrums$Form" "lowest" "I") (by decide +kernel)) (fun _ h9 => h9) dX2_sizeOf_14 ?_
    refine W.eq (g2 := F0 m 17 ls [.int (-126), .double x]) rfl ?_
    refine vp_callSd (cr_of (va_runSN (As := [.int (-126)]) (rest := [.double x]) ⟨hx, hb, hml, hown, hts⟩ (c_powerOfTwo l (-126) (-126) (by decide) (by decide) (by decide)) (⟨va_cnB 1 hts gX2_sizeOf_X8_powerOfTwo_n65 rfl rfl rfl hN.1 (hts (.initialized RX8) (by decide +kernel)) (by decide +kernel) ⟨Nat.le_of_ble_eq_true rfl, Nat.le_of_ble_eq_true rfl⟩, hts (.static yX8_powerOfTwo) (by decide +kernel), trivial⟩) (preS_of okT (trivial)) rfl rfl hl.1 rfl (lv_room (Nat.le_of_ble_eq_true rfl)) dX2_sizeOf_17 ⟨Nat.le_of_ble_eq_true rfl, Nat.le_of_ble_eq_true rfl⟩)) (fun r3 hr3 => ?_)
    have hp0 := hr3
    refine lv_dcmp hx hb dX2_sizeOf_20 ?_
    refine lv_if_ge (tgt := 59) hx hb dX2_sizeOf_21 (by decide) (fun c4 => ?_) (fun c4 => ?_)
    · have hno : ¬ k < 2 ^ 23 := by have hc := c4; rw [low0 hPx hp0] at hc; omega
      obtain ⟨hc1, hc2, hg00, -⟩ := nor0 hno hfin
      have hg0 : pwr 23 k + 896 ≤ 2045 := by omega
      have hPx := nor0x hPx
      refine lv_dload_n hx hb dX2_sizeOf_59 rfl (lv_at hl 1 rfl) ?_
      refine lv_dstore_n (lv' := [(3, .double x), (0, .ref (ad 0)), (1, .double x)]) hx hb dX2_sizeOf_60 rfl hl (by decide) rfl (fun ls hl => ?_)
      refine lv_iconst (v := 0) hx hb dX2_sizeOf_61 (by decide) ?_
      refine lv_istore (lv' := [(5, .int 0), (3, .double x), (0, .ref (ad 0)), (1, .double x)]) hx hb dX2_sizeOf_62 hl (by decide) rfl (fun ls hl => ?_)
      refine lv_sipush (v := 512) hx hb dX2_sizeOf_64 (by decide) ?_
      refine lv_istore (lv' := [(6, .int 512), (5, .int 0), (3, .double x), (0, .ref (ad 0)), (1, .double x)]) hx hb dX2_sizeOf_67 hl (by decide) rfl (fun ls hl => ?_)
      refine lp_r (pc := 69) (nL := 9) (α := Nat × Nat × UInt64 × Int32 × Int32) (iv_sz (stp 23 k * 2 ^ 29) (pwr 23 k + 896)) (fun xx => [(0, .ref (ad 0)), (1, .double x), (3, .double xx.2.2.1), (5, .int xx.2.2.2.1), (6, .int xx.2.2.2.2)]) (fun xx => xx.2.1) (fun xx ls hI hl K => ?_) ((pwr 23 k + 896), 10, x, 0, 512) ls (sz_init hPx hg0) (lv_sub hl [3, 4, 2, 1, 0] rfl)
      obtain ⟨g, u, S, w, t⟩ := xx
      have hl : lv_has ls 9 [(0, .ref (ad 0)), (1, .double x), (3, .double S), (5, .int w), (6, .int t)] := hl
      have hT : t = nI (2 ^ u / 2) := hI.2.2.1
      have hu : u ≤ 10 := hI.2.2.2.1
      have hSc : Pz S ((stp 23 k * 2 ^ 29) * 2 ^ g) := hI.1
      refine lv_iload hx hb dX2_sizeOf_69 (lv_at hl 4 rfl) ?_
      refine lv_if_le (tgt := 135) hx hb dX2_sizeOf_71 (by decide) (fun c5 => ?_) (fun c5 => ?_)
      · obtain ⟨hSl, hwl⟩ := sz_last hI (sz_u0 hu (by rw [← hT]; exact c5))
        refine lv_iload hx hb dX2_sizeOf_135 (lv_at hl 3 rfl) ?_
        refine lv_aload_n hx hb dX2_sizeOf_137 rfl (lv_at hl 0 rfl) ?_
        refine va_getE (i := 0) (q := eF[1]) hx hb hE (by decide) hS hown (List.getElem_mem _) (hts (.fieldLink RX2 33 "RopeDrums$Form" "lowest" "I") (by decide +kernel)) (fun _ h9 => h9) dX2_sizeOf_138 ?_
        refine W.eq (g2 := F0 m 141 ls [.int (-126), .int w]) rfl ?_
        refine lv_isub hx hb dX2_sizeOf_141 ?_
        refine lv_topi (fun v6 ev6 => ?_)
        refine lv_i2l hx hb dX2_sizeOf_142 rfl ?_
        refine lv_topl (fun v7 ev7 => ?_)
        refine lv_aload_n hx hb dX2_sizeOf_143 rfl (lv_at hl 0 rfl) ?_
        refine va_getE (i := 0) (q := eF[0]) hx hb hE (by decide) hS hown (List.getElem_mem _) (hts (.fieldLink RX2 29 "RopeDrums$Form" "fraction" "I") (by decide +kernel)) (fun _ h9 => h9) dX2_sizeOf_144 ?_
        refine W.eq (g2 := F0 m 147 ls [.int 23, .long v7]) rfl ?_
        refine lv_lshl hx hb dX2_sizeOf_147 rfl ?_
        refine lv_topl (fun v8 ev8 => ?_)
        refine lv_dload_n hx hb dX2_sizeOf_148 rfl (lv_at hl 2 rfl) ?_
        refine lv_aload_n hx hb dX2_sizeOf_149 rfl (lv_at hl 0 rfl) ?_
        refine va_getE (i := 0) (q := eF[0]) hx hb hE (by decide) hS hown (List.getElem_mem _) (hts (.fieldLink RX2 29 "RopeDrums$Form" "fraction" "I") (by decide +kernel)) (fun _ h9 => h9) dX2_sizeOf_150 ?_
        refine W.eq (g2 := F0 m 153 ls [.int 23, .double S, .long v8]) rfl ?_
        refine vp_callSd (cr_of (va_runSN (As := [.int 23]) (rest := [.double S, .long v8]) ⟨hx, hb, hml, hown, hts⟩ (c_powerOfTwo l (23) (23) (by decide) (by decide) (by decide)) (⟨va_cnB 1 hts gX2_sizeOf_X8_powerOfTwo_n65 rfl rfl rfl hN.1 (hts (.initialized RX8) (by decide +kernel)) (by decide +kernel) ⟨Nat.le_of_ble_eq_true rfl, Nat.le_of_ble_eq_true rfl⟩, hts (.static yX8_powerOfTwo) (by decide +kernel), trivial⟩) (preS_of okT (trivial)) rfl rfl hl.1 rfl (lv_room (Nat.le_of_ble_eq_true rfl)) dX2_sizeOf_153 ⟨Nat.le_of_ble_eq_true rfl, Nat.le_of_ble_eq_true rfl⟩)) (fun r9 hr9 => ?_)
        have hp9 := hr9
        refine lv_dmul hx hb dX2_sizeOf_156 (n64.mpr (end0 hfin hno hSl hwl hp9).1) ?_
        refine lv_topd (fun v10 ev10 => ?_)
        refine lv_d2l hx hb dX2_sizeOf_157 ?_
        refine lv_topl (fun v11 ev11 => ?_)
        refine lv_ladd hx hb dX2_sizeOf_158 ?_
        refine lv_topl (fun v12 ev12 => ?_)
        exact W.lret (v := v12) hx hb hr (fun t ht hW => ⟨v12, rfl, (by subst ev12 ev11 ev10 ev8 ev7 ev6; exact (end0 hfin hno hSl hwl hp9).2), ht⟩) (fun q hq => absurd hq List.not_mem_nil) dX2_sizeOf_159
      · have h0 : u ≠ 0 := sz_u1 (by rw [← hT]; exact c5)
        refine lv_iload hx hb dX2_sizeOf_74 (lv_at hl 4 rfl) ?_
        refine vp_callSd (cr_of (va_runSN (As := [.int t]) (rest := []) ⟨hx, hb, hml, hown, hts⟩ (c_powerOfTwo l t ((2 ^ (u - 1) : Nat) : Int) (by rw [hT]; exact (sz_t hu h0).1) (by have := Nat.two_pow_pos (u - 1); omega) (by have := (sz_t hu h0).2; omega)) (⟨va_cnB 1 hts gX2_sizeOf_X8_powerOfTwo_n65 rfl rfl rfl hN.1 (hts (.initialized RX8) (by decide +kernel)) (by decide +kernel) ⟨Nat.le_of_ble_eq_true rfl, Nat.le_of_ble_eq_true rfl⟩, hts (.static yX8_powerOfTwo) (by decide +kernel), trivial⟩) (preS_of okT (trivial)) rfl rfl hl.1 rfl (lv_room (Nat.le_of_ble_eq_true rfl)) dX2_sizeOf_76 ⟨Nat.le_of_ble_eq_true rfl, Nat.le_of_ble_eq_true rfl⟩)) (fun r13 hr13 => ?_)
        have hq := sz_pw hr13
        refine lv_dstore (lv' := [(7, .double r13), (0, .ref (ad 0)), (1, .double x), (3, .double S), (5, .int w), (6, .int t)]) hx hb dX2_sizeOf_79 hl (by decide) rfl (fun ls hl => ?_)
        refine lv_dload_n hx hb dX2_sizeOf_81 rfl (lv_at hl 3 rfl) ?_
        refine lv_dload hx hb dX2_sizeOf_82 (lv_at hl 0 rfl) ?_
        refine lv_dcmp hx hb dX2_sizeOf_84 ?_
        refine lv_if_lt (tgt := 103) hx hb dX2_sizeOf_85 (by decide) (fun c14 => ?_) (fun c14 => ?_)
        · refine lv_dload_n hx hb dX2_sizeOf_103 rfl (lv_at hl 3 rfl) ?_
          refine lv_dload hx hb dX2_sizeOf_104 (lv_at hl 0 rfl) ?_
          refine lv_dmul hx hb dX2_sizeOf_106 (n64.mpr (sz_prod hc2 hI h0 hq (by have hc := c14; rw [(sz_cmp hc1 hc2 hSc hq).1] at hc; exact hc)).ne) ?_
          refine lv_topd (fun v15 ev15 => ?_)
          refine lv_ldc2d hx hb hown (hts (.constantDouble RX2 81 (4611686018427387904)) (by decide +kernel)) dX2_sizeOf_107 ?_
          refine lv_dcmp hx hb dX2_sizeOf_110 ?_
          refine lv_if_ge (tgt := 126) hx hb dX2_sizeOf_111 (by decide) (fun c16 => ?_) (fun c16 => ?_)
          · refine lv_iload hx hb dX2_sizeOf_126 (lv_at hl 5 rfl) ?_
            refine lv_iconst (v := 1) hx hb dX2_sizeOf_128 (by decide) ?_
            refine lv_ishr hx hb dX2_sizeOf_129 ?_
            refine lv_topi (fun v17 ev17 => ?_)
            refine lv_istore (lv' := [(6, .int v17), (7, .double r13), (0, .ref (ad 0)), (1, .double x), (3, .double S), (5, .int w)]) hx hb dX2_sizeOf_130 hl (by decide) rfl (fun ls hl => ?_)
            refine lv_goto (tgt := 69) hx hb dX2_sizeOf_132 (by decide) ?_
            exact K (g, u - 1, S, w, v17) ls (by rw [ev17, hT, sz_shr hu h0]; exact sz_no hI h0 (by have hc := c14; rw [(sz_cmp hc1 hc2 hSc hq).1] at hc; exact hc) (by have hc := c16; rw [ev15, (sz_cmp hc1 hc2 (sz_prod hc2 hI h0 hq (by have hc := c14; rw [(sz_cmp hc1 hc2 hSc hq).1] at hc; exact hc)) pw_two).2] at hc; exact hc)) (by show u - 1 < u; omega) (lv_sub hl [2, 3, 4, 5, 0] rfl)
          · refine lv_dload_n hx hb dX2_sizeOf_114 rfl (lv_at hl 3 rfl) ?_
            refine lv_dload hx hb dX2_sizeOf_115 (lv_at hl 0 rfl) ?_
            refine lv_dmul hx hb dX2_sizeOf_117 (n64.mpr (sz_prod hc2 hI h0 hq (by have hc := c14; rw [(sz_cmp hc1 hc2 hSc hq).1] at hc; exact hc)).ne) ?_
            refine lv_topd (fun v18 ev18 => ?_)
            refine lv_dstore_n (lv' := [(3, .double v18), (7, .double r13), (0, .ref (ad 0)), (1, .double x), (5, .int w), (6, .int t)]) hx hb dX2_sizeOf_118 rfl hl (by decide) rfl (fun ls hl => ?_)
            refine lv_iload hx hb dX2_sizeOf_119 (lv_at hl 4 rfl) ?_
            refine lv_iload hx hb dX2_sizeOf_121 (lv_at hl 5 rfl) ?_
            refine lv_isub hx hb dX2_sizeOf_123 ?_
            refine lv_topi (fun v19 ev19 => ?_)
            refine lv_istore (lv' := [(5, .int v19), (3, .double v18), (7, .double r13), (0, .ref (ad 0)), (1, .double x), (6, .int t)]) hx hb dX2_sizeOf_124 hl (by decide) rfl (fun ls hl => ?_)
            refine lv_iload hx hb dX2_sizeOf_126 (lv_at hl 5 rfl) ?_
            refine lv_iconst (v := 1) hx hb dX2_sizeOf_128 (by decide) ?_
            refine lv_ishr hx hb dX2_sizeOf_129 ?_
            refine lv_topi (fun v20 ev20 => ?_)
            refine lv_istore (lv' := [(6, .int v20), (5, .int v19), (3, .double v18), (7, .double r13), (0, .ref (ad 0)), (1, .double x)]) hx hb dX2_sizeOf_130 hl (by decide) rfl (fun ls hl => ?_)
            refine lv_goto (tgt := 69) hx hb dX2_sizeOf_132 (by decide) ?_
            exact K (g + 2 ^ (u - 1), u - 1, v18, v19, v20) ls (by rw [ev20, hT, sz_shr hu h0, ev18]; exact sz_mul hc1 hc2 hI h0 hq (by have hc := c16; rw [ev15, (sz_cmp hc1 hc2 (sz_prod hc2 hI h0 hq (by have hc := c14; rw [(sz_cmp hc1 hc2 hSc hq).1] at hc; exact hc)) pw_two).2] at hc; exact Nat.lt_of_not_le hc) hg0 ev19) (by show u - 1 < u; omega) (lv_sub hl [4, 5, 2, 1, 0] rfl)
        · refine lv_dload_n hx hb dX2_sizeOf_88 rfl (lv_at hl 3 rfl) ?_
          refine lv_dload hx hb dX2_sizeOf_89 (lv_at hl 0 rfl) ?_
          refine lv_ddiv hx hb dX2_sizeOf_91 (n64.mpr (divP hSc hc2 hq (by have hc := c14; rw [(sz_cmp hc1 hc2 hSc hq).1] at hc; have := (sz_t hu h0).2; omega) hI.2.2.2.2.2.2).ne) ?_
          refine lv_topd (fun v21 ev21 => ?_)
          refine lv_dstore_n (lv' := [(3, .double v21), (7, .double r13), (0, .ref (ad 0)), (1, .double x), (5, .int w), (6, .int t)]) hx hb dX2_sizeOf_92 rfl hl (by decide) rfl (fun ls hl => ?_)
          refine lv_iload hx hb dX2_sizeOf_93 (lv_at hl 4 rfl) ?_
          refine lv_iload hx hb dX2_sizeOf_95 (lv_at hl 5 rfl) ?_
          refine lv_iadd hx hb dX2_sizeOf_97 ?_
          refine lv_topi (fun v22 ev22 => ?_)
          refine lv_istore (lv' := [(5, .int v22), (3, .double v21), (7, .double r13), (0, .ref (ad 0)), (1, .double x), (6, .int t)]) hx hb dX2_sizeOf_98 hl (by decide) rfl (fun ls hl => ?_)
          refine lv_goto (tgt := 126) hx hb dX2_sizeOf_100 (by decide) ?_
          refine lv_iload hx hb dX2_sizeOf_126 (lv_at hl 5 rfl) ?_
          refine lv_iconst (v := 1) hx hb dX2_sizeOf_128 (by decide) ?_
          refine lv_ishr hx hb dX2_sizeOf_129 ?_
          refine lv_topi (fun v23 ev23 => ?_)
          refine lv_istore (lv' := [(6, .int v23), (5, .int v22), (3, .double v21), (7, .double r13), (0, .ref (ad 0)), (1, .double x)]) hx hb dX2_sizeOf_130 hl (by decide) rfl (fun ls hl => ?_)
          refine lv_goto (tgt := 69) hx hb dX2_sizeOf_132 (by decide) ?_
          exact K (g - 2 ^ (u - 1), u - 1, v21, v22, v23) ls (by rw [ev23, hT, sz_shr hu h0, ev21]; exact sz_div hc1 hc2 hI h0 hq (by have hc := c14; rw [(sz_cmp hc1 hc2 hSc hq).1] at hc; omega) hg0 ev22) (by show u - 1 < u; omega) (lv_sub hl [4, 5, 2, 1, 0] rfl)
    · have hsub : k < 2 ^ 23 := by have hc := c4; rw [low0 hPx hp0] at hc; omega
      refine lv_aload_n hx hb dX2_sizeOf_24 rfl (lv_at hl 0 rfl) ?_
      refine va_getE (i := 0) (q := eF[0]) hx hb hE (by decide) hS hown (List.getElem_mem _) (hts (.fieldLink RX2 29 "RopeDrums$Form" "fraction" "I") (by decide +kernel)) (fun _ h9 => h9) dX2_sizeOf_25 ?_
      refine W.eq (g2 := F0 m 28 ls [.int 23]) rfl ?_
      refine lv_aload_n hx hb dX2_sizeOf_28 rfl (lv_at hl 0 rfl) ?_
      refine va_getE (i := 0) (q := eF[1]) hx hb hE (by decide) hS hown (List.getElem_mem _) (hts (.fieldLink RX2 33 "RopeDrums$Form" "lowest" "I") (by decide +kernel)) (fun _ h9 => h9) dX2_sizeOf_29 ?_
      refine W.eq (g2 := F0 m 32 ls [.int (-126), .int 23]) rfl ?_
      refine lv_isub hx hb dX2_sizeOf_32 ?_
      refine lv_topi (fun v24 ev24 => ?_)
      refine lv_iconst (v := 2) hx hb dX2_sizeOf_33 (by decide) ?_
      refine lv_idiv hx hb dX2_sizeOf_34 (by decide) ?_
      refine lv_topi (fun v25 ev25 => ?_)
      refine lv_istore_n (lv' := [(3, .int v25), (0, .ref (ad 0)), (1, .double x)]) hx hb dX2_sizeOf_35 rfl hl (by decide) rfl (fun ls hl => ?_)
      refine lv_dload_n hx hb dX2_sizeOf_36 rfl (lv_at hl 2 rfl) ?_
      refine lv_iload_n hx hb dX2_sizeOf_37 rfl (lv_at hl 0 rfl) ?_
      refine vp_callSd (cr_of (va_runSN (As := [.int v25]) (rest := [.double x]) ⟨hx, hb, hml, hown, hts⟩ (c_powerOfTwo l v25 74 (by rw [ev25, ev24]; decide) (by decide) (by decide)) (⟨va_cnB 1 hts gX2_sizeOf_X8_powerOfTwo_n65 rfl rfl rfl hN.1 (hts (.initialized RX8) (by decide +kernel)) (by decide +kernel) ⟨Nat.le_of_ble_eq_true rfl, Nat.le_of_ble_eq_true rfl⟩, hts (.static yX8_powerOfTwo) (by decide +kernel), trivial⟩) (preS_of okT (trivial)) rfl rfl hl.1 rfl (lv_room (Nat.le_of_ble_eq_true rfl)) dX2_sizeOf_38 ⟨Nat.le_of_ble_eq_true rfl, Nat.le_of_ble_eq_true rfl⟩)) (fun r26 hr26 => ?_)
      have hp1 := hr26
      refine lv_dmul hx hb dX2_sizeOf_41 (n64.mpr (sub0 hsub hPx hp1 ((Pz.two _ (by decide)).choose_spec)).1) ?_
      refine lv_topd (fun v27 ev27 => ?_)
      refine lv_aload_n hx hb dX2_sizeOf_42 rfl (lv_at hl 1 rfl) ?_
      refine va_getE (i := 0) (q := eF[0]) hx hb hE (by decide) hS hown (List.getElem_mem _) (hts (.fieldLink RX2 29 "RopeDrums$Form" "fraction" "I") (by decide +kernel)) (fun _ h9 => h9) dX2_sizeOf_43 ?_
      refine W.eq (g2 := F0 m 46 ls [.int 23, .double v27]) rfl ?_
      refine lv_aload_n hx hb dX2_sizeOf_46 rfl (lv_at hl 1 rfl) ?_
      refine va_getE (i := 0) (q := eF[1]) hx hb hE (by decide) hS hown (List.getElem_mem _) (hts (.fieldLink RX2 33 "RopeDrums$Form" "lowest" "I") (by decide +kernel)) (fun _ h9 => h9) dX2_sizeOf_47 ?_
      refine W.eq (g2 := F0 m 50 ls [.int (-126), .int 23, .double v27]) rfl ?_
      refine lv_isub hx hb dX2_sizeOf_50 ?_
      refine lv_topi (fun v28 ev28 => ?_)
      refine lv_iload_n hx hb dX2_sizeOf_51 rfl (lv_at hl 0 rfl) ?_
      refine lv_isub hx hb dX2_sizeOf_52 ?_
      refine lv_topi (fun v29 ev29 => ?_)
      refine vp_callSd (cr_of (va_runSN (As := [.int v29]) (rest := [.double v27]) ⟨hx, hb, hml, hown, hts⟩ (c_powerOfTwo l v29 75 (by rw [ev29, ev28, ev25, ev24]; decide) (by decide) (by decide)) (⟨va_cnB 1 hts gX2_sizeOf_X8_powerOfTwo_n65 rfl rfl rfl hN.1 (hts (.initialized RX8) (by decide +kernel)) (by decide +kernel) ⟨Nat.le_of_ble_eq_true rfl, Nat.le_of_ble_eq_true rfl⟩, hts (.static yX8_powerOfTwo) (by decide +kernel), trivial⟩) (preS_of okT (trivial)) rfl rfl hl.1 rfl (lv_room (Nat.le_of_ble_eq_true rfl)) dX2_sizeOf_53 ⟨Nat.le_of_ble_eq_true rfl, Nat.le_of_ble_eq_true rfl⟩)) (fun r30 hr30 => ?_)
      have hp2 := hr30
      refine lv_dmul hx hb dX2_sizeOf_56 (n64.mpr (by rw [ev27]; exact (sub0 hsub hPx hp1 hp2).2.1)) ?_
      refine lv_topd (fun v31 ev31 => ?_)
      refine lv_d2l hx hb dX2_sizeOf_57 ?_
      refine lv_topl (fun v32 ev32 => ?_)
      exact W.lret (v := v32) hx hb hr (fun t ht hW => ⟨v32, rfl, (by rw [ev32, ev31, ev27]; exact (sub0 hsub hPx hp1 hp2).2.2), ht⟩) (fun q hq => absurd hq List.not_mem_nil) dX2_sizeOf_58
  · have hkE2 : k = 2139095040 := by have hc := c2; rw [hr1, hend] at hc; by_cases q : k = 2139095040; exact q; exact absurd (if_neg q) hc
    refine lv_aload_n hx hb dX2_sizeOf_7 rfl (lv_at hl 0 rfl) ?_
    refine vp_callSl (W.runV (As := []) (rest := []) ⟨hx, hb, hml, hown, hts⟩ (c_endlessSize_0 l ad ) (cwV 0 hts gX2_sizeOf_X2_endlessSize rfl rfl rfl (by decide +kernel) ⟨Nat.le_of_ble_eq_true rfl, Nat.le_of_ble_eq_true rfl⟩) (preV_of okE (⟨hE, hN⟩) (va_recvE hE (by decide) hS)) rfl rfl hl.1 rfl (lv_room (Nat.le_of_ble_eq_true rfl)) dX2_sizeOf_8 ⟨Nat.le_of_ble_eq_true rfl, Nat.le_of_ble_eq_true rfl⟩) (fun r33 hr33 => ?_)
    exact W.lret (v := r33) hx hb hr (fun t ht hW => ⟨r33, rfl, (by rw [hr33, ends0, hkE2]), ht⟩) (fun q hq => absurd hq List.not_mem_nil) dX2_sizeOf_11
