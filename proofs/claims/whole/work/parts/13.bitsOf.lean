set_option maxHeartbeats 8000000 in
set_option maxRecDepth 100000 in
theorem c_bitsOf_1 (l : Launch) (ad : Nat → Nat) (x : UInt64) (hn : FP.Core.val64 x ≠ .nan)  : Met l yX2_bitsOf wsX2_bitsOf ({ frames := 3, cells := 0, slots := 0, locals := 74 }) (va_Pc [.ref (ad 1), .double x] (fun U => bE ad U U.heap)) (vp_Sl (fun r : Int64 => r = lN x.toNat)) 0 0 (fun _ => False) := by
  refine Met.ofW (cc := cX2_bitsOf) (maxL := 6) (ret := (some .long)) (by decide) rfl ?_
  intro p e s m args below meth c s₁ B hml hv
  obtain ⟨rfl, hE, hN⟩ := hv
  have hx := B.exec
  have hb := B.bytes
  have hr := B.returns
  have hts := atoms_spec (ws := wsX2_bitsOf) B.pre
  have hown : s.vm.findClass RX2 = some m.cls := findClass_of_methodNamed B.named
  have hlocks := B.notSynchronized
  have hS : va_S (fun _ => False) s.heap s.heap [] := va_S.rf
  have hl := lv_entry ([.ref (ad 1), .double x]) (n := 6) (Nat.le_of_ble_eq_true rfl)
  rw [lg_entry_eq]
  generalize (lg_sl ([.ref (ad 1), .double x]) ++ List.replicate (6 - (lg_sl ([.ref (ad 1), .double x])).length) Slot.unset).toArray = ls at hl ⊢
  have hl : lv_has ls 6 [(0, .ref (ad 1)), (1, .double x)] := hl
  refine jn_i (pc := 25) (ls := ls) (rest := []) (fun v => v = if 2 ^ 63 ≤ x.toNat then 1 else 0) (fun j1 hj1 => ?_) (fun K => ?_)
  · refine lv_istore_n (lv' := [(3, .int j1), (0, .ref (ad 1)), (1, .double x)]) hx hb dX2_bitsOf_25 rfl hl (by decide) rfl (fun ls hl => ?_)
    refine lv_aload_n hx hb dX2_bitsOf_26 rfl (lv_at hl 1 rfl) ?_
    refine lv_iload_n hx hb dX2_bitsOf_27 rfl (lv_at hl 0 rfl) ?_
    refine lv_if_eq (tgt := 36) hx hb dX2_bitsOf_28 (by decide) (fun c2 => ?_) (fun c2 => ?_)
    · have hsm : ¬ 2 ^ 63 ≤ x.toNat := fun q => by have hc := c2; rw [hj1, if_pos q] at hc; exact absurd hc (by decide)
      refine lv_dload_n hx hb dX2_bitsOf_36 rfl (lv_at hl 2 rfl) ?_
      refine vp_callSl (W.runV (As := [.double x]) (rest := []) ⟨hx, hb, hml, hown, hts⟩ (c_sizeOf_1 l ad x (by omega) hn) (cwV 1 hts gX2_bitsOf_X2_sizeOf rfl rfl rfl (by decide +kernel) ⟨Nat.le_of_ble_eq_true rfl, Nat.le_of_ble_eq_true rfl⟩) (preV_of okE (⟨hE, hN⟩) (va_recvE hE (by decide) hS)) rfl rfl hl.1 rfl (lv_room (Nat.le_of_ble_eq_true rfl)) dX2_bitsOf_37 ⟨Nat.le_of_ble_eq_true rfl, Nat.le_of_ble_eq_true rfl⟩) (fun r3 hr3 => ?_)
      refine lv_lstore (lv' := [(4, .long r3), (3, .int j1), (0, .ref (ad 1)), (1, .double x)]) hx hb dX2_bitsOf_40 hl (by decide) rfl (fun ls hl => ?_)
      refine lv_iload_n hx hb dX2_bitsOf_42 rfl (lv_at hl 1 rfl) ?_
      refine lv_if_eq (tgt := 60) hx hb dX2_bitsOf_43 (by decide) (fun c4 => ?_) (fun c4 => absurd (c2) c4)
      refine lv_lload hx hb dX2_bitsOf_60 (lv_at hl 0 rfl) ?_
      exact W.lret (v := r3) hx hb hr (fun t ht hW => ⟨r3, rfl, hr3, ht⟩) (fun q hq => absurd hq List.not_mem_nil) dX2_bitsOf_62
    · have hbig : 2 ^ 63 ≤ x.toNat := Decidable.byContradiction (fun q => c2 (by rw [hj1, if_neg q]))
      refine lv_dload_n hx hb dX2_bitsOf_31 rfl (lv_at hl 2 rfl) ?_
      refine lv_dneg hx hb dX2_bitsOf_32 ?_
      refine lv_topd (fun v5 ev5 => ?_)
      refine lv_goto (tgt := 37) hx hb dX2_bitsOf_33 (by decide) ?_
      refine vp_callSl (W.runV (As := [.double v5]) (rest := []) ⟨hx, hb, hml, hown, hts⟩ (c_sizeOf_1 l ad v5 (by rw [ev5, dneg_big hbig]; have := UInt64.toNat_lt x; omega) (by rw [ev5]; exact dneg_ne hn)) (cwV 1 hts gX2_bitsOf_X2_sizeOf rfl rfl rfl (by decide +kernel) ⟨Nat.le_of_ble_eq_true rfl, Nat.le_of_ble_eq_true rfl⟩) (preV_of okE (⟨hE, hN⟩) (va_recvE hE (by decide) hS)) rfl rfl hl.1 rfl (lv_room (Nat.le_of_ble_eq_true rfl)) dX2_bitsOf_37 ⟨Nat.le_of_ble_eq_true rfl, Nat.le_of_ble_eq_true rfl⟩) (fun r6 hr6 => ?_)
      refine lv_lstore (lv' := [(4, .long r6), (3, .int j1), (0, .ref (ad 1)), (1, .double x)]) hx hb dX2_bitsOf_40 hl (by decide) rfl (fun ls hl => ?_)
      refine lv_iload_n hx hb dX2_bitsOf_42 rfl (lv_at hl 1 rfl) ?_
      refine lv_if_eq (tgt := 60) hx hb dX2_bitsOf_43 (by decide) (fun c7 => absurd c7 (c2)) (fun c7 => ?_)
      refine lv_lload hx hb dX2_bitsOf_46 (lv_at hl 0 rfl) ?_
      refine lv_ldc2 hx hb hown (hts (.constantLong RX2 75 (-1)) (by decide +kernel)) dX2_bitsOf_48 ?_
      refine lv_aload_n hx hb dX2_bitsOf_51 rfl (lv_at hl 2 rfl) ?_
      refine va_getE (i := 1) (q := eF[3]) hx hb hE (by decide) hS hown (List.getElem_mem _) (hts (.fieldLink RX2 39 "RopeDrums$Form" "sign" "I") (by decide +kernel)) (fun _ h9 => h9) dX2_bitsOf_52 ?_
      refine W.eq (g2 := F0 m 55 ls [.int 63, .long (-1), .long r6]) rfl ?_
      refine lv_lshl hx hb dX2_bitsOf_55 rfl ?_
      refine lv_topl (fun v8 ev8 => ?_)
      refine lv_lor hx hb dX2_bitsOf_56 ?_
      refine lv_topl (fun v9 ev9 => ?_)
      refine lv_goto (tgt := 62) hx hb dX2_bitsOf_57 (by decide) ?_
      exact W.lret (v := v9) hx hb hr (fun t ht hW => ⟨v9, rfl, (by rw [ev9, ev8, hr6, ev5, dneg_big hbig, or63 (by have := UInt64.toNat_lt x; omega)]; congr 1; omega), ht⟩) (fun q hq => absurd hq List.not_mem_nil) dX2_bitsOf_62
  · refine lv_dload_n hx hb dX2_bitsOf_0 rfl (lv_at hl 1 rfl) ?_
    refine lv_dconst0 hx hb dX2_bitsOf_1 ?_
    refine lv_dcmp hx hb dX2_bitsOf_2 ?_
    refine lv_if_lt (tgt := 20) hx hb dX2_bitsOf_3 (by decide) (fun c10 => ?_) (fun c10 => ?_)
    · refine lv_iconst (v := 1) hx hb dX2_bitsOf_20 (by decide) ?_
      refine lv_goto (tgt := 25) hx hb dX2_bitsOf_21 (by decide) ?_
      exact K _ (by rw [if_pos (dk_neg ((cv_lt _ _ _).mp (by have hc := c10; rw [cmp0 hn] at hc; exact hc)))])
    · refine lv_dload_n hx hb dX2_bitsOf_6 rfl (lv_at hl 1 rfl) ?_
      refine lv_dconst0 hx hb dX2_bitsOf_7 ?_
      refine lv_dcmp hx hb dX2_bitsOf_8 ?_
      refine lv_if_ne (tgt := 24) hx hb dX2_bitsOf_9 (by decide) (fun c11 => ?_) (fun c11 => ?_)
      · refine lv_iconst (v := 0) hx hb dX2_bitsOf_24 (by decide) ?_
        exact K _ (by rw [if_neg (dk_pos (fun q => c10 (by rw [cmp0 hn, cv_lt]; exact q)) (fun q => c11 (by rw [cmp0 hn, cv_eq]; exact q)))])
      · refine lv_dconst1 hx hb dX2_bitsOf_12 ?_
        refine lv_dload_n hx hb dX2_bitsOf_13 rfl (lv_at hl 1 rfl) ?_
        refine lv_ddiv hx hb dX2_bitsOf_14 (n64.mpr (one_over (dk_zero ((cv_eq _ _ _).mp (by have hc := c11; rw [cmp0 hn] at hc; exact hc)))).1) ?_
        refine lv_topd (fun v12 ev12 => ?_)
        refine lv_dconst0 hx hb dX2_bitsOf_15 ?_
        refine lv_dcmp hx hb dX2_bitsOf_16 ?_
        refine lv_if_ge (tgt := 24) hx hb dX2_bitsOf_17 (by decide) (fun c13 => ?_) (fun c13 => ?_)
        · refine lv_iconst (v := 0) hx hb dX2_bitsOf_24 (by decide) ?_
          exact K _ (by rw [if_neg ((one_over (dk_zero ((cv_eq _ _ _).mp (by have hc := c11; rw [cmp0 hn] at hc; exact hc)))).2.mp (by rw [← ev12]; exact c13))])
        · refine lv_iconst (v := 1) hx hb dX2_bitsOf_20 (by decide) ?_
          refine lv_goto (tgt := 25) hx hb dX2_bitsOf_21 (by decide) ?_
          exact K _ (by rw [if_pos (Decidable.byContradiction (fun q => c13 (by rw [ev12]; exact (one_over (dk_zero ((cv_eq _ _ _).mp (by have hc := c11; rw [cmp0 hn] at hc; exact hc)))).2.mpr q)))])

set_option maxHeartbeats 8000000 in
set_option maxRecDepth 100000 in
theorem c_bitsOf_0 (l : Launch) (ad : Nat → Nat) (x : UInt64) (n : Nat) (hn32 : n < 2 ^ 32) (hnum : n % 2 ^ 31 ≤ 2139095040) (hxn : x = FP.f2d (UInt32.ofNat n))  : Met l yX2_bitsOf wsX2_bitsOf ({ frames := 3, cells := 0, slots := 0, locals := 74 }) (va_Pc [.ref (ad 0), .double x] (fun U => bE ad U U.heap)) (vp_Sl (fun r : Int64 => r = (nI n).toInt64)) 0 0 (fun _ => False) := by
  refine Met.ofW (cc := cX2_bitsOf) (maxL := 6) (ret := (some .long)) (by decide) rfl ?_
  intro p e s m args below meth c s₁ B hml hv
  obtain ⟨rfl, hE, hN⟩ := hv
  have hx := B.exec
  have hb := B.bytes
  have hr := B.returns
  have hts := atoms_spec (ws := wsX2_bitsOf) B.pre
  have hown : s.vm.findClass RX2 = some m.cls := findClass_of_methodNamed B.named
  have hlocks := B.notSynchronized
  have hS : va_S (fun _ => False) s.heap s.heap [] := va_S.rf
  have hn : FP.Core.val64 x ≠ .nan := by rw [hxn]; exact (f2d_ok (nn32 hn32 hnum)).2
  have hsg : 2 ^ 63 ≤ x.toNat ↔ 2 ^ 31 ≤ n := by rw [hxn]; exact f2d_sgn hn32 hnum
  have hl := lv_entry ([.ref (ad 0), .double x]) (n := 6) (Nat.le_of_ble_eq_true rfl)
  rw [lg_entry_eq]
  generalize (lg_sl ([.ref (ad 0), .double x]) ++ List.replicate (6 - (lg_sl ([.ref (ad 0), .double x])).length) Slot.unset).toArray = ls at hl ⊢
  have hl : lv_has ls 6 [(0, .ref (ad 0)), (1, .double x)] := hl
  refine jn_i (pc := 25) (ls := ls) (rest := []) (fun v => v = if 2 ^ 63 ≤ x.toNat then 1 else 0) (fun j1 hj1 => ?_) (fun K => ?_)
  · refine lv_istore_n (lv' := [(3, .int j1), (0, .ref (ad 0)), (1, .double x)]) hx hb dX2_bitsOf_25 rfl hl (by decide) rfl (fun ls hl => ?_)
    refine lv_aload_n hx hb dX2_bitsOf_26 rfl (lv_at hl 1 rfl) ?_
    refine lv_iload_n hx hb dX2_bitsOf_27 rfl (lv_at hl 0 rfl) ?_
    refine lv_if_eq (tgt := 36) hx hb dX2_bitsOf_28 (by decide) (fun c2 => ?_) (fun c2 => ?_)
    · have hsm : ¬ 2 ^ 63 ≤ x.toNat := fun q => by have hc := c2; rw [hj1, if_pos q] at hc; exact absurd hc (by decide)
      have hbn : n < 2 ^ 31 := by rcases Nat.lt_or_ge n (2 ^ 31) with q | q; exact q; exact absurd (hsg.mpr q) hsm
      refine lv_dload_n hx hb dX2_bitsOf_36 rfl (lv_at hl 2 rfl) ?_
      refine vp_callSl (W.runV (As := [.double x]) (rest := []) ⟨hx, hb, hml, hown, hts⟩ (c_sizeOf_0 l ad x n (by omega) hxn) (cwV 1 hts gX2_bitsOf_X2_sizeOf rfl rfl rfl (by decide +kernel) ⟨Nat.le_of_ble_eq_true rfl, Nat.le_of_ble_eq_true rfl⟩) (preV_of okE (⟨hE, hN⟩) (va_recvE hE (by decide) hS)) rfl rfl hl.1 rfl (lv_room (Nat.le_of_ble_eq_true rfl)) dX2_bitsOf_37 ⟨Nat.le_of_ble_eq_true rfl, Nat.le_of_ble_eq_true rfl⟩) (fun r3 hr3 => ?_)
      refine lv_lstore (lv' := [(4, .long r3), (3, .int j1), (0, .ref (ad 0)), (1, .double x)]) hx hb dX2_bitsOf_40 hl (by decide) rfl (fun ls hl => ?_)
      refine lv_iload_n hx hb dX2_bitsOf_42 rfl (lv_at hl 1 rfl) ?_
      refine lv_if_eq (tgt := 60) hx hb dX2_bitsOf_43 (by decide) (fun c4 => ?_) (fun c4 => absurd (c2) c4)
      refine lv_lload hx hb dX2_bitsOf_60 (lv_at hl 0 rfl) ?_
      exact W.lret (v := r3) hx hb hr (fun t ht hW => ⟨r3, rfl, (by rw [hr3]; exact pos31 hbn), ht⟩) (fun q hq => absurd hq List.not_mem_nil) dX2_bitsOf_62
    · have hbig : 2 ^ 63 ≤ x.toNat := Decidable.byContradiction (fun q => c2 (by rw [hj1, if_neg q]))
      have hbn := hsg.mp hbig
      have hneg := f2d_neg_n hn32 hnum hbn
      refine lv_dload_n hx hb dX2_bitsOf_31 rfl (lv_at hl 2 rfl) ?_
      refine lv_dneg hx hb dX2_bitsOf_32 ?_
      refine lv_topd (fun v5 ev5 => ?_)
      refine lv_goto (tgt := 37) hx hb dX2_bitsOf_33 (by decide) ?_
      refine vp_callSl (W.runV (As := [.double v5]) (rest := []) ⟨hx, hb, hml, hown, hts⟩ (c_sizeOf_0 l ad v5 (n - 2 ^ 31) (by omega) (by rw [ev5, hxn]; exact hneg.1)) (cwV 1 hts gX2_bitsOf_X2_sizeOf rfl rfl rfl (by decide +kernel) ⟨Nat.le_of_ble_eq_true rfl, Nat.le_of_ble_eq_true rfl⟩) (preV_of okE (⟨hE, hN⟩) (va_recvE hE (by decide) hS)) rfl rfl hl.1 rfl (lv_room (Nat.le_of_ble_eq_true rfl)) dX2_bitsOf_37 ⟨Nat.le_of_ble_eq_true rfl, Nat.le_of_ble_eq_true rfl⟩) (fun r6 hr6 => ?_)
      refine lv_lstore (lv' := [(4, .long r6), (3, .int j1), (0, .ref (ad 0)), (1, .double x)]) hx hb dX2_bitsOf_40 hl (by decide) rfl (fun ls hl => ?_)
      refine lv_iload_n hx hb dX2_bitsOf_42 rfl (lv_at hl 1 rfl) ?_
      refine lv_if_eq (tgt := 60) hx hb dX2_bitsOf_43 (by decide) (fun c7 => absurd c7 (c2)) (fun c7 => ?_)
      refine lv_lload hx hb dX2_bitsOf_46 (lv_at hl 0 rfl) ?_
      refine lv_ldc2 hx hb hown (hts (.constantLong RX2 75 (-1)) (by decide +kernel)) dX2_bitsOf_48 ?_
      refine lv_aload_n hx hb dX2_bitsOf_51 rfl (lv_at hl 2 rfl) ?_
      refine va_getE (i := 0) (q := eF[3]) hx hb hE (by decide) hS hown (List.getElem_mem _) (hts (.fieldLink RX2 39 "RopeDrums$Form" "sign" "I") (by decide +kernel)) (fun _ h9 => h9) dX2_bitsOf_52 ?_
      refine W.eq (g2 := F0 m 55 ls [.int 31, .long (-1), .long r6]) rfl ?_
      refine lv_lshl hx hb dX2_bitsOf_55 rfl ?_
      refine lv_topl (fun v8 ev8 => ?_)
      refine lv_lor hx hb dX2_bitsOf_56 ?_
      refine lv_topl (fun v9 ev9 => ?_)
      refine lv_goto (tgt := 62) hx hb dX2_bitsOf_57 (by decide) ?_
      exact W.lret (v := v9) hx hb hr (fun t ht hW => ⟨v9, rfl, (by rw [ev9, ev8, hr6, or31 (by omega)]; congr 2; omega), ht⟩) (fun q hq => absurd hq List.not_mem_nil) dX2_bitsOf_62
  · refine lv_dload_n hx hb dX2_bitsOf_0 rfl (lv_at hl 1 rfl) ?_
    refine lv_dconst0 hx hb dX2_bitsOf_1 ?_
    refine lv_dcmp hx hb dX2_bitsOf_2 ?_
    refine lv_if_lt (tgt := 20) hx hb dX2_bitsOf_3 (by decide) (fun c10 => ?_) (fun c10 => ?_)
    · refine lv_iconst (v := 1) hx hb dX2_bitsOf_20 (by decide) ?_
      refine lv_goto (tgt := 25) hx hb dX2_bitsOf_21 (by decide) ?_
      exact K _ (by rw [if_pos (dk_neg ((cv_lt _ _ _).mp (by have hc := c10; rw [cmp0 hn] at hc; exact hc)))])
    · refine lv_dload_n hx hb dX2_bitsOf_6 rfl (lv_at hl 1 rfl) ?_
      refine lv_dconst0 hx hb dX2_bitsOf_7 ?_
      refine lv_dcmp hx hb dX2_bitsOf_8 ?_
      refine lv_if_ne (tgt := 24) hx hb dX2_bitsOf_9 (by decide) (fun c11 => ?_) (fun c11 => ?_)
      · refine lv_iconst (v := 0) hx hb dX2_bitsOf_24 (by decide) ?_
        exact K _ (by rw [if_neg (dk_pos (fun q => c10 (by rw [cmp0 hn, cv_lt]; exact q)) (fun q => c11 (by rw [cmp0 hn, cv_eq]; exact q)))])
      · refine lv_dconst1 hx hb dX2_bitsOf_12 ?_
        refine lv_dload_n hx hb dX2_bitsOf_13 rfl (lv_at hl 1 rfl) ?_
        refine lv_ddiv hx hb dX2_bitsOf_14 (n64.mpr (one_over (dk_zero ((cv_eq _ _ _).mp (by have hc := c11; rw [cmp0 hn] at hc; exact hc)))).1) ?_
        refine lv_topd (fun v12 ev12 => ?_)
        refine lv_dconst0 hx hb dX2_bitsOf_15 ?_
        refine lv_dcmp hx hb dX2_bitsOf_16 ?_
        refine lv_if_ge (tgt := 24) hx hb dX2_bitsOf_17 (by decide) (fun c13 => ?_) (fun c13 => ?_)
        · refine lv_iconst (v := 0) hx hb dX2_bitsOf_24 (by decide) ?_
          exact K _ (by rw [if_neg ((one_over (dk_zero ((cv_eq _ _ _).mp (by have hc := c11; rw [cmp0 hn] at hc; exact hc)))).2.mp (by rw [← ev12]; exact c13))])
        · refine lv_iconst (v := 1) hx hb dX2_bitsOf_20 (by decide) ?_
          refine lv_goto (tgt := 25) hx hb dX2_bitsOf_21 (by decide) ?_
          exact K _ (by rw [if_pos (Decidable.byContradiction (fun q => c13 (by rw [ev12]; exact (one_over (dk_zero ((cv_eq _ _ _).mp (by have hc := c11; rw [cmp0 hn] at hc; exact hc)))).2.mpr q)))])
