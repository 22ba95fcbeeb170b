set_option maxHeartbeats 8000000 in
set_option maxRecDepth 100000 in
theorem m_told_0 (l : Launch) (G : va_G) (cy : Nat → ClassId) (L : List Nat) (F : Nat → va_E) (ad : Nat → Nat) (sz : Nat) (o : Nat) (qa : Nat → Nat → Nat) (Mm : SM) (Dd : SD) (Sl : SL) (Pp : SP) (Kr : SR) (Bk : SB) (Xx : SX) (hR : Rep cy L o qa Mm Dd Sl Pp Kr Bk Xx F) (d : Int32)  : Met l yX8_told wsX8_told ({ frames := 4, cells := 0, slots := 0, locals := 99 }) (va_Pc [.ref o, .int d, .int 0] (fun U => bQE G cy L F ad sz U U.heap)) (va_Ql (fun (r : Int64) (F' : Nat → va_E) => r = sp_told Dd d 0 ∧ Rep cy L o qa Mm Dd Sl Pp Kr Bk Xx F') (fun F' t => va_P G vwCl (va_pl L F') t.heap) (va_A (va_pl L F) sz)) 0 0 (va_A (va_pl L F) sz) := by
  refine Met.ofW (cc := cX8_told) (maxL := 4) (ret := (some .long)) (by decide) rfl ?_
  intro p e s m args below meth c s₁ B hml hv
  obtain ⟨rfl, ⟨hsz, hP, hK, hD0⟩, hE, hN⟩ := hv
  have hx := B.exec
  have hb := B.bytes
  have hr := B.returns
  have hts := atoms_spec (ws := wsX8_told) B.pre
  have hown : s.vm.findClass RX8 = some m.cls := findClass_of_methodNamed B.named
  have hlocks := B.notSynchronized
  have hinX8 : ∀ w ∈ wsX80, w ∈ wsX8_told := by decide +kernel
  have hinX1 : ∀ w ∈ wsX10, w ∈ wsX8_told := by decide +kernel
  subst hsz
  have hD := hD0.self F s.heap.size
  generalize hAe : va_A (va_pl L F) s.heap.size = A at hD hE ⊢
  have hA : ∀ q : Nat, s.heap.size ≤ q → A q := fun q h => by rw [← hAe]; exact Or.inr h
  have hS : va_S A s.heap s.heap [] := va_S.rf
  obtain ⟨⟨⟨hmo, hFo⟩, ⟨hmf, hFf⟩, hms, hFs⟩, ⟨⟨hm0, hF0⟩, ⟨hm1, hF1⟩, ⟨hm2, hF2⟩, ⟨hm4, hF4⟩, hm5, hF5⟩, hRM, hRD, hRG, hRP, hRR, hRB, hRI⟩ := id hR
  have hl := lv_entry ([.ref o, .int d, .int 0]) (n := 4) (Nat.le_of_ble_eq_true rfl)
  rw [lg_entry_eq]
  generalize (lg_sl ([.ref o, .int d, .int 0]) ++ List.replicate (4 - (lg_sl ([.ref o, .int d, .int 0])).length) Slot.unset).toArray = ls at hl ⊢
  have hl : lv_has ls 4 [(0, .ref o), (1, .int d), (2, .int 0)] := hl
  rcases ixc 6 d with hi_d | ⟨j_d, hj_d, hi_d, ei_d⟩
  · refine lv_aload_n hx hb dX8_told_0 rfl (lv_at hl 0 rfl) ?_
    refine lv_iload_n hx hb dX8_told_1 rfl (lv_at hl 1 rfl) ?_
    refine va_csq (W.runV (As := [.int d]) (rest := []) ⟨hx, hb, hml, hown, hts⟩ (c_drumOf_no l G cy L F o qa Mm Dd Sl Pp Kr Bk Xx hR d hi_d) (cwV 1 hts gX8_told_X8_drumOf rfl rfl rfl (by decide +kernel) ⟨Nat.le_of_ble_eq_true rfl, Nat.le_of_ble_eq_true rfl⟩) (preV_of okP (⟨hP, hK, hD.top⟩) (pl_recv hK hP (ci := 7) rfl hmo hFo)) rfl rfl hl.1 rfl (lv_room (Nat.le_of_ble_eq_true rfl)) dX8_told_2 ⟨Nat.le_of_ble_eq_true rfl, Nat.le_of_ble_eq_true rfl⟩) (fun r1 hr1 => ?_)
    subst hr1
    refine W.eq (g2 := F0 m 5 ls [.null]) rfl ?_
    refine lv_astore_nN (lv' := [(3, .null), (0, .ref o), (1, .int d), (2, .int 0)]) hx hb dX8_told_5 rfl hl (by decide) rfl (fun ls hl => ?_)
    refine lv_aload_nN hx hb dX8_told_6 rfl (lv_at hl 0 rfl) ?_
    refine lv_ifnonnullN hx hb dX8_told_7 ?_
    refine lv_ldc2 hx hb hown (hts (.constantLong RX8 93 (-1001)) (by decide +kernel)) dX8_told_10 ?_
    exact W.lret (v := -1001) hx hb hr (fun t ht hW => ⟨⟨-1001, F, rfl, ⟨by unfold sp_told; rw [hi_d], hR⟩, (by show va_P _ _ _ t.heap; rw [ht]; exact hP)⟩, hS.F ht⟩) hS.2.2 dX8_told_13
  · subst ei_d
    obtain ⟨hmd_d, hFd_d, hokd_d⟩ := hRD j_d hj_d
    refine lv_aload_n hx hb dX8_told_0 rfl (lv_at hl 0 rfl) ?_
    refine lv_iload_n hx hb dX8_told_1 rfl (lv_at hl 1 rfl) ?_
    refine va_csq (W.runV (As := [.int (nI j_d)]) (rest := []) ⟨hx, hb, hml, hown, hts⟩ (c_drumOf l G cy L F o qa Mm Dd Sl Pp Kr Bk Xx hR j_d hj_d) (cwV 1 hts gX8_told_X8_drumOf rfl rfl rfl (by decide +kernel) ⟨Nat.le_of_ble_eq_true rfl, Nat.le_of_ble_eq_true rfl⟩) (preV_of okP (⟨hP, hK, hD.top⟩) (pl_recv hK hP (ci := 7) rfl hmo hFo)) rfl rfl hl.1 rfl (lv_room (Nat.le_of_ble_eq_true rfl)) dX8_told_2 ⟨Nat.le_of_ble_eq_true rfl, Nat.le_of_ble_eq_true rfl⟩) (fun r2 hr2 => ?_)
    subst hr2
    refine W.eq (g2 := F0 m 5 ls [.ref (qa 1 j_d)]) rfl ?_
    refine lv_astore_n (lv' := [(3, .ref (qa 1 j_d)), (0, .ref o), (1, .int (nI j_d)), (2, .int 0)]) hx hb dX8_told_5 rfl hl (by decide) rfl (fun ls hl => ?_)
    refine lv_aload_n hx hb dX8_told_6 rfl (lv_at hl 0 rfl) ?_
    refine lv_ifnonnull (tgt := 14) hx hb dX8_told_7 (by decide) ?_
    refine lv_iload_n hx hb dX8_told_14 rfl (lv_at hl 3 rfl) ?_
    refine lv_tableIn (off := 29) (tgt := 44) hx hb dX8_told_15 (by decide) (by decide) (by decide) (by decide) ?_
    refine va_gets (C := "RopeDrums$Form") (n := "DOUBLE") (d := "LRopeDrums$Form;") (v := .ref (ad 1)) hx hb (hE.1 1 (by decide)).1 hS hown (hts (.fieldLink RX8 166 "RopeDrums$Form" "DOUBLE" "LRopeDrums$Form;") (by decide +kernel)) (fun _ h9 => h9) dX8_told_44 ?_
    refine lv_aload_n hx hb dX8_told_47 rfl (lv_at hl 0 rfl) ?_
    refine pg_get (ci := 1) (C := RX1) (T := TX1) (N := 4) hx hb hts hinX1 hown hK hP hmd_d hFd_d rfl 0 (by decide) (hts (.fieldLink RX8 174 "RopeDrums$Drum" "around" "D") (by decide +kernel)) (fun _ h9 => h9) rfl dX8_told_48 ?_
    refine vp_callSl (W.runV (As := [.double (Dd.1 j_d)]) (rest := []) ⟨hx, hb, hml, hown, hts⟩ (c_bitsOf_1 l ad (Dd.1 j_d) (hokd_d.1.1).ne_nan) (cwV 1 hts gX8_told_X2_bitsOf rfl rfl rfl (by decide +kernel) ⟨Nat.le_of_ble_eq_true rfl, Nat.le_of_ble_eq_true rfl⟩) (preV_of okE (pE.low hE hN hS) (va_recvE hE (by decide) hS)) rfl rfl hl.1 rfl (lv_room (Nat.le_of_ble_eq_true rfl)) dX8_told_51 ⟨Nat.le_of_ble_eq_true rfl, Nat.le_of_ble_eq_true rfl⟩) (fun r3 hr3 => ?_)
    exact W.lret (v := r3) hx hb hr (fun t ht hW => ⟨⟨r3, F, rfl, ⟨by unfold sp_told; rw [hi_d, hr3, ← u_lN]; rfl, hR⟩, (by show va_P _ _ _ t.heap; rw [ht]; exact hP)⟩, hS.F ht⟩) hS.2.2 dX8_told_54

set_option maxHeartbeats 8000000 in
set_option maxRecDepth 100000 in
theorem m_told_1 (l : Launch) (G : va_G) (cy : Nat → ClassId) (L : List Nat) (F : Nat → va_E) (ad : Nat → Nat) (sz : Nat) (o : Nat) (qa : Nat → Nat → Nat) (Mm : SM) (Dd : SD) (Sl : SL) (Pp : SP) (Kr : SR) (Bk : SB) (Xx : SX) (hR : Rep cy L o qa Mm Dd Sl Pp Kr Bk Xx F) (d : Int32)  : Met l yX8_told wsX8_told ({ frames := 4, cells := 0, slots := 0, locals := 99 }) (va_Pc [.ref o, .int d, .int 1] (fun U => bQE G cy L F ad sz U U.heap)) (va_Ql (fun (r : Int64) (F' : Nat → va_E) => r = sp_told Dd d 1 ∧ Rep cy L o qa Mm Dd Sl Pp Kr Bk Xx F') (fun F' t => va_P G vwCl (va_pl L F') t.heap) (va_A (va_pl L F) sz)) 0 0 (va_A (va_pl L F) sz) := by
  refine Met.ofW (cc := cX8_told) (maxL := 4) (ret := (some .long)) (by decide) rfl ?_
  intro p e s m args below meth c s₁ B hml hv
  obtain ⟨rfl, ⟨hsz, hP, hK, hD0⟩, hE, hN⟩ := hv
  have hx := B.exec
  have hb := B.bytes
  have hr := B.returns
  have hts := atoms_spec (ws := wsX8_told) B.pre
  have hown : s.vm.findClass RX8 = some m.cls := findClass_of_methodNamed B.named
  have hlocks := B.notSynchronized
  have hinX8 : ∀ w ∈ wsX80, w ∈ wsX8_told := by decide +kernel
  have hinX1 : ∀ w ∈ wsX10, w ∈ wsX8_told := by decide +kernel
  subst hsz
  have hD := hD0.self F s.heap.size
  generalize hAe : va_A (va_pl L F) s.heap.size = A at hD hE ⊢
  have hA : ∀ q : Nat, s.heap.size ≤ q → A q := fun q h => by rw [← hAe]; exact Or.inr h
  have hS : va_S A s.heap s.heap [] := va_S.rf
  obtain ⟨⟨⟨hmo, hFo⟩, ⟨hmf, hFf⟩, hms, hFs⟩, ⟨⟨hm0, hF0⟩, ⟨hm1, hF1⟩, ⟨hm2, hF2⟩, ⟨hm4, hF4⟩, hm5, hF5⟩, hRM, hRD, hRG, hRP, hRR, hRB, hRI⟩ := id hR
  have hl := lv_entry ([.ref o, .int d, .int 1]) (n := 4) (Nat.le_of_ble_eq_true rfl)
  rw [lg_entry_eq]
  generalize (lg_sl ([.ref o, .int d, .int 1]) ++ List.replicate (4 - (lg_sl ([.ref o, .int d, .int 1])).length) Slot.unset).toArray = ls at hl ⊢
  have hl : lv_has ls 4 [(0, .ref o), (1, .int d), (2, .int 1)] := hl
  rcases ixc 6 d with hi_d | ⟨j_d, hj_d, hi_d, ei_d⟩
  · refine lv_aload_n hx hb dX8_told_0 rfl (lv_at hl 0 rfl) ?_
    refine lv_iload_n hx hb dX8_told_1 rfl (lv_at hl 1 rfl) ?_
    refine va_csq (W.runV (As := [.int d]) (rest := []) ⟨hx, hb, hml, hown, hts⟩ (c_drumOf_no l G cy L F o qa Mm Dd Sl Pp Kr Bk Xx hR d hi_d) (cwV 1 hts gX8_told_X8_drumOf rfl rfl rfl (by decide +kernel) ⟨Nat.le_of_ble_eq_true rfl, Nat.le_of_ble_eq_true rfl⟩) (preV_of okP (⟨hP, hK, hD.top⟩) (pl_recv hK hP (ci := 7) rfl hmo hFo)) rfl rfl hl.1 rfl (lv_room (Nat.le_of_ble_eq_true rfl)) dX8_told_2 ⟨Nat.le_of_ble_eq_true rfl, Nat.le_of_ble_eq_true rfl⟩) (fun r1 hr1 => ?_)
    subst hr1
    refine W.eq (g2 := F0 m 5 ls [.null]) rfl ?_
    refine lv_astore_nN (lv' := [(3, .null), (0, .ref o), (1, .int d), (2, .int 1)]) hx hb dX8_told_5 rfl hl (by decide) rfl (fun ls hl => ?_)
    refine lv_aload_nN hx hb dX8_told_6 rfl (lv_at hl 0 rfl) ?_
    refine lv_ifnonnullN hx hb dX8_told_7 ?_
    refine lv_ldc2 hx hb hown (hts (.constantLong RX8 93 (-1001)) (by decide +kernel)) dX8_told_10 ?_
    exact W.lret (v := -1001) hx hb hr (fun t ht hW => ⟨⟨-1001, F, rfl, ⟨by unfold sp_told; rw [hi_d], hR⟩, (by show va_P _ _ _ t.heap; rw [ht]; exact hP)⟩, hS.F ht⟩) hS.2.2 dX8_told_13
  · subst ei_d
    obtain ⟨hmd_d, hFd_d, hokd_d⟩ := hRD j_d hj_d
    refine lv_aload_n hx hb dX8_told_0 rfl (lv_at hl 0 rfl) ?_
    refine lv_iload_n hx hb dX8_told_1 rfl (lv_at hl 1 rfl) ?_
    refine va_csq (W.runV (As := [.int (nI j_d)]) (rest := []) ⟨hx, hb, hml, hown, hts⟩ (c_drumOf l G cy L F o qa Mm Dd Sl Pp Kr Bk Xx hR j_d hj_d) (cwV 1 hts gX8_told_X8_drumOf rfl rfl rfl (by decide +kernel) ⟨Nat.le_of_ble_eq_true rfl, Nat.le_of_ble_eq_true rfl⟩) (preV_of okP (⟨hP, hK, hD.top⟩) (pl_recv hK hP (ci := 7) rfl hmo hFo)) rfl rfl hl.1 rfl (lv_room (Nat.le_of_ble_eq_true rfl)) dX8_told_2 ⟨Nat.le_of_ble_eq_true rfl, Nat.le_of_ble_eq_true rfl⟩) (fun r2 hr2 => ?_)
    subst hr2
    refine W.eq (g2 := F0 m 5 ls [.ref (qa 1 j_d)]) rfl ?_
    refine lv_astore_n (lv' := [(3, .ref (qa 1 j_d)), (0, .ref o), (1, .int (nI j_d)), (2, .int 1)]) hx hb dX8_told_5 rfl hl (by decide) rfl (fun ls hl => ?_)
    refine lv_aload_n hx hb dX8_told_6 rfl (lv_at hl 0 rfl) ?_
    refine lv_ifnonnull (tgt := 14) hx hb dX8_told_7 (by decide) ?_
    refine lv_iload_n hx hb dX8_told_14 rfl (lv_at hl 3 rfl) ?_
    refine lv_tableIn (off := 40) (tgt := 55) hx hb dX8_told_15 (by decide) (by decide) (by decide) (by decide) ?_
    refine va_gets (C := "RopeDrums$Form") (n := "DOUBLE") (d := "LRopeDrums$Form;") (v := .ref (ad 1)) hx hb (hE.1 1 (by decide)).1 hS hown (hts (.fieldLink RX8 166 "RopeDrums$Form" "DOUBLE" "LRopeDrums$Form;") (by decide +kernel)) (fun _ h9 => h9) dX8_told_55 ?_
    refine lv_aload_n hx hb dX8_told_58 rfl (lv_at hl 0 rfl) ?_
    refine pg_get (ci := 1) (C := RX1) (T := TX1) (N := 4) hx hb hts hinX1 hown hK hP hmd_d hFd_d rfl 1 (by decide) (hts (.fieldLink RX8 177 "RopeDrums$Drum" "at" "D") (by decide +kernel)) (fun _ h9 => h9) rfl dX8_told_59 ?_
    refine vp_callSl (W.runV (As := [.double (Dd.2.1 j_d)]) (rest := []) ⟨hx, hb, hml, hown, hts⟩ (c_bitsOf_1 l ad (Dd.2.1 j_d) (hokd_d.2.1.1).ne_nan) (cwV 1 hts gX8_told_X2_bitsOf rfl rfl rfl (by decide +kernel) ⟨Nat.le_of_ble_eq_true rfl, Nat.le_of_ble_eq_true rfl⟩) (preV_of okE (pE.low hE hN hS) (va_recvE hE (by decide) hS)) rfl rfl hl.1 rfl (lv_room (Nat.le_of_ble_eq_true rfl)) dX8_told_62 ⟨Nat.le_of_ble_eq_true rfl, Nat.le_of_ble_eq_true rfl⟩) (fun r3 hr3 => ?_)
    exact W.lret (v := r3) hx hb hr (fun t ht hW => ⟨⟨r3, F, rfl, ⟨by unfold sp_told; rw [hi_d, hr3, ← u_lN]; rfl, hR⟩, (by show va_P _ _ _ t.heap; rw [ht]; exact hP)⟩, hS.F ht⟩) hS.2.2 dX8_told_65

set_option maxHeartbeats 8000000 in
set_option maxRecDepth 100000 in
theorem m_told_2 (l : Launch) (G : va_G) (cy : Nat → ClassId) (L : List Nat) (F : Nat → va_E) (ad : Nat → Nat) (sz : Nat) (o : Nat) (qa : Nat → Nat → Nat) (Mm : SM) (Dd : SD) (Sl : SL) (Pp : SP) (Kr : SR) (Bk : SB) (Xx : SX) (hR : Rep cy L o qa Mm Dd Sl Pp Kr Bk Xx F) (d : Int32)  : Met l yX8_told wsX8_told ({ frames := 4, cells := 0, slots := 0, locals := 99 }) (va_Pc [.ref o, .int d, .int 2] (fun U => bQE G cy L F ad sz U U.heap)) (va_Ql (fun (r : Int64) (F' : Nat → va_E) => r = sp_told Dd d 2 ∧ Rep cy L o qa Mm Dd Sl Pp Kr Bk Xx F') (fun F' t => va_P G vwCl (va_pl L F') t.heap) (va_A (va_pl L F) sz)) 0 0 (va_A (va_pl L F) sz) := by
  refine Met.ofW (cc := cX8_told) (maxL := 4) (ret := (some .long)) (by decide) rfl ?_
  intro p e s m args below meth c s₁ B hml hv
  obtain ⟨rfl, ⟨hsz, hP, hK, hD0⟩, hE, hN⟩ := hv
  have hx := B.exec
  have hb := B.bytes
  have hr := B.returns
  have hts := atoms_spec (ws := wsX8_told) B.pre
  have hown : s.vm.findClass RX8 = some m.cls := findClass_of_methodNamed B.named
  have hlocks := B.notSynchronized
  have hinX8 : ∀ w ∈ wsX80, w ∈ wsX8_told := by decide +kernel
  have hinX1 : ∀ w ∈ wsX10, w ∈ wsX8_told := by decide +kernel
  subst hsz
  have hD := hD0.self F s.heap.size
  generalize hAe : va_A (va_pl L F) s.heap.size = A at hD hE ⊢
  have hA : ∀ q : Nat, s.heap.size ≤ q → A q := fun q h => by rw [← hAe]; exact Or.inr h
  have hS : va_S A s.heap s.heap [] := va_S.rf
  obtain ⟨⟨⟨hmo, hFo⟩, ⟨hmf, hFf⟩, hms, hFs⟩, ⟨⟨hm0, hF0⟩, ⟨hm1, hF1⟩, ⟨hm2, hF2⟩, ⟨hm4, hF4⟩, hm5, hF5⟩, hRM, hRD, hRG, hRP, hRR, hRB, hRI⟩ := id hR
  have hl := lv_entry ([.ref o, .int d, .int 2]) (n := 4) (Nat.le_of_ble_eq_true rfl)
  rw [lg_entry_eq]
  generalize (lg_sl ([.ref o, .int d, .int 2]) ++ List.replicate (4 - (lg_sl ([.ref o, .int d, .int 2])).length) Slot.unset).toArray = ls at hl ⊢
  have hl : lv_has ls 4 [(0, .ref o), (1, .int d), (2, .int 2)] := hl
  rcases ixc 6 d with hi_d | ⟨j_d, hj_d, hi_d, ei_d⟩
  · refine lv_aload_n hx hb dX8_told_0 rfl (lv_at hl 0 rfl) ?_
    refine lv_iload_n hx hb dX8_told_1 rfl (lv_at hl 1 rfl) ?_
    refine va_csq (W.runV (As := [.int d]) (rest := []) ⟨hx, hb, hml, hown, hts⟩ (c_drumOf_no l G cy L F o qa Mm Dd Sl Pp Kr Bk Xx hR d hi_d) (cwV 1 hts gX8_told_X8_drumOf rfl rfl rfl (by decide +kernel) ⟨Nat.le_of_ble_eq_true rfl, Nat.le_of_ble_eq_true rfl⟩) (preV_of okP (⟨hP, hK, hD.top⟩) (pl_recv hK hP (ci := 7) rfl hmo hFo)) rfl rfl hl.1 rfl (lv_room (Nat.le_of_ble_eq_true rfl)) dX8_told_2 ⟨Nat.le_of_ble_eq_true rfl, Nat.le_of_ble_eq_true rfl⟩) (fun r1 hr1 => ?_)
    subst hr1
    refine W.eq (g2 := F0 m 5 ls [.null]) rfl ?_
    refine lv_astore_nN (lv' := [(3, .null), (0, .ref o), (1, .int d), (2, .int 2)]) hx hb dX8_told_5 rfl hl (by decide) rfl (fun ls hl => ?_)
    refine lv_aload_nN hx hb dX8_told_6 rfl (lv_at hl 0 rfl) ?_
    refine lv_ifnonnullN hx hb dX8_told_7 ?_
    refine lv_ldc2 hx hb hown (hts (.constantLong RX8 93 (-1001)) (by decide +kernel)) dX8_told_10 ?_
    exact W.lret (v := -1001) hx hb hr (fun t ht hW => ⟨⟨-1001, F, rfl, ⟨by unfold sp_told; rw [hi_d], hR⟩, (by show va_P _ _ _ t.heap; rw [ht]; exact hP)⟩, hS.F ht⟩) hS.2.2 dX8_told_13
  · subst ei_d
    obtain ⟨hmd_d, hFd_d, hokd_d⟩ := hRD j_d hj_d
    refine lv_aload_n hx hb dX8_told_0 rfl (lv_at hl 0 rfl) ?_
    refine lv_iload_n hx hb dX8_told_1 rfl (lv_at hl 1 rfl) ?_
    refine va_csq (W.runV (As := [.int (nI j_d)]) (rest := []) ⟨hx, hb, hml, hown, hts⟩ (c_drumOf l G cy L F o qa Mm Dd Sl Pp Kr Bk Xx hR j_d hj_d) (cwV 1 hts gX8_told_X8_drumOf rfl rfl rfl (by decide +kernel) ⟨Nat.le_of_ble_eq_true rfl, Nat.le_of_ble_eq_true rfl⟩) (preV_of okP (⟨hP, hK, hD.top⟩) (pl_recv hK hP (ci := 7) rfl hmo hFo)) rfl rfl hl.1 rfl (lv_room (Nat.le_of_ble_eq_true rfl)) dX8_told_2 ⟨Nat.le_of_ble_eq_true rfl, Nat.le_of_ble_eq_true rfl⟩) (fun r2 hr2 => ?_)
    subst hr2
    refine W.eq (g2 := F0 m 5 ls [.ref (qa 1 j_d)]) rfl ?_
    refine lv_astore_n (lv' := [(3, .ref (qa 1 j_d)), (0, .ref o), (1, .int (nI j_d)), (2, .int 2)]) hx hb dX8_told_5 rfl hl (by decide) rfl (fun ls hl => ?_)
    refine lv_aload_n hx hb dX8_told_6 rfl (lv_at hl 0 rfl) ?_
    refine lv_ifnonnull (tgt := 14) hx hb dX8_told_7 (by decide) ?_
    refine lv_iload_n hx hb dX8_told_14 rfl (lv_at hl 3 rfl) ?_
    refine lv_tableIn (off := 51) (tgt := 66) hx hb dX8_told_15 (by decide) (by decide) (by decide) (by decide) ?_
    refine va_gets (C := "RopeDrums$Form") (n := "DOUBLE") (d := "LRopeDrums$Form;") (v := .ref (ad 1)) hx hb (hE.1 1 (by decide)).1 hS hown (hts (.fieldLink RX8 166 "RopeDrums$Form" "DOUBLE" "LRopeDrums$Form;") (by decide +kernel)) (fun _ h9 => h9) dX8_told_66 ?_
    refine lv_aload_n hx hb dX8_told_69 rfl (lv_at hl 0 rfl) ?_
    refine pg_get (ci := 1) (C := RX1) (T := TX1) (N := 4) hx hb hts hinX1 hown hK hP hmd_d hFd_d rfl 2 (by decide) (hts (.fieldLink RX8 180 "RopeDrums$Drum" "rope" "D") (by decide +kernel)) (fun _ h9 => h9) rfl dX8_told_70 ?_
    refine vp_callSl (W.runV (As := [.double (Dd.2.2.1 j_d)]) (rest := []) ⟨hx, hb, hml, hown, hts⟩ (c_bitsOf_1 l ad (Dd.2.2.1 j_d) hokd_d.2.2) (cwV 1 hts gX8_told_X2_bitsOf rfl rfl rfl (by decide +kernel) ⟨Nat.le_of_ble_eq_true rfl, Nat.le_of_ble_eq_true rfl⟩) (preV_of okE (pE.low hE hN hS) (va_recvE hE (by decide) hS)) rfl rfl hl.1 rfl (lv_room (Nat.le_of_ble_eq_true rfl)) dX8_told_73 ⟨Nat.le_of_ble_eq_true rfl, Nat.le_of_ble_eq_true rfl⟩) (fun r3 hr3 => ?_)
    exact W.lret (v := r3) hx hb hr (fun t ht hW => ⟨⟨r3, F, rfl, ⟨by unfold sp_told; rw [hi_d, hr3, ← u_lN]; rfl, hR⟩, (by show va_P _ _ _ t.heap; rw [ht]; exact hP)⟩, hS.F ht⟩) hS.2.2 dX8_told_76

set_option maxHeartbeats 8000000 in
set_option maxRecDepth 100000 in
theorem m_told_3 (l : Launch) (G : va_G) (cy : Nat → ClassId) (L : List Nat) (F : Nat → va_E) (ad : Nat → Nat) (sz : Nat) (o : Nat) (qa : Nat → Nat → Nat) (Mm : SM) (Dd : SD) (Sl : SL) (Pp : SP) (Kr : SR) (Bk : SB) (Xx : SX) (hR : Rep cy L o qa Mm Dd Sl Pp Kr Bk Xx F) (d : Int32)  : Met l yX8_told wsX8_told ({ frames := 4, cells := 0, slots := 0, locals := 99 }) (va_Pc [.ref o, .int d, .int 3] (fun U => bQE G cy L F ad sz U U.heap)) (va_Ql (fun (r : Int64) (F' : Nat → va_E) => r = sp_told Dd d 3 ∧ Rep cy L o qa Mm Dd Sl Pp Kr Bk Xx F') (fun F' t => va_P G vwCl (va_pl L F') t.heap) (va_A (va_pl L F) sz)) 0 0 (va_A (va_pl L F) sz) := by
  refine Met.ofW (cc := cX8_told) (maxL := 4) (ret := (some .long)) (by decide) rfl ?_
  intro p e s m args below meth c s₁ B hml hv
  obtain ⟨rfl, ⟨hsz, hP, hK, hD0⟩, hE, hN⟩ := hv
  have hx := B.exec
  have hb := B.bytes
  have hr := B.returns
  have hts := atoms_spec (ws := wsX8_told) B.pre
  have hown : s.vm.findClass RX8 = some m.cls := findClass_of_methodNamed B.named
  have hlocks := B.notSynchronized
  have hinX8 : ∀ w ∈ wsX80, w ∈ wsX8_told := by decide +kernel
  have hinX1 : ∀ w ∈ wsX10, w ∈ wsX8_told := by decide +kernel
  subst hsz
  have hD := hD0.self F s.heap.size
  generalize hAe : va_A (va_pl L F) s.heap.size = A at hD hE ⊢
  have hA : ∀ q : Nat, s.heap.size ≤ q → A q := fun q h => by rw [← hAe]; exact Or.inr h
  have hS : va_S A s.heap s.heap [] := va_S.rf
  obtain ⟨⟨⟨hmo, hFo⟩, ⟨hmf, hFf⟩, hms, hFs⟩, ⟨⟨hm0, hF0⟩, ⟨hm1, hF1⟩, ⟨hm2, hF2⟩, ⟨hm4, hF4⟩, hm5, hF5⟩, hRM, hRD, hRG, hRP, hRR, hRB, hRI⟩ := id hR
  have hl := lv_entry ([.ref o, .int d, .int 3]) (n := 4) (Nat.le_of_ble_eq_true rfl)
  rw [lg_entry_eq]
  generalize (lg_sl ([.ref o, .int d, .int 3]) ++ List.replicate (4 - (lg_sl ([.ref o, .int d, .int 3])).length) Slot.unset).toArray = ls at hl ⊢
  have hl : lv_has ls 4 [(0, .ref o), (1, .int d), (2, .int 3)] := hl
  rcases ixc 6 d with hi_d | ⟨j_d, hj_d, hi_d, ei_d⟩
  · refine lv_aload_n hx hb dX8_told_0 rfl (lv_at hl 0 rfl) ?_
    refine lv_iload_n hx hb dX8_told_1 rfl (lv_at hl 1 rfl) ?_
    refine va_csq (W.runV (As := [.int d]) (rest := []) ⟨hx, hb, hml, hown, hts⟩ (c_drumOf_no l G cy L F o qa Mm Dd Sl Pp Kr Bk Xx hR d hi_d) (cwV 1 hts gX8_told_X8_drumOf rfl rfl rfl (by decide +kernel) ⟨Nat.le_of_ble_eq_true rfl, Nat.le_of_ble_eq_true rfl⟩) (preV_of okP (⟨hP, hK, hD.top⟩) (pl_recv hK hP (ci := 7) rfl hmo hFo)) rfl rfl hl.1 rfl (lv_room (Nat.le_of_ble_eq_true rfl)) dX8_told_2 ⟨Nat.le_of_ble_eq_true rfl, Nat.le_of_ble_eq_true rfl⟩) (fun r1 hr1 => ?_)
    subst hr1
    refine W.eq (g2 := F0 m 5 ls [.null]) rfl ?_
    refine lv_astore_nN (lv' := [(3, .null), (0, .ref o), (1, .int d), (2, .int 3)]) hx hb dX8_told_5 rfl hl (by decide) rfl (fun ls hl => ?_)
    refine lv_aload_nN hx hb dX8_told_6 rfl (lv_at hl 0 rfl) ?_
    refine lv_ifnonnullN hx hb dX8_told_7 ?_
    refine lv_ldc2 hx hb hown (hts (.constantLong RX8 93 (-1001)) (by decide +kernel)) dX8_told_10 ?_
    exact W.lret (v := -1001) hx hb hr (fun t ht hW => ⟨⟨-1001, F, rfl, ⟨by unfold sp_told; rw [hi_d], hR⟩, (by show va_P _ _ _ t.heap; rw [ht]; exact hP)⟩, hS.F ht⟩) hS.2.2 dX8_told_13
  · subst ei_d
    obtain ⟨hmd_d, hFd_d, hokd_d⟩ := hRD j_d hj_d
    refine lv_aload_n hx hb dX8_told_0 rfl (lv_at hl 0 rfl) ?_
    refine lv_iload_n hx hb dX8_told_1 rfl (lv_at hl 1 rfl) ?_
    refine va_csq (W.runV (As := [.int (nI j_d)]) (rest := []) ⟨hx, hb, hml, hown, hts⟩ (c_drumOf l G cy L F o qa Mm Dd Sl Pp Kr Bk Xx hR j_d hj_d) (cwV 1 hts gX8_told_X8_drumOf rfl rfl rfl (by decide +kernel) ⟨Nat.le_of_ble_eq_true rfl, Nat.le_of_ble_eq_true rfl⟩) (preV_of okP (⟨hP, hK, hD.top⟩) (pl_recv hK hP (ci := 7) rfl hmo hFo)) rfl rfl hl.1 rfl (lv_room (Nat.le_of_ble_eq_true rfl)) dX8_told_2 ⟨Nat.le_of_ble_eq_true rfl, Nat.le_of_ble_eq_true rfl⟩) (fun r2 hr2 => ?_)
    subst hr2
    refine W.eq (g2 := F0 m 5 ls [.ref (qa 1 j_d)]) rfl ?_
    refine lv_astore_n (lv' := [(3, .ref (qa 1 j_d)), (0, .ref o), (1, .int (nI j_d)), (2, .int 3)]) hx hb dX8_told_5 rfl hl (by decide) rfl (fun ls hl => ?_)
    refine lv_aload_n hx hb dX8_told_6 rfl (lv_at hl 0 rfl) ?_
    refine lv_ifnonnull (tgt := 14) hx hb dX8_told_7 (by decide) ?_
    refine lv_iload_n hx hb dX8_told_14 rfl (lv_at hl 3 rfl) ?_
    refine lv_tableIn (off := 62) (tgt := 77) hx hb dX8_told_15 (by decide) (by decide) (by decide) (by decide) ?_
    refine lv_aload_n hx hb dX8_told_77 rfl (lv_at hl 0 rfl) ?_
    refine pg_get (ci := 1) (C := RX1) (T := TX1) (N := 4) hx hb hts hinX1 hown hK hP hmd_d hFd_d rfl 3 (by decide) (hts (.fieldLink RX8 183 "RopeDrums$Drum" "turns" "J") (by decide +kernel)) (fun _ h9 => h9) rfl dX8_told_78 ?_
    exact W.lret (v := Dd.2.2.2 j_d) hx hb hr (fun t ht hW => ⟨⟨Dd.2.2.2 j_d, F, rfl, ⟨by unfold sp_told; rw [hi_d]; rfl, hR⟩, (by show va_P _ _ _ t.heap; rw [ht]; exact hP)⟩, hS.F ht⟩) hS.2.2 dX8_told_81

set_option maxHeartbeats 8000000 in
set_option maxRecDepth 100000 in
theorem m_told_no (l : Launch) (G : va_G) (cy : Nat → ClassId) (L : List Nat) (F : Nat → va_E) (ad : Nat → Nat) (sz : Nat) (o : Nat) (qa : Nat → Nat → Nat) (Mm : SM) (Dd : SD) (Sl : SL) (Pp : SP) (Kr : SR) (Bk : SB) (Xx : SX) (hR : Rep cy L o qa Mm Dd Sl Pp Kr Bk Xx F) (d w : Int32) (hw : ¬ w = 0 ∧ ¬ w = 1 ∧ ¬ w = 2 ∧ ¬ w = 3)  : Met l yX8_told wsX8_told ({ frames := 4, cells := 0, slots := 0, locals := 99 }) (va_Pc [.ref o, .int d, .int w] (fun U => bQE G cy L F ad sz U U.heap)) (va_Ql (fun (r : Int64) (F' : Nat → va_E) => r = sp_told Dd d w ∧ Rep cy L o qa Mm Dd Sl Pp Kr Bk Xx F') (fun F' t => va_P G vwCl (va_pl L F') t.heap) (va_A (va_pl L F) sz)) 0 0 (va_A (va_pl L F) sz) := by
  refine Met.ofW (cc := cX8_told) (maxL := 4) (ret := (some .long)) (by decide) rfl ?_
  intro p e s m args below meth c s₁ B hml hv
  obtain ⟨rfl, ⟨hsz, hP, hK, hD0⟩, hE, hN⟩ := hv
  have hx := B.exec
  have hb := B.bytes
  have hr := B.returns
  have hts := atoms_spec (ws := wsX8_told) B.pre
  have hown : s.vm.findClass RX8 = some m.cls := findClass_of_methodNamed B.named
  have hlocks := B.notSynchronized
  have hinX8 : ∀ w ∈ wsX80, w ∈ wsX8_told := by decide +kernel
  have hinX1 : ∀ w ∈ wsX10, w ∈ wsX8_told := by decide +kernel
  subst hsz
  have hD := hD0.self F s.heap.size
  generalize hAe : va_A (va_pl L F) s.heap.size = A at hD hE ⊢
  have hA : ∀ q : Nat, s.heap.size ≤ q → A q := fun q h => by rw [← hAe]; exact Or.inr h
  have hS : va_S A s.heap s.heap [] := va_S.rf
  obtain ⟨⟨⟨hmo, hFo⟩, ⟨hmf, hFf⟩, hms, hFs⟩, ⟨⟨hm0, hF0⟩, ⟨hm1, hF1⟩, ⟨hm2, hF2⟩, ⟨hm4, hF4⟩, hm5, hF5⟩, hRM, hRD, hRG, hRP, hRR, hRB, hRI⟩ := id hR
  have hl := lv_entry ([.ref o, .int d, .int w]) (n := 4) (Nat.le_of_ble_eq_true rfl)
  rw [lg_entry_eq]
  generalize (lg_sl ([.ref o, .int d, .int w]) ++ List.replicate (4 - (lg_sl ([.ref o, .int d, .int w])).length) Slot.unset).toArray = ls at hl ⊢
  have hl : lv_has ls 4 [(0, .ref o), (1, .int d), (2, .int w)] := hl
  rcases ixc 6 d with hi_d | ⟨j_d, hj_d, hi_d, ei_d⟩
  · refine lv_aload_n hx hb dX8_told_0 rfl (lv_at hl 0 rfl) ?_
    refine lv_iload_n hx hb dX8_told_1 rfl (lv_at hl 1 rfl) ?_
    refine va_csq (W.runV (As := [.int d]) (rest := []) ⟨hx, hb, hml, hown, hts⟩ (c_drumOf_no l G cy L F o qa Mm Dd Sl Pp Kr Bk Xx hR d hi_d) (cwV 1 hts gX8_told_X8_drumOf rfl rfl rfl (by decide +kernel) ⟨Nat.le_of_ble_eq_true rfl, Nat.le_of_ble_eq_true rfl⟩) (preV_of okP (⟨hP, hK, hD.top⟩) (pl_recv hK hP (ci := 7) rfl hmo hFo)) rfl rfl hl.1 rfl (lv_room (Nat.le_of_ble_eq_true rfl)) dX8_told_2 ⟨Nat.le_of_ble_eq_true rfl, Nat.le_of_ble_eq_true rfl⟩) (fun r1 hr1 => ?_)
    subst hr1
    refine W.eq (g2 := F0 m 5 ls [.null]) rfl ?_
    refine lv_astore_nN (lv' := [(3, .null), (0, .ref o), (1, .int d), (2, .int w)]) hx hb dX8_told_5 rfl hl (by decide) rfl (fun ls hl => ?_)
    refine lv_aload_nN hx hb dX8_told_6 rfl (lv_at hl 0 rfl) ?_
    refine lv_ifnonnullN hx hb dX8_told_7 ?_
    refine lv_ldc2 hx hb hown (hts (.constantLong RX8 93 (-1001)) (by decide +kernel)) dX8_told_10 ?_
    exact W.lret (v := -1001) hx hb hr (fun t ht hW => ⟨⟨-1001, F, rfl, ⟨by unfold sp_told; rw [hi_d], hR⟩, (by show va_P _ _ _ t.heap; rw [ht]; exact hP)⟩, hS.F ht⟩) hS.2.2 dX8_told_13
  · subst ei_d
    obtain ⟨hmd_d, hFd_d, hokd_d⟩ := hRD j_d hj_d
    refine lv_aload_n hx hb dX8_told_0 rfl (lv_at hl 0 rfl) ?_
    refine lv_iload_n hx hb dX8_told_1 rfl (lv_at hl 1 rfl) ?_
    refine va_csq (W.runV (As := [.int (nI j_d)]) (rest := []) ⟨hx, hb, hml, hown, hts⟩ (c_drumOf l G cy L F o qa Mm Dd Sl Pp Kr Bk Xx hR j_d hj_d) (cwV 1 hts gX8_told_X8_drumOf rfl rfl rfl (by decide +kernel) ⟨Nat.le_of_ble_eq_true rfl, Nat.le_of_ble_eq_true rfl⟩) (preV_of okP (⟨hP, hK, hD.top⟩) (pl_recv hK hP (ci := 7) rfl hmo hFo)) rfl rfl hl.1 rfl (lv_room (Nat.le_of_ble_eq_true rfl)) dX8_told_2 ⟨Nat.le_of_ble_eq_true rfl, Nat.le_of_ble_eq_true rfl⟩) (fun r2 hr2 => ?_)
    subst hr2
    refine W.eq (g2 := F0 m 5 ls [.ref (qa 1 j_d)]) rfl ?_
    refine lv_astore_n (lv' := [(3, .ref (qa 1 j_d)), (0, .ref o), (1, .int (nI j_d)), (2, .int w)]) hx hb dX8_told_5 rfl hl (by decide) rfl (fun ls hl => ?_)
    refine lv_aload_n hx hb dX8_told_6 rfl (lv_at hl 0 rfl) ?_
    refine lv_ifnonnull (tgt := 14) hx hb dX8_told_7 (by decide) ?_
    refine lv_iload_n hx hb dX8_told_14 rfl (lv_at hl 3 rfl) ?_
    refine lv_tableOut (tgt := 82) hx hb dX8_told_15 (by have h0 : (0 : Int32).toInt = 0 := (by decide); have h1 : (1 : Int32).toInt = 1 := (by decide); have h2 : (2 : Int32).toInt = 2 := (by decide); have h3 : (3 : Int32).toInt = 3 := (by decide); have q0 := hw.1; have q1 := hw.2.1; have q2 := hw.2.2.1; have q3 := hw.2.2.2; rw [fa_eq] at q0 q1 q2 q3; omega) (by decide) ?_
    refine lv_ldc2 hx hb hown (hts (.constantLong RX8 194 (-1002)) (by decide +kernel)) dX8_told_82 ?_
    exact W.lret (v := -1002) hx hb hr (fun t ht hW => ⟨⟨-1002, F, rfl, ⟨by unfold sp_told; rw [hi_d]; show _ = (if _ then _ else _); rw [if_neg (fun q => hw.1 q), if_neg (fun q => hw.2.1 q), if_neg (fun q => hw.2.2.1 q), if_neg (fun q => hw.2.2.2 q)], hR⟩, (by show va_P _ _ _ t.heap; rw [ht]; exact hP)⟩, hS.F ht⟩) hS.2.2 dX8_told_85

set_option maxHeartbeats 8000000 in
set_option maxRecDepth 100000 in
theorem m_drum (l : Launch) (G : va_G) (cy : Nat → ClassId) (L : List Nat) (F : Nat → va_E) (ad : Nat → Nat) (sz : Nat) (o : Nat) (qa : Nat → Nat → Nat) (Mm : SM) (Dd : SD) (Sl : SL) (Pp : SP) (Kr : SR) (Bk : SB) (Xx : SX) (hR : Rep cy L o qa Mm Dd Sl Pp Kr Bk Xx F) (d : Int32) (n : Nat) (hn : n < 2 ^ 64)  : Met l yX8_drum wsX8_drum ({ frames := 3, cells := 0, slots := 0, locals := 72 }) (va_Pc [.ref o, .int d, .long (lN n)] (fun U => bQE G cy L F ad sz U U.heap)) (va_Qi (fun (r : Int32) (F' : Nat → va_E) => r = (sp_drum Dd d (lN n)).1 ∧ Rep cy L o qa Mm (sp_drum Dd d (lN n)).2 Sl Pp Kr Bk Xx F') (fun F' t => va_P G vwCl (va_pl L F') t.heap) (va_A (va_pl L F) sz)) 0 0 (va_A (va_pl L F) sz) := by
  refine Met.ofW (cc := cX8_drum) (maxL := 7) (ret := (some .int)) (by decide) rfl ?_
  intro p e s m args below meth c s₁ B hml hv
  obtain ⟨rfl, ⟨hsz, hP, hK, hD0⟩, hE, hN⟩ := hv
  have hx := B.exec
  have hb := B.bytes
  have hr := B.returns
  have hts := atoms_spec (ws := wsX8_drum) B.pre
  have hown : s.vm.findClass RX8 = some m.cls := findClass_of_methodNamed B.named
  have hlocks := B.notSynchronized
  have hinX8 : ∀ w ∈ wsX80, w ∈ wsX8_drum := by decide +kernel
  have hinX1 : ∀ w ∈ wsX10, w ∈ wsX8_drum := by decide +kernel
  subst hsz
  have hD := hD0.self F s.heap.size
  generalize hAe : va_A (va_pl L F) s.heap.size = A at hD hE ⊢
  have hA : ∀ q : Nat, s.heap.size ≤ q → A q := fun q h => by rw [← hAe]; exact Or.inr h
  have hS : va_S A s.heap s.heap [] := va_S.rf
  obtain ⟨⟨⟨hmo, hFo⟩, ⟨hmf, hFf⟩, hms, hFs⟩, ⟨⟨hm0, hF0⟩, ⟨hm1, hF1⟩, ⟨hm2, hF2⟩, ⟨hm4, hF4⟩, hm5, hF5⟩, hRM, hRD, hRG, hRP, hRR, hRB, hRI⟩ := id hR
  have hl := lv_entry ([.ref o, .int d, .long (lN n)]) (n := 7) (Nat.le_of_ble_eq_true rfl)
  rw [lg_entry_eq]
  generalize (lg_sl ([.ref o, .int d, .long (lN n)]) ++ List.replicate (7 - (lg_sl ([.ref o, .int d, .long (lN n)])).length) Slot.unset).toArray = ls at hl ⊢
  have hl : lv_has ls 7 [(0, .ref o), (1, .int d), (2, .long (lN n))] := hl
  rcases ixc 6 d with hi_d | ⟨j_d, hj_d, hi_d, ei_d⟩
  · refine lv_aload_n hx hb dX8_drum_0 rfl (lv_at hl 0 rfl) ?_
    refine lv_iload_n hx hb dX8_drum_1 rfl (lv_at hl 1 rfl) ?_
    refine va_csq (W.runV (As := [.int d]) (rest := []) ⟨hx, hb, hml, hown, hts⟩ (c_drumOf_no l G cy L F o qa Mm Dd Sl Pp Kr Bk Xx hR d hi_d) (cwV 1 hts gX8_drum_X8_drumOf rfl rfl rfl (by decide +kernel) ⟨Nat.le_of_ble_eq_true rfl, Nat.le_of_ble_eq_true rfl⟩) (preV_of okP (⟨hP, hK, hD.top⟩) (pl_recv hK hP (ci := 7) rfl hmo hFo)) rfl rfl hl.1 rfl (lv_room (Nat.le_of_ble_eq_true rfl)) dX8_drum_2 ⟨Nat.le_of_ble_eq_true rfl, Nat.le_of_ble_eq_true rfl⟩) (fun r1 hr1 => ?_)
    subst hr1
    refine W.eq (g2 := F0 m 5 ls [.null]) rfl ?_
    refine lv_astoreN (lv' := [(4, .null), (0, .ref o), (1, .int d), (2, .long (lN n))]) hx hb dX8_drum_5 hl (by decide) rfl (fun ls hl => ?_)
    refine lv_aloadN hx hb dX8_drum_7 (lv_at hl 0 rfl) ?_
    refine lv_ifnonnullN hx hb dX8_drum_9 ?_
    refine lv_sipush (v := -1001) hx hb dX8_drum_12 (by decide) ?_
    exact W.iret (v := -1001) hx hb hr (fun t ht hW => ⟨⟨-1001, F, rfl, (by have hsp : sp_drum Dd d (lN n) = (-1001, Dd) := (by unfold sp_drum; rw [hi_d]); rw [hsp]; exact ⟨rfl, hR⟩), (by show va_P _ _ _ t.heap; rw [ht]; exact hP)⟩, hS.F ht⟩) hS.2.2 dX8_drum_15
  · subst ei_d
    obtain ⟨hmd_d, hFd_d, hokd_d⟩ := hRD j_d hj_d
    refine lv_aload_n hx hb dX8_drum_0 rfl (lv_at hl 0 rfl) ?_
    refine lv_iload_n hx hb dX8_drum_1 rfl (lv_at hl 1 rfl) ?_
    refine va_csq (W.runV (As := [.int (nI j_d)]) (rest := []) ⟨hx, hb, hml, hown, hts⟩ (c_drumOf l G cy L F o qa Mm Dd Sl Pp Kr Bk Xx hR j_d hj_d) (cwV 1 hts gX8_drum_X8_drumOf rfl rfl rfl (by decide +kernel) ⟨Nat.le_of_ble_eq_true rfl, Nat.le_of_ble_eq_true rfl⟩) (preV_of okP (⟨hP, hK, hD.top⟩) (pl_recv hK hP (ci := 7) rfl hmo hFo)) rfl rfl hl.1 rfl (lv_room (Nat.le_of_ble_eq_true rfl)) dX8_drum_2 ⟨Nat.le_of_ble_eq_true rfl, Nat.le_of_ble_eq_true rfl⟩) (fun r2 hr2 => ?_)
    subst hr2
    refine W.eq (g2 := F0 m 5 ls [.ref (qa 1 j_d)]) rfl ?_
    refine lv_astore (lv' := [(4, .ref (qa 1 j_d)), (0, .ref o), (1, .int (nI j_d)), (2, .long (lN n))]) hx hb dX8_drum_5 hl (by decide) rfl (fun ls hl => ?_)
    refine lv_aload hx hb dX8_drum_7 (lv_at hl 0 rfl) ?_
    refine lv_ifnonnull (tgt := 16) hx hb dX8_drum_9 (by decide) ?_
    refine va_gets (C := "RopeDrums$Form") (n := "DOUBLE") (d := "LRopeDrums$Form;") (v := .ref (ad 1)) hx hb (hE.1 1 (by decide)).1 hS hown (hts (.fieldLink RX8 166 "RopeDrums$Form" "DOUBLE" "LRopeDrums$Form;") (by decide +kernel)) (fun _ h9 => h9) dX8_drum_16 ?_
    refine lv_lload_n hx hb dX8_drum_19 rfl (lv_at hl 3 rfl) ?_
    refine vp_callSi (W.runV (As := [.long (lN n)]) (rest := []) ⟨hx, hb, hml, hown, hts⟩ (c_isNumber_1 l ad (lN n) ) (cwV 1 hts gX8_drum_X2_isNumber rfl rfl rfl (by decide +kernel) ⟨Nat.le_of_ble_eq_true rfl, Nat.le_of_ble_eq_true rfl⟩) (preV_of okE (pE.low hE hN hS) (va_recvE hE (by decide) hS)) rfl rfl hl.1 rfl (lv_room (Nat.le_of_ble_eq_true rfl)) dX8_drum_20 ⟨Nat.le_of_ble_eq_true rfl, Nat.le_of_ble_eq_true rfl⟩) (fun r3 hr3 => ?_)
    rw [isNum1 hn] at hr3
    refine lv_if_ne (tgt := 30) hx hb dX8_drum_23 (by decide) (fun c4 => ?_) (fun c4 => ?_)
    · have hgood : n % 2 ^ 63 ≤ 9218868437227405312 := Decidable.byContradiction (fun q => c4 (by rw [hr3, if_neg q]))
      have hv : FP.Core.val64 (UInt64.ofNat n) ≠ .nan := by rw [FP.Core.ne_nan, u_tn hn]; exact hgood
      refine va_gets (C := "RopeDrums$Form") (n := "DOUBLE") (d := "LRopeDrums$Form;") (v := .ref (ad 1)) hx hb (hE.1 1 (by decide)).1 hS hown (hts (.fieldLink RX8 166 "RopeDrums$Form" "DOUBLE" "LRopeDrums$Form;") (by decide +kernel)) (fun _ h9 => h9) dX8_drum_30 ?_
      refine lv_lload_n hx hb dX8_drum_33 rfl (lv_at hl 3 rfl) ?_
      refine vp_callSd (W.runV (As := [.long (lN n)]) (rest := []) ⟨hx, hb, hml, hown, hts⟩ (c_numberOf_1 l ad n hn hgood) (cwV 1 hts gX8_drum_X2_numberOf rfl rfl rfl (by decide +kernel) ⟨Nat.le_of_ble_eq_true rfl, Nat.le_of_ble_eq_true rfl⟩) (preV_of okE (pE.low hE hN hS) (va_recvE hE (by decide) hS)) rfl rfl hl.1 rfl (lv_room (Nat.le_of_ble_eq_true rfl)) dX8_drum_34 ⟨Nat.le_of_ble_eq_true rfl, Nat.le_of_ble_eq_true rfl⟩) (fun r5 hr5 => ?_)
      subst hr5
      refine lv_dstore (lv' := [(5, .double (UInt64.ofNat n)), (4, .ref (qa 1 j_d)), (0, .ref o), (1, .int (nI j_d)), (2, .long (lN n))]) hx hb dX8_drum_37 hl (by decide) rfl (fun ls hl => ?_)
      refine lv_dload hx hb dX8_drum_39 (lv_at hl 0 rfl) ?_
      refine lv_ldc2d hx hb hown (hts (.constantDouble RX8 170 (4593671619917905920)) (by decide +kernel)) dX8_drum_41 ?_
      refine lv_dcmp hx hb dX8_drum_44 ?_
      refine lv_if_lt (tgt := 57) hx hb dX8_drum_45 (by decide) (fun c6 => ?_) (fun c6 => ?_)
      · refine lv_sipush (v := -1002) hx hb dX8_drum_57 (by decide) ?_
        exact W.iret (v := -1002) hx hb hr (fun t ht hW => ⟨⟨-1002, F, rfl, (by have hsp : sp_drum Dd (nI j_d) (lN n) = (-1002, Dd) := (by unfold sp_drum; rw [hi_d]; exact if_neg (by have hc := (ar_cmp hv).1.mp c6; rw [u_tn hn] at hc; rw [(show db (lN n) = UInt64.ofNat n by unfold db; rw [lN_u]), u_tn hn]; unfold okAr; simp; omega)); rw [hsp]; exact ⟨rfl, hR⟩), (by show va_P _ _ _ t.heap; rw [ht]; exact hP)⟩, hS.F ht⟩) hS.2.2 dX8_drum_60
      · refine lv_dload hx hb dX8_drum_48 (lv_at hl 0 rfl) ?_
        refine lv_ldc2d hx hb hown (hts (.constantDouble RX8 172 (4696837146684686336)) (by decide +kernel)) dX8_drum_50 ?_
        refine lv_dcmp hx hb dX8_drum_53 ?_
        refine lv_if_le (tgt := 61) hx hb dX8_drum_54 (by decide) (fun c7 => ?_) (fun c7 => ?_)
        · refine lv_aload hx hb dX8_drum_61 (lv_at hl 1 rfl) ?_
          refine lv_dload hx hb dX8_drum_63 (lv_at hl 0 rfl) ?_
          refine pg_put (ci := 1) (v := .double (UInt64.ofNat n)) (ty := .double) (C := RX1) (T := TX1) (N := 4) hx hb hts hinX1 tyX1 tyX1_ok nmX1 hown hK hP hD hS hmd_d hFd_d rfl 0 (by decide) (hts (.fieldLink RX8 174 "RopeDrums$Drum" "around" "D") (by decide +kernel)) (fun _ h9 => h9) rfl (by decide +kernel) (rfl) (rfl) (Nat.le_of_ble_eq_true rfl) dX8_drum_65 (fun H locs F8 eF8 hP hS => ?_)
          have eF8 : F8 = va_up F (qa 1 j_d) (.inr (1, [.double (UInt64.ofNat n), .double (Dd.2.1 j_d), .double (Dd.2.2.1 j_d), .long (Dd.2.2.2 j_d)])) := eF8
          have hFo_8 : F8 o = .inr (7, [.ref (qa 8 0), .ref (qa 8 1), .ref (qa 8 2), .ref (qa 8 3), .ref (qa 8 4), .ref (qa 8 5), .ref (qa 8 6), .int Pp.1, .int Xx.1]) := by rw [eF8, va_up_ne _ _ (pl_ne hFo hFd_d rfl)]; exact hFo
          have hFqa80_8 : F8 (qa 8 0) = cQ (cy 7) 10 (pR 10 (qa 0)) := by rw [eF8, va_up_ne _ _ (pl_ne hF0 hFd_d rfl)]; exact hF0
          have hFqa81_8 : F8 (qa 8 1) = cQ (cy 5) 6 (pR 6 (qa 1)) := by rw [eF8, va_up_ne _ _ (pl_ne hF1 hFd_d rfl)]; exact hF1
          have hFqa82_8 : F8 (qa 8 2) = cQ (cy 6) 8 (pR 8 (qa 2)) := by rw [eF8, va_up_ne _ _ (pl_ne hF2 hFd_d rfl)]; exact hF2
          have hFqa83_8 : F8 (qa 8 3) = cQ (cy 9) 30 (pR Pp.1.toInt.toNat (qa 7)) := by rw [eF8, va_up_ne _ _ (pl_ne hFs hFd_d rfl)]; exact hFs
          have hFqa84_8 : F8 (qa 8 4) = cQ (cy 8) 5 (pR 5 (qa 4)) := by rw [eF8, va_up_ne _ _ (pl_ne hF4 hFd_d rfl)]; exact hF4
          have hFqa85_8 : F8 (qa 8 5) = cQ (cy 4) 4 (pR 4 (qa 6)) := by rw [eF8, va_up_ne _ _ (pl_ne hF5 hFd_d rfl)]; exact hF5
          have hFqa86_8 : F8 (qa 8 6) = cI (cy 1) 6 Xx.2 := by rw [eF8, va_up_ne _ _ (pl_ne hFf hFd_d rfl)]; exact hFf
          have hFqa1j_d_8 : F8 (qa 1 j_d) = .inr (1, [.double (UInt64.ofNat n), .double (Dd.2.1 j_d), .double (Dd.2.2.1 j_d), .long (Dd.2.2.2 j_d)]) := by rw [eF8]; exact va_up_self _ _ _
          refine lv_aload hx hb dX8_drum_68 (lv_at hl 1 rfl) ?_
          refine lv_dconst0 hx hb dX8_drum_70 ?_
          refine pg_put (ci := 1) (v := .double FP.dconst0) (ty := .double) (C := RX1) (T := TX1) (N := 4) hx hb hts hinX1 tyX1 tyX1_ok nmX1 hown hK hP hD hS hmd_d hFqa1j_d_8 rfl 1 (by decide) (hts (.fieldLink RX8 177 "RopeDrums$Drum" "at" "D") (by decide +kernel)) (fun _ h9 => h9) rfl (by decide +kernel) (rfl) (rfl) (Nat.le_of_ble_eq_true rfl) dX8_drum_71 (fun H locs F9 eF9 hP hS => ?_)
          have eF9 : F9 = va_up F8 (qa 1 j_d) (.inr (1, [.double (UInt64.ofNat n), .double FP.dconst0, .double (Dd.2.2.1 j_d), .long (Dd.2.2.2 j_d)])) := eF9
          have hFo_9 : F9 o = .inr (7, [.ref (qa 8 0), .ref (qa 8 1), .ref (qa 8 2), .ref (qa 8 3), .ref (qa 8 4), .ref (qa 8 5), .ref (qa 8 6), .int Pp.1, .int Xx.1]) := by rw [eF9, va_up_ne _ _ (pl_ne hFo_8 hFqa1j_d_8 rfl)]; exact hFo_8
          have hFqa80_9 : F9 (qa 8 0) = cQ (cy 7) 10 (pR 10 (qa 0)) := by rw [eF9, va_up_ne _ _ (pl_ne hFqa80_8 hFqa1j_d_8 rfl)]; exact hFqa80_8
          have hFqa81_9 : F9 (qa 8 1) = cQ (cy 5) 6 (pR 6 (qa 1)) := by rw [eF9, va_up_ne _ _ (pl_ne hFqa81_8 hFqa1j_d_8 rfl)]; exact hFqa81_8
          have hFqa82_9 : F9 (qa 8 2) = cQ (cy 6) 8 (pR 8 (qa 2)) := by rw [eF9, va_up_ne _ _ (pl_ne hFqa82_8 hFqa1j_d_8 rfl)]; exact hFqa82_8
          have hFqa83_9 : F9 (qa 8 3) = cQ (cy 9) 30 (pR Pp.1.toInt.toNat (qa 7)) := by rw [eF9, va_up_ne _ _ (pl_ne hFqa83_8 hFqa1j_d_8 rfl)]; exact hFqa83_8
          have hFqa84_9 : F9 (qa 8 4) = cQ (cy 8) 5 (pR 5 (qa 4)) := by rw [eF9, va_up_ne _ _ (pl_ne hFqa84_8 hFqa1j_d_8 rfl)]; exact hFqa84_8
          have hFqa85_9 : F9 (qa 8 5) = cQ (cy 4) 4 (pR 4 (qa 6)) := by rw [eF9, va_up_ne _ _ (pl_ne hFqa85_8 hFqa1j_d_8 rfl)]; exact hFqa85_8
          have hFqa86_9 : F9 (qa 8 6) = cI (cy 1) 6 Xx.2 := by rw [eF9, va_up_ne _ _ (pl_ne hFqa86_8 hFqa1j_d_8 rfl)]; exact hFqa86_8
          have hFqa1j_d_9 : F9 (qa 1 j_d) = .inr (1, [.double (UInt64.ofNat n), .double FP.dconst0, .double (Dd.2.2.1 j_d), .long (Dd.2.2.2 j_d)]) := by rw [eF9]; exact va_up_self _ _ _
          refine lv_aload hx hb dX8_drum_74 (lv_at hl 1 rfl) ?_
          refine lv_dconst0 hx hb dX8_drum_76 ?_
          refine pg_put (ci := 1) (v := .double FP.dconst0) (ty := .double) (C := RX1) (T := TX1) (N := 4) hx hb hts hinX1 tyX1 tyX1_ok nmX1 hown hK hP hD hS hmd_d hFqa1j_d_9 rfl 2 (by decide) (hts (.fieldLink RX8 180 "RopeDrums$Drum" "rope" "D") (by decide +kernel)) (fun _ h9 => h9) rfl (by decide +kernel) (rfl) (rfl) (Nat.le_of_ble_eq_true rfl) dX8_drum_77 (fun H locs F10 eF10 hP hS => ?_)
          have eF10 : F10 = va_up F9 (qa 1 j_d) (.inr (1, [.double (UInt64.ofNat n), .double FP.dconst0, .double FP.dconst0, .long (Dd.2.2.2 j_d)])) := eF10
          have hFo_10 : F10 o = .inr (7, [.ref (qa 8 0), .ref (qa 8 1), .ref (qa 8 2), .ref (qa 8 3), .ref (qa 8 4), .ref (qa 8 5), .ref (qa 8 6), .int Pp.1, .int Xx.1]) := by rw [eF10, va_up_ne _ _ (pl_ne hFo_9 hFqa1j_d_9 rfl)]; exact hFo_9
          have hFqa80_10 : F10 (qa 8 0) = cQ (cy 7) 10 (pR 10 (qa 0)) := by rw [eF10, va_up_ne _ _ (pl_ne hFqa80_9 hFqa1j_d_9 rfl)]; exact hFqa80_9
          have hFqa81_10 : F10 (qa 8 1) = cQ (cy 5) 6 (pR 6 (qa 1)) := by rw [eF10, va_up_ne _ _ (pl_ne hFqa81_9 hFqa1j_d_9 rfl)]; exact hFqa81_9
          have hFqa82_10 : F10 (qa 8 2) = cQ (cy 6) 8 (pR 8 (qa 2)) := by rw [eF10, va_up_ne _ _ (pl_ne hFqa82_9 hFqa1j_d_9 rfl)]; exact hFqa82_9
          have hFqa83_10 : F10 (qa 8 3) = cQ (cy 9) 30 (pR Pp.1.toInt.toNat (qa 7)) := by rw [eF10, va_up_ne _ _ (pl_ne hFqa83_9 hFqa1j_d_9 rfl)]; exact hFqa83_9
          have hFqa84_10 : F10 (qa 8 4) = cQ (cy 8) 5 (pR 5 (qa 4)) := by rw [eF10, va_up_ne _ _ (pl_ne hFqa84_9 hFqa1j_d_9 rfl)]; exact hFqa84_9
          have hFqa85_10 : F10 (qa 8 5) = cQ (cy 4) 4 (pR 4 (qa 6)) := by rw [eF10, va_up_ne _ _ (pl_ne hFqa85_9 hFqa1j_d_9 rfl)]; exact hFqa85_9
          have hFqa86_10 : F10 (qa 8 6) = cI (cy 1) 6 Xx.2 := by rw [eF10, va_up_ne _ _ (pl_ne hFqa86_9 hFqa1j_d_9 rfl)]; exact hFqa86_9
          have hFqa1j_d_10 : F10 (qa 1 j_d) = .inr (1, [.double (UInt64.ofNat n), .double FP.dconst0, .double FP.dconst0, .long (Dd.2.2.2 j_d)]) := by rw [eF10]; exact va_up_self _ _ _
          refine lv_aload hx hb dX8_drum_80 (lv_at hl 1 rfl) ?_
          refine lv_lconst (v := 0) hx hb dX8_drum_82 (by decide) ?_
          refine pg_put (ci := 1) (v := .long 0) (ty := .long) (C := RX1) (T := TX1) (N := 4) hx hb hts hinX1 tyX1 tyX1_ok nmX1 hown hK hP hD hS hmd_d hFqa1j_d_10 rfl 3 (by decide) (hts (.fieldLink RX8 183 "RopeDrums$Drum" "turns" "J") (by decide +kernel)) (fun _ h9 => h9) rfl (by decide +kernel) (rfl) (rfl) (Nat.le_of_ble_eq_true rfl) dX8_drum_83 (fun H locs F11 eF11 hP hS => ?_)
          have eF11 : F11 = va_up F10 (qa 1 j_d) (.inr (1, [.double (UInt64.ofNat n), .double FP.dconst0, .double FP.dconst0, .long 0])) := eF11
          have hFo_11 : F11 o = .inr (7, [.ref (qa 8 0), .ref (qa 8 1), .ref (qa 8 2), .ref (qa 8 3), .ref (qa 8 4), .ref (qa 8 5), .ref (qa 8 6), .int Pp.1, .int Xx.1]) := by rw [eF11, va_up_ne _ _ (pl_ne hFo_10 hFqa1j_d_10 rfl)]; exact hFo_10
          have hFqa80_11 : F11 (qa 8 0) = cQ (cy 7) 10 (pR 10 (qa 0)) := by rw [eF11, va_up_ne _ _ (pl_ne hFqa80_10 hFqa1j_d_10 rfl)]; exact hFqa80_10
          have hFqa81_11 : F11 (qa 8 1) = cQ (cy 5) 6 (pR 6 (qa 1)) := by rw [eF11, va_up_ne _ _ (pl_ne hFqa81_10 hFqa1j_d_10 rfl)]; exact hFqa81_10
          have hFqa82_11 : F11 (qa 8 2) = cQ (cy 6) 8 (pR 8 (qa 2)) := by rw [eF11, va_up_ne _ _ (pl_ne hFqa82_10 hFqa1j_d_10 rfl)]; exact hFqa82_10
          have hFqa83_11 : F11 (qa 8 3) = cQ (cy 9) 30 (pR Pp.1.toInt.toNat (qa 7)) := by rw [eF11, va_up_ne _ _ (pl_ne hFqa83_10 hFqa1j_d_10 rfl)]; exact hFqa83_10
          have hFqa84_11 : F11 (qa 8 4) = cQ (cy 8) 5 (pR 5 (qa 4)) := by rw [eF11, va_up_ne _ _ (pl_ne hFqa84_10 hFqa1j_d_10 rfl)]; exact hFqa84_10
          have hFqa85_11 : F11 (qa 8 5) = cQ (cy 4) 4 (pR 4 (qa 6)) := by rw [eF11, va_up_ne _ _ (pl_ne hFqa85_10 hFqa1j_d_10 rfl)]; exact hFqa85_10
          have hFqa86_11 : F11 (qa 8 6) = cI (cy 1) 6 Xx.2 := by rw [eF11, va_up_ne _ _ (pl_ne hFqa86_10 hFqa1j_d_10 rfl)]; exact hFqa86_10
          have hFqa1j_d_11 : F11 (qa 1 j_d) = .inr (1, [.double (UInt64.ofNat n), .double FP.dconst0, .double FP.dconst0, .long 0]) := by rw [eF11]; exact va_up_self _ _ _
          refine lv_iconst (v := 1) hx hb dX8_drum_86 (by decide) ?_
          exact W.iret (v := 1) hx hb hr (fun t ht hW => ⟨⟨1, F11, rfl, (by have hok : okAr (UInt64.ofNat n).toNat = true := (by have hc1 := (not_congr (ar_cmp hv).1).mp c6; have hc := (ar_cmp hv).2.mp c7; rw [u_tn hn] at hc hc1; rw [u_tn hn]; unfold okAr; simp; omega); have hsp : sp_drum Dd (nI j_d) (lN n) = (1, setD Dd j_d (UInt64.ofNat n) 0 0 0) := (by unfold sp_drum; rw [hi_d, ← (show db (lN n) = UInt64.ofNat n by unfold db; rw [lN_u])]; exact if_pos (by rw [(show db (lN n) = UInt64.ofNat n by unfold db; rw [lN_u])]; exact hok)); rw [hsp]; exact ⟨rfl, by rw [eF11, eF10, eF9, eF8, upup, upup, upup]; exact hR.drum hj_d (okAr_D hok)⟩), (by show va_P _ _ _ t.heap; rw [ht]; exact hP)⟩, hS.F ht⟩) hS.2.2 dX8_drum_87
        · refine lv_sipush (v := -1002) hx hb dX8_drum_57 (by decide) ?_
          exact W.iret (v := -1002) hx hb hr (fun t ht hW => ⟨⟨-1002, F, rfl, (by have hsp : sp_drum Dd (nI j_d) (lN n) = (-1002, Dd) := (by unfold sp_drum; rw [hi_d]; exact if_neg (by have hc1 := (not_congr (ar_cmp hv).1).mp c6; have hc := (not_congr (ar_cmp hv).2).mp c7; rw [u_tn hn] at hc hc1; rw [(show db (lN n) = UInt64.ofNat n by unfold db; rw [lN_u]), u_tn hn]; unfold okAr; simp; omega)); rw [hsp]; exact ⟨rfl, hR⟩), (by show va_P _ _ _ t.heap; rw [ht]; exact hP)⟩, hS.F ht⟩) hS.2.2 dX8_drum_60
    · have hbad : ¬ n % 2 ^ 63 ≤ 9218868437227405312 := fun q => by have hc := c4; rw [hr3, if_pos q] at hc; exact absurd hc (by decide)
      refine lv_sipush (v := -1002) hx hb dX8_drum_26 (by decide) ?_
      exact W.iret (v := -1002) hx hb hr (fun t ht hW => ⟨⟨-1002, F, rfl, (by have hsp : sp_drum Dd (nI j_d) (lN n) = (-1002, Dd) := (by unfold sp_drum; rw [hi_d]; exact if_neg (by rw [(show db (lN n) = UInt64.ofNat n by unfold db; rw [lN_u]), u_tn hn]; unfold okAr; simp; omega)); rw [hsp]; exact ⟨rfl, hR⟩), (by show va_P _ _ _ t.heap; rw [ht]; exact hP)⟩, hS.F ht⟩) hS.2.2 dX8_drum_29

set_option maxHeartbeats 8000000 in
set_option maxRecDepth 100000 in
theorem m_wind (l : Launch) (G : va_G) (cy : Nat → ClassId) (L : List Nat) (F : Nat → va_E) (ad : Nat → Nat) (sz : Nat) (o : Nat) (qa : Nat → Nat → Nat) (Mm : SM) (Dd : SD) (Sl : SL) (Pp : SP) (Kr : SR) (Bk : SB) (Xx : SX) (hR : Rep cy L o qa Mm Dd Sl Pp Kr Bk Xx F) (d me : Int32)  : Met l yX8_wind wsX8_wind ({ frames := 4, cells := 0, slots := 0, locals := 109 }) (va_Pc [.ref o, .int d, .int me] (fun U => bQE G cy L F ad sz U U.heap)) (va_Qi (fun (r : Int32) (F' : Nat → va_E) => r = (sp_wind Mm Dd Xx d me).1 ∧ Rep cy L o qa Mm (sp_wind Mm Dd Xx d me).2.1 Sl Pp Kr Bk (sp_wind Mm Dd Xx d me).2.2 F') (fun F' t => va_P G vwCl (va_pl L F') t.heap) (va_A (va_pl L F) sz)) 0 0 (va_A (va_pl L F) sz) := by
  refine Met.ofW (cc := cX8_wind) (maxL := 9) (ret := (some .int)) (by decide) rfl ?_
  intro p e s m args below meth c s₁ B hml hv
  obtain ⟨rfl, ⟨hsz, hP, hK, hD0⟩, hE, hN⟩ := hv
  have hx := B.exec
  have hb := B.bytes
  have hr := B.returns
  have hts := atoms_spec (ws := wsX8_wind) B.pre
  have hown : s.vm.findClass RX8 = some m.cls := findClass_of_methodNamed B.named
  have hlocks := B.notSynchronized
  have hinX8 : ∀ w ∈ wsX80, w ∈ wsX8_wind := by decide +kernel
  have hinX1 : ∀ w ∈ wsX10, w ∈ wsX8_wind := by decide +kernel
  have hinX4 : ∀ w ∈ wsX40, w ∈ wsX8_wind := by decide +kernel
  subst hsz
  have hD := hD0.self F s.heap.size
  generalize hAe : va_A (va_pl L F) s.heap.size = A at hD hE ⊢
  have hA : ∀ q : Nat, s.heap.size ≤ q → A q := fun q h => by rw [← hAe]; exact Or.inr h
  have hS : va_S A s.heap s.heap [] := va_S.rf
  obtain ⟨⟨⟨hmo, hFo⟩, ⟨hmf, hFf⟩, hms, hFs⟩, ⟨⟨hm0, hF0⟩, ⟨hm1, hF1⟩, ⟨hm2, hF2⟩, ⟨hm4, hF4⟩, hm5, hF5⟩, hRM, hRD, hRG, hRP, hRR, hRB, hRI⟩ := id hR
  have hl := lv_entry ([.ref o, .int d, .int me]) (n := 9) (Nat.le_of_ble_eq_true rfl)
  rw [lg_entry_eq]
  generalize (lg_sl ([.ref o, .int d, .int me]) ++ List.replicate (9 - (lg_sl ([.ref o, .int d, .int me])).length) Slot.unset).toArray = ls at hl ⊢
  have hl : lv_has ls 9 [(0, .ref o), (1, .int d), (2, .int me)] := hl
  rcases ixc 6 d with hi_d | ⟨j_d, hj_d, hi_d, ei_d⟩
  · rcases ixc 10 me with hi_me | ⟨j_me, hj_me, hi_me, ei_me⟩
    · refine lv_aload_n hx hb dX8_wind_0 rfl (lv_at hl 0 rfl) ?_
      refine lv_iload_n hx hb dX8_wind_1 rfl (lv_at hl 1 rfl) ?_
      refine va_csq (W.runV (As := [.int d]) (rest := []) ⟨hx, hb, hml, hown, hts⟩ (c_drumOf_no l G cy L F o qa Mm Dd Sl Pp Kr Bk Xx hR d hi_d) (cwV 1 hts gX8_wind_X8_drumOf rfl rfl rfl (by decide +kernel) ⟨Nat.le_of_ble_eq_true rfl, Nat.le_of_ble_eq_true rfl⟩) (preV_of okP (⟨hP, hK, hD.top⟩) (pl_recv hK hP (ci := 7) rfl hmo hFo)) rfl rfl hl.1 rfl (lv_room (Nat.le_of_ble_eq_true rfl)) dX8_wind_2 ⟨Nat.le_of_ble_eq_true rfl, Nat.le_of_ble_eq_true rfl⟩) (fun r1 hr1 => ?_)
      subst hr1
      refine W.eq (g2 := F0 m 5 ls [.null]) rfl ?_
      refine lv_astore_nN (lv' := [(3, .null), (0, .ref o), (1, .int d), (2, .int me)]) hx hb dX8_wind_5 rfl hl (by decide) rfl (fun ls hl => ?_)
      refine lv_aload_n hx hb dX8_wind_6 rfl (lv_at hl 1 rfl) ?_
      refine lv_iload_n hx hb dX8_wind_7 rfl (lv_at hl 3 rfl) ?_
      refine va_csq (W.runV (As := [.int me]) (rest := []) ⟨hx, hb, hml, hown, hts⟩ (c_meterOf_no l G cy L F o qa Mm Dd Sl Pp Kr Bk Xx hR me hi_me) (cwV 1 hts gX8_wind_X8_meterOf rfl rfl rfl (by decide +kernel) ⟨Nat.le_of_ble_eq_true rfl, Nat.le_of_ble_eq_true rfl⟩) (preV_of okP (⟨hP, hK, hD.top⟩) (pl_recv hK hP (ci := 7) rfl hmo hFo)) rfl rfl hl.1 rfl (lv_room (Nat.le_of_ble_eq_true rfl)) dX8_wind_8 ⟨Nat.le_of_ble_eq_true rfl, Nat.le_of_ble_eq_true rfl⟩) (fun r2 hr2 => ?_)
      subst hr2
      refine W.eq (g2 := F0 m 11 ls [.null]) rfl ?_
      refine lv_astoreN (lv' := [(4, .null), (3, .null), (0, .ref o), (1, .int d), (2, .int me)]) hx hb dX8_wind_11 hl (by decide) rfl (fun ls hl => ?_)
      refine lv_aload_nN hx hb dX8_wind_13 rfl (lv_at hl 1 rfl) ?_
      refine lv_ifnullN (tgt := 22) hx hb dX8_wind_14 (by decide) ?_
      refine lv_sipush (v := -1001) hx hb dX8_wind_22 (by decide) ?_
      exact W.iret (v := -1001) hx hb hr (fun t ht hW => ⟨⟨-1001, F, rfl, (by have hsp : sp_wind Mm Dd Xx d me = (-1001, Dd, Xx) := (by unfold sp_wind; rw [hi_d]); rw [hsp]; exact ⟨rfl, hR⟩), (by show va_P _ _ _ t.heap; rw [ht]; exact hP)⟩, hS.F ht⟩) hS.2.2 dX8_wind_25
    · subst ei_me
      obtain ⟨hmm_me, nm_me, rl_me, hFm_me, hok_me⟩ := hRM j_me hj_me
      refine lv_aload_n hx hb dX8_wind_0 rfl (lv_at hl 0 rfl) ?_
      refine lv_iload_n hx hb dX8_wind_1 rfl (lv_at hl 1 rfl) ?_
      refine va_csq (W.runV (As := [.int d]) (rest := []) ⟨hx, hb, hml, hown, hts⟩ (c_drumOf_no l G cy L F o qa Mm Dd Sl Pp Kr Bk Xx hR d hi_d) (cwV 1 hts gX8_wind_X8_drumOf rfl rfl rfl (by decide +kernel) ⟨Nat.le_of_ble_eq_true rfl, Nat.le_of_ble_eq_true rfl⟩) (preV_of okP (⟨hP, hK, hD.top⟩) (pl_recv hK hP (ci := 7) rfl hmo hFo)) rfl rfl hl.1 rfl (lv_room (Nat.le_of_ble_eq_true rfl)) dX8_wind_2 ⟨Nat.le_of_ble_eq_true rfl, Nat.le_of_ble_eq_true rfl⟩) (fun r3 hr3 => ?_)
      subst hr3
      refine W.eq (g2 := F0 m 5 ls [.null]) rfl ?_
      refine lv_astore_nN (lv' := [(3, .null), (0, .ref o), (1, .int d), (2, .int (nI j_me))]) hx hb dX8_wind_5 rfl hl (by decide) rfl (fun ls hl => ?_)
      refine lv_aload_n hx hb dX8_wind_6 rfl (lv_at hl 1 rfl) ?_
      refine lv_iload_n hx hb dX8_wind_7 rfl (lv_at hl 3 rfl) ?_
      refine va_csq (W.runV (As := [.int (nI j_me)]) (rest := []) ⟨hx, hb, hml, hown, hts⟩ (c_meterOf l G cy L F o qa Mm Dd Sl Pp Kr Bk Xx hR j_me hj_me) (cwV 1 hts gX8_wind_X8_meterOf rfl rfl rfl (by decide +kernel) ⟨Nat.le_of_ble_eq_true rfl, Nat.le_of_ble_eq_true rfl⟩) (preV_of okP (⟨hP, hK, hD.top⟩) (pl_recv hK hP (ci := 7) rfl hmo hFo)) rfl rfl hl.1 rfl (lv_room (Nat.le_of_ble_eq_true rfl)) dX8_wind_8 ⟨Nat.le_of_ble_eq_true rfl, Nat.le_of_ble_eq_true rfl⟩) (fun r4 hr4 => ?_)
      subst hr4
      refine W.eq (g2 := F0 m 11 ls [.ref (qa 0 j_me)]) rfl ?_
      refine lv_astore (lv' := [(4, .ref (qa 0 j_me)), (3, .null), (0, .ref o), (1, .int d), (2, .int (nI j_me))]) hx hb dX8_wind_11 hl (by decide) rfl (fun ls hl => ?_)
      refine lv_aload_nN hx hb dX8_wind_13 rfl (lv_at hl 1 rfl) ?_
      refine lv_ifnullN (tgt := 22) hx hb dX8_wind_14 (by decide) ?_
      refine lv_sipush (v := -1001) hx hb dX8_wind_22 (by decide) ?_
      exact W.iret (v := -1001) hx hb hr (fun t ht hW => ⟨⟨-1001, F, rfl, (by have hsp : sp_wind Mm Dd Xx d (nI j_me) = (-1001, Dd, Xx) := (by unfold sp_wind; rw [hi_d]); rw [hsp]; exact ⟨rfl, hR⟩), (by show va_P _ _ _ t.heap; rw [ht]; exact hP)⟩, hS.F ht⟩) hS.2.2 dX8_wind_25
  · subst ei_d
    obtain ⟨hmd_d, hFd_d, hokd_d⟩ := hRD j_d hj_d
    rcases ixc 10 me with hi_me | ⟨j_me, hj_me, hi_me, ei_me⟩
    · refine lv_aload_n hx hb dX8_wind_0 rfl (lv_at hl 0 rfl) ?_
      refine lv_iload_n hx hb dX8_wind_1 rfl (lv_at hl 1 rfl) ?_
      refine va_csq (W.runV (As := [.int (nI j_d)]) (rest := []) ⟨hx, hb, hml, hown, hts⟩ (c_drumOf l G cy L F o qa Mm Dd Sl Pp Kr Bk Xx hR j_d hj_d) (cwV 1 hts gX8_wind_X8_drumOf rfl rfl rfl (by decide +kernel) ⟨Nat.le_of_ble_eq_true rfl, Nat.le_of_ble_eq_true rfl⟩) (preV_of okP (⟨hP, hK, hD.top⟩) (pl_recv hK hP (ci := 7) rfl hmo hFo)) rfl rfl hl.1 rfl (lv_room (Nat.le_of_ble_eq_true rfl)) dX8_wind_2 ⟨Nat.le_of_ble_eq_true rfl, Nat.le_of_ble_eq_true rfl⟩) (fun r5 hr5 => ?_)
      subst hr5
      refine W.eq (g2 := F0 m 5 ls [.ref (qa 1 j_d)]) rfl ?_
      refine lv_astore_n (lv' := [(3, .ref (qa 1 j_d)), (0, .ref o), (1, .int (nI j_d)), (2, .int me)]) hx hb dX8_wind_5 rfl hl (by decide) rfl (fun ls hl => ?_)
      refine lv_aload_n hx hb dX8_wind_6 rfl (lv_at hl 1 rfl) ?_
      refine lv_iload_n hx hb dX8_wind_7 rfl (lv_at hl 3 rfl) ?_
      refine va_csq (W.runV (As := [.int me]) (rest := []) ⟨hx, hb, hml, hown, hts⟩ (c_meterOf_no l G cy L F o qa Mm Dd Sl Pp Kr Bk Xx hR me hi_me) (cwV 1 hts gX8_wind_X8_meterOf rfl rfl rfl (by decide +kernel) ⟨Nat.le_of_ble_eq_true rfl, Nat.le_of_ble_eq_true rfl⟩) (preV_of okP (⟨hP, hK, hD.top⟩) (pl_recv hK hP (ci := 7) rfl hmo hFo)) rfl rfl hl.1 rfl (lv_room (Nat.le_of_ble_eq_true rfl)) dX8_wind_8 ⟨Nat.le_of_ble_eq_true rfl, Nat.le_of_ble_eq_true rfl⟩) (fun r6 hr6 => ?_)
      subst hr6
      refine W.eq (g2 := F0 m 11 ls [.null]) rfl ?_
      refine lv_astoreN (lv' := [(4, .null), (3, .ref (qa 1 j_d)), (0, .ref o), (1, .int (nI j_d)), (2, .int me)]) hx hb dX8_wind_11 hl (by decide) rfl (fun ls hl => ?_)
      refine lv_aload_n hx hb dX8_wind_13 rfl (lv_at hl 1 rfl) ?_
      refine lv_ifnull hx hb dX8_wind_14 ?_
      refine lv_aloadN hx hb dX8_wind_17 (lv_at hl 0 rfl) ?_
      refine lv_ifnonnullN hx hb dX8_wind_19 ?_
      refine lv_sipush (v := -1001) hx hb dX8_wind_22 (by decide) ?_
      exact W.iret (v := -1001) hx hb hr (fun t ht hW => ⟨⟨-1001, F, rfl, (by have hsp : sp_wind Mm Dd Xx (nI j_d) me = (-1001, Dd, Xx) := (by unfold sp_wind; rw [hi_d, hi_me]); rw [hsp]; exact ⟨rfl, hR⟩), (by show va_P _ _ _ t.heap; rw [ht]; exact hP)⟩, hS.F ht⟩) hS.2.2 dX8_wind_25
    · subst ei_me
      obtain ⟨hmm_me, nm_me, rl_me, hFm_me, hok_me⟩ := hRM j_me hj_me
      refine lv_aload_n hx hb dX8_wind_0 rfl (lv_at hl 0 rfl) ?_
      refine lv_iload_n hx hb dX8_wind_1 rfl (lv_at hl 1 rfl) ?_
      refine va_csq (W.runV (As := [.int (nI j_d)]) (rest := []) ⟨hx, hb, hml, hown, hts⟩ (c_drumOf l G cy L F o qa Mm Dd Sl Pp Kr Bk Xx hR j_d hj_d) (cwV 1 hts gX8_wind_X8_drumOf rfl rfl rfl (by decide +kernel) ⟨Nat.le_of_ble_eq_true rfl, Nat.le_of_ble_eq_true rfl⟩) (preV_of okP (⟨hP, hK, hD.top⟩) (pl_recv hK hP (ci := 7) rfl hmo hFo)) rfl rfl hl.1 rfl (lv_room (Nat.le_of_ble_eq_true rfl)) dX8_wind_2 ⟨Nat.le_of_ble_eq_true rfl, Nat.le_of_ble_eq_true rfl⟩) (fun r7 hr7 => ?_)
      subst hr7
      refine W.eq (g2 := F0 m 5 ls [.ref (qa 1 j_d)]) rfl ?_
      refine lv_astore_n (lv' := [(3, .ref (qa 1 j_d)), (0, .ref o), (1, .int (nI j_d)), (2, .int (nI j_me))]) hx hb dX8_wind_5 rfl hl (by decide) rfl (fun ls hl => ?_)
      refine lv_aload_n hx hb dX8_wind_6 rfl (lv_at hl 1 rfl) ?_
      refine lv_iload_n hx hb dX8_wind_7 rfl (lv_at hl 3 rfl) ?_
      refine va_csq (W.runV (As := [.int (nI j_me)]) (rest := []) ⟨hx, hb, hml, hown, hts⟩ (c_meterOf l G cy L F o qa Mm Dd Sl Pp Kr Bk Xx hR j_me hj_me) (cwV 1 hts gX8_wind_X8_meterOf rfl rfl rfl (by decide +kernel) ⟨Nat.le_of_ble_eq_true rfl, Nat.le_of_ble_eq_true rfl⟩) (preV_of okP (⟨hP, hK, hD.top⟩) (pl_recv hK hP (ci := 7) rfl hmo hFo)) rfl rfl hl.1 rfl (lv_room (Nat.le_of_ble_eq_true rfl)) dX8_wind_8 ⟨Nat.le_of_ble_eq_true rfl, Nat.le_of_ble_eq_true rfl⟩) (fun r8 hr8 => ?_)
      subst hr8
      refine W.eq (g2 := F0 m 11 ls [.ref (qa 0 j_me)]) rfl ?_
      refine lv_astore (lv' := [(4, .ref (qa 0 j_me)), (3, .ref (qa 1 j_d)), (0, .ref o), (1, .int (nI j_d)), (2, .int (nI j_me))]) hx hb dX8_wind_11 hl (by decide) rfl (fun ls hl => ?_)
      refine lv_aload_n hx hb dX8_wind_13 rfl (lv_at hl 1 rfl) ?_
      refine lv_ifnull hx hb dX8_wind_14 ?_
      refine lv_aload hx hb dX8_wind_17 (lv_at hl 0 rfl) ?_
      refine lv_ifnonnull (tgt := 26) hx hb dX8_wind_19 (by decide) ?_
      refine lv_aload hx hb dX8_wind_26 (lv_at hl 0 rfl) ?_
      refine vp_callSd (W.runV (As := []) (rest := []) ⟨hx, hb, hml, hown, hts⟩ (c_asDouble l G cy L F (qa 0 j_me) (Mm.1 j_me) nm_me rl_me hmm_me hFm_me ) (cwV 0 hts gX8_wind_X4_asDouble rfl rfl rfl (by decide +kernel) ⟨Nat.le_of_ble_eq_true rfl, Nat.le_of_ble_eq_true rfl⟩) (preV_of okP (⟨hP, hK, hD.top⟩) (pl_recv hK hP (ci := 4) rfl hmm_me hFm_me)) rfl rfl hl.1 rfl (lv_room (Nat.le_of_ble_eq_true rfl)) dX8_wind_28 ⟨Nat.le_of_ble_eq_true rfl, Nat.le_of_ble_eq_true rfl⟩) (fun r9 hr9 => ?_)
      rw [(real_3 hok_me).2.2] at hr9
      have hvn : FP.Core.val64 r9 ≠ .nan := by rw [hr9]; exact (real_3 hok_me).2.1
      refine lv_dstore (lv' := [(5, .double r9), (4, .ref (qa 0 j_me)), (3, .ref (qa 1 j_d)), (0, .ref o), (1, .int (nI j_d)), (2, .int (nI j_me))]) hx hb dX8_wind_31 hl (by decide) rfl (fun ls hl => ?_)
      refine lv_dload hx hb dX8_wind_33 (lv_at hl 0 rfl) ?_
      refine vp_callSi (W.runS (As := [.double r9]) (rest := []) ⟨hx, hb, hml, hown, hts⟩ (c_isEndless l r9) (va_cwS 1 hts gX8_wind_X8_isEndless rfl rfl rfl (by decide +kernel) ⟨Nat.le_of_ble_eq_true rfl, Nat.le_of_ble_eq_true rfl⟩) (preS_of okT (trivial)) rfl rfl hl.1 rfl (lv_room (Nat.le_of_ble_eq_true rfl)) dX8_wind_35 ⟨Nat.le_of_ble_eq_true rfl, Nat.le_of_ble_eq_true rfl⟩) (fun r10 hr10 => ?_)
      rw [endl hvn] at hr10
      refine lv_if_eq (tgt := 47) hx hb dX8_wind_38 (by decide) (fun c11 => ?_) (fun c11 => ?_)
      · have hen : ¬ r9.toNat % 2 ^ 63 = 9218868437227405312 := fun q => by have hc := c11; rw [hr10, if_pos q] at hc; exact absurd hc (by decide)
        have hvf : FP.Core.DFin r9 := (FP.Core.fin_bits _).mpr (by have := (FP.Core.ne_nan _).mp hvn; omega)
        have hsf := sumfin hokd_d.2.1.1 hvf hokd_d.2.1.2
        refine lv_aload_n hx hb dX8_wind_47 rfl (lv_at hl 2 rfl) ?_
        refine pg_get (ci := 1) (C := RX1) (T := TX1) (N := 4) hx hb hts hinX1 hown hK hP hmd_d hFd_d rfl 1 (by decide) (hts (.fieldLink RX8 177 "RopeDrums$Drum" "at" "D") (by decide +kernel)) (fun _ h9 => h9) rfl dX8_wind_48 ?_
        refine lv_dload hx hb dX8_wind_51 (lv_at hl 0 rfl) ?_
        refine lv_dadd hx hb dX8_wind_53 (n64.mpr hsf.ne_nan) ?_
        refine lv_topd (fun v12 ev12 => ?_)
        refine lv_dstore (lv' := [(7, .double v12), (5, .double r9), (4, .ref (qa 0 j_me)), (3, .ref (qa 1 j_d)), (0, .ref o), (1, .int (nI j_d)), (2, .int (nI j_me))]) hx hb dX8_wind_54 hl (by decide) rfl (fun ls hl => ?_)
        refine lv_aload_n hx hb dX8_wind_56 rfl (lv_at hl 3 rfl) ?_
        refine lv_dup hx hb dX8_wind_57 rfl ?_
        refine pg_get (ci := 1) (C := RX1) (T := TX1) (N := 4) hx hb hts hinX1 hown hK hP hmd_d hFd_d rfl 3 (by decide) (hts (.fieldLink RX8 183 "RopeDrums$Drum" "turns" "J") (by decide +kernel)) (fun _ h9 => h9) rfl dX8_wind_58 ?_
        refine lv_dload hx hb dX8_wind_61 (lv_at hl 0 rfl) ?_
        refine lv_aload_n hx hb dX8_wind_63 rfl (lv_at hl 3 rfl) ?_
        refine pg_get (ci := 1) (C := RX1) (T := TX1) (N := 4) hx hb hts hinX1 hown hK hP hmd_d hFd_d rfl 0 (by decide) (hts (.fieldLink RX8 174 "RopeDrums$Drum" "around" "D") (by decide +kernel)) (fun _ h9 => h9) rfl dX8_wind_64 ?_
        refine lv_ddiv hx hb dX8_wind_67 (n64.mpr ((FP.Core.notNaN_iff _).mp (FP.Core.ddiv_out (by rw [ev12]; exact hsf.notNaN) hokd_d.1.1 hokd_d.1.2.1))) ?_
        refine lv_topd (fun v13 ev13 => ?_)
        refine lv_d2l hx hb dX8_wind_68 ?_
        refine lv_topl (fun v14 ev14 => ?_)
        refine lv_ladd hx hb dX8_wind_69 ?_
        refine lv_topl (fun v15 ev15 => ?_)
        refine pg_put (ci := 1) (v := .long v15) (ty := .long) (C := RX1) (T := TX1) (N := 4) hx hb hts hinX1 tyX1 tyX1_ok nmX1 hown hK hP hD hS hmd_d hFd_d rfl 3 (by decide) (hts (.fieldLink RX8 183 "RopeDrums$Drum" "turns" "J") (by decide +kernel)) (fun _ h9 => h9) rfl (by decide +kernel) (rfl) (rfl) (Nat.le_of_ble_eq_true rfl) dX8_wind_70 (fun H locs F16 eF16 hP hS => ?_)
        have eF16 : F16 = va_up F (qa 1 j_d) (.inr (1, [.double (Dd.1 j_d), .double (Dd.2.1 j_d), .double (Dd.2.2.1 j_d), .long v15])) := eF16
        have hFo_16 : F16 o = .inr (7, [.ref (qa 8 0), .ref (qa 8 1), .ref (qa 8 2), .ref (qa 8 3), .ref (qa 8 4), .ref (qa 8 5), .ref (qa 8 6), .int Pp.1, .int Xx.1]) := by rw [eF16, va_up_ne _ _ (pl_ne hFo hFd_d rfl)]; exact hFo
        have hFqa80_16 : F16 (qa 8 0) = cQ (cy 7) 10 (pR 10 (qa 0)) := by rw [eF16, va_up_ne _ _ (pl_ne hF0 hFd_d rfl)]; exact hF0
        have hFqa81_16 : F16 (qa 8 1) = cQ (cy 5) 6 (pR 6 (qa 1)) := by rw [eF16, va_up_ne _ _ (pl_ne hF1 hFd_d rfl)]; exact hF1
        have hFqa82_16 : F16 (qa 8 2) = cQ (cy 6) 8 (pR 8 (qa 2)) := by rw [eF16, va_up_ne _ _ (pl_ne hF2 hFd_d rfl)]; exact hF2
        have hFqa83_16 : F16 (qa 8 3) = cQ (cy 9) 30 (pR Pp.1.toInt.toNat (qa 7)) := by rw [eF16, va_up_ne _ _ (pl_ne hFs hFd_d rfl)]; exact hFs
        have hFqa84_16 : F16 (qa 8 4) = cQ (cy 8) 5 (pR 5 (qa 4)) := by rw [eF16, va_up_ne _ _ (pl_ne hF4 hFd_d rfl)]; exact hF4
        have hFqa85_16 : F16 (qa 8 5) = cQ (cy 4) 4 (pR 4 (qa 6)) := by rw [eF16, va_up_ne _ _ (pl_ne hF5 hFd_d rfl)]; exact hF5
        have hFqa86_16 : F16 (qa 8 6) = cI (cy 1) 6 Xx.2 := by rw [eF16, va_up_ne _ _ (pl_ne hFf hFd_d rfl)]; exact hFf
        have hFqa1j_d_16 : F16 (qa 1 j_d) = .inr (1, [.double (Dd.1 j_d), .double (Dd.2.1 j_d), .double (Dd.2.2.1 j_d), .long v15]) := by rw [eF16]; exact va_up_self _ _ _
        have hFqa0j_me_16 : F16 (qa 0 j_me) = .inr (4, [.int (Mm.1 j_me), .long nm_me, .double rl_me]) := by rw [eF16, va_up_ne _ _ (pl_ne hFm_me hFd_d rfl)]; exact hFm_me
        refine lv_aload_n hx hb dX8_wind_73 rfl (lv_at hl 3 rfl) ?_
        refine lv_dload hx hb dX8_wind_74 (lv_at hl 0 rfl) ?_
        refine lv_aload_n hx hb dX8_wind_76 rfl (lv_at hl 3 rfl) ?_
        refine pg_get (ci := 1) (C := RX1) (T := TX1) (N := 4) hx hb hts hinX1 hown hK hP hmd_d hFqa1j_d_16 rfl 0 (by decide) (hts (.fieldLink RX8 174 "RopeDrums$Drum" "around" "D") (by decide +kernel)) (fun _ h9 => h9) rfl dX8_wind_77 ?_
        refine vp_callSd (W.runS (As := [.double v12, .double (Dd.1 j_d)]) (rest := [.ref (qa 1 j_d)]) ⟨hx, hb, hml, hown, hts⟩ (c_leftOf l ad v12 (Dd.1 j_d) (by rw [ev12]; exact hsf) hokd_d.1.1.ne_nan hokd_d.1.2.1) (va_cwS 2 hts gX8_wind_X8_leftOf rfl rfl rfl (by decide +kernel) ⟨Nat.le_of_ble_eq_true rfl, Nat.le_of_ble_eq_true rfl⟩) (preS_of okE (pE.low hE hN hS)) rfl rfl hl.1 rfl (lv_room (Nat.le_of_ble_eq_true rfl)) dX8_wind_80 ⟨Nat.le_of_ble_eq_true rfl, Nat.le_of_ble_eq_true rfl⟩) (fun r17 hr17 => ?_)
        refine pg_put (ci := 1) (v := .double r17) (ty := .double) (C := RX1) (T := TX1) (N := 4) hx hb hts hinX1 tyX1 tyX1_ok nmX1 hown hK hP hD hS hmd_d hFqa1j_d_16 rfl 1 (by decide) (hts (.fieldLink RX8 177 "RopeDrums$Drum" "at" "D") (by decide +kernel)) (fun _ h9 => h9) rfl (by decide +kernel) (rfl) (rfl) (Nat.le_of_ble_eq_true rfl) dX8_wind_83 (fun H locs F18 eF18 hP hS => ?_)
        have eF18 : F18 = va_up F16 (qa 1 j_d) (.inr (1, [.double (Dd.1 j_d), .double r17, .double (Dd.2.2.1 j_d), .long v15])) := eF18
        have hFo_18 : F18 o = .inr (7, [.ref (qa 8 0), .ref (qa 8 1), .ref (qa 8 2), .ref (qa 8 3), .ref (qa 8 4), .ref (qa 8 5), .ref (qa 8 6), .int Pp.1, .int Xx.1]) := by rw [eF18, va_up_ne _ _ (pl_ne hFo_16 hFqa1j_d_16 rfl)]; exact hFo_16
        have hFqa80_18 : F18 (qa 8 0) = cQ (cy 7) 10 (pR 10 (qa 0)) := by rw [eF18, va_up_ne _ _ (pl_ne hFqa80_16 hFqa1j_d_16 rfl)]; exact hFqa80_16
        have hFqa81_18 : F18 (qa 8 1) = cQ (cy 5) 6 (pR 6 (qa 1)) := by rw [eF18, va_up_ne _ _ (pl_ne hFqa81_16 hFqa1j_d_16 rfl)]; exact hFqa81_16
        have hFqa82_18 : F18 (qa 8 2) = cQ (cy 6) 8 (pR 8 (qa 2)) := by rw [eF18, va_up_ne _ _ (pl_ne hFqa82_16 hFqa1j_d_16 rfl)]; exact hFqa82_16
        have hFqa83_18 : F18 (qa 8 3) = cQ (cy 9) 30 (pR Pp.1.toInt.toNat (qa 7)) := by rw [eF18, va_up_ne _ _ (pl_ne hFqa83_16 hFqa1j_d_16 rfl)]; exact hFqa83_16
        have hFqa84_18 : F18 (qa 8 4) = cQ (cy 8) 5 (pR 5 (qa 4)) := by rw [eF18, va_up_ne _ _ (pl_ne hFqa84_16 hFqa1j_d_16 rfl)]; exact hFqa84_16
        have hFqa85_18 : F18 (qa 8 5) = cQ (cy 4) 4 (pR 4 (qa 6)) := by rw [eF18, va_up_ne _ _ (pl_ne hFqa85_16 hFqa1j_d_16 rfl)]; exact hFqa85_16
        have hFqa86_18 : F18 (qa 8 6) = cI (cy 1) 6 Xx.2 := by rw [eF18, va_up_ne _ _ (pl_ne hFqa86_16 hFqa1j_d_16 rfl)]; exact hFqa86_16
        have hFqa1j_d_18 : F18 (qa 1 j_d) = .inr (1, [.double (Dd.1 j_d), .double r17, .double (Dd.2.2.1 j_d), .long v15]) := by rw [eF18]; exact va_up_self _ _ _
        have hFqa0j_me_18 : F18 (qa 0 j_me) = .inr (4, [.int (Mm.1 j_me), .long nm_me, .double rl_me]) := by rw [eF18, va_up_ne _ _ (pl_ne hFqa0j_me_16 hFqa1j_d_16 rfl)]; exact hFqa0j_me_16
        refine lv_aload_n hx hb dX8_wind_86 rfl (lv_at hl 3 rfl) ?_
        refine lv_aload_n hx hb dX8_wind_87 rfl (lv_at hl 3 rfl) ?_
        refine pg_get (ci := 1) (C := RX1) (T := TX1) (N := 4) hx hb hts hinX1 hown hK hP hmd_d hFqa1j_d_18 rfl 2 (by decide) (hts (.fieldLink RX8 180 "RopeDrums$Drum" "rope" "D") (by decide +kernel)) (fun _ h9 => h9) rfl dX8_wind_88 ?_
        refine lv_dload hx hb dX8_wind_91 (lv_at hl 1 rfl) ?_
        refine lv_dadd hx hb dX8_wind_93 (n64.mpr ((FP.Core.notNaN_iff _).mp (FP.Core.dadd_out ((FP.Core.notNaN_iff _).mpr hokd_d.2.2) hvf))) ?_
        refine lv_topd (fun v19 ev19 => ?_)
        refine pg_put (ci := 1) (v := .double v19) (ty := .double) (C := RX1) (T := TX1) (N := 4) hx hb hts hinX1 tyX1 tyX1_ok nmX1 hown hK hP hD hS hmd_d hFqa1j_d_18 rfl 2 (by decide) (hts (.fieldLink RX8 180 "RopeDrums$Drum" "rope" "D") (by decide +kernel)) (fun _ h9 => h9) rfl (by decide +kernel) (rfl) (rfl) (Nat.le_of_ble_eq_true rfl) dX8_wind_94 (fun H locs F20 eF20 hP hS => ?_)
        have eF20 : F20 = va_up F18 (qa 1 j_d) (.inr (1, [.double (Dd.1 j_d), .double r17, .double v19, .long v15])) := eF20
        have hFo_20 : F20 o = .inr (7, [.ref (qa 8 0), .ref (qa 8 1), .ref (qa 8 2), .ref (qa 8 3), .ref (qa 8 4), .ref (qa 8 5), .ref (qa 8 6), .int Pp.1, .int Xx.1]) := by rw [eF20, va_up_ne _ _ (pl_ne hFo_18 hFqa1j_d_18 rfl)]; exact hFo_18
        have hFqa80_20 : F20 (qa 8 0) = cQ (cy 7) 10 (pR 10 (qa 0)) := by rw [eF20, va_up_ne _ _ (pl_ne hFqa80_18 hFqa1j_d_18 rfl)]; exact hFqa80_18
        have hFqa81_20 : F20 (qa 8 1) = cQ (cy 5) 6 (pR 6 (qa 1)) := by rw [eF20, va_up_ne _ _ (pl_ne hFqa81_18 hFqa1j_d_18 rfl)]; exact hFqa81_18
        have hFqa82_20 : F20 (qa 8 2) = cQ (cy 6) 8 (pR 8 (qa 2)) := by rw [eF20, va_up_ne _ _ (pl_ne hFqa82_18 hFqa1j_d_18 rfl)]; exact hFqa82_18
        have hFqa83_20 : F20 (qa 8 3) = cQ (cy 9) 30 (pR Pp.1.toInt.toNat (qa 7)) := by rw [eF20, va_up_ne _ _ (pl_ne hFqa83_18 hFqa1j_d_18 rfl)]; exact hFqa83_18
        have hFqa84_20 : F20 (qa 8 4) = cQ (cy 8) 5 (pR 5 (qa 4)) := by rw [eF20, va_up_ne _ _ (pl_ne hFqa84_18 hFqa1j_d_18 rfl)]; exact hFqa84_18
        have hFqa85_20 : F20 (qa 8 5) = cQ (cy 4) 4 (pR 4 (qa 6)) := by rw [eF20, va_up_ne _ _ (pl_ne hFqa85_18 hFqa1j_d_18 rfl)]; exact hFqa85_18
        have hFqa86_20 : F20 (qa 8 6) = cI (cy 1) 6 Xx.2 := by rw [eF20, va_up_ne _ _ (pl_ne hFqa86_18 hFqa1j_d_18 rfl)]; exact hFqa86_18
        have hFqa1j_d_20 : F20 (qa 1 j_d) = .inr (1, [.double (Dd.1 j_d), .double r17, .double v19, .long v15]) := by rw [eF20]; exact va_up_self _ _ _
        have hFqa0j_me_20 : F20 (qa 0 j_me) = .inr (4, [.int (Mm.1 j_me), .long nm_me, .double rl_me]) := by rw [eF20, va_up_ne _ _ (pl_ne hFqa0j_me_18 hFqa1j_d_18 rfl)]; exact hFqa0j_me_18
        have hR21 : Rep cy L o qa Mm (wnd Dd j_d r9) Sl Pp Kr Bk Xx F20 := by subst hr17; subst ev19 ev15 ev14 ev13 ev12; rw [eF20, eF18, eF16, upup, upup]; exact hR.drum hj_d ⟨hokd_d.1, remsmall hsf hokd_d.1.1 hokd_d.1.2.1 hokd_d.1.2.2, (FP.Core.notNaN_iff _).mp (FP.Core.dadd_out ((FP.Core.notNaN_iff _).mpr hokd_d.2.2) hvf)⟩
        refine lv_aload_n hx hb dX8_wind_97 rfl (lv_at hl 4 rfl) ?_
        refine lv_iconst (v := 1) hx hb dX8_wind_98 (by decide) ?_
        refine va_calli (va_runV (As := [.int 1]) (rest := []) ⟨hx, hb, hml, hown, hts⟩ (c_succeed l G cy L F20 H.size o qa Mm (wnd Dd j_d r9) Sl Pp Kr Bk Xx hR21 1) (cwV 1 hts gX8_wind_X8_succeed rfl rfl rfl (by decide +kernel) ⟨Nat.le_of_ble_eq_true rfl, Nat.le_of_ble_eq_true rfl⟩) (preV_of okQ (⟨rfl, hP, hK, hD.top⟩) (pl_recv hK hP (ci := 7) rfl hmo hFo_20)) rfl rfl hl.1 rfl (lv_room (Nat.le_of_ble_eq_true rfl)) dX8_wind_99 ⟨Nat.le_of_ble_eq_true rfl, Nat.le_of_ble_eq_true rfl⟩) hS (fun q _ h => pl_free hD hS hA q h) (pl_free hD hS hA) (fun r23 F22 t H1 locs ht hvm hw hP1 hz1 hk1 hS => ?_)
        have hP1 : va_P G vwCl (va_pl L F22) t.heap := hP1
        rw [ht] at hP1
        have hP := hP1
        generalize H1 = H at hP hS ⊢
        obtain ⟨hqr23, hR24⟩ := hw
        exact W.iret (v := r23) hx hb hr (fun t ht hW => ⟨⟨r23, F22, rfl, (by have hsp : sp_wind Mm Dd Xx (nI j_d) (nI j_me) = (1, wnd Dd j_d r9, goodX Xx) := (by unfold sp_wind; rw [hi_d, hi_me, hr9]; exact if_neg (by rw [← hr9]; exact hen)); rw [hsp]; exact ⟨hqr23, hR24⟩), (by show va_P _ _ _ t.heap; rw [ht]; exact hP)⟩, hS.F ht⟩) hS.2.2 dX8_wind_102
      · have hen : r9.toNat % 2 ^ 63 = 9218868437227405312 := Decidable.byContradiction (fun q => c11 (by rw [hr10, if_neg q]))
        refine lv_aload_n hx hb dX8_wind_41 rfl (lv_at hl 3 rfl) ?_
        refine lv_iconst (v := 5) hx hb dX8_wind_42 (by decide) ?_
        refine va_calli (va_runV (As := [.int 5]) (rest := []) ⟨hx, hb, hml, hown, hts⟩ (c_fail_5 l G cy L F s.heap.size o qa Mm Dd Sl Pp Kr Bk Xx hR) (cwV 1 hts gX8_wind_X8_fail rfl rfl rfl (by decide +kernel) ⟨Nat.le_of_ble_eq_true rfl, Nat.le_of_ble_eq_true rfl⟩) (preV_of okQ (⟨rfl, hP, hK, hD.top⟩) (pl_recv hK hP (ci := 7) rfl hmo hFo)) rfl rfl hl.1 rfl (lv_room (Nat.le_of_ble_eq_true rfl)) dX8_wind_43 ⟨Nat.le_of_ble_eq_true rfl, Nat.le_of_ble_eq_true rfl⟩) hS (fun q _ h => pl_free hD hS hA q h) (pl_free hD hS hA) (fun r26 F25 t H1 locs ht hvm hw hP1 hz1 hk1 hS => ?_)
        have hP1 : va_P G vwCl (va_pl L F25) t.heap := hP1
        rw [ht] at hP1
        have hP := hP1
        generalize H1 = H at hP hS ⊢
        obtain ⟨hqr26, hR27⟩ := hw
        exact W.iret (v := r26) hx hb hr (fun t ht hW => ⟨⟨r26, F25, rfl, (by have hsp : sp_wind Mm Dd Xx (nI j_d) (nI j_me) = (-15, Dd, failX Xx 5) := (by unfold sp_wind; rw [hi_d, hi_me]; exact if_pos (by rw [← hr9]; exact hen)); rw [hsp]; exact ⟨hqr26, hR27⟩), (by show va_P _ _ _ t.heap; rw [ht]; exact hP)⟩, hS.F ht⟩) hS.2.2 dX8_wind_46
