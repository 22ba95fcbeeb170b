set_option maxHeartbeats 8000000 in
set_option maxRecDepth 100000 in
theorem m_lane (l : Launch) (G : va_G) (cy : Nat → ClassId) (L : List Nat) (F : Nat → va_E) (ad : Nat → Nat) (sz : Nat) (o : Nat) (qa : Nat → Nat → Nat) (Mm : SM) (Dd : SD) (Sl : SL) (Pp : SP) (Kr : SR) (Bk : SB) (Xx : SX) (hR : Rep cy L o qa Mm Dd Sl Pp Kr Bk Xx F) (me : Int32)  : Met l yX8_lane wsX8_lane ({ frames := 1, cells := 0, slots := 0, locals := 21 }) (va_Pc [.ref o, .int me] (fun U => bQE G cy L F ad sz U U.heap)) (va_Qi (fun (r : Int32) (F' : Nat → va_E) => r = sp_lane Mm me ∧ Rep cy L o qa Mm Dd Sl Pp Kr Bk Xx F') (fun F' t => va_P G vwCl (va_pl L F') t.heap) (va_A (va_pl L F) sz)) 0 0 (va_A (va_pl L F) sz) := by
  refine Met.ofW (cc := cX8_lane) (maxL := 3) (ret := (some .int)) (by decide) rfl ?_
  intro p e s m args below meth c s₁ B hml hv
  obtain ⟨rfl, ⟨hsz, hP, hK, hD0⟩, hE, hN⟩ := hv
  have hx := B.exec
  have hb := B.bytes
  have hr := B.returns
  have hts := atoms_spec (ws := wsX8_lane) B.pre
  have hown : s.vm.findClass RX8 = some m.cls := findClass_of_methodNamed B.named
  have hlocks := B.notSynchronized
  have hinX8 : ∀ w ∈ wsX80, w ∈ wsX8_lane := by decide +kernel
  have hinX4 : ∀ w ∈ wsX40, w ∈ wsX8_lane := by decide +kernel
  subst hsz
  have hD := hD0.self F s.heap.size
  generalize hAe : va_A (va_pl L F) s.heap.size = A at hD hE ⊢
  have hA : ∀ q : Nat, s.heap.size ≤ q → A q := fun q h => by rw [← hAe]; exact Or.inr h
  have hS : va_S A s.heap s.heap [] := va_S.rf
  obtain ⟨⟨⟨hmo, hFo⟩, ⟨hmf, hFf⟩, hms, hFs⟩, ⟨⟨hm0, hF0⟩, ⟨hm1, hF1⟩, ⟨hm2, hF2⟩, ⟨hm4, hF4⟩, hm5, hF5⟩, hRM, hRD, hRG, hRP, hRR, hRB, hRI⟩ := id hR
  have hl := lv_entry ([.ref o, .int me]) (n := 3) (Nat.le_of_ble_eq_true rfl)
  rw [lg_entry_eq]
  generalize (lg_sl ([.ref o, .int me]) ++ List.replicate (3 - (lg_sl ([.ref o, .int me])).length) Slot.unset).toArray = ls at hl ⊢
  have hl : lv_has ls 3 [(0, .ref o), (1, .int me)] := hl
  rcases ixc 10 me with hi_me | ⟨j_me, hj_me, hi_me, ei_me⟩
  · refine lv_aload_n hx hb dX8_lane_0 rfl (lv_at hl 0 rfl) ?_
    refine lv_iload_n hx hb dX8_lane_1 rfl (lv_at hl 1 rfl) ?_
    refine va_csq (W.runV (As := [.int me]) (rest := []) ⟨hx, hb, hml, hown, hts⟩ (c_meterOf_no l G cy L F o qa Mm Dd Sl Pp Kr Bk Xx hR me hi_me) (cwV 1 hts gX8_lane_X8_meterOf rfl rfl rfl (by decide +kernel) ⟨Nat.le_of_ble_eq_true rfl, Nat.le_of_ble_eq_true rfl⟩) (preV_of okP (⟨hP, hK, hD.top⟩) (pl_recv hK hP (ci := 7) rfl hmo hFo)) rfl rfl hl.1 rfl (lv_room (Nat.le_of_ble_eq_true rfl)) dX8_lane_2 ⟨Nat.le_of_ble_eq_true rfl, Nat.le_of_ble_eq_true rfl⟩) (fun r1 hr1 => ?_)
    subst hr1
    refine W.eq (g2 := F0 m 5 ls [.null]) rfl ?_
    refine lv_astore_nN (lv' := [(2, .null), (0, .ref o), (1, .int me)]) hx hb dX8_lane_5 rfl hl (by decide) rfl (fun ls hl => ?_)
    refine lv_aload_nN hx hb dX8_lane_6 rfl (lv_at hl 0 rfl) ?_
    refine lv_ifnonnullN hx hb dX8_lane_7 ?_
    refine lv_sipush (v := -1001) hx hb dX8_lane_10 (by decide) ?_
    refine lv_goto (tgt := 20) hx hb dX8_lane_13 (by decide) ?_
    exact W.iret (v := -1001) hx hb hr (fun t ht hW => ⟨⟨-1001, F, rfl, ⟨by unfold sp_lane; rw [hi_me], hR⟩, (by show va_P _ _ _ t.heap; rw [ht]; exact hP)⟩, hS.F ht⟩) hS.2.2 dX8_lane_20
  · subst ei_me
    obtain ⟨hmm_me, nm_me, rl_me, hFm_me, hok_me⟩ := hRM j_me hj_me
    refine lv_aload_n hx hb dX8_lane_0 rfl (lv_at hl 0 rfl) ?_
    refine lv_iload_n hx hb dX8_lane_1 rfl (lv_at hl 1 rfl) ?_
    refine va_csq (W.runV (As := [.int (nI j_me)]) (rest := []) ⟨hx, hb, hml, hown, hts⟩ (c_meterOf l G cy L F o qa Mm Dd Sl Pp Kr Bk Xx hR j_me hj_me) (cwV 1 hts gX8_lane_X8_meterOf rfl rfl rfl (by decide +kernel) ⟨Nat.le_of_ble_eq_true rfl, Nat.le_of_ble_eq_true rfl⟩) (preV_of okP (⟨hP, hK, hD.top⟩) (pl_recv hK hP (ci := 7) rfl hmo hFo)) rfl rfl hl.1 rfl (lv_room (Nat.le_of_ble_eq_true rfl)) dX8_lane_2 ⟨Nat.le_of_ble_eq_true rfl, Nat.le_of_ble_eq_true rfl⟩) (fun r2 hr2 => ?_)
    subst hr2
    refine W.eq (g2 := F0 m 5 ls [.ref (qa 0 j_me)]) rfl ?_
    refine lv_astore_n (lv' := [(2, .ref (qa 0 j_me)), (0, .ref o), (1, .int (nI j_me))]) hx hb dX8_lane_5 rfl hl (by decide) rfl (fun ls hl => ?_)
    refine lv_aload_n hx hb dX8_lane_6 rfl (lv_at hl 0 rfl) ?_
    refine lv_ifnonnull (tgt := 16) hx hb dX8_lane_7 (by decide) ?_
    refine lv_aload_n hx hb dX8_lane_16 rfl (lv_at hl 0 rfl) ?_
    refine pg_get (ci := 4) (C := RX4) (T := TX4) (N := 3) hx hb hts hinX4 hown hK hP hmm_me hFm_me rfl 0 (by decide) (hts (.fieldLink RX8 103 "RopeDrums$Meter" "lane" "I") (by decide +kernel)) (fun _ h9 => h9) rfl dX8_lane_17 ?_
    exact W.iret (v := Mm.1 j_me) hx hb hr (fun t ht hW => ⟨⟨Mm.1 j_me, F, rfl, ⟨by unfold sp_lane; rw [hi_me], hR⟩, (by show va_P _ _ _ t.heap; rw [ht]; exact hP)⟩, hS.F ht⟩) hS.2.2 dX8_lane_20

theorem flbits {b : Int64} (h : sx b) : (nI (fl b).toNat).toInt64 = b := by
  have e : nI (fl b).toNat = b.toInt32 := by
    unfold fl nI
    apply Int32.toBitVec_inj.mp
    apply BitVec.eq_of_toNat_eq
    simp
  rw [e]
  exact h
theorem dbbits (b : Int64) : lN (db b).toNat = b := (b_ex b).symm

set_option maxHeartbeats 8000000 in
set_option maxRecDepth 100000 in
theorem m_bits (l : Launch) (G : va_G) (cy : Nat → ClassId) (L : List Nat) (F : Nat → va_E) (ad : Nat → Nat) (sz : Nat) (o : Nat) (qa : Nat → Nat → Nat) (Mm : SM) (Dd : SD) (Sl : SL) (Pp : SP) (Kr : SR) (Bk : SB) (Xx : SX) (hR : Rep cy L o qa Mm Dd Sl Pp Kr Bk Xx F) (me : Int32)  : Met l yX8_bits wsX8_bits ({ frames := 4, cells := 0, slots := 0, locals := 99 }) (va_Pc [.ref o, .int me] (fun U => bQE G cy L F ad sz U U.heap)) (va_Ql (fun (r : Int64) (F' : Nat → va_E) => r = sp_bits Mm me ∧ Rep cy L o qa Mm Dd Sl Pp Kr Bk Xx F') (fun F' t => va_P G vwCl (va_pl L F') t.heap) (va_A (va_pl L F) sz)) 0 0 (va_A (va_pl L F) sz) := by
  refine Met.ofW (cc := cX8_bits) (maxL := 3) (ret := (some .long)) (by decide) rfl ?_
  intro p e s m args below meth c s₁ B hml hv
  obtain ⟨rfl, ⟨hsz, hP, hK, hD0⟩, hE, hN⟩ := hv
  have hx := B.exec
  have hb := B.bytes
  have hr := B.returns
  have hts := atoms_spec (ws := wsX8_bits) B.pre
  have hown : s.vm.findClass RX8 = some m.cls := findClass_of_methodNamed B.named
  have hlocks := B.notSynchronized
  have hinX8 : ∀ w ∈ wsX80, w ∈ wsX8_bits := by decide +kernel
  have hinX4 : ∀ w ∈ wsX40, w ∈ wsX8_bits := by decide +kernel
  subst hsz
  have hD := hD0.self F s.heap.size
  generalize hAe : va_A (va_pl L F) s.heap.size = A at hD hE ⊢
  have hA : ∀ q : Nat, s.heap.size ≤ q → A q := fun q h => by rw [← hAe]; exact Or.inr h
  have hS : va_S A s.heap s.heap [] := va_S.rf
  obtain ⟨⟨⟨hmo, hFo⟩, ⟨hmf, hFf⟩, hms, hFs⟩, ⟨⟨hm0, hF0⟩, ⟨hm1, hF1⟩, ⟨hm2, hF2⟩, ⟨hm4, hF4⟩, hm5, hF5⟩, hRM, hRD, hRG, hRP, hRR, hRB, hRI⟩ := id hR
  have hl := lv_entry ([.ref o, .int me]) (n := 3) (Nat.le_of_ble_eq_true rfl)
  rw [lg_entry_eq]
  generalize (lg_sl ([.ref o, .int me]) ++ List.replicate (3 - (lg_sl ([.ref o, .int me])).length) Slot.unset).toArray = ls at hl ⊢
  have hl : lv_has ls 3 [(0, .ref o), (1, .int me)] := hl
  rcases ixc 10 me with hi_me | ⟨j_me, hj_me, hi_me, ei_me⟩
  · refine lv_aload_n hx hb dX8_bits_0 rfl (lv_at hl 0 rfl) ?_
    refine lv_iload_n hx hb dX8_bits_1 rfl (lv_at hl 1 rfl) ?_
    refine va_csq (W.runV (As := [.int me]) (rest := []) ⟨hx, hb, hml, hown, hts⟩ (c_meterOf_no l G cy L F o qa Mm Dd Sl Pp Kr Bk Xx hR me hi_me) (cwV 1 hts gX8_bits_X8_meterOf rfl rfl rfl (by decide +kernel) ⟨Nat.le_of_ble_eq_true rfl, Nat.le_of_ble_eq_true rfl⟩) (preV_of okP (⟨hP, hK, hD.top⟩) (pl_recv hK hP (ci := 7) rfl hmo hFo)) rfl rfl hl.1 rfl (lv_room (Nat.le_of_ble_eq_true rfl)) dX8_bits_2 ⟨Nat.le_of_ble_eq_true rfl, Nat.le_of_ble_eq_true rfl⟩) (fun r1 hr1 => ?_)
    subst hr1
    refine W.eq (g2 := F0 m 5 ls [.null]) rfl ?_
    refine lv_astore_nN (lv' := [(2, .null), (0, .ref o), (1, .int me)]) hx hb dX8_bits_5 rfl hl (by decide) rfl (fun ls hl => ?_)
    refine lv_aload_nN hx hb dX8_bits_6 rfl (lv_at hl 0 rfl) ?_
    refine lv_ifnonnullN hx hb dX8_bits_7 ?_
    refine lv_ldc2 hx hb hown (hts (.constantLong RX8 93 (-1001)) (by decide +kernel)) dX8_bits_10 ?_
    exact W.lret (v := -1001) hx hb hr (fun t ht hW => ⟨⟨-1001, F, rfl, ⟨by unfold sp_bits; rw [hi_me], hR⟩, (by show va_P _ _ _ t.heap; rw [ht]; exact hP)⟩, hS.F ht⟩) hS.2.2 dX8_bits_13
  · subst ei_me
    obtain ⟨hmm_me, nm_me, rl_me, hFm_me, hok_me⟩ := hRM j_me hj_me
    refine lv_aload_n hx hb dX8_bits_0 rfl (lv_at hl 0 rfl) ?_
    refine lv_iload_n hx hb dX8_bits_1 rfl (lv_at hl 1 rfl) ?_
    refine va_csq (W.runV (As := [.int (nI j_me)]) (rest := []) ⟨hx, hb, hml, hown, hts⟩ (c_meterOf l G cy L F o qa Mm Dd Sl Pp Kr Bk Xx hR j_me hj_me) (cwV 1 hts gX8_bits_X8_meterOf rfl rfl rfl (by decide +kernel) ⟨Nat.le_of_ble_eq_true rfl, Nat.le_of_ble_eq_true rfl⟩) (preV_of okP (⟨hP, hK, hD.top⟩) (pl_recv hK hP (ci := 7) rfl hmo hFo)) rfl rfl hl.1 rfl (lv_room (Nat.le_of_ble_eq_true rfl)) dX8_bits_2 ⟨Nat.le_of_ble_eq_true rfl, Nat.le_of_ble_eq_true rfl⟩) (fun r2 hr2 => ?_)
    subst hr2
    refine W.eq (g2 := F0 m 5 ls [.ref (qa 0 j_me)]) rfl ?_
    refine lv_astore_n (lv' := [(2, .ref (qa 0 j_me)), (0, .ref o), (1, .int (nI j_me))]) hx hb dX8_bits_5 rfl hl (by decide) rfl (fun ls hl => ?_)
    refine lv_aload_n hx hb dX8_bits_6 rfl (lv_at hl 0 rfl) ?_
    refine lv_ifnonnull (tgt := 14) hx hb dX8_bits_7 (by decide) ?_
    rcases hok_me.2 with hw | hw | hw | hw
    · obtain ⟨hl0, -, hnum⟩ := hw
      refine lv_aload_n hx hb dX8_bits_14 rfl (lv_at hl 0 rfl) ?_
      refine vp_callSi (W.runV (As := []) (rest := []) ⟨hx, hb, hml, hown, hts⟩ (c_isWhole l G cy L F (qa 0 j_me) (Mm.1 j_me) nm_me rl_me hmm_me hFm_me ) (cwV 0 hts gX8_bits_X4_isWhole rfl rfl rfl (by decide +kernel) ⟨Nat.le_of_ble_eq_true rfl, Nat.le_of_ble_eq_true rfl⟩) (preV_of okP (⟨hP, hK, hD.top⟩) (pl_recv hK hP (ci := 4) rfl hmm_me hFm_me)) rfl rfl hl.1 rfl (lv_room (Nat.le_of_ble_eq_true rfl)) dX8_bits_15 ⟨Nat.le_of_ble_eq_true rfl, Nat.le_of_ble_eq_true rfl⟩) (fun r3 hr3 => ?_)
      refine lv_if_eq (tgt := 28) hx hb dX8_bits_18 (by decide) (fun c4 => absurd c4 (by rw [hr3, hl0]; exact (by decide : ¬ (1 : Int32) = 0))) (fun c4 => ?_)
      refine lv_aload_n hx hb dX8_bits_21 rfl (lv_at hl 0 rfl) ?_
      refine pg_get (ci := 4) (C := RX4) (T := TX4) (N := 3) hx hb hts hinX4 hown hK hP hmm_me hFm_me rfl 1 (by decide) (hts (.fieldLink RX8 99 "RopeDrums$Meter" "number" "J") (by decide +kernel)) (fun _ h9 => h9) rfl dX8_bits_22 ?_
      refine lv_goto (tgt := 42) hx hb dX8_bits_25 (by decide) ?_
      exact W.lret (v := nm_me) hx hb hr (fun t ht hW => ⟨⟨nm_me, F, rfl, ⟨by unfold sp_bits; rw [hi_me]; exact hnum, hR⟩, (by show va_P _ _ _ t.heap; rw [ht]; exact hP)⟩, hS.F ht⟩) hS.2.2 dX8_bits_42
    · obtain ⟨hl0, hnum⟩ := hw
      refine lv_aload_n hx hb dX8_bits_14 rfl (lv_at hl 0 rfl) ?_
      refine vp_callSi (W.runV (As := []) (rest := []) ⟨hx, hb, hml, hown, hts⟩ (c_isWhole l G cy L F (qa 0 j_me) (Mm.1 j_me) nm_me rl_me hmm_me hFm_me ) (cwV 0 hts gX8_bits_X4_isWhole rfl rfl rfl (by decide +kernel) ⟨Nat.le_of_ble_eq_true rfl, Nat.le_of_ble_eq_true rfl⟩) (preV_of okP (⟨hP, hK, hD.top⟩) (pl_recv hK hP (ci := 4) rfl hmm_me hFm_me)) rfl rfl hl.1 rfl (lv_room (Nat.le_of_ble_eq_true rfl)) dX8_bits_15 ⟨Nat.le_of_ble_eq_true rfl, Nat.le_of_ble_eq_true rfl⟩) (fun r5 hr5 => ?_)
      refine lv_if_eq (tgt := 28) hx hb dX8_bits_18 (by decide) (fun c6 => absurd c6 (by rw [hr5, hl0]; exact (by decide : ¬ (1 : Int32) = 0))) (fun c6 => ?_)
      refine lv_aload_n hx hb dX8_bits_21 rfl (lv_at hl 0 rfl) ?_
      refine pg_get (ci := 4) (C := RX4) (T := TX4) (N := 3) hx hb hts hinX4 hown hK hP hmm_me hFm_me rfl 1 (by decide) (hts (.fieldLink RX8 99 "RopeDrums$Meter" "number" "J") (by decide +kernel)) (fun _ h9 => h9) rfl dX8_bits_22 ?_
      refine lv_goto (tgt := 42) hx hb dX8_bits_25 (by decide) ?_
      exact W.lret (v := nm_me) hx hb hr (fun t ht hW => ⟨⟨nm_me, F, rfl, ⟨by unfold sp_bits; rw [hi_me]; exact hnum, hR⟩, (by show va_P _ _ _ t.heap; rw [ht]; exact hP)⟩, hS.F ht⟩) hS.2.2 dX8_bits_42
    · obtain ⟨hl0, hs0, hv0, hr0⟩ := hw
      refine lv_aload_n hx hb dX8_bits_14 rfl (lv_at hl 0 rfl) ?_
      refine vp_callSi (W.runV (As := []) (rest := []) ⟨hx, hb, hml, hown, hts⟩ (c_isWhole l G cy L F (qa 0 j_me) (Mm.1 j_me) nm_me rl_me hmm_me hFm_me ) (cwV 0 hts gX8_bits_X4_isWhole rfl rfl rfl (by decide +kernel) ⟨Nat.le_of_ble_eq_true rfl, Nat.le_of_ble_eq_true rfl⟩) (preV_of okP (⟨hP, hK, hD.top⟩) (pl_recv hK hP (ci := 4) rfl hmm_me hFm_me)) rfl rfl hl.1 rfl (lv_room (Nat.le_of_ble_eq_true rfl)) dX8_bits_15 ⟨Nat.le_of_ble_eq_true rfl, Nat.le_of_ble_eq_true rfl⟩) (fun r7 hr7 => ?_)
      refine lv_if_eq (tgt := 28) hx hb dX8_bits_18 (by decide) (fun c8 => ?_) (fun c8 => absurd (by rw [hr7, hl0]; rfl) c8)
      refine lv_aload_n hx hb dX8_bits_28 rfl (lv_at hl 0 rfl) ?_
      refine pg_get (ci := 4) (C := RX4) (T := TX4) (N := 3) hx hb hts hinX4 hown hK hP hmm_me hFm_me rfl 0 (by decide) (hts (.fieldLink RX8 103 "RopeDrums$Meter" "lane" "I") (by decide +kernel)) (fun _ h9 => h9) rfl dX8_bits_29 ?_
      refine va_csq (W.runS (As := [.int (Mm.1 j_me)]) (rest := []) ⟨hx, hb, hml, hown, hts⟩ (c_formOf_2 l ad (Mm.1 j_me) hl0) (va_cwS 1 hts gX8_bits_X8_formOf rfl rfl rfl (by decide +kernel) ⟨Nat.le_of_ble_eq_true rfl, Nat.le_of_ble_eq_true rfl⟩) (preS_of okE (pE.low hE hN hS)) rfl rfl hl.1 rfl (lv_room (Nat.le_of_ble_eq_true rfl)) dX8_bits_32 ⟨Nat.le_of_ble_eq_true rfl, Nat.le_of_ble_eq_true rfl⟩) (fun r9 hr9 => ?_)
      subst hr9
      refine W.eq (g2 := F0 m 35 ls [.ref (ad 0)]) rfl ?_
      refine lv_aload_n hx hb dX8_bits_35 rfl (lv_at hl 0 rfl) ?_
      refine pg_get (ci := 4) (C := RX4) (T := TX4) (N := 3) hx hb hts hinX4 hown hK hP hmm_me hFm_me rfl 2 (by decide) (hts (.fieldLink RX8 106 "RopeDrums$Meter" "real" "D") (by decide +kernel)) (fun _ h9 => h9) rfl dX8_bits_36 ?_
      refine vp_callSl (W.runV (As := [.double rl_me]) (rest := []) ⟨hx, hb, hml, hown, hts⟩ (c_bitsOf_0 l ad rl_me (fl (Mm.2 j_me)).toNat (UInt32.toNat_lt _) ((FP.Core.ne_nan32 _).mp hv0) (by rw [UInt32.ofNat_toNat]; exact hr0)) (cwV 1 hts gX8_bits_X2_bitsOf rfl rfl rfl (by decide +kernel) ⟨Nat.le_of_ble_eq_true rfl, Nat.le_of_ble_eq_true rfl⟩) (preV_of okE (pE.low hE hN hS) (va_recvE hE (by decide) hS)) rfl rfl hl.1 rfl (lv_room (Nat.le_of_ble_eq_true rfl)) dX8_bits_39 ⟨Nat.le_of_ble_eq_true rfl, Nat.le_of_ble_eq_true rfl⟩) (fun r10 hr10 => ?_)
      have hbits : r10 = Mm.2 j_me := by rw [hr10]; exact flbits hs0
      exact W.lret (v := r10) hx hb hr (fun t ht hW => ⟨⟨r10, F, rfl, ⟨by unfold sp_bits; rw [hi_me]; exact hbits, hR⟩, (by show va_P _ _ _ t.heap; rw [ht]; exact hP)⟩, hS.F ht⟩) hS.2.2 dX8_bits_42
    · obtain ⟨hl0, hv0, hr0⟩ := hw
      refine lv_aload_n hx hb dX8_bits_14 rfl (lv_at hl 0 rfl) ?_
      refine vp_callSi (W.runV (As := []) (rest := []) ⟨hx, hb, hml, hown, hts⟩ (c_isWhole l G cy L F (qa 0 j_me) (Mm.1 j_me) nm_me rl_me hmm_me hFm_me ) (cwV 0 hts gX8_bits_X4_isWhole rfl rfl rfl (by decide +kernel) ⟨Nat.le_of_ble_eq_true rfl, Nat.le_of_ble_eq_true rfl⟩) (preV_of okP (⟨hP, hK, hD.top⟩) (pl_recv hK hP (ci := 4) rfl hmm_me hFm_me)) rfl rfl hl.1 rfl (lv_room (Nat.le_of_ble_eq_true rfl)) dX8_bits_15 ⟨Nat.le_of_ble_eq_true rfl, Nat.le_of_ble_eq_true rfl⟩) (fun r11 hr11 => ?_)
      refine lv_if_eq (tgt := 28) hx hb dX8_bits_18 (by decide) (fun c12 => ?_) (fun c12 => absurd (by rw [hr11, hl0]; rfl) c12)
      refine lv_aload_n hx hb dX8_bits_28 rfl (lv_at hl 0 rfl) ?_
      refine pg_get (ci := 4) (C := RX4) (T := TX4) (N := 3) hx hb hts hinX4 hown hK hP hmm_me hFm_me rfl 0 (by decide) (hts (.fieldLink RX8 103 "RopeDrums$Meter" "lane" "I") (by decide +kernel)) (fun _ h9 => h9) rfl dX8_bits_29 ?_
      refine va_csq (W.runS (As := [.int (Mm.1 j_me)]) (rest := []) ⟨hx, hb, hml, hown, hts⟩ (c_formOf_3 l ad (Mm.1 j_me) hl0) (va_cwS 1 hts gX8_bits_X8_formOf rfl rfl rfl (by decide +kernel) ⟨Nat.le_of_ble_eq_true rfl, Nat.le_of_ble_eq_true rfl⟩) (preS_of okE (pE.low hE hN hS)) rfl rfl hl.1 rfl (lv_room (Nat.le_of_ble_eq_true rfl)) dX8_bits_32 ⟨Nat.le_of_ble_eq_true rfl, Nat.le_of_ble_eq_true rfl⟩) (fun r13 hr13 => ?_)
      subst hr13
      refine W.eq (g2 := F0 m 35 ls [.ref (ad 1)]) rfl ?_
      refine lv_aload_n hx hb dX8_bits_35 rfl (lv_at hl 0 rfl) ?_
      refine pg_get (ci := 4) (C := RX4) (T := TX4) (N := 3) hx hb hts hinX4 hown hK hP hmm_me hFm_me rfl 2 (by decide) (hts (.fieldLink RX8 106 "RopeDrums$Meter" "real" "D") (by decide +kernel)) (fun _ h9 => h9) rfl dX8_bits_36 ?_
      refine vp_callSl (W.runV (As := [.double rl_me]) (rest := []) ⟨hx, hb, hml, hown, hts⟩ (c_bitsOf_1 l ad rl_me hok_me.ne) (cwV 1 hts gX8_bits_X2_bitsOf rfl rfl rfl (by decide +kernel) ⟨Nat.le_of_ble_eq_true rfl, Nat.le_of_ble_eq_true rfl⟩) (preV_of okE (pE.low hE hN hS) (va_recvE hE (by decide) hS)) rfl rfl hl.1 rfl (lv_room (Nat.le_of_ble_eq_true rfl)) dX8_bits_39 ⟨Nat.le_of_ble_eq_true rfl, Nat.le_of_ble_eq_true rfl⟩) (fun r14 hr14 => ?_)
      have hbits : r14 = Mm.2 j_me := by rw [hr14, hr0]; exact dbbits _
      exact W.lret (v := r14) hx hb hr (fun t ht hW => ⟨⟨r14, F, rfl, ⟨by unfold sp_bits; rw [hi_me]; exact hbits, hR⟩, (by show va_P _ _ _ t.heap; rw [ht]; exact hP)⟩, hS.F ht⟩) hS.2.2 dX8_bits_42

theorem laneB_q (x : Int32) : (laneB x = true) = (q_isLane x = 1) := by
  unfold laneB q_isLane
  have h0 : (0 : Int32).toInt = 0 := by decide
  have h3 : (3 : Int32).toInt = 3 := by decide
  simp only [Bool.and_eq_true, decide_eq_true_eq, fa_lt, h0, h3]
  by_cases h1 : x.toInt < 0
  · rw [if_pos h1]
    simp
    omega
  · rw [if_neg h1]
    by_cases h2 : 3 < x.toInt
    · rw [if_pos h2]
      simp
      omega
    · rw [if_neg h2]
      simp
      omega
theorem laneB_1 {x : Int32} (h : ¬ q_isLane x = 0) : laneB x = true := by
  rw [laneB_q]
  revert h
  unfold q_isLane
  split
  · intro h; exact absurd rfl h
  · split
    · intro h; exact absurd rfl h
    · intro _; rfl

set_option maxHeartbeats 8000000 in
set_option maxRecDepth 100000 in
theorem m_turn (l : Launch) (G : va_G) (cy : Nat → ClassId) (L : List Nat) (F : Nat → va_E) (ad : Nat → Nat) (sz : Nat) (o : Nat) (qa : Nat → Nat → Nat) (Mm : SM) (Dd : SD) (Sl : SL) (Pp : SP) (Kr : SR) (Bk : SB) (Xx : SX) (hR : Rep cy L o qa Mm Dd Sl Pp Kr Bk Xx F) (me ln : Int32)  : Met l yX8_turn wsX8_turn ({ frames := 4, cells := 0, slots := 0, locals := 82 }) (va_Pc [.ref o, .int me, .int ln] (fun U => bQE G cy L F ad sz U U.heap)) (va_Qi (fun (r : Int32) (F' : Nat → va_E) => r = (sp_turn Mm me ln).1 ∧ Rep cy L o qa (sp_turn Mm me ln).2 Dd Sl Pp Kr Bk Xx F') (fun F' t => va_P G vwCl (va_pl L F') t.heap) (va_A (va_pl L F) sz)) 0 0 (va_A (va_pl L F) sz) := by
  refine Met.ofW (cc := cX8_turn) (maxL := 4) (ret := (some .int)) (by decide) rfl ?_
  intro p e s m args below meth c s₁ B hml hv
  obtain ⟨rfl, ⟨hsz, hP, hK, hD0⟩, hE, hN⟩ := hv
  have hx := B.exec
  have hb := B.bytes
  have hr := B.returns
  have hts := atoms_spec (ws := wsX8_turn) B.pre
  have hown : s.vm.findClass RX8 = some m.cls := findClass_of_methodNamed B.named
  have hlocks := B.notSynchronized
  have hinX8 : ∀ w ∈ wsX80, w ∈ wsX8_turn := by decide +kernel
  have hinX4 : ∀ w ∈ wsX40, w ∈ wsX8_turn := by decide +kernel
  subst hsz
  have hD := hD0.self F s.heap.size
  generalize hAe : va_A (va_pl L F) s.heap.size = A at hD hE ⊢
  have hA : ∀ q : Nat, s.heap.size ≤ q → A q := fun q h => by rw [← hAe]; exact Or.inr h
  have hS : va_S A s.heap s.heap [] := va_S.rf
  obtain ⟨⟨⟨hmo, hFo⟩, ⟨hmf, hFf⟩, hms, hFs⟩, ⟨⟨hm0, hF0⟩, ⟨hm1, hF1⟩, ⟨hm2, hF2⟩, ⟨hm4, hF4⟩, hm5, hF5⟩, hRM, hRD, hRG, hRP, hRR, hRB, hRI⟩ := id hR
  have hl := lv_entry ([.ref o, .int me, .int ln]) (n := 4) (Nat.le_of_ble_eq_true rfl)
  rw [lg_entry_eq]
  generalize (lg_sl ([.ref o, .int me, .int ln]) ++ List.replicate (4 - (lg_sl ([.ref o, .int me, .int ln])).length) Slot.unset).toArray = ls at hl ⊢
  have hl : lv_has ls 4 [(0, .ref o), (1, .int me), (2, .int ln)] := hl
  rcases ixc 10 me with hi_me | ⟨j_me, hj_me, hi_me, ei_me⟩
  · refine lv_aload_n hx hb dX8_turn_0 rfl (lv_at hl 0 rfl) ?_
    refine lv_iload_n hx hb dX8_turn_1 rfl (lv_at hl 1 rfl) ?_
    refine va_csq (W.runV (As := [.int me]) (rest := []) ⟨hx, hb, hml, hown, hts⟩ (c_meterOf_no l G cy L F o qa Mm Dd Sl Pp Kr Bk Xx hR me hi_me) (cwV 1 hts gX8_turn_X8_meterOf rfl rfl rfl (by decide +kernel) ⟨Nat.le_of_ble_eq_true rfl, Nat.le_of_ble_eq_true rfl⟩) (preV_of okP (⟨hP, hK, hD.top⟩) (pl_recv hK hP (ci := 7) rfl hmo hFo)) rfl rfl hl.1 rfl (lv_room (Nat.le_of_ble_eq_true rfl)) dX8_turn_2 ⟨Nat.le_of_ble_eq_true rfl, Nat.le_of_ble_eq_true rfl⟩) (fun r1 hr1 => ?_)
    subst hr1
    refine W.eq (g2 := F0 m 5 ls [.null]) rfl ?_
    refine lv_astore_nN (lv' := [(3, .null), (0, .ref o), (1, .int me), (2, .int ln)]) hx hb dX8_turn_5 rfl hl (by decide) rfl (fun ls hl => ?_)
    refine lv_aload_nN hx hb dX8_turn_6 rfl (lv_at hl 0 rfl) ?_
    refine lv_ifnonnullN hx hb dX8_turn_7 ?_
    refine lv_sipush (v := -1001) hx hb dX8_turn_10 (by decide) ?_
    exact W.iret (v := -1001) hx hb hr (fun t ht hW => ⟨⟨-1001, F, rfl, (by have hsp : sp_turn Mm me ln = (-1001, Mm) := (by unfold sp_turn; rw [hi_me]); rw [hsp]; exact ⟨rfl, hR⟩), (by show va_P _ _ _ t.heap; rw [ht]; exact hP)⟩, hS.F ht⟩) hS.2.2 dX8_turn_13
  · subst ei_me
    obtain ⟨hmm_me, nm_me, rl_me, hFm_me, hok_me⟩ := hRM j_me hj_me
    refine lv_aload_n hx hb dX8_turn_0 rfl (lv_at hl 0 rfl) ?_
    refine lv_iload_n hx hb dX8_turn_1 rfl (lv_at hl 1 rfl) ?_
    refine va_csq (W.runV (As := [.int (nI j_me)]) (rest := []) ⟨hx, hb, hml, hown, hts⟩ (c_meterOf l G cy L F o qa Mm Dd Sl Pp Kr Bk Xx hR j_me hj_me) (cwV 1 hts gX8_turn_X8_meterOf rfl rfl rfl (by decide +kernel) ⟨Nat.le_of_ble_eq_true rfl, Nat.le_of_ble_eq_true rfl⟩) (preV_of okP (⟨hP, hK, hD.top⟩) (pl_recv hK hP (ci := 7) rfl hmo hFo)) rfl rfl hl.1 rfl (lv_room (Nat.le_of_ble_eq_true rfl)) dX8_turn_2 ⟨Nat.le_of_ble_eq_true rfl, Nat.le_of_ble_eq_true rfl⟩) (fun r2 hr2 => ?_)
    subst hr2
    refine W.eq (g2 := F0 m 5 ls [.ref (qa 0 j_me)]) rfl ?_
    refine lv_astore_n (lv' := [(3, .ref (qa 0 j_me)), (0, .ref o), (1, .int (nI j_me)), (2, .int ln)]) hx hb dX8_turn_5 rfl hl (by decide) rfl (fun ls hl => ?_)
    refine lv_aload_n hx hb dX8_turn_6 rfl (lv_at hl 0 rfl) ?_
    refine lv_ifnonnull (tgt := 14) hx hb dX8_turn_7 (by decide) ?_
    refine lv_iload_n hx hb dX8_turn_14 rfl (lv_at hl 3 rfl) ?_
    refine vp_callSi (W.runS (As := [.int ln]) (rest := []) ⟨hx, hb, hml, hown, hts⟩ (c_isLane l ln) (va_cwS 1 hts gX8_turn_X8_isLane rfl rfl rfl (by decide +kernel) ⟨Nat.le_of_ble_eq_true rfl, Nat.le_of_ble_eq_true rfl⟩) (preS_of okT (trivial)) rfl rfl hl.1 rfl (lv_room (Nat.le_of_ble_eq_true rfl)) dX8_turn_15 ⟨Nat.le_of_ble_eq_true rfl, Nat.le_of_ble_eq_true rfl⟩) (fun r3 hr3 => ?_)
    refine lv_if_ne (tgt := 25) hx hb dX8_turn_18 (by decide) (fun c4 => ?_) (fun c4 => ?_)
    · refine lv_aload_n hx hb dX8_turn_25 rfl (lv_at hl 0 rfl) ?_
      refine lv_iload_n hx hb dX8_turn_26 rfl (lv_at hl 3 rfl) ?_
      refine va_callv (va_runV (As := [.int ln]) (rest := []) ⟨hx, hb, hml, hown, hts⟩ (c_turnInto l G cy L F s.heap.size (qa 0 j_me) (Mm.1 j_me) nm_me rl_me hmm_me hFm_me ln hok_me.ne) (cwV 1 hts gX8_turn_X4_turnInto rfl rfl rfl (by decide +kernel) ⟨Nat.le_of_ble_eq_true rfl, Nat.le_of_ble_eq_true rfl⟩) (preV_of okQ (⟨rfl, hP, hK, hD.top⟩) (pl_recv hK hP (ci := 4) rfl hmm_me hFm_me)) rfl rfl hl.1 rfl (lv_room (Nat.le_of_ble_eq_true rfl)) dX8_turn_27 ⟨Nat.le_of_ble_eq_true rfl, Nat.le_of_ble_eq_true rfl⟩) hS (fun q _ h => pl_free hD hS hA q h) (pl_free hD hS hA) (fun F5 t H1 locs ht hvm hw hP1 hz1 hk1 hS => ?_)
      have hP1 : va_P G vwCl (va_pl L F5) t.heap := hP1
      rw [ht] at hP1
      have hP := hP1
      generalize H1 = H at hP hS ⊢
      have eF5 := hw
      refine lv_iconst (v := 1) hx hb dX8_turn_30 (by decide) ?_
      exact W.iret (v := 1) hx hb hr (fun t ht hW => ⟨⟨1, F5, rfl, (by have hsp : sp_turn Mm (nI j_me) ln = (1, setM Mm j_me ln (tn (Mm.1 j_me) (Mm.2 j_me) ln)) := (by unfold sp_turn; rw [hi_me]; exact if_pos (laneB_1 (by rw [← hr3]; exact c4))); rw [hsp]; exact ⟨rfl, (by rw [eF5]; exact hR.meter hj_me (turn_ok hok_me (laneB_1 (by rw [← hr3]; exact c4))))⟩), (by show va_P _ _ _ t.heap; rw [ht]; exact hP)⟩, hS.F ht⟩) hS.2.2 dX8_turn_31
    · refine lv_sipush (v := -1002) hx hb dX8_turn_21 (by decide) ?_
      exact W.iret (v := -1002) hx hb hr (fun t ht hW => ⟨⟨-1002, F, rfl, (by have hsp : sp_turn Mm (nI j_me) ln = (-1002, Mm) := (by unfold sp_turn; rw [hi_me]; exact if_neg (by rw [laneB_q, ← hr3, c4]; decide)); rw [hsp]; exact ⟨rfl, hR⟩), (by show va_P _ _ _ t.heap; rw [ht]; exact hP)⟩, hS.F ht⟩) hS.2.2 dX8_turn_24
