theorem numB3' {n : Nat} (hn : n < 2 ^ 64) (h : n % 2 ^ 63 ≤ 9218868437227405312) : numB 3 (lN n) = true := (set_3 (nm := 0) hn h).2

set_option maxHeartbeats 8000000 in
set_option maxRecDepth 100000 in
theorem m_brake (l : Launch) (G : va_G) (cy : Nat → ClassId) (L : List Nat) (F : Nat → va_E) (ad : Nat → Nat) (sz : Nat) (o : Nat) (qa : Nat → Nat → Nat) (Mm : SM) (Dd : SD) (Sl : SL) (Pp : SP) (Kr : SR) (Bk : SB) (Xx : SX) (hR : Rep cy L o qa Mm Dd Sl Pp Kr Bk Xx F) (br so : Int32) (n : Nat) (hn : n < 2 ^ 64)  : Met l yX8_brake wsX8_brake ({ frames := 3, cells := 0, slots := 0, locals := 72 }) (va_Pc [.ref o, .int br, .int so, .long (lN n)] (fun U => bQE G cy L F ad sz U U.heap)) (va_Qi (fun (r : Int32) (F' : Nat → va_E) => r = (sp_brake Bk br so (lN n)).1 ∧ Rep cy L o qa Mm Dd Sl Pp Kr (sp_brake Bk br so (lN n)).2 Xx F') (fun F' t => va_P G vwCl (va_pl L F') t.heap) (va_A (va_pl L F) sz)) 0 0 (va_A (va_pl L F) sz) := by
  refine Met.ofW (cc := cX8_brake) (maxL := 6) (ret := (some .int)) (by decide) rfl ?_
  intro p e s m args below meth c s₁ B hml hv
  obtain ⟨rfl, ⟨hsz, hP, hK, hD0⟩, hE, hN⟩ := hv
  have hx := B.exec
  have hb := B.bytes
  have hr := B.returns
  have hts := atoms_spec (ws := wsX8_brake) B.pre
  have hown : s.vm.findClass RX8 = some m.cls := findClass_of_methodNamed B.named
  have hlocks := B.notSynchronized
  have hinX8 : ∀ w ∈ wsX80, w ∈ wsX8_brake := by decide +kernel
  have hinX0 : ∀ w ∈ wsX00, w ∈ wsX8_brake := by decide +kernel
  subst hsz
  have hD := hD0.self F s.heap.size
  generalize hAe : va_A (va_pl L F) s.heap.size = A at hD hE ⊢
  have hA : ∀ q : Nat, s.heap.size ≤ q → A q := fun q h => by rw [← hAe]; exact Or.inr h
  have hS : va_S A s.heap s.heap [] := va_S.rf
  obtain ⟨⟨⟨hmo, hFo⟩, ⟨hmf, hFf⟩, hms, hFs⟩, ⟨⟨hm0, hF0⟩, ⟨hm1, hF1⟩, ⟨hm2, hF2⟩, ⟨hm4, hF4⟩, hm5, hF5⟩, hRM, hRD, hRG, hRP, hRR, hRB, hRI⟩ := id hR
  have hl := lv_entry ([.ref o, .int br, .int so, .long (lN n)]) (n := 6) (Nat.le_of_ble_eq_true rfl)
  rw [lg_entry_eq]
  generalize (lg_sl ([.ref o, .int br, .int so, .long (lN n)]) ++ List.replicate (6 - (lg_sl ([.ref o, .int br, .int so, .long (lN n)])).length) Slot.unset).toArray = ls at hl ⊢
  have hl : lv_has ls 6 [(0, .ref o), (1, .int br), (2, .int so), (3, .long (lN n))] := hl
  rcases ixc 4 br with hi_br | ⟨j_br, hj_br, hi_br, ei_br⟩
  · refine lv_aload_n hx hb dX8_brake_0 rfl (lv_at hl 0 rfl) ?_
    refine lv_iload_n hx hb dX8_brake_1 rfl (lv_at hl 1 rfl) ?_
    refine va_csq (W.runV (As := [.int br]) (rest := []) ⟨hx, hb, hml, hown, hts⟩ (c_brakeOf_no l G cy L F o qa Mm Dd Sl Pp Kr Bk Xx hR br hi_br) (cwV 1 hts gX8_brake_X8_brakeOf rfl rfl rfl (by decide +kernel) ⟨Nat.le_of_ble_eq_true rfl, Nat.le_of_ble_eq_true rfl⟩) (preV_of okP (⟨hP, hK, hD.top⟩) (pl_recv hK hP (ci := 7) rfl hmo hFo)) rfl rfl hl.1 rfl (lv_room (Nat.le_of_ble_eq_true rfl)) dX8_brake_2 ⟨Nat.le_of_ble_eq_true rfl, Nat.le_of_ble_eq_true rfl⟩) (fun r1 hr1 => ?_)
    subst hr1
    refine W.eq (g2 := F0 m 5 ls [.null]) rfl ?_
    refine lv_astoreN (lv' := [(5, .null), (0, .ref o), (1, .int br), (2, .int so), (3, .long (lN n))]) hx hb dX8_brake_5 hl (by decide) rfl (fun ls hl => ?_)
    refine lv_aloadN hx hb dX8_brake_7 (lv_at hl 0 rfl) ?_
    refine lv_ifnonnullN hx hb dX8_brake_9 ?_
    refine lv_sipush (v := -1001) hx hb dX8_brake_12 (by decide) ?_
    exact W.iret (v := -1001) hx hb hr (fun t ht hW => ⟨⟨-1001, F, rfl, (by have hsp : sp_brake Bk br so (lN n) = (-1001, Bk) := (by unfold sp_brake; rw [hi_br]); rw [hsp]; exact ⟨rfl, hR⟩), (by show va_P _ _ _ t.heap; rw [ht]; exact hP)⟩, hS.F ht⟩) hS.2.2 dX8_brake_15
  · subst ei_br
    obtain ⟨hmb_br, gr_br, hFb_br, hokb_br⟩ := hRB j_br hj_br
    refine lv_aload_n hx hb dX8_brake_0 rfl (lv_at hl 0 rfl) ?_
    refine lv_iload_n hx hb dX8_brake_1 rfl (lv_at hl 1 rfl) ?_
    refine va_csq (W.runV (As := [.int (nI j_br)]) (rest := []) ⟨hx, hb, hml, hown, hts⟩ (c_brakeOf l G cy L F o qa Mm Dd Sl Pp Kr Bk Xx hR j_br hj_br) (cwV 1 hts gX8_brake_X8_brakeOf rfl rfl rfl (by decide +kernel) ⟨Nat.le_of_ble_eq_true rfl, Nat.le_of_ble_eq_true rfl⟩) (preV_of okP (⟨hP, hK, hD.top⟩) (pl_recv hK hP (ci := 7) rfl hmo hFo)) rfl rfl hl.1 rfl (lv_room (Nat.le_of_ble_eq_true rfl)) dX8_brake_2 ⟨Nat.le_of_ble_eq_true rfl, Nat.le_of_ble_eq_true rfl⟩) (fun r2 hr2 => ?_)
    subst hr2
    refine W.eq (g2 := F0 m 5 ls [.ref (qa 6 j_br)]) rfl ?_
    refine lv_astore (lv' := [(5, .ref (qa 6 j_br)), (0, .ref o), (1, .int (nI j_br)), (2, .int so), (3, .long (lN n))]) hx hb dX8_brake_5 hl (by decide) rfl (fun ls hl => ?_)
    refine lv_aload hx hb dX8_brake_7 (lv_at hl 0 rfl) ?_
    refine lv_ifnonnull (tgt := 16) hx hb dX8_brake_9 (by decide) ?_
    refine lv_iload_n hx hb dX8_brake_16 rfl (lv_at hl 3 rfl) ?_
    refine lv_if_lt (tgt := 25) hx hb dX8_brake_17 (by decide) (fun c3 => ?_) (fun c3 => ?_)
    · refine lv_sipush (v := -1002) hx hb dX8_brake_25 (by decide) ?_
      exact W.iret (v := -1002) hx hb hr (fun t ht hW => ⟨⟨-1002, F, rfl, (by have hsp : sp_brake Bk (nI j_br) so (lN n) = (-1002, Bk) := (by unfold sp_brake; rw [hi_br]; exact if_neg (by intro hq; have hc := c3; have h0 : (0 : Int32).toInt = 0 := (by decide); have h2 : (2 : Int32).toInt = 2 := (by decide); rw [fa_lt] at hc; omega)); rw [hsp]; exact ⟨rfl, hR⟩), (by show va_P _ _ _ t.heap; rw [ht]; exact hP)⟩, hS.F ht⟩) hS.2.2 dX8_brake_28
    · refine lv_iload_n hx hb dX8_brake_20 rfl (lv_at hl 3 rfl) ?_
      refine lv_iconst (v := 2) hx hb dX8_brake_21 (by decide) ?_
      refine lv_icmp_le (tgt := 29) hx hb dX8_brake_22 (by decide) (fun c4 => ?_) (fun c4 => ?_)
      · refine lv_iload_n hx hb dX8_brake_29 rfl (lv_at hl 3 rfl) ?_
        refine lv_iconst (v := 2) hx hb dX8_brake_30 (by decide) ?_
        refine lv_icmp_eq (tgt := 60) hx hb dX8_brake_31 (by decide) (fun c5 => ?_) (fun c5 => ?_)
        · refine lv_aload hx hb dX8_brake_60 (lv_at hl 0 rfl) ?_
          refine lv_iload_n hx hb dX8_brake_62 rfl (lv_at hl 3 rfl) ?_
          refine pg_put (ci := 0) (v := .int so) (ty := .int) (C := RX0) (T := TX0) (N := 2) hx hb hts hinX0 tyX0 tyX0_ok nmX0 hown hK hP hD hS hmb_br hFb_br rfl 0 (by decide) (hts (.fieldLink RX8 262 "RopeDrums$Brake" "sort" "I") (by decide +kernel)) (fun _ h9 => h9) rfl (by decide +kernel) (rfl) (rfl) (Nat.le_of_ble_eq_true rfl) dX8_brake_63 (fun H locs F6 eF6 hP hS => ?_)
          have eF6 : F6 = va_up F (qa 6 j_br) (.inr (0, [.int so, .double gr_br])) := eF6
          have hFo_6 : F6 o = .inr (7, [.ref (qa 8 0), .ref (qa 8 1), .ref (qa 8 2), .ref (qa 8 3), .ref (qa 8 4), .ref (qa 8 5), .ref (qa 8 6), .int Pp.1, .int Xx.1]) := by rw [eF6, va_up_ne _ _ (pl_ne hFo hFb_br rfl)]; exact hFo
          have hFqa80_6 : F6 (qa 8 0) = cQ (cy 7) 10 (pR 10 (qa 0)) := by rw [eF6, va_up_ne _ _ (pl_ne hF0 hFb_br rfl)]; exact hF0
          have hFqa81_6 : F6 (qa 8 1) = cQ (cy 5) 6 (pR 6 (qa 1)) := by rw [eF6, va_up_ne _ _ (pl_ne hF1 hFb_br rfl)]; exact hF1
          have hFqa82_6 : F6 (qa 8 2) = cQ (cy 6) 8 (pR 8 (qa 2)) := by rw [eF6, va_up_ne _ _ (pl_ne hF2 hFb_br rfl)]; exact hF2
          have hFqa83_6 : F6 (qa 8 3) = cQ (cy 9) 30 (pR Pp.1.toInt.toNat (qa 7)) := by rw [eF6, va_up_ne _ _ (pl_ne hFs hFb_br rfl)]; exact hFs
          have hFqa84_6 : F6 (qa 8 4) = cQ (cy 8) 5 (pR 5 (qa 4)) := by rw [eF6, va_up_ne _ _ (pl_ne hF4 hFb_br rfl)]; exact hF4
          have hFqa85_6 : F6 (qa 8 5) = cQ (cy 4) 4 (pR 4 (qa 6)) := by rw [eF6, va_up_ne _ _ (pl_ne hF5 hFb_br rfl)]; exact hF5
          have hFqa86_6 : F6 (qa 8 6) = cI (cy 1) 6 Xx.2 := by rw [eF6, va_up_ne _ _ (pl_ne hFf hFb_br rfl)]; exact hFf
          have hFqa6j_br_6 : F6 (qa 6 j_br) = .inr (0, [.int so, .double gr_br]) := by rw [eF6]; exact va_up_self _ _ _
          refine lv_iconst (v := 1) hx hb dX8_brake_66 (by decide) ?_
          exact W.iret (v := 1) hx hb hr (fun t ht hW => ⟨⟨1, F6, rfl, (by have hsp : sp_brake Bk (nI j_br) so (lN n) = (1, upd Bk.1 j_br 2, vf_upd Bk.2 j_br 0) := (by unfold sp_brake; rw [hi_br]; exact (if_pos (by have hc1 := c3; have hc2 := c4; have h0 : (0 : Int32).toInt = 0 := (by decide); have h2 : (2 : Int32).toInt = 2 := (by decide); rw [fa_lt] at hc1; rw [fa_le] at hc2; omega)).trans (if_pos c5)); rw [hsp]; exact ⟨rfl, (by rw [eF6, c5]; exact hR.brake hj_br (Or.inl rfl))⟩), (by show va_P _ _ _ t.heap; rw [ht]; exact hP)⟩, hS.F ht⟩) hS.2.2 dX8_brake_67
        · refine va_gets (C := "RopeDrums$Form") (n := "DOUBLE") (d := "LRopeDrums$Form;") (v := .ref (ad 1)) hx hb (hE.1 1 (by decide)).1 hS hown (hts (.fieldLink RX8 166 "RopeDrums$Form" "DOUBLE" "LRopeDrums$Form;") (by decide +kernel)) (fun _ h9 => h9) dX8_brake_34 ?_
          refine lv_lload_n hx hb dX8_brake_37 rfl (lv_at hl 4 rfl) ?_
          refine vp_callSi (W.runV (As := [.long (lN n)]) (rest := []) ⟨hx, hb, hml, hown, hts⟩ (c_isNumber_1 l ad (lN n) ) (cwV 1 hts gX8_brake_X2_isNumber rfl rfl rfl (by decide +kernel) ⟨Nat.le_of_ble_eq_true rfl, Nat.le_of_ble_eq_true rfl⟩) (preV_of okE (pE.low hE hN hS) (va_recvE hE (by decide) hS)) rfl rfl hl.1 rfl (lv_room (Nat.le_of_ble_eq_true rfl)) dX8_brake_38 ⟨Nat.le_of_ble_eq_true rfl, Nat.le_of_ble_eq_true rfl⟩) (fun r7 hr7 => ?_)
          rw [isNum1 hn] at hr7
          refine lv_if_ne (tgt := 48) hx hb dX8_brake_41 (by decide) (fun c8 => ?_) (fun c8 => ?_)
          · have hgood : n % 2 ^ 63 ≤ 9218868437227405312 := Decidable.byContradiction (fun q => c8 (by rw [hr7, if_neg q]))
            have hv : FP.Core.val64 (UInt64.ofNat n) ≠ .nan := by rw [FP.Core.ne_nan, u_tn hn]; exact hgood
            refine lv_aload hx hb dX8_brake_48 (lv_at hl 0 rfl) ?_
            refine va_gets (C := "RopeDrums$Form") (n := "DOUBLE") (d := "LRopeDrums$Form;") (v := .ref (ad 1)) hx hb (hE.1 1 (by decide)).1 hS hown (hts (.fieldLink RX8 166 "RopeDrums$Form" "DOUBLE" "LRopeDrums$Form;") (by decide +kernel)) (fun _ h9 => h9) dX8_brake_50 ?_
            refine lv_lload_n hx hb dX8_brake_53 rfl (lv_at hl 4 rfl) ?_
            refine vp_callSd (W.runV (As := [.long (lN n)]) (rest := [.ref (qa 6 j_br)]) ⟨hx, hb, hml, hown, hts⟩ (c_numberOf_1 l ad n hn hgood) (cwV 1 hts gX8_brake_X2_numberOf rfl rfl rfl (by decide +kernel) ⟨Nat.le_of_ble_eq_true rfl, Nat.le_of_ble_eq_true rfl⟩) (preV_of okE (pE.low hE hN hS) (va_recvE hE (by decide) hS)) rfl rfl hl.1 rfl (lv_room (Nat.le_of_ble_eq_true rfl)) dX8_brake_54 ⟨Nat.le_of_ble_eq_true rfl, Nat.le_of_ble_eq_true rfl⟩) (fun r9 hr9 => ?_)
            subst hr9
            refine pg_put (ci := 0) (v := .double (UInt64.ofNat n)) (ty := .double) (C := RX0) (T := TX0) (N := 2) hx hb hts hinX0 tyX0 tyX0_ok nmX0 hown hK hP hD hS hmb_br hFb_br rfl 1 (by decide) (hts (.fieldLink RX8 259 "RopeDrums$Brake" "grip" "D") (by decide +kernel)) (fun _ h9 => h9) rfl (by decide +kernel) (rfl) (rfl) (Nat.le_of_ble_eq_true rfl) dX8_brake_57 (fun H locs F10 eF10 hP hS => ?_)
            have eF10 : F10 = va_up F (qa 6 j_br) (.inr (0, [.int (Bk.1 j_br), .double (UInt64.ofNat n)])) := eF10
            have hFo_10 : F10 o = .inr (7, [.ref (qa 8 0), .ref (qa 8 1), .ref (qa 8 2), .ref (qa 8 3), .ref (qa 8 4), .ref (qa 8 5), .ref (qa 8 6), .int Pp.1, .int Xx.1]) := by rw [eF10, va_up_ne _ _ (pl_ne hFo hFb_br rfl)]; exact hFo
            have hFqa80_10 : F10 (qa 8 0) = cQ (cy 7) 10 (pR 10 (qa 0)) := by rw [eF10, va_up_ne _ _ (pl_ne hF0 hFb_br rfl)]; exact hF0
            have hFqa81_10 : F10 (qa 8 1) = cQ (cy 5) 6 (pR 6 (qa 1)) := by rw [eF10, va_up_ne _ _ (pl_ne hF1 hFb_br rfl)]; exact hF1
            have hFqa82_10 : F10 (qa 8 2) = cQ (cy 6) 8 (pR 8 (qa 2)) := by rw [eF10, va_up_ne _ _ (pl_ne hF2 hFb_br rfl)]; exact hF2
            have hFqa83_10 : F10 (qa 8 3) = cQ (cy 9) 30 (pR Pp.1.toInt.toNat (qa 7)) := by rw [eF10, va_up_ne _ _ (pl_ne hFs hFb_br rfl)]; exact hFs
            have hFqa84_10 : F10 (qa 8 4) = cQ (cy 8) 5 (pR 5 (qa 4)) := by rw [eF10, va_up_ne _ _ (pl_ne hF4 hFb_br rfl)]; exact hF4
            have hFqa85_10 : F10 (qa 8 5) = cQ (cy 4) 4 (pR 4 (qa 6)) := by rw [eF10, va_up_ne _ _ (pl_ne hF5 hFb_br rfl)]; exact hF5
            have hFqa86_10 : F10 (qa 8 6) = cI (cy 1) 6 Xx.2 := by rw [eF10, va_up_ne _ _ (pl_ne hFf hFb_br rfl)]; exact hFf
            have hFqa6j_br_10 : F10 (qa 6 j_br) = .inr (0, [.int (Bk.1 j_br), .double (UInt64.ofNat n)]) := by rw [eF10]; exact va_up_self _ _ _
            refine lv_aload hx hb dX8_brake_60 (lv_at hl 0 rfl) ?_
            refine lv_iload_n hx hb dX8_brake_62 rfl (lv_at hl 3 rfl) ?_
            refine pg_put (ci := 0) (v := .int so) (ty := .int) (C := RX0) (T := TX0) (N := 2) hx hb hts hinX0 tyX0 tyX0_ok nmX0 hown hK hP hD hS hmb_br hFqa6j_br_10 rfl 0 (by decide) (hts (.fieldLink RX8 262 "RopeDrums$Brake" "sort" "I") (by decide +kernel)) (fun _ h9 => h9) rfl (by decide +kernel) (rfl) (rfl) (Nat.le_of_ble_eq_true rfl) dX8_brake_63 (fun H locs F11 eF11 hP hS => ?_)
            have eF11 : F11 = va_up F10 (qa 6 j_br) (.inr (0, [.int so, .double (UInt64.ofNat n)])) := eF11
            have hFo_11 : F11 o = .inr (7, [.ref (qa 8 0), .ref (qa 8 1), .ref (qa 8 2), .ref (qa 8 3), .ref (qa 8 4), .ref (qa 8 5), .ref (qa 8 6), .int Pp.1, .int Xx.1]) := by rw [eF11, va_up_ne _ _ (pl_ne hFo_10 hFqa6j_br_10 rfl)]; exact hFo_10
            have hFqa80_11 : F11 (qa 8 0) = cQ (cy 7) 10 (pR 10 (qa 0)) := by rw [eF11, va_up_ne _ _ (pl_ne hFqa80_10 hFqa6j_br_10 rfl)]; exact hFqa80_10
            have hFqa81_11 : F11 (qa 8 1) = cQ (cy 5) 6 (pR 6 (qa 1)) := by rw [eF11, va_up_ne _ _ (pl_ne hFqa81_10 hFqa6j_br_10 rfl)]; exact hFqa81_10
            have hFqa82_11 : F11 (qa 8 2) = cQ (cy 6) 8 (pR 8 (qa 2)) := by rw [eF11, va_up_ne _ _ (pl_ne hFqa82_10 hFqa6j_br_10 rfl)]; exact hFqa82_10
            have hFqa83_11 : F11 (qa 8 3) = cQ (cy 9) 30 (pR Pp.1.toInt.toNat (qa 7)) := by rw [eF11, va_up_ne _ _ (pl_ne hFqa83_10 hFqa6j_br_10 rfl)]; exact hFqa83_10
            have hFqa84_11 : F11 (qa 8 4) = cQ (cy 8) 5 (pR 5 (qa 4)) := by rw [eF11, va_up_ne _ _ (pl_ne hFqa84_10 hFqa6j_br_10 rfl)]; exact hFqa84_10
            have hFqa85_11 : F11 (qa 8 5) = cQ (cy 4) 4 (pR 4 (qa 6)) := by rw [eF11, va_up_ne _ _ (pl_ne hFqa85_10 hFqa6j_br_10 rfl)]; exact hFqa85_10
            have hFqa86_11 : F11 (qa 8 6) = cI (cy 1) 6 Xx.2 := by rw [eF11, va_up_ne _ _ (pl_ne hFqa86_10 hFqa6j_br_10 rfl)]; exact hFqa86_10
            have hFqa6j_br_11 : F11 (qa 6 j_br) = .inr (0, [.int so, .double (UInt64.ofNat n)]) := by rw [eF11]; exact va_up_self _ _ _
            refine lv_iconst (v := 1) hx hb dX8_brake_66 (by decide) ?_
            exact W.iret (v := 1) hx hb hr (fun t ht hW => ⟨⟨1, F11, rfl, (by have hsp : sp_brake Bk (nI j_br) so (lN n) = (1, upd Bk.1 j_br so, vf_upd Bk.2 j_br (UInt64.ofNat n)) := (by unfold sp_brake; rw [hi_br]; exact (if_pos (by have hc1 := c3; have hc2 := c4; have h0 : (0 : Int32).toInt = 0 := (by decide); have h2 : (2 : Int32).toInt = 2 := (by decide); rw [fa_lt] at hc1; rw [fa_le] at hc2; omega)).trans ((if_neg c5).trans ((if_pos (numB3' hn hgood)).trans (by rw [(show db (lN n) = UInt64.ofNat n by unfold db; rw [lN_u])])))); rw [hsp]; exact ⟨rfl, (by rw [eF11, eF10, upup]; exact hR.brake hj_br (Or.inr ⟨(by have hc1 := c3; have hc2 := c4; have hc3 := c5; have h0 : (0 : Int32).toInt = 0 := (by decide); have h2 : (2 : Int32).toInt = 2 := (by decide); rw [fa_lt] at hc1; rw [fa_le] at hc2; rw [fa_eq] at hc3; have h1 : (1 : Int32).toInt = 1 := (by decide); rw [fa_eq, fa_eq]; omega), rfl, hv⟩))⟩), (by show va_P _ _ _ t.heap; rw [ht]; exact hP)⟩, hS.F ht⟩) hS.2.2 dX8_brake_67
          · have hbad : ¬ n % 2 ^ 63 ≤ 9218868437227405312 := fun q => by have hc := c8; rw [hr7, if_pos q] at hc; exact absurd hc (by decide)
            refine lv_sipush (v := -1002) hx hb dX8_brake_44 (by decide) ?_
            exact W.iret (v := -1002) hx hb hr (fun t ht hW => ⟨⟨-1002, F, rfl, (by have hsp : sp_brake Bk (nI j_br) so (lN n) = (-1002, Bk) := (by unfold sp_brake; rw [hi_br]; exact (if_pos (by have hc1 := c3; have hc2 := c4; have h0 : (0 : Int32).toInt = 0 := (by decide); have h2 : (2 : Int32).toInt = 2 := (by decide); rw [fa_lt] at hc1; rw [fa_le] at hc2; omega)).trans ((if_neg c5).trans (if_neg (numB3 hn hbad)))); rw [hsp]; exact ⟨rfl, hR⟩), (by show va_P _ _ _ t.heap; rw [ht]; exact hP)⟩, hS.F ht⟩) hS.2.2 dX8_brake_47
      · refine lv_sipush (v := -1002) hx hb dX8_brake_25 (by decide) ?_
        exact W.iret (v := -1002) hx hb hr (fun t ht hW => ⟨⟨-1002, F, rfl, (by have hsp : sp_brake Bk (nI j_br) so (lN n) = (-1002, Bk) := (by unfold sp_brake; rw [hi_br]; exact if_neg (by intro hq; have hc := c4; have h0 : (0 : Int32).toInt = 0 := (by decide); have h2 : (2 : Int32).toInt = 2 := (by decide); rw [fa_le] at hc; omega)); rw [hsp]; exact ⟨rfl, hR⟩), (by show va_P _ _ _ t.heap; rw [ht]; exact hP)⟩, hS.F ht⟩) hS.2.2 dX8_brake_28

set_option maxHeartbeats 8000000 in
set_option maxRecDepth 100000 in
theorem m_slow (l : Launch) (G : va_G) (cy : Nat → ClassId) (L : List Nat) (F : Nat → va_E) (ad : Nat → Nat) (sz : Nat) (o : Nat) (qa : Nat → Nat → Nat) (Mm : SM) (Dd : SD) (Sl : SL) (Pp : SP) (Kr : SR) (Bk : SB) (Xx : SX) (hR : Rep cy L o qa Mm Dd Sl Pp Kr Bk Xx F) (br me : Int32)  : Met l yX8_slow wsX8_slow ({ frames := 4, cells := 0, slots := 0, locals := 109 }) (va_Pc [.ref o, .int br, .int me] (fun U => bQE G cy L F ad sz U U.heap)) (va_Qi (fun (r : Int32) (F' : Nat → va_E) => r = (sp_slow Mm Bk Xx br me).1 ∧ Rep cy L o qa (sp_slow Mm Bk Xx br me).2.1 Dd Sl Pp Kr Bk (sp_slow Mm Bk Xx br me).2.2 F') (fun F' t => va_P G vwCl (va_pl L F') t.heap) (va_A (va_pl L F) sz)) 0 0 (va_A (va_pl L F) sz) := by
  refine Met.ofW (cc := cX8_slow) (maxL := 9) (ret := (some .int)) (by decide) rfl ?_
  intro p e s m args below meth c s₁ B hml hv
  obtain ⟨rfl, ⟨hsz, hP, hK, hD0⟩, hE, hN⟩ := hv
  have hx := B.exec
  have hb := B.bytes
  have hr := B.returns
  have hts := atoms_spec (ws := wsX8_slow) B.pre
  have hown : s.vm.findClass RX8 = some m.cls := findClass_of_methodNamed B.named
  have hlocks := B.notSynchronized
  have hinX8 : ∀ w ∈ wsX80, w ∈ wsX8_slow := by decide +kernel
  have hinX0 : ∀ w ∈ wsX00, w ∈ wsX8_slow := by decide +kernel
  have hinX4 : ∀ w ∈ wsX40, w ∈ wsX8_slow := by decide +kernel
  subst hsz
  have hD := hD0.self F s.heap.size
  generalize hAe : va_A (va_pl L F) s.heap.size = A at hD hE ⊢
  have hA : ∀ q : Nat, s.heap.size ≤ q → A q := fun q h => by rw [← hAe]; exact Or.inr h
  have hS : va_S A s.heap s.heap [] := va_S.rf
  obtain ⟨⟨⟨hmo, hFo⟩, ⟨hmf, hFf⟩, hms, hFs⟩, ⟨⟨hm0, hF0⟩, ⟨hm1, hF1⟩, ⟨hm2, hF2⟩, ⟨hm4, hF4⟩, hm5, hF5⟩, hRM, hRD, hRG, hRP, hRR, hRB, hRI⟩ := id hR
  have hl := lv_entry ([.ref o, .int br, .int me]) (n := 9) (Nat.le_of_ble_eq_true rfl)
  rw [lg_entry_eq]
  generalize (lg_sl ([.ref o, .int br, .int me]) ++ List.replicate (9 - (lg_sl ([.ref o, .int br, .int me])).length) Slot.unset).toArray = ls at hl ⊢
  have hl : lv_has ls 9 [(0, .ref o), (1, .int br), (2, .int me)] := hl
  rcases ixc 4 br with hi_br | ⟨j_br, hj_br, hi_br, ei_br⟩
  · rcases ixc 10 me with hi_me | ⟨j_me, hj_me, hi_me, ei_me⟩
    · refine lv_aload_n hx hb dX8_slow_0 rfl (lv_at hl 0 rfl) ?_
      refine lv_iload_n hx hb dX8_slow_1 rfl (lv_at hl 1 rfl) ?_
      refine va_csq (W.runV (As := [.int br]) (rest := []) ⟨hx, hb, hml, hown, hts⟩ (c_brakeOf_no l G cy L F o qa Mm Dd Sl Pp Kr Bk Xx hR br hi_br) (cwV 1 hts gX8_slow_X8_brakeOf rfl rfl rfl (by decide +kernel) ⟨Nat.le_of_ble_eq_true rfl, Nat.le_of_ble_eq_true rfl⟩) (preV_of okP (⟨hP, hK, hD.top⟩) (pl_recv hK hP (ci := 7) rfl hmo hFo)) rfl rfl hl.1 rfl (lv_room (Nat.le_of_ble_eq_true rfl)) dX8_slow_2 ⟨Nat.le_of_ble_eq_true rfl, Nat.le_of_ble_eq_true rfl⟩) (fun r1 hr1 => ?_)
      subst hr1
      refine W.eq (g2 := F0 m 5 ls [.null]) rfl ?_
      refine lv_astore_nN (lv' := [(3, .null), (0, .ref o), (1, .int br), (2, .int me)]) hx hb dX8_slow_5 rfl hl (by decide) rfl (fun ls hl => ?_)
      refine lv_aload_n hx hb dX8_slow_6 rfl (lv_at hl 1 rfl) ?_
      refine lv_iload_n hx hb dX8_slow_7 rfl (lv_at hl 3 rfl) ?_
      refine va_csq (W.runV (As := [.int me]) (rest := []) ⟨hx, hb, hml, hown, hts⟩ (c_meterOf_no l G cy L F o qa Mm Dd Sl Pp Kr Bk Xx hR me hi_me) (cwV 1 hts gX8_slow_X8_meterOf rfl rfl rfl (by decide +kernel) ⟨Nat.le_of_ble_eq_true rfl, Nat.le_of_ble_eq_true rfl⟩) (preV_of okP (⟨hP, hK, hD.top⟩) (pl_recv hK hP (ci := 7) rfl hmo hFo)) rfl rfl hl.1 rfl (lv_room (Nat.le_of_ble_eq_true rfl)) dX8_slow_8 ⟨Nat.le_of_ble_eq_true rfl, Nat.le_of_ble_eq_true rfl⟩) (fun r2 hr2 => ?_)
      subst hr2
      refine W.eq (g2 := F0 m 11 ls [.null]) rfl ?_
      refine lv_astoreN (lv' := [(4, .null), (3, .null), (0, .ref o), (1, .int br), (2, .int me)]) hx hb dX8_slow_11 hl (by decide) rfl (fun ls hl => ?_)
      refine lv_aload_nN hx hb dX8_slow_13 rfl (lv_at hl 1 rfl) ?_
      refine lv_ifnullN (tgt := 22) hx hb dX8_slow_14 (by decide) ?_
      refine lv_sipush (v := -1001) hx hb dX8_slow_22 (by decide) ?_
      exact W.iret (v := -1001) hx hb hr (fun t ht hW => ⟨⟨-1001, F, rfl, (by have hsp : sp_slow Mm Bk Xx br me = (-1001, Mm, Xx) := (by unfold sp_slow; rw [hi_br]); rw [hsp]; exact ⟨rfl, hR⟩), (by show va_P _ _ _ t.heap; rw [ht]; exact hP)⟩, hS.F ht⟩) hS.2.2 dX8_slow_25
    · subst ei_me
      obtain ⟨hmm_me, nm_me, rl_me, hFm_me, hok_me⟩ := hRM j_me hj_me
      refine lv_aload_n hx hb dX8_slow_0 rfl (lv_at hl 0 rfl) ?_
      refine lv_iload_n hx hb dX8_slow_1 rfl (lv_at hl 1 rfl) ?_
      refine va_csq (W.runV (As := [.int br]) (rest := []) ⟨hx, hb, hml, hown, hts⟩ (c_brakeOf_no l G cy L F o qa Mm Dd Sl Pp Kr Bk Xx hR br hi_br) (cwV 1 hts gX8_slow_X8_brakeOf rfl rfl rfl (by decide +kernel) ⟨Nat.le_of_ble_eq_true rfl, Nat.le_of_ble_eq_true rfl⟩) (preV_of okP (⟨hP, hK, hD.top⟩) (pl_recv hK hP (ci := 7) rfl hmo hFo)) rfl rfl hl.1 rfl (lv_room (Nat.le_of_ble_eq_true rfl)) dX8_slow_2 ⟨Nat.le_of_ble_eq_true rfl, Nat.le_of_ble_eq_true rfl⟩) (fun r3 hr3 => ?_)
      subst hr3
      refine W.eq (g2 := F0 m 5 ls [.null]) rfl ?_
      refine lv_astore_nN (lv' := [(3, .null), (0, .ref o), (1, .int br), (2, .int (nI j_me))]) hx hb dX8_slow_5 rfl hl (by decide) rfl (fun ls hl => ?_)
      refine lv_aload_n hx hb dX8_slow_6 rfl (lv_at hl 1 rfl) ?_
      refine lv_iload_n hx hb dX8_slow_7 rfl (lv_at hl 3 rfl) ?_
      refine va_csq (W.runV (As := [.int (nI j_me)]) (rest := []) ⟨hx, hb, hml, hown, hts⟩ (c_meterOf l G cy L F o qa Mm Dd Sl Pp Kr Bk Xx hR j_me hj_me) (cwV 1 hts gX8_slow_X8_meterOf rfl rfl rfl (by decide +kernel) ⟨Nat.le_of_ble_eq_true rfl, Nat.le_of_ble_eq_true rfl⟩) (preV_of okP (⟨hP, hK, hD.top⟩) (pl_recv hK hP (ci := 7) rfl hmo hFo)) rfl rfl hl.1 rfl (lv_room (Nat.le_of_ble_eq_true rfl)) dX8_slow_8 ⟨Nat.le_of_ble_eq_true rfl, Nat.le_of_ble_eq_true rfl⟩) (fun r4 hr4 => ?_)
      subst hr4
      refine W.eq (g2 := F0 m 11 ls [.ref (qa 0 j_me)]) rfl ?_
      refine lv_astore (lv' := [(4, .ref (qa 0 j_me)), (3, .null), (0, .ref o), (1, .int br), (2, .int (nI j_me))]) hx hb dX8_slow_11 hl (by decide) rfl (fun ls hl => ?_)
      refine lv_aload_nN hx hb dX8_slow_13 rfl (lv_at hl 1 rfl) ?_
      refine lv_ifnullN (tgt := 22) hx hb dX8_slow_14 (by decide) ?_
      refine lv_sipush (v := -1001) hx hb dX8_slow_22 (by decide) ?_
      exact W.iret (v := -1001) hx hb hr (fun t ht hW => ⟨⟨-1001, F, rfl, (by have hsp : sp_slow Mm Bk Xx br (nI j_me) = (-1001, Mm, Xx) := (by unfold sp_slow; rw [hi_br]); rw [hsp]; exact ⟨rfl, hR⟩), (by show va_P _ _ _ t.heap; rw [ht]; exact hP)⟩, hS.F ht⟩) hS.2.2 dX8_slow_25
  · subst ei_br
    obtain ⟨hmb_br, gr_br, hFb_br, hokb_br⟩ := hRB j_br hj_br
    rcases ixc 10 me with hi_me | ⟨j_me, hj_me, hi_me, ei_me⟩
    · refine lv_aload_n hx hb dX8_slow_0 rfl (lv_at hl 0 rfl) ?_
      refine lv_iload_n hx hb dX8_slow_1 rfl (lv_at hl 1 rfl) ?_
      refine va_csq (W.runV (As := [.int (nI j_br)]) (rest := []) ⟨hx, hb, hml, hown, hts⟩ (c_brakeOf l G cy L F o qa Mm Dd Sl Pp Kr Bk Xx hR j_br hj_br) (cwV 1 hts gX8_slow_X8_brakeOf rfl rfl rfl (by decide +kernel) ⟨Nat.le_of_ble_eq_true rfl, Nat.le_of_ble_eq_true rfl⟩) (preV_of okP (⟨hP, hK, hD.top⟩) (pl_recv hK hP (ci := 7) rfl hmo hFo)) rfl rfl hl.1 rfl (lv_room (Nat.le_of_ble_eq_true rfl)) dX8_slow_2 ⟨Nat.le_of_ble_eq_true rfl, Nat.le_of_ble_eq_true rfl⟩) (fun r5 hr5 => ?_)
      subst hr5
      refine W.eq (g2 := F0 m 5 ls [.ref (qa 6 j_br)]) rfl ?_
      refine lv_astore_n (lv' := [(3, .ref (qa 6 j_br)), (0, .ref o), (1, .int (nI j_br)), (2, .int me)]) hx hb dX8_slow_5 rfl hl (by decide) rfl (fun ls hl => ?_)
      refine lv_aload_n hx hb dX8_slow_6 rfl (lv_at hl 1 rfl) ?_
      refine lv_iload_n hx hb dX8_slow_7 rfl (lv_at hl 3 rfl) ?_
      refine va_csq (W.runV (As := [.int me]) (rest := []) ⟨hx, hb, hml, hown, hts⟩ (c_meterOf_no l G cy L F o qa Mm Dd Sl Pp Kr Bk Xx hR me hi_me) (cwV 1 hts gX8_slow_X8_meterOf rfl rfl rfl (by decide +kernel) ⟨Nat.le_of_ble_eq_true rfl, Nat.le_of_ble_eq_true rfl⟩) (preV_of okP (⟨hP, hK, hD.top⟩) (pl_recv hK hP (ci := 7) rfl hmo hFo)) rfl rfl hl.1 rfl (lv_room (Nat.le_of_ble_eq_true rfl)) dX8_slow_8 ⟨Nat.le_of_ble_eq_true rfl, Nat.le_of_ble_eq_true rfl⟩) (fun r6 hr6 => ?_)
      subst hr6
      refine W.eq (g2 := F0 m 11 ls [.null]) rfl ?_
      refine lv_astoreN (lv' := [(4, .null), (3, .ref (qa 6 j_br)), (0, .ref o), (1, .int (nI j_br)), (2, .int me)]) hx hb dX8_slow_11 hl (by decide) rfl (fun ls hl => ?_)
      refine lv_aload_n hx hb dX8_slow_13 rfl (lv_at hl 1 rfl) ?_
      refine lv_ifnull hx hb dX8_slow_14 ?_
      refine lv_aloadN hx hb dX8_slow_17 (lv_at hl 0 rfl) ?_
      refine lv_ifnonnullN hx hb dX8_slow_19 ?_
      refine lv_sipush (v := -1001) hx hb dX8_slow_22 (by decide) ?_
      exact W.iret (v := -1001) hx hb hr (fun t ht hW => ⟨⟨-1001, F, rfl, (by have hsp : sp_slow Mm Bk Xx (nI j_br) me = (-1001, Mm, Xx) := (by unfold sp_slow; rw [hi_br, hi_me]); rw [hsp]; exact ⟨rfl, hR⟩), (by show va_P _ _ _ t.heap; rw [ht]; exact hP)⟩, hS.F ht⟩) hS.2.2 dX8_slow_25
    · subst ei_me
      obtain ⟨hmm_me, nm_me, rl_me, hFm_me, hok_me⟩ := hRM j_me hj_me
      refine lv_aload_n hx hb dX8_slow_0 rfl (lv_at hl 0 rfl) ?_
      refine lv_iload_n hx hb dX8_slow_1 rfl (lv_at hl 1 rfl) ?_
      refine va_csq (W.runV (As := [.int (nI j_br)]) (rest := []) ⟨hx, hb, hml, hown, hts⟩ (c_brakeOf l G cy L F o qa Mm Dd Sl Pp Kr Bk Xx hR j_br hj_br) (cwV 1 hts gX8_slow_X8_brakeOf rfl rfl rfl (by decide +kernel) ⟨Nat.le_of_ble_eq_true rfl, Nat.le_of_ble_eq_true rfl⟩) (preV_of okP (⟨hP, hK, hD.top⟩) (pl_recv hK hP (ci := 7) rfl hmo hFo)) rfl rfl hl.1 rfl (lv_room (Nat.le_of_ble_eq_true rfl)) dX8_slow_2 ⟨Nat.le_of_ble_eq_true rfl, Nat.le_of_ble_eq_true rfl⟩) (fun r7 hr7 => ?_)
      subst hr7
      refine W.eq (g2 := F0 m 5 ls [.ref (qa 6 j_br)]) rfl ?_
      refine lv_astore_n (lv' := [(3, .ref (qa 6 j_br)), (0, .ref o), (1, .int (nI j_br)), (2, .int (nI j_me))]) hx hb dX8_slow_5 rfl hl (by decide) rfl (fun ls hl => ?_)
      refine lv_aload_n hx hb dX8_slow_6 rfl (lv_at hl 1 rfl) ?_
      refine lv_iload_n hx hb dX8_slow_7 rfl (lv_at hl 3 rfl) ?_
      refine va_csq (W.runV (As := [.int (nI j_me)]) (rest := []) ⟨hx, hb, hml, hown, hts⟩ (c_meterOf l G cy L F o qa Mm Dd Sl Pp Kr Bk Xx hR j_me hj_me) (cwV 1 hts gX8_slow_X8_meterOf rfl rfl rfl (by decide +kernel) ⟨Nat.le_of_ble_eq_true rfl, Nat.le_of_ble_eq_true rfl⟩) (preV_of okP (⟨hP, hK, hD.top⟩) (pl_recv hK hP (ci := 7) rfl hmo hFo)) rfl rfl hl.1 rfl (lv_room (Nat.le_of_ble_eq_true rfl)) dX8_slow_8 ⟨Nat.le_of_ble_eq_true rfl, Nat.le_of_ble_eq_true rfl⟩) (fun r8 hr8 => ?_)
      subst hr8
      refine W.eq (g2 := F0 m 11 ls [.ref (qa 0 j_me)]) rfl ?_
      refine lv_astore (lv' := [(4, .ref (qa 0 j_me)), (3, .ref (qa 6 j_br)), (0, .ref o), (1, .int (nI j_br)), (2, .int (nI j_me))]) hx hb dX8_slow_11 hl (by decide) rfl (fun ls hl => ?_)
      refine lv_aload_n hx hb dX8_slow_13 rfl (lv_at hl 1 rfl) ?_
      refine lv_ifnull hx hb dX8_slow_14 ?_
      refine lv_aload hx hb dX8_slow_17 (lv_at hl 0 rfl) ?_
      refine lv_ifnonnull (tgt := 26) hx hb dX8_slow_19 (by decide) ?_
      refine lv_aload_n hx hb dX8_slow_26 rfl (lv_at hl 1 rfl) ?_
      refine pg_get (ci := 0) (C := RX0) (T := TX0) (N := 2) hx hb hts hinX0 hown hK hP hmb_br hFb_br rfl 0 (by decide) (hts (.fieldLink RX8 262 "RopeDrums$Brake" "sort" "I") (by decide +kernel)) (fun _ h9 => h9) rfl dX8_slow_27 ?_
      refine lv_iconst (v := 2) hx hb dX8_slow_30 (by decide) ?_
      refine lv_icmp_ne (tgt := 40) hx hb dX8_slow_31 (by decide) (fun c9 => ?_) (fun c9 => ?_)
      · obtain ⟨h01, hgr, hgn⟩ := hokb_br.resolve_left c9
        subst hgr
        refine lv_aload hx hb dX8_slow_40 (lv_at hl 0 rfl) ?_
        refine vp_callSd (W.runV (As := []) (rest := []) ⟨hx, hb, hml, hown, hts⟩ (c_asDouble l G cy L F (qa 0 j_me) (Mm.1 j_me) nm_me rl_me hmm_me hFm_me ) (cwV 0 hts gX8_slow_X4_asDouble rfl rfl rfl (by decide +kernel) ⟨Nat.le_of_ble_eq_true rfl, Nat.le_of_ble_eq_true rfl⟩) (preV_of okP (⟨hP, hK, hD.top⟩) (pl_recv hK hP (ci := 4) rfl hmm_me hFm_me)) rfl rfl hl.1 rfl (lv_room (Nat.le_of_ble_eq_true rfl)) dX8_slow_42 ⟨Nat.le_of_ble_eq_true rfl, Nat.le_of_ble_eq_true rfl⟩) (fun r10 hr10 => ?_)
        rw [(real_3 hok_me).2.2] at hr10
        refine lv_dstore (lv' := [(5, .double r10), (4, .ref (qa 0 j_me)), (3, .ref (qa 6 j_br)), (0, .ref o), (1, .int (nI j_br)), (2, .int (nI j_me))]) hx hb dX8_slow_45 hl (by decide) rfl (fun ls hl => ?_)
        refine lv_aload_n hx hb dX8_slow_47 rfl (lv_at hl 2 rfl) ?_
        refine pg_get (ci := 0) (C := RX0) (T := TX0) (N := 2) hx hb hts hinX0 hown hK hP hmb_br hFb_br rfl 0 (by decide) (hts (.fieldLink RX8 262 "RopeDrums$Brake" "sort" "I") (by decide +kernel)) (fun _ h9 => h9) rfl dX8_slow_48 ?_
        refine lv_iconst (v := 1) hx hb dX8_slow_51 (by decide) ?_
        refine lv_icmp_ne (tgt := 59) hx hb dX8_slow_52 (by decide) (fun c11 => ?_) (fun c11 => ?_)
        · refine lv_iconst (v := 4) hx hb dX8_slow_59 (by decide) ?_
          refine lv_dload hx hb dX8_slow_60 (lv_at hl 0 rfl) ?_
          refine lv_aload_n hx hb dX8_slow_62 rfl (lv_at hl 2 rfl) ?_
          refine pg_get (ci := 0) (C := RX0) (T := TX0) (N := 2) hx hb hts hinX0 hown hK hP hmb_br hFb_br rfl 1 (by decide) (hts (.fieldLink RX8 259 "RopeDrums$Brake" "grip" "D") (by decide +kernel)) (fun _ h9 => h9) rfl dX8_slow_63 ?_
          refine vp_callSi (W.runS (As := [.int 4, .double r10, .double (Bk.2 j_br)]) (rest := []) ⟨hx, hb, hml, hown, hts⟩ (c_isVoid_4 l r10 (Bk.2 j_br)) (va_cwS 3 hts gX8_slow_X8_isVoid rfl rfl rfl (by decide +kernel) ⟨Nat.le_of_ble_eq_true rfl, Nat.le_of_ble_eq_true rfl⟩) (preS_of okT (trivial)) rfl rfl hl.1 rfl (lv_room (Nat.le_of_ble_eq_true rfl)) dX8_slow_66 ⟨Nat.le_of_ble_eq_true rfl, Nat.le_of_ble_eq_true rfl⟩) (fun r12 hr12 => ?_)
          rw [hr10, void4 (real_3 hok_me).2.1 hgn] at hr12
          refine lv_if_eq (tgt := 78) hx hb dX8_slow_69 (by decide) (fun c13 => ?_) (fun c13 => ?_)
          · have hnan : FP.Core.dIsNaN (FP.drem (db (tn (Mm.1 j_me) (Mm.2 j_me) 3)) (Bk.2 j_br)) = false := by have hc := c13; rw [hr12] at hc; exact Bool.eq_false_iff.mpr (fun q => absurd ((if_pos (t := (1 : Int32)) (e := 0) q).symm.trans hc) (by decide))
            refine lv_aload_n hx hb dX8_slow_78 rfl (lv_at hl 2 rfl) ?_
            refine pg_get (ci := 0) (C := RX0) (T := TX0) (N := 2) hx hb hts hinX0 hown hK hP hmb_br hFb_br rfl 0 (by decide) (hts (.fieldLink RX8 262 "RopeDrums$Brake" "sort" "I") (by decide +kernel)) (fun _ h9 => h9) rfl dX8_slow_79 ?_
            refine lv_iconst (v := 1) hx hb dX8_slow_82 (by decide) ?_
            refine lv_icmp_ne (tgt := 98) hx hb dX8_slow_83 (by decide) (fun c14 => ?_) (fun c14 => absurd c14 (c11))
            refine lv_dload hx hb dX8_slow_98 (lv_at hl 0 rfl) ?_
            refine lv_aload_n hx hb dX8_slow_100 rfl (lv_at hl 2 rfl) ?_
            refine pg_get (ci := 0) (C := RX0) (T := TX0) (N := 2) hx hb hts hinX0 hown hK hP hmb_br hFb_br rfl 1 (by decide) (hts (.fieldLink RX8 259 "RopeDrums$Brake" "grip" "D") (by decide +kernel)) (fun _ h9 => h9) rfl dX8_slow_101 ?_
            refine vp_callSd (W.runS (As := [.double r10, .double (Bk.2 j_br)]) (rest := []) ⟨hx, hb, hml, hown, hts⟩ (c_leftOf l ad r10 (Bk.2 j_br) (by rw [hr10]; exact (rem_fin (real_3 hok_me).2.1 hgn hnan).1) hgn (rem_fin (real_3 hok_me).2.1 hgn hnan).2) (va_cwS 2 hts gX8_slow_X8_leftOf rfl rfl rfl (by decide +kernel) ⟨Nat.le_of_ble_eq_true rfl, Nat.le_of_ble_eq_true rfl⟩) (preS_of okE (pE.low hE hN hS)) rfl rfl hl.1 rfl (lv_room (Nat.le_of_ble_eq_true rfl)) dX8_slow_104 ⟨Nat.le_of_ble_eq_true rfl, Nat.le_of_ble_eq_true rfl⟩) (fun r15 hr15 => ?_)
            refine lv_dstore (lv' := [(7, .double r15), (5, .double r10), (4, .ref (qa 0 j_me)), (3, .ref (qa 6 j_br)), (0, .ref o), (1, .int (nI j_br)), (2, .int (nI j_me))]) hx hb dX8_slow_107 hl (by decide) rfl (fun ls hl => ?_)
            refine lv_aload hx hb dX8_slow_109 (lv_at hl 2 rfl) ?_
            refine lv_iconst (v := 3) hx hb dX8_slow_111 (by decide) ?_
            refine lv_dload hx hb dX8_slow_112 (lv_at hl 0 rfl) ?_
            refine va_callv (va_runV (As := [.int 3, .double r15]) (rest := []) ⟨hx, hb, hml, hown, hts⟩ (c_holdReal l G cy L F s.heap.size (qa 0 j_me) (Mm.1 j_me) nm_me rl_me hmm_me hFm_me 3 r15) (cwV 2 hts gX8_slow_X4_holdReal rfl rfl rfl (by decide +kernel) ⟨Nat.le_of_ble_eq_true rfl, Nat.le_of_ble_eq_true rfl⟩) (preV_of okQ (⟨rfl, hP, hK, hD.top⟩) (pl_recv hK hP (ci := 4) rfl hmm_me hFm_me)) rfl rfl hl.1 rfl (lv_room (Nat.le_of_ble_eq_true rfl)) dX8_slow_114 ⟨Nat.le_of_ble_eq_true rfl, Nat.le_of_ble_eq_true rfl⟩) hS (fun q _ h => pl_free hD hS hA q h) (pl_free hD hS hA) (fun F16 t H1 locs ht hvm hw hP1 hz1 hk1 hS => ?_)
            have hP1 : va_P G vwCl (va_pl L F16) t.heap := hP1
            rw [ht] at hP1
            have hP := hP1
            generalize H1 = H at hP hS ⊢
            have eF16 : F16 = va_up F (qa 0 j_me) (.inr (4, [.int 3, .long nm_me, .double r15])) := hw
            have hFo_16 : F16 o = .inr (7, [.ref (qa 8 0), .ref (qa 8 1), .ref (qa 8 2), .ref (qa 8 3), .ref (qa 8 4), .ref (qa 8 5), .ref (qa 8 6), .int Pp.1, .int Xx.1]) := by rw [eF16, va_up_ne _ _ (pl_ne hFo hFm_me rfl)]; exact hFo
            have hFqa80_16 : F16 (qa 8 0) = cQ (cy 7) 10 (pR 10 (qa 0)) := by rw [eF16, va_up_ne _ _ (pl_ne hF0 hFm_me rfl)]; exact hF0
            have hFqa81_16 : F16 (qa 8 1) = cQ (cy 5) 6 (pR 6 (qa 1)) := by rw [eF16, va_up_ne _ _ (pl_ne hF1 hFm_me rfl)]; exact hF1
            have hFqa82_16 : F16 (qa 8 2) = cQ (cy 6) 8 (pR 8 (qa 2)) := by rw [eF16, va_up_ne _ _ (pl_ne hF2 hFm_me rfl)]; exact hF2
            have hFqa83_16 : F16 (qa 8 3) = cQ (cy 9) 30 (pR Pp.1.toInt.toNat (qa 7)) := by rw [eF16, va_up_ne _ _ (pl_ne hFs hFm_me rfl)]; exact hFs
            have hFqa84_16 : F16 (qa 8 4) = cQ (cy 8) 5 (pR 5 (qa 4)) := by rw [eF16, va_up_ne _ _ (pl_ne hF4 hFm_me rfl)]; exact hF4
            have hFqa85_16 : F16 (qa 8 5) = cQ (cy 4) 4 (pR 4 (qa 6)) := by rw [eF16, va_up_ne _ _ (pl_ne hF5 hFm_me rfl)]; exact hF5
            have hFqa86_16 : F16 (qa 8 6) = cI (cy 1) 6 Xx.2 := by rw [eF16, va_up_ne _ _ (pl_ne hFf hFm_me rfl)]; exact hFf
            have hFqa6j_br_16 : F16 (qa 6 j_br) = .inr (0, [.int (Bk.1 j_br), .double (Bk.2 j_br)]) := by rw [eF16, va_up_ne _ _ (pl_ne hFb_br hFm_me rfl)]; exact hFb_br
            have hFqa0j_me_16 : F16 (qa 0 j_me) = .inr (4, [.int 3, .long nm_me, .double r15]) := by rw [eF16]; exact va_up_self _ _ _
            have hR17 : Rep cy L o qa (setM Mm j_me 3 (FP.drem (db (tn (Mm.1 j_me) (Mm.2 j_me) 3)) (Bk.2 j_br)).toInt64) Dd Sl Pp Kr Bk Xx F16 := by rw [eF16, hr15, hr10]; exact hR.meter hj_me (real_okM3 ((FP.Core.notNaN_iff _).mp hnan))
            refine lv_aload_n hx hb dX8_slow_117 rfl (lv_at hl 4 rfl) ?_
            refine lv_iconst (v := 1) hx hb dX8_slow_118 (by decide) ?_
            refine va_calli (va_runV (As := [.int 1]) (rest := []) ⟨hx, hb, hml, hown, hts⟩ (c_succeed l G cy L F16 H.size o qa (setM Mm j_me 3 (FP.drem (db (tn (Mm.1 j_me) (Mm.2 j_me) 3)) (Bk.2 j_br)).toInt64) Dd Sl Pp Kr Bk Xx hR17 1) (cwV 1 hts gX8_slow_X8_succeed rfl rfl rfl (by decide +kernel) ⟨Nat.le_of_ble_eq_true rfl, Nat.le_of_ble_eq_true rfl⟩) (preV_of okQ (⟨rfl, hP, hK, hD.top⟩) (pl_recv hK hP (ci := 7) rfl hmo hFo_16)) rfl rfl hl.1 rfl (lv_room (Nat.le_of_ble_eq_true rfl)) dX8_slow_119 ⟨Nat.le_of_ble_eq_true rfl, Nat.le_of_ble_eq_true rfl⟩) hS (fun q _ h => pl_free hD hS hA q h) (pl_free hD hS hA) (fun r19 F18 t H1 locs ht hvm hw hP1 hz1 hk1 hS => ?_)
            have hP1 : va_P G vwCl (va_pl L F18) t.heap := hP1
            rw [ht] at hP1
            have hP := hP1
            generalize H1 = H at hP hS ⊢
            obtain ⟨hqr19, hR20⟩ := hw
            exact W.iret (v := r19) hx hb hr (fun t ht hW => ⟨⟨r19, F18, rfl, (by have hsp : sp_slow Mm Bk Xx (nI j_br) (nI j_me) = (1, setM Mm j_me 3 (FP.drem (db (tn (Mm.1 j_me) (Mm.2 j_me) 3)) (Bk.2 j_br)).toInt64, goodX Xx) := (by unfold sp_slow; rw [hi_br, hi_me]; show slw _ _ _ _ _ _ = _; unfold slw; exact (if_neg c9).trans ((if_pos (h01.resolve_right c11)).trans (if_neg (by rw [hnan]; decide)))); rw [hsp]; exact ⟨hqr19, hR20⟩), (by show va_P _ _ _ t.heap; rw [ht]; exact hP)⟩, hS.F ht⟩) hS.2.2 dX8_slow_122
          · have hnan : FP.Core.dIsNaN (FP.drem (db (tn (Mm.1 j_me) (Mm.2 j_me) 3)) (Bk.2 j_br)) = true := Decidable.byContradiction (fun q => c13 (by rw [hr12]; exact if_neg q))
            refine lv_aload_n hx hb dX8_slow_72 rfl (lv_at hl 3 rfl) ?_
            refine lv_iconst (v := 5) hx hb dX8_slow_73 (by decide) ?_
            refine va_calli (va_runV (As := [.int 5]) (rest := []) ⟨hx, hb, hml, hown, hts⟩ (c_fail_5 l G cy L F s.heap.size o qa Mm Dd Sl Pp Kr Bk Xx hR) (cwV 1 hts gX8_slow_X8_fail rfl rfl rfl (by decide +kernel) ⟨Nat.le_of_ble_eq_true rfl, Nat.le_of_ble_eq_true rfl⟩) (preV_of okQ (⟨rfl, hP, hK, hD.top⟩) (pl_recv hK hP (ci := 7) rfl hmo hFo)) rfl rfl hl.1 rfl (lv_room (Nat.le_of_ble_eq_true rfl)) dX8_slow_74 ⟨Nat.le_of_ble_eq_true rfl, Nat.le_of_ble_eq_true rfl⟩) hS (fun q _ h => pl_free hD hS hA q h) (pl_free hD hS hA) (fun r22 F21 t H1 locs ht hvm hw hP1 hz1 hk1 hS => ?_)
            have hP1 : va_P G vwCl (va_pl L F21) t.heap := hP1
            rw [ht] at hP1
            have hP := hP1
            generalize H1 = H at hP hS ⊢
            obtain ⟨hqr22, hR23⟩ := hw
            exact W.iret (v := r22) hx hb hr (fun t ht hW => ⟨⟨r22, F21, rfl, (by have hsp : sp_slow Mm Bk Xx (nI j_br) (nI j_me) = (-15, Mm, failX Xx 5) := (by unfold sp_slow; rw [hi_br, hi_me]; show slw _ _ _ _ _ _ = _; unfold slw; exact (if_neg c9).trans ((if_pos (h01.resolve_right c11)).trans (if_pos hnan))); rw [hsp]; exact ⟨hqr22, hR23⟩), (by show va_P _ _ _ t.heap; rw [ht]; exact hP)⟩, hS.F ht⟩) hS.2.2 dX8_slow_77
        · refine lv_iconst (v := 3) hx hb dX8_slow_55 (by decide) ?_
          refine lv_goto (tgt := 60) hx hb dX8_slow_56 (by decide) ?_
          refine lv_dload hx hb dX8_slow_60 (lv_at hl 0 rfl) ?_
          refine lv_aload_n hx hb dX8_slow_62 rfl (lv_at hl 2 rfl) ?_
          refine pg_get (ci := 0) (C := RX0) (T := TX0) (N := 2) hx hb hts hinX0 hown hK hP hmb_br hFb_br rfl 1 (by decide) (hts (.fieldLink RX8 259 "RopeDrums$Brake" "grip" "D") (by decide +kernel)) (fun _ h9 => h9) rfl dX8_slow_63 ?_
          refine vp_callSi (W.runS (As := [.int 3, .double r10, .double (Bk.2 j_br)]) (rest := []) ⟨hx, hb, hml, hown, hts⟩ (c_isVoid_3 l r10 (Bk.2 j_br)) (va_cwS 3 hts gX8_slow_X8_isVoid rfl rfl rfl (by decide +kernel) ⟨Nat.le_of_ble_eq_true rfl, Nat.le_of_ble_eq_true rfl⟩) (preS_of okT (trivial)) rfl rfl hl.1 rfl (lv_room (Nat.le_of_ble_eq_true rfl)) dX8_slow_66 ⟨Nat.le_of_ble_eq_true rfl, Nat.le_of_ble_eq_true rfl⟩) (fun r24 hr24 => ?_)
          rw [hr10, void3 (real_3 hok_me).2.1 hgn] at hr24
          refine lv_if_eq (tgt := 78) hx hb dX8_slow_69 (by decide) (fun c25 => ?_) (fun c25 => ?_)
          · have hnan : FP.Core.dIsNaN (FP.ddiv (db (tn (Mm.1 j_me) (Mm.2 j_me) 3)) (Bk.2 j_br)) = false := by have hc := c25; rw [hr24] at hc; exact Bool.eq_false_iff.mpr (fun q => absurd ((if_pos (t := (1 : Int32)) (e := 0) q).symm.trans hc) (by decide))
            refine lv_aload_n hx hb dX8_slow_78 rfl (lv_at hl 2 rfl) ?_
            refine pg_get (ci := 0) (C := RX0) (T := TX0) (N := 2) hx hb hts hinX0 hown hK hP hmb_br hFb_br rfl 0 (by decide) (hts (.fieldLink RX8 262 "RopeDrums$Brake" "sort" "I") (by decide +kernel)) (fun _ h9 => h9) rfl dX8_slow_79 ?_
            refine lv_iconst (v := 1) hx hb dX8_slow_82 (by decide) ?_
            refine lv_icmp_ne (tgt := 98) hx hb dX8_slow_83 (by decide) (fun c26 => absurd (c11) c26) (fun c26 => ?_)
            refine lv_dload hx hb dX8_slow_86 (lv_at hl 0 rfl) ?_
            refine lv_aload_n hx hb dX8_slow_88 rfl (lv_at hl 2 rfl) ?_
            refine pg_get (ci := 0) (C := RX0) (T := TX0) (N := 2) hx hb hts hinX0 hown hK hP hmb_br hFb_br rfl 1 (by decide) (hts (.fieldLink RX8 259 "RopeDrums$Brake" "grip" "D") (by decide +kernel)) (fun _ h9 => h9) rfl dX8_slow_89 ?_
            refine lv_ddiv hx hb dX8_slow_92 (n64.mpr (by rw [hr10]; exact (FP.Core.notNaN_iff _).mp hnan)) ?_
            refine lv_topd (fun v27 ev27 => ?_)
            refine lv_d2f hx hb dX8_slow_93 (n32.mpr (d2f_ok (by rw [ev27, hr10]; exact (FP.Core.notNaN_iff _).mp hnan)).2) ?_
            refine lv_topf (fun v28 ev28 => ?_)
            refine lv_f2d hx hb dX8_slow_94 (n64.mpr (f2d_ok (by rw [ev28]; exact (d2f_ok (by rw [ev27, hr10]; exact (FP.Core.notNaN_iff _).mp hnan)).2)).2) ?_
            refine lv_topd (fun v29 ev29 => ?_)
            refine lv_goto (tgt := 107) hx hb dX8_slow_95 (by decide) ?_
            refine lv_dstore (lv' := [(7, .double v29), (5, .double r10), (4, .ref (qa 0 j_me)), (3, .ref (qa 6 j_br)), (0, .ref o), (1, .int (nI j_br)), (2, .int (nI j_me))]) hx hb dX8_slow_107 hl (by decide) rfl (fun ls hl => ?_)
            refine lv_aload hx hb dX8_slow_109 (lv_at hl 2 rfl) ?_
            refine lv_iconst (v := 3) hx hb dX8_slow_111 (by decide) ?_
            refine lv_dload hx hb dX8_slow_112 (lv_at hl 0 rfl) ?_
            refine va_callv (va_runV (As := [.int 3, .double v29]) (rest := []) ⟨hx, hb, hml, hown, hts⟩ (c_holdReal l G cy L F s.heap.size (qa 0 j_me) (Mm.1 j_me) nm_me rl_me hmm_me hFm_me 3 v29) (cwV 2 hts gX8_slow_X4_holdReal rfl rfl rfl (by decide +kernel) ⟨Nat.le_of_ble_eq_true rfl, Nat.le_of_ble_eq_true rfl⟩) (preV_of okQ (⟨rfl, hP, hK, hD.top⟩) (pl_recv hK hP (ci := 4) rfl hmm_me hFm_me)) rfl rfl hl.1 rfl (lv_room (Nat.le_of_ble_eq_true rfl)) dX8_slow_114 ⟨Nat.le_of_ble_eq_true rfl, Nat.le_of_ble_eq_true rfl⟩) hS (fun q _ h => pl_free hD hS hA q h) (pl_free hD hS hA) (fun F30 t H1 locs ht hvm hw hP1 hz1 hk1 hS => ?_)
            have hP1 : va_P G vwCl (va_pl L F30) t.heap := hP1
            rw [ht] at hP1
            have hP := hP1
            generalize H1 = H at hP hS ⊢
            have eF30 : F30 = va_up F (qa 0 j_me) (.inr (4, [.int 3, .long nm_me, .double v29])) := hw
            have hFo_30 : F30 o = .inr (7, [.ref (qa 8 0), .ref (qa 8 1), .ref (qa 8 2), .ref (qa 8 3), .ref (qa 8 4), .ref (qa 8 5), .ref (qa 8 6), .int Pp.1, .int Xx.1]) := by rw [eF30, va_up_ne _ _ (pl_ne hFo hFm_me rfl)]; exact hFo
            have hFqa80_30 : F30 (qa 8 0) = cQ (cy 7) 10 (pR 10 (qa 0)) := by rw [eF30, va_up_ne _ _ (pl_ne hF0 hFm_me rfl)]; exact hF0
            have hFqa81_30 : F30 (qa 8 1) = cQ (cy 5) 6 (pR 6 (qa 1)) := by rw [eF30, va_up_ne _ _ (pl_ne hF1 hFm_me rfl)]; exact hF1
            have hFqa82_30 : F30 (qa 8 2) = cQ (cy 6) 8 (pR 8 (qa 2)) := by rw [eF30, va_up_ne _ _ (pl_ne hF2 hFm_me rfl)]; exact hF2
            have hFqa83_30 : F30 (qa 8 3) = cQ (cy 9) 30 (pR Pp.1.toInt.toNat (qa 7)) := by rw [eF30, va_up_ne _ _ (pl_ne hFs hFm_me rfl)]; exact hFs
            have hFqa84_30 : F30 (qa 8 4) = cQ (cy 8) 5 (pR 5 (qa 4)) := by rw [eF30, va_up_ne _ _ (pl_ne hF4 hFm_me rfl)]; exact hF4
            have hFqa85_30 : F30 (qa 8 5) = cQ (cy 4) 4 (pR 4 (qa 6)) := by rw [eF30, va_up_ne _ _ (pl_ne hF5 hFm_me rfl)]; exact hF5
            have hFqa86_30 : F30 (qa 8 6) = cI (cy 1) 6 Xx.2 := by rw [eF30, va_up_ne _ _ (pl_ne hFf hFm_me rfl)]; exact hFf
            have hFqa6j_br_30 : F30 (qa 6 j_br) = .inr (0, [.int (Bk.1 j_br), .double (Bk.2 j_br)]) := by rw [eF30, va_up_ne _ _ (pl_ne hFb_br hFm_me rfl)]; exact hFb_br
            have hFqa0j_me_30 : F30 (qa 0 j_me) = .inr (4, [.int 3, .long nm_me, .double v29]) := by rw [eF30]; exact va_up_self _ _ _
            have hR31 : Rep cy L o qa (setM Mm j_me 3 (FP.f2d (FP.d2f (FP.ddiv (db (tn (Mm.1 j_me) (Mm.2 j_me) 3)) (Bk.2 j_br)))).toInt64) Dd Sl Pp Kr Bk Xx F30 := by rw [eF30, ev29, ev28, ev27, hr10]; exact hR.meter hj_me (real_okM3 (f2d_ok (d2f_ok ((FP.Core.notNaN_iff _).mp hnan)).2).2)
            refine lv_aload_n hx hb dX8_slow_117 rfl (lv_at hl 4 rfl) ?_
            refine lv_iconst (v := 1) hx hb dX8_slow_118 (by decide) ?_
            refine va_calli (va_runV (As := [.int 1]) (rest := []) ⟨hx, hb, hml, hown, hts⟩ (c_succeed l G cy L F30 H.size o qa (setM Mm j_me 3 (FP.f2d (FP.d2f (FP.ddiv (db (tn (Mm.1 j_me) (Mm.2 j_me) 3)) (Bk.2 j_br)))).toInt64) Dd Sl Pp Kr Bk Xx hR31 1) (cwV 1 hts gX8_slow_X8_succeed rfl rfl rfl (by decide +kernel) ⟨Nat.le_of_ble_eq_true rfl, Nat.le_of_ble_eq_true rfl⟩) (preV_of okQ (⟨rfl, hP, hK, hD.top⟩) (pl_recv hK hP (ci := 7) rfl hmo hFo_30)) rfl rfl hl.1 rfl (lv_room (Nat.le_of_ble_eq_true rfl)) dX8_slow_119 ⟨Nat.le_of_ble_eq_true rfl, Nat.le_of_ble_eq_true rfl⟩) hS (fun q _ h => pl_free hD hS hA q h) (pl_free hD hS hA) (fun r33 F32 t H1 locs ht hvm hw hP1 hz1 hk1 hS => ?_)
            have hP1 : va_P G vwCl (va_pl L F32) t.heap := hP1
            rw [ht] at hP1
            have hP := hP1
            generalize H1 = H at hP hS ⊢
            obtain ⟨hqr33, hR34⟩ := hw
            exact W.iret (v := r33) hx hb hr (fun t ht hW => ⟨⟨r33, F32, rfl, (by have hsp : sp_slow Mm Bk Xx (nI j_br) (nI j_me) = (1, setM Mm j_me 3 (FP.f2d (FP.d2f (FP.ddiv (db (tn (Mm.1 j_me) (Mm.2 j_me) 3)) (Bk.2 j_br)))).toInt64, goodX Xx) := (by unfold sp_slow; rw [hi_br, hi_me]; show slw _ _ _ _ _ _ = _; unfold slw; exact (if_neg c9).trans ((if_neg (by rw [c11]; decide)).trans (if_neg (by rw [hnan]; decide)))); rw [hsp]; exact ⟨hqr33, hR34⟩), (by show va_P _ _ _ t.heap; rw [ht]; exact hP)⟩, hS.F ht⟩) hS.2.2 dX8_slow_122
          · have hnan : FP.Core.dIsNaN (FP.ddiv (db (tn (Mm.1 j_me) (Mm.2 j_me) 3)) (Bk.2 j_br)) = true := Decidable.byContradiction (fun q => c25 (by rw [hr24]; exact if_neg q))
            refine lv_aload_n hx hb dX8_slow_72 rfl (lv_at hl 3 rfl) ?_
            refine lv_iconst (v := 5) hx hb dX8_slow_73 (by decide) ?_
            refine va_calli (va_runV (As := [.int 5]) (rest := []) ⟨hx, hb, hml, hown, hts⟩ (c_fail_5 l G cy L F s.heap.size o qa Mm Dd Sl Pp Kr Bk Xx hR) (cwV 1 hts gX8_slow_X8_fail rfl rfl rfl (by decide +kernel) ⟨Nat.le_of_ble_eq_true rfl, Nat.le_of_ble_eq_true rfl⟩) (preV_of okQ (⟨rfl, hP, hK, hD.top⟩) (pl_recv hK hP (ci := 7) rfl hmo hFo)) rfl rfl hl.1 rfl (lv_room (Nat.le_of_ble_eq_true rfl)) dX8_slow_74 ⟨Nat.le_of_ble_eq_true rfl, Nat.le_of_ble_eq_true rfl⟩) hS (fun q _ h => pl_free hD hS hA q h) (pl_free hD hS hA) (fun r36 F35 t H1 locs ht hvm hw hP1 hz1 hk1 hS => ?_)
            have hP1 : va_P G vwCl (va_pl L F35) t.heap := hP1
            rw [ht] at hP1
            have hP := hP1
            generalize H1 = H at hP hS ⊢
            obtain ⟨hqr36, hR37⟩ := hw
            exact W.iret (v := r36) hx hb hr (fun t ht hW => ⟨⟨r36, F35, rfl, (by have hsp : sp_slow Mm Bk Xx (nI j_br) (nI j_me) = (-15, Mm, failX Xx 5) := (by unfold sp_slow; rw [hi_br, hi_me]; show slw _ _ _ _ _ _ = _; unfold slw; exact (if_neg c9).trans ((if_neg (by rw [c11]; decide)).trans (if_pos hnan))); rw [hsp]; exact ⟨hqr36, hR37⟩), (by show va_P _ _ _ t.heap; rw [ht]; exact hP)⟩, hS.F ht⟩) hS.2.2 dX8_slow_77
      · refine lv_aload_n hx hb dX8_slow_34 rfl (lv_at hl 2 rfl) ?_
        refine lv_iconst (v := 1) hx hb dX8_slow_35 (by decide) ?_
        refine va_calli (va_runV (As := [.int 1]) (rest := []) ⟨hx, hb, hml, hown, hts⟩ (c_fail_1 l G cy L F s.heap.size o qa Mm Dd Sl Pp Kr Bk Xx hR) (cwV 1 hts gX8_slow_X8_fail rfl rfl rfl (by decide +kernel) ⟨Nat.le_of_ble_eq_true rfl, Nat.le_of_ble_eq_true rfl⟩) (preV_of okQ (⟨rfl, hP, hK, hD.top⟩) (pl_recv hK hP (ci := 7) rfl hmo hFo)) rfl rfl hl.1 rfl (lv_room (Nat.le_of_ble_eq_true rfl)) dX8_slow_36 ⟨Nat.le_of_ble_eq_true rfl, Nat.le_of_ble_eq_true rfl⟩) hS (fun q _ h => pl_free hD hS hA q h) (pl_free hD hS hA) (fun r39 F38 t H1 locs ht hvm hw hP1 hz1 hk1 hS => ?_)
        have hP1 : va_P G vwCl (va_pl L F38) t.heap := hP1
        rw [ht] at hP1
        have hP := hP1
        generalize H1 = H at hP hS ⊢
        obtain ⟨hqr39, hR40⟩ := hw
        exact W.iret (v := r39) hx hb hr (fun t ht hW => ⟨⟨r39, F38, rfl, (by have hsp : sp_slow Mm Bk Xx (nI j_br) (nI j_me) = (-10 - 1, Mm, failX Xx 1) := (by unfold sp_slow; rw [hi_br, hi_me]; show slw _ _ _ _ _ _ = _; unfold slw; exact (if_pos c9).trans rfl); rw [hsp]; exact ⟨hqr39, hR40⟩), (by show va_P _ _ _ t.heap; rw [ht]; exact hP)⟩, hS.F ht⟩) hS.2.2 dX8_slow_39
