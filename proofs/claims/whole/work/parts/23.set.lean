theorem laneV {x : Int32} (h : laneB x = true) : x = 0 ∨ x = 1 ∨ x = 2 ∨ x = 3 := by
  unfold laneB at h
  simp only [Bool.and_eq_true, decide_eq_true_eq] at h
  simp only [fa_eq]
  have h0 : (0 : Int32).toInt = 0 := by decide
  have h1 : (1 : Int32).toInt = 1 := by decide
  have h2 : (2 : Int32).toInt = 2 := by decide
  have h3 : (3 : Int32).toInt = 3 := by decide
  omega
theorem lane01 {x : Int32} (h : laneB x = true) (h1 : ¬ (1 : Int32) < x) : x = 0 ∨ x = 1 := by
  rcases laneV h with rfl | rfl | rfl | rfl
  · exact Or.inl rfl
  · exact Or.inr rfl
  · exact absurd (by decide) h1
  · exact absurd (by decide) h1
theorem lane23 {x : Int32} (h : laneB x = true) (h1 : (1 : Int32) < x) : x = 2 ∨ x = 3 := by
  rcases laneV h with rfl | rfl | rfl | rfl
  · exact absurd h1 (by decide)
  · exact absurd h1 (by decide)
  · exact Or.inl rfl
  · exact Or.inr rfl
theorem lNu {n : Nat} (hn : n < 2 ^ 64) : (lN n).toUInt64.toNat = n := by rw [lN_u]; exact u_tn hn
theorem set_w {ln : Int32} {b nm : Int64} {rl : UInt64} (h : ln = 0 ∨ ln = 1) (hn : FP.Core.val64 rl ≠ .nan) : okM ln (if ln = 0 ∨ ln = 2 then b.toInt32.toInt64 else b) (q_holdW ln b) rl ∧ numB ln b = true := by
  rcases h with rfl | rfl
  · exact ⟨⟨hn, Or.inl ⟨rfl, by simp; exact sx_i _, by simp [q_holdW]⟩⟩, by simp [numB]⟩
  · exact ⟨⟨hn, Or.inr (Or.inl ⟨rfl, by simp [q_holdW]⟩)⟩, by simp [numB]⟩
theorem set_2 {n : Nat} {nm : Int64} (hn : n < 2 ^ 64) (h : n % 2 ^ 31 ≤ 2139095040) : okM 2 (if (2 : Int32) = 0 ∨ (2 : Int32) = 2 then (lN n).toInt32.toInt64 else lN n) nm (FP.f2d (UInt32.ofNat (n % 2 ^ 32))) ∧ numB 2 (lN n) = true := by
  have e : fl (lN n).toInt32.toInt64 = UInt32.ofNat (n % 2 ^ 32) := by
    unfold fl
    rw [Int32.toInt32_toInt64, lN_i]
    show (Int32.ofNat n).toUInt32 = _
    apply UInt32.toNat.inj
    show (UInt32.ofNat n).toNat = (UInt32.ofNat (n % 2 ^ 32)).toNat
    rw [UInt32.toNat_ofNat', UInt32.toNat_ofNat', Nat.mod_mod]
  have hv : FP.Core.val32 (UInt32.ofNat (n % 2 ^ 32)) ≠ .nan := nn32 (by omega) (by omega)
  rw [if_pos (Or.inr rfl)]
  exact ⟨⟨(f2d_ok hv).2, Or.inr (Or.inr (Or.inl ⟨rfl, sx_i _, by rw [e]; exact hv, by rw [e]⟩))⟩, by simp only [numB, lNu hn]; simp; omega⟩
theorem set_3 {n : Nat} {nm : Int64} (hn : n < 2 ^ 64) (h : n % 2 ^ 63 ≤ 9218868437227405312) : okM 3 (if (3 : Int32) = 0 ∨ (3 : Int32) = 2 then (lN n).toInt32.toInt64 else lN n) nm (UInt64.ofNat n) ∧ numB 3 (lN n) = true := by
  have hv : FP.Core.val64 (UInt64.ofNat n) ≠ .nan := by rw [FP.Core.ne_nan, u_tn hn]; exact h
  rw [if_neg (by decide)]
  exact ⟨⟨hv, Or.inr (Or.inr (Or.inr ⟨rfl, by unfold db; rw [lN_u]; exact hv, by unfold db; rw [lN_u]⟩))⟩, by simp only [numB, lNu hn]; simp; omega⟩
theorem numB2 {n : Nat} (hn : n < 2 ^ 64) (h : ¬ n % 2 ^ 31 ≤ 2139095040) : ¬ numB 2 (lN n) = true := by
  simp only [numB, lNu hn]
  simp
  omega
theorem numB3 {n : Nat} (hn : n < 2 ^ 64) (h : ¬ n % 2 ^ 63 ≤ 9218868437227405312) : ¬ numB 3 (lN n) = true := by
  simp only [numB, lNu hn]
  simp
  omega

set_option maxHeartbeats 8000000 in
set_option maxRecDepth 100000 in
theorem m_set (l : Launch) (G : va_G) (cy : Nat → ClassId) (L : List Nat) (F : Nat → va_E) (ad : Nat → Nat) (sz : Nat) (o : Nat) (qa : Nat → Nat → Nat) (Mm : SM) (Dd : SD) (Sl : SL) (Pp : SP) (Kr : SR) (Bk : SB) (Xx : SX) (hR : Rep cy L o qa Mm Dd Sl Pp Kr Bk Xx F) (me ln : Int32) (n : Nat) (hn : n < 2 ^ 64)  : Met l yX8_set wsX8_set ({ frames := 3, cells := 0, slots := 0, locals := 72 }) (va_Pc [.ref o, .int me, .int ln, .long (lN n)] (fun U => bQE G cy L F ad sz U U.heap)) (va_Qi (fun (r : Int32) (F' : Nat → va_E) => r = (sp_set Mm me ln (lN n)).1 ∧ Rep cy L o qa (sp_set Mm me ln (lN n)).2 Dd Sl Pp Kr Bk Xx F') (fun F' t => va_P G vwCl (va_pl L F') t.heap) (va_A (va_pl L F) sz)) 0 0 (va_A (va_pl L F) sz) := by
  refine Met.ofW (cc := cX8_set) (maxL := 7) (ret := (some .int)) (by decide) rfl ?_
  intro p e s m args below meth c s₁ B hml hv
  obtain ⟨rfl, ⟨hsz, hP, hK, hD0⟩, hE, hN⟩ := hv
  have hx := B.exec
  have hb := B.bytes
  have hr := B.returns
  have hts := atoms_spec (ws := wsX8_set) B.pre
  have hown : s.vm.findClass RX8 = some m.cls := findClass_of_methodNamed B.named
  have hlocks := B.notSynchronized
  have hinX8 : ∀ w ∈ wsX80, w ∈ wsX8_set := by decide +kernel
  have hinX4 : ∀ w ∈ wsX40, w ∈ wsX8_set := by decide +kernel
  subst hsz
  have hD := hD0.self F s.heap.size
  generalize hAe : va_A (va_pl L F) s.heap.size = A at hD hE ⊢
  have hA : ∀ q : Nat, s.heap.size ≤ q → A q := fun q h => by rw [← hAe]; exact Or.inr h
  have hS : va_S A s.heap s.heap [] := va_S.rf
  obtain ⟨⟨⟨hmo, hFo⟩, ⟨hmf, hFf⟩, hms, hFs⟩, ⟨⟨hm0, hF0⟩, ⟨hm1, hF1⟩, ⟨hm2, hF2⟩, ⟨hm4, hF4⟩, hm5, hF5⟩, hRM, hRD, hRG, hRP, hRR, hRB, hRI⟩ := id hR
  have hl := lv_entry ([.ref o, .int me, .int ln, .long (lN n)]) (n := 7) (Nat.le_of_ble_eq_true rfl)
  rw [lg_entry_eq]
  generalize (lg_sl ([.ref o, .int me, .int ln, .long (lN n)]) ++ List.replicate (7 - (lg_sl ([.ref o, .int me, .int ln, .long (lN n)])).length) Slot.unset).toArray = ls at hl ⊢
  have hl : lv_has ls 7 [(0, .ref o), (1, .int me), (2, .int ln), (3, .long (lN n))] := hl
  rcases ixc 10 me with hi_me | ⟨j_me, hj_me, hi_me, ei_me⟩
  · refine lv_aload_n hx hb dX8_set_0 rfl (lv_at hl 0 rfl) ?_
    refine lv_iload_n hx hb dX8_set_1 rfl (lv_at hl 1 rfl) ?_
    refine va_csq (W.runV (As := [.int me]) (rest := []) ⟨hx, hb, hml, hown, hts⟩ (c_meterOf_no l G cy L F o qa Mm Dd Sl Pp Kr Bk Xx hR me hi_me) (cwV 1 hts gX8_set_X8_meterOf rfl rfl rfl (by decide +kernel) ⟨Nat.le_of_ble_eq_true rfl, Nat.le_of_ble_eq_true rfl⟩) (preV_of okP (⟨hP, hK, hD.top⟩) (pl_recv hK hP (ci := 7) rfl hmo hFo)) rfl rfl hl.1 rfl (lv_room (Nat.le_of_ble_eq_true rfl)) dX8_set_2 ⟨Nat.le_of_ble_eq_true rfl, Nat.le_of_ble_eq_true rfl⟩) (fun r1 hr1 => ?_)
    subst hr1
    refine W.eq (g2 := F0 m 5 ls [.null]) rfl ?_
    refine lv_astoreN (lv' := [(5, .null), (0, .ref o), (1, .int me), (2, .int ln), (3, .long (lN n))]) hx hb dX8_set_5 hl (by decide) rfl (fun ls hl => ?_)
    refine lv_aloadN hx hb dX8_set_7 (lv_at hl 0 rfl) ?_
    refine lv_ifnonnullN hx hb dX8_set_9 ?_
    refine lv_sipush (v := -1001) hx hb dX8_set_12 (by decide) ?_
    exact W.iret (v := -1001) hx hb hr (fun t ht hW => ⟨⟨-1001, F, rfl, (by have hsp : sp_set Mm me ln (lN n) = (-1001, Mm) := (by unfold sp_set; rw [hi_me]); rw [hsp]; exact ⟨rfl, hR⟩), (by show va_P _ _ _ t.heap; rw [ht]; exact hP)⟩, hS.F ht⟩) hS.2.2 dX8_set_15
  · subst ei_me
    obtain ⟨hmm_me, nm_me, rl_me, hFm_me, hok_me⟩ := hRM j_me hj_me
    refine lv_aload_n hx hb dX8_set_0 rfl (lv_at hl 0 rfl) ?_
    refine lv_iload_n hx hb dX8_set_1 rfl (lv_at hl 1 rfl) ?_
    refine va_csq (W.runV (As := [.int (nI j_me)]) (rest := []) ⟨hx, hb, hml, hown, hts⟩ (c_meterOf l G cy L F o qa Mm Dd Sl Pp Kr Bk Xx hR j_me hj_me) (cwV 1 hts gX8_set_X8_meterOf rfl rfl rfl (by decide +kernel) ⟨Nat.le_of_ble_eq_true rfl, Nat.le_of_ble_eq_true rfl⟩) (preV_of okP (⟨hP, hK, hD.top⟩) (pl_recv hK hP (ci := 7) rfl hmo hFo)) rfl rfl hl.1 rfl (lv_room (Nat.le_of_ble_eq_true rfl)) dX8_set_2 ⟨Nat.le_of_ble_eq_true rfl, Nat.le_of_ble_eq_true rfl⟩) (fun r2 hr2 => ?_)
    subst hr2
    refine W.eq (g2 := F0 m 5 ls [.ref (qa 0 j_me)]) rfl ?_
    refine lv_astore (lv' := [(5, .ref (qa 0 j_me)), (0, .ref o), (1, .int (nI j_me)), (2, .int ln), (3, .long (lN n))]) hx hb dX8_set_5 hl (by decide) rfl (fun ls hl => ?_)
    refine lv_aload hx hb dX8_set_7 (lv_at hl 0 rfl) ?_
    refine lv_ifnonnull (tgt := 16) hx hb dX8_set_9 (by decide) ?_
    refine lv_iload_n hx hb dX8_set_16 rfl (lv_at hl 3 rfl) ?_
    refine vp_callSi (W.runS (As := [.int ln]) (rest := []) ⟨hx, hb, hml, hown, hts⟩ (c_isLane l ln) (va_cwS 1 hts gX8_set_X8_isLane rfl rfl rfl (by decide +kernel) ⟨Nat.le_of_ble_eq_true rfl, Nat.le_of_ble_eq_true rfl⟩) (preS_of okT (trivial)) rfl rfl hl.1 rfl (lv_room (Nat.le_of_ble_eq_true rfl)) dX8_set_17 ⟨Nat.le_of_ble_eq_true rfl, Nat.le_of_ble_eq_true rfl⟩) (fun r3 hr3 => ?_)
    refine lv_if_ne (tgt := 27) hx hb dX8_set_20 (by decide) (fun c4 => ?_) (fun c4 => ?_)
    · have hlB : laneB ln = true := laneB_1 (by rw [← hr3]; exact c4)
      refine lv_iload_n hx hb dX8_set_27 rfl (lv_at hl 3 rfl) ?_
      refine lv_iconst (v := 1) hx hb dX8_set_28 (by decide) ?_
      refine lv_icmp_gt (tgt := 41) hx hb dX8_set_29 (by decide) (fun c5 => ?_) (fun c5 => ?_)
      · rcases lane23 hlB c5 with hl2 | hl2
        · have hl0 := hl2
          refine lv_iload_n hx hb dX8_set_41 rfl (lv_at hl 3 rfl) ?_
          refine va_csq (W.runS (As := [.int ln]) (rest := []) ⟨hx, hb, hml, hown, hts⟩ (c_formOf_2 l ad ln hl0) (va_cwS 1 hts gX8_set_X8_formOf rfl rfl rfl (by decide +kernel) ⟨Nat.le_of_ble_eq_true rfl, Nat.le_of_ble_eq_true rfl⟩) (preS_of okE (pE.low hE hN hS)) rfl rfl hl.1 rfl (lv_room (Nat.le_of_ble_eq_true rfl)) dX8_set_42 ⟨Nat.le_of_ble_eq_true rfl, Nat.le_of_ble_eq_true rfl⟩) (fun r6 hr6 => ?_)
          subst hr6
          refine W.eq (g2 := F0 m 45 ls [.ref (ad 0)]) rfl ?_
          refine lv_astore (lv' := [(6, .ref (ad 0)), (5, .ref (qa 0 j_me)), (0, .ref o), (1, .int (nI j_me)), (2, .int ln), (3, .long (lN n))]) hx hb dX8_set_45 hl (by decide) rfl (fun ls hl => ?_)
          refine lv_aload hx hb dX8_set_47 (lv_at hl 0 rfl) ?_
          refine lv_lload_n hx hb dX8_set_49 rfl (lv_at hl 5 rfl) ?_
          refine vp_callSi (W.runV (As := [.long (lN n)]) (rest := []) ⟨hx, hb, hml, hown, hts⟩ (c_isNumber_0 l ad (lN n) ) (cwV 1 hts gX8_set_X2_isNumber rfl rfl rfl (by decide +kernel) ⟨Nat.le_of_ble_eq_true rfl, Nat.le_of_ble_eq_true rfl⟩) (preV_of okE (pE.low hE hN hS) (va_recvE hE (by decide) hS)) rfl rfl hl.1 rfl (lv_room (Nat.le_of_ble_eq_true rfl)) dX8_set_50 ⟨Nat.le_of_ble_eq_true rfl, Nat.le_of_ble_eq_true rfl⟩) (fun r7 hr7 => ?_)
          rw [isNum0 hn] at hr7
          refine lv_if_ne (tgt := 60) hx hb dX8_set_53 (by decide) (fun c8 => ?_) (fun c8 => ?_)
          · have hgood : n % 2 ^ 31 ≤ 2139095040 := Decidable.byContradiction (fun q => c8 (by rw [hr7, if_neg q]))
            refine lv_aload hx hb dX8_set_60 (lv_at hl 1 rfl) ?_
            refine lv_iload_n hx hb dX8_set_62 rfl (lv_at hl 4 rfl) ?_
            refine lv_aload hx hb dX8_set_63 (lv_at hl 0 rfl) ?_
            refine lv_lload_n hx hb dX8_set_65 rfl (lv_at hl 5 rfl) ?_
            refine vp_callSd (W.runV (As := [.long (lN n)]) (rest := [.int ln, .ref (qa 0 j_me)]) ⟨hx, hb, hml, hown, hts⟩ (c_numberOf_0 l ad n hn hgood) (cwV 1 hts gX8_set_X2_numberOf rfl rfl rfl (by decide +kernel) ⟨Nat.le_of_ble_eq_true rfl, Nat.le_of_ble_eq_true rfl⟩) (preV_of okE (pE.low hE hN hS) (va_recvE hE (by decide) hS)) rfl rfl hl.1 rfl (lv_room (Nat.le_of_ble_eq_true rfl)) dX8_set_66 ⟨Nat.le_of_ble_eq_true rfl, Nat.le_of_ble_eq_true rfl⟩) (fun r9 hr9 => ?_)
            refine va_callv (va_runV (As := [.int ln, .double r9]) (rest := []) ⟨hx, hb, hml, hown, hts⟩ (c_holdReal l G cy L F s.heap.size (qa 0 j_me) (Mm.1 j_me) nm_me rl_me hmm_me hFm_me ln r9) (cwV 2 hts gX8_set_X4_holdReal rfl rfl rfl (by decide +kernel) ⟨Nat.le_of_ble_eq_true rfl, Nat.le_of_ble_eq_true rfl⟩) (preV_of okQ (⟨rfl, hP, hK, hD.top⟩) (pl_recv hK hP (ci := 4) rfl hmm_me hFm_me)) rfl rfl hl.1 rfl (lv_room (Nat.le_of_ble_eq_true rfl)) dX8_set_69 ⟨Nat.le_of_ble_eq_true rfl, Nat.le_of_ble_eq_true rfl⟩) hS (fun q _ h => pl_free hD hS hA q h) (pl_free hD hS hA) (fun F10 t H1 locs ht hvm hw hP1 hz1 hk1 hS => ?_)
            have hP1 : va_P G vwCl (va_pl L F10) t.heap := hP1
            rw [ht] at hP1
            have hP := hP1
            generalize H1 = H at hP hS ⊢
            have eF10 : F10 = va_up F (qa 0 j_me) (.inr (4, [.int ln, .long nm_me, .double r9])) := hw
            have hFo_10 : F10 o = .inr (7, [.ref (qa 8 0), .ref (qa 8 1), .ref (qa 8 2), .ref (qa 8 3), .ref (qa 8 4), .ref (qa 8 5), .ref (qa 8 6), .int Pp.1, .int Xx.1]) := by rw [eF10, va_up_ne _ _ (pl_ne hFo hFm_me rfl)]; exact hFo
            have hFqa80_10 : F10 (qa 8 0) = cQ (cy 7) 10 (pR 10 (qa 0)) := by rw [eF10, va_up_ne _ _ (pl_ne hF0 hFm_me rfl)]; exact hF0
            have hFqa81_10 : F10 (qa 8 1) = cQ (cy 5) 6 (pR 6 (qa 1)) := by rw [eF10, va_up_ne _ _ (pl_ne hF1 hFm_me rfl)]; exact hF1
            have hFqa82_10 : F10 (qa 8 2) = cQ (cy 6) 8 (pR 8 (qa 2)) := by rw [eF10, va_up_ne _ _ (pl_ne hF2 hFm_me rfl)]; exact hF2
            have hFqa83_10 : F10 (qa 8 3) = cQ (cy 9) 30 (pR Pp.1.toInt.toNat (qa 7)) := by rw [eF10, va_up_ne _ _ (pl_ne hFs hFm_me rfl)]; exact hFs
            have hFqa84_10 : F10 (qa 8 4) = cQ (cy 8) 5 (pR 5 (qa 4)) := by rw [eF10, va_up_ne _ _ (pl_ne hF4 hFm_me rfl)]; exact hF4
            have hFqa85_10 : F10 (qa 8 5) = cQ (cy 4) 4 (pR 4 (qa 6)) := by rw [eF10, va_up_ne _ _ (pl_ne hF5 hFm_me rfl)]; exact hF5
            have hFqa86_10 : F10 (qa 8 6) = cI (cy 1) 6 Xx.2 := by rw [eF10, va_up_ne _ _ (pl_ne hFf hFm_me rfl)]; exact hFf
            have hFqa0j_me_10 : F10 (qa 0 j_me) = .inr (4, [.int ln, .long nm_me, .double r9]) := by rw [eF10]; exact va_up_self _ _ _
            refine lv_iconst (v := 1) hx hb dX8_set_72 (by decide) ?_
            exact W.iret (v := 1) hx hb hr (fun t ht hW => ⟨⟨1, F10, rfl, (by have hsp : sp_set Mm (nI j_me) ln (lN n) = (1, setM Mm j_me ln (if ln = 0 ∨ ln = 2 then (lN n).toInt32.toInt64 else lN n)) := (by unfold sp_set; rw [hi_me]; show (if _ then _ else _) = _; rw [if_pos hlB, if_pos (by rw [hl0]; exact (set_2 (nm := 0) hn hgood).2)]); rw [hsp]; exact ⟨rfl, (by rw [eF10, hr9, hl0]; exact hR.meter hj_me (set_2 hn hgood).1)⟩), (by show va_P _ _ _ t.heap; rw [ht]; exact hP)⟩, hS.F ht⟩) hS.2.2 dX8_set_73
          · have hbad : ¬ n % 2 ^ 31 ≤ 2139095040 := fun q => by have hc := c8; rw [hr7, if_pos q] at hc; exact absurd hc (by decide)
            refine lv_sipush (v := -1002) hx hb dX8_set_56 (by decide) ?_
            exact W.iret (v := -1002) hx hb hr (fun t ht hW => ⟨⟨-1002, F, rfl, (by have hsp : sp_set Mm (nI j_me) ln (lN n) = (-1002, Mm) := (by unfold sp_set; rw [hi_me]; show (if _ then _ else _) = _; rw [if_pos hlB, if_neg (by rw [hl0]; exact numB2 hn hbad)]); rw [hsp]; exact ⟨rfl, hR⟩), (by show va_P _ _ _ t.heap; rw [ht]; exact hP)⟩, hS.F ht⟩) hS.2.2 dX8_set_59
        · have hl0 := hl2
          refine lv_iload_n hx hb dX8_set_41 rfl (lv_at hl 3 rfl) ?_
          refine va_csq (W.runS (As := [.int ln]) (rest := []) ⟨hx, hb, hml, hown, hts⟩ (c_formOf_3 l ad ln hl0) (va_cwS 1 hts gX8_set_X8_formOf rfl rfl rfl (by decide +kernel) ⟨Nat.le_of_ble_eq_true rfl, Nat.le_of_ble_eq_true rfl⟩) (preS_of okE (pE.low hE hN hS)) rfl rfl hl.1 rfl (lv_room (Nat.le_of_ble_eq_true rfl)) dX8_set_42 ⟨Nat.le_of_ble_eq_true rfl, Nat.le_of_ble_eq_true rfl⟩) (fun r11 hr11 => ?_)
          subst hr11
          refine W.eq (g2 := F0 m 45 ls [.ref (ad 1)]) rfl ?_
          refine lv_astore (lv' := [(6, .ref (ad 1)), (5, .ref (qa 0 j_me)), (0, .ref o), (1, .int (nI j_me)), (2, .int ln), (3, .long (lN n))]) hx hb dX8_set_45 hl (by decide) rfl (fun ls hl => ?_)
          refine lv_aload hx hb dX8_set_47 (lv_at hl 0 rfl) ?_
          refine lv_lload_n hx hb dX8_set_49 rfl (lv_at hl 5 rfl) ?_
          refine vp_callSi (W.runV (As := [.long (lN n)]) (rest := []) ⟨hx, hb, hml, hown, hts⟩ (c_isNumber_1 l ad (lN n) ) (cwV 1 hts gX8_set_X2_isNumber rfl rfl rfl (by decide +kernel) ⟨Nat.le_of_ble_eq_true rfl, Nat.le_of_ble_eq_true rfl⟩) (preV_of okE (pE.low hE hN hS) (va_recvE hE (by decide) hS)) rfl rfl hl.1 rfl (lv_room (Nat.le_of_ble_eq_true rfl)) dX8_set_50 ⟨Nat.le_of_ble_eq_true rfl, Nat.le_of_ble_eq_true rfl⟩) (fun r12 hr12 => ?_)
          rw [isNum1 hn] at hr12
          refine lv_if_ne (tgt := 60) hx hb dX8_set_53 (by decide) (fun c13 => ?_) (fun c13 => ?_)
          · have hgood : n % 2 ^ 63 ≤ 9218868437227405312 := Decidable.byContradiction (fun q => c13 (by rw [hr12, if_neg q]))
            refine lv_aload hx hb dX8_set_60 (lv_at hl 1 rfl) ?_
            refine lv_iload_n hx hb dX8_set_62 rfl (lv_at hl 4 rfl) ?_
            refine lv_aload hx hb dX8_set_63 (lv_at hl 0 rfl) ?_
            refine lv_lload_n hx hb dX8_set_65 rfl (lv_at hl 5 rfl) ?_
            refine vp_callSd (W.runV (As := [.long (lN n)]) (rest := [.int ln, .ref (qa 0 j_me)]) ⟨hx, hb, hml, hown, hts⟩ (c_numberOf_1 l ad n hn hgood) (cwV 1 hts gX8_set_X2_numberOf rfl rfl rfl (by decide +kernel) ⟨Nat.le_of_ble_eq_true rfl, Nat.le_of_ble_eq_true rfl⟩) (preV_of okE (pE.low hE hN hS) (va_recvE hE (by decide) hS)) rfl rfl hl.1 rfl (lv_room (Nat.le_of_ble_eq_true rfl)) dX8_set_66 ⟨Nat.le_of_ble_eq_true rfl, Nat.le_of_ble_eq_true rfl⟩) (fun r14 hr14 => ?_)
            refine va_callv (va_runV (As := [.int ln, .double r14]) (rest := []) ⟨hx, hb, hml, hown, hts⟩ (c_holdReal l G cy L F s.heap.size (qa 0 j_me) (Mm.1 j_me) nm_me rl_me hmm_me hFm_me ln r14) (cwV 2 hts gX8_set_X4_holdReal rfl rfl rfl (by decide +kernel) ⟨Nat.le_of_ble_eq_true rfl, Nat.le_of_ble_eq_true rfl⟩) (preV_of okQ (⟨rfl, hP, hK, hD.top⟩) (pl_recv hK hP (ci := 4) rfl hmm_me hFm_me)) rfl rfl hl.1 rfl (lv_room (Nat.le_of_ble_eq_true rfl)) dX8_set_69 ⟨Nat.le_of_ble_eq_true rfl, Nat.le_of_ble_eq_true rfl⟩) hS (fun q _ h => pl_free hD hS hA q h) (pl_free hD hS hA) (fun F15 t H1 locs ht hvm hw hP1 hz1 hk1 hS => ?_)
            have hP1 : va_P G vwCl (va_pl L F15) t.heap := hP1
            rw [ht] at hP1
            have hP := hP1
            generalize H1 = H at hP hS ⊢
            have eF15 : F15 = va_up F (qa 0 j_me) (.inr (4, [.int ln, .long nm_me, .double r14])) := hw
            have hFo_15 : F15 o = .inr (7, [.ref (qa 8 0), .ref (qa 8 1), .ref (qa 8 2), .ref (qa 8 3), .ref (qa 8 4), .ref (qa 8 5), .ref (qa 8 6), .int Pp.1, .int Xx.1]) := by rw [eF15, va_up_ne _ _ (pl_ne hFo hFm_me rfl)]; exact hFo
            have hFqa80_15 : F15 (qa 8 0) = cQ (cy 7) 10 (pR 10 (qa 0)) := by rw [eF15, va_up_ne _ _ (pl_ne hF0 hFm_me rfl)]; exact hF0
            have hFqa81_15 : F15 (qa 8 1) = cQ (cy 5) 6 (pR 6 (qa 1)) := by rw [eF15, va_up_ne _ _ (pl_ne hF1 hFm_me rfl)]; exact hF1
            have hFqa82_15 : F15 (qa 8 2) = cQ (cy 6) 8 (pR 8 (qa 2)) := by rw [eF15, va_up_ne _ _ (pl_ne hF2 hFm_me rfl)]; exact hF2
            have hFqa83_15 : F15 (qa 8 3) = cQ (cy 9) 30 (pR Pp.1.toInt.toNat (qa 7)) := by rw [eF15, va_up_ne _ _ (pl_ne hFs hFm_me rfl)]; exact hFs
            have hFqa84_15 : F15 (qa 8 4) = cQ (cy 8) 5 (pR 5 (qa 4)) := by rw [eF15, va_up_ne _ _ (pl_ne hF4 hFm_me rfl)]; exact hF4
            have hFqa85_15 : F15 (qa 8 5) = cQ (cy 4) 4 (pR 4 (qa 6)) := by rw [eF15, va_up_ne _ _ (pl_ne hF5 hFm_me rfl)]; exact hF5
            have hFqa86_15 : F15 (qa 8 6) = cI (cy 1) 6 Xx.2 := by rw [eF15, va_up_ne _ _ (pl_ne hFf hFm_me rfl)]; exact hFf
            have hFqa0j_me_15 : F15 (qa 0 j_me) = .inr (4, [.int ln, .long nm_me, .double r14]) := by rw [eF15]; exact va_up_self _ _ _
            refine lv_iconst (v := 1) hx hb dX8_set_72 (by decide) ?_
            exact W.iret (v := 1) hx hb hr (fun t ht hW => ⟨⟨1, F15, rfl, (by have hsp : sp_set Mm (nI j_me) ln (lN n) = (1, setM Mm j_me ln (if ln = 0 ∨ ln = 2 then (lN n).toInt32.toInt64 else lN n)) := (by unfold sp_set; rw [hi_me]; show (if _ then _ else _) = _; rw [if_pos hlB, if_pos (by rw [hl0]; exact (set_3 (nm := 0) hn hgood).2)]); rw [hsp]; exact ⟨rfl, (by rw [eF15, hr14, hl0]; exact hR.meter hj_me (set_3 hn hgood).1)⟩), (by show va_P _ _ _ t.heap; rw [ht]; exact hP)⟩, hS.F ht⟩) hS.2.2 dX8_set_73
          · have hbad : ¬ n % 2 ^ 63 ≤ 9218868437227405312 := fun q => by have hc := c13; rw [hr12, if_pos q] at hc; exact absurd hc (by decide)
            refine lv_sipush (v := -1002) hx hb dX8_set_56 (by decide) ?_
            exact W.iret (v := -1002) hx hb hr (fun t ht hW => ⟨⟨-1002, F, rfl, (by have hsp : sp_set Mm (nI j_me) ln (lN n) = (-1002, Mm) := (by unfold sp_set; rw [hi_me]; show (if _ then _ else _) = _; rw [if_pos hlB, if_neg (by rw [hl0]; exact numB3 hn hbad)]); rw [hsp]; exact ⟨rfl, hR⟩), (by show va_P _ _ _ t.heap; rw [ht]; exact hP)⟩, hS.F ht⟩) hS.2.2 dX8_set_59
      · refine lv_aload hx hb dX8_set_32 (lv_at hl 0 rfl) ?_
        refine lv_iload_n hx hb dX8_set_34 rfl (lv_at hl 3 rfl) ?_
        refine lv_lload_n hx hb dX8_set_35 rfl (lv_at hl 4 rfl) ?_
        refine va_callv (va_runV (As := [.int ln, .long (lN n)]) (rest := []) ⟨hx, hb, hml, hown, hts⟩ (c_holdWhole l G cy L F s.heap.size (qa 0 j_me) (Mm.1 j_me) nm_me rl_me hmm_me hFm_me ln (lN n)) (cwV 2 hts gX8_set_X4_holdWhole rfl rfl rfl (by decide +kernel) ⟨Nat.le_of_ble_eq_true rfl, Nat.le_of_ble_eq_true rfl⟩) (preV_of okQ (⟨rfl, hP, hK, hD.top⟩) (pl_recv hK hP (ci := 4) rfl hmm_me hFm_me)) rfl rfl hl.1 rfl (lv_room (Nat.le_of_ble_eq_true rfl)) dX8_set_36 ⟨Nat.le_of_ble_eq_true rfl, Nat.le_of_ble_eq_true rfl⟩) hS (fun q _ h => pl_free hD hS hA q h) (pl_free hD hS hA) (fun F16 t H1 locs ht hvm hw hP1 hz1 hk1 hS => ?_)
        have hP1 : va_P G vwCl (va_pl L F16) t.heap := hP1
        rw [ht] at hP1
        have hP := hP1
        generalize H1 = H at hP hS ⊢
        have eF16 : F16 = va_up F (qa 0 j_me) (.inr (4, [.int ln, .long (q_holdW ln (lN n)), .double rl_me])) := hw
        have hFo_16 : F16 o = .inr (7, [.ref (qa 8 0), .ref (qa 8 1), .ref (qa 8 2), .ref (qa 8 3), .ref (qa 8 4), .ref (qa 8 5), .ref (qa 8 6), .int Pp.1, .int Xx.1]) := by rw [eF16, va_up_ne _ _ (pl_ne hFo hFm_me rfl)]; exact hFo
        have hFqa80_16 : F16 (qa 8 0) = cQ (cy 7) 10 (pR 10 (qa 0)) := by rw [eF16, va_up_ne _ _ (pl_ne hF0 hFm_me rfl)]; exact hF0
        have hFqa81_16 : F16 (qa 8 1) = cQ (cy 5) 6 (pR 6 (qa 1)) := by rw [eF16, va_up_ne _ _ (pl_ne hF1 hFm_me rfl)]; exact hF1
        have hFqa82_16 : F16 (qa 8 2) = cQ (cy 6) 8 (pR 8 (qa 2)) := by rw [eF16, va_up_ne _ _ (pl_ne hF2 hFm_me rfl)]; exact hF2
        have hFqa83_16 : F16 (qa 8 3) = cQ (cy 9) 30 (pR Pp.1.toInt.toNat (qa 7)) := by rw [eF16, va_up_ne _ _ (pl_ne hFs hFm_me rfl)]; exact hFs
        have hFqa84_16 : F16 (qa 8 4) = cQ (cy 8) 5 (pR 5 (qa 4)) := by rw [eF16, va_up_ne _ _ (pl_ne hF4 hFm_me rfl)]; exact hF4
        have hFqa85_16 : F16 (qa 8 5) = cQ (cy 4) 4 (pR 4 (qa 6)) := by rw [eF16, va_up_ne _ _ (pl_ne hF5 hFm_me rfl)]; exact hF5
        have hFqa86_16 : F16 (qa 8 6) = cI (cy 1) 6 Xx.2 := by rw [eF16, va_up_ne _ _ (pl_ne hFf hFm_me rfl)]; exact hFf
        have hFqa0j_me_16 : F16 (qa 0 j_me) = .inr (4, [.int ln, .long (q_holdW ln (lN n)), .double rl_me]) := by rw [eF16]; exact va_up_self _ _ _
        refine lv_iconst (v := 1) hx hb dX8_set_39 (by decide) ?_
        exact W.iret (v := 1) hx hb hr (fun t ht hW => ⟨⟨1, F16, rfl, (by have hsp : sp_set Mm (nI j_me) ln (lN n) = (1, setM Mm j_me ln (if ln = 0 ∨ ln = 2 then (lN n).toInt32.toInt64 else lN n)) := (by unfold sp_set; rw [hi_me]; show (if _ then _ else _) = _; rw [if_pos hlB, if_pos (set_w (nm := 0) (lane01 hlB c5) hok_me.ne).2]); rw [hsp]; exact ⟨rfl, (by rw [eF16]; exact hR.meter hj_me (set_w (nm := 0) (lane01 hlB c5) hok_me.ne).1)⟩), (by show va_P _ _ _ t.heap; rw [ht]; exact hP)⟩, hS.F ht⟩) hS.2.2 dX8_set_40
    · refine lv_sipush (v := -1002) hx hb dX8_set_23 (by decide) ?_
      exact W.iret (v := -1002) hx hb hr (fun t ht hW => ⟨⟨-1002, F, rfl, (by have hsp : sp_set Mm (nI j_me) ln (lN n) = (-1002, Mm) := (by unfold sp_set; rw [hi_me]; exact if_neg (by rw [laneB_q, ← hr3, c4]; decide)); rw [hsp]; exact ⟨rfl, hR⟩), (by show va_P _ _ _ t.heap; rw [ht]; exact hP)⟩, hS.F ht⟩) hS.2.2 dX8_set_26

theorem mx_eq (a b : Int32) : (if a < b then b else a) = mx a b := by
  unfold mx
  by_cases h : a < b
  · rw [if_pos h]
    by_cases h2 : b < a
    · rw [fa_lt] at h h2; omega
    · rw [if_neg h2]
  · rw [if_neg h]
    by_cases h2 : b < a
    · rw [if_pos h2]
    · rw [if_neg h2, fa_eq]
      rw [fa_lt] at h h2
      omega
theorem okM.lane {ln : Int32} {b nm : Int64} {rl : UInt64} (h : okM ln b nm rl) : ln = 0 ∨ ln = 1 ∨ ln = 2 ∨ ln = 3 := by
  obtain ⟨-, h | h | h | h⟩ := h
  · exact Or.inl h.1
  · exact Or.inr (Or.inl h.1)
  · exact Or.inr (Or.inr (Or.inl h.1))
  · exact Or.inr (Or.inr (Or.inr h.1))
theorem real_tn {ln : Int32} {b nm : Int64} {rl : UInt64} {m : Int32} (h : okM ln b nm rl) (hm : m = 2 ∨ m = 3) : q_asReal ln nm rl m = db (tn m (tn ln b m) 3) ∧ FP.Core.val64 (q_asReal ln nm rl m) ≠ .nan := by
  rcases hm with rfl | rfl
  · have ht := turn_ok (to := 2) h (by decide)
    have e : q_turnR ln nm rl 2 = q_asReal ln nm rl 2 := by simp [q_turnR]
    rw [e] at ht
    obtain ⟨h1, ⟨h2, -⟩ | ⟨h2, -⟩ | ⟨-, h2, h3, h4⟩ | ⟨h2, -⟩⟩ := ht
    · exact absurd h2 (by decide)
    · exact absurd h2 (by decide)
    · refine ⟨?_, h1⟩
      rw [h4]
      simp [tn, db_u]
    · exact absurd h2 (by decide)
  · have ht := turn_ok (to := 3) h (by decide)
    have e : q_turnR ln nm rl 3 = q_asReal ln nm rl 3 := by simp [q_turnR]
    rw [e] at ht
    obtain ⟨h1, ⟨h2, -⟩ | ⟨h2, -⟩ | ⟨h2, -⟩ | ⟨-, h3, h4⟩⟩ := ht
    · exact absurd h2 (by decide)
    · exact absurd h2 (by decide)
    · exact absurd h2 (by decide)
    · refine ⟨?_, h1⟩
      rw [h4]
      simp [tn]
theorem real_2 {ln : Int32} {b nm : Int64} {rl : UInt64} (h : okM ln b nm rl) : q_asReal ln nm rl 2 = FP.f2d (fl (tn ln b 2)) ∧ FP.Core.val32 (fl (tn ln b 2)) ≠ .nan ∧ q_asFloat ln nm rl = fl (tn ln b 2) := by
  have ht := turn_ok (to := 2) h (by decide)
  have e : q_turnR ln nm rl 2 = q_asReal ln nm rl 2 := by simp [q_turnR]
  rw [e] at ht
  obtain ⟨h1, ⟨h2, -⟩ | ⟨h2, -⟩ | ⟨-, h2, h3, h4⟩ | ⟨h2, -⟩⟩ := ht
  · exact absurd h2 (by decide)
  · exact absurd h2 (by decide)
  · refine ⟨h4, h3, ?_⟩
    have e2 : q_asReal ln nm rl 2 = FP.f2d (q_asFloat ln nm rl) := by simp [q_asReal]
    rw [e2] at h4
    have := congrArg FP.d2f h4
    rw [d2f_f2d' h3, d2f_f2d' (asFloat_ok h.ne)] at this
    exact this
  · exact absurd h2 (by decide)
theorem real_3 {ln : Int32} {b nm : Int64} {rl : UInt64} (h : okM ln b nm rl) : q_asReal ln nm rl 3 = db (tn ln b 3) ∧ FP.Core.val64 (db (tn ln b 3)) ≠ .nan ∧ q_asDouble ln nm rl = db (tn ln b 3) := by
  have ht := turn_ok (to := 3) h (by decide)
  have e : q_turnR ln nm rl 3 = q_asReal ln nm rl 3 := by simp [q_turnR]
  rw [e] at ht
  obtain ⟨h1, ⟨h2, -⟩ | ⟨h2, -⟩ | ⟨h2, -⟩ | ⟨-, h3, h4⟩⟩ := ht
  · exact absurd h2 (by decide)
  · exact absurd h2 (by decide)
  · exact absurd h2 (by decide)
  · refine ⟨h4, h3, ?_⟩
    have e2 : q_asReal ln nm rl 3 = q_asDouble ln nm rl := by simp [q_asReal]
    rw [e2] at h4
    exact h4
theorem mx_v {a b : Int32} (ha : a = 0 ∨ a = 1 ∨ a = 2 ∨ a = 3) (hb : b = 0 ∨ b = 1 ∨ b = 2 ∨ b = 3) : (¬ (1 : Int32) < mx a b → (mx a b = 0 ∨ mx a b = 1) ∧ mx a b < 2 ∧ (a = 0 ∨ a = 1) ∧ (b = 0 ∨ b = 1)) ∧ ((1 : Int32) < mx a b → (mx a b = 2 ∨ mx a b = 3) ∧ ¬ mx a b < 2) := by
  rcases ha with rfl | rfl | rfl | rfl <;> rcases hb with rfl | rfl | rfl | rfl <;> decide
theorem long_tn {ln l2 : Int32} {b nm : Int64} {rl : UInt64} (h : okM ln b nm rl) (h1 : ln = 0 ∨ ln = 1) (h2 : l2 = 0 ∨ l2 = 1) : q_asLong ln nm rl = tn ln b (mx ln l2) ∧ q_asLong ln nm rl = tn ln b (mx l2 ln) := by
  have hb : nm = b := by
    obtain ⟨-, h | h | h | h⟩ := h
    · exact h.2.2
    · exact h.2
    · rcases h1 with q | q <;> rw [q] at h <;> exact absurd h.1 (by decide)
    · rcases h1 with q | q <;> rw [q] at h <;> exact absurd h.1 (by decide)
  subst hb
  rcases h1 with rfl | rfl <;> rcases h2 with rfl | rfl <;> exact ⟨by simp [q_asLong, q_isWhole, tn, mx], by simp [q_asLong, q_isWhole, tn, mx]⟩

set_option maxHeartbeats 8000000 in
set_option maxRecDepth 100000 in
theorem m_compare (l : Launch) (G : va_G) (cy : Nat → ClassId) (L : List Nat) (F : Nat → va_E) (ad : Nat → Nat) (sz : Nat) (o : Nat) (qa : Nat → Nat → Nat) (Mm : SM) (Dd : SD) (Sl : SL) (Pp : SP) (Kr : SR) (Bk : SB) (Xx : SX) (hR : Rep cy L o qa Mm Dd Sl Pp Kr Bk Xx F) (x y : Int32)  : Met l yX8_compare wsX8_compare ({ frames := 3, cells := 0, slots := 0, locals := 61 }) (va_Pc [.ref o, .int x, .int y] (fun U => bQE G cy L F ad sz U U.heap)) (va_Qi (fun (r : Int32) (F' : Nat → va_E) => r = sp_cmp Mm x y ∧ Rep cy L o qa Mm Dd Sl Pp Kr Bk Xx F') (fun F' t => va_P G vwCl (va_pl L F') t.heap) (va_A (va_pl L F) sz)) 0 0 (va_A (va_pl L F) sz) := by
  refine Met.ofW (cc := cX8_compare) (maxL := 10) (ret := (some .int)) (by decide) rfl ?_
  intro p e s m args below meth c s₁ B hml hv
  obtain ⟨rfl, ⟨hsz, hP, hK, hD0⟩, hE, hN⟩ := hv
  have hx := B.exec
  have hb := B.bytes
  have hr := B.returns
  have hts := atoms_spec (ws := wsX8_compare) B.pre
  have hown : s.vm.findClass RX8 = some m.cls := findClass_of_methodNamed B.named
  have hlocks := B.notSynchronized
  have hinX8 : ∀ w ∈ wsX80, w ∈ wsX8_compare := by decide +kernel
  have hinX4 : ∀ w ∈ wsX40, w ∈ wsX8_compare := by decide +kernel
  subst hsz
  have hD := hD0.self F s.heap.size
  generalize hAe : va_A (va_pl L F) s.heap.size = A at hD hE ⊢
  have hA : ∀ q : Nat, s.heap.size ≤ q → A q := fun q h => by rw [← hAe]; exact Or.inr h
  have hS : va_S A s.heap s.heap [] := va_S.rf
  obtain ⟨⟨⟨hmo, hFo⟩, ⟨hmf, hFf⟩, hms, hFs⟩, ⟨⟨hm0, hF0⟩, ⟨hm1, hF1⟩, ⟨hm2, hF2⟩, ⟨hm4, hF4⟩, hm5, hF5⟩, hRM, hRD, hRG, hRP, hRR, hRB, hRI⟩ := id hR
  have hl := lv_entry ([.ref o, .int x, .int y]) (n := 10) (Nat.le_of_ble_eq_true rfl)
  rw [lg_entry_eq]
  generalize (lg_sl ([.ref o, .int x, .int y]) ++ List.replicate (10 - (lg_sl ([.ref o, .int x, .int y])).length) Slot.unset).toArray = ls at hl ⊢
  have hl : lv_has ls 10 [(0, .ref o), (1, .int x), (2, .int y)] := hl
  rcases ixc 10 x with hi_x | ⟨j_x, hj_x, hi_x, ei_x⟩
  · rcases ixc 10 y with hi_y | ⟨j_y, hj_y, hi_y, ei_y⟩
    · refine lv_aload_n hx hb dX8_compare_0 rfl (lv_at hl 0 rfl) ?_
      refine lv_iload_n hx hb dX8_compare_1 rfl (lv_at hl 1 rfl) ?_
      refine va_csq (W.runV (As := [.int x]) (rest := []) ⟨hx, hb, hml, hown, hts⟩ (c_meterOf_no l G cy L F o qa Mm Dd Sl Pp Kr Bk Xx hR x hi_x) (cwV 1 hts gX8_compare_X8_meterOf rfl rfl rfl (by decide +kernel) ⟨Nat.le_of_ble_eq_true rfl, Nat.le_of_ble_eq_true rfl⟩) (preV_of okP (⟨hP, hK, hD.top⟩) (pl_recv hK hP (ci := 7) rfl hmo hFo)) rfl rfl hl.1 rfl (lv_room (Nat.le_of_ble_eq_true rfl)) dX8_compare_2 ⟨Nat.le_of_ble_eq_true rfl, Nat.le_of_ble_eq_true rfl⟩) (fun r1 hr1 => ?_)
      subst hr1
      refine W.eq (g2 := F0 m 5 ls [.null]) rfl ?_
      refine lv_astore_nN (lv' := [(3, .null), (0, .ref o), (1, .int x), (2, .int y)]) hx hb dX8_compare_5 rfl hl (by decide) rfl (fun ls hl => ?_)
      refine lv_aload_n hx hb dX8_compare_6 rfl (lv_at hl 1 rfl) ?_
      refine lv_iload_n hx hb dX8_compare_7 rfl (lv_at hl 3 rfl) ?_
      refine va_csq (W.runV (As := [.int y]) (rest := []) ⟨hx, hb, hml, hown, hts⟩ (c_meterOf_no l G cy L F o qa Mm Dd Sl Pp Kr Bk Xx hR y hi_y) (cwV 1 hts gX8_compare_X8_meterOf rfl rfl rfl (by decide +kernel) ⟨Nat.le_of_ble_eq_true rfl, Nat.le_of_ble_eq_true rfl⟩) (preV_of okP (⟨hP, hK, hD.top⟩) (pl_recv hK hP (ci := 7) rfl hmo hFo)) rfl rfl hl.1 rfl (lv_room (Nat.le_of_ble_eq_true rfl)) dX8_compare_8 ⟨Nat.le_of_ble_eq_true rfl, Nat.le_of_ble_eq_true rfl⟩) (fun r2 hr2 => ?_)
      subst hr2
      refine W.eq (g2 := F0 m 11 ls [.null]) rfl ?_
      refine lv_astoreN (lv' := [(4, .null), (3, .null), (0, .ref o), (1, .int x), (2, .int y)]) hx hb dX8_compare_11 hl (by decide) rfl (fun ls hl => ?_)
      refine lv_aload_nN hx hb dX8_compare_13 rfl (lv_at hl 1 rfl) ?_
      refine lv_ifnullN (tgt := 22) hx hb dX8_compare_14 (by decide) ?_
      refine lv_sipush (v := -1001) hx hb dX8_compare_22 (by decide) ?_
      exact W.iret (v := -1001) hx hb hr (fun t ht hW => ⟨⟨-1001, F, rfl, ⟨by unfold sp_cmp; rw [hi_x], hR⟩, (by show va_P _ _ _ t.heap; rw [ht]; exact hP)⟩, hS.F ht⟩) hS.2.2 dX8_compare_25
    · subst ei_y
      obtain ⟨hmm_y, nm_y, rl_y, hFm_y, hok_y⟩ := hRM j_y hj_y
      refine lv_aload_n hx hb dX8_compare_0 rfl (lv_at hl 0 rfl) ?_
      refine lv_iload_n hx hb dX8_compare_1 rfl (lv_at hl 1 rfl) ?_
      refine va_csq (W.runV (As := [.int x]) (rest := []) ⟨hx, hb, hml, hown, hts⟩ (c_meterOf_no l G cy L F o qa Mm Dd Sl Pp Kr Bk Xx hR x hi_x) (cwV 1 hts gX8_compare_X8_meterOf rfl rfl rfl (by decide +kernel) ⟨Nat.le_of_ble_eq_true rfl, Nat.le_of_ble_eq_true rfl⟩) (preV_of okP (⟨hP, hK, hD.top⟩) (pl_recv hK hP (ci := 7) rfl hmo hFo)) rfl rfl hl.1 rfl (lv_room (Nat.le_of_ble_eq_true rfl)) dX8_compare_2 ⟨Nat.le_of_ble_eq_true rfl, Nat.le_of_ble_eq_true rfl⟩) (fun r3 hr3 => ?_)
      subst hr3
      refine W.eq (g2 := F0 m 5 ls [.null]) rfl ?_
      refine lv_astore_nN (lv' := [(3, .null), (0, .ref o), (1, .int x), (2, .int (nI j_y))]) hx hb dX8_compare_5 rfl hl (by decide) rfl (fun ls hl => ?_)
      refine lv_aload_n hx hb dX8_compare_6 rfl (lv_at hl 1 rfl) ?_
      refine lv_iload_n hx hb dX8_compare_7 rfl (lv_at hl 3 rfl) ?_
      refine va_csq (W.runV (As := [.int (nI j_y)]) (rest := []) ⟨hx, hb, hml, hown, hts⟩ (c_meterOf l G cy L F o qa Mm Dd Sl Pp Kr Bk Xx hR j_y hj_y) (cwV 1 hts gX8_compare_X8_meterOf rfl rfl rfl (by decide +kernel) ⟨Nat.le_of_ble_eq_true rfl, Nat.le_of_ble_eq_true rfl⟩) (preV_of okP (⟨hP, hK, hD.top⟩) (pl_recv hK hP (ci := 7) rfl hmo hFo)) rfl rfl hl.1 rfl (lv_room (Nat.le_of_ble_eq_true rfl)) dX8_compare_8 ⟨Nat.le_of_ble_eq_true rfl, Nat.le_of_ble_eq_true rfl⟩) (fun r4 hr4 => ?_)
      subst hr4
      refine W.eq (g2 := F0 m 11 ls [.ref (qa 0 j_y)]) rfl ?_
      refine lv_astore (lv' := [(4, .ref (qa 0 j_y)), (3, .null), (0, .ref o), (1, .int x), (2, .int (nI j_y))]) hx hb dX8_compare_11 hl (by decide) rfl (fun ls hl => ?_)
      refine lv_aload_nN hx hb dX8_compare_13 rfl (lv_at hl 1 rfl) ?_
      refine lv_ifnullN (tgt := 22) hx hb dX8_compare_14 (by decide) ?_
      refine lv_sipush (v := -1001) hx hb dX8_compare_22 (by decide) ?_
      exact W.iret (v := -1001) hx hb hr (fun t ht hW => ⟨⟨-1001, F, rfl, ⟨by unfold sp_cmp; rw [hi_x], hR⟩, (by show va_P _ _ _ t.heap; rw [ht]; exact hP)⟩, hS.F ht⟩) hS.2.2 dX8_compare_25
  · subst ei_x
    obtain ⟨hmm_x, nm_x, rl_x, hFm_x, hok_x⟩ := hRM j_x hj_x
    rcases ixc 10 y with hi_y | ⟨j_y, hj_y, hi_y, ei_y⟩
    · refine lv_aload_n hx hb dX8_compare_0 rfl (lv_at hl 0 rfl) ?_
      refine lv_iload_n hx hb dX8_compare_1 rfl (lv_at hl 1 rfl) ?_
      refine va_csq (W.runV (As := [.int (nI j_x)]) (rest := []) ⟨hx, hb, hml, hown, hts⟩ (c_meterOf l G cy L F o qa Mm Dd Sl Pp Kr Bk Xx hR j_x hj_x) (cwV 1 hts gX8_compare_X8_meterOf rfl rfl rfl (by decide +kernel) ⟨Nat.le_of_ble_eq_true rfl, Nat.le_of_ble_eq_true rfl⟩) (preV_of okP (⟨hP, hK, hD.top⟩) (pl_recv hK hP (ci := 7) rfl hmo hFo)) rfl rfl hl.1 rfl (lv_room (Nat.le_of_ble_eq_true rfl)) dX8_compare_2 ⟨Nat.le_of_ble_eq_true rfl, Nat.le_of_ble_eq_true rfl⟩) (fun r5 hr5 => ?_)
      subst hr5
      refine W.eq (g2 := F0 m 5 ls [.ref (qa 0 j_x)]) rfl ?_
      refine lv_astore_n (lv' := [(3, .ref (qa 0 j_x)), (0, .ref o), (1, .int (nI j_x)), (2, .int y)]) hx hb dX8_compare_5 rfl hl (by decide) rfl (fun ls hl => ?_)
      refine lv_aload_n hx hb dX8_compare_6 rfl (lv_at hl 1 rfl) ?_
      refine lv_iload_n hx hb dX8_compare_7 rfl (lv_at hl 3 rfl) ?_
      refine va_csq (W.runV (As := [.int y]) (rest := []) ⟨hx, hb, hml, hown, hts⟩ (c_meterOf_no l G cy L F o qa Mm Dd Sl Pp Kr Bk Xx hR y hi_y) (cwV 1 hts gX8_compare_X8_meterOf rfl rfl rfl (by decide +kernel) ⟨Nat.le_of_ble_eq_true rfl, Nat.le_of_ble_eq_true rfl⟩) (preV_of okP (⟨hP, hK, hD.top⟩) (pl_recv hK hP (ci := 7) rfl hmo hFo)) rfl rfl hl.1 rfl (lv_room (Nat.le_of_ble_eq_true rfl)) dX8_compare_8 ⟨Nat.le_of_ble_eq_true rfl, Nat.le_of_ble_eq_true rfl⟩) (fun r6 hr6 => ?_)
      subst hr6
      refine W.eq (g2 := F0 m 11 ls [.null]) rfl ?_
      refine lv_astoreN (lv' := [(4, .null), (3, .ref (qa 0 j_x)), (0, .ref o), (1, .int (nI j_x)), (2, .int y)]) hx hb dX8_compare_11 hl (by decide) rfl (fun ls hl => ?_)
      refine lv_aload_n hx hb dX8_compare_13 rfl (lv_at hl 1 rfl) ?_
      refine lv_ifnull hx hb dX8_compare_14 ?_
      refine lv_aloadN hx hb dX8_compare_17 (lv_at hl 0 rfl) ?_
      refine lv_ifnonnullN hx hb dX8_compare_19 ?_
      refine lv_sipush (v := -1001) hx hb dX8_compare_22 (by decide) ?_
      exact W.iret (v := -1001) hx hb hr (fun t ht hW => ⟨⟨-1001, F, rfl, ⟨by unfold sp_cmp; rw [hi_x, hi_y], hR⟩, (by show va_P _ _ _ t.heap; rw [ht]; exact hP)⟩, hS.F ht⟩) hS.2.2 dX8_compare_25
    · subst ei_y
      obtain ⟨hmm_y, nm_y, rl_y, hFm_y, hok_y⟩ := hRM j_y hj_y
      refine lv_aload_n hx hb dX8_compare_0 rfl (lv_at hl 0 rfl) ?_
      refine lv_iload_n hx hb dX8_compare_1 rfl (lv_at hl 1 rfl) ?_
      refine va_csq (W.runV (As := [.int (nI j_x)]) (rest := []) ⟨hx, hb, hml, hown, hts⟩ (c_meterOf l G cy L F o qa Mm Dd Sl Pp Kr Bk Xx hR j_x hj_x) (cwV 1 hts gX8_compare_X8_meterOf rfl rfl rfl (by decide +kernel) ⟨Nat.le_of_ble_eq_true rfl, Nat.le_of_ble_eq_true rfl⟩) (preV_of okP (⟨hP, hK, hD.top⟩) (pl_recv hK hP (ci := 7) rfl hmo hFo)) rfl rfl hl.1 rfl (lv_room (Nat.le_of_ble_eq_true rfl)) dX8_compare_2 ⟨Nat.le_of_ble_eq_true rfl, Nat.le_of_ble_eq_true rfl⟩) (fun r7 hr7 => ?_)
      subst hr7
      refine W.eq (g2 := F0 m 5 ls [.ref (qa 0 j_x)]) rfl ?_
      refine lv_astore_n (lv' := [(3, .ref (qa 0 j_x)), (0, .ref o), (1, .int (nI j_x)), (2, .int (nI j_y))]) hx hb dX8_compare_5 rfl hl (by decide) rfl (fun ls hl => ?_)
      refine lv_aload_n hx hb dX8_compare_6 rfl (lv_at hl 1 rfl) ?_
      refine lv_iload_n hx hb dX8_compare_7 rfl (lv_at hl 3 rfl) ?_
      refine va_csq (W.runV (As := [.int (nI j_y)]) (rest := []) ⟨hx, hb, hml, hown, hts⟩ (c_meterOf l G cy L F o qa Mm Dd Sl Pp Kr Bk Xx hR j_y hj_y) (cwV 1 hts gX8_compare_X8_meterOf rfl rfl rfl (by decide +kernel) ⟨Nat.le_of_ble_eq_true rfl, Nat.le_of_ble_eq_true rfl⟩) (preV_of okP (⟨hP, hK, hD.top⟩) (pl_recv hK hP (ci := 7) rfl hmo hFo)) rfl rfl hl.1 rfl (lv_room (Nat.le_of_ble_eq_true rfl)) dX8_compare_8 ⟨Nat.le_of_ble_eq_true rfl, Nat.le_of_ble_eq_true rfl⟩) (fun r8 hr8 => ?_)
      subst hr8
      refine W.eq (g2 := F0 m 11 ls [.ref (qa 0 j_y)]) rfl ?_
      refine lv_astore (lv' := [(4, .ref (qa 0 j_y)), (3, .ref (qa 0 j_x)), (0, .ref o), (1, .int (nI j_x)), (2, .int (nI j_y))]) hx hb dX8_compare_11 hl (by decide) rfl (fun ls hl => ?_)
      refine lv_aload_n hx hb dX8_compare_13 rfl (lv_at hl 1 rfl) ?_
      refine lv_ifnull hx hb dX8_compare_14 ?_
      refine lv_aload hx hb dX8_compare_17 (lv_at hl 0 rfl) ?_
      refine lv_ifnonnull (tgt := 26) hx hb dX8_compare_19 (by decide) ?_
      refine lv_aload_n hx hb dX8_compare_26 rfl (lv_at hl 1 rfl) ?_
      refine pg_get (ci := 4) (C := RX4) (T := TX4) (N := 3) hx hb hts hinX4 hown hK hP hmm_x hFm_x rfl 0 (by decide) (hts (.fieldLink RX8 103 "RopeDrums$Meter" "lane" "I") (by decide +kernel)) (fun _ h9 => h9) rfl dX8_compare_27 ?_
      refine lv_aload hx hb dX8_compare_30 (lv_at hl 0 rfl) ?_
      refine pg_get (ci := 4) (C := RX4) (T := TX4) (N := 3) hx hb hts hinX4 hown hK hP hmm_y hFm_y rfl 0 (by decide) (hts (.fieldLink RX8 103 "RopeDrums$Meter" "lane" "I") (by decide +kernel)) (fun _ h9 => h9) rfl dX8_compare_32 ?_
      refine va_mmax hx hb (by rw [hml]; exact hl.1.symm) hown (hts (.methodLink RX8 117 Lib.Math.max.name) (by decide +kernel)) (hts (.static Lib.Math.max.name) (by decide +kernel)) (hts (.initialized "java/lang/Math") (by decide +kernel)) (hts (.code Lib.Math.max.name Lib.Math.max.code 2 (some .int)) (by decide +kernel)) (Nat.le_of_ble_eq_true rfl) (Nat.le_of_ble_eq_true rfl) (Nat.zero_le _) (Nat.zero_le _) dX8_compare_35 ?_
      refine lv_topi (fun v9 ev9 => ?_)
      rw [mx_eq] at ev9
      subst ev9
      have hmx := mx_v hok_x.lane hok_y.lane
      refine lv_istore (lv' := [(5, .int (mx (Mm.1 j_x) (Mm.1 j_y))), (4, .ref (qa 0 j_y)), (3, .ref (qa 0 j_x)), (0, .ref o), (1, .int (nI j_x)), (2, .int (nI j_y))]) hx hb dX8_compare_38 hl (by decide) rfl (fun ls hl => ?_)
      refine lv_iload hx hb dX8_compare_40 (lv_at hl 0 rfl) ?_
      refine lv_iconst (v := 1) hx hb dX8_compare_42 (by decide) ?_
      refine lv_icmp_gt (tgt := 85) hx hb dX8_compare_43 (by decide) (fun c10 => ?_) (fun c10 => ?_)
      · refine lv_aload_n hx hb dX8_compare_85 rfl (lv_at hl 2 rfl) ?_
        refine lv_iload hx hb dX8_compare_86 (lv_at hl 0 rfl) ?_
        refine vp_callSd (W.runV (As := [.int (mx (Mm.1 j_x) (Mm.1 j_y))]) (rest := []) ⟨hx, hb, hml, hown, hts⟩ (c_asReal l G cy L F (qa 0 j_x) (Mm.1 j_x) nm_x rl_x hmm_x hFm_x (mx (Mm.1 j_x) (Mm.1 j_y)) hok_x.ne) (cwV 1 hts gX8_compare_X4_asReal rfl rfl rfl (by decide +kernel) ⟨Nat.le_of_ble_eq_true rfl, Nat.le_of_ble_eq_true rfl⟩) (preV_of okP (⟨hP, hK, hD.top⟩) (pl_recv hK hP (ci := 4) rfl hmm_x hFm_x)) rfl rfl hl.1 rfl (lv_room (Nat.le_of_ble_eq_true rfl)) dX8_compare_88 ⟨Nat.le_of_ble_eq_true rfl, Nat.le_of_ble_eq_true rfl⟩) (fun r11 hr11 => ?_)
        refine lv_dstore (lv' := [(6, .double r11), (5, .int (mx (Mm.1 j_x) (Mm.1 j_y))), (4, .ref (qa 0 j_y)), (3, .ref (qa 0 j_x)), (0, .ref o), (1, .int (nI j_x)), (2, .int (nI j_y))]) hx hb dX8_compare_91 hl (by decide) rfl (fun ls hl => ?_)
        refine lv_aload hx hb dX8_compare_93 (lv_at hl 2 rfl) ?_
        refine lv_iload hx hb dX8_compare_95 (lv_at hl 1 rfl) ?_
        refine vp_callSd (W.runV (As := [.int (mx (Mm.1 j_x) (Mm.1 j_y))]) (rest := []) ⟨hx, hb, hml, hown, hts⟩ (c_asReal l G cy L F (qa 0 j_y) (Mm.1 j_y) nm_y rl_y hmm_y hFm_y (mx (Mm.1 j_x) (Mm.1 j_y)) hok_y.ne) (cwV 1 hts gX8_compare_X4_asReal rfl rfl rfl (by decide +kernel) ⟨Nat.le_of_ble_eq_true rfl, Nat.le_of_ble_eq_true rfl⟩) (preV_of okP (⟨hP, hK, hD.top⟩) (pl_recv hK hP (ci := 4) rfl hmm_y hFm_y)) rfl rfl hl.1 rfl (lv_room (Nat.le_of_ble_eq_true rfl)) dX8_compare_97 ⟨Nat.le_of_ble_eq_true rfl, Nat.le_of_ble_eq_true rfl⟩) (fun r12 hr12 => ?_)
        refine lv_dstore (lv' := [(8, .double r12), (6, .double r11), (5, .int (mx (Mm.1 j_x) (Mm.1 j_y))), (4, .ref (qa 0 j_y)), (3, .ref (qa 0 j_x)), (0, .ref o), (1, .int (nI j_x)), (2, .int (nI j_y))]) hx hb dX8_compare_100 hl (by decide) rfl (fun ls hl => ?_)
        refine lv_dload hx hb dX8_compare_102 (lv_at hl 1 rfl) ?_
        refine lv_dload hx hb dX8_compare_104 (lv_at hl 0 rfl) ?_
        refine lv_dcmp hx hb dX8_compare_106 ?_
        refine lv_if_ge (tgt := 114) hx hb dX8_compare_107 (by decide) (fun c13 => ?_) (fun c13 => ?_)
        · refine lv_dload hx hb dX8_compare_114 (lv_at hl 1 rfl) ?_
          refine lv_dload hx hb dX8_compare_116 (lv_at hl 0 rfl) ?_
          refine lv_dcmp hx hb dX8_compare_118 ?_
          refine lv_if_le (tgt := 126) hx hb dX8_compare_119 (by decide) (fun c14 => ?_) (fun c14 => ?_)
          · refine lv_iconst (v := 0) hx hb dX8_compare_126 (by decide) ?_
            exact W.iret (v := 0) hx hb hr (fun t ht hW => ⟨⟨0, F, rfl, ⟨by unfold sp_cmp; rw [hi_x, hi_y]; show _ = cmpM _ _ _ _; unfold cmpM; rw [if_neg (hmx.2 c10).2, ← (real_tn hok_x (hmx.2 c10).1).1, ← (real_tn hok_y (hmx.2 c10).1).1, ← hr11, ← hr12]; unfold cmpD; have hna := (real_tn hok_x (hmx.2 c10).1).2; have hnb := (real_tn hok_y (hmx.2 c10).1).2; rw [← hr11] at hna; rw [← hr12] at hnb; have hc1 := c13; rw [dcmpk hna hnb, cv_ge] at hc1; have hc2 := c14; rw [dcmpk hna hnb, cv_le] at hc2; rw [if_neg (by omega), if_neg (by omega)], hR⟩, (by show va_P _ _ _ t.heap; rw [ht]; exact hP)⟩, hS.F ht⟩) hS.2.2 dX8_compare_127
          · refine lv_iconst (v := 1) hx hb dX8_compare_122 (by decide) ?_
            refine lv_goto (tgt := 127) hx hb dX8_compare_123 (by decide) ?_
            exact W.iret (v := 1) hx hb hr (fun t ht hW => ⟨⟨1, F, rfl, ⟨by unfold sp_cmp; rw [hi_x, hi_y]; show _ = cmpM _ _ _ _; unfold cmpM; rw [if_neg (hmx.2 c10).2, ← (real_tn hok_x (hmx.2 c10).1).1, ← (real_tn hok_y (hmx.2 c10).1).1, ← hr11, ← hr12]; unfold cmpD; have hna := (real_tn hok_x (hmx.2 c10).1).2; have hnb := (real_tn hok_y (hmx.2 c10).1).2; rw [← hr11] at hna; rw [← hr12] at hnb; have hc1 := c13; rw [dcmpk hna hnb, cv_ge] at hc1; have hc2 := c14; rw [dcmpk hna hnb, cv_le] at hc2; rw [if_neg (by omega), if_pos (by omega)], hR⟩, (by show va_P _ _ _ t.heap; rw [ht]; exact hP)⟩, hS.F ht⟩) hS.2.2 dX8_compare_127
        · refine lv_iconst (v := -1) hx hb dX8_compare_110 (by decide) ?_
          refine lv_goto (tgt := 127) hx hb dX8_compare_111 (by decide) ?_
          exact W.iret (v := -1) hx hb hr (fun t ht hW => ⟨⟨-1, F, rfl, ⟨by unfold sp_cmp; rw [hi_x, hi_y]; show _ = cmpM _ _ _ _; unfold cmpM; rw [if_neg (hmx.2 c10).2, ← (real_tn hok_x (hmx.2 c10).1).1, ← (real_tn hok_y (hmx.2 c10).1).1, ← hr11, ← hr12]; unfold cmpD; have hna := (real_tn hok_x (hmx.2 c10).1).2; have hnb := (real_tn hok_y (hmx.2 c10).1).2; rw [← hr11] at hna; rw [← hr12] at hnb; have hc1 := c13; rw [dcmpk hna hnb, cv_ge] at hc1; rw [if_pos (by omega)], hR⟩, (by show va_P _ _ _ t.heap; rw [ht]; exact hP)⟩, hS.F ht⟩) hS.2.2 dX8_compare_127
      · refine lv_aload_n hx hb dX8_compare_46 rfl (lv_at hl 2 rfl) ?_
        refine vp_callSl (W.runV (As := []) (rest := []) ⟨hx, hb, hml, hown, hts⟩ (c_asLong l G cy L F (qa 0 j_x) (Mm.1 j_x) nm_x rl_x hmm_x hFm_x ) (cwV 0 hts gX8_compare_X4_asLong rfl rfl rfl (by decide +kernel) ⟨Nat.le_of_ble_eq_true rfl, Nat.le_of_ble_eq_true rfl⟩) (preV_of okP (⟨hP, hK, hD.top⟩) (pl_recv hK hP (ci := 4) rfl hmm_x hFm_x)) rfl rfl hl.1 rfl (lv_room (Nat.le_of_ble_eq_true rfl)) dX8_compare_47 ⟨Nat.le_of_ble_eq_true rfl, Nat.le_of_ble_eq_true rfl⟩) (fun r15 hr15 => ?_)
        refine lv_lstore (lv' := [(6, .long r15), (5, .int (mx (Mm.1 j_x) (Mm.1 j_y))), (4, .ref (qa 0 j_y)), (3, .ref (qa 0 j_x)), (0, .ref o), (1, .int (nI j_x)), (2, .int (nI j_y))]) hx hb dX8_compare_50 hl (by decide) rfl (fun ls hl => ?_)
        refine lv_aload hx hb dX8_compare_52 (lv_at hl 2 rfl) ?_
        refine vp_callSl (W.runV (As := []) (rest := []) ⟨hx, hb, hml, hown, hts⟩ (c_asLong l G cy L F (qa 0 j_y) (Mm.1 j_y) nm_y rl_y hmm_y hFm_y ) (cwV 0 hts gX8_compare_X4_asLong rfl rfl rfl (by decide +kernel) ⟨Nat.le_of_ble_eq_true rfl, Nat.le_of_ble_eq_true rfl⟩) (preV_of okP (⟨hP, hK, hD.top⟩) (pl_recv hK hP (ci := 4) rfl hmm_y hFm_y)) rfl rfl hl.1 rfl (lv_room (Nat.le_of_ble_eq_true rfl)) dX8_compare_54 ⟨Nat.le_of_ble_eq_true rfl, Nat.le_of_ble_eq_true rfl⟩) (fun r16 hr16 => ?_)
        refine lv_lstore (lv' := [(8, .long r16), (6, .long r15), (5, .int (mx (Mm.1 j_x) (Mm.1 j_y))), (4, .ref (qa 0 j_y)), (3, .ref (qa 0 j_x)), (0, .ref o), (1, .int (nI j_x)), (2, .int (nI j_y))]) hx hb dX8_compare_57 hl (by decide) rfl (fun ls hl => ?_)
        refine lv_lload hx hb dX8_compare_59 (lv_at hl 1 rfl) ?_
        refine lv_lload hx hb dX8_compare_61 (lv_at hl 0 rfl) ?_
        refine W.lcmp hx hb dX8_compare_63 ?_
        refine lv_if_ge (tgt := 71) hx hb dX8_compare_64 (by decide) (fun c17 => ?_) (fun c17 => ?_)
        · refine lv_lload hx hb dX8_compare_71 (lv_at hl 1 rfl) ?_
          refine lv_lload hx hb dX8_compare_73 (lv_at hl 0 rfl) ?_
          refine W.lcmp hx hb dX8_compare_75 ?_
          refine lv_if_le (tgt := 83) hx hb dX8_compare_76 (by decide) (fun c18 => ?_) (fun c18 => ?_)
          · refine lv_iconst (v := 0) hx hb dX8_compare_83 (by decide) ?_
            exact W.iret (v := 0) hx hb hr (fun t ht hW => ⟨⟨0, F, rfl, ⟨by unfold sp_cmp; rw [hi_x, hi_y]; show _ = cmpM _ _ _ _; unfold cmpM; rw [if_pos (hmx.1 c10).2.1, ← (long_tn hok_x (hmx.1 c10).2.2.1 (hmx.1 c10).2.2.2).1, ← (long_tn hok_y (hmx.1 c10).2.2.2 (hmx.1 c10).2.2.1).2, ← hr15, ← hr16]; unfold cmpL; rw [if_neg (by have hc := c17; rw [lg_cmp_ge, fa_le64] at hc; rw [fa_lt64]; omega), if_neg (by have hc := c18; rw [lg_cmp_le, fa_le64] at hc; rw [fa_lt64]; omega)], hR⟩, (by show va_P _ _ _ t.heap; rw [ht]; exact hP)⟩, hS.F ht⟩) hS.2.2 dX8_compare_84
          · refine lv_iconst (v := 1) hx hb dX8_compare_79 (by decide) ?_
            refine lv_goto (tgt := 84) hx hb dX8_compare_80 (by decide) ?_
            exact W.iret (v := 1) hx hb hr (fun t ht hW => ⟨⟨1, F, rfl, ⟨by unfold sp_cmp; rw [hi_x, hi_y]; show _ = cmpM _ _ _ _; unfold cmpM; rw [if_pos (hmx.1 c10).2.1, ← (long_tn hok_x (hmx.1 c10).2.2.1 (hmx.1 c10).2.2.2).1, ← (long_tn hok_y (hmx.1 c10).2.2.2 (hmx.1 c10).2.2.1).2, ← hr15, ← hr16]; unfold cmpL; rw [if_neg (by have hc := c17; rw [lg_cmp_ge, fa_le64] at hc; rw [fa_lt64]; omega), if_pos (by have hc := c18; rw [lg_cmp_le, fa_le64] at hc; rw [fa_lt64]; omega)], hR⟩, (by show va_P _ _ _ t.heap; rw [ht]; exact hP)⟩, hS.F ht⟩) hS.2.2 dX8_compare_84
        · refine lv_iconst (v := -1) hx hb dX8_compare_67 (by decide) ?_
          refine lv_goto (tgt := 84) hx hb dX8_compare_68 (by decide) ?_
          exact W.iret (v := -1) hx hb hr (fun t ht hW => ⟨⟨-1, F, rfl, ⟨by unfold sp_cmp; rw [hi_x, hi_y]; show _ = cmpM _ _ _ _; unfold cmpM; rw [if_pos (hmx.1 c10).2.1, ← (long_tn hok_x (hmx.1 c10).2.2.1 (hmx.1 c10).2.2.2).1, ← (long_tn hok_y (hmx.1 c10).2.2.2 (hmx.1 c10).2.2.1).2, ← hr15, ← hr16]; unfold cmpL; exact (if_pos (by have hc := c17; rw [lg_cmp_ge] at hc; rw [fa_lt64]; rw [fa_le64] at hc; omega)).symm, hR⟩, (by show va_P _ _ _ t.heap; rw [ht]; exact hP)⟩, hS.F ht⟩) hS.2.2 dX8_compare_84
