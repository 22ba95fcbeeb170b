theorem laneI {x : Int32} (h : laneB x = true) : 0 ≤ x.toInt ∧ x.toInt ≤ 3 := by
  unfold laneB at h
  simpa only [Bool.and_eq_true, decide_eq_true_eq] using h
theorem laneN {x : Int32} (h : ¬ laneB x = true) : ¬ (0 ≤ x.toInt ∧ x.toInt ≤ 3) := fun q => h (by
  unfold laneB
  simpa only [Bool.and_eq_true, decide_eq_true_eq] using q)
theorem isx1 {n : Nat} {x : Int32} {j : Nat} (h : ix n x = some j) : isx n x = 1 := by unfold isx; rw [h]
theorem isx0 {n : Nat} {x : Int32} (h : ix n x = none) : isx n x = 0 := by unfold isx; rw [h]
theorem okV.lane {ln : Int32} {b : Int64} (h : okV ln b) : ln = 0 ∨ ln = 1 ∨ ln = 2 ∨ ln = 3 := by
  rcases h with ⟨h, -⟩ | h | ⟨h, -⟩ | ⟨h, -⟩
  · exact Or.inl h
  · exact Or.inr (Or.inl h)
  · exact Or.inr (Or.inr (Or.inl h))
  · exact Or.inr (Or.inr (Or.inr h))

set_option maxHeartbeats 8000000 in
set_option maxRecDepth 100000 in
theorem n_set (l : Launch) (G : va_G) (cy : Nat → ClassId) (L : List Nat) (F : Nat → va_E) (sz : Nat) (o : Nat) (qm : Nat → Nat) (Mm : SM) (Dd : SD) (Sl : SL) (Pp : SP) (Kr : SR) (Bk : SB) (Xx : SX) (hR : RepM cy L o qm Mm Dd Sl Pp Kr Bk Xx F) (hV : Val Mm Dd Sl Pp Kr Bk) (me ln : Int32) (n : Nat) (hn : n < 2 ^ 64)  : Met l yX9_set wsX9_set ({ frames := 2, cells := 0, slots := 0, locals := 45 }) (va_Pc [.ref o, .int me, .int ln, .long (lN n)] (fun U => bQ G cy L F sz U U.heap)) (va_Qi (fun (r : Int32) (F' : Nat → va_E) => r = (sp_set Mm me ln (lN n)).1 ∧ RepM cy L o qm (sp_set Mm me ln (lN n)).2 Dd Sl Pp Kr Bk Xx F') (fun F' t => va_P G vwCl (va_pl L F') t.heap) (va_A (va_pl L F) sz)) 0 0 (va_A (va_pl L F) sz) := by
  refine Met.ofW (cc := cX9_set) (maxL := 5) (ret := (some .int)) (by decide) rfl ?_
  intro p e s m args below meth c s₁ B hml hv
  obtain ⟨rfl, hsz, hP, hK, hD0⟩ := hv
  have hx := B.exec
  have hb := B.bytes
  have hr := B.returns
  have hts := atoms_spec (ws := wsX9_set) B.pre
  have hown : s.vm.findClass RX9 = some m.cls := findClass_of_methodNamed B.named
  have hlocks := B.notSynchronized
  have hinX9 : ∀ w ∈ wsX90, w ∈ wsX9_set := by decide +kernel
  subst hsz
  have hD := hD0.self F s.heap.size
  generalize hAe : va_A (va_pl L F) s.heap.size = A at hD ⊢
  have hA : ∀ q : Nat, s.heap.size ≤ q → A q := fun q h => by rw [← hAe]; exact Or.inr h
  have hS : va_S A s.heap s.heap [] := va_S.rf
  obtain ⟨⟨th, oc, hmo, hFo⟩, ⟨hm0, hF0⟩, ⟨hm1, hF1⟩, ⟨hm2, hF2⟩, ⟨hm3, hF3⟩, ⟨hm4, hF4⟩, ⟨hm5, hF5⟩, ⟨hm6, hF6⟩, ⟨hm7, hF7⟩, ⟨hm8, hF8⟩, ⟨hm9, hF9⟩, ⟨hm10, hF10⟩, ⟨hm11, hF11⟩, ⟨hm12, hF12⟩, ⟨hm13, hF13⟩, ⟨hm14, hF14⟩, ⟨hm15, hF15⟩, hne⟩ := id hR
  obtain ⟨hVM, hVD, hVS, hVP, hVK, hVB⟩ := hV
  have hl := lv_entry ([.ref o, .int me, .int ln, .long (lN n)]) (n := 5) (Nat.le_of_ble_eq_true rfl)
  rw [lg_entry_eq]
  generalize (lg_sl ([.ref o, .int me, .int ln, .long (lN n)]) ++ List.replicate (5 - (lg_sl ([.ref o, .int me, .int ln, .long (lN n)])).length) Slot.unset).toArray = ls at hl ⊢
  have hl : lv_has ls 5 [(0, .ref o), (1, .int me), (2, .int ln), (3, .long (lN n))] := hl
  rcases ixc 10 me with hi_me | ⟨j_me, hj_me, hi_me, ei_me⟩
  · refine lv_aload_n hx hb dX9_set_0 rfl (lv_at hl 0 rfl) ?_
    refine lv_iconst (v := 0) hx hb dX9_set_1 (by decide) ?_
    refine pg_put (ci := 8) (v := .int 0) (ty := .int) (C := RX9) (T := TX9) (N := 20) hx hb hts hinX9 tyX9 tyX9_ok nmX9 hown hK hP hD hS hmo hFo rfl 0 (by decide) (hts (.fieldLink RX9 61 "RopeDrumsModel" "thrown" "I") (by decide +kernel)) (fun _ h9 => h9) rfl (by decide +kernel) (rfl) (rfl) (Nat.le_of_ble_eq_true rfl) dX9_set_2 (fun H locs F1 eF1 hP hS => ?_)
    have eF1 : F1 = va_up F o (.inr (8, [.int 0, .ref (qm 0), .ref (qm 1), .ref (qm 2), .ref (qm 3), .ref (qm 4), .ref (qm 5), .ref (qm 6), .ref (qm 7), .int Pp.1, .ref (qm 8), .ref (qm 9), .ref (qm 10), .ref (qm 11), .ref (qm 12), .ref (qm 13), .ref (qm 14), .int Xx.1, .ref (qm 15), .long oc])) := eF1
    have hFo_1 : F1 o = .inr (8, [.int 0, .ref (qm 0), .ref (qm 1), .ref (qm 2), .ref (qm 3), .ref (qm 4), .ref (qm 5), .ref (qm 6), .ref (qm 7), .int Pp.1, .ref (qm 8), .ref (qm 9), .ref (qm 10), .ref (qm 11), .ref (qm 12), .ref (qm 13), .ref (qm 14), .int Xx.1, .ref (qm 15), .long oc]) := by rw [eF1]; exact va_up_self _ _ _
    have hFqm0_1 : F1 (qm 0) = cI (cy 1) 10 Mm.1 := by rw [eF1, va_up_ne _ _ (pl_ne hF0 hFo rfl)]; exact hF0
    have hFqm1_1 : F1 (qm 1) = cJ (cy 2) 10 Mm.2 := by rw [eF1, va_up_ne _ _ (pl_ne hF1 hFo rfl)]; exact hF1
    have hFqm2_1 : F1 (qm 2) = cD (cy 0) 6 Dd.1 := by rw [eF1, va_up_ne _ _ (pl_ne hF2 hFo rfl)]; exact hF2
    have hFqm3_1 : F1 (qm 3) = cD (cy 0) 6 Dd.2.1 := by rw [eF1, va_up_ne _ _ (pl_ne hF3 hFo rfl)]; exact hF3
    have hFqm4_1 : F1 (qm 4) = cD (cy 0) 6 Dd.2.2.1 := by rw [eF1, va_up_ne _ _ (pl_ne hF4 hFo rfl)]; exact hF4
    have hFqm5_1 : F1 (qm 5) = cJ (cy 2) 6 Dd.2.2.2 := by rw [eF1, va_up_ne _ _ (pl_ne hF5 hFo rfl)]; exact hF5
    have hFqm6_1 : F1 (qm 6) = cI (cy 1) 8 Sl.1 := by rw [eF1, va_up_ne _ _ (pl_ne hF6 hFo rfl)]; exact hF6
    have hFqm7_1 : F1 (qm 7) = cJ (cy 2) 128 Sl.2 := by rw [eF1, va_up_ne _ _ (pl_ne hF7 hFo rfl)]; exact hF7
    have hFqm8_1 : F1 (qm 8) = cI (cy 1) 30 Pp.2.1 := by rw [eF1, va_up_ne _ _ (pl_ne hF8 hFo rfl)]; exact hF8
    have hFqm9_1 : F1 (qm 9) = cI (cy 3) 30 Pp.2.2 := by rw [eF1, va_up_ne _ _ (pl_ne hF9 hFo rfl)]; exact hF9
    have hFqm10_1 : F1 (qm 10) = cI (cy 1) 5 Kr.1 := by rw [eF1, va_up_ne _ _ (pl_ne hF10 hFo rfl)]; exact hF10
    have hFqm11_1 : F1 (qm 11) = cI (cy 3) 5 Kr.2.1 := by rw [eF1, va_up_ne _ _ (pl_ne hF11 hFo rfl)]; exact hF11
    have hFqm12_1 : F1 (qm 12) = cI (cy 1) 60 Kr.2.2 := by rw [eF1, va_up_ne _ _ (pl_ne hF12 hFo rfl)]; exact hF12
    have hFqm13_1 : F1 (qm 13) = cI (cy 1) 4 Bk.1 := by rw [eF1, va_up_ne _ _ (pl_ne hF13 hFo rfl)]; exact hF13
    have hFqm14_1 : F1 (qm 14) = cD (cy 0) 4 Bk.2 := by rw [eF1, va_up_ne _ _ (pl_ne hF14 hFo rfl)]; exact hF14
    have hFqm15_1 : F1 (qm 15) = cI (cy 1) 6 Xx.2 := by rw [eF1, va_up_ne _ _ (pl_ne hF15 hFo rfl)]; exact hF15
    refine lv_iload_n hx hb dX9_set_5 rfl (lv_at hl 1 rfl) ?_
    refine vp_callSi (W.runS (As := [.int me]) (rest := []) ⟨hx, hb, hml, hown, hts⟩ (c9_isMeter l me) (va_cwS 1 hts gX9_set_X9_isMeter rfl rfl rfl (by decide +kernel) ⟨Nat.le_of_ble_eq_true rfl, Nat.le_of_ble_eq_true rfl⟩) (preS_of okT (trivial)) rfl rfl hl.1 rfl (lv_room (Nat.le_of_ble_eq_true rfl)) dX9_set_6 ⟨Nat.le_of_ble_eq_true rfl, Nat.le_of_ble_eq_true rfl⟩) (fun r2 hr2 => ?_)
    rw [isx0 hi_me] at hr2
    subst hr2
    refine lv_if_ne (tgt := 16) hx hb dX9_set_9 (by decide) (fun c3 => absurd (by decide) c3) (fun c3 => ?_)
    refine lv_sipush (v := -1001) hx hb dX9_set_12 (by decide) ?_
    exact W.iret (v := -1001) hx hb hr (fun t ht hW => ⟨⟨-1001, F1, rfl, (by have hsp : sp_set Mm me ln (lN n) = (-1001, Mm) := (by unfold sp_set; rw [hi_me]); rw [hsp]; exact ⟨rfl, (by exact ⟨⟨_, _, hmo, hFo_1⟩, ⟨hm0, hFqm0_1⟩, ⟨hm1, hFqm1_1⟩, ⟨hm2, hFqm2_1⟩, ⟨hm3, hFqm3_1⟩, ⟨hm4, hFqm4_1⟩, ⟨hm5, hFqm5_1⟩, ⟨hm6, hFqm6_1⟩, ⟨hm7, hFqm7_1⟩, ⟨hm8, hFqm8_1⟩, ⟨hm9, hFqm9_1⟩, ⟨hm10, hFqm10_1⟩, ⟨hm11, hFqm11_1⟩, ⟨hm12, hFqm12_1⟩, ⟨hm13, hFqm13_1⟩, ⟨hm14, hFqm14_1⟩, ⟨hm15, hFqm15_1⟩, hne⟩)⟩), (by show va_P _ _ _ t.heap; rw [ht]; exact hP)⟩, hS.F ht⟩) hS.2.2 dX9_set_15
  · subst ei_me
    by_cases hln : laneB ln = true
    · by_cases hnum : numB ln (lN n) = true
      · refine lv_aload_n hx hb dX9_set_0 rfl (lv_at hl 0 rfl) ?_
        refine lv_iconst (v := 0) hx hb dX9_set_1 (by decide) ?_
        refine pg_put (ci := 8) (v := .int 0) (ty := .int) (C := RX9) (T := TX9) (N := 20) hx hb hts hinX9 tyX9 tyX9_ok nmX9 hown hK hP hD hS hmo hFo rfl 0 (by decide) (hts (.fieldLink RX9 61 "RopeDrumsModel" "thrown" "I") (by decide +kernel)) (fun _ h9 => h9) rfl (by decide +kernel) (rfl) (rfl) (Nat.le_of_ble_eq_true rfl) dX9_set_2 (fun H locs F4 eF4 hP hS => ?_)
        have eF4 : F4 = va_up F o (.inr (8, [.int 0, .ref (qm 0), .ref (qm 1), .ref (qm 2), .ref (qm 3), .ref (qm 4), .ref (qm 5), .ref (qm 6), .ref (qm 7), .int Pp.1, .ref (qm 8), .ref (qm 9), .ref (qm 10), .ref (qm 11), .ref (qm 12), .ref (qm 13), .ref (qm 14), .int Xx.1, .ref (qm 15), .long oc])) := eF4
        have hFo_4 : F4 o = .inr (8, [.int 0, .ref (qm 0), .ref (qm 1), .ref (qm 2), .ref (qm 3), .ref (qm 4), .ref (qm 5), .ref (qm 6), .ref (qm 7), .int Pp.1, .ref (qm 8), .ref (qm 9), .ref (qm 10), .ref (qm 11), .ref (qm 12), .ref (qm 13), .ref (qm 14), .int Xx.1, .ref (qm 15), .long oc]) := by rw [eF4]; exact va_up_self _ _ _
        have hFqm0_4 : F4 (qm 0) = cI (cy 1) 10 Mm.1 := by rw [eF4, va_up_ne _ _ (pl_ne hF0 hFo rfl)]; exact hF0
        have hFqm1_4 : F4 (qm 1) = cJ (cy 2) 10 Mm.2 := by rw [eF4, va_up_ne _ _ (pl_ne hF1 hFo rfl)]; exact hF1
        have hFqm2_4 : F4 (qm 2) = cD (cy 0) 6 Dd.1 := by rw [eF4, va_up_ne _ _ (pl_ne hF2 hFo rfl)]; exact hF2
        have hFqm3_4 : F4 (qm 3) = cD (cy 0) 6 Dd.2.1 := by rw [eF4, va_up_ne _ _ (pl_ne hF3 hFo rfl)]; exact hF3
        have hFqm4_4 : F4 (qm 4) = cD (cy 0) 6 Dd.2.2.1 := by rw [eF4, va_up_ne _ _ (pl_ne hF4 hFo rfl)]; exact hF4
        have hFqm5_4 : F4 (qm 5) = cJ (cy 2) 6 Dd.2.2.2 := by rw [eF4, va_up_ne _ _ (pl_ne hF5 hFo rfl)]; exact hF5
        have hFqm6_4 : F4 (qm 6) = cI (cy 1) 8 Sl.1 := by rw [eF4, va_up_ne _ _ (pl_ne hF6 hFo rfl)]; exact hF6
        have hFqm7_4 : F4 (qm 7) = cJ (cy 2) 128 Sl.2 := by rw [eF4, va_up_ne _ _ (pl_ne hF7 hFo rfl)]; exact hF7
        have hFqm8_4 : F4 (qm 8) = cI (cy 1) 30 Pp.2.1 := by rw [eF4, va_up_ne _ _ (pl_ne hF8 hFo rfl)]; exact hF8
        have hFqm9_4 : F4 (qm 9) = cI (cy 3) 30 Pp.2.2 := by rw [eF4, va_up_ne _ _ (pl_ne hF9 hFo rfl)]; exact hF9
        have hFqm10_4 : F4 (qm 10) = cI (cy 1) 5 Kr.1 := by rw [eF4, va_up_ne _ _ (pl_ne hF10 hFo rfl)]; exact hF10
        have hFqm11_4 : F4 (qm 11) = cI (cy 3) 5 Kr.2.1 := by rw [eF4, va_up_ne _ _ (pl_ne hF11 hFo rfl)]; exact hF11
        have hFqm12_4 : F4 (qm 12) = cI (cy 1) 60 Kr.2.2 := by rw [eF4, va_up_ne _ _ (pl_ne hF12 hFo rfl)]; exact hF12
        have hFqm13_4 : F4 (qm 13) = cI (cy 1) 4 Bk.1 := by rw [eF4, va_up_ne _ _ (pl_ne hF13 hFo rfl)]; exact hF13
        have hFqm14_4 : F4 (qm 14) = cD (cy 0) 4 Bk.2 := by rw [eF4, va_up_ne _ _ (pl_ne hF14 hFo rfl)]; exact hF14
        have hFqm15_4 : F4 (qm 15) = cI (cy 1) 6 Xx.2 := by rw [eF4, va_up_ne _ _ (pl_ne hF15 hFo rfl)]; exact hF15
        refine lv_iload_n hx hb dX9_set_5 rfl (lv_at hl 1 rfl) ?_
        refine vp_callSi (W.runS (As := [.int (nI j_me)]) (rest := []) ⟨hx, hb, hml, hown, hts⟩ (c9_isMeter l (nI j_me)) (va_cwS 1 hts gX9_set_X9_isMeter rfl rfl rfl (by decide +kernel) ⟨Nat.le_of_ble_eq_true rfl, Nat.le_of_ble_eq_true rfl⟩) (preS_of okT (trivial)) rfl rfl hl.1 rfl (lv_room (Nat.le_of_ble_eq_true rfl)) dX9_set_6 ⟨Nat.le_of_ble_eq_true rfl, Nat.le_of_ble_eq_true rfl⟩) (fun r5 hr5 => ?_)
        rw [isx1 hi_me] at hr5
        subst hr5
        refine lv_if_ne (tgt := 16) hx hb dX9_set_9 (by decide) (fun c6 => ?_) (fun c6 => absurd c6 (by decide))
        refine lv_iload_n hx hb dX9_set_16 rfl (lv_at hl 2 rfl) ?_
        refine lv_i2l hx hb dX9_set_17 rfl ?_
        refine lv_topl (fun v7 ev7 => ?_)
        refine lv_lconst (v := 0) hx hb dX9_set_18 (by decide) ?_
        refine lv_ldc2 hx hb hown (hts (.constantLong RX9 123 (3)) (by decide +kernel)) dX9_set_19 ?_
        refine vp_callSi (W.runS (As := [.long v7, .long 0, .long 3]) (rest := []) ⟨hx, hb, hml, hown, hts⟩ (c9_in l v7 0 3) (va_cwS 3 hts gX9_set_X9_in rfl rfl rfl (by decide +kernel) ⟨Nat.le_of_ble_eq_true rfl, Nat.le_of_ble_eq_true rfl⟩) (preS_of okT (trivial)) rfl rfl hl.1 rfl (lv_room (Nat.le_of_ble_eq_true rfl)) dX9_set_22 ⟨Nat.le_of_ble_eq_true rfl, Nat.le_of_ble_eq_true rfl⟩) (fun r8 hr8 => ?_)
        have hzr8 : r8 = 1 := by rw [hr8, ev7, inq_i (y := 0) (z := 3) (by decide) (by decide)]; exact if_pos (laneI hln)
        subst hzr8
        refine lv_if_eq (tgt := 36) hx hb dX9_set_25 (by decide) (fun c9 => absurd c9 (by decide)) (fun c9 => ?_)
        refine lv_iload_n hx hb dX9_set_28 rfl (lv_at hl 2 rfl) ?_
        refine lv_lload_n hx hb dX9_set_29 rfl (lv_at hl 3 rfl) ?_
        refine vp_callSi (W.runS (As := [.int ln, .long (lN n)]) (rest := []) ⟨hx, hb, hml, hown, hts⟩ (c9_isNumber l ln n hn) (va_cwS 2 hts gX9_set_X9_isNumber rfl rfl rfl (by decide +kernel) ⟨Nat.le_of_ble_eq_true rfl, Nat.le_of_ble_eq_true rfl⟩) (preS_of okT (trivial)) rfl rfl hl.1 rfl (lv_room (Nat.le_of_ble_eq_true rfl)) dX9_set_30 ⟨Nat.le_of_ble_eq_true rfl, Nat.le_of_ble_eq_true rfl⟩) (fun r10 hr10 => ?_)
        rw [if_pos hnum] at hr10
        subst hr10
        refine lv_if_ne (tgt := 40) hx hb dX9_set_33 (by decide) (fun c11 => ?_) (fun c11 => absurd c11 (by decide))
        refine lv_aload_n hx hb dX9_set_40 rfl (lv_at hl 0 rfl) ?_
        refine pg_get (ci := 8) (C := RX9) (T := TX9) (N := 20) hx hb hts hinX9 hown hK hP hmo hFo_4 rfl 1 (by decide) (hts (.fieldLink RX9 7 "RopeDrumsModel" "laneOf" "[I") (by decide +kernel)) (fun _ h9 => h9) rfl dX9_set_41 ?_
        refine lv_iload_n hx hb dX9_set_44 rfl (lv_at hl 1 rfl) ?_
        refine lv_iload_n hx hb dX9_set_45 rfl (lv_at hl 2 rfl) ?_
        refine pg_iast hx hb hK hP hD hS 1 hm0 hFqm0_4 rfl (vp_in_nI (by omega) (by decide)) dX9_set_46 (fun H locs F12 eF12 hP hS => ?_)
        rw [nI_clamp (by omega)] at eF12
        have hFo_12 : F12 o = .inr (8, [.int 0, .ref (qm 0), .ref (qm 1), .ref (qm 2), .ref (qm 3), .ref (qm 4), .ref (qm 5), .ref (qm 6), .ref (qm 7), .int Pp.1, .ref (qm 8), .ref (qm 9), .ref (qm 10), .ref (qm 11), .ref (qm 12), .ref (qm 13), .ref (qm 14), .int Xx.1, .ref (qm 15), .long oc]) := by rw [eF12, va_up_ne _ _ (pl_ne hFo_4 hFqm0_4 rfl)]; exact hFo_4
        have hFqm0_12 : F12 (qm 0) = cI (cy 1) 10 (upd Mm.1 j_me ln) := by rw [eF12]; exact va_up_self _ _ _
        have hFqm1_12 : F12 (qm 1) = cJ (cy 2) 10 Mm.2 := by rw [eF12, va_up_ne _ _ (pl_ne hFqm1_4 hFqm0_4 rfl)]; exact hFqm1_4
        have hFqm2_12 : F12 (qm 2) = cD (cy 0) 6 Dd.1 := by rw [eF12, va_up_ne _ _ (pl_ne hFqm2_4 hFqm0_4 rfl)]; exact hFqm2_4
        have hFqm3_12 : F12 (qm 3) = cD (cy 0) 6 Dd.2.1 := by rw [eF12, va_up_ne _ _ (pl_ne hFqm3_4 hFqm0_4 rfl)]; exact hFqm3_4
        have hFqm4_12 : F12 (qm 4) = cD (cy 0) 6 Dd.2.2.1 := by rw [eF12, va_up_ne _ _ (pl_ne hFqm4_4 hFqm0_4 rfl)]; exact hFqm4_4
        have hFqm5_12 : F12 (qm 5) = cJ (cy 2) 6 Dd.2.2.2 := by rw [eF12, va_up_ne _ _ (pl_ne hFqm5_4 hFqm0_4 rfl)]; exact hFqm5_4
        have hFqm6_12 : F12 (qm 6) = cI (cy 1) 8 Sl.1 := by rw [eF12, va_up_ne _ _ (pl_ne hFqm6_4 hFqm0_4 rfl)]; exact hFqm6_4
        have hFqm7_12 : F12 (qm 7) = cJ (cy 2) 128 Sl.2 := by rw [eF12, va_up_ne _ _ (pl_ne hFqm7_4 hFqm0_4 rfl)]; exact hFqm7_4
        have hFqm8_12 : F12 (qm 8) = cI (cy 1) 30 Pp.2.1 := by rw [eF12, va_up_ne _ _ (pl_ne hFqm8_4 hFqm0_4 rfl)]; exact hFqm8_4
        have hFqm9_12 : F12 (qm 9) = cI (cy 3) 30 Pp.2.2 := by rw [eF12, va_up_ne _ _ (pl_ne hFqm9_4 hFqm0_4 rfl)]; exact hFqm9_4
        have hFqm10_12 : F12 (qm 10) = cI (cy 1) 5 Kr.1 := by rw [eF12, va_up_ne _ _ (pl_ne hFqm10_4 hFqm0_4 rfl)]; exact hFqm10_4
        have hFqm11_12 : F12 (qm 11) = cI (cy 3) 5 Kr.2.1 := by rw [eF12, va_up_ne _ _ (pl_ne hFqm11_4 hFqm0_4 rfl)]; exact hFqm11_4
        have hFqm12_12 : F12 (qm 12) = cI (cy 1) 60 Kr.2.2 := by rw [eF12, va_up_ne _ _ (pl_ne hFqm12_4 hFqm0_4 rfl)]; exact hFqm12_4
        have hFqm13_12 : F12 (qm 13) = cI (cy 1) 4 Bk.1 := by rw [eF12, va_up_ne _ _ (pl_ne hFqm13_4 hFqm0_4 rfl)]; exact hFqm13_4
        have hFqm14_12 : F12 (qm 14) = cD (cy 0) 4 Bk.2 := by rw [eF12, va_up_ne _ _ (pl_ne hFqm14_4 hFqm0_4 rfl)]; exact hFqm14_4
        have hFqm15_12 : F12 (qm 15) = cI (cy 1) 6 Xx.2 := by rw [eF12, va_up_ne _ _ (pl_ne hFqm15_4 hFqm0_4 rfl)]; exact hFqm15_4
        refine lv_aload_n hx hb dX9_set_47 rfl (lv_at hl 0 rfl) ?_
        refine pg_get (ci := 8) (C := RX9) (T := TX9) (N := 20) hx hb hts hinX9 hown hK hP hmo hFo_12 rfl 2 (by decide) (hts (.fieldLink RX9 13 "RopeDrumsModel" "held" "[J") (by decide +kernel)) (fun _ h9 => h9) rfl dX9_set_48 ?_
        refine lv_iload_n hx hb dX9_set_51 rfl (lv_at hl 1 rfl) ?_
        refine lv_iload_n hx hb dX9_set_52 rfl (lv_at hl 2 rfl) ?_
        refine lv_if_eq (tgt := 61) hx hb dX9_set_53 (by decide) (fun c13 => ?_) (fun c13 => ?_)
        · refine lv_lload_n hx hb dX9_set_61 rfl (lv_at hl 3 rfl) ?_
          refine lv_l2i hx hb dX9_set_62 rfl ?_
          refine lv_topi (fun v14 ev14 => ?_)
          refine lv_i2l hx hb dX9_set_63 rfl ?_
          refine lv_topl (fun v15 ev15 => ?_)
          refine lv_goto (tgt := 68) hx hb dX9_set_64 (by decide) ?_
          refine pg_last hx hb hK hP hD hS 2 hm1 hFqm1_12 rfl (vp_in_nI (by omega) (by decide)) dX9_set_68 (fun H locs F16 eF16 hP hS => ?_)
          rw [nI_clamp (by omega)] at eF16
          have hFo_16 : F16 o = .inr (8, [.int 0, .ref (qm 0), .ref (qm 1), .ref (qm 2), .ref (qm 3), .ref (qm 4), .ref (qm 5), .ref (qm 6), .ref (qm 7), .int Pp.1, .ref (qm 8), .ref (qm 9), .ref (qm 10), .ref (qm 11), .ref (qm 12), .ref (qm 13), .ref (qm 14), .int Xx.1, .ref (qm 15), .long oc]) := by rw [eF16, va_up_ne _ _ (pl_ne hFo_12 hFqm1_12 rfl)]; exact hFo_12
          have hFqm0_16 : F16 (qm 0) = cI (cy 1) 10 (upd Mm.1 j_me ln) := by rw [eF16, va_up_ne _ _ (pl_ne hFqm0_12 hFqm1_12 rfl)]; exact hFqm0_12
          have hFqm1_16 : F16 (qm 1) = cJ (cy 2) 10 (vp_updL Mm.2 j_me v15) := by rw [eF16]; exact va_up_self _ _ _
          have hFqm2_16 : F16 (qm 2) = cD (cy 0) 6 Dd.1 := by rw [eF16, va_up_ne _ _ (pl_ne hFqm2_12 hFqm1_12 rfl)]; exact hFqm2_12
          have hFqm3_16 : F16 (qm 3) = cD (cy 0) 6 Dd.2.1 := by rw [eF16, va_up_ne _ _ (pl_ne hFqm3_12 hFqm1_12 rfl)]; exact hFqm3_12
          have hFqm4_16 : F16 (qm 4) = cD (cy 0) 6 Dd.2.2.1 := by rw [eF16, va_up_ne _ _ (pl_ne hFqm4_12 hFqm1_12 rfl)]; exact hFqm4_12
          have hFqm5_16 : F16 (qm 5) = cJ (cy 2) 6 Dd.2.2.2 := by rw [eF16, va_up_ne _ _ (pl_ne hFqm5_12 hFqm1_12 rfl)]; exact hFqm5_12
          have hFqm6_16 : F16 (qm 6) = cI (cy 1) 8 Sl.1 := by rw [eF16, va_up_ne _ _ (pl_ne hFqm6_12 hFqm1_12 rfl)]; exact hFqm6_12
          have hFqm7_16 : F16 (qm 7) = cJ (cy 2) 128 Sl.2 := by rw [eF16, va_up_ne _ _ (pl_ne hFqm7_12 hFqm1_12 rfl)]; exact hFqm7_12
          have hFqm8_16 : F16 (qm 8) = cI (cy 1) 30 Pp.2.1 := by rw [eF16, va_up_ne _ _ (pl_ne hFqm8_12 hFqm1_12 rfl)]; exact hFqm8_12
          have hFqm9_16 : F16 (qm 9) = cI (cy 3) 30 Pp.2.2 := by rw [eF16, va_up_ne _ _ (pl_ne hFqm9_12 hFqm1_12 rfl)]; exact hFqm9_12
          have hFqm10_16 : F16 (qm 10) = cI (cy 1) 5 Kr.1 := by rw [eF16, va_up_ne _ _ (pl_ne hFqm10_12 hFqm1_12 rfl)]; exact hFqm10_12
          have hFqm11_16 : F16 (qm 11) = cI (cy 3) 5 Kr.2.1 := by rw [eF16, va_up_ne _ _ (pl_ne hFqm11_12 hFqm1_12 rfl)]; exact hFqm11_12
          have hFqm12_16 : F16 (qm 12) = cI (cy 1) 60 Kr.2.2 := by rw [eF16, va_up_ne _ _ (pl_ne hFqm12_12 hFqm1_12 rfl)]; exact hFqm12_12
          have hFqm13_16 : F16 (qm 13) = cI (cy 1) 4 Bk.1 := by rw [eF16, va_up_ne _ _ (pl_ne hFqm13_12 hFqm1_12 rfl)]; exact hFqm13_12
          have hFqm14_16 : F16 (qm 14) = cD (cy 0) 4 Bk.2 := by rw [eF16, va_up_ne _ _ (pl_ne hFqm14_12 hFqm1_12 rfl)]; exact hFqm14_12
          have hFqm15_16 : F16 (qm 15) = cI (cy 1) 6 Xx.2 := by rw [eF16, va_up_ne _ _ (pl_ne hFqm15_12 hFqm1_12 rfl)]; exact hFqm15_12
          refine lv_iconst (v := 1) hx hb dX9_set_69 (by decide) ?_
          exact W.iret (v := 1) hx hb hr (fun t ht hW => ⟨⟨1, F16, rfl, (by subst ev15 ev14 ev7; have hsp : sp_set Mm (nI j_me) ln (lN n) = (1, setM Mm j_me ln ((lN n).toInt32.toInt64)) := (by unfold sp_set; rw [hi_me]; exact (if_pos hln).trans ((if_pos hnum).trans (by rw [if_pos (Or.inl c13)]))); rw [hsp]; exact ⟨rfl, (by exact ⟨⟨_, _, hmo, hFo_16⟩, ⟨hm0, hFqm0_16⟩, ⟨hm1, hFqm1_16⟩, ⟨hm2, hFqm2_16⟩, ⟨hm3, hFqm3_16⟩, ⟨hm4, hFqm4_16⟩, ⟨hm5, hFqm5_16⟩, ⟨hm6, hFqm6_16⟩, ⟨hm7, hFqm7_16⟩, ⟨hm8, hFqm8_16⟩, ⟨hm9, hFqm9_16⟩, ⟨hm10, hFqm10_16⟩, ⟨hm11, hFqm11_16⟩, ⟨hm12, hFqm12_16⟩, ⟨hm13, hFqm13_16⟩, ⟨hm14, hFqm14_16⟩, ⟨hm15, hFqm15_16⟩, hne⟩)⟩), (by show va_P _ _ _ t.heap; rw [ht]; exact hP)⟩, hS.F ht⟩) hS.2.2 dX9_set_70
        · refine lv_iload_n hx hb dX9_set_56 rfl (lv_at hl 2 rfl) ?_
          refine lv_iconst (v := 2) hx hb dX9_set_57 (by decide) ?_
          refine lv_icmp_ne (tgt := 67) hx hb dX9_set_58 (by decide) (fun c17 => ?_) (fun c17 => ?_)
          · refine lv_lload_n hx hb dX9_set_67 rfl (lv_at hl 3 rfl) ?_
            refine pg_last hx hb hK hP hD hS 2 hm1 hFqm1_12 rfl (vp_in_nI (by omega) (by decide)) dX9_set_68 (fun H locs F18 eF18 hP hS => ?_)
            rw [nI_clamp (by omega)] at eF18
            have hFo_18 : F18 o = .inr (8, [.int 0, .ref (qm 0), .ref (qm 1), .ref (qm 2), .ref (qm 3), .ref (qm 4), .ref (qm 5), .ref (qm 6), .ref (qm 7), .int Pp.1, .ref (qm 8), .ref (qm 9), .ref (qm 10), .ref (qm 11), .ref (qm 12), .ref (qm 13), .ref (qm 14), .int Xx.1, .ref (qm 15), .long oc]) := by rw [eF18, va_up_ne _ _ (pl_ne hFo_12 hFqm1_12 rfl)]; exact hFo_12
            have hFqm0_18 : F18 (qm 0) = cI (cy 1) 10 (upd Mm.1 j_me ln) := by rw [eF18, va_up_ne _ _ (pl_ne hFqm0_12 hFqm1_12 rfl)]; exact hFqm0_12
            have hFqm1_18 : F18 (qm 1) = cJ (cy 2) 10 (vp_updL Mm.2 j_me (lN n)) := by rw [eF18]; exact va_up_self _ _ _
            have hFqm2_18 : F18 (qm 2) = cD (cy 0) 6 Dd.1 := by rw [eF18, va_up_ne _ _ (pl_ne hFqm2_12 hFqm1_12 rfl)]; exact hFqm2_12
            have hFqm3_18 : F18 (qm 3) = cD (cy 0) 6 Dd.2.1 := by rw [eF18, va_up_ne _ _ (pl_ne hFqm3_12 hFqm1_12 rfl)]; exact hFqm3_12
            have hFqm4_18 : F18 (qm 4) = cD (cy 0) 6 Dd.2.2.1 := by rw [eF18, va_up_ne _ _ (pl_ne hFqm4_12 hFqm1_12 rfl)]; exact hFqm4_12
            have hFqm5_18 : F18 (qm 5) = cJ (cy 2) 6 Dd.2.2.2 := by rw [eF18, va_up_ne _ _ (pl_ne hFqm5_12 hFqm1_12 rfl)]; exact hFqm5_12
            have hFqm6_18 : F18 (qm 6) = cI (cy 1) 8 Sl.1 := by rw [eF18, va_up_ne _ _ (pl_ne hFqm6_12 hFqm1_12 rfl)]; exact hFqm6_12
            have hFqm7_18 : F18 (qm 7) = cJ (cy 2) 128 Sl.2 := by rw [eF18, va_up_ne _ _ (pl_ne hFqm7_12 hFqm1_12 rfl)]; exact hFqm7_12
            have hFqm8_18 : F18 (qm 8) = cI (cy 1) 30 Pp.2.1 := by rw [eF18, va_up_ne _ _ (pl_ne hFqm8_12 hFqm1_12 rfl)]; exact hFqm8_12
            have hFqm9_18 : F18 (qm 9) = cI (cy 3) 30 Pp.2.2 := by rw [eF18, va_up_ne _ _ (pl_ne hFqm9_12 hFqm1_12 rfl)]; exact hFqm9_12
            have hFqm10_18 : F18 (qm 10) = cI (cy 1) 5 Kr.1 := by rw [eF18, va_up_ne _ _ (pl_ne hFqm10_12 hFqm1_12 rfl)]; exact hFqm10_12
            have hFqm11_18 : F18 (qm 11) = cI (cy 3) 5 Kr.2.1 := by rw [eF18, va_up_ne _ _ (pl_ne hFqm11_12 hFqm1_12 rfl)]; exact hFqm11_12
            have hFqm12_18 : F18 (qm 12) = cI (cy 1) 60 Kr.2.2 := by rw [eF18, va_up_ne _ _ (pl_ne hFqm12_12 hFqm1_12 rfl)]; exact hFqm12_12
            have hFqm13_18 : F18 (qm 13) = cI (cy 1) 4 Bk.1 := by rw [eF18, va_up_ne _ _ (pl_ne hFqm13_12 hFqm1_12 rfl)]; exact hFqm13_12
            have hFqm14_18 : F18 (qm 14) = cD (cy 0) 4 Bk.2 := by rw [eF18, va_up_ne _ _ (pl_ne hFqm14_12 hFqm1_12 rfl)]; exact hFqm14_12
            have hFqm15_18 : F18 (qm 15) = cI (cy 1) 6 Xx.2 := by rw [eF18, va_up_ne _ _ (pl_ne hFqm15_12 hFqm1_12 rfl)]; exact hFqm15_12
            refine lv_iconst (v := 1) hx hb dX9_set_69 (by decide) ?_
            exact W.iret (v := 1) hx hb hr (fun t ht hW => ⟨⟨1, F18, rfl, (by subst ev7; have hsp : sp_set Mm (nI j_me) ln (lN n) = (1, setM Mm j_me ln (lN n)) := (by unfold sp_set; rw [hi_me]; exact (if_pos hln).trans ((if_pos hnum).trans (by rw [if_neg (fun q => q.elim c13 c17)]))); rw [hsp]; exact ⟨rfl, (by exact ⟨⟨_, _, hmo, hFo_18⟩, ⟨hm0, hFqm0_18⟩, ⟨hm1, hFqm1_18⟩, ⟨hm2, hFqm2_18⟩, ⟨hm3, hFqm3_18⟩, ⟨hm4, hFqm4_18⟩, ⟨hm5, hFqm5_18⟩, ⟨hm6, hFqm6_18⟩, ⟨hm7, hFqm7_18⟩, ⟨hm8, hFqm8_18⟩, ⟨hm9, hFqm9_18⟩, ⟨hm10, hFqm10_18⟩, ⟨hm11, hFqm11_18⟩, ⟨hm12, hFqm12_18⟩, ⟨hm13, hFqm13_18⟩, ⟨hm14, hFqm14_18⟩, ⟨hm15, hFqm15_18⟩, hne⟩)⟩), (by show va_P _ _ _ t.heap; rw [ht]; exact hP)⟩, hS.F ht⟩) hS.2.2 dX9_set_70
          · refine lv_lload_n hx hb dX9_set_61 rfl (lv_at hl 3 rfl) ?_
            refine lv_l2i hx hb dX9_set_62 rfl ?_
            refine lv_topi (fun v19 ev19 => ?_)
            refine lv_i2l hx hb dX9_set_63 rfl ?_
            refine lv_topl (fun v20 ev20 => ?_)
            refine lv_goto (tgt := 68) hx hb dX9_set_64 (by decide) ?_
            refine pg_last hx hb hK hP hD hS 2 hm1 hFqm1_12 rfl (vp_in_nI (by omega) (by decide)) dX9_set_68 (fun H locs F21 eF21 hP hS => ?_)
            rw [nI_clamp (by omega)] at eF21
            have hFo_21 : F21 o = .inr (8, [.int 0, .ref (qm 0), .ref (qm 1), .ref (qm 2), .ref (qm 3), .ref (qm 4), .ref (qm 5), .ref (qm 6), .ref (qm 7), .int Pp.1, .ref (qm 8), .ref (qm 9), .ref (qm 10), .ref (qm 11), .ref (qm 12), .ref (qm 13), .ref (qm 14), .int Xx.1, .ref (qm 15), .long oc]) := by rw [eF21, va_up_ne _ _ (pl_ne hFo_12 hFqm1_12 rfl)]; exact hFo_12
            have hFqm0_21 : F21 (qm 0) = cI (cy 1) 10 (upd Mm.1 j_me ln) := by rw [eF21, va_up_ne _ _ (pl_ne hFqm0_12 hFqm1_12 rfl)]; exact hFqm0_12
            have hFqm1_21 : F21 (qm 1) = cJ (cy 2) 10 (vp_updL Mm.2 j_me v20) := by rw [eF21]; exact va_up_self _ _ _
            have hFqm2_21 : F21 (qm 2) = cD (cy 0) 6 Dd.1 := by rw [eF21, va_up_ne _ _ (pl_ne hFqm2_12 hFqm1_12 rfl)]; exact hFqm2_12
            have hFqm3_21 : F21 (qm 3) = cD (cy 0) 6 Dd.2.1 := by rw [eF21, va_up_ne _ _ (pl_ne hFqm3_12 hFqm1_12 rfl)]; exact hFqm3_12
            have hFqm4_21 : F21 (qm 4) = cD (cy 0) 6 Dd.2.2.1 := by rw [eF21, va_up_ne _ _ (pl_ne hFqm4_12 hFqm1_12 rfl)]; exact hFqm4_12
            have hFqm5_21 : F21 (qm 5) = cJ (cy 2) 6 Dd.2.2.2 := by rw [eF21, va_up_ne _ _ (pl_ne hFqm5_12 hFqm1_12 rfl)]; exact hFqm5_12
            have hFqm6_21 : F21 (qm 6) = cI (cy 1) 8 Sl.1 := by rw [eF21, va_up_ne _ _ (pl_ne hFqm6_12 hFqm1_12 rfl)]; exact hFqm6_12
            have hFqm7_21 : F21 (qm 7) = cJ (cy 2) 128 Sl.2 := by rw [eF21, va_up_ne _ _ (pl_ne hFqm7_12 hFqm1_12 rfl)]; exact hFqm7_12
            have hFqm8_21 : F21 (qm 8) = cI (cy 1) 30 Pp.2.1 := by rw [eF21, va_up_ne _ _ (pl_ne hFqm8_12 hFqm1_12 rfl)]; exact hFqm8_12
            have hFqm9_21 : F21 (qm 9) = cI (cy 3) 30 Pp.2.2 := by rw [eF21, va_up_ne _ _ (pl_ne hFqm9_12 hFqm1_12 rfl)]; exact hFqm9_12
            have hFqm10_21 : F21 (qm 10) = cI (cy 1) 5 Kr.1 := by rw [eF21, va_up_ne _ _ (pl_ne hFqm10_12 hFqm1_12 rfl)]; exact hFqm10_12
            have hFqm11_21 : F21 (qm 11) = cI (cy 3) 5 Kr.2.1 := by rw [eF21, va_up_ne _ _ (pl_ne hFqm11_12 hFqm1_12 rfl)]; exact hFqm11_12
            have hFqm12_21 : F21 (qm 12) = cI (cy 1) 60 Kr.2.2 := by rw [eF21, va_up_ne _ _ (pl_ne hFqm12_12 hFqm1_12 rfl)]; exact hFqm12_12
            have hFqm13_21 : F21 (qm 13) = cI (cy 1) 4 Bk.1 := by rw [eF21, va_up_ne _ _ (pl_ne hFqm13_12 hFqm1_12 rfl)]; exact hFqm13_12
            have hFqm14_21 : F21 (qm 14) = cD (cy 0) 4 Bk.2 := by rw [eF21, va_up_ne _ _ (pl_ne hFqm14_12 hFqm1_12 rfl)]; exact hFqm14_12
            have hFqm15_21 : F21 (qm 15) = cI (cy 1) 6 Xx.2 := by rw [eF21, va_up_ne _ _ (pl_ne hFqm15_12 hFqm1_12 rfl)]; exact hFqm15_12
            refine lv_iconst (v := 1) hx hb dX9_set_69 (by decide) ?_
            exact W.iret (v := 1) hx hb hr (fun t ht hW => ⟨⟨1, F21, rfl, (by subst ev20 ev19 ev7; have hsp : sp_set Mm (nI j_me) ln (lN n) = (1, setM Mm j_me ln ((lN n).toInt32.toInt64)) := (by unfold sp_set; rw [hi_me]; exact (if_pos hln).trans ((if_pos hnum).trans (by rw [if_pos (Or.inr c17)]))); rw [hsp]; exact ⟨rfl, (by exact ⟨⟨_, _, hmo, hFo_21⟩, ⟨hm0, hFqm0_21⟩, ⟨hm1, hFqm1_21⟩, ⟨hm2, hFqm2_21⟩, ⟨hm3, hFqm3_21⟩, ⟨hm4, hFqm4_21⟩, ⟨hm5, hFqm5_21⟩, ⟨hm6, hFqm6_21⟩, ⟨hm7, hFqm7_21⟩, ⟨hm8, hFqm8_21⟩, ⟨hm9, hFqm9_21⟩, ⟨hm10, hFqm10_21⟩, ⟨hm11, hFqm11_21⟩, ⟨hm12, hFqm12_21⟩, ⟨hm13, hFqm13_21⟩, ⟨hm14, hFqm14_21⟩, ⟨hm15, hFqm15_21⟩, hne⟩)⟩), (by show va_P _ _ _ t.heap; rw [ht]; exact hP)⟩, hS.F ht⟩) hS.2.2 dX9_set_70
      · refine lv_aload_n hx hb dX9_set_0 rfl (lv_at hl 0 rfl) ?_
        refine lv_iconst (v := 0) hx hb dX9_set_1 (by decide) ?_
        refine pg_put (ci := 8) (v := .int 0) (ty := .int) (C := RX9) (T := TX9) (N := 20) hx hb hts hinX9 tyX9 tyX9_ok nmX9 hown hK hP hD hS hmo hFo rfl 0 (by decide) (hts (.fieldLink RX9 61 "RopeDrumsModel" "thrown" "I") (by decide +kernel)) (fun _ h9 => h9) rfl (by decide +kernel) (rfl) (rfl) (Nat.le_of_ble_eq_true rfl) dX9_set_2 (fun H locs F22 eF22 hP hS => ?_)
        have eF22 : F22 = va_up F o (.inr (8, [.int 0, .ref (qm 0), .ref (qm 1), .ref (qm 2), .ref (qm 3), .ref (qm 4), .ref (qm 5), .ref (qm 6), .ref (qm 7), .int Pp.1, .ref (qm 8), .ref (qm 9), .ref (qm 10), .ref (qm 11), .ref (qm 12), .ref (qm 13), .ref (qm 14), .int Xx.1, .ref (qm 15), .long oc])) := eF22
        have hFo_22 : F22 o = .inr (8, [.int 0, .ref (qm 0), .ref (qm 1), .ref (qm 2), .ref (qm 3), .ref (qm 4), .ref (qm 5), .ref (qm 6), .ref (qm 7), .int Pp.1, .ref (qm 8), .ref (qm 9), .ref (qm 10), .ref (qm 11), .ref (qm 12), .ref (qm 13), .ref (qm 14), .int Xx.1, .ref (qm 15), .long oc]) := by rw [eF22]; exact va_up_self _ _ _
        have hFqm0_22 : F22 (qm 0) = cI (cy 1) 10 Mm.1 := by rw [eF22, va_up_ne _ _ (pl_ne hF0 hFo rfl)]; exact hF0
        have hFqm1_22 : F22 (qm 1) = cJ (cy 2) 10 Mm.2 := by rw [eF22, va_up_ne _ _ (pl_ne hF1 hFo rfl)]; exact hF1
        have hFqm2_22 : F22 (qm 2) = cD (cy 0) 6 Dd.1 := by rw [eF22, va_up_ne _ _ (pl_ne hF2 hFo rfl)]; exact hF2
        have hFqm3_22 : F22 (qm 3) = cD (cy 0) 6 Dd.2.1 := by rw [eF22, va_up_ne _ _ (pl_ne hF3 hFo rfl)]; exact hF3
        have hFqm4_22 : F22 (qm 4) = cD (cy 0) 6 Dd.2.2.1 := by rw [eF22, va_up_ne _ _ (pl_ne hF4 hFo rfl)]; exact hF4
        have hFqm5_22 : F22 (qm 5) = cJ (cy 2) 6 Dd.2.2.2 := by rw [eF22, va_up_ne _ _ (pl_ne hF5 hFo rfl)]; exact hF5
        have hFqm6_22 : F22 (qm 6) = cI (cy 1) 8 Sl.1 := by rw [eF22, va_up_ne _ _ (pl_ne hF6 hFo rfl)]; exact hF6
        have hFqm7_22 : F22 (qm 7) = cJ (cy 2) 128 Sl.2 := by rw [eF22, va_up_ne _ _ (pl_ne hF7 hFo rfl)]; exact hF7
        have hFqm8_22 : F22 (qm 8) = cI (cy 1) 30 Pp.2.1 := by rw [eF22, va_up_ne _ _ (pl_ne hF8 hFo rfl)]; exact hF8
        have hFqm9_22 : F22 (qm 9) = cI (cy 3) 30 Pp.2.2 := by rw [eF22, va_up_ne _ _ (pl_ne hF9 hFo rfl)]; exact hF9
        have hFqm10_22 : F22 (qm 10) = cI (cy 1) 5 Kr.1 := by rw [eF22, va_up_ne _ _ (pl_ne hF10 hFo rfl)]; exact hF10
        have hFqm11_22 : F22 (qm 11) = cI (cy 3) 5 Kr.2.1 := by rw [eF22, va_up_ne _ _ (pl_ne hF11 hFo rfl)]; exact hF11
        have hFqm12_22 : F22 (qm 12) = cI (cy 1) 60 Kr.2.2 := by rw [eF22, va_up_ne _ _ (pl_ne hF12 hFo rfl)]; exact hF12
        have hFqm13_22 : F22 (qm 13) = cI (cy 1) 4 Bk.1 := by rw [eF22, va_up_ne _ _ (pl_ne hF13 hFo rfl)]; exact hF13
        have hFqm14_22 : F22 (qm 14) = cD (cy 0) 4 Bk.2 := by rw [eF22, va_up_ne _ _ (pl_ne hF14 hFo rfl)]; exact hF14
        have hFqm15_22 : F22 (qm 15) = cI (cy 1) 6 Xx.2 := by rw [eF22, va_up_ne _ _ (pl_ne hF15 hFo rfl)]; exact hF15
        refine lv_iload_n hx hb dX9_set_5 rfl (lv_at hl 1 rfl) ?_
        refine vp_callSi (W.runS (As := [.int (nI j_me)]) (rest := []) ⟨hx, hb, hml, hown, hts⟩ (c9_isMeter l (nI j_me)) (va_cwS 1 hts gX9_set_X9_isMeter rfl rfl rfl (by decide +kernel) ⟨Nat.le_of_ble_eq_true rfl, Nat.le_of_ble_eq_true rfl⟩) (preS_of okT (trivial)) rfl rfl hl.1 rfl (lv_room (Nat.le_of_ble_eq_true rfl)) dX9_set_6 ⟨Nat.le_of_ble_eq_true rfl, Nat.le_of_ble_eq_true rfl⟩) (fun r23 hr23 => ?_)
        rw [isx1 hi_me] at hr23
        subst hr23
        refine lv_if_ne (tgt := 16) hx hb dX9_set_9 (by decide) (fun c24 => ?_) (fun c24 => absurd c24 (by decide))
        refine lv_iload_n hx hb dX9_set_16 rfl (lv_at hl 2 rfl) ?_
        refine lv_i2l hx hb dX9_set_17 rfl ?_
        refine lv_topl (fun v25 ev25 => ?_)
        refine lv_lconst (v := 0) hx hb dX9_set_18 (by decide) ?_
        refine lv_ldc2 hx hb hown (hts (.constantLong RX9 123 (3)) (by decide +kernel)) dX9_set_19 ?_
        refine vp_callSi (W.runS (As := [.long v25, .long 0, .long 3]) (rest := []) ⟨hx, hb, hml, hown, hts⟩ (c9_in l v25 0 3) (va_cwS 3 hts gX9_set_X9_in rfl rfl rfl (by decide +kernel) ⟨Nat.le_of_ble_eq_true rfl, Nat.le_of_ble_eq_true rfl⟩) (preS_of okT (trivial)) rfl rfl hl.1 rfl (lv_room (Nat.le_of_ble_eq_true rfl)) dX9_set_22 ⟨Nat.le_of_ble_eq_true rfl, Nat.le_of_ble_eq_true rfl⟩) (fun r26 hr26 => ?_)
        have hzr26 : r26 = 1 := by rw [hr26, ev25, inq_i (y := 0) (z := 3) (by decide) (by decide)]; exact if_pos (laneI hln)
        subst hzr26
        refine lv_if_eq (tgt := 36) hx hb dX9_set_25 (by decide) (fun c27 => absurd c27 (by decide)) (fun c27 => ?_)
        refine lv_iload_n hx hb dX9_set_28 rfl (lv_at hl 2 rfl) ?_
        refine lv_lload_n hx hb dX9_set_29 rfl (lv_at hl 3 rfl) ?_
        refine vp_callSi (W.runS (As := [.int ln, .long (lN n)]) (rest := []) ⟨hx, hb, hml, hown, hts⟩ (c9_isNumber l ln n hn) (va_cwS 2 hts gX9_set_X9_isNumber rfl rfl rfl (by decide +kernel) ⟨Nat.le_of_ble_eq_true rfl, Nat.le_of_ble_eq_true rfl⟩) (preS_of okT (trivial)) rfl rfl hl.1 rfl (lv_room (Nat.le_of_ble_eq_true rfl)) dX9_set_30 ⟨Nat.le_of_ble_eq_true rfl, Nat.le_of_ble_eq_true rfl⟩) (fun r28 hr28 => ?_)
        rw [if_neg hnum] at hr28
        subst hr28
        refine lv_if_ne (tgt := 40) hx hb dX9_set_33 (by decide) (fun c29 => absurd (by decide) c29) (fun c29 => ?_)
        refine lv_sipush (v := -1002) hx hb dX9_set_36 (by decide) ?_
        exact W.iret (v := -1002) hx hb hr (fun t ht hW => ⟨⟨-1002, F22, rfl, (by subst ev25; have hsp : sp_set Mm (nI j_me) ln (lN n) = (-1002, Mm) := (by unfold sp_set; rw [hi_me]; exact (if_pos hln).trans (if_neg hnum)); rw [hsp]; exact ⟨rfl, (by exact ⟨⟨_, _, hmo, hFo_22⟩, ⟨hm0, hFqm0_22⟩, ⟨hm1, hFqm1_22⟩, ⟨hm2, hFqm2_22⟩, ⟨hm3, hFqm3_22⟩, ⟨hm4, hFqm4_22⟩, ⟨hm5, hFqm5_22⟩, ⟨hm6, hFqm6_22⟩, ⟨hm7, hFqm7_22⟩, ⟨hm8, hFqm8_22⟩, ⟨hm9, hFqm9_22⟩, ⟨hm10, hFqm10_22⟩, ⟨hm11, hFqm11_22⟩, ⟨hm12, hFqm12_22⟩, ⟨hm13, hFqm13_22⟩, ⟨hm14, hFqm14_22⟩, ⟨hm15, hFqm15_22⟩, hne⟩)⟩), (by show va_P _ _ _ t.heap; rw [ht]; exact hP)⟩, hS.F ht⟩) hS.2.2 dX9_set_39
    · refine lv_aload_n hx hb dX9_set_0 rfl (lv_at hl 0 rfl) ?_
      refine lv_iconst (v := 0) hx hb dX9_set_1 (by decide) ?_
      refine pg_put (ci := 8) (v := .int 0) (ty := .int) (C := RX9) (T := TX9) (N := 20) hx hb hts hinX9 tyX9 tyX9_ok nmX9 hown hK hP hD hS hmo hFo rfl 0 (by decide) (hts (.fieldLink RX9 61 "RopeDrumsModel" "thrown" "I") (by decide +kernel)) (fun _ h9 => h9) rfl (by decide +kernel) (rfl) (rfl) (Nat.le_of_ble_eq_true rfl) dX9_set_2 (fun H locs F30 eF30 hP hS => ?_)
      have eF30 : F30 = va_up F o (.inr (8, [.int 0, .ref (qm 0), .ref (qm 1), .ref (qm 2), .ref (qm 3), .ref (qm 4), .ref (qm 5), .ref (qm 6), .ref (qm 7), .int Pp.1, .ref (qm 8), .ref (qm 9), .ref (qm 10), .ref (qm 11), .ref (qm 12), .ref (qm 13), .ref (qm 14), .int Xx.1, .ref (qm 15), .long oc])) := eF30
      have hFo_30 : F30 o = .inr (8, [.int 0, .ref (qm 0), .ref (qm 1), .ref (qm 2), .ref (qm 3), .ref (qm 4), .ref (qm 5), .ref (qm 6), .ref (qm 7), .int Pp.1, .ref (qm 8), .ref (qm 9), .ref (qm 10), .ref (qm 11), .ref (qm 12), .ref (qm 13), .ref (qm 14), .int Xx.1, .ref (qm 15), .long oc]) := by rw [eF30]; exact va_up_self _ _ _
      have hFqm0_30 : F30 (qm 0) = cI (cy 1) 10 Mm.1 := by rw [eF30, va_up_ne _ _ (pl_ne hF0 hFo rfl)]; exact hF0
      have hFqm1_30 : F30 (qm 1) = cJ (cy 2) 10 Mm.2 := by rw [eF30, va_up_ne _ _ (pl_ne hF1 hFo rfl)]; exact hF1
      have hFqm2_30 : F30 (qm 2) = cD (cy 0) 6 Dd.1 := by rw [eF30, va_up_ne _ _ (pl_ne hF2 hFo rfl)]; exact hF2
      have hFqm3_30 : F30 (qm 3) = cD (cy 0) 6 Dd.2.1 := by rw [eF30, va_up_ne _ _ (pl_ne hF3 hFo rfl)]; exact hF3
      have hFqm4_30 : F30 (qm 4) = cD (cy 0) 6 Dd.2.2.1 := by rw [eF30, va_up_ne _ _ (pl_ne hF4 hFo rfl)]; exact hF4
      have hFqm5_30 : F30 (qm 5) = cJ (cy 2) 6 Dd.2.2.2 := by rw [eF30, va_up_ne _ _ (pl_ne hF5 hFo rfl)]; exact hF5
      have hFqm6_30 : F30 (qm 6) = cI (cy 1) 8 Sl.1 := by rw [eF30, va_up_ne _ _ (pl_ne hF6 hFo rfl)]; exact hF6
      have hFqm7_30 : F30 (qm 7) = cJ (cy 2) 128 Sl.2 := by rw [eF30, va_up_ne _ _ (pl_ne hF7 hFo rfl)]; exact hF7
      have hFqm8_30 : F30 (qm 8) = cI (cy 1) 30 Pp.2.1 := by rw [eF30, va_up_ne _ _ (pl_ne hF8 hFo rfl)]; exact hF8
      have hFqm9_30 : F30 (qm 9) = cI (cy 3) 30 Pp.2.2 := by rw [eF30, va_up_ne _ _ (pl_ne hF9 hFo rfl)]; exact hF9
      have hFqm10_30 : F30 (qm 10) = cI (cy 1) 5 Kr.1 := by rw [eF30, va_up_ne _ _ (pl_ne hF10 hFo rfl)]; exact hF10
      have hFqm11_30 : F30 (qm 11) = cI (cy 3) 5 Kr.2.1 := by rw [eF30, va_up_ne _ _ (pl_ne hF11 hFo rfl)]; exact hF11
      have hFqm12_30 : F30 (qm 12) = cI (cy 1) 60 Kr.2.2 := by rw [eF30, va_up_ne _ _ (pl_ne hF12 hFo rfl)]; exact hF12
      have hFqm13_30 : F30 (qm 13) = cI (cy 1) 4 Bk.1 := by rw [eF30, va_up_ne _ _ (pl_ne hF13 hFo rfl)]; exact hF13
      have hFqm14_30 : F30 (qm 14) = cD (cy 0) 4 Bk.2 := by rw [eF30, va_up_ne _ _ (pl_ne hF14 hFo rfl)]; exact hF14
      have hFqm15_30 : F30 (qm 15) = cI (cy 1) 6 Xx.2 := by rw [eF30, va_up_ne _ _ (pl_ne hF15 hFo rfl)]; exact hF15
      refine lv_iload_n hx hb dX9_set_5 rfl (lv_at hl 1 rfl) ?_
      refine vp_callSi (W.runS (As := [.int (nI j_me)]) (rest := []) ⟨hx, hb, hml, hown, hts⟩ (c9_isMeter l (nI j_me)) (va_cwS 1 hts gX9_set_X9_isMeter rfl rfl rfl (by decide +kernel) ⟨Nat.le_of_ble_eq_true rfl, Nat.le_of_ble_eq_true rfl⟩) (preS_of okT (trivial)) rfl rfl hl.1 rfl (lv_room (Nat.le_of_ble_eq_true rfl)) dX9_set_6 ⟨Nat.le_of_ble_eq_true rfl, Nat.le_of_ble_eq_true rfl⟩) (fun r31 hr31 => ?_)
      rw [isx1 hi_me] at hr31
      subst hr31
      refine lv_if_ne (tgt := 16) hx hb dX9_set_9 (by decide) (fun c32 => ?_) (fun c32 => absurd c32 (by decide))
      refine lv_iload_n hx hb dX9_set_16 rfl (lv_at hl 2 rfl) ?_
      refine lv_i2l hx hb dX9_set_17 rfl ?_
      refine lv_topl (fun v33 ev33 => ?_)
      refine lv_lconst (v := 0) hx hb dX9_set_18 (by decide) ?_
      refine lv_ldc2 hx hb hown (hts (.constantLong RX9 123 (3)) (by decide +kernel)) dX9_set_19 ?_
      refine vp_callSi (W.runS (As := [.long v33, .long 0, .long 3]) (rest := []) ⟨hx, hb, hml, hown, hts⟩ (c9_in l v33 0 3) (va_cwS 3 hts gX9_set_X9_in rfl rfl rfl (by decide +kernel) ⟨Nat.le_of_ble_eq_true rfl, Nat.le_of_ble_eq_true rfl⟩) (preS_of okT (trivial)) rfl rfl hl.1 rfl (lv_room (Nat.le_of_ble_eq_true rfl)) dX9_set_22 ⟨Nat.le_of_ble_eq_true rfl, Nat.le_of_ble_eq_true rfl⟩) (fun r34 hr34 => ?_)
      have hzr34 : r34 = 0 := by rw [hr34, ev33, inq_i (y := 0) (z := 3) (by decide) (by decide)]; exact if_neg (laneN hln)
      subst hzr34
      refine lv_if_eq (tgt := 36) hx hb dX9_set_25 (by decide) (fun c35 => ?_) (fun c35 => absurd (by decide) c35)
      refine lv_sipush (v := -1002) hx hb dX9_set_36 (by decide) ?_
      exact W.iret (v := -1002) hx hb hr (fun t ht hW => ⟨⟨-1002, F30, rfl, (by subst ev33; have hsp : sp_set Mm (nI j_me) ln (lN n) = (-1002, Mm) := (by unfold sp_set; rw [hi_me]; exact if_neg hln); rw [hsp]; exact ⟨rfl, (by exact ⟨⟨_, _, hmo, hFo_30⟩, ⟨hm0, hFqm0_30⟩, ⟨hm1, hFqm1_30⟩, ⟨hm2, hFqm2_30⟩, ⟨hm3, hFqm3_30⟩, ⟨hm4, hFqm4_30⟩, ⟨hm5, hFqm5_30⟩, ⟨hm6, hFqm6_30⟩, ⟨hm7, hFqm7_30⟩, ⟨hm8, hFqm8_30⟩, ⟨hm9, hFqm9_30⟩, ⟨hm10, hFqm10_30⟩, ⟨hm11, hFqm11_30⟩, ⟨hm12, hFqm12_30⟩, ⟨hm13, hFqm13_30⟩, ⟨hm14, hFqm14_30⟩, ⟨hm15, hFqm15_30⟩, hne⟩)⟩), (by show va_P _ _ _ t.heap; rw [ht]; exact hP)⟩, hS.F ht⟩) hS.2.2 dX9_set_39

set_option maxHeartbeats 8000000 in
set_option maxRecDepth 100000 in
theorem n_bits (l : Launch) (G : va_G) (cy : Nat → ClassId) (L : List Nat) (F : Nat → va_E) (sz : Nat) (o : Nat) (qm : Nat → Nat) (Mm : SM) (Dd : SD) (Sl : SL) (Pp : SP) (Kr : SR) (Bk : SB) (Xx : SX) (hR : RepM cy L o qm Mm Dd Sl Pp Kr Bk Xx F) (hV : Val Mm Dd Sl Pp Kr Bk) (me : Int32)  : Met l yX9_bits wsX9_bits ({ frames := 2, cells := 0, slots := 0, locals := 45 }) (va_Pc [.ref o, .int me] (fun U => bQ G cy L F sz U U.heap)) (va_Ql (fun (r : Int64) (F' : Nat → va_E) => r = sp_bits Mm me ∧ RepM cy L o qm Mm Dd Sl Pp Kr Bk Xx F') (fun F' t => va_P G vwCl (va_pl L F') t.heap) (va_A (va_pl L F) sz)) 0 0 (va_A (va_pl L F) sz) := by
  refine Met.ofW (cc := cX9_bits) (maxL := 2) (ret := (some .long)) (by decide) rfl ?_
  intro p e s m args below meth c s₁ B hml hv
  obtain ⟨rfl, hsz, hP, hK, hD0⟩ := hv
  have hx := B.exec
  have hb := B.bytes
  have hr := B.returns
  have hts := atoms_spec (ws := wsX9_bits) B.pre
  have hown : s.vm.findClass RX9 = some m.cls := findClass_of_methodNamed B.named
  have hlocks := B.notSynchronized
  have hinX9 : ∀ w ∈ wsX90, w ∈ wsX9_bits := by decide +kernel
  subst hsz
  have hD := hD0.self F s.heap.size
  generalize hAe : va_A (va_pl L F) s.heap.size = A at hD ⊢
  have hA : ∀ q : Nat, s.heap.size ≤ q → A q := fun q h => by rw [← hAe]; exact Or.inr h
  have hS : va_S A s.heap s.heap [] := va_S.rf
  obtain ⟨⟨th, oc, hmo, hFo⟩, ⟨hm0, hF0⟩, ⟨hm1, hF1⟩, ⟨hm2, hF2⟩, ⟨hm3, hF3⟩, ⟨hm4, hF4⟩, ⟨hm5, hF5⟩, ⟨hm6, hF6⟩, ⟨hm7, hF7⟩, ⟨hm8, hF8⟩, ⟨hm9, hF9⟩, ⟨hm10, hF10⟩, ⟨hm11, hF11⟩, ⟨hm12, hF12⟩, ⟨hm13, hF13⟩, ⟨hm14, hF14⟩, ⟨hm15, hF15⟩, hne⟩ := id hR
  obtain ⟨hVM, hVD, hVS, hVP, hVK, hVB⟩ := hV
  have hl := lv_entry ([.ref o, .int me]) (n := 2) (Nat.le_of_ble_eq_true rfl)
  rw [lg_entry_eq]
  generalize (lg_sl ([.ref o, .int me]) ++ List.replicate (2 - (lg_sl ([.ref o, .int me])).length) Slot.unset).toArray = ls at hl ⊢
  have hl : lv_has ls 2 [(0, .ref o), (1, .int me)] := hl
  rcases ixc 10 me with hi_me | ⟨j_me, hj_me, hi_me, ei_me⟩
  · refine lv_aload_n hx hb dX9_bits_0 rfl (lv_at hl 0 rfl) ?_
    refine lv_iconst (v := 0) hx hb dX9_bits_1 (by decide) ?_
    refine pg_put (ci := 8) (v := .int 0) (ty := .int) (C := RX9) (T := TX9) (N := 20) hx hb hts hinX9 tyX9 tyX9_ok nmX9 hown hK hP hD hS hmo hFo rfl 0 (by decide) (hts (.fieldLink RX9 61 "RopeDrumsModel" "thrown" "I") (by decide +kernel)) (fun _ h9 => h9) rfl (by decide +kernel) (rfl) (rfl) (Nat.le_of_ble_eq_true rfl) dX9_bits_2 (fun H locs F1 eF1 hP hS => ?_)
    have eF1 : F1 = va_up F o (.inr (8, [.int 0, .ref (qm 0), .ref (qm 1), .ref (qm 2), .ref (qm 3), .ref (qm 4), .ref (qm 5), .ref (qm 6), .ref (qm 7), .int Pp.1, .ref (qm 8), .ref (qm 9), .ref (qm 10), .ref (qm 11), .ref (qm 12), .ref (qm 13), .ref (qm 14), .int Xx.1, .ref (qm 15), .long oc])) := eF1
    have hFo_1 : F1 o = .inr (8, [.int 0, .ref (qm 0), .ref (qm 1), .ref (qm 2), .ref (qm 3), .ref (qm 4), .ref (qm 5), .ref (qm 6), .ref (qm 7), .int Pp.1, .ref (qm 8), .ref (qm 9), .ref (qm 10), .ref (qm 11), .ref (qm 12), .ref (qm 13), .ref (qm 14), .int Xx.1, .ref (qm 15), .long oc]) := by rw [eF1]; exact va_up_self _ _ _
    have hFqm0_1 : F1 (qm 0) = cI (cy 1) 10 Mm.1 := by rw [eF1, va_up_ne _ _ (pl_ne hF0 hFo rfl)]; exact hF0
    have hFqm1_1 : F1 (qm 1) = cJ (cy 2) 10 Mm.2 := by rw [eF1, va_up_ne _ _ (pl_ne hF1 hFo rfl)]; exact hF1
    have hFqm2_1 : F1 (qm 2) = cD (cy 0) 6 Dd.1 := by rw [eF1, va_up_ne _ _ (pl_ne hF2 hFo rfl)]; exact hF2
    have hFqm3_1 : F1 (qm 3) = cD (cy 0) 6 Dd.2.1 := by rw [eF1, va_up_ne _ _ (pl_ne hF3 hFo rfl)]; exact hF3
    have hFqm4_1 : F1 (qm 4) = cD (cy 0) 6 Dd.2.2.1 := by rw [eF1, va_up_ne _ _ (pl_ne hF4 hFo rfl)]; exact hF4
    have hFqm5_1 : F1 (qm 5) = cJ (cy 2) 6 Dd.2.2.2 := by rw [eF1, va_up_ne _ _ (pl_ne hF5 hFo rfl)]; exact hF5
    have hFqm6_1 : F1 (qm 6) = cI (cy 1) 8 Sl.1 := by rw [eF1, va_up_ne _ _ (pl_ne hF6 hFo rfl)]; exact hF6
    have hFqm7_1 : F1 (qm 7) = cJ (cy 2) 128 Sl.2 := by rw [eF1, va_up_ne _ _ (pl_ne hF7 hFo rfl)]; exact hF7
    have hFqm8_1 : F1 (qm 8) = cI (cy 1) 30 Pp.2.1 := by rw [eF1, va_up_ne _ _ (pl_ne hF8 hFo rfl)]; exact hF8
    have hFqm9_1 : F1 (qm 9) = cI (cy 3) 30 Pp.2.2 := by rw [eF1, va_up_ne _ _ (pl_ne hF9 hFo rfl)]; exact hF9
    have hFqm10_1 : F1 (qm 10) = cI (cy 1) 5 Kr.1 := by rw [eF1, va_up_ne _ _ (pl_ne hF10 hFo rfl)]; exact hF10
    have hFqm11_1 : F1 (qm 11) = cI (cy 3) 5 Kr.2.1 := by rw [eF1, va_up_ne _ _ (pl_ne hF11 hFo rfl)]; exact hF11
    have hFqm12_1 : F1 (qm 12) = cI (cy 1) 60 Kr.2.2 := by rw [eF1, va_up_ne _ _ (pl_ne hF12 hFo rfl)]; exact hF12
    have hFqm13_1 : F1 (qm 13) = cI (cy 1) 4 Bk.1 := by rw [eF1, va_up_ne _ _ (pl_ne hF13 hFo rfl)]; exact hF13
    have hFqm14_1 : F1 (qm 14) = cD (cy 0) 4 Bk.2 := by rw [eF1, va_up_ne _ _ (pl_ne hF14 hFo rfl)]; exact hF14
    have hFqm15_1 : F1 (qm 15) = cI (cy 1) 6 Xx.2 := by rw [eF1, va_up_ne _ _ (pl_ne hF15 hFo rfl)]; exact hF15
    refine lv_iload_n hx hb dX9_bits_5 rfl (lv_at hl 1 rfl) ?_
    refine vp_callSi (W.runS (As := [.int me]) (rest := []) ⟨hx, hb, hml, hown, hts⟩ (c9_isMeter l me) (va_cwS 1 hts gX9_bits_X9_isMeter rfl rfl rfl (by decide +kernel) ⟨Nat.le_of_ble_eq_true rfl, Nat.le_of_ble_eq_true rfl⟩) (preS_of okT (trivial)) rfl rfl hl.1 rfl (lv_room (Nat.le_of_ble_eq_true rfl)) dX9_bits_6 ⟨Nat.le_of_ble_eq_true rfl, Nat.le_of_ble_eq_true rfl⟩) (fun r2 hr2 => ?_)
    rw [isx0 hi_me] at hr2
    subst hr2
    refine lv_if_eq (tgt := 21) hx hb dX9_bits_9 (by decide) (fun c3 => ?_) (fun c3 => absurd (by decide) c3)
    refine lv_ldc2 hx hb hown (hts (.constantLong RX9 129 (-1001)) (by decide +kernel)) dX9_bits_21 ?_
    exact W.lret (v := -1001) hx hb hr (fun t ht hW => ⟨⟨-1001, F1, rfl, (by exact ⟨by unfold sp_bits; rw [hi_me], ⟨⟨_, _, hmo, hFo_1⟩, ⟨hm0, hFqm0_1⟩, ⟨hm1, hFqm1_1⟩, ⟨hm2, hFqm2_1⟩, ⟨hm3, hFqm3_1⟩, ⟨hm4, hFqm4_1⟩, ⟨hm5, hFqm5_1⟩, ⟨hm6, hFqm6_1⟩, ⟨hm7, hFqm7_1⟩, ⟨hm8, hFqm8_1⟩, ⟨hm9, hFqm9_1⟩, ⟨hm10, hFqm10_1⟩, ⟨hm11, hFqm11_1⟩, ⟨hm12, hFqm12_1⟩, ⟨hm13, hFqm13_1⟩, ⟨hm14, hFqm14_1⟩, ⟨hm15, hFqm15_1⟩, hne⟩⟩), (by show va_P _ _ _ t.heap; rw [ht]; exact hP)⟩, hS.F ht⟩) hS.2.2 dX9_bits_24
  · subst ei_me
    refine lv_aload_n hx hb dX9_bits_0 rfl (lv_at hl 0 rfl) ?_
    refine lv_iconst (v := 0) hx hb dX9_bits_1 (by decide) ?_
    refine pg_put (ci := 8) (v := .int 0) (ty := .int) (C := RX9) (T := TX9) (N := 20) hx hb hts hinX9 tyX9 tyX9_ok nmX9 hown hK hP hD hS hmo hFo rfl 0 (by decide) (hts (.fieldLink RX9 61 "RopeDrumsModel" "thrown" "I") (by decide +kernel)) (fun _ h9 => h9) rfl (by decide +kernel) (rfl) (rfl) (Nat.le_of_ble_eq_true rfl) dX9_bits_2 (fun H locs F4 eF4 hP hS => ?_)
    have eF4 : F4 = va_up F o (.inr (8, [.int 0, .ref (qm 0), .ref (qm 1), .ref (qm 2), .ref (qm 3), .ref (qm 4), .ref (qm 5), .ref (qm 6), .ref (qm 7), .int Pp.1, .ref (qm 8), .ref (qm 9), .ref (qm 10), .ref (qm 11), .ref (qm 12), .ref (qm 13), .ref (qm 14), .int Xx.1, .ref (qm 15), .long oc])) := eF4
    have hFo_4 : F4 o = .inr (8, [.int 0, .ref (qm 0), .ref (qm 1), .ref (qm 2), .ref (qm 3), .ref (qm 4), .ref (qm 5), .ref (qm 6), .ref (qm 7), .int Pp.1, .ref (qm 8), .ref (qm 9), .ref (qm 10), .ref (qm 11), .ref (qm 12), .ref (qm 13), .ref (qm 14), .int Xx.1, .ref (qm 15), .long oc]) := by rw [eF4]; exact va_up_self _ _ _
    have hFqm0_4 : F4 (qm 0) = cI (cy 1) 10 Mm.1 := by rw [eF4, va_up_ne _ _ (pl_ne hF0 hFo rfl)]; exact hF0
    have hFqm1_4 : F4 (qm 1) = cJ (cy 2) 10 Mm.2 := by rw [eF4, va_up_ne _ _ (pl_ne hF1 hFo rfl)]; exact hF1
    have hFqm2_4 : F4 (qm 2) = cD (cy 0) 6 Dd.1 := by rw [eF4, va_up_ne _ _ (pl_ne hF2 hFo rfl)]; exact hF2
    have hFqm3_4 : F4 (qm 3) = cD (cy 0) 6 Dd.2.1 := by rw [eF4, va_up_ne _ _ (pl_ne hF3 hFo rfl)]; exact hF3
    have hFqm4_4 : F4 (qm 4) = cD (cy 0) 6 Dd.2.2.1 := by rw [eF4, va_up_ne _ _ (pl_ne hF4 hFo rfl)]; exact hF4
    have hFqm5_4 : F4 (qm 5) = cJ (cy 2) 6 Dd.2.2.2 := by rw [eF4, va_up_ne _ _ (pl_ne hF5 hFo rfl)]; exact hF5
    have hFqm6_4 : F4 (qm 6) = cI (cy 1) 8 Sl.1 := by rw [eF4, va_up_ne _ _ (pl_ne hF6 hFo rfl)]; exact hF6
    have hFqm7_4 : F4 (qm 7) = cJ (cy 2) 128 Sl.2 := by rw [eF4, va_up_ne _ _ (pl_ne hF7 hFo rfl)]; exact hF7
    have hFqm8_4 : F4 (qm 8) = cI (cy 1) 30 Pp.2.1 := by rw [eF4, va_up_ne _ _ (pl_ne hF8 hFo rfl)]; exact hF8
    have hFqm9_4 : F4 (qm 9) = cI (cy 3) 30 Pp.2.2 := by rw [eF4, va_up_ne _ _ (pl_ne hF9 hFo rfl)]; exact hF9
    have hFqm10_4 : F4 (qm 10) = cI (cy 1) 5 Kr.1 := by rw [eF4, va_up_ne _ _ (pl_ne hF10 hFo rfl)]; exact hF10
    have hFqm11_4 : F4 (qm 11) = cI (cy 3) 5 Kr.2.1 := by rw [eF4, va_up_ne _ _ (pl_ne hF11 hFo rfl)]; exact hF11
    have hFqm12_4 : F4 (qm 12) = cI (cy 1) 60 Kr.2.2 := by rw [eF4, va_up_ne _ _ (pl_ne hF12 hFo rfl)]; exact hF12
    have hFqm13_4 : F4 (qm 13) = cI (cy 1) 4 Bk.1 := by rw [eF4, va_up_ne _ _ (pl_ne hF13 hFo rfl)]; exact hF13
    have hFqm14_4 : F4 (qm 14) = cD (cy 0) 4 Bk.2 := by rw [eF4, va_up_ne _ _ (pl_ne hF14 hFo rfl)]; exact hF14
    have hFqm15_4 : F4 (qm 15) = cI (cy 1) 6 Xx.2 := by rw [eF4, va_up_ne _ _ (pl_ne hF15 hFo rfl)]; exact hF15
    refine lv_iload_n hx hb dX9_bits_5 rfl (lv_at hl 1 rfl) ?_
    refine vp_callSi (W.runS (As := [.int (nI j_me)]) (rest := []) ⟨hx, hb, hml, hown, hts⟩ (c9_isMeter l (nI j_me)) (va_cwS 1 hts gX9_bits_X9_isMeter rfl rfl rfl (by decide +kernel) ⟨Nat.le_of_ble_eq_true rfl, Nat.le_of_ble_eq_true rfl⟩) (preS_of okT (trivial)) rfl rfl hl.1 rfl (lv_room (Nat.le_of_ble_eq_true rfl)) dX9_bits_6 ⟨Nat.le_of_ble_eq_true rfl, Nat.le_of_ble_eq_true rfl⟩) (fun r5 hr5 => ?_)
    rw [isx1 hi_me] at hr5
    subst hr5
    refine lv_if_eq (tgt := 21) hx hb dX9_bits_9 (by decide) (fun c6 => absurd c6 (by decide)) (fun c6 => ?_)
    refine lv_aload_n hx hb dX9_bits_12 rfl (lv_at hl 0 rfl) ?_
    refine pg_get (ci := 8) (C := RX9) (T := TX9) (N := 20) hx hb hts hinX9 hown hK hP hmo hFo_4 rfl 2 (by decide) (hts (.fieldLink RX9 13 "RopeDrumsModel" "held" "[J") (by decide +kernel)) (fun _ h9 => h9) rfl dX9_bits_13 ?_
    refine lv_iload_n hx hb dX9_bits_16 rfl (lv_at hl 1 rfl) ?_
    refine pg_lald hx hb hK hP 2 hm1 hFqm1_4 rfl (vp_in_nI (by omega) (by decide)) dX9_bits_17 ?_
    refine lv_topl (fun v7 ev7 => ?_)
    rw [nI_clamp (by omega)] at ev7
    refine lv_goto (tgt := 24) hx hb dX9_bits_18 (by decide) ?_
    exact W.lret (v := v7) hx hb hr (fun t ht hW => ⟨⟨v7, F4, rfl, (by subst ev7; exact ⟨by unfold sp_bits; rw [hi_me], ⟨⟨_, _, hmo, hFo_4⟩, ⟨hm0, hFqm0_4⟩, ⟨hm1, hFqm1_4⟩, ⟨hm2, hFqm2_4⟩, ⟨hm3, hFqm3_4⟩, ⟨hm4, hFqm4_4⟩, ⟨hm5, hFqm5_4⟩, ⟨hm6, hFqm6_4⟩, ⟨hm7, hFqm7_4⟩, ⟨hm8, hFqm8_4⟩, ⟨hm9, hFqm9_4⟩, ⟨hm10, hFqm10_4⟩, ⟨hm11, hFqm11_4⟩, ⟨hm12, hFqm12_4⟩, ⟨hm13, hFqm13_4⟩, ⟨hm14, hFqm14_4⟩, ⟨hm15, hFqm15_4⟩, hne⟩⟩), (by show va_P _ _ _ t.heap; rw [ht]; exact hP)⟩, hS.F ht⟩) hS.2.2 dX9_bits_24

set_option maxHeartbeats 8000000 in
set_option maxRecDepth 100000 in
theorem n_lane (l : Launch) (G : va_G) (cy : Nat → ClassId) (L : List Nat) (F : Nat → va_E) (sz : Nat) (o : Nat) (qm : Nat → Nat) (Mm : SM) (Dd : SD) (Sl : SL) (Pp : SP) (Kr : SR) (Bk : SB) (Xx : SX) (hR : RepM cy L o qm Mm Dd Sl Pp Kr Bk Xx F) (hV : Val Mm Dd Sl Pp Kr Bk) (me : Int32)  : Met l yX9_lane wsX9_lane ({ frames := 2, cells := 0, slots := 0, locals := 45 }) (va_Pc [.ref o, .int me] (fun U => bQ G cy L F sz U U.heap)) (va_Qi (fun (r : Int32) (F' : Nat → va_E) => r = sp_lane Mm me ∧ RepM cy L o qm Mm Dd Sl Pp Kr Bk Xx F') (fun F' t => va_P G vwCl (va_pl L F') t.heap) (va_A (va_pl L F) sz)) 0 0 (va_A (va_pl L F) sz) := by
  refine Met.ofW (cc := cX9_lane) (maxL := 2) (ret := (some .int)) (by decide) rfl ?_
  intro p e s m args below meth c s₁ B hml hv
  obtain ⟨rfl, hsz, hP, hK, hD0⟩ := hv
  have hx := B.exec
  have hb := B.bytes
  have hr := B.returns
  have hts := atoms_spec (ws := wsX9_lane) B.pre
  have hown : s.vm.findClass RX9 = some m.cls := findClass_of_methodNamed B.named
  have hlocks := B.notSynchronized
  have hinX9 : ∀ w ∈ wsX90, w ∈ wsX9_lane := by decide +kernel
  subst hsz
  have hD := hD0.self F s.heap.size
  generalize hAe : va_A (va_pl L F) s.heap.size = A at hD ⊢
  have hA : ∀ q : Nat, s.heap.size ≤ q → A q := fun q h => by rw [← hAe]; exact Or.inr h
  have hS : va_S A s.heap s.heap [] := va_S.rf
  obtain ⟨⟨th, oc, hmo, hFo⟩, ⟨hm0, hF0⟩, ⟨hm1, hF1⟩, ⟨hm2, hF2⟩, ⟨hm3, hF3⟩, ⟨hm4, hF4⟩, ⟨hm5, hF5⟩, ⟨hm6, hF6⟩, ⟨hm7, hF7⟩, ⟨hm8, hF8⟩, ⟨hm9, hF9⟩, ⟨hm10, hF10⟩, ⟨hm11, hF11⟩, ⟨hm12, hF12⟩, ⟨hm13, hF13⟩, ⟨hm14, hF14⟩, ⟨hm15, hF15⟩, hne⟩ := id hR
  obtain ⟨hVM, hVD, hVS, hVP, hVK, hVB⟩ := hV
  have hl := lv_entry ([.ref o, .int me]) (n := 2) (Nat.le_of_ble_eq_true rfl)
  rw [lg_entry_eq]
  generalize (lg_sl ([.ref o, .int me]) ++ List.replicate (2 - (lg_sl ([.ref o, .int me])).length) Slot.unset).toArray = ls at hl ⊢
  have hl : lv_has ls 2 [(0, .ref o), (1, .int me)] := hl
  rcases ixc 10 me with hi_me | ⟨j_me, hj_me, hi_me, ei_me⟩
  · refine lv_aload_n hx hb dX9_lane_0 rfl (lv_at hl 0 rfl) ?_
    refine lv_iconst (v := 0) hx hb dX9_lane_1 (by decide) ?_
    refine pg_put (ci := 8) (v := .int 0) (ty := .int) (C := RX9) (T := TX9) (N := 20) hx hb hts hinX9 tyX9 tyX9_ok nmX9 hown hK hP hD hS hmo hFo rfl 0 (by decide) (hts (.fieldLink RX9 61 "RopeDrumsModel" "thrown" "I") (by decide +kernel)) (fun _ h9 => h9) rfl (by decide +kernel) (rfl) (rfl) (Nat.le_of_ble_eq_true rfl) dX9_lane_2 (fun H locs F1 eF1 hP hS => ?_)
    have eF1 : F1 = va_up F o (.inr (8, [.int 0, .ref (qm 0), .ref (qm 1), .ref (qm 2), .ref (qm 3), .ref (qm 4), .ref (qm 5), .ref (qm 6), .ref (qm 7), .int Pp.1, .ref (qm 8), .ref (qm 9), .ref (qm 10), .ref (qm 11), .ref (qm 12), .ref (qm 13), .ref (qm 14), .int Xx.1, .ref (qm 15), .long oc])) := eF1
    have hFo_1 : F1 o = .inr (8, [.int 0, .ref (qm 0), .ref (qm 1), .ref (qm 2), .ref (qm 3), .ref (qm 4), .ref (qm 5), .ref (qm 6), .ref (qm 7), .int Pp.1, .ref (qm 8), .ref (qm 9), .ref (qm 10), .ref (qm 11), .ref (qm 12), .ref (qm 13), .ref (qm 14), .int Xx.1, .ref (qm 15), .long oc]) := by rw [eF1]; exact va_up_self _ _ _
    have hFqm0_1 : F1 (qm 0) = cI (cy 1) 10 Mm.1 := by rw [eF1, va_up_ne _ _ (pl_ne hF0 hFo rfl)]; exact hF0
    have hFqm1_1 : F1 (qm 1) = cJ (cy 2) 10 Mm.2 := by rw [eF1, va_up_ne _ _ (pl_ne hF1 hFo rfl)]; exact hF1
    have hFqm2_1 : F1 (qm 2) = cD (cy 0) 6 Dd.1 := by rw [eF1, va_up_ne _ _ (pl_ne hF2 hFo rfl)]; exact hF2
    have hFqm3_1 : F1 (qm 3) = cD (cy 0) 6 Dd.2.1 := by rw [eF1, va_up_ne _ _ (pl_ne hF3 hFo rfl)]; exact hF3
    have hFqm4_1 : F1 (qm 4) = cD (cy 0) 6 Dd.2.2.1 := by rw [eF1, va_up_ne _ _ (pl_ne hF4 hFo rfl)]; exact hF4
    have hFqm5_1 : F1 (qm 5) = cJ (cy 2) 6 Dd.2.2.2 := by rw [eF1, va_up_ne _ _ (pl_ne hF5 hFo rfl)]; exact hF5
    have hFqm6_1 : F1 (qm 6) = cI (cy 1) 8 Sl.1 := by rw [eF1, va_up_ne _ _ (pl_ne hF6 hFo rfl)]; exact hF6
    have hFqm7_1 : F1 (qm 7) = cJ (cy 2) 128 Sl.2 := by rw [eF1, va_up_ne _ _ (pl_ne hF7 hFo rfl)]; exact hF7
    have hFqm8_1 : F1 (qm 8) = cI (cy 1) 30 Pp.2.1 := by rw [eF1, va_up_ne _ _ (pl_ne hF8 hFo rfl)]; exact hF8
    have hFqm9_1 : F1 (qm 9) = cI (cy 3) 30 Pp.2.2 := by rw [eF1, va_up_ne _ _ (pl_ne hF9 hFo rfl)]; exact hF9
    have hFqm10_1 : F1 (qm 10) = cI (cy 1) 5 Kr.1 := by rw [eF1, va_up_ne _ _ (pl_ne hF10 hFo rfl)]; exact hF10
    have hFqm11_1 : F1 (qm 11) = cI (cy 3) 5 Kr.2.1 := by rw [eF1, va_up_ne _ _ (pl_ne hF11 hFo rfl)]; exact hF11
    have hFqm12_1 : F1 (qm 12) = cI (cy 1) 60 Kr.2.2 := by rw [eF1, va_up_ne _ _ (pl_ne hF12 hFo rfl)]; exact hF12
    have hFqm13_1 : F1 (qm 13) = cI (cy 1) 4 Bk.1 := by rw [eF1, va_up_ne _ _ (pl_ne hF13 hFo rfl)]; exact hF13
    have hFqm14_1 : F1 (qm 14) = cD (cy 0) 4 Bk.2 := by rw [eF1, va_up_ne _ _ (pl_ne hF14 hFo rfl)]; exact hF14
    have hFqm15_1 : F1 (qm 15) = cI (cy 1) 6 Xx.2 := by rw [eF1, va_up_ne _ _ (pl_ne hF15 hFo rfl)]; exact hF15
    refine lv_iload_n hx hb dX9_lane_5 rfl (lv_at hl 1 rfl) ?_
    refine vp_callSi (W.runS (As := [.int me]) (rest := []) ⟨hx, hb, hml, hown, hts⟩ (c9_isMeter l me) (va_cwS 1 hts gX9_lane_X9_isMeter rfl rfl rfl (by decide +kernel) ⟨Nat.le_of_ble_eq_true rfl, Nat.le_of_ble_eq_true rfl⟩) (preS_of okT (trivial)) rfl rfl hl.1 rfl (lv_room (Nat.le_of_ble_eq_true rfl)) dX9_lane_6 ⟨Nat.le_of_ble_eq_true rfl, Nat.le_of_ble_eq_true rfl⟩) (fun r2 hr2 => ?_)
    rw [isx0 hi_me] at hr2
    subst hr2
    refine lv_if_eq (tgt := 21) hx hb dX9_lane_9 (by decide) (fun c3 => ?_) (fun c3 => absurd (by decide) c3)
    refine lv_sipush (v := -1001) hx hb dX9_lane_21 (by decide) ?_
    exact W.iret (v := -1001) hx hb hr (fun t ht hW => ⟨⟨-1001, F1, rfl, (by exact ⟨by unfold sp_lane; rw [hi_me], ⟨⟨_, _, hmo, hFo_1⟩, ⟨hm0, hFqm0_1⟩, ⟨hm1, hFqm1_1⟩, ⟨hm2, hFqm2_1⟩, ⟨hm3, hFqm3_1⟩, ⟨hm4, hFqm4_1⟩, ⟨hm5, hFqm5_1⟩, ⟨hm6, hFqm6_1⟩, ⟨hm7, hFqm7_1⟩, ⟨hm8, hFqm8_1⟩, ⟨hm9, hFqm9_1⟩, ⟨hm10, hFqm10_1⟩, ⟨hm11, hFqm11_1⟩, ⟨hm12, hFqm12_1⟩, ⟨hm13, hFqm13_1⟩, ⟨hm14, hFqm14_1⟩, ⟨hm15, hFqm15_1⟩, hne⟩⟩), (by show va_P _ _ _ t.heap; rw [ht]; exact hP)⟩, hS.F ht⟩) hS.2.2 dX9_lane_24
  · subst ei_me
    refine lv_aload_n hx hb dX9_lane_0 rfl (lv_at hl 0 rfl) ?_
    refine lv_iconst (v := 0) hx hb dX9_lane_1 (by decide) ?_
    refine pg_put (ci := 8) (v := .int 0) (ty := .int) (C := RX9) (T := TX9) (N := 20) hx hb hts hinX9 tyX9 tyX9_ok nmX9 hown hK hP hD hS hmo hFo rfl 0 (by decide) (hts (.fieldLink RX9 61 "RopeDrumsModel" "thrown" "I") (by decide +kernel)) (fun _ h9 => h9) rfl (by decide +kernel) (rfl) (rfl) (Nat.le_of_ble_eq_true rfl) dX9_lane_2 (fun H locs F4 eF4 hP hS => ?_)
    have eF4 : F4 = va_up F o (.inr (8, [.int 0, .ref (qm 0), .ref (qm 1), .ref (qm 2), .ref (qm 3), .ref (qm 4), .ref (qm 5), .ref (qm 6), .ref (qm 7), .int Pp.1, .ref (qm 8), .ref (qm 9), .ref (qm 10), .ref (qm 11), .ref (qm 12), .ref (qm 13), .ref (qm 14), .int Xx.1, .ref (qm 15), .long oc])) := eF4
    have hFo_4 : F4 o = .inr (8, [.int 0, .ref (qm 0), .ref (qm 1), .ref (qm 2), .ref (qm 3), .ref (qm 4), .ref (qm 5), .ref (qm 6), .ref (qm 7), .int Pp.1, .ref (qm 8), .ref (qm 9), .ref (qm 10), .ref (qm 11), .ref (qm 12), .ref (qm 13), .ref (qm 14), .int Xx.1, .ref (qm 15), .long oc]) := by rw [eF4]; exact va_up_self _ _ _
    have hFqm0_4 : F4 (qm 0) = cI (cy 1) 10 Mm.1 := by rw [eF4, va_up_ne _ _ (pl_ne hF0 hFo rfl)]; exact hF0
    have hFqm1_4 : F4 (qm 1) = cJ (cy 2) 10 Mm.2 := by rw [eF4, va_up_ne _ _ (pl_ne hF1 hFo rfl)]; exact hF1
    have hFqm2_4 : F4 (qm 2) = cD (cy 0) 6 Dd.1 := by rw [eF4, va_up_ne _ _ (pl_ne hF2 hFo rfl)]; exact hF2
    have hFqm3_4 : F4 (qm 3) = cD (cy 0) 6 Dd.2.1 := by rw [eF4, va_up_ne _ _ (pl_ne hF3 hFo rfl)]; exact hF3
    have hFqm4_4 : F4 (qm 4) = cD (cy 0) 6 Dd.2.2.1 := by rw [eF4, va_up_ne _ _ (pl_ne hF4 hFo rfl)]; exact hF4
    have hFqm5_4 : F4 (qm 5) = cJ (cy 2) 6 Dd.2.2.2 := by rw [eF4, va_up_ne _ _ (pl_ne hF5 hFo rfl)]; exact hF5
    have hFqm6_4 : F4 (qm 6) = cI (cy 1) 8 Sl.1 := by rw [eF4, va_up_ne _ _ (pl_ne hF6 hFo rfl)]; exact hF6
    have hFqm7_4 : F4 (qm 7) = cJ (cy 2) 128 Sl.2 := by rw [eF4, va_up_ne _ _ (pl_ne hF7 hFo rfl)]; exact hF7
    have hFqm8_4 : F4 (qm 8) = cI (cy 1) 30 Pp.2.1 := by rw [eF4, va_up_ne _ _ (pl_ne hF8 hFo rfl)]; exact hF8
    have hFqm9_4 : F4 (qm 9) = cI (cy 3) 30 Pp.2.2 := by rw [eF4, va_up_ne _ _ (pl_ne hF9 hFo rfl)]; exact hF9
    have hFqm10_4 : F4 (qm 10) = cI (cy 1) 5 Kr.1 := by rw [eF4, va_up_ne _ _ (pl_ne hF10 hFo rfl)]; exact hF10
    have hFqm11_4 : F4 (qm 11) = cI (cy 3) 5 Kr.2.1 := by rw [eF4, va_up_ne _ _ (pl_ne hF11 hFo rfl)]; exact hF11
    have hFqm12_4 : F4 (qm 12) = cI (cy 1) 60 Kr.2.2 := by rw [eF4, va_up_ne _ _ (pl_ne hF12 hFo rfl)]; exact hF12
    have hFqm13_4 : F4 (qm 13) = cI (cy 1) 4 Bk.1 := by rw [eF4, va_up_ne _ _ (pl_ne hF13 hFo rfl)]; exact hF13
    have hFqm14_4 : F4 (qm 14) = cD (cy 0) 4 Bk.2 := by rw [eF4, va_up_ne _ _ (pl_ne hF14 hFo rfl)]; exact hF14
    have hFqm15_4 : F4 (qm 15) = cI (cy 1) 6 Xx.2 := by rw [eF4, va_up_ne _ _ (pl_ne hF15 hFo rfl)]; exact hF15
    refine lv_iload_n hx hb dX9_lane_5 rfl (lv_at hl 1 rfl) ?_
    refine vp_callSi (W.runS (As := [.int (nI j_me)]) (rest := []) ⟨hx, hb, hml, hown, hts⟩ (c9_isMeter l (nI j_me)) (va_cwS 1 hts gX9_lane_X9_isMeter rfl rfl rfl (by decide +kernel) ⟨Nat.le_of_ble_eq_true rfl, Nat.le_of_ble_eq_true rfl⟩) (preS_of okT (trivial)) rfl rfl hl.1 rfl (lv_room (Nat.le_of_ble_eq_true rfl)) dX9_lane_6 ⟨Nat.le_of_ble_eq_true rfl, Nat.le_of_ble_eq_true rfl⟩) (fun r5 hr5 => ?_)
    rw [isx1 hi_me] at hr5
    subst hr5
    refine lv_if_eq (tgt := 21) hx hb dX9_lane_9 (by decide) (fun c6 => absurd c6 (by decide)) (fun c6 => ?_)
    refine lv_aload_n hx hb dX9_lane_12 rfl (lv_at hl 0 rfl) ?_
    refine pg_get (ci := 8) (C := RX9) (T := TX9) (N := 20) hx hb hts hinX9 hown hK hP hmo hFo_4 rfl 1 (by decide) (hts (.fieldLink RX9 7 "RopeDrumsModel" "laneOf" "[I") (by decide +kernel)) (fun _ h9 => h9) rfl dX9_lane_13 ?_
    refine lv_iload_n hx hb dX9_lane_16 rfl (lv_at hl 1 rfl) ?_
    refine pg_iald hx hb hK hP 1 hm0 hFqm0_4 rfl (vp_in_nI (by omega) (by decide)) dX9_lane_17 ?_
    refine lv_topi (fun v7 ev7 => ?_)
    rw [nI_clamp (by omega)] at ev7
    refine lv_goto (tgt := 24) hx hb dX9_lane_18 (by decide) ?_
    exact W.iret (v := v7) hx hb hr (fun t ht hW => ⟨⟨v7, F4, rfl, (by subst ev7; exact ⟨by unfold sp_lane; rw [hi_me], ⟨⟨_, _, hmo, hFo_4⟩, ⟨hm0, hFqm0_4⟩, ⟨hm1, hFqm1_4⟩, ⟨hm2, hFqm2_4⟩, ⟨hm3, hFqm3_4⟩, ⟨hm4, hFqm4_4⟩, ⟨hm5, hFqm5_4⟩, ⟨hm6, hFqm6_4⟩, ⟨hm7, hFqm7_4⟩, ⟨hm8, hFqm8_4⟩, ⟨hm9, hFqm9_4⟩, ⟨hm10, hFqm10_4⟩, ⟨hm11, hFqm11_4⟩, ⟨hm12, hFqm12_4⟩, ⟨hm13, hFqm13_4⟩, ⟨hm14, hFqm14_4⟩, ⟨hm15, hFqm15_4⟩, hne⟩⟩), (by show va_P _ _ _ t.heap; rw [ht]; exact hP)⟩, hS.F ht⟩) hS.2.2 dX9_lane_24

set_option maxHeartbeats 8000000 in
set_option maxRecDepth 100000 in
theorem n_turn (l : Launch) (G : va_G) (cy : Nat → ClassId) (L : List Nat) (F : Nat → va_E) (sz : Nat) (o : Nat) (qm : Nat → Nat) (Mm : SM) (Dd : SD) (Sl : SL) (Pp : SP) (Kr : SR) (Bk : SB) (Xx : SX) (hR : RepM cy L o qm Mm Dd Sl Pp Kr Bk Xx F) (hV : Val Mm Dd Sl Pp Kr Bk) (me ln : Int32)  : Met l yX9_turn wsX9_turn ({ frames := 3, cells := 0, slots := 0, locals := 70 }) (va_Pc [.ref o, .int me, .int ln] (fun U => bQ G cy L F sz U U.heap)) (va_Qi (fun (r : Int32) (F' : Nat → va_E) => r = (sp_turn Mm me ln).1 ∧ RepM cy L o qm (sp_turn Mm me ln).2 Dd Sl Pp Kr Bk Xx F') (fun F' t => va_P G vwCl (va_pl L F') t.heap) (va_A (va_pl L F) sz)) 0 0 (va_A (va_pl L F) sz) := by
  refine Met.ofW (cc := cX9_turn) (maxL := 3) (ret := (some .int)) (by decide) rfl ?_
  intro p e s m args below meth c s₁ B hml hv
  obtain ⟨rfl, hsz, hP, hK, hD0⟩ := hv
  have hx := B.exec
  have hb := B.bytes
  have hr := B.returns
  have hts := atoms_spec (ws := wsX9_turn) B.pre
  have hown : s.vm.findClass RX9 = some m.cls := findClass_of_methodNamed B.named
  have hlocks := B.notSynchronized
  have hinX9 : ∀ w ∈ wsX90, w ∈ wsX9_turn := by decide +kernel
  subst hsz
  have hD := hD0.self F s.heap.size
  generalize hAe : va_A (va_pl L F) s.heap.size = A at hD ⊢
  have hA : ∀ q : Nat, s.heap.size ≤ q → A q := fun q h => by rw [← hAe]; exact Or.inr h
  have hS : va_S A s.heap s.heap [] := va_S.rf
  obtain ⟨⟨th, oc, hmo, hFo⟩, ⟨hm0, hF0⟩, ⟨hm1, hF1⟩, ⟨hm2, hF2⟩, ⟨hm3, hF3⟩, ⟨hm4, hF4⟩, ⟨hm5, hF5⟩, ⟨hm6, hF6⟩, ⟨hm7, hF7⟩, ⟨hm8, hF8⟩, ⟨hm9, hF9⟩, ⟨hm10, hF10⟩, ⟨hm11, hF11⟩, ⟨hm12, hF12⟩, ⟨hm13, hF13⟩, ⟨hm14, hF14⟩, ⟨hm15, hF15⟩, hne⟩ := id hR
  obtain ⟨hVM, hVD, hVS, hVP, hVK, hVB⟩ := hV
  have hl := lv_entry ([.ref o, .int me, .int ln]) (n := 3) (Nat.le_of_ble_eq_true rfl)
  rw [lg_entry_eq]
  generalize (lg_sl ([.ref o, .int me, .int ln]) ++ List.replicate (3 - (lg_sl ([.ref o, .int me, .int ln])).length) Slot.unset).toArray = ls at hl ⊢
  have hl : lv_has ls 3 [(0, .ref o), (1, .int me), (2, .int ln)] := hl
  rcases ixc 10 me with hi_me | ⟨j_me, hj_me, hi_me, ei_me⟩
  · refine lv_aload_n hx hb dX9_turn_0 rfl (lv_at hl 0 rfl) ?_
    refine lv_iconst (v := 0) hx hb dX9_turn_1 (by decide) ?_
    refine pg_put (ci := 8) (v := .int 0) (ty := .int) (C := RX9) (T := TX9) (N := 20) hx hb hts hinX9 tyX9 tyX9_ok nmX9 hown hK hP hD hS hmo hFo rfl 0 (by decide) (hts (.fieldLink RX9 61 "RopeDrumsModel" "thrown" "I") (by decide +kernel)) (fun _ h9 => h9) rfl (by decide +kernel) (rfl) (rfl) (Nat.le_of_ble_eq_true rfl) dX9_turn_2 (fun H locs F1 eF1 hP hS => ?_)
    have eF1 : F1 = va_up F o (.inr (8, [.int 0, .ref (qm 0), .ref (qm 1), .ref (qm 2), .ref (qm 3), .ref (qm 4), .ref (qm 5), .ref (qm 6), .ref (qm 7), .int Pp.1, .ref (qm 8), .ref (qm 9), .ref (qm 10), .ref (qm 11), .ref (qm 12), .ref (qm 13), .ref (qm 14), .int Xx.1, .ref (qm 15), .long oc])) := eF1
    have hFo_1 : F1 o = .inr (8, [.int 0, .ref (qm 0), .ref (qm 1), .ref (qm 2), .ref (qm 3), .ref (qm 4), .ref (qm 5), .ref (qm 6), .ref (qm 7), .int Pp.1, .ref (qm 8), .ref (qm 9), .ref (qm 10), .ref (qm 11), .ref (qm 12), .ref (qm 13), .ref (qm 14), .int Xx.1, .ref (qm 15), .long oc]) := by rw [eF1]; exact va_up_self _ _ _
    have hFqm0_1 : F1 (qm 0) = cI (cy 1) 10 Mm.1 := by rw [eF1, va_up_ne _ _ (pl_ne hF0 hFo rfl)]; exact hF0
    have hFqm1_1 : F1 (qm 1) = cJ (cy 2) 10 Mm.2 := by rw [eF1, va_up_ne _ _ (pl_ne hF1 hFo rfl)]; exact hF1
    have hFqm2_1 : F1 (qm 2) = cD (cy 0) 6 Dd.1 := by rw [eF1, va_up_ne _ _ (pl_ne hF2 hFo rfl)]; exact hF2
    have hFqm3_1 : F1 (qm 3) = cD (cy 0) 6 Dd.2.1 := by rw [eF1, va_up_ne _ _ (pl_ne hF3 hFo rfl)]; exact hF3
    have hFqm4_1 : F1 (qm 4) = cD (cy 0) 6 Dd.2.2.1 := by rw [eF1, va_up_ne _ _ (pl_ne hF4 hFo rfl)]; exact hF4
    have hFqm5_1 : F1 (qm 5) = cJ (cy 2) 6 Dd.2.2.2 := by rw [eF1, va_up_ne _ _ (pl_ne hF5 hFo rfl)]; exact hF5
    have hFqm6_1 : F1 (qm 6) = cI (cy 1) 8 Sl.1 := by rw [eF1, va_up_ne _ _ (pl_ne hF6 hFo rfl)]; exact hF6
    have hFqm7_1 : F1 (qm 7) = cJ (cy 2) 128 Sl.2 := by rw [eF1, va_up_ne _ _ (pl_ne hF7 hFo rfl)]; exact hF7
    have hFqm8_1 : F1 (qm 8) = cI (cy 1) 30 Pp.2.1 := by rw [eF1, va_up_ne _ _ (pl_ne hF8 hFo rfl)]; exact hF8
    have hFqm9_1 : F1 (qm 9) = cI (cy 3) 30 Pp.2.2 := by rw [eF1, va_up_ne _ _ (pl_ne hF9 hFo rfl)]; exact hF9
    have hFqm10_1 : F1 (qm 10) = cI (cy 1) 5 Kr.1 := by rw [eF1, va_up_ne _ _ (pl_ne hF10 hFo rfl)]; exact hF10
    have hFqm11_1 : F1 (qm 11) = cI (cy 3) 5 Kr.2.1 := by rw [eF1, va_up_ne _ _ (pl_ne hF11 hFo rfl)]; exact hF11
    have hFqm12_1 : F1 (qm 12) = cI (cy 1) 60 Kr.2.2 := by rw [eF1, va_up_ne _ _ (pl_ne hF12 hFo rfl)]; exact hF12
    have hFqm13_1 : F1 (qm 13) = cI (cy 1) 4 Bk.1 := by rw [eF1, va_up_ne _ _ (pl_ne hF13 hFo rfl)]; exact hF13
    have hFqm14_1 : F1 (qm 14) = cD (cy 0) 4 Bk.2 := by rw [eF1, va_up_ne _ _ (pl_ne hF14 hFo rfl)]; exact hF14
    have hFqm15_1 : F1 (qm 15) = cI (cy 1) 6 Xx.2 := by rw [eF1, va_up_ne _ _ (pl_ne hF15 hFo rfl)]; exact hF15
    refine lv_iload_n hx hb dX9_turn_5 rfl (lv_at hl 1 rfl) ?_
    refine vp_callSi (W.runS (As := [.int me]) (rest := []) ⟨hx, hb, hml, hown, hts⟩ (c9_isMeter l me) (va_cwS 1 hts gX9_turn_X9_isMeter rfl rfl rfl (by decide +kernel) ⟨Nat.le_of_ble_eq_true rfl, Nat.le_of_ble_eq_true rfl⟩) (preS_of okT (trivial)) rfl rfl hl.1 rfl (lv_room (Nat.le_of_ble_eq_true rfl)) dX9_turn_6 ⟨Nat.le_of_ble_eq_true rfl, Nat.le_of_ble_eq_true rfl⟩) (fun r2 hr2 => ?_)
    rw [isx0 hi_me] at hr2
    subst hr2
    refine lv_if_ne (tgt := 16) hx hb dX9_turn_9 (by decide) (fun c3 => absurd (by decide) c3) (fun c3 => ?_)
    refine lv_sipush (v := -1001) hx hb dX9_turn_12 (by decide) ?_
    exact W.iret (v := -1001) hx hb hr (fun t ht hW => ⟨⟨-1001, F1, rfl, (by have hsp : sp_turn Mm me ln = (-1001, Mm) := (by unfold sp_turn; rw [hi_me]); rw [hsp]; exact ⟨rfl, (by exact ⟨⟨_, _, hmo, hFo_1⟩, ⟨hm0, hFqm0_1⟩, ⟨hm1, hFqm1_1⟩, ⟨hm2, hFqm2_1⟩, ⟨hm3, hFqm3_1⟩, ⟨hm4, hFqm4_1⟩, ⟨hm5, hFqm5_1⟩, ⟨hm6, hFqm6_1⟩, ⟨hm7, hFqm7_1⟩, ⟨hm8, hFqm8_1⟩, ⟨hm9, hFqm9_1⟩, ⟨hm10, hFqm10_1⟩, ⟨hm11, hFqm11_1⟩, ⟨hm12, hFqm12_1⟩, ⟨hm13, hFqm13_1⟩, ⟨hm14, hFqm14_1⟩, ⟨hm15, hFqm15_1⟩, hne⟩)⟩), (by show va_P _ _ _ t.heap; rw [ht]; exact hP)⟩, hS.F ht⟩) hS.2.2 dX9_turn_15
  · subst ei_me
    by_cases hln : laneB ln = true
    · refine lv_aload_n hx hb dX9_turn_0 rfl (lv_at hl 0 rfl) ?_
      refine lv_iconst (v := 0) hx hb dX9_turn_1 (by decide) ?_
      refine pg_put (ci := 8) (v := .int 0) (ty := .int) (C := RX9) (T := TX9) (N := 20) hx hb hts hinX9 tyX9 tyX9_ok nmX9 hown hK hP hD hS hmo hFo rfl 0 (by decide) (hts (.fieldLink RX9 61 "RopeDrumsModel" "thrown" "I") (by decide +kernel)) (fun _ h9 => h9) rfl (by decide +kernel) (rfl) (rfl) (Nat.le_of_ble_eq_true rfl) dX9_turn_2 (fun H locs F4 eF4 hP hS => ?_)
      have eF4 : F4 = va_up F o (.inr (8, [.int 0, .ref (qm 0), .ref (qm 1), .ref (qm 2), .ref (qm 3), .ref (qm 4), .ref (qm 5), .ref (qm 6), .ref (qm 7), .int Pp.1, .ref (qm 8), .ref (qm 9), .ref (qm 10), .ref (qm 11), .ref (qm 12), .ref (qm 13), .ref (qm 14), .int Xx.1, .ref (qm 15), .long oc])) := eF4
      have hFo_4 : F4 o = .inr (8, [.int 0, .ref (qm 0), .ref (qm 1), .ref (qm 2), .ref (qm 3), .ref (qm 4), .ref (qm 5), .ref (qm 6), .ref (qm 7), .int Pp.1, .ref (qm 8), .ref (qm 9), .ref (qm 10), .ref (qm 11), .ref (qm 12), .ref (qm 13), .ref (qm 14), .int Xx.1, .ref (qm 15), .long oc]) := by rw [eF4]; exact va_up_self _ _ _
      have hFqm0_4 : F4 (qm 0) = cI (cy 1) 10 Mm.1 := by rw [eF4, va_up_ne _ _ (pl_ne hF0 hFo rfl)]; exact hF0
      have hFqm1_4 : F4 (qm 1) = cJ (cy 2) 10 Mm.2 := by rw [eF4, va_up_ne _ _ (pl_ne hF1 hFo rfl)]; exact hF1
      have hFqm2_4 : F4 (qm 2) = cD (cy 0) 6 Dd.1 := by rw [eF4, va_up_ne _ _ (pl_ne hF2 hFo rfl)]; exact hF2
      have hFqm3_4 : F4 (qm 3) = cD (cy 0) 6 Dd.2.1 := by rw [eF4, va_up_ne _ _ (pl_ne hF3 hFo rfl)]; exact hF3
      have hFqm4_4 : F4 (qm 4) = cD (cy 0) 6 Dd.2.2.1 := by rw [eF4, va_up_ne _ _ (pl_ne hF4 hFo rfl)]; exact hF4
      have hFqm5_4 : F4 (qm 5) = cJ (cy 2) 6 Dd.2.2.2 := by rw [eF4, va_up_ne _ _ (pl_ne hF5 hFo rfl)]; exact hF5
      have hFqm6_4 : F4 (qm 6) = cI (cy 1) 8 Sl.1 := by rw [eF4, va_up_ne _ _ (pl_ne hF6 hFo rfl)]; exact hF6
      have hFqm7_4 : F4 (qm 7) = cJ (cy 2) 128 Sl.2 := by rw [eF4, va_up_ne _ _ (pl_ne hF7 hFo rfl)]; exact hF7
      have hFqm8_4 : F4 (qm 8) = cI (cy 1) 30 Pp.2.1 := by rw [eF4, va_up_ne _ _ (pl_ne hF8 hFo rfl)]; exact hF8
      have hFqm9_4 : F4 (qm 9) = cI (cy 3) 30 Pp.2.2 := by rw [eF4, va_up_ne _ _ (pl_ne hF9 hFo rfl)]; exact hF9
      have hFqm10_4 : F4 (qm 10) = cI (cy 1) 5 Kr.1 := by rw [eF4, va_up_ne _ _ (pl_ne hF10 hFo rfl)]; exact hF10
      have hFqm11_4 : F4 (qm 11) = cI (cy 3) 5 Kr.2.1 := by rw [eF4, va_up_ne _ _ (pl_ne hF11 hFo rfl)]; exact hF11
      have hFqm12_4 : F4 (qm 12) = cI (cy 1) 60 Kr.2.2 := by rw [eF4, va_up_ne _ _ (pl_ne hF12 hFo rfl)]; exact hF12
      have hFqm13_4 : F4 (qm 13) = cI (cy 1) 4 Bk.1 := by rw [eF4, va_up_ne _ _ (pl_ne hF13 hFo rfl)]; exact hF13
      have hFqm14_4 : F4 (qm 14) = cD (cy 0) 4 Bk.2 := by rw [eF4, va_up_ne _ _ (pl_ne hF14 hFo rfl)]; exact hF14
      have hFqm15_4 : F4 (qm 15) = cI (cy 1) 6 Xx.2 := by rw [eF4, va_up_ne _ _ (pl_ne hF15 hFo rfl)]; exact hF15
      refine lv_iload_n hx hb dX9_turn_5 rfl (lv_at hl 1 rfl) ?_
      refine vp_callSi (W.runS (As := [.int (nI j_me)]) (rest := []) ⟨hx, hb, hml, hown, hts⟩ (c9_isMeter l (nI j_me)) (va_cwS 1 hts gX9_turn_X9_isMeter rfl rfl rfl (by decide +kernel) ⟨Nat.le_of_ble_eq_true rfl, Nat.le_of_ble_eq_true rfl⟩) (preS_of okT (trivial)) rfl rfl hl.1 rfl (lv_room (Nat.le_of_ble_eq_true rfl)) dX9_turn_6 ⟨Nat.le_of_ble_eq_true rfl, Nat.le_of_ble_eq_true rfl⟩) (fun r5 hr5 => ?_)
      rw [isx1 hi_me] at hr5
      subst hr5
      refine lv_if_ne (tgt := 16) hx hb dX9_turn_9 (by decide) (fun c6 => ?_) (fun c6 => absurd c6 (by decide))
      refine lv_iload_n hx hb dX9_turn_16 rfl (lv_at hl 2 rfl) ?_
      refine lv_i2l hx hb dX9_turn_17 rfl ?_
      refine lv_topl (fun v7 ev7 => ?_)
      refine lv_lconst (v := 0) hx hb dX9_turn_18 (by decide) ?_
      refine lv_ldc2 hx hb hown (hts (.constantLong RX9 123 (3)) (by decide +kernel)) dX9_turn_19 ?_
      refine vp_callSi (W.runS (As := [.long v7, .long 0, .long 3]) (rest := []) ⟨hx, hb, hml, hown, hts⟩ (c9_in l v7 0 3) (va_cwS 3 hts gX9_turn_X9_in rfl rfl rfl (by decide +kernel) ⟨Nat.le_of_ble_eq_true rfl, Nat.le_of_ble_eq_true rfl⟩) (preS_of okT (trivial)) rfl rfl hl.1 rfl (lv_room (Nat.le_of_ble_eq_true rfl)) dX9_turn_22 ⟨Nat.le_of_ble_eq_true rfl, Nat.le_of_ble_eq_true rfl⟩) (fun r8 hr8 => ?_)
      have hzr8 : r8 = 1 := by rw [hr8, ev7, inq_i (y := 0) (z := 3) (by decide) (by decide)]; exact if_pos (laneI hln)
      subst hzr8
      refine lv_if_ne (tgt := 32) hx hb dX9_turn_25 (by decide) (fun c9 => ?_) (fun c9 => absurd c9 (by decide))
      refine lv_aload_n hx hb dX9_turn_32 rfl (lv_at hl 0 rfl) ?_
      refine pg_get (ci := 8) (C := RX9) (T := TX9) (N := 20) hx hb hts hinX9 hown hK hP hmo hFo_4 rfl 2 (by decide) (hts (.fieldLink RX9 13 "RopeDrumsModel" "held" "[J") (by decide +kernel)) (fun _ h9 => h9) rfl dX9_turn_33 ?_
      refine lv_iload_n hx hb dX9_turn_36 rfl (lv_at hl 1 rfl) ?_
      refine lv_aload_n hx hb dX9_turn_37 rfl (lv_at hl 0 rfl) ?_
      refine pg_get (ci := 8) (C := RX9) (T := TX9) (N := 20) hx hb hts hinX9 hown hK hP hmo hFo_4 rfl 1 (by decide) (hts (.fieldLink RX9 7 "RopeDrumsModel" "laneOf" "[I") (by decide +kernel)) (fun _ h9 => h9) rfl dX9_turn_38 ?_
      refine lv_iload_n hx hb dX9_turn_41 rfl (lv_at hl 1 rfl) ?_
      refine pg_iald hx hb hK hP 1 hm0 hFqm0_4 rfl (vp_in_nI (by omega) (by decide)) dX9_turn_42 ?_
      refine lv_topi (fun v10 ev10 => ?_)
      rw [nI_clamp (by omega)] at ev10
      refine lv_aload_n hx hb dX9_turn_43 rfl (lv_at hl 0 rfl) ?_
      refine pg_get (ci := 8) (C := RX9) (T := TX9) (N := 20) hx hb hts hinX9 hown hK hP hmo hFo_4 rfl 2 (by decide) (hts (.fieldLink RX9 13 "RopeDrumsModel" "held" "[J") (by decide +kernel)) (fun _ h9 => h9) rfl dX9_turn_44 ?_
      refine lv_iload_n hx hb dX9_turn_47 rfl (lv_at hl 1 rfl) ?_
      refine pg_lald hx hb hK hP 2 hm1 hFqm1_4 rfl (vp_in_nI (by omega) (by decide)) dX9_turn_48 ?_
      refine lv_topl (fun v11 ev11 => ?_)
      rw [nI_clamp (by omega)] at ev11
      refine lv_iload_n hx hb dX9_turn_49 rfl (lv_at hl 2 rfl) ?_
      refine vp_callSl (W.runS (As := [.int v10, .long v11, .int ln]) (rest := [.int (nI j_me), .ref (qm 1)]) ⟨hx, hb, hml, hown, hts⟩ (c9_turned l v10 ln v11 (by rw [ev10, ev11]; exact (hVM j_me hj_me))) (va_cwS 3 hts gX9_turn_X9_turned rfl rfl rfl (by decide +kernel) ⟨Nat.le_of_ble_eq_true rfl, Nat.le_of_ble_eq_true rfl⟩) (preS_of okT (trivial)) rfl rfl hl.1 rfl (lv_room (Nat.le_of_ble_eq_true rfl)) dX9_turn_50 ⟨Nat.le_of_ble_eq_true rfl, Nat.le_of_ble_eq_true rfl⟩) (fun r12 hr12 => ?_)
      refine pg_last hx hb hK hP hD hS 2 hm1 hFqm1_4 rfl (vp_in_nI (by omega) (by decide)) dX9_turn_53 (fun H locs F13 eF13 hP hS => ?_)
      rw [nI_clamp (by omega)] at eF13
      have hFo_13 : F13 o = .inr (8, [.int 0, .ref (qm 0), .ref (qm 1), .ref (qm 2), .ref (qm 3), .ref (qm 4), .ref (qm 5), .ref (qm 6), .ref (qm 7), .int Pp.1, .ref (qm 8), .ref (qm 9), .ref (qm 10), .ref (qm 11), .ref (qm 12), .ref (qm 13), .ref (qm 14), .int Xx.1, .ref (qm 15), .long oc]) := by rw [eF13, va_up_ne _ _ (pl_ne hFo_4 hFqm1_4 rfl)]; exact hFo_4
      have hFqm0_13 : F13 (qm 0) = cI (cy 1) 10 Mm.1 := by rw [eF13, va_up_ne _ _ (pl_ne hFqm0_4 hFqm1_4 rfl)]; exact hFqm0_4
      have hFqm1_13 : F13 (qm 1) = cJ (cy 2) 10 (vp_updL Mm.2 j_me r12) := by rw [eF13]; exact va_up_self _ _ _
      have hFqm2_13 : F13 (qm 2) = cD (cy 0) 6 Dd.1 := by rw [eF13, va_up_ne _ _ (pl_ne hFqm2_4 hFqm1_4 rfl)]; exact hFqm2_4
      have hFqm3_13 : F13 (qm 3) = cD (cy 0) 6 Dd.2.1 := by rw [eF13, va_up_ne _ _ (pl_ne hFqm3_4 hFqm1_4 rfl)]; exact hFqm3_4
      have hFqm4_13 : F13 (qm 4) = cD (cy 0) 6 Dd.2.2.1 := by rw [eF13, va_up_ne _ _ (pl_ne hFqm4_4 hFqm1_4 rfl)]; exact hFqm4_4
      have hFqm5_13 : F13 (qm 5) = cJ (cy 2) 6 Dd.2.2.2 := by rw [eF13, va_up_ne _ _ (pl_ne hFqm5_4 hFqm1_4 rfl)]; exact hFqm5_4
      have hFqm6_13 : F13 (qm 6) = cI (cy 1) 8 Sl.1 := by rw [eF13, va_up_ne _ _ (pl_ne hFqm6_4 hFqm1_4 rfl)]; exact hFqm6_4
      have hFqm7_13 : F13 (qm 7) = cJ (cy 2) 128 Sl.2 := by rw [eF13, va_up_ne _ _ (pl_ne hFqm7_4 hFqm1_4 rfl)]; exact hFqm7_4
      have hFqm8_13 : F13 (qm 8) = cI (cy 1) 30 Pp.2.1 := by rw [eF13, va_up_ne _ _ (pl_ne hFqm8_4 hFqm1_4 rfl)]; exact hFqm8_4
      have hFqm9_13 : F13 (qm 9) = cI (cy 3) 30 Pp.2.2 := by rw [eF13, va_up_ne _ _ (pl_ne hFqm9_4 hFqm1_4 rfl)]; exact hFqm9_4
      have hFqm10_13 : F13 (qm 10) = cI (cy 1) 5 Kr.1 := by rw [eF13, va_up_ne _ _ (pl_ne hFqm10_4 hFqm1_4 rfl)]; exact hFqm10_4
      have hFqm11_13 : F13 (qm 11) = cI (cy 3) 5 Kr.2.1 := by rw [eF13, va_up_ne _ _ (pl_ne hFqm11_4 hFqm1_4 rfl)]; exact hFqm11_4
      have hFqm12_13 : F13 (qm 12) = cI (cy 1) 60 Kr.2.2 := by rw [eF13, va_up_ne _ _ (pl_ne hFqm12_4 hFqm1_4 rfl)]; exact hFqm12_4
      have hFqm13_13 : F13 (qm 13) = cI (cy 1) 4 Bk.1 := by rw [eF13, va_up_ne _ _ (pl_ne hFqm13_4 hFqm1_4 rfl)]; exact hFqm13_4
      have hFqm14_13 : F13 (qm 14) = cD (cy 0) 4 Bk.2 := by rw [eF13, va_up_ne _ _ (pl_ne hFqm14_4 hFqm1_4 rfl)]; exact hFqm14_4
      have hFqm15_13 : F13 (qm 15) = cI (cy 1) 6 Xx.2 := by rw [eF13, va_up_ne _ _ (pl_ne hFqm15_4 hFqm1_4 rfl)]; exact hFqm15_4
      refine lv_aload_n hx hb dX9_turn_54 rfl (lv_at hl 0 rfl) ?_
      refine pg_get (ci := 8) (C := RX9) (T := TX9) (N := 20) hx hb hts hinX9 hown hK hP hmo hFo_13 rfl 1 (by decide) (hts (.fieldLink RX9 7 "RopeDrumsModel" "laneOf" "[I") (by decide +kernel)) (fun _ h9 => h9) rfl dX9_turn_55 ?_
      refine lv_iload_n hx hb dX9_turn_58 rfl (lv_at hl 1 rfl) ?_
      refine lv_iload_n hx hb dX9_turn_59 rfl (lv_at hl 2 rfl) ?_
      refine pg_iast hx hb hK hP hD hS 1 hm0 hFqm0_13 rfl (vp_in_nI (by omega) (by decide)) dX9_turn_60 (fun H locs F14 eF14 hP hS => ?_)
      rw [nI_clamp (by omega)] at eF14
      have hFo_14 : F14 o = .inr (8, [.int 0, .ref (qm 0), .ref (qm 1), .ref (qm 2), .ref (qm 3), .ref (qm 4), .ref (qm 5), .ref (qm 6), .ref (qm 7), .int Pp.1, .ref (qm 8), .ref (qm 9), .ref (qm 10), .ref (qm 11), .ref (qm 12), .ref (qm 13), .ref (qm 14), .int Xx.1, .ref (qm 15), .long oc]) := by rw [eF14, va_up_ne _ _ (pl_ne hFo_13 hFqm0_13 rfl)]; exact hFo_13
      have hFqm0_14 : F14 (qm 0) = cI (cy 1) 10 (upd Mm.1 j_me ln) := by rw [eF14]; exact va_up_self _ _ _
      have hFqm1_14 : F14 (qm 1) = cJ (cy 2) 10 (vp_updL Mm.2 j_me r12) := by rw [eF14, va_up_ne _ _ (pl_ne hFqm1_13 hFqm0_13 rfl)]; exact hFqm1_13
      have hFqm2_14 : F14 (qm 2) = cD (cy 0) 6 Dd.1 := by rw [eF14, va_up_ne _ _ (pl_ne hFqm2_13 hFqm0_13 rfl)]; exact hFqm2_13
      have hFqm3_14 : F14 (qm 3) = cD (cy 0) 6 Dd.2.1 := by rw [eF14, va_up_ne _ _ (pl_ne hFqm3_13 hFqm0_13 rfl)]; exact hFqm3_13
      have hFqm4_14 : F14 (qm 4) = cD (cy 0) 6 Dd.2.2.1 := by rw [eF14, va_up_ne _ _ (pl_ne hFqm4_13 hFqm0_13 rfl)]; exact hFqm4_13
      have hFqm5_14 : F14 (qm 5) = cJ (cy 2) 6 Dd.2.2.2 := by rw [eF14, va_up_ne _ _ (pl_ne hFqm5_13 hFqm0_13 rfl)]; exact hFqm5_13
      have hFqm6_14 : F14 (qm 6) = cI (cy 1) 8 Sl.1 := by rw [eF14, va_up_ne _ _ (pl_ne hFqm6_13 hFqm0_13 rfl)]; exact hFqm6_13
      have hFqm7_14 : F14 (qm 7) = cJ (cy 2) 128 Sl.2 := by rw [eF14, va_up_ne _ _ (pl_ne hFqm7_13 hFqm0_13 rfl)]; exact hFqm7_13
      have hFqm8_14 : F14 (qm 8) = cI (cy 1) 30 Pp.2.1 := by rw [eF14, va_up_ne _ _ (pl_ne hFqm8_13 hFqm0_13 rfl)]; exact hFqm8_13
      have hFqm9_14 : F14 (qm 9) = cI (cy 3) 30 Pp.2.2 := by rw [eF14, va_up_ne _ _ (pl_ne hFqm9_13 hFqm0_13 rfl)]; exact hFqm9_13
      have hFqm10_14 : F14 (qm 10) = cI (cy 1) 5 Kr.1 := by rw [eF14, va_up_ne _ _ (pl_ne hFqm10_13 hFqm0_13 rfl)]; exact hFqm10_13
      have hFqm11_14 : F14 (qm 11) = cI (cy 3) 5 Kr.2.1 := by rw [eF14, va_up_ne _ _ (pl_ne hFqm11_13 hFqm0_13 rfl)]; exact hFqm11_13
      have hFqm12_14 : F14 (qm 12) = cI (cy 1) 60 Kr.2.2 := by rw [eF14, va_up_ne _ _ (pl_ne hFqm12_13 hFqm0_13 rfl)]; exact hFqm12_13
      have hFqm13_14 : F14 (qm 13) = cI (cy 1) 4 Bk.1 := by rw [eF14, va_up_ne _ _ (pl_ne hFqm13_13 hFqm0_13 rfl)]; exact hFqm13_13
      have hFqm14_14 : F14 (qm 14) = cD (cy 0) 4 Bk.2 := by rw [eF14, va_up_ne _ _ (pl_ne hFqm14_13 hFqm0_13 rfl)]; exact hFqm14_13
      have hFqm15_14 : F14 (qm 15) = cI (cy 1) 6 Xx.2 := by rw [eF14, va_up_ne _ _ (pl_ne hFqm15_13 hFqm0_13 rfl)]; exact hFqm15_13
      refine lv_iconst (v := 1) hx hb dX9_turn_61 (by decide) ?_
      exact W.iret (v := 1) hx hb hr (fun t ht hW => ⟨⟨1, F14, rfl, (by subst hr12 ev11 ev10 ev7; have hsp : sp_turn Mm (nI j_me) ln = (1, setM Mm j_me ln (tn (Mm.1 j_me) (Mm.2 j_me) ln)) := (by unfold sp_turn; rw [hi_me]; exact if_pos hln); rw [hsp]; exact ⟨rfl, (by exact ⟨⟨_, _, hmo, hFo_14⟩, ⟨hm0, hFqm0_14⟩, ⟨hm1, hFqm1_14⟩, ⟨hm2, hFqm2_14⟩, ⟨hm3, hFqm3_14⟩, ⟨hm4, hFqm4_14⟩, ⟨hm5, hFqm5_14⟩, ⟨hm6, hFqm6_14⟩, ⟨hm7, hFqm7_14⟩, ⟨hm8, hFqm8_14⟩, ⟨hm9, hFqm9_14⟩, ⟨hm10, hFqm10_14⟩, ⟨hm11, hFqm11_14⟩, ⟨hm12, hFqm12_14⟩, ⟨hm13, hFqm13_14⟩, ⟨hm14, hFqm14_14⟩, ⟨hm15, hFqm15_14⟩, hne⟩)⟩), (by show va_P _ _ _ t.heap; rw [ht]; exact hP)⟩, hS.F ht⟩) hS.2.2 dX9_turn_62
    · refine lv_aload_n hx hb dX9_turn_0 rfl (lv_at hl 0 rfl) ?_
      refine lv_iconst (v := 0) hx hb dX9_turn_1 (by decide) ?_
      refine pg_put (ci := 8) (v := .int 0) (ty := .int) (C := RX9) (T := TX9) (N := 20) hx hb hts hinX9 tyX9 tyX9_ok nmX9 hown hK hP hD hS hmo hFo rfl 0 (by decide) (hts (.fieldLink RX9 61 "RopeDrumsModel" "thrown" "I") (by decide +kernel)) (fun _ h9 => h9) rfl (by decide +kernel) (rfl) (rfl) (Nat.le_of_ble_eq_true rfl) dX9_turn_2 (fun H locs F15 eF15 hP hS => ?_)
      have eF15 : F15 = va_up F o (.inr (8, [.int 0, .ref (qm 0), .ref (qm 1), .ref (qm 2), .ref (qm 3), .ref (qm 4), .ref (qm 5), .ref (qm 6), .ref (qm 7), .int Pp.1, .ref (qm 8), .ref (qm 9), .ref (qm 10), .ref (qm 11), .ref (qm 12), .ref (qm 13), .ref (qm 14), .int Xx.1, .ref (qm 15), .long oc])) := eF15
      have hFo_15 : F15 o = .inr (8, [.int 0, .ref (qm 0), .ref (qm 1), .ref (qm 2), .ref (qm 3), .ref (qm 4), .ref (qm 5), .ref (qm 6), .ref (qm 7), .int Pp.1, .ref (qm 8), .ref (qm 9), .ref (qm 10), .ref (qm 11), .ref (qm 12), .ref (qm 13), .ref (qm 14), .int Xx.1, .ref (qm 15), .long oc]) := by rw [eF15]; exact va_up_self _ _ _
      have hFqm0_15 : F15 (qm 0) = cI (cy 1) 10 Mm.1 := by rw [eF15, va_up_ne _ _ (pl_ne hF0 hFo rfl)]; exact hF0
      have hFqm1_15 : F15 (qm 1) = cJ (cy 2) 10 Mm.2 := by rw [eF15, va_up_ne _ _ (pl_ne hF1 hFo rfl)]; exact hF1
      have hFqm2_15 : F15 (qm 2) = cD (cy 0) 6 Dd.1 := by rw [eF15, va_up_ne _ _ (pl_ne hF2 hFo rfl)]; exact hF2
      have hFqm3_15 : F15 (qm 3) = cD (cy 0) 6 Dd.2.1 := by rw [eF15, va_up_ne _ _ (pl_ne hF3 hFo rfl)]; exact hF3
      have hFqm4_15 : F15 (qm 4) = cD (cy 0) 6 Dd.2.2.1 := by rw [eF15, va_up_ne _ _ (pl_ne hF4 hFo rfl)]; exact hF4
      have hFqm5_15 : F15 (qm 5) = cJ (cy 2) 6 Dd.2.2.2 := by rw [eF15, va_up_ne _ _ (pl_ne hF5 hFo rfl)]; exact hF5
      have hFqm6_15 : F15 (qm 6) = cI (cy 1) 8 Sl.1 := by rw [eF15, va_up_ne _ _ (pl_ne hF6 hFo rfl)]; exact hF6
      have hFqm7_15 : F15 (qm 7) = cJ (cy 2) 128 Sl.2 := by rw [eF15, va_up_ne _ _ (pl_ne hF7 hFo rfl)]; exact hF7
      have hFqm8_15 : F15 (qm 8) = cI (cy 1) 30 Pp.2.1 := by rw [eF15, va_up_ne _ _ (pl_ne hF8 hFo rfl)]; exact hF8
      have hFqm9_15 : F15 (qm 9) = cI (cy 3) 30 Pp.2.2 := by rw [eF15, va_up_ne _ _ (pl_ne hF9 hFo rfl)]; exact hF9
      have hFqm10_15 : F15 (qm 10) = cI (cy 1) 5 Kr.1 := by rw [eF15, va_up_ne _ _ (pl_ne hF10 hFo rfl)]; exact hF10
      have hFqm11_15 : F15 (qm 11) = cI (cy 3) 5 Kr.2.1 := by rw [eF15, va_up_ne _ _ (pl_ne hF11 hFo rfl)]; exact hF11
      have hFqm12_15 : F15 (qm 12) = cI (cy 1) 60 Kr.2.2 := by rw [eF15, va_up_ne _ _ (pl_ne hF12 hFo rfl)]; exact hF12
      have hFqm13_15 : F15 (qm 13) = cI (cy 1) 4 Bk.1 := by rw [eF15, va_up_ne _ _ (pl_ne hF13 hFo rfl)]; exact hF13
      have hFqm14_15 : F15 (qm 14) = cD (cy 0) 4 Bk.2 := by rw [eF15, va_up_ne _ _ (pl_ne hF14 hFo rfl)]; exact hF14
      have hFqm15_15 : F15 (qm 15) = cI (cy 1) 6 Xx.2 := by rw [eF15, va_up_ne _ _ (pl_ne hF15 hFo rfl)]; exact hF15
      refine lv_iload_n hx hb dX9_turn_5 rfl (lv_at hl 1 rfl) ?_
      refine vp_callSi (W.runS (As := [.int (nI j_me)]) (rest := []) ⟨hx, hb, hml, hown, hts⟩ (c9_isMeter l (nI j_me)) (va_cwS 1 hts gX9_turn_X9_isMeter rfl rfl rfl (by decide +kernel) ⟨Nat.le_of_ble_eq_true rfl, Nat.le_of_ble_eq_true rfl⟩) (preS_of okT (trivial)) rfl rfl hl.1 rfl (lv_room (Nat.le_of_ble_eq_true rfl)) dX9_turn_6 ⟨Nat.le_of_ble_eq_true rfl, Nat.le_of_ble_eq_true rfl⟩) (fun r16 hr16 => ?_)
      rw [isx1 hi_me] at hr16
      subst hr16
      refine lv_if_ne (tgt := 16) hx hb dX9_turn_9 (by decide) (fun c17 => ?_) (fun c17 => absurd c17 (by decide))
      refine lv_iload_n hx hb dX9_turn_16 rfl (lv_at hl 2 rfl) ?_
      refine lv_i2l hx hb dX9_turn_17 rfl ?_
      refine lv_topl (fun v18 ev18 => ?_)
      refine lv_lconst (v := 0) hx hb dX9_turn_18 (by decide) ?_
      refine lv_ldc2 hx hb hown (hts (.constantLong RX9 123 (3)) (by decide +kernel)) dX9_turn_19 ?_
      refine vp_callSi (W.runS (As := [.long v18, .long 0, .long 3]) (rest := []) ⟨hx, hb, hml, hown, hts⟩ (c9_in l v18 0 3) (va_cwS 3 hts gX9_turn_X9_in rfl rfl rfl (by decide +kernel) ⟨Nat.le_of_ble_eq_true rfl, Nat.le_of_ble_eq_true rfl⟩) (preS_of okT (trivial)) rfl rfl hl.1 rfl (lv_room (Nat.le_of_ble_eq_true rfl)) dX9_turn_22 ⟨Nat.le_of_ble_eq_true rfl, Nat.le_of_ble_eq_true rfl⟩) (fun r19 hr19 => ?_)
      have hzr19 : r19 = 0 := by rw [hr19, ev18, inq_i (y := 0) (z := 3) (by decide) (by decide)]; exact if_neg (laneN hln)
      subst hzr19
      refine lv_if_ne (tgt := 32) hx hb dX9_turn_25 (by decide) (fun c20 => absurd (by decide) c20) (fun c20 => ?_)
      refine lv_sipush (v := -1002) hx hb dX9_turn_28 (by decide) ?_
      exact W.iret (v := -1002) hx hb hr (fun t ht hW => ⟨⟨-1002, F15, rfl, (by subst ev18; have hsp : sp_turn Mm (nI j_me) ln = (-1002, Mm) := (by unfold sp_turn; rw [hi_me]; exact if_neg hln); rw [hsp]; exact ⟨rfl, (by exact ⟨⟨_, _, hmo, hFo_15⟩, ⟨hm0, hFqm0_15⟩, ⟨hm1, hFqm1_15⟩, ⟨hm2, hFqm2_15⟩, ⟨hm3, hFqm3_15⟩, ⟨hm4, hFqm4_15⟩, ⟨hm5, hFqm5_15⟩, ⟨hm6, hFqm6_15⟩, ⟨hm7, hFqm7_15⟩, ⟨hm8, hFqm8_15⟩, ⟨hm9, hFqm9_15⟩, ⟨hm10, hFqm10_15⟩, ⟨hm11, hFqm11_15⟩, ⟨hm12, hFqm12_15⟩, ⟨hm13, hFqm13_15⟩, ⟨hm14, hFqm14_15⟩, ⟨hm15, hFqm15_15⟩, hne⟩)⟩), (by show va_P _ _ _ t.heap; rw [ht]; exact hP)⟩, hS.F ht⟩) hS.2.2 dX9_turn_31
